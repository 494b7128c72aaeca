-- ===== PART A: goes FIRST, ahead of the names: the tables' words, and 'selects' of the private methods out of them =====
/-- a private method of a class that the tables say can be made, by its rows of tables_1 -/
def lw_okq (q : MethodName × Nat) : Prop := (q.1.cls ≠ "java/lang/invoke/MethodHandle" ∧ q.1.cls ≠ "java/lang/invoke/VarHandle") ∧ Cond.instantiable q.1.cls q.2 ∈ tables_1 ∧ Cond.privateMethod q.1 ∈ tables_1 ∧ Cond.instanceMethod q.1 ∈ tables_1
theorem lw_p0 : lw_okq (⟨"java/lang/Throwable", "fillInStackTrace", "(I)Ljava/lang/Throwable;"⟩, 6) := ⟨⟨by decide +kernel, by decide +kernel⟩, List.mem_of_getElem? (i := 442) (by decide +kernel), List.mem_of_getElem? (i := 440) (by decide +kernel), List.mem_of_getElem? (i := 441) (by decide +kernel)⟩
theorem lw_p1 : lw_okq (⟨"ManorLoops", "foldRooms", "(J)J"⟩, 4) := ⟨⟨by decide +kernel, by decide +kernel⟩, List.mem_of_getElem? (i := 24) (by decide +kernel), List.mem_of_getElem? (i := 490) (by decide +kernel), List.mem_of_getElem? (i := 491) (by decide +kernel)⟩
theorem lw_p2 : lw_okq (⟨"ManorLoops", "checkRoom", "(I)V"⟩, 4) := ⟨⟨by decide +kernel, by decide +kernel⟩, List.mem_of_getElem? (i := 24) (by decide +kernel), List.mem_of_getElem? (i := 498) (by decide +kernel), List.mem_of_getElem? (i := 499) (by decide +kernel)⟩
theorem lw_p3 : lw_okq (⟨"ManorLoops", "foldTracks", "(J)J"⟩, 4) := ⟨⟨by decide +kernel, by decide +kernel⟩, List.mem_of_getElem? (i := 24) (by decide +kernel), List.mem_of_getElem? (i := 542) (by decide +kernel), List.mem_of_getElem? (i := 543) (by decide +kernel)⟩
theorem lw_p4 : lw_okq (⟨"ManorLoops", "checkTrack", "(I)V"⟩, 4) := ⟨⟨by decide +kernel, by decide +kernel⟩, List.mem_of_getElem? (i := 24) (by decide +kernel), List.mem_of_getElem? (i := 550) (by decide +kernel), List.mem_of_getElem? (i := 551) (by decide +kernel)⟩
theorem lw_p5 : lw_okq (⟨"ManorLoops", "foldScenes", "(J)J"⟩, 4) := ⟨⟨by decide +kernel, by decide +kernel⟩, List.mem_of_getElem? (i := 24) (by decide +kernel), List.mem_of_getElem? (i := 598) (by decide +kernel), List.mem_of_getElem? (i := 599) (by decide +kernel)⟩
theorem lw_p6 : lw_okq (⟨"ManorLoops", "checkScene", "(I)V"⟩, 4) := ⟨⟨by decide +kernel, by decide +kernel⟩, List.mem_of_getElem? (i := 24) (by decide +kernel), List.mem_of_getElem? (i := 606) (by decide +kernel), List.mem_of_getElem? (i := 607) (by decide +kernel)⟩
theorem lw_p7 : lw_okq (⟨"ManorLoops", "foldProps", "(J)J"⟩, 4) := ⟨⟨by decide +kernel, by decide +kernel⟩, List.mem_of_getElem? (i := 24) (by decide +kernel), List.mem_of_getElem? (i := 619) (by decide +kernel), List.mem_of_getElem? (i := 620) (by decide +kernel)⟩
theorem lw_p8 : lw_okq (⟨"ManorLoops", "checkProp", "(I)V"⟩, 4) := ⟨⟨by decide +kernel, by decide +kernel⟩, List.mem_of_getElem? (i := 24) (by decide +kernel), List.mem_of_getElem? (i := 627) (by decide +kernel), List.mem_of_getElem? (i := 628) (by decide +kernel)⟩
theorem lw_p9 : lw_okq (⟨"ManorLoops$Evening", "beginLoop", "()V"⟩, 8) := ⟨⟨by decide +kernel, by decide +kernel⟩, List.mem_of_getElem? (i := 173) (by decide +kernel), List.mem_of_getElem? (i := 679) (by decide +kernel), List.mem_of_getElem? (i := 680) (by decide +kernel)⟩
theorem lw_p10 : lw_okq (⟨"ManorLoops$Stage", "cut", "(I)V"⟩, 7) := ⟨⟨by decide +kernel, by decide +kernel⟩, List.mem_of_getElem? (i := 207) (by decide +kernel), List.mem_of_getElem? (i := 695) (by decide +kernel), List.mem_of_getElem? (i := 696) (by decide +kernel)⟩
theorem lw_p11 : lw_okq (⟨"ManorLoops$Evening", "moveTracks", "()V"⟩, 8) := ⟨⟨by decide +kernel, by decide +kernel⟩, List.mem_of_getElem? (i := 173) (by decide +kernel), List.mem_of_getElem? (i := 717) (by decide +kernel), List.mem_of_getElem? (i := 718) (by decide +kernel)⟩
theorem lw_p12 : lw_okq (⟨"ManorLoops$Evening", "moveTrack", "(II)V"⟩, 8) := ⟨⟨by decide +kernel, by decide +kernel⟩, List.mem_of_getElem? (i := 173) (by decide +kernel), List.mem_of_getElem? (i := 723) (by decide +kernel), List.mem_of_getElem? (i := 724) (by decide +kernel)⟩
theorem lw_p13 : lw_okq (⟨"ManorLoops$Evening", "performScenes", "()V"⟩, 8) := ⟨⟨by decide +kernel, by decide +kernel⟩, List.mem_of_getElem? (i := 173) (by decide +kernel), List.mem_of_getElem? (i := 734) (by decide +kernel), List.mem_of_getElem? (i := 735) (by decide +kernel)⟩
theorem lw_p14 : lw_okq (⟨"ManorLoops$Evening", "continueScene", "(I)V"⟩, 8) := ⟨⟨by decide +kernel, by decide +kernel⟩, List.mem_of_getElem? (i := 173) (by decide +kernel), List.mem_of_getElem? (i := 739) (by decide +kernel), List.mem_of_getElem? (i := 740) (by decide +kernel)⟩
theorem lw_p15 : lw_okq (⟨"ManorLoops$Evening", "greatestTrack", "(I)I"⟩, 8) := ⟨⟨by decide +kernel, by decide +kernel⟩, List.mem_of_getElem? (i := 173) (by decide +kernel), List.mem_of_getElem? (i := 747) (by decide +kernel), List.mem_of_getElem? (i := 748) (by decide +kernel)⟩
def lw_privs_1 : List (MethodName × Nat) := [(⟨"java/lang/Throwable", "fillInStackTrace", "(I)Ljava/lang/Throwable;"⟩, 6), (⟨"ManorLoops", "foldRooms", "(J)J"⟩, 4), (⟨"ManorLoops", "checkRoom", "(I)V"⟩, 4), (⟨"ManorLoops", "foldTracks", "(J)J"⟩, 4), (⟨"ManorLoops", "checkTrack", "(I)V"⟩, 4), (⟨"ManorLoops", "foldScenes", "(J)J"⟩, 4), (⟨"ManorLoops", "checkScene", "(I)V"⟩, 4), (⟨"ManorLoops", "foldProps", "(J)J"⟩, 4), (⟨"ManorLoops", "checkProp", "(I)V"⟩, 4), (⟨"ManorLoops$Evening", "beginLoop", "()V"⟩, 8), (⟨"ManorLoops$Stage", "cut", "(I)V"⟩, 7), (⟨"ManorLoops$Evening", "moveTracks", "()V"⟩, 8), (⟨"ManorLoops$Evening", "moveTrack", "(II)V"⟩, 8), (⟨"ManorLoops$Evening", "performScenes", "()V"⟩, 8), (⟨"ManorLoops$Evening", "continueScene", "(I)V"⟩, 8), (⟨"ManorLoops$Evening", "greatestTrack", "(I)I"⟩, 8)]
theorem lw_r1 : ∀ q ∈ lw_privs_1, lw_okq q := List.forall_mem_cons.mpr ⟨lw_p0, List.forall_mem_cons.mpr ⟨lw_p1, List.forall_mem_cons.mpr ⟨lw_p2, List.forall_mem_cons.mpr ⟨lw_p3, List.forall_mem_cons.mpr ⟨lw_p4, List.forall_mem_cons.mpr ⟨lw_p5, List.forall_mem_cons.mpr ⟨lw_p6, List.forall_mem_cons.mpr ⟨lw_p7, List.forall_mem_cons.mpr ⟨lw_p8, List.forall_mem_cons.mpr ⟨lw_p9, List.forall_mem_cons.mpr ⟨lw_p10, List.forall_mem_cons.mpr ⟨lw_p11, List.forall_mem_cons.mpr ⟨lw_p12, List.forall_mem_cons.mpr ⟨lw_p13, List.forall_mem_cons.mpr ⟨lw_p14, List.forall_mem_cons.mpr ⟨lw_p15, fun _ h => absurd h List.not_mem_nil⟩⟩⟩⟩⟩⟩⟩⟩⟩⟩⟩⟩⟩⟩⟩⟩
theorem lw_p16 : lw_okq (⟨"ManorLoops$Evening", "canBegin", "(I)Z"⟩, 8) := ⟨⟨by decide +kernel, by decide +kernel⟩, List.mem_of_getElem? (i := 173) (by decide +kernel), List.mem_of_getElem? (i := 756) (by decide +kernel), List.mem_of_getElem? (i := 757) (by decide +kernel)⟩
theorem lw_p17 : lw_okq (⟨"ManorLoops$Evening", "hasProp", "(I)Z"⟩, 8) := ⟨⟨by decide +kernel, by decide +kernel⟩, List.mem_of_getElem? (i := 173) (by decide +kernel), List.mem_of_getElem? (i := 765) (by decide +kernel), List.mem_of_getElem? (i := 766) (by decide +kernel)⟩
theorem lw_p18 : lw_okq (⟨"ManorLoops$Evening", "moveGuests", "()V"⟩, 8) := ⟨⟨by decide +kernel, by decide +kernel⟩, List.mem_of_getElem? (i := 173) (by decide +kernel), List.mem_of_getElem? (i := 778) (by decide +kernel), List.mem_of_getElem? (i := 779) (by decide +kernel)⟩
theorem lw_p19 : lw_okq (⟨"ManorLoops$Evening", "nextRoomOf", "(II)I"⟩, 8) := ⟨⟨by decide +kernel, by decide +kernel⟩, List.mem_of_getElem? (i := 173) (by decide +kernel), List.mem_of_getElem? (i := 783) (by decide +kernel), List.mem_of_getElem? (i := 784) (by decide +kernel)⟩
theorem lw_p20 : lw_okq (⟨"ManorLoops$Evening", "emptierRoom", "(I)I"⟩, 8) := ⟨⟨by decide +kernel, by decide +kernel⟩, List.mem_of_getElem? (i := 173) (by decide +kernel), List.mem_of_getElem? (i := 787) (by decide +kernel), List.mem_of_getElem? (i := 788) (by decide +kernel)⟩
theorem lw_p21 : lw_okq (⟨"ManorLoops$Evening", "nextRoomToScene", "(II)I"⟩, 8) := ⟨⟨by decide +kernel, by decide +kernel⟩, List.mem_of_getElem? (i := 173) (by decide +kernel), List.mem_of_getElem? (i := 792) (by decide +kernel), List.mem_of_getElem? (i := 793) (by decide +kernel)⟩
theorem lw_p22 : lw_okq (⟨"ManorLoops$Evening", "moveGuest", "(III)V"⟩, 8) := ⟨⟨by decide +kernel, by decide +kernel⟩, List.mem_of_getElem? (i := 173) (by decide +kernel), List.mem_of_getElem? (i := 797) (by decide +kernel), List.mem_of_getElem? (i := 798) (by decide +kernel)⟩
theorem lw_p23 : lw_okq (⟨"ManorLoops$Evening", "showScenes", "()V"⟩, 8) := ⟨⟨by decide +kernel, by decide +kernel⟩, List.mem_of_getElem? (i := 173) (by decide +kernel), List.mem_of_getElem? (i := 812) (by decide +kernel), List.mem_of_getElem? (i := 813) (by decide +kernel)⟩
theorem lw_p24 : lw_okq (⟨"ManorLoops$Evening", "showScene", "(I)V"⟩, 8) := ⟨⟨by decide +kernel, by decide +kernel⟩, List.mem_of_getElem? (i := 173) (by decide +kernel), List.mem_of_getElem? (i := 816) (by decide +kernel), List.mem_of_getElem? (i := 817) (by decide +kernel)⟩
theorem lw_p25 : lw_okq (⟨"ManorLoops", "foldGuests", "(J)J"⟩, 4) := ⟨⟨by decide +kernel, by decide +kernel⟩, List.mem_of_getElem? (i := 24) (by decide +kernel), List.mem_of_getElem? (i := 830) (by decide +kernel), List.mem_of_getElem? (i := 831) (by decide +kernel)⟩
theorem lw_p26 : lw_okq (⟨"ManorLoops", "checkGuest", "(I)V"⟩, 4) := ⟨⟨by decide +kernel, by decide +kernel⟩, List.mem_of_getElem? (i := 24) (by decide +kernel), List.mem_of_getElem? (i := 838) (by decide +kernel), List.mem_of_getElem? (i := 839) (by decide +kernel)⟩
theorem lw_p27 : lw_okq (⟨"ManorLoops", "countCutsOfTrial", "()I"⟩, 4) := ⟨⟨by decide +kernel, by decide +kernel⟩, List.mem_of_getElem? (i := 24) (by decide +kernel), List.mem_of_getElem? (i := 852) (by decide +kernel), List.mem_of_getElem? (i := 853) (by decide +kernel)⟩
theorem lw_p28 : lw_okq (⟨"ManorLoops$House", "shortenWays", "(II)V"⟩, 7) := ⟨⟨by decide +kernel, by decide +kernel⟩, List.mem_of_getElem? (i := 32) (by decide +kernel), List.mem_of_getElem? (i := 902) (by decide +kernel), List.mem_of_getElem? (i := 903) (by decide +kernel)⟩
theorem lw_p29 : lw_okq (⟨"ManorLoops$House", "shortenWay", "(IIII)V"⟩, 7) := ⟨⟨by decide +kernel, by decide +kernel⟩, List.mem_of_getElem? (i := 32) (by decide +kernel), List.mem_of_getElem? (i := 907) (by decide +kernel), List.mem_of_getElem? (i := 908) (by decide +kernel)⟩
theorem lw_p30 : lw_okq (⟨"ManorLoops$House", "findNext", "(II)I"⟩, 7) := ⟨⟨by decide +kernel, by decide +kernel⟩, List.mem_of_getElem? (i := 32) (by decide +kernel), List.mem_of_getElem? (i := 911) (by decide +kernel), List.mem_of_getElem? (i := 912) (by decide +kernel)⟩
theorem lw_p31 : lw_okq (⟨"ManorLoops$Evening", "isInUse", "(II)Z"⟩, 8) := ⟨⟨by decide +kernel, by decide +kernel⟩, List.mem_of_getElem? (i := 173) (by decide +kernel), List.mem_of_getElem? (i := 1021) (by decide +kernel), List.mem_of_getElem? (i := 1022) (by decide +kernel)⟩
def lw_privs_2 : List (MethodName × Nat) := [(⟨"ManorLoops$Evening", "canBegin", "(I)Z"⟩, 8), (⟨"ManorLoops$Evening", "hasProp", "(I)Z"⟩, 8), (⟨"ManorLoops$Evening", "moveGuests", "()V"⟩, 8), (⟨"ManorLoops$Evening", "nextRoomOf", "(II)I"⟩, 8), (⟨"ManorLoops$Evening", "emptierRoom", "(I)I"⟩, 8), (⟨"ManorLoops$Evening", "nextRoomToScene", "(II)I"⟩, 8), (⟨"ManorLoops$Evening", "moveGuest", "(III)V"⟩, 8), (⟨"ManorLoops$Evening", "showScenes", "()V"⟩, 8), (⟨"ManorLoops$Evening", "showScene", "(I)V"⟩, 8), (⟨"ManorLoops", "foldGuests", "(J)J"⟩, 4), (⟨"ManorLoops", "checkGuest", "(I)V"⟩, 4), (⟨"ManorLoops", "countCutsOfTrial", "()I"⟩, 4), (⟨"ManorLoops$House", "shortenWays", "(II)V"⟩, 7), (⟨"ManorLoops$House", "shortenWay", "(IIII)V"⟩, 7), (⟨"ManorLoops$House", "findNext", "(II)I"⟩, 7), (⟨"ManorLoops$Evening", "isInUse", "(II)Z"⟩, 8)]
theorem lw_r2 : ∀ q ∈ lw_privs_2, lw_okq q := List.forall_mem_cons.mpr ⟨lw_p16, List.forall_mem_cons.mpr ⟨lw_p17, List.forall_mem_cons.mpr ⟨lw_p18, List.forall_mem_cons.mpr ⟨lw_p19, List.forall_mem_cons.mpr ⟨lw_p20, List.forall_mem_cons.mpr ⟨lw_p21, List.forall_mem_cons.mpr ⟨lw_p22, List.forall_mem_cons.mpr ⟨lw_p23, List.forall_mem_cons.mpr ⟨lw_p24, List.forall_mem_cons.mpr ⟨lw_p25, List.forall_mem_cons.mpr ⟨lw_p26, List.forall_mem_cons.mpr ⟨lw_p27, List.forall_mem_cons.mpr ⟨lw_p28, List.forall_mem_cons.mpr ⟨lw_p29, List.forall_mem_cons.mpr ⟨lw_p30, List.forall_mem_cons.mpr ⟨lw_p31, fun _ h => absurd h List.not_mem_nil⟩⟩⟩⟩⟩⟩⟩⟩⟩⟩⟩⟩⟩⟩⟩⟩
theorem lw_p32 : lw_okq (⟨"ManorLoopsModel", "no", "(I)I"⟩, 2) := ⟨⟨by decide +kernel, by decide +kernel⟩, List.mem_of_getElem? (i := 1131) (by decide +kernel), List.mem_of_getElem? (i := 1228) (by decide +kernel), List.mem_of_getElem? (i := 1229) (by decide +kernel)⟩
theorem lw_p33 : lw_okq (⟨"ManorLoopsModel", "isRoom", "(I)Z"⟩, 2) := ⟨⟨by decide +kernel, by decide +kernel⟩, List.mem_of_getElem? (i := 1131) (by decide +kernel), List.mem_of_getElem? (i := 1241) (by decide +kernel), List.mem_of_getElem? (i := 1242) (by decide +kernel)⟩
theorem lw_p34 : lw_okq (⟨"ManorLoopsModel", "isProp", "(I)Z"⟩, 2) := ⟨⟨by decide +kernel, by decide +kernel⟩, List.mem_of_getElem? (i := 1131) (by decide +kernel), List.mem_of_getElem? (i := 1258) (by decide +kernel), List.mem_of_getElem? (i := 1259) (by decide +kernel)⟩
theorem lw_p35 : lw_okq (⟨"ManorLoopsModel$House", "overlap", "(II)Z"⟩, 16) := ⟨⟨by decide +kernel, by decide +kernel⟩, List.mem_of_getElem? (i := 1137) (by decide +kernel), List.mem_of_getElem? (i := 1266) (by decide +kernel), List.mem_of_getElem? (i := 1267) (by decide +kernel)⟩
theorem lw_p36 : lw_okq (⟨"ManorLoopsModel", "isGuest", "(I)Z"⟩, 2) := ⟨⟨by decide +kernel, by decide +kernel⟩, List.mem_of_getElem? (i := 1131) (by decide +kernel), List.mem_of_getElem? (i := 1282) (by decide +kernel), List.mem_of_getElem? (i := 1283) (by decide +kernel)⟩
theorem lw_p37 : lw_okq (⟨"ManorLoopsModel", "isTrack", "(I)Z"⟩, 2) := ⟨⟨by decide +kernel, by decide +kernel⟩, List.mem_of_getElem? (i := 1131) (by decide +kernel), List.mem_of_getElem? (i := 1286) (by decide +kernel), List.mem_of_getElem? (i := 1287) (by decide +kernel)⟩
theorem lw_p38 : lw_okq (⟨"ManorLoopsModel$House", "loop", "()V"⟩, 16) := ⟨⟨by decide +kernel, by decide +kernel⟩, List.mem_of_getElem? (i := 1137) (by decide +kernel), List.mem_of_getElem? (i := 1302) (by decide +kernel), List.mem_of_getElem? (i := 1303) (by decide +kernel)⟩
theorem lw_p39 : lw_okq (⟨"ManorLoopsModel$House", "isBusy", "(I)Z"⟩, 16) := ⟨⟨by decide +kernel, by decide +kernel⟩, List.mem_of_getElem? (i := 1137) (by decide +kernel), List.mem_of_getElem? (i := 1306) (by decide +kernel), List.mem_of_getElem? (i := 1307) (by decide +kernel)⟩
theorem lw_p40 : lw_okq (⟨"ManorLoopsModel$House", "walk", "([II)V"⟩, 16) := ⟨⟨by decide +kernel, by decide +kernel⟩, List.mem_of_getElem? (i := 1137) (by decide +kernel), List.mem_of_getElem? (i := 1321) (by decide +kernel), List.mem_of_getElem? (i := 1322) (by decide +kernel)⟩
theorem lw_p41 : lw_okq (⟨"ManorLoopsModel$House", "run", "([I)I"⟩, 16) := ⟨⟨by decide +kernel, by decide +kernel⟩, List.mem_of_getElem? (i := 1137) (by decide +kernel), List.mem_of_getElem? (i := 1333) (by decide +kernel), List.mem_of_getElem? (i := 1334) (by decide +kernel)⟩
theorem lw_p42 : lw_okq (⟨"ManorLoopsModel$House", "attend", "([I)V"⟩, 16) := ⟨⟨by decide +kernel, by decide +kernel⟩, List.mem_of_getElem? (i := 1137) (by decide +kernel), List.mem_of_getElem? (i := 1337) (by decide +kernel), List.mem_of_getElem? (i := 1338) (by decide +kernel)⟩
theorem lw_p43 : lw_okq (⟨"ManorLoopsModel$House", "wish", "([I)I"⟩, 16) := ⟨⟨by decide +kernel, by decide +kernel⟩, List.mem_of_getElem? (i := 1137) (by decide +kernel), List.mem_of_getElem? (i := 1349) (by decide +kernel), List.mem_of_getElem? (i := 1350) (by decide +kernel)⟩
theorem lw_p44 : lw_okq (⟨"ManorLoopsModel$House", "wander", "(I)I"⟩, 16) := ⟨⟨by decide +kernel, by decide +kernel⟩, List.mem_of_getElem? (i := 1137) (by decide +kernel), List.mem_of_getElem? (i := 1353) (by decide +kernel), List.mem_of_getElem? (i := 1354) (by decide +kernel)⟩
theorem lw_p45 : lw_okq (⟨"ManorLoopsModel$House", "move", "([II[[I)V"⟩, 16) := ⟨⟨by decide +kernel, by decide +kernel⟩, List.mem_of_getElem? (i := 1137) (by decide +kernel), List.mem_of_getElem? (i := 1362) (by decide +kernel), List.mem_of_getElem? (i := 1363) (by decide +kernel)⟩
theorem lw_p46 : lw_okq (⟨"ManorLoopsModel$House", "show", "(I)V"⟩, 16) := ⟨⟨by decide +kernel, by decide +kernel⟩, List.mem_of_getElem? (i := 1137) (by decide +kernel), List.mem_of_getElem? (i := 1366) (by decide +kernel), List.mem_of_getElem? (i := 1367) (by decide +kernel)⟩
theorem lw_p47 : lw_okq (⟨"ManorLoopsModel", "roomNow", "(II)I"⟩, 2) := ⟨⟨by decide +kernel, by decide +kernel⟩, List.mem_of_getElem? (i := 1131) (by decide +kernel), List.mem_of_getElem? (i := 1406) (by decide +kernel), List.mem_of_getElem? (i := 1407) (by decide +kernel)⟩
def lw_privs_3 : List (MethodName × Nat) := [(⟨"ManorLoopsModel", "no", "(I)I"⟩, 2), (⟨"ManorLoopsModel", "isRoom", "(I)Z"⟩, 2), (⟨"ManorLoopsModel", "isProp", "(I)Z"⟩, 2), (⟨"ManorLoopsModel$House", "overlap", "(II)Z"⟩, 16), (⟨"ManorLoopsModel", "isGuest", "(I)Z"⟩, 2), (⟨"ManorLoopsModel", "isTrack", "(I)Z"⟩, 2), (⟨"ManorLoopsModel$House", "loop", "()V"⟩, 16), (⟨"ManorLoopsModel$House", "isBusy", "(I)Z"⟩, 16), (⟨"ManorLoopsModel$House", "walk", "([II)V"⟩, 16), (⟨"ManorLoopsModel$House", "run", "([I)I"⟩, 16), (⟨"ManorLoopsModel$House", "attend", "([I)V"⟩, 16), (⟨"ManorLoopsModel$House", "wish", "([I)I"⟩, 16), (⟨"ManorLoopsModel$House", "wander", "(I)I"⟩, 16), (⟨"ManorLoopsModel$House", "move", "([II[[I)V"⟩, 16), (⟨"ManorLoopsModel$House", "show", "(I)V"⟩, 16), (⟨"ManorLoopsModel", "roomNow", "(II)I"⟩, 2)]
theorem lw_r3 : ∀ q ∈ lw_privs_3, lw_okq q := List.forall_mem_cons.mpr ⟨lw_p32, List.forall_mem_cons.mpr ⟨lw_p33, List.forall_mem_cons.mpr ⟨lw_p34, List.forall_mem_cons.mpr ⟨lw_p35, List.forall_mem_cons.mpr ⟨lw_p36, List.forall_mem_cons.mpr ⟨lw_p37, List.forall_mem_cons.mpr ⟨lw_p38, List.forall_mem_cons.mpr ⟨lw_p39, List.forall_mem_cons.mpr ⟨lw_p40, List.forall_mem_cons.mpr ⟨lw_p41, List.forall_mem_cons.mpr ⟨lw_p42, List.forall_mem_cons.mpr ⟨lw_p43, List.forall_mem_cons.mpr ⟨lw_p44, List.forall_mem_cons.mpr ⟨lw_p45, List.forall_mem_cons.mpr ⟨lw_p46, List.forall_mem_cons.mpr ⟨lw_p47, fun _ h => absurd h List.not_mem_nil⟩⟩⟩⟩⟩⟩⟩⟩⟩⟩⟩⟩⟩⟩⟩⟩
theorem lw_p48 : lw_okq (⟨"ManorLoopsModel", "wayNow", "(III)I"⟩, 2) := ⟨⟨by decide +kernel, by decide +kernel⟩, List.mem_of_getElem? (i := 1131) (by decide +kernel), List.mem_of_getElem? (i := 1415) (by decide +kernel), List.mem_of_getElem? (i := 1416) (by decide +kernel)⟩
theorem lw_p49 : lw_okq (⟨"ManorLoopsModel", "trackNow", "(II)I"⟩, 2) := ⟨⟨by decide +kernel, by decide +kernel⟩, List.mem_of_getElem? (i := 1131) (by decide +kernel), List.mem_of_getElem? (i := 1424) (by decide +kernel), List.mem_of_getElem? (i := 1425) (by decide +kernel)⟩
theorem lw_p50 : lw_okq (⟨"ManorLoopsModel", "isScene", "(I)Z"⟩, 2) := ⟨⟨by decide +kernel, by decide +kernel⟩, List.mem_of_getElem? (i := 1131) (by decide +kernel), List.mem_of_getElem? (i := 1433) (by decide +kernel), List.mem_of_getElem? (i := 1434) (by decide +kernel)⟩
theorem lw_p51 : lw_okq (⟨"ManorLoopsModel", "sceneNow", "(II)I"⟩, 2) := ⟨⟨by decide +kernel, by decide +kernel⟩, List.mem_of_getElem? (i := 1131) (by decide +kernel), List.mem_of_getElem? (i := 1437) (by decide +kernel), List.mem_of_getElem? (i := 1438) (by decide +kernel)⟩
theorem lw_p52 : lw_okq (⟨"ManorLoopsModel", "guestNow", "(II)I"⟩, 2) := ⟨⟨by decide +kernel, by decide +kernel⟩, List.mem_of_getElem? (i := 1131) (by decide +kernel), List.mem_of_getElem? (i := 1449) (by decide +kernel), List.mem_of_getElem? (i := 1450) (by decide +kernel)⟩
theorem lw_p53 : lw_okq (⟨"ManorLoopsModel", "propNow", "(II)I"⟩, 2) := ⟨⟨by decide +kernel, by decide +kernel⟩, List.mem_of_getElem? (i := 1131) (by decide +kernel), List.mem_of_getElem? (i := 1457) (by decide +kernel), List.mem_of_getElem? (i := 1458) (by decide +kernel)⟩
theorem lw_p54 : lw_okq (⟨"ManorLoopsModel", "manyNow", "(I)I"⟩, 2) := ⟨⟨by decide +kernel, by decide +kernel⟩, List.mem_of_getElem? (i := 1131) (by decide +kernel), List.mem_of_getElem? (i := 1469) (by decide +kernel), List.mem_of_getElem? (i := 1470) (by decide +kernel)⟩
theorem lw_p55 : lw_okq (⟨"ManorLoopsModel", "knowNow", "(LManorLoopsModel$House;II)I"⟩, 2) := ⟨⟨by decide +kernel, by decide +kernel⟩, List.mem_of_getElem? (i := 1131) (by decide +kernel), List.mem_of_getElem? (i := 1495) (by decide +kernel), List.mem_of_getElem? (i := 1496) (by decide +kernel)⟩
theorem lw_p56 : lw_okq (⟨"ManorLoopsModel", "cutNow", "(I)I"⟩, 2) := ⟨⟨by decide +kernel, by decide +kernel⟩, List.mem_of_getElem? (i := 1131) (by decide +kernel), List.mem_of_getElem? (i := 1510) (by decide +kernel), List.mem_of_getElem? (i := 1511) (by decide +kernel)⟩
theorem lw_p57 : lw_okq (⟨"ManorLoopsModel", "doublesNow", "(I)I"⟩, 2) := ⟨⟨by decide +kernel, by decide +kernel⟩, List.mem_of_getElem? (i := 1131) (by decide +kernel), List.mem_of_getElem? (i := 1518) (by decide +kernel), List.mem_of_getElem? (i := 1519) (by decide +kernel)⟩
def lw_privs_4 : List (MethodName × Nat) := [(⟨"ManorLoopsModel", "wayNow", "(III)I"⟩, 2), (⟨"ManorLoopsModel", "trackNow", "(II)I"⟩, 2), (⟨"ManorLoopsModel", "isScene", "(I)Z"⟩, 2), (⟨"ManorLoopsModel", "sceneNow", "(II)I"⟩, 2), (⟨"ManorLoopsModel", "guestNow", "(II)I"⟩, 2), (⟨"ManorLoopsModel", "propNow", "(II)I"⟩, 2), (⟨"ManorLoopsModel", "manyNow", "(I)I"⟩, 2), (⟨"ManorLoopsModel", "knowNow", "(LManorLoopsModel$House;II)I"⟩, 2), (⟨"ManorLoopsModel", "cutNow", "(I)I"⟩, 2), (⟨"ManorLoopsModel", "doublesNow", "(I)I"⟩, 2)]
theorem lw_r4 : ∀ q ∈ lw_privs_4, lw_okq q := List.forall_mem_cons.mpr ⟨lw_p48, List.forall_mem_cons.mpr ⟨lw_p49, List.forall_mem_cons.mpr ⟨lw_p50, List.forall_mem_cons.mpr ⟨lw_p51, List.forall_mem_cons.mpr ⟨lw_p52, List.forall_mem_cons.mpr ⟨lw_p53, List.forall_mem_cons.mpr ⟨lw_p54, List.forall_mem_cons.mpr ⟨lw_p55, List.forall_mem_cons.mpr ⟨lw_p56, List.forall_mem_cons.mpr ⟨lw_p57, fun _ h => absurd h List.not_mem_nil⟩⟩⟩⟩⟩⟩⟩⟩⟩⟩
def lw_privs : List (MethodName × Nat) := lw_privs_1 ++ (lw_privs_2 ++ (lw_privs_3 ++ (lw_privs_4)))
def lw_tbl : List Cond := k2_sels lw_privs ++ tables_1
theorem lw_privs_ok : ∀ q ∈ lw_privs, lw_okq q := by
  show ∀ q ∈ lw_privs_1 ++ (lw_privs_2 ++ (lw_privs_3 ++ (lw_privs_4))), lw_okq q
  exact List.forall_mem_append.mpr ⟨lw_r1, List.forall_mem_append.mpr ⟨lw_r2, List.forall_mem_append.mpr ⟨lw_r3, lw_r4⟩⟩⟩
/-- the streams that the claim lets the run draw from -/
abbrev lw_cs : List Choice := [Jvm.Choice.named "NaN.bits"]
theorem lw_bits : nanBits ∈ lw_cs := by first | decide | exact List.mem_cons_self | simp [lw_cs, nanBits]
-- ===== end of PART A; then your names; then what follows =====
/-! ===== BEGIN words of one list among another's, by their places ===== -/
theorem goodIn_r {big : List Cond} (ws : List Cond) (ps : List Nat) (hp : ws = ps.filterMap (fun i => big[i]?)) (h : ws.all goodWord = true) : GoodIn big ws := by
  intro w hw
  have h1 := List.all_eq_true.mp h w hw
  rw [hp] at hw
  obtain ⟨i, -, hi⟩ := List.mem_filterMap.mp hw
  have hm : w ∈ big := by first | exact List.mem_of_getElem? hi | exact List.getElem?_mem hi
  exact ⟨hm, good_of_word h1⟩
theorem goodIn_app {big a b : List Cond} (ha : GoodIn big a) (hb : GoodIn big b) : GoodIn big (a ++ b) := fun w h => (List.mem_append.mp h).elim (ha w) (hb w)
theorem goodIn_ca {big a b : List Cond} {c : Cond} (ha : GoodIn big (c :: a)) (hb : GoodIn big b) : GoodIn big (c :: (a ++ b)) := fun w h => (List.mem_cons.mp h).elim (fun e => ha w (List.mem_cons.mpr (Or.inl e))) (fun h => (List.mem_append.mp h).elim (fun h => ha w (List.mem_cons.mpr (Or.inr h))) (hb w))
theorem goodIn_sub {big ws : List Cond} (hm : ∀ w ∈ ws, w ∈ big) (h : ws.all goodWord = true) : GoodIn big ws := fun w hw => ⟨hm w hw, good_of_word (List.all_eq_true.mp h w hw)⟩
/-! ===== END ===== -/

/-! ===== BEGIN new T[n][m]: the outer array a place, the inner ones among the pooled ===== -/
/-- f, but v at every address of l -/
def vr_up {α : Type} (f : Nat → α) (l : List Nat) (v : α) : Nat → α := fun a => if a ∈ l then v else f a
theorem vr_up_in {α : Type} {f : Nat → α} {l : List Nat} {v : α} {a : Nat} (h : a ∈ l) : vr_up f l v a = v := if_pos h
theorem vr_up_ne {α : Type} {f : Nat → α} {l : List Nat} {v : α} {a : Nat} (h : a ∉ l) : vr_up f l v a = f a := if_neg h
theorem vr_rows {L l : List Nat} {f : Nat → va_E} {e : va_E} (h : ∀ a, a ∈ l → a ∉ L) : va_pl L f ++ l.map (fun a => (a, e)) = va_pl (L ++ l) (vr_up f l e) := by
  unfold va_pl
  rw [List.map_append]
  congr 1
  · apply List.map_congr_left
    intro a ha
    rw [vr_up_ne (fun q => h a q ha)]
  · apply List.map_congr_left
    intro a ha
    rw [vr_up_in ha]
theorem vr_lay {X rows : va_W} {x : Nat × va_E} {pl : va_W} {D : va_G} {cl : List vw_C} {H : Heap} (hP : va_P D cl (((X ++ pl) ++ [x]) ++ rows) H) : va_P D cl ((X ++ [x]) ++ (pl ++ rows)) H := by
  rw [List.append_assoc (X ++ pl)] at hP
  have h := va_P.swap hP
  rw [← List.append_assoc X] at h
  have h2 := va_P.swap h
  rw [List.append_assoc (X ++ [x])] at h2
  exact h2
theorem vr_layD {X rows : va_W} {x : Nat × va_E} {pl : va_W} {A : Nat → Prop} (hD : va_D A (((X ++ pl) ++ [x]) ++ rows)) : va_D A ((X ++ [x]) ++ (pl ++ rows)) := by
  rw [List.append_assoc (X ++ pl)] at hD
  have h := va_D.swap hD
  rw [← List.append_assoc X] at h
  have h2 := va_D.swap h
  rw [List.append_assoc (X ++ [x])] at h2
  exact h2
theorem vr_outer (c : ClassId) (N h0 : Nat) : ∀ i : Nat, Jvm.Free.Multi.outerC c N h0 i = arrV c N (fun j => va_rf (if j < i then some (h0 + 1 + j) else none))
  | 0 => by
    show ({ cls := c, slots := Array.replicate N .null, vm := .none } : Cell) = _
    rw [arrV_new]
    refine congrArg (arrV c N) (funext fun j => ?_)
    simp [va_rf]
  | i + 1 => by
    show (Jvm.Free.Multi.outerC c N h0 i).setSlot i (.ref (h0 + 1 + i)) = _
    rw [vr_outer c N h0 i, arrV_store]
    refine congrArg (arrV c N) (funext fun j => ?_)
    by_cases e : j = i
    · subst e
      simp [updV, va_rf]
    · by_cases h : j < i
      · simp [updV, e, h, Nat.lt_succ_of_lt h]
      · simp [updV, e, h, show ¬ j < i + 1 by omega]
section VGM
variable {p : Program} {l : Launch} {e : Env} {R : Room} {s : State} {m : MethodId} {args : Array Value} {below : List Frame} {meth : Method} {c : Code} {H : Heap} {locs : List Loc} {cells slots : Nat} {Q : State → Prop}
variable {cc : ByteArray} {pc : Nat} {ls : Array Slot} {rest : List Value} {D : va_G} {cl : List vw_C} {A : Nat → Prop} {a : Nat} {tys : List (ClassId × FieldType)} {ws : va_W} {H0 : Heap}
theorem va_mna {X : va_W} {L : List Nat} {f : Nat → va_E} {cc : ByteArray} (hexec : p.tables.exec = Jvm.exec) (hb : c.code = cc) {own : String} {index : Nat} {ty : FieldType} {cy : ClassId} (hown : s.vm.findClass own = some m.cls) (hclink : (Cond.classLink own index ("[" ++ (FieldType.array ty).toString)).before args s = true) (hover : va_AOA ty s) (harr : (Cond.arrayClass ty).before args s = true) (hcy : s.vm.findClass (FieldType.array ty).toString = some cy)
    (hK : va_K D cl tys s) (hP : va_P D cl (X ++ va_pl L f) H) (hD : va_D A (X ++ va_pl L f)) (hS : va_S A H0 H locs) (hA : ∀ q, H0.size ≤ q → A q) {n k : Int32} {N' K' : Nat} {z : vp_A} (hn : ¬ n < 0) (hk : ¬ k < 0) (hN : n.toNatClampNeg = N') (hM : k.toNatClampNeg = K')
    (hb1 : N' * 4 ≤ 536870912) (hb2 : K' * componentBytes ty ≤ 536870912) (hb3 : K' ≤ 536870912) (hdf : fits ty (defaultValue ty) = true) (hdd : (defaultValue ty).isDefault = true) (hcells : cells + (1 + N') ≤ R.cells) (hslots : slots + (N' + N' * K') ≤ R.slots) (hz : ∀ c : ClassId, Jvm.Free.Multi.innerC c K' (defaultValue ty) = vp_cell c z) (hdg : decode cc pc = .ok (.multianewarray index 2, 4))
    (kk : ∀ (q : Nat) (r : Nat → Nat) (cA : ClassId) (H1 : Heap), (∀ i j : Nat, i < N' → j < N' → r i = r j → i = j) → (∀ i : Nat, i < N' → r i ∉ L) → va_K D cl (tys ++ [(cA, .array ty)]) s →
      va_P D cl ((X ++ [(q, .inl (cA, N', .inr (.inr (.inr (.inr (fun i => if i < N' then some (r i) else none))))))]) ++ va_pl (L ++ (List.range N').map r) (vr_up f ((List.range N').map r) (.inl (cy, z)))) H1 → va_D A ((X ++ [(q, .inl (cA, N', .inr (.inr (.inr (.inr (fun i => if i < N' then some (r i) else none))))))]) ++ va_pl (L ++ (List.range N').map r) (vr_up f ((List.range N').map r) (.inl (cy, z)))) → va_S A H0 H1 locs →
      W p l e R s m args below meth c H1 locs (cells + 1 + N') (slots + N' + N' * K') Q (F0 m (pc + 4) ls (.ref q :: rest))) : W p l e R s m args below meth c H locs cells slots Q (F0 m pc ls (.int k :: .int n :: rest)) := by
  subst hN
  subst hM
  intro T hT Xs
  obtain ⟨vm₁, cA, comp, -, fA, fC, hO, -, X', step⟩ := Xs.multianewarray2F hexec hown hclink (va_AOA.use hover) harr (g := F0 m pc ls (.int k :: .int n :: rest)) rfl (by rw [hb]; exact hdg) rfl hn hk hb1 hb2 hb3 hdf hdd hcells hslots
  have ec : some cy = some comp := hcy.symm.trans fC
  cases ec
  generalize hF : Jvm.Free.Multi.fill (T.setVm vm₁) cA cy n.toNatClampNeg k.toNatClampNeg (defaultValue ty) n.toNatClampNeg = F at X' step
  have hTh : (T.setVm vm₁).heap = H := hT
  obtain ⟨f1, f2, -, -⟩ := Jvm.Free.Multi.fill_facts (T.setVm vm₁) cA cy n.toNatClampNeg k.toNatClampNeg (defaultValue ty) n.toNatClampNeg
  rw [hF, hTh] at f1 f2
  have hold : ∀ x : Nat, x < H.size → F.heap[x]? = H[x]? := fun x hx => by
    have := Jvm.Free.Multi.fill_old (T.setVm vm₁) cA cy n.toNatClampNeg k.toNatClampNeg (defaultValue ty) (a := x) (by rw [hTh]; exact hx) n.toNatClampNeg
    rw [hF, hTh] at this
    exact this
  have hrow : ∀ j : Nat, j < n.toNatClampNeg → F.heap[H.size + 1 + j]? = some (vp_cell cy z) := fun j hj => by
    have := Jvm.Free.Multi.fill_inner (T.setVm vm₁) cA cy n.toNatClampNeg k.toNatClampNeg (defaultValue ty) n.toNatClampNeg j hj
    rw [hF, hTh, hz] at this
    exact this
  have hout : Jvm.Free.Multi.outerC cA n.toNatClampNeg H.size n.toNatClampNeg = vp_cell cA (n.toNatClampNeg, .inr (.inr (.inr (.inr (fun i => if i < n.toNatClampNeg then some (H.size + 1 + i) else none))))) := by
    rw [vp_cell_q]
    exact vr_outer cA n.toNatClampNeg H.size n.toNatClampNeg
  rw [hout] at f2
  have hlt : ∀ a, a ∈ L → a < H.size := fun a ha => by
    obtain ⟨k9, hk9⟩ := va_pl_get (X := X) (f := f) ha
    exact (hP k9 _ hk9).lt
  have hnl : ∀ i : Nat, i < n.toNatClampNeg → H.size + 1 + i ∉ L := fun i _ h => by
    have := hlt _ h
    omega
  have hnm : ∀ a, a ∈ (List.range n.toNatClampNeg).map (fun i => H.size + 1 + i) → a ∉ L := fun a ha h => by
    obtain ⟨i, -, rfl⟩ := List.mem_map.mp ha
    have := hlt _ h
    omega
  have hP0 : va_P D cl (X ++ va_pl L f) F.heap := hP.kept (fun k9 x hx => hold x.1 ((hP k9 x hx).lt))
  have hP1 : va_P D cl ((X ++ va_pl L f) ++ [(H.size, .inl (cA, n.toNatClampNeg, .inr (.inr (.inr (.inr (fun i => if i < n.toNatClampNeg then some (H.size + 1 + i) else none))))))]) F.heap := hP0.app (fun k9 x hx => by
    have h0 : k9 < 1 := (List.getElem?_eq_some_iff.mp hx).1
    rw [show k9 = 0 by omega] at hx
    cases hx
    exact f2)
  have hP2 : va_P D cl (((X ++ va_pl L f) ++ [(H.size, .inl (cA, n.toNatClampNeg, .inr (.inr (.inr (.inr (fun i => if i < n.toNatClampNeg then some (H.size + 1 + i) else none))))))]) ++ ((List.range n.toNatClampNeg).map (fun i => H.size + 1 + i)).map (fun a => (a, .inl (cy, z)))) F.heap := hP1.app (fun k9 x hx => by
    obtain ⟨a, ha, rfl⟩ := List.mem_map.mp (List.mem_of_getElem? hx)
    obtain ⟨i, hi, rfl⟩ := List.mem_map.mp ha
    exact hrow i (List.mem_range.mp hi))
  have hD2 : va_D A (((X ++ va_pl L f) ++ [(H.size, .inl (cA, n.toNatClampNeg, .inr (.inr (.inr (.inr (fun i => if i < n.toNatClampNeg then some (H.size + 1 + i) else none))))))]) ++ ((List.range n.toNatClampNeg).map (fun i => H.size + 1 + i)).map (fun a => (a, .inl (cy, z)))) := by
    have hD1 := hD.push (e := .inl (cA, n.toNatClampNeg, .inr (.inr (.inr (.inr (fun i => if i < n.toNatClampNeg then some (H.size + 1 + i) else none)))))) hP rfl (hA _ hS.1)
    generalize hW1 : (X ++ va_pl L f) ++ [(H.size, .inl (cA, n.toNatClampNeg, .inr (.inr (.inr (.inr (fun i => if i < n.toNatClampNeg then some (H.size + 1 + i) else none))))))] = W1 at hD1 hP1 ⊢
    have hle : ∀ (k9 : Nat) (x : Nat × va_E), W1[k9]? = some x → x.1 ≤ H.size := fun k9 x hx => by
      rw [← hW1] at hx
      by_cases hl : k9 < (X ++ va_pl L f).length
      · rw [List.getElem?_append_left hl] at hx
        exact Nat.le_of_lt ((hP k9 x hx).lt)
      · rw [List.getElem?_append_right (by omega)] at hx
        have h0 : k9 - (X ++ va_pl L f).length < 1 := (List.getElem?_eq_some_iff.mp hx).1
        rw [show k9 - (X ++ va_pl L f).length = 0 by omega] at hx
        cases hx
        exact Nat.le_refl _
    have hr : ∀ (k9 : Nat) (x : Nat × va_E), (((List.range n.toNatClampNeg).map (fun i => H.size + 1 + i)).map (fun a => ((a, .inl (cy, z)) : Nat × va_E)))[k9]? = some x → x.1 = H.size + 1 + k9 := fun k9 x hx => by
      rw [List.getElem?_map, List.getElem?_map] at hx
      by_cases h9 : k9 < n.toNatClampNeg
      · rw [List.getElem?_range h9] at hx
        cases hx
        rfl
      · have hn0 : (List.range n.toNatClampNeg)[k9]? = none := List.getElem?_eq_none (by rw [List.length_range]; omega)
        rw [hn0] at hx
        cases hx
    refine ⟨fun i j x y hi hj hxy => ?_, fun k9 x hx => ?_⟩
    · by_cases h1 : i < W1.length <;> by_cases h2 : j < W1.length
      · rw [List.getElem?_append_left h1] at hi
        rw [List.getElem?_append_left h2] at hj
        exact hD1.1 i j x y hi hj hxy
      · rw [List.getElem?_append_left h1] at hi
        rw [List.getElem?_append_right (by omega)] at hj
        have := hle _ _ hi
        have := hr _ _ hj
        omega
      · rw [List.getElem?_append_right (by omega)] at hi
        rw [List.getElem?_append_left h2] at hj
        have := hle _ _ hj
        have := hr _ _ hi
        omega
      · rw [List.getElem?_append_right (by omega)] at hi hj
        have := hr _ _ hi
        have := hr _ _ hj
        omega
    · by_cases h1 : k9 < W1.length
      · rw [List.getElem?_append_left h1] at hx
        exact hD1.2 k9 x hx
      · rw [List.getElem?_append_right (by omega)] at hx
        have := hr _ _ hx
        exact hA _ (by have := hS.1; omega)
  have hAr : ArrOfT s cA (.array ty) := fun N9 z9 => by
    obtain ⟨-, k9, hk9, cm9, hkk9⟩ := (hO 0 0 0).1
    exact ⟨(fun q hq => by cases hq), k9, hk9, cm9, hkk9⟩
  have hK2 : va_K D cl (tys ++ [(cA, .array ty)]) s := ⟨hK.1, fun k9 x hx => by
    by_cases hl : k9 < tys.length
    · rw [List.getElem?_append_left hl] at hx
      exact hK.2 k9 x hx
    · rw [List.getElem?_append_right (by omega)] at hx
      have h0 : k9 - tys.length < 1 := (List.getElem?_eq_some_iff.mp hx).1
      rw [show k9 - tys.length = 0 by omega] at hx
      cases hx
      exact ⟨hAr, fA⟩⟩
  obtain ⟨t, a1, b1⟩ := kk H.size (fun i => H.size + 1 + i) cA F.heap (fun i j _ _ h => by have h9 : H.size + 1 + i = H.size + 1 + j := h; omega) hnl hK2 (by rw [← vr_rows hnm]; exact vr_lay hP2) (by rw [← vr_rows hnm]; exact vr_layD hD2) ⟨by rw [f1]; have := hS.1; omega, fun x h1 h2 => (hold x (Nat.lt_of_lt_of_le h1 hS.1)).trans (hS.2.1 x h1 h2), hS.2.2⟩ F rfl X'
  refine ⟨t, step t ?_, b1⟩
  have e : T.heap.size = H.size := by rw [hT]
  rw [e]
  exact a1
end VGM
/-! ===== END ===== -/

/-! ===== BEGIN exceptions that leave a method, and their catching by the caller (launches without stack traces) ===== -/
section VXA
/-! The laws vx_back, vx_callV, vx_callS, vx_callSW, vx_throw0, vx_throwS follow proofs of the library, with one case more: JvmDerived/Free/Laws.lean (Back.of_free), Shelf42/LK1.lean (callV, callS), Shelf/KitTraced.lean (throwNew0V, throwNewS). -/
/-- where a method has thrown q: the class by its name, the cell, what was written, the world -/
def vx_T (XC : String → State → State → Prop) (st : State) (q : Addr) (t : State) (mc ms : Nat) (free : Addr → Prop) : Prop :=
  ∃ (E : String) (ce : Cell) (L : List Loc), XC E st t ∧ t.heap[q]? = some ce ∧ ce.vm = .none ∧ st.vm.findClass E = some ce.cls ∧ st.WarmedH t.vm ∧ st.sameButNew ({ t with vm := st.vm } : State) L mc ms ∧ ∀ z ∈ L, free z.base
def vx_Q (Qc : Array Value → State → Outcome → State → Prop) (XC : String → State → State → Prop) (mc ms : Nat) (free : Addr → Prop) : Array Value → State → Outcome → State → Prop := fun a st o t =>
  (Qc a st o t ∧ ∃ L, FrameEnd st o t L mc ms ∧ ∀ q ∈ L, free q.base) ∨ ∃ q, o = .threw q ∧ vx_T XC st q t mc ms free
/-- a callee that returns or throws -/
def vx_Met (l : Launch) (y : MethodName) (ws : List Cond) (rm : Room) (Pc : Array Value → State → Prop) (Qc : Array Value → State → Outcome → State → Prop) (XC : String → State → State → Prop) (mc ms : Nat) (free : Addr → Prop) : Prop :=
  MetFree l y (headSpec ws rm) Pc (fun _ _ _ _ _ => True) (vx_Q Qc XC mc ms free)
def vx_Post (XC : String → State → State → Prop) (mc ms : Nat) (free : Addr → Prop) : Pt → Array Value → Addr → Pt → Prop := fun A a q B =>
  ∃ (g : JFrame) (mk : MethodId) (t : State) (L : List Loc) (E : String) (ce : Cell), B.U.heap = t.heap ∧ B.U.vm = t.vm ∧ XC E (A.U.calling g mk a) t ∧ t.heap[q]? = some ce ∧ ce.vm = .none ∧ A.U.vm.findClass E = some ce.cls ∧ B.locs = A.locs ++ L ∧ (∀ z ∈ L, free z.base) ∧ B.cells = A.cells + mc ∧ B.slots = A.slots + ms
def vx_Back (l : Launch) (R : Room) (p : Program) (e : Env) (below : List Frame) (s : State) (sargs : Array Value) (y : MethodName) (len W9 : Nat)
    (Pre : Pt → Array Value → Prop) (Post : Pt → Array Value → Option Value → Pt → Prop) (PostX : Pt → Array Value → Addr → Pt → Prop) : Prop :=
  ∀ (m : MethodId) (meth : Method) (c : Code) (A : Pt) (g : JFrame) (ig : Instr) (mk : MethodId) (a : Array Value),
    Stand p l e R s m sargs below meth c A.U A.locs A.cells A.slots → g.method = m → g.locals.size = c.maxLocals → decode c.code g.pc = .ok (ig, len) →
    2 * g.monitorRoom + (g.stack.map fun v => v.category).sum ≤ W9 → A.U.methodNamed? y = some mk → Pre A a →
    (∃ (v : Option Value) (B : Pt), Stand p l e R s m sargs below meth c B.U B.locs B.cells B.slots ∧ Post A a v B ∧
      Steps p.tables e below (doInvoke e (A.U.setTop g) [] mk a).1 (B.U.setTop { g with pc := g.pc + len, stack := v.toList ++ g.stack })) ∨
    (∃ (q : Addr) (B : Pt), Stand p l e R s m sargs below meth c B.U B.locs B.cells B.slots ∧ PostX A a q B ∧
      Steps p.tables e below (doInvoke e (A.U.setTop g) [] mk a).1 ((B.U.setTop g).pushFrame (.throwing q)))
section Payer
variable {l : Launch} {R : Room} {p : Program} {e : Env} {below : List Frame} {s : State} {sargs : Array Value} {y : MethodName} {len W9 : Nat}
theorem vx_back {ws : List Cond} {rm : Room} {Pc : Array Value → State → Prop} {Qc : Array Value → State → Outcome → State → Prop} {XC : String → State → State → Prop} {mc ms : Nat} {free : Addr → Prop} {bytes : ByteArray} {maxL : Nat} {ret : Option FieldType}
    (hM : vx_Met l y ws rm Pc Qc XC mc ms free) (hblind : FrameBlind Pc) (hrc : rm.cells = mc) (hrs : rm.slots = ms)
    (hframes : rm.frames + 1 ≤ R.frames) (hlocals : W9 + (maxL + 11) + rm.locals ≤ R.locals)
    (hws : ∀ w ∈ ws, ∀ a' U, s.WarmedH U.vm → w.before a' U = true) (hcode : Cond.code y bytes maxL ret ∈ ws) (hinit : ∀ a' U, s.WarmedH U.vm → (Cond.initialized y.cls).before a' U = true) :
    vx_Back l R p e below s sargs y len W9 (PreOf R mc ms Pc) (PostOf Qc mc ms free) (vx_Post XC mc ms free) := by
  intro m meth c A g ig mk a X hg hsize hdg hW hn hp
  have h1 : (headSpec ws rm).pre.before a A.U = true := atoms_intro fun w hw => hws w hw _ _ X.warmed
  have h2 : (Cond.code y bytes maxL ret).before a A.U = true := hws _ hcode _ _ X.warmed
  have h3 : (Cond.initialized y.cls).before a A.U = true := hinit _ _ X.warmed
  have h4 : A.cells + (headSpec ws rm).room.cells ≤ R.cells := by rw [show (headSpec ws rm).room.cells = mc from hrc]; exact hp.1
  have h5 : A.slots + (headSpec ws rm).room.slots ≤ R.slots := by rw [show (headSpec ws rm).room.slots = ms from hrs]; exact hp.2.1
  have hPc : Pc a (A.U.calling g mk a) := hblind _ _ _ _ hp.2.2
  obtain ⟨U, Ls, c0, s0⟩ := A
  dsimp only [Pt.U, Pt.locs, Pt.cells, Pt.slots] at h1 h2 h3 h4 h5 X hn hPc ⊢
  obtain ⟨methY, cY, hmY, hcY, -, hlY, -, -, -, -⟩ := Cond.code_spec hn h2
  obtain ⟨kY, hkY, -⟩ := className_of_methodNamed hn
  have hinitY : kY.init = .initialized := Cond.initialized_spec (findClass_of_methodNamed hn) hkY h3
  have h : At U g.method c below := by rw [hg]; exact X.here
  have hlocals9 : W9 + (maxL + 11) + (headSpec ws rm).room.locals ≤ R.locals := hlocals
  have happ : (headSpec ws rm).appliesLoose y e.platform (U.calling g mk a) = true :=
    Spec.appliesLoose_calling (g := g) h hdg hn hkY hinitY
      (X.room_calling (g := g) (R' := (headSpec ws rm).room) hsize hmY hcY hframes (by rw [hlY]; omega) h4 h5) h1
  obtain ⟨mid, hmid⟩ := h.above
  have hfr : (U.setTop g).frames = (.java g :: mid) ++ below := by rw [State.frames_setTop' g h.top, hmid]; rfl
  obtain ⟨o, s₂, hsteps, -, hend, hq⟩ := Steps.callFree hM p X.admits X.cas X.clock (acts := []) hfr happ hPc trivial
  have hq' : vx_Q Qc XC mc ms free a (U.calling g mk a) o s₂ := hq
  rw [State.frames_setTop' g h.top] at hend
  obtain ⟨g₀, hg0⟩ := Option.isSome_iff_exists.mp h.top
  obtain ⟨r, hr⟩ := State.topJava?_eq_some.mp hg0
  have hr' : (({ U with heap := s₂.heap, slotsUsed := s₂.slotsUsed } : State).setVm s₂.vm).frames = .java g₀ :: r := hr
  rcases hq' with ⟨hqc, L, hfe, hL⟩ | ⟨q, rfl, E, ce, L, hx, hce, hcv, hcl, hW₂, hsm, hL⟩
  · obtain ⟨⟨v, rfl⟩, hW₂, e2, q2, q3, q4, q5, q6⟩ := id hfe
    have e3 : s₂ = ({ (U.calling g mk a).setFrames s₂.frames with heap := s₂.heap, slotsUsed := s₂.slotsUsed } : State).setVm s₂.vm := by
      have : s₂ = ({ s₂ with vm := (U.calling g mk a).vm } : State).setVm s₂.vm := rfl
      rw [e2] at this
      exact this
    obtain ⟨c₂, i₂, len₂, hc₂, hd₂, hf₂⟩ := hend
    have hW' : U.WarmedH s₂.vm := hW₂
    have hcc : c₂ = c := by
      have h1 : s₂.code? g.method = U.code? g.method := by
        rw [State.code?_eq, State.code?_eq, hW'.alike.method?]
      exact Option.some.inj (hc₂.symm.trans (h1.trans h.code))
    subst hcc
    have hlen : len₂ = len := by rw [hdg] at hd₂; cases hd₂; rfl
    subst hlen
    have hs₂ : s₂ = (({ U with heap := s₂.heap, slotsUsed := s₂.slotsUsed } : State).setVm s₂.vm).setTop { g with pc := g.pc + len₂, stack := v.toList ++ g.stack } := by
      refine e3.trans ?_
      rw [hf₂, State.calling_eq h.top, State.setFrames_setFrames, State.setTop_of_frames _ hr', hr]
      rfl
    have hsame : U.sameButNew ({ U with heap := s₂.heap, slotsUsed := s₂.slotsUsed } : State) L mc ms := by
      refine ⟨?_, q2, q3, q4, q5, q6⟩
      obtain ⟨t, ht, -⟩ := State.frames_cons hr
      show ({ U with heap := s₂.heap, slotsUsed := s₂.slotsUsed } : State) = { U.setFrames U.frames with heap := s₂.heap, slotsUsed := s₂.slotsUsed }
      rw [State.setFrames_self ht]
    subst hg
    refine Or.inl ⟨v, ⟨(({ U with heap := s₂.heap, slotsUsed := s₂.slotsUsed } : State).setVm s₂.vm), Ls ++ L, c0 + mc, s0 + ms⟩,
      ⟨X.admits, X.cas, X.clock, X.frames, X.room, X.hears, X.method, X.code, (X.here.setHeapUsed s₂.heap s₂.slotsUsed).setVm hW'.alike, X.tail, State.WarmedH.trans X.warmed hW', X.limits, X.bytes, X.same.trans (hsame.setVm s.vm)⟩,
      ⟨g, mk, s₂, L, rfl, rfl, hqc, rfl, hL, rfl, rfl⟩, ?_⟩
    show Steps p.tables e below _ ((({ U with heap := s₂.heap, slotsUsed := s₂.slotsUsed } : State).setVm s₂.vm).setTop { g with pc := g.pc + len₂, stack := v.toList ++ g.stack })
    rw [← hs₂]
    exact hsteps
  · obtain ⟨e2, q2, q3, q4, q5, q6⟩ := id hsm
    have e3 : s₂ = ({ (U.calling g mk a).setFrames s₂.frames with heap := s₂.heap, slotsUsed := s₂.slotsUsed } : State).setVm s₂.vm := by
      have : s₂ = ({ s₂ with vm := (U.calling g mk a).vm } : State).setVm s₂.vm := rfl
      rw [e2] at this
      exact this
    have hf₂ : s₂.frames = .throwing q :: .java g :: U.frames.tail := hend
    have hW' : U.WarmedH s₂.vm := hW₂
    have hs₂ : s₂ = ((({ U with heap := s₂.heap, slotsUsed := s₂.slotsUsed } : State).setVm s₂.vm).setTop g).pushFrame (.throwing q) := by
      refine e3.trans ?_
      rw [hf₂, State.calling_eq h.top, State.setFrames_setFrames, State.pushFrame, State.frames_setTop _ hr', State.setTop_of_frames _ hr', State.setFrames_setFrames, hr]
      rfl
    have hsame : U.sameButNew ({ U with heap := s₂.heap, slotsUsed := s₂.slotsUsed } : State) L mc ms := by
      refine ⟨?_, q2, q3, q4, q5, q6⟩
      obtain ⟨t, ht, -⟩ := State.frames_cons hr
      show ({ U with heap := s₂.heap, slotsUsed := s₂.slotsUsed } : State) = { U.setFrames U.frames with heap := s₂.heap, slotsUsed := s₂.slotsUsed }
      rw [State.setFrames_self ht]
    subst hg
    refine Or.inr ⟨q, ⟨(({ U with heap := s₂.heap, slotsUsed := s₂.slotsUsed } : State).setVm s₂.vm), Ls ++ L, c0 + mc, s0 + ms⟩,
      ⟨X.admits, X.cas, X.clock, X.frames, X.room, X.hears, X.method, X.code, (X.here.setHeapUsed s₂.heap s₂.slotsUsed).setVm hW'.alike, X.tail, State.WarmedH.trans X.warmed hW', X.limits, X.bytes, X.same.trans (hsame.setVm s.vm)⟩,
      ⟨g, mk, s₂, L, E, ce, rfl, rfl, hx, hce, hcv, hcl, rfl, hL, rfl, rfl⟩, ?_⟩
    show Steps p.tables e below _ (((({ U with heap := s₂.heap, slotsUsed := s₂.slotsUsed } : State).setVm s₂.vm).setTop g).pushFrame (.throwing q))
    rw [← hs₂]
    exact hsteps
end Payer
section Calls
variable {p : Program} {l : Launch} {e : Env} {R : Room} {s : State} {m : MethodId} {args : Array Value} {below : List Frame} {meth : Method} {c : Code} {T : State} {locs : List Loc} {cells slots : Nat}
theorem vx_callV (X : Stand p l e R s m args below meth c T locs cells slots) (hexec : p.tables.exec = Jvm.exec) {own C : String} {index : Nat} {y : MethodName} {bytes : ByteArray} {maxL : Nat} {ret : Option FieldType}
    (hown : s.vm.findClass own = some m.cls) (hlink : (Cond.methodLink own index y).before args s = true) (hinst : (Cond.instanceMethod y).before args s = true) (hsel : (Cond.selects C y y).before args s = true)
    (hcode : (Cond.code y bytes maxL ret).before args s = true) (hy : y.cls ≠ "java/lang/invoke/MethodHandle" ∧ y.cls ≠ "java/lang/invoke/VarHandle")
    {W9 : Nat} {Pre : Pt → Array Value → Prop} {Post : Pt → Array Value → Option Value → Pt → Prop} {PostX : Pt → Array Value → Addr → Pt → Prop} (hK : vx_Back l R p e below s args y 3 W9 Pre Post PostX)
    {b : Addr} {cellB : Cell} (hcell : T.heap[b]? = some cellB) (hobj : cellB.vm.isStatics = false) (hcls : s.vm.findClass C = some cellB.cls)
    {g : JFrame} (hg : g.method = m) (hsize : g.locals.size = c.maxLocals) {argsL rest : List Value} (hlen : ∀ sig, parseMethodDescriptor y.desc = some sig → argsL.length = sig.parameters.length)
    (hstack : g.stack = argsL.reverse ++ .ref b :: rest) (hW : 2 * g.monitorRoom + (rest.map fun v => v.category).sum ≤ W9) (hdg : decode c.code g.pc = .ok (.invokevirtual index, 3))
    (hpre : ∀ vm₁, s.WarmedH vm₁ → Pre ⟨T.setVm vm₁, locs, cells, slots⟩ (Value.ref b :: argsL).toArray) :
    (∃ (v : Option Value) (vm₁ : Vm) (B : Pt), s.WarmedH vm₁ ∧ Stand p l e R s m args below meth c B.U B.locs B.cells B.slots ∧ Post ⟨T.setVm vm₁, locs, cells, slots⟩ (Value.ref b :: argsL).toArray v B ∧
      ∀ target, Steps p.tables e below (B.U.setTop { g with pc := g.pc + 3, stack := v.toList ++ rest }) target → Steps p.tables e below (T.setTop g) target) ∨
    (∃ (q : Addr) (vm₁ : Vm) (B : Pt), s.WarmedH vm₁ ∧ Stand p l e R s m args below meth c B.U B.locs B.cells B.slots ∧ PostX ⟨T.setVm vm₁, locs, cells, slots⟩ (Value.ref b :: argsL).toArray q B ∧
      Steps p.tables e below (T.setTop g) ((B.U.setTop { g with stack := rest }).pushFrame (.throwing q))) := by
  obtain ⟨mk, methM, hnamed, hmethM, hstM, habM⟩ := Cond.instanceMethod_spec hinst
  obtain ⟨methM', cM, hmethM', -, -, -, -, -, -, hsigM⟩ := Cond.code_spec hnamed hcode
  cases hmethM.symm.trans hmethM'
  obtain ⟨c2, r2, m2, q1, q2, q3, q4, kP, hkP, hkPi⟩ := Cond.selects_spec hsel
  cases hcls.symm.trans q1
  cases (State.methodFound?_of_named hnamed hy).symm.trans q2
  cases hnamed.symm.trans q3
  have hselP : selectMethod e.platform s.vm cellB.cls mk = .method mk := by rw [Launch.admits_selectMethod X.admits]; exact q4
  obtain ⟨vm₁, X₁, hstep₁⟩ := X.invokevirtual hexec hown hlink hnamed hmethM hstM hkP hkPi hy (a := b) (cell := cellB) hcell
    (fun z h => by rw [h] at hobj; cases hobj) hselP hmethM habM hkP hkPi (g := g) hg (argsL := argsL) (rest := rest) (hlen _ hsigM) hstack hdg
  rcases hK m meth c ⟨T.setVm vm₁, locs, cells, slots⟩ { g with stack := rest } (.invokevirtual index) mk (Value.ref b :: argsL).toArray X₁ hg hsize hdg hW (X₁.named hnamed) (hpre vm₁ X₁.warmed) with ⟨v, B, X', hpost, hsteps⟩ | ⟨q, B, X', hpost, hsteps⟩
  · exact Or.inl ⟨v, vm₁, B, X₁.warmed, X', hpost, fun target h => hstep₁ _ fun acts => by rw [doInvoke_state]; exact hsteps.trans h⟩
  · exact Or.inr ⟨q, vm₁, B, X₁.warmed, X', hpost, hstep₁ _ fun acts => by rw [doInvoke_state]; exact hsteps⟩
theorem vx_callS (X : Stand p l e R s m args below meth c T locs cells slots) (hexec : p.tables.exec = Jvm.exec) {own : String} {index : Nat} {y : MethodName} {bytes : ByteArray} {maxL : Nat} {ret : Option FieldType}
    (hown : s.vm.findClass own = some m.cls) (hlink : (Cond.methodLink own index y).before args s = true) (hstat : (Cond.static y).before args s = true) (hinit : (Cond.initialized y.cls).before args s = true)
    (hcode : (Cond.code y bytes maxL ret).before args s = true) (hy : y.cls ≠ "java/lang/invoke/MethodHandle" ∧ y.cls ≠ "java/lang/invoke/VarHandle")
    {W9 : Nat} {Pre : Pt → Array Value → Prop} {Post : Pt → Array Value → Option Value → Pt → Prop} {PostX : Pt → Array Value → Addr → Pt → Prop} (hK : vx_Back l R p e below s args y 3 W9 Pre Post PostX)
    {g : JFrame} (hg : g.method = m) (hsize : g.locals.size = c.maxLocals) {argsL rest : List Value} (hlen : ∀ sig, parseMethodDescriptor y.desc = some sig → argsL.length = sig.parameters.length)
    (hstack : g.stack = argsL.reverse ++ rest) (hW : 2 * g.monitorRoom + (rest.map fun v => v.category).sum ≤ W9) (hdg : decode c.code g.pc = .ok (.invokestatic index, 3))
    (hpre : ∀ vm₁, s.WarmedH vm₁ → Pre ⟨T.setVm vm₁, locs, cells, slots⟩ argsL.toArray) :
    (∃ (v : Option Value) (vm₁ : Vm) (B : Pt), s.WarmedH vm₁ ∧ Stand p l e R s m args below meth c B.U B.locs B.cells B.slots ∧ Post ⟨T.setVm vm₁, locs, cells, slots⟩ argsL.toArray v B ∧
      ∀ target, Steps p.tables e below (B.U.setTop { g with pc := g.pc + 3, stack := v.toList ++ rest }) target → Steps p.tables e below (T.setTop g) target) ∨
    (∃ (q : Addr) (vm₁ : Vm) (B : Pt), s.WarmedH vm₁ ∧ Stand p l e R s m args below meth c B.U B.locs B.cells B.slots ∧ PostX ⟨T.setVm vm₁, locs, cells, slots⟩ argsL.toArray q B ∧
      Steps p.tables e below (T.setTop g) ((B.U.setTop { g with stack := rest }).pushFrame (.throwing q))) := by
  obtain ⟨mk, hnamed⟩ := Cond.code_named hcode
  obtain ⟨methM, cM, hmethM, -, -, -, -, -, -, hsigM⟩ := Cond.code_spec hnamed hcode
  have hstatic : methM.isStatic = true := Cond.static_spec hnamed hmethM hstat
  obtain ⟨kP, hkP, -⟩ := className_of_methodNamed hnamed
  have hinitP : kP.init = .initialized := Cond.initialized_spec (findClass_of_methodNamed hnamed) hkP hinit
  obtain ⟨vm₁, X₁, hstep₁⟩ := X.invokestatic hexec hown hlink hnamed hmethM hstatic hkP hinitP hy (g := g) hg (argsL := argsL) (rest := rest) (hlen _ hsigM) hstack hdg
  rcases hK m meth c ⟨T.setVm vm₁, locs, cells, slots⟩ { g with stack := rest } (.invokestatic index) mk argsL.toArray X₁ hg hsize hdg hW (X₁.named hnamed) (hpre vm₁ X₁.warmed) with ⟨v, B, X', hpost, hsteps⟩ | ⟨q, B, X', hpost, hsteps⟩
  · exact Or.inl ⟨v, vm₁, B, X₁.warmed, X', hpost, fun target h => hstep₁ _ fun acts => by rw [doInvoke_state]; exact hsteps.trans h⟩
  · exact Or.inr ⟨q, vm₁, B, X₁.warmed, X', hpost, hstep₁ _ fun acts => by rw [doInvoke_state]; exact hsteps⟩
end Calls
theorem vx_cls {s : State} {T : State} {vm₁ : Vm} {E : String} {k : ClassId} (hW : s.WarmedH vm₁) (h : (T.setVm vm₁).vm.findClass E = some k) : s.vm.findClass E = some k := by
  have h1 : vm₁.findClass E = some k := h
  rw [hW.alike.findClass] at h1
  exact h1
/-- the method's frame g, with q thrown over it -/
def vx_W (p : Program) (l : Launch) (e : Env) (R : Room) (s : State) (m : MethodId) (args : Array Value) (below : List Frame) (meth : Method) (c : Code) (H : Heap) (locs : List Loc) (cells slots : Nat) (Q : State → Prop) (g : JFrame) (q : Addr) : Prop :=
  ∀ T : State, T.heap = H → Stand p l e R s m args below meth c T locs cells slots → ∃ t, Steps p.tables e below ((T.setTop g).pushFrame (.throwing q)) t ∧ Q t
def vx_Run (p : Program) (l : Launch) (e : Env) (R : Room) (s : State) (m : MethodId) (args : Array Value) (below : List Frame) (meth : Method) (c : Code) (H : Heap) (locs : List Loc) (cells slots mc ms : Nat) (g : JFrame) (rest : List Value) (Qa : State → Outcome → State → Prop) (XC : String → State → State → Prop) (free : Addr → Prop) : Prop :=
  ∀ T : State, T.heap = H → Stand p l e R s m args below meth c T locs cells slots →
    (∃ (v : Option Value) (st₀ t T' : State) (L : List Loc), st₀.heap = H ∧ Stand p l e R s m args below meth c T' (locs ++ L) (cells + mc) (slots + ms) ∧ (∀ q ∈ L, free q.base) ∧ T'.heap = t.heap ∧ T'.vm = t.vm ∧ Qa st₀ (.returned v) t ∧
      Goes p e below T g T' { g with pc := g.pc + 3, stack := v.toList ++ rest }) ∨
    (∃ (q : Addr) (st₀ t T' : State) (L : List Loc) (E : String) (ce : Cell), st₀.heap = H ∧ Stand p l e R s m args below meth c T' (locs ++ L) (cells + mc) (slots + ms) ∧ (∀ z ∈ L, free z.base) ∧ T'.heap = t.heap ∧ T'.vm = t.vm ∧ XC E st₀ t ∧ t.heap[q]? = some ce ∧ ce.vm = .none ∧ s.vm.findClass E = some ce.cls ∧
      Steps p.tables e below (T.setTop g) ((T'.setTop { g with stack := rest }).pushFrame (.throwing q)))
def vx_X {S : Type} (px : S → Prop) (B : String → S → State → Prop) (A : Nat → Prop) : String → State → State → Prop := fun E st t => ∃ u : S, px u ∧ B E u t ∧ va_F A st t
section Runs
variable {p : Program} {l : Launch} {e : Env} {R : Room} {s : State} {m : MethodId} {args : Array Value} {below : List Frame} {meth : Method} {c : Code} {H : Heap} {locs : List Loc} {cells slots : Nat}
variable {y : MethodName} {bytes cc : ByteArray} {maxL nL mc ms n index : Nat} {ret : Option FieldType} {ws : List Cond} {rm : Room} {Pc : Array Value → State → Prop} {Qc : Array Value → State → Outcome → State → Prop} {XC : String → State → State → Prop} {free : Addr → Prop} {Ts : List Cond} {own C : String} {b : Addr} {As rest : List Value} {g : JFrame}
theorem vx_callBack (cb : CallB R s args own index y bytes maxL ret ws rm mc ms n) (hM : vx_Met l y ws rm Pc Qc XC mc ms free) (hbl : FrameBlind Pc) : vx_Back l R p e below s args y 3 8 (PreOf R mc ms Pc) (PostOf Qc mc ms free) (vx_Post XC mc ms free) := by
  obtain ⟨hrc, hrs, hfr, hlo, hws, hcw, -, hini, -⟩ := cb
  exact vx_back (bytes := bytes) (maxL := maxL) (ret := ret) hM hbl hrc hrs hfr hlo hws hcw (fun a' U hW => word_at hW (Or.inl (by first | rfl | simp [Cond.onTables, Cond.keeps, Cond.steady])) hini)
theorem vx_runV (S : CallFix p m c cc nL s args Ts own) (hM : vx_Met l y ws rm Pc Qc XC mc ms free) (cw : CallW R s args own C index y bytes maxL ret ws rm mc ms n) (hp : PreV s H C b Pc As)
    (hg : g.method = m) (hn : As.length = n) (hsize : g.locals.size = nL) (hstack : g.stack = As.reverse ++ .ref b :: rest) (hW : 2 * g.monitorRoom + (rest.map fun v => v.category).sum ≤ 8) (hdg : decode cc g.pc = .ok (.invokevirtual index, 3)) (hf : cells + mc ≤ R.cells ∧ slots + ms ≤ R.slots) :
    vx_Run p l e R s m args below meth c H locs cells slots mc ms g rest (Qc (Value.ref b :: As).toArray) XC free := by
  have hK : vx_Back l R p e below s args y 3 8 (PreOf R mc ms Pc) (PostOf Qc mc ms free) (vx_Post XC mc ms free) := vx_callBack cw.1 hM hp.1
  obtain ⟨⟨-, -, -, -, -, -, hcode, -, hy, hlen, hl⟩, hin, hse⟩ := cw
  obtain ⟨hx, hb, hml, ho, -⟩ := S
  obtain ⟨-, ⟨cellB, hcB, hoB, hclB⟩, hPc⟩ := hp
  intro T hT X
  rcases vx_callV X hx (C := C) (bytes := bytes) (maxL := maxL) (ret := ret) ho hl hin hse hcode hy hK (by rw [hT]; exact hcB) hoB hclB hg (hsize.trans hml.symm) (argsL := As) (rest := rest) (fun sig h => hn.trans (hlen sig h)) hstack hW (by rw [hb]; exact hdg)
    (fun vm₁ hW₁ => ⟨hf.1, hf.2, hPc (T.setVm vm₁) hT hW₁⟩) with ⟨v, vm₁, ⟨U', l2, c2, s2⟩, hW₁, X', ⟨g', mk, t, L, e1, e2, hq, h1, hL, h2, h3⟩, st⟩ | ⟨q, vm₁, ⟨U', l2, c2, s2⟩, hW₁, X', ⟨g', mk, t, L, E, ce, e1, e2, hq, hce, hcv, hcl, h1, hL, h2, h3⟩, st⟩
  · dsimp only [Pt.U, Pt.locs, Pt.cells, Pt.slots] at X' e1 e2 h1 h2 h3 st
    subst h1; subst h2; subst h3
    exact Or.inl ⟨v, (T.setVm vm₁).calling g' mk (Value.ref b :: As).toArray, t, U', L, hT, X', hL, e1, e2, hq, st⟩
  · dsimp only [Pt.U, Pt.locs, Pt.cells, Pt.slots] at X' e1 e2 h1 h2 h3 st hcl
    subst h1; subst h2; subst h3
    exact Or.inr ⟨q, (T.setVm vm₁).calling g' mk (Value.ref b :: As).toArray, t, U', L, E, ce, hT, X', hL, e1, e2, hq, hce, hcv, vx_cls hW₁ hcl, st⟩
theorem vx_runS (S : CallFix p m c cc nL s args Ts own) (hM : vx_Met l y ws rm Pc Qc XC mc ms free) (cw : CallB R s args own index y bytes maxL ret ws rm mc ms n ∧ (Cond.static y).before args s = true) (hp : PreS s H Pc As)
    (hg : g.method = m) (hn : As.length = n) (hsize : g.locals.size = nL) (hstack : g.stack = As.reverse ++ rest) (hW : 2 * g.monitorRoom + (rest.map fun v => v.category).sum ≤ 8) (hdg : decode cc g.pc = .ok (.invokestatic index, 3)) (hf : cells + mc ≤ R.cells ∧ slots + ms ≤ R.slots) :
    vx_Run p l e R s m args below meth c H locs cells slots mc ms g rest (Qc As.toArray) XC free := by
  have hK : vx_Back l R p e below s args y 3 8 (PreOf R mc ms Pc) (PostOf Qc mc ms free) (vx_Post XC mc ms free) := vx_callBack cw.1 hM hp.1
  obtain ⟨⟨-, -, -, -, -, -, hcode, hini, hy, hlen, hl⟩, hstt⟩ := cw
  obtain ⟨hx, hb, hml, ho, -⟩ := S
  intro T hT X
  rcases vx_callS X hx (bytes := bytes) (maxL := maxL) (ret := ret) ho hl hstt hini hcode hy hK hg (hsize.trans hml.symm) (argsL := As) (rest := rest) (fun sig h => hn.trans (hlen sig h)) hstack hW (by rw [hb]; exact hdg)
    (fun vm₁ hW₁ => ⟨hf.1, hf.2, hp.2 (T.setVm vm₁) hT hW₁⟩) with ⟨v, vm₁, ⟨U', l2, c2, s2⟩, hW₁, X', ⟨g', mk, t, L, e1, e2, hq, h1, hL, h2, h3⟩, st⟩ | ⟨q, vm₁, ⟨U', l2, c2, s2⟩, hW₁, X', ⟨g', mk, t, L, E, ce, e1, e2, hq, hce, hcv, hcl, h1, hL, h2, h3⟩, st⟩
  · dsimp only [Pt.U, Pt.locs, Pt.cells, Pt.slots] at X' e1 e2 h1 h2 h3 st
    subst h1; subst h2; subst h3
    exact Or.inl ⟨v, (T.setVm vm₁).calling g' mk As.toArray, t, U', L, hT, X', hL, e1, e2, hq, st⟩
  · dsimp only [Pt.U, Pt.locs, Pt.cells, Pt.slots] at X' e1 e2 h1 h2 h3 st hcl
    subst h1; subst h2; subst h3
    exact Or.inr ⟨q, (T.setVm vm₁).calling g' mk As.toArray, t, U', L, E, ce, hT, X', hL, e1, e2, hq, hce, hcv, vx_cls hW₁ hcl, st⟩
end Runs
section Rows
variable {p : Program} {l : Launch} {e : Env} {R : Room} {s : State} {m : MethodId} {args : Array Value} {below : List Frame} {meth : Method} {c : Code} {H : Heap} {locs : List Loc} {cells slots : Nat} {Q : State → Prop}
variable {mc ms : Nat} {free : Addr → Prop} {A0 A1 : Nat → Prop} {H0 : Heap} {a : Array Value} {pc : Nat} {ls : Array Slot} {st0 rest : List Value}
theorem vx_keep {st₀ t T' : State} {L : List Loc} (h0 : st₀.heap = H) (e1 : T'.heap = t.heap) (hS : va_S A0 H0 H locs) (hA : ∀ q, q < H.size → A1 q → A0 q) (hf : ∀ q, free q → A0 q) (hL : ∀ q ∈ L, free q.base) (hF : va_F A1 st₀ t) :
    H.size ≤ T'.heap.size ∧ (∀ q : Nat, q < H.size → ¬ A1 q → T'.heap[q]? = H[q]?) ∧ va_S A0 H0 T'.heap (locs ++ L) := by
  obtain ⟨hz, hk⟩ := hF
  rw [h0] at hz hk
  exact ⟨by rw [e1]; exact hz, fun q h1 h2 => by rw [e1]; exact hk q h1 h2,
    ⟨Nat.le_trans hS.1 (by rw [e1]; exact hz), fun q h1 h2 => by rw [e1, hk q (Nat.lt_of_lt_of_le h1 hS.1) (fun z => h2 (hA q (Nat.lt_of_lt_of_le h1 hS.1) z))]; exact hS.2.1 q h1 h2, fun q hq => by
      rcases List.mem_append.mp hq with h | h
      · exact hS.2.2 q h
      · exact hf _ (hL q h)⟩⟩
theorem vx_calli {S SX : Type} {post : Int32 → S → Prop} {px : SX → Prop} {B : S → State → Prop} {BX : String → SX → State → Prop} {AX : Nat → Prop} (hr : vx_Run p l e R s m args below meth c H locs cells slots mc ms (F0 m pc ls st0) rest (va_Qi post B A1 a) (vx_X px BX AX) free) (hS : va_S A0 H0 H locs) (hA : ∀ q, q < H.size → A1 q → A0 q) (hf : ∀ q, free q → A0 q) (hAX : ∀ q, q < H.size → AX q → A0 q)
    (kx : ∀ (E : String) (ce : Cell) (q9 : Addr) (u : SX) (t : State) (H1 : Heap) (locs1 : List Loc), t.heap = H1 → s.vm.Alike t.vm → px u → BX E u t → H.size ≤ H1.size → (∀ q : Nat, q < H.size → ¬ AX q → H1[q]? = H[q]?) → va_S A0 H0 H1 locs1 → H1[q9]? = some ce → ce.vm = .none → s.vm.findClass E = some ce.cls → vx_W p l e R s m args below meth c H1 locs1 (cells + mc) (slots + ms) Q (F0 m pc ls rest) q9)
    (kk : ∀ (r : Int32) (u : S) (t : State) (H1 : Heap) (locs1 : List Loc), t.heap = H1 → s.vm.Alike t.vm → post r u → B u t → H.size ≤ H1.size → (∀ q : Nat, q < H.size → ¬ A1 q → H1[q]? = H[q]?) → va_S A0 H0 H1 locs1 → W p l e R s m args below meth c H1 locs1 (cells + mc) (slots + ms) Q (F0 m (pc + 3) ls (.int r :: rest))) : W p l e R s m args below meth c H locs cells slots Q (F0 m pc ls st0) := by
  intro T hT X
  rcases hr T hT X with ⟨v, st₀, t, T', L, h0, X', hL, e1, e2, ⟨⟨r, u, hv, hp, hb⟩, hF⟩, st⟩ | ⟨q, st₀, t, T', L, E, ce, h0, X', hL, e1, e2, ⟨u, hp, hb, hF⟩, hce, hcv, hcl, st⟩
  · cases hv
    obtain ⟨k1, k2, k3⟩ := vx_keep h0 e1 hS hA hf hL hF
    obtain ⟨t2, a1, b1⟩ := kk r u t T'.heap (locs ++ L) e1.symm (by rw [← e2]; exact X'.warmed.alike) hp hb k1 k2 k3 T' rfl X'
    exact ⟨t2, st t2 a1, b1⟩
  · obtain ⟨k1, k2, k3⟩ := vx_keep h0 e1 hS hAX hf hL hF
    obtain ⟨t2, a1, b1⟩ := kx E ce q u t T'.heap (locs ++ L) e1.symm (by rw [← e2]; exact X'.warmed.alike) hp hb k1 k2 k3 (by rw [e1]; exact hce) hcv hcl T' rfl X'
    exact ⟨t2, st.trans a1, b1⟩
theorem vx_calll {S SX : Type} {post : Int64 → S → Prop} {px : SX → Prop} {B : S → State → Prop} {BX : String → SX → State → Prop} {AX : Nat → Prop} (hr : vx_Run p l e R s m args below meth c H locs cells slots mc ms (F0 m pc ls st0) rest (va_Ql post B A1 a) (vx_X px BX AX) free) (hS : va_S A0 H0 H locs) (hA : ∀ q, q < H.size → A1 q → A0 q) (hf : ∀ q, free q → A0 q) (hAX : ∀ q, q < H.size → AX q → A0 q)
    (kx : ∀ (E : String) (ce : Cell) (q9 : Addr) (u : SX) (t : State) (H1 : Heap) (locs1 : List Loc), t.heap = H1 → s.vm.Alike t.vm → px u → BX E u t → H.size ≤ H1.size → (∀ q : Nat, q < H.size → ¬ AX q → H1[q]? = H[q]?) → va_S A0 H0 H1 locs1 → H1[q9]? = some ce → ce.vm = .none → s.vm.findClass E = some ce.cls → vx_W p l e R s m args below meth c H1 locs1 (cells + mc) (slots + ms) Q (F0 m pc ls rest) q9)
    (kk : ∀ (r : Int64) (u : S) (t : State) (H1 : Heap) (locs1 : List Loc), t.heap = H1 → s.vm.Alike t.vm → post r u → B u t → H.size ≤ H1.size → (∀ q : Nat, q < H.size → ¬ A1 q → H1[q]? = H[q]?) → va_S A0 H0 H1 locs1 → W p l e R s m args below meth c H1 locs1 (cells + mc) (slots + ms) Q (F0 m (pc + 3) ls (.long r :: rest))) : W p l e R s m args below meth c H locs cells slots Q (F0 m pc ls st0) := by
  intro T hT X
  rcases hr T hT X with ⟨v, st₀, t, T', L, h0, X', hL, e1, e2, ⟨⟨r, u, hv, hp, hb⟩, hF⟩, st⟩ | ⟨q, st₀, t, T', L, E, ce, h0, X', hL, e1, e2, ⟨u, hp, hb, hF⟩, hce, hcv, hcl, st⟩
  · cases hv
    obtain ⟨k1, k2, k3⟩ := vx_keep h0 e1 hS hA hf hL hF
    obtain ⟨t2, a1, b1⟩ := kk r u t T'.heap (locs ++ L) e1.symm (by rw [← e2]; exact X'.warmed.alike) hp hb k1 k2 k3 T' rfl X'
    exact ⟨t2, st t2 a1, b1⟩
  · obtain ⟨k1, k2, k3⟩ := vx_keep h0 e1 hS hAX hf hL hF
    obtain ⟨t2, a1, b1⟩ := kx E ce q u t T'.heap (locs ++ L) e1.symm (by rw [← e2]; exact X'.warmed.alike) hp hb k1 k2 k3 (by rw [e1]; exact hce) hcv hcl T' rfl X'
    exact ⟨t2, st.trans a1, b1⟩
theorem vx_callf {S SX : Type} {post : UInt32 → S → Prop} {px : SX → Prop} {B : S → State → Prop} {BX : String → SX → State → Prop} {AX : Nat → Prop} (hr : vx_Run p l e R s m args below meth c H locs cells slots mc ms (F0 m pc ls st0) rest (va_Qf post B A1 a) (vx_X px BX AX) free) (hS : va_S A0 H0 H locs) (hA : ∀ q, q < H.size → A1 q → A0 q) (hf : ∀ q, free q → A0 q) (hAX : ∀ q, q < H.size → AX q → A0 q)
    (kx : ∀ (E : String) (ce : Cell) (q9 : Addr) (u : SX) (t : State) (H1 : Heap) (locs1 : List Loc), t.heap = H1 → s.vm.Alike t.vm → px u → BX E u t → H.size ≤ H1.size → (∀ q : Nat, q < H.size → ¬ AX q → H1[q]? = H[q]?) → va_S A0 H0 H1 locs1 → H1[q9]? = some ce → ce.vm = .none → s.vm.findClass E = some ce.cls → vx_W p l e R s m args below meth c H1 locs1 (cells + mc) (slots + ms) Q (F0 m pc ls rest) q9)
    (kk : ∀ (r : UInt32) (u : S) (t : State) (H1 : Heap) (locs1 : List Loc), t.heap = H1 → s.vm.Alike t.vm → post r u → B u t → H.size ≤ H1.size → (∀ q : Nat, q < H.size → ¬ A1 q → H1[q]? = H[q]?) → va_S A0 H0 H1 locs1 → W p l e R s m args below meth c H1 locs1 (cells + mc) (slots + ms) Q (F0 m (pc + 3) ls (.float r :: rest))) : W p l e R s m args below meth c H locs cells slots Q (F0 m pc ls st0) := by
  intro T hT X
  rcases hr T hT X with ⟨v, st₀, t, T', L, h0, X', hL, e1, e2, ⟨⟨r, u, hv, hp, hb⟩, hF⟩, st⟩ | ⟨q, st₀, t, T', L, E, ce, h0, X', hL, e1, e2, ⟨u, hp, hb, hF⟩, hce, hcv, hcl, st⟩
  · cases hv
    obtain ⟨k1, k2, k3⟩ := vx_keep h0 e1 hS hA hf hL hF
    obtain ⟨t2, a1, b1⟩ := kk r u t T'.heap (locs ++ L) e1.symm (by rw [← e2]; exact X'.warmed.alike) hp hb k1 k2 k3 T' rfl X'
    exact ⟨t2, st t2 a1, b1⟩
  · obtain ⟨k1, k2, k3⟩ := vx_keep h0 e1 hS hAX hf hL hF
    obtain ⟨t2, a1, b1⟩ := kx E ce q u t T'.heap (locs ++ L) e1.symm (by rw [← e2]; exact X'.warmed.alike) hp hb k1 k2 k3 (by rw [e1]; exact hce) hcv hcl T' rfl X'
    exact ⟨t2, st.trans a1, b1⟩
theorem vx_calld {S SX : Type} {post : UInt64 → S → Prop} {px : SX → Prop} {B : S → State → Prop} {BX : String → SX → State → Prop} {AX : Nat → Prop} (hr : vx_Run p l e R s m args below meth c H locs cells slots mc ms (F0 m pc ls st0) rest (va_Qd post B A1 a) (vx_X px BX AX) free) (hS : va_S A0 H0 H locs) (hA : ∀ q, q < H.size → A1 q → A0 q) (hf : ∀ q, free q → A0 q) (hAX : ∀ q, q < H.size → AX q → A0 q)
    (kx : ∀ (E : String) (ce : Cell) (q9 : Addr) (u : SX) (t : State) (H1 : Heap) (locs1 : List Loc), t.heap = H1 → s.vm.Alike t.vm → px u → BX E u t → H.size ≤ H1.size → (∀ q : Nat, q < H.size → ¬ AX q → H1[q]? = H[q]?) → va_S A0 H0 H1 locs1 → H1[q9]? = some ce → ce.vm = .none → s.vm.findClass E = some ce.cls → vx_W p l e R s m args below meth c H1 locs1 (cells + mc) (slots + ms) Q (F0 m pc ls rest) q9)
    (kk : ∀ (r : UInt64) (u : S) (t : State) (H1 : Heap) (locs1 : List Loc), t.heap = H1 → s.vm.Alike t.vm → post r u → B u t → H.size ≤ H1.size → (∀ q : Nat, q < H.size → ¬ A1 q → H1[q]? = H[q]?) → va_S A0 H0 H1 locs1 → W p l e R s m args below meth c H1 locs1 (cells + mc) (slots + ms) Q (F0 m (pc + 3) ls (.double r :: rest))) : W p l e R s m args below meth c H locs cells slots Q (F0 m pc ls st0) := by
  intro T hT X
  rcases hr T hT X with ⟨v, st₀, t, T', L, h0, X', hL, e1, e2, ⟨⟨r, u, hv, hp, hb⟩, hF⟩, st⟩ | ⟨q, st₀, t, T', L, E, ce, h0, X', hL, e1, e2, ⟨u, hp, hb, hF⟩, hce, hcv, hcl, st⟩
  · cases hv
    obtain ⟨k1, k2, k3⟩ := vx_keep h0 e1 hS hA hf hL hF
    obtain ⟨t2, a1, b1⟩ := kk r u t T'.heap (locs ++ L) e1.symm (by rw [← e2]; exact X'.warmed.alike) hp hb k1 k2 k3 T' rfl X'
    exact ⟨t2, st t2 a1, b1⟩
  · obtain ⟨k1, k2, k3⟩ := vx_keep h0 e1 hS hAX hf hL hF
    obtain ⟨t2, a1, b1⟩ := kx E ce q u t T'.heap (locs ++ L) e1.symm (by rw [← e2]; exact X'.warmed.alike) hp hb k1 k2 k3 (by rw [e1]; exact hce) hcv hcl T' rfl X'
    exact ⟨t2, st.trans a1, b1⟩
theorem vx_callv {S SX : Type} {post : S → Prop} {px : SX → Prop} {B : S → State → Prop} {BX : String → SX → State → Prop} {AX : Nat → Prop} (hr : vx_Run p l e R s m args below meth c H locs cells slots mc ms (F0 m pc ls st0) rest (va_Qv post B A1 a) (vx_X px BX AX) free) (hS : va_S A0 H0 H locs) (hA : ∀ q, q < H.size → A1 q → A0 q) (hf : ∀ q, free q → A0 q) (hAX : ∀ q, q < H.size → AX q → A0 q)
    (kx : ∀ (E : String) (ce : Cell) (q9 : Addr) (u : SX) (t : State) (H1 : Heap) (locs1 : List Loc), t.heap = H1 → s.vm.Alike t.vm → px u → BX E u t → H.size ≤ H1.size → (∀ q : Nat, q < H.size → ¬ AX q → H1[q]? = H[q]?) → va_S A0 H0 H1 locs1 → H1[q9]? = some ce → ce.vm = .none → s.vm.findClass E = some ce.cls → vx_W p l e R s m args below meth c H1 locs1 (cells + mc) (slots + ms) Q (F0 m pc ls rest) q9)
    (kk : ∀ (u : S) (t : State) (H1 : Heap) (locs1 : List Loc), t.heap = H1 → s.vm.Alike t.vm → post u → B u t → H.size ≤ H1.size → (∀ q : Nat, q < H.size → ¬ A1 q → H1[q]? = H[q]?) → va_S A0 H0 H1 locs1 → W p l e R s m args below meth c H1 locs1 (cells + mc) (slots + ms) Q (F0 m (pc + 3) ls (rest))) : W p l e R s m args below meth c H locs cells slots Q (F0 m pc ls st0) := by
  intro T hT X
  rcases hr T hT X with ⟨v, st₀, t, T', L, h0, X', hL, e1, e2, ⟨⟨u, hv, hp, hb⟩, hF⟩, st⟩ | ⟨q, st₀, t, T', L, E, ce, h0, X', hL, e1, e2, ⟨u, hp, hb, hF⟩, hce, hcv, hcl, st⟩
  · cases hv
    obtain ⟨k1, k2, k3⟩ := vx_keep h0 e1 hS hA hf hL hF
    obtain ⟨t2, a1, b1⟩ := kk u t T'.heap (locs ++ L) e1.symm (by rw [← e2]; exact X'.warmed.alike) hp hb k1 k2 k3 T' rfl X'
    exact ⟨t2, st t2 a1, b1⟩
  · obtain ⟨k1, k2, k3⟩ := vx_keep h0 e1 hS hAX hf hL hF
    obtain ⟨t2, a1, b1⟩ := kx E ce q u t T'.heap (locs ++ L) e1.symm (by rw [← e2]; exact X'.warmed.alike) hp hb k1 k2 k3 (by rw [e1]; exact hce) hcv hcl T' rfl X'
    exact ⟨t2, st.trans a1, b1⟩
/-- caught by the row x of this method's table; the rows ahead don't take it -/
theorem vx_catch {own name : String} {E : String} {ce : Cell} {q : Addr} (hown : s.vm.findClass own = some m.cls) (pre : List ExceptionTableEntry) (x : ExceptionTableEntry) (suf : List ExceptionTableEntry) (hsplit : c.exceptionTable.toList = pre ++ x :: suf)
    (hpass : ∀ z ∈ pre, covers z pc = false ∨ (z.catchType ≠ 0 ∧ ∃ nm : String, (Cond.classLink own z.catchType nm).before args s = true ∧ va_Nc E nm s)) (hx : covers x pc = true) (h0 : x.catchType ≠ 0)
    (hlink : (Cond.classLink own x.catchType name).before args s = true) (hcast : (Cond.castable E name).before args s = true) (hcell : H[q]? = some ce) (hv : ce.vm = .none) (hcl : s.vm.findClass E = some ce.cls)
    (kk : W p l e R s m args below meth c H locs cells slots Q (F0 m x.handlerPc ls [.ref q])) : vx_W p l e R s m args below meth c H locs cells slots Q (F0 m pc ls rest) q := by
  intro T hT X
  have hpl : e.platform.magicAccessors = ({} : Platform).magicAccessors := by rw [X.admits.platform]
  obtain ⟨c3, c4, hc3, hc4, hasg⟩ := Cond.castable_spec hcast
  cases Option.some.inj (hc3.symm.trans hcl)
  obtain ⟨c5, hc5, hcl5⟩ := Cond.classLink_spec hown hlink e.platform hpl
  cases Option.some.inj (hc4.symm.trans hc5)
  obtain ⟨vm', X', st⟩ := X.thenCaughtThrough q (g := F0 m pc ls rest) rfl (Steps.refl _) (by rw [hT]; exact hcell) (by rw [hv]; rfl) (by obtain ⟨k9, h9, -⟩ := Vm.findClass_spec hcl; exact ⟨k9, h9⟩) pre x suf hsplit
    (fun z hz => by
      rcases hpass z hz with h | ⟨hz0, nm, hl1, hn1⟩
      · exact Or.inl h
      · obtain ⟨c6, hc6, hcl6⟩ := Cond.classLink_spec hown hl1 e.platform hpl
        obtain ⟨a8, b8, h1, h2, h3⟩ := hn1
        cases Option.some.inj (h1.symm.trans hcl)
        cases Option.some.inj (h2.symm.trans hc6)
        exact Or.inr ⟨hz0, _, hcl6, h3⟩) hx (Or.inr ⟨h0, c4, hcl5, hasg⟩)
  obtain ⟨t, a1, b1⟩ := kk (T.setVm vm') hT X'
  exact ⟨t, st.trans a1, b1⟩
end Rows
section Ends
variable {p : Program} {l : Launch} {e : Env} {R : Room} {s : State} {m : MethodId} {args : Array Value} {below : List Frame} {meth : Method} {c : Code} {H : Heap} {locs : List Loc} {cells slots : Nat} {Q : State → Prop}
variable {mc ms : Nat} {free : Addr → Prop} {A0 A1 : Nat → Prop} {H0 : Heap} {a : Array Value} {ls : Array Slot} {st0 rest : List Value}
variable {Qc : Array Value → State → Outcome → State → Prop} {XC : String → State → State → Prop}
/-- what a body that may throw owes at its end -/
def vx_MQ (below : List Frame) (Qc : Array Value → State → Outcome → State → Prop) (XC : String → State → State → Prop) (a : Array Value) (s : State) (mc ms : Nat) (free : Addr → Prop) : State → Prop := fun t =>
  ∃ o, t.status = .running ∧ Ended t below o ∧ vx_Q Qc XC mc ms free a s o t
theorem vx_ret {g : JFrame} {mc ms : Nat} (k : W p l e R s m args below meth c H locs cells slots (MQ below Qc args s mc ms free) g) : W p l e R s m args below meth c H locs cells slots (vx_MQ below Qc XC args s mc ms free) g := by
  intro T hT X
  obtain ⟨t, a1, o, b1, b2, b3, b4⟩ := k T hT X
  exact ⟨t, a1, o, b1, b2, Or.inl ⟨b3, b4⟩⟩
/-- not caught here: it goes on to the caller -/
theorem vx_widen {g : JFrame} {q : Addr} {k n : Nat} (h1 : cells ≤ k) (h2 : slots ≤ n) (kk : vx_W p l e R s m args below meth c H locs k n Q g q) : vx_W p l e R s m args below meth c H locs cells slots Q g q := fun T hT X => kk T hT (stand_widen X h1 h2)
theorem vx_out {pc : Nat} {E : String} {ce : Cell} {q : Addr} {mc ms : Nat} (hout : ∀ x ∈ c.exceptionTable.toList, covers x pc = false) (hlocks : meth.locks = false) (hcell : H[q]? = some ce) (hv : ce.vm = .none) (hcl : s.vm.findClass E = some ce.cls)
    (hx : ∀ t : State, t.heap = H → s.vm.Alike t.vm → XC E s t) (hf : ∀ z ∈ locs, free z.base) (hc : cells ≤ mc) (hs : slots ≤ ms) :
    vx_W p l e R s m args below meth c H locs cells slots (vx_MQ below Qc XC args s mc ms free) (F0 m pc ls rest) q := by
  intro T hT X
  obtain ⟨st1, hrun, hend, hW, hsm⟩ := X.leaveThrown q (g := F0 m pc ls rest) rfl rfl rfl hout hlocks
  have hcell9 : (T.setFrames (.throwing q :: below)).heap[q]? = some ce := by
    show T.heap[q]? = some ce
    rw [hT]; exact hcell
  exact ⟨_, st1, .threw q, hrun, hend, Or.inr ⟨q, rfl, E, ce, locs, hx _ hT hW.alike, hcell9, hv, hcl, hW, hsm.mono hc hs, hf⟩⟩
theorem vx_frame {U : State} {k n : Nat} (h : s.sameButNew ({ U with vm := s.vm } : State) locs k n) : s.heap.size ≤ U.heap.size ∧ ∀ q : Nat, q < s.heap.size → (∀ z ∈ locs, z.base ≠ q) → U.heap[q]? = s.heap[q]? := by
  obtain ⟨-, h2, -, -, -, h6⟩ := h
  refine ⟨h2, fun q hq hz => ?_⟩
  obtain ⟨c9, e1, e2, e3, e4⟩ := h6 q _ (Array.getElem?_eq_getElem hq)
  have hs : c9.slots = (s.heap[q]).slots := Array.ext_getElem? fun i => e4 i fun hm => hz _ hm rfl
  have h9 : c9 = s.heap[q] := by
    rw [hs] at e2
    exact e2
  have e5 : U.heap[q]? = some c9 := e1
  rw [e5, h9, Array.getElem?_eq_getElem hq]
/-- the words of a throw but the four that speak of the heap -/
def vx_no (w : Cond) : Bool := decide (w ≠ .isRef (.static Bundle.tN "UNASSIGNED_STACK" Bundle.steD)) && decide (w ≠ .isRef (.static Bundle.tN "SUPPRESSED_SENTINEL" Bundle.listD)) && decide (w ≠ .laysStatic Bundle.tN "UNASSIGNED_STACK" Bundle.steD) && decide (w ≠ .laysStatic Bundle.tN "SUPPRESSED_SENTINEL" Bundle.listD)
def vx_at0 (own : String) (ic : Nat) (X : String) (names : List String) : List Cond := (Bundle.ownAtoms0 own ic X names).filter vx_no
def vx_atS (own : String) (ic : Nat) (X : String) (names : List String) : List Cond := (Bundle.ownAtoms own ic X names).filter vx_no
/-- a word that the tables alone decide, or a good one -/
def vx_ot (w : Cond) : Bool := w.onTables || goodWord w
theorem vx_ot_at {args a' : Array Value} {s U : State} {w : Cond} (hW : s.WarmedH U.vm) (hvm : s.vm = U.vm) (hg : vx_ot w = true) (h : w.before args s = true) : w.before a' U = true := by
  simp only [vx_ot, Bool.or_eq_true] at hg
  rcases hg with hg | hg
  · exact va_tabs hg hvm h
  · exact word_at hW (good_of_word hg) h
/-- a list's words: the good ones out of the method's own list, the others by premises of their own -/
theorem vx_hat {args : Array Value} {s : State} {L B : List Cond} (h1 : ∀ w ∈ L.filter goodWord, w.before args s = true) (h2 : ∀ w ∈ L.filter (fun w => !goodWord w), w ∈ B) (h3 : ∀ w ∈ B, w.before args s = true) : ∀ w ∈ L, w.before args s = true := by
  intro w hw
  by_cases g : goodWord w = true
  · exact h1 w (List.mem_filter.mpr ⟨hw, g⟩)
  · refine h3 w (h2 w (List.mem_filter.mpr ⟨hw, ?_⟩))
    show (!goodWord w) = true
    cases hgw : goodWord w
    · rfl
    · exact absurd hgw g
theorem vx_c {args : Array Value} {s : State} {w : Cond} {B : List Cond} (h : w.before args s = true) (t : ∀ w ∈ B, w.before args s = true) : ∀ w' ∈ w :: B, w'.before args s = true := fun w' h' => (List.mem_cons.mp h').elim (fun e => by rw [e]; exact h) (t w')
theorem vx_n {args : Array Value} {s : State} : ∀ w ∈ ([] : List Cond), w.before args s = true := fun _ h => nomatch h
theorem vx_own {args : Array Value} {s : State} {L : List Cond} (h1 : ∀ w ∈ L.filter vx_no, w.before args s = true)
    (hU : (Cond.isRef (.static Bundle.tN "UNASSIGNED_STACK" Bundle.steD)).before args s = true) (hN : (Cond.isRef (.static Bundle.tN "SUPPRESSED_SENTINEL" Bundle.listD)).before args s = true)
    (lU : (Cond.laysStatic Bundle.tN "UNASSIGNED_STACK" Bundle.steD).before args s = true) (lN : (Cond.laysStatic Bundle.tN "SUPPRESSED_SENTINEL" Bundle.listD).before args s = true) : ∀ w ∈ L, w.before args s = true := by
  intro w hw
  by_cases e1 : w = .isRef (.static Bundle.tN "UNASSIGNED_STACK" Bundle.steD)
  · rw [e1]; exact hU
  · by_cases e2 : w = .isRef (.static Bundle.tN "SUPPRESSED_SENTINEL" Bundle.listD)
    · rw [e2]; exact hN
    · by_cases e3 : w = .laysStatic Bundle.tN "UNASSIGNED_STACK" Bundle.steD
      · rw [e3]; exact lU
      · by_cases e4 : w = .laysStatic Bundle.tN "SUPPRESSED_SENTINEL" Bundle.listD
        · rw [e4]; exact lN
        · exact h1 w (List.mem_filter.mpr ⟨hw, by unfold vx_no; rw [decide_eq_true e1, decide_eq_true e2, decide_eq_true e3, decide_eq_true e4]; rfl⟩)
/-- where a static field lies, its class's statics cell in H -/
def vx_L (C n d : String) (A : Nat → Prop) (U : State) (H : Heap) : Prop := ∃ (c : ClassId) (k : Class) (i : Nat) (f : Field) (a : Nat) (cell : Cell), U.vm.findClass C = some c ∧ U.fieldFound? C n d = some (c, k, i, f) ∧ f.isStatic = true ∧ k.statics = some a ∧ H[a]? = some cell ∧ cell.vm.isStatics = true ∧ cell.cls = c ∧ f.slot < cell.slots.size ∧ k.staticTypes[f.slot]? = some f.type ∧ ¬ A a
theorem vx_L.moved {C n d : String} {A : Nat → Prop} {u U : State} {H : Heap} (hvm : u.vm.Alike U.vm) (h : vx_L C n d A u H) : vx_L C n d A U H := by
  obtain ⟨c, k, i, f, a, cell, h1, h2, h3, h4, h5, h6, h7, h8, h9, h10⟩ := h
  obtain ⟨k', hi', he⟩ := State.fieldFound?_setVm hvm h2
  exact ⟨c, k', i, f, a, cell, by rw [hvm.findClass]; exact h1, hi', h3, by rw [he]; exact h4, h5, h6, h7, h8, by rw [he]; exact h9, h10⟩
theorem vx_L.kept {C n d : String} {A : Nat → Prop} {U : State} {H H1 : Heap} (h : vx_L C n d A U H) (hq : ∀ a : Nat, a < H.size → ¬ A a → H1[a]? = H[a]?) : vx_L C n d A U H1 := by
  obtain ⟨c, k, i, f, a, cell, h1, h2, h3, h4, h5, h6, h7, h8, h9, h10⟩ := h
  exact ⟨c, k, i, f, a, cell, h1, h2, h3, h4, by rw [hq a (Array.getElem?_eq_some_iff.mp h5).1 h10]; exact h5, h6, h7, h8, h9, h10⟩
theorem vx_L.narrow {C n d : String} {A B : Nat → Prop} {U : State} {H : Heap} (h : vx_L C n d A U H) (hAB : ∀ q, B q → A q) : vx_L C n d B U H := by
  obtain ⟨c, k, i, f, a, cell, h1, h2, h3, h4, h5, h6, h7, h8, h9, h10⟩ := h
  exact ⟨c, k, i, f, a, cell, h1, h2, h3, h4, h5, h6, h7, h8, h9, fun z => h10 (hAB _ z)⟩
theorem vx_L.word {C n d : String} {A : Nat → Prop} {s : State} {args : Array Value} (h : vx_L C n d A s s.heap) : (Cond.laysStatic C n d).before args s = true := by
  obtain ⟨c, k, i, f, a, cell, h1, h2, h3, h4, h5, h6, h7, h8, h9, -⟩ := h
  show (Cond.laysStatic C n d).holds args s none s [] = true
  exact Cond.laysStatic_of h1 h2 h3 h4 h5 h6 h7 h8 h9
/-- .. and what it holds: null or some reference -/
def vx_Zq (C n d : String) (A : Nat → Prop) (U : State) (H : Heap) : Prop := va_Zq C n d A U H ∧ vx_L C n d A U H
theorem vx_Zq.moved {C n d : String} {A : Nat → Prop} {u U : State} {H : Heap} (hvm : u.vm.Alike U.vm) (h : vx_Zq C n d A u H) : vx_Zq C n d A U H := ⟨va_Zq.moved hvm h.1, vx_L.moved hvm h.2⟩
theorem vx_Zq.kept {C n d : String} {A : Nat → Prop} {U : State} {H H1 : Heap} (h : vx_Zq C n d A U H) (hq : ∀ a : Nat, a < H.size → ¬ A a → H1[a]? = H[a]?) : vx_Zq C n d A U H1 := ⟨va_Zq.kept h.1 hq, vx_L.kept h.2 hq⟩
theorem vx_Zq.narrow {C n d : String} {A B : Nat → Prop} {U : State} {H : Heap} (h : vx_Zq C n d A U H) (hAB : ∀ q, B q → A q) : vx_Zq C n d B U H := ⟨va_Zq.narrow h.1 hAB, vx_L.narrow h.2 hAB⟩
theorem vx_Zqof {args : Array Value} {s : State} {C n d : String} {A : Nat → Prop} (hl : (Cond.laysStatic C n d).before args s = true) (hini : (Cond.initialized C).before args s = true) (h : (Cond.isRef (.static C n d)).before args s = true) (hA : ∀ a : Nat, a < s.heap.size → ¬ A a) : vx_Zq C n d A s s.heap := by
  refine ⟨va_Zqof hl hini h hA, ?_⟩
  obtain ⟨c, k, i, f, a, cell, h1, h2, h3, h4, h5, h6, h7, h8, h9⟩ := Cond.laysStatic_spec hl
  exact ⟨c, k, i, f, a, cell, h1, h2, h3, h4, h5, h6, h7, h8, h9, hA a (Array.getElem?_eq_some_iff.mp h5).1⟩
theorem vx_isRef {C n d : String} {v : Value} {A : Nat → Prop} {s : State} {args : Array Value} (h : va_Z C n d v A s s.heap) (hv : v.isRef = true) : (Cond.isRef (.static C n d)).before args s = true := by
  obtain ⟨cf, kf, fi, f, a, cell, h1, h2, h3, h4, h5, h6, h7, -⟩ := h
  have he : (Term.static C n d).eval args s none [] s = some v := by
    simp [Term.eval, State.fieldNamed?, h1, h2, h4, h5, h6, h7]
  simp only [Cond.before, Cond.holds, Cond.value, he]
  cases v <;> simp_all [Value.isRef]
theorem vx_isRefq {C n d : String} {A : Nat → Prop} {s : State} {args : Array Value} (h : va_Zq C n d A s s.heap) : (Cond.isRef (.static C n d)).before args s = true := by
  rcases h with h | ⟨t, h⟩
  · exact vx_isRef h rfl
  · exact vx_isRef h rfl
/-- the same frame, seen from here: as if the method were called anew in this heap -/
theorem vx_rebase {T : State} (X : Stand p l e R s m args below meth c T locs cells slots) {R' : Room} (hf : R'.frames ≤ R.frames) (hl : R'.locals ≤ R.locals) (hc : cells + R'.cells ≤ R.cells) (hs : slots + R'.slots ≤ R.slots) :
    Stand p l e R' ((T.setVm s.vm).setFrames (.invoking m args :: below)) m args below meth c T [] 0 0 := by
  have htop : (T.setVm s.vm).topJava?.isSome := X.here.top
  have hF : ((T.setVm s.vm).setFrames (.invoking m args :: below)).frames = .invoking m args :: below := State.frames_setFrames _ (State.cur_lt_of_top htop)
  obtain ⟨g₀, hg0⟩ := Option.isSome_iff_exists.mp htop
  obtain ⟨r, hr⟩ := State.topJava?_eq_some.mp hg0
  have hl9 : e.platform.stackLimits (T.setVm s.vm).me = e.platform.stackLimits s.me := X.limits
  have hb9 : (T.setVm s.vm).me.stackBytes = s.me.stackBytes := X.bytes
  refine ⟨X.admits, X.cas, X.clock, hF, ?_, X.hears, X.method, X.code, X.here, X.tail, X.warmed, ?_, ?_, ?_⟩
  · have h := X.room
    have hU : ((T.setVm s.vm).setFrames (.invoking m args :: below)).localsInUse = s.localsInUse := by
      rw [State.localsInUse_invoking hF (meth := meth) (c := c) X.method X.code, State.localsInUse_invoking X.frames X.method X.code]
    simp only [State.hasRoom, Bool.and_eq_true, decide_eq_true_eq] at h ⊢
    obtain ⟨⟨⟨⟨h1, h2, h3, h4, h5, h6⟩, h7⟩, h8⟩, h9⟩ := h
    rw [X.frames, List.length_cons] at h2 h3
    have q1 := X.heapSize
    have q2 := X.used
    simp only [hF, hU, List.length_cons, State.stackLimits_setFrames, State.stackBytes_setFrames, hl9, hb9]
    refine ⟨⟨⟨⟨by omega, by omega, by omega, by omega, by omega, h6⟩, ?_⟩, ?_⟩, X.book⟩
    · show T.heap.size + R'.cells ≤ e.platform.maxCells
      omega
    · show T.slotsUsed + R'.slots ≤ e.platform.maxSlots
      omega
  · rw [State.stackLimits_setFrames]; rfl
  · rw [State.stackBytes_setFrames]; rfl
  · refine ⟨?_, Nat.le_refl _, Nat.le_refl _, ?_, ?_, fun a c9 h9 => ⟨c9, h9, rfl, rfl, fun _ _ => rfl⟩⟩
    · obtain ⟨t, ht, -⟩ := State.frames_cons hr
      show T.setVm s.vm = { ((T.setVm s.vm).setFrames (.invoking m args :: below)).setFrames (T.setVm s.vm).frames with heap := T.heap, slotsUsed := T.slotsUsed }
      rw [State.setFrames_setFrames, State.setFrames_self ht]
      rfl
    · show T.slotsUsed = T.slotsUsed + ((T.heap.toList.drop T.heap.size).map (·.slots.size)).sum
      rw [List.drop_eq_nil_of_le (Nat.le_of_eq Array.length_toList)]
      rfl
    · show ((T.heap.toList.drop T.heap.size).map (·.slots.size)).sum ≤ 0
      rw [List.drop_eq_nil_of_le (Nat.le_of_eq Array.length_toList)]
      exact Nat.le_refl _
/-- 'throw new E()': new; dup; invokespecial; athrow -/
theorem vx_throw0 {cc : ByteArray} {pc : Nat} (hexec : p.tables.exec = Jvm.exec) (hb : c.code = cc) (hl : l.stackTraces = false) {own cls : String} {names : List String} {ik ic mc ms : Nat} {A : Nat → Prop}
    (hown : s.vm.findClass own = some m.cls) (hcls : Bundle.fit cls = true) (hnames : ∀ n ∈ names, Bundle.fit n = true)
    (hk : (Cond.classLink own ik cls).before args s = true) (hini : (Cond.initialized cls).before args s = true) (hat : ∀ w ∈ vx_at0 own ic cls names, w.before args s = true)
    (hgood : ∀ w ∈ Cond.classLink own ik cls :: Cond.initialized cls :: vx_at0 own ic cls names, vx_ot w = true)
    (hU : vx_Zq Bundle.tN "UNASSIGNED_STACK" Bundle.steD A s s.heap) (hN : vx_Zq Bundle.tN "SUPPRESSED_SENTINEL" Bundle.listD A s s.heap) (hS : va_S A s.heap H locs) (hsize : ls.size = c.maxLocals)
    (d0 : decode cc pc = .ok (.new ik, 3)) (d3 : decode cc (pc + 3) = .ok (.dup, 1)) (d4 : decode cc (pc + 4) = .ok (.invokespecial ic, 3)) (d7 : decode cc (pc + 7) = .ok (.athrow, 1))
    (hout : ∀ x ∈ c.exceptionTable.toList, covers x (pc + 7) = false)
    (hRframes : names.length + 3 < R.frames) (hRlocals : (rest.map fun v => v.category).sum + (13 * (names.length + 1) + 42) ≤ R.locals) (hRcells : cells + 1 ≤ R.cells) (hRslots : slots + 6 ≤ R.slots) (hlocks : meth.locks = false)
    (hx : ∀ t : State, s.vm.Alike t.vm → H.size ≤ t.heap.size → (∀ q : Nat, q < H.size → t.heap[q]? = H[q]?) → XC cls s t)
    (hf : ∀ z ∈ locs, free z.base) (hc : cells + 1 ≤ mc) (hs : slots + 6 ≤ ms) :
    W p l e R s m args below meth c H locs cells slots (vx_MQ below Qc XC args s mc ms free) (F0 m pc ls rest) := by
  intro T hT X
  have htr : e.platform.stackTraces = false := (show e.platform.stackTraces = l.stackTraces by rw [X.admits.platform]).trans hl
  have Y := vx_rebase X (R' := { frames := R.frames, locals := R.locals, cells := 1, slots := 6 }) (Nat.le_refl _) (Nat.le_refl _) hRcells hRslots
  obtain ⟨s', hA⟩ : ∃ z, z = (T.setVm s.vm).setFrames (.invoking m args :: below) := ⟨_, rfl⟩
  rw [← hA] at Y
  have hvm : s'.vm = s.vm := by rw [hA]; rfl
  have hhp : s'.heap = H := by rw [hA]; exact hT
  have hW0 : s.WarmedH s'.vm := by rw [hvm]; exact State.WarmedH.refl s
  have hat' : ∀ w ∈ vx_at0 own ic cls names, w.before args s' = true := fun w hw => vx_ot_at hW0 hvm.symm (hgood w (List.mem_cons_of_mem _ (List.mem_cons_of_mem _ hw))) (hat w hw)
  have hk' : (Cond.classLink own ik cls).before args s' = true := vx_ot_at hW0 hvm.symm (hgood _ List.mem_cons_self) hk
  have hini' : (Cond.initialized cls).before args s' = true := vx_ot_at hW0 hvm.symm (hgood _ (List.mem_cons_of_mem _ List.mem_cons_self)) hini
  have hU' : vx_Zq Bundle.tN "UNASSIGNED_STACK" Bundle.steD A s' s'.heap := by rw [hhp]; exact vx_Zq.moved hW0.alike (hU.kept hS.2.1)
  have hN' : vx_Zq Bundle.tN "SUPPRESSED_SENTINEL" Bundle.listD A s' s'.heap := by rw [hhp]; exact vx_Zq.moved hW0.alike (hN.kept hS.2.1)
  have h : ∀ w ∈ Bundle.ownAtoms0 own ic cls names, w.before args s' = true := vx_own hat' (vx_isRefq hU'.1) (vx_isRefq hN'.1) hU'.2.word hN'.2.word
  have hown' : s'.vm.findClass own = some m.cls := by rw [hvm]; exact hown
  have hins : (Cond.instantiable cls 6).before args s' = true := h _ (by simp [Bundle.ownAtoms0])
  obtain ⟨vm₁, cX, kX, hfX, hkX, -, -, X₁, st1⟩ := Y.newCold hexec (own := own) (C := cls) (index := ik) (n := 6) hown' hk' hins hini'
    (g := F0 m pc ls rest) rfl (by rw [hb]; exact d0) (Nat.le_refl _) (Nat.le_refl _)
  generalize hT1 : (T.setVm vm₁).pushCell { cls := cX, slots := kX.instanceTypes.map defaultValue, vm := .none } = T1 at X₁ st1
  have hcat : (Value.ref T.heap.size).category = 1 := rfl
  have hcellA : T1.heap[T.heap.size]? = some (freshCell cX kX) := by rw [← hT1]; exact State.heap_pushCell_size _ _
  have d3' : decode c.code (pc + 3) = .ok (.dup, 1) := by rw [hb]; exact d3
  obtain ⟨U, hsteps, hrun, hend, hW, hsame, ce, hce, hO⟩ := X₁.ctorThrow0 hexec htr (own := own) (cls := cls) (names := names) (ic := ic) hown' hcls hnames h (fun x hx => nomatch hx) hfX hkX hcellA (by rw [hhp, hT]; exact Nat.le_refl _)
    (g := { method := m, pc := pc + 4, locals := ls, stack := .ref T.heap.size :: .ref T.heap.size :: rest, locked := none }) rfl hsize rfl rfl (rest := rest) rfl
    (by rw [hb]; exact d4) (by rw [hb]; exact d7) hout hRframes (by simp only [List.map_cons, List.sum_cons, hcat]; omega) hlocks
  obtain ⟨f1, f2⟩ := vx_frame hsame
  rw [hhp] at f1 f2
  have hWs : s.WarmedH U.vm := State.WarmedH.trans hW0 hW
  have hcl : s.vm.findClass cls = some ce.cls := by
    have h9 := hO.cls
    rw [hvm] at h9
    exact h9
  have hall : s.sameButNew ({ U with vm := s.vm } : State) locs mc ms := by
    subst hA
    obtain ⟨e1, e2⟩ := hsame
    rw [State.setFrames_setFrames] at e1
    have h2 : (T.setVm s.vm).sameButNew ({ U with vm := s.vm } : State) [] (0 + 1) (0 + 6) := ⟨e1, e2⟩
    have h3 := X.same.trans h2
    rw [List.append_nil] at h3
    exact h3.mono hc hs
  refine ⟨U, ?_, .threw T.heap.size, hrun, hend, Or.inr ⟨T.heap.size, rfl, cls, ce, locs, hx U hWs.alike f1 (fun q hq => f2 q hq (fun z hz => nomatch hz)), hce, hO.vm, hcl, hWs, hall, hf⟩⟩
  refine st1 _ ?_
  show Steps p.tables e below (T1.setTop { method := m, pc := pc + 3, locals := ls, stack := .ref T.heap.size :: rest, locked := none }) _
  jvm_step X₁.here [X₁.here.top, hexec, d3', Value.category]
  exact hsteps
/-- 'throw new E("text")': new; dup; ldc; invokespecial; athrow -/
theorem vx_throwS {cc : ByteArray} {pc : Nat} (hexec : p.tables.exec = Jvm.exec) (hb : c.code = cc) (hl : l.stackTraces = false) {own cls text : String} {names : List String} {ik is ic mc ms sa : Nat} {A : Nat → Prop}
    (hown : s.vm.findClass own = some m.cls) (hcls : Bundle.fit cls = true) (hnames : ∀ n ∈ names, Bundle.fit n = true)
    (hk : (Cond.classLink own ik cls).before args s = true) (hini : (Cond.initialized cls).before args s = true) (hstr : vk_R own is text sa s) (hat : ∀ w ∈ vx_atS own ic cls names, w.before args s = true)
    (hgood : ∀ w ∈ Cond.classLink own ik cls :: Cond.initialized cls :: vx_atS own ic cls names, vx_ot w = true)
    (hU : vx_Zq Bundle.tN "UNASSIGNED_STACK" Bundle.steD A s s.heap) (hN : vx_Zq Bundle.tN "SUPPRESSED_SENTINEL" Bundle.listD A s s.heap) (hS : va_S A s.heap H locs) (hsize : ls.size = c.maxLocals)
    (d0 : decode cc pc = .ok (.new ik, 3)) (d3 : decode cc (pc + 3) = .ok (.dup, 1)) (d4 : decode cc (pc + 4) = .ok (.ldc is, 2)) (d6 : decode cc (pc + 6) = .ok (.invokespecial ic, 3)) (d9 : decode cc (pc + 9) = .ok (.athrow, 1))
    (hout : ∀ x ∈ c.exceptionTable.toList, covers x (pc + 9) = false)
    (hRframes : names.length + 3 < R.frames) (hRlocals : (rest.map fun v => v.category).sum + (13 * (names.length + 1) + 43) ≤ R.locals) (hRcells : cells + 1 ≤ R.cells) (hRslots : slots + 6 ≤ R.slots) (hlocks : meth.locks = false)
    (hx : ∀ t : State, s.vm.Alike t.vm → H.size ≤ t.heap.size → (∀ q : Nat, q < H.size → t.heap[q]? = H[q]?) → XC cls s t)
    (hf : ∀ z ∈ locs, free z.base) (hc : cells + 1 ≤ mc) (hs : slots + 6 ≤ ms) :
    W p l e R s m args below meth c H locs cells slots (vx_MQ below Qc XC args s mc ms free) (F0 m pc ls rest) := by
  intro T hT X
  have htr : e.platform.stackTraces = false := (show e.platform.stackTraces = l.stackTraces by rw [X.admits.platform]).trans hl
  have Y := vx_rebase X (R' := { frames := R.frames, locals := R.locals, cells := 1, slots := 6 }) (Nat.le_refl _) (Nat.le_refl _) hRcells hRslots
  obtain ⟨s', hA⟩ : ∃ z, z = (T.setVm s.vm).setFrames (.invoking m args :: below) := ⟨_, rfl⟩
  rw [← hA] at Y
  have hvm : s'.vm = s.vm := by rw [hA]; rfl
  have hhp : s'.heap = H := by rw [hA]; exact hT
  have hW0 : s.WarmedH s'.vm := by rw [hvm]; exact State.WarmedH.refl s
  have hat' : ∀ w ∈ vx_atS own ic cls names, w.before args s' = true := fun w hw => vx_ot_at hW0 hvm.symm (hgood w (List.mem_cons_of_mem _ (List.mem_cons_of_mem _ hw))) (hat w hw)
  have hk' : (Cond.classLink own ik cls).before args s' = true := vx_ot_at hW0 hvm.symm (hgood _ List.mem_cons_self) hk
  have hini' : (Cond.initialized cls).before args s' = true := vx_ot_at hW0 hvm.symm (hgood _ (List.mem_cons_of_mem _ List.mem_cons_self)) hini
  have hU' : vx_Zq Bundle.tN "UNASSIGNED_STACK" Bundle.steD A s' s'.heap := by rw [hhp]; exact vx_Zq.moved hW0.alike (hU.kept hS.2.1)
  have hN' : vx_Zq Bundle.tN "SUPPRESSED_SENTINEL" Bundle.listD A s' s'.heap := by rw [hhp]; exact vx_Zq.moved hW0.alike (hN.kept hS.2.1)
  have h : ∀ w ∈ Bundle.ownAtoms own ic cls names, w.before args s' = true := vx_own hat' (vx_isRefq hU'.1) (vx_isRefq hN'.1) hU'.2.word hN'.2.word
  have hown' : s'.vm.findClass own = some m.cls := by rw [hvm]; exact hown
  have hins : (Cond.instantiable cls 6).before args s' = true := h _ (by simp [Bundle.ownAtoms])
  obtain ⟨vm₁, cX, kX, hfX, hkX, -, -, X₁, st1⟩ := Y.newCold hexec (own := own) (C := cls) (index := ik) (n := 6) hown' hk' hins hini'
    (g := F0 m pc ls rest) rfl (by rw [hb]; exact d0) (Nat.le_refl _) (Nat.le_refl _)
  generalize hT1 : (T.setVm vm₁).pushCell { cls := cX, slots := kX.instanceTypes.map defaultValue, vm := .none } = T1 at X₁ st1
  have hcat : (Value.ref T.heap.size).category = 1 := rfl
  have hcellA : T1.heap[T.heap.size]? = some (freshCell cX kX) := by rw [← hT1]; exact State.heap_pushCell_size _ _
  have d3' : decode c.code (pc + 3) = .ok (.dup, 1) := by rw [hb]; exact d3
  have d4' : decode c.code (pc + 4) = .ok (.ldc is, 2) := by rw [hb]; exact d4
  have hstr' : vk_R own is text sa s' := vk_R.warm hW0 hstr
  obtain ⟨U, hsteps, hrun, hend, hW, hsame, ce, hce, hO⟩ := X₁.ctorThrowS hexec htr (own := own) (cls := cls) (names := names) (ic := ic) hown' hcls hnames h (fun x hx => nomatch hx) hfX hkX hcellA (by rw [hhp, hT]; exact Nat.le_refl _) (msg := .ref sa) rfl
    (g := { method := m, pc := pc + 6, locals := ls, stack := .ref sa :: .ref T.heap.size :: .ref T.heap.size :: rest, locked := none }) rfl hsize rfl rfl (rest := rest) rfl
    (by rw [hb]; exact d6) (by rw [hb]; exact d9) hout hRframes (by simp only [List.map_cons, List.sum_cons, hcat]; omega) hlocks
  obtain ⟨f1, f2⟩ := vx_frame hsame
  rw [hhp] at f1 f2
  have hWs : s.WarmedH U.vm := State.WarmedH.trans hW0 hW
  have hcl : s.vm.findClass cls = some ce.cls := by
    have h9 := hO.cls
    rw [hvm] at h9
    exact h9
  have hall : s.sameButNew ({ U with vm := s.vm } : State) locs mc ms := by
    subst hA
    obtain ⟨e1, e2⟩ := hsame
    rw [State.setFrames_setFrames] at e1
    have h2 : (T.setVm s.vm).sameButNew ({ U with vm := s.vm } : State) [] (0 + 1) (0 + 6) := ⟨e1, e2⟩
    have h3 := X.same.trans h2
    rw [List.append_nil] at h3
    exact h3.mono hc hs
  refine ⟨U, ?_, .threw T.heap.size, hrun, hend, Or.inr ⟨T.heap.size, rfl, cls, ce, locs, hx U hWs.alike f1 (fun q hq => f2 q hq (fun z hz => nomatch hz)), hce, hO.vm, hcl, hWs, hall, hf⟩⟩
  refine st1 _ ?_
  show Steps p.tables e below (T1.setTop { method := m, pc := pc + 3, locals := ls, stack := .ref T.heap.size :: rest, locked := none }) _
  jvm_step X₁.here [X₁.here.top, hexec, d3', Value.category]
  exact X₁.ldcString hexec (own := own) (text := text) (index := is) (a := sa) hown' hstr'.1 hstr'.2
    (g := { method := m, pc := pc + 4, locals := ls, stack := .ref T.heap.size :: .ref T.heap.size :: rest, locked := none }) rfl d4' _ hsteps
/-- 'throw new E("text")', the text by a wide index -/
theorem vx_throwSW {cc : ByteArray} {pc : Nat} (hexec : p.tables.exec = Jvm.exec) (hb : c.code = cc) (hl : l.stackTraces = false) {own cls text : String} {names : List String} {ik is ic mc ms sa : Nat} {A : Nat → Prop}
    (hown : s.vm.findClass own = some m.cls) (hcls : Bundle.fit cls = true) (hnames : ∀ n ∈ names, Bundle.fit n = true)
    (hk : (Cond.classLink own ik cls).before args s = true) (hini : (Cond.initialized cls).before args s = true) (hstr : vk_R own is text sa s) (hat : ∀ w ∈ vx_atS own ic cls names, w.before args s = true)
    (hgood : ∀ w ∈ Cond.classLink own ik cls :: Cond.initialized cls :: vx_atS own ic cls names, vx_ot w = true)
    (hU : vx_Zq Bundle.tN "UNASSIGNED_STACK" Bundle.steD A s s.heap) (hN : vx_Zq Bundle.tN "SUPPRESSED_SENTINEL" Bundle.listD A s s.heap) (hS : va_S A s.heap H locs) (hsize : ls.size = c.maxLocals)
    (d0 : decode cc pc = .ok (.new ik, 3)) (d3 : decode cc (pc + 3) = .ok (.dup, 1)) (d4 : decode cc (pc + 4) = .ok (.ldc_w is, 3)) (d7 : decode cc (pc + 7) = .ok (.invokespecial ic, 3)) (d10 : decode cc (pc + 10) = .ok (.athrow, 1))
    (hout : ∀ x ∈ c.exceptionTable.toList, covers x (pc + 10) = false)
    (hRframes : names.length + 3 < R.frames) (hRlocals : (rest.map fun v => v.category).sum + (13 * (names.length + 1) + 43) ≤ R.locals) (hRcells : cells + 1 ≤ R.cells) (hRslots : slots + 6 ≤ R.slots) (hlocks : meth.locks = false)
    (hx : ∀ t : State, s.vm.Alike t.vm → H.size ≤ t.heap.size → (∀ q : Nat, q < H.size → t.heap[q]? = H[q]?) → XC cls s t)
    (hf : ∀ z ∈ locs, free z.base) (hc : cells + 1 ≤ mc) (hs : slots + 6 ≤ ms) :
    W p l e R s m args below meth c H locs cells slots (vx_MQ below Qc XC args s mc ms free) (F0 m pc ls rest) := by
  intro T hT X
  have htr : e.platform.stackTraces = false := (show e.platform.stackTraces = l.stackTraces by rw [X.admits.platform]).trans hl
  have Y := vx_rebase X (R' := { frames := R.frames, locals := R.locals, cells := 1, slots := 6 }) (Nat.le_refl _) (Nat.le_refl _) hRcells hRslots
  obtain ⟨s', hA⟩ : ∃ z, z = (T.setVm s.vm).setFrames (.invoking m args :: below) := ⟨_, rfl⟩
  rw [← hA] at Y
  have hvm : s'.vm = s.vm := by rw [hA]; rfl
  have hhp : s'.heap = H := by rw [hA]; exact hT
  have hW0 : s.WarmedH s'.vm := by rw [hvm]; exact State.WarmedH.refl s
  have hat' : ∀ w ∈ vx_atS own ic cls names, w.before args s' = true := fun w hw => vx_ot_at hW0 hvm.symm (hgood w (List.mem_cons_of_mem _ (List.mem_cons_of_mem _ hw))) (hat w hw)
  have hk' : (Cond.classLink own ik cls).before args s' = true := vx_ot_at hW0 hvm.symm (hgood _ List.mem_cons_self) hk
  have hini' : (Cond.initialized cls).before args s' = true := vx_ot_at hW0 hvm.symm (hgood _ (List.mem_cons_of_mem _ List.mem_cons_self)) hini
  have hU' : vx_Zq Bundle.tN "UNASSIGNED_STACK" Bundle.steD A s' s'.heap := by rw [hhp]; exact vx_Zq.moved hW0.alike (hU.kept hS.2.1)
  have hN' : vx_Zq Bundle.tN "SUPPRESSED_SENTINEL" Bundle.listD A s' s'.heap := by rw [hhp]; exact vx_Zq.moved hW0.alike (hN.kept hS.2.1)
  have h : ∀ w ∈ Bundle.ownAtoms own ic cls names, w.before args s' = true := vx_own hat' (vx_isRefq hU'.1) (vx_isRefq hN'.1) hU'.2.word hN'.2.word
  have hown' : s'.vm.findClass own = some m.cls := by rw [hvm]; exact hown
  have hins : (Cond.instantiable cls 6).before args s' = true := h _ (by simp [Bundle.ownAtoms])
  obtain ⟨vm₁, cX, kX, hfX, hkX, -, -, X₁, st1⟩ := Y.newCold hexec (own := own) (C := cls) (index := ik) (n := 6) hown' hk' hins hini'
    (g := F0 m pc ls rest) rfl (by rw [hb]; exact d0) (Nat.le_refl _) (Nat.le_refl _)
  generalize hT1 : (T.setVm vm₁).pushCell { cls := cX, slots := kX.instanceTypes.map defaultValue, vm := .none } = T1 at X₁ st1
  have hcat : (Value.ref T.heap.size).category = 1 := rfl
  have hcellA : T1.heap[T.heap.size]? = some (freshCell cX kX) := by rw [← hT1]; exact State.heap_pushCell_size _ _
  have d3' : decode c.code (pc + 3) = .ok (.dup, 1) := by rw [hb]; exact d3
  have d4' : decode c.code (pc + 4) = .ok (.ldc_w is, 3) := by rw [hb]; exact d4
  have hstr' : vk_R own is text sa s' := vk_R.warm hW0 hstr
  obtain ⟨U, hsteps, hrun, hend, hW, hsame, ce, hce, hO⟩ := X₁.ctorThrowS hexec htr (own := own) (cls := cls) (names := names) (ic := ic) hown' hcls hnames h (fun x hx => nomatch hx) hfX hkX hcellA (by rw [hhp, hT]; exact Nat.le_refl _) (msg := .ref sa) rfl
    (g := { method := m, pc := pc + 7, locals := ls, stack := .ref sa :: .ref T.heap.size :: .ref T.heap.size :: rest, locked := none }) rfl hsize rfl rfl (rest := rest) rfl
    (by rw [hb]; exact d7) (by rw [hb]; exact d10) hout hRframes (by simp only [List.map_cons, List.sum_cons, hcat]; omega) hlocks
  obtain ⟨f1, f2⟩ := vx_frame hsame
  rw [hhp] at f1 f2
  have hWs : s.WarmedH U.vm := State.WarmedH.trans hW0 hW
  have hcl : s.vm.findClass cls = some ce.cls := by
    have h9 := hO.cls
    rw [hvm] at h9
    exact h9
  have hall : s.sameButNew ({ U with vm := s.vm } : State) locs mc ms := by
    subst hA
    obtain ⟨e1, e2⟩ := hsame
    rw [State.setFrames_setFrames] at e1
    have h2 : (T.setVm s.vm).sameButNew ({ U with vm := s.vm } : State) [] (0 + 1) (0 + 6) := ⟨e1, e2⟩
    have h3 := X.same.trans h2
    rw [List.append_nil] at h3
    exact h3.mono hc hs
  refine ⟨U, ?_, .threw T.heap.size, hrun, hend, Or.inr ⟨T.heap.size, rfl, cls, ce, locs, hx U hWs.alike f1 (fun q hq => f2 q hq (fun z hz => nomatch hz)), hce, hO.vm, hcl, hWs, hall, hf⟩⟩
  refine st1 _ ?_
  show Steps p.tables e below (T1.setTop { method := m, pc := pc + 3, locals := ls, stack := .ref T.heap.size :: rest, locked := none }) _
  jvm_step X₁.here [X₁.here.top, hexec, d3', Value.category]
  exact X₁.ldcStringW hexec (own := own) (text := text) (index := is) (a := sa) hown' hstr'.1 hstr'.2
    (g := { method := m, pc := pc + 4, locals := ls, stack := .ref T.heap.size :: .ref T.heap.size :: rest, locked := none }) rfl d4' _ hsteps
end Ends
section Bodies
variable {l : Launch}
theorem vx_ofW {y : MethodName} {ws ws' : List Cond} {rm : Room} {Pc : Array Value → State → Prop} {Qc : Array Value → State → Outcome → State → Prop} {XC : String → State → State → Prop} {mc ms : Nat} {free : Addr → Prop} {cc : ByteArray} {maxL : Nat} {ret : Option FieldType}
    (hy : plainName y.cls = true) (hw : ws = Cond.code y cc maxL ret :: ws')
    (body : ∀ p e s m args below meth c s₁, BodyLoose p l y (headSpec ws rm) cc maxL ret e s m args below meth c s₁ → c.maxLocals = maxL → (∀ x ∈ c.exceptionTable.toList, False) → Pc args s →
      W p l e (headSpec ws rm).room s m args below meth c s.heap [] 0 0 (vx_MQ below Qc XC args s mc ms free) (entryFrame m args maxL)) : vx_Met l y ws rm Pc Qc XC mc ms free := by
  refine MetFree.of_bodyS (code := cc) (maxLocals := maxL) (ret := ret) hy ?_ ?_
  · intro args s m h hn
    obtain ⟨meth, c, h1, h2, h3, h4, h5, h6, -, -⟩ := Cond.code_spec hn (atoms_spec (ws := ws) h _ (by rw [hw]; exact List.mem_cons_self))
    exact ⟨meth, c, h1, h2, h3, h4, h5, h6⟩
  · intro p e s m args below meth c s₁ B hml hP _
    have hh0 : s₁.heap = s.heap := by rw [B.state]; rfl
    have ht : ∀ x ∈ c.exceptionTable.toList, False := by
      obtain ⟨meth9, c9, h1, h2, -, -, -, -, h7, -⟩ := Cond.code_spec B.named (atoms_spec (ws := ws) B.pre _ (by rw [hw]; exact List.mem_cons_self))
      cases Option.some.inj (h1.symm.trans B.method)
      cases Option.some.inj (h2.symm.trans (Stand.of_body B).code)
      intro x hx
      rw [Array.isEmpty_iff.mp h7] at hx
      cases hx
    obtain ⟨t, a1, o, b1, b2, b3⟩ := body p e s m args below meth c s₁ B hml ht hP s₁ hh0 (Stand.of_body B)
    exact ⟨t, o, a1, b1, b2, b3⟩
/-- the table of a body with handlers -/
theorem vx_table {p : Program} {x y : MethodName} {S : Spec} {cc bytes : ByteArray} {maxL maxL' : Nat} {ret ret' : Option FieldType} {e : Env} {s s₁ : State} {m : MethodId} {args : Array Value} {below : List Frame} {meth : Method} {c : Code} {hh : List (Nat × Nat × Nat × Nat)}
    (B : BodyLoose p l y S cc maxL ret e s m args below meth c s₁) (h : (Cond.codeWith y bytes maxL' ret' hh).before args s = true) : c.exceptionTable.toList = tableOf hh := by
  obtain ⟨m9, meth9, c9, hn9, h1, h2, -, -, h6, -⟩ := Cond.codeWith_spec h
  cases Option.some.inj (hn9.symm.trans B.named)
  cases Option.some.inj (h1.symm.trans B.method)
  cases Option.some.inj (h2.symm.trans (Stand.of_body B).code)
  rw [← h6, table_eq]
end Bodies
end VXA
/-! ===== END ===== -/
/-! ===== BEGIN a static call of a method with an exception table ===== -/
section VXS
variable {p : Program} {l : Launch} {e : Env} {R : Room} {s : State} {m : MethodId} {args : Array Value} {below : List Frame} {meth : Method} {c : Code} {T : State} {H : Heap} {locs : List Loc} {cells slots : Nat}
abbrev vx_CSW (R : Room) (s : State) (args : Array Value) (own : String) (index : Nat) (y : MethodName) (bytes : ByteArray) (maxL : Nat) (ret : Option FieldType) (hh : List (Nat × Nat × Nat × Nat)) (ws : List Cond) (rm : Room) (mc ms n : Nat) : Prop :=
  (rm.cells = mc ∧ rm.slots = ms ∧ rm.frames + 1 ≤ R.frames ∧ 8 + (maxL + 11) + rm.locals ≤ R.locals ∧ (∀ w ∈ ws, ∀ (a' : Array Value) (U : State), s.WarmedH U.vm → w.before a' U = true) ∧ Cond.codeWith y bytes maxL ret hh ∈ ws) ∧
  (Cond.codeWith y bytes maxL ret hh).before args s = true ∧ (Cond.initialized y.cls).before args s = true ∧ (y.cls ≠ "java/lang/invoke/MethodHandle" ∧ y.cls ≠ "java/lang/invoke/VarHandle") ∧
  (∀ sig, parseMethodDescriptor y.desc = some sig → n = sig.parameters.length) ∧ (Cond.methodLink own index y).before args s = true ∧ (Cond.static y).before args s = true
theorem vx_cwSW {own : String} {index maxL mc ms : Nat} {y : MethodName} {bytes : ByteArray} {ret : Option FieldType} {hh : List (Nat × Nat × Nat × Nat)} {Ts ws ws' : List Cond} {rm : Room} (n : Nat) (ht : ∀ w ∈ Ts, w.before args s = true) (hT : GoodIn Ts (va_wsS own index y ws)) (hw : ws = Cond.codeWith y bytes maxL ret hh :: ws') (hrc : rm.cells = mc) (hrs : rm.slots = ms)
    (hd : y.cls ≠ "java/lang/invoke/MethodHandle" ∧ y.cls ≠ "java/lang/invoke/VarHandle" ∧ (parseMethodDescriptor y.desc).map (fun d => d.parameters.length) = some n) (hR : rm.frames + 1 ≤ R.frames ∧ 8 + (maxL + 11) + rm.locals ≤ R.locals) :
    vx_CSW R s args own index y bytes maxL ret hh ws rm mc ms n := by
  have ok : ∀ w ∈ va_wsS own index y ws, w.before args s = true := fun w h => ht w (hT w h).1
  have hG : GoodIn Ts ws := fun w h => hT w (by unfold va_wsS; exact List.mem_append_right _ h)
  have hc : Cond.codeWith y bytes maxL ret hh ∈ ws := by rw [hw]; exact List.mem_cons_self
  refine ⟨⟨hrc, hrs, hR.1, hR.2, pay_in ht hG, hc⟩, ht _ (hG _ hc).1, ok _ (by simp [va_wsS]), ⟨hd.1, hd.2.1⟩, fun sig h => ?_, ok _ (by simp [va_wsS]), ok _ (by simp [va_wsS])⟩
  have h2 := hd.2.2
  rw [h] at h2
  exact (Option.some.inj h2).symm
theorem vx_callSW (X : Stand p l e R s m args below meth c T locs cells slots) (hexec : p.tables.exec = Jvm.exec) {own : String} {index : Nat} {y : MethodName} {bytes : ByteArray} {maxL : Nat} {ret : Option FieldType} {hh : List (Nat × Nat × Nat × Nat)}
    (hown : s.vm.findClass own = some m.cls) (hlink : (Cond.methodLink own index y).before args s = true) (hstat : (Cond.static y).before args s = true) (hinit : (Cond.initialized y.cls).before args s = true)
    (hcode : (Cond.codeWith y bytes maxL ret hh).before args s = true) (hy : y.cls ≠ "java/lang/invoke/MethodHandle" ∧ y.cls ≠ "java/lang/invoke/VarHandle")
    {W9 : Nat} {Pre : Pt → Array Value → Prop} {Post : Pt → Array Value → Option Value → Pt → Prop} (hK : Back l R p e below s args y 3 W9 Pre Post)
    {g : JFrame} (hg : g.method = m) (hsize : g.locals.size = c.maxLocals) {argsL rest : List Value} (hlen : ∀ sig, parseMethodDescriptor y.desc = some sig → argsL.length = sig.parameters.length)
    (hstack : g.stack = argsL.reverse ++ rest) (hW : 2 * g.monitorRoom + (rest.map fun v => v.category).sum ≤ W9) (hdg : decode c.code g.pc = .ok (.invokestatic index, 3))
    (hpre : ∀ vm₁, s.WarmedH vm₁ → Pre ⟨T.setVm vm₁, locs, cells, slots⟩ argsL.toArray) :
    ∃ (v : Option Value) (vm₁ : Vm) (B : Pt), s.WarmedH vm₁ ∧ Stand p l e R s m args below meth c B.U B.locs B.cells B.slots ∧ Post ⟨T.setVm vm₁, locs, cells, slots⟩ argsL.toArray v B ∧
      ∀ target, Steps p.tables e below (B.U.setTop { g with pc := g.pc + 3, stack := v.toList ++ rest }) target → Steps p.tables e below (T.setTop g) target := by
  obtain ⟨mk, methM, cM, hnamed, hmethM, -, -, -, -, -, -, hsigM⟩ := Cond.codeWith_spec hcode
  have hstatic : methM.isStatic = true := Cond.static_spec hnamed hmethM hstat
  obtain ⟨kP, hkP, -⟩ := className_of_methodNamed hnamed
  have hinitP : kP.init = .initialized := Cond.initialized_spec (findClass_of_methodNamed hnamed) hkP hinit
  obtain ⟨vm₁, X₁, hstep₁⟩ := X.invokestatic hexec hown hlink hnamed hmethM hstatic hkP hinitP hy (g := g) hg (argsL := argsL) (rest := rest) (hlen _ hsigM) hstack hdg
  obtain ⟨v, B, X', hpost, hsteps⟩ := hK m meth c ⟨T.setVm vm₁, locs, cells, slots⟩ { g with stack := rest } (.invokestatic index) mk argsL.toArray X₁ hg hsize hdg hW (X₁.named hnamed) (hpre vm₁ X₁.warmed)
  exact ⟨v, vm₁, B, X₁.warmed, X', hpost, fun target h => hstep₁ _ fun acts => by rw [doInvoke_state]; exact hsteps.trans h⟩
theorem vx_runSW {y : MethodName} {bytes cc : ByteArray} {maxL nL mc ms n index : Nat} {ret : Option FieldType} {hh : List (Nat × Nat × Nat × Nat)} {ws : List Cond} {rm : Room} {Pc : Array Value → State → Prop} {Qc : Array Value → State → Outcome → State → Prop} {free : Addr → Prop} {Ts : List Cond} {own : String} {As rest : List Value} {g : JFrame}
    (S : CallFix p m c cc nL s args Ts own) (hM : Met l y ws rm Pc Qc mc ms free) (cw : vx_CSW R s args own index y bytes maxL ret hh ws rm mc ms n) (hp : PreS s H Pc As)
    (hg : g.method = m) (hn : As.length = n) (hsize : g.locals.size = nL) (hstack : g.stack = As.reverse ++ rest) (hW : 2 * g.monitorRoom + (rest.map fun v => v.category).sum ≤ 8) (hdg : decode cc g.pc = .ok (.invokestatic index, 3)) (hf : cells + mc ≤ R.cells ∧ slots + ms ≤ R.slots) :
    va_Run p l e R s m args below meth c H locs cells slots mc ms g rest (Qc As.toArray) (free) := by
  obtain ⟨⟨hrc, hrs, hfr, hlo, hws, hcw⟩, hcode, hini, hy, hlen, hl, hstt⟩ := cw
  have hK : Back l R p e below s args y 3 8 (PreOf R mc ms Pc) (PostOf Qc mc ms free) := va_backW (hh := hh) (bytes := bytes) (maxL := maxL) (ret := ret) hM hp.1 hrc hrs hfr hlo hws hcw (fun a' U hW => word_at hW (Or.inl (by first | rfl | simp [Cond.onTables, Cond.keeps, Cond.steady])) hini)
  obtain ⟨hx, hb, hml, ho, -⟩ := S
  intro T hT X
  obtain ⟨v, vm₁, ⟨U', l2, c2, s2⟩, hW₁, X', ⟨g', mk, t, L, e1, e2, hq, h1, hL, h2, h3⟩, st⟩ := vx_callSW X hx (hh := hh) (bytes := bytes) (maxL := maxL) (ret := ret) ho hl hstt hini hcode hy hK hg (hsize.trans hml.symm) (argsL := As) (rest := rest) (fun sig h => hn.trans (hlen sig h)) hstack hW (by rw [hb]; exact hdg)
    (fun vm₁ hW₁ => ⟨hf.1, hf.2, hp.2 (T.setVm vm₁) hT hW₁⟩)
  dsimp only [Pt.U, Pt.locs, Pt.cells, Pt.slots] at X' e1 e2 h1 h2 h3 st
  subst h1; subst h2; subst h3
  exact ⟨v, (T.setVm vm₁).calling g' mk As.toArray, t, U', L, hT, X', hL, e1, e2, hq, st⟩
/-- not caught here, past rows that name other classes: it goes on to the caller -/
theorem vx_outP {p : Program} {l : Launch} {e : Env} {R : Room} {s : State} {m : MethodId} {args : Array Value} {below : List Frame} {meth : Method} {c : Code} {H : Heap} {locs : List Loc} {cells slots : Nat} {free : Addr → Prop} {ls : Array Slot} {rest : List Value} {Qc : Array Value → State → Outcome → State → Prop} {XC : String → State → State → Prop}
    {pc : Nat} {own E : String} {ce : Cell} {q : Addr} {mc ms : Nat} (hown : s.vm.findClass own = some m.cls) (hlocks : meth.locks = false)
    (hpass : ∀ z ∈ c.exceptionTable.toList, covers z pc = false ∨ (z.catchType ≠ 0 ∧ ∃ nm : String, (Cond.classLink own z.catchType nm).before args s = true ∧ va_Nc E nm s)) (hcell : H[q]? = some ce) (hv : ce.vm = .none) (hcl : s.vm.findClass E = some ce.cls)
    (hx : ∀ t : State, t.heap = H → s.vm.Alike t.vm → XC E s t) (hf : ∀ z ∈ locs, free z.base) (hc : cells ≤ mc) (hs : slots ≤ ms) :
    vx_W p l e R s m args below meth c H locs cells slots (vx_MQ below Qc XC args s mc ms free) (F0 m pc ls rest) q := by
  intro T hT X
  have hpl : e.platform.magicAccessors = ({} : Platform).magicAccessors := by rw [X.admits.platform]
  obtain ⟨vm', hW', X', st⟩ := X.outThrough hlocks q (g := F0 m pc ls rest) rfl rfl rfl (cell := ce) (by rw [hT]; exact hcell) (by rw [hv]; rfl)
    (by obtain ⟨k9, h9, -⟩ := Vm.findClass_spec hcl; exact ⟨k9, h9⟩) (fun z hz => by
      rcases hpass z hz with h | ⟨hz0, nm, hl1, hn1⟩
      · exact Or.inl h
      · obtain ⟨c6, hc6, hcl6⟩ := Cond.classLink_spec hown hl1 e.platform hpl
        obtain ⟨a8, b8, h1, h2, h3⟩ := hn1
        cases Option.some.inj (h1.symm.trans hcl)
        cases Option.some.inj (h2.symm.trans hc6)
        exact Or.inr ⟨hz0, _, hcl6, h3⟩)
  obtain ⟨g₀, hfr⟩ := X'.frames_eq
  have hcell9 : ((T.setVm vm').setFrames (.throwing q :: below)).heap[q]? = some ce := by
    show T.heap[q]? = some ce
    rw [hT]; exact hcell
  have hend : Ended ((T.setVm vm').setFrames (.throwing q :: below)) below (.threw q) := State.frames_setFrames _ (State.cur_lt_of_frames hfr)
  refine ⟨(T.setVm vm').setFrames (.throwing q :: below), ?_, .threw q, X'.here.running, hend, Or.inr ⟨q, rfl, E, ce, locs, hx _ hT (X'.ends _).1.alike, hcell9, hv, hcl, (X'.ends _).1, (X'.ends _).2.mono hc hs, hf⟩⟩
  rw [X.pushThrowing_eq]
  exact st
/-- a thing of a world lies in the heap -/
theorem vx_lt {D : va_G} {cl : List vw_C} {ws : va_W} {H1 : Heap} (h : va_P D cl ws H1) {k : Nat} {q : Nat × va_E} (hk : ws[k]? = some q) : q.1 < H1.size := (h k q hk).lt
end VXS
/-! ===== END ===== -/
/-! ===== BEGIN methods with a table of their own: called by a name, returning or throwing ===== -/
section VXH
/-! vx_backW, vx_callVX, vx_callSX, vx_callVW, vx_runVW, vx_runVX, vx_runSX, vx_ofWH follow the same proofs as their sisters above (Free/Laws.lean, Shelf42/LK1.lean); vx_outP calls Shelf42/NT130.lean (outThrough). -/
section
variable {l : Launch} {R : Room} {p : Program} {e : Env} {below : List Frame} {s : State} {sargs : Array Value} {y : MethodName} {len W9 : Nat}
theorem vx_backW {ws : List Cond} {rm : Room} {Pc : Array Value → State → Prop} {Qc : Array Value → State → Outcome → State → Prop} {XC : String → State → State → Prop} {mc ms : Nat} {free : Addr → Prop} {bytes : ByteArray} {maxL : Nat} {ret : Option FieldType} {hh : List (Nat × Nat × Nat × Nat)}
    (hM : vx_Met l y ws rm Pc Qc XC mc ms free) (hblind : FrameBlind Pc) (hrc : rm.cells = mc) (hrs : rm.slots = ms)
    (hframes : rm.frames + 1 ≤ R.frames) (hlocals : W9 + (maxL + 11) + rm.locals ≤ R.locals)
    (hws : ∀ w ∈ ws, ∀ a' U, s.WarmedH U.vm → w.before a' U = true) (hcode : Cond.codeWith y bytes maxL ret hh ∈ ws) (hinit : ∀ a' U, s.WarmedH U.vm → (Cond.initialized y.cls).before a' U = true) :
    vx_Back l R p e below s sargs y len W9 (PreOf R mc ms Pc) (PostOf Qc mc ms free) (vx_Post XC mc ms free) := by
  intro m meth c A g ig mk a X hg hsize hdg hW hn hp
  have h1 : (headSpec ws rm).pre.before a A.U = true := atoms_intro fun w hw => hws w hw _ _ X.warmed
  have h2 : (Cond.codeWith y bytes maxL ret hh).before a A.U = true := hws _ hcode _ _ X.warmed
  have h3 : (Cond.initialized y.cls).before a A.U = true := hinit _ _ X.warmed
  have h4 : A.cells + (headSpec ws rm).room.cells ≤ R.cells := by rw [show (headSpec ws rm).room.cells = mc from hrc]; exact hp.1
  have h5 : A.slots + (headSpec ws rm).room.slots ≤ R.slots := by rw [show (headSpec ws rm).room.slots = ms from hrs]; exact hp.2.1
  have hPc : Pc a (A.U.calling g mk a) := hblind _ _ _ _ hp.2.2
  obtain ⟨U, Ls, c0, s0⟩ := A
  dsimp only [Pt.U, Pt.locs, Pt.cells, Pt.slots] at h1 h2 h3 h4 h5 X hn hPc ⊢
  obtain ⟨m9, methY, cY, hn9, hmY, hcY, -, hlY, -⟩ := Cond.codeWith_spec h2
  cases Option.some.inj (hn9.symm.trans hn)
  obtain ⟨kY, hkY, -⟩ := className_of_methodNamed hn
  have hinitY : kY.init = .initialized := Cond.initialized_spec (findClass_of_methodNamed hn) hkY h3
  have h : At U g.method c below := by rw [hg]; exact X.here
  have hlocals9 : W9 + (maxL + 11) + (headSpec ws rm).room.locals ≤ R.locals := hlocals
  have happ : (headSpec ws rm).appliesLoose y e.platform (U.calling g mk a) = true :=
    Spec.appliesLoose_calling (g := g) h hdg hn hkY hinitY
      (X.room_calling (g := g) (R' := (headSpec ws rm).room) hsize hmY hcY hframes (by rw [hlY]; omega) h4 h5) h1
  obtain ⟨mid, hmid⟩ := h.above
  have hfr : (U.setTop g).frames = (.java g :: mid) ++ below := by rw [State.frames_setTop' g h.top, hmid]; rfl
  obtain ⟨o, s₂, hsteps, -, hend, hq⟩ := Steps.callFree hM p X.admits X.cas X.clock (acts := []) hfr happ hPc trivial
  have hq' : vx_Q Qc XC mc ms free a (U.calling g mk a) o s₂ := hq
  rw [State.frames_setTop' g h.top] at hend
  obtain ⟨g₀, hg0⟩ := Option.isSome_iff_exists.mp h.top
  obtain ⟨r, hr⟩ := State.topJava?_eq_some.mp hg0
  have hr' : (({ U with heap := s₂.heap, slotsUsed := s₂.slotsUsed } : State).setVm s₂.vm).frames = .java g₀ :: r := hr
  rcases hq' with ⟨hqc, L, hfe, hL⟩ | ⟨q, rfl, E, ce, L, hx, hce, hcv, hcl, hW₂, hsm, hL⟩
  · obtain ⟨⟨v, rfl⟩, hW₂, e2, q2, q3, q4, q5, q6⟩ := id hfe
    have e3 : s₂ = ({ (U.calling g mk a).setFrames s₂.frames with heap := s₂.heap, slotsUsed := s₂.slotsUsed } : State).setVm s₂.vm := by
      have : s₂ = ({ s₂ with vm := (U.calling g mk a).vm } : State).setVm s₂.vm := rfl
      rw [e2] at this
      exact this
    obtain ⟨c₂, i₂, len₂, hc₂, hd₂, hf₂⟩ := hend
    have hW' : U.WarmedH s₂.vm := hW₂
    have hcc : c₂ = c := by
      have h1 : s₂.code? g.method = U.code? g.method := by
        rw [State.code?_eq, State.code?_eq, hW'.alike.method?]
      exact Option.some.inj (hc₂.symm.trans (h1.trans h.code))
    subst hcc
    have hlen : len₂ = len := by rw [hdg] at hd₂; cases hd₂; rfl
    subst hlen
    have hs₂ : s₂ = (({ U with heap := s₂.heap, slotsUsed := s₂.slotsUsed } : State).setVm s₂.vm).setTop { g with pc := g.pc + len₂, stack := v.toList ++ g.stack } := by
      refine e3.trans ?_
      rw [hf₂, State.calling_eq h.top, State.setFrames_setFrames, State.setTop_of_frames _ hr', hr]
      rfl
    have hsame : U.sameButNew ({ U with heap := s₂.heap, slotsUsed := s₂.slotsUsed } : State) L mc ms := by
      refine ⟨?_, q2, q3, q4, q5, q6⟩
      obtain ⟨t, ht, -⟩ := State.frames_cons hr
      show ({ U with heap := s₂.heap, slotsUsed := s₂.slotsUsed } : State) = { U.setFrames U.frames with heap := s₂.heap, slotsUsed := s₂.slotsUsed }
      rw [State.setFrames_self ht]
    subst hg
    refine Or.inl ⟨v, ⟨(({ U with heap := s₂.heap, slotsUsed := s₂.slotsUsed } : State).setVm s₂.vm), Ls ++ L, c0 + mc, s0 + ms⟩,
      ⟨X.admits, X.cas, X.clock, X.frames, X.room, X.hears, X.method, X.code, (X.here.setHeapUsed s₂.heap s₂.slotsUsed).setVm hW'.alike, X.tail, State.WarmedH.trans X.warmed hW', X.limits, X.bytes, X.same.trans (hsame.setVm s.vm)⟩,
      ⟨g, mk, s₂, L, rfl, rfl, hqc, rfl, hL, rfl, rfl⟩, ?_⟩
    show Steps p.tables e below _ ((({ U with heap := s₂.heap, slotsUsed := s₂.slotsUsed } : State).setVm s₂.vm).setTop { g with pc := g.pc + len₂, stack := v.toList ++ g.stack })
    rw [← hs₂]
    exact hsteps
  · obtain ⟨e2, q2, q3, q4, q5, q6⟩ := id hsm
    have e3 : s₂ = ({ (U.calling g mk a).setFrames s₂.frames with heap := s₂.heap, slotsUsed := s₂.slotsUsed } : State).setVm s₂.vm := by
      have : s₂ = ({ s₂ with vm := (U.calling g mk a).vm } : State).setVm s₂.vm := rfl
      rw [e2] at this
      exact this
    have hf₂ : s₂.frames = .throwing q :: .java g :: U.frames.tail := hend
    have hW' : U.WarmedH s₂.vm := hW₂
    have hs₂ : s₂ = ((({ U with heap := s₂.heap, slotsUsed := s₂.slotsUsed } : State).setVm s₂.vm).setTop g).pushFrame (.throwing q) := by
      refine e3.trans ?_
      rw [hf₂, State.calling_eq h.top, State.setFrames_setFrames, State.pushFrame, State.frames_setTop _ hr', State.setTop_of_frames _ hr', State.setFrames_setFrames, hr]
      rfl
    have hsame : U.sameButNew ({ U with heap := s₂.heap, slotsUsed := s₂.slotsUsed } : State) L mc ms := by
      refine ⟨?_, q2, q3, q4, q5, q6⟩
      obtain ⟨t, ht, -⟩ := State.frames_cons hr
      show ({ U with heap := s₂.heap, slotsUsed := s₂.slotsUsed } : State) = { U.setFrames U.frames with heap := s₂.heap, slotsUsed := s₂.slotsUsed }
      rw [State.setFrames_self ht]
    subst hg
    refine Or.inr ⟨q, ⟨(({ U with heap := s₂.heap, slotsUsed := s₂.slotsUsed } : State).setVm s₂.vm), Ls ++ L, c0 + mc, s0 + ms⟩,
      ⟨X.admits, X.cas, X.clock, X.frames, X.room, X.hears, X.method, X.code, (X.here.setHeapUsed s₂.heap s₂.slotsUsed).setVm hW'.alike, X.tail, State.WarmedH.trans X.warmed hW', X.limits, X.bytes, X.same.trans (hsame.setVm s.vm)⟩,
      ⟨g, mk, s₂, L, E, ce, rfl, rfl, hx, hce, hcv, hcl, rfl, hL, rfl, rfl⟩, ?_⟩
    show Steps p.tables e below _ (((({ U with heap := s₂.heap, slotsUsed := s₂.slotsUsed } : State).setVm s₂.vm).setTop g).pushFrame (.throwing q))
    rw [← hs₂]
    exact hsteps
end
variable {p : Program} {l : Launch} {e : Env} {R : Room} {s : State} {m : MethodId} {args : Array Value} {below : List Frame} {meth : Method} {c : Code} {T : State} {H : Heap} {locs : List Loc} {cells slots : Nat}
theorem vx_callVX (X : Stand p l e R s m args below meth c T locs cells slots) (hexec : p.tables.exec = Jvm.exec) {own C : String} {index : Nat} {y : MethodName} {bytes : ByteArray} {maxL : Nat} {ret : Option FieldType} {hh : List (Nat × Nat × Nat × Nat)}
    (hown : s.vm.findClass own = some m.cls) (hlink : (Cond.methodLink own index y).before args s = true) (hinst : (Cond.instanceMethod y).before args s = true) (hsel : (Cond.selects C y y).before args s = true)
    (hcode : (Cond.codeWith y bytes maxL ret hh).before args s = true) (hy : y.cls ≠ "java/lang/invoke/MethodHandle" ∧ y.cls ≠ "java/lang/invoke/VarHandle")
    {W9 : Nat} {Pre : Pt → Array Value → Prop} {Post : Pt → Array Value → Option Value → Pt → Prop} {PostX : Pt → Array Value → Addr → Pt → Prop} (hK : vx_Back l R p e below s args y 3 W9 Pre Post PostX)
    {b : Addr} {cellB : Cell} (hcell : T.heap[b]? = some cellB) (hobj : cellB.vm.isStatics = false) (hcls : s.vm.findClass C = some cellB.cls)
    {g : JFrame} (hg : g.method = m) (hsize : g.locals.size = c.maxLocals) {argsL rest : List Value} (hlen : ∀ sig, parseMethodDescriptor y.desc = some sig → argsL.length = sig.parameters.length)
    (hstack : g.stack = argsL.reverse ++ .ref b :: rest) (hW : 2 * g.monitorRoom + (rest.map fun v => v.category).sum ≤ W9) (hdg : decode c.code g.pc = .ok (.invokevirtual index, 3))
    (hpre : ∀ vm₁, s.WarmedH vm₁ → Pre ⟨T.setVm vm₁, locs, cells, slots⟩ (Value.ref b :: argsL).toArray) :
    (∃ (v : Option Value) (vm₁ : Vm) (B : Pt), s.WarmedH vm₁ ∧ Stand p l e R s m args below meth c B.U B.locs B.cells B.slots ∧ Post ⟨T.setVm vm₁, locs, cells, slots⟩ (Value.ref b :: argsL).toArray v B ∧
      ∀ target, Steps p.tables e below (B.U.setTop { g with pc := g.pc + 3, stack := v.toList ++ rest }) target → Steps p.tables e below (T.setTop g) target) ∨
    (∃ (q : Addr) (vm₁ : Vm) (B : Pt), s.WarmedH vm₁ ∧ Stand p l e R s m args below meth c B.U B.locs B.cells B.slots ∧ PostX ⟨T.setVm vm₁, locs, cells, slots⟩ (Value.ref b :: argsL).toArray q B ∧
      Steps p.tables e below (T.setTop g) ((B.U.setTop { g with stack := rest }).pushFrame (.throwing q))) := by
  obtain ⟨mk, methM, hnamed, hmethM, hstM, habM⟩ := Cond.instanceMethod_spec hinst
  obtain ⟨m8, methM', cM, hn8, hmethM', -, -, -, -, -, -, hsigM⟩ := Cond.codeWith_spec hcode
  cases Option.some.inj (hn8.symm.trans hnamed)
  cases hmethM.symm.trans hmethM'
  obtain ⟨c2, r2, m2, q1, q2, q3, q4, kP, hkP, hkPi⟩ := Cond.selects_spec hsel
  cases hcls.symm.trans q1
  cases (State.methodFound?_of_named hnamed hy).symm.trans q2
  cases hnamed.symm.trans q3
  have hselP : selectMethod e.platform s.vm cellB.cls mk = .method mk := by rw [Launch.admits_selectMethod X.admits]; exact q4
  obtain ⟨vm₁, X₁, hstep₁⟩ := X.invokevirtual hexec hown hlink hnamed hmethM hstM hkP hkPi hy (a := b) (cell := cellB) hcell
    (fun z h => by rw [h] at hobj; cases hobj) hselP hmethM habM hkP hkPi (g := g) hg (argsL := argsL) (rest := rest) (hlen _ hsigM) hstack hdg
  rcases hK m meth c ⟨T.setVm vm₁, locs, cells, slots⟩ { g with stack := rest } (.invokevirtual index) mk (Value.ref b :: argsL).toArray X₁ hg hsize hdg hW (X₁.named hnamed) (hpre vm₁ X₁.warmed) with ⟨v, B, X', hpost, hsteps⟩ | ⟨q, B, X', hpost, hsteps⟩
  · exact Or.inl ⟨v, vm₁, B, X₁.warmed, X', hpost, fun target h => hstep₁ _ fun acts => by rw [doInvoke_state]; exact hsteps.trans h⟩
  · exact Or.inr ⟨q, vm₁, B, X₁.warmed, X', hpost, hstep₁ _ fun acts => by rw [doInvoke_state]; exact hsteps⟩
theorem vx_callSX (X : Stand p l e R s m args below meth c T locs cells slots) (hexec : p.tables.exec = Jvm.exec) {own : String} {index : Nat} {y : MethodName} {bytes : ByteArray} {maxL : Nat} {ret : Option FieldType} {hh : List (Nat × Nat × Nat × Nat)}
    (hown : s.vm.findClass own = some m.cls) (hlink : (Cond.methodLink own index y).before args s = true) (hstat : (Cond.static y).before args s = true) (hinit : (Cond.initialized y.cls).before args s = true)
    (hcode : (Cond.codeWith y bytes maxL ret hh).before args s = true) (hy : y.cls ≠ "java/lang/invoke/MethodHandle" ∧ y.cls ≠ "java/lang/invoke/VarHandle")
    {W9 : Nat} {Pre : Pt → Array Value → Prop} {Post : Pt → Array Value → Option Value → Pt → Prop} {PostX : Pt → Array Value → Addr → Pt → Prop} (hK : vx_Back l R p e below s args y 3 W9 Pre Post PostX)
    {g : JFrame} (hg : g.method = m) (hsize : g.locals.size = c.maxLocals) {argsL rest : List Value} (hlen : ∀ sig, parseMethodDescriptor y.desc = some sig → argsL.length = sig.parameters.length)
    (hstack : g.stack = argsL.reverse ++ rest) (hW : 2 * g.monitorRoom + (rest.map fun v => v.category).sum ≤ W9) (hdg : decode c.code g.pc = .ok (.invokestatic index, 3))
    (hpre : ∀ vm₁, s.WarmedH vm₁ → Pre ⟨T.setVm vm₁, locs, cells, slots⟩ argsL.toArray) :
    (∃ (v : Option Value) (vm₁ : Vm) (B : Pt), s.WarmedH vm₁ ∧ Stand p l e R s m args below meth c B.U B.locs B.cells B.slots ∧ Post ⟨T.setVm vm₁, locs, cells, slots⟩ argsL.toArray v B ∧
      ∀ target, Steps p.tables e below (B.U.setTop { g with pc := g.pc + 3, stack := v.toList ++ rest }) target → Steps p.tables e below (T.setTop g) target) ∨
    (∃ (q : Addr) (vm₁ : Vm) (B : Pt), s.WarmedH vm₁ ∧ Stand p l e R s m args below meth c B.U B.locs B.cells B.slots ∧ PostX ⟨T.setVm vm₁, locs, cells, slots⟩ argsL.toArray q B ∧
      Steps p.tables e below (T.setTop g) ((B.U.setTop { g with stack := rest }).pushFrame (.throwing q))) := by
  obtain ⟨mk, methM, cM, hnamed, hmethM, -, -, -, -, -, -, hsigM⟩ := Cond.codeWith_spec hcode
  have hstatic : methM.isStatic = true := Cond.static_spec hnamed hmethM hstat
  obtain ⟨kP, hkP, -⟩ := className_of_methodNamed hnamed
  have hinitP : kP.init = .initialized := Cond.initialized_spec (findClass_of_methodNamed hnamed) hkP hinit
  obtain ⟨vm₁, X₁, hstep₁⟩ := X.invokestatic hexec hown hlink hnamed hmethM hstatic hkP hinitP hy (g := g) hg (argsL := argsL) (rest := rest) (hlen _ hsigM) hstack hdg
  rcases hK m meth c ⟨T.setVm vm₁, locs, cells, slots⟩ { g with stack := rest } (.invokestatic index) mk argsL.toArray X₁ hg hsize hdg hW (X₁.named hnamed) (hpre vm₁ X₁.warmed) with ⟨v, B, X', hpost, hsteps⟩ | ⟨q, B, X', hpost, hsteps⟩
  · exact Or.inl ⟨v, vm₁, B, X₁.warmed, X', hpost, fun target h => hstep₁ _ fun acts => by rw [doInvoke_state]; exact hsteps.trans h⟩
  · exact Or.inr ⟨q, vm₁, B, X₁.warmed, X', hpost, hstep₁ _ fun acts => by rw [doInvoke_state]; exact hsteps⟩
theorem vx_callVW (X : Stand p l e R s m args below meth c T locs cells slots) (hexec : p.tables.exec = Jvm.exec) {own C : String} {index : Nat} {y : MethodName} {bytes : ByteArray} {maxL : Nat} {ret : Option FieldType} {hh : List (Nat × Nat × Nat × Nat)}
    (hown : s.vm.findClass own = some m.cls) (hlink : (Cond.methodLink own index y).before args s = true) (hinst : (Cond.instanceMethod y).before args s = true) (hsel : (Cond.selects C y y).before args s = true)
    (hcode : (Cond.codeWith y bytes maxL ret hh).before args s = true) (hy : y.cls ≠ "java/lang/invoke/MethodHandle" ∧ y.cls ≠ "java/lang/invoke/VarHandle")
    {W9 : Nat} {Pre : Pt → Array Value → Prop} {Post : Pt → Array Value → Option Value → Pt → Prop} (hK : Back l R p e below s args y 3 W9 Pre Post)
    {b : Addr} {cellB : Cell} (hcell : T.heap[b]? = some cellB) (hobj : cellB.vm.isStatics = false) (hcls : s.vm.findClass C = some cellB.cls)
    {g : JFrame} (hg : g.method = m) (hsize : g.locals.size = c.maxLocals) {argsL rest : List Value} (hlen : ∀ sig, parseMethodDescriptor y.desc = some sig → argsL.length = sig.parameters.length)
    (hstack : g.stack = argsL.reverse ++ .ref b :: rest) (hW : 2 * g.monitorRoom + (rest.map fun v => v.category).sum ≤ W9) (hdg : decode c.code g.pc = .ok (.invokevirtual index, 3))
    (hpre : ∀ vm₁, s.WarmedH vm₁ → Pre ⟨T.setVm vm₁, locs, cells, slots⟩ (Value.ref b :: argsL).toArray) :
    ∃ (v : Option Value) (vm₁ : Vm) (B : Pt), s.WarmedH vm₁ ∧ Stand p l e R s m args below meth c B.U B.locs B.cells B.slots ∧ Post ⟨T.setVm vm₁, locs, cells, slots⟩ (Value.ref b :: argsL).toArray v B ∧
      ∀ target, Steps p.tables e below (B.U.setTop { g with pc := g.pc + 3, stack := v.toList ++ rest }) target → Steps p.tables e below (T.setTop g) target := by
  obtain ⟨mk, methM, hnamed, hmethM, hstM, habM⟩ := Cond.instanceMethod_spec hinst
  obtain ⟨m8, methM', cM, hn8, hmethM', -, -, -, -, -, -, hsigM⟩ := Cond.codeWith_spec hcode
  cases Option.some.inj (hn8.symm.trans hnamed)
  cases hmethM.symm.trans hmethM'
  obtain ⟨c2, r2, m2, q1, q2, q3, q4, kP, hkP, hkPi⟩ := Cond.selects_spec hsel
  cases hcls.symm.trans q1
  cases (State.methodFound?_of_named hnamed hy).symm.trans q2
  cases hnamed.symm.trans q3
  have hselP : selectMethod e.platform s.vm cellB.cls mk = .method mk := by rw [Launch.admits_selectMethod X.admits]; exact q4
  obtain ⟨vm₁, X₁, hstep₁⟩ := X.invokevirtual hexec hown hlink hnamed hmethM hstM hkP hkPi hy (a := b) (cell := cellB) hcell
    (fun z h => by rw [h] at hobj; cases hobj) hselP hmethM habM hkP hkPi (g := g) hg (argsL := argsL) (rest := rest) (hlen _ hsigM) hstack hdg
  obtain ⟨v, B, X', hpost, hsteps⟩ := hK m meth c ⟨T.setVm vm₁, locs, cells, slots⟩ { g with stack := rest } (.invokevirtual index) mk (Value.ref b :: argsL).toArray X₁ hg hsize hdg hW (X₁.named hnamed) (hpre vm₁ X₁.warmed)
  exact ⟨v, vm₁, B, X₁.warmed, X', hpost, fun target h => hstep₁ _ fun acts => by rw [doInvoke_state]; exact hsteps.trans h⟩
abbrev vx_CVW (R : Room) (s : State) (args : Array Value) (own C : String) (index : Nat) (y : MethodName) (bytes : ByteArray) (maxL : Nat) (ret : Option FieldType) (hh : List (Nat × Nat × Nat × Nat)) (ws : List Cond) (rm : Room) (mc ms n : Nat) : Prop :=
  (rm.cells = mc ∧ rm.slots = ms ∧ rm.frames + 1 ≤ R.frames ∧ 8 + (maxL + 11) + rm.locals ≤ R.locals ∧ (∀ w ∈ ws, ∀ (a' : Array Value) (U : State), s.WarmedH U.vm → w.before a' U = true) ∧ Cond.codeWith y bytes maxL ret hh ∈ ws) ∧
  (Cond.codeWith y bytes maxL ret hh).before args s = true ∧ (Cond.initialized y.cls).before args s = true ∧ (y.cls ≠ "java/lang/invoke/MethodHandle" ∧ y.cls ≠ "java/lang/invoke/VarHandle") ∧
  (∀ sig, parseMethodDescriptor y.desc = some sig → n = sig.parameters.length) ∧ (Cond.methodLink own index y).before args s = true ∧ (Cond.instanceMethod y).before args s = true ∧ (Cond.selects C y y).before args s = true
theorem vx_cwVW {own C : String} {index maxL mc ms : Nat} {y : MethodName} {bytes : ByteArray} {ret : Option FieldType} {hh : List (Nat × Nat × Nat × Nat)} {Ts ws ws' : List Cond} {rm : Room} (n : Nat) (ht : ∀ w ∈ Ts, w.before args s = true) (hT : GoodIn Ts (wsV own index C y ws)) (hw : ws = Cond.codeWith y bytes maxL ret hh :: ws') (hrc : rm.cells = mc) (hrs : rm.slots = ms)
    (hd : y.cls = C ∧ y.cls ≠ "java/lang/invoke/MethodHandle" ∧ y.cls ≠ "java/lang/invoke/VarHandle" ∧ (parseMethodDescriptor y.desc).map (fun d => d.parameters.length) = some n) (hR : rm.frames + 1 ≤ R.frames ∧ 8 + (maxL + 11) + rm.locals ≤ R.locals) :
    vx_CVW R s args own C index y bytes maxL ret hh ws rm mc ms n := by
  obtain ⟨hC, hd⟩ := hd
  subst hC
  have ok : ∀ w ∈ wsV own index y.cls y ws, w.before args s = true := fun w h => ht w (hT w h).1
  have hG : GoodIn Ts ws := fun w h => hT w (by unfold wsV; exact List.mem_append_right _ h)
  have hc : Cond.codeWith y bytes maxL ret hh ∈ ws := by rw [hw]; exact List.mem_cons_self
  refine ⟨⟨hrc, hrs, hR.1, hR.2, pay_in ht hG, hc⟩, ht _ (hG _ hc).1, ok _ (by simp [wsV]), ⟨hd.1, hd.2.1⟩, fun sig h => ?_, ok _ (by simp [wsV]), ok _ (by simp [wsV]), ok _ (by simp [wsV])⟩
  have h2 := hd.2.2
  rw [h] at h2
  exact (Option.some.inj h2).symm
theorem vx_runVW {y : MethodName} {bytes cc : ByteArray} {maxL nL mc ms n index : Nat} {ret : Option FieldType} {hh : List (Nat × Nat × Nat × Nat)} {ws : List Cond} {rm : Room} {Pc : Array Value → State → Prop} {Qc : Array Value → State → Outcome → State → Prop} {free : Addr → Prop} {Ts : List Cond} {own C : String} {b : Addr} {As rest : List Value} {g : JFrame}
    (S : CallFix p m c cc nL s args Ts own) (hM : Met l y ws rm Pc Qc mc ms free) (cw : vx_CVW R s args own C index y bytes maxL ret hh ws rm mc ms n) (hp : PreV s H C b Pc As)
    (hg : g.method = m) (hn : As.length = n) (hsize : g.locals.size = nL) (hstack : g.stack = As.reverse ++ .ref b :: rest) (hW : 2 * g.monitorRoom + (rest.map fun v => v.category).sum ≤ 8) (hdg : decode cc g.pc = .ok (.invokevirtual index, 3)) (hf : cells + mc ≤ R.cells ∧ slots + ms ≤ R.slots) :
    va_Run p l e R s m args below meth c H locs cells slots mc ms g rest (Qc (Value.ref b :: As).toArray) free := by
  obtain ⟨⟨hrc, hrs, hfr, hlo, hws, hcw⟩, hcode, hini, hy, hlen, hl, hin, hse⟩ := cw
  have hK : Back l R p e below s args y 3 8 (PreOf R mc ms Pc) (PostOf Qc mc ms free) := va_backW (hh := hh) (bytes := bytes) (maxL := maxL) (ret := ret) hM hp.1 hrc hrs hfr hlo hws hcw (fun a' U hW => word_at hW (Or.inl (by first | rfl | simp [Cond.onTables, Cond.keeps, Cond.steady])) hini)
  obtain ⟨hx, hb, hml, ho, -⟩ := S
  obtain ⟨-, ⟨cellB, hcB, hoB, hclB⟩, hPc⟩ := hp
  intro T hT X
  obtain ⟨v, vm₁, ⟨U', l2, c2, s2⟩, hW₁, X', ⟨g', mk, t, L, e1, e2, hq, h1, hL, h2, h3⟩, st⟩ := vx_callVW X hx (C := C) (hh := hh) (bytes := bytes) (maxL := maxL) (ret := ret) ho hl hin hse hcode hy hK (by rw [hT]; exact hcB) hoB hclB hg (hsize.trans hml.symm) (argsL := As) (rest := rest) (fun sig h => hn.trans (hlen sig h)) hstack hW (by rw [hb]; exact hdg)
    (fun vm₁ hW₁ => ⟨hf.1, hf.2, hPc (T.setVm vm₁) hT hW₁⟩)
  dsimp only [Pt.U, Pt.locs, Pt.cells, Pt.slots] at X' e1 e2 h1 h2 h3 st
  subst h1; subst h2; subst h3
  exact ⟨v, (T.setVm vm₁).calling g' mk (Value.ref b :: As).toArray, t, U', L, hT, X', hL, e1, e2, hq, st⟩
section
variable {y : MethodName} {bytes cc : ByteArray} {maxL nL mc ms n index : Nat} {ret : Option FieldType} {ws : List Cond} {rm : Room} {Pc : Array Value → State → Prop} {Qc : Array Value → State → Outcome → State → Prop} {XC : String → State → State → Prop} {free : Addr → Prop} {Ts : List Cond} {own C : String} {b : Addr} {As rest : List Value} {g : JFrame}
theorem vx_runVX {hh : List (Nat × Nat × Nat × Nat)} (S : CallFix p m c cc nL s args Ts own) (hM : vx_Met l y ws rm Pc Qc XC mc ms free) (cw : vx_CVW R s args own C index y bytes maxL ret hh ws rm mc ms n) (hp : PreV s H C b Pc As)
    (hg : g.method = m) (hn : As.length = n) (hsize : g.locals.size = nL) (hstack : g.stack = As.reverse ++ .ref b :: rest) (hW : 2 * g.monitorRoom + (rest.map fun v => v.category).sum ≤ 8) (hdg : decode cc g.pc = .ok (.invokevirtual index, 3)) (hf : cells + mc ≤ R.cells ∧ slots + ms ≤ R.slots) :
    vx_Run p l e R s m args below meth c H locs cells slots mc ms g rest (Qc (Value.ref b :: As).toArray) XC free := by
  obtain ⟨⟨hrc, hrs, hfr, hlo, hws, hcw⟩, hcode, hini, hy, hlen, hl, hin, hse⟩ := cw
  have hK : vx_Back l R p e below s args y 3 8 (PreOf R mc ms Pc) (PostOf Qc mc ms free) (vx_Post XC mc ms free) := vx_backW (hh := hh) (bytes := bytes) (maxL := maxL) (ret := ret) hM hp.1 hrc hrs hfr hlo hws hcw (fun a' U hW => word_at hW (Or.inl (by first | rfl | simp [Cond.onTables, Cond.keeps, Cond.steady])) hini)
  obtain ⟨hx, hb, hml, ho, -⟩ := S
  obtain ⟨-, ⟨cellB, hcB, hoB, hclB⟩, hPc⟩ := hp
  intro T hT X
  rcases vx_callVX X hx (C := C) (hh := hh) (bytes := bytes) (maxL := maxL) (ret := ret) ho hl hin hse hcode hy hK (by rw [hT]; exact hcB) hoB hclB hg (hsize.trans hml.symm) (argsL := As) (rest := rest) (fun sig h => hn.trans (hlen sig h)) hstack hW (by rw [hb]; exact hdg)
    (fun vm₁ hW₁ => ⟨hf.1, hf.2, hPc (T.setVm vm₁) hT hW₁⟩) with ⟨v, vm₁, ⟨U', l2, c2, s2⟩, hW₁, X', ⟨g', mk, t, L, e1, e2, hq, h1, hL, h2, h3⟩, st⟩ | ⟨q, vm₁, ⟨U', l2, c2, s2⟩, hW₁, X', ⟨g', mk, t, L, E, ce, e1, e2, hq, hce, hcv, hcl, h1, hL, h2, h3⟩, st⟩
  · dsimp only [Pt.U, Pt.locs, Pt.cells, Pt.slots] at X' e1 e2 h1 h2 h3 st
    subst h1; subst h2; subst h3
    exact Or.inl ⟨v, (T.setVm vm₁).calling g' mk (Value.ref b :: As).toArray, t, U', L, hT, X', hL, e1, e2, hq, st⟩
  · dsimp only [Pt.U, Pt.locs, Pt.cells, Pt.slots] at X' e1 e2 h1 h2 h3 st hcl
    subst h1; subst h2; subst h3
    exact Or.inr ⟨q, (T.setVm vm₁).calling g' mk (Value.ref b :: As).toArray, t, U', L, E, ce, hT, X', hL, e1, e2, hq, hce, hcv, vx_cls hW₁ hcl, st⟩
theorem vx_runSX {hh : List (Nat × Nat × Nat × Nat)} (S : CallFix p m c cc nL s args Ts own) (hM : vx_Met l y ws rm Pc Qc XC mc ms free) (cw : vx_CSW R s args own index y bytes maxL ret hh ws rm mc ms n) (hp : PreS s H Pc As)
    (hg : g.method = m) (hn : As.length = n) (hsize : g.locals.size = nL) (hstack : g.stack = As.reverse ++ rest) (hW : 2 * g.monitorRoom + (rest.map fun v => v.category).sum ≤ 8) (hdg : decode cc g.pc = .ok (.invokestatic index, 3)) (hf : cells + mc ≤ R.cells ∧ slots + ms ≤ R.slots) :
    vx_Run p l e R s m args below meth c H locs cells slots mc ms g rest (Qc As.toArray) XC free := by
  obtain ⟨⟨hrc, hrs, hfr, hlo, hws, hcw⟩, hcode, hini, hy, hlen, hl, hstt⟩ := cw
  have hK : vx_Back l R p e below s args y 3 8 (PreOf R mc ms Pc) (PostOf Qc mc ms free) (vx_Post XC mc ms free) := vx_backW (hh := hh) (bytes := bytes) (maxL := maxL) (ret := ret) hM hp.1 hrc hrs hfr hlo hws hcw (fun a' U hW => word_at hW (Or.inl (by first | rfl | simp [Cond.onTables, Cond.keeps, Cond.steady])) hini)
  obtain ⟨hx, hb, hml, ho, -⟩ := S
  intro T hT X
  rcases vx_callSX X hx (hh := hh) (bytes := bytes) (maxL := maxL) (ret := ret) ho hl hstt hini hcode hy hK hg (hsize.trans hml.symm) (argsL := As) (rest := rest) (fun sig h => hn.trans (hlen sig h)) hstack hW (by rw [hb]; exact hdg)
    (fun vm₁ hW₁ => ⟨hf.1, hf.2, hp.2 (T.setVm vm₁) hT hW₁⟩) with ⟨v, vm₁, ⟨U', l2, c2, s2⟩, hW₁, X', ⟨g', mk, t, L, e1, e2, hq, h1, hL, h2, h3⟩, st⟩ | ⟨q, vm₁, ⟨U', l2, c2, s2⟩, hW₁, X', ⟨g', mk, t, L, E, ce, e1, e2, hq, hce, hcv, hcl, h1, hL, h2, h3⟩, st⟩
  · dsimp only [Pt.U, Pt.locs, Pt.cells, Pt.slots] at X' e1 e2 h1 h2 h3 st
    subst h1; subst h2; subst h3
    exact Or.inl ⟨v, (T.setVm vm₁).calling g' mk As.toArray, t, U', L, hT, X', hL, e1, e2, hq, st⟩
  · dsimp only [Pt.U, Pt.locs, Pt.cells, Pt.slots] at X' e1 e2 h1 h2 h3 st hcl
    subst h1; subst h2; subst h3
    exact Or.inr ⟨q, (T.setVm vm₁).calling g' mk As.toArray, t, U', L, E, ce, hT, X', hL, e1, e2, hq, hce, hcv, vx_cls hW₁ hcl, st⟩
end
end VXH
theorem vx_ofWH {l : Launch} {y : MethodName} {ws ws' : List Cond} {rm : Room} {Pc : Array Value → State → Prop} {Qc : Array Value → State → Outcome → State → Prop} {XC : String → State → State → Prop} {mc ms : Nat} {free : Addr → Prop} {cc : ByteArray} {maxL : Nat} {ret : Option FieldType} {hh : List (Nat × Nat × Nat × Nat)}
    (hy : plainName y.cls = true) (hw : ws = Cond.codeWith y cc maxL ret hh :: ws')
    (body : ∀ p e s m args below meth c s₁, BodyLoose p l y (headSpec ws rm) cc maxL ret e s m args below meth c s₁ → c.maxLocals = maxL → Pc args s →
      W p l e (headSpec ws rm).room s m args below meth c s.heap [] 0 0 (vx_MQ below Qc XC args s mc ms free) (entryFrame m args maxL)) : vx_Met l y ws rm Pc Qc XC mc ms free := by
  refine MetFree.of_bodyS (code := cc) (maxLocals := maxL) (ret := ret) hy ?_ ?_
  · intro args s m h hn
    obtain ⟨m9, meth, c, hn9, h1, h2, h3, h4, -, h5, h6, -⟩ := Cond.codeWith_spec (atoms_spec (ws := ws) h _ (by rw [hw]; exact List.mem_cons_self))
    cases hn.symm.trans hn9
    exact ⟨meth, c, h1, h2, h3, h4, h5, h6⟩
  · intro p e s m args below meth c s₁ B hml hP _
    have hh0 : s₁.heap = s.heap := by rw [B.state]; rfl
    obtain ⟨t, a1, o, b1, b2, b3⟩ := body p e s m args below meth c s₁ B hml hP s₁ hh0 (Stand.of_body B)
    exact ⟨t, o, a1, b1, b2, b3⟩
/-! ===== END ===== -/

/-! ===== BEGIN printed: names, fields, word lists, decode rows ===== -/
def RX0 : String := "ManorLoops$Audience"
def TX0 : u_T := fun k => match k with
  | 0 => ("ManorLoops$Audience", "count", "I", false)
  | 1 => ("ManorLoops$Audience", "room", "LManorLoops$Row;", true)
  | 2 => ("ManorLoops$Audience", "habit", "LManorLoops$Row;", true)
  | 3 => ("ManorLoops$Audience", "followed", "LManorLoops$Row;", true)
  | 4 => ("ManorLoops$Audience", "known", "LManorLoops$Row;", true)
  | 5 => ("ManorLoops$Audience", "walks", "LManorLoops$Row;", true)
  | 6 => ("ManorLoops$Audience", "blocked", "LManorLoops$Row;", true)
  | 7 => ("ManorLoops$Audience", "minutesSeen", "LManorLoops$Grid;", true)
  | _ => ("ManorLoops$Audience", "crowd", "LManorLoops$Row;", true)
def tyX0 : Nat → FieldType := fun k => match k with
  | 0 => .int
  | 1 => .object "ManorLoops$Row"
  | 2 => .object "ManorLoops$Row"
  | 3 => .object "ManorLoops$Row"
  | 4 => .object "ManorLoops$Row"
  | 5 => .object "ManorLoops$Row"
  | 6 => .object "ManorLoops$Row"
  | 7 => .object "ManorLoops$Grid"
  | _ => .object "ManorLoops$Row"
abbrev wsX00 : List Cond := u_ws RX0 TX0 9
theorem nmX0 : ∀ a, a < 9 → ∀ b, b < 9 → a ≠ b → (TX0 a).2.1 ≠ (TX0 b).2.1 := by decide +kernel
theorem tyX0_ok : ∀ k, k < 9 → parseFieldDescriptor (TX0 k).2.2.1 = some (tyX0 k) := by decide +kernel
abbrev cX0_init : ByteArray := prog_2_method_1_code
def yX0_init : MethodName := ⟨RX0, "<init>", "()V"⟩
abbrev cX0_copyFrom : ByteArray := prog_2_method_2_code
def yX0_copyFrom : MethodName := ⟨RX0, "copyFrom", "(LManorLoops$Audience;)V"⟩
abbrev cX0_enter : ByteArray := prog_2_method_3_code
def yX0_enter : MethodName := ⟨RX0, "enter", "(I)I"⟩
abbrev cX0_changeHabit : ByteArray := prog_2_method_4_code
def yX0_changeHabit : MethodName := ⟨RX0, "changeHabit", "(III)V"⟩
abbrev cX0_walk : ByteArray := prog_2_method_5_code
def yX0_walk : MethodName := ⟨RX0, "walk", "(II)V"⟩
abbrev cX0_knows : ByteArray := prog_2_method_6_code
def yX0_knows : MethodName := ⟨RX0, "knows", "(II)Z"⟩
abbrev cX0_see : ByteArray := prog_2_method_7_code
def yX0_see : MethodName := ⟨RX0, "see", "(III)V"⟩
abbrev cX0_countKnownBy : ByteArray := prog_2_method_8_code
def yX0_countKnownBy : MethodName := ⟨RX0, "countKnownBy", "(I)I"⟩
abbrev cX0_countKnowing : ByteArray := prog_2_method_9_code
def yX0_countKnowing : MethodName := ⟨RX0, "countKnowing", "(I)I"⟩
abbrev cX0_countKnown : ByteArray := prog_2_method_10_code
def yX0_countKnown : MethodName := ⟨RX0, "countKnown", "()I"⟩
abbrev cX0_knownByAny : ByteArray := prog_2_method_11_code
def yX0_knownByAny : MethodName := ⟨RX0, "knownByAny", "()I"⟩
def RX1 : String := "ManorLoops$Cast"
def TX1 : u_T := fun k => match k with
  | 0 => ("ManorLoops$Cast", "script", "LManorLoops$Script;", true)
  | 1 => ("ManorLoops$Cast", "room", "LManorLoops$Row;", true)
  | 2 => ("ManorLoops$Cast", "player", "LManorLoops$Row;", true)
  | _ => ("ManorLoops$Cast", "walks", "LManorLoops$Row;", true)
def tyX1 : Nat → FieldType := fun k => match k with
  | 0 => .object "ManorLoops$Script"
  | 1 => .object "ManorLoops$Row"
  | 2 => .object "ManorLoops$Row"
  | _ => .object "ManorLoops$Row"
abbrev wsX10 : List Cond := u_ws RX1 TX1 4
theorem nmX1 : ∀ a, a < 4 → ∀ b, b < 4 → a ≠ b → (TX1 a).2.1 ≠ (TX1 b).2.1 := by decide +kernel
theorem tyX1_ok : ∀ k, k < 4 → parseFieldDescriptor (TX1 k).2.2.1 = some (tyX1 k) := by decide +kernel
abbrev cX1_init : ByteArray := prog_3_method_1_code
def yX1_init : MethodName := ⟨RX1, "<init>", "(LManorLoops$Script;)V"⟩
abbrev cX1_copyFrom : ByteArray := prog_3_method_2_code
def yX1_copyFrom : MethodName := ⟨RX1, "copyFrom", "(LManorLoops$Cast;)V"⟩
abbrev cX1_enter : ByteArray := prog_3_method_3_code
def yX1_enter : MethodName := ⟨RX1, "enter", "(II)V"⟩
abbrev cX1_startDouble : ByteArray := prog_3_method_4_code
def yX1_startDouble : MethodName := ⟨RX1, "startDouble", "(II)V"⟩
abbrev cX1_endDouble : ByteArray := prog_3_method_5_code
def yX1_endDouble : MethodName := ⟨RX1, "endDouble", "(I)V"⟩
abbrev cX1_anyIsPlayed : ByteArray := prog_3_method_6_code
def yX1_anyIsPlayed : MethodName := ⟨RX1, "anyIsPlayed", "()Z"⟩
abbrev cX1_rolesOf : ByteArray := prog_3_method_7_code
def yX1_rolesOf : MethodName := ⟨RX1, "rolesOf", "(I)I"⟩
abbrev cX1_isSingle : ByteArray := prog_3_method_8_code
def yX1_isSingle : MethodName := ⟨RX1, "isSingle", "(I)Z"⟩
abbrev cX1_withDoubles : ByteArray := prog_3_method_9_code
def yX1_withDoubles : MethodName := ⟨RX1, "withDoubles", "(I)I"⟩
abbrev cX1_setIn : ByteArray := prog_3_method_10_code
def yX1_setIn : MethodName := ⟨RX1, "setIn", "(I)I"⟩
abbrev cX1_walk : ByteArray := prog_3_method_11_code
def yX1_walk : MethodName := ⟨RX1, "walk", "(II)V"⟩
def RX2 : String := "ManorLoops$Evening"
def TX2 : u_T := fun k => match k with
  | 0 => ("ManorLoops$Evening", "house", "LManorLoops$House;", true)
  | 1 => ("ManorLoops$Evening", "script", "LManorLoops$Script;", true)
  | 2 => ("ManorLoops$Evening", "cast", "LManorLoops$Cast;", true)
  | 3 => ("ManorLoops$Evening", "stage", "LManorLoops$Stage;", true)
  | 4 => ("ManorLoops$Evening", "props", "LManorLoops$Props;", true)
  | 5 => ("ManorLoops$Evening", "audience", "LManorLoops$Audience;", true)
  | 6 => ("ManorLoops$Evening", "passages", "LManorLoops$Row;", true)
  | _ => ("ManorLoops$Evening", "now", "I", false)
def tyX2 : Nat → FieldType := fun k => match k with
  | 0 => .object "ManorLoops$House"
  | 1 => .object "ManorLoops$Script"
  | 2 => .object "ManorLoops$Cast"
  | 3 => .object "ManorLoops$Stage"
  | 4 => .object "ManorLoops$Props"
  | 5 => .object "ManorLoops$Audience"
  | 6 => .object "ManorLoops$Row"
  | _ => .int
abbrev wsX20 : List Cond := u_ws RX2 TX2 8
theorem nmX2 : ∀ a, a < 8 → ∀ b, b < 8 → a ≠ b → (TX2 a).2.1 ≠ (TX2 b).2.1 := by decide +kernel
theorem tyX2_ok : ∀ k, k < 8 → parseFieldDescriptor (TX2 k).2.2.1 = some (tyX2 k) := by decide +kernel
abbrev cX2_init : ByteArray := prog_4_method_1_code
def yX2_init : MethodName := ⟨RX2, "<init>", "(LManorLoops$House;LManorLoops$Script;)V"⟩
abbrev cX2_copyFrom : ByteArray := prog_4_method_2_code
def yX2_copyFrom : MethodName := ⟨RX2, "copyFrom", "(LManorLoops$Evening;)V"⟩
abbrev cX2_run : ByteArray := prog_4_method_3_code
def yX2_run : MethodName := ⟨RX2, "run", "(I)V"⟩
abbrev cX2_beginLoop : ByteArray := prog_4_method_4_code
def yX2_beginLoop : MethodName := ⟨RX2, "beginLoop", "()V"⟩
abbrev cX2_moveTracks : ByteArray := prog_4_method_5_code
def yX2_moveTracks : MethodName := ⟨RX2, "moveTracks", "()V"⟩
abbrev cX2_moveTrack : ByteArray := prog_4_method_6_code
def yX2_moveTrack : MethodName := ⟨RX2, "moveTrack", "(II)V"⟩
abbrev cX2_performScenes : ByteArray := prog_4_method_7_code
def yX2_performScenes : MethodName := ⟨RX2, "performScenes", "()V"⟩
abbrev cX2_continueScene : ByteArray := prog_4_method_8_code
def yX2_continueScene : MethodName := ⟨RX2, "continueScene", "(I)V"⟩
abbrev cX2_greatestTrack : ByteArray := prog_4_method_9_code
def yX2_greatestTrack : MethodName := ⟨RX2, "greatestTrack", "(I)I"⟩
abbrev cX2_canBegin : ByteArray := prog_4_method_10_code
def yX2_canBegin : MethodName := ⟨RX2, "canBegin", "(I)Z"⟩
abbrev cX2_hasProp : ByteArray := prog_4_method_11_code
def yX2_hasProp : MethodName := ⟨RX2, "hasProp", "(I)Z"⟩
abbrev cX2_moveGuests : ByteArray := prog_4_method_12_code
def yX2_moveGuests : MethodName := ⟨RX2, "moveGuests", "()V"⟩
abbrev cX2_moveGuest : ByteArray := prog_4_method_13_code
def yX2_moveGuest : MethodName := ⟨RX2, "moveGuest", "(III)V"⟩
abbrev cX2_isFull : ByteArray := prog_4_method_14_code
def yX2_isFull : MethodName := ⟨RX2, "isFull", "(I)Z"⟩
abbrev cX2_nextRoomOf : ByteArray := prog_4_method_15_code
def yX2_nextRoomOf : MethodName := ⟨RX2, "nextRoomOf", "(II)I"⟩
abbrev cX2_emptierRoom : ByteArray := prog_4_method_16_code
def yX2_emptierRoom : MethodName := ⟨RX2, "emptierRoom", "(I)I"⟩
abbrev cX2_nextRoomToScene : ByteArray := prog_4_method_17_code
def yX2_nextRoomToScene : MethodName := ⟨RX2, "nextRoomToScene", "(II)I"⟩
abbrev cX2_showScenes : ByteArray := prog_4_method_18_code
def yX2_showScenes : MethodName := ⟨RX2, "showScenes", "()V"⟩
abbrev cX2_showScene : ByteArray := prog_4_method_19_code
def yX2_showScene : MethodName := ⟨RX2, "showScene", "(I)V"⟩
abbrev cX2_roomOfProp : ByteArray := prog_4_method_20_code
def yX2_roomOfProp : MethodName := ⟨RX2, "roomOfProp", "(I)I"⟩
abbrev cX2_canTake : ByteArray := prog_4_method_21_code
def yX2_canTake : MethodName := ⟨RX2, "canTake", "(II)Z"⟩
abbrev cX2_isInUse : ByteArray := prog_4_method_22_code
def yX2_isInUse : MethodName := ⟨RX2, "isInUse", "(II)Z"⟩
abbrev cX2_canDouble : ByteArray := prog_4_method_23_code
def yX2_canDouble : MethodName := ⟨RX2, "canDouble", "(II)Z"⟩
def RX3 : String := "ManorLoops$Grid"
def TX3 : u_T := fun k => match k with
  | 0 => ("ManorLoops$Grid", "columns", "I", true)
  | _ => ("ManorLoops$Grid", "cells", "LManorLoops$Row;", true)
def tyX3 : Nat → FieldType := fun k => match k with
  | 0 => .int
  | _ => .object "ManorLoops$Row"
abbrev wsX30 : List Cond := u_ws RX3 TX3 2
theorem nmX3 : ∀ a, a < 2 → ∀ b, b < 2 → a ≠ b → (TX3 a).2.1 ≠ (TX3 b).2.1 := by decide +kernel
theorem tyX3_ok : ∀ k, k < 2 → parseFieldDescriptor (TX3 k).2.2.1 = some (tyX3 k) := by decide +kernel
abbrev cX3_init : ByteArray := prog_5_method_1_code
def yX3_init : MethodName := ⟨RX3, "<init>", "(II)V"⟩
abbrev cX3_get : ByteArray := prog_5_method_2_code
def yX3_get : MethodName := ⟨RX3, "get", "(II)I"⟩
abbrev cX3_set : ByteArray := prog_5_method_3_code
def yX3_set : MethodName := ⟨RX3, "set", "(III)V"⟩
abbrev cX3_fill : ByteArray := prog_5_method_4_code
def yX3_fill : MethodName := ⟨RX3, "fill", "(I)V"⟩
abbrev cX3_copyFrom : ByteArray := prog_5_method_5_code
def yX3_copyFrom : MethodName := ⟨RX3, "copyFrom", "(LManorLoops$Grid;)V"⟩
def RX4 : String := "ManorLoops$House"
def TX4 : u_T := fun k => match k with
  | 0 => ("ManorLoops$House", "rooms", "I", false)
  | 1 => ("ManorLoops$House", "doors", "I", false)
  | 2 => ("ManorLoops$House", "capacity", "LManorLoops$Row;", true)
  | 3 => ("ManorLoops$House", "width", "LManorLoops$Row;", true)
  | 4 => ("ManorLoops$House", "doorBetween", "LManorLoops$Grid;", true)
  | 5 => ("ManorLoops$House", "doorsOnWay", "LManorLoops$Grid;", true)
  | _ => ("ManorLoops$House", "nextOnWay", "LManorLoops$Grid;", true)
def tyX4 : Nat → FieldType := fun k => match k with
  | 0 => .int
  | 1 => .int
  | 2 => .object "ManorLoops$Row"
  | 3 => .object "ManorLoops$Row"
  | 4 => .object "ManorLoops$Grid"
  | 5 => .object "ManorLoops$Grid"
  | _ => .object "ManorLoops$Grid"
abbrev wsX40 : List Cond := u_ws RX4 TX4 7
theorem nmX4 : ∀ a, a < 7 → ∀ b, b < 7 → a ≠ b → (TX4 a).2.1 ≠ (TX4 b).2.1 := by decide +kernel
theorem tyX4_ok : ∀ k, k < 7 → parseFieldDescriptor (TX4 k).2.2.1 = some (tyX4 k) := by decide +kernel
abbrev cX4_init : ByteArray := prog_6_method_1_code
def yX4_init : MethodName := ⟨RX4, "<init>", "()V"⟩
abbrev cX4_addRoom : ByteArray := prog_6_method_2_code
def yX4_addRoom : MethodName := ⟨RX4, "addRoom", "(I)I"⟩
abbrev cX4_addDoor : ByteArray := prog_6_method_3_code
def yX4_addDoor : MethodName := ⟨RX4, "addDoor", "(III)I"⟩
abbrev cX4_shortenWays : ByteArray := prog_6_method_4_code
def yX4_shortenWays : MethodName := ⟨RX4, "shortenWays", "(II)V"⟩
abbrev cX4_shortenWay : ByteArray := prog_6_method_5_code
def yX4_shortenWay : MethodName := ⟨RX4, "shortenWay", "(IIII)V"⟩
abbrev cX4_findNext : ByteArray := prog_6_method_6_code
def yX4_findNext : MethodName := ⟨RX4, "findNext", "(II)I"⟩
def RX5 : String := "ManorLoops$Props"
def TX5 : u_T := fun k => match k with
  | 0 => ("ManorLoops$Props", "script", "LManorLoops$Script;", true)
  | 1 => ("ManorLoops$Props", "room", "LManorLoops$Row;", true)
  | 2 => ("ManorLoops$Props", "track", "LManorLoops$Row;", true)
  | 3 => ("ManorLoops$Props", "guest", "LManorLoops$Row;", true)
  | _ => ("ManorLoops$Props", "readers", "LManorLoops$Row;", true)
def tyX5 : Nat → FieldType := fun k => match k with
  | 0 => .object "ManorLoops$Script"
  | 1 => .object "ManorLoops$Row"
  | 2 => .object "ManorLoops$Row"
  | 3 => .object "ManorLoops$Row"
  | _ => .object "ManorLoops$Row"
abbrev wsX50 : List Cond := u_ws RX5 TX5 5
theorem nmX5 : ∀ a, a < 5 → ∀ b, b < 5 → a ≠ b → (TX5 a).2.1 ≠ (TX5 b).2.1 := by decide +kernel
theorem tyX5_ok : ∀ k, k < 5 → parseFieldDescriptor (TX5 k).2.2.1 = some (tyX5 k) := by decide +kernel
abbrev cX5_init : ByteArray := prog_7_method_1_code
def yX5_init : MethodName := ⟨RX5, "<init>", "(LManorLoops$Script;)V"⟩
abbrev cX5_copyFrom : ByteArray := prog_7_method_2_code
def yX5_copyFrom : MethodName := ⟨RX5, "copyFrom", "(LManorLoops$Props;)V"⟩
abbrev cX5_lay : ByteArray := prog_7_method_3_code
def yX5_lay : MethodName := ⟨RX5, "lay", "(II)V"⟩
abbrev cX5_giveToTrack : ByteArray := prog_7_method_4_code
def yX5_giveToTrack : MethodName := ⟨RX5, "giveToTrack", "(II)V"⟩
abbrev cX5_giveToGuest : ByteArray := prog_7_method_5_code
def yX5_giveToGuest : MethodName := ⟨RX5, "giveToGuest", "(II)V"⟩
abbrev cX5_goHome : ByteArray := prog_7_method_6_code
def yX5_goHome : MethodName := ⟨RX5, "goHome", "()V"⟩
abbrev cX5_heldByGuest : ByteArray := prog_7_method_7_code
def yX5_heldByGuest : MethodName := ⟨RX5, "heldByGuest", "(I)I"⟩
abbrev cX5_lyingIn : ByteArray := prog_7_method_8_code
def yX5_lyingIn : MethodName := ⟨RX5, "lyingIn", "(I)I"⟩
def RX6 : String := "ManorLoops$Row"
def TX6 : u_T := fun k => match k with
  | _ => ("ManorLoops$Row", "cells", "[I", true)
def tyX6 : Nat → FieldType := fun k => match k with
  | _ => .array .int
abbrev wsX60 : List Cond := u_ws RX6 TX6 1
theorem nmX6 : ∀ a, a < 1 → ∀ b, b < 1 → a ≠ b → (TX6 a).2.1 ≠ (TX6 b).2.1 := by decide +kernel
theorem tyX6_ok : ∀ k, k < 1 → parseFieldDescriptor (TX6 k).2.2.1 = some (tyX6 k) := by decide +kernel
abbrev cX6_init : ByteArray := prog_8_method_1_code
def yX6_init : MethodName := ⟨RX6, "<init>", "(I)V"⟩
abbrev cX6_get : ByteArray := prog_8_method_2_code
def yX6_get : MethodName := ⟨RX6, "get", "(I)I"⟩
abbrev cX6_set : ByteArray := prog_8_method_3_code
def yX6_set : MethodName := ⟨RX6, "set", "(II)V"⟩
abbrev cX6_add : ByteArray := prog_8_method_4_code
def yX6_add : MethodName := ⟨RX6, "add", "(II)V"⟩
abbrev cX6_fill : ByteArray := prog_8_method_5_code
def yX6_fill : MethodName := ⟨RX6, "fill", "(I)V"⟩
abbrev cX6_sum : ByteArray := prog_8_method_6_code
def yX6_sum : MethodName := ⟨RX6, "sum", "()I"⟩
abbrev cX6_copyFrom : ByteArray := prog_8_method_7_code
def yX6_copyFrom : MethodName := ⟨RX6, "copyFrom", "(LManorLoops$Row;)V"⟩
def RX7 : String := "ManorLoops$Script"
def TX7 : u_T := fun k => match k with
  | 0 => ("ManorLoops$Script", "tracks", "I", false)
  | 1 => ("ManorLoops$Script", "props", "I", false)
  | 2 => ("ManorLoops$Script", "scenes", "I", false)
  | 3 => ("ManorLoops$Script", "trackHome", "LManorLoops$Row;", true)
  | 4 => ("ManorLoops$Script", "propHome", "LManorLoops$Row;", true)
  | 5 => ("ManorLoops$Script", "room", "LManorLoops$Row;", true)
  | 6 => ("ManorLoops$Script", "start", "LManorLoops$Row;", true)
  | 7 => ("ManorLoops$Script", "length", "LManorLoops$Row;", true)
  | 8 => ("ManorLoops$Script", "roles", "LManorLoops$Row;", true)
  | _ => ("ManorLoops$Script", "prop", "LManorLoops$Row;", true)
def tyX7 : Nat → FieldType := fun k => match k with
  | 0 => .int
  | 1 => .int
  | 2 => .int
  | 3 => .object "ManorLoops$Row"
  | 4 => .object "ManorLoops$Row"
  | 5 => .object "ManorLoops$Row"
  | 6 => .object "ManorLoops$Row"
  | 7 => .object "ManorLoops$Row"
  | 8 => .object "ManorLoops$Row"
  | _ => .object "ManorLoops$Row"
abbrev wsX70 : List Cond := u_ws RX7 TX7 10
theorem nmX7 : ∀ a, a < 10 → ∀ b, b < 10 → a ≠ b → (TX7 a).2.1 ≠ (TX7 b).2.1 := by decide +kernel
theorem tyX7_ok : ∀ k, k < 10 → parseFieldDescriptor (TX7 k).2.2.1 = some (tyX7 k) := by decide +kernel
abbrev cX7_init : ByteArray := prog_9_method_1_code
def yX7_init : MethodName := ⟨RX7, "<init>", "()V"⟩
abbrev cX7_addTrack : ByteArray := prog_9_method_2_code
def yX7_addTrack : MethodName := ⟨RX7, "addTrack", "(I)I"⟩
abbrev cX7_addProp : ByteArray := prog_9_method_3_code
def yX7_addProp : MethodName := ⟨RX7, "addProp", "(I)I"⟩
abbrev cX7_addScene : ByteArray := prog_9_method_4_code
def yX7_addScene : MethodName := ⟨RX7, "addScene", "(IIIII)I"⟩
abbrev cX7_areTracks : ByteArray := prog_9_method_5_code
def yX7_areTracks : MethodName := ⟨RX7, "areTracks", "(I)Z"⟩
abbrev cX7_has : ByteArray := prog_9_method_6_code
def yX7_has : MethodName := ⟨RX7, "has", "(II)Z"⟩
abbrev cX7_countScenesOf : ByteArray := prog_9_method_7_code
def yX7_countScenesOf : MethodName := ⟨RX7, "countScenesOf", "(I)I"⟩
abbrev cX7_overlapsSceneOf : ByteArray := prog_9_method_8_code
def yX7_overlapsSceneOf : MethodName := ⟨RX7, "overlapsSceneOf", "(III)Z"⟩
abbrev cX7_overlap : ByteArray := prog_9_method_9_code
def yX7_overlap : MethodName := ⟨RX7, "overlap", "(II)Z"⟩
def RX8 : String := "ManorLoops$Stage"
def TX8 : u_T := fun k => match k with
  | 0 => ("ManorLoops$Stage", "script", "LManorLoops$Script;", true)
  | 1 => ("ManorLoops$Stage", "phase", "LManorLoops$Row;", true)
  | 2 => ("ManorLoops$Stage", "left", "LManorLoops$Row;", true)
  | 3 => ("ManorLoops$Stage", "late", "LManorLoops$Row;", true)
  | 4 => ("ManorLoops$Stage", "doneEver", "LManorLoops$Row;", true)
  | 5 => ("ManorLoops$Stage", "cutEver", "LManorLoops$Row;", true)
  | _ => ("ManorLoops$Stage", "lateEver", "I", false)
def tyX8 : Nat → FieldType := fun k => match k with
  | 0 => .object "ManorLoops$Script"
  | 1 => .object "ManorLoops$Row"
  | 2 => .object "ManorLoops$Row"
  | 3 => .object "ManorLoops$Row"
  | 4 => .object "ManorLoops$Row"
  | 5 => .object "ManorLoops$Row"
  | _ => .int
abbrev wsX80 : List Cond := u_ws RX8 TX8 7
theorem nmX8 : ∀ a, a < 7 → ∀ b, b < 7 → a ≠ b → (TX8 a).2.1 ≠ (TX8 b).2.1 := by decide +kernel
theorem tyX8_ok : ∀ k, k < 7 → parseFieldDescriptor (TX8 k).2.2.1 = some (tyX8 k) := by decide +kernel
abbrev cX8_init : ByteArray := prog_10_method_1_code
def yX8_init : MethodName := ⟨RX8, "<init>", "(LManorLoops$Script;)V"⟩
abbrev cX8_copyFrom : ByteArray := prog_10_method_2_code
def yX8_copyFrom : MethodName := ⟨RX8, "copyFrom", "(LManorLoops$Stage;)V"⟩
abbrev cX8_runs : ByteArray := prog_10_method_3_code
def yX8_runs : MethodName := ⟨RX8, "runs", "(I)Z"⟩
abbrev cX8_waits : ByteArray := prog_10_method_4_code
def yX8_waits : MethodName := ⟨RX8, "waits", "(I)Z"⟩
abbrev cX8_restart : ByteArray := prog_10_method_5_code
def yX8_restart : MethodName := ⟨RX8, "restart", "()V"⟩
abbrev cX8_cut : ByteArray := prog_10_method_6_code
def yX8_cut : MethodName := ⟨RX8, "cut", "(I)V"⟩
abbrev cX8_begin : ByteArray := prog_10_method_7_code
def yX8_begin : MethodName := ⟨RX8, "begin", "(I)V"⟩
abbrev cX8_delay : ByteArray := prog_10_method_8_code
def yX8_delay : MethodName := ⟨RX8, "delay", "(I)V"⟩
abbrev cX8_goOn : ByteArray := prog_10_method_9_code
def yX8_goOn : MethodName := ⟨RX8, "goOn", "(I)V"⟩
abbrev cX8_busyTracks : ByteArray := prog_10_method_10_code
def yX8_busyTracks : MethodName := ⟨RX8, "busyTracks", "()I"⟩
abbrev cX8_nextSceneOf : ByteArray := prog_10_method_11_code
def yX8_nextSceneOf : MethodName := ⟨RX8, "nextSceneOf", "(I)I"⟩
abbrev cX8_runningWith : ByteArray := prog_10_method_12_code
def yX8_runningWith : MethodName := ⟨RX8, "runningWith", "(I)I"⟩
abbrev cX8_runningIn : ByteArray := prog_10_method_13_code
def yX8_runningIn : MethodName := ⟨RX8, "runningIn", "(I)I"⟩
abbrev cX8_countRunning : ByteArray := prog_10_method_14_code
def yX8_countRunning : MethodName := ⟨RX8, "countRunning", "()I"⟩
def RX9 : String := "ManorLoops"
def TX9 : u_T := fun k => match k with
  | 0 => ("ManorLoops", "house", "LManorLoops$House;", true)
  | 1 => ("ManorLoops", "script", "LManorLoops$Script;", true)
  | 2 => ("ManorLoops", "actual", "LManorLoops$Evening;", true)
  | _ => ("ManorLoops", "trial", "LManorLoops$Evening;", true)
def tyX9 : Nat → FieldType := fun k => match k with
  | 0 => .object "ManorLoops$House"
  | 1 => .object "ManorLoops$Script"
  | 2 => .object "ManorLoops$Evening"
  | _ => .object "ManorLoops$Evening"
abbrev wsX90 : List Cond := u_ws RX9 TX9 4
theorem nmX9 : ∀ a, a < 4 → ∀ b, b < 4 → a ≠ b → (TX9 a).2.1 ≠ (TX9 b).2.1 := by decide +kernel
theorem tyX9_ok : ∀ k, k < 4 → parseFieldDescriptor (TX9 k).2.2.1 = some (tyX9 k) := by decide +kernel
abbrev cX9_init : ByteArray := prog_1_method_1_code
def yX9_init : MethodName := ⟨RX9, "<init>", "()V"⟩
abbrev cX9_room : ByteArray := prog_1_method_2_code
def yX9_room : MethodName := ⟨RX9, "room", "(I)I"⟩
abbrev cX9_door : ByteArray := prog_1_method_3_code
def yX9_door : MethodName := ⟨RX9, "door", "(III)I"⟩
abbrev cX9_track : ByteArray := prog_1_method_4_code
def yX9_track : MethodName := ⟨RX9, "track", "(I)I"⟩
abbrev cX9_prop : ByteArray := prog_1_method_5_code
def yX9_prop : MethodName := ⟨RX9, "prop", "(I)I"⟩
abbrev cX9_scene : ByteArray := prog_1_method_6_code
def yX9_scene : MethodName := ⟨RX9, "scene", "(IIIII)I"⟩
abbrev cX9_guest : ByteArray := prog_1_method_7_code
def yX9_guest : MethodName := ⟨RX9, "guest", "(I)I"⟩
abbrev cX9_habit : ByteArray := prog_1_method_8_code
def yX9_habit : MethodName := ⟨RX9, "habit", "(III)I"⟩
abbrev cX9_pass : ByteArray := prog_1_method_9_code
def yX9_pass : MethodName := ⟨RX9, "pass", "(I)I"⟩
abbrev cX9_take : ByteArray := prog_1_method_10_code
def yX9_take : MethodName := ⟨RX9, "take", "(II)I"⟩
abbrev cX9_leave : ByteArray := prog_1_method_11_code
def yX9_leave : MethodName := ⟨RX9, "leave", "(I)I"⟩
abbrev cX9_play : ByteArray := prog_1_method_12_code
def yX9_play : MethodName := ⟨RX9, "play", "(II)I"⟩
abbrev cX9_part : ByteArray := prog_1_method_13_code
def yX9_part : MethodName := ⟨RX9, "part", "(I)I"⟩
abbrev cX9_ofRoom : ByteArray := prog_1_method_14_code
def yX9_ofRoom : MethodName := ⟨RX9, "ofRoom", "(II)I"⟩
abbrev cX9_way : ByteArray := prog_1_method_15_code
def yX9_way : MethodName := ⟨RX9, "way", "(III)I"⟩
abbrev cX9_ofTrack : ByteArray := prog_1_method_16_code
def yX9_ofTrack : MethodName := ⟨RX9, "ofTrack", "(II)I"⟩
abbrev cX9_ofScene : ByteArray := prog_1_method_17_code
def yX9_ofScene : MethodName := ⟨RX9, "ofScene", "(II)I"⟩
abbrev cX9_ofGuest : ByteArray := prog_1_method_18_code
def yX9_ofGuest : MethodName := ⟨RX9, "ofGuest", "(II)I"⟩
abbrev cX9_ofProp : ByteArray := prog_1_method_19_code
def yX9_ofProp : MethodName := ⟨RX9, "ofProp", "(II)I"⟩
abbrev cX9_seen : ByteArray := prog_1_method_20_code
def yX9_seen : MethodName := ⟨RX9, "seen", "(II)I"⟩
abbrev cX9_many : ByteArray := prog_1_method_21_code
def yX9_many : MethodName := ⟨RX9, "many", "(I)I"⟩
abbrev cX9_meanKnown : ByteArray := prog_1_method_22_code
def yX9_meanKnown : MethodName := ⟨RX9, "meanKnown", "()D"⟩
abbrev cX9_wouldKnow : ByteArray := prog_1_method_23_code
def yX9_wouldKnow : MethodName := ⟨RX9, "wouldKnow", "(II)I"⟩
abbrev cX9_bestHabit : ByteArray := prog_1_method_24_code
def yX9_bestHabit : MethodName := ⟨RX9, "bestHabit", "(II)I"⟩
abbrev cX9_wouldCut : ByteArray := prog_1_method_25_code
def yX9_wouldCut : MethodName := ⟨RX9, "wouldCut", "(I)I"⟩
abbrev cX9_doubles : ByteArray := prog_1_method_26_code
def yX9_doubles : MethodName := ⟨RX9, "doubles", "(I)I"⟩
abbrev cX9_digest : ByteArray := prog_1_method_27_code
def yX9_digest : MethodName := ⟨RX9, "digest", "()J"⟩
abbrev cX9_fold : ByteArray := prog_1_method_28_code
def yX9_fold : MethodName := ⟨RX9, "fold", "(JJ)J"⟩
abbrev cX9_foldRooms : ByteArray := prog_1_method_29_code
def yX9_foldRooms : MethodName := ⟨RX9, "foldRooms", "(J)J"⟩
abbrev cX9_foldTracks : ByteArray := prog_1_method_30_code
def yX9_foldTracks : MethodName := ⟨RX9, "foldTracks", "(J)J"⟩
abbrev cX9_foldScenes : ByteArray := prog_1_method_31_code
def yX9_foldScenes : MethodName := ⟨RX9, "foldScenes", "(J)J"⟩
abbrev cX9_foldProps : ByteArray := prog_1_method_32_code
def yX9_foldProps : MethodName := ⟨RX9, "foldProps", "(J)J"⟩
abbrev cX9_foldGuests : ByteArray := prog_1_method_33_code
def yX9_foldGuests : MethodName := ⟨RX9, "foldGuests", "(J)J"⟩
abbrev cX9_countCutsOfTrial : ByteArray := prog_1_method_34_code
def yX9_countCutsOfTrial : MethodName := ⟨RX9, "countCutsOfTrial", "()I"⟩
abbrev cX9_standsForHabit : ByteArray := prog_1_method_35_code
def yX9_standsForHabit : MethodName := ⟨RX9, "standsForHabit", "(I)Z"⟩
abbrev cX9_habitBehind : ByteArray := prog_1_method_36_code
def yX9_habitBehind : MethodName := ⟨RX9, "habitBehind", "(I)I"⟩
abbrev cX9_checkRoom : ByteArray := prog_1_method_37_code
def yX9_checkRoom : MethodName := ⟨RX9, "checkRoom", "(I)V"⟩
abbrev cX9_checkTrack : ByteArray := prog_1_method_38_code
def yX9_checkTrack : MethodName := ⟨RX9, "checkTrack", "(I)V"⟩
abbrev cX9_checkProp : ByteArray := prog_1_method_39_code
def yX9_checkProp : MethodName := ⟨RX9, "checkProp", "(I)V"⟩
abbrev cX9_checkScene : ByteArray := prog_1_method_40_code
def yX9_checkScene : MethodName := ⟨RX9, "checkScene", "(I)V"⟩
abbrev cX9_checkGuest : ByteArray := prog_1_method_41_code
def yX9_checkGuest : MethodName := ⟨RX9, "checkGuest", "(I)V"⟩
abbrev cX9_checkWhat : ByteArray := prog_1_method_42_code
def yX9_checkWhat : MethodName := ⟨RX9, "checkWhat", "(II)V"⟩
abbrev cX9_checkMinutes : ByteArray := prog_1_method_43_code
def yX9_checkMinutes : MethodName := ⟨RX9, "checkMinutes", "(II)V"⟩
abbrev cX9_checkTime : ByteArray := prog_1_method_44_code
def yX9_checkTime : MethodName := ⟨RX9, "checkTime", "(II)V"⟩
def RX10 : String := "ManorLoopsModel$House"
def TX10 : u_T := fun k => match k with
  | 0 => ("ManorLoopsModel$House", "capacity", "[I", true)
  | 1 => ("ManorLoopsModel$House", "width", "[[I", true)
  | 2 => ("ManorLoopsModel$House", "far", "[[I", true)
  | 3 => ("ManorLoopsModel$House", "tracks", "[[I", true)
  | 4 => ("ManorLoopsModel$House", "props", "[[I", true)
  | 5 => ("ManorLoopsModel$House", "scenes", "[[I", true)
  | 6 => ("ManorLoopsModel$House", "guests", "[[I", true)
  | 7 => ("ManorLoopsModel$House", "seen", "[[I", true)
  | 8 => ("ManorLoopsModel$House", "now", "I", false)
  | 9 => ("ManorLoopsModel$House", "rooms", "I", false)
  | 10 => ("ManorLoopsModel$House", "doors", "I", false)
  | 11 => ("ManorLoopsModel$House", "trackCount", "I", false)
  | 12 => ("ManorLoopsModel$House", "propCount", "I", false)
  | 13 => ("ManorLoopsModel$House", "sceneCount", "I", false)
  | 14 => ("ManorLoopsModel$House", "guestCount", "I", false)
  | _ => ("ManorLoopsModel$House", "late", "I", false)
def tyX10 : Nat → FieldType := fun k => match k with
  | 0 => .array .int
  | 1 => .array (.array .int)
  | 2 => .array (.array .int)
  | 3 => .array (.array .int)
  | 4 => .array (.array .int)
  | 5 => .array (.array .int)
  | 6 => .array (.array .int)
  | 7 => .array (.array .int)
  | 8 => .int
  | 9 => .int
  | 10 => .int
  | 11 => .int
  | 12 => .int
  | 13 => .int
  | 14 => .int
  | _ => .int
abbrev wsX100 : List Cond := u_ws RX10 TX10 16
theorem nmX10 : ∀ a, a < 16 → ∀ b, b < 16 → a ≠ b → (TX10 a).2.1 ≠ (TX10 b).2.1 := by decide +kernel
theorem tyX10_ok : ∀ k, k < 16 → parseFieldDescriptor (TX10 k).2.2.1 = some (tyX10 k) := by decide +kernel
abbrev cX10_init : ByteArray := prog_13_method_1_code
def yX10_init : MethodName := ⟨RX10, "<init>", "()V"⟩
abbrev cX10_copy : ByteArray := prog_13_method_2_code
def yX10_copy : MethodName := ⟨RX10, "copy", "()LManorLoopsModel$House;"⟩
abbrev cX10_rows : ByteArray := prog_13_method_3_code
def yX10_rows : MethodName := ⟨RX10, "rows", "([[I[[I)V"⟩
abbrev cX10_measure : ByteArray := prog_13_method_4_code
def yX10_measure : MethodName := ⟨RX10, "measure", "()V"⟩
abbrev cX10_next : ByteArray := prog_13_method_5_code
def yX10_next : MethodName := ⟨RX10, "next", "(II)I"⟩
abbrev cX10_minute : ByteArray := prog_13_method_6_code
def yX10_minute : MethodName := ⟨RX10, "minute", "()I"⟩
abbrev cX10_roomOf : ByteArray := prog_13_method_7_code
def yX10_roomOf : MethodName := ⟨RX10, "roomOf", "(I)I"⟩
abbrev cX10_runs : ByteArray := prog_13_method_8_code
def yX10_runs : MethodName := ⟨RX10, "runs", "(I)I"⟩
abbrev cX10_plays : ByteArray := prog_13_method_9_code
def yX10_plays : MethodName := ⟨RX10, "plays", "(I)I"⟩
abbrev cX10_isBusy : ByteArray := prog_13_method_10_code
def yX10_isBusy : MethodName := ⟨RX10, "isBusy", "(I)Z"⟩
abbrev cX10_nextScene : ByteArray := prog_13_method_11_code
def yX10_nextScene : MethodName := ⟨RX10, "nextScene", "(I)I"⟩
abbrev cX10_guestsIn : ByteArray := prog_13_method_12_code
def yX10_guestsIn : MethodName := ⟨RX10, "guestsIn", "(I)I"⟩
abbrev cX10_runningIn : ByteArray := prog_13_method_13_code
def yX10_runningIn : MethodName := ⟨RX10, "runningIn", "(I)I"⟩
abbrev cX10_lies : ByteArray := prog_13_method_14_code
def yX10_lies : MethodName := ⟨RX10, "lies", "(II)Z"⟩
abbrev cX10_go : ByteArray := prog_13_method_15_code
def yX10_go : MethodName := ⟨RX10, "go", "()I"⟩
abbrev cX10_loop : ByteArray := prog_13_method_16_code
def yX10_loop : MethodName := ⟨RX10, "loop", "()V"⟩
abbrev cX10_walk : ByteArray := prog_13_method_17_code
def yX10_walk : MethodName := ⟨RX10, "walk", "([II)V"⟩
abbrev cX10_run : ByteArray := prog_13_method_18_code
def yX10_run : MethodName := ⟨RX10, "run", "([I)I"⟩
abbrev cX10_attend : ByteArray := prog_13_method_19_code
def yX10_attend : MethodName := ⟨RX10, "attend", "([I)V"⟩
abbrev cX10_wish : ByteArray := prog_13_method_20_code
def yX10_wish : MethodName := ⟨RX10, "wish", "([I)I"⟩
abbrev cX10_wander : ByteArray := prog_13_method_21_code
def yX10_wander : MethodName := ⟨RX10, "wander", "(I)I"⟩
abbrev cX10_move : ByteArray := prog_13_method_22_code
def yX10_move : MethodName := ⟨RX10, "move", "([II[[I)V"⟩
abbrev cX10_show : ByteArray := prog_13_method_23_code
def yX10_show : MethodName := ⟨RX10, "show", "(I)V"⟩
abbrev cX10_sum : ByteArray := prog_13_method_24_code
def yX10_sum : MethodName := ⟨RX10, "sum", "([[III)I"⟩
abbrev cX10_known : ByteArray := prog_13_method_25_code
def yX10_known : MethodName := ⟨RX10, "known", "(I)I"⟩
abbrev cX10_overlap : ByteArray := prog_13_method_26_code
def yX10_overlap : MethodName := ⟨RX10, "overlap", "(II)Z"⟩
abbrev cX10_isOverlapped : ByteArray := prog_13_method_27_code
def yX10_isOverlapped : MethodName := ⟨RX10, "isOverlapped", "(II)Z"⟩
abbrev cX10_canPlay : ByteArray := prog_13_method_28_code
def yX10_canPlay : MethodName := ⟨RX10, "canPlay", "(II)Z"⟩
abbrev cX10_scenesOf : ByteArray := prog_13_method_29_code
def yX10_scenesOf : MethodName := ⟨RX10, "scenesOf", "(I)I"⟩
def RX11 : String := "ManorLoopsModel"
def TX11 : u_T := fun k => match k with
  | 0 => ("ManorLoopsModel", "thrown", "I", false)
  | _ => ("ManorLoopsModel", "house", "LManorLoopsModel$House;", true)
def tyX11 : Nat → FieldType := fun k => match k with
  | 0 => .int
  | _ => .object "ManorLoopsModel$House"
abbrev wsX110 : List Cond := u_ws RX11 TX11 2
theorem nmX11 : ∀ a, a < 2 → ∀ b, b < 2 → a ≠ b → (TX11 a).2.1 ≠ (TX11 b).2.1 := by decide +kernel
theorem tyX11_ok : ∀ k, k < 2 → parseFieldDescriptor (TX11 k).2.2.1 = some (tyX11 k) := by decide +kernel
abbrev cX11_init : ByteArray := prog_12_method_1_code
def yX11_init : MethodName := ⟨RX11, "<init>", "()V"⟩
abbrev cX11_thrown : ByteArray := prog_12_method_2_code
def yX11_thrown : MethodName := ⟨RX11, "thrown", "()I"⟩
abbrev cX11_no : ByteArray := prog_12_method_3_code
def yX11_no : MethodName := ⟨RX11, "no", "(I)I"⟩
abbrev cX11_in : ByteArray := prog_12_method_4_code
def yX11_in : MethodName := ⟨RX11, "in", "(III)Z"⟩
abbrev cX11_has : ByteArray := prog_12_method_5_code
def yX11_has : MethodName := ⟨RX11, "has", "(II)Z"⟩
abbrev cX11_size : ByteArray := prog_12_method_6_code
def yX11_size : MethodName := ⟨RX11, "size", "(I)I"⟩
abbrev cX11_isRoom : ByteArray := prog_12_method_7_code
def yX11_isRoom : MethodName := ⟨RX11, "isRoom", "(I)Z"⟩
abbrev cX11_isTrack : ByteArray := prog_12_method_8_code
def yX11_isTrack : MethodName := ⟨RX11, "isTrack", "(I)Z"⟩
abbrev cX11_isProp : ByteArray := prog_12_method_9_code
def yX11_isProp : MethodName := ⟨RX11, "isProp", "(I)Z"⟩
abbrev cX11_isScene : ByteArray := prog_12_method_10_code
def yX11_isScene : MethodName := ⟨RX11, "isScene", "(I)Z"⟩
abbrev cX11_isGuest : ByteArray := prog_12_method_11_code
def yX11_isGuest : MethodName := ⟨RX11, "isGuest", "(I)Z"⟩
abbrev cX11_room : ByteArray := prog_12_method_12_code
def yX11_room : MethodName := ⟨RX11, "room", "(I)I"⟩
abbrev cX11_door : ByteArray := prog_12_method_13_code
def yX11_door : MethodName := ⟨RX11, "door", "(III)I"⟩
abbrev cX11_track : ByteArray := prog_12_method_14_code
def yX11_track : MethodName := ⟨RX11, "track", "(I)I"⟩
abbrev cX11_prop : ByteArray := prog_12_method_15_code
def yX11_prop : MethodName := ⟨RX11, "prop", "(I)I"⟩
abbrev cX11_scene : ByteArray := prog_12_method_16_code
def yX11_scene : MethodName := ⟨RX11, "scene", "(IIIII)I"⟩
abbrev cX11_guest : ByteArray := prog_12_method_17_code
def yX11_guest : MethodName := ⟨RX11, "guest", "(I)I"⟩
abbrev cX11_habit : ByteArray := prog_12_method_18_code
def yX11_habit : MethodName := ⟨RX11, "habit", "(III)I"⟩
abbrev cX11_pass : ByteArray := prog_12_method_19_code
def yX11_pass : MethodName := ⟨RX11, "pass", "(I)I"⟩
abbrev cX11_take : ByteArray := prog_12_method_20_code
def yX11_take : MethodName := ⟨RX11, "take", "(II)I"⟩
abbrev cX11_leave : ByteArray := prog_12_method_21_code
def yX11_leave : MethodName := ⟨RX11, "leave", "(I)I"⟩
abbrev cX11_play : ByteArray := prog_12_method_22_code
def yX11_play : MethodName := ⟨RX11, "play", "(II)I"⟩
abbrev cX11_part : ByteArray := prog_12_method_23_code
def yX11_part : MethodName := ⟨RX11, "part", "(I)I"⟩
abbrev cX11_roomNow : ByteArray := prog_12_method_24_code
def yX11_roomNow : MethodName := ⟨RX11, "roomNow", "(II)I"⟩
abbrev cX11_ofRoom : ByteArray := prog_12_method_25_code
def yX11_ofRoom : MethodName := ⟨RX11, "ofRoom", "(II)I"⟩
abbrev cX11_wayNow : ByteArray := prog_12_method_26_code
def yX11_wayNow : MethodName := ⟨RX11, "wayNow", "(III)I"⟩
abbrev cX11_way : ByteArray := prog_12_method_27_code
def yX11_way : MethodName := ⟨RX11, "way", "(III)I"⟩
abbrev cX11_trackNow : ByteArray := prog_12_method_28_code
def yX11_trackNow : MethodName := ⟨RX11, "trackNow", "(II)I"⟩
abbrev cX11_ofTrack : ByteArray := prog_12_method_29_code
def yX11_ofTrack : MethodName := ⟨RX11, "ofTrack", "(II)I"⟩
abbrev cX11_sceneNow : ByteArray := prog_12_method_30_code
def yX11_sceneNow : MethodName := ⟨RX11, "sceneNow", "(II)I"⟩
abbrev cX11_ofScene : ByteArray := prog_12_method_31_code
def yX11_ofScene : MethodName := ⟨RX11, "ofScene", "(II)I"⟩
abbrev cX11_guestNow : ByteArray := prog_12_method_32_code
def yX11_guestNow : MethodName := ⟨RX11, "guestNow", "(II)I"⟩
abbrev cX11_ofGuest : ByteArray := prog_12_method_33_code
def yX11_ofGuest : MethodName := ⟨RX11, "ofGuest", "(II)I"⟩
abbrev cX11_propNow : ByteArray := prog_12_method_34_code
def yX11_propNow : MethodName := ⟨RX11, "propNow", "(II)I"⟩
abbrev cX11_ofProp : ByteArray := prog_12_method_35_code
def yX11_ofProp : MethodName := ⟨RX11, "ofProp", "(II)I"⟩
abbrev cX11_seen : ByteArray := prog_12_method_36_code
def yX11_seen : MethodName := ⟨RX11, "seen", "(II)I"⟩
abbrev cX11_manyNow : ByteArray := prog_12_method_37_code
def yX11_manyNow : MethodName := ⟨RX11, "manyNow", "(I)I"⟩
abbrev cX11_many : ByteArray := prog_12_method_38_code
def yX11_many : MethodName := ⟨RX11, "many", "(I)I"⟩
abbrev cX11_meanKnown : ByteArray := prog_12_method_39_code
def yX11_meanKnown : MethodName := ⟨RX11, "meanKnown", "()D"⟩
abbrev cX11_knowNow : ByteArray := prog_12_method_40_code
def yX11_knowNow : MethodName := ⟨RX11, "knowNow", "(LManorLoopsModel$House;II)I"⟩
abbrev cX11_wouldKnow : ByteArray := prog_12_method_41_code
def yX11_wouldKnow : MethodName := ⟨RX11, "wouldKnow", "(II)I"⟩
abbrev cX11_bestHabit : ByteArray := prog_12_method_42_code
def yX11_bestHabit : MethodName := ⟨RX11, "bestHabit", "(II)I"⟩
abbrev cX11_cutNow : ByteArray := prog_12_method_43_code
def yX11_cutNow : MethodName := ⟨RX11, "cutNow", "(I)I"⟩
abbrev cX11_wouldCut : ByteArray := prog_12_method_44_code
def yX11_wouldCut : MethodName := ⟨RX11, "wouldCut", "(I)I"⟩
abbrev cX11_doublesNow : ByteArray := prog_12_method_45_code
def yX11_doublesNow : MethodName := ⟨RX11, "doublesNow", "(I)I"⟩
abbrev cX11_doubles : ByteArray := prog_12_method_46_code
def yX11_doubles : MethodName := ⟨RX11, "doubles", "(I)I"⟩
abbrev cX11_digest : ByteArray := prog_12_method_47_code
def yX11_digest : MethodName := ⟨RX11, "digest", "()J"⟩
def RJx145de : String := "java/io/Serializable"
def TJx145de : u_T := fun k => match k with
  | _ => ("", "", "", false)
def tyJx145de : Nat → FieldType := fun k => match k with
  | _ => .int
theorem nmJx145de : ∀ a, a < 0 → ∀ b, b < 0 → a ≠ b → (TJx145de a).2.1 ≠ (TJx145de b).2.1 := by decide +kernel
theorem tyJx145de_ok : ∀ k, k < 0 → parseFieldDescriptor (TJx145de k).2.2.1 = some (tyJx145de k) := by decide +kernel
def RJ6 : String := "java/lang/Integer"
def TJ6 : u_T := fun k => match k with
  | _ => ("", "", "", false)
def tyJ6 : Nat → FieldType := fun k => match k with
  | _ => .int
theorem nmJ6 : ∀ a, a < 0 → ∀ b, b < 0 → a ≠ b → (TJ6 a).2.1 ≠ (TJ6 b).2.1 := by decide +kernel
theorem tyJ6_ok : ∀ k, k < 0 → parseFieldDescriptor (TJ6 k).2.2.1 = some (tyJ6 k) := by decide +kernel
abbrev cJ6_bitCount_0f7a4 : ByteArray := prog_18_method_49_code
def yJ6_bitCount_0f7a4 : MethodName := ⟨RJ6, "bitCount", "(I)I"⟩
def RJ9 : String := "java/lang/Math"
def TJ9 : u_T := fun k => match k with
  | _ => ("", "", "", false)
def tyJ9 : Nat → FieldType := fun k => match k with
  | _ => .int
theorem nmJ9 : ∀ a, a < 0 → ∀ b, b < 0 → a ≠ b → (TJ9 a).2.1 ≠ (TJ9 b).2.1 := by decide +kernel
theorem tyJ9_ok : ∀ k, k < 0 → parseFieldDescriptor (TJ9 k).2.2.1 = some (tyJ9 k) := by decide +kernel
abbrev cJ9_max_7cf53 : ByteArray := prog_19_method_65_code
def yJ9_max_7cf53 : MethodName := ⟨RJ9, "max", "(II)I"⟩
abbrev cJ9_min_7cf53 : ByteArray := prog_19_method_69_code
def yJ9_min_7cf53 : MethodName := ⟨RJ9, "min", "(II)I"⟩
def RJ0 : String := "java/lang/String"
def TJ0 : u_T := fun k => match k with
  | _ => ("", "", "", false)
def tyJ0 : Nat → FieldType := fun k => match k with
  | _ => .int
theorem nmJ0 : ∀ a, a < 0 → ∀ b, b < 0 → a ≠ b → (TJ0 a).2.1 ≠ (TJ0 b).2.1 := by decide +kernel
theorem tyJ0_ok : ∀ k, k < 0 → parseFieldDescriptor (TJ0 k).2.2.1 = some (tyJ0 k) := by decide +kernel
def RJ10 : String := "java/lang/System"
def TJ10 : u_T := fun k => match k with
  | _ => ("", "", "", false)
def tyJ10 : Nat → FieldType := fun k => match k with
  | _ => .int
theorem nmJ10 : ∀ a, a < 0 → ∀ b, b < 0 → a ≠ b → (TJ10 a).2.1 ≠ (TJ10 b).2.1 := by decide +kernel
theorem tyJ10_ok : ∀ k, k < 0 → parseFieldDescriptor (TJ10 k).2.2.1 = some (tyJ10 k) := by decide +kernel
def RJ7 : String := "java/util/Arrays"
def TJ7 : u_T := fun k => match k with
  | _ => ("", "", "", false)
def tyJ7 : Nat → FieldType := fun k => match k with
  | _ => .int
theorem nmJ7 : ∀ a, a < 0 → ∀ b, b < 0 → a ≠ b → (TJ7 a).2.1 ≠ (TJ7 b).2.1 := by decide +kernel
theorem tyJ7_ok : ∀ k, k < 0 → parseFieldDescriptor (TJ7 k).2.2.1 = some (tyJ7 k) := by decide +kernel
abbrev cJ7_fill_53178 : ByteArray := prog_24_method_103_code
def yJ7_fill_53178 : MethodName := ⟨RJ7, "fill", "([II)V"⟩
def RL : String := "ManorLoopsLaw"
abbrev cL_room : ByteArray := method_3_code
def yL_room : MethodName := ⟨RL, "room", "(LManorLoops;I[J)I"⟩
abbrev cL_door : ByteArray := method_4_code
def yL_door : MethodName := ⟨RL, "door", "(LManorLoops;III[J)I"⟩
abbrev cL_track : ByteArray := method_5_code
def yL_track : MethodName := ⟨RL, "track", "(LManorLoops;I[J)I"⟩
abbrev cL_prop : ByteArray := method_6_code
def yL_prop : MethodName := ⟨RL, "prop", "(LManorLoops;I[J)I"⟩
abbrev cL_scene : ByteArray := method_7_code
def yL_scene : MethodName := ⟨RL, "scene", "(LManorLoops;IIIII[J)I"⟩
abbrev cL_guest : ByteArray := method_8_code
def yL_guest : MethodName := ⟨RL, "guest", "(LManorLoops;I[J)I"⟩
abbrev cL_habit : ByteArray := method_9_code
def yL_habit : MethodName := ⟨RL, "habit", "(LManorLoops;III[J)I"⟩
abbrev cL_pass : ByteArray := method_10_code
def yL_pass : MethodName := ⟨RL, "pass", "(LManorLoops;I[J)I"⟩
abbrev cL_take : ByteArray := method_11_code
def yL_take : MethodName := ⟨RL, "take", "(LManorLoops;II[J)I"⟩
abbrev cL_leave : ByteArray := method_12_code
def yL_leave : MethodName := ⟨RL, "leave", "(LManorLoops;I[J)I"⟩
abbrev cL_play : ByteArray := method_13_code
def yL_play : MethodName := ⟨RL, "play", "(LManorLoops;II[J)I"⟩
abbrev cL_part : ByteArray := method_14_code
def yL_part : MethodName := ⟨RL, "part", "(LManorLoops;I[J)I"⟩
abbrev cL_ofRoom : ByteArray := method_15_code
def yL_ofRoom : MethodName := ⟨RL, "ofRoom", "(LManorLoops;II[J)I"⟩
abbrev cL_way : ByteArray := method_16_code
def yL_way : MethodName := ⟨RL, "way", "(LManorLoops;III[J)I"⟩
abbrev cL_ofTrack : ByteArray := method_17_code
def yL_ofTrack : MethodName := ⟨RL, "ofTrack", "(LManorLoops;II[J)I"⟩
abbrev cL_ofScene : ByteArray := method_18_code
def yL_ofScene : MethodName := ⟨RL, "ofScene", "(LManorLoops;II[J)I"⟩
abbrev cL_ofGuest : ByteArray := method_19_code
def yL_ofGuest : MethodName := ⟨RL, "ofGuest", "(LManorLoops;II[J)I"⟩
abbrev cL_ofProp : ByteArray := method_20_code
def yL_ofProp : MethodName := ⟨RL, "ofProp", "(LManorLoops;II[J)I"⟩
abbrev cL_seen : ByteArray := method_21_code
def yL_seen : MethodName := ⟨RL, "seen", "(LManorLoops;II[J)I"⟩
abbrev cL_many : ByteArray := method_22_code
def yL_many : MethodName := ⟨RL, "many", "(LManorLoops;I[J)I"⟩
abbrev cL_wouldKnow : ByteArray := method_23_code
def yL_wouldKnow : MethodName := ⟨RL, "wouldKnow", "(LManorLoops;II[J)I"⟩
abbrev cL_bestHabit : ByteArray := method_24_code
def yL_bestHabit : MethodName := ⟨RL, "bestHabit", "(LManorLoops;II[J)I"⟩
abbrev cL_wouldCut : ByteArray := method_25_code
def yL_wouldCut : MethodName := ⟨RL, "wouldCut", "(LManorLoops;I[J)I"⟩
abbrev cL_doubles : ByteArray := method_26_code
def yL_doubles : MethodName := ⟨RL, "doubles", "(LManorLoops;I[J)I"⟩
abbrev cL_law : ByteArray := code
def yL_law : MethodName := ⟨RL, "law", "([I)Z"⟩
theorem inlX0 : ∀ w ∈ wsX00, w ∈ wsL_law := fun _ h => List.mem_append_left _ (List.mem_append_left _ (List.mem_append_left _ (List.mem_append_left _ (List.mem_append_left _ (List.mem_append_right _ h)))))
theorem inX0 : ∀ w ∈ wsX00, w ∈ lw_tbl := fun w h => wsL_law_in w (inlX0 w h)
theorem inlX1 : ∀ w ∈ wsX10, w ∈ wsL_law := fun _ h => List.mem_append_left _ (List.mem_append_left _ (List.mem_append_left _ (List.mem_append_left _ (List.mem_append_left _ (List.mem_append_left _ (List.mem_append_left _ (List.mem_append_left _ (List.mem_append_right _ h))))))))
theorem inX1 : ∀ w ∈ wsX10, w ∈ lw_tbl := fun w h => wsL_law_in w (inlX1 w h)
theorem inlX2 : ∀ w ∈ wsX20, w ∈ wsL_law := fun _ h => List.mem_append_left _ (List.mem_append_left _ (List.mem_append_left _ (List.mem_append_left _ (List.mem_append_left _ (List.mem_append_left _ (List.mem_append_left _ (List.mem_append_left _ (List.mem_append_left _ (List.mem_append_left _ (List.mem_append_left _ (List.mem_append_right _ h)))))))))))
theorem inX2 : ∀ w ∈ wsX20, w ∈ lw_tbl := fun w h => wsL_law_in w (inlX2 w h)
theorem inlX3 : ∀ w ∈ wsX30, w ∈ wsL_law := fun _ h => List.mem_append_left _ (List.mem_append_left _ (List.mem_append_left _ (List.mem_append_left _ (List.mem_append_left _ (List.mem_append_left _ (List.mem_append_left _ (List.mem_append_left _ (List.mem_append_left _ (List.mem_append_right _ h)))))))))
theorem inX3 : ∀ w ∈ wsX30, w ∈ lw_tbl := fun w h => wsL_law_in w (inlX3 w h)
theorem inlX4 : ∀ w ∈ wsX40, w ∈ wsL_law := fun _ h => List.mem_append_left _ (List.mem_append_left _ (List.mem_append_left _ (List.mem_append_left _ (List.mem_append_left _ (List.mem_append_left _ (List.mem_append_left _ (List.mem_append_left _ (List.mem_append_left _ (List.mem_append_left _ (List.mem_append_left _ (List.mem_append_left _ (List.mem_append_left _ (List.mem_append_right _ h)))))))))))))
theorem inX4 : ∀ w ∈ wsX40, w ∈ lw_tbl := fun w h => wsL_law_in w (inlX4 w h)
theorem inlX5 : ∀ w ∈ wsX50, w ∈ wsL_law := fun _ h => List.mem_append_left _ (List.mem_append_left _ (List.mem_append_left _ (List.mem_append_left _ (List.mem_append_left _ (List.mem_append_left _ (List.mem_append_right _ h))))))
theorem inX5 : ∀ w ∈ wsX50, w ∈ lw_tbl := fun w h => wsL_law_in w (inlX5 w h)
theorem inlX6 : ∀ w ∈ wsX60, w ∈ wsL_law := fun _ h => List.mem_append_left _ (List.mem_append_left _ (List.mem_append_left _ (List.mem_append_left _ (List.mem_append_left _ (List.mem_append_left _ (List.mem_append_left _ (List.mem_append_left _ (List.mem_append_left _ (List.mem_append_left _ (List.mem_append_right _ h))))))))))
theorem inX6 : ∀ w ∈ wsX60, w ∈ lw_tbl := fun w h => wsL_law_in w (inlX6 w h)
theorem inlX7 : ∀ w ∈ wsX70, w ∈ wsL_law := fun _ h => List.mem_append_left _ (List.mem_append_left _ (List.mem_append_left _ (List.mem_append_left _ (List.mem_append_left _ (List.mem_append_left _ (List.mem_append_left _ (List.mem_append_left _ (List.mem_append_left _ (List.mem_append_left _ (List.mem_append_left _ (List.mem_append_left _ (List.mem_append_right _ h))))))))))))
theorem inX7 : ∀ w ∈ wsX70, w ∈ lw_tbl := fun w h => wsL_law_in w (inlX7 w h)
theorem inlX8 : ∀ w ∈ wsX80, w ∈ wsL_law := fun _ h => List.mem_append_left _ (List.mem_append_left _ (List.mem_append_left _ (List.mem_append_left _ (List.mem_append_left _ (List.mem_append_left _ (List.mem_append_left _ (List.mem_append_right _ h)))))))
theorem inX8 : ∀ w ∈ wsX80, w ∈ lw_tbl := fun w h => wsL_law_in w (inlX8 w h)
theorem inlX9 : ∀ w ∈ wsX90, w ∈ wsL_law := fun _ h => List.mem_append_left _ (List.mem_append_left _ (List.mem_append_left _ (List.mem_append_left _ (List.mem_append_left _ (List.mem_append_left _ (List.mem_append_left _ (List.mem_append_left _ (List.mem_append_left _ (List.mem_append_left _ (List.mem_append_left _ (List.mem_append_left _ (List.mem_append_left _ (List.mem_append_left _ (List.mem_append_left _ (List.mem_append_right _ h)))))))))))))))
theorem inX9 : ∀ w ∈ wsX90, w ∈ lw_tbl := fun w h => wsL_law_in w (inlX9 w h)
theorem inlX10 : ∀ w ∈ wsX100, w ∈ wsL_law := fun _ h => List.mem_append_left _ (List.mem_append_left _ (List.mem_append_left _ (List.mem_append_left _ (List.mem_append_right _ h))))
theorem inX10 : ∀ w ∈ wsX100, w ∈ lw_tbl := fun w h => wsL_law_in w (inlX10 w h)
theorem inlX11 : ∀ w ∈ wsX110, w ∈ wsL_law := fun _ h => List.mem_append_left _ (List.mem_append_left _ (List.mem_append_left _ (List.mem_append_left _ (List.mem_append_left _ (List.mem_append_left _ (List.mem_append_left _ (List.mem_append_left _ (List.mem_append_left _ (List.mem_append_left _ (List.mem_append_left _ (List.mem_append_left _ (List.mem_append_left _ (List.mem_append_left _ (List.mem_append_right _ h))))))))))))))
theorem inX11 : ∀ w ∈ wsX110, w ∈ lw_tbl := fun w h => wsL_law_in w (inlX11 w h)
theorem inJx145de : ∀ w ∈ wsJx145de0, w ∈ lw_tbl := by decide +kernel
theorem inJ6 : ∀ w ∈ wsJ60, w ∈ lw_tbl := by decide +kernel
theorem inJ9 : ∀ w ∈ wsJ90, w ∈ lw_tbl := by decide +kernel
theorem inJ0 : ∀ w ∈ wsJ00, w ∈ lw_tbl := by decide +kernel
theorem inJ10 : ∀ w ∈ wsJ100, w ∈ lw_tbl := by decide +kernel
theorem inJ7 : ∀ w ∈ wsJ70, w ∈ lw_tbl := by decide +kernel
theorem dX0_init_0 : decode cX0_init 0 = .ok (.aload_n 0, 1) := by decide +kernel
theorem dX0_init_1 : decode cX0_init 1 = .ok (.invokespecial 3, 3) := by decide +kernel
theorem dX0_init_4 : decode cX0_init 4 = .ok (.aload_n 0, 1) := by decide +kernel
theorem dX0_init_5 : decode cX0_init 5 = .ok (.new 9, 3) := by decide +kernel
theorem dX0_init_8 : decode cX0_init 8 = .ok (.dup, 1) := by decide +kernel
theorem dX0_init_9 : decode cX0_init 9 = .ok (.bipush 12, 2) := by decide +kernel
theorem dX0_init_11 : decode cX0_init 11 = .ok (.invokespecial 11, 3) := by decide +kernel
theorem dX0_init_14 : decode cX0_init 14 = .ok (.putfield 14, 3) := by decide +kernel
theorem dX0_init_17 : decode cX0_init 17 = .ok (.aload_n 0, 1) := by decide +kernel
theorem dX0_init_18 : decode cX0_init 18 = .ok (.new 9, 3) := by decide +kernel
theorem dX0_init_21 : decode cX0_init 21 = .ok (.dup, 1) := by decide +kernel
theorem dX0_init_22 : decode cX0_init 22 = .ok (.bipush 12, 2) := by decide +kernel
theorem dX0_init_24 : decode cX0_init 24 = .ok (.invokespecial 11, 3) := by decide +kernel
theorem dX0_init_27 : decode cX0_init 27 = .ok (.putfield 20, 3) := by decide +kernel
theorem dX0_init_30 : decode cX0_init 30 = .ok (.aload_n 0, 1) := by decide +kernel
theorem dX0_init_31 : decode cX0_init 31 = .ok (.new 9, 3) := by decide +kernel
theorem dX0_init_34 : decode cX0_init 34 = .ok (.dup, 1) := by decide +kernel
theorem dX0_init_35 : decode cX0_init 35 = .ok (.bipush 12, 2) := by decide +kernel
theorem dX0_init_37 : decode cX0_init 37 = .ok (.invokespecial 11, 3) := by decide +kernel
theorem dX0_init_40 : decode cX0_init 40 = .ok (.putfield 23, 3) := by decide +kernel
theorem dX0_init_43 : decode cX0_init 43 = .ok (.aload_n 0, 1) := by decide +kernel
theorem dX0_init_44 : decode cX0_init 44 = .ok (.new 9, 3) := by decide +kernel
theorem dX0_init_47 : decode cX0_init 47 = .ok (.dup, 1) := by decide +kernel
theorem dX0_init_48 : decode cX0_init 48 = .ok (.bipush 12, 2) := by decide +kernel
theorem dX0_init_50 : decode cX0_init 50 = .ok (.invokespecial 11, 3) := by decide +kernel
theorem dX0_init_53 : decode cX0_init 53 = .ok (.putfield 26, 3) := by decide +kernel
theorem dX0_init_56 : decode cX0_init 56 = .ok (.aload_n 0, 1) := by decide +kernel
theorem dX0_init_57 : decode cX0_init 57 = .ok (.new 9, 3) := by decide +kernel
theorem dX0_init_60 : decode cX0_init 60 = .ok (.dup, 1) := by decide +kernel
theorem dX0_init_61 : decode cX0_init 61 = .ok (.bipush 12, 2) := by decide +kernel
theorem dX0_init_63 : decode cX0_init 63 = .ok (.invokespecial 11, 3) := by decide +kernel
theorem dX0_init_66 : decode cX0_init 66 = .ok (.putfield 29, 3) := by decide +kernel
theorem dX0_init_69 : decode cX0_init 69 = .ok (.aload_n 0, 1) := by decide +kernel
theorem dX0_init_70 : decode cX0_init 70 = .ok (.new 9, 3) := by decide +kernel
theorem dX0_init_73 : decode cX0_init 73 = .ok (.dup, 1) := by decide +kernel
theorem dX0_init_74 : decode cX0_init 74 = .ok (.bipush 12, 2) := by decide +kernel
theorem dX0_init_76 : decode cX0_init 76 = .ok (.invokespecial 11, 3) := by decide +kernel
theorem dX0_init_79 : decode cX0_init 79 = .ok (.putfield 32, 3) := by decide +kernel
theorem dX0_init_82 : decode cX0_init 82 = .ok (.aload_n 0, 1) := by decide +kernel
theorem dX0_init_83 : decode cX0_init 83 = .ok (.new 35, 3) := by decide +kernel
theorem dX0_init_86 : decode cX0_init 86 = .ok (.dup, 1) := by decide +kernel
theorem dX0_init_87 : decode cX0_init 87 = .ok (.bipush 12, 2) := by decide +kernel
theorem dX0_init_89 : decode cX0_init 89 = .ok (.bipush 12, 2) := by decide +kernel
theorem dX0_init_91 : decode cX0_init 91 = .ok (.invokespecial 37, 3) := by decide +kernel
theorem dX0_init_94 : decode cX0_init 94 = .ok (.putfield 40, 3) := by decide +kernel
theorem dX0_init_97 : decode cX0_init 97 = .ok (.aload_n 0, 1) := by decide +kernel
theorem dX0_init_98 : decode cX0_init 98 = .ok (.new 9, 3) := by decide +kernel
theorem dX0_init_101 : decode cX0_init 101 = .ok (.dup, 1) := by decide +kernel
theorem dX0_init_102 : decode cX0_init 102 = .ok (.bipush 8, 2) := by decide +kernel
theorem dX0_init_104 : decode cX0_init 104 = .ok (.invokespecial 11, 3) := by decide +kernel
theorem dX0_init_107 : decode cX0_init 107 = .ok (.putfield 44, 3) := by decide +kernel
theorem dX0_init_110 : decode cX0_init 110 = .ok (.return_, 1) := by decide +kernel
theorem dX0_copyFrom_0 : decode cX0_copyFrom 0 = .ok (.aload_n 0, 1) := by decide +kernel
theorem dX0_copyFrom_1 : decode cX0_copyFrom 1 = .ok (.aload_n 1, 1) := by decide +kernel
theorem dX0_copyFrom_2 : decode cX0_copyFrom 2 = .ok (.getfield 47, 3) := by decide +kernel
theorem dX0_copyFrom_5 : decode cX0_copyFrom 5 = .ok (.putfield 47, 3) := by decide +kernel
theorem dX0_copyFrom_8 : decode cX0_copyFrom 8 = .ok (.aload_n 0, 1) := by decide +kernel
theorem dX0_copyFrom_9 : decode cX0_copyFrom 9 = .ok (.getfield 14, 3) := by decide +kernel
theorem dX0_copyFrom_12 : decode cX0_copyFrom 12 = .ok (.aload_n 1, 1) := by decide +kernel
theorem dX0_copyFrom_13 : decode cX0_copyFrom 13 = .ok (.getfield 14, 3) := by decide +kernel
theorem dX0_copyFrom_16 : decode cX0_copyFrom 16 = .ok (.invokevirtual 51, 3) := by decide +kernel
theorem dX0_copyFrom_19 : decode cX0_copyFrom 19 = .ok (.aload_n 0, 1) := by decide +kernel
theorem dX0_copyFrom_20 : decode cX0_copyFrom 20 = .ok (.getfield 20, 3) := by decide +kernel
theorem dX0_copyFrom_23 : decode cX0_copyFrom 23 = .ok (.aload_n 1, 1) := by decide +kernel
theorem dX0_copyFrom_24 : decode cX0_copyFrom 24 = .ok (.getfield 20, 3) := by decide +kernel
theorem dX0_copyFrom_27 : decode cX0_copyFrom 27 = .ok (.invokevirtual 51, 3) := by decide +kernel
theorem dX0_copyFrom_30 : decode cX0_copyFrom 30 = .ok (.aload_n 0, 1) := by decide +kernel
theorem dX0_copyFrom_31 : decode cX0_copyFrom 31 = .ok (.getfield 23, 3) := by decide +kernel
theorem dX0_copyFrom_34 : decode cX0_copyFrom 34 = .ok (.aload_n 1, 1) := by decide +kernel
theorem dX0_copyFrom_35 : decode cX0_copyFrom 35 = .ok (.getfield 23, 3) := by decide +kernel
theorem dX0_copyFrom_38 : decode cX0_copyFrom 38 = .ok (.invokevirtual 51, 3) := by decide +kernel
theorem dX0_copyFrom_41 : decode cX0_copyFrom 41 = .ok (.aload_n 0, 1) := by decide +kernel
theorem dX0_copyFrom_42 : decode cX0_copyFrom 42 = .ok (.getfield 26, 3) := by decide +kernel
theorem dX0_copyFrom_45 : decode cX0_copyFrom 45 = .ok (.aload_n 1, 1) := by decide +kernel
theorem dX0_copyFrom_46 : decode cX0_copyFrom 46 = .ok (.getfield 26, 3) := by decide +kernel
theorem dX0_copyFrom_49 : decode cX0_copyFrom 49 = .ok (.invokevirtual 51, 3) := by decide +kernel
theorem dX0_copyFrom_52 : decode cX0_copyFrom 52 = .ok (.aload_n 0, 1) := by decide +kernel
theorem dX0_copyFrom_53 : decode cX0_copyFrom 53 = .ok (.getfield 29, 3) := by decide +kernel
theorem dX0_copyFrom_56 : decode cX0_copyFrom 56 = .ok (.aload_n 1, 1) := by decide +kernel
theorem dX0_copyFrom_57 : decode cX0_copyFrom 57 = .ok (.getfield 29, 3) := by decide +kernel
theorem dX0_copyFrom_60 : decode cX0_copyFrom 60 = .ok (.invokevirtual 51, 3) := by decide +kernel
theorem dX0_copyFrom_63 : decode cX0_copyFrom 63 = .ok (.aload_n 0, 1) := by decide +kernel
theorem dX0_copyFrom_64 : decode cX0_copyFrom 64 = .ok (.getfield 32, 3) := by decide +kernel
theorem dX0_copyFrom_67 : decode cX0_copyFrom 67 = .ok (.aload_n 1, 1) := by decide +kernel
theorem dX0_copyFrom_68 : decode cX0_copyFrom 68 = .ok (.getfield 32, 3) := by decide +kernel
theorem dX0_copyFrom_71 : decode cX0_copyFrom 71 = .ok (.invokevirtual 51, 3) := by decide +kernel
theorem dX0_copyFrom_74 : decode cX0_copyFrom 74 = .ok (.aload_n 0, 1) := by decide +kernel
theorem dX0_copyFrom_75 : decode cX0_copyFrom 75 = .ok (.getfield 40, 3) := by decide +kernel
theorem dX0_copyFrom_78 : decode cX0_copyFrom 78 = .ok (.aload_n 1, 1) := by decide +kernel
theorem dX0_copyFrom_79 : decode cX0_copyFrom 79 = .ok (.getfield 40, 3) := by decide +kernel
theorem dX0_copyFrom_82 : decode cX0_copyFrom 82 = .ok (.invokevirtual 55, 3) := by decide +kernel
theorem dX0_copyFrom_85 : decode cX0_copyFrom 85 = .ok (.aload_n 0, 1) := by decide +kernel
theorem dX0_copyFrom_86 : decode cX0_copyFrom 86 = .ok (.getfield 44, 3) := by decide +kernel
theorem dX0_copyFrom_89 : decode cX0_copyFrom 89 = .ok (.aload_n 1, 1) := by decide +kernel
theorem dX0_copyFrom_90 : decode cX0_copyFrom 90 = .ok (.getfield 44, 3) := by decide +kernel
theorem dX0_copyFrom_93 : decode cX0_copyFrom 93 = .ok (.invokevirtual 51, 3) := by decide +kernel
theorem dX0_copyFrom_96 : decode cX0_copyFrom 96 = .ok (.return_, 1) := by decide +kernel
theorem dX0_enter_0 : decode cX0_enter 0 = .ok (.aload_n 0, 1) := by decide +kernel
theorem dX0_enter_1 : decode cX0_enter 1 = .ok (.getfield 47, 3) := by decide +kernel
theorem dX0_enter_4 : decode cX0_enter 4 = .ok (.istore_n 2, 1) := by decide +kernel
theorem dX0_enter_5 : decode cX0_enter 5 = .ok (.aload_n 0, 1) := by decide +kernel
theorem dX0_enter_6 : decode cX0_enter 6 = .ok (.dup, 1) := by decide +kernel
theorem dX0_enter_7 : decode cX0_enter 7 = .ok (.getfield 47, 3) := by decide +kernel
theorem dX0_enter_10 : decode cX0_enter 10 = .ok (.iconst 1, 1) := by decide +kernel
theorem dX0_enter_11 : decode cX0_enter 11 = .ok (.iadd, 1) := by decide +kernel
theorem dX0_enter_12 : decode cX0_enter 12 = .ok (.putfield 47, 3) := by decide +kernel
theorem dX0_enter_15 : decode cX0_enter 15 = .ok (.aload_n 0, 1) := by decide +kernel
theorem dX0_enter_16 : decode cX0_enter 16 = .ok (.getfield 14, 3) := by decide +kernel
theorem dX0_enter_19 : decode cX0_enter 19 = .ok (.iload_n 2, 1) := by decide +kernel
theorem dX0_enter_20 : decode cX0_enter 20 = .ok (.iload_n 1, 1) := by decide +kernel
theorem dX0_enter_21 : decode cX0_enter 21 = .ok (.invokevirtual 58, 3) := by decide +kernel
theorem dX0_enter_24 : decode cX0_enter 24 = .ok (.aload_n 0, 1) := by decide +kernel
theorem dX0_enter_25 : decode cX0_enter 25 = .ok (.getfield 44, 3) := by decide +kernel
theorem dX0_enter_28 : decode cX0_enter 28 = .ok (.iload_n 1, 1) := by decide +kernel
theorem dX0_enter_29 : decode cX0_enter 29 = .ok (.iconst 1, 1) := by decide +kernel
theorem dX0_enter_30 : decode cX0_enter 30 = .ok (.invokevirtual 61, 3) := by decide +kernel
theorem dX0_enter_33 : decode cX0_enter 33 = .ok (.aload_n 0, 1) := by decide +kernel
theorem dX0_enter_34 : decode cX0_enter 34 = .ok (.iload_n 2, 1) := by decide +kernel
theorem dX0_enter_35 : decode cX0_enter 35 = .ok (.iconst 0, 1) := by decide +kernel
theorem dX0_enter_36 : decode cX0_enter 36 = .ok (.iconst (-1), 1) := by decide +kernel
theorem dX0_enter_37 : decode cX0_enter 37 = .ok (.invokevirtual 64, 3) := by decide +kernel
theorem dX0_enter_40 : decode cX0_enter 40 = .ok (.iload_n 2, 1) := by decide +kernel
theorem dX0_enter_41 : decode cX0_enter 41 = .ok (.ireturn, 1) := by decide +kernel
theorem dX0_changeHabit_0 : decode cX0_changeHabit 0 = .ok (.aload_n 0, 1) := by decide +kernel
theorem dX0_changeHabit_1 : decode cX0_changeHabit 1 = .ok (.getfield 20, 3) := by decide +kernel
theorem dX0_changeHabit_4 : decode cX0_changeHabit 4 = .ok (.iload_n 1, 1) := by decide +kernel
theorem dX0_changeHabit_5 : decode cX0_changeHabit 5 = .ok (.iload_n 2, 1) := by decide +kernel
theorem dX0_changeHabit_6 : decode cX0_changeHabit 6 = .ok (.invokevirtual 58, 3) := by decide +kernel
theorem dX0_changeHabit_9 : decode cX0_changeHabit 9 = .ok (.aload_n 0, 1) := by decide +kernel
theorem dX0_changeHabit_10 : decode cX0_changeHabit 10 = .ok (.getfield 23, 3) := by decide +kernel
theorem dX0_changeHabit_13 : decode cX0_changeHabit 13 = .ok (.iload_n 1, 1) := by decide +kernel
theorem dX0_changeHabit_14 : decode cX0_changeHabit 14 = .ok (.iload_n 2, 1) := by decide +kernel
theorem dX0_changeHabit_15 : decode cX0_changeHabit 15 = .ok (.iconst 1, 1) := by decide +kernel
theorem dX0_changeHabit_16 : decode cX0_changeHabit 16 = .ok (.if_icmp .ne 7, 3) := by decide +kernel
theorem dX0_changeHabit_19 : decode cX0_changeHabit 19 = .ok (.iload_n 3, 1) := by decide +kernel
theorem dX0_changeHabit_20 : decode cX0_changeHabit 20 = .ok (.goto 4, 3) := by decide +kernel
theorem dX0_changeHabit_23 : decode cX0_changeHabit 23 = .ok (.iconst (-1), 1) := by decide +kernel
theorem dX0_changeHabit_24 : decode cX0_changeHabit 24 = .ok (.invokevirtual 58, 3) := by decide +kernel
theorem dX0_changeHabit_27 : decode cX0_changeHabit 27 = .ok (.return_, 1) := by decide +kernel
theorem dX0_walk_0 : decode cX0_walk 0 = .ok (.aload_n 0, 1) := by decide +kernel
theorem dX0_walk_1 : decode cX0_walk 1 = .ok (.getfield 44, 3) := by decide +kernel
theorem dX0_walk_4 : decode cX0_walk 4 = .ok (.aload_n 0, 1) := by decide +kernel
theorem dX0_walk_5 : decode cX0_walk 5 = .ok (.getfield 14, 3) := by decide +kernel
theorem dX0_walk_8 : decode cX0_walk 8 = .ok (.iload_n 1, 1) := by decide +kernel
theorem dX0_walk_9 : decode cX0_walk 9 = .ok (.invokevirtual 68, 3) := by decide +kernel
theorem dX0_walk_12 : decode cX0_walk 12 = .ok (.iconst (-1), 1) := by decide +kernel
theorem dX0_walk_13 : decode cX0_walk 13 = .ok (.invokevirtual 61, 3) := by decide +kernel
theorem dX0_walk_16 : decode cX0_walk 16 = .ok (.aload_n 0, 1) := by decide +kernel
theorem dX0_walk_17 : decode cX0_walk 17 = .ok (.getfield 44, 3) := by decide +kernel
theorem dX0_walk_20 : decode cX0_walk 20 = .ok (.iload_n 2, 1) := by decide +kernel
theorem dX0_walk_21 : decode cX0_walk 21 = .ok (.iconst 1, 1) := by decide +kernel
theorem dX0_walk_22 : decode cX0_walk 22 = .ok (.invokevirtual 61, 3) := by decide +kernel
theorem dX0_walk_25 : decode cX0_walk 25 = .ok (.aload_n 0, 1) := by decide +kernel
theorem dX0_walk_26 : decode cX0_walk 26 = .ok (.getfield 14, 3) := by decide +kernel
theorem dX0_walk_29 : decode cX0_walk 29 = .ok (.iload_n 1, 1) := by decide +kernel
theorem dX0_walk_30 : decode cX0_walk 30 = .ok (.iload_n 2, 1) := by decide +kernel
theorem dX0_walk_31 : decode cX0_walk 31 = .ok (.invokevirtual 58, 3) := by decide +kernel
theorem dX0_walk_34 : decode cX0_walk 34 = .ok (.aload_n 0, 1) := by decide +kernel
theorem dX0_walk_35 : decode cX0_walk 35 = .ok (.getfield 29, 3) := by decide +kernel
theorem dX0_walk_38 : decode cX0_walk 38 = .ok (.iload_n 1, 1) := by decide +kernel
theorem dX0_walk_39 : decode cX0_walk 39 = .ok (.iconst 1, 1) := by decide +kernel
theorem dX0_walk_40 : decode cX0_walk 40 = .ok (.invokevirtual 61, 3) := by decide +kernel
theorem dX0_walk_43 : decode cX0_walk 43 = .ok (.return_, 1) := by decide +kernel
theorem dX0_knows_0 : decode cX0_knows 0 = .ok (.aload_n 0, 1) := by decide +kernel
theorem dX0_knows_1 : decode cX0_knows 1 = .ok (.getfield 26, 3) := by decide +kernel
theorem dX0_knows_4 : decode cX0_knows 4 = .ok (.iload_n 1, 1) := by decide +kernel
theorem dX0_knows_5 : decode cX0_knows 5 = .ok (.invokevirtual 68, 3) := by decide +kernel
theorem dX0_knows_8 : decode cX0_knows 8 = .ok (.iconst 1, 1) := by decide +kernel
theorem dX0_knows_9 : decode cX0_knows 9 = .ok (.iload_n 2, 1) := by decide +kernel
theorem dX0_knows_10 : decode cX0_knows 10 = .ok (.ishl, 1) := by decide +kernel
theorem dX0_knows_11 : decode cX0_knows 11 = .ok (.iand, 1) := by decide +kernel
theorem dX0_knows_12 : decode cX0_knows 12 = .ok (.ifCond .eq 7, 3) := by decide +kernel
theorem dX0_knows_15 : decode cX0_knows 15 = .ok (.iconst 1, 1) := by decide +kernel
theorem dX0_knows_16 : decode cX0_knows 16 = .ok (.goto 4, 3) := by decide +kernel
theorem dX0_knows_19 : decode cX0_knows 19 = .ok (.iconst 0, 1) := by decide +kernel
theorem dX0_knows_20 : decode cX0_knows 20 = .ok (.ireturn, 1) := by decide +kernel
theorem dX0_see_0 : decode cX0_see 0 = .ok (.aload_n 0, 1) := by decide +kernel
theorem dX0_see_1 : decode cX0_see 1 = .ok (.getfield 40, 3) := by decide +kernel
theorem dX0_see_4 : decode cX0_see 4 = .ok (.iload_n 1, 1) := by decide +kernel
theorem dX0_see_5 : decode cX0_see 5 = .ok (.iload_n 2, 1) := by decide +kernel
theorem dX0_see_6 : decode cX0_see 6 = .ok (.invokevirtual 72, 3) := by decide +kernel
theorem dX0_see_9 : decode cX0_see 9 = .ok (.iconst 1, 1) := by decide +kernel
theorem dX0_see_10 : decode cX0_see 10 = .ok (.iadd, 1) := by decide +kernel
theorem dX0_see_11 : decode cX0_see 11 = .ok (.istore 4, 2) := by decide +kernel
theorem dX0_see_13 : decode cX0_see 13 = .ok (.aload_n 0, 1) := by decide +kernel
theorem dX0_see_14 : decode cX0_see 14 = .ok (.getfield 40, 3) := by decide +kernel
theorem dX0_see_17 : decode cX0_see 17 = .ok (.iload_n 1, 1) := by decide +kernel
theorem dX0_see_18 : decode cX0_see 18 = .ok (.iload_n 2, 1) := by decide +kernel
theorem dX0_see_19 : decode cX0_see 19 = .ok (.iload 4, 2) := by decide +kernel
theorem dX0_see_21 : decode cX0_see 21 = .ok (.invokevirtual 75, 3) := by decide +kernel
theorem dX0_see_24 : decode cX0_see 24 = .ok (.iload 4, 2) := by decide +kernel
theorem dX0_see_26 : decode cX0_see 26 = .ok (.iload_n 3, 1) := by decide +kernel
theorem dX0_see_27 : decode cX0_see 27 = .ok (.if_icmp .lt 23, 3) := by decide +kernel
theorem dX0_see_30 : decode cX0_see 30 = .ok (.aload_n 0, 1) := by decide +kernel
theorem dX0_see_31 : decode cX0_see 31 = .ok (.getfield 26, 3) := by decide +kernel
theorem dX0_see_34 : decode cX0_see 34 = .ok (.iload_n 1, 1) := by decide +kernel
theorem dX0_see_35 : decode cX0_see 35 = .ok (.aload_n 0, 1) := by decide +kernel
theorem dX0_see_36 : decode cX0_see 36 = .ok (.getfield 26, 3) := by decide +kernel
theorem dX0_see_39 : decode cX0_see 39 = .ok (.iload_n 1, 1) := by decide +kernel
theorem dX0_see_40 : decode cX0_see 40 = .ok (.invokevirtual 68, 3) := by decide +kernel
theorem dX0_see_43 : decode cX0_see 43 = .ok (.iconst 1, 1) := by decide +kernel
theorem dX0_see_44 : decode cX0_see 44 = .ok (.iload_n 2, 1) := by decide +kernel
theorem dX0_see_45 : decode cX0_see 45 = .ok (.ishl, 1) := by decide +kernel
theorem dX0_see_46 : decode cX0_see 46 = .ok (.ior, 1) := by decide +kernel
theorem dX0_see_47 : decode cX0_see 47 = .ok (.invokevirtual 58, 3) := by decide +kernel
theorem dX0_see_50 : decode cX0_see 50 = .ok (.return_, 1) := by decide +kernel
theorem dX0_countKnownBy_0 : decode cX0_countKnownBy 0 = .ok (.aload_n 0, 1) := by decide +kernel
theorem dX0_countKnownBy_1 : decode cX0_countKnownBy 1 = .ok (.getfield 26, 3) := by decide +kernel
theorem dX0_countKnownBy_4 : decode cX0_countKnownBy 4 = .ok (.iload_n 1, 1) := by decide +kernel
theorem dX0_countKnownBy_5 : decode cX0_countKnownBy 5 = .ok (.invokevirtual 68, 3) := by decide +kernel
theorem dX0_countKnownBy_8 : decode cX0_countKnownBy 8 = .ok (.invokestatic 77, 3) := by decide +kernel
theorem dX0_countKnownBy_11 : decode cX0_countKnownBy 11 = .ok (.ireturn, 1) := by decide +kernel
theorem dX0_countKnowing_0 : decode cX0_countKnowing 0 = .ok (.iconst 0, 1) := by decide +kernel
theorem dX0_countKnowing_1 : decode cX0_countKnowing 1 = .ok (.istore_n 2, 1) := by decide +kernel
theorem dX0_countKnowing_2 : decode cX0_countKnowing 2 = .ok (.iconst 0, 1) := by decide +kernel
theorem dX0_countKnowing_3 : decode cX0_countKnowing 3 = .ok (.istore_n 3, 1) := by decide +kernel
theorem dX0_countKnowing_4 : decode cX0_countKnowing 4 = .ok (.iload_n 3, 1) := by decide +kernel
theorem dX0_countKnowing_5 : decode cX0_countKnowing 5 = .ok (.aload_n 0, 1) := by decide +kernel
theorem dX0_countKnowing_6 : decode cX0_countKnowing 6 = .ok (.getfield 47, 3) := by decide +kernel
theorem dX0_countKnowing_9 : decode cX0_countKnowing 9 = .ok (.if_icmp .ge 21, 3) := by decide +kernel
theorem dX0_countKnowing_12 : decode cX0_countKnowing 12 = .ok (.aload_n 0, 1) := by decide +kernel
theorem dX0_countKnowing_13 : decode cX0_countKnowing 13 = .ok (.iload_n 3, 1) := by decide +kernel
theorem dX0_countKnowing_14 : decode cX0_countKnowing 14 = .ok (.iload_n 1, 1) := by decide +kernel
theorem dX0_countKnowing_15 : decode cX0_countKnowing 15 = .ok (.invokevirtual 82, 3) := by decide +kernel
theorem dX0_countKnowing_18 : decode cX0_countKnowing 18 = .ok (.ifCond .eq 6, 3) := by decide +kernel
theorem dX0_countKnowing_21 : decode cX0_countKnowing 21 = .ok (.iinc 2 1, 3) := by decide +kernel
theorem dX0_countKnowing_24 : decode cX0_countKnowing 24 = .ok (.iinc 3 1, 3) := by decide +kernel
theorem dX0_countKnowing_27 : decode cX0_countKnowing 27 = .ok (.goto (-23), 3) := by decide +kernel
theorem dX0_countKnowing_30 : decode cX0_countKnowing 30 = .ok (.iload_n 2, 1) := by decide +kernel
theorem dX0_countKnowing_31 : decode cX0_countKnowing 31 = .ok (.ireturn, 1) := by decide +kernel
theorem dX0_countKnown_0 : decode cX0_countKnown 0 = .ok (.iconst 0, 1) := by decide +kernel
theorem dX0_countKnown_1 : decode cX0_countKnown 1 = .ok (.istore_n 1, 1) := by decide +kernel
theorem dX0_countKnown_2 : decode cX0_countKnown 2 = .ok (.iconst 0, 1) := by decide +kernel
theorem dX0_countKnown_3 : decode cX0_countKnown 3 = .ok (.istore_n 2, 1) := by decide +kernel
theorem dX0_countKnown_4 : decode cX0_countKnown 4 = .ok (.iload_n 2, 1) := by decide +kernel
theorem dX0_countKnown_5 : decode cX0_countKnown 5 = .ok (.aload_n 0, 1) := by decide +kernel
theorem dX0_countKnown_6 : decode cX0_countKnown 6 = .ok (.getfield 47, 3) := by decide +kernel
theorem dX0_countKnown_9 : decode cX0_countKnown 9 = .ok (.if_icmp .ge 17, 3) := by decide +kernel
theorem dX0_countKnown_12 : decode cX0_countKnown 12 = .ok (.iload_n 1, 1) := by decide +kernel
theorem dX0_countKnown_13 : decode cX0_countKnown 13 = .ok (.aload_n 0, 1) := by decide +kernel
theorem dX0_countKnown_14 : decode cX0_countKnown 14 = .ok (.iload_n 2, 1) := by decide +kernel
theorem dX0_countKnown_15 : decode cX0_countKnown 15 = .ok (.invokevirtual 86, 3) := by decide +kernel
theorem dX0_countKnown_18 : decode cX0_countKnown 18 = .ok (.iadd, 1) := by decide +kernel
theorem dX0_countKnown_19 : decode cX0_countKnown 19 = .ok (.istore_n 1, 1) := by decide +kernel
theorem dX0_countKnown_20 : decode cX0_countKnown 20 = .ok (.iinc 2 1, 3) := by decide +kernel
theorem dX0_countKnown_23 : decode cX0_countKnown 23 = .ok (.goto (-19), 3) := by decide +kernel
theorem dX0_countKnown_26 : decode cX0_countKnown 26 = .ok (.iload_n 1, 1) := by decide +kernel
theorem dX0_countKnown_27 : decode cX0_countKnown 27 = .ok (.ireturn, 1) := by decide +kernel
theorem dX0_knownByAny_0 : decode cX0_knownByAny 0 = .ok (.iconst 0, 1) := by decide +kernel
theorem dX0_knownByAny_1 : decode cX0_knownByAny 1 = .ok (.istore_n 1, 1) := by decide +kernel
theorem dX0_knownByAny_2 : decode cX0_knownByAny 2 = .ok (.iconst 0, 1) := by decide +kernel
theorem dX0_knownByAny_3 : decode cX0_knownByAny 3 = .ok (.istore_n 2, 1) := by decide +kernel
theorem dX0_knownByAny_4 : decode cX0_knownByAny 4 = .ok (.iload_n 2, 1) := by decide +kernel
theorem dX0_knownByAny_5 : decode cX0_knownByAny 5 = .ok (.aload_n 0, 1) := by decide +kernel
theorem dX0_knownByAny_6 : decode cX0_knownByAny 6 = .ok (.getfield 47, 3) := by decide +kernel
theorem dX0_knownByAny_9 : decode cX0_knownByAny 9 = .ok (.if_icmp .ge 20, 3) := by decide +kernel
theorem dX0_knownByAny_12 : decode cX0_knownByAny 12 = .ok (.iload_n 1, 1) := by decide +kernel
theorem dX0_knownByAny_13 : decode cX0_knownByAny 13 = .ok (.aload_n 0, 1) := by decide +kernel
theorem dX0_knownByAny_14 : decode cX0_knownByAny 14 = .ok (.getfield 26, 3) := by decide +kernel
theorem dX0_knownByAny_17 : decode cX0_knownByAny 17 = .ok (.iload_n 2, 1) := by decide +kernel
theorem dX0_knownByAny_18 : decode cX0_knownByAny 18 = .ok (.invokevirtual 68, 3) := by decide +kernel
theorem dX0_knownByAny_21 : decode cX0_knownByAny 21 = .ok (.ior, 1) := by decide +kernel
theorem dX0_knownByAny_22 : decode cX0_knownByAny 22 = .ok (.istore_n 1, 1) := by decide +kernel
theorem dX0_knownByAny_23 : decode cX0_knownByAny 23 = .ok (.iinc 2 1, 3) := by decide +kernel
theorem dX0_knownByAny_26 : decode cX0_knownByAny 26 = .ok (.goto (-22), 3) := by decide +kernel
theorem dX0_knownByAny_29 : decode cX0_knownByAny 29 = .ok (.iload_n 1, 1) := by decide +kernel
theorem dX0_knownByAny_30 : decode cX0_knownByAny 30 = .ok (.ireturn, 1) := by decide +kernel
theorem dX1_init_0 : decode cX1_init 0 = .ok (.aload_n 0, 1) := by decide +kernel
theorem dX1_init_1 : decode cX1_init 1 = .ok (.invokespecial 3, 3) := by decide +kernel
theorem dX1_init_4 : decode cX1_init 4 = .ok (.aload_n 0, 1) := by decide +kernel
theorem dX1_init_5 : decode cX1_init 5 = .ok (.new 9, 3) := by decide +kernel
theorem dX1_init_8 : decode cX1_init 8 = .ok (.dup, 1) := by decide +kernel
theorem dX1_init_9 : decode cX1_init 9 = .ok (.iconst 5, 1) := by decide +kernel
theorem dX1_init_10 : decode cX1_init 10 = .ok (.invokespecial 11, 3) := by decide +kernel
theorem dX1_init_13 : decode cX1_init 13 = .ok (.putfield 14, 3) := by decide +kernel
theorem dX1_init_16 : decode cX1_init 16 = .ok (.aload_n 0, 1) := by decide +kernel
theorem dX1_init_17 : decode cX1_init 17 = .ok (.new 9, 3) := by decide +kernel
theorem dX1_init_20 : decode cX1_init 20 = .ok (.dup, 1) := by decide +kernel
theorem dX1_init_21 : decode cX1_init 21 = .ok (.iconst 5, 1) := by decide +kernel
theorem dX1_init_22 : decode cX1_init 22 = .ok (.invokespecial 11, 3) := by decide +kernel
theorem dX1_init_25 : decode cX1_init 25 = .ok (.putfield 20, 3) := by decide +kernel
theorem dX1_init_28 : decode cX1_init 28 = .ok (.aload_n 0, 1) := by decide +kernel
theorem dX1_init_29 : decode cX1_init 29 = .ok (.new 9, 3) := by decide +kernel
theorem dX1_init_32 : decode cX1_init 32 = .ok (.dup, 1) := by decide +kernel
theorem dX1_init_33 : decode cX1_init 33 = .ok (.iconst 5, 1) := by decide +kernel
theorem dX1_init_34 : decode cX1_init 34 = .ok (.invokespecial 11, 3) := by decide +kernel
theorem dX1_init_37 : decode cX1_init 37 = .ok (.putfield 23, 3) := by decide +kernel
theorem dX1_init_40 : decode cX1_init 40 = .ok (.aload_n 0, 1) := by decide +kernel
theorem dX1_init_41 : decode cX1_init 41 = .ok (.aload_n 1, 1) := by decide +kernel
theorem dX1_init_42 : decode cX1_init 42 = .ok (.putfield 26, 3) := by decide +kernel
theorem dX1_init_45 : decode cX1_init 45 = .ok (.return_, 1) := by decide +kernel
theorem dX1_copyFrom_0 : decode cX1_copyFrom 0 = .ok (.aload_n 0, 1) := by decide +kernel
theorem dX1_copyFrom_1 : decode cX1_copyFrom 1 = .ok (.getfield 14, 3) := by decide +kernel
theorem dX1_copyFrom_4 : decode cX1_copyFrom 4 = .ok (.aload_n 1, 1) := by decide +kernel
theorem dX1_copyFrom_5 : decode cX1_copyFrom 5 = .ok (.getfield 14, 3) := by decide +kernel
theorem dX1_copyFrom_8 : decode cX1_copyFrom 8 = .ok (.invokevirtual 30, 3) := by decide +kernel
theorem dX1_copyFrom_11 : decode cX1_copyFrom 11 = .ok (.aload_n 0, 1) := by decide +kernel
theorem dX1_copyFrom_12 : decode cX1_copyFrom 12 = .ok (.getfield 20, 3) := by decide +kernel
theorem dX1_copyFrom_15 : decode cX1_copyFrom 15 = .ok (.aload_n 1, 1) := by decide +kernel
theorem dX1_copyFrom_16 : decode cX1_copyFrom 16 = .ok (.getfield 20, 3) := by decide +kernel
theorem dX1_copyFrom_19 : decode cX1_copyFrom 19 = .ok (.invokevirtual 30, 3) := by decide +kernel
theorem dX1_copyFrom_22 : decode cX1_copyFrom 22 = .ok (.aload_n 0, 1) := by decide +kernel
theorem dX1_copyFrom_23 : decode cX1_copyFrom 23 = .ok (.getfield 23, 3) := by decide +kernel
theorem dX1_copyFrom_26 : decode cX1_copyFrom 26 = .ok (.aload_n 1, 1) := by decide +kernel
theorem dX1_copyFrom_27 : decode cX1_copyFrom 27 = .ok (.getfield 23, 3) := by decide +kernel
theorem dX1_copyFrom_30 : decode cX1_copyFrom 30 = .ok (.invokevirtual 30, 3) := by decide +kernel
theorem dX1_copyFrom_33 : decode cX1_copyFrom 33 = .ok (.return_, 1) := by decide +kernel
theorem dX1_enter_0 : decode cX1_enter 0 = .ok (.aload_n 0, 1) := by decide +kernel
theorem dX1_enter_1 : decode cX1_enter 1 = .ok (.getfield 14, 3) := by decide +kernel
theorem dX1_enter_4 : decode cX1_enter 4 = .ok (.iload_n 1, 1) := by decide +kernel
theorem dX1_enter_5 : decode cX1_enter 5 = .ok (.iload_n 2, 1) := by decide +kernel
theorem dX1_enter_6 : decode cX1_enter 6 = .ok (.invokevirtual 34, 3) := by decide +kernel
theorem dX1_enter_9 : decode cX1_enter 9 = .ok (.aload_n 0, 1) := by decide +kernel
theorem dX1_enter_10 : decode cX1_enter 10 = .ok (.getfield 20, 3) := by decide +kernel
theorem dX1_enter_13 : decode cX1_enter 13 = .ok (.iload_n 1, 1) := by decide +kernel
theorem dX1_enter_14 : decode cX1_enter 14 = .ok (.iconst (-1), 1) := by decide +kernel
theorem dX1_enter_15 : decode cX1_enter 15 = .ok (.invokevirtual 34, 3) := by decide +kernel
theorem dX1_enter_18 : decode cX1_enter 18 = .ok (.return_, 1) := by decide +kernel
theorem dX1_startDouble_0 : decode cX1_startDouble 0 = .ok (.aload_n 0, 1) := by decide +kernel
theorem dX1_startDouble_1 : decode cX1_startDouble 1 = .ok (.getfield 20, 3) := by decide +kernel
theorem dX1_startDouble_4 : decode cX1_startDouble 4 = .ok (.iload_n 1, 1) := by decide +kernel
theorem dX1_startDouble_5 : decode cX1_startDouble 5 = .ok (.iload_n 2, 1) := by decide +kernel
theorem dX1_startDouble_6 : decode cX1_startDouble 6 = .ok (.invokevirtual 34, 3) := by decide +kernel
theorem dX1_startDouble_9 : decode cX1_startDouble 9 = .ok (.aload_n 0, 1) := by decide +kernel
theorem dX1_startDouble_10 : decode cX1_startDouble 10 = .ok (.getfield 14, 3) := by decide +kernel
theorem dX1_startDouble_13 : decode cX1_startDouble 13 = .ok (.iload_n 1, 1) := by decide +kernel
theorem dX1_startDouble_14 : decode cX1_startDouble 14 = .ok (.aload_n 0, 1) := by decide +kernel
theorem dX1_startDouble_15 : decode cX1_startDouble 15 = .ok (.getfield 14, 3) := by decide +kernel
theorem dX1_startDouble_18 : decode cX1_startDouble 18 = .ok (.iload_n 2, 1) := by decide +kernel
theorem dX1_startDouble_19 : decode cX1_startDouble 19 = .ok (.invokevirtual 38, 3) := by decide +kernel
theorem dX1_startDouble_22 : decode cX1_startDouble 22 = .ok (.invokevirtual 34, 3) := by decide +kernel
theorem dX1_startDouble_25 : decode cX1_startDouble 25 = .ok (.return_, 1) := by decide +kernel
theorem dX1_endDouble_0 : decode cX1_endDouble 0 = .ok (.aload_n 0, 1) := by decide +kernel
theorem dX1_endDouble_1 : decode cX1_endDouble 1 = .ok (.getfield 20, 3) := by decide +kernel
theorem dX1_endDouble_4 : decode cX1_endDouble 4 = .ok (.iload_n 1, 1) := by decide +kernel
theorem dX1_endDouble_5 : decode cX1_endDouble 5 = .ok (.iconst (-1), 1) := by decide +kernel
theorem dX1_endDouble_6 : decode cX1_endDouble 6 = .ok (.invokevirtual 34, 3) := by decide +kernel
theorem dX1_endDouble_9 : decode cX1_endDouble 9 = .ok (.return_, 1) := by decide +kernel
theorem dX1_anyIsPlayed_0 : decode cX1_anyIsPlayed 0 = .ok (.iconst 0, 1) := by decide +kernel
theorem dX1_anyIsPlayed_1 : decode cX1_anyIsPlayed 1 = .ok (.istore_n 1, 1) := by decide +kernel
theorem dX1_anyIsPlayed_2 : decode cX1_anyIsPlayed 2 = .ok (.iload_n 1, 1) := by decide +kernel
theorem dX1_anyIsPlayed_3 : decode cX1_anyIsPlayed 3 = .ok (.aload_n 0, 1) := by decide +kernel
theorem dX1_anyIsPlayed_4 : decode cX1_anyIsPlayed 4 = .ok (.getfield 26, 3) := by decide +kernel
theorem dX1_anyIsPlayed_7 : decode cX1_anyIsPlayed 7 = .ok (.getfield 42, 3) := by decide +kernel
theorem dX1_anyIsPlayed_10 : decode cX1_anyIsPlayed 10 = .ok (.if_icmp .ge 23, 3) := by decide +kernel
theorem dX1_anyIsPlayed_13 : decode cX1_anyIsPlayed 13 = .ok (.aload_n 0, 1) := by decide +kernel
theorem dX1_anyIsPlayed_14 : decode cX1_anyIsPlayed 14 = .ok (.getfield 20, 3) := by decide +kernel
theorem dX1_anyIsPlayed_17 : decode cX1_anyIsPlayed 17 = .ok (.iload_n 1, 1) := by decide +kernel
theorem dX1_anyIsPlayed_18 : decode cX1_anyIsPlayed 18 = .ok (.invokevirtual 38, 3) := by decide +kernel
theorem dX1_anyIsPlayed_21 : decode cX1_anyIsPlayed 21 = .ok (.iconst (-1), 1) := by decide +kernel
theorem dX1_anyIsPlayed_22 : decode cX1_anyIsPlayed 22 = .ok (.if_icmp .eq 5, 3) := by decide +kernel
theorem dX1_anyIsPlayed_25 : decode cX1_anyIsPlayed 25 = .ok (.iconst 1, 1) := by decide +kernel
theorem dX1_anyIsPlayed_26 : decode cX1_anyIsPlayed 26 = .ok (.ireturn, 1) := by decide +kernel
theorem dX1_anyIsPlayed_27 : decode cX1_anyIsPlayed 27 = .ok (.iinc 1 1, 3) := by decide +kernel
theorem dX1_anyIsPlayed_30 : decode cX1_anyIsPlayed 30 = .ok (.goto (-28), 3) := by decide +kernel
theorem dX1_anyIsPlayed_33 : decode cX1_anyIsPlayed 33 = .ok (.iconst 0, 1) := by decide +kernel
theorem dX1_anyIsPlayed_34 : decode cX1_anyIsPlayed 34 = .ok (.ireturn, 1) := by decide +kernel
theorem dX1_rolesOf_0 : decode cX1_rolesOf 0 = .ok (.iconst 1, 1) := by decide +kernel
theorem dX1_rolesOf_1 : decode cX1_rolesOf 1 = .ok (.iload_n 1, 1) := by decide +kernel
theorem dX1_rolesOf_2 : decode cX1_rolesOf 2 = .ok (.ishl, 1) := by decide +kernel
theorem dX1_rolesOf_3 : decode cX1_rolesOf 3 = .ok (.istore_n 2, 1) := by decide +kernel
theorem dX1_rolesOf_4 : decode cX1_rolesOf 4 = .ok (.iconst 0, 1) := by decide +kernel
theorem dX1_rolesOf_5 : decode cX1_rolesOf 5 = .ok (.istore_n 3, 1) := by decide +kernel
theorem dX1_rolesOf_6 : decode cX1_rolesOf 6 = .ok (.iload_n 3, 1) := by decide +kernel
theorem dX1_rolesOf_7 : decode cX1_rolesOf 7 = .ok (.aload_n 0, 1) := by decide +kernel
theorem dX1_rolesOf_8 : decode cX1_rolesOf 8 = .ok (.getfield 26, 3) := by decide +kernel
theorem dX1_rolesOf_11 : decode cX1_rolesOf 11 = .ok (.getfield 42, 3) := by decide +kernel
theorem dX1_rolesOf_14 : decode cX1_rolesOf 14 = .ok (.if_icmp .ge 27, 3) := by decide +kernel
theorem dX1_rolesOf_17 : decode cX1_rolesOf 17 = .ok (.aload_n 0, 1) := by decide +kernel
theorem dX1_rolesOf_18 : decode cX1_rolesOf 18 = .ok (.getfield 20, 3) := by decide +kernel
theorem dX1_rolesOf_21 : decode cX1_rolesOf 21 = .ok (.iload_n 3, 1) := by decide +kernel
theorem dX1_rolesOf_22 : decode cX1_rolesOf 22 = .ok (.invokevirtual 38, 3) := by decide +kernel
theorem dX1_rolesOf_25 : decode cX1_rolesOf 25 = .ok (.iload_n 1, 1) := by decide +kernel
theorem dX1_rolesOf_26 : decode cX1_rolesOf 26 = .ok (.if_icmp .ne 9, 3) := by decide +kernel
theorem dX1_rolesOf_29 : decode cX1_rolesOf 29 = .ok (.iload_n 2, 1) := by decide +kernel
theorem dX1_rolesOf_30 : decode cX1_rolesOf 30 = .ok (.iconst 1, 1) := by decide +kernel
theorem dX1_rolesOf_31 : decode cX1_rolesOf 31 = .ok (.iload_n 3, 1) := by decide +kernel
theorem dX1_rolesOf_32 : decode cX1_rolesOf 32 = .ok (.ishl, 1) := by decide +kernel
theorem dX1_rolesOf_33 : decode cX1_rolesOf 33 = .ok (.ior, 1) := by decide +kernel
theorem dX1_rolesOf_34 : decode cX1_rolesOf 34 = .ok (.istore_n 2, 1) := by decide +kernel
theorem dX1_rolesOf_35 : decode cX1_rolesOf 35 = .ok (.iinc 3 1, 3) := by decide +kernel
theorem dX1_rolesOf_38 : decode cX1_rolesOf 38 = .ok (.goto (-32), 3) := by decide +kernel
theorem dX1_rolesOf_41 : decode cX1_rolesOf 41 = .ok (.iload_n 2, 1) := by decide +kernel
theorem dX1_rolesOf_42 : decode cX1_rolesOf 42 = .ok (.ireturn, 1) := by decide +kernel
theorem dX1_isSingle_0 : decode cX1_isSingle 0 = .ok (.aload_n 0, 1) := by decide +kernel
theorem dX1_isSingle_1 : decode cX1_isSingle 1 = .ok (.getfield 20, 3) := by decide +kernel
theorem dX1_isSingle_4 : decode cX1_isSingle 4 = .ok (.iload_n 1, 1) := by decide +kernel
theorem dX1_isSingle_5 : decode cX1_isSingle 5 = .ok (.invokevirtual 38, 3) := by decide +kernel
theorem dX1_isSingle_8 : decode cX1_isSingle 8 = .ok (.iconst (-1), 1) := by decide +kernel
theorem dX1_isSingle_9 : decode cX1_isSingle 9 = .ok (.if_icmp .ne 18, 3) := by decide +kernel
theorem dX1_isSingle_12 : decode cX1_isSingle 12 = .ok (.aload_n 0, 1) := by decide +kernel
theorem dX1_isSingle_13 : decode cX1_isSingle 13 = .ok (.iload_n 1, 1) := by decide +kernel
theorem dX1_isSingle_14 : decode cX1_isSingle 14 = .ok (.invokevirtual 48, 3) := by decide +kernel
theorem dX1_isSingle_17 : decode cX1_isSingle 17 = .ok (.iconst 1, 1) := by decide +kernel
theorem dX1_isSingle_18 : decode cX1_isSingle 18 = .ok (.iload_n 1, 1) := by decide +kernel
theorem dX1_isSingle_19 : decode cX1_isSingle 19 = .ok (.ishl, 1) := by decide +kernel
theorem dX1_isSingle_20 : decode cX1_isSingle 20 = .ok (.if_icmp .ne 7, 3) := by decide +kernel
theorem dX1_isSingle_23 : decode cX1_isSingle 23 = .ok (.iconst 1, 1) := by decide +kernel
theorem dX1_isSingle_24 : decode cX1_isSingle 24 = .ok (.goto 4, 3) := by decide +kernel
theorem dX1_isSingle_27 : decode cX1_isSingle 27 = .ok (.iconst 0, 1) := by decide +kernel
theorem dX1_isSingle_28 : decode cX1_isSingle 28 = .ok (.ireturn, 1) := by decide +kernel
theorem dX1_withDoubles_0 : decode cX1_withDoubles 0 = .ok (.iload_n 1, 1) := by decide +kernel
theorem dX1_withDoubles_1 : decode cX1_withDoubles 1 = .ok (.istore_n 2, 1) := by decide +kernel
theorem dX1_withDoubles_2 : decode cX1_withDoubles 2 = .ok (.iconst 0, 1) := by decide +kernel
theorem dX1_withDoubles_3 : decode cX1_withDoubles 3 = .ok (.istore_n 3, 1) := by decide +kernel
theorem dX1_withDoubles_4 : decode cX1_withDoubles 4 = .ok (.iload_n 3, 1) := by decide +kernel
theorem dX1_withDoubles_5 : decode cX1_withDoubles 5 = .ok (.aload_n 0, 1) := by decide +kernel
theorem dX1_withDoubles_6 : decode cX1_withDoubles 6 = .ok (.getfield 26, 3) := by decide +kernel
theorem dX1_withDoubles_9 : decode cX1_withDoubles 9 = .ok (.getfield 42, 3) := by decide +kernel
theorem dX1_withDoubles_12 : decode cX1_withDoubles 12 = .ok (.if_icmp .ge 49, 3) := by decide +kernel
theorem dX1_withDoubles_15 : decode cX1_withDoubles 15 = .ok (.aload_n 0, 1) := by decide +kernel
theorem dX1_withDoubles_16 : decode cX1_withDoubles 16 = .ok (.getfield 20, 3) := by decide +kernel
theorem dX1_withDoubles_19 : decode cX1_withDoubles 19 = .ok (.iload_n 3, 1) := by decide +kernel
theorem dX1_withDoubles_20 : decode cX1_withDoubles 20 = .ok (.invokevirtual 38, 3) := by decide +kernel
theorem dX1_withDoubles_23 : decode cX1_withDoubles 23 = .ok (.istore 4, 2) := by decide +kernel
theorem dX1_withDoubles_25 : decode cX1_withDoubles 25 = .ok (.iload 4, 2) := by decide +kernel
theorem dX1_withDoubles_27 : decode cX1_withDoubles 27 = .ok (.iconst (-1), 1) := by decide +kernel
theorem dX1_withDoubles_28 : decode cX1_withDoubles 28 = .ok (.if_icmp .eq 27, 3) := by decide +kernel
theorem dX1_withDoubles_31 : decode cX1_withDoubles 31 = .ok (.iload_n 1, 1) := by decide +kernel
theorem dX1_withDoubles_32 : decode cX1_withDoubles 32 = .ok (.iconst 1, 1) := by decide +kernel
theorem dX1_withDoubles_33 : decode cX1_withDoubles 33 = .ok (.iload_n 3, 1) := by decide +kernel
theorem dX1_withDoubles_34 : decode cX1_withDoubles 34 = .ok (.ishl, 1) := by decide +kernel
theorem dX1_withDoubles_35 : decode cX1_withDoubles 35 = .ok (.iconst 1, 1) := by decide +kernel
theorem dX1_withDoubles_36 : decode cX1_withDoubles 36 = .ok (.iload 4, 2) := by decide +kernel
theorem dX1_withDoubles_38 : decode cX1_withDoubles 38 = .ok (.ishl, 1) := by decide +kernel
theorem dX1_withDoubles_39 : decode cX1_withDoubles 39 = .ok (.ior, 1) := by decide +kernel
theorem dX1_withDoubles_40 : decode cX1_withDoubles 40 = .ok (.iand, 1) := by decide +kernel
theorem dX1_withDoubles_41 : decode cX1_withDoubles 41 = .ok (.ifCond .eq 14, 3) := by decide +kernel
theorem dX1_withDoubles_44 : decode cX1_withDoubles 44 = .ok (.iload_n 2, 1) := by decide +kernel
theorem dX1_withDoubles_45 : decode cX1_withDoubles 45 = .ok (.iconst 1, 1) := by decide +kernel
theorem dX1_withDoubles_46 : decode cX1_withDoubles 46 = .ok (.iload_n 3, 1) := by decide +kernel
theorem dX1_withDoubles_47 : decode cX1_withDoubles 47 = .ok (.ishl, 1) := by decide +kernel
theorem dX1_withDoubles_48 : decode cX1_withDoubles 48 = .ok (.iconst 1, 1) := by decide +kernel
theorem dX1_withDoubles_49 : decode cX1_withDoubles 49 = .ok (.iload 4, 2) := by decide +kernel
theorem dX1_withDoubles_51 : decode cX1_withDoubles 51 = .ok (.ishl, 1) := by decide +kernel
theorem dX1_withDoubles_52 : decode cX1_withDoubles 52 = .ok (.ior, 1) := by decide +kernel
theorem dX1_withDoubles_53 : decode cX1_withDoubles 53 = .ok (.ior, 1) := by decide +kernel
theorem dX1_withDoubles_54 : decode cX1_withDoubles 54 = .ok (.istore_n 2, 1) := by decide +kernel
theorem dX1_withDoubles_55 : decode cX1_withDoubles 55 = .ok (.iinc 3 1, 3) := by decide +kernel
theorem dX1_withDoubles_58 : decode cX1_withDoubles 58 = .ok (.goto (-54), 3) := by decide +kernel
theorem dX1_withDoubles_61 : decode cX1_withDoubles 61 = .ok (.iload_n 2, 1) := by decide +kernel
theorem dX1_withDoubles_62 : decode cX1_withDoubles 62 = .ok (.ireturn, 1) := by decide +kernel
theorem dX1_setIn_0 : decode cX1_setIn 0 = .ok (.iconst 0, 1) := by decide +kernel
theorem dX1_setIn_1 : decode cX1_setIn 1 = .ok (.istore_n 2, 1) := by decide +kernel
theorem dX1_setIn_2 : decode cX1_setIn 2 = .ok (.iconst 0, 1) := by decide +kernel
theorem dX1_setIn_3 : decode cX1_setIn 3 = .ok (.istore_n 3, 1) := by decide +kernel
theorem dX1_setIn_4 : decode cX1_setIn 4 = .ok (.iload_n 3, 1) := by decide +kernel
theorem dX1_setIn_5 : decode cX1_setIn 5 = .ok (.aload_n 0, 1) := by decide +kernel
theorem dX1_setIn_6 : decode cX1_setIn 6 = .ok (.getfield 26, 3) := by decide +kernel
theorem dX1_setIn_9 : decode cX1_setIn 9 = .ok (.getfield 42, 3) := by decide +kernel
theorem dX1_setIn_12 : decode cX1_setIn 12 = .ok (.if_icmp .ge 27, 3) := by decide +kernel
theorem dX1_setIn_15 : decode cX1_setIn 15 = .ok (.aload_n 0, 1) := by decide +kernel
theorem dX1_setIn_16 : decode cX1_setIn 16 = .ok (.getfield 14, 3) := by decide +kernel
theorem dX1_setIn_19 : decode cX1_setIn 19 = .ok (.iload_n 3, 1) := by decide +kernel
theorem dX1_setIn_20 : decode cX1_setIn 20 = .ok (.invokevirtual 38, 3) := by decide +kernel
theorem dX1_setIn_23 : decode cX1_setIn 23 = .ok (.iload_n 1, 1) := by decide +kernel
theorem dX1_setIn_24 : decode cX1_setIn 24 = .ok (.if_icmp .ne 9, 3) := by decide +kernel
theorem dX1_setIn_27 : decode cX1_setIn 27 = .ok (.iload_n 2, 1) := by decide +kernel
theorem dX1_setIn_28 : decode cX1_setIn 28 = .ok (.iconst 1, 1) := by decide +kernel
theorem dX1_setIn_29 : decode cX1_setIn 29 = .ok (.iload_n 3, 1) := by decide +kernel
theorem dX1_setIn_30 : decode cX1_setIn 30 = .ok (.ishl, 1) := by decide +kernel
theorem dX1_setIn_31 : decode cX1_setIn 31 = .ok (.ior, 1) := by decide +kernel
theorem dX1_setIn_32 : decode cX1_setIn 32 = .ok (.istore_n 2, 1) := by decide +kernel
theorem dX1_setIn_33 : decode cX1_setIn 33 = .ok (.iinc 3 1, 3) := by decide +kernel
theorem dX1_setIn_36 : decode cX1_setIn 36 = .ok (.goto (-32), 3) := by decide +kernel
theorem dX1_setIn_39 : decode cX1_setIn 39 = .ok (.iload_n 2, 1) := by decide +kernel
theorem dX1_setIn_40 : decode cX1_setIn 40 = .ok (.ireturn, 1) := by decide +kernel
theorem dX1_walk_0 : decode cX1_walk 0 = .ok (.aload_n 0, 1) := by decide +kernel
theorem dX1_walk_1 : decode cX1_walk 1 = .ok (.getfield 23, 3) := by decide +kernel
theorem dX1_walk_4 : decode cX1_walk 4 = .ok (.iload_n 1, 1) := by decide +kernel
theorem dX1_walk_5 : decode cX1_walk 5 = .ok (.iconst 1, 1) := by decide +kernel
theorem dX1_walk_6 : decode cX1_walk 6 = .ok (.invokevirtual 51, 3) := by decide +kernel
theorem dX1_walk_9 : decode cX1_walk 9 = .ok (.aload_n 0, 1) := by decide +kernel
theorem dX1_walk_10 : decode cX1_walk 10 = .ok (.iload_n 1, 1) := by decide +kernel
theorem dX1_walk_11 : decode cX1_walk 11 = .ok (.invokevirtual 48, 3) := by decide +kernel
theorem dX1_walk_14 : decode cX1_walk 14 = .ok (.istore_n 3, 1) := by decide +kernel
theorem dX1_walk_15 : decode cX1_walk 15 = .ok (.iconst 0, 1) := by decide +kernel
theorem dX1_walk_16 : decode cX1_walk 16 = .ok (.istore 4, 2) := by decide +kernel
theorem dX1_walk_18 : decode cX1_walk 18 = .ok (.iload 4, 2) := by decide +kernel
theorem dX1_walk_20 : decode cX1_walk 20 = .ok (.aload_n 0, 1) := by decide +kernel
theorem dX1_walk_21 : decode cX1_walk 21 = .ok (.getfield 26, 3) := by decide +kernel
theorem dX1_walk_24 : decode cX1_walk 24 = .ok (.getfield 42, 3) := by decide +kernel
theorem dX1_walk_27 : decode cX1_walk 27 = .ok (.if_icmp .ge 28, 3) := by decide +kernel
theorem dX1_walk_30 : decode cX1_walk 30 = .ok (.iload_n 3, 1) := by decide +kernel
theorem dX1_walk_31 : decode cX1_walk 31 = .ok (.iconst 1, 1) := by decide +kernel
theorem dX1_walk_32 : decode cX1_walk 32 = .ok (.iload 4, 2) := by decide +kernel
theorem dX1_walk_34 : decode cX1_walk 34 = .ok (.ishl, 1) := by decide +kernel
theorem dX1_walk_35 : decode cX1_walk 35 = .ok (.iand, 1) := by decide +kernel
theorem dX1_walk_36 : decode cX1_walk 36 = .ok (.ifCond .eq 13, 3) := by decide +kernel
theorem dX1_walk_39 : decode cX1_walk 39 = .ok (.aload_n 0, 1) := by decide +kernel
theorem dX1_walk_40 : decode cX1_walk 40 = .ok (.getfield 14, 3) := by decide +kernel
theorem dX1_walk_43 : decode cX1_walk 43 = .ok (.iload 4, 2) := by decide +kernel
theorem dX1_walk_45 : decode cX1_walk 45 = .ok (.iload_n 2, 1) := by decide +kernel
theorem dX1_walk_46 : decode cX1_walk 46 = .ok (.invokevirtual 34, 3) := by decide +kernel
theorem dX1_walk_49 : decode cX1_walk 49 = .ok (.iinc 4 1, 3) := by decide +kernel
theorem dX1_walk_52 : decode cX1_walk 52 = .ok (.goto (-34), 3) := by decide +kernel
theorem dX1_walk_55 : decode cX1_walk 55 = .ok (.return_, 1) := by decide +kernel
theorem dX2_init_0 : decode cX2_init 0 = .ok (.aload_n 0, 1) := by decide +kernel
theorem dX2_init_1 : decode cX2_init 1 = .ok (.invokespecial 3, 3) := by decide +kernel
theorem dX2_init_4 : decode cX2_init 4 = .ok (.aload_n 0, 1) := by decide +kernel
theorem dX2_init_5 : decode cX2_init 5 = .ok (.new 9, 3) := by decide +kernel
theorem dX2_init_8 : decode cX2_init 8 = .ok (.dup, 1) := by decide +kernel
theorem dX2_init_9 : decode cX2_init 9 = .ok (.bipush 14, 2) := by decide +kernel
theorem dX2_init_11 : decode cX2_init 11 = .ok (.invokespecial 11, 3) := by decide +kernel
theorem dX2_init_14 : decode cX2_init 14 = .ok (.putfield 14, 3) := by decide +kernel
theorem dX2_init_17 : decode cX2_init 17 = .ok (.aload_n 0, 1) := by decide +kernel
theorem dX2_init_18 : decode cX2_init 18 = .ok (.aload_n 1, 1) := by decide +kernel
theorem dX2_init_19 : decode cX2_init 19 = .ok (.putfield 20, 3) := by decide +kernel
theorem dX2_init_22 : decode cX2_init 22 = .ok (.aload_n 0, 1) := by decide +kernel
theorem dX2_init_23 : decode cX2_init 23 = .ok (.aload_n 2, 1) := by decide +kernel
theorem dX2_init_24 : decode cX2_init 24 = .ok (.putfield 24, 3) := by decide +kernel
theorem dX2_init_27 : decode cX2_init 27 = .ok (.aload_n 0, 1) := by decide +kernel
theorem dX2_init_28 : decode cX2_init 28 = .ok (.new 28, 3) := by decide +kernel
theorem dX2_init_31 : decode cX2_init 31 = .ok (.dup, 1) := by decide +kernel
theorem dX2_init_32 : decode cX2_init 32 = .ok (.aload_n 2, 1) := by decide +kernel
theorem dX2_init_33 : decode cX2_init 33 = .ok (.invokespecial 30, 3) := by decide +kernel
theorem dX2_init_36 : decode cX2_init 36 = .ok (.putfield 33, 3) := by decide +kernel
theorem dX2_init_39 : decode cX2_init 39 = .ok (.aload_n 0, 1) := by decide +kernel
theorem dX2_init_40 : decode cX2_init 40 = .ok (.new 37, 3) := by decide +kernel
theorem dX2_init_43 : decode cX2_init 43 = .ok (.dup, 1) := by decide +kernel
theorem dX2_init_44 : decode cX2_init 44 = .ok (.aload_n 2, 1) := by decide +kernel
theorem dX2_init_45 : decode cX2_init 45 = .ok (.invokespecial 39, 3) := by decide +kernel
theorem dX2_init_48 : decode cX2_init 48 = .ok (.putfield 40, 3) := by decide +kernel
theorem dX2_init_51 : decode cX2_init 51 = .ok (.aload_n 0, 1) := by decide +kernel
theorem dX2_init_52 : decode cX2_init 52 = .ok (.new 44, 3) := by decide +kernel
theorem dX2_init_55 : decode cX2_init 55 = .ok (.dup, 1) := by decide +kernel
theorem dX2_init_56 : decode cX2_init 56 = .ok (.aload_n 2, 1) := by decide +kernel
theorem dX2_init_57 : decode cX2_init 57 = .ok (.invokespecial 46, 3) := by decide +kernel
theorem dX2_init_60 : decode cX2_init 60 = .ok (.putfield 47, 3) := by decide +kernel
theorem dX2_init_63 : decode cX2_init 63 = .ok (.aload_n 0, 1) := by decide +kernel
theorem dX2_init_64 : decode cX2_init 64 = .ok (.new 51, 3) := by decide +kernel
theorem dX2_init_67 : decode cX2_init 67 = .ok (.dup, 1) := by decide +kernel
theorem dX2_init_68 : decode cX2_init 68 = .ok (.invokespecial 53, 3) := by decide +kernel
theorem dX2_init_71 : decode cX2_init 71 = .ok (.putfield 54, 3) := by decide +kernel
theorem dX2_init_74 : decode cX2_init 74 = .ok (.return_, 1) := by decide +kernel
theorem dX2_copyFrom_0 : decode cX2_copyFrom 0 = .ok (.aload_n 0, 1) := by decide +kernel
theorem dX2_copyFrom_1 : decode cX2_copyFrom 1 = .ok (.aload_n 1, 1) := by decide +kernel
theorem dX2_copyFrom_2 : decode cX2_copyFrom 2 = .ok (.getfield 58, 3) := by decide +kernel
theorem dX2_copyFrom_5 : decode cX2_copyFrom 5 = .ok (.putfield 58, 3) := by decide +kernel
theorem dX2_copyFrom_8 : decode cX2_copyFrom 8 = .ok (.aload_n 0, 1) := by decide +kernel
theorem dX2_copyFrom_9 : decode cX2_copyFrom 9 = .ok (.getfield 33, 3) := by decide +kernel
theorem dX2_copyFrom_12 : decode cX2_copyFrom 12 = .ok (.aload_n 1, 1) := by decide +kernel
theorem dX2_copyFrom_13 : decode cX2_copyFrom 13 = .ok (.getfield 33, 3) := by decide +kernel
theorem dX2_copyFrom_16 : decode cX2_copyFrom 16 = .ok (.invokevirtual 62, 3) := by decide +kernel
theorem dX2_copyFrom_19 : decode cX2_copyFrom 19 = .ok (.aload_n 0, 1) := by decide +kernel
theorem dX2_copyFrom_20 : decode cX2_copyFrom 20 = .ok (.getfield 40, 3) := by decide +kernel
theorem dX2_copyFrom_23 : decode cX2_copyFrom 23 = .ok (.aload_n 1, 1) := by decide +kernel
theorem dX2_copyFrom_24 : decode cX2_copyFrom 24 = .ok (.getfield 40, 3) := by decide +kernel
theorem dX2_copyFrom_27 : decode cX2_copyFrom 27 = .ok (.invokevirtual 66, 3) := by decide +kernel
theorem dX2_copyFrom_30 : decode cX2_copyFrom 30 = .ok (.aload_n 0, 1) := by decide +kernel
theorem dX2_copyFrom_31 : decode cX2_copyFrom 31 = .ok (.getfield 47, 3) := by decide +kernel
theorem dX2_copyFrom_34 : decode cX2_copyFrom 34 = .ok (.aload_n 1, 1) := by decide +kernel
theorem dX2_copyFrom_35 : decode cX2_copyFrom 35 = .ok (.getfield 47, 3) := by decide +kernel
theorem dX2_copyFrom_38 : decode cX2_copyFrom 38 = .ok (.invokevirtual 69, 3) := by decide +kernel
theorem dX2_copyFrom_41 : decode cX2_copyFrom 41 = .ok (.aload_n 0, 1) := by decide +kernel
theorem dX2_copyFrom_42 : decode cX2_copyFrom 42 = .ok (.getfield 54, 3) := by decide +kernel
theorem dX2_copyFrom_45 : decode cX2_copyFrom 45 = .ok (.aload_n 1, 1) := by decide +kernel
theorem dX2_copyFrom_46 : decode cX2_copyFrom 46 = .ok (.getfield 54, 3) := by decide +kernel
theorem dX2_copyFrom_49 : decode cX2_copyFrom 49 = .ok (.invokevirtual 72, 3) := by decide +kernel
theorem dX2_copyFrom_52 : decode cX2_copyFrom 52 = .ok (.return_, 1) := by decide +kernel
theorem dX2_run_0 : decode cX2_run 0 = .ok (.iconst 0, 1) := by decide +kernel
theorem dX2_run_1 : decode cX2_run 1 = .ok (.istore_n 2, 1) := by decide +kernel
theorem dX2_run_2 : decode cX2_run 2 = .ok (.iload_n 2, 1) := by decide +kernel
theorem dX2_run_3 : decode cX2_run 3 = .ok (.iload_n 1, 1) := by decide +kernel
theorem dX2_run_4 : decode cX2_run 4 = .ok (.if_icmp .ge 49, 3) := by decide +kernel
theorem dX2_run_7 : decode cX2_run 7 = .ok (.aload_n 0, 1) := by decide +kernel
theorem dX2_run_8 : decode cX2_run 8 = .ok (.dup, 1) := by decide +kernel
theorem dX2_run_9 : decode cX2_run 9 = .ok (.getfield 58, 3) := by decide +kernel
theorem dX2_run_12 : decode cX2_run 12 = .ok (.iconst 1, 1) := by decide +kernel
theorem dX2_run_13 : decode cX2_run 13 = .ok (.iadd, 1) := by decide +kernel
theorem dX2_run_14 : decode cX2_run 14 = .ok (.putfield 58, 3) := by decide +kernel
theorem dX2_run_17 : decode cX2_run 17 = .ok (.aload_n 0, 1) := by decide +kernel
theorem dX2_run_18 : decode cX2_run 18 = .ok (.getfield 58, 3) := by decide +kernel
theorem dX2_run_21 : decode cX2_run 21 = .ok (.bipush 20, 2) := by decide +kernel
theorem dX2_run_23 : decode cX2_run 23 = .ok (.irem, 1) := by decide +kernel
theorem dX2_run_24 : decode cX2_run 24 = .ok (.ifCond .ne 7, 3) := by decide +kernel
theorem dX2_run_27 : decode cX2_run 27 = .ok (.aload_n 0, 1) := by decide +kernel
theorem dX2_run_28 : decode cX2_run 28 = .ok (.invokevirtual 75, 3) := by decide +kernel
theorem dX2_run_31 : decode cX2_run 31 = .ok (.aload_n 0, 1) := by decide +kernel
theorem dX2_run_32 : decode cX2_run 32 = .ok (.invokevirtual 78, 3) := by decide +kernel
theorem dX2_run_35 : decode cX2_run 35 = .ok (.aload_n 0, 1) := by decide +kernel
theorem dX2_run_36 : decode cX2_run 36 = .ok (.invokevirtual 81, 3) := by decide +kernel
theorem dX2_run_39 : decode cX2_run 39 = .ok (.aload_n 0, 1) := by decide +kernel
theorem dX2_run_40 : decode cX2_run 40 = .ok (.invokevirtual 84, 3) := by decide +kernel
theorem dX2_run_43 : decode cX2_run 43 = .ok (.aload_n 0, 1) := by decide +kernel
theorem dX2_run_44 : decode cX2_run 44 = .ok (.invokevirtual 87, 3) := by decide +kernel
theorem dX2_run_47 : decode cX2_run 47 = .ok (.iinc 2 1, 3) := by decide +kernel
theorem dX2_run_50 : decode cX2_run 50 = .ok (.goto (-48), 3) := by decide +kernel
theorem dX2_run_53 : decode cX2_run 53 = .ok (.return_, 1) := by decide +kernel
theorem dX2_beginLoop_0 : decode cX2_beginLoop 0 = .ok (.aload_n 0, 1) := by decide +kernel
theorem dX2_beginLoop_1 : decode cX2_beginLoop 1 = .ok (.getfield 40, 3) := by decide +kernel
theorem dX2_beginLoop_4 : decode cX2_beginLoop 4 = .ok (.invokevirtual 90, 3) := by decide +kernel
theorem dX2_beginLoop_7 : decode cX2_beginLoop 7 = .ok (.aload_n 0, 1) := by decide +kernel
theorem dX2_beginLoop_8 : decode cX2_beginLoop 8 = .ok (.getfield 47, 3) := by decide +kernel
theorem dX2_beginLoop_11 : decode cX2_beginLoop 11 = .ok (.invokevirtual 93, 3) := by decide +kernel
theorem dX2_beginLoop_14 : decode cX2_beginLoop 14 = .ok (.aload_n 0, 1) := by decide +kernel
theorem dX2_beginLoop_15 : decode cX2_beginLoop 15 = .ok (.getfield 54, 3) := by decide +kernel
theorem dX2_beginLoop_18 : decode cX2_beginLoop 18 = .ok (.getfield 96, 3) := by decide +kernel
theorem dX2_beginLoop_21 : decode cX2_beginLoop 21 = .ok (.iconst 0, 1) := by decide +kernel
theorem dX2_beginLoop_22 : decode cX2_beginLoop 22 = .ok (.invokevirtual 100, 3) := by decide +kernel
theorem dX2_beginLoop_25 : decode cX2_beginLoop 25 = .ok (.return_, 1) := by decide +kernel
theorem dX2_moveTracks_0 : decode cX2_moveTracks 0 = .ok (.aload_n 0, 1) := by decide +kernel
theorem dX2_moveTracks_1 : decode cX2_moveTracks 1 = .ok (.getfield 40, 3) := by decide +kernel
theorem dX2_moveTracks_4 : decode cX2_moveTracks 4 = .ok (.invokevirtual 105, 3) := by decide +kernel
theorem dX2_moveTracks_7 : decode cX2_moveTracks 7 = .ok (.istore_n 1, 1) := by decide +kernel
theorem dX2_moveTracks_8 : decode cX2_moveTracks 8 = .ok (.iconst 0, 1) := by decide +kernel
theorem dX2_moveTracks_9 : decode cX2_moveTracks 9 = .ok (.istore_n 2, 1) := by decide +kernel
theorem dX2_moveTracks_10 : decode cX2_moveTracks 10 = .ok (.iload_n 2, 1) := by decide +kernel
theorem dX2_moveTracks_11 : decode cX2_moveTracks 11 = .ok (.aload_n 0, 1) := by decide +kernel
theorem dX2_moveTracks_12 : decode cX2_moveTracks 12 = .ok (.getfield 24, 3) := by decide +kernel
theorem dX2_moveTracks_15 : decode cX2_moveTracks 15 = .ok (.getfield 109, 3) := by decide +kernel
theorem dX2_moveTracks_18 : decode cX2_moveTracks 18 = .ok (.if_icmp .ge 86, 3) := by decide +kernel
theorem dX2_moveTracks_21 : decode cX2_moveTracks 21 = .ok (.aload_n 0, 1) := by decide +kernel
theorem dX2_moveTracks_22 : decode cX2_moveTracks 22 = .ok (.getfield 33, 3) := by decide +kernel
theorem dX2_moveTracks_25 : decode cX2_moveTracks 25 = .ok (.iload_n 2, 1) := by decide +kernel
theorem dX2_moveTracks_26 : decode cX2_moveTracks 26 = .ok (.invokevirtual 114, 3) := by decide +kernel
theorem dX2_moveTracks_29 : decode cX2_moveTracks 29 = .ok (.istore_n 3, 1) := by decide +kernel
theorem dX2_moveTracks_30 : decode cX2_moveTracks 30 = .ok (.aload_n 0, 1) := by decide +kernel
theorem dX2_moveTracks_31 : decode cX2_moveTracks 31 = .ok (.getfield 33, 3) := by decide +kernel
theorem dX2_moveTracks_34 : decode cX2_moveTracks 34 = .ok (.getfield 118, 3) := by decide +kernel
theorem dX2_moveTracks_37 : decode cX2_moveTracks 37 = .ok (.iload_n 2, 1) := by decide +kernel
theorem dX2_moveTracks_38 : decode cX2_moveTracks 38 = .ok (.invokevirtual 121, 3) := by decide +kernel
theorem dX2_moveTracks_41 : decode cX2_moveTracks 41 = .ok (.iconst (-1), 1) := by decide +kernel
theorem dX2_moveTracks_42 : decode cX2_moveTracks 42 = .ok (.if_icmp .ne 56, 3) := by decide +kernel
theorem dX2_moveTracks_45 : decode cX2_moveTracks 45 = .ok (.iload_n 1, 1) := by decide +kernel
theorem dX2_moveTracks_46 : decode cX2_moveTracks 46 = .ok (.iload_n 3, 1) := by decide +kernel
theorem dX2_moveTracks_47 : decode cX2_moveTracks 47 = .ok (.iand, 1) := by decide +kernel
theorem dX2_moveTracks_48 : decode cX2_moveTracks 48 = .ok (.ifCond .ne 50, 3) := by decide +kernel
theorem dX2_moveTracks_51 : decode cX2_moveTracks 51 = .ok (.aload_n 0, 1) := by decide +kernel
theorem dX2_moveTracks_52 : decode cX2_moveTracks 52 = .ok (.getfield 40, 3) := by decide +kernel
theorem dX2_moveTracks_55 : decode cX2_moveTracks 55 = .ok (.iload_n 3, 1) := by decide +kernel
theorem dX2_moveTracks_56 : decode cX2_moveTracks 56 = .ok (.invokevirtual 124, 3) := by decide +kernel
theorem dX2_moveTracks_59 : decode cX2_moveTracks 59 = .ok (.istore 4, 2) := by decide +kernel
theorem dX2_moveTracks_61 : decode cX2_moveTracks 61 = .ok (.aload_n 0, 1) := by decide +kernel
theorem dX2_moveTracks_62 : decode cX2_moveTracks 62 = .ok (.iload_n 2, 1) := by decide +kernel
theorem dX2_moveTracks_63 : decode cX2_moveTracks 63 = .ok (.iload 4, 2) := by decide +kernel
theorem dX2_moveTracks_65 : decode cX2_moveTracks 65 = .ok (.iconst (-1), 1) := by decide +kernel
theorem dX2_moveTracks_66 : decode cX2_moveTracks 66 = .ok (.if_icmp .ne 17, 3) := by decide +kernel
theorem dX2_moveTracks_69 : decode cX2_moveTracks 69 = .ok (.aload_n 0, 1) := by decide +kernel
theorem dX2_moveTracks_70 : decode cX2_moveTracks 70 = .ok (.getfield 24, 3) := by decide +kernel
theorem dX2_moveTracks_73 : decode cX2_moveTracks 73 = .ok (.getfield 127, 3) := by decide +kernel
theorem dX2_moveTracks_76 : decode cX2_moveTracks 76 = .ok (.iload_n 2, 1) := by decide +kernel
theorem dX2_moveTracks_77 : decode cX2_moveTracks 77 = .ok (.invokevirtual 121, 3) := by decide +kernel
theorem dX2_moveTracks_80 : decode cX2_moveTracks 80 = .ok (.goto 15, 3) := by decide +kernel
theorem dX2_moveTracks_83 : decode cX2_moveTracks 83 = .ok (.aload_n 0, 1) := by decide +kernel
theorem dX2_moveTracks_84 : decode cX2_moveTracks 84 = .ok (.getfield 24, 3) := by decide +kernel
theorem dX2_moveTracks_87 : decode cX2_moveTracks 87 = .ok (.getfield 130, 3) := by decide +kernel
theorem dX2_moveTracks_90 : decode cX2_moveTracks 90 = .ok (.iload 4, 2) := by decide +kernel
theorem dX2_moveTracks_92 : decode cX2_moveTracks 92 = .ok (.invokevirtual 121, 3) := by decide +kernel
theorem dX2_moveTracks_95 : decode cX2_moveTracks 95 = .ok (.invokevirtual 133, 3) := by decide +kernel
theorem dX2_moveTracks_98 : decode cX2_moveTracks 98 = .ok (.iinc 2 1, 3) := by decide +kernel
theorem dX2_moveTracks_101 : decode cX2_moveTracks 101 = .ok (.goto (-91), 3) := by decide +kernel
theorem dX2_moveTracks_104 : decode cX2_moveTracks 104 = .ok (.return_, 1) := by decide +kernel
theorem dX2_moveTrack_0 : decode cX2_moveTrack 0 = .ok (.aload_n 0, 1) := by decide +kernel
theorem dX2_moveTrack_1 : decode cX2_moveTrack 1 = .ok (.getfield 33, 3) := by decide +kernel
theorem dX2_moveTrack_4 : decode cX2_moveTrack 4 = .ok (.getfield 137, 3) := by decide +kernel
theorem dX2_moveTrack_7 : decode cX2_moveTrack 7 = .ok (.iload_n 1, 1) := by decide +kernel
theorem dX2_moveTrack_8 : decode cX2_moveTrack 8 = .ok (.invokevirtual 121, 3) := by decide +kernel
theorem dX2_moveTrack_11 : decode cX2_moveTrack 11 = .ok (.istore_n 3, 1) := by decide +kernel
theorem dX2_moveTrack_12 : decode cX2_moveTrack 12 = .ok (.aload_n 0, 1) := by decide +kernel
theorem dX2_moveTrack_13 : decode cX2_moveTrack 13 = .ok (.getfield 20, 3) := by decide +kernel
theorem dX2_moveTrack_16 : decode cX2_moveTrack 16 = .ok (.getfield 138, 3) := by decide +kernel
theorem dX2_moveTrack_19 : decode cX2_moveTrack 19 = .ok (.iload_n 3, 1) := by decide +kernel
theorem dX2_moveTrack_20 : decode cX2_moveTrack 20 = .ok (.iload_n 2, 1) := by decide +kernel
theorem dX2_moveTrack_21 : decode cX2_moveTrack 21 = .ok (.invokevirtual 143, 3) := by decide +kernel
theorem dX2_moveTrack_24 : decode cX2_moveTrack 24 = .ok (.istore 4, 2) := by decide +kernel
theorem dX2_moveTrack_26 : decode cX2_moveTrack 26 = .ok (.iload 4, 2) := by decide +kernel
theorem dX2_moveTrack_28 : decode cX2_moveTrack 28 = .ok (.iconst (-1), 1) := by decide +kernel
theorem dX2_moveTrack_29 : decode cX2_moveTrack 29 = .ok (.if_icmp .eq 19, 3) := by decide +kernel
theorem dX2_moveTrack_32 : decode cX2_moveTrack 32 = .ok (.iload 4, 2) := by decide +kernel
theorem dX2_moveTrack_34 : decode cX2_moveTrack 34 = .ok (.iload_n 3, 1) := by decide +kernel
theorem dX2_moveTrack_35 : decode cX2_moveTrack 35 = .ok (.if_icmp .eq 13, 3) := by decide +kernel
theorem dX2_moveTrack_38 : decode cX2_moveTrack 38 = .ok (.aload_n 0, 1) := by decide +kernel
theorem dX2_moveTrack_39 : decode cX2_moveTrack 39 = .ok (.getfield 33, 3) := by decide +kernel
theorem dX2_moveTrack_42 : decode cX2_moveTrack 42 = .ok (.iload_n 1, 1) := by decide +kernel
theorem dX2_moveTrack_43 : decode cX2_moveTrack 43 = .ok (.iload 4, 2) := by decide +kernel
theorem dX2_moveTrack_45 : decode cX2_moveTrack 45 = .ok (.invokevirtual 146, 3) := by decide +kernel
theorem dX2_moveTrack_48 : decode cX2_moveTrack 48 = .ok (.return_, 1) := by decide +kernel
theorem dX2_performScenes_0 : decode cX2_performScenes 0 = .ok (.aload_n 0, 1) := by decide +kernel
theorem dX2_performScenes_1 : decode cX2_performScenes 1 = .ok (.getfield 58, 3) := by decide +kernel
theorem dX2_performScenes_4 : decode cX2_performScenes 4 = .ok (.bipush 20, 2) := by decide +kernel
theorem dX2_performScenes_6 : decode cX2_performScenes 6 = .ok (.irem, 1) := by decide +kernel
theorem dX2_performScenes_7 : decode cX2_performScenes 7 = .ok (.istore_n 1, 1) := by decide +kernel
theorem dX2_performScenes_8 : decode cX2_performScenes 8 = .ok (.iconst 0, 1) := by decide +kernel
theorem dX2_performScenes_9 : decode cX2_performScenes 9 = .ok (.istore_n 2, 1) := by decide +kernel
theorem dX2_performScenes_10 : decode cX2_performScenes 10 = .ok (.iload_n 2, 1) := by decide +kernel
theorem dX2_performScenes_11 : decode cX2_performScenes 11 = .ok (.aload_n 0, 1) := by decide +kernel
theorem dX2_performScenes_12 : decode cX2_performScenes 12 = .ok (.getfield 24, 3) := by decide +kernel
theorem dX2_performScenes_15 : decode cX2_performScenes 15 = .ok (.getfield 149, 3) := by decide +kernel
theorem dX2_performScenes_18 : decode cX2_performScenes 18 = .ok (.if_icmp .ge 81, 3) := by decide +kernel
theorem dX2_performScenes_21 : decode cX2_performScenes 21 = .ok (.aload_n 0, 1) := by decide +kernel
theorem dX2_performScenes_22 : decode cX2_performScenes 22 = .ok (.getfield 40, 3) := by decide +kernel
theorem dX2_performScenes_25 : decode cX2_performScenes 25 = .ok (.iload_n 2, 1) := by decide +kernel
theorem dX2_performScenes_26 : decode cX2_performScenes 26 = .ok (.invokevirtual 152, 3) := by decide +kernel
theorem dX2_performScenes_29 : decode cX2_performScenes 29 = .ok (.ifCond .eq 11, 3) := by decide +kernel
theorem dX2_performScenes_32 : decode cX2_performScenes 32 = .ok (.aload_n 0, 1) := by decide +kernel
theorem dX2_performScenes_33 : decode cX2_performScenes 33 = .ok (.iload_n 2, 1) := by decide +kernel
theorem dX2_performScenes_34 : decode cX2_performScenes 34 = .ok (.invokevirtual 156, 3) := by decide +kernel
theorem dX2_performScenes_37 : decode cX2_performScenes 37 = .ok (.goto 56, 3) := by decide +kernel
theorem dX2_performScenes_40 : decode cX2_performScenes 40 = .ok (.aload_n 0, 1) := by decide +kernel
theorem dX2_performScenes_41 : decode cX2_performScenes 41 = .ok (.getfield 40, 3) := by decide +kernel
theorem dX2_performScenes_44 : decode cX2_performScenes 44 = .ok (.iload_n 2, 1) := by decide +kernel
theorem dX2_performScenes_45 : decode cX2_performScenes 45 = .ok (.invokevirtual 159, 3) := by decide +kernel
theorem dX2_performScenes_48 : decode cX2_performScenes 48 = .ok (.ifCond .eq 45, 3) := by decide +kernel
theorem dX2_performScenes_51 : decode cX2_performScenes 51 = .ok (.aload_n 0, 1) := by decide +kernel
theorem dX2_performScenes_52 : decode cX2_performScenes 52 = .ok (.getfield 24, 3) := by decide +kernel
theorem dX2_performScenes_55 : decode cX2_performScenes 55 = .ok (.getfield 162, 3) := by decide +kernel
theorem dX2_performScenes_58 : decode cX2_performScenes 58 = .ok (.iload_n 2, 1) := by decide +kernel
theorem dX2_performScenes_59 : decode cX2_performScenes 59 = .ok (.invokevirtual 121, 3) := by decide +kernel
theorem dX2_performScenes_62 : decode cX2_performScenes 62 = .ok (.iload_n 1, 1) := by decide +kernel
theorem dX2_performScenes_63 : decode cX2_performScenes 63 = .ok (.if_icmp .gt 30, 3) := by decide +kernel
theorem dX2_performScenes_66 : decode cX2_performScenes 66 = .ok (.aload_n 0, 1) := by decide +kernel
theorem dX2_performScenes_67 : decode cX2_performScenes 67 = .ok (.iload_n 2, 1) := by decide +kernel
theorem dX2_performScenes_68 : decode cX2_performScenes 68 = .ok (.invokevirtual 165, 3) := by decide +kernel
theorem dX2_performScenes_71 : decode cX2_performScenes 71 = .ok (.ifCond .eq 14, 3) := by decide +kernel
theorem dX2_performScenes_74 : decode cX2_performScenes 74 = .ok (.aload_n 0, 1) := by decide +kernel
theorem dX2_performScenes_75 : decode cX2_performScenes 75 = .ok (.getfield 40, 3) := by decide +kernel
theorem dX2_performScenes_78 : decode cX2_performScenes 78 = .ok (.iload_n 2, 1) := by decide +kernel
theorem dX2_performScenes_79 : decode cX2_performScenes 79 = .ok (.invokevirtual 168, 3) := by decide +kernel
theorem dX2_performScenes_82 : decode cX2_performScenes 82 = .ok (.goto 11, 3) := by decide +kernel
theorem dX2_performScenes_85 : decode cX2_performScenes 85 = .ok (.aload_n 0, 1) := by decide +kernel
theorem dX2_performScenes_86 : decode cX2_performScenes 86 = .ok (.getfield 40, 3) := by decide +kernel
theorem dX2_performScenes_89 : decode cX2_performScenes 89 = .ok (.iload_n 2, 1) := by decide +kernel
theorem dX2_performScenes_90 : decode cX2_performScenes 90 = .ok (.invokevirtual 171, 3) := by decide +kernel
theorem dX2_performScenes_93 : decode cX2_performScenes 93 = .ok (.iinc 2 1, 3) := by decide +kernel
theorem dX2_performScenes_96 : decode cX2_performScenes 96 = .ok (.goto (-86), 3) := by decide +kernel
theorem dX2_performScenes_99 : decode cX2_performScenes 99 = .ok (.return_, 1) := by decide +kernel
theorem dX2_continueScene_0 : decode cX2_continueScene 0 = .ok (.aload_n 0, 1) := by decide +kernel
theorem dX2_continueScene_1 : decode cX2_continueScene 1 = .ok (.getfield 40, 3) := by decide +kernel
theorem dX2_continueScene_4 : decode cX2_continueScene 4 = .ok (.iload_n 1, 1) := by decide +kernel
theorem dX2_continueScene_5 : decode cX2_continueScene 5 = .ok (.invokevirtual 174, 3) := by decide +kernel
theorem dX2_continueScene_8 : decode cX2_continueScene 8 = .ok (.aload_n 0, 1) := by decide +kernel
theorem dX2_continueScene_9 : decode cX2_continueScene 9 = .ok (.getfield 24, 3) := by decide +kernel
theorem dX2_continueScene_12 : decode cX2_continueScene 12 = .ok (.getfield 177, 3) := by decide +kernel
theorem dX2_continueScene_15 : decode cX2_continueScene 15 = .ok (.iload_n 1, 1) := by decide +kernel
theorem dX2_continueScene_16 : decode cX2_continueScene 16 = .ok (.invokevirtual 121, 3) := by decide +kernel
theorem dX2_continueScene_19 : decode cX2_continueScene 19 = .ok (.istore_n 2, 1) := by decide +kernel
theorem dX2_continueScene_20 : decode cX2_continueScene 20 = .ok (.iload_n 2, 1) := by decide +kernel
theorem dX2_continueScene_21 : decode cX2_continueScene 21 = .ok (.iconst (-1), 1) := by decide +kernel
theorem dX2_continueScene_22 : decode cX2_continueScene 22 = .ok (.if_icmp .eq 37, 3) := by decide +kernel
theorem dX2_continueScene_25 : decode cX2_continueScene 25 = .ok (.aload_n 0, 1) := by decide +kernel
theorem dX2_continueScene_26 : decode cX2_continueScene 26 = .ok (.getfield 40, 3) := by decide +kernel
theorem dX2_continueScene_29 : decode cX2_continueScene 29 = .ok (.iload_n 1, 1) := by decide +kernel
theorem dX2_continueScene_30 : decode cX2_continueScene 30 = .ok (.invokevirtual 152, 3) := by decide +kernel
theorem dX2_continueScene_33 : decode cX2_continueScene 33 = .ok (.ifCond .ne 26, 3) := by decide +kernel
theorem dX2_continueScene_36 : decode cX2_continueScene 36 = .ok (.aload_n 0, 1) := by decide +kernel
theorem dX2_continueScene_37 : decode cX2_continueScene 37 = .ok (.getfield 47, 3) := by decide +kernel
theorem dX2_continueScene_40 : decode cX2_continueScene 40 = .ok (.iload_n 2, 1) := by decide +kernel
theorem dX2_continueScene_41 : decode cX2_continueScene 41 = .ok (.aload_n 0, 1) := by decide +kernel
theorem dX2_continueScene_42 : decode cX2_continueScene 42 = .ok (.aload_n 0, 1) := by decide +kernel
theorem dX2_continueScene_43 : decode cX2_continueScene 43 = .ok (.getfield 24, 3) := by decide +kernel
theorem dX2_continueScene_46 : decode cX2_continueScene 46 = .ok (.getfield 180, 3) := by decide +kernel
theorem dX2_continueScene_49 : decode cX2_continueScene 49 = .ok (.iload_n 1, 1) := by decide +kernel
theorem dX2_continueScene_50 : decode cX2_continueScene 50 = .ok (.invokevirtual 121, 3) := by decide +kernel
theorem dX2_continueScene_53 : decode cX2_continueScene 53 = .ok (.invokevirtual 183, 3) := by decide +kernel
theorem dX2_continueScene_56 : decode cX2_continueScene 56 = .ok (.invokevirtual 186, 3) := by decide +kernel
theorem dX2_continueScene_59 : decode cX2_continueScene 59 = .ok (.return_, 1) := by decide +kernel
theorem dX2_greatestTrack_0 : decode cX2_greatestTrack 0 = .ok (.iconst (-1), 1) := by decide +kernel
theorem dX2_greatestTrack_1 : decode cX2_greatestTrack 1 = .ok (.istore_n 2, 1) := by decide +kernel
theorem dX2_greatestTrack_2 : decode cX2_greatestTrack 2 = .ok (.iconst 0, 1) := by decide +kernel
theorem dX2_greatestTrack_3 : decode cX2_greatestTrack 3 = .ok (.istore_n 3, 1) := by decide +kernel
theorem dX2_greatestTrack_4 : decode cX2_greatestTrack 4 = .ok (.iload_n 3, 1) := by decide +kernel
theorem dX2_greatestTrack_5 : decode cX2_greatestTrack 5 = .ok (.aload_n 0, 1) := by decide +kernel
theorem dX2_greatestTrack_6 : decode cX2_greatestTrack 6 = .ok (.getfield 24, 3) := by decide +kernel
theorem dX2_greatestTrack_9 : decode cX2_greatestTrack 9 = .ok (.getfield 109, 3) := by decide +kernel
theorem dX2_greatestTrack_12 : decode cX2_greatestTrack 12 = .ok (.if_icmp .ge 19, 3) := by decide +kernel
theorem dX2_greatestTrack_15 : decode cX2_greatestTrack 15 = .ok (.iload_n 1, 1) := by decide +kernel
theorem dX2_greatestTrack_16 : decode cX2_greatestTrack 16 = .ok (.iconst 1, 1) := by decide +kernel
theorem dX2_greatestTrack_17 : decode cX2_greatestTrack 17 = .ok (.iload_n 3, 1) := by decide +kernel
theorem dX2_greatestTrack_18 : decode cX2_greatestTrack 18 = .ok (.ishl, 1) := by decide +kernel
theorem dX2_greatestTrack_19 : decode cX2_greatestTrack 19 = .ok (.iand, 1) := by decide +kernel
theorem dX2_greatestTrack_20 : decode cX2_greatestTrack 20 = .ok (.ifCond .eq 5, 3) := by decide +kernel
theorem dX2_greatestTrack_23 : decode cX2_greatestTrack 23 = .ok (.iload_n 3, 1) := by decide +kernel
theorem dX2_greatestTrack_24 : decode cX2_greatestTrack 24 = .ok (.istore_n 2, 1) := by decide +kernel
theorem dX2_greatestTrack_25 : decode cX2_greatestTrack 25 = .ok (.iinc 3 1, 3) := by decide +kernel
theorem dX2_greatestTrack_28 : decode cX2_greatestTrack 28 = .ok (.goto (-24), 3) := by decide +kernel
theorem dX2_greatestTrack_31 : decode cX2_greatestTrack 31 = .ok (.iload_n 2, 1) := by decide +kernel
theorem dX2_greatestTrack_32 : decode cX2_greatestTrack 32 = .ok (.ireturn, 1) := by decide +kernel
theorem dX2_canBegin_0 : decode cX2_canBegin 0 = .ok (.aload_n 0, 1) := by decide +kernel
theorem dX2_canBegin_1 : decode cX2_canBegin 1 = .ok (.getfield 24, 3) := by decide +kernel
theorem dX2_canBegin_4 : decode cX2_canBegin 4 = .ok (.getfield 180, 3) := by decide +kernel
theorem dX2_canBegin_7 : decode cX2_canBegin 7 = .ok (.iload_n 1, 1) := by decide +kernel
theorem dX2_canBegin_8 : decode cX2_canBegin 8 = .ok (.invokevirtual 121, 3) := by decide +kernel
theorem dX2_canBegin_11 : decode cX2_canBegin 11 = .ok (.istore_n 2, 1) := by decide +kernel
theorem dX2_canBegin_12 : decode cX2_canBegin 12 = .ok (.iload_n 2, 1) := by decide +kernel
theorem dX2_canBegin_13 : decode cX2_canBegin 13 = .ok (.aload_n 0, 1) := by decide +kernel
theorem dX2_canBegin_14 : decode cX2_canBegin 14 = .ok (.getfield 33, 3) := by decide +kernel
theorem dX2_canBegin_17 : decode cX2_canBegin 17 = .ok (.aload_n 0, 1) := by decide +kernel
theorem dX2_canBegin_18 : decode cX2_canBegin 18 = .ok (.getfield 24, 3) := by decide +kernel
theorem dX2_canBegin_21 : decode cX2_canBegin 21 = .ok (.getfield 130, 3) := by decide +kernel
theorem dX2_canBegin_24 : decode cX2_canBegin 24 = .ok (.iload_n 1, 1) := by decide +kernel
theorem dX2_canBegin_25 : decode cX2_canBegin 25 = .ok (.invokevirtual 121, 3) := by decide +kernel
theorem dX2_canBegin_28 : decode cX2_canBegin 28 = .ok (.invokevirtual 189, 3) := by decide +kernel
theorem dX2_canBegin_31 : decode cX2_canBegin 31 = .ok (.iconst (-1), 1) := by decide +kernel
theorem dX2_canBegin_32 : decode cX2_canBegin 32 = .ok (.ixor, 1) := by decide +kernel
theorem dX2_canBegin_33 : decode cX2_canBegin 33 = .ok (.iand, 1) := by decide +kernel
theorem dX2_canBegin_34 : decode cX2_canBegin 34 = .ok (.ifCond .ne 7, 3) := by decide +kernel
theorem dX2_canBegin_37 : decode cX2_canBegin 37 = .ok (.iconst 1, 1) := by decide +kernel
theorem dX2_canBegin_38 : decode cX2_canBegin 38 = .ok (.goto 4, 3) := by decide +kernel
theorem dX2_canBegin_41 : decode cX2_canBegin 41 = .ok (.iconst 0, 1) := by decide +kernel
theorem dX2_canBegin_42 : decode cX2_canBegin 42 = .ok (.istore_n 3, 1) := by decide +kernel
theorem dX2_canBegin_43 : decode cX2_canBegin 43 = .ok (.iload_n 3, 1) := by decide +kernel
theorem dX2_canBegin_44 : decode cX2_canBegin 44 = .ok (.ifCond .eq 34, 3) := by decide +kernel
theorem dX2_canBegin_47 : decode cX2_canBegin 47 = .ok (.aload_n 0, 1) := by decide +kernel
theorem dX2_canBegin_48 : decode cX2_canBegin 48 = .ok (.getfield 33, 3) := by decide +kernel
theorem dX2_canBegin_51 : decode cX2_canBegin 51 = .ok (.iload_n 2, 1) := by decide +kernel
theorem dX2_canBegin_52 : decode cX2_canBegin 52 = .ok (.invokevirtual 192, 3) := by decide +kernel
theorem dX2_canBegin_55 : decode cX2_canBegin 55 = .ok (.aload_n 0, 1) := by decide +kernel
theorem dX2_canBegin_56 : decode cX2_canBegin 56 = .ok (.getfield 40, 3) := by decide +kernel
theorem dX2_canBegin_59 : decode cX2_canBegin 59 = .ok (.invokevirtual 105, 3) := by decide +kernel
theorem dX2_canBegin_62 : decode cX2_canBegin 62 = .ok (.iand, 1) := by decide +kernel
theorem dX2_canBegin_63 : decode cX2_canBegin 63 = .ok (.ifCond .ne 15, 3) := by decide +kernel
theorem dX2_canBegin_66 : decode cX2_canBegin 66 = .ok (.aload_n 0, 1) := by decide +kernel
theorem dX2_canBegin_67 : decode cX2_canBegin 67 = .ok (.iload_n 1, 1) := by decide +kernel
theorem dX2_canBegin_68 : decode cX2_canBegin 68 = .ok (.invokevirtual 195, 3) := by decide +kernel
theorem dX2_canBegin_71 : decode cX2_canBegin 71 = .ok (.ifCond .eq 7, 3) := by decide +kernel
theorem dX2_canBegin_74 : decode cX2_canBegin 74 = .ok (.iconst 1, 1) := by decide +kernel
theorem dX2_canBegin_75 : decode cX2_canBegin 75 = .ok (.goto 4, 3) := by decide +kernel
theorem dX2_canBegin_78 : decode cX2_canBegin 78 = .ok (.iconst 0, 1) := by decide +kernel
theorem dX2_canBegin_79 : decode cX2_canBegin 79 = .ok (.ireturn, 1) := by decide +kernel
theorem dX2_hasProp_0 : decode cX2_hasProp 0 = .ok (.aload_n 0, 1) := by decide +kernel
theorem dX2_hasProp_1 : decode cX2_hasProp 1 = .ok (.getfield 24, 3) := by decide +kernel
theorem dX2_hasProp_4 : decode cX2_hasProp 4 = .ok (.getfield 177, 3) := by decide +kernel
theorem dX2_hasProp_7 : decode cX2_hasProp 7 = .ok (.iload_n 1, 1) := by decide +kernel
theorem dX2_hasProp_8 : decode cX2_hasProp 8 = .ok (.invokevirtual 121, 3) := by decide +kernel
theorem dX2_hasProp_11 : decode cX2_hasProp 11 = .ok (.istore_n 2, 1) := by decide +kernel
theorem dX2_hasProp_12 : decode cX2_hasProp 12 = .ok (.iload_n 2, 1) := by decide +kernel
theorem dX2_hasProp_13 : decode cX2_hasProp 13 = .ok (.iconst (-1), 1) := by decide +kernel
theorem dX2_hasProp_14 : decode cX2_hasProp 14 = .ok (.if_icmp .eq 28, 3) := by decide +kernel
theorem dX2_hasProp_17 : decode cX2_hasProp 17 = .ok (.aload_n 0, 1) := by decide +kernel
theorem dX2_hasProp_18 : decode cX2_hasProp 18 = .ok (.getfield 47, 3) := by decide +kernel
theorem dX2_hasProp_21 : decode cX2_hasProp 21 = .ok (.getfield 198, 3) := by decide +kernel
theorem dX2_hasProp_24 : decode cX2_hasProp 24 = .ok (.iload_n 2, 1) := by decide +kernel
theorem dX2_hasProp_25 : decode cX2_hasProp 25 = .ok (.invokevirtual 121, 3) := by decide +kernel
theorem dX2_hasProp_28 : decode cX2_hasProp 28 = .ok (.aload_n 0, 1) := by decide +kernel
theorem dX2_hasProp_29 : decode cX2_hasProp 29 = .ok (.getfield 24, 3) := by decide +kernel
theorem dX2_hasProp_32 : decode cX2_hasProp 32 = .ok (.getfield 130, 3) := by decide +kernel
theorem dX2_hasProp_35 : decode cX2_hasProp 35 = .ok (.iload_n 1, 1) := by decide +kernel
theorem dX2_hasProp_36 : decode cX2_hasProp 36 = .ok (.invokevirtual 121, 3) := by decide +kernel
theorem dX2_hasProp_39 : decode cX2_hasProp 39 = .ok (.if_icmp .ne 5, 3) := by decide +kernel
theorem dX2_hasProp_42 : decode cX2_hasProp 42 = .ok (.iconst 1, 1) := by decide +kernel
theorem dX2_hasProp_43 : decode cX2_hasProp 43 = .ok (.ireturn, 1) := by decide +kernel
theorem dX2_hasProp_44 : decode cX2_hasProp 44 = .ok (.aload_n 0, 1) := by decide +kernel
theorem dX2_hasProp_45 : decode cX2_hasProp 45 = .ok (.getfield 47, 3) := by decide +kernel
theorem dX2_hasProp_48 : decode cX2_hasProp 48 = .ok (.getfield 199, 3) := by decide +kernel
theorem dX2_hasProp_51 : decode cX2_hasProp 51 = .ok (.iload_n 2, 1) := by decide +kernel
theorem dX2_hasProp_52 : decode cX2_hasProp 52 = .ok (.invokevirtual 121, 3) := by decide +kernel
theorem dX2_hasProp_55 : decode cX2_hasProp 55 = .ok (.istore_n 3, 1) := by decide +kernel
theorem dX2_hasProp_56 : decode cX2_hasProp 56 = .ok (.iload_n 3, 1) := by decide +kernel
theorem dX2_hasProp_57 : decode cX2_hasProp 57 = .ok (.iconst (-1), 1) := by decide +kernel
theorem dX2_hasProp_58 : decode cX2_hasProp 58 = .ok (.if_icmp .eq 21, 3) := by decide +kernel
theorem dX2_hasProp_61 : decode cX2_hasProp 61 = .ok (.aload_n 0, 1) := by decide +kernel
theorem dX2_hasProp_62 : decode cX2_hasProp 62 = .ok (.getfield 24, 3) := by decide +kernel
theorem dX2_hasProp_65 : decode cX2_hasProp 65 = .ok (.iload_n 1, 1) := by decide +kernel
theorem dX2_hasProp_66 : decode cX2_hasProp 66 = .ok (.iconst 1, 1) := by decide +kernel
theorem dX2_hasProp_67 : decode cX2_hasProp 67 = .ok (.iload_n 3, 1) := by decide +kernel
theorem dX2_hasProp_68 : decode cX2_hasProp 68 = .ok (.ishl, 1) := by decide +kernel
theorem dX2_hasProp_69 : decode cX2_hasProp 69 = .ok (.invokevirtual 202, 3) := by decide +kernel
theorem dX2_hasProp_72 : decode cX2_hasProp 72 = .ok (.ifCond .eq 7, 3) := by decide +kernel
theorem dX2_hasProp_75 : decode cX2_hasProp 75 = .ok (.iconst 1, 1) := by decide +kernel
theorem dX2_hasProp_76 : decode cX2_hasProp 76 = .ok (.goto 4, 3) := by decide +kernel
theorem dX2_hasProp_79 : decode cX2_hasProp 79 = .ok (.iconst 0, 1) := by decide +kernel
theorem dX2_hasProp_80 : decode cX2_hasProp 80 = .ok (.ireturn, 1) := by decide +kernel
theorem dX2_moveGuests_0 : decode cX2_moveGuests 0 = .ok (.aload_n 0, 1) := by decide +kernel
theorem dX2_moveGuests_1 : decode cX2_moveGuests 1 = .ok (.getfield 14, 3) := by decide +kernel
theorem dX2_moveGuests_4 : decode cX2_moveGuests 4 = .ok (.iconst 0, 1) := by decide +kernel
theorem dX2_moveGuests_5 : decode cX2_moveGuests 5 = .ok (.invokevirtual 206, 3) := by decide +kernel
theorem dX2_moveGuests_8 : decode cX2_moveGuests 8 = .ok (.iconst 0, 1) := by decide +kernel
theorem dX2_moveGuests_9 : decode cX2_moveGuests 9 = .ok (.istore_n 1, 1) := by decide +kernel
theorem dX2_moveGuests_10 : decode cX2_moveGuests 10 = .ok (.iload_n 1, 1) := by decide +kernel
theorem dX2_moveGuests_11 : decode cX2_moveGuests 11 = .ok (.aload_n 0, 1) := by decide +kernel
theorem dX2_moveGuests_12 : decode cX2_moveGuests 12 = .ok (.getfield 54, 3) := by decide +kernel
theorem dX2_moveGuests_15 : decode cX2_moveGuests 15 = .ok (.getfield 207, 3) := by decide +kernel
theorem dX2_moveGuests_18 : decode cX2_moveGuests 18 = .ok (.if_icmp .ge 56, 3) := by decide +kernel
theorem dX2_moveGuests_21 : decode cX2_moveGuests 21 = .ok (.aload_n 0, 1) := by decide +kernel
theorem dX2_moveGuests_22 : decode cX2_moveGuests 22 = .ok (.getfield 54, 3) := by decide +kernel
theorem dX2_moveGuests_25 : decode cX2_moveGuests 25 = .ok (.getfield 210, 3) := by decide +kernel
theorem dX2_moveGuests_28 : decode cX2_moveGuests 28 = .ok (.iload_n 1, 1) := by decide +kernel
theorem dX2_moveGuests_29 : decode cX2_moveGuests 29 = .ok (.invokevirtual 121, 3) := by decide +kernel
theorem dX2_moveGuests_32 : decode cX2_moveGuests 32 = .ok (.istore_n 2, 1) := by decide +kernel
theorem dX2_moveGuests_33 : decode cX2_moveGuests 33 = .ok (.aload_n 0, 1) := by decide +kernel
theorem dX2_moveGuests_34 : decode cX2_moveGuests 34 = .ok (.iload_n 1, 1) := by decide +kernel
theorem dX2_moveGuests_35 : decode cX2_moveGuests 35 = .ok (.iload_n 2, 1) := by decide +kernel
theorem dX2_moveGuests_36 : decode cX2_moveGuests 36 = .ok (.invokevirtual 211, 3) := by decide +kernel
theorem dX2_moveGuests_39 : decode cX2_moveGuests 39 = .ok (.istore_n 3, 1) := by decide +kernel
theorem dX2_moveGuests_40 : decode cX2_moveGuests 40 = .ok (.iload_n 3, 1) := by decide +kernel
theorem dX2_moveGuests_41 : decode cX2_moveGuests 41 = .ok (.iconst (-1), 1) := by decide +kernel
theorem dX2_moveGuests_42 : decode cX2_moveGuests 42 = .ok (.if_icmp .eq 26, 3) := by decide +kernel
theorem dX2_moveGuests_45 : decode cX2_moveGuests 45 = .ok (.iload_n 3, 1) := by decide +kernel
theorem dX2_moveGuests_46 : decode cX2_moveGuests 46 = .ok (.iload_n 2, 1) := by decide +kernel
theorem dX2_moveGuests_47 : decode cX2_moveGuests 47 = .ok (.if_icmp .eq 21, 3) := by decide +kernel
theorem dX2_moveGuests_50 : decode cX2_moveGuests 50 = .ok (.aload_n 0, 1) := by decide +kernel
theorem dX2_moveGuests_51 : decode cX2_moveGuests 51 = .ok (.iload_n 1, 1) := by decide +kernel
theorem dX2_moveGuests_52 : decode cX2_moveGuests 52 = .ok (.iload_n 3, 1) := by decide +kernel
theorem dX2_moveGuests_53 : decode cX2_moveGuests 53 = .ok (.aload_n 0, 1) := by decide +kernel
theorem dX2_moveGuests_54 : decode cX2_moveGuests 54 = .ok (.getfield 20, 3) := by decide +kernel
theorem dX2_moveGuests_57 : decode cX2_moveGuests 57 = .ok (.getfield 214, 3) := by decide +kernel
theorem dX2_moveGuests_60 : decode cX2_moveGuests 60 = .ok (.iload_n 2, 1) := by decide +kernel
theorem dX2_moveGuests_61 : decode cX2_moveGuests 61 = .ok (.iload_n 3, 1) := by decide +kernel
theorem dX2_moveGuests_62 : decode cX2_moveGuests 62 = .ok (.invokevirtual 143, 3) := by decide +kernel
theorem dX2_moveGuests_65 : decode cX2_moveGuests 65 = .ok (.invokevirtual 217, 3) := by decide +kernel
theorem dX2_moveGuests_68 : decode cX2_moveGuests 68 = .ok (.iinc 1 1, 3) := by decide +kernel
theorem dX2_moveGuests_71 : decode cX2_moveGuests 71 = .ok (.goto (-61), 3) := by decide +kernel
theorem dX2_moveGuests_74 : decode cX2_moveGuests 74 = .ok (.return_, 1) := by decide +kernel
theorem dX2_moveGuest_0 : decode cX2_moveGuest 0 = .ok (.aload_n 0, 1) := by decide +kernel
theorem dX2_moveGuest_1 : decode cX2_moveGuest 1 = .ok (.getfield 14, 3) := by decide +kernel
theorem dX2_moveGuest_4 : decode cX2_moveGuest 4 = .ok (.iload_n 3, 1) := by decide +kernel
theorem dX2_moveGuest_5 : decode cX2_moveGuest 5 = .ok (.invokevirtual 121, 3) := by decide +kernel
theorem dX2_moveGuest_8 : decode cX2_moveGuest 8 = .ok (.aload_n 0, 1) := by decide +kernel
theorem dX2_moveGuest_9 : decode cX2_moveGuest 9 = .ok (.getfield 20, 3) := by decide +kernel
theorem dX2_moveGuest_12 : decode cX2_moveGuest 12 = .ok (.getfield 221, 3) := by decide +kernel
theorem dX2_moveGuest_15 : decode cX2_moveGuest 15 = .ok (.iload_n 3, 1) := by decide +kernel
theorem dX2_moveGuest_16 : decode cX2_moveGuest 16 = .ok (.invokevirtual 121, 3) := by decide +kernel
theorem dX2_moveGuest_19 : decode cX2_moveGuest 19 = .ok (.if_icmp .ge 32, 3) := by decide +kernel
theorem dX2_moveGuest_22 : decode cX2_moveGuest 22 = .ok (.aload_n 0, 1) := by decide +kernel
theorem dX2_moveGuest_23 : decode cX2_moveGuest 23 = .ok (.iload_n 2, 1) := by decide +kernel
theorem dX2_moveGuest_24 : decode cX2_moveGuest 24 = .ok (.invokevirtual 224, 3) := by decide +kernel
theorem dX2_moveGuest_27 : decode cX2_moveGuest 27 = .ok (.ifCond .ne 24, 3) := by decide +kernel
theorem dX2_moveGuest_30 : decode cX2_moveGuest 30 = .ok (.aload_n 0, 1) := by decide +kernel
theorem dX2_moveGuest_31 : decode cX2_moveGuest 31 = .ok (.getfield 14, 3) := by decide +kernel
theorem dX2_moveGuest_34 : decode cX2_moveGuest 34 = .ok (.iload_n 3, 1) := by decide +kernel
theorem dX2_moveGuest_35 : decode cX2_moveGuest 35 = .ok (.iconst 1, 1) := by decide +kernel
theorem dX2_moveGuest_36 : decode cX2_moveGuest 36 = .ok (.invokevirtual 227, 3) := by decide +kernel
theorem dX2_moveGuest_39 : decode cX2_moveGuest 39 = .ok (.aload_n 0, 1) := by decide +kernel
theorem dX2_moveGuest_40 : decode cX2_moveGuest 40 = .ok (.getfield 54, 3) := by decide +kernel
theorem dX2_moveGuest_43 : decode cX2_moveGuest 43 = .ok (.iload_n 1, 1) := by decide +kernel
theorem dX2_moveGuest_44 : decode cX2_moveGuest 44 = .ok (.iload_n 2, 1) := by decide +kernel
theorem dX2_moveGuest_45 : decode cX2_moveGuest 45 = .ok (.invokevirtual 230, 3) := by decide +kernel
theorem dX2_moveGuest_48 : decode cX2_moveGuest 48 = .ok (.goto 15, 3) := by decide +kernel
theorem dX2_moveGuest_51 : decode cX2_moveGuest 51 = .ok (.aload_n 0, 1) := by decide +kernel
theorem dX2_moveGuest_52 : decode cX2_moveGuest 52 = .ok (.getfield 54, 3) := by decide +kernel
theorem dX2_moveGuest_55 : decode cX2_moveGuest 55 = .ok (.getfield 231, 3) := by decide +kernel
theorem dX2_moveGuest_58 : decode cX2_moveGuest 58 = .ok (.iload_n 1, 1) := by decide +kernel
theorem dX2_moveGuest_59 : decode cX2_moveGuest 59 = .ok (.iconst 1, 1) := by decide +kernel
theorem dX2_moveGuest_60 : decode cX2_moveGuest 60 = .ok (.invokevirtual 227, 3) := by decide +kernel
theorem dX2_moveGuest_63 : decode cX2_moveGuest 63 = .ok (.return_, 1) := by decide +kernel
theorem dX2_isFull_0 : decode cX2_isFull 0 = .ok (.aload_n 0, 1) := by decide +kernel
theorem dX2_isFull_1 : decode cX2_isFull 1 = .ok (.getfield 54, 3) := by decide +kernel
theorem dX2_isFull_4 : decode cX2_isFull 4 = .ok (.getfield 234, 3) := by decide +kernel
theorem dX2_isFull_7 : decode cX2_isFull 7 = .ok (.iload_n 1, 1) := by decide +kernel
theorem dX2_isFull_8 : decode cX2_isFull 8 = .ok (.invokevirtual 121, 3) := by decide +kernel
theorem dX2_isFull_11 : decode cX2_isFull 11 = .ok (.aload_n 0, 1) := by decide +kernel
theorem dX2_isFull_12 : decode cX2_isFull 12 = .ok (.getfield 20, 3) := by decide +kernel
theorem dX2_isFull_15 : decode cX2_isFull 15 = .ok (.getfield 237, 3) := by decide +kernel
theorem dX2_isFull_18 : decode cX2_isFull 18 = .ok (.iload_n 1, 1) := by decide +kernel
theorem dX2_isFull_19 : decode cX2_isFull 19 = .ok (.invokevirtual 121, 3) := by decide +kernel
theorem dX2_isFull_22 : decode cX2_isFull 22 = .ok (.if_icmp .lt 7, 3) := by decide +kernel
theorem dX2_isFull_25 : decode cX2_isFull 25 = .ok (.iconst 1, 1) := by decide +kernel
theorem dX2_isFull_26 : decode cX2_isFull 26 = .ok (.goto 4, 3) := by decide +kernel
theorem dX2_isFull_29 : decode cX2_isFull 29 = .ok (.iconst 0, 1) := by decide +kernel
theorem dX2_isFull_30 : decode cX2_isFull 30 = .ok (.ireturn, 1) := by decide +kernel
theorem dX2_nextRoomOf_0 : decode cX2_nextRoomOf 0 = .ok (.aload_n 0, 1) := by decide +kernel
theorem dX2_nextRoomOf_1 : decode cX2_nextRoomOf 1 = .ok (.getfield 54, 3) := by decide +kernel
theorem dX2_nextRoomOf_4 : decode cX2_nextRoomOf 4 = .ok (.getfield 240, 3) := by decide +kernel
theorem dX2_nextRoomOf_7 : decode cX2_nextRoomOf 7 = .ok (.iload_n 1, 1) := by decide +kernel
theorem dX2_nextRoomOf_8 : decode cX2_nextRoomOf 8 = .ok (.invokevirtual 121, 3) := by decide +kernel
theorem dX2_nextRoomOf_11 : decode cX2_nextRoomOf 11 = .ok (.tableswitch 71 1 3 #[25, 58, 64], 25) := by decide +kernel
theorem dX2_nextRoomOf_36 : decode cX2_nextRoomOf 36 = .ok (.aload_n 0, 1) := by decide +kernel
theorem dX2_nextRoomOf_37 : decode cX2_nextRoomOf 37 = .ok (.getfield 20, 3) := by decide +kernel
theorem dX2_nextRoomOf_40 : decode cX2_nextRoomOf 40 = .ok (.getfield 138, 3) := by decide +kernel
theorem dX2_nextRoomOf_43 : decode cX2_nextRoomOf 43 = .ok (.iload_n 2, 1) := by decide +kernel
theorem dX2_nextRoomOf_44 : decode cX2_nextRoomOf 44 = .ok (.aload_n 0, 1) := by decide +kernel
theorem dX2_nextRoomOf_45 : decode cX2_nextRoomOf 45 = .ok (.getfield 33, 3) := by decide +kernel
theorem dX2_nextRoomOf_48 : decode cX2_nextRoomOf 48 = .ok (.getfield 137, 3) := by decide +kernel
theorem dX2_nextRoomOf_51 : decode cX2_nextRoomOf 51 = .ok (.aload_n 0, 1) := by decide +kernel
theorem dX2_nextRoomOf_52 : decode cX2_nextRoomOf 52 = .ok (.getfield 54, 3) := by decide +kernel
theorem dX2_nextRoomOf_55 : decode cX2_nextRoomOf 55 = .ok (.getfield 243, 3) := by decide +kernel
theorem dX2_nextRoomOf_58 : decode cX2_nextRoomOf 58 = .ok (.iload_n 1, 1) := by decide +kernel
theorem dX2_nextRoomOf_59 : decode cX2_nextRoomOf 59 = .ok (.invokevirtual 121, 3) := by decide +kernel
theorem dX2_nextRoomOf_62 : decode cX2_nextRoomOf 62 = .ok (.invokevirtual 121, 3) := by decide +kernel
theorem dX2_nextRoomOf_65 : decode cX2_nextRoomOf 65 = .ok (.invokevirtual 143, 3) := by decide +kernel
theorem dX2_nextRoomOf_68 : decode cX2_nextRoomOf 68 = .ok (.ireturn, 1) := by decide +kernel
theorem dX2_nextRoomOf_69 : decode cX2_nextRoomOf 69 = .ok (.aload_n 0, 1) := by decide +kernel
theorem dX2_nextRoomOf_70 : decode cX2_nextRoomOf 70 = .ok (.iload_n 2, 1) := by decide +kernel
theorem dX2_nextRoomOf_71 : decode cX2_nextRoomOf 71 = .ok (.invokevirtual 246, 3) := by decide +kernel
theorem dX2_nextRoomOf_74 : decode cX2_nextRoomOf 74 = .ok (.ireturn, 1) := by decide +kernel
theorem dX2_nextRoomOf_75 : decode cX2_nextRoomOf 75 = .ok (.aload_n 0, 1) := by decide +kernel
theorem dX2_nextRoomOf_76 : decode cX2_nextRoomOf 76 = .ok (.iload_n 1, 1) := by decide +kernel
theorem dX2_nextRoomOf_77 : decode cX2_nextRoomOf 77 = .ok (.iload_n 2, 1) := by decide +kernel
theorem dX2_nextRoomOf_78 : decode cX2_nextRoomOf 78 = .ok (.invokevirtual 249, 3) := by decide +kernel
theorem dX2_nextRoomOf_81 : decode cX2_nextRoomOf 81 = .ok (.ireturn, 1) := by decide +kernel
theorem dX2_nextRoomOf_82 : decode cX2_nextRoomOf 82 = .ok (.iload_n 2, 1) := by decide +kernel
theorem dX2_nextRoomOf_83 : decode cX2_nextRoomOf 83 = .ok (.ireturn, 1) := by decide +kernel
theorem dX2_emptierRoom_0 : decode cX2_emptierRoom 0 = .ok (.aload_n 0, 1) := by decide +kernel
theorem dX2_emptierRoom_1 : decode cX2_emptierRoom 1 = .ok (.getfield 40, 3) := by decide +kernel
theorem dX2_emptierRoom_4 : decode cX2_emptierRoom 4 = .ok (.iload_n 1, 1) := by decide +kernel
theorem dX2_emptierRoom_5 : decode cX2_emptierRoom 5 = .ok (.invokevirtual 252, 3) := by decide +kernel
theorem dX2_emptierRoom_8 : decode cX2_emptierRoom 8 = .ok (.ifCond .eq 5, 3) := by decide +kernel
theorem dX2_emptierRoom_11 : decode cX2_emptierRoom 11 = .ok (.iload_n 1, 1) := by decide +kernel
theorem dX2_emptierRoom_12 : decode cX2_emptierRoom 12 = .ok (.ireturn, 1) := by decide +kernel
theorem dX2_emptierRoom_13 : decode cX2_emptierRoom 13 = .ok (.iload_n 1, 1) := by decide +kernel
theorem dX2_emptierRoom_14 : decode cX2_emptierRoom 14 = .ok (.istore_n 2, 1) := by decide +kernel
theorem dX2_emptierRoom_15 : decode cX2_emptierRoom 15 = .ok (.iconst 0, 1) := by decide +kernel
theorem dX2_emptierRoom_16 : decode cX2_emptierRoom 16 = .ok (.istore_n 3, 1) := by decide +kernel
theorem dX2_emptierRoom_17 : decode cX2_emptierRoom 17 = .ok (.iload_n 3, 1) := by decide +kernel
theorem dX2_emptierRoom_18 : decode cX2_emptierRoom 18 = .ok (.aload_n 0, 1) := by decide +kernel
theorem dX2_emptierRoom_19 : decode cX2_emptierRoom 19 = .ok (.getfield 20, 3) := by decide +kernel
theorem dX2_emptierRoom_22 : decode cX2_emptierRoom 22 = .ok (.getfield 255, 3) := by decide +kernel
theorem dX2_emptierRoom_25 : decode cX2_emptierRoom 25 = .ok (.if_icmp .ge 52, 3) := by decide +kernel
theorem dX2_emptierRoom_28 : decode cX2_emptierRoom 28 = .ok (.aload_n 0, 1) := by decide +kernel
theorem dX2_emptierRoom_29 : decode cX2_emptierRoom 29 = .ok (.getfield 20, 3) := by decide +kernel
theorem dX2_emptierRoom_32 : decode cX2_emptierRoom 32 = .ok (.getfield 214, 3) := by decide +kernel
theorem dX2_emptierRoom_35 : decode cX2_emptierRoom 35 = .ok (.iload_n 1, 1) := by decide +kernel
theorem dX2_emptierRoom_36 : decode cX2_emptierRoom 36 = .ok (.iload_n 3, 1) := by decide +kernel
theorem dX2_emptierRoom_37 : decode cX2_emptierRoom 37 = .ok (.invokevirtual 143, 3) := by decide +kernel
theorem dX2_emptierRoom_40 : decode cX2_emptierRoom 40 = .ok (.iconst (-1), 1) := by decide +kernel
theorem dX2_emptierRoom_41 : decode cX2_emptierRoom 41 = .ok (.if_icmp .eq 30, 3) := by decide +kernel
theorem dX2_emptierRoom_44 : decode cX2_emptierRoom 44 = .ok (.aload_n 0, 1) := by decide +kernel
theorem dX2_emptierRoom_45 : decode cX2_emptierRoom 45 = .ok (.getfield 54, 3) := by decide +kernel
theorem dX2_emptierRoom_48 : decode cX2_emptierRoom 48 = .ok (.getfield 234, 3) := by decide +kernel
theorem dX2_emptierRoom_51 : decode cX2_emptierRoom 51 = .ok (.iload_n 3, 1) := by decide +kernel
theorem dX2_emptierRoom_52 : decode cX2_emptierRoom 52 = .ok (.invokevirtual 121, 3) := by decide +kernel
theorem dX2_emptierRoom_55 : decode cX2_emptierRoom 55 = .ok (.aload_n 0, 1) := by decide +kernel
theorem dX2_emptierRoom_56 : decode cX2_emptierRoom 56 = .ok (.getfield 54, 3) := by decide +kernel
theorem dX2_emptierRoom_59 : decode cX2_emptierRoom 59 = .ok (.getfield 234, 3) := by decide +kernel
theorem dX2_emptierRoom_62 : decode cX2_emptierRoom 62 = .ok (.iload_n 2, 1) := by decide +kernel
theorem dX2_emptierRoom_63 : decode cX2_emptierRoom 63 = .ok (.invokevirtual 121, 3) := by decide +kernel
theorem dX2_emptierRoom_66 : decode cX2_emptierRoom 66 = .ok (.if_icmp .ge 5, 3) := by decide +kernel
theorem dX2_emptierRoom_69 : decode cX2_emptierRoom 69 = .ok (.iload_n 3, 1) := by decide +kernel
theorem dX2_emptierRoom_70 : decode cX2_emptierRoom 70 = .ok (.istore_n 2, 1) := by decide +kernel
theorem dX2_emptierRoom_71 : decode cX2_emptierRoom 71 = .ok (.iinc 3 1, 3) := by decide +kernel
theorem dX2_emptierRoom_74 : decode cX2_emptierRoom 74 = .ok (.goto (-57), 3) := by decide +kernel
theorem dX2_emptierRoom_77 : decode cX2_emptierRoom 77 = .ok (.iload_n 2, 1) := by decide +kernel
theorem dX2_emptierRoom_78 : decode cX2_emptierRoom 78 = .ok (.ireturn, 1) := by decide +kernel
theorem dX2_nextRoomToScene_0 : decode cX2_nextRoomToScene 0 = .ok (.iload_n 2, 1) := by decide +kernel
theorem dX2_nextRoomToScene_1 : decode cX2_nextRoomToScene 1 = .ok (.istore_n 3, 1) := by decide +kernel
theorem dX2_nextRoomToScene_2 : decode cX2_nextRoomToScene 2 = .ok (.iconst (-1), 1) := by decide +kernel
theorem dX2_nextRoomToScene_3 : decode cX2_nextRoomToScene 3 = .ok (.istore 4, 2) := by decide +kernel
theorem dX2_nextRoomToScene_5 : decode cX2_nextRoomToScene 5 = .ok (.iconst 0, 1) := by decide +kernel
theorem dX2_nextRoomToScene_6 : decode cX2_nextRoomToScene 6 = .ok (.istore 5, 2) := by decide +kernel
theorem dX2_nextRoomToScene_8 : decode cX2_nextRoomToScene 8 = .ok (.iload 5, 2) := by decide +kernel
theorem dX2_nextRoomToScene_10 : decode cX2_nextRoomToScene 10 = .ok (.aload_n 0, 1) := by decide +kernel
theorem dX2_nextRoomToScene_11 : decode cX2_nextRoomToScene 11 = .ok (.getfield 24, 3) := by decide +kernel
theorem dX2_nextRoomToScene_14 : decode cX2_nextRoomToScene 14 = .ok (.getfield 149, 3) := by decide +kernel
theorem dX2_nextRoomToScene_17 : decode cX2_nextRoomToScene 17 = .ok (.if_icmp .ge 89, 3) := by decide +kernel
theorem dX2_nextRoomToScene_20 : decode cX2_nextRoomToScene 20 = .ok (.aload_n 0, 1) := by decide +kernel
theorem dX2_nextRoomToScene_21 : decode cX2_nextRoomToScene 21 = .ok (.getfield 24, 3) := by decide +kernel
theorem dX2_nextRoomToScene_24 : decode cX2_nextRoomToScene 24 = .ok (.getfield 130, 3) := by decide +kernel
theorem dX2_nextRoomToScene_27 : decode cX2_nextRoomToScene 27 = .ok (.iload 5, 2) := by decide +kernel
theorem dX2_nextRoomToScene_29 : decode cX2_nextRoomToScene 29 = .ok (.invokevirtual 121, 3) := by decide +kernel
theorem dX2_nextRoomToScene_32 : decode cX2_nextRoomToScene 32 = .ok (.istore 6, 2) := by decide +kernel
theorem dX2_nextRoomToScene_34 : decode cX2_nextRoomToScene 34 = .ok (.aload_n 0, 1) := by decide +kernel
theorem dX2_nextRoomToScene_35 : decode cX2_nextRoomToScene 35 = .ok (.getfield 20, 3) := by decide +kernel
theorem dX2_nextRoomToScene_38 : decode cX2_nextRoomToScene 38 = .ok (.getfield 258, 3) := by decide +kernel
theorem dX2_nextRoomToScene_41 : decode cX2_nextRoomToScene 41 = .ok (.iload_n 2, 1) := by decide +kernel
theorem dX2_nextRoomToScene_42 : decode cX2_nextRoomToScene 42 = .ok (.iload 6, 2) := by decide +kernel
theorem dX2_nextRoomToScene_44 : decode cX2_nextRoomToScene 44 = .ok (.invokevirtual 143, 3) := by decide +kernel
theorem dX2_nextRoomToScene_47 : decode cX2_nextRoomToScene 47 = .ok (.istore 7, 2) := by decide +kernel
theorem dX2_nextRoomToScene_49 : decode cX2_nextRoomToScene 49 = .ok (.aload_n 0, 1) := by decide +kernel
theorem dX2_nextRoomToScene_50 : decode cX2_nextRoomToScene 50 = .ok (.getfield 40, 3) := by decide +kernel
theorem dX2_nextRoomToScene_53 : decode cX2_nextRoomToScene 53 = .ok (.iload 5, 2) := by decide +kernel
theorem dX2_nextRoomToScene_55 : decode cX2_nextRoomToScene 55 = .ok (.invokevirtual 152, 3) := by decide +kernel
theorem dX2_nextRoomToScene_58 : decode cX2_nextRoomToScene 58 = .ok (.ifCond .eq 42, 3) := by decide +kernel
theorem dX2_nextRoomToScene_61 : decode cX2_nextRoomToScene 61 = .ok (.aload_n 0, 1) := by decide +kernel
theorem dX2_nextRoomToScene_62 : decode cX2_nextRoomToScene 62 = .ok (.getfield 54, 3) := by decide +kernel
theorem dX2_nextRoomToScene_65 : decode cX2_nextRoomToScene 65 = .ok (.iload_n 1, 1) := by decide +kernel
theorem dX2_nextRoomToScene_66 : decode cX2_nextRoomToScene 66 = .ok (.iload 5, 2) := by decide +kernel
theorem dX2_nextRoomToScene_68 : decode cX2_nextRoomToScene 68 = .ok (.invokevirtual 261, 3) := by decide +kernel
theorem dX2_nextRoomToScene_71 : decode cX2_nextRoomToScene 71 = .ok (.ifCond .ne 29, 3) := by decide +kernel
theorem dX2_nextRoomToScene_74 : decode cX2_nextRoomToScene 74 = .ok (.iload 7, 2) := by decide +kernel
theorem dX2_nextRoomToScene_76 : decode cX2_nextRoomToScene 76 = .ok (.iconst (-1), 1) := by decide +kernel
theorem dX2_nextRoomToScene_77 : decode cX2_nextRoomToScene 77 = .ok (.if_icmp .eq 23, 3) := by decide +kernel
theorem dX2_nextRoomToScene_80 : decode cX2_nextRoomToScene 80 = .ok (.iload 4, 2) := by decide +kernel
theorem dX2_nextRoomToScene_82 : decode cX2_nextRoomToScene 82 = .ok (.iconst (-1), 1) := by decide +kernel
theorem dX2_nextRoomToScene_83 : decode cX2_nextRoomToScene 83 = .ok (.if_icmp .eq 10, 3) := by decide +kernel
theorem dX2_nextRoomToScene_86 : decode cX2_nextRoomToScene 86 = .ok (.iload 7, 2) := by decide +kernel
theorem dX2_nextRoomToScene_88 : decode cX2_nextRoomToScene 88 = .ok (.iload 4, 2) := by decide +kernel
theorem dX2_nextRoomToScene_90 : decode cX2_nextRoomToScene 90 = .ok (.if_icmp .ge 10, 3) := by decide +kernel
theorem dX2_nextRoomToScene_93 : decode cX2_nextRoomToScene 93 = .ok (.iload 6, 2) := by decide +kernel
theorem dX2_nextRoomToScene_95 : decode cX2_nextRoomToScene 95 = .ok (.istore_n 3, 1) := by decide +kernel
theorem dX2_nextRoomToScene_96 : decode cX2_nextRoomToScene 96 = .ok (.iload 7, 2) := by decide +kernel
theorem dX2_nextRoomToScene_98 : decode cX2_nextRoomToScene 98 = .ok (.istore 4, 2) := by decide +kernel
theorem dX2_nextRoomToScene_100 : decode cX2_nextRoomToScene 100 = .ok (.iinc 5 1, 3) := by decide +kernel
theorem dX2_nextRoomToScene_103 : decode cX2_nextRoomToScene 103 = .ok (.goto (-95), 3) := by decide +kernel
theorem dX2_nextRoomToScene_106 : decode cX2_nextRoomToScene 106 = .ok (.aload_n 0, 1) := by decide +kernel
theorem dX2_nextRoomToScene_107 : decode cX2_nextRoomToScene 107 = .ok (.getfield 20, 3) := by decide +kernel
theorem dX2_nextRoomToScene_110 : decode cX2_nextRoomToScene 110 = .ok (.getfield 138, 3) := by decide +kernel
theorem dX2_nextRoomToScene_113 : decode cX2_nextRoomToScene 113 = .ok (.iload_n 2, 1) := by decide +kernel
theorem dX2_nextRoomToScene_114 : decode cX2_nextRoomToScene 114 = .ok (.iload_n 3, 1) := by decide +kernel
theorem dX2_nextRoomToScene_115 : decode cX2_nextRoomToScene 115 = .ok (.invokevirtual 143, 3) := by decide +kernel
theorem dX2_nextRoomToScene_118 : decode cX2_nextRoomToScene 118 = .ok (.ireturn, 1) := by decide +kernel
theorem dX2_showScenes_0 : decode cX2_showScenes 0 = .ok (.iconst 0, 1) := by decide +kernel
theorem dX2_showScenes_1 : decode cX2_showScenes 1 = .ok (.istore_n 1, 1) := by decide +kernel
theorem dX2_showScenes_2 : decode cX2_showScenes 2 = .ok (.iload_n 1, 1) := by decide +kernel
theorem dX2_showScenes_3 : decode cX2_showScenes 3 = .ok (.aload_n 0, 1) := by decide +kernel
theorem dX2_showScenes_4 : decode cX2_showScenes 4 = .ok (.getfield 24, 3) := by decide +kernel
theorem dX2_showScenes_7 : decode cX2_showScenes 7 = .ok (.getfield 149, 3) := by decide +kernel
theorem dX2_showScenes_10 : decode cX2_showScenes 10 = .ok (.if_icmp .ge 25, 3) := by decide +kernel
theorem dX2_showScenes_13 : decode cX2_showScenes 13 = .ok (.aload_n 0, 1) := by decide +kernel
theorem dX2_showScenes_14 : decode cX2_showScenes 14 = .ok (.getfield 40, 3) := by decide +kernel
theorem dX2_showScenes_17 : decode cX2_showScenes 17 = .ok (.iload_n 1, 1) := by decide +kernel
theorem dX2_showScenes_18 : decode cX2_showScenes 18 = .ok (.invokevirtual 152, 3) := by decide +kernel
theorem dX2_showScenes_21 : decode cX2_showScenes 21 = .ok (.ifCond .eq 8, 3) := by decide +kernel
theorem dX2_showScenes_24 : decode cX2_showScenes 24 = .ok (.aload_n 0, 1) := by decide +kernel
theorem dX2_showScenes_25 : decode cX2_showScenes 25 = .ok (.iload_n 1, 1) := by decide +kernel
theorem dX2_showScenes_26 : decode cX2_showScenes 26 = .ok (.invokevirtual 264, 3) := by decide +kernel
theorem dX2_showScenes_29 : decode cX2_showScenes 29 = .ok (.iinc 1 1, 3) := by decide +kernel
theorem dX2_showScenes_32 : decode cX2_showScenes 32 = .ok (.goto (-30), 3) := by decide +kernel
theorem dX2_showScenes_35 : decode cX2_showScenes 35 = .ok (.return_, 1) := by decide +kernel
theorem dX2_showScene_0 : decode cX2_showScene 0 = .ok (.aload_n 0, 1) := by decide +kernel
theorem dX2_showScene_1 : decode cX2_showScene 1 = .ok (.getfield 24, 3) := by decide +kernel
theorem dX2_showScene_4 : decode cX2_showScene 4 = .ok (.getfield 130, 3) := by decide +kernel
theorem dX2_showScene_7 : decode cX2_showScene 7 = .ok (.iload_n 1, 1) := by decide +kernel
theorem dX2_showScene_8 : decode cX2_showScene 8 = .ok (.invokevirtual 121, 3) := by decide +kernel
theorem dX2_showScene_11 : decode cX2_showScene 11 = .ok (.istore_n 2, 1) := by decide +kernel
theorem dX2_showScene_12 : decode cX2_showScene 12 = .ok (.aload_n 0, 1) := by decide +kernel
theorem dX2_showScene_13 : decode cX2_showScene 13 = .ok (.getfield 20, 3) := by decide +kernel
theorem dX2_showScene_16 : decode cX2_showScene 16 = .ok (.getfield 237, 3) := by decide +kernel
theorem dX2_showScene_19 : decode cX2_showScene 19 = .ok (.iload_n 2, 1) := by decide +kernel
theorem dX2_showScene_20 : decode cX2_showScene 20 = .ok (.invokevirtual 121, 3) := by decide +kernel
theorem dX2_showScene_23 : decode cX2_showScene 23 = .ok (.iconst 1, 1) := by decide +kernel
theorem dX2_showScene_24 : decode cX2_showScene 24 = .ok (.iadd, 1) := by decide +kernel
theorem dX2_showScene_25 : decode cX2_showScene 25 = .ok (.iconst 2, 1) := by decide +kernel
theorem dX2_showScene_26 : decode cX2_showScene 26 = .ok (.idiv, 1) := by decide +kernel
theorem dX2_showScene_27 : decode cX2_showScene 27 = .ok (.istore_n 3, 1) := by decide +kernel
theorem dX2_showScene_28 : decode cX2_showScene 28 = .ok (.aload_n 0, 1) := by decide +kernel
theorem dX2_showScene_29 : decode cX2_showScene 29 = .ok (.getfield 24, 3) := by decide +kernel
theorem dX2_showScene_32 : decode cX2_showScene 32 = .ok (.getfield 267, 3) := by decide +kernel
theorem dX2_showScene_35 : decode cX2_showScene 35 = .ok (.iload_n 1, 1) := by decide +kernel
theorem dX2_showScene_36 : decode cX2_showScene 36 = .ok (.invokevirtual 121, 3) := by decide +kernel
theorem dX2_showScene_39 : decode cX2_showScene 39 = .ok (.iconst 1, 1) := by decide +kernel
theorem dX2_showScene_40 : decode cX2_showScene 40 = .ok (.iadd, 1) := by decide +kernel
theorem dX2_showScene_41 : decode cX2_showScene 41 = .ok (.iconst 2, 1) := by decide +kernel
theorem dX2_showScene_42 : decode cX2_showScene 42 = .ok (.idiv, 1) := by decide +kernel
theorem dX2_showScene_43 : decode cX2_showScene 43 = .ok (.istore 4, 2) := by decide +kernel
theorem dX2_showScene_45 : decode cX2_showScene 45 = .ok (.iconst 0, 1) := by decide +kernel
theorem dX2_showScene_46 : decode cX2_showScene 46 = .ok (.istore 5, 2) := by decide +kernel
theorem dX2_showScene_48 : decode cX2_showScene 48 = .ok (.iload 5, 2) := by decide +kernel
theorem dX2_showScene_50 : decode cX2_showScene 50 = .ok (.aload_n 0, 1) := by decide +kernel
theorem dX2_showScene_51 : decode cX2_showScene 51 = .ok (.getfield 54, 3) := by decide +kernel
theorem dX2_showScene_54 : decode cX2_showScene 54 = .ok (.getfield 207, 3) := by decide +kernel
theorem dX2_showScene_57 : decode cX2_showScene 57 = .ok (.if_icmp .ge 44, 3) := by decide +kernel
theorem dX2_showScene_60 : decode cX2_showScene 60 = .ok (.iload_n 3, 1) := by decide +kernel
theorem dX2_showScene_61 : decode cX2_showScene 61 = .ok (.ifCond .le 40, 3) := by decide +kernel
theorem dX2_showScene_64 : decode cX2_showScene 64 = .ok (.aload_n 0, 1) := by decide +kernel
theorem dX2_showScene_65 : decode cX2_showScene 65 = .ok (.getfield 54, 3) := by decide +kernel
theorem dX2_showScene_68 : decode cX2_showScene 68 = .ok (.getfield 210, 3) := by decide +kernel
theorem dX2_showScene_71 : decode cX2_showScene 71 = .ok (.iload 5, 2) := by decide +kernel
theorem dX2_showScene_73 : decode cX2_showScene 73 = .ok (.invokevirtual 121, 3) := by decide +kernel
theorem dX2_showScene_76 : decode cX2_showScene 76 = .ok (.iload_n 2, 1) := by decide +kernel
theorem dX2_showScene_77 : decode cX2_showScene 77 = .ok (.if_icmp .ne 18, 3) := by decide +kernel
theorem dX2_showScene_80 : decode cX2_showScene 80 = .ok (.aload_n 0, 1) := by decide +kernel
theorem dX2_showScene_81 : decode cX2_showScene 81 = .ok (.getfield 54, 3) := by decide +kernel
theorem dX2_showScene_84 : decode cX2_showScene 84 = .ok (.iload 5, 2) := by decide +kernel
theorem dX2_showScene_86 : decode cX2_showScene 86 = .ok (.iload_n 1, 1) := by decide +kernel
theorem dX2_showScene_87 : decode cX2_showScene 87 = .ok (.iload 4, 2) := by decide +kernel
theorem dX2_showScene_89 : decode cX2_showScene 89 = .ok (.invokevirtual 270, 3) := by decide +kernel
theorem dX2_showScene_92 : decode cX2_showScene 92 = .ok (.iinc 3 (-1), 3) := by decide +kernel
theorem dX2_showScene_95 : decode cX2_showScene 95 = .ok (.iinc 5 1, 3) := by decide +kernel
theorem dX2_showScene_98 : decode cX2_showScene 98 = .ok (.goto (-50), 3) := by decide +kernel
theorem dX2_showScene_101 : decode cX2_showScene 101 = .ok (.return_, 1) := by decide +kernel
theorem dX2_roomOfProp_0 : decode cX2_roomOfProp 0 = .ok (.aload_n 0, 1) := by decide +kernel
theorem dX2_roomOfProp_1 : decode cX2_roomOfProp 1 = .ok (.getfield 47, 3) := by decide +kernel
theorem dX2_roomOfProp_4 : decode cX2_roomOfProp 4 = .ok (.getfield 199, 3) := by decide +kernel
theorem dX2_roomOfProp_7 : decode cX2_roomOfProp 7 = .ok (.iload_n 1, 1) := by decide +kernel
theorem dX2_roomOfProp_8 : decode cX2_roomOfProp 8 = .ok (.invokevirtual 121, 3) := by decide +kernel
theorem dX2_roomOfProp_11 : decode cX2_roomOfProp 11 = .ok (.iconst (-1), 1) := by decide +kernel
theorem dX2_roomOfProp_12 : decode cX2_roomOfProp 12 = .ok (.if_icmp .eq 25, 3) := by decide +kernel
theorem dX2_roomOfProp_15 : decode cX2_roomOfProp 15 = .ok (.aload_n 0, 1) := by decide +kernel
theorem dX2_roomOfProp_16 : decode cX2_roomOfProp 16 = .ok (.getfield 33, 3) := by decide +kernel
theorem dX2_roomOfProp_19 : decode cX2_roomOfProp 19 = .ok (.getfield 137, 3) := by decide +kernel
theorem dX2_roomOfProp_22 : decode cX2_roomOfProp 22 = .ok (.aload_n 0, 1) := by decide +kernel
theorem dX2_roomOfProp_23 : decode cX2_roomOfProp 23 = .ok (.getfield 47, 3) := by decide +kernel
theorem dX2_roomOfProp_26 : decode cX2_roomOfProp 26 = .ok (.getfield 199, 3) := by decide +kernel
theorem dX2_roomOfProp_29 : decode cX2_roomOfProp 29 = .ok (.iload_n 1, 1) := by decide +kernel
theorem dX2_roomOfProp_30 : decode cX2_roomOfProp 30 = .ok (.invokevirtual 121, 3) := by decide +kernel
theorem dX2_roomOfProp_33 : decode cX2_roomOfProp 33 = .ok (.invokevirtual 121, 3) := by decide +kernel
theorem dX2_roomOfProp_36 : decode cX2_roomOfProp 36 = .ok (.ireturn, 1) := by decide +kernel
theorem dX2_roomOfProp_37 : decode cX2_roomOfProp 37 = .ok (.aload_n 0, 1) := by decide +kernel
theorem dX2_roomOfProp_38 : decode cX2_roomOfProp 38 = .ok (.getfield 47, 3) := by decide +kernel
theorem dX2_roomOfProp_41 : decode cX2_roomOfProp 41 = .ok (.getfield 273, 3) := by decide +kernel
theorem dX2_roomOfProp_44 : decode cX2_roomOfProp 44 = .ok (.iload_n 1, 1) := by decide +kernel
theorem dX2_roomOfProp_45 : decode cX2_roomOfProp 45 = .ok (.invokevirtual 121, 3) := by decide +kernel
theorem dX2_roomOfProp_48 : decode cX2_roomOfProp 48 = .ok (.iconst (-1), 1) := by decide +kernel
theorem dX2_roomOfProp_49 : decode cX2_roomOfProp 49 = .ok (.if_icmp .eq 25, 3) := by decide +kernel
theorem dX2_roomOfProp_52 : decode cX2_roomOfProp 52 = .ok (.aload_n 0, 1) := by decide +kernel
theorem dX2_roomOfProp_53 : decode cX2_roomOfProp 53 = .ok (.getfield 54, 3) := by decide +kernel
theorem dX2_roomOfProp_56 : decode cX2_roomOfProp 56 = .ok (.getfield 210, 3) := by decide +kernel
theorem dX2_roomOfProp_59 : decode cX2_roomOfProp 59 = .ok (.aload_n 0, 1) := by decide +kernel
theorem dX2_roomOfProp_60 : decode cX2_roomOfProp 60 = .ok (.getfield 47, 3) := by decide +kernel
theorem dX2_roomOfProp_63 : decode cX2_roomOfProp 63 = .ok (.getfield 273, 3) := by decide +kernel
theorem dX2_roomOfProp_66 : decode cX2_roomOfProp 66 = .ok (.iload_n 1, 1) := by decide +kernel
theorem dX2_roomOfProp_67 : decode cX2_roomOfProp 67 = .ok (.invokevirtual 121, 3) := by decide +kernel
theorem dX2_roomOfProp_70 : decode cX2_roomOfProp 70 = .ok (.invokevirtual 121, 3) := by decide +kernel
theorem dX2_roomOfProp_73 : decode cX2_roomOfProp 73 = .ok (.ireturn, 1) := by decide +kernel
theorem dX2_roomOfProp_74 : decode cX2_roomOfProp 74 = .ok (.aload_n 0, 1) := by decide +kernel
theorem dX2_roomOfProp_75 : decode cX2_roomOfProp 75 = .ok (.getfield 47, 3) := by decide +kernel
theorem dX2_roomOfProp_78 : decode cX2_roomOfProp 78 = .ok (.getfield 198, 3) := by decide +kernel
theorem dX2_roomOfProp_81 : decode cX2_roomOfProp 81 = .ok (.iload_n 1, 1) := by decide +kernel
theorem dX2_roomOfProp_82 : decode cX2_roomOfProp 82 = .ok (.invokevirtual 121, 3) := by decide +kernel
theorem dX2_roomOfProp_85 : decode cX2_roomOfProp 85 = .ok (.ireturn, 1) := by decide +kernel
theorem dX2_canTake_0 : decode cX2_canTake 0 = .ok (.aload_n 0, 1) := by decide +kernel
theorem dX2_canTake_1 : decode cX2_canTake 1 = .ok (.getfield 54, 3) := by decide +kernel
theorem dX2_canTake_4 : decode cX2_canTake 4 = .ok (.getfield 210, 3) := by decide +kernel
theorem dX2_canTake_7 : decode cX2_canTake 7 = .ok (.iload_n 1, 1) := by decide +kernel
theorem dX2_canTake_8 : decode cX2_canTake 8 = .ok (.invokevirtual 121, 3) := by decide +kernel
theorem dX2_canTake_11 : decode cX2_canTake 11 = .ok (.istore_n 3, 1) := by decide +kernel
theorem dX2_canTake_12 : decode cX2_canTake 12 = .ok (.aload_n 0, 1) := by decide +kernel
theorem dX2_canTake_13 : decode cX2_canTake 13 = .ok (.getfield 47, 3) := by decide +kernel
theorem dX2_canTake_16 : decode cX2_canTake 16 = .ok (.getfield 198, 3) := by decide +kernel
theorem dX2_canTake_19 : decode cX2_canTake 19 = .ok (.iload_n 2, 1) := by decide +kernel
theorem dX2_canTake_20 : decode cX2_canTake 20 = .ok (.invokevirtual 121, 3) := by decide +kernel
theorem dX2_canTake_23 : decode cX2_canTake 23 = .ok (.iload_n 3, 1) := by decide +kernel
theorem dX2_canTake_24 : decode cX2_canTake 24 = .ok (.if_icmp .ne 28, 3) := by decide +kernel
theorem dX2_canTake_27 : decode cX2_canTake 27 = .ok (.aload_n 0, 1) := by decide +kernel
theorem dX2_canTake_28 : decode cX2_canTake 28 = .ok (.getfield 47, 3) := by decide +kernel
theorem dX2_canTake_31 : decode cX2_canTake 31 = .ok (.iload_n 1, 1) := by decide +kernel
theorem dX2_canTake_32 : decode cX2_canTake 32 = .ok (.invokevirtual 276, 3) := by decide +kernel
theorem dX2_canTake_35 : decode cX2_canTake 35 = .ok (.iconst (-1), 1) := by decide +kernel
theorem dX2_canTake_36 : decode cX2_canTake 36 = .ok (.if_icmp .ne 16, 3) := by decide +kernel
theorem dX2_canTake_39 : decode cX2_canTake 39 = .ok (.aload_n 0, 1) := by decide +kernel
theorem dX2_canTake_40 : decode cX2_canTake 40 = .ok (.iload_n 2, 1) := by decide +kernel
theorem dX2_canTake_41 : decode cX2_canTake 41 = .ok (.iload_n 3, 1) := by decide +kernel
theorem dX2_canTake_42 : decode cX2_canTake 42 = .ok (.invokevirtual 279, 3) := by decide +kernel
theorem dX2_canTake_45 : decode cX2_canTake 45 = .ok (.ifCond .ne 7, 3) := by decide +kernel
theorem dX2_canTake_48 : decode cX2_canTake 48 = .ok (.iconst 1, 1) := by decide +kernel
theorem dX2_canTake_49 : decode cX2_canTake 49 = .ok (.goto 4, 3) := by decide +kernel
theorem dX2_canTake_52 : decode cX2_canTake 52 = .ok (.iconst 0, 1) := by decide +kernel
theorem dX2_canTake_53 : decode cX2_canTake 53 = .ok (.ireturn, 1) := by decide +kernel
theorem dX2_isInUse_0 : decode cX2_isInUse 0 = .ok (.iconst 0, 1) := by decide +kernel
theorem dX2_isInUse_1 : decode cX2_isInUse 1 = .ok (.istore_n 3, 1) := by decide +kernel
theorem dX2_isInUse_2 : decode cX2_isInUse 2 = .ok (.iload_n 3, 1) := by decide +kernel
theorem dX2_isInUse_3 : decode cX2_isInUse 3 = .ok (.aload_n 0, 1) := by decide +kernel
theorem dX2_isInUse_4 : decode cX2_isInUse 4 = .ok (.getfield 24, 3) := by decide +kernel
theorem dX2_isInUse_7 : decode cX2_isInUse 7 = .ok (.getfield 149, 3) := by decide +kernel
theorem dX2_isInUse_10 : decode cX2_isInUse 10 = .ok (.if_icmp .ge 52, 3) := by decide +kernel
theorem dX2_isInUse_13 : decode cX2_isInUse 13 = .ok (.aload_n 0, 1) := by decide +kernel
theorem dX2_isInUse_14 : decode cX2_isInUse 14 = .ok (.getfield 40, 3) := by decide +kernel
theorem dX2_isInUse_17 : decode cX2_isInUse 17 = .ok (.iload_n 3, 1) := by decide +kernel
theorem dX2_isInUse_18 : decode cX2_isInUse 18 = .ok (.invokevirtual 152, 3) := by decide +kernel
theorem dX2_isInUse_21 : decode cX2_isInUse 21 = .ok (.ifCond .eq 35, 3) := by decide +kernel
theorem dX2_isInUse_24 : decode cX2_isInUse 24 = .ok (.aload_n 0, 1) := by decide +kernel
theorem dX2_isInUse_25 : decode cX2_isInUse 25 = .ok (.getfield 24, 3) := by decide +kernel
theorem dX2_isInUse_28 : decode cX2_isInUse 28 = .ok (.getfield 130, 3) := by decide +kernel
theorem dX2_isInUse_31 : decode cX2_isInUse 31 = .ok (.iload_n 3, 1) := by decide +kernel
theorem dX2_isInUse_32 : decode cX2_isInUse 32 = .ok (.invokevirtual 121, 3) := by decide +kernel
theorem dX2_isInUse_35 : decode cX2_isInUse 35 = .ok (.iload_n 2, 1) := by decide +kernel
theorem dX2_isInUse_36 : decode cX2_isInUse 36 = .ok (.if_icmp .ne 20, 3) := by decide +kernel
theorem dX2_isInUse_39 : decode cX2_isInUse 39 = .ok (.aload_n 0, 1) := by decide +kernel
theorem dX2_isInUse_40 : decode cX2_isInUse 40 = .ok (.getfield 24, 3) := by decide +kernel
theorem dX2_isInUse_43 : decode cX2_isInUse 43 = .ok (.getfield 177, 3) := by decide +kernel
theorem dX2_isInUse_46 : decode cX2_isInUse 46 = .ok (.iload_n 3, 1) := by decide +kernel
theorem dX2_isInUse_47 : decode cX2_isInUse 47 = .ok (.invokevirtual 121, 3) := by decide +kernel
theorem dX2_isInUse_50 : decode cX2_isInUse 50 = .ok (.iload_n 1, 1) := by decide +kernel
theorem dX2_isInUse_51 : decode cX2_isInUse 51 = .ok (.if_icmp .ne 5, 3) := by decide +kernel
theorem dX2_isInUse_54 : decode cX2_isInUse 54 = .ok (.iconst 1, 1) := by decide +kernel
theorem dX2_isInUse_55 : decode cX2_isInUse 55 = .ok (.ireturn, 1) := by decide +kernel
theorem dX2_isInUse_56 : decode cX2_isInUse 56 = .ok (.iinc 3 1, 3) := by decide +kernel
theorem dX2_isInUse_59 : decode cX2_isInUse 59 = .ok (.goto (-57), 3) := by decide +kernel
theorem dX2_isInUse_62 : decode cX2_isInUse 62 = .ok (.iconst 0, 1) := by decide +kernel
theorem dX2_isInUse_63 : decode cX2_isInUse 63 = .ok (.ireturn, 1) := by decide +kernel
theorem dX2_canDouble_0 : decode cX2_canDouble 0 = .ok (.aload_n 0, 1) := by decide +kernel
theorem dX2_canDouble_1 : decode cX2_canDouble 1 = .ok (.getfield 40, 3) := by decide +kernel
theorem dX2_canDouble_4 : decode cX2_canDouble 4 = .ok (.invokevirtual 105, 3) := by decide +kernel
theorem dX2_canDouble_7 : decode cX2_canDouble 7 = .ok (.iconst 1, 1) := by decide +kernel
theorem dX2_canDouble_8 : decode cX2_canDouble 8 = .ok (.iload_n 1, 1) := by decide +kernel
theorem dX2_canDouble_9 : decode cX2_canDouble 9 = .ok (.ishl, 1) := by decide +kernel
theorem dX2_canDouble_10 : decode cX2_canDouble 10 = .ok (.iconst 1, 1) := by decide +kernel
theorem dX2_canDouble_11 : decode cX2_canDouble 11 = .ok (.iload_n 2, 1) := by decide +kernel
theorem dX2_canDouble_12 : decode cX2_canDouble 12 = .ok (.ishl, 1) := by decide +kernel
theorem dX2_canDouble_13 : decode cX2_canDouble 13 = .ok (.ior, 1) := by decide +kernel
theorem dX2_canDouble_14 : decode cX2_canDouble 14 = .ok (.iand, 1) := by decide +kernel
theorem dX2_canDouble_15 : decode cX2_canDouble 15 = .ok (.ifCond .ne 7, 3) := by decide +kernel
theorem dX2_canDouble_18 : decode cX2_canDouble 18 = .ok (.iconst 1, 1) := by decide +kernel
theorem dX2_canDouble_19 : decode cX2_canDouble 19 = .ok (.goto 4, 3) := by decide +kernel
theorem dX2_canDouble_22 : decode cX2_canDouble 22 = .ok (.iconst 0, 1) := by decide +kernel
theorem dX2_canDouble_23 : decode cX2_canDouble 23 = .ok (.istore_n 3, 1) := by decide +kernel
theorem dX2_canDouble_24 : decode cX2_canDouble 24 = .ok (.iload_n 3, 1) := by decide +kernel
theorem dX2_canDouble_25 : decode cX2_canDouble 25 = .ok (.ifCond .eq 41, 3) := by decide +kernel
theorem dX2_canDouble_28 : decode cX2_canDouble 28 = .ok (.aload_n 0, 1) := by decide +kernel
theorem dX2_canDouble_29 : decode cX2_canDouble 29 = .ok (.getfield 33, 3) := by decide +kernel
theorem dX2_canDouble_32 : decode cX2_canDouble 32 = .ok (.iload_n 1, 1) := by decide +kernel
theorem dX2_canDouble_33 : decode cX2_canDouble 33 = .ok (.invokevirtual 282, 3) := by decide +kernel
theorem dX2_canDouble_36 : decode cX2_canDouble 36 = .ok (.ifCond .eq 30, 3) := by decide +kernel
theorem dX2_canDouble_39 : decode cX2_canDouble 39 = .ok (.aload_n 0, 1) := by decide +kernel
theorem dX2_canDouble_40 : decode cX2_canDouble 40 = .ok (.getfield 33, 3) := by decide +kernel
theorem dX2_canDouble_43 : decode cX2_canDouble 43 = .ok (.iload_n 2, 1) := by decide +kernel
theorem dX2_canDouble_44 : decode cX2_canDouble 44 = .ok (.invokevirtual 282, 3) := by decide +kernel
theorem dX2_canDouble_47 : decode cX2_canDouble 47 = .ok (.ifCond .eq 19, 3) := by decide +kernel
theorem dX2_canDouble_50 : decode cX2_canDouble 50 = .ok (.aload_n 0, 1) := by decide +kernel
theorem dX2_canDouble_51 : decode cX2_canDouble 51 = .ok (.getfield 24, 3) := by decide +kernel
theorem dX2_canDouble_54 : decode cX2_canDouble 54 = .ok (.iload_n 1, 1) := by decide +kernel
theorem dX2_canDouble_55 : decode cX2_canDouble 55 = .ok (.iload_n 2, 1) := by decide +kernel
theorem dX2_canDouble_56 : decode cX2_canDouble 56 = .ok (.invokevirtual 285, 3) := by decide +kernel
theorem dX2_canDouble_59 : decode cX2_canDouble 59 = .ok (.ifCond .ne 7, 3) := by decide +kernel
theorem dX2_canDouble_62 : decode cX2_canDouble 62 = .ok (.iconst 1, 1) := by decide +kernel
theorem dX2_canDouble_63 : decode cX2_canDouble 63 = .ok (.goto 4, 3) := by decide +kernel
theorem dX2_canDouble_66 : decode cX2_canDouble 66 = .ok (.iconst 0, 1) := by decide +kernel
theorem dX2_canDouble_67 : decode cX2_canDouble 67 = .ok (.ireturn, 1) := by decide +kernel
theorem dX3_init_0 : decode cX3_init 0 = .ok (.aload_n 0, 1) := by decide +kernel
theorem dX3_init_1 : decode cX3_init 1 = .ok (.invokespecial 3, 3) := by decide +kernel
theorem dX3_init_4 : decode cX3_init 4 = .ok (.aload_n 0, 1) := by decide +kernel
theorem dX3_init_5 : decode cX3_init 5 = .ok (.iload_n 2, 1) := by decide +kernel
theorem dX3_init_6 : decode cX3_init 6 = .ok (.putfield 9, 3) := by decide +kernel
theorem dX3_init_9 : decode cX3_init 9 = .ok (.aload_n 0, 1) := by decide +kernel
theorem dX3_init_10 : decode cX3_init 10 = .ok (.new 15, 3) := by decide +kernel
theorem dX3_init_13 : decode cX3_init 13 = .ok (.dup, 1) := by decide +kernel
theorem dX3_init_14 : decode cX3_init 14 = .ok (.iload_n 1, 1) := by decide +kernel
theorem dX3_init_15 : decode cX3_init 15 = .ok (.iload_n 2, 1) := by decide +kernel
theorem dX3_init_16 : decode cX3_init 16 = .ok (.imul, 1) := by decide +kernel
theorem dX3_init_17 : decode cX3_init 17 = .ok (.invokespecial 17, 3) := by decide +kernel
theorem dX3_init_20 : decode cX3_init 20 = .ok (.putfield 20, 3) := by decide +kernel
theorem dX3_init_23 : decode cX3_init 23 = .ok (.return_, 1) := by decide +kernel
theorem dX3_get_0 : decode cX3_get 0 = .ok (.iload_n 2, 1) := by decide +kernel
theorem dX3_get_1 : decode cX3_get 1 = .ok (.ifCond .lt 29, 3) := by decide +kernel
theorem dX3_get_4 : decode cX3_get 4 = .ok (.iload_n 2, 1) := by decide +kernel
theorem dX3_get_5 : decode cX3_get 5 = .ok (.aload_n 0, 1) := by decide +kernel
theorem dX3_get_6 : decode cX3_get 6 = .ok (.getfield 9, 3) := by decide +kernel
theorem dX3_get_9 : decode cX3_get 9 = .ok (.if_icmp .ge 21, 3) := by decide +kernel
theorem dX3_get_12 : decode cX3_get 12 = .ok (.aload_n 0, 1) := by decide +kernel
theorem dX3_get_13 : decode cX3_get 13 = .ok (.getfield 20, 3) := by decide +kernel
theorem dX3_get_16 : decode cX3_get 16 = .ok (.iload_n 1, 1) := by decide +kernel
theorem dX3_get_17 : decode cX3_get 17 = .ok (.aload_n 0, 1) := by decide +kernel
theorem dX3_get_18 : decode cX3_get 18 = .ok (.getfield 9, 3) := by decide +kernel
theorem dX3_get_21 : decode cX3_get 21 = .ok (.imul, 1) := by decide +kernel
theorem dX3_get_22 : decode cX3_get 22 = .ok (.iload_n 2, 1) := by decide +kernel
theorem dX3_get_23 : decode cX3_get 23 = .ok (.iadd, 1) := by decide +kernel
theorem dX3_get_24 : decode cX3_get 24 = .ok (.invokevirtual 24, 3) := by decide +kernel
theorem dX3_get_27 : decode cX3_get 27 = .ok (.goto 4, 3) := by decide +kernel
theorem dX3_get_30 : decode cX3_get 30 = .ok (.iconst (-1), 1) := by decide +kernel
theorem dX3_get_31 : decode cX3_get 31 = .ok (.ireturn, 1) := by decide +kernel
theorem dX3_set_0 : decode cX3_set 0 = .ok (.iload_n 2, 1) := by decide +kernel
theorem dX3_set_1 : decode cX3_set 1 = .ok (.ifCond .lt 27, 3) := by decide +kernel
theorem dX3_set_4 : decode cX3_set 4 = .ok (.iload_n 2, 1) := by decide +kernel
theorem dX3_set_5 : decode cX3_set 5 = .ok (.aload_n 0, 1) := by decide +kernel
theorem dX3_set_6 : decode cX3_set 6 = .ok (.getfield 9, 3) := by decide +kernel
theorem dX3_set_9 : decode cX3_set 9 = .ok (.if_icmp .ge 19, 3) := by decide +kernel
theorem dX3_set_12 : decode cX3_set 12 = .ok (.aload_n 0, 1) := by decide +kernel
theorem dX3_set_13 : decode cX3_set 13 = .ok (.getfield 20, 3) := by decide +kernel
theorem dX3_set_16 : decode cX3_set 16 = .ok (.iload_n 1, 1) := by decide +kernel
theorem dX3_set_17 : decode cX3_set 17 = .ok (.aload_n 0, 1) := by decide +kernel
theorem dX3_set_18 : decode cX3_set 18 = .ok (.getfield 9, 3) := by decide +kernel
theorem dX3_set_21 : decode cX3_set 21 = .ok (.imul, 1) := by decide +kernel
theorem dX3_set_22 : decode cX3_set 22 = .ok (.iload_n 2, 1) := by decide +kernel
theorem dX3_set_23 : decode cX3_set 23 = .ok (.iadd, 1) := by decide +kernel
theorem dX3_set_24 : decode cX3_set 24 = .ok (.iload_n 3, 1) := by decide +kernel
theorem dX3_set_25 : decode cX3_set 25 = .ok (.invokevirtual 28, 3) := by decide +kernel
theorem dX3_set_28 : decode cX3_set 28 = .ok (.return_, 1) := by decide +kernel
theorem dX3_fill_0 : decode cX3_fill 0 = .ok (.aload_n 0, 1) := by decide +kernel
theorem dX3_fill_1 : decode cX3_fill 1 = .ok (.getfield 20, 3) := by decide +kernel
theorem dX3_fill_4 : decode cX3_fill 4 = .ok (.iload_n 1, 1) := by decide +kernel
theorem dX3_fill_5 : decode cX3_fill 5 = .ok (.invokevirtual 32, 3) := by decide +kernel
theorem dX3_fill_8 : decode cX3_fill 8 = .ok (.return_, 1) := by decide +kernel
theorem dX3_copyFrom_0 : decode cX3_copyFrom 0 = .ok (.aload_n 0, 1) := by decide +kernel
theorem dX3_copyFrom_1 : decode cX3_copyFrom 1 = .ok (.getfield 20, 3) := by decide +kernel
theorem dX3_copyFrom_4 : decode cX3_copyFrom 4 = .ok (.aload_n 1, 1) := by decide +kernel
theorem dX3_copyFrom_5 : decode cX3_copyFrom 5 = .ok (.getfield 20, 3) := by decide +kernel
theorem dX3_copyFrom_8 : decode cX3_copyFrom 8 = .ok (.invokevirtual 35, 3) := by decide +kernel
theorem dX3_copyFrom_11 : decode cX3_copyFrom 11 = .ok (.return_, 1) := by decide +kernel
theorem dX4_init_0 : decode cX4_init 0 = .ok (.aload_n 0, 1) := by decide +kernel
theorem dX4_init_1 : decode cX4_init 1 = .ok (.invokespecial 3, 3) := by decide +kernel
theorem dX4_init_4 : decode cX4_init 4 = .ok (.aload_n 0, 1) := by decide +kernel
theorem dX4_init_5 : decode cX4_init 5 = .ok (.new 9, 3) := by decide +kernel
theorem dX4_init_8 : decode cX4_init 8 = .ok (.dup, 1) := by decide +kernel
theorem dX4_init_9 : decode cX4_init 9 = .ok (.bipush 8, 2) := by decide +kernel
theorem dX4_init_11 : decode cX4_init 11 = .ok (.invokespecial 11, 3) := by decide +kernel
theorem dX4_init_14 : decode cX4_init 14 = .ok (.putfield 14, 3) := by decide +kernel
theorem dX4_init_17 : decode cX4_init 17 = .ok (.aload_n 0, 1) := by decide +kernel
theorem dX4_init_18 : decode cX4_init 18 = .ok (.new 9, 3) := by decide +kernel
theorem dX4_init_21 : decode cX4_init 21 = .ok (.dup, 1) := by decide +kernel
theorem dX4_init_22 : decode cX4_init 22 = .ok (.bipush 14, 2) := by decide +kernel
theorem dX4_init_24 : decode cX4_init 24 = .ok (.invokespecial 11, 3) := by decide +kernel
theorem dX4_init_27 : decode cX4_init 27 = .ok (.putfield 20, 3) := by decide +kernel
theorem dX4_init_30 : decode cX4_init 30 = .ok (.aload_n 0, 1) := by decide +kernel
theorem dX4_init_31 : decode cX4_init 31 = .ok (.new 23, 3) := by decide +kernel
theorem dX4_init_34 : decode cX4_init 34 = .ok (.dup, 1) := by decide +kernel
theorem dX4_init_35 : decode cX4_init 35 = .ok (.bipush 8, 2) := by decide +kernel
theorem dX4_init_37 : decode cX4_init 37 = .ok (.bipush 8, 2) := by decide +kernel
theorem dX4_init_39 : decode cX4_init 39 = .ok (.invokespecial 25, 3) := by decide +kernel
theorem dX4_init_42 : decode cX4_init 42 = .ok (.putfield 28, 3) := by decide +kernel
theorem dX4_init_45 : decode cX4_init 45 = .ok (.aload_n 0, 1) := by decide +kernel
theorem dX4_init_46 : decode cX4_init 46 = .ok (.new 23, 3) := by decide +kernel
theorem dX4_init_49 : decode cX4_init 49 = .ok (.dup, 1) := by decide +kernel
theorem dX4_init_50 : decode cX4_init 50 = .ok (.bipush 8, 2) := by decide +kernel
theorem dX4_init_52 : decode cX4_init 52 = .ok (.bipush 8, 2) := by decide +kernel
theorem dX4_init_54 : decode cX4_init 54 = .ok (.invokespecial 25, 3) := by decide +kernel
theorem dX4_init_57 : decode cX4_init 57 = .ok (.putfield 32, 3) := by decide +kernel
theorem dX4_init_60 : decode cX4_init 60 = .ok (.aload_n 0, 1) := by decide +kernel
theorem dX4_init_61 : decode cX4_init 61 = .ok (.new 23, 3) := by decide +kernel
theorem dX4_init_64 : decode cX4_init 64 = .ok (.dup, 1) := by decide +kernel
theorem dX4_init_65 : decode cX4_init 65 = .ok (.bipush 8, 2) := by decide +kernel
theorem dX4_init_67 : decode cX4_init 67 = .ok (.bipush 8, 2) := by decide +kernel
theorem dX4_init_69 : decode cX4_init 69 = .ok (.invokespecial 25, 3) := by decide +kernel
theorem dX4_init_72 : decode cX4_init 72 = .ok (.putfield 35, 3) := by decide +kernel
theorem dX4_init_75 : decode cX4_init 75 = .ok (.aload_n 0, 1) := by decide +kernel
theorem dX4_init_76 : decode cX4_init 76 = .ok (.getfield 28, 3) := by decide +kernel
theorem dX4_init_79 : decode cX4_init 79 = .ok (.iconst (-1), 1) := by decide +kernel
theorem dX4_init_80 : decode cX4_init 80 = .ok (.invokevirtual 38, 3) := by decide +kernel
theorem dX4_init_83 : decode cX4_init 83 = .ok (.aload_n 0, 1) := by decide +kernel
theorem dX4_init_84 : decode cX4_init 84 = .ok (.getfield 32, 3) := by decide +kernel
theorem dX4_init_87 : decode cX4_init 87 = .ok (.iconst (-1), 1) := by decide +kernel
theorem dX4_init_88 : decode cX4_init 88 = .ok (.invokevirtual 38, 3) := by decide +kernel
theorem dX4_init_91 : decode cX4_init 91 = .ok (.aload_n 0, 1) := by decide +kernel
theorem dX4_init_92 : decode cX4_init 92 = .ok (.getfield 35, 3) := by decide +kernel
theorem dX4_init_95 : decode cX4_init 95 = .ok (.iconst (-1), 1) := by decide +kernel
theorem dX4_init_96 : decode cX4_init 96 = .ok (.invokevirtual 38, 3) := by decide +kernel
theorem dX4_init_99 : decode cX4_init 99 = .ok (.return_, 1) := by decide +kernel
theorem dX4_addRoom_0 : decode cX4_addRoom 0 = .ok (.aload_n 0, 1) := by decide +kernel
theorem dX4_addRoom_1 : decode cX4_addRoom 1 = .ok (.getfield 41, 3) := by decide +kernel
theorem dX4_addRoom_4 : decode cX4_addRoom 4 = .ok (.istore_n 2, 1) := by decide +kernel
theorem dX4_addRoom_5 : decode cX4_addRoom 5 = .ok (.aload_n 0, 1) := by decide +kernel
theorem dX4_addRoom_6 : decode cX4_addRoom 6 = .ok (.dup, 1) := by decide +kernel
theorem dX4_addRoom_7 : decode cX4_addRoom 7 = .ok (.getfield 41, 3) := by decide +kernel
theorem dX4_addRoom_10 : decode cX4_addRoom 10 = .ok (.iconst 1, 1) := by decide +kernel
theorem dX4_addRoom_11 : decode cX4_addRoom 11 = .ok (.iadd, 1) := by decide +kernel
theorem dX4_addRoom_12 : decode cX4_addRoom 12 = .ok (.putfield 41, 3) := by decide +kernel
theorem dX4_addRoom_15 : decode cX4_addRoom 15 = .ok (.aload_n 0, 1) := by decide +kernel
theorem dX4_addRoom_16 : decode cX4_addRoom 16 = .ok (.getfield 14, 3) := by decide +kernel
theorem dX4_addRoom_19 : decode cX4_addRoom 19 = .ok (.iload_n 2, 1) := by decide +kernel
theorem dX4_addRoom_20 : decode cX4_addRoom 20 = .ok (.iload_n 1, 1) := by decide +kernel
theorem dX4_addRoom_21 : decode cX4_addRoom 21 = .ok (.invokevirtual 45, 3) := by decide +kernel
theorem dX4_addRoom_24 : decode cX4_addRoom 24 = .ok (.aload_n 0, 1) := by decide +kernel
theorem dX4_addRoom_25 : decode cX4_addRoom 25 = .ok (.getfield 32, 3) := by decide +kernel
theorem dX4_addRoom_28 : decode cX4_addRoom 28 = .ok (.iload_n 2, 1) := by decide +kernel
theorem dX4_addRoom_29 : decode cX4_addRoom 29 = .ok (.iload_n 2, 1) := by decide +kernel
theorem dX4_addRoom_30 : decode cX4_addRoom 30 = .ok (.iconst 0, 1) := by decide +kernel
theorem dX4_addRoom_31 : decode cX4_addRoom 31 = .ok (.invokevirtual 48, 3) := by decide +kernel
theorem dX4_addRoom_34 : decode cX4_addRoom 34 = .ok (.aload_n 0, 1) := by decide +kernel
theorem dX4_addRoom_35 : decode cX4_addRoom 35 = .ok (.getfield 35, 3) := by decide +kernel
theorem dX4_addRoom_38 : decode cX4_addRoom 38 = .ok (.iload_n 2, 1) := by decide +kernel
theorem dX4_addRoom_39 : decode cX4_addRoom 39 = .ok (.iload_n 2, 1) := by decide +kernel
theorem dX4_addRoom_40 : decode cX4_addRoom 40 = .ok (.iload_n 2, 1) := by decide +kernel
theorem dX4_addRoom_41 : decode cX4_addRoom 41 = .ok (.invokevirtual 48, 3) := by decide +kernel
theorem dX4_addRoom_44 : decode cX4_addRoom 44 = .ok (.iload_n 2, 1) := by decide +kernel
theorem dX4_addRoom_45 : decode cX4_addRoom 45 = .ok (.ireturn, 1) := by decide +kernel
theorem dX4_addDoor_0 : decode cX4_addDoor 0 = .ok (.aload_n 0, 1) := by decide +kernel
theorem dX4_addDoor_1 : decode cX4_addDoor 1 = .ok (.getfield 51, 3) := by decide +kernel
theorem dX4_addDoor_4 : decode cX4_addDoor 4 = .ok (.istore 4, 2) := by decide +kernel
theorem dX4_addDoor_6 : decode cX4_addDoor 6 = .ok (.aload_n 0, 1) := by decide +kernel
theorem dX4_addDoor_7 : decode cX4_addDoor 7 = .ok (.dup, 1) := by decide +kernel
theorem dX4_addDoor_8 : decode cX4_addDoor 8 = .ok (.getfield 51, 3) := by decide +kernel
theorem dX4_addDoor_11 : decode cX4_addDoor 11 = .ok (.iconst 1, 1) := by decide +kernel
theorem dX4_addDoor_12 : decode cX4_addDoor 12 = .ok (.iadd, 1) := by decide +kernel
theorem dX4_addDoor_13 : decode cX4_addDoor 13 = .ok (.putfield 51, 3) := by decide +kernel
theorem dX4_addDoor_16 : decode cX4_addDoor 16 = .ok (.aload_n 0, 1) := by decide +kernel
theorem dX4_addDoor_17 : decode cX4_addDoor 17 = .ok (.getfield 20, 3) := by decide +kernel
theorem dX4_addDoor_20 : decode cX4_addDoor 20 = .ok (.iload 4, 2) := by decide +kernel
theorem dX4_addDoor_22 : decode cX4_addDoor 22 = .ok (.iload_n 3, 1) := by decide +kernel
theorem dX4_addDoor_23 : decode cX4_addDoor 23 = .ok (.invokevirtual 45, 3) := by decide +kernel
theorem dX4_addDoor_26 : decode cX4_addDoor 26 = .ok (.aload_n 0, 1) := by decide +kernel
theorem dX4_addDoor_27 : decode cX4_addDoor 27 = .ok (.getfield 28, 3) := by decide +kernel
theorem dX4_addDoor_30 : decode cX4_addDoor 30 = .ok (.iload_n 1, 1) := by decide +kernel
theorem dX4_addDoor_31 : decode cX4_addDoor 31 = .ok (.iload_n 2, 1) := by decide +kernel
theorem dX4_addDoor_32 : decode cX4_addDoor 32 = .ok (.iload 4, 2) := by decide +kernel
theorem dX4_addDoor_34 : decode cX4_addDoor 34 = .ok (.invokevirtual 48, 3) := by decide +kernel
theorem dX4_addDoor_37 : decode cX4_addDoor 37 = .ok (.aload_n 0, 1) := by decide +kernel
theorem dX4_addDoor_38 : decode cX4_addDoor 38 = .ok (.getfield 28, 3) := by decide +kernel
theorem dX4_addDoor_41 : decode cX4_addDoor 41 = .ok (.iload_n 2, 1) := by decide +kernel
theorem dX4_addDoor_42 : decode cX4_addDoor 42 = .ok (.iload_n 1, 1) := by decide +kernel
theorem dX4_addDoor_43 : decode cX4_addDoor 43 = .ok (.iload 4, 2) := by decide +kernel
theorem dX4_addDoor_45 : decode cX4_addDoor 45 = .ok (.invokevirtual 48, 3) := by decide +kernel
theorem dX4_addDoor_48 : decode cX4_addDoor 48 = .ok (.aload_n 0, 1) := by decide +kernel
theorem dX4_addDoor_49 : decode cX4_addDoor 49 = .ok (.iload_n 1, 1) := by decide +kernel
theorem dX4_addDoor_50 : decode cX4_addDoor 50 = .ok (.iload_n 2, 1) := by decide +kernel
theorem dX4_addDoor_51 : decode cX4_addDoor 51 = .ok (.invokevirtual 54, 3) := by decide +kernel
theorem dX4_addDoor_54 : decode cX4_addDoor 54 = .ok (.iconst 0, 1) := by decide +kernel
theorem dX4_addDoor_55 : decode cX4_addDoor 55 = .ok (.istore 5, 2) := by decide +kernel
theorem dX4_addDoor_57 : decode cX4_addDoor 57 = .ok (.iload 5, 2) := by decide +kernel
theorem dX4_addDoor_59 : decode cX4_addDoor 59 = .ok (.aload_n 0, 1) := by decide +kernel
theorem dX4_addDoor_60 : decode cX4_addDoor 60 = .ok (.getfield 41, 3) := by decide +kernel
theorem dX4_addDoor_63 : decode cX4_addDoor 63 = .ok (.if_icmp .ge 46, 3) := by decide +kernel
theorem dX4_addDoor_66 : decode cX4_addDoor 66 = .ok (.iconst 0, 1) := by decide +kernel
theorem dX4_addDoor_67 : decode cX4_addDoor 67 = .ok (.istore 6, 2) := by decide +kernel
theorem dX4_addDoor_69 : decode cX4_addDoor 69 = .ok (.iload 6, 2) := by decide +kernel
theorem dX4_addDoor_71 : decode cX4_addDoor 71 = .ok (.aload_n 0, 1) := by decide +kernel
theorem dX4_addDoor_72 : decode cX4_addDoor 72 = .ok (.getfield 41, 3) := by decide +kernel
theorem dX4_addDoor_75 : decode cX4_addDoor 75 = .ok (.if_icmp .ge 28, 3) := by decide +kernel
theorem dX4_addDoor_78 : decode cX4_addDoor 78 = .ok (.aload_n 0, 1) := by decide +kernel
theorem dX4_addDoor_79 : decode cX4_addDoor 79 = .ok (.getfield 35, 3) := by decide +kernel
theorem dX4_addDoor_82 : decode cX4_addDoor 82 = .ok (.iload 5, 2) := by decide +kernel
theorem dX4_addDoor_84 : decode cX4_addDoor 84 = .ok (.iload 6, 2) := by decide +kernel
theorem dX4_addDoor_86 : decode cX4_addDoor 86 = .ok (.aload_n 0, 1) := by decide +kernel
theorem dX4_addDoor_87 : decode cX4_addDoor 87 = .ok (.iload 5, 2) := by decide +kernel
theorem dX4_addDoor_89 : decode cX4_addDoor 89 = .ok (.iload 6, 2) := by decide +kernel
theorem dX4_addDoor_91 : decode cX4_addDoor 91 = .ok (.invokevirtual 57, 3) := by decide +kernel
theorem dX4_addDoor_94 : decode cX4_addDoor 94 = .ok (.invokevirtual 48, 3) := by decide +kernel
theorem dX4_addDoor_97 : decode cX4_addDoor 97 = .ok (.iinc 6 1, 3) := by decide +kernel
theorem dX4_addDoor_100 : decode cX4_addDoor 100 = .ok (.goto (-31), 3) := by decide +kernel
theorem dX4_addDoor_103 : decode cX4_addDoor 103 = .ok (.iinc 5 1, 3) := by decide +kernel
theorem dX4_addDoor_106 : decode cX4_addDoor 106 = .ok (.goto (-49), 3) := by decide +kernel
theorem dX4_addDoor_109 : decode cX4_addDoor 109 = .ok (.aload_n 0, 1) := by decide +kernel
theorem dX4_addDoor_110 : decode cX4_addDoor 110 = .ok (.getfield 51, 3) := by decide +kernel
theorem dX4_addDoor_113 : decode cX4_addDoor 113 = .ok (.ireturn, 1) := by decide +kernel
theorem dX4_shortenWays_0 : decode cX4_shortenWays 0 = .ok (.iconst 0, 1) := by decide +kernel
theorem dX4_shortenWays_1 : decode cX4_shortenWays 1 = .ok (.istore_n 3, 1) := by decide +kernel
theorem dX4_shortenWays_2 : decode cX4_shortenWays 2 = .ok (.iload_n 3, 1) := by decide +kernel
theorem dX4_shortenWays_3 : decode cX4_shortenWays 3 = .ok (.aload_n 0, 1) := by decide +kernel
theorem dX4_shortenWays_4 : decode cX4_shortenWays 4 = .ok (.getfield 41, 3) := by decide +kernel
theorem dX4_shortenWays_7 : decode cX4_shortenWays 7 = .ok (.if_icmp .ge 79, 3) := by decide +kernel
theorem dX4_shortenWays_10 : decode cX4_shortenWays 10 = .ok (.iconst 0, 1) := by decide +kernel
theorem dX4_shortenWays_11 : decode cX4_shortenWays 11 = .ok (.istore 4, 2) := by decide +kernel
theorem dX4_shortenWays_13 : decode cX4_shortenWays 13 = .ok (.iload 4, 2) := by decide +kernel
theorem dX4_shortenWays_15 : decode cX4_shortenWays 15 = .ok (.aload_n 0, 1) := by decide +kernel
theorem dX4_shortenWays_16 : decode cX4_shortenWays 16 = .ok (.getfield 41, 3) := by decide +kernel
theorem dX4_shortenWays_19 : decode cX4_shortenWays 19 = .ok (.if_icmp .ge 61, 3) := by decide +kernel
theorem dX4_shortenWays_22 : decode cX4_shortenWays 22 = .ok (.aload_n 0, 1) := by decide +kernel
theorem dX4_shortenWays_23 : decode cX4_shortenWays 23 = .ok (.iload_n 3, 1) := by decide +kernel
theorem dX4_shortenWays_24 : decode cX4_shortenWays 24 = .ok (.iload 4, 2) := by decide +kernel
theorem dX4_shortenWays_26 : decode cX4_shortenWays 26 = .ok (.aload_n 0, 1) := by decide +kernel
theorem dX4_shortenWays_27 : decode cX4_shortenWays 27 = .ok (.getfield 32, 3) := by decide +kernel
theorem dX4_shortenWays_30 : decode cX4_shortenWays 30 = .ok (.iload_n 3, 1) := by decide +kernel
theorem dX4_shortenWays_31 : decode cX4_shortenWays 31 = .ok (.iload_n 1, 1) := by decide +kernel
theorem dX4_shortenWays_32 : decode cX4_shortenWays 32 = .ok (.invokevirtual 61, 3) := by decide +kernel
theorem dX4_shortenWays_35 : decode cX4_shortenWays 35 = .ok (.aload_n 0, 1) := by decide +kernel
theorem dX4_shortenWays_36 : decode cX4_shortenWays 36 = .ok (.getfield 32, 3) := by decide +kernel
theorem dX4_shortenWays_39 : decode cX4_shortenWays 39 = .ok (.iload_n 2, 1) := by decide +kernel
theorem dX4_shortenWays_40 : decode cX4_shortenWays 40 = .ok (.iload 4, 2) := by decide +kernel
theorem dX4_shortenWays_42 : decode cX4_shortenWays 42 = .ok (.invokevirtual 61, 3) := by decide +kernel
theorem dX4_shortenWays_45 : decode cX4_shortenWays 45 = .ok (.invokevirtual 64, 3) := by decide +kernel
theorem dX4_shortenWays_48 : decode cX4_shortenWays 48 = .ok (.aload_n 0, 1) := by decide +kernel
theorem dX4_shortenWays_49 : decode cX4_shortenWays 49 = .ok (.iload_n 3, 1) := by decide +kernel
theorem dX4_shortenWays_50 : decode cX4_shortenWays 50 = .ok (.iload 4, 2) := by decide +kernel
theorem dX4_shortenWays_52 : decode cX4_shortenWays 52 = .ok (.aload_n 0, 1) := by decide +kernel
theorem dX4_shortenWays_53 : decode cX4_shortenWays 53 = .ok (.getfield 32, 3) := by decide +kernel
theorem dX4_shortenWays_56 : decode cX4_shortenWays 56 = .ok (.iload_n 3, 1) := by decide +kernel
theorem dX4_shortenWays_57 : decode cX4_shortenWays 57 = .ok (.iload_n 2, 1) := by decide +kernel
theorem dX4_shortenWays_58 : decode cX4_shortenWays 58 = .ok (.invokevirtual 61, 3) := by decide +kernel
theorem dX4_shortenWays_61 : decode cX4_shortenWays 61 = .ok (.aload_n 0, 1) := by decide +kernel
theorem dX4_shortenWays_62 : decode cX4_shortenWays 62 = .ok (.getfield 32, 3) := by decide +kernel
theorem dX4_shortenWays_65 : decode cX4_shortenWays 65 = .ok (.iload_n 1, 1) := by decide +kernel
theorem dX4_shortenWays_66 : decode cX4_shortenWays 66 = .ok (.iload 4, 2) := by decide +kernel
theorem dX4_shortenWays_68 : decode cX4_shortenWays 68 = .ok (.invokevirtual 61, 3) := by decide +kernel
theorem dX4_shortenWays_71 : decode cX4_shortenWays 71 = .ok (.invokevirtual 64, 3) := by decide +kernel
theorem dX4_shortenWays_74 : decode cX4_shortenWays 74 = .ok (.iinc 4 1, 3) := by decide +kernel
theorem dX4_shortenWays_77 : decode cX4_shortenWays 77 = .ok (.goto (-64), 3) := by decide +kernel
theorem dX4_shortenWays_80 : decode cX4_shortenWays 80 = .ok (.iinc 3 1, 3) := by decide +kernel
theorem dX4_shortenWays_83 : decode cX4_shortenWays 83 = .ok (.goto (-81), 3) := by decide +kernel
theorem dX4_shortenWays_86 : decode cX4_shortenWays 86 = .ok (.return_, 1) := by decide +kernel
theorem dX4_shortenWay_0 : decode cX4_shortenWay 0 = .ok (.iload_n 3, 1) := by decide +kernel
theorem dX4_shortenWay_1 : decode cX4_shortenWay 1 = .ok (.iconst (-1), 1) := by decide +kernel
theorem dX4_shortenWay_2 : decode cX4_shortenWay 2 = .ok (.if_icmp .eq 52, 3) := by decide +kernel
theorem dX4_shortenWay_5 : decode cX4_shortenWay 5 = .ok (.iload 4, 2) := by decide +kernel
theorem dX4_shortenWay_7 : decode cX4_shortenWay 7 = .ok (.iconst (-1), 1) := by decide +kernel
theorem dX4_shortenWay_8 : decode cX4_shortenWay 8 = .ok (.if_icmp .eq 46, 3) := by decide +kernel
theorem dX4_shortenWay_11 : decode cX4_shortenWay 11 = .ok (.iload_n 3, 1) := by decide +kernel
theorem dX4_shortenWay_12 : decode cX4_shortenWay 12 = .ok (.iconst 1, 1) := by decide +kernel
theorem dX4_shortenWay_13 : decode cX4_shortenWay 13 = .ok (.iadd, 1) := by decide +kernel
theorem dX4_shortenWay_14 : decode cX4_shortenWay 14 = .ok (.iload 4, 2) := by decide +kernel
theorem dX4_shortenWay_16 : decode cX4_shortenWay 16 = .ok (.iadd, 1) := by decide +kernel
theorem dX4_shortenWay_17 : decode cX4_shortenWay 17 = .ok (.istore 5, 2) := by decide +kernel
theorem dX4_shortenWay_19 : decode cX4_shortenWay 19 = .ok (.aload_n 0, 1) := by decide +kernel
theorem dX4_shortenWay_20 : decode cX4_shortenWay 20 = .ok (.getfield 32, 3) := by decide +kernel
theorem dX4_shortenWay_23 : decode cX4_shortenWay 23 = .ok (.iload_n 1, 1) := by decide +kernel
theorem dX4_shortenWay_24 : decode cX4_shortenWay 24 = .ok (.iload_n 2, 1) := by decide +kernel
theorem dX4_shortenWay_25 : decode cX4_shortenWay 25 = .ok (.invokevirtual 61, 3) := by decide +kernel
theorem dX4_shortenWay_28 : decode cX4_shortenWay 28 = .ok (.istore 6, 2) := by decide +kernel
theorem dX4_shortenWay_30 : decode cX4_shortenWay 30 = .ok (.iload 6, 2) := by decide +kernel
theorem dX4_shortenWay_32 : decode cX4_shortenWay 32 = .ok (.iconst (-1), 1) := by decide +kernel
theorem dX4_shortenWay_33 : decode cX4_shortenWay 33 = .ok (.if_icmp .eq 10, 3) := by decide +kernel
theorem dX4_shortenWay_36 : decode cX4_shortenWay 36 = .ok (.iload 5, 2) := by decide +kernel
theorem dX4_shortenWay_38 : decode cX4_shortenWay 38 = .ok (.iload 6, 2) := by decide +kernel
theorem dX4_shortenWay_40 : decode cX4_shortenWay 40 = .ok (.if_icmp .ge 14, 3) := by decide +kernel
theorem dX4_shortenWay_43 : decode cX4_shortenWay 43 = .ok (.aload_n 0, 1) := by decide +kernel
theorem dX4_shortenWay_44 : decode cX4_shortenWay 44 = .ok (.getfield 32, 3) := by decide +kernel
theorem dX4_shortenWay_47 : decode cX4_shortenWay 47 = .ok (.iload_n 1, 1) := by decide +kernel
theorem dX4_shortenWay_48 : decode cX4_shortenWay 48 = .ok (.iload_n 2, 1) := by decide +kernel
theorem dX4_shortenWay_49 : decode cX4_shortenWay 49 = .ok (.iload 5, 2) := by decide +kernel
theorem dX4_shortenWay_51 : decode cX4_shortenWay 51 = .ok (.invokevirtual 48, 3) := by decide +kernel
theorem dX4_shortenWay_54 : decode cX4_shortenWay 54 = .ok (.return_, 1) := by decide +kernel
theorem dX4_findNext_0 : decode cX4_findNext 0 = .ok (.aload_n 0, 1) := by decide +kernel
theorem dX4_findNext_1 : decode cX4_findNext 1 = .ok (.getfield 32, 3) := by decide +kernel
theorem dX4_findNext_4 : decode cX4_findNext 4 = .ok (.iload_n 1, 1) := by decide +kernel
theorem dX4_findNext_5 : decode cX4_findNext 5 = .ok (.iload_n 2, 1) := by decide +kernel
theorem dX4_findNext_6 : decode cX4_findNext 6 = .ok (.invokevirtual 61, 3) := by decide +kernel
theorem dX4_findNext_9 : decode cX4_findNext 9 = .ok (.istore_n 3, 1) := by decide +kernel
theorem dX4_findNext_10 : decode cX4_findNext 10 = .ok (.iload_n 3, 1) := by decide +kernel
theorem dX4_findNext_11 : decode cX4_findNext 11 = .ok (.ifCond .gt 13, 3) := by decide +kernel
theorem dX4_findNext_14 : decode cX4_findNext 14 = .ok (.iload_n 3, 1) := by decide +kernel
theorem dX4_findNext_15 : decode cX4_findNext 15 = .ok (.ifCond .ne 7, 3) := by decide +kernel
theorem dX4_findNext_18 : decode cX4_findNext 18 = .ok (.iload_n 1, 1) := by decide +kernel
theorem dX4_findNext_19 : decode cX4_findNext 19 = .ok (.goto 4, 3) := by decide +kernel
theorem dX4_findNext_22 : decode cX4_findNext 22 = .ok (.iconst (-1), 1) := by decide +kernel
theorem dX4_findNext_23 : decode cX4_findNext 23 = .ok (.ireturn, 1) := by decide +kernel
theorem dX4_findNext_24 : decode cX4_findNext 24 = .ok (.iconst 0, 1) := by decide +kernel
theorem dX4_findNext_25 : decode cX4_findNext 25 = .ok (.istore 4, 2) := by decide +kernel
theorem dX4_findNext_27 : decode cX4_findNext 27 = .ok (.iload 4, 2) := by decide +kernel
theorem dX4_findNext_29 : decode cX4_findNext 29 = .ok (.aload_n 0, 1) := by decide +kernel
theorem dX4_findNext_30 : decode cX4_findNext 30 = .ok (.getfield 41, 3) := by decide +kernel
theorem dX4_findNext_33 : decode cX4_findNext 33 = .ok (.if_icmp .ge 42, 3) := by decide +kernel
theorem dX4_findNext_36 : decode cX4_findNext 36 = .ok (.aload_n 0, 1) := by decide +kernel
theorem dX4_findNext_37 : decode cX4_findNext 37 = .ok (.getfield 28, 3) := by decide +kernel
theorem dX4_findNext_40 : decode cX4_findNext 40 = .ok (.iload_n 1, 1) := by decide +kernel
theorem dX4_findNext_41 : decode cX4_findNext 41 = .ok (.iload 4, 2) := by decide +kernel
theorem dX4_findNext_43 : decode cX4_findNext 43 = .ok (.invokevirtual 61, 3) := by decide +kernel
theorem dX4_findNext_46 : decode cX4_findNext 46 = .ok (.iconst (-1), 1) := by decide +kernel
theorem dX4_findNext_47 : decode cX4_findNext 47 = .ok (.if_icmp .eq 22, 3) := by decide +kernel
theorem dX4_findNext_50 : decode cX4_findNext 50 = .ok (.aload_n 0, 1) := by decide +kernel
theorem dX4_findNext_51 : decode cX4_findNext 51 = .ok (.getfield 32, 3) := by decide +kernel
theorem dX4_findNext_54 : decode cX4_findNext 54 = .ok (.iload 4, 2) := by decide +kernel
theorem dX4_findNext_56 : decode cX4_findNext 56 = .ok (.iload_n 2, 1) := by decide +kernel
theorem dX4_findNext_57 : decode cX4_findNext 57 = .ok (.invokevirtual 61, 3) := by decide +kernel
theorem dX4_findNext_60 : decode cX4_findNext 60 = .ok (.iload_n 3, 1) := by decide +kernel
theorem dX4_findNext_61 : decode cX4_findNext 61 = .ok (.iconst 1, 1) := by decide +kernel
theorem dX4_findNext_62 : decode cX4_findNext 62 = .ok (.isub, 1) := by decide +kernel
theorem dX4_findNext_63 : decode cX4_findNext 63 = .ok (.if_icmp .ne 6, 3) := by decide +kernel
theorem dX4_findNext_66 : decode cX4_findNext 66 = .ok (.iload 4, 2) := by decide +kernel
theorem dX4_findNext_68 : decode cX4_findNext 68 = .ok (.ireturn, 1) := by decide +kernel
theorem dX4_findNext_69 : decode cX4_findNext 69 = .ok (.iinc 4 1, 3) := by decide +kernel
theorem dX4_findNext_72 : decode cX4_findNext 72 = .ok (.goto (-45), 3) := by decide +kernel
theorem dX4_findNext_75 : decode cX4_findNext 75 = .ok (.iconst (-1), 1) := by decide +kernel
theorem dX4_findNext_76 : decode cX4_findNext 76 = .ok (.ireturn, 1) := by decide +kernel
theorem dX5_init_0 : decode cX5_init 0 = .ok (.aload_n 0, 1) := by decide +kernel
theorem dX5_init_1 : decode cX5_init 1 = .ok (.invokespecial 3, 3) := by decide +kernel
theorem dX5_init_4 : decode cX5_init 4 = .ok (.aload_n 0, 1) := by decide +kernel
theorem dX5_init_5 : decode cX5_init 5 = .ok (.new 9, 3) := by decide +kernel
theorem dX5_init_8 : decode cX5_init 8 = .ok (.dup, 1) := by decide +kernel
theorem dX5_init_9 : decode cX5_init 9 = .ok (.iconst 4, 1) := by decide +kernel
theorem dX5_init_10 : decode cX5_init 10 = .ok (.invokespecial 11, 3) := by decide +kernel
theorem dX5_init_13 : decode cX5_init 13 = .ok (.putfield 14, 3) := by decide +kernel
theorem dX5_init_16 : decode cX5_init 16 = .ok (.aload_n 0, 1) := by decide +kernel
theorem dX5_init_17 : decode cX5_init 17 = .ok (.new 9, 3) := by decide +kernel
theorem dX5_init_20 : decode cX5_init 20 = .ok (.dup, 1) := by decide +kernel
theorem dX5_init_21 : decode cX5_init 21 = .ok (.iconst 4, 1) := by decide +kernel
theorem dX5_init_22 : decode cX5_init 22 = .ok (.invokespecial 11, 3) := by decide +kernel
theorem dX5_init_25 : decode cX5_init 25 = .ok (.putfield 20, 3) := by decide +kernel
theorem dX5_init_28 : decode cX5_init 28 = .ok (.aload_n 0, 1) := by decide +kernel
theorem dX5_init_29 : decode cX5_init 29 = .ok (.new 9, 3) := by decide +kernel
theorem dX5_init_32 : decode cX5_init 32 = .ok (.dup, 1) := by decide +kernel
theorem dX5_init_33 : decode cX5_init 33 = .ok (.iconst 4, 1) := by decide +kernel
theorem dX5_init_34 : decode cX5_init 34 = .ok (.invokespecial 11, 3) := by decide +kernel
theorem dX5_init_37 : decode cX5_init 37 = .ok (.putfield 23, 3) := by decide +kernel
theorem dX5_init_40 : decode cX5_init 40 = .ok (.aload_n 0, 1) := by decide +kernel
theorem dX5_init_41 : decode cX5_init 41 = .ok (.new 9, 3) := by decide +kernel
theorem dX5_init_44 : decode cX5_init 44 = .ok (.dup, 1) := by decide +kernel
theorem dX5_init_45 : decode cX5_init 45 = .ok (.iconst 4, 1) := by decide +kernel
theorem dX5_init_46 : decode cX5_init 46 = .ok (.invokespecial 11, 3) := by decide +kernel
theorem dX5_init_49 : decode cX5_init 49 = .ok (.putfield 26, 3) := by decide +kernel
theorem dX5_init_52 : decode cX5_init 52 = .ok (.aload_n 0, 1) := by decide +kernel
theorem dX5_init_53 : decode cX5_init 53 = .ok (.aload_n 1, 1) := by decide +kernel
theorem dX5_init_54 : decode cX5_init 54 = .ok (.putfield 29, 3) := by decide +kernel
theorem dX5_init_57 : decode cX5_init 57 = .ok (.return_, 1) := by decide +kernel
theorem dX5_copyFrom_0 : decode cX5_copyFrom 0 = .ok (.aload_n 0, 1) := by decide +kernel
theorem dX5_copyFrom_1 : decode cX5_copyFrom 1 = .ok (.getfield 14, 3) := by decide +kernel
theorem dX5_copyFrom_4 : decode cX5_copyFrom 4 = .ok (.aload_n 1, 1) := by decide +kernel
theorem dX5_copyFrom_5 : decode cX5_copyFrom 5 = .ok (.getfield 14, 3) := by decide +kernel
theorem dX5_copyFrom_8 : decode cX5_copyFrom 8 = .ok (.invokevirtual 33, 3) := by decide +kernel
theorem dX5_copyFrom_11 : decode cX5_copyFrom 11 = .ok (.aload_n 0, 1) := by decide +kernel
theorem dX5_copyFrom_12 : decode cX5_copyFrom 12 = .ok (.getfield 20, 3) := by decide +kernel
theorem dX5_copyFrom_15 : decode cX5_copyFrom 15 = .ok (.aload_n 1, 1) := by decide +kernel
theorem dX5_copyFrom_16 : decode cX5_copyFrom 16 = .ok (.getfield 20, 3) := by decide +kernel
theorem dX5_copyFrom_19 : decode cX5_copyFrom 19 = .ok (.invokevirtual 33, 3) := by decide +kernel
theorem dX5_copyFrom_22 : decode cX5_copyFrom 22 = .ok (.aload_n 0, 1) := by decide +kernel
theorem dX5_copyFrom_23 : decode cX5_copyFrom 23 = .ok (.getfield 23, 3) := by decide +kernel
theorem dX5_copyFrom_26 : decode cX5_copyFrom 26 = .ok (.aload_n 1, 1) := by decide +kernel
theorem dX5_copyFrom_27 : decode cX5_copyFrom 27 = .ok (.getfield 23, 3) := by decide +kernel
theorem dX5_copyFrom_30 : decode cX5_copyFrom 30 = .ok (.invokevirtual 33, 3) := by decide +kernel
theorem dX5_copyFrom_33 : decode cX5_copyFrom 33 = .ok (.aload_n 0, 1) := by decide +kernel
theorem dX5_copyFrom_34 : decode cX5_copyFrom 34 = .ok (.getfield 26, 3) := by decide +kernel
theorem dX5_copyFrom_37 : decode cX5_copyFrom 37 = .ok (.aload_n 1, 1) := by decide +kernel
theorem dX5_copyFrom_38 : decode cX5_copyFrom 38 = .ok (.getfield 26, 3) := by decide +kernel
theorem dX5_copyFrom_41 : decode cX5_copyFrom 41 = .ok (.invokevirtual 33, 3) := by decide +kernel
theorem dX5_copyFrom_44 : decode cX5_copyFrom 44 = .ok (.return_, 1) := by decide +kernel
theorem dX5_lay_0 : decode cX5_lay 0 = .ok (.aload_n 0, 1) := by decide +kernel
theorem dX5_lay_1 : decode cX5_lay 1 = .ok (.getfield 14, 3) := by decide +kernel
theorem dX5_lay_4 : decode cX5_lay 4 = .ok (.iload_n 1, 1) := by decide +kernel
theorem dX5_lay_5 : decode cX5_lay 5 = .ok (.iload_n 2, 1) := by decide +kernel
theorem dX5_lay_6 : decode cX5_lay 6 = .ok (.invokevirtual 37, 3) := by decide +kernel
theorem dX5_lay_9 : decode cX5_lay 9 = .ok (.aload_n 0, 1) := by decide +kernel
theorem dX5_lay_10 : decode cX5_lay 10 = .ok (.getfield 20, 3) := by decide +kernel
theorem dX5_lay_13 : decode cX5_lay 13 = .ok (.iload_n 1, 1) := by decide +kernel
theorem dX5_lay_14 : decode cX5_lay 14 = .ok (.iconst (-1), 1) := by decide +kernel
theorem dX5_lay_15 : decode cX5_lay 15 = .ok (.invokevirtual 37, 3) := by decide +kernel
theorem dX5_lay_18 : decode cX5_lay 18 = .ok (.aload_n 0, 1) := by decide +kernel
theorem dX5_lay_19 : decode cX5_lay 19 = .ok (.getfield 23, 3) := by decide +kernel
theorem dX5_lay_22 : decode cX5_lay 22 = .ok (.iload_n 1, 1) := by decide +kernel
theorem dX5_lay_23 : decode cX5_lay 23 = .ok (.iconst (-1), 1) := by decide +kernel
theorem dX5_lay_24 : decode cX5_lay 24 = .ok (.invokevirtual 37, 3) := by decide +kernel
theorem dX5_lay_27 : decode cX5_lay 27 = .ok (.return_, 1) := by decide +kernel
theorem dX5_giveToTrack_0 : decode cX5_giveToTrack 0 = .ok (.aload_n 0, 1) := by decide +kernel
theorem dX5_giveToTrack_1 : decode cX5_giveToTrack 1 = .ok (.iload_n 1, 1) := by decide +kernel
theorem dX5_giveToTrack_2 : decode cX5_giveToTrack 2 = .ok (.iconst (-1), 1) := by decide +kernel
theorem dX5_giveToTrack_3 : decode cX5_giveToTrack 3 = .ok (.invokevirtual 41, 3) := by decide +kernel
theorem dX5_giveToTrack_6 : decode cX5_giveToTrack 6 = .ok (.aload_n 0, 1) := by decide +kernel
theorem dX5_giveToTrack_7 : decode cX5_giveToTrack 7 = .ok (.getfield 20, 3) := by decide +kernel
theorem dX5_giveToTrack_10 : decode cX5_giveToTrack 10 = .ok (.iload_n 1, 1) := by decide +kernel
theorem dX5_giveToTrack_11 : decode cX5_giveToTrack 11 = .ok (.iload_n 2, 1) := by decide +kernel
theorem dX5_giveToTrack_12 : decode cX5_giveToTrack 12 = .ok (.invokevirtual 37, 3) := by decide +kernel
theorem dX5_giveToTrack_15 : decode cX5_giveToTrack 15 = .ok (.return_, 1) := by decide +kernel
theorem dX5_giveToGuest_0 : decode cX5_giveToGuest 0 = .ok (.aload_n 0, 1) := by decide +kernel
theorem dX5_giveToGuest_1 : decode cX5_giveToGuest 1 = .ok (.iload_n 1, 1) := by decide +kernel
theorem dX5_giveToGuest_2 : decode cX5_giveToGuest 2 = .ok (.iconst (-1), 1) := by decide +kernel
theorem dX5_giveToGuest_3 : decode cX5_giveToGuest 3 = .ok (.invokevirtual 41, 3) := by decide +kernel
theorem dX5_giveToGuest_6 : decode cX5_giveToGuest 6 = .ok (.aload_n 0, 1) := by decide +kernel
theorem dX5_giveToGuest_7 : decode cX5_giveToGuest 7 = .ok (.getfield 23, 3) := by decide +kernel
theorem dX5_giveToGuest_10 : decode cX5_giveToGuest 10 = .ok (.iload_n 1, 1) := by decide +kernel
theorem dX5_giveToGuest_11 : decode cX5_giveToGuest 11 = .ok (.iload_n 2, 1) := by decide +kernel
theorem dX5_giveToGuest_12 : decode cX5_giveToGuest 12 = .ok (.invokevirtual 37, 3) := by decide +kernel
theorem dX5_giveToGuest_15 : decode cX5_giveToGuest 15 = .ok (.aload_n 0, 1) := by decide +kernel
theorem dX5_giveToGuest_16 : decode cX5_giveToGuest 16 = .ok (.getfield 26, 3) := by decide +kernel
theorem dX5_giveToGuest_19 : decode cX5_giveToGuest 19 = .ok (.iload_n 1, 1) := by decide +kernel
theorem dX5_giveToGuest_20 : decode cX5_giveToGuest 20 = .ok (.aload_n 0, 1) := by decide +kernel
theorem dX5_giveToGuest_21 : decode cX5_giveToGuest 21 = .ok (.getfield 26, 3) := by decide +kernel
theorem dX5_giveToGuest_24 : decode cX5_giveToGuest 24 = .ok (.iload_n 1, 1) := by decide +kernel
theorem dX5_giveToGuest_25 : decode cX5_giveToGuest 25 = .ok (.invokevirtual 44, 3) := by decide +kernel
theorem dX5_giveToGuest_28 : decode cX5_giveToGuest 28 = .ok (.iconst 1, 1) := by decide +kernel
theorem dX5_giveToGuest_29 : decode cX5_giveToGuest 29 = .ok (.iload_n 2, 1) := by decide +kernel
theorem dX5_giveToGuest_30 : decode cX5_giveToGuest 30 = .ok (.ishl, 1) := by decide +kernel
theorem dX5_giveToGuest_31 : decode cX5_giveToGuest 31 = .ok (.ior, 1) := by decide +kernel
theorem dX5_giveToGuest_32 : decode cX5_giveToGuest 32 = .ok (.invokevirtual 37, 3) := by decide +kernel
theorem dX5_giveToGuest_35 : decode cX5_giveToGuest 35 = .ok (.return_, 1) := by decide +kernel
theorem dX5_goHome_0 : decode cX5_goHome 0 = .ok (.iconst 0, 1) := by decide +kernel
theorem dX5_goHome_1 : decode cX5_goHome 1 = .ok (.istore_n 1, 1) := by decide +kernel
theorem dX5_goHome_2 : decode cX5_goHome 2 = .ok (.iload_n 1, 1) := by decide +kernel
theorem dX5_goHome_3 : decode cX5_goHome 3 = .ok (.aload_n 0, 1) := by decide +kernel
theorem dX5_goHome_4 : decode cX5_goHome 4 = .ok (.getfield 29, 3) := by decide +kernel
theorem dX5_goHome_7 : decode cX5_goHome 7 = .ok (.getfield 48, 3) := by decide +kernel
theorem dX5_goHome_10 : decode cX5_goHome 10 = .ok (.if_icmp .ge 37, 3) := by decide +kernel
theorem dX5_goHome_13 : decode cX5_goHome 13 = .ok (.aload_n 0, 1) := by decide +kernel
theorem dX5_goHome_14 : decode cX5_goHome 14 = .ok (.getfield 23, 3) := by decide +kernel
theorem dX5_goHome_17 : decode cX5_goHome 17 = .ok (.iload_n 1, 1) := by decide +kernel
theorem dX5_goHome_18 : decode cX5_goHome 18 = .ok (.invokevirtual 44, 3) := by decide +kernel
theorem dX5_goHome_21 : decode cX5_goHome 21 = .ok (.iconst (-1), 1) := by decide +kernel
theorem dX5_goHome_22 : decode cX5_goHome 22 = .ok (.if_icmp .ne 19, 3) := by decide +kernel
theorem dX5_goHome_25 : decode cX5_goHome 25 = .ok (.aload_n 0, 1) := by decide +kernel
theorem dX5_goHome_26 : decode cX5_goHome 26 = .ok (.iload_n 1, 1) := by decide +kernel
theorem dX5_goHome_27 : decode cX5_goHome 27 = .ok (.aload_n 0, 1) := by decide +kernel
theorem dX5_goHome_28 : decode cX5_goHome 28 = .ok (.getfield 29, 3) := by decide +kernel
theorem dX5_goHome_31 : decode cX5_goHome 31 = .ok (.getfield 54, 3) := by decide +kernel
theorem dX5_goHome_34 : decode cX5_goHome 34 = .ok (.iload_n 1, 1) := by decide +kernel
theorem dX5_goHome_35 : decode cX5_goHome 35 = .ok (.invokevirtual 44, 3) := by decide +kernel
theorem dX5_goHome_38 : decode cX5_goHome 38 = .ok (.invokevirtual 41, 3) := by decide +kernel
theorem dX5_goHome_41 : decode cX5_goHome 41 = .ok (.iinc 1 1, 3) := by decide +kernel
theorem dX5_goHome_44 : decode cX5_goHome 44 = .ok (.goto (-42), 3) := by decide +kernel
theorem dX5_goHome_47 : decode cX5_goHome 47 = .ok (.return_, 1) := by decide +kernel
theorem dX5_heldByGuest_0 : decode cX5_heldByGuest 0 = .ok (.iconst 0, 1) := by decide +kernel
theorem dX5_heldByGuest_1 : decode cX5_heldByGuest 1 = .ok (.istore_n 2, 1) := by decide +kernel
theorem dX5_heldByGuest_2 : decode cX5_heldByGuest 2 = .ok (.iload_n 2, 1) := by decide +kernel
theorem dX5_heldByGuest_3 : decode cX5_heldByGuest 3 = .ok (.aload_n 0, 1) := by decide +kernel
theorem dX5_heldByGuest_4 : decode cX5_heldByGuest 4 = .ok (.getfield 29, 3) := by decide +kernel
theorem dX5_heldByGuest_7 : decode cX5_heldByGuest 7 = .ok (.getfield 48, 3) := by decide +kernel
theorem dX5_heldByGuest_10 : decode cX5_heldByGuest 10 = .ok (.if_icmp .ge 23, 3) := by decide +kernel
theorem dX5_heldByGuest_13 : decode cX5_heldByGuest 13 = .ok (.aload_n 0, 1) := by decide +kernel
theorem dX5_heldByGuest_14 : decode cX5_heldByGuest 14 = .ok (.getfield 23, 3) := by decide +kernel
theorem dX5_heldByGuest_17 : decode cX5_heldByGuest 17 = .ok (.iload_n 2, 1) := by decide +kernel
theorem dX5_heldByGuest_18 : decode cX5_heldByGuest 18 = .ok (.invokevirtual 44, 3) := by decide +kernel
theorem dX5_heldByGuest_21 : decode cX5_heldByGuest 21 = .ok (.iload_n 1, 1) := by decide +kernel
theorem dX5_heldByGuest_22 : decode cX5_heldByGuest 22 = .ok (.if_icmp .ne 5, 3) := by decide +kernel
theorem dX5_heldByGuest_25 : decode cX5_heldByGuest 25 = .ok (.iload_n 2, 1) := by decide +kernel
theorem dX5_heldByGuest_26 : decode cX5_heldByGuest 26 = .ok (.ireturn, 1) := by decide +kernel
theorem dX5_heldByGuest_27 : decode cX5_heldByGuest 27 = .ok (.iinc 2 1, 3) := by decide +kernel
theorem dX5_heldByGuest_30 : decode cX5_heldByGuest 30 = .ok (.goto (-28), 3) := by decide +kernel
theorem dX5_heldByGuest_33 : decode cX5_heldByGuest 33 = .ok (.iconst (-1), 1) := by decide +kernel
theorem dX5_heldByGuest_34 : decode cX5_heldByGuest 34 = .ok (.ireturn, 1) := by decide +kernel
theorem dX5_lyingIn_0 : decode cX5_lyingIn 0 = .ok (.iconst 0, 1) := by decide +kernel
theorem dX5_lyingIn_1 : decode cX5_lyingIn 1 = .ok (.istore_n 2, 1) := by decide +kernel
theorem dX5_lyingIn_2 : decode cX5_lyingIn 2 = .ok (.iconst 0, 1) := by decide +kernel
theorem dX5_lyingIn_3 : decode cX5_lyingIn 3 = .ok (.istore_n 3, 1) := by decide +kernel
theorem dX5_lyingIn_4 : decode cX5_lyingIn 4 = .ok (.iload_n 3, 1) := by decide +kernel
theorem dX5_lyingIn_5 : decode cX5_lyingIn 5 = .ok (.aload_n 0, 1) := by decide +kernel
theorem dX5_lyingIn_6 : decode cX5_lyingIn 6 = .ok (.getfield 29, 3) := by decide +kernel
theorem dX5_lyingIn_9 : decode cX5_lyingIn 9 = .ok (.getfield 48, 3) := by decide +kernel
theorem dX5_lyingIn_12 : decode cX5_lyingIn 12 = .ok (.if_icmp .ge 27, 3) := by decide +kernel
theorem dX5_lyingIn_15 : decode cX5_lyingIn 15 = .ok (.aload_n 0, 1) := by decide +kernel
theorem dX5_lyingIn_16 : decode cX5_lyingIn 16 = .ok (.getfield 14, 3) := by decide +kernel
theorem dX5_lyingIn_19 : decode cX5_lyingIn 19 = .ok (.iload_n 3, 1) := by decide +kernel
theorem dX5_lyingIn_20 : decode cX5_lyingIn 20 = .ok (.invokevirtual 44, 3) := by decide +kernel
theorem dX5_lyingIn_23 : decode cX5_lyingIn 23 = .ok (.iload_n 1, 1) := by decide +kernel
theorem dX5_lyingIn_24 : decode cX5_lyingIn 24 = .ok (.if_icmp .ne 9, 3) := by decide +kernel
theorem dX5_lyingIn_27 : decode cX5_lyingIn 27 = .ok (.iload_n 2, 1) := by decide +kernel
theorem dX5_lyingIn_28 : decode cX5_lyingIn 28 = .ok (.iconst 1, 1) := by decide +kernel
theorem dX5_lyingIn_29 : decode cX5_lyingIn 29 = .ok (.iload_n 3, 1) := by decide +kernel
theorem dX5_lyingIn_30 : decode cX5_lyingIn 30 = .ok (.ishl, 1) := by decide +kernel
theorem dX5_lyingIn_31 : decode cX5_lyingIn 31 = .ok (.ior, 1) := by decide +kernel
theorem dX5_lyingIn_32 : decode cX5_lyingIn 32 = .ok (.istore_n 2, 1) := by decide +kernel
theorem dX5_lyingIn_33 : decode cX5_lyingIn 33 = .ok (.iinc 3 1, 3) := by decide +kernel
theorem dX5_lyingIn_36 : decode cX5_lyingIn 36 = .ok (.goto (-32), 3) := by decide +kernel
theorem dX5_lyingIn_39 : decode cX5_lyingIn 39 = .ok (.iload_n 2, 1) := by decide +kernel
theorem dX5_lyingIn_40 : decode cX5_lyingIn 40 = .ok (.ireturn, 1) := by decide +kernel
theorem dX6_init_0 : decode cX6_init 0 = .ok (.aload_n 0, 1) := by decide +kernel
theorem dX6_init_1 : decode cX6_init 1 = .ok (.invokespecial 3, 3) := by decide +kernel
theorem dX6_init_4 : decode cX6_init 4 = .ok (.aload_n 0, 1) := by decide +kernel
theorem dX6_init_5 : decode cX6_init 5 = .ok (.iload_n 1, 1) := by decide +kernel
theorem dX6_init_6 : decode cX6_init 6 = .ok (.ifCond .le 7, 3) := by decide +kernel
theorem dX6_init_9 : decode cX6_init 9 = .ok (.iload_n 1, 1) := by decide +kernel
theorem dX6_init_10 : decode cX6_init 10 = .ok (.goto 4, 3) := by decide +kernel
theorem dX6_init_13 : decode cX6_init 13 = .ok (.iconst 0, 1) := by decide +kernel
theorem dX6_init_14 : decode cX6_init 14 = .ok (.newarray .int, 2) := by decide +kernel
theorem dX6_init_16 : decode cX6_init 16 = .ok (.putfield 9, 3) := by decide +kernel
theorem dX6_init_19 : decode cX6_init 19 = .ok (.return_, 1) := by decide +kernel
theorem dX6_get_0 : decode cX6_get 0 = .ok (.iload_n 1, 1) := by decide +kernel
theorem dX6_get_1 : decode cX6_get 1 = .ok (.ifCond .lt 21, 3) := by decide +kernel
theorem dX6_get_4 : decode cX6_get 4 = .ok (.iload_n 1, 1) := by decide +kernel
theorem dX6_get_5 : decode cX6_get 5 = .ok (.aload_n 0, 1) := by decide +kernel
theorem dX6_get_6 : decode cX6_get 6 = .ok (.getfield 9, 3) := by decide +kernel
theorem dX6_get_9 : decode cX6_get 9 = .ok (.arraylength, 1) := by decide +kernel
theorem dX6_get_10 : decode cX6_get 10 = .ok (.if_icmp .ge 12, 3) := by decide +kernel
theorem dX6_get_13 : decode cX6_get 13 = .ok (.aload_n 0, 1) := by decide +kernel
theorem dX6_get_14 : decode cX6_get 14 = .ok (.getfield 9, 3) := by decide +kernel
theorem dX6_get_17 : decode cX6_get 17 = .ok (.iload_n 1, 1) := by decide +kernel
theorem dX6_get_18 : decode cX6_get 18 = .ok (.iaload, 1) := by decide +kernel
theorem dX6_get_19 : decode cX6_get 19 = .ok (.goto 4, 3) := by decide +kernel
theorem dX6_get_22 : decode cX6_get 22 = .ok (.iconst (-1), 1) := by decide +kernel
theorem dX6_get_23 : decode cX6_get 23 = .ok (.ireturn, 1) := by decide +kernel
theorem dX6_set_0 : decode cX6_set 0 = .ok (.iload_n 1, 1) := by decide +kernel
theorem dX6_set_1 : decode cX6_set 1 = .ok (.ifCond .lt 19, 3) := by decide +kernel
theorem dX6_set_4 : decode cX6_set 4 = .ok (.iload_n 1, 1) := by decide +kernel
theorem dX6_set_5 : decode cX6_set 5 = .ok (.aload_n 0, 1) := by decide +kernel
theorem dX6_set_6 : decode cX6_set 6 = .ok (.getfield 9, 3) := by decide +kernel
theorem dX6_set_9 : decode cX6_set 9 = .ok (.arraylength, 1) := by decide +kernel
theorem dX6_set_10 : decode cX6_set 10 = .ok (.if_icmp .ge 10, 3) := by decide +kernel
theorem dX6_set_13 : decode cX6_set 13 = .ok (.aload_n 0, 1) := by decide +kernel
theorem dX6_set_14 : decode cX6_set 14 = .ok (.getfield 9, 3) := by decide +kernel
theorem dX6_set_17 : decode cX6_set 17 = .ok (.iload_n 1, 1) := by decide +kernel
theorem dX6_set_18 : decode cX6_set 18 = .ok (.iload_n 2, 1) := by decide +kernel
theorem dX6_set_19 : decode cX6_set 19 = .ok (.iastore, 1) := by decide +kernel
theorem dX6_set_20 : decode cX6_set 20 = .ok (.return_, 1) := by decide +kernel
theorem dX6_add_0 : decode cX6_add 0 = .ok (.iload_n 1, 1) := by decide +kernel
theorem dX6_add_1 : decode cX6_add 1 = .ok (.ifCond .lt 22, 3) := by decide +kernel
theorem dX6_add_4 : decode cX6_add 4 = .ok (.iload_n 1, 1) := by decide +kernel
theorem dX6_add_5 : decode cX6_add 5 = .ok (.aload_n 0, 1) := by decide +kernel
theorem dX6_add_6 : decode cX6_add 6 = .ok (.getfield 9, 3) := by decide +kernel
theorem dX6_add_9 : decode cX6_add 9 = .ok (.arraylength, 1) := by decide +kernel
theorem dX6_add_10 : decode cX6_add 10 = .ok (.if_icmp .ge 13, 3) := by decide +kernel
theorem dX6_add_13 : decode cX6_add 13 = .ok (.aload_n 0, 1) := by decide +kernel
theorem dX6_add_14 : decode cX6_add 14 = .ok (.getfield 9, 3) := by decide +kernel
theorem dX6_add_17 : decode cX6_add 17 = .ok (.iload_n 1, 1) := by decide +kernel
theorem dX6_add_18 : decode cX6_add 18 = .ok (.dup2, 1) := by decide +kernel
theorem dX6_add_19 : decode cX6_add 19 = .ok (.iaload, 1) := by decide +kernel
theorem dX6_add_20 : decode cX6_add 20 = .ok (.iload_n 2, 1) := by decide +kernel
theorem dX6_add_21 : decode cX6_add 21 = .ok (.iadd, 1) := by decide +kernel
theorem dX6_add_22 : decode cX6_add 22 = .ok (.iastore, 1) := by decide +kernel
theorem dX6_add_23 : decode cX6_add 23 = .ok (.return_, 1) := by decide +kernel
theorem dX6_fill_0 : decode cX6_fill 0 = .ok (.aload_n 0, 1) := by decide +kernel
theorem dX6_fill_1 : decode cX6_fill 1 = .ok (.getfield 9, 3) := by decide +kernel
theorem dX6_fill_4 : decode cX6_fill 4 = .ok (.iload_n 1, 1) := by decide +kernel
theorem dX6_fill_5 : decode cX6_fill 5 = .ok (.invokestatic 15, 3) := by decide +kernel
theorem dX6_fill_8 : decode cX6_fill 8 = .ok (.return_, 1) := by decide +kernel
theorem dX6_sum_0 : decode cX6_sum 0 = .ok (.iconst 0, 1) := by decide +kernel
theorem dX6_sum_1 : decode cX6_sum 1 = .ok (.istore_n 1, 1) := by decide +kernel
theorem dX6_sum_2 : decode cX6_sum 2 = .ok (.iconst 0, 1) := by decide +kernel
theorem dX6_sum_3 : decode cX6_sum 3 = .ok (.istore_n 2, 1) := by decide +kernel
theorem dX6_sum_4 : decode cX6_sum 4 = .ok (.iload_n 2, 1) := by decide +kernel
theorem dX6_sum_5 : decode cX6_sum 5 = .ok (.aload_n 0, 1) := by decide +kernel
theorem dX6_sum_6 : decode cX6_sum 6 = .ok (.getfield 9, 3) := by decide +kernel
theorem dX6_sum_9 : decode cX6_sum 9 = .ok (.arraylength, 1) := by decide +kernel
theorem dX6_sum_10 : decode cX6_sum 10 = .ok (.if_icmp .ge 18, 3) := by decide +kernel
theorem dX6_sum_13 : decode cX6_sum 13 = .ok (.iload_n 1, 1) := by decide +kernel
theorem dX6_sum_14 : decode cX6_sum 14 = .ok (.aload_n 0, 1) := by decide +kernel
theorem dX6_sum_15 : decode cX6_sum 15 = .ok (.getfield 9, 3) := by decide +kernel
theorem dX6_sum_18 : decode cX6_sum 18 = .ok (.iload_n 2, 1) := by decide +kernel
theorem dX6_sum_19 : decode cX6_sum 19 = .ok (.iaload, 1) := by decide +kernel
theorem dX6_sum_20 : decode cX6_sum 20 = .ok (.iadd, 1) := by decide +kernel
theorem dX6_sum_21 : decode cX6_sum 21 = .ok (.istore_n 1, 1) := by decide +kernel
theorem dX6_sum_22 : decode cX6_sum 22 = .ok (.iinc 2 1, 3) := by decide +kernel
theorem dX6_sum_25 : decode cX6_sum 25 = .ok (.goto (-21), 3) := by decide +kernel
theorem dX6_sum_28 : decode cX6_sum 28 = .ok (.iload_n 1, 1) := by decide +kernel
theorem dX6_sum_29 : decode cX6_sum 29 = .ok (.ireturn, 1) := by decide +kernel
theorem dX6_copyFrom_0 : decode cX6_copyFrom 0 = .ok (.aload_n 1, 1) := by decide +kernel
theorem dX6_copyFrom_1 : decode cX6_copyFrom 1 = .ok (.getfield 9, 3) := by decide +kernel
theorem dX6_copyFrom_4 : decode cX6_copyFrom 4 = .ok (.iconst 0, 1) := by decide +kernel
theorem dX6_copyFrom_5 : decode cX6_copyFrom 5 = .ok (.aload_n 0, 1) := by decide +kernel
theorem dX6_copyFrom_6 : decode cX6_copyFrom 6 = .ok (.getfield 9, 3) := by decide +kernel
theorem dX6_copyFrom_9 : decode cX6_copyFrom 9 = .ok (.iconst 0, 1) := by decide +kernel
theorem dX6_copyFrom_10 : decode cX6_copyFrom 10 = .ok (.aload_n 1, 1) := by decide +kernel
theorem dX6_copyFrom_11 : decode cX6_copyFrom 11 = .ok (.getfield 9, 3) := by decide +kernel
theorem dX6_copyFrom_14 : decode cX6_copyFrom 14 = .ok (.arraylength, 1) := by decide +kernel
theorem dX6_copyFrom_15 : decode cX6_copyFrom 15 = .ok (.aload_n 0, 1) := by decide +kernel
theorem dX6_copyFrom_16 : decode cX6_copyFrom 16 = .ok (.getfield 9, 3) := by decide +kernel
theorem dX6_copyFrom_19 : decode cX6_copyFrom 19 = .ok (.arraylength, 1) := by decide +kernel
theorem dX6_copyFrom_20 : decode cX6_copyFrom 20 = .ok (.invokestatic 21, 3) := by decide +kernel
theorem dX6_copyFrom_23 : decode cX6_copyFrom 23 = .ok (.invokestatic 27, 3) := by decide +kernel
theorem dX6_copyFrom_26 : decode cX6_copyFrom 26 = .ok (.return_, 1) := by decide +kernel
theorem dX7_init_0 : decode cX7_init 0 = .ok (.aload_n 0, 1) := by decide +kernel
theorem dX7_init_1 : decode cX7_init 1 = .ok (.invokespecial 3, 3) := by decide +kernel
theorem dX7_init_4 : decode cX7_init 4 = .ok (.aload_n 0, 1) := by decide +kernel
theorem dX7_init_5 : decode cX7_init 5 = .ok (.new 9, 3) := by decide +kernel
theorem dX7_init_8 : decode cX7_init 8 = .ok (.dup, 1) := by decide +kernel
theorem dX7_init_9 : decode cX7_init 9 = .ok (.iconst 5, 1) := by decide +kernel
theorem dX7_init_10 : decode cX7_init 10 = .ok (.invokespecial 11, 3) := by decide +kernel
theorem dX7_init_13 : decode cX7_init 13 = .ok (.putfield 14, 3) := by decide +kernel
theorem dX7_init_16 : decode cX7_init 16 = .ok (.aload_n 0, 1) := by decide +kernel
theorem dX7_init_17 : decode cX7_init 17 = .ok (.new 9, 3) := by decide +kernel
theorem dX7_init_20 : decode cX7_init 20 = .ok (.dup, 1) := by decide +kernel
theorem dX7_init_21 : decode cX7_init 21 = .ok (.iconst 4, 1) := by decide +kernel
theorem dX7_init_22 : decode cX7_init 22 = .ok (.invokespecial 11, 3) := by decide +kernel
theorem dX7_init_25 : decode cX7_init 25 = .ok (.putfield 20, 3) := by decide +kernel
theorem dX7_init_28 : decode cX7_init 28 = .ok (.aload_n 0, 1) := by decide +kernel
theorem dX7_init_29 : decode cX7_init 29 = .ok (.new 9, 3) := by decide +kernel
theorem dX7_init_32 : decode cX7_init 32 = .ok (.dup, 1) := by decide +kernel
theorem dX7_init_33 : decode cX7_init 33 = .ok (.bipush 12, 2) := by decide +kernel
theorem dX7_init_35 : decode cX7_init 35 = .ok (.invokespecial 11, 3) := by decide +kernel
theorem dX7_init_38 : decode cX7_init 38 = .ok (.putfield 23, 3) := by decide +kernel
theorem dX7_init_41 : decode cX7_init 41 = .ok (.aload_n 0, 1) := by decide +kernel
theorem dX7_init_42 : decode cX7_init 42 = .ok (.new 9, 3) := by decide +kernel
theorem dX7_init_45 : decode cX7_init 45 = .ok (.dup, 1) := by decide +kernel
theorem dX7_init_46 : decode cX7_init 46 = .ok (.bipush 12, 2) := by decide +kernel
theorem dX7_init_48 : decode cX7_init 48 = .ok (.invokespecial 11, 3) := by decide +kernel
theorem dX7_init_51 : decode cX7_init 51 = .ok (.putfield 26, 3) := by decide +kernel
theorem dX7_init_54 : decode cX7_init 54 = .ok (.aload_n 0, 1) := by decide +kernel
theorem dX7_init_55 : decode cX7_init 55 = .ok (.new 9, 3) := by decide +kernel
theorem dX7_init_58 : decode cX7_init 58 = .ok (.dup, 1) := by decide +kernel
theorem dX7_init_59 : decode cX7_init 59 = .ok (.bipush 12, 2) := by decide +kernel
theorem dX7_init_61 : decode cX7_init 61 = .ok (.invokespecial 11, 3) := by decide +kernel
theorem dX7_init_64 : decode cX7_init 64 = .ok (.putfield 29, 3) := by decide +kernel
theorem dX7_init_67 : decode cX7_init 67 = .ok (.aload_n 0, 1) := by decide +kernel
theorem dX7_init_68 : decode cX7_init 68 = .ok (.new 9, 3) := by decide +kernel
theorem dX7_init_71 : decode cX7_init 71 = .ok (.dup, 1) := by decide +kernel
theorem dX7_init_72 : decode cX7_init 72 = .ok (.bipush 12, 2) := by decide +kernel
theorem dX7_init_74 : decode cX7_init 74 = .ok (.invokespecial 11, 3) := by decide +kernel
theorem dX7_init_77 : decode cX7_init 77 = .ok (.putfield 32, 3) := by decide +kernel
theorem dX7_init_80 : decode cX7_init 80 = .ok (.aload_n 0, 1) := by decide +kernel
theorem dX7_init_81 : decode cX7_init 81 = .ok (.new 9, 3) := by decide +kernel
theorem dX7_init_84 : decode cX7_init 84 = .ok (.dup, 1) := by decide +kernel
theorem dX7_init_85 : decode cX7_init 85 = .ok (.bipush 12, 2) := by decide +kernel
theorem dX7_init_87 : decode cX7_init 87 = .ok (.invokespecial 11, 3) := by decide +kernel
theorem dX7_init_90 : decode cX7_init 90 = .ok (.putfield 35, 3) := by decide +kernel
theorem dX7_init_93 : decode cX7_init 93 = .ok (.return_, 1) := by decide +kernel
theorem dX7_addTrack_0 : decode cX7_addTrack 0 = .ok (.aload_n 0, 1) := by decide +kernel
theorem dX7_addTrack_1 : decode cX7_addTrack 1 = .ok (.getfield 38, 3) := by decide +kernel
theorem dX7_addTrack_4 : decode cX7_addTrack 4 = .ok (.istore_n 2, 1) := by decide +kernel
theorem dX7_addTrack_5 : decode cX7_addTrack 5 = .ok (.aload_n 0, 1) := by decide +kernel
theorem dX7_addTrack_6 : decode cX7_addTrack 6 = .ok (.dup, 1) := by decide +kernel
theorem dX7_addTrack_7 : decode cX7_addTrack 7 = .ok (.getfield 38, 3) := by decide +kernel
theorem dX7_addTrack_10 : decode cX7_addTrack 10 = .ok (.iconst 1, 1) := by decide +kernel
theorem dX7_addTrack_11 : decode cX7_addTrack 11 = .ok (.iadd, 1) := by decide +kernel
theorem dX7_addTrack_12 : decode cX7_addTrack 12 = .ok (.putfield 38, 3) := by decide +kernel
theorem dX7_addTrack_15 : decode cX7_addTrack 15 = .ok (.aload_n 0, 1) := by decide +kernel
theorem dX7_addTrack_16 : decode cX7_addTrack 16 = .ok (.getfield 14, 3) := by decide +kernel
theorem dX7_addTrack_19 : decode cX7_addTrack 19 = .ok (.iload_n 2, 1) := by decide +kernel
theorem dX7_addTrack_20 : decode cX7_addTrack 20 = .ok (.iload_n 1, 1) := by decide +kernel
theorem dX7_addTrack_21 : decode cX7_addTrack 21 = .ok (.invokevirtual 42, 3) := by decide +kernel
theorem dX7_addTrack_24 : decode cX7_addTrack 24 = .ok (.iload_n 2, 1) := by decide +kernel
theorem dX7_addTrack_25 : decode cX7_addTrack 25 = .ok (.ireturn, 1) := by decide +kernel
theorem dX7_addProp_0 : decode cX7_addProp 0 = .ok (.aload_n 0, 1) := by decide +kernel
theorem dX7_addProp_1 : decode cX7_addProp 1 = .ok (.getfield 46, 3) := by decide +kernel
theorem dX7_addProp_4 : decode cX7_addProp 4 = .ok (.istore_n 2, 1) := by decide +kernel
theorem dX7_addProp_5 : decode cX7_addProp 5 = .ok (.aload_n 0, 1) := by decide +kernel
theorem dX7_addProp_6 : decode cX7_addProp 6 = .ok (.dup, 1) := by decide +kernel
theorem dX7_addProp_7 : decode cX7_addProp 7 = .ok (.getfield 46, 3) := by decide +kernel
theorem dX7_addProp_10 : decode cX7_addProp 10 = .ok (.iconst 1, 1) := by decide +kernel
theorem dX7_addProp_11 : decode cX7_addProp 11 = .ok (.iadd, 1) := by decide +kernel
theorem dX7_addProp_12 : decode cX7_addProp 12 = .ok (.putfield 46, 3) := by decide +kernel
theorem dX7_addProp_15 : decode cX7_addProp 15 = .ok (.aload_n 0, 1) := by decide +kernel
theorem dX7_addProp_16 : decode cX7_addProp 16 = .ok (.getfield 20, 3) := by decide +kernel
theorem dX7_addProp_19 : decode cX7_addProp 19 = .ok (.iload_n 2, 1) := by decide +kernel
theorem dX7_addProp_20 : decode cX7_addProp 20 = .ok (.iload_n 1, 1) := by decide +kernel
theorem dX7_addProp_21 : decode cX7_addProp 21 = .ok (.invokevirtual 42, 3) := by decide +kernel
theorem dX7_addProp_24 : decode cX7_addProp 24 = .ok (.iload_n 2, 1) := by decide +kernel
theorem dX7_addProp_25 : decode cX7_addProp 25 = .ok (.ireturn, 1) := by decide +kernel
theorem dX7_addScene_0 : decode cX7_addScene 0 = .ok (.aload_n 0, 1) := by decide +kernel
theorem dX7_addScene_1 : decode cX7_addScene 1 = .ok (.getfield 49, 3) := by decide +kernel
theorem dX7_addScene_4 : decode cX7_addScene 4 = .ok (.istore 6, 2) := by decide +kernel
theorem dX7_addScene_6 : decode cX7_addScene 6 = .ok (.aload_n 0, 1) := by decide +kernel
theorem dX7_addScene_7 : decode cX7_addScene 7 = .ok (.dup, 1) := by decide +kernel
theorem dX7_addScene_8 : decode cX7_addScene 8 = .ok (.getfield 49, 3) := by decide +kernel
theorem dX7_addScene_11 : decode cX7_addScene 11 = .ok (.iconst 1, 1) := by decide +kernel
theorem dX7_addScene_12 : decode cX7_addScene 12 = .ok (.iadd, 1) := by decide +kernel
theorem dX7_addScene_13 : decode cX7_addScene 13 = .ok (.putfield 49, 3) := by decide +kernel
theorem dX7_addScene_16 : decode cX7_addScene 16 = .ok (.aload_n 0, 1) := by decide +kernel
theorem dX7_addScene_17 : decode cX7_addScene 17 = .ok (.getfield 23, 3) := by decide +kernel
theorem dX7_addScene_20 : decode cX7_addScene 20 = .ok (.iload 6, 2) := by decide +kernel
theorem dX7_addScene_22 : decode cX7_addScene 22 = .ok (.iload_n 1, 1) := by decide +kernel
theorem dX7_addScene_23 : decode cX7_addScene 23 = .ok (.invokevirtual 42, 3) := by decide +kernel
theorem dX7_addScene_26 : decode cX7_addScene 26 = .ok (.aload_n 0, 1) := by decide +kernel
theorem dX7_addScene_27 : decode cX7_addScene 27 = .ok (.getfield 26, 3) := by decide +kernel
theorem dX7_addScene_30 : decode cX7_addScene 30 = .ok (.iload 6, 2) := by decide +kernel
theorem dX7_addScene_32 : decode cX7_addScene 32 = .ok (.iload_n 2, 1) := by decide +kernel
theorem dX7_addScene_33 : decode cX7_addScene 33 = .ok (.invokevirtual 42, 3) := by decide +kernel
theorem dX7_addScene_36 : decode cX7_addScene 36 = .ok (.aload_n 0, 1) := by decide +kernel
theorem dX7_addScene_37 : decode cX7_addScene 37 = .ok (.getfield 29, 3) := by decide +kernel
theorem dX7_addScene_40 : decode cX7_addScene 40 = .ok (.iload 6, 2) := by decide +kernel
theorem dX7_addScene_42 : decode cX7_addScene 42 = .ok (.iload_n 3, 1) := by decide +kernel
theorem dX7_addScene_43 : decode cX7_addScene 43 = .ok (.invokevirtual 42, 3) := by decide +kernel
theorem dX7_addScene_46 : decode cX7_addScene 46 = .ok (.aload_n 0, 1) := by decide +kernel
theorem dX7_addScene_47 : decode cX7_addScene 47 = .ok (.getfield 32, 3) := by decide +kernel
theorem dX7_addScene_50 : decode cX7_addScene 50 = .ok (.iload 6, 2) := by decide +kernel
theorem dX7_addScene_52 : decode cX7_addScene 52 = .ok (.iload 4, 2) := by decide +kernel
theorem dX7_addScene_54 : decode cX7_addScene 54 = .ok (.invokevirtual 42, 3) := by decide +kernel
theorem dX7_addScene_57 : decode cX7_addScene 57 = .ok (.aload_n 0, 1) := by decide +kernel
theorem dX7_addScene_58 : decode cX7_addScene 58 = .ok (.getfield 35, 3) := by decide +kernel
theorem dX7_addScene_61 : decode cX7_addScene 61 = .ok (.iload 6, 2) := by decide +kernel
theorem dX7_addScene_63 : decode cX7_addScene 63 = .ok (.iload 5, 2) := by decide +kernel
theorem dX7_addScene_65 : decode cX7_addScene 65 = .ok (.invokevirtual 42, 3) := by decide +kernel
theorem dX7_addScene_68 : decode cX7_addScene 68 = .ok (.iload 6, 2) := by decide +kernel
theorem dX7_addScene_70 : decode cX7_addScene 70 = .ok (.ireturn, 1) := by decide +kernel
theorem dX7_areTracks_0 : decode cX7_areTracks 0 = .ok (.iload_n 1, 1) := by decide +kernel
theorem dX7_areTracks_1 : decode cX7_areTracks 1 = .ok (.ifCond .le 17, 3) := by decide +kernel
theorem dX7_areTracks_4 : decode cX7_areTracks 4 = .ok (.iload_n 1, 1) := by decide +kernel
theorem dX7_areTracks_5 : decode cX7_areTracks 5 = .ok (.iconst 1, 1) := by decide +kernel
theorem dX7_areTracks_6 : decode cX7_areTracks 6 = .ok (.aload_n 0, 1) := by decide +kernel
theorem dX7_areTracks_7 : decode cX7_areTracks 7 = .ok (.getfield 38, 3) := by decide +kernel
theorem dX7_areTracks_10 : decode cX7_areTracks 10 = .ok (.ishl, 1) := by decide +kernel
theorem dX7_areTracks_11 : decode cX7_areTracks 11 = .ok (.if_icmp .ge 7, 3) := by decide +kernel
theorem dX7_areTracks_14 : decode cX7_areTracks 14 = .ok (.iconst 1, 1) := by decide +kernel
theorem dX7_areTracks_15 : decode cX7_areTracks 15 = .ok (.goto 4, 3) := by decide +kernel
theorem dX7_areTracks_18 : decode cX7_areTracks 18 = .ok (.iconst 0, 1) := by decide +kernel
theorem dX7_areTracks_19 : decode cX7_areTracks 19 = .ok (.ireturn, 1) := by decide +kernel
theorem dX7_has_0 : decode cX7_has 0 = .ok (.aload_n 0, 1) := by decide +kernel
theorem dX7_has_1 : decode cX7_has 1 = .ok (.getfield 32, 3) := by decide +kernel
theorem dX7_has_4 : decode cX7_has 4 = .ok (.iload_n 1, 1) := by decide +kernel
theorem dX7_has_5 : decode cX7_has 5 = .ok (.invokevirtual 52, 3) := by decide +kernel
theorem dX7_has_8 : decode cX7_has 8 = .ok (.iload_n 2, 1) := by decide +kernel
theorem dX7_has_9 : decode cX7_has 9 = .ok (.iand, 1) := by decide +kernel
theorem dX7_has_10 : decode cX7_has 10 = .ok (.ifCond .eq 7, 3) := by decide +kernel
theorem dX7_has_13 : decode cX7_has 13 = .ok (.iconst 1, 1) := by decide +kernel
theorem dX7_has_14 : decode cX7_has 14 = .ok (.goto 4, 3) := by decide +kernel
theorem dX7_has_17 : decode cX7_has 17 = .ok (.iconst 0, 1) := by decide +kernel
theorem dX7_has_18 : decode cX7_has 18 = .ok (.ireturn, 1) := by decide +kernel
theorem dX7_countScenesOf_0 : decode cX7_countScenesOf 0 = .ok (.iconst 0, 1) := by decide +kernel
theorem dX7_countScenesOf_1 : decode cX7_countScenesOf 1 = .ok (.istore_n 2, 1) := by decide +kernel
theorem dX7_countScenesOf_2 : decode cX7_countScenesOf 2 = .ok (.iconst 0, 1) := by decide +kernel
theorem dX7_countScenesOf_3 : decode cX7_countScenesOf 3 = .ok (.istore_n 3, 1) := by decide +kernel
theorem dX7_countScenesOf_4 : decode cX7_countScenesOf 4 = .ok (.iload_n 3, 1) := by decide +kernel
theorem dX7_countScenesOf_5 : decode cX7_countScenesOf 5 = .ok (.aload_n 0, 1) := by decide +kernel
theorem dX7_countScenesOf_6 : decode cX7_countScenesOf 6 = .ok (.getfield 49, 3) := by decide +kernel
theorem dX7_countScenesOf_9 : decode cX7_countScenesOf 9 = .ok (.if_icmp .ge 21, 3) := by decide +kernel
theorem dX7_countScenesOf_12 : decode cX7_countScenesOf 12 = .ok (.aload_n 0, 1) := by decide +kernel
theorem dX7_countScenesOf_13 : decode cX7_countScenesOf 13 = .ok (.iload_n 3, 1) := by decide +kernel
theorem dX7_countScenesOf_14 : decode cX7_countScenesOf 14 = .ok (.iload_n 1, 1) := by decide +kernel
theorem dX7_countScenesOf_15 : decode cX7_countScenesOf 15 = .ok (.invokevirtual 56, 3) := by decide +kernel
theorem dX7_countScenesOf_18 : decode cX7_countScenesOf 18 = .ok (.ifCond .eq 6, 3) := by decide +kernel
theorem dX7_countScenesOf_21 : decode cX7_countScenesOf 21 = .ok (.iinc 2 1, 3) := by decide +kernel
theorem dX7_countScenesOf_24 : decode cX7_countScenesOf 24 = .ok (.iinc 3 1, 3) := by decide +kernel
theorem dX7_countScenesOf_27 : decode cX7_countScenesOf 27 = .ok (.goto (-23), 3) := by decide +kernel
theorem dX7_countScenesOf_30 : decode cX7_countScenesOf 30 = .ok (.iload_n 2, 1) := by decide +kernel
theorem dX7_countScenesOf_31 : decode cX7_countScenesOf 31 = .ok (.ireturn, 1) := by decide +kernel
theorem dX7_overlapsSceneOf_0 : decode cX7_overlapsSceneOf 0 = .ok (.iconst 0, 1) := by decide +kernel
theorem dX7_overlapsSceneOf_1 : decode cX7_overlapsSceneOf 1 = .ok (.istore 4, 2) := by decide +kernel
theorem dX7_overlapsSceneOf_3 : decode cX7_overlapsSceneOf 3 = .ok (.iload 4, 2) := by decide +kernel
theorem dX7_overlapsSceneOf_5 : decode cX7_overlapsSceneOf 5 = .ok (.aload_n 0, 1) := by decide +kernel
theorem dX7_overlapsSceneOf_6 : decode cX7_overlapsSceneOf 6 = .ok (.getfield 49, 3) := by decide +kernel
theorem dX7_overlapsSceneOf_9 : decode cX7_overlapsSceneOf 9 = .ok (.if_icmp .ge 72, 3) := by decide +kernel
theorem dX7_overlapsSceneOf_12 : decode cX7_overlapsSceneOf 12 = .ok (.aload_n 0, 1) := by decide +kernel
theorem dX7_overlapsSceneOf_13 : decode cX7_overlapsSceneOf 13 = .ok (.getfield 26, 3) := by decide +kernel
theorem dX7_overlapsSceneOf_16 : decode cX7_overlapsSceneOf 16 = .ok (.iload 4, 2) := by decide +kernel
theorem dX7_overlapsSceneOf_18 : decode cX7_overlapsSceneOf 18 = .ok (.invokevirtual 52, 3) := by decide +kernel
theorem dX7_overlapsSceneOf_21 : decode cX7_overlapsSceneOf 21 = .ok (.istore 5, 2) := by decide +kernel
theorem dX7_overlapsSceneOf_23 : decode cX7_overlapsSceneOf 23 = .ok (.iload_n 2, 1) := by decide +kernel
theorem dX7_overlapsSceneOf_24 : decode cX7_overlapsSceneOf 24 = .ok (.iload 5, 2) := by decide +kernel
theorem dX7_overlapsSceneOf_26 : decode cX7_overlapsSceneOf 26 = .ok (.aload_n 0, 1) := by decide +kernel
theorem dX7_overlapsSceneOf_27 : decode cX7_overlapsSceneOf 27 = .ok (.getfield 29, 3) := by decide +kernel
theorem dX7_overlapsSceneOf_30 : decode cX7_overlapsSceneOf 30 = .ok (.iload 4, 2) := by decide +kernel
theorem dX7_overlapsSceneOf_32 : decode cX7_overlapsSceneOf 32 = .ok (.invokevirtual 52, 3) := by decide +kernel
theorem dX7_overlapsSceneOf_35 : decode cX7_overlapsSceneOf 35 = .ok (.iadd, 1) := by decide +kernel
theorem dX7_overlapsSceneOf_36 : decode cX7_overlapsSceneOf 36 = .ok (.if_icmp .ge 15, 3) := by decide +kernel
theorem dX7_overlapsSceneOf_39 : decode cX7_overlapsSceneOf 39 = .ok (.iload 5, 2) := by decide +kernel
theorem dX7_overlapsSceneOf_41 : decode cX7_overlapsSceneOf 41 = .ok (.iload_n 2, 1) := by decide +kernel
theorem dX7_overlapsSceneOf_42 : decode cX7_overlapsSceneOf 42 = .ok (.iload_n 3, 1) := by decide +kernel
theorem dX7_overlapsSceneOf_43 : decode cX7_overlapsSceneOf 43 = .ok (.iadd, 1) := by decide +kernel
theorem dX7_overlapsSceneOf_44 : decode cX7_overlapsSceneOf 44 = .ok (.if_icmp .ge 7, 3) := by decide +kernel
theorem dX7_overlapsSceneOf_47 : decode cX7_overlapsSceneOf 47 = .ok (.iconst 1, 1) := by decide +kernel
theorem dX7_overlapsSceneOf_48 : decode cX7_overlapsSceneOf 48 = .ok (.goto 4, 3) := by decide +kernel
theorem dX7_overlapsSceneOf_51 : decode cX7_overlapsSceneOf 51 = .ok (.iconst 0, 1) := by decide +kernel
theorem dX7_overlapsSceneOf_52 : decode cX7_overlapsSceneOf 52 = .ok (.istore 6, 2) := by decide +kernel
theorem dX7_overlapsSceneOf_54 : decode cX7_overlapsSceneOf 54 = .ok (.iload 6, 2) := by decide +kernel
theorem dX7_overlapsSceneOf_56 : decode cX7_overlapsSceneOf 56 = .ok (.ifCond .eq 19, 3) := by decide +kernel
theorem dX7_overlapsSceneOf_59 : decode cX7_overlapsSceneOf 59 = .ok (.aload_n 0, 1) := by decide +kernel
theorem dX7_overlapsSceneOf_60 : decode cX7_overlapsSceneOf 60 = .ok (.getfield 32, 3) := by decide +kernel
theorem dX7_overlapsSceneOf_63 : decode cX7_overlapsSceneOf 63 = .ok (.iload 4, 2) := by decide +kernel
theorem dX7_overlapsSceneOf_65 : decode cX7_overlapsSceneOf 65 = .ok (.invokevirtual 52, 3) := by decide +kernel
theorem dX7_overlapsSceneOf_68 : decode cX7_overlapsSceneOf 68 = .ok (.iload_n 1, 1) := by decide +kernel
theorem dX7_overlapsSceneOf_69 : decode cX7_overlapsSceneOf 69 = .ok (.iand, 1) := by decide +kernel
theorem dX7_overlapsSceneOf_70 : decode cX7_overlapsSceneOf 70 = .ok (.ifCond .eq 5, 3) := by decide +kernel
theorem dX7_overlapsSceneOf_73 : decode cX7_overlapsSceneOf 73 = .ok (.iconst 1, 1) := by decide +kernel
theorem dX7_overlapsSceneOf_74 : decode cX7_overlapsSceneOf 74 = .ok (.ireturn, 1) := by decide +kernel
theorem dX7_overlapsSceneOf_75 : decode cX7_overlapsSceneOf 75 = .ok (.iinc 4 1, 3) := by decide +kernel
theorem dX7_overlapsSceneOf_78 : decode cX7_overlapsSceneOf 78 = .ok (.goto (-75), 3) := by decide +kernel
theorem dX7_overlapsSceneOf_81 : decode cX7_overlapsSceneOf 81 = .ok (.iconst 0, 1) := by decide +kernel
theorem dX7_overlapsSceneOf_82 : decode cX7_overlapsSceneOf 82 = .ok (.ireturn, 1) := by decide +kernel
theorem dX7_overlap_0 : decode cX7_overlap 0 = .ok (.iconst 0, 1) := by decide +kernel
theorem dX7_overlap_1 : decode cX7_overlap 1 = .ok (.istore_n 3, 1) := by decide +kernel
theorem dX7_overlap_2 : decode cX7_overlap 2 = .ok (.iload_n 3, 1) := by decide +kernel
theorem dX7_overlap_3 : decode cX7_overlap 3 = .ok (.aload_n 0, 1) := by decide +kernel
theorem dX7_overlap_4 : decode cX7_overlap 4 = .ok (.getfield 49, 3) := by decide +kernel
theorem dX7_overlap_7 : decode cX7_overlap 7 = .ok (.if_icmp .ge 48, 3) := by decide +kernel
theorem dX7_overlap_10 : decode cX7_overlap 10 = .ok (.aload_n 0, 1) := by decide +kernel
theorem dX7_overlap_11 : decode cX7_overlap 11 = .ok (.iload_n 3, 1) := by decide +kernel
theorem dX7_overlap_12 : decode cX7_overlap 12 = .ok (.iconst 1, 1) := by decide +kernel
theorem dX7_overlap_13 : decode cX7_overlap 13 = .ok (.iload_n 1, 1) := by decide +kernel
theorem dX7_overlap_14 : decode cX7_overlap 14 = .ok (.ishl, 1) := by decide +kernel
theorem dX7_overlap_15 : decode cX7_overlap 15 = .ok (.invokevirtual 56, 3) := by decide +kernel
theorem dX7_overlap_18 : decode cX7_overlap 18 = .ok (.ifCond .eq 31, 3) := by decide +kernel
theorem dX7_overlap_21 : decode cX7_overlap 21 = .ok (.aload_n 0, 1) := by decide +kernel
theorem dX7_overlap_22 : decode cX7_overlap 22 = .ok (.iconst 1, 1) := by decide +kernel
theorem dX7_overlap_23 : decode cX7_overlap 23 = .ok (.iload_n 2, 1) := by decide +kernel
theorem dX7_overlap_24 : decode cX7_overlap 24 = .ok (.ishl, 1) := by decide +kernel
theorem dX7_overlap_25 : decode cX7_overlap 25 = .ok (.aload_n 0, 1) := by decide +kernel
theorem dX7_overlap_26 : decode cX7_overlap 26 = .ok (.getfield 26, 3) := by decide +kernel
theorem dX7_overlap_29 : decode cX7_overlap 29 = .ok (.iload_n 3, 1) := by decide +kernel
theorem dX7_overlap_30 : decode cX7_overlap 30 = .ok (.invokevirtual 52, 3) := by decide +kernel
theorem dX7_overlap_33 : decode cX7_overlap 33 = .ok (.aload_n 0, 1) := by decide +kernel
theorem dX7_overlap_34 : decode cX7_overlap 34 = .ok (.getfield 29, 3) := by decide +kernel
theorem dX7_overlap_37 : decode cX7_overlap 37 = .ok (.iload_n 3, 1) := by decide +kernel
theorem dX7_overlap_38 : decode cX7_overlap 38 = .ok (.invokevirtual 52, 3) := by decide +kernel
theorem dX7_overlap_41 : decode cX7_overlap 41 = .ok (.invokevirtual 60, 3) := by decide +kernel
theorem dX7_overlap_44 : decode cX7_overlap 44 = .ok (.ifCond .eq 5, 3) := by decide +kernel
theorem dX7_overlap_47 : decode cX7_overlap 47 = .ok (.iconst 1, 1) := by decide +kernel
theorem dX7_overlap_48 : decode cX7_overlap 48 = .ok (.ireturn, 1) := by decide +kernel
theorem dX7_overlap_49 : decode cX7_overlap 49 = .ok (.iinc 3 1, 3) := by decide +kernel
theorem dX7_overlap_52 : decode cX7_overlap 52 = .ok (.goto (-50), 3) := by decide +kernel
theorem dX7_overlap_55 : decode cX7_overlap 55 = .ok (.iconst 0, 1) := by decide +kernel
theorem dX7_overlap_56 : decode cX7_overlap 56 = .ok (.ireturn, 1) := by decide +kernel
theorem dX8_init_0 : decode cX8_init 0 = .ok (.aload_n 0, 1) := by decide +kernel
theorem dX8_init_1 : decode cX8_init 1 = .ok (.invokespecial 3, 3) := by decide +kernel
theorem dX8_init_4 : decode cX8_init 4 = .ok (.aload_n 0, 1) := by decide +kernel
theorem dX8_init_5 : decode cX8_init 5 = .ok (.new 9, 3) := by decide +kernel
theorem dX8_init_8 : decode cX8_init 8 = .ok (.dup, 1) := by decide +kernel
theorem dX8_init_9 : decode cX8_init 9 = .ok (.bipush 12, 2) := by decide +kernel
theorem dX8_init_11 : decode cX8_init 11 = .ok (.invokespecial 11, 3) := by decide +kernel
theorem dX8_init_14 : decode cX8_init 14 = .ok (.putfield 14, 3) := by decide +kernel
theorem dX8_init_17 : decode cX8_init 17 = .ok (.aload_n 0, 1) := by decide +kernel
theorem dX8_init_18 : decode cX8_init 18 = .ok (.new 9, 3) := by decide +kernel
theorem dX8_init_21 : decode cX8_init 21 = .ok (.dup, 1) := by decide +kernel
theorem dX8_init_22 : decode cX8_init 22 = .ok (.bipush 12, 2) := by decide +kernel
theorem dX8_init_24 : decode cX8_init 24 = .ok (.invokespecial 11, 3) := by decide +kernel
theorem dX8_init_27 : decode cX8_init 27 = .ok (.putfield 20, 3) := by decide +kernel
theorem dX8_init_30 : decode cX8_init 30 = .ok (.aload_n 0, 1) := by decide +kernel
theorem dX8_init_31 : decode cX8_init 31 = .ok (.new 9, 3) := by decide +kernel
theorem dX8_init_34 : decode cX8_init 34 = .ok (.dup, 1) := by decide +kernel
theorem dX8_init_35 : decode cX8_init 35 = .ok (.bipush 12, 2) := by decide +kernel
theorem dX8_init_37 : decode cX8_init 37 = .ok (.invokespecial 11, 3) := by decide +kernel
theorem dX8_init_40 : decode cX8_init 40 = .ok (.putfield 23, 3) := by decide +kernel
theorem dX8_init_43 : decode cX8_init 43 = .ok (.aload_n 0, 1) := by decide +kernel
theorem dX8_init_44 : decode cX8_init 44 = .ok (.new 9, 3) := by decide +kernel
theorem dX8_init_47 : decode cX8_init 47 = .ok (.dup, 1) := by decide +kernel
theorem dX8_init_48 : decode cX8_init 48 = .ok (.bipush 12, 2) := by decide +kernel
theorem dX8_init_50 : decode cX8_init 50 = .ok (.invokespecial 11, 3) := by decide +kernel
theorem dX8_init_53 : decode cX8_init 53 = .ok (.putfield 26, 3) := by decide +kernel
theorem dX8_init_56 : decode cX8_init 56 = .ok (.aload_n 0, 1) := by decide +kernel
theorem dX8_init_57 : decode cX8_init 57 = .ok (.new 9, 3) := by decide +kernel
theorem dX8_init_60 : decode cX8_init 60 = .ok (.dup, 1) := by decide +kernel
theorem dX8_init_61 : decode cX8_init 61 = .ok (.bipush 12, 2) := by decide +kernel
theorem dX8_init_63 : decode cX8_init 63 = .ok (.invokespecial 11, 3) := by decide +kernel
theorem dX8_init_66 : decode cX8_init 66 = .ok (.putfield 29, 3) := by decide +kernel
theorem dX8_init_69 : decode cX8_init 69 = .ok (.aload_n 0, 1) := by decide +kernel
theorem dX8_init_70 : decode cX8_init 70 = .ok (.aload_n 1, 1) := by decide +kernel
theorem dX8_init_71 : decode cX8_init 71 = .ok (.putfield 32, 3) := by decide +kernel
theorem dX8_init_74 : decode cX8_init 74 = .ok (.return_, 1) := by decide +kernel
theorem dX8_copyFrom_0 : decode cX8_copyFrom 0 = .ok (.aload_n 0, 1) := by decide +kernel
theorem dX8_copyFrom_1 : decode cX8_copyFrom 1 = .ok (.getfield 14, 3) := by decide +kernel
theorem dX8_copyFrom_4 : decode cX8_copyFrom 4 = .ok (.aload_n 1, 1) := by decide +kernel
theorem dX8_copyFrom_5 : decode cX8_copyFrom 5 = .ok (.getfield 14, 3) := by decide +kernel
theorem dX8_copyFrom_8 : decode cX8_copyFrom 8 = .ok (.invokevirtual 36, 3) := by decide +kernel
theorem dX8_copyFrom_11 : decode cX8_copyFrom 11 = .ok (.aload_n 0, 1) := by decide +kernel
theorem dX8_copyFrom_12 : decode cX8_copyFrom 12 = .ok (.getfield 20, 3) := by decide +kernel
theorem dX8_copyFrom_15 : decode cX8_copyFrom 15 = .ok (.aload_n 1, 1) := by decide +kernel
theorem dX8_copyFrom_16 : decode cX8_copyFrom 16 = .ok (.getfield 20, 3) := by decide +kernel
theorem dX8_copyFrom_19 : decode cX8_copyFrom 19 = .ok (.invokevirtual 36, 3) := by decide +kernel
theorem dX8_copyFrom_22 : decode cX8_copyFrom 22 = .ok (.aload_n 0, 1) := by decide +kernel
theorem dX8_copyFrom_23 : decode cX8_copyFrom 23 = .ok (.getfield 23, 3) := by decide +kernel
theorem dX8_copyFrom_26 : decode cX8_copyFrom 26 = .ok (.aload_n 1, 1) := by decide +kernel
theorem dX8_copyFrom_27 : decode cX8_copyFrom 27 = .ok (.getfield 23, 3) := by decide +kernel
theorem dX8_copyFrom_30 : decode cX8_copyFrom 30 = .ok (.invokevirtual 36, 3) := by decide +kernel
theorem dX8_copyFrom_33 : decode cX8_copyFrom 33 = .ok (.aload_n 0, 1) := by decide +kernel
theorem dX8_copyFrom_34 : decode cX8_copyFrom 34 = .ok (.getfield 26, 3) := by decide +kernel
theorem dX8_copyFrom_37 : decode cX8_copyFrom 37 = .ok (.aload_n 1, 1) := by decide +kernel
theorem dX8_copyFrom_38 : decode cX8_copyFrom 38 = .ok (.getfield 26, 3) := by decide +kernel
theorem dX8_copyFrom_41 : decode cX8_copyFrom 41 = .ok (.invokevirtual 36, 3) := by decide +kernel
theorem dX8_copyFrom_44 : decode cX8_copyFrom 44 = .ok (.aload_n 0, 1) := by decide +kernel
theorem dX8_copyFrom_45 : decode cX8_copyFrom 45 = .ok (.getfield 29, 3) := by decide +kernel
theorem dX8_copyFrom_48 : decode cX8_copyFrom 48 = .ok (.aload_n 1, 1) := by decide +kernel
theorem dX8_copyFrom_49 : decode cX8_copyFrom 49 = .ok (.getfield 29, 3) := by decide +kernel
theorem dX8_copyFrom_52 : decode cX8_copyFrom 52 = .ok (.invokevirtual 36, 3) := by decide +kernel
theorem dX8_copyFrom_55 : decode cX8_copyFrom 55 = .ok (.aload_n 0, 1) := by decide +kernel
theorem dX8_copyFrom_56 : decode cX8_copyFrom 56 = .ok (.aload_n 1, 1) := by decide +kernel
theorem dX8_copyFrom_57 : decode cX8_copyFrom 57 = .ok (.getfield 40, 3) := by decide +kernel
theorem dX8_copyFrom_60 : decode cX8_copyFrom 60 = .ok (.putfield 40, 3) := by decide +kernel
theorem dX8_copyFrom_63 : decode cX8_copyFrom 63 = .ok (.return_, 1) := by decide +kernel
theorem dX8_runs_0 : decode cX8_runs 0 = .ok (.aload_n 0, 1) := by decide +kernel
theorem dX8_runs_1 : decode cX8_runs 1 = .ok (.getfield 14, 3) := by decide +kernel
theorem dX8_runs_4 : decode cX8_runs 4 = .ok (.iload_n 1, 1) := by decide +kernel
theorem dX8_runs_5 : decode cX8_runs 5 = .ok (.invokevirtual 44, 3) := by decide +kernel
theorem dX8_runs_8 : decode cX8_runs 8 = .ok (.iconst 1, 1) := by decide +kernel
theorem dX8_runs_9 : decode cX8_runs 9 = .ok (.if_icmp .ne 7, 3) := by decide +kernel
theorem dX8_runs_12 : decode cX8_runs 12 = .ok (.iconst 1, 1) := by decide +kernel
theorem dX8_runs_13 : decode cX8_runs 13 = .ok (.goto 4, 3) := by decide +kernel
theorem dX8_runs_16 : decode cX8_runs 16 = .ok (.iconst 0, 1) := by decide +kernel
theorem dX8_runs_17 : decode cX8_runs 17 = .ok (.ireturn, 1) := by decide +kernel
theorem dX8_waits_0 : decode cX8_waits 0 = .ok (.aload_n 0, 1) := by decide +kernel
theorem dX8_waits_1 : decode cX8_waits 1 = .ok (.getfield 14, 3) := by decide +kernel
theorem dX8_waits_4 : decode cX8_waits 4 = .ok (.iload_n 1, 1) := by decide +kernel
theorem dX8_waits_5 : decode cX8_waits 5 = .ok (.invokevirtual 44, 3) := by decide +kernel
theorem dX8_waits_8 : decode cX8_waits 8 = .ok (.ifCond .ne 7, 3) := by decide +kernel
theorem dX8_waits_11 : decode cX8_waits 11 = .ok (.iconst 1, 1) := by decide +kernel
theorem dX8_waits_12 : decode cX8_waits 12 = .ok (.goto 4, 3) := by decide +kernel
theorem dX8_waits_15 : decode cX8_waits 15 = .ok (.iconst 0, 1) := by decide +kernel
theorem dX8_waits_16 : decode cX8_waits 16 = .ok (.ireturn, 1) := by decide +kernel
theorem dX8_restart_0 : decode cX8_restart 0 = .ok (.iconst 0, 1) := by decide +kernel
theorem dX8_restart_1 : decode cX8_restart 1 = .ok (.istore_n 1, 1) := by decide +kernel
theorem dX8_restart_2 : decode cX8_restart 2 = .ok (.iload_n 1, 1) := by decide +kernel
theorem dX8_restart_3 : decode cX8_restart 3 = .ok (.aload_n 0, 1) := by decide +kernel
theorem dX8_restart_4 : decode cX8_restart 4 = .ok (.getfield 32, 3) := by decide +kernel
theorem dX8_restart_7 : decode cX8_restart 7 = .ok (.getfield 48, 3) := by decide +kernel
theorem dX8_restart_10 : decode cX8_restart 10 = .ok (.if_icmp .ge 48, 3) := by decide +kernel
theorem dX8_restart_13 : decode cX8_restart 13 = .ok (.aload_n 0, 1) := by decide +kernel
theorem dX8_restart_14 : decode cX8_restart 14 = .ok (.iload_n 1, 1) := by decide +kernel
theorem dX8_restart_15 : decode cX8_restart 15 = .ok (.invokevirtual 53, 3) := by decide +kernel
theorem dX8_restart_18 : decode cX8_restart 18 = .ok (.ifCond .ne 11, 3) := by decide +kernel
theorem dX8_restart_21 : decode cX8_restart 21 = .ok (.aload_n 0, 1) := by decide +kernel
theorem dX8_restart_22 : decode cX8_restart 22 = .ok (.iload_n 1, 1) := by decide +kernel
theorem dX8_restart_23 : decode cX8_restart 23 = .ok (.invokevirtual 57, 3) := by decide +kernel
theorem dX8_restart_26 : decode cX8_restart 26 = .ok (.ifCond .eq 8, 3) := by decide +kernel
theorem dX8_restart_29 : decode cX8_restart 29 = .ok (.aload_n 0, 1) := by decide +kernel
theorem dX8_restart_30 : decode cX8_restart 30 = .ok (.iload_n 1, 1) := by decide +kernel
theorem dX8_restart_31 : decode cX8_restart 31 = .ok (.invokevirtual 60, 3) := by decide +kernel
theorem dX8_restart_34 : decode cX8_restart 34 = .ok (.aload_n 0, 1) := by decide +kernel
theorem dX8_restart_35 : decode cX8_restart 35 = .ok (.getfield 14, 3) := by decide +kernel
theorem dX8_restart_38 : decode cX8_restart 38 = .ok (.iload_n 1, 1) := by decide +kernel
theorem dX8_restart_39 : decode cX8_restart 39 = .ok (.iconst 0, 1) := by decide +kernel
theorem dX8_restart_40 : decode cX8_restart 40 = .ok (.invokevirtual 63, 3) := by decide +kernel
theorem dX8_restart_43 : decode cX8_restart 43 = .ok (.aload_n 0, 1) := by decide +kernel
theorem dX8_restart_44 : decode cX8_restart 44 = .ok (.getfield 23, 3) := by decide +kernel
theorem dX8_restart_47 : decode cX8_restart 47 = .ok (.iload_n 1, 1) := by decide +kernel
theorem dX8_restart_48 : decode cX8_restart 48 = .ok (.iconst 0, 1) := by decide +kernel
theorem dX8_restart_49 : decode cX8_restart 49 = .ok (.invokevirtual 63, 3) := by decide +kernel
theorem dX8_restart_52 : decode cX8_restart 52 = .ok (.iinc 1 1, 3) := by decide +kernel
theorem dX8_restart_55 : decode cX8_restart 55 = .ok (.goto (-53), 3) := by decide +kernel
theorem dX8_restart_58 : decode cX8_restart 58 = .ok (.return_, 1) := by decide +kernel
theorem dX8_cut_0 : decode cX8_cut 0 = .ok (.aload_n 0, 1) := by decide +kernel
theorem dX8_cut_1 : decode cX8_cut 1 = .ok (.getfield 14, 3) := by decide +kernel
theorem dX8_cut_4 : decode cX8_cut 4 = .ok (.iload_n 1, 1) := by decide +kernel
theorem dX8_cut_5 : decode cX8_cut 5 = .ok (.iconst 3, 1) := by decide +kernel
theorem dX8_cut_6 : decode cX8_cut 6 = .ok (.invokevirtual 63, 3) := by decide +kernel
theorem dX8_cut_9 : decode cX8_cut 9 = .ok (.aload_n 0, 1) := by decide +kernel
theorem dX8_cut_10 : decode cX8_cut 10 = .ok (.getfield 20, 3) := by decide +kernel
theorem dX8_cut_13 : decode cX8_cut 13 = .ok (.iload_n 1, 1) := by decide +kernel
theorem dX8_cut_14 : decode cX8_cut 14 = .ok (.iconst 0, 1) := by decide +kernel
theorem dX8_cut_15 : decode cX8_cut 15 = .ok (.invokevirtual 63, 3) := by decide +kernel
theorem dX8_cut_18 : decode cX8_cut 18 = .ok (.aload_n 0, 1) := by decide +kernel
theorem dX8_cut_19 : decode cX8_cut 19 = .ok (.getfield 29, 3) := by decide +kernel
theorem dX8_cut_22 : decode cX8_cut 22 = .ok (.iload_n 1, 1) := by decide +kernel
theorem dX8_cut_23 : decode cX8_cut 23 = .ok (.iconst 1, 1) := by decide +kernel
theorem dX8_cut_24 : decode cX8_cut 24 = .ok (.invokevirtual 67, 3) := by decide +kernel
theorem dX8_cut_27 : decode cX8_cut 27 = .ok (.return_, 1) := by decide +kernel
theorem dX8_begin_0 : decode cX8_begin 0 = .ok (.aload_n 0, 1) := by decide +kernel
theorem dX8_begin_1 : decode cX8_begin 1 = .ok (.getfield 14, 3) := by decide +kernel
theorem dX8_begin_4 : decode cX8_begin 4 = .ok (.iload_n 1, 1) := by decide +kernel
theorem dX8_begin_5 : decode cX8_begin 5 = .ok (.iconst 1, 1) := by decide +kernel
theorem dX8_begin_6 : decode cX8_begin 6 = .ok (.invokevirtual 63, 3) := by decide +kernel
theorem dX8_begin_9 : decode cX8_begin 9 = .ok (.aload_n 0, 1) := by decide +kernel
theorem dX8_begin_10 : decode cX8_begin 10 = .ok (.getfield 20, 3) := by decide +kernel
theorem dX8_begin_13 : decode cX8_begin 13 = .ok (.iload_n 1, 1) := by decide +kernel
theorem dX8_begin_14 : decode cX8_begin 14 = .ok (.aload_n 0, 1) := by decide +kernel
theorem dX8_begin_15 : decode cX8_begin 15 = .ok (.getfield 32, 3) := by decide +kernel
theorem dX8_begin_18 : decode cX8_begin 18 = .ok (.getfield 70, 3) := by decide +kernel
theorem dX8_begin_21 : decode cX8_begin 21 = .ok (.iload_n 1, 1) := by decide +kernel
theorem dX8_begin_22 : decode cX8_begin 22 = .ok (.invokevirtual 44, 3) := by decide +kernel
theorem dX8_begin_25 : decode cX8_begin 25 = .ok (.invokevirtual 63, 3) := by decide +kernel
theorem dX8_begin_28 : decode cX8_begin 28 = .ok (.return_, 1) := by decide +kernel
theorem dX8_delay_0 : decode cX8_delay 0 = .ok (.aload_n 0, 1) := by decide +kernel
theorem dX8_delay_1 : decode cX8_delay 1 = .ok (.getfield 23, 3) := by decide +kernel
theorem dX8_delay_4 : decode cX8_delay 4 = .ok (.iload_n 1, 1) := by decide +kernel
theorem dX8_delay_5 : decode cX8_delay 5 = .ok (.iconst 1, 1) := by decide +kernel
theorem dX8_delay_6 : decode cX8_delay 6 = .ok (.invokevirtual 67, 3) := by decide +kernel
theorem dX8_delay_9 : decode cX8_delay 9 = .ok (.aload_n 0, 1) := by decide +kernel
theorem dX8_delay_10 : decode cX8_delay 10 = .ok (.dup, 1) := by decide +kernel
theorem dX8_delay_11 : decode cX8_delay 11 = .ok (.getfield 40, 3) := by decide +kernel
theorem dX8_delay_14 : decode cX8_delay 14 = .ok (.iconst 1, 1) := by decide +kernel
theorem dX8_delay_15 : decode cX8_delay 15 = .ok (.iadd, 1) := by decide +kernel
theorem dX8_delay_16 : decode cX8_delay 16 = .ok (.putfield 40, 3) := by decide +kernel
theorem dX8_delay_19 : decode cX8_delay 19 = .ok (.aload_n 0, 1) := by decide +kernel
theorem dX8_delay_20 : decode cX8_delay 20 = .ok (.getfield 23, 3) := by decide +kernel
theorem dX8_delay_23 : decode cX8_delay 23 = .ok (.iload_n 1, 1) := by decide +kernel
theorem dX8_delay_24 : decode cX8_delay 24 = .ok (.invokevirtual 44, 3) := by decide +kernel
theorem dX8_delay_27 : decode cX8_delay 27 = .ok (.iconst 5, 1) := by decide +kernel
theorem dX8_delay_28 : decode cX8_delay 28 = .ok (.if_icmp .lt 8, 3) := by decide +kernel
theorem dX8_delay_31 : decode cX8_delay 31 = .ok (.aload_n 0, 1) := by decide +kernel
theorem dX8_delay_32 : decode cX8_delay 32 = .ok (.iload_n 1, 1) := by decide +kernel
theorem dX8_delay_33 : decode cX8_delay 33 = .ok (.invokevirtual 60, 3) := by decide +kernel
theorem dX8_delay_36 : decode cX8_delay 36 = .ok (.return_, 1) := by decide +kernel
theorem dX8_goOn_0 : decode cX8_goOn 0 = .ok (.aload_n 0, 1) := by decide +kernel
theorem dX8_goOn_1 : decode cX8_goOn 1 = .ok (.getfield 20, 3) := by decide +kernel
theorem dX8_goOn_4 : decode cX8_goOn 4 = .ok (.iload_n 1, 1) := by decide +kernel
theorem dX8_goOn_5 : decode cX8_goOn 5 = .ok (.iconst (-1), 1) := by decide +kernel
theorem dX8_goOn_6 : decode cX8_goOn 6 = .ok (.invokevirtual 67, 3) := by decide +kernel
theorem dX8_goOn_9 : decode cX8_goOn 9 = .ok (.aload_n 0, 1) := by decide +kernel
theorem dX8_goOn_10 : decode cX8_goOn 10 = .ok (.getfield 20, 3) := by decide +kernel
theorem dX8_goOn_13 : decode cX8_goOn 13 = .ok (.iload_n 1, 1) := by decide +kernel
theorem dX8_goOn_14 : decode cX8_goOn 14 = .ok (.invokevirtual 44, 3) := by decide +kernel
theorem dX8_goOn_17 : decode cX8_goOn 17 = .ok (.ifCond .gt 21, 3) := by decide +kernel
theorem dX8_goOn_20 : decode cX8_goOn 20 = .ok (.aload_n 0, 1) := by decide +kernel
theorem dX8_goOn_21 : decode cX8_goOn 21 = .ok (.getfield 14, 3) := by decide +kernel
theorem dX8_goOn_24 : decode cX8_goOn 24 = .ok (.iload_n 1, 1) := by decide +kernel
theorem dX8_goOn_25 : decode cX8_goOn 25 = .ok (.iconst 2, 1) := by decide +kernel
theorem dX8_goOn_26 : decode cX8_goOn 26 = .ok (.invokevirtual 63, 3) := by decide +kernel
theorem dX8_goOn_29 : decode cX8_goOn 29 = .ok (.aload_n 0, 1) := by decide +kernel
theorem dX8_goOn_30 : decode cX8_goOn 30 = .ok (.getfield 26, 3) := by decide +kernel
theorem dX8_goOn_33 : decode cX8_goOn 33 = .ok (.iload_n 1, 1) := by decide +kernel
theorem dX8_goOn_34 : decode cX8_goOn 34 = .ok (.iconst 1, 1) := by decide +kernel
theorem dX8_goOn_35 : decode cX8_goOn 35 = .ok (.invokevirtual 67, 3) := by decide +kernel
theorem dX8_goOn_38 : decode cX8_goOn 38 = .ok (.return_, 1) := by decide +kernel
theorem dX8_busyTracks_0 : decode cX8_busyTracks 0 = .ok (.iconst 0, 1) := by decide +kernel
theorem dX8_busyTracks_1 : decode cX8_busyTracks 1 = .ok (.istore_n 1, 1) := by decide +kernel
theorem dX8_busyTracks_2 : decode cX8_busyTracks 2 = .ok (.iconst 0, 1) := by decide +kernel
theorem dX8_busyTracks_3 : decode cX8_busyTracks 3 = .ok (.istore_n 2, 1) := by decide +kernel
theorem dX8_busyTracks_4 : decode cX8_busyTracks 4 = .ok (.iload_n 2, 1) := by decide +kernel
theorem dX8_busyTracks_5 : decode cX8_busyTracks 5 = .ok (.aload_n 0, 1) := by decide +kernel
theorem dX8_busyTracks_6 : decode cX8_busyTracks 6 = .ok (.getfield 32, 3) := by decide +kernel
theorem dX8_busyTracks_9 : decode cX8_busyTracks 9 = .ok (.getfield 48, 3) := by decide +kernel
theorem dX8_busyTracks_12 : decode cX8_busyTracks 12 = .ok (.if_icmp .ge 35, 3) := by decide +kernel
theorem dX8_busyTracks_15 : decode cX8_busyTracks 15 = .ok (.aload_n 0, 1) := by decide +kernel
theorem dX8_busyTracks_16 : decode cX8_busyTracks 16 = .ok (.getfield 14, 3) := by decide +kernel
theorem dX8_busyTracks_19 : decode cX8_busyTracks 19 = .ok (.iload_n 2, 1) := by decide +kernel
theorem dX8_busyTracks_20 : decode cX8_busyTracks 20 = .ok (.invokevirtual 44, 3) := by decide +kernel
theorem dX8_busyTracks_23 : decode cX8_busyTracks 23 = .ok (.iconst 1, 1) := by decide +kernel
theorem dX8_busyTracks_24 : decode cX8_busyTracks 24 = .ok (.if_icmp .ne 17, 3) := by decide +kernel
theorem dX8_busyTracks_27 : decode cX8_busyTracks 27 = .ok (.iload_n 1, 1) := by decide +kernel
theorem dX8_busyTracks_28 : decode cX8_busyTracks 28 = .ok (.aload_n 0, 1) := by decide +kernel
theorem dX8_busyTracks_29 : decode cX8_busyTracks 29 = .ok (.getfield 32, 3) := by decide +kernel
theorem dX8_busyTracks_32 : decode cX8_busyTracks 32 = .ok (.getfield 73, 3) := by decide +kernel
theorem dX8_busyTracks_35 : decode cX8_busyTracks 35 = .ok (.iload_n 2, 1) := by decide +kernel
theorem dX8_busyTracks_36 : decode cX8_busyTracks 36 = .ok (.invokevirtual 44, 3) := by decide +kernel
theorem dX8_busyTracks_39 : decode cX8_busyTracks 39 = .ok (.ior, 1) := by decide +kernel
theorem dX8_busyTracks_40 : decode cX8_busyTracks 40 = .ok (.istore_n 1, 1) := by decide +kernel
theorem dX8_busyTracks_41 : decode cX8_busyTracks 41 = .ok (.iinc 2 1, 3) := by decide +kernel
theorem dX8_busyTracks_44 : decode cX8_busyTracks 44 = .ok (.goto (-40), 3) := by decide +kernel
theorem dX8_busyTracks_47 : decode cX8_busyTracks 47 = .ok (.iload_n 1, 1) := by decide +kernel
theorem dX8_busyTracks_48 : decode cX8_busyTracks 48 = .ok (.ireturn, 1) := by decide +kernel
theorem dX8_nextSceneOf_0 : decode cX8_nextSceneOf 0 = .ok (.iconst (-1), 1) := by decide +kernel
theorem dX8_nextSceneOf_1 : decode cX8_nextSceneOf 1 = .ok (.istore_n 2, 1) := by decide +kernel
theorem dX8_nextSceneOf_2 : decode cX8_nextSceneOf 2 = .ok (.iconst 0, 1) := by decide +kernel
theorem dX8_nextSceneOf_3 : decode cX8_nextSceneOf 3 = .ok (.istore_n 3, 1) := by decide +kernel
theorem dX8_nextSceneOf_4 : decode cX8_nextSceneOf 4 = .ok (.iload_n 3, 1) := by decide +kernel
theorem dX8_nextSceneOf_5 : decode cX8_nextSceneOf 5 = .ok (.aload_n 0, 1) := by decide +kernel
theorem dX8_nextSceneOf_6 : decode cX8_nextSceneOf 6 = .ok (.getfield 32, 3) := by decide +kernel
theorem dX8_nextSceneOf_9 : decode cX8_nextSceneOf 9 = .ok (.getfield 48, 3) := by decide +kernel
theorem dX8_nextSceneOf_12 : decode cX8_nextSceneOf 12 = .ok (.if_icmp .ge 64, 3) := by decide +kernel
theorem dX8_nextSceneOf_15 : decode cX8_nextSceneOf 15 = .ok (.aload_n 0, 1) := by decide +kernel
theorem dX8_nextSceneOf_16 : decode cX8_nextSceneOf 16 = .ok (.getfield 14, 3) := by decide +kernel
theorem dX8_nextSceneOf_19 : decode cX8_nextSceneOf 19 = .ok (.iload_n 3, 1) := by decide +kernel
theorem dX8_nextSceneOf_20 : decode cX8_nextSceneOf 20 = .ok (.invokevirtual 44, 3) := by decide +kernel
theorem dX8_nextSceneOf_23 : decode cX8_nextSceneOf 23 = .ok (.ifCond .ne 47, 3) := by decide +kernel
theorem dX8_nextSceneOf_26 : decode cX8_nextSceneOf 26 = .ok (.aload_n 0, 1) := by decide +kernel
theorem dX8_nextSceneOf_27 : decode cX8_nextSceneOf 27 = .ok (.getfield 32, 3) := by decide +kernel
theorem dX8_nextSceneOf_30 : decode cX8_nextSceneOf 30 = .ok (.iload_n 3, 1) := by decide +kernel
theorem dX8_nextSceneOf_31 : decode cX8_nextSceneOf 31 = .ok (.iload_n 1, 1) := by decide +kernel
theorem dX8_nextSceneOf_32 : decode cX8_nextSceneOf 32 = .ok (.invokevirtual 76, 3) := by decide +kernel
theorem dX8_nextSceneOf_35 : decode cX8_nextSceneOf 35 = .ok (.ifCond .eq 35, 3) := by decide +kernel
theorem dX8_nextSceneOf_38 : decode cX8_nextSceneOf 38 = .ok (.iload_n 2, 1) := by decide +kernel
theorem dX8_nextSceneOf_39 : decode cX8_nextSceneOf 39 = .ok (.iconst (-1), 1) := by decide +kernel
theorem dX8_nextSceneOf_40 : decode cX8_nextSceneOf 40 = .ok (.if_icmp .eq 28, 3) := by decide +kernel
theorem dX8_nextSceneOf_43 : decode cX8_nextSceneOf 43 = .ok (.aload_n 0, 1) := by decide +kernel
theorem dX8_nextSceneOf_44 : decode cX8_nextSceneOf 44 = .ok (.getfield 32, 3) := by decide +kernel
theorem dX8_nextSceneOf_47 : decode cX8_nextSceneOf 47 = .ok (.getfield 80, 3) := by decide +kernel
theorem dX8_nextSceneOf_50 : decode cX8_nextSceneOf 50 = .ok (.iload_n 3, 1) := by decide +kernel
theorem dX8_nextSceneOf_51 : decode cX8_nextSceneOf 51 = .ok (.invokevirtual 44, 3) := by decide +kernel
theorem dX8_nextSceneOf_54 : decode cX8_nextSceneOf 54 = .ok (.aload_n 0, 1) := by decide +kernel
theorem dX8_nextSceneOf_55 : decode cX8_nextSceneOf 55 = .ok (.getfield 32, 3) := by decide +kernel
theorem dX8_nextSceneOf_58 : decode cX8_nextSceneOf 58 = .ok (.getfield 80, 3) := by decide +kernel
theorem dX8_nextSceneOf_61 : decode cX8_nextSceneOf 61 = .ok (.iload_n 2, 1) := by decide +kernel
theorem dX8_nextSceneOf_62 : decode cX8_nextSceneOf 62 = .ok (.invokevirtual 44, 3) := by decide +kernel
theorem dX8_nextSceneOf_65 : decode cX8_nextSceneOf 65 = .ok (.if_icmp .ge 5, 3) := by decide +kernel
theorem dX8_nextSceneOf_68 : decode cX8_nextSceneOf 68 = .ok (.iload_n 3, 1) := by decide +kernel
theorem dX8_nextSceneOf_69 : decode cX8_nextSceneOf 69 = .ok (.istore_n 2, 1) := by decide +kernel
theorem dX8_nextSceneOf_70 : decode cX8_nextSceneOf 70 = .ok (.iinc 3 1, 3) := by decide +kernel
theorem dX8_nextSceneOf_73 : decode cX8_nextSceneOf 73 = .ok (.goto (-69), 3) := by decide +kernel
theorem dX8_nextSceneOf_76 : decode cX8_nextSceneOf 76 = .ok (.iload_n 2, 1) := by decide +kernel
theorem dX8_nextSceneOf_77 : decode cX8_nextSceneOf 77 = .ok (.ireturn, 1) := by decide +kernel
theorem dX8_runningWith_0 : decode cX8_runningWith 0 = .ok (.iconst 0, 1) := by decide +kernel
theorem dX8_runningWith_1 : decode cX8_runningWith 1 = .ok (.istore_n 2, 1) := by decide +kernel
theorem dX8_runningWith_2 : decode cX8_runningWith 2 = .ok (.iload_n 2, 1) := by decide +kernel
theorem dX8_runningWith_3 : decode cX8_runningWith 3 = .ok (.aload_n 0, 1) := by decide +kernel
theorem dX8_runningWith_4 : decode cX8_runningWith 4 = .ok (.getfield 32, 3) := by decide +kernel
theorem dX8_runningWith_7 : decode cX8_runningWith 7 = .ok (.getfield 48, 3) := by decide +kernel
theorem dX8_runningWith_10 : decode cX8_runningWith 10 = .ok (.if_icmp .ge 37, 3) := by decide +kernel
theorem dX8_runningWith_13 : decode cX8_runningWith 13 = .ok (.aload_n 0, 1) := by decide +kernel
theorem dX8_runningWith_14 : decode cX8_runningWith 14 = .ok (.getfield 14, 3) := by decide +kernel
theorem dX8_runningWith_17 : decode cX8_runningWith 17 = .ok (.iload_n 2, 1) := by decide +kernel
theorem dX8_runningWith_18 : decode cX8_runningWith 18 = .ok (.invokevirtual 44, 3) := by decide +kernel
theorem dX8_runningWith_21 : decode cX8_runningWith 21 = .ok (.iconst 1, 1) := by decide +kernel
theorem dX8_runningWith_22 : decode cX8_runningWith 22 = .ok (.if_icmp .ne 19, 3) := by decide +kernel
theorem dX8_runningWith_25 : decode cX8_runningWith 25 = .ok (.aload_n 0, 1) := by decide +kernel
theorem dX8_runningWith_26 : decode cX8_runningWith 26 = .ok (.getfield 32, 3) := by decide +kernel
theorem dX8_runningWith_29 : decode cX8_runningWith 29 = .ok (.iload_n 2, 1) := by decide +kernel
theorem dX8_runningWith_30 : decode cX8_runningWith 30 = .ok (.iconst 1, 1) := by decide +kernel
theorem dX8_runningWith_31 : decode cX8_runningWith 31 = .ok (.iload_n 1, 1) := by decide +kernel
theorem dX8_runningWith_32 : decode cX8_runningWith 32 = .ok (.ishl, 1) := by decide +kernel
theorem dX8_runningWith_33 : decode cX8_runningWith 33 = .ok (.invokevirtual 76, 3) := by decide +kernel
theorem dX8_runningWith_36 : decode cX8_runningWith 36 = .ok (.ifCond .eq 5, 3) := by decide +kernel
theorem dX8_runningWith_39 : decode cX8_runningWith 39 = .ok (.iload_n 2, 1) := by decide +kernel
theorem dX8_runningWith_40 : decode cX8_runningWith 40 = .ok (.ireturn, 1) := by decide +kernel
theorem dX8_runningWith_41 : decode cX8_runningWith 41 = .ok (.iinc 2 1, 3) := by decide +kernel
theorem dX8_runningWith_44 : decode cX8_runningWith 44 = .ok (.goto (-42), 3) := by decide +kernel
theorem dX8_runningWith_47 : decode cX8_runningWith 47 = .ok (.iconst (-1), 1) := by decide +kernel
theorem dX8_runningWith_48 : decode cX8_runningWith 48 = .ok (.ireturn, 1) := by decide +kernel
theorem dX8_runningIn_0 : decode cX8_runningIn 0 = .ok (.iconst 0, 1) := by decide +kernel
theorem dX8_runningIn_1 : decode cX8_runningIn 1 = .ok (.istore_n 2, 1) := by decide +kernel
theorem dX8_runningIn_2 : decode cX8_runningIn 2 = .ok (.iconst 0, 1) := by decide +kernel
theorem dX8_runningIn_3 : decode cX8_runningIn 3 = .ok (.istore_n 3, 1) := by decide +kernel
theorem dX8_runningIn_4 : decode cX8_runningIn 4 = .ok (.iload_n 3, 1) := by decide +kernel
theorem dX8_runningIn_5 : decode cX8_runningIn 5 = .ok (.aload_n 0, 1) := by decide +kernel
theorem dX8_runningIn_6 : decode cX8_runningIn 6 = .ok (.getfield 32, 3) := by decide +kernel
theorem dX8_runningIn_9 : decode cX8_runningIn 9 = .ok (.getfield 48, 3) := by decide +kernel
theorem dX8_runningIn_12 : decode cX8_runningIn 12 = .ok (.if_icmp .ge 42, 3) := by decide +kernel
theorem dX8_runningIn_15 : decode cX8_runningIn 15 = .ok (.aload_n 0, 1) := by decide +kernel
theorem dX8_runningIn_16 : decode cX8_runningIn 16 = .ok (.getfield 14, 3) := by decide +kernel
theorem dX8_runningIn_19 : decode cX8_runningIn 19 = .ok (.iload_n 3, 1) := by decide +kernel
theorem dX8_runningIn_20 : decode cX8_runningIn 20 = .ok (.invokevirtual 44, 3) := by decide +kernel
theorem dX8_runningIn_23 : decode cX8_runningIn 23 = .ok (.iconst 1, 1) := by decide +kernel
theorem dX8_runningIn_24 : decode cX8_runningIn 24 = .ok (.if_icmp .ne 24, 3) := by decide +kernel
theorem dX8_runningIn_27 : decode cX8_runningIn 27 = .ok (.aload_n 0, 1) := by decide +kernel
theorem dX8_runningIn_28 : decode cX8_runningIn 28 = .ok (.getfield 32, 3) := by decide +kernel
theorem dX8_runningIn_31 : decode cX8_runningIn 31 = .ok (.getfield 83, 3) := by decide +kernel
theorem dX8_runningIn_34 : decode cX8_runningIn 34 = .ok (.iload_n 3, 1) := by decide +kernel
theorem dX8_runningIn_35 : decode cX8_runningIn 35 = .ok (.invokevirtual 44, 3) := by decide +kernel
theorem dX8_runningIn_38 : decode cX8_runningIn 38 = .ok (.iload_n 1, 1) := by decide +kernel
theorem dX8_runningIn_39 : decode cX8_runningIn 39 = .ok (.if_icmp .ne 9, 3) := by decide +kernel
theorem dX8_runningIn_42 : decode cX8_runningIn 42 = .ok (.iload_n 2, 1) := by decide +kernel
theorem dX8_runningIn_43 : decode cX8_runningIn 43 = .ok (.iconst 1, 1) := by decide +kernel
theorem dX8_runningIn_44 : decode cX8_runningIn 44 = .ok (.iload_n 3, 1) := by decide +kernel
theorem dX8_runningIn_45 : decode cX8_runningIn 45 = .ok (.ishl, 1) := by decide +kernel
theorem dX8_runningIn_46 : decode cX8_runningIn 46 = .ok (.ior, 1) := by decide +kernel
theorem dX8_runningIn_47 : decode cX8_runningIn 47 = .ok (.istore_n 2, 1) := by decide +kernel
theorem dX8_runningIn_48 : decode cX8_runningIn 48 = .ok (.iinc 3 1, 3) := by decide +kernel
theorem dX8_runningIn_51 : decode cX8_runningIn 51 = .ok (.goto (-47), 3) := by decide +kernel
theorem dX8_runningIn_54 : decode cX8_runningIn 54 = .ok (.iload_n 2, 1) := by decide +kernel
theorem dX8_runningIn_55 : decode cX8_runningIn 55 = .ok (.ireturn, 1) := by decide +kernel
theorem dX8_countRunning_0 : decode cX8_countRunning 0 = .ok (.iconst 0, 1) := by decide +kernel
theorem dX8_countRunning_1 : decode cX8_countRunning 1 = .ok (.istore_n 1, 1) := by decide +kernel
theorem dX8_countRunning_2 : decode cX8_countRunning 2 = .ok (.iconst 0, 1) := by decide +kernel
theorem dX8_countRunning_3 : decode cX8_countRunning 3 = .ok (.istore_n 2, 1) := by decide +kernel
theorem dX8_countRunning_4 : decode cX8_countRunning 4 = .ok (.iload_n 2, 1) := by decide +kernel
theorem dX8_countRunning_5 : decode cX8_countRunning 5 = .ok (.aload_n 0, 1) := by decide +kernel
theorem dX8_countRunning_6 : decode cX8_countRunning 6 = .ok (.getfield 32, 3) := by decide +kernel
theorem dX8_countRunning_9 : decode cX8_countRunning 9 = .ok (.getfield 48, 3) := by decide +kernel
theorem dX8_countRunning_12 : decode cX8_countRunning 12 = .ok (.if_icmp .ge 24, 3) := by decide +kernel
theorem dX8_countRunning_15 : decode cX8_countRunning 15 = .ok (.aload_n 0, 1) := by decide +kernel
theorem dX8_countRunning_16 : decode cX8_countRunning 16 = .ok (.getfield 14, 3) := by decide +kernel
theorem dX8_countRunning_19 : decode cX8_countRunning 19 = .ok (.iload_n 2, 1) := by decide +kernel
theorem dX8_countRunning_20 : decode cX8_countRunning 20 = .ok (.invokevirtual 44, 3) := by decide +kernel
theorem dX8_countRunning_23 : decode cX8_countRunning 23 = .ok (.iconst 1, 1) := by decide +kernel
theorem dX8_countRunning_24 : decode cX8_countRunning 24 = .ok (.if_icmp .ne 6, 3) := by decide +kernel
theorem dX8_countRunning_27 : decode cX8_countRunning 27 = .ok (.iinc 1 1, 3) := by decide +kernel
theorem dX8_countRunning_30 : decode cX8_countRunning 30 = .ok (.iinc 2 1, 3) := by decide +kernel
theorem dX8_countRunning_33 : decode cX8_countRunning 33 = .ok (.goto (-29), 3) := by decide +kernel
theorem dX8_countRunning_36 : decode cX8_countRunning 36 = .ok (.iload_n 1, 1) := by decide +kernel
theorem dX8_countRunning_37 : decode cX8_countRunning 37 = .ok (.ireturn, 1) := by decide +kernel
theorem dX9_init_0 : decode cX9_init 0 = .ok (.aload_n 0, 1) := by decide +kernel
theorem dX9_init_1 : decode cX9_init 1 = .ok (.invokespecial 1, 3) := by decide +kernel
theorem dX9_init_4 : decode cX9_init 4 = .ok (.aload_n 0, 1) := by decide +kernel
theorem dX9_init_5 : decode cX9_init 5 = .ok (.new 7, 3) := by decide +kernel
theorem dX9_init_8 : decode cX9_init 8 = .ok (.dup, 1) := by decide +kernel
theorem dX9_init_9 : decode cX9_init 9 = .ok (.invokespecial 9, 3) := by decide +kernel
theorem dX9_init_12 : decode cX9_init 12 = .ok (.putfield 10, 3) := by decide +kernel
theorem dX9_init_15 : decode cX9_init 15 = .ok (.aload_n 0, 1) := by decide +kernel
theorem dX9_init_16 : decode cX9_init 16 = .ok (.new 16, 3) := by decide +kernel
theorem dX9_init_19 : decode cX9_init 19 = .ok (.dup, 1) := by decide +kernel
theorem dX9_init_20 : decode cX9_init 20 = .ok (.invokespecial 18, 3) := by decide +kernel
theorem dX9_init_23 : decode cX9_init 23 = .ok (.putfield 19, 3) := by decide +kernel
theorem dX9_init_26 : decode cX9_init 26 = .ok (.aload_n 0, 1) := by decide +kernel
theorem dX9_init_27 : decode cX9_init 27 = .ok (.new 23, 3) := by decide +kernel
theorem dX9_init_30 : decode cX9_init 30 = .ok (.dup, 1) := by decide +kernel
theorem dX9_init_31 : decode cX9_init 31 = .ok (.aload_n 0, 1) := by decide +kernel
theorem dX9_init_32 : decode cX9_init 32 = .ok (.getfield 10, 3) := by decide +kernel
theorem dX9_init_35 : decode cX9_init 35 = .ok (.aload_n 0, 1) := by decide +kernel
theorem dX9_init_36 : decode cX9_init 36 = .ok (.getfield 19, 3) := by decide +kernel
theorem dX9_init_39 : decode cX9_init 39 = .ok (.invokespecial 25, 3) := by decide +kernel
theorem dX9_init_42 : decode cX9_init 42 = .ok (.putfield 28, 3) := by decide +kernel
theorem dX9_init_45 : decode cX9_init 45 = .ok (.aload_n 0, 1) := by decide +kernel
theorem dX9_init_46 : decode cX9_init 46 = .ok (.new 23, 3) := by decide +kernel
theorem dX9_init_49 : decode cX9_init 49 = .ok (.dup, 1) := by decide +kernel
theorem dX9_init_50 : decode cX9_init 50 = .ok (.aload_n 0, 1) := by decide +kernel
theorem dX9_init_51 : decode cX9_init 51 = .ok (.getfield 10, 3) := by decide +kernel
theorem dX9_init_54 : decode cX9_init 54 = .ok (.aload_n 0, 1) := by decide +kernel
theorem dX9_init_55 : decode cX9_init 55 = .ok (.getfield 19, 3) := by decide +kernel
theorem dX9_init_58 : decode cX9_init 58 = .ok (.invokespecial 25, 3) := by decide +kernel
theorem dX9_init_61 : decode cX9_init 61 = .ok (.putfield 32, 3) := by decide +kernel
theorem dX9_init_64 : decode cX9_init 64 = .ok (.return_, 1) := by decide +kernel
theorem dX9_room_0 : decode cX9_room 0 = .ok (.iload_n 1, 1) := by decide +kernel
theorem dX9_room_1 : decode cX9_room 1 = .ok (.iconst 1, 1) := by decide +kernel
theorem dX9_room_2 : decode cX9_room 2 = .ok (.if_icmp .lt 9, 3) := by decide +kernel
theorem dX9_room_5 : decode cX9_room 5 = .ok (.iload_n 1, 1) := by decide +kernel
theorem dX9_room_6 : decode cX9_room 6 = .ok (.bipush 30, 2) := by decide +kernel
theorem dX9_room_8 : decode cX9_room 8 = .ok (.if_icmp .le 13, 3) := by decide +kernel
theorem dX9_room_11 : decode cX9_room 11 = .ok (.new 35, 3) := by decide +kernel
theorem dX9_room_14 : decode cX9_room 14 = .ok (.dup, 1) := by decide +kernel
theorem dX9_room_15 : decode cX9_room 15 = .ok (.ldc 37, 2) := by decide +kernel
theorem dX9_room_17 : decode cX9_room 17 = .ok (.invokespecial 39, 3) := by decide +kernel
theorem dX9_room_20 : decode cX9_room 20 = .ok (.athrow, 1) := by decide +kernel
theorem dX9_room_21 : decode cX9_room 21 = .ok (.aload_n 0, 1) := by decide +kernel
theorem dX9_room_22 : decode cX9_room 22 = .ok (.getfield 10, 3) := by decide +kernel
theorem dX9_room_25 : decode cX9_room 25 = .ok (.getfield 42, 3) := by decide +kernel
theorem dX9_room_28 : decode cX9_room 28 = .ok (.bipush 8, 2) := by decide +kernel
theorem dX9_room_30 : decode cX9_room 30 = .ok (.if_icmp .lt 13, 3) := by decide +kernel
theorem dX9_room_33 : decode cX9_room 33 = .ok (.new 46, 3) := by decide +kernel
theorem dX9_room_36 : decode cX9_room 36 = .ok (.dup, 1) := by decide +kernel
theorem dX9_room_37 : decode cX9_room 37 = .ok (.ldc 48, 2) := by decide +kernel
theorem dX9_room_39 : decode cX9_room 39 = .ok (.invokespecial 50, 3) := by decide +kernel
theorem dX9_room_42 : decode cX9_room 42 = .ok (.athrow, 1) := by decide +kernel
theorem dX9_room_43 : decode cX9_room 43 = .ok (.aload_n 0, 1) := by decide +kernel
theorem dX9_room_44 : decode cX9_room 44 = .ok (.getfield 10, 3) := by decide +kernel
theorem dX9_room_47 : decode cX9_room 47 = .ok (.iload_n 1, 1) := by decide +kernel
theorem dX9_room_48 : decode cX9_room 48 = .ok (.invokevirtual 51, 3) := by decide +kernel
theorem dX9_room_51 : decode cX9_room 51 = .ok (.ireturn, 1) := by decide +kernel
theorem dX9_door_0 : decode cX9_door 0 = .ok (.aload_n 0, 1) := by decide +kernel
theorem dX9_door_1 : decode cX9_door 1 = .ok (.iload_n 1, 1) := by decide +kernel
theorem dX9_door_2 : decode cX9_door 2 = .ok (.invokevirtual 55, 3) := by decide +kernel
theorem dX9_door_5 : decode cX9_door 5 = .ok (.aload_n 0, 1) := by decide +kernel
theorem dX9_door_6 : decode cX9_door 6 = .ok (.iload_n 2, 1) := by decide +kernel
theorem dX9_door_7 : decode cX9_door 7 = .ok (.invokevirtual 55, 3) := by decide +kernel
theorem dX9_door_10 : decode cX9_door 10 = .ok (.iload_n 1, 1) := by decide +kernel
theorem dX9_door_11 : decode cX9_door 11 = .ok (.iload_n 2, 1) := by decide +kernel
theorem dX9_door_12 : decode cX9_door 12 = .ok (.if_icmp .eq 14, 3) := by decide +kernel
theorem dX9_door_15 : decode cX9_door 15 = .ok (.iload_n 3, 1) := by decide +kernel
theorem dX9_door_16 : decode cX9_door 16 = .ok (.iconst 1, 1) := by decide +kernel
theorem dX9_door_17 : decode cX9_door 17 = .ok (.if_icmp .lt 9, 3) := by decide +kernel
theorem dX9_door_20 : decode cX9_door 20 = .ok (.iload_n 3, 1) := by decide +kernel
theorem dX9_door_21 : decode cX9_door 21 = .ok (.bipush 6, 2) := by decide +kernel
theorem dX9_door_23 : decode cX9_door 23 = .ok (.if_icmp .le 13, 3) := by decide +kernel
theorem dX9_door_26 : decode cX9_door 26 = .ok (.new 35, 3) := by decide +kernel
theorem dX9_door_29 : decode cX9_door 29 = .ok (.dup, 1) := by decide +kernel
theorem dX9_door_30 : decode cX9_door 30 = .ok (.ldc 59, 2) := by decide +kernel
theorem dX9_door_32 : decode cX9_door 32 = .ok (.invokespecial 39, 3) := by decide +kernel
theorem dX9_door_35 : decode cX9_door 35 = .ok (.athrow, 1) := by decide +kernel
theorem dX9_door_36 : decode cX9_door 36 = .ok (.aload_n 0, 1) := by decide +kernel
theorem dX9_door_37 : decode cX9_door 37 = .ok (.getfield 10, 3) := by decide +kernel
theorem dX9_door_40 : decode cX9_door 40 = .ok (.getfield 61, 3) := by decide +kernel
theorem dX9_door_43 : decode cX9_door 43 = .ok (.bipush 14, 2) := by decide +kernel
theorem dX9_door_45 : decode cX9_door 45 = .ok (.if_icmp .ge 19, 3) := by decide +kernel
theorem dX9_door_48 : decode cX9_door 48 = .ok (.aload_n 0, 1) := by decide +kernel
theorem dX9_door_49 : decode cX9_door 49 = .ok (.getfield 10, 3) := by decide +kernel
theorem dX9_door_52 : decode cX9_door 52 = .ok (.getfield 64, 3) := by decide +kernel
theorem dX9_door_55 : decode cX9_door 55 = .ok (.iload_n 1, 1) := by decide +kernel
theorem dX9_door_56 : decode cX9_door 56 = .ok (.iload_n 2, 1) := by decide +kernel
theorem dX9_door_57 : decode cX9_door 57 = .ok (.invokevirtual 68, 3) := by decide +kernel
theorem dX9_door_60 : decode cX9_door 60 = .ok (.iconst (-1), 1) := by decide +kernel
theorem dX9_door_61 : decode cX9_door 61 = .ok (.if_icmp .eq 13, 3) := by decide +kernel
theorem dX9_door_64 : decode cX9_door 64 = .ok (.new 46, 3) := by decide +kernel
theorem dX9_door_67 : decode cX9_door 67 = .ok (.dup, 1) := by decide +kernel
theorem dX9_door_68 : decode cX9_door 68 = .ok (.ldc 74, 2) := by decide +kernel
theorem dX9_door_70 : decode cX9_door 70 = .ok (.invokespecial 50, 3) := by decide +kernel
theorem dX9_door_73 : decode cX9_door 73 = .ok (.athrow, 1) := by decide +kernel
theorem dX9_door_74 : decode cX9_door 74 = .ok (.aload_n 0, 1) := by decide +kernel
theorem dX9_door_75 : decode cX9_door 75 = .ok (.getfield 10, 3) := by decide +kernel
theorem dX9_door_78 : decode cX9_door 78 = .ok (.iload_n 1, 1) := by decide +kernel
theorem dX9_door_79 : decode cX9_door 79 = .ok (.iload_n 2, 1) := by decide +kernel
theorem dX9_door_80 : decode cX9_door 80 = .ok (.iload_n 3, 1) := by decide +kernel
theorem dX9_door_81 : decode cX9_door 81 = .ok (.invokevirtual 76, 3) := by decide +kernel
theorem dX9_door_84 : decode cX9_door 84 = .ok (.ireturn, 1) := by decide +kernel
theorem dX9_track_0 : decode cX9_track 0 = .ok (.aload_n 0, 1) := by decide +kernel
theorem dX9_track_1 : decode cX9_track 1 = .ok (.iload_n 1, 1) := by decide +kernel
theorem dX9_track_2 : decode cX9_track 2 = .ok (.invokevirtual 55, 3) := by decide +kernel
theorem dX9_track_5 : decode cX9_track 5 = .ok (.aload_n 0, 1) := by decide +kernel
theorem dX9_track_6 : decode cX9_track 6 = .ok (.getfield 19, 3) := by decide +kernel
theorem dX9_track_9 : decode cX9_track 9 = .ok (.getfield 80, 3) := by decide +kernel
theorem dX9_track_12 : decode cX9_track 12 = .ok (.iconst 5, 1) := by decide +kernel
theorem dX9_track_13 : decode cX9_track 13 = .ok (.if_icmp .lt 13, 3) := by decide +kernel
theorem dX9_track_16 : decode cX9_track 16 = .ok (.new 46, 3) := by decide +kernel
theorem dX9_track_19 : decode cX9_track 19 = .ok (.dup, 1) := by decide +kernel
theorem dX9_track_20 : decode cX9_track 20 = .ok (.ldc 83, 2) := by decide +kernel
theorem dX9_track_22 : decode cX9_track 22 = .ok (.invokespecial 50, 3) := by decide +kernel
theorem dX9_track_25 : decode cX9_track 25 = .ok (.athrow, 1) := by decide +kernel
theorem dX9_track_26 : decode cX9_track 26 = .ok (.aload_n 0, 1) := by decide +kernel
theorem dX9_track_27 : decode cX9_track 27 = .ok (.getfield 19, 3) := by decide +kernel
theorem dX9_track_30 : decode cX9_track 30 = .ok (.iload_n 1, 1) := by decide +kernel
theorem dX9_track_31 : decode cX9_track 31 = .ok (.invokevirtual 85, 3) := by decide +kernel
theorem dX9_track_34 : decode cX9_track 34 = .ok (.istore_n 2, 1) := by decide +kernel
theorem dX9_track_35 : decode cX9_track 35 = .ok (.aload_n 0, 1) := by decide +kernel
theorem dX9_track_36 : decode cX9_track 36 = .ok (.getfield 28, 3) := by decide +kernel
theorem dX9_track_39 : decode cX9_track 39 = .ok (.getfield 88, 3) := by decide +kernel
theorem dX9_track_42 : decode cX9_track 42 = .ok (.iload_n 2, 1) := by decide +kernel
theorem dX9_track_43 : decode cX9_track 43 = .ok (.iload_n 1, 1) := by decide +kernel
theorem dX9_track_44 : decode cX9_track 44 = .ok (.invokevirtual 92, 3) := by decide +kernel
theorem dX9_track_47 : decode cX9_track 47 = .ok (.iload_n 2, 1) := by decide +kernel
theorem dX9_track_48 : decode cX9_track 48 = .ok (.ireturn, 1) := by decide +kernel
theorem dX9_prop_0 : decode cX9_prop 0 = .ok (.aload_n 0, 1) := by decide +kernel
theorem dX9_prop_1 : decode cX9_prop 1 = .ok (.iload_n 1, 1) := by decide +kernel
theorem dX9_prop_2 : decode cX9_prop 2 = .ok (.invokevirtual 55, 3) := by decide +kernel
theorem dX9_prop_5 : decode cX9_prop 5 = .ok (.aload_n 0, 1) := by decide +kernel
theorem dX9_prop_6 : decode cX9_prop 6 = .ok (.getfield 19, 3) := by decide +kernel
theorem dX9_prop_9 : decode cX9_prop 9 = .ok (.getfield 98, 3) := by decide +kernel
theorem dX9_prop_12 : decode cX9_prop 12 = .ok (.iconst 4, 1) := by decide +kernel
theorem dX9_prop_13 : decode cX9_prop 13 = .ok (.if_icmp .lt 13, 3) := by decide +kernel
theorem dX9_prop_16 : decode cX9_prop 16 = .ok (.new 46, 3) := by decide +kernel
theorem dX9_prop_19 : decode cX9_prop 19 = .ok (.dup, 1) := by decide +kernel
theorem dX9_prop_20 : decode cX9_prop 20 = .ok (.ldc 101, 2) := by decide +kernel
theorem dX9_prop_22 : decode cX9_prop 22 = .ok (.invokespecial 50, 3) := by decide +kernel
theorem dX9_prop_25 : decode cX9_prop 25 = .ok (.athrow, 1) := by decide +kernel
theorem dX9_prop_26 : decode cX9_prop 26 = .ok (.aload_n 0, 1) := by decide +kernel
theorem dX9_prop_27 : decode cX9_prop 27 = .ok (.getfield 19, 3) := by decide +kernel
theorem dX9_prop_30 : decode cX9_prop 30 = .ok (.iload_n 1, 1) := by decide +kernel
theorem dX9_prop_31 : decode cX9_prop 31 = .ok (.invokevirtual 103, 3) := by decide +kernel
theorem dX9_prop_34 : decode cX9_prop 34 = .ok (.istore_n 2, 1) := by decide +kernel
theorem dX9_prop_35 : decode cX9_prop 35 = .ok (.aload_n 0, 1) := by decide +kernel
theorem dX9_prop_36 : decode cX9_prop 36 = .ok (.getfield 28, 3) := by decide +kernel
theorem dX9_prop_39 : decode cX9_prop 39 = .ok (.getfield 106, 3) := by decide +kernel
theorem dX9_prop_42 : decode cX9_prop 42 = .ok (.iload_n 2, 1) := by decide +kernel
theorem dX9_prop_43 : decode cX9_prop 43 = .ok (.iload_n 1, 1) := by decide +kernel
theorem dX9_prop_44 : decode cX9_prop 44 = .ok (.invokevirtual 109, 3) := by decide +kernel
theorem dX9_prop_47 : decode cX9_prop 47 = .ok (.iload_n 2, 1) := by decide +kernel
theorem dX9_prop_48 : decode cX9_prop 48 = .ok (.ireturn, 1) := by decide +kernel
theorem dX9_scene_0 : decode cX9_scene 0 = .ok (.aload_n 0, 1) := by decide +kernel
theorem dX9_scene_1 : decode cX9_scene 1 = .ok (.iload_n 1, 1) := by decide +kernel
theorem dX9_scene_2 : decode cX9_scene 2 = .ok (.invokevirtual 55, 3) := by decide +kernel
theorem dX9_scene_5 : decode cX9_scene 5 = .ok (.iload 5, 2) := by decide +kernel
theorem dX9_scene_7 : decode cX9_scene 7 = .ok (.iconst (-1), 1) := by decide +kernel
theorem dX9_scene_8 : decode cX9_scene 8 = .ok (.if_icmp .eq 9, 3) := by decide +kernel
theorem dX9_scene_11 : decode cX9_scene 11 = .ok (.aload_n 0, 1) := by decide +kernel
theorem dX9_scene_12 : decode cX9_scene 12 = .ok (.iload 5, 2) := by decide +kernel
theorem dX9_scene_14 : decode cX9_scene 14 = .ok (.invokevirtual 114, 3) := by decide +kernel
theorem dX9_scene_17 : decode cX9_scene 17 = .ok (.iload_n 2, 1) := by decide +kernel
theorem dX9_scene_18 : decode cX9_scene 18 = .ok (.iload_n 3, 1) := by decide +kernel
theorem dX9_scene_19 : decode cX9_scene 19 = .ok (.invokestatic 117, 3) := by decide +kernel
theorem dX9_scene_22 : decode cX9_scene 22 = .ok (.aload_n 0, 1) := by decide +kernel
theorem dX9_scene_23 : decode cX9_scene 23 = .ok (.getfield 19, 3) := by decide +kernel
theorem dX9_scene_26 : decode cX9_scene 26 = .ok (.iload 4, 2) := by decide +kernel
theorem dX9_scene_28 : decode cX9_scene 28 = .ok (.invokevirtual 120, 3) := by decide +kernel
theorem dX9_scene_31 : decode cX9_scene 31 = .ok (.ifCond .ne 13, 3) := by decide +kernel
theorem dX9_scene_34 : decode cX9_scene 34 = .ok (.new 35, 3) := by decide +kernel
theorem dX9_scene_37 : decode cX9_scene 37 = .ok (.dup, 1) := by decide +kernel
theorem dX9_scene_38 : decode cX9_scene 38 = .ok (.ldc 124, 2) := by decide +kernel
theorem dX9_scene_40 : decode cX9_scene 40 = .ok (.invokespecial 39, 3) := by decide +kernel
theorem dX9_scene_43 : decode cX9_scene 43 = .ok (.athrow, 1) := by decide +kernel
theorem dX9_scene_44 : decode cX9_scene 44 = .ok (.aload_n 0, 1) := by decide +kernel
theorem dX9_scene_45 : decode cX9_scene 45 = .ok (.getfield 28, 3) := by decide +kernel
theorem dX9_scene_48 : decode cX9_scene 48 = .ok (.getfield 126, 3) := by decide +kernel
theorem dX9_scene_51 : decode cX9_scene 51 = .ok (.ifCond .gt 42, 3) := by decide +kernel
theorem dX9_scene_54 : decode cX9_scene 54 = .ok (.aload_n 0, 1) := by decide +kernel
theorem dX9_scene_55 : decode cX9_scene 55 = .ok (.getfield 19, 3) := by decide +kernel
theorem dX9_scene_58 : decode cX9_scene 58 = .ok (.getfield 129, 3) := by decide +kernel
theorem dX9_scene_61 : decode cX9_scene 61 = .ok (.bipush 12, 2) := by decide +kernel
theorem dX9_scene_63 : decode cX9_scene 63 = .ok (.if_icmp .ge 30, 3) := by decide +kernel
theorem dX9_scene_66 : decode cX9_scene 66 = .ok (.aload_n 0, 1) := by decide +kernel
theorem dX9_scene_67 : decode cX9_scene 67 = .ok (.getfield 19, 3) := by decide +kernel
theorem dX9_scene_70 : decode cX9_scene 70 = .ok (.iload 4, 2) := by decide +kernel
theorem dX9_scene_72 : decode cX9_scene 72 = .ok (.iload_n 2, 1) := by decide +kernel
theorem dX9_scene_73 : decode cX9_scene 73 = .ok (.iload_n 3, 1) := by decide +kernel
theorem dX9_scene_74 : decode cX9_scene 74 = .ok (.invokevirtual 132, 3) := by decide +kernel
theorem dX9_scene_77 : decode cX9_scene 77 = .ok (.ifCond .ne 16, 3) := by decide +kernel
theorem dX9_scene_80 : decode cX9_scene 80 = .ok (.aload_n 0, 1) := by decide +kernel
theorem dX9_scene_81 : decode cX9_scene 81 = .ok (.getfield 28, 3) := by decide +kernel
theorem dX9_scene_84 : decode cX9_scene 84 = .ok (.getfield 88, 3) := by decide +kernel
theorem dX9_scene_87 : decode cX9_scene 87 = .ok (.invokevirtual 136, 3) := by decide +kernel
theorem dX9_scene_90 : decode cX9_scene 90 = .ok (.ifCond .eq 13, 3) := by decide +kernel
theorem dX9_scene_93 : decode cX9_scene 93 = .ok (.new 46, 3) := by decide +kernel
theorem dX9_scene_96 : decode cX9_scene 96 = .ok (.dup, 1) := by decide +kernel
theorem dX9_scene_97 : decode cX9_scene 97 = .ok (.ldc 140, 2) := by decide +kernel
theorem dX9_scene_99 : decode cX9_scene 99 = .ok (.invokespecial 50, 3) := by decide +kernel
theorem dX9_scene_102 : decode cX9_scene 102 = .ok (.athrow, 1) := by decide +kernel
theorem dX9_scene_103 : decode cX9_scene 103 = .ok (.aload_n 0, 1) := by decide +kernel
theorem dX9_scene_104 : decode cX9_scene 104 = .ok (.getfield 19, 3) := by decide +kernel
theorem dX9_scene_107 : decode cX9_scene 107 = .ok (.iload_n 1, 1) := by decide +kernel
theorem dX9_scene_108 : decode cX9_scene 108 = .ok (.iload_n 2, 1) := by decide +kernel
theorem dX9_scene_109 : decode cX9_scene 109 = .ok (.iload_n 3, 1) := by decide +kernel
theorem dX9_scene_110 : decode cX9_scene 110 = .ok (.iload 4, 2) := by decide +kernel
theorem dX9_scene_112 : decode cX9_scene 112 = .ok (.iload 5, 2) := by decide +kernel
theorem dX9_scene_114 : decode cX9_scene 114 = .ok (.invokevirtual 142, 3) := by decide +kernel
theorem dX9_scene_117 : decode cX9_scene 117 = .ok (.ireturn, 1) := by decide +kernel
theorem dX9_guest_0 : decode cX9_guest 0 = .ok (.aload_n 0, 1) := by decide +kernel
theorem dX9_guest_1 : decode cX9_guest 1 = .ok (.iload_n 1, 1) := by decide +kernel
theorem dX9_guest_2 : decode cX9_guest 2 = .ok (.invokevirtual 55, 3) := by decide +kernel
theorem dX9_guest_5 : decode cX9_guest 5 = .ok (.aload_n 0, 1) := by decide +kernel
theorem dX9_guest_6 : decode cX9_guest 6 = .ok (.getfield 28, 3) := by decide +kernel
theorem dX9_guest_9 : decode cX9_guest 9 = .ok (.getfield 146, 3) := by decide +kernel
theorem dX9_guest_12 : decode cX9_guest 12 = .ok (.getfield 150, 3) := by decide +kernel
theorem dX9_guest_15 : decode cX9_guest 15 = .ok (.bipush 12, 2) := by decide +kernel
theorem dX9_guest_17 : decode cX9_guest 17 = .ok (.if_icmp .ge 14, 3) := by decide +kernel
theorem dX9_guest_20 : decode cX9_guest 20 = .ok (.aload_n 0, 1) := by decide +kernel
theorem dX9_guest_21 : decode cX9_guest 21 = .ok (.getfield 28, 3) := by decide +kernel
theorem dX9_guest_24 : decode cX9_guest 24 = .ok (.iload_n 1, 1) := by decide +kernel
theorem dX9_guest_25 : decode cX9_guest 25 = .ok (.invokevirtual 155, 3) := by decide +kernel
theorem dX9_guest_28 : decode cX9_guest 28 = .ok (.ifCond .eq 13, 3) := by decide +kernel
theorem dX9_guest_31 : decode cX9_guest 31 = .ok (.new 46, 3) := by decide +kernel
theorem dX9_guest_34 : decode cX9_guest 34 = .ok (.dup, 1) := by decide +kernel
theorem dX9_guest_35 : decode cX9_guest 35 = .ok (.ldc 158, 2) := by decide +kernel
theorem dX9_guest_37 : decode cX9_guest 37 = .ok (.invokespecial 50, 3) := by decide +kernel
theorem dX9_guest_40 : decode cX9_guest 40 = .ok (.athrow, 1) := by decide +kernel
theorem dX9_guest_41 : decode cX9_guest 41 = .ok (.aload_n 0, 1) := by decide +kernel
theorem dX9_guest_42 : decode cX9_guest 42 = .ok (.getfield 28, 3) := by decide +kernel
theorem dX9_guest_45 : decode cX9_guest 45 = .ok (.getfield 146, 3) := by decide +kernel
theorem dX9_guest_48 : decode cX9_guest 48 = .ok (.iload_n 1, 1) := by decide +kernel
theorem dX9_guest_49 : decode cX9_guest 49 = .ok (.invokevirtual 160, 3) := by decide +kernel
theorem dX9_guest_52 : decode cX9_guest 52 = .ok (.ireturn, 1) := by decide +kernel
theorem dX9_habit_0 : decode cX9_habit 0 = .ok (.aload_n 0, 1) := by decide +kernel
theorem dX9_habit_1 : decode cX9_habit 1 = .ok (.iload_n 1, 1) := by decide +kernel
theorem dX9_habit_2 : decode cX9_habit 2 = .ok (.invokevirtual 162, 3) := by decide +kernel
theorem dX9_habit_5 : decode cX9_habit 5 = .ok (.iload_n 2, 1) := by decide +kernel
theorem dX9_habit_6 : decode cX9_habit 6 = .ok (.iconst 1, 1) := by decide +kernel
theorem dX9_habit_7 : decode cX9_habit 7 = .ok (.if_icmp .ne 8, 3) := by decide +kernel
theorem dX9_habit_10 : decode cX9_habit 10 = .ok (.aload_n 0, 1) := by decide +kernel
theorem dX9_habit_11 : decode cX9_habit 11 = .ok (.iload_n 3, 1) := by decide +kernel
theorem dX9_habit_12 : decode cX9_habit 12 = .ok (.invokevirtual 165, 3) := by decide +kernel
theorem dX9_habit_15 : decode cX9_habit 15 = .ok (.iload_n 2, 1) := by decide +kernel
theorem dX9_habit_16 : decode cX9_habit 16 = .ok (.ifCond .lt 8, 3) := by decide +kernel
theorem dX9_habit_19 : decode cX9_habit 19 = .ok (.iload_n 2, 1) := by decide +kernel
theorem dX9_habit_20 : decode cX9_habit 20 = .ok (.iconst 3, 1) := by decide +kernel
theorem dX9_habit_21 : decode cX9_habit 21 = .ok (.if_icmp .le 13, 3) := by decide +kernel
theorem dX9_habit_24 : decode cX9_habit 24 = .ok (.new 35, 3) := by decide +kernel
theorem dX9_habit_27 : decode cX9_habit 27 = .ok (.dup, 1) := by decide +kernel
theorem dX9_habit_28 : decode cX9_habit 28 = .ok (.ldc 168, 2) := by decide +kernel
theorem dX9_habit_30 : decode cX9_habit 30 = .ok (.invokespecial 39, 3) := by decide +kernel
theorem dX9_habit_33 : decode cX9_habit 33 = .ok (.athrow, 1) := by decide +kernel
theorem dX9_habit_34 : decode cX9_habit 34 = .ok (.aload_n 0, 1) := by decide +kernel
theorem dX9_habit_35 : decode cX9_habit 35 = .ok (.getfield 28, 3) := by decide +kernel
theorem dX9_habit_38 : decode cX9_habit 38 = .ok (.getfield 146, 3) := by decide +kernel
theorem dX9_habit_41 : decode cX9_habit 41 = .ok (.getfield 170, 3) := by decide +kernel
theorem dX9_habit_44 : decode cX9_habit 44 = .ok (.iload_n 1, 1) := by decide +kernel
theorem dX9_habit_45 : decode cX9_habit 45 = .ok (.invokevirtual 174, 3) := by decide +kernel
theorem dX9_habit_48 : decode cX9_habit 48 = .ok (.istore 4, 2) := by decide +kernel
theorem dX9_habit_50 : decode cX9_habit 50 = .ok (.aload_n 0, 1) := by decide +kernel
theorem dX9_habit_51 : decode cX9_habit 51 = .ok (.getfield 28, 3) := by decide +kernel
theorem dX9_habit_54 : decode cX9_habit 54 = .ok (.getfield 146, 3) := by decide +kernel
theorem dX9_habit_57 : decode cX9_habit 57 = .ok (.iload_n 1, 1) := by decide +kernel
theorem dX9_habit_58 : decode cX9_habit 58 = .ok (.iload_n 2, 1) := by decide +kernel
theorem dX9_habit_59 : decode cX9_habit 59 = .ok (.iload_n 3, 1) := by decide +kernel
theorem dX9_habit_60 : decode cX9_habit 60 = .ok (.invokevirtual 178, 3) := by decide +kernel
theorem dX9_habit_63 : decode cX9_habit 63 = .ok (.iload 4, 2) := by decide +kernel
theorem dX9_habit_65 : decode cX9_habit 65 = .ok (.ireturn, 1) := by decide +kernel
theorem dX9_pass_0 : decode cX9_pass 0 = .ok (.iload_n 1, 1) := by decide +kernel
theorem dX9_pass_1 : decode cX9_pass 1 = .ok (.bipush 60, 2) := by decide +kernel
theorem dX9_pass_3 : decode cX9_pass 3 = .ok (.invokestatic 182, 3) := by decide +kernel
theorem dX9_pass_6 : decode cX9_pass 6 = .ok (.aload_n 0, 1) := by decide +kernel
theorem dX9_pass_7 : decode cX9_pass 7 = .ok (.getfield 28, 3) := by decide +kernel
theorem dX9_pass_10 : decode cX9_pass 10 = .ok (.getfield 126, 3) := by decide +kernel
theorem dX9_pass_13 : decode cX9_pass 13 = .ok (.iload_n 1, 1) := by decide +kernel
theorem dX9_pass_14 : decode cX9_pass 14 = .ok (.iadd, 1) := by decide +kernel
theorem dX9_pass_15 : decode cX9_pass 15 = .ok (.sipush 600, 3) := by decide +kernel
theorem dX9_pass_18 : decode cX9_pass 18 = .ok (.if_icmp .le 13, 3) := by decide +kernel
theorem dX9_pass_21 : decode cX9_pass 21 = .ok (.new 46, 3) := by decide +kernel
theorem dX9_pass_24 : decode cX9_pass 24 = .ok (.dup, 1) := by decide +kernel
theorem dX9_pass_25 : decode cX9_pass 25 = .ok (.ldc 185, 2) := by decide +kernel
theorem dX9_pass_27 : decode cX9_pass 27 = .ok (.invokespecial 50, 3) := by decide +kernel
theorem dX9_pass_30 : decode cX9_pass 30 = .ok (.athrow, 1) := by decide +kernel
theorem dX9_pass_31 : decode cX9_pass 31 = .ok (.aload_n 0, 1) := by decide +kernel
theorem dX9_pass_32 : decode cX9_pass 32 = .ok (.getfield 28, 3) := by decide +kernel
theorem dX9_pass_35 : decode cX9_pass 35 = .ok (.getfield 187, 3) := by decide +kernel
theorem dX9_pass_38 : decode cX9_pass 38 = .ok (.getfield 191, 3) := by decide +kernel
theorem dX9_pass_41 : decode cX9_pass 41 = .ok (.invokevirtual 196, 3) := by decide +kernel
theorem dX9_pass_44 : decode cX9_pass 44 = .ok (.istore_n 2, 1) := by decide +kernel
theorem dX9_pass_45 : decode cX9_pass 45 = .ok (.aload_n 0, 1) := by decide +kernel
theorem dX9_pass_46 : decode cX9_pass 46 = .ok (.getfield 28, 3) := by decide +kernel
theorem dX9_pass_49 : decode cX9_pass 49 = .ok (.iload_n 1, 1) := by decide +kernel
theorem dX9_pass_50 : decode cX9_pass 50 = .ok (.invokevirtual 200, 3) := by decide +kernel
theorem dX9_pass_53 : decode cX9_pass 53 = .ok (.aload_n 0, 1) := by decide +kernel
theorem dX9_pass_54 : decode cX9_pass 54 = .ok (.getfield 28, 3) := by decide +kernel
theorem dX9_pass_57 : decode cX9_pass 57 = .ok (.getfield 187, 3) := by decide +kernel
theorem dX9_pass_60 : decode cX9_pass 60 = .ok (.getfield 191, 3) := by decide +kernel
theorem dX9_pass_63 : decode cX9_pass 63 = .ok (.invokevirtual 196, 3) := by decide +kernel
theorem dX9_pass_66 : decode cX9_pass 66 = .ok (.iload_n 2, 1) := by decide +kernel
theorem dX9_pass_67 : decode cX9_pass 67 = .ok (.isub, 1) := by decide +kernel
theorem dX9_pass_68 : decode cX9_pass 68 = .ok (.ireturn, 1) := by decide +kernel
theorem dX9_take_0 : decode cX9_take 0 = .ok (.aload_n 0, 1) := by decide +kernel
theorem dX9_take_1 : decode cX9_take 1 = .ok (.iload_n 1, 1) := by decide +kernel
theorem dX9_take_2 : decode cX9_take 2 = .ok (.invokevirtual 162, 3) := by decide +kernel
theorem dX9_take_5 : decode cX9_take 5 = .ok (.aload_n 0, 1) := by decide +kernel
theorem dX9_take_6 : decode cX9_take 6 = .ok (.iload_n 2, 1) := by decide +kernel
theorem dX9_take_7 : decode cX9_take 7 = .ok (.invokevirtual 114, 3) := by decide +kernel
theorem dX9_take_10 : decode cX9_take 10 = .ok (.aload_n 0, 1) := by decide +kernel
theorem dX9_take_11 : decode cX9_take 11 = .ok (.getfield 28, 3) := by decide +kernel
theorem dX9_take_14 : decode cX9_take 14 = .ok (.iload_n 1, 1) := by decide +kernel
theorem dX9_take_15 : decode cX9_take 15 = .ok (.iload_n 2, 1) := by decide +kernel
theorem dX9_take_16 : decode cX9_take 16 = .ok (.invokevirtual 203, 3) := by decide +kernel
theorem dX9_take_19 : decode cX9_take 19 = .ok (.ifCond .ne 13, 3) := by decide +kernel
theorem dX9_take_22 : decode cX9_take 22 = .ok (.new 46, 3) := by decide +kernel
theorem dX9_take_25 : decode cX9_take 25 = .ok (.dup, 1) := by decide +kernel
theorem dX9_take_26 : decode cX9_take 26 = .ok (.ldc 207, 2) := by decide +kernel
theorem dX9_take_28 : decode cX9_take 28 = .ok (.invokespecial 50, 3) := by decide +kernel
theorem dX9_take_31 : decode cX9_take 31 = .ok (.athrow, 1) := by decide +kernel
theorem dX9_take_32 : decode cX9_take 32 = .ok (.aload_n 0, 1) := by decide +kernel
theorem dX9_take_33 : decode cX9_take 33 = .ok (.getfield 28, 3) := by decide +kernel
theorem dX9_take_36 : decode cX9_take 36 = .ok (.getfield 106, 3) := by decide +kernel
theorem dX9_take_39 : decode cX9_take 39 = .ok (.iload_n 2, 1) := by decide +kernel
theorem dX9_take_40 : decode cX9_take 40 = .ok (.iload_n 1, 1) := by decide +kernel
theorem dX9_take_41 : decode cX9_take 41 = .ok (.invokevirtual 209, 3) := by decide +kernel
theorem dX9_take_44 : decode cX9_take 44 = .ok (.aload_n 0, 1) := by decide +kernel
theorem dX9_take_45 : decode cX9_take 45 = .ok (.getfield 28, 3) := by decide +kernel
theorem dX9_take_48 : decode cX9_take 48 = .ok (.getfield 106, 3) := by decide +kernel
theorem dX9_take_51 : decode cX9_take 51 = .ok (.getfield 212, 3) := by decide +kernel
theorem dX9_take_54 : decode cX9_take 54 = .ok (.iload_n 2, 1) := by decide +kernel
theorem dX9_take_55 : decode cX9_take 55 = .ok (.invokevirtual 174, 3) := by decide +kernel
theorem dX9_take_58 : decode cX9_take 58 = .ok (.invokestatic 215, 3) := by decide +kernel
theorem dX9_take_61 : decode cX9_take 61 = .ok (.ireturn, 1) := by decide +kernel
theorem dX9_leave_0 : decode cX9_leave 0 = .ok (.aload_n 0, 1) := by decide +kernel
theorem dX9_leave_1 : decode cX9_leave 1 = .ok (.iload_n 1, 1) := by decide +kernel
theorem dX9_leave_2 : decode cX9_leave 2 = .ok (.invokevirtual 162, 3) := by decide +kernel
theorem dX9_leave_5 : decode cX9_leave 5 = .ok (.aload_n 0, 1) := by decide +kernel
theorem dX9_leave_6 : decode cX9_leave 6 = .ok (.getfield 28, 3) := by decide +kernel
theorem dX9_leave_9 : decode cX9_leave 9 = .ok (.getfield 106, 3) := by decide +kernel
theorem dX9_leave_12 : decode cX9_leave 12 = .ok (.iload_n 1, 1) := by decide +kernel
theorem dX9_leave_13 : decode cX9_leave 13 = .ok (.invokevirtual 220, 3) := by decide +kernel
theorem dX9_leave_16 : decode cX9_leave 16 = .ok (.istore_n 2, 1) := by decide +kernel
theorem dX9_leave_17 : decode cX9_leave 17 = .ok (.iload_n 2, 1) := by decide +kernel
theorem dX9_leave_18 : decode cX9_leave 18 = .ok (.iconst (-1), 1) := by decide +kernel
theorem dX9_leave_19 : decode cX9_leave 19 = .ok (.if_icmp .ne 13, 3) := by decide +kernel
theorem dX9_leave_22 : decode cX9_leave 22 = .ok (.new 46, 3) := by decide +kernel
theorem dX9_leave_25 : decode cX9_leave 25 = .ok (.dup, 1) := by decide +kernel
theorem dX9_leave_26 : decode cX9_leave 26 = .ok (.ldc 223, 2) := by decide +kernel
theorem dX9_leave_28 : decode cX9_leave 28 = .ok (.invokespecial 50, 3) := by decide +kernel
theorem dX9_leave_31 : decode cX9_leave 31 = .ok (.athrow, 1) := by decide +kernel
theorem dX9_leave_32 : decode cX9_leave 32 = .ok (.aload_n 0, 1) := by decide +kernel
theorem dX9_leave_33 : decode cX9_leave 33 = .ok (.getfield 28, 3) := by decide +kernel
theorem dX9_leave_36 : decode cX9_leave 36 = .ok (.getfield 106, 3) := by decide +kernel
theorem dX9_leave_39 : decode cX9_leave 39 = .ok (.iload_n 2, 1) := by decide +kernel
theorem dX9_leave_40 : decode cX9_leave 40 = .ok (.aload_n 0, 1) := by decide +kernel
theorem dX9_leave_41 : decode cX9_leave 41 = .ok (.getfield 28, 3) := by decide +kernel
theorem dX9_leave_44 : decode cX9_leave 44 = .ok (.getfield 146, 3) := by decide +kernel
theorem dX9_leave_47 : decode cX9_leave 47 = .ok (.getfield 225, 3) := by decide +kernel
theorem dX9_leave_50 : decode cX9_leave 50 = .ok (.iload_n 1, 1) := by decide +kernel
theorem dX9_leave_51 : decode cX9_leave 51 = .ok (.invokevirtual 174, 3) := by decide +kernel
theorem dX9_leave_54 : decode cX9_leave 54 = .ok (.invokevirtual 109, 3) := by decide +kernel
theorem dX9_leave_57 : decode cX9_leave 57 = .ok (.iload_n 2, 1) := by decide +kernel
theorem dX9_leave_58 : decode cX9_leave 58 = .ok (.ireturn, 1) := by decide +kernel
theorem dX9_play_0 : decode cX9_play 0 = .ok (.aload_n 0, 1) := by decide +kernel
theorem dX9_play_1 : decode cX9_play 1 = .ok (.iload_n 1, 1) := by decide +kernel
theorem dX9_play_2 : decode cX9_play 2 = .ok (.invokevirtual 165, 3) := by decide +kernel
theorem dX9_play_5 : decode cX9_play 5 = .ok (.aload_n 0, 1) := by decide +kernel
theorem dX9_play_6 : decode cX9_play 6 = .ok (.iload_n 2, 1) := by decide +kernel
theorem dX9_play_7 : decode cX9_play 7 = .ok (.invokevirtual 165, 3) := by decide +kernel
theorem dX9_play_10 : decode cX9_play 10 = .ok (.iload_n 1, 1) := by decide +kernel
theorem dX9_play_11 : decode cX9_play 11 = .ok (.iload_n 2, 1) := by decide +kernel
theorem dX9_play_12 : decode cX9_play 12 = .ok (.if_icmp .ne 13, 3) := by decide +kernel
theorem dX9_play_15 : decode cX9_play 15 = .ok (.new 35, 3) := by decide +kernel
theorem dX9_play_18 : decode cX9_play 18 = .ok (.dup, 1) := by decide +kernel
theorem dX9_play_19 : decode cX9_play 19 = .ok (.ldc 228, 2) := by decide +kernel
theorem dX9_play_21 : decode cX9_play 21 = .ok (.invokespecial 39, 3) := by decide +kernel
theorem dX9_play_24 : decode cX9_play 24 = .ok (.athrow, 1) := by decide +kernel
theorem dX9_play_25 : decode cX9_play 25 = .ok (.aload_n 0, 1) := by decide +kernel
theorem dX9_play_26 : decode cX9_play 26 = .ok (.getfield 28, 3) := by decide +kernel
theorem dX9_play_29 : decode cX9_play 29 = .ok (.iload_n 1, 1) := by decide +kernel
theorem dX9_play_30 : decode cX9_play 30 = .ok (.iload_n 2, 1) := by decide +kernel
theorem dX9_play_31 : decode cX9_play 31 = .ok (.invokevirtual 230, 3) := by decide +kernel
theorem dX9_play_34 : decode cX9_play 34 = .ok (.ifCond .ne 13, 3) := by decide +kernel
theorem dX9_play_37 : decode cX9_play 37 = .ok (.new 46, 3) := by decide +kernel
theorem dX9_play_40 : decode cX9_play 40 = .ok (.dup, 1) := by decide +kernel
theorem dX9_play_41 : decode cX9_play 41 = .ok (.ldc 233, 2) := by decide +kernel
theorem dX9_play_43 : decode cX9_play 43 = .ok (.invokespecial 50, 3) := by decide +kernel
theorem dX9_play_46 : decode cX9_play 46 = .ok (.athrow, 1) := by decide +kernel
theorem dX9_play_47 : decode cX9_play 47 = .ok (.aload_n 0, 1) := by decide +kernel
theorem dX9_play_48 : decode cX9_play 48 = .ok (.getfield 28, 3) := by decide +kernel
theorem dX9_play_51 : decode cX9_play 51 = .ok (.getfield 88, 3) := by decide +kernel
theorem dX9_play_54 : decode cX9_play 54 = .ok (.iload_n 1, 1) := by decide +kernel
theorem dX9_play_55 : decode cX9_play 55 = .ok (.iload_n 2, 1) := by decide +kernel
theorem dX9_play_56 : decode cX9_play 56 = .ok (.invokevirtual 235, 3) := by decide +kernel
theorem dX9_play_59 : decode cX9_play 59 = .ok (.aload_n 0, 1) := by decide +kernel
theorem dX9_play_60 : decode cX9_play 60 = .ok (.getfield 19, 3) := by decide +kernel
theorem dX9_play_63 : decode cX9_play 63 = .ok (.iconst 1, 1) := by decide +kernel
theorem dX9_play_64 : decode cX9_play 64 = .ok (.iload_n 1, 1) := by decide +kernel
theorem dX9_play_65 : decode cX9_play 65 = .ok (.ishl, 1) := by decide +kernel
theorem dX9_play_66 : decode cX9_play 66 = .ok (.iconst 1, 1) := by decide +kernel
theorem dX9_play_67 : decode cX9_play 67 = .ok (.iload_n 2, 1) := by decide +kernel
theorem dX9_play_68 : decode cX9_play 68 = .ok (.ishl, 1) := by decide +kernel
theorem dX9_play_69 : decode cX9_play 69 = .ok (.ior, 1) := by decide +kernel
theorem dX9_play_70 : decode cX9_play 70 = .ok (.invokevirtual 238, 3) := by decide +kernel
theorem dX9_play_73 : decode cX9_play 73 = .ok (.ireturn, 1) := by decide +kernel
theorem dX9_part_0 : decode cX9_part 0 = .ok (.aload_n 0, 1) := by decide +kernel
theorem dX9_part_1 : decode cX9_part 1 = .ok (.iload_n 1, 1) := by decide +kernel
theorem dX9_part_2 : decode cX9_part 2 = .ok (.invokevirtual 165, 3) := by decide +kernel
theorem dX9_part_5 : decode cX9_part 5 = .ok (.aload_n 0, 1) := by decide +kernel
theorem dX9_part_6 : decode cX9_part 6 = .ok (.getfield 28, 3) := by decide +kernel
theorem dX9_part_9 : decode cX9_part 9 = .ok (.getfield 88, 3) := by decide +kernel
theorem dX9_part_12 : decode cX9_part 12 = .ok (.getfield 241, 3) := by decide +kernel
theorem dX9_part_15 : decode cX9_part 15 = .ok (.iload_n 1, 1) := by decide +kernel
theorem dX9_part_16 : decode cX9_part 16 = .ok (.invokevirtual 174, 3) := by decide +kernel
theorem dX9_part_19 : decode cX9_part 19 = .ok (.istore_n 2, 1) := by decide +kernel
theorem dX9_part_20 : decode cX9_part 20 = .ok (.iload_n 2, 1) := by decide +kernel
theorem dX9_part_21 : decode cX9_part 21 = .ok (.iconst (-1), 1) := by decide +kernel
theorem dX9_part_22 : decode cX9_part 22 = .ok (.if_icmp .eq 24, 3) := by decide +kernel
theorem dX9_part_25 : decode cX9_part 25 = .ok (.aload_n 0, 1) := by decide +kernel
theorem dX9_part_26 : decode cX9_part 26 = .ok (.getfield 28, 3) := by decide +kernel
theorem dX9_part_29 : decode cX9_part 29 = .ok (.getfield 187, 3) := by decide +kernel
theorem dX9_part_32 : decode cX9_part 32 = .ok (.invokevirtual 244, 3) := by decide +kernel
theorem dX9_part_35 : decode cX9_part 35 = .ok (.iconst 1, 1) := by decide +kernel
theorem dX9_part_36 : decode cX9_part 36 = .ok (.iload_n 1, 1) := by decide +kernel
theorem dX9_part_37 : decode cX9_part 37 = .ok (.ishl, 1) := by decide +kernel
theorem dX9_part_38 : decode cX9_part 38 = .ok (.iconst 1, 1) := by decide +kernel
theorem dX9_part_39 : decode cX9_part 39 = .ok (.iload_n 2, 1) := by decide +kernel
theorem dX9_part_40 : decode cX9_part 40 = .ok (.ishl, 1) := by decide +kernel
theorem dX9_part_41 : decode cX9_part 41 = .ok (.ior, 1) := by decide +kernel
theorem dX9_part_42 : decode cX9_part 42 = .ok (.iand, 1) := by decide +kernel
theorem dX9_part_43 : decode cX9_part 43 = .ok (.ifCond .eq 13, 3) := by decide +kernel
theorem dX9_part_46 : decode cX9_part 46 = .ok (.new 46, 3) := by decide +kernel
theorem dX9_part_49 : decode cX9_part 49 = .ok (.dup, 1) := by decide +kernel
theorem dX9_part_50 : decode cX9_part 50 = .ok (.ldc 247, 2) := by decide +kernel
theorem dX9_part_52 : decode cX9_part 52 = .ok (.invokespecial 50, 3) := by decide +kernel
theorem dX9_part_55 : decode cX9_part 55 = .ok (.athrow, 1) := by decide +kernel
theorem dX9_part_56 : decode cX9_part 56 = .ok (.aload_n 0, 1) := by decide +kernel
theorem dX9_part_57 : decode cX9_part 57 = .ok (.getfield 28, 3) := by decide +kernel
theorem dX9_part_60 : decode cX9_part 60 = .ok (.getfield 88, 3) := by decide +kernel
theorem dX9_part_63 : decode cX9_part 63 = .ok (.iload_n 1, 1) := by decide +kernel
theorem dX9_part_64 : decode cX9_part 64 = .ok (.invokevirtual 249, 3) := by decide +kernel
theorem dX9_part_67 : decode cX9_part 67 = .ok (.iload_n 2, 1) := by decide +kernel
theorem dX9_part_68 : decode cX9_part 68 = .ok (.ireturn, 1) := by decide +kernel
theorem dX9_ofRoom_0 : decode cX9_ofRoom 0 = .ok (.aload_n 0, 1) := by decide +kernel
theorem dX9_ofRoom_1 : decode cX9_ofRoom 1 = .ok (.iload_n 1, 1) := by decide +kernel
theorem dX9_ofRoom_2 : decode cX9_ofRoom 2 = .ok (.invokevirtual 55, 3) := by decide +kernel
theorem dX9_ofRoom_5 : decode cX9_ofRoom 5 = .ok (.iload_n 2, 1) := by decide +kernel
theorem dX9_ofRoom_6 : decode cX9_ofRoom 6 = .ok (.iconst 4, 1) := by decide +kernel
theorem dX9_ofRoom_7 : decode cX9_ofRoom 7 = .ok (.invokestatic 252, 3) := by decide +kernel
theorem dX9_ofRoom_10 : decode cX9_ofRoom 10 = .ok (.iload_n 2, 1) := by decide +kernel
theorem dX9_ofRoom_11 : decode cX9_ofRoom 11 = .ok (.tableswitch 80 0 3 #[29, 41, 56, 68], 29) := by decide +kernel
theorem dX9_ofRoom_40 : decode cX9_ofRoom 40 = .ok (.aload_n 0, 1) := by decide +kernel
theorem dX9_ofRoom_41 : decode cX9_ofRoom 41 = .ok (.getfield 10, 3) := by decide +kernel
theorem dX9_ofRoom_44 : decode cX9_ofRoom 44 = .ok (.getfield 255, 3) := by decide +kernel
theorem dX9_ofRoom_47 : decode cX9_ofRoom 47 = .ok (.iload_n 1, 1) := by decide +kernel
theorem dX9_ofRoom_48 : decode cX9_ofRoom 48 = .ok (.invokevirtual 174, 3) := by decide +kernel
theorem dX9_ofRoom_51 : decode cX9_ofRoom 51 = .ok (.ireturn, 1) := by decide +kernel
theorem dX9_ofRoom_52 : decode cX9_ofRoom 52 = .ok (.aload_n 0, 1) := by decide +kernel
theorem dX9_ofRoom_53 : decode cX9_ofRoom 53 = .ok (.getfield 28, 3) := by decide +kernel
theorem dX9_ofRoom_56 : decode cX9_ofRoom 56 = .ok (.getfield 146, 3) := by decide +kernel
theorem dX9_ofRoom_59 : decode cX9_ofRoom 59 = .ok (.getfield 258, 3) := by decide +kernel
theorem dX9_ofRoom_62 : decode cX9_ofRoom 62 = .ok (.iload_n 1, 1) := by decide +kernel
theorem dX9_ofRoom_63 : decode cX9_ofRoom 63 = .ok (.invokevirtual 174, 3) := by decide +kernel
theorem dX9_ofRoom_66 : decode cX9_ofRoom 66 = .ok (.ireturn, 1) := by decide +kernel
theorem dX9_ofRoom_67 : decode cX9_ofRoom 67 = .ok (.aload_n 0, 1) := by decide +kernel
theorem dX9_ofRoom_68 : decode cX9_ofRoom 68 = .ok (.getfield 28, 3) := by decide +kernel
theorem dX9_ofRoom_71 : decode cX9_ofRoom 71 = .ok (.getfield 88, 3) := by decide +kernel
theorem dX9_ofRoom_74 : decode cX9_ofRoom 74 = .ok (.iload_n 1, 1) := by decide +kernel
theorem dX9_ofRoom_75 : decode cX9_ofRoom 75 = .ok (.invokevirtual 261, 3) := by decide +kernel
theorem dX9_ofRoom_78 : decode cX9_ofRoom 78 = .ok (.ireturn, 1) := by decide +kernel
theorem dX9_ofRoom_79 : decode cX9_ofRoom 79 = .ok (.aload_n 0, 1) := by decide +kernel
theorem dX9_ofRoom_80 : decode cX9_ofRoom 80 = .ok (.getfield 28, 3) := by decide +kernel
theorem dX9_ofRoom_83 : decode cX9_ofRoom 83 = .ok (.getfield 187, 3) := by decide +kernel
theorem dX9_ofRoom_86 : decode cX9_ofRoom 86 = .ok (.iload_n 1, 1) := by decide +kernel
theorem dX9_ofRoom_87 : decode cX9_ofRoom 87 = .ok (.invokevirtual 264, 3) := by decide +kernel
theorem dX9_ofRoom_90 : decode cX9_ofRoom 90 = .ok (.ireturn, 1) := by decide +kernel
theorem dX9_ofRoom_91 : decode cX9_ofRoom 91 = .ok (.aload_n 0, 1) := by decide +kernel
theorem dX9_ofRoom_92 : decode cX9_ofRoom 92 = .ok (.getfield 28, 3) := by decide +kernel
theorem dX9_ofRoom_95 : decode cX9_ofRoom 95 = .ok (.getfield 106, 3) := by decide +kernel
theorem dX9_ofRoom_98 : decode cX9_ofRoom 98 = .ok (.iload_n 1, 1) := by decide +kernel
theorem dX9_ofRoom_99 : decode cX9_ofRoom 99 = .ok (.invokevirtual 267, 3) := by decide +kernel
theorem dX9_ofRoom_102 : decode cX9_ofRoom 102 = .ok (.ireturn, 1) := by decide +kernel
theorem dX9_way_0 : decode cX9_way 0 = .ok (.aload_n 0, 1) := by decide +kernel
theorem dX9_way_1 : decode cX9_way 1 = .ok (.iload_n 1, 1) := by decide +kernel
theorem dX9_way_2 : decode cX9_way 2 = .ok (.invokevirtual 55, 3) := by decide +kernel
theorem dX9_way_5 : decode cX9_way 5 = .ok (.aload_n 0, 1) := by decide +kernel
theorem dX9_way_6 : decode cX9_way 6 = .ok (.iload_n 2, 1) := by decide +kernel
theorem dX9_way_7 : decode cX9_way 7 = .ok (.invokevirtual 55, 3) := by decide +kernel
theorem dX9_way_10 : decode cX9_way 10 = .ok (.iload_n 3, 1) := by decide +kernel
theorem dX9_way_11 : decode cX9_way 11 = .ok (.iconst 1, 1) := by decide +kernel
theorem dX9_way_12 : decode cX9_way 12 = .ok (.invokestatic 252, 3) := by decide +kernel
theorem dX9_way_15 : decode cX9_way 15 = .ok (.iload_n 3, 1) := by decide +kernel
theorem dX9_way_16 : decode cX9_way 16 = .ok (.ifCond .ne 18, 3) := by decide +kernel
theorem dX9_way_19 : decode cX9_way 19 = .ok (.aload_n 0, 1) := by decide +kernel
theorem dX9_way_20 : decode cX9_way 20 = .ok (.getfield 10, 3) := by decide +kernel
theorem dX9_way_23 : decode cX9_way 23 = .ok (.getfield 270, 3) := by decide +kernel
theorem dX9_way_26 : decode cX9_way 26 = .ok (.iload_n 1, 1) := by decide +kernel
theorem dX9_way_27 : decode cX9_way 27 = .ok (.iload_n 2, 1) := by decide +kernel
theorem dX9_way_28 : decode cX9_way 28 = .ok (.invokevirtual 68, 3) := by decide +kernel
theorem dX9_way_31 : decode cX9_way 31 = .ok (.goto 15, 3) := by decide +kernel
theorem dX9_way_34 : decode cX9_way 34 = .ok (.aload_n 0, 1) := by decide +kernel
theorem dX9_way_35 : decode cX9_way 35 = .ok (.getfield 10, 3) := by decide +kernel
theorem dX9_way_38 : decode cX9_way 38 = .ok (.getfield 273, 3) := by decide +kernel
theorem dX9_way_41 : decode cX9_way 41 = .ok (.iload_n 1, 1) := by decide +kernel
theorem dX9_way_42 : decode cX9_way 42 = .ok (.iload_n 2, 1) := by decide +kernel
theorem dX9_way_43 : decode cX9_way 43 = .ok (.invokevirtual 68, 3) := by decide +kernel
theorem dX9_way_46 : decode cX9_way 46 = .ok (.ireturn, 1) := by decide +kernel
theorem dX9_ofTrack_0 : decode cX9_ofTrack 0 = .ok (.aload_n 0, 1) := by decide +kernel
theorem dX9_ofTrack_1 : decode cX9_ofTrack 1 = .ok (.iload_n 1, 1) := by decide +kernel
theorem dX9_ofTrack_2 : decode cX9_ofTrack 2 = .ok (.invokevirtual 165, 3) := by decide +kernel
theorem dX9_ofTrack_5 : decode cX9_ofTrack 5 = .ok (.iload_n 2, 1) := by decide +kernel
theorem dX9_ofTrack_6 : decode cX9_ofTrack 6 = .ok (.iconst 4, 1) := by decide +kernel
theorem dX9_ofTrack_7 : decode cX9_ofTrack 7 = .ok (.invokestatic 252, 3) := by decide +kernel
theorem dX9_ofTrack_10 : decode cX9_ofTrack 10 = .ok (.aload_n 0, 1) := by decide +kernel
theorem dX9_ofTrack_11 : decode cX9_ofTrack 11 = .ok (.getfield 28, 3) := by decide +kernel
theorem dX9_ofTrack_14 : decode cX9_ofTrack 14 = .ok (.getfield 88, 3) := by decide +kernel
theorem dX9_ofTrack_17 : decode cX9_ofTrack 17 = .ok (.astore_n 3, 1) := by decide +kernel
theorem dX9_ofTrack_18 : decode cX9_ofTrack 18 = .ok (.iload_n 2, 1) := by decide +kernel
theorem dX9_ofTrack_19 : decode cX9_ofTrack 19 = .ok (.tableswitch 75 0 3 #[29, 38, 50, 66], 29) := by decide +kernel
theorem dX9_ofTrack_48 : decode cX9_ofTrack 48 = .ok (.aload_n 3, 1) := by decide +kernel
theorem dX9_ofTrack_49 : decode cX9_ofTrack 49 = .ok (.getfield 276, 3) := by decide +kernel
theorem dX9_ofTrack_52 : decode cX9_ofTrack 52 = .ok (.iload_n 1, 1) := by decide +kernel
theorem dX9_ofTrack_53 : decode cX9_ofTrack 53 = .ok (.invokevirtual 174, 3) := by decide +kernel
theorem dX9_ofTrack_56 : decode cX9_ofTrack 56 = .ok (.ireturn, 1) := by decide +kernel
theorem dX9_ofTrack_57 : decode cX9_ofTrack 57 = .ok (.aload_n 0, 1) := by decide +kernel
theorem dX9_ofTrack_58 : decode cX9_ofTrack 58 = .ok (.getfield 28, 3) := by decide +kernel
theorem dX9_ofTrack_61 : decode cX9_ofTrack 61 = .ok (.getfield 187, 3) := by decide +kernel
theorem dX9_ofTrack_64 : decode cX9_ofTrack 64 = .ok (.iload_n 1, 1) := by decide +kernel
theorem dX9_ofTrack_65 : decode cX9_ofTrack 65 = .ok (.invokevirtual 277, 3) := by decide +kernel
theorem dX9_ofTrack_68 : decode cX9_ofTrack 68 = .ok (.ireturn, 1) := by decide +kernel
theorem dX9_ofTrack_69 : decode cX9_ofTrack 69 = .ok (.aload_n 0, 1) := by decide +kernel
theorem dX9_ofTrack_70 : decode cX9_ofTrack 70 = .ok (.getfield 28, 3) := by decide +kernel
theorem dX9_ofTrack_73 : decode cX9_ofTrack 73 = .ok (.getfield 187, 3) := by decide +kernel
theorem dX9_ofTrack_76 : decode cX9_ofTrack 76 = .ok (.aload_n 3, 1) := by decide +kernel
theorem dX9_ofTrack_77 : decode cX9_ofTrack 77 = .ok (.iload_n 1, 1) := by decide +kernel
theorem dX9_ofTrack_78 : decode cX9_ofTrack 78 = .ok (.invokevirtual 280, 3) := by decide +kernel
theorem dX9_ofTrack_81 : decode cX9_ofTrack 81 = .ok (.invokevirtual 283, 3) := by decide +kernel
theorem dX9_ofTrack_84 : decode cX9_ofTrack 84 = .ok (.ireturn, 1) := by decide +kernel
theorem dX9_ofTrack_85 : decode cX9_ofTrack 85 = .ok (.aload_n 3, 1) := by decide +kernel
theorem dX9_ofTrack_86 : decode cX9_ofTrack 86 = .ok (.getfield 241, 3) := by decide +kernel
theorem dX9_ofTrack_89 : decode cX9_ofTrack 89 = .ok (.iload_n 1, 1) := by decide +kernel
theorem dX9_ofTrack_90 : decode cX9_ofTrack 90 = .ok (.invokevirtual 174, 3) := by decide +kernel
theorem dX9_ofTrack_93 : decode cX9_ofTrack 93 = .ok (.ireturn, 1) := by decide +kernel
theorem dX9_ofTrack_94 : decode cX9_ofTrack 94 = .ok (.aload_n 3, 1) := by decide +kernel
theorem dX9_ofTrack_95 : decode cX9_ofTrack 95 = .ok (.getfield 286, 3) := by decide +kernel
theorem dX9_ofTrack_98 : decode cX9_ofTrack 98 = .ok (.iload_n 1, 1) := by decide +kernel
theorem dX9_ofTrack_99 : decode cX9_ofTrack 99 = .ok (.invokevirtual 174, 3) := by decide +kernel
theorem dX9_ofTrack_102 : decode cX9_ofTrack 102 = .ok (.ireturn, 1) := by decide +kernel
theorem dX9_ofScene_0 : decode cX9_ofScene 0 = .ok (.aload_n 0, 1) := by decide +kernel
theorem dX9_ofScene_1 : decode cX9_ofScene 1 = .ok (.iload_n 1, 1) := by decide +kernel
theorem dX9_ofScene_2 : decode cX9_ofScene 2 = .ok (.invokevirtual 289, 3) := by decide +kernel
theorem dX9_ofScene_5 : decode cX9_ofScene 5 = .ok (.iload_n 2, 1) := by decide +kernel
theorem dX9_ofScene_6 : decode cX9_ofScene 6 = .ok (.bipush 10, 2) := by decide +kernel
theorem dX9_ofScene_8 : decode cX9_ofScene 8 = .ok (.invokestatic 252, 3) := by decide +kernel
theorem dX9_ofScene_11 : decode cX9_ofScene 11 = .ok (.aload_n 0, 1) := by decide +kernel
theorem dX9_ofScene_12 : decode cX9_ofScene 12 = .ok (.getfield 28, 3) := by decide +kernel
theorem dX9_ofScene_15 : decode cX9_ofScene 15 = .ok (.getfield 187, 3) := by decide +kernel
theorem dX9_ofScene_18 : decode cX9_ofScene 18 = .ok (.astore_n 3, 1) := by decide +kernel
theorem dX9_ofScene_19 : decode cX9_ofScene 19 = .ok (.iload_n 2, 1) := by decide +kernel
theorem dX9_ofScene_20 : decode cX9_ofScene 20 = .ok (.tableswitch 161 0 9 #[56, 68, 80, 92, 104, 116, 125, 134, 143, 152], 56) := by decide +kernel
theorem dX9_ofScene_76 : decode cX9_ofScene 76 = .ok (.aload_n 0, 1) := by decide +kernel
theorem dX9_ofScene_77 : decode cX9_ofScene 77 = .ok (.getfield 19, 3) := by decide +kernel
theorem dX9_ofScene_80 : decode cX9_ofScene 80 = .ok (.getfield 292, 3) := by decide +kernel
theorem dX9_ofScene_83 : decode cX9_ofScene 83 = .ok (.iload_n 1, 1) := by decide +kernel
theorem dX9_ofScene_84 : decode cX9_ofScene 84 = .ok (.invokevirtual 174, 3) := by decide +kernel
theorem dX9_ofScene_87 : decode cX9_ofScene 87 = .ok (.ireturn, 1) := by decide +kernel
theorem dX9_ofScene_88 : decode cX9_ofScene 88 = .ok (.aload_n 0, 1) := by decide +kernel
theorem dX9_ofScene_89 : decode cX9_ofScene 89 = .ok (.getfield 19, 3) := by decide +kernel
theorem dX9_ofScene_92 : decode cX9_ofScene 92 = .ok (.getfield 293, 3) := by decide +kernel
theorem dX9_ofScene_95 : decode cX9_ofScene 95 = .ok (.iload_n 1, 1) := by decide +kernel
theorem dX9_ofScene_96 : decode cX9_ofScene 96 = .ok (.invokevirtual 174, 3) := by decide +kernel
theorem dX9_ofScene_99 : decode cX9_ofScene 99 = .ok (.ireturn, 1) := by decide +kernel
theorem dX9_ofScene_100 : decode cX9_ofScene 100 = .ok (.aload_n 0, 1) := by decide +kernel
theorem dX9_ofScene_101 : decode cX9_ofScene 101 = .ok (.getfield 19, 3) := by decide +kernel
theorem dX9_ofScene_104 : decode cX9_ofScene 104 = .ok (.getfield 296, 3) := by decide +kernel
theorem dX9_ofScene_107 : decode cX9_ofScene 107 = .ok (.iload_n 1, 1) := by decide +kernel
theorem dX9_ofScene_108 : decode cX9_ofScene 108 = .ok (.invokevirtual 174, 3) := by decide +kernel
theorem dX9_ofScene_111 : decode cX9_ofScene 111 = .ok (.ireturn, 1) := by decide +kernel
theorem dX9_ofScene_112 : decode cX9_ofScene 112 = .ok (.aload_n 0, 1) := by decide +kernel
theorem dX9_ofScene_113 : decode cX9_ofScene 113 = .ok (.getfield 19, 3) := by decide +kernel
theorem dX9_ofScene_116 : decode cX9_ofScene 116 = .ok (.getfield 299, 3) := by decide +kernel
theorem dX9_ofScene_119 : decode cX9_ofScene 119 = .ok (.iload_n 1, 1) := by decide +kernel
theorem dX9_ofScene_120 : decode cX9_ofScene 120 = .ok (.invokevirtual 174, 3) := by decide +kernel
theorem dX9_ofScene_123 : decode cX9_ofScene 123 = .ok (.ireturn, 1) := by decide +kernel
theorem dX9_ofScene_124 : decode cX9_ofScene 124 = .ok (.aload_n 0, 1) := by decide +kernel
theorem dX9_ofScene_125 : decode cX9_ofScene 125 = .ok (.getfield 19, 3) := by decide +kernel
theorem dX9_ofScene_128 : decode cX9_ofScene 128 = .ok (.getfield 302, 3) := by decide +kernel
theorem dX9_ofScene_131 : decode cX9_ofScene 131 = .ok (.iload_n 1, 1) := by decide +kernel
theorem dX9_ofScene_132 : decode cX9_ofScene 132 = .ok (.invokevirtual 174, 3) := by decide +kernel
theorem dX9_ofScene_135 : decode cX9_ofScene 135 = .ok (.ireturn, 1) := by decide +kernel
theorem dX9_ofScene_136 : decode cX9_ofScene 136 = .ok (.aload_n 3, 1) := by decide +kernel
theorem dX9_ofScene_137 : decode cX9_ofScene 137 = .ok (.getfield 305, 3) := by decide +kernel
theorem dX9_ofScene_140 : decode cX9_ofScene 140 = .ok (.iload_n 1, 1) := by decide +kernel
theorem dX9_ofScene_141 : decode cX9_ofScene 141 = .ok (.invokevirtual 174, 3) := by decide +kernel
theorem dX9_ofScene_144 : decode cX9_ofScene 144 = .ok (.ireturn, 1) := by decide +kernel
theorem dX9_ofScene_145 : decode cX9_ofScene 145 = .ok (.aload_n 3, 1) := by decide +kernel
theorem dX9_ofScene_146 : decode cX9_ofScene 146 = .ok (.getfield 308, 3) := by decide +kernel
theorem dX9_ofScene_149 : decode cX9_ofScene 149 = .ok (.iload_n 1, 1) := by decide +kernel
theorem dX9_ofScene_150 : decode cX9_ofScene 150 = .ok (.invokevirtual 174, 3) := by decide +kernel
theorem dX9_ofScene_153 : decode cX9_ofScene 153 = .ok (.ireturn, 1) := by decide +kernel
theorem dX9_ofScene_154 : decode cX9_ofScene 154 = .ok (.aload_n 3, 1) := by decide +kernel
theorem dX9_ofScene_155 : decode cX9_ofScene 155 = .ok (.getfield 311, 3) := by decide +kernel
theorem dX9_ofScene_158 : decode cX9_ofScene 158 = .ok (.iload_n 1, 1) := by decide +kernel
theorem dX9_ofScene_159 : decode cX9_ofScene 159 = .ok (.invokevirtual 174, 3) := by decide +kernel
theorem dX9_ofScene_162 : decode cX9_ofScene 162 = .ok (.ireturn, 1) := by decide +kernel
theorem dX9_ofScene_163 : decode cX9_ofScene 163 = .ok (.aload_n 3, 1) := by decide +kernel
theorem dX9_ofScene_164 : decode cX9_ofScene 164 = .ok (.getfield 191, 3) := by decide +kernel
theorem dX9_ofScene_167 : decode cX9_ofScene 167 = .ok (.iload_n 1, 1) := by decide +kernel
theorem dX9_ofScene_168 : decode cX9_ofScene 168 = .ok (.invokevirtual 174, 3) := by decide +kernel
theorem dX9_ofScene_171 : decode cX9_ofScene 171 = .ok (.ireturn, 1) := by decide +kernel
theorem dX9_ofScene_172 : decode cX9_ofScene 172 = .ok (.aload_n 3, 1) := by decide +kernel
theorem dX9_ofScene_173 : decode cX9_ofScene 173 = .ok (.getfield 314, 3) := by decide +kernel
theorem dX9_ofScene_176 : decode cX9_ofScene 176 = .ok (.iload_n 1, 1) := by decide +kernel
theorem dX9_ofScene_177 : decode cX9_ofScene 177 = .ok (.invokevirtual 174, 3) := by decide +kernel
theorem dX9_ofScene_180 : decode cX9_ofScene 180 = .ok (.ireturn, 1) := by decide +kernel
theorem dX9_ofScene_181 : decode cX9_ofScene 181 = .ok (.aload_n 0, 1) := by decide +kernel
theorem dX9_ofScene_182 : decode cX9_ofScene 182 = .ok (.getfield 28, 3) := by decide +kernel
theorem dX9_ofScene_185 : decode cX9_ofScene 185 = .ok (.getfield 146, 3) := by decide +kernel
theorem dX9_ofScene_188 : decode cX9_ofScene 188 = .ok (.iload_n 1, 1) := by decide +kernel
theorem dX9_ofScene_189 : decode cX9_ofScene 189 = .ok (.invokevirtual 317, 3) := by decide +kernel
theorem dX9_ofScene_192 : decode cX9_ofScene 192 = .ok (.ireturn, 1) := by decide +kernel
theorem dX9_ofGuest_0 : decode cX9_ofGuest 0 = .ok (.aload_n 0, 1) := by decide +kernel
theorem dX9_ofGuest_1 : decode cX9_ofGuest 1 = .ok (.iload_n 1, 1) := by decide +kernel
theorem dX9_ofGuest_2 : decode cX9_ofGuest 2 = .ok (.invokevirtual 162, 3) := by decide +kernel
theorem dX9_ofGuest_5 : decode cX9_ofGuest 5 = .ok (.iload_n 2, 1) := by decide +kernel
theorem dX9_ofGuest_6 : decode cX9_ofGuest 6 = .ok (.bipush 6, 2) := by decide +kernel
theorem dX9_ofGuest_8 : decode cX9_ofGuest 8 = .ok (.invokestatic 252, 3) := by decide +kernel
theorem dX9_ofGuest_11 : decode cX9_ofGuest 11 = .ok (.aload_n 0, 1) := by decide +kernel
theorem dX9_ofGuest_12 : decode cX9_ofGuest 12 = .ok (.getfield 28, 3) := by decide +kernel
theorem dX9_ofGuest_15 : decode cX9_ofGuest 15 = .ok (.getfield 146, 3) := by decide +kernel
theorem dX9_ofGuest_18 : decode cX9_ofGuest 18 = .ok (.astore_n 3, 1) := by decide +kernel
theorem dX9_ofGuest_19 : decode cX9_ofGuest 19 = .ok (.iload_n 2, 1) := by decide +kernel
theorem dX9_ofGuest_20 : decode cX9_ofGuest 20 = .ok (.tableswitch 97 0 5 #[40, 49, 58, 67, 79, 88], 40) := by decide +kernel
theorem dX9_ofGuest_60 : decode cX9_ofGuest 60 = .ok (.aload_n 3, 1) := by decide +kernel
theorem dX9_ofGuest_61 : decode cX9_ofGuest 61 = .ok (.getfield 225, 3) := by decide +kernel
theorem dX9_ofGuest_64 : decode cX9_ofGuest 64 = .ok (.iload_n 1, 1) := by decide +kernel
theorem dX9_ofGuest_65 : decode cX9_ofGuest 65 = .ok (.invokevirtual 174, 3) := by decide +kernel
theorem dX9_ofGuest_68 : decode cX9_ofGuest 68 = .ok (.ireturn, 1) := by decide +kernel
theorem dX9_ofGuest_69 : decode cX9_ofGuest 69 = .ok (.aload_n 3, 1) := by decide +kernel
theorem dX9_ofGuest_70 : decode cX9_ofGuest 70 = .ok (.getfield 170, 3) := by decide +kernel
theorem dX9_ofGuest_73 : decode cX9_ofGuest 73 = .ok (.iload_n 1, 1) := by decide +kernel
theorem dX9_ofGuest_74 : decode cX9_ofGuest 74 = .ok (.invokevirtual 174, 3) := by decide +kernel
theorem dX9_ofGuest_77 : decode cX9_ofGuest 77 = .ok (.ireturn, 1) := by decide +kernel
theorem dX9_ofGuest_78 : decode cX9_ofGuest 78 = .ok (.aload_n 3, 1) := by decide +kernel
theorem dX9_ofGuest_79 : decode cX9_ofGuest 79 = .ok (.getfield 320, 3) := by decide +kernel
theorem dX9_ofGuest_82 : decode cX9_ofGuest 82 = .ok (.iload_n 1, 1) := by decide +kernel
theorem dX9_ofGuest_83 : decode cX9_ofGuest 83 = .ok (.invokevirtual 174, 3) := by decide +kernel
theorem dX9_ofGuest_86 : decode cX9_ofGuest 86 = .ok (.ireturn, 1) := by decide +kernel
theorem dX9_ofGuest_87 : decode cX9_ofGuest 87 = .ok (.aload_n 0, 1) := by decide +kernel
theorem dX9_ofGuest_88 : decode cX9_ofGuest 88 = .ok (.getfield 28, 3) := by decide +kernel
theorem dX9_ofGuest_91 : decode cX9_ofGuest 91 = .ok (.getfield 106, 3) := by decide +kernel
theorem dX9_ofGuest_94 : decode cX9_ofGuest 94 = .ok (.iload_n 1, 1) := by decide +kernel
theorem dX9_ofGuest_95 : decode cX9_ofGuest 95 = .ok (.invokevirtual 220, 3) := by decide +kernel
theorem dX9_ofGuest_98 : decode cX9_ofGuest 98 = .ok (.ireturn, 1) := by decide +kernel
theorem dX9_ofGuest_99 : decode cX9_ofGuest 99 = .ok (.aload_n 3, 1) := by decide +kernel
theorem dX9_ofGuest_100 : decode cX9_ofGuest 100 = .ok (.getfield 323, 3) := by decide +kernel
theorem dX9_ofGuest_103 : decode cX9_ofGuest 103 = .ok (.iload_n 1, 1) := by decide +kernel
theorem dX9_ofGuest_104 : decode cX9_ofGuest 104 = .ok (.invokevirtual 174, 3) := by decide +kernel
theorem dX9_ofGuest_107 : decode cX9_ofGuest 107 = .ok (.ireturn, 1) := by decide +kernel
theorem dX9_ofGuest_108 : decode cX9_ofGuest 108 = .ok (.aload_n 3, 1) := by decide +kernel
theorem dX9_ofGuest_109 : decode cX9_ofGuest 109 = .ok (.getfield 326, 3) := by decide +kernel
theorem dX9_ofGuest_112 : decode cX9_ofGuest 112 = .ok (.iload_n 1, 1) := by decide +kernel
theorem dX9_ofGuest_113 : decode cX9_ofGuest 113 = .ok (.invokevirtual 174, 3) := by decide +kernel
theorem dX9_ofGuest_116 : decode cX9_ofGuest 116 = .ok (.ireturn, 1) := by decide +kernel
theorem dX9_ofGuest_117 : decode cX9_ofGuest 117 = .ok (.aload_n 3, 1) := by decide +kernel
theorem dX9_ofGuest_118 : decode cX9_ofGuest 118 = .ok (.getfield 327, 3) := by decide +kernel
theorem dX9_ofGuest_121 : decode cX9_ofGuest 121 = .ok (.iload_n 1, 1) := by decide +kernel
theorem dX9_ofGuest_122 : decode cX9_ofGuest 122 = .ok (.invokevirtual 174, 3) := by decide +kernel
theorem dX9_ofGuest_125 : decode cX9_ofGuest 125 = .ok (.ireturn, 1) := by decide +kernel
theorem dX9_ofProp_0 : decode cX9_ofProp 0 = .ok (.aload_n 0, 1) := by decide +kernel
theorem dX9_ofProp_1 : decode cX9_ofProp 1 = .ok (.iload_n 1, 1) := by decide +kernel
theorem dX9_ofProp_2 : decode cX9_ofProp 2 = .ok (.invokevirtual 114, 3) := by decide +kernel
theorem dX9_ofProp_5 : decode cX9_ofProp 5 = .ok (.iload_n 2, 1) := by decide +kernel
theorem dX9_ofProp_6 : decode cX9_ofProp 6 = .ok (.iconst 4, 1) := by decide +kernel
theorem dX9_ofProp_7 : decode cX9_ofProp 7 = .ok (.invokestatic 252, 3) := by decide +kernel
theorem dX9_ofProp_10 : decode cX9_ofProp 10 = .ok (.iload_n 2, 1) := by decide +kernel
theorem dX9_ofProp_11 : decode cX9_ofProp 11 = .ok (.tableswitch 80 0 3 #[29, 41, 50, 65], 29) := by decide +kernel
theorem dX9_ofProp_40 : decode cX9_ofProp 40 = .ok (.aload_n 0, 1) := by decide +kernel
theorem dX9_ofProp_41 : decode cX9_ofProp 41 = .ok (.getfield 19, 3) := by decide +kernel
theorem dX9_ofProp_44 : decode cX9_ofProp 44 = .ok (.getfield 330, 3) := by decide +kernel
theorem dX9_ofProp_47 : decode cX9_ofProp 47 = .ok (.iload_n 1, 1) := by decide +kernel
theorem dX9_ofProp_48 : decode cX9_ofProp 48 = .ok (.invokevirtual 174, 3) := by decide +kernel
theorem dX9_ofProp_51 : decode cX9_ofProp 51 = .ok (.ireturn, 1) := by decide +kernel
theorem dX9_ofProp_52 : decode cX9_ofProp 52 = .ok (.aload_n 0, 1) := by decide +kernel
theorem dX9_ofProp_53 : decode cX9_ofProp 53 = .ok (.getfield 28, 3) := by decide +kernel
theorem dX9_ofProp_56 : decode cX9_ofProp 56 = .ok (.iload_n 1, 1) := by decide +kernel
theorem dX9_ofProp_57 : decode cX9_ofProp 57 = .ok (.invokevirtual 333, 3) := by decide +kernel
theorem dX9_ofProp_60 : decode cX9_ofProp 60 = .ok (.ireturn, 1) := by decide +kernel
theorem dX9_ofProp_61 : decode cX9_ofProp 61 = .ok (.aload_n 0, 1) := by decide +kernel
theorem dX9_ofProp_62 : decode cX9_ofProp 62 = .ok (.getfield 28, 3) := by decide +kernel
theorem dX9_ofProp_65 : decode cX9_ofProp 65 = .ok (.getfield 106, 3) := by decide +kernel
theorem dX9_ofProp_68 : decode cX9_ofProp 68 = .ok (.getfield 336, 3) := by decide +kernel
theorem dX9_ofProp_71 : decode cX9_ofProp 71 = .ok (.iload_n 1, 1) := by decide +kernel
theorem dX9_ofProp_72 : decode cX9_ofProp 72 = .ok (.invokevirtual 174, 3) := by decide +kernel
theorem dX9_ofProp_75 : decode cX9_ofProp 75 = .ok (.ireturn, 1) := by decide +kernel
theorem dX9_ofProp_76 : decode cX9_ofProp 76 = .ok (.aload_n 0, 1) := by decide +kernel
theorem dX9_ofProp_77 : decode cX9_ofProp 77 = .ok (.getfield 28, 3) := by decide +kernel
theorem dX9_ofProp_80 : decode cX9_ofProp 80 = .ok (.getfield 106, 3) := by decide +kernel
theorem dX9_ofProp_83 : decode cX9_ofProp 83 = .ok (.getfield 339, 3) := by decide +kernel
theorem dX9_ofProp_86 : decode cX9_ofProp 86 = .ok (.iload_n 1, 1) := by decide +kernel
theorem dX9_ofProp_87 : decode cX9_ofProp 87 = .ok (.invokevirtual 174, 3) := by decide +kernel
theorem dX9_ofProp_90 : decode cX9_ofProp 90 = .ok (.ireturn, 1) := by decide +kernel
theorem dX9_ofProp_91 : decode cX9_ofProp 91 = .ok (.aload_n 0, 1) := by decide +kernel
theorem dX9_ofProp_92 : decode cX9_ofProp 92 = .ok (.getfield 28, 3) := by decide +kernel
theorem dX9_ofProp_95 : decode cX9_ofProp 95 = .ok (.getfield 106, 3) := by decide +kernel
theorem dX9_ofProp_98 : decode cX9_ofProp 98 = .ok (.getfield 212, 3) := by decide +kernel
theorem dX9_ofProp_101 : decode cX9_ofProp 101 = .ok (.iload_n 1, 1) := by decide +kernel
theorem dX9_ofProp_102 : decode cX9_ofProp 102 = .ok (.invokevirtual 174, 3) := by decide +kernel
theorem dX9_ofProp_105 : decode cX9_ofProp 105 = .ok (.ireturn, 1) := by decide +kernel
theorem dX9_seen_0 : decode cX9_seen 0 = .ok (.aload_n 0, 1) := by decide +kernel
theorem dX9_seen_1 : decode cX9_seen 1 = .ok (.iload_n 1, 1) := by decide +kernel
theorem dX9_seen_2 : decode cX9_seen 2 = .ok (.invokevirtual 162, 3) := by decide +kernel
theorem dX9_seen_5 : decode cX9_seen 5 = .ok (.aload_n 0, 1) := by decide +kernel
theorem dX9_seen_6 : decode cX9_seen 6 = .ok (.iload_n 2, 1) := by decide +kernel
theorem dX9_seen_7 : decode cX9_seen 7 = .ok (.invokevirtual 289, 3) := by decide +kernel
theorem dX9_seen_10 : decode cX9_seen 10 = .ok (.aload_n 0, 1) := by decide +kernel
theorem dX9_seen_11 : decode cX9_seen 11 = .ok (.getfield 28, 3) := by decide +kernel
theorem dX9_seen_14 : decode cX9_seen 14 = .ok (.getfield 146, 3) := by decide +kernel
theorem dX9_seen_17 : decode cX9_seen 17 = .ok (.getfield 342, 3) := by decide +kernel
theorem dX9_seen_20 : decode cX9_seen 20 = .ok (.iload_n 1, 1) := by decide +kernel
theorem dX9_seen_21 : decode cX9_seen 21 = .ok (.iload_n 2, 1) := by decide +kernel
theorem dX9_seen_22 : decode cX9_seen 22 = .ok (.invokevirtual 68, 3) := by decide +kernel
theorem dX9_seen_25 : decode cX9_seen 25 = .ok (.ireturn, 1) := by decide +kernel
theorem dX9_many_0 : decode cX9_many 0 = .ok (.iload_n 1, 1) := by decide +kernel
theorem dX9_many_1 : decode cX9_many 1 = .ok (.bipush 12, 2) := by decide +kernel
theorem dX9_many_3 : decode cX9_many 3 = .ok (.invokestatic 252, 3) := by decide +kernel
theorem dX9_many_6 : decode cX9_many 6 = .ok (.iload_n 1, 1) := by decide +kernel
theorem dX9_many_7 : decode cX9_many 7 = .ok (.tableswitch 192 0 11 #[61, 69, 77, 85, 93, 101, 109, 120, 131, 145, 159, 170], 61) := by decide +kernel
theorem dX9_many_68 : decode cX9_many 68 = .ok (.aload_n 0, 1) := by decide +kernel
theorem dX9_many_69 : decode cX9_many 69 = .ok (.getfield 28, 3) := by decide +kernel
theorem dX9_many_72 : decode cX9_many 72 = .ok (.getfield 126, 3) := by decide +kernel
theorem dX9_many_75 : decode cX9_many 75 = .ok (.ireturn, 1) := by decide +kernel
theorem dX9_many_76 : decode cX9_many 76 = .ok (.aload_n 0, 1) := by decide +kernel
theorem dX9_many_77 : decode cX9_many 77 = .ok (.getfield 10, 3) := by decide +kernel
theorem dX9_many_80 : decode cX9_many 80 = .ok (.getfield 42, 3) := by decide +kernel
theorem dX9_many_83 : decode cX9_many 83 = .ok (.ireturn, 1) := by decide +kernel
theorem dX9_many_84 : decode cX9_many 84 = .ok (.aload_n 0, 1) := by decide +kernel
theorem dX9_many_85 : decode cX9_many 85 = .ok (.getfield 10, 3) := by decide +kernel
theorem dX9_many_88 : decode cX9_many 88 = .ok (.getfield 61, 3) := by decide +kernel
theorem dX9_many_91 : decode cX9_many 91 = .ok (.ireturn, 1) := by decide +kernel
theorem dX9_many_92 : decode cX9_many 92 = .ok (.aload_n 0, 1) := by decide +kernel
theorem dX9_many_93 : decode cX9_many 93 = .ok (.getfield 19, 3) := by decide +kernel
theorem dX9_many_96 : decode cX9_many 96 = .ok (.getfield 80, 3) := by decide +kernel
theorem dX9_many_99 : decode cX9_many 99 = .ok (.ireturn, 1) := by decide +kernel
theorem dX9_many_100 : decode cX9_many 100 = .ok (.aload_n 0, 1) := by decide +kernel
theorem dX9_many_101 : decode cX9_many 101 = .ok (.getfield 19, 3) := by decide +kernel
theorem dX9_many_104 : decode cX9_many 104 = .ok (.getfield 129, 3) := by decide +kernel
theorem dX9_many_107 : decode cX9_many 107 = .ok (.ireturn, 1) := by decide +kernel
theorem dX9_many_108 : decode cX9_many 108 = .ok (.aload_n 0, 1) := by decide +kernel
theorem dX9_many_109 : decode cX9_many 109 = .ok (.getfield 19, 3) := by decide +kernel
theorem dX9_many_112 : decode cX9_many 112 = .ok (.getfield 98, 3) := by decide +kernel
theorem dX9_many_115 : decode cX9_many 115 = .ok (.ireturn, 1) := by decide +kernel
theorem dX9_many_116 : decode cX9_many 116 = .ok (.aload_n 0, 1) := by decide +kernel
theorem dX9_many_117 : decode cX9_many 117 = .ok (.getfield 28, 3) := by decide +kernel
theorem dX9_many_120 : decode cX9_many 120 = .ok (.getfield 146, 3) := by decide +kernel
theorem dX9_many_123 : decode cX9_many 123 = .ok (.getfield 150, 3) := by decide +kernel
theorem dX9_many_126 : decode cX9_many 126 = .ok (.ireturn, 1) := by decide +kernel
theorem dX9_many_127 : decode cX9_many 127 = .ok (.aload_n 0, 1) := by decide +kernel
theorem dX9_many_128 : decode cX9_many 128 = .ok (.getfield 28, 3) := by decide +kernel
theorem dX9_many_131 : decode cX9_many 131 = .ok (.getfield 187, 3) := by decide +kernel
theorem dX9_many_134 : decode cX9_many 134 = .ok (.invokevirtual 345, 3) := by decide +kernel
theorem dX9_many_137 : decode cX9_many 137 = .ok (.ireturn, 1) := by decide +kernel
theorem dX9_many_138 : decode cX9_many 138 = .ok (.aload_n 0, 1) := by decide +kernel
theorem dX9_many_139 : decode cX9_many 139 = .ok (.getfield 28, 3) := by decide +kernel
theorem dX9_many_142 : decode cX9_many 142 = .ok (.getfield 187, 3) := by decide +kernel
theorem dX9_many_145 : decode cX9_many 145 = .ok (.getfield 191, 3) := by decide +kernel
theorem dX9_many_148 : decode cX9_many 148 = .ok (.invokevirtual 196, 3) := by decide +kernel
theorem dX9_many_151 : decode cX9_many 151 = .ok (.ireturn, 1) := by decide +kernel
theorem dX9_many_152 : decode cX9_many 152 = .ok (.aload_n 0, 1) := by decide +kernel
theorem dX9_many_153 : decode cX9_many 153 = .ok (.getfield 28, 3) := by decide +kernel
theorem dX9_many_156 : decode cX9_many 156 = .ok (.getfield 187, 3) := by decide +kernel
theorem dX9_many_159 : decode cX9_many 159 = .ok (.getfield 314, 3) := by decide +kernel
theorem dX9_many_162 : decode cX9_many 162 = .ok (.invokevirtual 196, 3) := by decide +kernel
theorem dX9_many_165 : decode cX9_many 165 = .ok (.ireturn, 1) := by decide +kernel
theorem dX9_many_166 : decode cX9_many 166 = .ok (.aload_n 0, 1) := by decide +kernel
theorem dX9_many_167 : decode cX9_many 167 = .ok (.getfield 28, 3) := by decide +kernel
theorem dX9_many_170 : decode cX9_many 170 = .ok (.getfield 187, 3) := by decide +kernel
theorem dX9_many_173 : decode cX9_many 173 = .ok (.getfield 348, 3) := by decide +kernel
theorem dX9_many_176 : decode cX9_many 176 = .ok (.ireturn, 1) := by decide +kernel
theorem dX9_many_177 : decode cX9_many 177 = .ok (.aload_n 0, 1) := by decide +kernel
theorem dX9_many_178 : decode cX9_many 178 = .ok (.getfield 19, 3) := by decide +kernel
theorem dX9_many_181 : decode cX9_many 181 = .ok (.getfield 129, 3) := by decide +kernel
theorem dX9_many_184 : decode cX9_many 184 = .ok (.aload_n 0, 1) := by decide +kernel
theorem dX9_many_185 : decode cX9_many 185 = .ok (.getfield 28, 3) := by decide +kernel
theorem dX9_many_188 : decode cX9_many 188 = .ok (.getfield 146, 3) := by decide +kernel
theorem dX9_many_191 : decode cX9_many 191 = .ok (.invokevirtual 351, 3) := by decide +kernel
theorem dX9_many_194 : decode cX9_many 194 = .ok (.invokestatic 215, 3) := by decide +kernel
theorem dX9_many_197 : decode cX9_many 197 = .ok (.isub, 1) := by decide +kernel
theorem dX9_many_198 : decode cX9_many 198 = .ok (.ireturn, 1) := by decide +kernel
theorem dX9_many_199 : decode cX9_many 199 = .ok (.aload_n 0, 1) := by decide +kernel
theorem dX9_many_200 : decode cX9_many 200 = .ok (.getfield 28, 3) := by decide +kernel
theorem dX9_many_203 : decode cX9_many 203 = .ok (.getfield 146, 3) := by decide +kernel
theorem dX9_many_206 : decode cX9_many 206 = .ok (.getfield 327, 3) := by decide +kernel
theorem dX9_many_209 : decode cX9_many 209 = .ok (.invokevirtual 196, 3) := by decide +kernel
theorem dX9_many_212 : decode cX9_many 212 = .ok (.ireturn, 1) := by decide +kernel
theorem dX9_meanKnown_0 : decode cX9_meanKnown 0 = .ok (.aload_n 0, 1) := by decide +kernel
theorem dX9_meanKnown_1 : decode cX9_meanKnown 1 = .ok (.getfield 28, 3) := by decide +kernel
theorem dX9_meanKnown_4 : decode cX9_meanKnown 4 = .ok (.getfield 146, 3) := by decide +kernel
theorem dX9_meanKnown_7 : decode cX9_meanKnown 7 = .ok (.getfield 150, 3) := by decide +kernel
theorem dX9_meanKnown_10 : decode cX9_meanKnown 10 = .ok (.istore_n 1, 1) := by decide +kernel
theorem dX9_meanKnown_11 : decode cX9_meanKnown 11 = .ok (.iload_n 1, 1) := by decide +kernel
theorem dX9_meanKnown_12 : decode cX9_meanKnown 12 = .ok (.ifCond .le 20, 3) := by decide +kernel
theorem dX9_meanKnown_15 : decode cX9_meanKnown 15 = .ok (.aload_n 0, 1) := by decide +kernel
theorem dX9_meanKnown_16 : decode cX9_meanKnown 16 = .ok (.getfield 28, 3) := by decide +kernel
theorem dX9_meanKnown_19 : decode cX9_meanKnown 19 = .ok (.getfield 146, 3) := by decide +kernel
theorem dX9_meanKnown_22 : decode cX9_meanKnown 22 = .ok (.invokevirtual 354, 3) := by decide +kernel
theorem dX9_meanKnown_25 : decode cX9_meanKnown 25 = .ok (.i2d, 1) := by decide +kernel
theorem dX9_meanKnown_26 : decode cX9_meanKnown 26 = .ok (.iload_n 1, 1) := by decide +kernel
theorem dX9_meanKnown_27 : decode cX9_meanKnown 27 = .ok (.i2d, 1) := by decide +kernel
theorem dX9_meanKnown_28 : decode cX9_meanKnown 28 = .ok (.ddiv, 1) := by decide +kernel
theorem dX9_meanKnown_29 : decode cX9_meanKnown 29 = .ok (.goto 4, 3) := by decide +kernel
theorem dX9_meanKnown_32 : decode cX9_meanKnown 32 = .ok (.dconst 0, 1) := by decide +kernel
theorem dX9_meanKnown_33 : decode cX9_meanKnown 33 = .ok (.dreturn, 1) := by decide +kernel
theorem dX9_wouldKnow_0 : decode cX9_wouldKnow 0 = .ok (.aload_n 0, 1) := by decide +kernel
theorem dX9_wouldKnow_1 : decode cX9_wouldKnow 1 = .ok (.iload_n 1, 1) := by decide +kernel
theorem dX9_wouldKnow_2 : decode cX9_wouldKnow 2 = .ok (.invokevirtual 162, 3) := by decide +kernel
theorem dX9_wouldKnow_5 : decode cX9_wouldKnow 5 = .ok (.iload_n 2, 1) := by decide +kernel
theorem dX9_wouldKnow_6 : decode cX9_wouldKnow 6 = .ok (.bipush 40, 2) := by decide +kernel
theorem dX9_wouldKnow_8 : decode cX9_wouldKnow 8 = .ok (.invokestatic 182, 3) := by decide +kernel
theorem dX9_wouldKnow_11 : decode cX9_wouldKnow 11 = .ok (.aload_n 0, 1) := by decide +kernel
theorem dX9_wouldKnow_12 : decode cX9_wouldKnow 12 = .ok (.getfield 32, 3) := by decide +kernel
theorem dX9_wouldKnow_15 : decode cX9_wouldKnow 15 = .ok (.aload_n 0, 1) := by decide +kernel
theorem dX9_wouldKnow_16 : decode cX9_wouldKnow 16 = .ok (.getfield 28, 3) := by decide +kernel
theorem dX9_wouldKnow_19 : decode cX9_wouldKnow 19 = .ok (.invokevirtual 357, 3) := by decide +kernel
theorem dX9_wouldKnow_22 : decode cX9_wouldKnow 22 = .ok (.aload_n 0, 1) := by decide +kernel
theorem dX9_wouldKnow_23 : decode cX9_wouldKnow 23 = .ok (.getfield 32, 3) := by decide +kernel
theorem dX9_wouldKnow_26 : decode cX9_wouldKnow 26 = .ok (.iload_n 2, 1) := by decide +kernel
theorem dX9_wouldKnow_27 : decode cX9_wouldKnow 27 = .ok (.invokevirtual 200, 3) := by decide +kernel
theorem dX9_wouldKnow_30 : decode cX9_wouldKnow 30 = .ok (.aload_n 0, 1) := by decide +kernel
theorem dX9_wouldKnow_31 : decode cX9_wouldKnow 31 = .ok (.getfield 32, 3) := by decide +kernel
theorem dX9_wouldKnow_34 : decode cX9_wouldKnow 34 = .ok (.getfield 146, 3) := by decide +kernel
theorem dX9_wouldKnow_37 : decode cX9_wouldKnow 37 = .ok (.iload_n 1, 1) := by decide +kernel
theorem dX9_wouldKnow_38 : decode cX9_wouldKnow 38 = .ok (.invokevirtual 361, 3) := by decide +kernel
theorem dX9_wouldKnow_41 : decode cX9_wouldKnow 41 = .ok (.ireturn, 1) := by decide +kernel
theorem dX9_bestHabit_0 : decode cX9_bestHabit 0 = .ok (.aload_n 0, 1) := by decide +kernel
theorem dX9_bestHabit_1 : decode cX9_bestHabit 1 = .ok (.iload_n 1, 1) := by decide +kernel
theorem dX9_bestHabit_2 : decode cX9_bestHabit 2 = .ok (.invokevirtual 162, 3) := by decide +kernel
theorem dX9_bestHabit_5 : decode cX9_bestHabit 5 = .ok (.iload_n 2, 1) := by decide +kernel
theorem dX9_bestHabit_6 : decode cX9_bestHabit 6 = .ok (.bipush 40, 2) := by decide +kernel
theorem dX9_bestHabit_8 : decode cX9_bestHabit 8 = .ok (.invokestatic 182, 3) := by decide +kernel
theorem dX9_bestHabit_11 : decode cX9_bestHabit 11 = .ok (.iconst (-1), 1) := by decide +kernel
theorem dX9_bestHabit_12 : decode cX9_bestHabit 12 = .ok (.istore_n 3, 1) := by decide +kernel
theorem dX9_bestHabit_13 : decode cX9_bestHabit 13 = .ok (.iconst (-1), 1) := by decide +kernel
theorem dX9_bestHabit_14 : decode cX9_bestHabit 14 = .ok (.istore 4, 2) := by decide +kernel
theorem dX9_bestHabit_16 : decode cX9_bestHabit 16 = .ok (.iconst 0, 1) := by decide +kernel
theorem dX9_bestHabit_17 : decode cX9_bestHabit 17 = .ok (.istore 5, 2) := by decide +kernel
theorem dX9_bestHabit_19 : decode cX9_bestHabit 19 = .ok (.iload 5, 2) := by decide +kernel
theorem dX9_bestHabit_21 : decode cX9_bestHabit 21 = .ok (.bipush 10, 2) := by decide +kernel
theorem dX9_bestHabit_23 : decode cX9_bestHabit 23 = .ok (.aload_n 0, 1) := by decide +kernel
theorem dX9_bestHabit_24 : decode cX9_bestHabit 24 = .ok (.getfield 19, 3) := by decide +kernel
theorem dX9_bestHabit_27 : decode cX9_bestHabit 27 = .ok (.getfield 80, 3) := by decide +kernel
theorem dX9_bestHabit_30 : decode cX9_bestHabit 30 = .ok (.iadd, 1) := by decide +kernel
theorem dX9_bestHabit_31 : decode cX9_bestHabit 31 = .ok (.if_icmp .ge 84, 3) := by decide +kernel
theorem dX9_bestHabit_34 : decode cX9_bestHabit 34 = .ok (.iload 5, 2) := by decide +kernel
theorem dX9_bestHabit_36 : decode cX9_bestHabit 36 = .ok (.invokestatic 364, 3) := by decide +kernel
theorem dX9_bestHabit_39 : decode cX9_bestHabit 39 = .ok (.ifCond .eq 70, 3) := by decide +kernel
theorem dX9_bestHabit_42 : decode cX9_bestHabit 42 = .ok (.aload_n 0, 1) := by decide +kernel
theorem dX9_bestHabit_43 : decode cX9_bestHabit 43 = .ok (.getfield 32, 3) := by decide +kernel
theorem dX9_bestHabit_46 : decode cX9_bestHabit 46 = .ok (.aload_n 0, 1) := by decide +kernel
theorem dX9_bestHabit_47 : decode cX9_bestHabit 47 = .ok (.getfield 28, 3) := by decide +kernel
theorem dX9_bestHabit_50 : decode cX9_bestHabit 50 = .ok (.invokevirtual 357, 3) := by decide +kernel
theorem dX9_bestHabit_53 : decode cX9_bestHabit 53 = .ok (.aload_n 0, 1) := by decide +kernel
theorem dX9_bestHabit_54 : decode cX9_bestHabit 54 = .ok (.getfield 32, 3) := by decide +kernel
theorem dX9_bestHabit_57 : decode cX9_bestHabit 57 = .ok (.getfield 146, 3) := by decide +kernel
theorem dX9_bestHabit_60 : decode cX9_bestHabit 60 = .ok (.iload_n 1, 1) := by decide +kernel
theorem dX9_bestHabit_61 : decode cX9_bestHabit 61 = .ok (.iload 5, 2) := by decide +kernel
theorem dX9_bestHabit_63 : decode cX9_bestHabit 63 = .ok (.invokestatic 367, 3) := by decide +kernel
theorem dX9_bestHabit_66 : decode cX9_bestHabit 66 = .ok (.iload 5, 2) := by decide +kernel
theorem dX9_bestHabit_68 : decode cX9_bestHabit 68 = .ok (.bipush 10, 2) := by decide +kernel
theorem dX9_bestHabit_70 : decode cX9_bestHabit 70 = .ok (.isub, 1) := by decide +kernel
theorem dX9_bestHabit_71 : decode cX9_bestHabit 71 = .ok (.invokevirtual 178, 3) := by decide +kernel
theorem dX9_bestHabit_74 : decode cX9_bestHabit 74 = .ok (.aload_n 0, 1) := by decide +kernel
theorem dX9_bestHabit_75 : decode cX9_bestHabit 75 = .ok (.getfield 32, 3) := by decide +kernel
theorem dX9_bestHabit_78 : decode cX9_bestHabit 78 = .ok (.iload_n 2, 1) := by decide +kernel
theorem dX9_bestHabit_79 : decode cX9_bestHabit 79 = .ok (.invokevirtual 200, 3) := by decide +kernel
theorem dX9_bestHabit_82 : decode cX9_bestHabit 82 = .ok (.aload_n 0, 1) := by decide +kernel
theorem dX9_bestHabit_83 : decode cX9_bestHabit 83 = .ok (.getfield 32, 3) := by decide +kernel
theorem dX9_bestHabit_86 : decode cX9_bestHabit 86 = .ok (.getfield 146, 3) := by decide +kernel
theorem dX9_bestHabit_89 : decode cX9_bestHabit 89 = .ok (.iload_n 1, 1) := by decide +kernel
theorem dX9_bestHabit_90 : decode cX9_bestHabit 90 = .ok (.invokevirtual 361, 3) := by decide +kernel
theorem dX9_bestHabit_93 : decode cX9_bestHabit 93 = .ok (.istore 6, 2) := by decide +kernel
theorem dX9_bestHabit_95 : decode cX9_bestHabit 95 = .ok (.iload 6, 2) := by decide +kernel
theorem dX9_bestHabit_97 : decode cX9_bestHabit 97 = .ok (.iload 4, 2) := by decide +kernel
theorem dX9_bestHabit_99 : decode cX9_bestHabit 99 = .ok (.if_icmp .le 10, 3) := by decide +kernel
theorem dX9_bestHabit_102 : decode cX9_bestHabit 102 = .ok (.iload 5, 2) := by decide +kernel
theorem dX9_bestHabit_104 : decode cX9_bestHabit 104 = .ok (.istore_n 3, 1) := by decide +kernel
theorem dX9_bestHabit_105 : decode cX9_bestHabit 105 = .ok (.iload 6, 2) := by decide +kernel
theorem dX9_bestHabit_107 : decode cX9_bestHabit 107 = .ok (.istore 4, 2) := by decide +kernel
theorem dX9_bestHabit_109 : decode cX9_bestHabit 109 = .ok (.iinc 5 1, 3) := by decide +kernel
theorem dX9_bestHabit_112 : decode cX9_bestHabit 112 = .ok (.goto (-93), 3) := by decide +kernel
theorem dX9_bestHabit_115 : decode cX9_bestHabit 115 = .ok (.iload_n 3, 1) := by decide +kernel
theorem dX9_bestHabit_116 : decode cX9_bestHabit 116 = .ok (.ireturn, 1) := by decide +kernel
theorem dX9_wouldCut_0 : decode cX9_wouldCut 0 = .ok (.iload_n 1, 1) := by decide +kernel
theorem dX9_wouldCut_1 : decode cX9_wouldCut 1 = .ok (.bipush 40, 2) := by decide +kernel
theorem dX9_wouldCut_3 : decode cX9_wouldCut 3 = .ok (.invokestatic 182, 3) := by decide +kernel
theorem dX9_wouldCut_6 : decode cX9_wouldCut 6 = .ok (.aload_n 0, 1) := by decide +kernel
theorem dX9_wouldCut_7 : decode cX9_wouldCut 7 = .ok (.getfield 32, 3) := by decide +kernel
theorem dX9_wouldCut_10 : decode cX9_wouldCut 10 = .ok (.aload_n 0, 1) := by decide +kernel
theorem dX9_wouldCut_11 : decode cX9_wouldCut 11 = .ok (.getfield 28, 3) := by decide +kernel
theorem dX9_wouldCut_14 : decode cX9_wouldCut 14 = .ok (.invokevirtual 357, 3) := by decide +kernel
theorem dX9_wouldCut_17 : decode cX9_wouldCut 17 = .ok (.aload_n 0, 1) := by decide +kernel
theorem dX9_wouldCut_18 : decode cX9_wouldCut 18 = .ok (.getfield 32, 3) := by decide +kernel
theorem dX9_wouldCut_21 : decode cX9_wouldCut 21 = .ok (.iload_n 1, 1) := by decide +kernel
theorem dX9_wouldCut_22 : decode cX9_wouldCut 22 = .ok (.invokevirtual 200, 3) := by decide +kernel
theorem dX9_wouldCut_25 : decode cX9_wouldCut 25 = .ok (.aload_n 0, 1) := by decide +kernel
theorem dX9_wouldCut_26 : decode cX9_wouldCut 26 = .ok (.invokevirtual 370, 3) := by decide +kernel
theorem dX9_wouldCut_29 : decode cX9_wouldCut 29 = .ok (.ireturn, 1) := by decide +kernel
theorem dX9_doubles_0 : decode cX9_doubles 0 = .ok (.aload_n 0, 1) := by decide +kernel
theorem dX9_doubles_1 : decode cX9_doubles 1 = .ok (.iload_n 1, 1) := by decide +kernel
theorem dX9_doubles_2 : decode cX9_doubles 2 = .ok (.invokevirtual 165, 3) := by decide +kernel
theorem dX9_doubles_5 : decode cX9_doubles 5 = .ok (.iconst 0, 1) := by decide +kernel
theorem dX9_doubles_6 : decode cX9_doubles 6 = .ok (.istore_n 2, 1) := by decide +kernel
theorem dX9_doubles_7 : decode cX9_doubles 7 = .ok (.iconst 0, 1) := by decide +kernel
theorem dX9_doubles_8 : decode cX9_doubles 8 = .ok (.istore_n 3, 1) := by decide +kernel
theorem dX9_doubles_9 : decode cX9_doubles 9 = .ok (.iload_n 3, 1) := by decide +kernel
theorem dX9_doubles_10 : decode cX9_doubles 10 = .ok (.aload_n 0, 1) := by decide +kernel
theorem dX9_doubles_11 : decode cX9_doubles 11 = .ok (.getfield 19, 3) := by decide +kernel
theorem dX9_doubles_14 : decode cX9_doubles 14 = .ok (.getfield 80, 3) := by decide +kernel
theorem dX9_doubles_17 : decode cX9_doubles 17 = .ok (.if_icmp .ge 32, 3) := by decide +kernel
theorem dX9_doubles_20 : decode cX9_doubles 20 = .ok (.iload_n 3, 1) := by decide +kernel
theorem dX9_doubles_21 : decode cX9_doubles 21 = .ok (.iload_n 1, 1) := by decide +kernel
theorem dX9_doubles_22 : decode cX9_doubles 22 = .ok (.if_icmp .eq 21, 3) := by decide +kernel
theorem dX9_doubles_25 : decode cX9_doubles 25 = .ok (.aload_n 0, 1) := by decide +kernel
theorem dX9_doubles_26 : decode cX9_doubles 26 = .ok (.getfield 28, 3) := by decide +kernel
theorem dX9_doubles_29 : decode cX9_doubles 29 = .ok (.iload_n 1, 1) := by decide +kernel
theorem dX9_doubles_30 : decode cX9_doubles 30 = .ok (.iload_n 3, 1) := by decide +kernel
theorem dX9_doubles_31 : decode cX9_doubles 31 = .ok (.invokevirtual 230, 3) := by decide +kernel
theorem dX9_doubles_34 : decode cX9_doubles 34 = .ok (.ifCond .eq 9, 3) := by decide +kernel
theorem dX9_doubles_37 : decode cX9_doubles 37 = .ok (.iload_n 2, 1) := by decide +kernel
theorem dX9_doubles_38 : decode cX9_doubles 38 = .ok (.iconst 1, 1) := by decide +kernel
theorem dX9_doubles_39 : decode cX9_doubles 39 = .ok (.iload_n 3, 1) := by decide +kernel
theorem dX9_doubles_40 : decode cX9_doubles 40 = .ok (.ishl, 1) := by decide +kernel
theorem dX9_doubles_41 : decode cX9_doubles 41 = .ok (.ior, 1) := by decide +kernel
theorem dX9_doubles_42 : decode cX9_doubles 42 = .ok (.istore_n 2, 1) := by decide +kernel
theorem dX9_doubles_43 : decode cX9_doubles 43 = .ok (.iinc 3 1, 3) := by decide +kernel
theorem dX9_doubles_46 : decode cX9_doubles 46 = .ok (.goto (-37), 3) := by decide +kernel
theorem dX9_doubles_49 : decode cX9_doubles 49 = .ok (.iload_n 2, 1) := by decide +kernel
theorem dX9_doubles_50 : decode cX9_doubles 50 = .ok (.ireturn, 1) := by decide +kernel
theorem dX9_digest_0 : decode cX9_digest 0 = .ok (.ldc2_w 373, 3) := by decide +kernel
theorem dX9_digest_3 : decode cX9_digest 3 = .ok (.lstore_n 1, 1) := by decide +kernel
theorem dX9_digest_4 : decode cX9_digest 4 = .ok (.iconst 0, 1) := by decide +kernel
theorem dX9_digest_5 : decode cX9_digest 5 = .ok (.istore_n 3, 1) := by decide +kernel
theorem dX9_digest_6 : decode cX9_digest 6 = .ok (.iload_n 3, 1) := by decide +kernel
theorem dX9_digest_7 : decode cX9_digest 7 = .ok (.bipush 12, 2) := by decide +kernel
theorem dX9_digest_9 : decode cX9_digest 9 = .ok (.if_icmp .gt 20, 3) := by decide +kernel
theorem dX9_digest_12 : decode cX9_digest 12 = .ok (.lload_n 1, 1) := by decide +kernel
theorem dX9_digest_13 : decode cX9_digest 13 = .ok (.aload_n 0, 1) := by decide +kernel
theorem dX9_digest_14 : decode cX9_digest 14 = .ok (.iload_n 3, 1) := by decide +kernel
theorem dX9_digest_15 : decode cX9_digest 15 = .ok (.invokevirtual 375, 3) := by decide +kernel
theorem dX9_digest_18 : decode cX9_digest 18 = .ok (.i2l, 1) := by decide +kernel
theorem dX9_digest_19 : decode cX9_digest 19 = .ok (.invokestatic 378, 3) := by decide +kernel
theorem dX9_digest_22 : decode cX9_digest 22 = .ok (.lstore_n 1, 1) := by decide +kernel
theorem dX9_digest_23 : decode cX9_digest 23 = .ok (.iinc 3 1, 3) := by decide +kernel
theorem dX9_digest_26 : decode cX9_digest 26 = .ok (.goto (-20), 3) := by decide +kernel
theorem dX9_digest_29 : decode cX9_digest 29 = .ok (.aload_n 0, 1) := by decide +kernel
theorem dX9_digest_30 : decode cX9_digest 30 = .ok (.lload_n 1, 1) := by decide +kernel
theorem dX9_digest_31 : decode cX9_digest 31 = .ok (.invokevirtual 382, 3) := by decide +kernel
theorem dX9_digest_34 : decode cX9_digest 34 = .ok (.lstore_n 1, 1) := by decide +kernel
theorem dX9_digest_35 : decode cX9_digest 35 = .ok (.aload_n 0, 1) := by decide +kernel
theorem dX9_digest_36 : decode cX9_digest 36 = .ok (.lload_n 1, 1) := by decide +kernel
theorem dX9_digest_37 : decode cX9_digest 37 = .ok (.invokevirtual 386, 3) := by decide +kernel
theorem dX9_digest_40 : decode cX9_digest 40 = .ok (.lstore_n 1, 1) := by decide +kernel
theorem dX9_digest_41 : decode cX9_digest 41 = .ok (.aload_n 0, 1) := by decide +kernel
theorem dX9_digest_42 : decode cX9_digest 42 = .ok (.lload_n 1, 1) := by decide +kernel
theorem dX9_digest_43 : decode cX9_digest 43 = .ok (.invokevirtual 389, 3) := by decide +kernel
theorem dX9_digest_46 : decode cX9_digest 46 = .ok (.lstore_n 1, 1) := by decide +kernel
theorem dX9_digest_47 : decode cX9_digest 47 = .ok (.aload_n 0, 1) := by decide +kernel
theorem dX9_digest_48 : decode cX9_digest 48 = .ok (.lload_n 1, 1) := by decide +kernel
theorem dX9_digest_49 : decode cX9_digest 49 = .ok (.invokevirtual 392, 3) := by decide +kernel
theorem dX9_digest_52 : decode cX9_digest 52 = .ok (.lstore_n 1, 1) := by decide +kernel
theorem dX9_digest_53 : decode cX9_digest 53 = .ok (.aload_n 0, 1) := by decide +kernel
theorem dX9_digest_54 : decode cX9_digest 54 = .ok (.getfield 32, 3) := by decide +kernel
theorem dX9_digest_57 : decode cX9_digest 57 = .ok (.aload_n 0, 1) := by decide +kernel
theorem dX9_digest_58 : decode cX9_digest 58 = .ok (.getfield 28, 3) := by decide +kernel
theorem dX9_digest_61 : decode cX9_digest 61 = .ok (.invokevirtual 357, 3) := by decide +kernel
theorem dX9_digest_64 : decode cX9_digest 64 = .ok (.aload_n 0, 1) := by decide +kernel
theorem dX9_digest_65 : decode cX9_digest 65 = .ok (.getfield 32, 3) := by decide +kernel
theorem dX9_digest_68 : decode cX9_digest 68 = .ok (.iconst 5, 1) := by decide +kernel
theorem dX9_digest_69 : decode cX9_digest 69 = .ok (.invokevirtual 200, 3) := by decide +kernel
theorem dX9_digest_72 : decode cX9_digest 72 = .ok (.aload_n 0, 1) := by decide +kernel
theorem dX9_digest_73 : decode cX9_digest 73 = .ok (.lload_n 1, 1) := by decide +kernel
theorem dX9_digest_74 : decode cX9_digest 74 = .ok (.invokevirtual 395, 3) := by decide +kernel
theorem dX9_digest_77 : decode cX9_digest 77 = .ok (.lstore_n 1, 1) := by decide +kernel
theorem dX9_digest_78 : decode cX9_digest 78 = .ok (.aload_n 0, 1) := by decide +kernel
theorem dX9_digest_79 : decode cX9_digest 79 = .ok (.getfield 32, 3) := by decide +kernel
theorem dX9_digest_82 : decode cX9_digest 82 = .ok (.iconst 4, 1) := by decide +kernel
theorem dX9_digest_83 : decode cX9_digest 83 = .ok (.invokevirtual 200, 3) := by decide +kernel
theorem dX9_digest_86 : decode cX9_digest 86 = .ok (.lload_n 1, 1) := by decide +kernel
theorem dX9_digest_87 : decode cX9_digest 87 = .ok (.aload_n 0, 1) := by decide +kernel
theorem dX9_digest_88 : decode cX9_digest 88 = .ok (.invokevirtual 370, 3) := by decide +kernel
theorem dX9_digest_91 : decode cX9_digest 91 = .ok (.i2l, 1) := by decide +kernel
theorem dX9_digest_92 : decode cX9_digest 92 = .ok (.invokestatic 378, 3) := by decide +kernel
theorem dX9_digest_95 : decode cX9_digest 95 = .ok (.lreturn, 1) := by decide +kernel
theorem dX9_fold_0 : decode cX9_fold 0 = .ok (.lload_n 0, 1) := by decide +kernel
theorem dX9_fold_1 : decode cX9_fold 1 = .ok (.ldc2_w 398, 3) := by decide +kernel
theorem dX9_fold_4 : decode cX9_fold 4 = .ok (.lmul, 1) := by decide +kernel
theorem dX9_fold_5 : decode cX9_fold 5 = .ok (.lload_n 2, 1) := by decide +kernel
theorem dX9_fold_6 : decode cX9_fold 6 = .ok (.ladd, 1) := by decide +kernel
theorem dX9_fold_7 : decode cX9_fold 7 = .ok (.lreturn, 1) := by decide +kernel
theorem dX9_foldRooms_0 : decode cX9_foldRooms 0 = .ok (.lload_n 1, 1) := by decide +kernel
theorem dX9_foldRooms_1 : decode cX9_foldRooms 1 = .ok (.lstore_n 3, 1) := by decide +kernel
theorem dX9_foldRooms_2 : decode cX9_foldRooms 2 = .ok (.iconst 0, 1) := by decide +kernel
theorem dX9_foldRooms_3 : decode cX9_foldRooms 3 = .ok (.istore 5, 2) := by decide +kernel
theorem dX9_foldRooms_5 : decode cX9_foldRooms 5 = .ok (.iload 5, 2) := by decide +kernel
theorem dX9_foldRooms_7 : decode cX9_foldRooms 7 = .ok (.aload_n 0, 1) := by decide +kernel
theorem dX9_foldRooms_8 : decode cX9_foldRooms 8 = .ok (.getfield 10, 3) := by decide +kernel
theorem dX9_foldRooms_11 : decode cX9_foldRooms 11 = .ok (.getfield 42, 3) := by decide +kernel
theorem dX9_foldRooms_14 : decode cX9_foldRooms 14 = .ok (.if_icmp .ge 66, 3) := by decide +kernel
theorem dX9_foldRooms_17 : decode cX9_foldRooms 17 = .ok (.iconst 0, 1) := by decide +kernel
theorem dX9_foldRooms_18 : decode cX9_foldRooms 18 = .ok (.istore 6, 2) := by decide +kernel
theorem dX9_foldRooms_20 : decode cX9_foldRooms 20 = .ok (.iload 6, 2) := by decide +kernel
theorem dX9_foldRooms_22 : decode cX9_foldRooms 22 = .ok (.iconst 4, 1) := by decide +kernel
theorem dX9_foldRooms_23 : decode cX9_foldRooms 23 = .ok (.if_icmp .gt 23, 3) := by decide +kernel
theorem dX9_foldRooms_26 : decode cX9_foldRooms 26 = .ok (.lload_n 3, 1) := by decide +kernel
theorem dX9_foldRooms_27 : decode cX9_foldRooms 27 = .ok (.aload_n 0, 1) := by decide +kernel
theorem dX9_foldRooms_28 : decode cX9_foldRooms 28 = .ok (.iload 5, 2) := by decide +kernel
theorem dX9_foldRooms_30 : decode cX9_foldRooms 30 = .ok (.iload 6, 2) := by decide +kernel
theorem dX9_foldRooms_32 : decode cX9_foldRooms 32 = .ok (.invokevirtual 400, 3) := by decide +kernel
theorem dX9_foldRooms_35 : decode cX9_foldRooms 35 = .ok (.i2l, 1) := by decide +kernel
theorem dX9_foldRooms_36 : decode cX9_foldRooms 36 = .ok (.invokestatic 378, 3) := by decide +kernel
theorem dX9_foldRooms_39 : decode cX9_foldRooms 39 = .ok (.lstore_n 3, 1) := by decide +kernel
theorem dX9_foldRooms_40 : decode cX9_foldRooms 40 = .ok (.iinc 6 1, 3) := by decide +kernel
theorem dX9_foldRooms_43 : decode cX9_foldRooms 43 = .ok (.goto (-23), 3) := by decide +kernel
theorem dX9_foldRooms_46 : decode cX9_foldRooms 46 = .ok (.lload_n 3, 1) := by decide +kernel
theorem dX9_foldRooms_47 : decode cX9_foldRooms 47 = .ok (.aload_n 0, 1) := by decide +kernel
theorem dX9_foldRooms_48 : decode cX9_foldRooms 48 = .ok (.iload 5, 2) := by decide +kernel
theorem dX9_foldRooms_50 : decode cX9_foldRooms 50 = .ok (.iconst 0, 1) := by decide +kernel
theorem dX9_foldRooms_51 : decode cX9_foldRooms 51 = .ok (.iconst 0, 1) := by decide +kernel
theorem dX9_foldRooms_52 : decode cX9_foldRooms 52 = .ok (.invokevirtual 403, 3) := by decide +kernel
theorem dX9_foldRooms_55 : decode cX9_foldRooms 55 = .ok (.i2l, 1) := by decide +kernel
theorem dX9_foldRooms_56 : decode cX9_foldRooms 56 = .ok (.invokestatic 378, 3) := by decide +kernel
theorem dX9_foldRooms_59 : decode cX9_foldRooms 59 = .ok (.lstore_n 3, 1) := by decide +kernel
theorem dX9_foldRooms_60 : decode cX9_foldRooms 60 = .ok (.lload_n 3, 1) := by decide +kernel
theorem dX9_foldRooms_61 : decode cX9_foldRooms 61 = .ok (.aload_n 0, 1) := by decide +kernel
theorem dX9_foldRooms_62 : decode cX9_foldRooms 62 = .ok (.iload 5, 2) := by decide +kernel
theorem dX9_foldRooms_64 : decode cX9_foldRooms 64 = .ok (.iconst 0, 1) := by decide +kernel
theorem dX9_foldRooms_65 : decode cX9_foldRooms 65 = .ok (.iconst 1, 1) := by decide +kernel
theorem dX9_foldRooms_66 : decode cX9_foldRooms 66 = .ok (.invokevirtual 403, 3) := by decide +kernel
theorem dX9_foldRooms_69 : decode cX9_foldRooms 69 = .ok (.i2l, 1) := by decide +kernel
theorem dX9_foldRooms_70 : decode cX9_foldRooms 70 = .ok (.invokestatic 378, 3) := by decide +kernel
theorem dX9_foldRooms_73 : decode cX9_foldRooms 73 = .ok (.lstore_n 3, 1) := by decide +kernel
theorem dX9_foldRooms_74 : decode cX9_foldRooms 74 = .ok (.iinc 5 1, 3) := by decide +kernel
theorem dX9_foldRooms_77 : decode cX9_foldRooms 77 = .ok (.goto (-72), 3) := by decide +kernel
theorem dX9_foldRooms_80 : decode cX9_foldRooms 80 = .ok (.lload_n 3, 1) := by decide +kernel
theorem dX9_foldRooms_81 : decode cX9_foldRooms 81 = .ok (.lreturn, 1) := by decide +kernel
theorem dX9_foldTracks_0 : decode cX9_foldTracks 0 = .ok (.lload_n 1, 1) := by decide +kernel
theorem dX9_foldTracks_1 : decode cX9_foldTracks 1 = .ok (.lstore_n 3, 1) := by decide +kernel
theorem dX9_foldTracks_2 : decode cX9_foldTracks 2 = .ok (.iconst 0, 1) := by decide +kernel
theorem dX9_foldTracks_3 : decode cX9_foldTracks 3 = .ok (.istore 5, 2) := by decide +kernel
theorem dX9_foldTracks_5 : decode cX9_foldTracks 5 = .ok (.iload 5, 2) := by decide +kernel
theorem dX9_foldTracks_7 : decode cX9_foldTracks 7 = .ok (.aload_n 0, 1) := by decide +kernel
theorem dX9_foldTracks_8 : decode cX9_foldTracks 8 = .ok (.getfield 19, 3) := by decide +kernel
theorem dX9_foldTracks_11 : decode cX9_foldTracks 11 = .ok (.getfield 80, 3) := by decide +kernel
theorem dX9_foldTracks_14 : decode cX9_foldTracks 14 = .ok (.if_icmp .ge 50, 3) := by decide +kernel
theorem dX9_foldTracks_17 : decode cX9_foldTracks 17 = .ok (.iconst 0, 1) := by decide +kernel
theorem dX9_foldTracks_18 : decode cX9_foldTracks 18 = .ok (.istore 6, 2) := by decide +kernel
theorem dX9_foldTracks_20 : decode cX9_foldTracks 20 = .ok (.iload 6, 2) := by decide +kernel
theorem dX9_foldTracks_22 : decode cX9_foldTracks 22 = .ok (.iconst 4, 1) := by decide +kernel
theorem dX9_foldTracks_23 : decode cX9_foldTracks 23 = .ok (.if_icmp .gt 23, 3) := by decide +kernel
theorem dX9_foldTracks_26 : decode cX9_foldTracks 26 = .ok (.lload_n 3, 1) := by decide +kernel
theorem dX9_foldTracks_27 : decode cX9_foldTracks 27 = .ok (.aload_n 0, 1) := by decide +kernel
theorem dX9_foldTracks_28 : decode cX9_foldTracks 28 = .ok (.iload 5, 2) := by decide +kernel
theorem dX9_foldTracks_30 : decode cX9_foldTracks 30 = .ok (.iload 6, 2) := by decide +kernel
theorem dX9_foldTracks_32 : decode cX9_foldTracks 32 = .ok (.invokevirtual 406, 3) := by decide +kernel
theorem dX9_foldTracks_35 : decode cX9_foldTracks 35 = .ok (.i2l, 1) := by decide +kernel
theorem dX9_foldTracks_36 : decode cX9_foldTracks 36 = .ok (.invokestatic 378, 3) := by decide +kernel
theorem dX9_foldTracks_39 : decode cX9_foldTracks 39 = .ok (.lstore_n 3, 1) := by decide +kernel
theorem dX9_foldTracks_40 : decode cX9_foldTracks 40 = .ok (.iinc 6 1, 3) := by decide +kernel
theorem dX9_foldTracks_43 : decode cX9_foldTracks 43 = .ok (.goto (-23), 3) := by decide +kernel
theorem dX9_foldTracks_46 : decode cX9_foldTracks 46 = .ok (.lload_n 3, 1) := by decide +kernel
theorem dX9_foldTracks_47 : decode cX9_foldTracks 47 = .ok (.aload_n 0, 1) := by decide +kernel
theorem dX9_foldTracks_48 : decode cX9_foldTracks 48 = .ok (.iload 5, 2) := by decide +kernel
theorem dX9_foldTracks_50 : decode cX9_foldTracks 50 = .ok (.invokevirtual 409, 3) := by decide +kernel
theorem dX9_foldTracks_53 : decode cX9_foldTracks 53 = .ok (.i2l, 1) := by decide +kernel
theorem dX9_foldTracks_54 : decode cX9_foldTracks 54 = .ok (.invokestatic 378, 3) := by decide +kernel
theorem dX9_foldTracks_57 : decode cX9_foldTracks 57 = .ok (.lstore_n 3, 1) := by decide +kernel
theorem dX9_foldTracks_58 : decode cX9_foldTracks 58 = .ok (.iinc 5 1, 3) := by decide +kernel
theorem dX9_foldTracks_61 : decode cX9_foldTracks 61 = .ok (.goto (-56), 3) := by decide +kernel
theorem dX9_foldTracks_64 : decode cX9_foldTracks 64 = .ok (.lload_n 3, 1) := by decide +kernel
theorem dX9_foldTracks_65 : decode cX9_foldTracks 65 = .ok (.lreturn, 1) := by decide +kernel
theorem dX9_foldScenes_0 : decode cX9_foldScenes 0 = .ok (.lload_n 1, 1) := by decide +kernel
theorem dX9_foldScenes_1 : decode cX9_foldScenes 1 = .ok (.lstore_n 3, 1) := by decide +kernel
theorem dX9_foldScenes_2 : decode cX9_foldScenes 2 = .ok (.iconst 0, 1) := by decide +kernel
theorem dX9_foldScenes_3 : decode cX9_foldScenes 3 = .ok (.istore 5, 2) := by decide +kernel
theorem dX9_foldScenes_5 : decode cX9_foldScenes 5 = .ok (.iload 5, 2) := by decide +kernel
theorem dX9_foldScenes_7 : decode cX9_foldScenes 7 = .ok (.aload_n 0, 1) := by decide +kernel
theorem dX9_foldScenes_8 : decode cX9_foldScenes 8 = .ok (.getfield 19, 3) := by decide +kernel
theorem dX9_foldScenes_11 : decode cX9_foldScenes 11 = .ok (.getfield 129, 3) := by decide +kernel
theorem dX9_foldScenes_14 : decode cX9_foldScenes 14 = .ok (.if_icmp .ge 39, 3) := by decide +kernel
theorem dX9_foldScenes_17 : decode cX9_foldScenes 17 = .ok (.iconst 0, 1) := by decide +kernel
theorem dX9_foldScenes_18 : decode cX9_foldScenes 18 = .ok (.istore 6, 2) := by decide +kernel
theorem dX9_foldScenes_20 : decode cX9_foldScenes 20 = .ok (.iload 6, 2) := by decide +kernel
theorem dX9_foldScenes_22 : decode cX9_foldScenes 22 = .ok (.bipush 10, 2) := by decide +kernel
theorem dX9_foldScenes_24 : decode cX9_foldScenes 24 = .ok (.if_icmp .gt 23, 3) := by decide +kernel
theorem dX9_foldScenes_27 : decode cX9_foldScenes 27 = .ok (.lload_n 3, 1) := by decide +kernel
theorem dX9_foldScenes_28 : decode cX9_foldScenes 28 = .ok (.aload_n 0, 1) := by decide +kernel
theorem dX9_foldScenes_29 : decode cX9_foldScenes 29 = .ok (.iload 5, 2) := by decide +kernel
theorem dX9_foldScenes_31 : decode cX9_foldScenes 31 = .ok (.iload 6, 2) := by decide +kernel
theorem dX9_foldScenes_33 : decode cX9_foldScenes 33 = .ok (.invokevirtual 412, 3) := by decide +kernel
theorem dX9_foldScenes_36 : decode cX9_foldScenes 36 = .ok (.i2l, 1) := by decide +kernel
theorem dX9_foldScenes_37 : decode cX9_foldScenes 37 = .ok (.invokestatic 378, 3) := by decide +kernel
theorem dX9_foldScenes_40 : decode cX9_foldScenes 40 = .ok (.lstore_n 3, 1) := by decide +kernel
theorem dX9_foldScenes_41 : decode cX9_foldScenes 41 = .ok (.iinc 6 1, 3) := by decide +kernel
theorem dX9_foldScenes_44 : decode cX9_foldScenes 44 = .ok (.goto (-24), 3) := by decide +kernel
theorem dX9_foldScenes_47 : decode cX9_foldScenes 47 = .ok (.iinc 5 1, 3) := by decide +kernel
theorem dX9_foldScenes_50 : decode cX9_foldScenes 50 = .ok (.goto (-45), 3) := by decide +kernel
theorem dX9_foldScenes_53 : decode cX9_foldScenes 53 = .ok (.lload_n 3, 1) := by decide +kernel
theorem dX9_foldScenes_54 : decode cX9_foldScenes 54 = .ok (.lreturn, 1) := by decide +kernel
theorem dX9_foldProps_0 : decode cX9_foldProps 0 = .ok (.lload_n 1, 1) := by decide +kernel
theorem dX9_foldProps_1 : decode cX9_foldProps 1 = .ok (.lstore_n 3, 1) := by decide +kernel
theorem dX9_foldProps_2 : decode cX9_foldProps 2 = .ok (.iconst 0, 1) := by decide +kernel
theorem dX9_foldProps_3 : decode cX9_foldProps 3 = .ok (.istore 5, 2) := by decide +kernel
theorem dX9_foldProps_5 : decode cX9_foldProps 5 = .ok (.iload 5, 2) := by decide +kernel
theorem dX9_foldProps_7 : decode cX9_foldProps 7 = .ok (.aload_n 0, 1) := by decide +kernel
theorem dX9_foldProps_8 : decode cX9_foldProps 8 = .ok (.getfield 19, 3) := by decide +kernel
theorem dX9_foldProps_11 : decode cX9_foldProps 11 = .ok (.getfield 98, 3) := by decide +kernel
theorem dX9_foldProps_14 : decode cX9_foldProps 14 = .ok (.if_icmp .ge 38, 3) := by decide +kernel
theorem dX9_foldProps_17 : decode cX9_foldProps 17 = .ok (.iconst 0, 1) := by decide +kernel
theorem dX9_foldProps_18 : decode cX9_foldProps 18 = .ok (.istore 6, 2) := by decide +kernel
theorem dX9_foldProps_20 : decode cX9_foldProps 20 = .ok (.iload 6, 2) := by decide +kernel
theorem dX9_foldProps_22 : decode cX9_foldProps 22 = .ok (.iconst 4, 1) := by decide +kernel
theorem dX9_foldProps_23 : decode cX9_foldProps 23 = .ok (.if_icmp .gt 23, 3) := by decide +kernel
theorem dX9_foldProps_26 : decode cX9_foldProps 26 = .ok (.lload_n 3, 1) := by decide +kernel
theorem dX9_foldProps_27 : decode cX9_foldProps 27 = .ok (.aload_n 0, 1) := by decide +kernel
theorem dX9_foldProps_28 : decode cX9_foldProps 28 = .ok (.iload 5, 2) := by decide +kernel
theorem dX9_foldProps_30 : decode cX9_foldProps 30 = .ok (.iload 6, 2) := by decide +kernel
theorem dX9_foldProps_32 : decode cX9_foldProps 32 = .ok (.invokevirtual 415, 3) := by decide +kernel
theorem dX9_foldProps_35 : decode cX9_foldProps 35 = .ok (.i2l, 1) := by decide +kernel
theorem dX9_foldProps_36 : decode cX9_foldProps 36 = .ok (.invokestatic 378, 3) := by decide +kernel
theorem dX9_foldProps_39 : decode cX9_foldProps 39 = .ok (.lstore_n 3, 1) := by decide +kernel
theorem dX9_foldProps_40 : decode cX9_foldProps 40 = .ok (.iinc 6 1, 3) := by decide +kernel
theorem dX9_foldProps_43 : decode cX9_foldProps 43 = .ok (.goto (-23), 3) := by decide +kernel
theorem dX9_foldProps_46 : decode cX9_foldProps 46 = .ok (.iinc 5 1, 3) := by decide +kernel
theorem dX9_foldProps_49 : decode cX9_foldProps 49 = .ok (.goto (-44), 3) := by decide +kernel
theorem dX9_foldProps_52 : decode cX9_foldProps 52 = .ok (.lload_n 3, 1) := by decide +kernel
theorem dX9_foldProps_53 : decode cX9_foldProps 53 = .ok (.lreturn, 1) := by decide +kernel
theorem dX9_foldGuests_0 : decode cX9_foldGuests 0 = .ok (.lload_n 1, 1) := by decide +kernel
theorem dX9_foldGuests_1 : decode cX9_foldGuests 1 = .ok (.lstore_n 3, 1) := by decide +kernel
theorem dX9_foldGuests_2 : decode cX9_foldGuests 2 = .ok (.iconst 0, 1) := by decide +kernel
theorem dX9_foldGuests_3 : decode cX9_foldGuests 3 = .ok (.istore 5, 2) := by decide +kernel
theorem dX9_foldGuests_5 : decode cX9_foldGuests 5 = .ok (.iload 5, 2) := by decide +kernel
theorem dX9_foldGuests_7 : decode cX9_foldGuests 7 = .ok (.aload_n 0, 1) := by decide +kernel
theorem dX9_foldGuests_8 : decode cX9_foldGuests 8 = .ok (.getfield 28, 3) := by decide +kernel
theorem dX9_foldGuests_11 : decode cX9_foldGuests 11 = .ok (.getfield 146, 3) := by decide +kernel
theorem dX9_foldGuests_14 : decode cX9_foldGuests 14 = .ok (.getfield 150, 3) := by decide +kernel
theorem dX9_foldGuests_17 : decode cX9_foldGuests 17 = .ok (.if_icmp .ge 80, 3) := by decide +kernel
theorem dX9_foldGuests_20 : decode cX9_foldGuests 20 = .ok (.iconst 0, 1) := by decide +kernel
theorem dX9_foldGuests_21 : decode cX9_foldGuests 21 = .ok (.istore 6, 2) := by decide +kernel
theorem dX9_foldGuests_23 : decode cX9_foldGuests 23 = .ok (.iload 6, 2) := by decide +kernel
theorem dX9_foldGuests_25 : decode cX9_foldGuests 25 = .ok (.bipush 6, 2) := by decide +kernel
theorem dX9_foldGuests_27 : decode cX9_foldGuests 27 = .ok (.if_icmp .gt 23, 3) := by decide +kernel
theorem dX9_foldGuests_30 : decode cX9_foldGuests 30 = .ok (.lload_n 3, 1) := by decide +kernel
theorem dX9_foldGuests_31 : decode cX9_foldGuests 31 = .ok (.aload_n 0, 1) := by decide +kernel
theorem dX9_foldGuests_32 : decode cX9_foldGuests 32 = .ok (.iload 5, 2) := by decide +kernel
theorem dX9_foldGuests_34 : decode cX9_foldGuests 34 = .ok (.iload 6, 2) := by decide +kernel
theorem dX9_foldGuests_36 : decode cX9_foldGuests 36 = .ok (.invokevirtual 418, 3) := by decide +kernel
theorem dX9_foldGuests_39 : decode cX9_foldGuests 39 = .ok (.i2l, 1) := by decide +kernel
theorem dX9_foldGuests_40 : decode cX9_foldGuests 40 = .ok (.invokestatic 378, 3) := by decide +kernel
theorem dX9_foldGuests_43 : decode cX9_foldGuests 43 = .ok (.lstore_n 3, 1) := by decide +kernel
theorem dX9_foldGuests_44 : decode cX9_foldGuests 44 = .ok (.iinc 6 1, 3) := by decide +kernel
theorem dX9_foldGuests_47 : decode cX9_foldGuests 47 = .ok (.goto (-24), 3) := by decide +kernel
theorem dX9_foldGuests_50 : decode cX9_foldGuests 50 = .ok (.lload_n 3, 1) := by decide +kernel
theorem dX9_foldGuests_51 : decode cX9_foldGuests 51 = .ok (.aload_n 0, 1) := by decide +kernel
theorem dX9_foldGuests_52 : decode cX9_foldGuests 52 = .ok (.getfield 32, 3) := by decide +kernel
theorem dX9_foldGuests_55 : decode cX9_foldGuests 55 = .ok (.getfield 146, 3) := by decide +kernel
theorem dX9_foldGuests_58 : decode cX9_foldGuests 58 = .ok (.iload 5, 2) := by decide +kernel
theorem dX9_foldGuests_60 : decode cX9_foldGuests 60 = .ok (.invokevirtual 361, 3) := by decide +kernel
theorem dX9_foldGuests_63 : decode cX9_foldGuests 63 = .ok (.i2l, 1) := by decide +kernel
theorem dX9_foldGuests_64 : decode cX9_foldGuests 64 = .ok (.invokestatic 378, 3) := by decide +kernel
theorem dX9_foldGuests_67 : decode cX9_foldGuests 67 = .ok (.lstore_n 3, 1) := by decide +kernel
theorem dX9_foldGuests_68 : decode cX9_foldGuests 68 = .ok (.aload_n 0, 1) := by decide +kernel
theorem dX9_foldGuests_69 : decode cX9_foldGuests 69 = .ok (.getfield 19, 3) := by decide +kernel
theorem dX9_foldGuests_72 : decode cX9_foldGuests 72 = .ok (.getfield 129, 3) := by decide +kernel
theorem dX9_foldGuests_75 : decode cX9_foldGuests 75 = .ok (.ifCond .le 16, 3) := by decide +kernel
theorem dX9_foldGuests_78 : decode cX9_foldGuests 78 = .ok (.lload_n 3, 1) := by decide +kernel
theorem dX9_foldGuests_79 : decode cX9_foldGuests 79 = .ok (.aload_n 0, 1) := by decide +kernel
theorem dX9_foldGuests_80 : decode cX9_foldGuests 80 = .ok (.iload 5, 2) := by decide +kernel
theorem dX9_foldGuests_82 : decode cX9_foldGuests 82 = .ok (.iconst 0, 1) := by decide +kernel
theorem dX9_foldGuests_83 : decode cX9_foldGuests 83 = .ok (.invokevirtual 421, 3) := by decide +kernel
theorem dX9_foldGuests_86 : decode cX9_foldGuests 86 = .ok (.i2l, 1) := by decide +kernel
theorem dX9_foldGuests_87 : decode cX9_foldGuests 87 = .ok (.invokestatic 378, 3) := by decide +kernel
theorem dX9_foldGuests_90 : decode cX9_foldGuests 90 = .ok (.lstore_n 3, 1) := by decide +kernel
theorem dX9_foldGuests_91 : decode cX9_foldGuests 91 = .ok (.iinc 5 1, 3) := by decide +kernel
theorem dX9_foldGuests_94 : decode cX9_foldGuests 94 = .ok (.goto (-89), 3) := by decide +kernel
theorem dX9_foldGuests_97 : decode cX9_foldGuests 97 = .ok (.lload_n 3, 1) := by decide +kernel
theorem dX9_foldGuests_98 : decode cX9_foldGuests 98 = .ok (.lreturn, 1) := by decide +kernel
theorem dX9_countCutsOfTrial_0 : decode cX9_countCutsOfTrial 0 = .ok (.aload_n 0, 1) := by decide +kernel
theorem dX9_countCutsOfTrial_1 : decode cX9_countCutsOfTrial 1 = .ok (.getfield 32, 3) := by decide +kernel
theorem dX9_countCutsOfTrial_4 : decode cX9_countCutsOfTrial 4 = .ok (.getfield 187, 3) := by decide +kernel
theorem dX9_countCutsOfTrial_7 : decode cX9_countCutsOfTrial 7 = .ok (.getfield 314, 3) := by decide +kernel
theorem dX9_countCutsOfTrial_10 : decode cX9_countCutsOfTrial 10 = .ok (.invokevirtual 196, 3) := by decide +kernel
theorem dX9_countCutsOfTrial_13 : decode cX9_countCutsOfTrial 13 = .ok (.aload_n 0, 1) := by decide +kernel
theorem dX9_countCutsOfTrial_14 : decode cX9_countCutsOfTrial 14 = .ok (.getfield 28, 3) := by decide +kernel
theorem dX9_countCutsOfTrial_17 : decode cX9_countCutsOfTrial 17 = .ok (.getfield 187, 3) := by decide +kernel
theorem dX9_countCutsOfTrial_20 : decode cX9_countCutsOfTrial 20 = .ok (.getfield 314, 3) := by decide +kernel
theorem dX9_countCutsOfTrial_23 : decode cX9_countCutsOfTrial 23 = .ok (.invokevirtual 196, 3) := by decide +kernel
theorem dX9_countCutsOfTrial_26 : decode cX9_countCutsOfTrial 26 = .ok (.isub, 1) := by decide +kernel
theorem dX9_countCutsOfTrial_27 : decode cX9_countCutsOfTrial 27 = .ok (.ireturn, 1) := by decide +kernel
theorem dX9_standsForHabit_0 : decode cX9_standsForHabit 0 = .ok (.iload_n 0, 1) := by decide +kernel
theorem dX9_standsForHabit_1 : decode cX9_standsForHabit 1 = .ok (.ifCond .eq 19, 3) := by decide +kernel
theorem dX9_standsForHabit_4 : decode cX9_standsForHabit 4 = .ok (.iload_n 0, 1) := by decide +kernel
theorem dX9_standsForHabit_5 : decode cX9_standsForHabit 5 = .ok (.iconst 2, 1) := by decide +kernel
theorem dX9_standsForHabit_6 : decode cX9_standsForHabit 6 = .ok (.if_icmp .eq 14, 3) := by decide +kernel
theorem dX9_standsForHabit_9 : decode cX9_standsForHabit 9 = .ok (.iload_n 0, 1) := by decide +kernel
theorem dX9_standsForHabit_10 : decode cX9_standsForHabit 10 = .ok (.iconst 3, 1) := by decide +kernel
theorem dX9_standsForHabit_11 : decode cX9_standsForHabit 11 = .ok (.if_icmp .eq 9, 3) := by decide +kernel
theorem dX9_standsForHabit_14 : decode cX9_standsForHabit 14 = .ok (.iload_n 0, 1) := by decide +kernel
theorem dX9_standsForHabit_15 : decode cX9_standsForHabit 15 = .ok (.bipush 10, 2) := by decide +kernel
theorem dX9_standsForHabit_17 : decode cX9_standsForHabit 17 = .ok (.if_icmp .lt 7, 3) := by decide +kernel
theorem dX9_standsForHabit_20 : decode cX9_standsForHabit 20 = .ok (.iconst 1, 1) := by decide +kernel
theorem dX9_standsForHabit_21 : decode cX9_standsForHabit 21 = .ok (.goto 4, 3) := by decide +kernel
theorem dX9_standsForHabit_24 : decode cX9_standsForHabit 24 = .ok (.iconst 0, 1) := by decide +kernel
theorem dX9_standsForHabit_25 : decode cX9_standsForHabit 25 = .ok (.ireturn, 1) := by decide +kernel
theorem dX9_habitBehind_0 : decode cX9_habitBehind 0 = .ok (.iload_n 0, 1) := by decide +kernel
theorem dX9_habitBehind_1 : decode cX9_habitBehind 1 = .ok (.bipush 10, 2) := by decide +kernel
theorem dX9_habitBehind_3 : decode cX9_habitBehind 3 = .ok (.if_icmp .lt 7, 3) := by decide +kernel
theorem dX9_habitBehind_6 : decode cX9_habitBehind 6 = .ok (.iconst 1, 1) := by decide +kernel
theorem dX9_habitBehind_7 : decode cX9_habitBehind 7 = .ok (.goto 4, 3) := by decide +kernel
theorem dX9_habitBehind_10 : decode cX9_habitBehind 10 = .ok (.iload_n 0, 1) := by decide +kernel
theorem dX9_habitBehind_11 : decode cX9_habitBehind 11 = .ok (.ireturn, 1) := by decide +kernel
theorem dX9_checkRoom_0 : decode cX9_checkRoom 0 = .ok (.iload_n 1, 1) := by decide +kernel
theorem dX9_checkRoom_1 : decode cX9_checkRoom 1 = .ok (.ifCond .lt 14, 3) := by decide +kernel
theorem dX9_checkRoom_4 : decode cX9_checkRoom 4 = .ok (.iload_n 1, 1) := by decide +kernel
theorem dX9_checkRoom_5 : decode cX9_checkRoom 5 = .ok (.aload_n 0, 1) := by decide +kernel
theorem dX9_checkRoom_6 : decode cX9_checkRoom 6 = .ok (.getfield 10, 3) := by decide +kernel
theorem dX9_checkRoom_9 : decode cX9_checkRoom 9 = .ok (.getfield 42, 3) := by decide +kernel
theorem dX9_checkRoom_12 : decode cX9_checkRoom 12 = .ok (.if_icmp .lt 14, 3) := by decide +kernel
theorem dX9_checkRoom_15 : decode cX9_checkRoom 15 = .ok (.new 424, 3) := by decide +kernel
theorem dX9_checkRoom_18 : decode cX9_checkRoom 18 = .ok (.dup, 1) := by decide +kernel
theorem dX9_checkRoom_19 : decode cX9_checkRoom 19 = .ok (.ldc_w 426, 3) := by decide +kernel
theorem dX9_checkRoom_22 : decode cX9_checkRoom 22 = .ok (.invokespecial 428, 3) := by decide +kernel
theorem dX9_checkRoom_25 : decode cX9_checkRoom 25 = .ok (.athrow, 1) := by decide +kernel
theorem dX9_checkRoom_26 : decode cX9_checkRoom 26 = .ok (.return_, 1) := by decide +kernel
theorem dX9_checkTrack_0 : decode cX9_checkTrack 0 = .ok (.iload_n 1, 1) := by decide +kernel
theorem dX9_checkTrack_1 : decode cX9_checkTrack 1 = .ok (.ifCond .lt 14, 3) := by decide +kernel
theorem dX9_checkTrack_4 : decode cX9_checkTrack 4 = .ok (.iload_n 1, 1) := by decide +kernel
theorem dX9_checkTrack_5 : decode cX9_checkTrack 5 = .ok (.aload_n 0, 1) := by decide +kernel
theorem dX9_checkTrack_6 : decode cX9_checkTrack 6 = .ok (.getfield 19, 3) := by decide +kernel
theorem dX9_checkTrack_9 : decode cX9_checkTrack 9 = .ok (.getfield 80, 3) := by decide +kernel
theorem dX9_checkTrack_12 : decode cX9_checkTrack 12 = .ok (.if_icmp .lt 14, 3) := by decide +kernel
theorem dX9_checkTrack_15 : decode cX9_checkTrack 15 = .ok (.new 424, 3) := by decide +kernel
theorem dX9_checkTrack_18 : decode cX9_checkTrack 18 = .ok (.dup, 1) := by decide +kernel
theorem dX9_checkTrack_19 : decode cX9_checkTrack 19 = .ok (.ldc_w 429, 3) := by decide +kernel
theorem dX9_checkTrack_22 : decode cX9_checkTrack 22 = .ok (.invokespecial 428, 3) := by decide +kernel
theorem dX9_checkTrack_25 : decode cX9_checkTrack 25 = .ok (.athrow, 1) := by decide +kernel
theorem dX9_checkTrack_26 : decode cX9_checkTrack 26 = .ok (.return_, 1) := by decide +kernel
theorem dX9_checkProp_0 : decode cX9_checkProp 0 = .ok (.iload_n 1, 1) := by decide +kernel
theorem dX9_checkProp_1 : decode cX9_checkProp 1 = .ok (.ifCond .lt 14, 3) := by decide +kernel
theorem dX9_checkProp_4 : decode cX9_checkProp 4 = .ok (.iload_n 1, 1) := by decide +kernel
theorem dX9_checkProp_5 : decode cX9_checkProp 5 = .ok (.aload_n 0, 1) := by decide +kernel
theorem dX9_checkProp_6 : decode cX9_checkProp 6 = .ok (.getfield 19, 3) := by decide +kernel
theorem dX9_checkProp_9 : decode cX9_checkProp 9 = .ok (.getfield 98, 3) := by decide +kernel
theorem dX9_checkProp_12 : decode cX9_checkProp 12 = .ok (.if_icmp .lt 14, 3) := by decide +kernel
theorem dX9_checkProp_15 : decode cX9_checkProp 15 = .ok (.new 424, 3) := by decide +kernel
theorem dX9_checkProp_18 : decode cX9_checkProp 18 = .ok (.dup, 1) := by decide +kernel
theorem dX9_checkProp_19 : decode cX9_checkProp 19 = .ok (.ldc_w 431, 3) := by decide +kernel
theorem dX9_checkProp_22 : decode cX9_checkProp 22 = .ok (.invokespecial 428, 3) := by decide +kernel
theorem dX9_checkProp_25 : decode cX9_checkProp 25 = .ok (.athrow, 1) := by decide +kernel
theorem dX9_checkProp_26 : decode cX9_checkProp 26 = .ok (.return_, 1) := by decide +kernel
theorem dX9_checkScene_0 : decode cX9_checkScene 0 = .ok (.iload_n 1, 1) := by decide +kernel
theorem dX9_checkScene_1 : decode cX9_checkScene 1 = .ok (.ifCond .lt 14, 3) := by decide +kernel
theorem dX9_checkScene_4 : decode cX9_checkScene 4 = .ok (.iload_n 1, 1) := by decide +kernel
theorem dX9_checkScene_5 : decode cX9_checkScene 5 = .ok (.aload_n 0, 1) := by decide +kernel
theorem dX9_checkScene_6 : decode cX9_checkScene 6 = .ok (.getfield 19, 3) := by decide +kernel
theorem dX9_checkScene_9 : decode cX9_checkScene 9 = .ok (.getfield 129, 3) := by decide +kernel
theorem dX9_checkScene_12 : decode cX9_checkScene 12 = .ok (.if_icmp .lt 14, 3) := by decide +kernel
theorem dX9_checkScene_15 : decode cX9_checkScene 15 = .ok (.new 424, 3) := by decide +kernel
theorem dX9_checkScene_18 : decode cX9_checkScene 18 = .ok (.dup, 1) := by decide +kernel
theorem dX9_checkScene_19 : decode cX9_checkScene 19 = .ok (.ldc_w 433, 3) := by decide +kernel
theorem dX9_checkScene_22 : decode cX9_checkScene 22 = .ok (.invokespecial 428, 3) := by decide +kernel
theorem dX9_checkScene_25 : decode cX9_checkScene 25 = .ok (.athrow, 1) := by decide +kernel
theorem dX9_checkScene_26 : decode cX9_checkScene 26 = .ok (.return_, 1) := by decide +kernel
theorem dX9_checkGuest_0 : decode cX9_checkGuest 0 = .ok (.iload_n 1, 1) := by decide +kernel
theorem dX9_checkGuest_1 : decode cX9_checkGuest 1 = .ok (.ifCond .lt 17, 3) := by decide +kernel
theorem dX9_checkGuest_4 : decode cX9_checkGuest 4 = .ok (.iload_n 1, 1) := by decide +kernel
theorem dX9_checkGuest_5 : decode cX9_checkGuest 5 = .ok (.aload_n 0, 1) := by decide +kernel
theorem dX9_checkGuest_6 : decode cX9_checkGuest 6 = .ok (.getfield 28, 3) := by decide +kernel
theorem dX9_checkGuest_9 : decode cX9_checkGuest 9 = .ok (.getfield 146, 3) := by decide +kernel
theorem dX9_checkGuest_12 : decode cX9_checkGuest 12 = .ok (.getfield 150, 3) := by decide +kernel
theorem dX9_checkGuest_15 : decode cX9_checkGuest 15 = .ok (.if_icmp .lt 14, 3) := by decide +kernel
theorem dX9_checkGuest_18 : decode cX9_checkGuest 18 = .ok (.new 424, 3) := by decide +kernel
theorem dX9_checkGuest_21 : decode cX9_checkGuest 21 = .ok (.dup, 1) := by decide +kernel
theorem dX9_checkGuest_22 : decode cX9_checkGuest 22 = .ok (.ldc_w 435, 3) := by decide +kernel
theorem dX9_checkGuest_25 : decode cX9_checkGuest 25 = .ok (.invokespecial 428, 3) := by decide +kernel
theorem dX9_checkGuest_28 : decode cX9_checkGuest 28 = .ok (.athrow, 1) := by decide +kernel
theorem dX9_checkGuest_29 : decode cX9_checkGuest 29 = .ok (.return_, 1) := by decide +kernel
theorem dX9_checkWhat_0 : decode cX9_checkWhat 0 = .ok (.iload_n 0, 1) := by decide +kernel
theorem dX9_checkWhat_1 : decode cX9_checkWhat 1 = .ok (.ifCond .lt 8, 3) := by decide +kernel
theorem dX9_checkWhat_4 : decode cX9_checkWhat 4 = .ok (.iload_n 0, 1) := by decide +kernel
theorem dX9_checkWhat_5 : decode cX9_checkWhat 5 = .ok (.iload_n 1, 1) := by decide +kernel
theorem dX9_checkWhat_6 : decode cX9_checkWhat 6 = .ok (.if_icmp .le 14, 3) := by decide +kernel
theorem dX9_checkWhat_9 : decode cX9_checkWhat 9 = .ok (.new 35, 3) := by decide +kernel
theorem dX9_checkWhat_12 : decode cX9_checkWhat 12 = .ok (.dup, 1) := by decide +kernel
theorem dX9_checkWhat_13 : decode cX9_checkWhat 13 = .ok (.ldc_w 437, 3) := by decide +kernel
theorem dX9_checkWhat_16 : decode cX9_checkWhat 16 = .ok (.invokespecial 39, 3) := by decide +kernel
theorem dX9_checkWhat_19 : decode cX9_checkWhat 19 = .ok (.athrow, 1) := by decide +kernel
theorem dX9_checkWhat_20 : decode cX9_checkWhat 20 = .ok (.return_, 1) := by decide +kernel
theorem dX9_checkMinutes_0 : decode cX9_checkMinutes 0 = .ok (.iload_n 0, 1) := by decide +kernel
theorem dX9_checkMinutes_1 : decode cX9_checkMinutes 1 = .ok (.iconst 1, 1) := by decide +kernel
theorem dX9_checkMinutes_2 : decode cX9_checkMinutes 2 = .ok (.if_icmp .lt 8, 3) := by decide +kernel
theorem dX9_checkMinutes_5 : decode cX9_checkMinutes 5 = .ok (.iload_n 0, 1) := by decide +kernel
theorem dX9_checkMinutes_6 : decode cX9_checkMinutes 6 = .ok (.iload_n 1, 1) := by decide +kernel
theorem dX9_checkMinutes_7 : decode cX9_checkMinutes 7 = .ok (.if_icmp .le 14, 3) := by decide +kernel
theorem dX9_checkMinutes_10 : decode cX9_checkMinutes 10 = .ok (.new 35, 3) := by decide +kernel
theorem dX9_checkMinutes_13 : decode cX9_checkMinutes 13 = .ok (.dup, 1) := by decide +kernel
theorem dX9_checkMinutes_14 : decode cX9_checkMinutes 14 = .ok (.ldc_w 439, 3) := by decide +kernel
theorem dX9_checkMinutes_17 : decode cX9_checkMinutes 17 = .ok (.invokespecial 39, 3) := by decide +kernel
theorem dX9_checkMinutes_20 : decode cX9_checkMinutes 20 = .ok (.athrow, 1) := by decide +kernel
theorem dX9_checkMinutes_21 : decode cX9_checkMinutes 21 = .ok (.return_, 1) := by decide +kernel
theorem dX9_checkTime_0 : decode cX9_checkTime 0 = .ok (.iload_n 0, 1) := by decide +kernel
theorem dX9_checkTime_1 : decode cX9_checkTime 1 = .ok (.ifCond .lt 28, 3) := by decide +kernel
theorem dX9_checkTime_4 : decode cX9_checkTime 4 = .ok (.iload_n 0, 1) := by decide +kernel
theorem dX9_checkTime_5 : decode cX9_checkTime 5 = .ok (.bipush 18, 2) := by decide +kernel
theorem dX9_checkTime_7 : decode cX9_checkTime 7 = .ok (.if_icmp .gt 22, 3) := by decide +kernel
theorem dX9_checkTime_10 : decode cX9_checkTime 10 = .ok (.iload_n 1, 1) := by decide +kernel
theorem dX9_checkTime_11 : decode cX9_checkTime 11 = .ok (.iconst 1, 1) := by decide +kernel
theorem dX9_checkTime_12 : decode cX9_checkTime 12 = .ok (.if_icmp .lt 17, 3) := by decide +kernel
theorem dX9_checkTime_15 : decode cX9_checkTime 15 = .ok (.iload_n 1, 1) := by decide +kernel
theorem dX9_checkTime_16 : decode cX9_checkTime 16 = .ok (.bipush 8, 2) := by decide +kernel
theorem dX9_checkTime_18 : decode cX9_checkTime 18 = .ok (.if_icmp .gt 11, 3) := by decide +kernel
theorem dX9_checkTime_21 : decode cX9_checkTime 21 = .ok (.iload_n 0, 1) := by decide +kernel
theorem dX9_checkTime_22 : decode cX9_checkTime 22 = .ok (.iload_n 1, 1) := by decide +kernel
theorem dX9_checkTime_23 : decode cX9_checkTime 23 = .ok (.iadd, 1) := by decide +kernel
theorem dX9_checkTime_24 : decode cX9_checkTime 24 = .ok (.bipush 20, 2) := by decide +kernel
theorem dX9_checkTime_26 : decode cX9_checkTime 26 = .ok (.if_icmp .le 14, 3) := by decide +kernel
theorem dX9_checkTime_29 : decode cX9_checkTime 29 = .ok (.new 35, 3) := by decide +kernel
theorem dX9_checkTime_32 : decode cX9_checkTime 32 = .ok (.dup, 1) := by decide +kernel
theorem dX9_checkTime_33 : decode cX9_checkTime 33 = .ok (.ldc_w 441, 3) := by decide +kernel
theorem dX9_checkTime_36 : decode cX9_checkTime 36 = .ok (.invokespecial 39, 3) := by decide +kernel
theorem dX9_checkTime_39 : decode cX9_checkTime 39 = .ok (.athrow, 1) := by decide +kernel
theorem dX9_checkTime_40 : decode cX9_checkTime 40 = .ok (.return_, 1) := by decide +kernel
theorem dX10_init_0 : decode cX10_init 0 = .ok (.aload_n 0, 1) := by decide +kernel
theorem dX10_init_1 : decode cX10_init 1 = .ok (.invokespecial 3, 3) := by decide +kernel
theorem dX10_init_4 : decode cX10_init 4 = .ok (.aload_n 0, 1) := by decide +kernel
theorem dX10_init_5 : decode cX10_init 5 = .ok (.bipush 8, 2) := by decide +kernel
theorem dX10_init_7 : decode cX10_init 7 = .ok (.newarray .int, 2) := by decide +kernel
theorem dX10_init_9 : decode cX10_init 9 = .ok (.putfield 9, 3) := by decide +kernel
theorem dX10_init_12 : decode cX10_init 12 = .ok (.aload_n 0, 1) := by decide +kernel
theorem dX10_init_13 : decode cX10_init 13 = .ok (.bipush 8, 2) := by decide +kernel
theorem dX10_init_15 : decode cX10_init 15 = .ok (.bipush 8, 2) := by decide +kernel
theorem dX10_init_17 : decode cX10_init 17 = .ok (.multianewarray 15 2, 4) := by decide +kernel
theorem dX10_init_21 : decode cX10_init 21 = .ok (.putfield 17, 3) := by decide +kernel
theorem dX10_init_24 : decode cX10_init 24 = .ok (.aload_n 0, 1) := by decide +kernel
theorem dX10_init_25 : decode cX10_init 25 = .ok (.bipush 8, 2) := by decide +kernel
theorem dX10_init_27 : decode cX10_init 27 = .ok (.bipush 8, 2) := by decide +kernel
theorem dX10_init_29 : decode cX10_init 29 = .ok (.multianewarray 15 2, 4) := by decide +kernel
theorem dX10_init_33 : decode cX10_init 33 = .ok (.putfield 20, 3) := by decide +kernel
theorem dX10_init_36 : decode cX10_init 36 = .ok (.aload_n 0, 1) := by decide +kernel
theorem dX10_init_37 : decode cX10_init 37 = .ok (.iconst 5, 1) := by decide +kernel
theorem dX10_init_38 : decode cX10_init 38 = .ok (.iconst 4, 1) := by decide +kernel
theorem dX10_init_39 : decode cX10_init 39 = .ok (.multianewarray 15 2, 4) := by decide +kernel
theorem dX10_init_43 : decode cX10_init 43 = .ok (.putfield 23, 3) := by decide +kernel
theorem dX10_init_46 : decode cX10_init 46 = .ok (.aload_n 0, 1) := by decide +kernel
theorem dX10_init_47 : decode cX10_init 47 = .ok (.iconst 4, 1) := by decide +kernel
theorem dX10_init_48 : decode cX10_init 48 = .ok (.iconst 5, 1) := by decide +kernel
theorem dX10_init_49 : decode cX10_init 49 = .ok (.multianewarray 15 2, 4) := by decide +kernel
theorem dX10_init_53 : decode cX10_init 53 = .ok (.putfield 26, 3) := by decide +kernel
theorem dX10_init_56 : decode cX10_init 56 = .ok (.aload_n 0, 1) := by decide +kernel
theorem dX10_init_57 : decode cX10_init 57 = .ok (.bipush 12, 2) := by decide +kernel
theorem dX10_init_59 : decode cX10_init 59 = .ok (.bipush 10, 2) := by decide +kernel
theorem dX10_init_61 : decode cX10_init 61 = .ok (.multianewarray 15 2, 4) := by decide +kernel
theorem dX10_init_65 : decode cX10_init 65 = .ok (.putfield 29, 3) := by decide +kernel
theorem dX10_init_68 : decode cX10_init 68 = .ok (.aload_n 0, 1) := by decide +kernel
theorem dX10_init_69 : decode cX10_init 69 = .ok (.bipush 12, 2) := by decide +kernel
theorem dX10_init_71 : decode cX10_init 71 = .ok (.bipush 7, 2) := by decide +kernel
theorem dX10_init_73 : decode cX10_init 73 = .ok (.multianewarray 15 2, 4) := by decide +kernel
theorem dX10_init_77 : decode cX10_init 77 = .ok (.putfield 32, 3) := by decide +kernel
theorem dX10_init_80 : decode cX10_init 80 = .ok (.aload_n 0, 1) := by decide +kernel
theorem dX10_init_81 : decode cX10_init 81 = .ok (.bipush 12, 2) := by decide +kernel
theorem dX10_init_83 : decode cX10_init 83 = .ok (.bipush 12, 2) := by decide +kernel
theorem dX10_init_85 : decode cX10_init 85 = .ok (.multianewarray 15 2, 4) := by decide +kernel
theorem dX10_init_89 : decode cX10_init 89 = .ok (.putfield 35, 3) := by decide +kernel
theorem dX10_init_92 : decode cX10_init 92 = .ok (.return_, 1) := by decide +kernel
theorem dX10_copy_0 : decode cX10_copy 0 = .ok (.new 10, 3) := by decide +kernel
theorem dX10_copy_3 : decode cX10_copy 3 = .ok (.dup, 1) := by decide +kernel
theorem dX10_copy_4 : decode cX10_copy 4 = .ok (.invokespecial 38, 3) := by decide +kernel
theorem dX10_copy_7 : decode cX10_copy 7 = .ok (.astore_n 1, 1) := by decide +kernel
theorem dX10_copy_8 : decode cX10_copy 8 = .ok (.aload_n 0, 1) := by decide +kernel
theorem dX10_copy_9 : decode cX10_copy 9 = .ok (.getfield 9, 3) := by decide +kernel
theorem dX10_copy_12 : decode cX10_copy 12 = .ok (.iconst 0, 1) := by decide +kernel
theorem dX10_copy_13 : decode cX10_copy 13 = .ok (.aload_n 1, 1) := by decide +kernel
theorem dX10_copy_14 : decode cX10_copy 14 = .ok (.getfield 9, 3) := by decide +kernel
theorem dX10_copy_17 : decode cX10_copy 17 = .ok (.iconst 0, 1) := by decide +kernel
theorem dX10_copy_18 : decode cX10_copy 18 = .ok (.bipush 8, 2) := by decide +kernel
theorem dX10_copy_20 : decode cX10_copy 20 = .ok (.invokestatic 39, 3) := by decide +kernel
theorem dX10_copy_23 : decode cX10_copy 23 = .ok (.aload_n 0, 1) := by decide +kernel
theorem dX10_copy_24 : decode cX10_copy 24 = .ok (.getfield 17, 3) := by decide +kernel
theorem dX10_copy_27 : decode cX10_copy 27 = .ok (.aload_n 1, 1) := by decide +kernel
theorem dX10_copy_28 : decode cX10_copy 28 = .ok (.getfield 17, 3) := by decide +kernel
theorem dX10_copy_31 : decode cX10_copy 31 = .ok (.invokestatic 45, 3) := by decide +kernel
theorem dX10_copy_34 : decode cX10_copy 34 = .ok (.aload_n 0, 1) := by decide +kernel
theorem dX10_copy_35 : decode cX10_copy 35 = .ok (.getfield 20, 3) := by decide +kernel
theorem dX10_copy_38 : decode cX10_copy 38 = .ok (.aload_n 1, 1) := by decide +kernel
theorem dX10_copy_39 : decode cX10_copy 39 = .ok (.getfield 20, 3) := by decide +kernel
theorem dX10_copy_42 : decode cX10_copy 42 = .ok (.invokestatic 45, 3) := by decide +kernel
theorem dX10_copy_45 : decode cX10_copy 45 = .ok (.aload_n 0, 1) := by decide +kernel
theorem dX10_copy_46 : decode cX10_copy 46 = .ok (.getfield 23, 3) := by decide +kernel
theorem dX10_copy_49 : decode cX10_copy 49 = .ok (.aload_n 1, 1) := by decide +kernel
theorem dX10_copy_50 : decode cX10_copy 50 = .ok (.getfield 23, 3) := by decide +kernel
theorem dX10_copy_53 : decode cX10_copy 53 = .ok (.invokestatic 45, 3) := by decide +kernel
theorem dX10_copy_56 : decode cX10_copy 56 = .ok (.aload_n 0, 1) := by decide +kernel
theorem dX10_copy_57 : decode cX10_copy 57 = .ok (.getfield 26, 3) := by decide +kernel
theorem dX10_copy_60 : decode cX10_copy 60 = .ok (.aload_n 1, 1) := by decide +kernel
theorem dX10_copy_61 : decode cX10_copy 61 = .ok (.getfield 26, 3) := by decide +kernel
theorem dX10_copy_64 : decode cX10_copy 64 = .ok (.invokestatic 45, 3) := by decide +kernel
theorem dX10_copy_67 : decode cX10_copy 67 = .ok (.aload_n 0, 1) := by decide +kernel
theorem dX10_copy_68 : decode cX10_copy 68 = .ok (.getfield 29, 3) := by decide +kernel
theorem dX10_copy_71 : decode cX10_copy 71 = .ok (.aload_n 1, 1) := by decide +kernel
theorem dX10_copy_72 : decode cX10_copy 72 = .ok (.getfield 29, 3) := by decide +kernel
theorem dX10_copy_75 : decode cX10_copy 75 = .ok (.invokestatic 45, 3) := by decide +kernel
theorem dX10_copy_78 : decode cX10_copy 78 = .ok (.aload_n 0, 1) := by decide +kernel
theorem dX10_copy_79 : decode cX10_copy 79 = .ok (.getfield 32, 3) := by decide +kernel
theorem dX10_copy_82 : decode cX10_copy 82 = .ok (.aload_n 1, 1) := by decide +kernel
theorem dX10_copy_83 : decode cX10_copy 83 = .ok (.getfield 32, 3) := by decide +kernel
theorem dX10_copy_86 : decode cX10_copy 86 = .ok (.invokestatic 45, 3) := by decide +kernel
theorem dX10_copy_89 : decode cX10_copy 89 = .ok (.aload_n 0, 1) := by decide +kernel
theorem dX10_copy_90 : decode cX10_copy 90 = .ok (.getfield 35, 3) := by decide +kernel
theorem dX10_copy_93 : decode cX10_copy 93 = .ok (.aload_n 1, 1) := by decide +kernel
theorem dX10_copy_94 : decode cX10_copy 94 = .ok (.getfield 35, 3) := by decide +kernel
theorem dX10_copy_97 : decode cX10_copy 97 = .ok (.invokestatic 45, 3) := by decide +kernel
theorem dX10_copy_100 : decode cX10_copy 100 = .ok (.aload_n 1, 1) := by decide +kernel
theorem dX10_copy_101 : decode cX10_copy 101 = .ok (.aload_n 0, 1) := by decide +kernel
theorem dX10_copy_102 : decode cX10_copy 102 = .ok (.getfield 49, 3) := by decide +kernel
theorem dX10_copy_105 : decode cX10_copy 105 = .ok (.putfield 49, 3) := by decide +kernel
theorem dX10_copy_108 : decode cX10_copy 108 = .ok (.aload_n 1, 1) := by decide +kernel
theorem dX10_copy_109 : decode cX10_copy 109 = .ok (.aload_n 0, 1) := by decide +kernel
theorem dX10_copy_110 : decode cX10_copy 110 = .ok (.getfield 53, 3) := by decide +kernel
theorem dX10_copy_113 : decode cX10_copy 113 = .ok (.putfield 53, 3) := by decide +kernel
theorem dX10_copy_116 : decode cX10_copy 116 = .ok (.aload_n 1, 1) := by decide +kernel
theorem dX10_copy_117 : decode cX10_copy 117 = .ok (.aload_n 0, 1) := by decide +kernel
theorem dX10_copy_118 : decode cX10_copy 118 = .ok (.getfield 56, 3) := by decide +kernel
theorem dX10_copy_121 : decode cX10_copy 121 = .ok (.putfield 56, 3) := by decide +kernel
theorem dX10_copy_124 : decode cX10_copy 124 = .ok (.aload_n 1, 1) := by decide +kernel
theorem dX10_copy_125 : decode cX10_copy 125 = .ok (.aload_n 0, 1) := by decide +kernel
theorem dX10_copy_126 : decode cX10_copy 126 = .ok (.getfield 59, 3) := by decide +kernel
theorem dX10_copy_129 : decode cX10_copy 129 = .ok (.putfield 59, 3) := by decide +kernel
theorem dX10_copy_132 : decode cX10_copy 132 = .ok (.aload_n 1, 1) := by decide +kernel
theorem dX10_copy_133 : decode cX10_copy 133 = .ok (.aload_n 0, 1) := by decide +kernel
theorem dX10_copy_134 : decode cX10_copy 134 = .ok (.getfield 62, 3) := by decide +kernel
theorem dX10_copy_137 : decode cX10_copy 137 = .ok (.putfield 62, 3) := by decide +kernel
theorem dX10_copy_140 : decode cX10_copy 140 = .ok (.aload_n 1, 1) := by decide +kernel
theorem dX10_copy_141 : decode cX10_copy 141 = .ok (.aload_n 0, 1) := by decide +kernel
theorem dX10_copy_142 : decode cX10_copy 142 = .ok (.getfield 65, 3) := by decide +kernel
theorem dX10_copy_145 : decode cX10_copy 145 = .ok (.putfield 65, 3) := by decide +kernel
theorem dX10_copy_148 : decode cX10_copy 148 = .ok (.aload_n 1, 1) := by decide +kernel
theorem dX10_copy_149 : decode cX10_copy 149 = .ok (.aload_n 0, 1) := by decide +kernel
theorem dX10_copy_150 : decode cX10_copy 150 = .ok (.getfield 68, 3) := by decide +kernel
theorem dX10_copy_153 : decode cX10_copy 153 = .ok (.putfield 68, 3) := by decide +kernel
theorem dX10_copy_156 : decode cX10_copy 156 = .ok (.aload_n 1, 1) := by decide +kernel
theorem dX10_copy_157 : decode cX10_copy 157 = .ok (.aload_n 0, 1) := by decide +kernel
theorem dX10_copy_158 : decode cX10_copy 158 = .ok (.getfield 71, 3) := by decide +kernel
theorem dX10_copy_161 : decode cX10_copy 161 = .ok (.putfield 71, 3) := by decide +kernel
theorem dX10_copy_164 : decode cX10_copy 164 = .ok (.aload_n 1, 1) := by decide +kernel
theorem dX10_copy_165 : decode cX10_copy 165 = .ok (.areturn, 1) := by decide +kernel
theorem dX10_rows_0 : decode cX10_rows 0 = .ok (.iconst 0, 1) := by decide +kernel
theorem dX10_rows_1 : decode cX10_rows 1 = .ok (.istore_n 2, 1) := by decide +kernel
theorem dX10_rows_2 : decode cX10_rows 2 = .ok (.iload_n 2, 1) := by decide +kernel
theorem dX10_rows_3 : decode cX10_rows 3 = .ok (.aload_n 0, 1) := by decide +kernel
theorem dX10_rows_4 : decode cX10_rows 4 = .ok (.arraylength, 1) := by decide +kernel
theorem dX10_rows_5 : decode cX10_rows 5 = .ok (.if_icmp .ge 24, 3) := by decide +kernel
theorem dX10_rows_8 : decode cX10_rows 8 = .ok (.aload_n 0, 1) := by decide +kernel
theorem dX10_rows_9 : decode cX10_rows 9 = .ok (.iload_n 2, 1) := by decide +kernel
theorem dX10_rows_10 : decode cX10_rows 10 = .ok (.aaload, 1) := by decide +kernel
theorem dX10_rows_11 : decode cX10_rows 11 = .ok (.iconst 0, 1) := by decide +kernel
theorem dX10_rows_12 : decode cX10_rows 12 = .ok (.aload_n 1, 1) := by decide +kernel
theorem dX10_rows_13 : decode cX10_rows 13 = .ok (.iload_n 2, 1) := by decide +kernel
theorem dX10_rows_14 : decode cX10_rows 14 = .ok (.aaload, 1) := by decide +kernel
theorem dX10_rows_15 : decode cX10_rows 15 = .ok (.iconst 0, 1) := by decide +kernel
theorem dX10_rows_16 : decode cX10_rows 16 = .ok (.aload_n 0, 1) := by decide +kernel
theorem dX10_rows_17 : decode cX10_rows 17 = .ok (.iload_n 2, 1) := by decide +kernel
theorem dX10_rows_18 : decode cX10_rows 18 = .ok (.aaload, 1) := by decide +kernel
theorem dX10_rows_19 : decode cX10_rows 19 = .ok (.arraylength, 1) := by decide +kernel
theorem dX10_rows_20 : decode cX10_rows 20 = .ok (.invokestatic 39, 3) := by decide +kernel
theorem dX10_rows_23 : decode cX10_rows 23 = .ok (.iinc 2 1, 3) := by decide +kernel
theorem dX10_rows_26 : decode cX10_rows 26 = .ok (.goto (-24), 3) := by decide +kernel
theorem dX10_rows_29 : decode cX10_rows 29 = .ok (.return_, 1) := by decide +kernel
theorem dX10_measure_0 : decode cX10_measure 0 = .ok (.iconst 0, 1) := by decide +kernel
theorem dX10_measure_1 : decode cX10_measure 1 = .ok (.istore_n 1, 1) := by decide +kernel
theorem dX10_measure_2 : decode cX10_measure 2 = .ok (.iload_n 1, 1) := by decide +kernel
theorem dX10_measure_3 : decode cX10_measure 3 = .ok (.bipush 8, 2) := by decide +kernel
theorem dX10_measure_5 : decode cX10_measure 5 = .ok (.if_icmp .ge 57, 3) := by decide +kernel
theorem dX10_measure_8 : decode cX10_measure 8 = .ok (.iconst 0, 1) := by decide +kernel
theorem dX10_measure_9 : decode cX10_measure 9 = .ok (.istore_n 2, 1) := by decide +kernel
theorem dX10_measure_10 : decode cX10_measure 10 = .ok (.iload_n 2, 1) := by decide +kernel
theorem dX10_measure_11 : decode cX10_measure 11 = .ok (.bipush 8, 2) := by decide +kernel
theorem dX10_measure_13 : decode cX10_measure 13 = .ok (.if_icmp .ge 43, 3) := by decide +kernel
theorem dX10_measure_16 : decode cX10_measure 16 = .ok (.aload_n 0, 1) := by decide +kernel
theorem dX10_measure_17 : decode cX10_measure 17 = .ok (.getfield 20, 3) := by decide +kernel
theorem dX10_measure_20 : decode cX10_measure 20 = .ok (.iload_n 1, 1) := by decide +kernel
theorem dX10_measure_21 : decode cX10_measure 21 = .ok (.aaload, 1) := by decide +kernel
theorem dX10_measure_22 : decode cX10_measure 22 = .ok (.iload_n 2, 1) := by decide +kernel
theorem dX10_measure_23 : decode cX10_measure 23 = .ok (.iload_n 1, 1) := by decide +kernel
theorem dX10_measure_24 : decode cX10_measure 24 = .ok (.iload_n 2, 1) := by decide +kernel
theorem dX10_measure_25 : decode cX10_measure 25 = .ok (.if_icmp .ne 7, 3) := by decide +kernel
theorem dX10_measure_28 : decode cX10_measure 28 = .ok (.iconst 0, 1) := by decide +kernel
theorem dX10_measure_29 : decode cX10_measure 29 = .ok (.goto 20, 3) := by decide +kernel
theorem dX10_measure_32 : decode cX10_measure 32 = .ok (.aload_n 0, 1) := by decide +kernel
theorem dX10_measure_33 : decode cX10_measure 33 = .ok (.getfield 17, 3) := by decide +kernel
theorem dX10_measure_36 : decode cX10_measure 36 = .ok (.iload_n 1, 1) := by decide +kernel
theorem dX10_measure_37 : decode cX10_measure 37 = .ok (.aaload, 1) := by decide +kernel
theorem dX10_measure_38 : decode cX10_measure 38 = .ok (.iload_n 2, 1) := by decide +kernel
theorem dX10_measure_39 : decode cX10_measure 39 = .ok (.iaload, 1) := by decide +kernel
theorem dX10_measure_40 : decode cX10_measure 40 = .ok (.ifCond .le 7, 3) := by decide +kernel
theorem dX10_measure_43 : decode cX10_measure 43 = .ok (.iconst 1, 1) := by decide +kernel
theorem dX10_measure_44 : decode cX10_measure 44 = .ok (.goto 5, 3) := by decide +kernel
theorem dX10_measure_47 : decode cX10_measure 47 = .ok (.bipush 99, 2) := by decide +kernel
theorem dX10_measure_49 : decode cX10_measure 49 = .ok (.iastore, 1) := by decide +kernel
theorem dX10_measure_50 : decode cX10_measure 50 = .ok (.iinc 2 1, 3) := by decide +kernel
theorem dX10_measure_53 : decode cX10_measure 53 = .ok (.goto (-43), 3) := by decide +kernel
theorem dX10_measure_56 : decode cX10_measure 56 = .ok (.iinc 1 1, 3) := by decide +kernel
theorem dX10_measure_59 : decode cX10_measure 59 = .ok (.goto (-57), 3) := by decide +kernel
theorem dX10_measure_62 : decode cX10_measure 62 = .ok (.iconst 0, 1) := by decide +kernel
theorem dX10_measure_63 : decode cX10_measure 63 = .ok (.istore_n 1, 1) := by decide +kernel
theorem dX10_measure_64 : decode cX10_measure 64 = .ok (.iload_n 1, 1) := by decide +kernel
theorem dX10_measure_65 : decode cX10_measure 65 = .ok (.bipush 8, 2) := by decide +kernel
theorem dX10_measure_67 : decode cX10_measure 67 = .ok (.if_icmp .ge 73, 3) := by decide +kernel
theorem dX10_measure_70 : decode cX10_measure 70 = .ok (.iconst 0, 1) := by decide +kernel
theorem dX10_measure_71 : decode cX10_measure 71 = .ok (.istore_n 2, 1) := by decide +kernel
theorem dX10_measure_72 : decode cX10_measure 72 = .ok (.iload_n 2, 1) := by decide +kernel
theorem dX10_measure_73 : decode cX10_measure 73 = .ok (.bipush 8, 2) := by decide +kernel
theorem dX10_measure_75 : decode cX10_measure 75 = .ok (.if_icmp .ge 59, 3) := by decide +kernel
theorem dX10_measure_78 : decode cX10_measure 78 = .ok (.iconst 0, 1) := by decide +kernel
theorem dX10_measure_79 : decode cX10_measure 79 = .ok (.istore_n 3, 1) := by decide +kernel
theorem dX10_measure_80 : decode cX10_measure 80 = .ok (.iload_n 3, 1) := by decide +kernel
theorem dX10_measure_81 : decode cX10_measure 81 = .ok (.bipush 8, 2) := by decide +kernel
theorem dX10_measure_83 : decode cX10_measure 83 = .ok (.if_icmp .ge 45, 3) := by decide +kernel
theorem dX10_measure_86 : decode cX10_measure 86 = .ok (.aload_n 0, 1) := by decide +kernel
theorem dX10_measure_87 : decode cX10_measure 87 = .ok (.getfield 20, 3) := by decide +kernel
theorem dX10_measure_90 : decode cX10_measure 90 = .ok (.iload_n 2, 1) := by decide +kernel
theorem dX10_measure_91 : decode cX10_measure 91 = .ok (.aaload, 1) := by decide +kernel
theorem dX10_measure_92 : decode cX10_measure 92 = .ok (.iload_n 3, 1) := by decide +kernel
theorem dX10_measure_93 : decode cX10_measure 93 = .ok (.aload_n 0, 1) := by decide +kernel
theorem dX10_measure_94 : decode cX10_measure 94 = .ok (.getfield 20, 3) := by decide +kernel
theorem dX10_measure_97 : decode cX10_measure 97 = .ok (.iload_n 2, 1) := by decide +kernel
theorem dX10_measure_98 : decode cX10_measure 98 = .ok (.aaload, 1) := by decide +kernel
theorem dX10_measure_99 : decode cX10_measure 99 = .ok (.iload_n 3, 1) := by decide +kernel
theorem dX10_measure_100 : decode cX10_measure 100 = .ok (.iaload, 1) := by decide +kernel
theorem dX10_measure_101 : decode cX10_measure 101 = .ok (.aload_n 0, 1) := by decide +kernel
theorem dX10_measure_102 : decode cX10_measure 102 = .ok (.getfield 20, 3) := by decide +kernel
theorem dX10_measure_105 : decode cX10_measure 105 = .ok (.iload_n 2, 1) := by decide +kernel
theorem dX10_measure_106 : decode cX10_measure 106 = .ok (.aaload, 1) := by decide +kernel
theorem dX10_measure_107 : decode cX10_measure 107 = .ok (.iload_n 1, 1) := by decide +kernel
theorem dX10_measure_108 : decode cX10_measure 108 = .ok (.iaload, 1) := by decide +kernel
theorem dX10_measure_109 : decode cX10_measure 109 = .ok (.aload_n 0, 1) := by decide +kernel
theorem dX10_measure_110 : decode cX10_measure 110 = .ok (.getfield 20, 3) := by decide +kernel
theorem dX10_measure_113 : decode cX10_measure 113 = .ok (.iload_n 1, 1) := by decide +kernel
theorem dX10_measure_114 : decode cX10_measure 114 = .ok (.aaload, 1) := by decide +kernel
theorem dX10_measure_115 : decode cX10_measure 115 = .ok (.iload_n 3, 1) := by decide +kernel
theorem dX10_measure_116 : decode cX10_measure 116 = .ok (.iaload, 1) := by decide +kernel
theorem dX10_measure_117 : decode cX10_measure 117 = .ok (.iadd, 1) := by decide +kernel
theorem dX10_measure_118 : decode cX10_measure 118 = .ok (.invokestatic 74, 3) := by decide +kernel
theorem dX10_measure_121 : decode cX10_measure 121 = .ok (.iastore, 1) := by decide +kernel
theorem dX10_measure_122 : decode cX10_measure 122 = .ok (.iinc 3 1, 3) := by decide +kernel
theorem dX10_measure_125 : decode cX10_measure 125 = .ok (.goto (-45), 3) := by decide +kernel
theorem dX10_measure_128 : decode cX10_measure 128 = .ok (.iinc 2 1, 3) := by decide +kernel
theorem dX10_measure_131 : decode cX10_measure 131 = .ok (.goto (-59), 3) := by decide +kernel
theorem dX10_measure_134 : decode cX10_measure 134 = .ok (.iinc 1 1, 3) := by decide +kernel
theorem dX10_measure_137 : decode cX10_measure 137 = .ok (.goto (-73), 3) := by decide +kernel
theorem dX10_measure_140 : decode cX10_measure 140 = .ok (.return_, 1) := by decide +kernel
theorem dX10_next_0 : decode cX10_next 0 = .ok (.iload_n 1, 1) := by decide +kernel
theorem dX10_next_1 : decode cX10_next 1 = .ok (.iload_n 2, 1) := by decide +kernel
theorem dX10_next_2 : decode cX10_next 2 = .ok (.if_icmp .ne 5, 3) := by decide +kernel
theorem dX10_next_5 : decode cX10_next 5 = .ok (.iload_n 1, 1) := by decide +kernel
theorem dX10_next_6 : decode cX10_next 6 = .ok (.ireturn, 1) := by decide +kernel
theorem dX10_next_7 : decode cX10_next 7 = .ok (.aload_n 0, 1) := by decide +kernel
theorem dX10_next_8 : decode cX10_next 8 = .ok (.getfield 20, 3) := by decide +kernel
theorem dX10_next_11 : decode cX10_next 11 = .ok (.iload_n 1, 1) := by decide +kernel
theorem dX10_next_12 : decode cX10_next 12 = .ok (.aaload, 1) := by decide +kernel
theorem dX10_next_13 : decode cX10_next 13 = .ok (.iload_n 2, 1) := by decide +kernel
theorem dX10_next_14 : decode cX10_next 14 = .ok (.iaload, 1) := by decide +kernel
theorem dX10_next_15 : decode cX10_next 15 = .ok (.bipush 99, 2) := by decide +kernel
theorem dX10_next_17 : decode cX10_next 17 = .ok (.if_icmp .lt 5, 3) := by decide +kernel
theorem dX10_next_20 : decode cX10_next 20 = .ok (.iconst (-1), 1) := by decide +kernel
theorem dX10_next_21 : decode cX10_next 21 = .ok (.ireturn, 1) := by decide +kernel
theorem dX10_next_22 : decode cX10_next 22 = .ok (.iconst 0, 1) := by decide +kernel
theorem dX10_next_23 : decode cX10_next 23 = .ok (.istore_n 3, 1) := by decide +kernel
theorem dX10_next_24 : decode cX10_next 24 = .ok (.aload_n 0, 1) := by decide +kernel
theorem dX10_next_25 : decode cX10_next 25 = .ok (.getfield 17, 3) := by decide +kernel
theorem dX10_next_28 : decode cX10_next 28 = .ok (.iload_n 1, 1) := by decide +kernel
theorem dX10_next_29 : decode cX10_next 29 = .ok (.aaload, 1) := by decide +kernel
theorem dX10_next_30 : decode cX10_next 30 = .ok (.iload_n 3, 1) := by decide +kernel
theorem dX10_next_31 : decode cX10_next 31 = .ok (.iaload, 1) := by decide +kernel
theorem dX10_next_32 : decode cX10_next 32 = .ok (.ifCond .eq 24, 3) := by decide +kernel
theorem dX10_next_35 : decode cX10_next 35 = .ok (.aload_n 0, 1) := by decide +kernel
theorem dX10_next_36 : decode cX10_next 36 = .ok (.getfield 20, 3) := by decide +kernel
theorem dX10_next_39 : decode cX10_next 39 = .ok (.iload_n 3, 1) := by decide +kernel
theorem dX10_next_40 : decode cX10_next 40 = .ok (.aaload, 1) := by decide +kernel
theorem dX10_next_41 : decode cX10_next 41 = .ok (.iload_n 2, 1) := by decide +kernel
theorem dX10_next_42 : decode cX10_next 42 = .ok (.iaload, 1) := by decide +kernel
theorem dX10_next_43 : decode cX10_next 43 = .ok (.aload_n 0, 1) := by decide +kernel
theorem dX10_next_44 : decode cX10_next 44 = .ok (.getfield 20, 3) := by decide +kernel
theorem dX10_next_47 : decode cX10_next 47 = .ok (.iload_n 1, 1) := by decide +kernel
theorem dX10_next_48 : decode cX10_next 48 = .ok (.aaload, 1) := by decide +kernel
theorem dX10_next_49 : decode cX10_next 49 = .ok (.iload_n 2, 1) := by decide +kernel
theorem dX10_next_50 : decode cX10_next 50 = .ok (.iaload, 1) := by decide +kernel
theorem dX10_next_51 : decode cX10_next 51 = .ok (.iconst 1, 1) := by decide +kernel
theorem dX10_next_52 : decode cX10_next 52 = .ok (.isub, 1) := by decide +kernel
theorem dX10_next_53 : decode cX10_next 53 = .ok (.if_icmp .eq 9, 3) := by decide +kernel
theorem dX10_next_56 : decode cX10_next 56 = .ok (.iinc 3 1, 3) := by decide +kernel
theorem dX10_next_59 : decode cX10_next 59 = .ok (.goto (-35), 3) := by decide +kernel
theorem dX10_next_62 : decode cX10_next 62 = .ok (.iload_n 3, 1) := by decide +kernel
theorem dX10_next_63 : decode cX10_next 63 = .ok (.ireturn, 1) := by decide +kernel
theorem dX10_minute_0 : decode cX10_minute 0 = .ok (.aload_n 0, 1) := by decide +kernel
theorem dX10_minute_1 : decode cX10_minute 1 = .ok (.getfield 49, 3) := by decide +kernel
theorem dX10_minute_4 : decode cX10_minute 4 = .ok (.bipush 20, 2) := by decide +kernel
theorem dX10_minute_6 : decode cX10_minute 6 = .ok (.irem, 1) := by decide +kernel
theorem dX10_minute_7 : decode cX10_minute 7 = .ok (.ireturn, 1) := by decide +kernel
theorem dX10_roomOf_0 : decode cX10_roomOf 0 = .ok (.aload_n 0, 1) := by decide +kernel
theorem dX10_roomOf_1 : decode cX10_roomOf 1 = .ok (.getfield 23, 3) := by decide +kernel
theorem dX10_roomOf_4 : decode cX10_roomOf 4 = .ok (.iload_n 1, 1) := by decide +kernel
theorem dX10_roomOf_5 : decode cX10_roomOf 5 = .ok (.aaload, 1) := by decide +kernel
theorem dX10_roomOf_6 : decode cX10_roomOf 6 = .ok (.iconst 2, 1) := by decide +kernel
theorem dX10_roomOf_7 : decode cX10_roomOf 7 = .ok (.iaload, 1) := by decide +kernel
theorem dX10_roomOf_8 : decode cX10_roomOf 8 = .ok (.iconst (-1), 1) := by decide +kernel
theorem dX10_roomOf_9 : decode cX10_roomOf 9 = .ok (.if_icmp .ne 14, 3) := by decide +kernel
theorem dX10_roomOf_12 : decode cX10_roomOf 12 = .ok (.aload_n 0, 1) := by decide +kernel
theorem dX10_roomOf_13 : decode cX10_roomOf 13 = .ok (.getfield 23, 3) := by decide +kernel
theorem dX10_roomOf_16 : decode cX10_roomOf 16 = .ok (.iload_n 1, 1) := by decide +kernel
theorem dX10_roomOf_17 : decode cX10_roomOf 17 = .ok (.aaload, 1) := by decide +kernel
theorem dX10_roomOf_18 : decode cX10_roomOf 18 = .ok (.iconst 1, 1) := by decide +kernel
theorem dX10_roomOf_19 : decode cX10_roomOf 19 = .ok (.iaload, 1) := by decide +kernel
theorem dX10_roomOf_20 : decode cX10_roomOf 20 = .ok (.goto 18, 3) := by decide +kernel
theorem dX10_roomOf_23 : decode cX10_roomOf 23 = .ok (.aload_n 0, 1) := by decide +kernel
theorem dX10_roomOf_24 : decode cX10_roomOf 24 = .ok (.getfield 23, 3) := by decide +kernel
theorem dX10_roomOf_27 : decode cX10_roomOf 27 = .ok (.aload_n 0, 1) := by decide +kernel
theorem dX10_roomOf_28 : decode cX10_roomOf 28 = .ok (.getfield 23, 3) := by decide +kernel
theorem dX10_roomOf_31 : decode cX10_roomOf 31 = .ok (.iload_n 1, 1) := by decide +kernel
theorem dX10_roomOf_32 : decode cX10_roomOf 32 = .ok (.aaload, 1) := by decide +kernel
theorem dX10_roomOf_33 : decode cX10_roomOf 33 = .ok (.iconst 2, 1) := by decide +kernel
theorem dX10_roomOf_34 : decode cX10_roomOf 34 = .ok (.iaload, 1) := by decide +kernel
theorem dX10_roomOf_35 : decode cX10_roomOf 35 = .ok (.aaload, 1) := by decide +kernel
theorem dX10_roomOf_36 : decode cX10_roomOf 36 = .ok (.iconst 1, 1) := by decide +kernel
theorem dX10_roomOf_37 : decode cX10_roomOf 37 = .ok (.iaload, 1) := by decide +kernel
theorem dX10_roomOf_38 : decode cX10_roomOf 38 = .ok (.ireturn, 1) := by decide +kernel
theorem dX10_runs_0 : decode cX10_runs 0 = .ok (.iconst 0, 1) := by decide +kernel
theorem dX10_runs_1 : decode cX10_runs 1 = .ok (.istore_n 2, 1) := by decide +kernel
theorem dX10_runs_2 : decode cX10_runs 2 = .ok (.iload_n 2, 1) := by decide +kernel
theorem dX10_runs_3 : decode cX10_runs 3 = .ok (.aload_n 0, 1) := by decide +kernel
theorem dX10_runs_4 : decode cX10_runs 4 = .ok (.getfield 65, 3) := by decide +kernel
theorem dX10_runs_7 : decode cX10_runs 7 = .ok (.if_icmp .ge 38, 3) := by decide +kernel
theorem dX10_runs_10 : decode cX10_runs 10 = .ok (.aload_n 0, 1) := by decide +kernel
theorem dX10_runs_11 : decode cX10_runs 11 = .ok (.getfield 29, 3) := by decide +kernel
theorem dX10_runs_14 : decode cX10_runs 14 = .ok (.iload_n 2, 1) := by decide +kernel
theorem dX10_runs_15 : decode cX10_runs 15 = .ok (.aaload, 1) := by decide +kernel
theorem dX10_runs_16 : decode cX10_runs 16 = .ok (.iconst 5, 1) := by decide +kernel
theorem dX10_runs_17 : decode cX10_runs 17 = .ok (.iaload, 1) := by decide +kernel
theorem dX10_runs_18 : decode cX10_runs 18 = .ok (.iconst 1, 1) := by decide +kernel
theorem dX10_runs_19 : decode cX10_runs 19 = .ok (.if_icmp .ne 20, 3) := by decide +kernel
theorem dX10_runs_22 : decode cX10_runs 22 = .ok (.aload_n 0, 1) := by decide +kernel
theorem dX10_runs_23 : decode cX10_runs 23 = .ok (.getfield 29, 3) := by decide +kernel
theorem dX10_runs_26 : decode cX10_runs 26 = .ok (.iload_n 2, 1) := by decide +kernel
theorem dX10_runs_27 : decode cX10_runs 27 = .ok (.aaload, 1) := by decide +kernel
theorem dX10_runs_28 : decode cX10_runs 28 = .ok (.iconst 3, 1) := by decide +kernel
theorem dX10_runs_29 : decode cX10_runs 29 = .ok (.iaload, 1) := by decide +kernel
theorem dX10_runs_30 : decode cX10_runs 30 = .ok (.iload_n 1, 1) := by decide +kernel
theorem dX10_runs_31 : decode cX10_runs 31 = .ok (.invokestatic 80, 3) := by decide +kernel
theorem dX10_runs_34 : decode cX10_runs 34 = .ok (.ifCond .eq 5, 3) := by decide +kernel
theorem dX10_runs_37 : decode cX10_runs 37 = .ok (.iload_n 2, 1) := by decide +kernel
theorem dX10_runs_38 : decode cX10_runs 38 = .ok (.ireturn, 1) := by decide +kernel
theorem dX10_runs_39 : decode cX10_runs 39 = .ok (.iinc 2 1, 3) := by decide +kernel
theorem dX10_runs_42 : decode cX10_runs 42 = .ok (.goto (-40), 3) := by decide +kernel
theorem dX10_runs_45 : decode cX10_runs 45 = .ok (.iconst (-1), 1) := by decide +kernel
theorem dX10_runs_46 : decode cX10_runs 46 = .ok (.ireturn, 1) := by decide +kernel
theorem dX10_plays_0 : decode cX10_plays 0 = .ok (.iconst 0, 1) := by decide +kernel
theorem dX10_plays_1 : decode cX10_plays 1 = .ok (.istore_n 2, 1) := by decide +kernel
theorem dX10_plays_2 : decode cX10_plays 2 = .ok (.iload_n 2, 1) := by decide +kernel
theorem dX10_plays_3 : decode cX10_plays 3 = .ok (.aload_n 0, 1) := by decide +kernel
theorem dX10_plays_4 : decode cX10_plays 4 = .ok (.getfield 59, 3) := by decide +kernel
theorem dX10_plays_7 : decode cX10_plays 7 = .ok (.if_icmp .ge 23, 3) := by decide +kernel
theorem dX10_plays_10 : decode cX10_plays 10 = .ok (.aload_n 0, 1) := by decide +kernel
theorem dX10_plays_11 : decode cX10_plays 11 = .ok (.getfield 23, 3) := by decide +kernel
theorem dX10_plays_14 : decode cX10_plays 14 = .ok (.iload_n 2, 1) := by decide +kernel
theorem dX10_plays_15 : decode cX10_plays 15 = .ok (.aaload, 1) := by decide +kernel
theorem dX10_plays_16 : decode cX10_plays 16 = .ok (.iconst 2, 1) := by decide +kernel
theorem dX10_plays_17 : decode cX10_plays 17 = .ok (.iaload, 1) := by decide +kernel
theorem dX10_plays_18 : decode cX10_plays 18 = .ok (.iload_n 1, 1) := by decide +kernel
theorem dX10_plays_19 : decode cX10_plays 19 = .ok (.if_icmp .ne 5, 3) := by decide +kernel
theorem dX10_plays_22 : decode cX10_plays 22 = .ok (.iload_n 2, 1) := by decide +kernel
theorem dX10_plays_23 : decode cX10_plays 23 = .ok (.ireturn, 1) := by decide +kernel
theorem dX10_plays_24 : decode cX10_plays 24 = .ok (.iinc 2 1, 3) := by decide +kernel
theorem dX10_plays_27 : decode cX10_plays 27 = .ok (.goto (-25), 3) := by decide +kernel
theorem dX10_plays_30 : decode cX10_plays 30 = .ok (.iconst (-1), 1) := by decide +kernel
theorem dX10_plays_31 : decode cX10_plays 31 = .ok (.ireturn, 1) := by decide +kernel
theorem dX10_isBusy_0 : decode cX10_isBusy 0 = .ok (.aload_n 0, 1) := by decide +kernel
theorem dX10_isBusy_1 : decode cX10_isBusy 1 = .ok (.getfield 23, 3) := by decide +kernel
theorem dX10_isBusy_4 : decode cX10_isBusy 4 = .ok (.iload_n 1, 1) := by decide +kernel
theorem dX10_isBusy_5 : decode cX10_isBusy 5 = .ok (.aaload, 1) := by decide +kernel
theorem dX10_isBusy_6 : decode cX10_isBusy 6 = .ok (.iconst 2, 1) := by decide +kernel
theorem dX10_isBusy_7 : decode cX10_isBusy 7 = .ok (.iaload, 1) := by decide +kernel
theorem dX10_isBusy_8 : decode cX10_isBusy 8 = .ok (.iconst (-1), 1) := by decide +kernel
theorem dX10_isBusy_9 : decode cX10_isBusy 9 = .ok (.if_icmp .ne 11, 3) := by decide +kernel
theorem dX10_isBusy_12 : decode cX10_isBusy 12 = .ok (.aload_n 0, 1) := by decide +kernel
theorem dX10_isBusy_13 : decode cX10_isBusy 13 = .ok (.iload_n 1, 1) := by decide +kernel
theorem dX10_isBusy_14 : decode cX10_isBusy 14 = .ok (.invokevirtual 84, 3) := by decide +kernel
theorem dX10_isBusy_17 : decode cX10_isBusy 17 = .ok (.goto 11, 3) := by decide +kernel
theorem dX10_isBusy_20 : decode cX10_isBusy 20 = .ok (.aload_n 0, 1) := by decide +kernel
theorem dX10_isBusy_21 : decode cX10_isBusy 21 = .ok (.getfield 23, 3) := by decide +kernel
theorem dX10_isBusy_24 : decode cX10_isBusy 24 = .ok (.iload_n 1, 1) := by decide +kernel
theorem dX10_isBusy_25 : decode cX10_isBusy 25 = .ok (.aaload, 1) := by decide +kernel
theorem dX10_isBusy_26 : decode cX10_isBusy 26 = .ok (.iconst 2, 1) := by decide +kernel
theorem dX10_isBusy_27 : decode cX10_isBusy 27 = .ok (.iaload, 1) := by decide +kernel
theorem dX10_isBusy_28 : decode cX10_isBusy 28 = .ok (.istore_n 2, 1) := by decide +kernel
theorem dX10_isBusy_29 : decode cX10_isBusy 29 = .ok (.aload_n 0, 1) := by decide +kernel
theorem dX10_isBusy_30 : decode cX10_isBusy 30 = .ok (.iload_n 1, 1) := by decide +kernel
theorem dX10_isBusy_31 : decode cX10_isBusy 31 = .ok (.invokevirtual 88, 3) := by decide +kernel
theorem dX10_isBusy_34 : decode cX10_isBusy 34 = .ok (.iconst (-1), 1) := by decide +kernel
theorem dX10_isBusy_35 : decode cX10_isBusy 35 = .ok (.if_icmp .ne 17, 3) := by decide +kernel
theorem dX10_isBusy_38 : decode cX10_isBusy 38 = .ok (.iload_n 2, 1) := by decide +kernel
theorem dX10_isBusy_39 : decode cX10_isBusy 39 = .ok (.iconst (-1), 1) := by decide +kernel
theorem dX10_isBusy_40 : decode cX10_isBusy 40 = .ok (.if_icmp .eq 16, 3) := by decide +kernel
theorem dX10_isBusy_43 : decode cX10_isBusy 43 = .ok (.aload_n 0, 1) := by decide +kernel
theorem dX10_isBusy_44 : decode cX10_isBusy 44 = .ok (.iload_n 2, 1) := by decide +kernel
theorem dX10_isBusy_45 : decode cX10_isBusy 45 = .ok (.invokevirtual 88, 3) := by decide +kernel
theorem dX10_isBusy_48 : decode cX10_isBusy 48 = .ok (.iconst (-1), 1) := by decide +kernel
theorem dX10_isBusy_49 : decode cX10_isBusy 49 = .ok (.if_icmp .eq 7, 3) := by decide +kernel
theorem dX10_isBusy_52 : decode cX10_isBusy 52 = .ok (.iconst 1, 1) := by decide +kernel
theorem dX10_isBusy_53 : decode cX10_isBusy 53 = .ok (.goto 4, 3) := by decide +kernel
theorem dX10_isBusy_56 : decode cX10_isBusy 56 = .ok (.iconst 0, 1) := by decide +kernel
theorem dX10_isBusy_57 : decode cX10_isBusy 57 = .ok (.ireturn, 1) := by decide +kernel
theorem dX10_nextScene_0 : decode cX10_nextScene 0 = .ok (.aload_n 0, 1) := by decide +kernel
theorem dX10_nextScene_1 : decode cX10_nextScene 1 = .ok (.iload_n 1, 1) := by decide +kernel
theorem dX10_nextScene_2 : decode cX10_nextScene 2 = .ok (.invokevirtual 84, 3) := by decide +kernel
theorem dX10_nextScene_5 : decode cX10_nextScene 5 = .ok (.istore_n 2, 1) := by decide +kernel
theorem dX10_nextScene_6 : decode cX10_nextScene 6 = .ok (.iconst (-1), 1) := by decide +kernel
theorem dX10_nextScene_7 : decode cX10_nextScene 7 = .ok (.istore_n 3, 1) := by decide +kernel
theorem dX10_nextScene_8 : decode cX10_nextScene 8 = .ok (.iconst 0, 1) := by decide +kernel
theorem dX10_nextScene_9 : decode cX10_nextScene 9 = .ok (.istore 4, 2) := by decide +kernel
theorem dX10_nextScene_11 : decode cX10_nextScene 11 = .ok (.iload 4, 2) := by decide +kernel
theorem dX10_nextScene_13 : decode cX10_nextScene 13 = .ok (.aload_n 0, 1) := by decide +kernel
theorem dX10_nextScene_14 : decode cX10_nextScene 14 = .ok (.getfield 65, 3) := by decide +kernel
theorem dX10_nextScene_17 : decode cX10_nextScene 17 = .ok (.if_icmp .ge 87, 3) := by decide +kernel
theorem dX10_nextScene_20 : decode cX10_nextScene 20 = .ok (.aload_n 0, 1) := by decide +kernel
theorem dX10_nextScene_21 : decode cX10_nextScene 21 = .ok (.getfield 29, 3) := by decide +kernel
theorem dX10_nextScene_24 : decode cX10_nextScene 24 = .ok (.iload 4, 2) := by decide +kernel
theorem dX10_nextScene_26 : decode cX10_nextScene 26 = .ok (.aaload, 1) := by decide +kernel
theorem dX10_nextScene_27 : decode cX10_nextScene 27 = .ok (.astore 5, 2) := by decide +kernel
theorem dX10_nextScene_29 : decode cX10_nextScene 29 = .ok (.aload 5, 2) := by decide +kernel
theorem dX10_nextScene_31 : decode cX10_nextScene 31 = .ok (.iconst 5, 1) := by decide +kernel
theorem dX10_nextScene_32 : decode cX10_nextScene 32 = .ok (.iaload, 1) := by decide +kernel
theorem dX10_nextScene_33 : decode cX10_nextScene 33 = .ok (.ifCond .ne 34, 3) := by decide +kernel
theorem dX10_nextScene_36 : decode cX10_nextScene 36 = .ok (.aload 5, 2) := by decide +kernel
theorem dX10_nextScene_38 : decode cX10_nextScene 38 = .ok (.iconst 3, 1) := by decide +kernel
theorem dX10_nextScene_39 : decode cX10_nextScene 39 = .ok (.iaload, 1) := by decide +kernel
theorem dX10_nextScene_40 : decode cX10_nextScene 40 = .ok (.iload_n 1, 1) := by decide +kernel
theorem dX10_nextScene_41 : decode cX10_nextScene 41 = .ok (.invokestatic 80, 3) := by decide +kernel
theorem dX10_nextScene_44 : decode cX10_nextScene 44 = .ok (.ifCond .ne 19, 3) := by decide +kernel
theorem dX10_nextScene_47 : decode cX10_nextScene 47 = .ok (.iload_n 2, 1) := by decide +kernel
theorem dX10_nextScene_48 : decode cX10_nextScene 48 = .ok (.iconst (-1), 1) := by decide +kernel
theorem dX10_nextScene_49 : decode cX10_nextScene 49 = .ok (.if_icmp .eq 18, 3) := by decide +kernel
theorem dX10_nextScene_52 : decode cX10_nextScene 52 = .ok (.aload 5, 2) := by decide +kernel
theorem dX10_nextScene_54 : decode cX10_nextScene 54 = .ok (.iconst 3, 1) := by decide +kernel
theorem dX10_nextScene_55 : decode cX10_nextScene 55 = .ok (.iaload, 1) := by decide +kernel
theorem dX10_nextScene_56 : decode cX10_nextScene 56 = .ok (.iload_n 2, 1) := by decide +kernel
theorem dX10_nextScene_57 : decode cX10_nextScene 57 = .ok (.invokestatic 80, 3) := by decide +kernel
theorem dX10_nextScene_60 : decode cX10_nextScene 60 = .ok (.ifCond .eq 7, 3) := by decide +kernel
theorem dX10_nextScene_63 : decode cX10_nextScene 63 = .ok (.iconst 1, 1) := by decide +kernel
theorem dX10_nextScene_64 : decode cX10_nextScene 64 = .ok (.goto 4, 3) := by decide +kernel
theorem dX10_nextScene_67 : decode cX10_nextScene 67 = .ok (.iconst 0, 1) := by decide +kernel
theorem dX10_nextScene_68 : decode cX10_nextScene 68 = .ok (.istore 6, 2) := by decide +kernel
theorem dX10_nextScene_70 : decode cX10_nextScene 70 = .ok (.iload 6, 2) := by decide +kernel
theorem dX10_nextScene_72 : decode cX10_nextScene 72 = .ok (.ifCond .eq 26, 3) := by decide +kernel
theorem dX10_nextScene_75 : decode cX10_nextScene 75 = .ok (.iload_n 3, 1) := by decide +kernel
theorem dX10_nextScene_76 : decode cX10_nextScene 76 = .ok (.iconst (-1), 1) := by decide +kernel
theorem dX10_nextScene_77 : decode cX10_nextScene 77 = .ok (.if_icmp .eq 18, 3) := by decide +kernel
theorem dX10_nextScene_80 : decode cX10_nextScene 80 = .ok (.aload 5, 2) := by decide +kernel
theorem dX10_nextScene_82 : decode cX10_nextScene 82 = .ok (.iconst 0, 1) := by decide +kernel
theorem dX10_nextScene_83 : decode cX10_nextScene 83 = .ok (.iaload, 1) := by decide +kernel
theorem dX10_nextScene_84 : decode cX10_nextScene 84 = .ok (.aload_n 0, 1) := by decide +kernel
theorem dX10_nextScene_85 : decode cX10_nextScene 85 = .ok (.getfield 29, 3) := by decide +kernel
theorem dX10_nextScene_88 : decode cX10_nextScene 88 = .ok (.iload_n 3, 1) := by decide +kernel
theorem dX10_nextScene_89 : decode cX10_nextScene 89 = .ok (.aaload, 1) := by decide +kernel
theorem dX10_nextScene_90 : decode cX10_nextScene 90 = .ok (.iconst 0, 1) := by decide +kernel
theorem dX10_nextScene_91 : decode cX10_nextScene 91 = .ok (.iaload, 1) := by decide +kernel
theorem dX10_nextScene_92 : decode cX10_nextScene 92 = .ok (.if_icmp .ge 6, 3) := by decide +kernel
theorem dX10_nextScene_95 : decode cX10_nextScene 95 = .ok (.iload 4, 2) := by decide +kernel
theorem dX10_nextScene_97 : decode cX10_nextScene 97 = .ok (.istore_n 3, 1) := by decide +kernel
theorem dX10_nextScene_98 : decode cX10_nextScene 98 = .ok (.iinc 4 1, 3) := by decide +kernel
theorem dX10_nextScene_101 : decode cX10_nextScene 101 = .ok (.goto (-90), 3) := by decide +kernel
theorem dX10_nextScene_104 : decode cX10_nextScene 104 = .ok (.iload_n 3, 1) := by decide +kernel
theorem dX10_nextScene_105 : decode cX10_nextScene 105 = .ok (.ireturn, 1) := by decide +kernel
theorem dX10_guestsIn_0 : decode cX10_guestsIn 0 = .ok (.iconst 0, 1) := by decide +kernel
theorem dX10_guestsIn_1 : decode cX10_guestsIn 1 = .ok (.istore_n 2, 1) := by decide +kernel
theorem dX10_guestsIn_2 : decode cX10_guestsIn 2 = .ok (.iconst 0, 1) := by decide +kernel
theorem dX10_guestsIn_3 : decode cX10_guestsIn 3 = .ok (.istore_n 3, 1) := by decide +kernel
theorem dX10_guestsIn_4 : decode cX10_guestsIn 4 = .ok (.iload_n 3, 1) := by decide +kernel
theorem dX10_guestsIn_5 : decode cX10_guestsIn 5 = .ok (.aload_n 0, 1) := by decide +kernel
theorem dX10_guestsIn_6 : decode cX10_guestsIn 6 = .ok (.getfield 68, 3) := by decide +kernel
theorem dX10_guestsIn_9 : decode cX10_guestsIn 9 = .ok (.if_icmp .ge 29, 3) := by decide +kernel
theorem dX10_guestsIn_12 : decode cX10_guestsIn 12 = .ok (.iload_n 2, 1) := by decide +kernel
theorem dX10_guestsIn_13 : decode cX10_guestsIn 13 = .ok (.aload_n 0, 1) := by decide +kernel
theorem dX10_guestsIn_14 : decode cX10_guestsIn 14 = .ok (.getfield 32, 3) := by decide +kernel
theorem dX10_guestsIn_17 : decode cX10_guestsIn 17 = .ok (.iload_n 3, 1) := by decide +kernel
theorem dX10_guestsIn_18 : decode cX10_guestsIn 18 = .ok (.aaload, 1) := by decide +kernel
theorem dX10_guestsIn_19 : decode cX10_guestsIn 19 = .ok (.iconst 1, 1) := by decide +kernel
theorem dX10_guestsIn_20 : decode cX10_guestsIn 20 = .ok (.iaload, 1) := by decide +kernel
theorem dX10_guestsIn_21 : decode cX10_guestsIn 21 = .ok (.iload_n 1, 1) := by decide +kernel
theorem dX10_guestsIn_22 : decode cX10_guestsIn 22 = .ok (.if_icmp .ne 7, 3) := by decide +kernel
theorem dX10_guestsIn_25 : decode cX10_guestsIn 25 = .ok (.iconst 1, 1) := by decide +kernel
theorem dX10_guestsIn_26 : decode cX10_guestsIn 26 = .ok (.goto 4, 3) := by decide +kernel
theorem dX10_guestsIn_29 : decode cX10_guestsIn 29 = .ok (.iconst 0, 1) := by decide +kernel
theorem dX10_guestsIn_30 : decode cX10_guestsIn 30 = .ok (.iadd, 1) := by decide +kernel
theorem dX10_guestsIn_31 : decode cX10_guestsIn 31 = .ok (.istore_n 2, 1) := by decide +kernel
theorem dX10_guestsIn_32 : decode cX10_guestsIn 32 = .ok (.iinc 3 1, 3) := by decide +kernel
theorem dX10_guestsIn_35 : decode cX10_guestsIn 35 = .ok (.goto (-31), 3) := by decide +kernel
theorem dX10_guestsIn_38 : decode cX10_guestsIn 38 = .ok (.iload_n 2, 1) := by decide +kernel
theorem dX10_guestsIn_39 : decode cX10_guestsIn 39 = .ok (.ireturn, 1) := by decide +kernel
theorem dX10_runningIn_0 : decode cX10_runningIn 0 = .ok (.iconst 0, 1) := by decide +kernel
theorem dX10_runningIn_1 : decode cX10_runningIn 1 = .ok (.istore_n 2, 1) := by decide +kernel
theorem dX10_runningIn_2 : decode cX10_runningIn 2 = .ok (.iconst 0, 1) := by decide +kernel
theorem dX10_runningIn_3 : decode cX10_runningIn 3 = .ok (.istore_n 3, 1) := by decide +kernel
theorem dX10_runningIn_4 : decode cX10_runningIn 4 = .ok (.iload_n 3, 1) := by decide +kernel
theorem dX10_runningIn_5 : decode cX10_runningIn 5 = .ok (.aload_n 0, 1) := by decide +kernel
theorem dX10_runningIn_6 : decode cX10_runningIn 6 = .ok (.getfield 65, 3) := by decide +kernel
theorem dX10_runningIn_9 : decode cX10_runningIn 9 = .ok (.if_icmp .ge 43, 3) := by decide +kernel
theorem dX10_runningIn_12 : decode cX10_runningIn 12 = .ok (.iload_n 2, 1) := by decide +kernel
theorem dX10_runningIn_13 : decode cX10_runningIn 13 = .ok (.aload_n 0, 1) := by decide +kernel
theorem dX10_runningIn_14 : decode cX10_runningIn 14 = .ok (.getfield 29, 3) := by decide +kernel
theorem dX10_runningIn_17 : decode cX10_runningIn 17 = .ok (.iload_n 3, 1) := by decide +kernel
theorem dX10_runningIn_18 : decode cX10_runningIn 18 = .ok (.aaload, 1) := by decide +kernel
theorem dX10_runningIn_19 : decode cX10_runningIn 19 = .ok (.iconst 5, 1) := by decide +kernel
theorem dX10_runningIn_20 : decode cX10_runningIn 20 = .ok (.iaload, 1) := by decide +kernel
theorem dX10_runningIn_21 : decode cX10_runningIn 21 = .ok (.iconst 1, 1) := by decide +kernel
theorem dX10_runningIn_22 : decode cX10_runningIn 22 = .ok (.if_icmp .ne 21, 3) := by decide +kernel
theorem dX10_runningIn_25 : decode cX10_runningIn 25 = .ok (.aload_n 0, 1) := by decide +kernel
theorem dX10_runningIn_26 : decode cX10_runningIn 26 = .ok (.getfield 29, 3) := by decide +kernel
theorem dX10_runningIn_29 : decode cX10_runningIn 29 = .ok (.iload_n 3, 1) := by decide +kernel
theorem dX10_runningIn_30 : decode cX10_runningIn 30 = .ok (.aaload, 1) := by decide +kernel
theorem dX10_runningIn_31 : decode cX10_runningIn 31 = .ok (.iconst 1, 1) := by decide +kernel
theorem dX10_runningIn_32 : decode cX10_runningIn 32 = .ok (.iaload, 1) := by decide +kernel
theorem dX10_runningIn_33 : decode cX10_runningIn 33 = .ok (.iload_n 1, 1) := by decide +kernel
theorem dX10_runningIn_34 : decode cX10_runningIn 34 = .ok (.if_icmp .ne 9, 3) := by decide +kernel
theorem dX10_runningIn_37 : decode cX10_runningIn 37 = .ok (.iconst 1, 1) := by decide +kernel
theorem dX10_runningIn_38 : decode cX10_runningIn 38 = .ok (.iload_n 3, 1) := by decide +kernel
theorem dX10_runningIn_39 : decode cX10_runningIn 39 = .ok (.ishl, 1) := by decide +kernel
theorem dX10_runningIn_40 : decode cX10_runningIn 40 = .ok (.goto 4, 3) := by decide +kernel
theorem dX10_runningIn_43 : decode cX10_runningIn 43 = .ok (.iconst 0, 1) := by decide +kernel
theorem dX10_runningIn_44 : decode cX10_runningIn 44 = .ok (.ior, 1) := by decide +kernel
theorem dX10_runningIn_45 : decode cX10_runningIn 45 = .ok (.istore_n 2, 1) := by decide +kernel
theorem dX10_runningIn_46 : decode cX10_runningIn 46 = .ok (.iinc 3 1, 3) := by decide +kernel
theorem dX10_runningIn_49 : decode cX10_runningIn 49 = .ok (.goto (-45), 3) := by decide +kernel
theorem dX10_runningIn_52 : decode cX10_runningIn 52 = .ok (.iload_n 2, 1) := by decide +kernel
theorem dX10_runningIn_53 : decode cX10_runningIn 53 = .ok (.ireturn, 1) := by decide +kernel
theorem dX10_lies_0 : decode cX10_lies 0 = .ok (.aload_n 0, 1) := by decide +kernel
theorem dX10_lies_1 : decode cX10_lies 1 = .ok (.getfield 26, 3) := by decide +kernel
theorem dX10_lies_4 : decode cX10_lies 4 = .ok (.iload_n 1, 1) := by decide +kernel
theorem dX10_lies_5 : decode cX10_lies 5 = .ok (.aaload, 1) := by decide +kernel
theorem dX10_lies_6 : decode cX10_lies 6 = .ok (.iconst 2, 1) := by decide +kernel
theorem dX10_lies_7 : decode cX10_lies 7 = .ok (.iaload, 1) := by decide +kernel
theorem dX10_lies_8 : decode cX10_lies 8 = .ok (.iconst (-1), 1) := by decide +kernel
theorem dX10_lies_9 : decode cX10_lies 9 = .ok (.if_icmp .ne 31, 3) := by decide +kernel
theorem dX10_lies_12 : decode cX10_lies 12 = .ok (.aload_n 0, 1) := by decide +kernel
theorem dX10_lies_13 : decode cX10_lies 13 = .ok (.getfield 26, 3) := by decide +kernel
theorem dX10_lies_16 : decode cX10_lies 16 = .ok (.iload_n 1, 1) := by decide +kernel
theorem dX10_lies_17 : decode cX10_lies 17 = .ok (.aaload, 1) := by decide +kernel
theorem dX10_lies_18 : decode cX10_lies 18 = .ok (.iconst 3, 1) := by decide +kernel
theorem dX10_lies_19 : decode cX10_lies 19 = .ok (.iaload, 1) := by decide +kernel
theorem dX10_lies_20 : decode cX10_lies 20 = .ok (.iconst (-1), 1) := by decide +kernel
theorem dX10_lies_21 : decode cX10_lies 21 = .ok (.if_icmp .ne 19, 3) := by decide +kernel
theorem dX10_lies_24 : decode cX10_lies 24 = .ok (.aload_n 0, 1) := by decide +kernel
theorem dX10_lies_25 : decode cX10_lies 25 = .ok (.getfield 26, 3) := by decide +kernel
theorem dX10_lies_28 : decode cX10_lies 28 = .ok (.iload_n 1, 1) := by decide +kernel
theorem dX10_lies_29 : decode cX10_lies 29 = .ok (.aaload, 1) := by decide +kernel
theorem dX10_lies_30 : decode cX10_lies 30 = .ok (.iconst 1, 1) := by decide +kernel
theorem dX10_lies_31 : decode cX10_lies 31 = .ok (.iaload, 1) := by decide +kernel
theorem dX10_lies_32 : decode cX10_lies 32 = .ok (.iload_n 2, 1) := by decide +kernel
theorem dX10_lies_33 : decode cX10_lies 33 = .ok (.if_icmp .ne 7, 3) := by decide +kernel
theorem dX10_lies_36 : decode cX10_lies 36 = .ok (.iconst 1, 1) := by decide +kernel
theorem dX10_lies_37 : decode cX10_lies 37 = .ok (.goto 4, 3) := by decide +kernel
theorem dX10_lies_40 : decode cX10_lies 40 = .ok (.iconst 0, 1) := by decide +kernel
theorem dX10_lies_41 : decode cX10_lies 41 = .ok (.ireturn, 1) := by decide +kernel
theorem dX10_go_0 : decode cX10_go 0 = .ok (.aload_n 0, 1) := by decide +kernel
theorem dX10_go_1 : decode cX10_go 1 = .ok (.dup, 1) := by decide +kernel
theorem dX10_go_2 : decode cX10_go 2 = .ok (.getfield 49, 3) := by decide +kernel
theorem dX10_go_5 : decode cX10_go 5 = .ok (.iconst 1, 1) := by decide +kernel
theorem dX10_go_6 : decode cX10_go 6 = .ok (.iadd, 1) := by decide +kernel
theorem dX10_go_7 : decode cX10_go 7 = .ok (.putfield 49, 3) := by decide +kernel
theorem dX10_go_10 : decode cX10_go 10 = .ok (.aload_n 0, 1) := by decide +kernel
theorem dX10_go_11 : decode cX10_go 11 = .ok (.invokevirtual 91, 3) := by decide +kernel
theorem dX10_go_14 : decode cX10_go 14 = .ok (.ifCond .ne 7, 3) := by decide +kernel
theorem dX10_go_17 : decode cX10_go 17 = .ok (.aload_n 0, 1) := by decide +kernel
theorem dX10_go_18 : decode cX10_go 18 = .ok (.invokevirtual 95, 3) := by decide +kernel
theorem dX10_go_21 : decode cX10_go 21 = .ok (.iconst 0, 1) := by decide +kernel
theorem dX10_go_22 : decode cX10_go 22 = .ok (.istore_n 1, 1) := by decide +kernel
theorem dX10_go_23 : decode cX10_go 23 = .ok (.iload_n 1, 1) := by decide +kernel
theorem dX10_go_24 : decode cX10_go 24 = .ok (.aload_n 0, 1) := by decide +kernel
theorem dX10_go_25 : decode cX10_go 25 = .ok (.getfield 59, 3) := by decide +kernel
theorem dX10_go_28 : decode cX10_go 28 = .ok (.if_icmp .ge 40, 3) := by decide +kernel
theorem dX10_go_31 : decode cX10_go 31 = .ok (.aload_n 0, 1) := by decide +kernel
theorem dX10_go_32 : decode cX10_go 32 = .ok (.getfield 23, 3) := by decide +kernel
theorem dX10_go_35 : decode cX10_go 35 = .ok (.iload_n 1, 1) := by decide +kernel
theorem dX10_go_36 : decode cX10_go 36 = .ok (.aaload, 1) := by decide +kernel
theorem dX10_go_37 : decode cX10_go 37 = .ok (.iconst 2, 1) := by decide +kernel
theorem dX10_go_38 : decode cX10_go 38 = .ok (.iaload, 1) := by decide +kernel
theorem dX10_go_39 : decode cX10_go 39 = .ok (.iconst (-1), 1) := by decide +kernel
theorem dX10_go_40 : decode cX10_go 40 = .ok (.if_icmp .ne 22, 3) := by decide +kernel
theorem dX10_go_43 : decode cX10_go 43 = .ok (.aload_n 0, 1) := by decide +kernel
theorem dX10_go_44 : decode cX10_go 44 = .ok (.iload_n 1, 1) := by decide +kernel
theorem dX10_go_45 : decode cX10_go 45 = .ok (.invokevirtual 98, 3) := by decide +kernel
theorem dX10_go_48 : decode cX10_go 48 = .ok (.ifCond .ne 14, 3) := by decide +kernel
theorem dX10_go_51 : decode cX10_go 51 = .ok (.aload_n 0, 1) := by decide +kernel
theorem dX10_go_52 : decode cX10_go 52 = .ok (.aload_n 0, 1) := by decide +kernel
theorem dX10_go_53 : decode cX10_go 53 = .ok (.getfield 23, 3) := by decide +kernel
theorem dX10_go_56 : decode cX10_go 56 = .ok (.iload_n 1, 1) := by decide +kernel
theorem dX10_go_57 : decode cX10_go 57 = .ok (.aaload, 1) := by decide +kernel
theorem dX10_go_58 : decode cX10_go 58 = .ok (.iload_n 1, 1) := by decide +kernel
theorem dX10_go_59 : decode cX10_go 59 = .ok (.invokevirtual 102, 3) := by decide +kernel
theorem dX10_go_62 : decode cX10_go 62 = .ok (.iinc 1 1, 3) := by decide +kernel
theorem dX10_go_65 : decode cX10_go 65 = .ok (.goto (-42), 3) := by decide +kernel
theorem dX10_go_68 : decode cX10_go 68 = .ok (.iconst 0, 1) := by decide +kernel
theorem dX10_go_69 : decode cX10_go 69 = .ok (.istore_n 1, 1) := by decide +kernel
theorem dX10_go_70 : decode cX10_go 70 = .ok (.iconst 0, 1) := by decide +kernel
theorem dX10_go_71 : decode cX10_go 71 = .ok (.istore_n 2, 1) := by decide +kernel
theorem dX10_go_72 : decode cX10_go 72 = .ok (.iload_n 2, 1) := by decide +kernel
theorem dX10_go_73 : decode cX10_go 73 = .ok (.aload_n 0, 1) := by decide +kernel
theorem dX10_go_74 : decode cX10_go 74 = .ok (.getfield 65, 3) := by decide +kernel
theorem dX10_go_77 : decode cX10_go 77 = .ok (.if_icmp .ge 47, 3) := by decide +kernel
theorem dX10_go_80 : decode cX10_go 80 = .ok (.aload_n 0, 1) := by decide +kernel
theorem dX10_go_81 : decode cX10_go 81 = .ok (.getfield 29, 3) := by decide +kernel
theorem dX10_go_84 : decode cX10_go 84 = .ok (.iload_n 2, 1) := by decide +kernel
theorem dX10_go_85 : decode cX10_go 85 = .ok (.aaload, 1) := by decide +kernel
theorem dX10_go_86 : decode cX10_go 86 = .ok (.iconst 5, 1) := by decide +kernel
theorem dX10_go_87 : decode cX10_go 87 = .ok (.iaload, 1) := by decide +kernel
theorem dX10_go_88 : decode cX10_go 88 = .ok (.iconst 1, 1) := by decide +kernel
theorem dX10_go_89 : decode cX10_go 89 = .ok (.if_icmp .ne 19, 3) := by decide +kernel
theorem dX10_go_92 : decode cX10_go 92 = .ok (.iload_n 1, 1) := by decide +kernel
theorem dX10_go_93 : decode cX10_go 93 = .ok (.aload_n 0, 1) := by decide +kernel
theorem dX10_go_94 : decode cX10_go 94 = .ok (.aload_n 0, 1) := by decide +kernel
theorem dX10_go_95 : decode cX10_go 95 = .ok (.getfield 29, 3) := by decide +kernel
theorem dX10_go_98 : decode cX10_go 98 = .ok (.iload_n 2, 1) := by decide +kernel
theorem dX10_go_99 : decode cX10_go 99 = .ok (.aaload, 1) := by decide +kernel
theorem dX10_go_100 : decode cX10_go 100 = .ok (.invokevirtual 106, 3) := by decide +kernel
theorem dX10_go_103 : decode cX10_go 103 = .ok (.iadd, 1) := by decide +kernel
theorem dX10_go_104 : decode cX10_go 104 = .ok (.istore_n 1, 1) := by decide +kernel
theorem dX10_go_105 : decode cX10_go 105 = .ok (.goto 13, 3) := by decide +kernel
theorem dX10_go_108 : decode cX10_go 108 = .ok (.aload_n 0, 1) := by decide +kernel
theorem dX10_go_109 : decode cX10_go 109 = .ok (.aload_n 0, 1) := by decide +kernel
theorem dX10_go_110 : decode cX10_go 110 = .ok (.getfield 29, 3) := by decide +kernel
theorem dX10_go_113 : decode cX10_go 113 = .ok (.iload_n 2, 1) := by decide +kernel
theorem dX10_go_114 : decode cX10_go 114 = .ok (.aaload, 1) := by decide +kernel
theorem dX10_go_115 : decode cX10_go 115 = .ok (.invokevirtual 110, 3) := by decide +kernel
theorem dX10_go_118 : decode cX10_go 118 = .ok (.iinc 2 1, 3) := by decide +kernel
theorem dX10_go_121 : decode cX10_go 121 = .ok (.goto (-49), 3) := by decide +kernel
theorem dX10_go_124 : decode cX10_go 124 = .ok (.bipush 8, 2) := by decide +kernel
theorem dX10_go_126 : decode cX10_go 126 = .ok (.bipush 8, 2) := by decide +kernel
theorem dX10_go_128 : decode cX10_go 128 = .ok (.multianewarray 15 2, 4) := by decide +kernel
theorem dX10_go_132 : decode cX10_go 132 = .ok (.astore_n 2, 1) := by decide +kernel
theorem dX10_go_133 : decode cX10_go 133 = .ok (.iconst 0, 1) := by decide +kernel
theorem dX10_go_134 : decode cX10_go 134 = .ok (.istore_n 3, 1) := by decide +kernel
theorem dX10_go_135 : decode cX10_go 135 = .ok (.iload_n 3, 1) := by decide +kernel
theorem dX10_go_136 : decode cX10_go 136 = .ok (.aload_n 0, 1) := by decide +kernel
theorem dX10_go_137 : decode cX10_go 137 = .ok (.getfield 68, 3) := by decide +kernel
theorem dX10_go_140 : decode cX10_go 140 = .ok (.if_icmp .ge 30, 3) := by decide +kernel
theorem dX10_go_143 : decode cX10_go 143 = .ok (.aload_n 0, 1) := by decide +kernel
theorem dX10_go_144 : decode cX10_go 144 = .ok (.aload_n 0, 1) := by decide +kernel
theorem dX10_go_145 : decode cX10_go 145 = .ok (.getfield 32, 3) := by decide +kernel
theorem dX10_go_148 : decode cX10_go 148 = .ok (.iload_n 3, 1) := by decide +kernel
theorem dX10_go_149 : decode cX10_go 149 = .ok (.aaload, 1) := by decide +kernel
theorem dX10_go_150 : decode cX10_go 150 = .ok (.aload_n 0, 1) := by decide +kernel
theorem dX10_go_151 : decode cX10_go 151 = .ok (.aload_n 0, 1) := by decide +kernel
theorem dX10_go_152 : decode cX10_go 152 = .ok (.getfield 32, 3) := by decide +kernel
theorem dX10_go_155 : decode cX10_go 155 = .ok (.iload_n 3, 1) := by decide +kernel
theorem dX10_go_156 : decode cX10_go 156 = .ok (.aaload, 1) := by decide +kernel
theorem dX10_go_157 : decode cX10_go 157 = .ok (.invokevirtual 114, 3) := by decide +kernel
theorem dX10_go_160 : decode cX10_go 160 = .ok (.aload_n 2, 1) := by decide +kernel
theorem dX10_go_161 : decode cX10_go 161 = .ok (.invokevirtual 117, 3) := by decide +kernel
theorem dX10_go_164 : decode cX10_go 164 = .ok (.iinc 3 1, 3) := by decide +kernel
theorem dX10_go_167 : decode cX10_go 167 = .ok (.goto (-32), 3) := by decide +kernel
theorem dX10_go_170 : decode cX10_go 170 = .ok (.iconst 0, 1) := by decide +kernel
theorem dX10_go_171 : decode cX10_go 171 = .ok (.istore_n 3, 1) := by decide +kernel
theorem dX10_go_172 : decode cX10_go 172 = .ok (.iload_n 3, 1) := by decide +kernel
theorem dX10_go_173 : decode cX10_go 173 = .ok (.aload_n 0, 1) := by decide +kernel
theorem dX10_go_174 : decode cX10_go 174 = .ok (.getfield 65, 3) := by decide +kernel
theorem dX10_go_177 : decode cX10_go 177 = .ok (.if_icmp .ge 26, 3) := by decide +kernel
theorem dX10_go_180 : decode cX10_go 180 = .ok (.aload_n 0, 1) := by decide +kernel
theorem dX10_go_181 : decode cX10_go 181 = .ok (.getfield 29, 3) := by decide +kernel
theorem dX10_go_184 : decode cX10_go 184 = .ok (.iload_n 3, 1) := by decide +kernel
theorem dX10_go_185 : decode cX10_go 185 = .ok (.aaload, 1) := by decide +kernel
theorem dX10_go_186 : decode cX10_go 186 = .ok (.iconst 5, 1) := by decide +kernel
theorem dX10_go_187 : decode cX10_go 187 = .ok (.iaload, 1) := by decide +kernel
theorem dX10_go_188 : decode cX10_go 188 = .ok (.iconst 1, 1) := by decide +kernel
theorem dX10_go_189 : decode cX10_go 189 = .ok (.if_icmp .ne 8, 3) := by decide +kernel
theorem dX10_go_192 : decode cX10_go 192 = .ok (.aload_n 0, 1) := by decide +kernel
theorem dX10_go_193 : decode cX10_go 193 = .ok (.iload_n 3, 1) := by decide +kernel
theorem dX10_go_194 : decode cX10_go 194 = .ok (.invokevirtual 121, 3) := by decide +kernel
theorem dX10_go_197 : decode cX10_go 197 = .ok (.iinc 3 1, 3) := by decide +kernel
theorem dX10_go_200 : decode cX10_go 200 = .ok (.goto (-28), 3) := by decide +kernel
theorem dX10_go_203 : decode cX10_go 203 = .ok (.iload_n 1, 1) := by decide +kernel
theorem dX10_go_204 : decode cX10_go 204 = .ok (.ireturn, 1) := by decide +kernel
theorem dX10_loop_0 : decode cX10_loop 0 = .ok (.iconst 0, 1) := by decide +kernel
theorem dX10_loop_1 : decode cX10_loop 1 = .ok (.istore_n 1, 1) := by decide +kernel
theorem dX10_loop_2 : decode cX10_loop 2 = .ok (.iload_n 1, 1) := by decide +kernel
theorem dX10_loop_3 : decode cX10_loop 3 = .ok (.aload_n 0, 1) := by decide +kernel
theorem dX10_loop_4 : decode cX10_loop 4 = .ok (.getfield 65, 3) := by decide +kernel
theorem dX10_loop_7 : decode cX10_loop 7 = .ok (.if_icmp .ge 90, 3) := by decide +kernel
theorem dX10_loop_10 : decode cX10_loop 10 = .ok (.aload_n 0, 1) := by decide +kernel
theorem dX10_loop_11 : decode cX10_loop 11 = .ok (.getfield 29, 3) := by decide +kernel
theorem dX10_loop_14 : decode cX10_loop 14 = .ok (.iload_n 1, 1) := by decide +kernel
theorem dX10_loop_15 : decode cX10_loop 15 = .ok (.aaload, 1) := by decide +kernel
theorem dX10_loop_16 : decode cX10_loop 16 = .ok (.bipush 9, 2) := by decide +kernel
theorem dX10_loop_18 : decode cX10_loop 18 = .ok (.dup2, 1) := by decide +kernel
theorem dX10_loop_19 : decode cX10_loop 19 = .ok (.iaload, 1) := by decide +kernel
theorem dX10_loop_20 : decode cX10_loop 20 = .ok (.aload_n 0, 1) := by decide +kernel
theorem dX10_loop_21 : decode cX10_loop 21 = .ok (.getfield 29, 3) := by decide +kernel
theorem dX10_loop_24 : decode cX10_loop 24 = .ok (.iload_n 1, 1) := by decide +kernel
theorem dX10_loop_25 : decode cX10_loop 25 = .ok (.aaload, 1) := by decide +kernel
theorem dX10_loop_26 : decode cX10_loop 26 = .ok (.iconst 5, 1) := by decide +kernel
theorem dX10_loop_27 : decode cX10_loop 27 = .ok (.iaload, 1) := by decide +kernel
theorem dX10_loop_28 : decode cX10_loop 28 = .ok (.iconst 2, 1) := by decide +kernel
theorem dX10_loop_29 : decode cX10_loop 29 = .ok (.if_icmp .ge 7, 3) := by decide +kernel
theorem dX10_loop_32 : decode cX10_loop 32 = .ok (.iconst 1, 1) := by decide +kernel
theorem dX10_loop_33 : decode cX10_loop 33 = .ok (.goto 4, 3) := by decide +kernel
theorem dX10_loop_36 : decode cX10_loop 36 = .ok (.iconst 0, 1) := by decide +kernel
theorem dX10_loop_37 : decode cX10_loop 37 = .ok (.iadd, 1) := by decide +kernel
theorem dX10_loop_38 : decode cX10_loop 38 = .ok (.iastore, 1) := by decide +kernel
theorem dX10_loop_39 : decode cX10_loop 39 = .ok (.aload_n 0, 1) := by decide +kernel
theorem dX10_loop_40 : decode cX10_loop 40 = .ok (.getfield 29, 3) := by decide +kernel
theorem dX10_loop_43 : decode cX10_loop 43 = .ok (.iload_n 1, 1) := by decide +kernel
theorem dX10_loop_44 : decode cX10_loop 44 = .ok (.aaload, 1) := by decide +kernel
theorem dX10_loop_45 : decode cX10_loop 45 = .ok (.iconst 5, 1) := by decide +kernel
theorem dX10_loop_46 : decode cX10_loop 46 = .ok (.iconst 0, 1) := by decide +kernel
theorem dX10_loop_47 : decode cX10_loop 47 = .ok (.iastore, 1) := by decide +kernel
theorem dX10_loop_48 : decode cX10_loop 48 = .ok (.aload_n 0, 1) := by decide +kernel
theorem dX10_loop_49 : decode cX10_loop 49 = .ok (.getfield 29, 3) := by decide +kernel
theorem dX10_loop_52 : decode cX10_loop 52 = .ok (.iload_n 1, 1) := by decide +kernel
theorem dX10_loop_53 : decode cX10_loop 53 = .ok (.aaload, 1) := by decide +kernel
theorem dX10_loop_54 : decode cX10_loop 54 = .ok (.bipush 6, 2) := by decide +kernel
theorem dX10_loop_56 : decode cX10_loop 56 = .ok (.iconst 0, 1) := by decide +kernel
theorem dX10_loop_57 : decode cX10_loop 57 = .ok (.iastore, 1) := by decide +kernel
theorem dX10_loop_58 : decode cX10_loop 58 = .ok (.aload_n 0, 1) := by decide +kernel
theorem dX10_loop_59 : decode cX10_loop 59 = .ok (.getfield 29, 3) := by decide +kernel
theorem dX10_loop_62 : decode cX10_loop 62 = .ok (.iload_n 1, 1) := by decide +kernel
theorem dX10_loop_63 : decode cX10_loop 63 = .ok (.aaload, 1) := by decide +kernel
theorem dX10_loop_64 : decode cX10_loop 64 = .ok (.bipush 7, 2) := by decide +kernel
theorem dX10_loop_66 : decode cX10_loop 66 = .ok (.iconst 0, 1) := by decide +kernel
theorem dX10_loop_67 : decode cX10_loop 67 = .ok (.iastore, 1) := by decide +kernel
theorem dX10_loop_68 : decode cX10_loop 68 = .ok (.iconst 0, 1) := by decide +kernel
theorem dX10_loop_69 : decode cX10_loop 69 = .ok (.istore_n 2, 1) := by decide +kernel
theorem dX10_loop_70 : decode cX10_loop 70 = .ok (.iload_n 2, 1) := by decide +kernel
theorem dX10_loop_71 : decode cX10_loop 71 = .ok (.bipush 12, 2) := by decide +kernel
theorem dX10_loop_73 : decode cX10_loop 73 = .ok (.if_icmp .ge 18, 3) := by decide +kernel
theorem dX10_loop_76 : decode cX10_loop 76 = .ok (.aload_n 0, 1) := by decide +kernel
theorem dX10_loop_77 : decode cX10_loop 77 = .ok (.getfield 35, 3) := by decide +kernel
theorem dX10_loop_80 : decode cX10_loop 80 = .ok (.iload_n 2, 1) := by decide +kernel
theorem dX10_loop_81 : decode cX10_loop 81 = .ok (.aaload, 1) := by decide +kernel
theorem dX10_loop_82 : decode cX10_loop 82 = .ok (.iload_n 1, 1) := by decide +kernel
theorem dX10_loop_83 : decode cX10_loop 83 = .ok (.iconst 0, 1) := by decide +kernel
theorem dX10_loop_84 : decode cX10_loop 84 = .ok (.iastore, 1) := by decide +kernel
theorem dX10_loop_85 : decode cX10_loop 85 = .ok (.iinc 2 1, 3) := by decide +kernel
theorem dX10_loop_88 : decode cX10_loop 88 = .ok (.goto (-18), 3) := by decide +kernel
theorem dX10_loop_91 : decode cX10_loop 91 = .ok (.iinc 1 1, 3) := by decide +kernel
theorem dX10_loop_94 : decode cX10_loop 94 = .ok (.goto (-92), 3) := by decide +kernel
theorem dX10_loop_97 : decode cX10_loop 97 = .ok (.iconst 0, 1) := by decide +kernel
theorem dX10_loop_98 : decode cX10_loop 98 = .ok (.istore_n 1, 1) := by decide +kernel
theorem dX10_loop_99 : decode cX10_loop 99 = .ok (.iload_n 1, 1) := by decide +kernel
theorem dX10_loop_100 : decode cX10_loop 100 = .ok (.aload_n 0, 1) := by decide +kernel
theorem dX10_loop_101 : decode cX10_loop 101 = .ok (.getfield 62, 3) := by decide +kernel
theorem dX10_loop_104 : decode cX10_loop 104 = .ok (.if_icmp .ge 49, 3) := by decide +kernel
theorem dX10_loop_107 : decode cX10_loop 107 = .ok (.aload_n 0, 1) := by decide +kernel
theorem dX10_loop_108 : decode cX10_loop 108 = .ok (.getfield 26, 3) := by decide +kernel
theorem dX10_loop_111 : decode cX10_loop 111 = .ok (.iload_n 1, 1) := by decide +kernel
theorem dX10_loop_112 : decode cX10_loop 112 = .ok (.aaload, 1) := by decide +kernel
theorem dX10_loop_113 : decode cX10_loop 113 = .ok (.iconst 3, 1) := by decide +kernel
theorem dX10_loop_114 : decode cX10_loop 114 = .ok (.iaload, 1) := by decide +kernel
theorem dX10_loop_115 : decode cX10_loop 115 = .ok (.iconst (-1), 1) := by decide +kernel
theorem dX10_loop_116 : decode cX10_loop 116 = .ok (.if_icmp .eq 6, 3) := by decide +kernel
theorem dX10_loop_119 : decode cX10_loop 119 = .ok (.goto 28, 3) := by decide +kernel
theorem dX10_loop_122 : decode cX10_loop 122 = .ok (.aload_n 0, 1) := by decide +kernel
theorem dX10_loop_123 : decode cX10_loop 123 = .ok (.getfield 26, 3) := by decide +kernel
theorem dX10_loop_126 : decode cX10_loop 126 = .ok (.iload_n 1, 1) := by decide +kernel
theorem dX10_loop_127 : decode cX10_loop 127 = .ok (.aaload, 1) := by decide +kernel
theorem dX10_loop_128 : decode cX10_loop 128 = .ok (.iconst 2, 1) := by decide +kernel
theorem dX10_loop_129 : decode cX10_loop 129 = .ok (.iconst (-1), 1) := by decide +kernel
theorem dX10_loop_130 : decode cX10_loop 130 = .ok (.iastore, 1) := by decide +kernel
theorem dX10_loop_131 : decode cX10_loop 131 = .ok (.aload_n 0, 1) := by decide +kernel
theorem dX10_loop_132 : decode cX10_loop 132 = .ok (.getfield 26, 3) := by decide +kernel
theorem dX10_loop_135 : decode cX10_loop 135 = .ok (.iload_n 1, 1) := by decide +kernel
theorem dX10_loop_136 : decode cX10_loop 136 = .ok (.aaload, 1) := by decide +kernel
theorem dX10_loop_137 : decode cX10_loop 137 = .ok (.iconst 1, 1) := by decide +kernel
theorem dX10_loop_138 : decode cX10_loop 138 = .ok (.aload_n 0, 1) := by decide +kernel
theorem dX10_loop_139 : decode cX10_loop 139 = .ok (.getfield 26, 3) := by decide +kernel
theorem dX10_loop_142 : decode cX10_loop 142 = .ok (.iload_n 1, 1) := by decide +kernel
theorem dX10_loop_143 : decode cX10_loop 143 = .ok (.aaload, 1) := by decide +kernel
theorem dX10_loop_144 : decode cX10_loop 144 = .ok (.iconst 0, 1) := by decide +kernel
theorem dX10_loop_145 : decode cX10_loop 145 = .ok (.iaload, 1) := by decide +kernel
theorem dX10_loop_146 : decode cX10_loop 146 = .ok (.iastore, 1) := by decide +kernel
theorem dX10_loop_147 : decode cX10_loop 147 = .ok (.iinc 1 1, 3) := by decide +kernel
theorem dX10_loop_150 : decode cX10_loop 150 = .ok (.goto (-51), 3) := by decide +kernel
theorem dX10_loop_153 : decode cX10_loop 153 = .ok (.return_, 1) := by decide +kernel
theorem dX10_walk_0 : decode cX10_walk 0 = .ok (.aload_n 0, 1) := by decide +kernel
theorem dX10_walk_1 : decode cX10_walk 1 = .ok (.iload_n 2, 1) := by decide +kernel
theorem dX10_walk_2 : decode cX10_walk 2 = .ok (.invokevirtual 125, 3) := by decide +kernel
theorem dX10_walk_5 : decode cX10_walk 5 = .ok (.istore_n 3, 1) := by decide +kernel
theorem dX10_walk_6 : decode cX10_walk 6 = .ok (.aload_n 0, 1) := by decide +kernel
theorem dX10_walk_7 : decode cX10_walk 7 = .ok (.aload_n 1, 1) := by decide +kernel
theorem dX10_walk_8 : decode cX10_walk 8 = .ok (.iconst 1, 1) := by decide +kernel
theorem dX10_walk_9 : decode cX10_walk 9 = .ok (.iaload, 1) := by decide +kernel
theorem dX10_walk_10 : decode cX10_walk 10 = .ok (.iload_n 3, 1) := by decide +kernel
theorem dX10_walk_11 : decode cX10_walk 11 = .ok (.iconst (-1), 1) := by decide +kernel
theorem dX10_walk_12 : decode cX10_walk 12 = .ok (.if_icmp .ne 9, 3) := by decide +kernel
theorem dX10_walk_15 : decode cX10_walk 15 = .ok (.aload_n 1, 1) := by decide +kernel
theorem dX10_walk_16 : decode cX10_walk 16 = .ok (.iconst 0, 1) := by decide +kernel
theorem dX10_walk_17 : decode cX10_walk 17 = .ok (.iaload, 1) := by decide +kernel
theorem dX10_walk_18 : decode cX10_walk 18 = .ok (.goto 11, 3) := by decide +kernel
theorem dX10_walk_21 : decode cX10_walk 21 = .ok (.aload_n 0, 1) := by decide +kernel
theorem dX10_walk_22 : decode cX10_walk 22 = .ok (.getfield 29, 3) := by decide +kernel
theorem dX10_walk_25 : decode cX10_walk 25 = .ok (.iload_n 3, 1) := by decide +kernel
theorem dX10_walk_26 : decode cX10_walk 26 = .ok (.aaload, 1) := by decide +kernel
theorem dX10_walk_27 : decode cX10_walk 27 = .ok (.iconst 1, 1) := by decide +kernel
theorem dX10_walk_28 : decode cX10_walk 28 = .ok (.iaload, 1) := by decide +kernel
theorem dX10_walk_29 : decode cX10_walk 29 = .ok (.invokevirtual 128, 3) := by decide +kernel
theorem dX10_walk_32 : decode cX10_walk 32 = .ok (.istore 4, 2) := by decide +kernel
theorem dX10_walk_34 : decode cX10_walk 34 = .ok (.iload 4, 2) := by decide +kernel
theorem dX10_walk_36 : decode cX10_walk 36 = .ok (.iconst (-1), 1) := by decide +kernel
theorem dX10_walk_37 : decode cX10_walk 37 = .ok (.if_icmp .eq 11, 3) := by decide +kernel
theorem dX10_walk_40 : decode cX10_walk 40 = .ok (.iload 4, 2) := by decide +kernel
theorem dX10_walk_42 : decode cX10_walk 42 = .ok (.aload_n 1, 1) := by decide +kernel
theorem dX10_walk_43 : decode cX10_walk 43 = .ok (.iconst 1, 1) := by decide +kernel
theorem dX10_walk_44 : decode cX10_walk 44 = .ok (.iaload, 1) := by decide +kernel
theorem dX10_walk_45 : decode cX10_walk 45 = .ok (.if_icmp .ne 4, 3) := by decide +kernel
theorem dX10_walk_48 : decode cX10_walk 48 = .ok (.return_, 1) := by decide +kernel
theorem dX10_walk_49 : decode cX10_walk 49 = .ok (.aload_n 1, 1) := by decide +kernel
theorem dX10_walk_50 : decode cX10_walk 50 = .ok (.iconst 1, 1) := by decide +kernel
theorem dX10_walk_51 : decode cX10_walk 51 = .ok (.iload 4, 2) := by decide +kernel
theorem dX10_walk_53 : decode cX10_walk 53 = .ok (.iastore, 1) := by decide +kernel
theorem dX10_walk_54 : decode cX10_walk 54 = .ok (.aload_n 1, 1) := by decide +kernel
theorem dX10_walk_55 : decode cX10_walk 55 = .ok (.iconst 3, 1) := by decide +kernel
theorem dX10_walk_56 : decode cX10_walk 56 = .ok (.dup2, 1) := by decide +kernel
theorem dX10_walk_57 : decode cX10_walk 57 = .ok (.iaload, 1) := by decide +kernel
theorem dX10_walk_58 : decode cX10_walk 58 = .ok (.iconst 1, 1) := by decide +kernel
theorem dX10_walk_59 : decode cX10_walk 59 = .ok (.iadd, 1) := by decide +kernel
theorem dX10_walk_60 : decode cX10_walk 60 = .ok (.iastore, 1) := by decide +kernel
theorem dX10_walk_61 : decode cX10_walk 61 = .ok (.return_, 1) := by decide +kernel
theorem dX10_run_0 : decode cX10_run 0 = .ok (.aload_n 1, 1) := by decide +kernel
theorem dX10_run_1 : decode cX10_run 1 = .ok (.bipush 6, 2) := by decide +kernel
theorem dX10_run_3 : decode cX10_run 3 = .ok (.dup2, 1) := by decide +kernel
theorem dX10_run_4 : decode cX10_run 4 = .ok (.iaload, 1) := by decide +kernel
theorem dX10_run_5 : decode cX10_run 5 = .ok (.iconst 1, 1) := by decide +kernel
theorem dX10_run_6 : decode cX10_run 6 = .ok (.isub, 1) := by decide +kernel
theorem dX10_run_7 : decode cX10_run 7 = .ok (.dup_x2, 1) := by decide +kernel
theorem dX10_run_8 : decode cX10_run 8 = .ok (.iastore, 1) := by decide +kernel
theorem dX10_run_9 : decode cX10_run 9 = .ok (.ifCond .le 5, 3) := by decide +kernel
theorem dX10_run_12 : decode cX10_run 12 = .ok (.iconst 0, 1) := by decide +kernel
theorem dX10_run_13 : decode cX10_run 13 = .ok (.ireturn, 1) := by decide +kernel
theorem dX10_run_14 : decode cX10_run 14 = .ok (.aload_n 1, 1) := by decide +kernel
theorem dX10_run_15 : decode cX10_run 15 = .ok (.iconst 5, 1) := by decide +kernel
theorem dX10_run_16 : decode cX10_run 16 = .ok (.iconst 2, 1) := by decide +kernel
theorem dX10_run_17 : decode cX10_run 17 = .ok (.iastore, 1) := by decide +kernel
theorem dX10_run_18 : decode cX10_run 18 = .ok (.aload_n 1, 1) := by decide +kernel
theorem dX10_run_19 : decode cX10_run 19 = .ok (.bipush 8, 2) := by decide +kernel
theorem dX10_run_21 : decode cX10_run 21 = .ok (.dup2, 1) := by decide +kernel
theorem dX10_run_22 : decode cX10_run 22 = .ok (.iaload, 1) := by decide +kernel
theorem dX10_run_23 : decode cX10_run 23 = .ok (.iconst 1, 1) := by decide +kernel
theorem dX10_run_24 : decode cX10_run 24 = .ok (.iadd, 1) := by decide +kernel
theorem dX10_run_25 : decode cX10_run 25 = .ok (.iastore, 1) := by decide +kernel
theorem dX10_run_26 : decode cX10_run 26 = .ok (.aload_n 1, 1) := by decide +kernel
theorem dX10_run_27 : decode cX10_run 27 = .ok (.iconst 4, 1) := by decide +kernel
theorem dX10_run_28 : decode cX10_run 28 = .ok (.iaload, 1) := by decide +kernel
theorem dX10_run_29 : decode cX10_run 29 = .ok (.iconst (-1), 1) := by decide +kernel
theorem dX10_run_30 : decode cX10_run 30 = .ok (.if_icmp .eq 54, 3) := by decide +kernel
theorem dX10_run_33 : decode cX10_run 33 = .ok (.iconst 0, 1) := by decide +kernel
theorem dX10_run_34 : decode cX10_run 34 = .ok (.istore_n 2, 1) := by decide +kernel
theorem dX10_run_35 : decode cX10_run 35 = .ok (.iload_n 2, 1) := by decide +kernel
theorem dX10_run_36 : decode cX10_run 36 = .ok (.aload_n 0, 1) := by decide +kernel
theorem dX10_run_37 : decode cX10_run 37 = .ok (.getfield 59, 3) := by decide +kernel
theorem dX10_run_40 : decode cX10_run 40 = .ok (.if_icmp .ge 44, 3) := by decide +kernel
theorem dX10_run_43 : decode cX10_run 43 = .ok (.aload_n 1, 1) := by decide +kernel
theorem dX10_run_44 : decode cX10_run 44 = .ok (.iconst 3, 1) := by decide +kernel
theorem dX10_run_45 : decode cX10_run 45 = .ok (.iaload, 1) := by decide +kernel
theorem dX10_run_46 : decode cX10_run 46 = .ok (.iload_n 2, 1) := by decide +kernel
theorem dX10_run_47 : decode cX10_run 47 = .ok (.invokestatic 80, 3) := by decide +kernel
theorem dX10_run_50 : decode cX10_run 50 = .ok (.ifCond .ne 6, 3) := by decide +kernel
theorem dX10_run_53 : decode cX10_run 53 = .ok (.goto 25, 3) := by decide +kernel
theorem dX10_run_56 : decode cX10_run 56 = .ok (.aload_n 0, 1) := by decide +kernel
theorem dX10_run_57 : decode cX10_run 57 = .ok (.getfield 26, 3) := by decide +kernel
theorem dX10_run_60 : decode cX10_run 60 = .ok (.aload_n 1, 1) := by decide +kernel
theorem dX10_run_61 : decode cX10_run 61 = .ok (.iconst 4, 1) := by decide +kernel
theorem dX10_run_62 : decode cX10_run 62 = .ok (.iaload, 1) := by decide +kernel
theorem dX10_run_63 : decode cX10_run 63 = .ok (.aaload, 1) := by decide +kernel
theorem dX10_run_64 : decode cX10_run 64 = .ok (.iconst 2, 1) := by decide +kernel
theorem dX10_run_65 : decode cX10_run 65 = .ok (.iload_n 2, 1) := by decide +kernel
theorem dX10_run_66 : decode cX10_run 66 = .ok (.iastore, 1) := by decide +kernel
theorem dX10_run_67 : decode cX10_run 67 = .ok (.aload_n 0, 1) := by decide +kernel
theorem dX10_run_68 : decode cX10_run 68 = .ok (.getfield 26, 3) := by decide +kernel
theorem dX10_run_71 : decode cX10_run 71 = .ok (.aload_n 1, 1) := by decide +kernel
theorem dX10_run_72 : decode cX10_run 72 = .ok (.iconst 4, 1) := by decide +kernel
theorem dX10_run_73 : decode cX10_run 73 = .ok (.iaload, 1) := by decide +kernel
theorem dX10_run_74 : decode cX10_run 74 = .ok (.aaload, 1) := by decide +kernel
theorem dX10_run_75 : decode cX10_run 75 = .ok (.iconst 3, 1) := by decide +kernel
theorem dX10_run_76 : decode cX10_run 76 = .ok (.iconst (-1), 1) := by decide +kernel
theorem dX10_run_77 : decode cX10_run 77 = .ok (.iastore, 1) := by decide +kernel
theorem dX10_run_78 : decode cX10_run 78 = .ok (.iinc 2 1, 3) := by decide +kernel
theorem dX10_run_81 : decode cX10_run 81 = .ok (.goto (-46), 3) := by decide +kernel
theorem dX10_run_84 : decode cX10_run 84 = .ok (.iconst 1, 1) := by decide +kernel
theorem dX10_run_85 : decode cX10_run 85 = .ok (.ireturn, 1) := by decide +kernel
theorem dX10_attend_0 : decode cX10_attend 0 = .ok (.aload_n 1, 1) := by decide +kernel
theorem dX10_attend_1 : decode cX10_attend 1 = .ok (.iconst 5, 1) := by decide +kernel
theorem dX10_attend_2 : decode cX10_attend 2 = .ok (.iaload, 1) := by decide +kernel
theorem dX10_attend_3 : decode cX10_attend 3 = .ok (.ifCond .ne 13, 3) := by decide +kernel
theorem dX10_attend_6 : decode cX10_attend 6 = .ok (.aload_n 1, 1) := by decide +kernel
theorem dX10_attend_7 : decode cX10_attend 7 = .ok (.iconst 0, 1) := by decide +kernel
theorem dX10_attend_8 : decode cX10_attend 8 = .ok (.iaload, 1) := by decide +kernel
theorem dX10_attend_9 : decode cX10_attend 9 = .ok (.aload_n 0, 1) := by decide +kernel
theorem dX10_attend_10 : decode cX10_attend 10 = .ok (.invokevirtual 91, 3) := by decide +kernel
theorem dX10_attend_13 : decode cX10_attend 13 = .ok (.if_icmp .le 4, 3) := by decide +kernel
theorem dX10_attend_16 : decode cX10_attend 16 = .ok (.return_, 1) := by decide +kernel
theorem dX10_attend_17 : decode cX10_attend 17 = .ok (.aload_n 1, 1) := by decide +kernel
theorem dX10_attend_18 : decode cX10_attend 18 = .ok (.iconst 4, 1) := by decide +kernel
theorem dX10_attend_19 : decode cX10_attend 19 = .ok (.iaload, 1) := by decide +kernel
theorem dX10_attend_20 : decode cX10_attend 20 = .ok (.iconst (-1), 1) := by decide +kernel
theorem dX10_attend_21 : decode cX10_attend 21 = .ok (.if_icmp .eq 49, 3) := by decide +kernel
theorem dX10_attend_24 : decode cX10_attend 24 = .ok (.aload_n 0, 1) := by decide +kernel
theorem dX10_attend_25 : decode cX10_attend 25 = .ok (.aload_n 1, 1) := by decide +kernel
theorem dX10_attend_26 : decode cX10_attend 26 = .ok (.iconst 4, 1) := by decide +kernel
theorem dX10_attend_27 : decode cX10_attend 27 = .ok (.iaload, 1) := by decide +kernel
theorem dX10_attend_28 : decode cX10_attend 28 = .ok (.aload_n 1, 1) := by decide +kernel
theorem dX10_attend_29 : decode cX10_attend 29 = .ok (.iconst 1, 1) := by decide +kernel
theorem dX10_attend_30 : decode cX10_attend 30 = .ok (.iaload, 1) := by decide +kernel
theorem dX10_attend_31 : decode cX10_attend 31 = .ok (.invokevirtual 131, 3) := by decide +kernel
theorem dX10_attend_34 : decode cX10_attend 34 = .ok (.ifCond .ne 36, 3) := by decide +kernel
theorem dX10_attend_37 : decode cX10_attend 37 = .ok (.aload_n 0, 1) := by decide +kernel
theorem dX10_attend_38 : decode cX10_attend 38 = .ok (.getfield 26, 3) := by decide +kernel
theorem dX10_attend_41 : decode cX10_attend 41 = .ok (.aload_n 1, 1) := by decide +kernel
theorem dX10_attend_42 : decode cX10_attend 42 = .ok (.iconst 4, 1) := by decide +kernel
theorem dX10_attend_43 : decode cX10_attend 43 = .ok (.iaload, 1) := by decide +kernel
theorem dX10_attend_44 : decode cX10_attend 44 = .ok (.aaload, 1) := by decide +kernel
theorem dX10_attend_45 : decode cX10_attend 45 = .ok (.iconst 2, 1) := by decide +kernel
theorem dX10_attend_46 : decode cX10_attend 46 = .ok (.iaload, 1) := by decide +kernel
theorem dX10_attend_47 : decode cX10_attend 47 = .ok (.iconst (-1), 1) := by decide +kernel
theorem dX10_attend_48 : decode cX10_attend 48 = .ok (.if_icmp .eq 26, 3) := by decide +kernel
theorem dX10_attend_51 : decode cX10_attend 51 = .ok (.aload_n 1, 1) := by decide +kernel
theorem dX10_attend_52 : decode cX10_attend 52 = .ok (.iconst 3, 1) := by decide +kernel
theorem dX10_attend_53 : decode cX10_attend 53 = .ok (.iaload, 1) := by decide +kernel
theorem dX10_attend_54 : decode cX10_attend 54 = .ok (.aload_n 0, 1) := by decide +kernel
theorem dX10_attend_55 : decode cX10_attend 55 = .ok (.getfield 26, 3) := by decide +kernel
theorem dX10_attend_58 : decode cX10_attend 58 = .ok (.aload_n 1, 1) := by decide +kernel
theorem dX10_attend_59 : decode cX10_attend 59 = .ok (.iconst 4, 1) := by decide +kernel
theorem dX10_attend_60 : decode cX10_attend 60 = .ok (.iaload, 1) := by decide +kernel
theorem dX10_attend_61 : decode cX10_attend 61 = .ok (.aaload, 1) := by decide +kernel
theorem dX10_attend_62 : decode cX10_attend 62 = .ok (.iconst 2, 1) := by decide +kernel
theorem dX10_attend_63 : decode cX10_attend 63 = .ok (.iaload, 1) := by decide +kernel
theorem dX10_attend_64 : decode cX10_attend 64 = .ok (.invokestatic 80, 3) := by decide +kernel
theorem dX10_attend_67 : decode cX10_attend 67 = .ok (.ifCond .eq 7, 3) := by decide +kernel
theorem dX10_attend_70 : decode cX10_attend 70 = .ok (.iconst 1, 1) := by decide +kernel
theorem dX10_attend_71 : decode cX10_attend 71 = .ok (.goto 4, 3) := by decide +kernel
theorem dX10_attend_74 : decode cX10_attend 74 = .ok (.iconst 0, 1) := by decide +kernel
theorem dX10_attend_75 : decode cX10_attend 75 = .ok (.istore_n 2, 1) := by decide +kernel
theorem dX10_attend_76 : decode cX10_attend 76 = .ok (.iconst 0, 1) := by decide +kernel
theorem dX10_attend_77 : decode cX10_attend 77 = .ok (.istore_n 3, 1) := by decide +kernel
theorem dX10_attend_78 : decode cX10_attend 78 = .ok (.iload_n 3, 1) := by decide +kernel
theorem dX10_attend_79 : decode cX10_attend 79 = .ok (.aload_n 0, 1) := by decide +kernel
theorem dX10_attend_80 : decode cX10_attend 80 = .ok (.getfield 59, 3) := by decide +kernel
theorem dX10_attend_83 : decode cX10_attend 83 = .ok (.if_icmp .ge 46, 3) := by decide +kernel
theorem dX10_attend_86 : decode cX10_attend 86 = .ok (.iload_n 2, 1) := by decide +kernel
theorem dX10_attend_87 : decode cX10_attend 87 = .ok (.aload_n 1, 1) := by decide +kernel
theorem dX10_attend_88 : decode cX10_attend 88 = .ok (.iconst 3, 1) := by decide +kernel
theorem dX10_attend_89 : decode cX10_attend 89 = .ok (.iaload, 1) := by decide +kernel
theorem dX10_attend_90 : decode cX10_attend 90 = .ok (.iload_n 3, 1) := by decide +kernel
theorem dX10_attend_91 : decode cX10_attend 91 = .ok (.invokestatic 80, 3) := by decide +kernel
theorem dX10_attend_94 : decode cX10_attend 94 = .ok (.ifCond .eq 22, 3) := by decide +kernel
theorem dX10_attend_97 : decode cX10_attend 97 = .ok (.aload_n 0, 1) := by decide +kernel
theorem dX10_attend_98 : decode cX10_attend 98 = .ok (.iload_n 3, 1) := by decide +kernel
theorem dX10_attend_99 : decode cX10_attend 99 = .ok (.invokevirtual 134, 3) := by decide +kernel
theorem dX10_attend_102 : decode cX10_attend 102 = .ok (.aload_n 1, 1) := by decide +kernel
theorem dX10_attend_103 : decode cX10_attend 103 = .ok (.iconst 1, 1) := by decide +kernel
theorem dX10_attend_104 : decode cX10_attend 104 = .ok (.iaload, 1) := by decide +kernel
theorem dX10_attend_105 : decode cX10_attend 105 = .ok (.if_icmp .ne 15, 3) := by decide +kernel
theorem dX10_attend_108 : decode cX10_attend 108 = .ok (.aload_n 0, 1) := by decide +kernel
theorem dX10_attend_109 : decode cX10_attend 109 = .ok (.iload_n 3, 1) := by decide +kernel
theorem dX10_attend_110 : decode cX10_attend 110 = .ok (.invokevirtual 98, 3) := by decide +kernel
theorem dX10_attend_113 : decode cX10_attend 113 = .ok (.ifCond .ne 7, 3) := by decide +kernel
theorem dX10_attend_116 : decode cX10_attend 116 = .ok (.iconst 1, 1) := by decide +kernel
theorem dX10_attend_117 : decode cX10_attend 117 = .ok (.goto 4, 3) := by decide +kernel
theorem dX10_attend_120 : decode cX10_attend 120 = .ok (.iconst 0, 1) := by decide +kernel
theorem dX10_attend_121 : decode cX10_attend 121 = .ok (.iand, 1) := by decide +kernel
theorem dX10_attend_122 : decode cX10_attend 122 = .ok (.istore_n 2, 1) := by decide +kernel
theorem dX10_attend_123 : decode cX10_attend 123 = .ok (.iinc 3 1, 3) := by decide +kernel
theorem dX10_attend_126 : decode cX10_attend 126 = .ok (.goto (-48), 3) := by decide +kernel
theorem dX10_attend_129 : decode cX10_attend 129 = .ok (.iload_n 2, 1) := by decide +kernel
theorem dX10_attend_130 : decode cX10_attend 130 = .ok (.ifCond .eq 15, 3) := by decide +kernel
theorem dX10_attend_133 : decode cX10_attend 133 = .ok (.aload_n 1, 1) := by decide +kernel
theorem dX10_attend_134 : decode cX10_attend 134 = .ok (.iconst 5, 1) := by decide +kernel
theorem dX10_attend_135 : decode cX10_attend 135 = .ok (.iconst 1, 1) := by decide +kernel
theorem dX10_attend_136 : decode cX10_attend 136 = .ok (.iastore, 1) := by decide +kernel
theorem dX10_attend_137 : decode cX10_attend 137 = .ok (.aload_n 1, 1) := by decide +kernel
theorem dX10_attend_138 : decode cX10_attend 138 = .ok (.bipush 6, 2) := by decide +kernel
theorem dX10_attend_140 : decode cX10_attend 140 = .ok (.aload_n 1, 1) := by decide +kernel
theorem dX10_attend_141 : decode cX10_attend 141 = .ok (.iconst 2, 1) := by decide +kernel
theorem dX10_attend_142 : decode cX10_attend 142 = .ok (.iaload, 1) := by decide +kernel
theorem dX10_attend_143 : decode cX10_attend 143 = .ok (.iastore, 1) := by decide +kernel
theorem dX10_attend_144 : decode cX10_attend 144 = .ok (.return_, 1) := by decide +kernel
theorem dX10_attend_145 : decode cX10_attend 145 = .ok (.aload_n 1, 1) := by decide +kernel
theorem dX10_attend_146 : decode cX10_attend 146 = .ok (.bipush 7, 2) := by decide +kernel
theorem dX10_attend_148 : decode cX10_attend 148 = .ok (.dup2, 1) := by decide +kernel
theorem dX10_attend_149 : decode cX10_attend 149 = .ok (.iaload, 1) := by decide +kernel
theorem dX10_attend_150 : decode cX10_attend 150 = .ok (.iconst 1, 1) := by decide +kernel
theorem dX10_attend_151 : decode cX10_attend 151 = .ok (.iadd, 1) := by decide +kernel
theorem dX10_attend_152 : decode cX10_attend 152 = .ok (.iastore, 1) := by decide +kernel
theorem dX10_attend_153 : decode cX10_attend 153 = .ok (.aload_n 0, 1) := by decide +kernel
theorem dX10_attend_154 : decode cX10_attend 154 = .ok (.dup, 1) := by decide +kernel
theorem dX10_attend_155 : decode cX10_attend 155 = .ok (.getfield 71, 3) := by decide +kernel
theorem dX10_attend_158 : decode cX10_attend 158 = .ok (.iconst 1, 1) := by decide +kernel
theorem dX10_attend_159 : decode cX10_attend 159 = .ok (.iadd, 1) := by decide +kernel
theorem dX10_attend_160 : decode cX10_attend 160 = .ok (.putfield 71, 3) := by decide +kernel
theorem dX10_attend_163 : decode cX10_attend 163 = .ok (.aload_n 1, 1) := by decide +kernel
theorem dX10_attend_164 : decode cX10_attend 164 = .ok (.bipush 7, 2) := by decide +kernel
theorem dX10_attend_166 : decode cX10_attend 166 = .ok (.iaload, 1) := by decide +kernel
theorem dX10_attend_167 : decode cX10_attend 167 = .ok (.iconst 5, 1) := by decide +kernel
theorem dX10_attend_168 : decode cX10_attend 168 = .ok (.if_icmp .ne 15, 3) := by decide +kernel
theorem dX10_attend_171 : decode cX10_attend 171 = .ok (.aload_n 1, 1) := by decide +kernel
theorem dX10_attend_172 : decode cX10_attend 172 = .ok (.iconst 5, 1) := by decide +kernel
theorem dX10_attend_173 : decode cX10_attend 173 = .ok (.iconst 3, 1) := by decide +kernel
theorem dX10_attend_174 : decode cX10_attend 174 = .ok (.iastore, 1) := by decide +kernel
theorem dX10_attend_175 : decode cX10_attend 175 = .ok (.aload_n 1, 1) := by decide +kernel
theorem dX10_attend_176 : decode cX10_attend 176 = .ok (.bipush 9, 2) := by decide +kernel
theorem dX10_attend_178 : decode cX10_attend 178 = .ok (.dup2, 1) := by decide +kernel
theorem dX10_attend_179 : decode cX10_attend 179 = .ok (.iaload, 1) := by decide +kernel
theorem dX10_attend_180 : decode cX10_attend 180 = .ok (.iconst 1, 1) := by decide +kernel
theorem dX10_attend_181 : decode cX10_attend 181 = .ok (.iadd, 1) := by decide +kernel
theorem dX10_attend_182 : decode cX10_attend 182 = .ok (.iastore, 1) := by decide +kernel
theorem dX10_attend_183 : decode cX10_attend 183 = .ok (.return_, 1) := by decide +kernel
theorem dX10_wish_0 : decode cX10_wish 0 = .ok (.aload_n 1, 1) := by decide +kernel
theorem dX10_wish_1 : decode cX10_wish 1 = .ok (.iconst 1, 1) := by decide +kernel
theorem dX10_wish_2 : decode cX10_wish 2 = .ok (.iaload, 1) := by decide +kernel
theorem dX10_wish_3 : decode cX10_wish 3 = .ok (.istore_n 2, 1) := by decide +kernel
theorem dX10_wish_4 : decode cX10_wish 4 = .ok (.aload_n 1, 1) := by decide +kernel
theorem dX10_wish_5 : decode cX10_wish 5 = .ok (.iconst 0, 1) := by decide +kernel
theorem dX10_wish_6 : decode cX10_wish 6 = .ok (.iaload, 1) := by decide +kernel
theorem dX10_wish_7 : decode cX10_wish 7 = .ok (.iconst 1, 1) := by decide +kernel
theorem dX10_wish_8 : decode cX10_wish 8 = .ok (.if_icmp .ne 16, 3) := by decide +kernel
theorem dX10_wish_11 : decode cX10_wish 11 = .ok (.aload_n 0, 1) := by decide +kernel
theorem dX10_wish_12 : decode cX10_wish 12 = .ok (.iload_n 2, 1) := by decide +kernel
theorem dX10_wish_13 : decode cX10_wish 13 = .ok (.aload_n 0, 1) := by decide +kernel
theorem dX10_wish_14 : decode cX10_wish 14 = .ok (.aload_n 1, 1) := by decide +kernel
theorem dX10_wish_15 : decode cX10_wish 15 = .ok (.iconst 2, 1) := by decide +kernel
theorem dX10_wish_16 : decode cX10_wish 16 = .ok (.iaload, 1) := by decide +kernel
theorem dX10_wish_17 : decode cX10_wish 17 = .ok (.invokevirtual 134, 3) := by decide +kernel
theorem dX10_wish_20 : decode cX10_wish 20 = .ok (.invokevirtual 128, 3) := by decide +kernel
theorem dX10_wish_23 : decode cX10_wish 23 = .ok (.ireturn, 1) := by decide +kernel
theorem dX10_wish_24 : decode cX10_wish 24 = .ok (.aload_n 1, 1) := by decide +kernel
theorem dX10_wish_25 : decode cX10_wish 25 = .ok (.iconst 0, 1) := by decide +kernel
theorem dX10_wish_26 : decode cX10_wish 26 = .ok (.iaload, 1) := by decide +kernel
theorem dX10_wish_27 : decode cX10_wish 27 = .ok (.iconst 2, 1) := by decide +kernel
theorem dX10_wish_28 : decode cX10_wish 28 = .ok (.if_icmp .ne 9, 3) := by decide +kernel
theorem dX10_wish_31 : decode cX10_wish 31 = .ok (.aload_n 0, 1) := by decide +kernel
theorem dX10_wish_32 : decode cX10_wish 32 = .ok (.iload_n 2, 1) := by decide +kernel
theorem dX10_wish_33 : decode cX10_wish 33 = .ok (.invokevirtual 137, 3) := by decide +kernel
theorem dX10_wish_36 : decode cX10_wish 36 = .ok (.ireturn, 1) := by decide +kernel
theorem dX10_wish_37 : decode cX10_wish 37 = .ok (.aload_n 1, 1) := by decide +kernel
theorem dX10_wish_38 : decode cX10_wish 38 = .ok (.iconst 0, 1) := by decide +kernel
theorem dX10_wish_39 : decode cX10_wish 39 = .ok (.iaload, 1) := by decide +kernel
theorem dX10_wish_40 : decode cX10_wish 40 = .ok (.iconst 3, 1) := by decide +kernel
theorem dX10_wish_41 : decode cX10_wish 41 = .ok (.if_icmp .ge 5, 3) := by decide +kernel
theorem dX10_wish_44 : decode cX10_wish 44 = .ok (.iload_n 2, 1) := by decide +kernel
theorem dX10_wish_45 : decode cX10_wish 45 = .ok (.ireturn, 1) := by decide +kernel
theorem dX10_wish_46 : decode cX10_wish 46 = .ok (.iconst (-1), 1) := by decide +kernel
theorem dX10_wish_47 : decode cX10_wish 47 = .ok (.istore_n 3, 1) := by decide +kernel
theorem dX10_wish_48 : decode cX10_wish 48 = .ok (.iconst 0, 1) := by decide +kernel
theorem dX10_wish_49 : decode cX10_wish 49 = .ok (.istore 4, 2) := by decide +kernel
theorem dX10_wish_51 : decode cX10_wish 51 = .ok (.iload 4, 2) := by decide +kernel
theorem dX10_wish_53 : decode cX10_wish 53 = .ok (.aload_n 0, 1) := by decide +kernel
theorem dX10_wish_54 : decode cX10_wish 54 = .ok (.getfield 65, 3) := by decide +kernel
theorem dX10_wish_57 : decode cX10_wish 57 = .ok (.if_icmp .ge 99, 3) := by decide +kernel
theorem dX10_wish_60 : decode cX10_wish 60 = .ok (.aload_n 0, 1) := by decide +kernel
theorem dX10_wish_61 : decode cX10_wish 61 = .ok (.getfield 29, 3) := by decide +kernel
theorem dX10_wish_64 : decode cX10_wish 64 = .ok (.iload 4, 2) := by decide +kernel
theorem dX10_wish_66 : decode cX10_wish 66 = .ok (.aaload, 1) := by decide +kernel
theorem dX10_wish_67 : decode cX10_wish 67 = .ok (.iconst 5, 1) := by decide +kernel
theorem dX10_wish_68 : decode cX10_wish 68 = .ok (.iaload, 1) := by decide +kernel
theorem dX10_wish_69 : decode cX10_wish 69 = .ok (.iconst 1, 1) := by decide +kernel
theorem dX10_wish_70 : decode cX10_wish 70 = .ok (.if_icmp .ne 80, 3) := by decide +kernel
theorem dX10_wish_73 : decode cX10_wish 73 = .ok (.aload_n 1, 1) := by decide +kernel
theorem dX10_wish_74 : decode cX10_wish 74 = .ok (.iconst 4, 1) := by decide +kernel
theorem dX10_wish_75 : decode cX10_wish 75 = .ok (.iaload, 1) := by decide +kernel
theorem dX10_wish_76 : decode cX10_wish 76 = .ok (.iload 4, 2) := by decide +kernel
theorem dX10_wish_78 : decode cX10_wish 78 = .ok (.invokestatic 80, 3) := by decide +kernel
theorem dX10_wish_81 : decode cX10_wish 81 = .ok (.ifCond .ne 69, 3) := by decide +kernel
theorem dX10_wish_84 : decode cX10_wish 84 = .ok (.aload_n 0, 1) := by decide +kernel
theorem dX10_wish_85 : decode cX10_wish 85 = .ok (.getfield 20, 3) := by decide +kernel
theorem dX10_wish_88 : decode cX10_wish 88 = .ok (.iload_n 2, 1) := by decide +kernel
theorem dX10_wish_89 : decode cX10_wish 89 = .ok (.aaload, 1) := by decide +kernel
theorem dX10_wish_90 : decode cX10_wish 90 = .ok (.aload_n 0, 1) := by decide +kernel
theorem dX10_wish_91 : decode cX10_wish 91 = .ok (.getfield 29, 3) := by decide +kernel
theorem dX10_wish_94 : decode cX10_wish 94 = .ok (.iload 4, 2) := by decide +kernel
theorem dX10_wish_96 : decode cX10_wish 96 = .ok (.aaload, 1) := by decide +kernel
theorem dX10_wish_97 : decode cX10_wish 97 = .ok (.iconst 1, 1) := by decide +kernel
theorem dX10_wish_98 : decode cX10_wish 98 = .ok (.iaload, 1) := by decide +kernel
theorem dX10_wish_99 : decode cX10_wish 99 = .ok (.iaload, 1) := by decide +kernel
theorem dX10_wish_100 : decode cX10_wish 100 = .ok (.bipush 99, 2) := by decide +kernel
theorem dX10_wish_102 : decode cX10_wish 102 = .ok (.if_icmp .lt 6, 3) := by decide +kernel
theorem dX10_wish_105 : decode cX10_wish 105 = .ok (.goto 45, 3) := by decide +kernel
theorem dX10_wish_108 : decode cX10_wish 108 = .ok (.iload_n 3, 1) := by decide +kernel
theorem dX10_wish_109 : decode cX10_wish 109 = .ok (.iconst (-1), 1) := by decide +kernel
theorem dX10_wish_110 : decode cX10_wish 110 = .ok (.if_icmp .eq 37, 3) := by decide +kernel
theorem dX10_wish_113 : decode cX10_wish 113 = .ok (.aload_n 0, 1) := by decide +kernel
theorem dX10_wish_114 : decode cX10_wish 114 = .ok (.getfield 20, 3) := by decide +kernel
theorem dX10_wish_117 : decode cX10_wish 117 = .ok (.iload_n 2, 1) := by decide +kernel
theorem dX10_wish_118 : decode cX10_wish 118 = .ok (.aaload, 1) := by decide +kernel
theorem dX10_wish_119 : decode cX10_wish 119 = .ok (.aload_n 0, 1) := by decide +kernel
theorem dX10_wish_120 : decode cX10_wish 120 = .ok (.getfield 29, 3) := by decide +kernel
theorem dX10_wish_123 : decode cX10_wish 123 = .ok (.iload 4, 2) := by decide +kernel
theorem dX10_wish_125 : decode cX10_wish 125 = .ok (.aaload, 1) := by decide +kernel
theorem dX10_wish_126 : decode cX10_wish 126 = .ok (.iconst 1, 1) := by decide +kernel
theorem dX10_wish_127 : decode cX10_wish 127 = .ok (.iaload, 1) := by decide +kernel
theorem dX10_wish_128 : decode cX10_wish 128 = .ok (.iaload, 1) := by decide +kernel
theorem dX10_wish_129 : decode cX10_wish 129 = .ok (.aload_n 0, 1) := by decide +kernel
theorem dX10_wish_130 : decode cX10_wish 130 = .ok (.getfield 20, 3) := by decide +kernel
theorem dX10_wish_133 : decode cX10_wish 133 = .ok (.iload_n 2, 1) := by decide +kernel
theorem dX10_wish_134 : decode cX10_wish 134 = .ok (.aaload, 1) := by decide +kernel
theorem dX10_wish_135 : decode cX10_wish 135 = .ok (.aload_n 0, 1) := by decide +kernel
theorem dX10_wish_136 : decode cX10_wish 136 = .ok (.getfield 29, 3) := by decide +kernel
theorem dX10_wish_139 : decode cX10_wish 139 = .ok (.iload_n 3, 1) := by decide +kernel
theorem dX10_wish_140 : decode cX10_wish 140 = .ok (.aaload, 1) := by decide +kernel
theorem dX10_wish_141 : decode cX10_wish 141 = .ok (.iconst 1, 1) := by decide +kernel
theorem dX10_wish_142 : decode cX10_wish 142 = .ok (.iaload, 1) := by decide +kernel
theorem dX10_wish_143 : decode cX10_wish 143 = .ok (.iaload, 1) := by decide +kernel
theorem dX10_wish_144 : decode cX10_wish 144 = .ok (.if_icmp .ge 6, 3) := by decide +kernel
theorem dX10_wish_147 : decode cX10_wish 147 = .ok (.iload 4, 2) := by decide +kernel
theorem dX10_wish_149 : decode cX10_wish 149 = .ok (.istore_n 3, 1) := by decide +kernel
theorem dX10_wish_150 : decode cX10_wish 150 = .ok (.iinc 4 1, 3) := by decide +kernel
theorem dX10_wish_153 : decode cX10_wish 153 = .ok (.goto (-102), 3) := by decide +kernel
theorem dX10_wish_156 : decode cX10_wish 156 = .ok (.iload_n 3, 1) := by decide +kernel
theorem dX10_wish_157 : decode cX10_wish 157 = .ok (.iconst (-1), 1) := by decide +kernel
theorem dX10_wish_158 : decode cX10_wish 158 = .ok (.if_icmp .ne 7, 3) := by decide +kernel
theorem dX10_wish_161 : decode cX10_wish 161 = .ok (.iload_n 2, 1) := by decide +kernel
theorem dX10_wish_162 : decode cX10_wish 162 = .ok (.goto 16, 3) := by decide +kernel
theorem dX10_wish_165 : decode cX10_wish 165 = .ok (.aload_n 0, 1) := by decide +kernel
theorem dX10_wish_166 : decode cX10_wish 166 = .ok (.iload_n 2, 1) := by decide +kernel
theorem dX10_wish_167 : decode cX10_wish 167 = .ok (.aload_n 0, 1) := by decide +kernel
theorem dX10_wish_168 : decode cX10_wish 168 = .ok (.getfield 29, 3) := by decide +kernel
theorem dX10_wish_171 : decode cX10_wish 171 = .ok (.iload_n 3, 1) := by decide +kernel
theorem dX10_wish_172 : decode cX10_wish 172 = .ok (.aaload, 1) := by decide +kernel
theorem dX10_wish_173 : decode cX10_wish 173 = .ok (.iconst 1, 1) := by decide +kernel
theorem dX10_wish_174 : decode cX10_wish 174 = .ok (.iaload, 1) := by decide +kernel
theorem dX10_wish_175 : decode cX10_wish 175 = .ok (.invokevirtual 128, 3) := by decide +kernel
theorem dX10_wish_178 : decode cX10_wish 178 = .ok (.ireturn, 1) := by decide +kernel
theorem dX10_wander_0 : decode cX10_wander 0 = .ok (.aload_n 0, 1) := by decide +kernel
theorem dX10_wander_1 : decode cX10_wander 1 = .ok (.iload_n 1, 1) := by decide +kernel
theorem dX10_wander_2 : decode cX10_wander 2 = .ok (.invokevirtual 140, 3) := by decide +kernel
theorem dX10_wander_5 : decode cX10_wander 5 = .ok (.ifCond .eq 5, 3) := by decide +kernel
theorem dX10_wander_8 : decode cX10_wander 8 = .ok (.iload_n 1, 1) := by decide +kernel
theorem dX10_wander_9 : decode cX10_wander 9 = .ok (.ireturn, 1) := by decide +kernel
theorem dX10_wander_10 : decode cX10_wander 10 = .ok (.iconst (-1), 1) := by decide +kernel
theorem dX10_wander_11 : decode cX10_wander 11 = .ok (.istore_n 2, 1) := by decide +kernel
theorem dX10_wander_12 : decode cX10_wander 12 = .ok (.iconst 0, 1) := by decide +kernel
theorem dX10_wander_13 : decode cX10_wander 13 = .ok (.istore_n 3, 1) := by decide +kernel
theorem dX10_wander_14 : decode cX10_wander 14 = .ok (.iload_n 3, 1) := by decide +kernel
theorem dX10_wander_15 : decode cX10_wander 15 = .ok (.aload_n 0, 1) := by decide +kernel
theorem dX10_wander_16 : decode cX10_wander 16 = .ok (.getfield 53, 3) := by decide +kernel
theorem dX10_wander_19 : decode cX10_wander 19 = .ok (.if_icmp .ge 40, 3) := by decide +kernel
theorem dX10_wander_22 : decode cX10_wander 22 = .ok (.aload_n 0, 1) := by decide +kernel
theorem dX10_wander_23 : decode cX10_wander 23 = .ok (.getfield 17, 3) := by decide +kernel
theorem dX10_wander_26 : decode cX10_wander 26 = .ok (.iload_n 1, 1) := by decide +kernel
theorem dX10_wander_27 : decode cX10_wander 27 = .ok (.aaload, 1) := by decide +kernel
theorem dX10_wander_28 : decode cX10_wander 28 = .ok (.iload_n 3, 1) := by decide +kernel
theorem dX10_wander_29 : decode cX10_wander 29 = .ok (.iaload, 1) := by decide +kernel
theorem dX10_wander_30 : decode cX10_wander 30 = .ok (.ifCond .le 23, 3) := by decide +kernel
theorem dX10_wander_33 : decode cX10_wander 33 = .ok (.iload_n 2, 1) := by decide +kernel
theorem dX10_wander_34 : decode cX10_wander 34 = .ok (.iconst (-1), 1) := by decide +kernel
theorem dX10_wander_35 : decode cX10_wander 35 = .ok (.if_icmp .eq 16, 3) := by decide +kernel
theorem dX10_wander_38 : decode cX10_wander 38 = .ok (.aload_n 0, 1) := by decide +kernel
theorem dX10_wander_39 : decode cX10_wander 39 = .ok (.iload_n 3, 1) := by decide +kernel
theorem dX10_wander_40 : decode cX10_wander 40 = .ok (.invokevirtual 143, 3) := by decide +kernel
theorem dX10_wander_43 : decode cX10_wander 43 = .ok (.aload_n 0, 1) := by decide +kernel
theorem dX10_wander_44 : decode cX10_wander 44 = .ok (.iload_n 2, 1) := by decide +kernel
theorem dX10_wander_45 : decode cX10_wander 45 = .ok (.invokevirtual 143, 3) := by decide +kernel
theorem dX10_wander_48 : decode cX10_wander 48 = .ok (.if_icmp .ge 5, 3) := by decide +kernel
theorem dX10_wander_51 : decode cX10_wander 51 = .ok (.iload_n 3, 1) := by decide +kernel
theorem dX10_wander_52 : decode cX10_wander 52 = .ok (.istore_n 2, 1) := by decide +kernel
theorem dX10_wander_53 : decode cX10_wander 53 = .ok (.iinc 3 1, 3) := by decide +kernel
theorem dX10_wander_56 : decode cX10_wander 56 = .ok (.goto (-42), 3) := by decide +kernel
theorem dX10_wander_59 : decode cX10_wander 59 = .ok (.iload_n 2, 1) := by decide +kernel
theorem dX10_wander_60 : decode cX10_wander 60 = .ok (.iconst (-1), 1) := by decide +kernel
theorem dX10_wander_61 : decode cX10_wander 61 = .ok (.if_icmp .eq 20, 3) := by decide +kernel
theorem dX10_wander_64 : decode cX10_wander 64 = .ok (.aload_n 0, 1) := by decide +kernel
theorem dX10_wander_65 : decode cX10_wander 65 = .ok (.iload_n 2, 1) := by decide +kernel
theorem dX10_wander_66 : decode cX10_wander 66 = .ok (.invokevirtual 143, 3) := by decide +kernel
theorem dX10_wander_69 : decode cX10_wander 69 = .ok (.aload_n 0, 1) := by decide +kernel
theorem dX10_wander_70 : decode cX10_wander 70 = .ok (.iload_n 1, 1) := by decide +kernel
theorem dX10_wander_71 : decode cX10_wander 71 = .ok (.invokevirtual 143, 3) := by decide +kernel
theorem dX10_wander_74 : decode cX10_wander 74 = .ok (.if_icmp .ge 7, 3) := by decide +kernel
theorem dX10_wander_77 : decode cX10_wander 77 = .ok (.iload_n 2, 1) := by decide +kernel
theorem dX10_wander_78 : decode cX10_wander 78 = .ok (.goto 4, 3) := by decide +kernel
theorem dX10_wander_81 : decode cX10_wander 81 = .ok (.iload_n 1, 1) := by decide +kernel
theorem dX10_wander_82 : decode cX10_wander 82 = .ok (.ireturn, 1) := by decide +kernel
theorem dX10_move_0 : decode cX10_move 0 = .ok (.aload_n 1, 1) := by decide +kernel
theorem dX10_move_1 : decode cX10_move 1 = .ok (.iconst 1, 1) := by decide +kernel
theorem dX10_move_2 : decode cX10_move 2 = .ok (.iaload, 1) := by decide +kernel
theorem dX10_move_3 : decode cX10_move 3 = .ok (.istore 4, 2) := by decide +kernel
theorem dX10_move_5 : decode cX10_move 5 = .ok (.iload_n 2, 1) := by decide +kernel
theorem dX10_move_6 : decode cX10_move 6 = .ok (.iload 4, 2) := by decide +kernel
theorem dX10_move_8 : decode cX10_move 8 = .ok (.if_icmp .eq 8, 3) := by decide +kernel
theorem dX10_move_11 : decode cX10_move 11 = .ok (.iload_n 2, 1) := by decide +kernel
theorem dX10_move_12 : decode cX10_move 12 = .ok (.iconst (-1), 1) := by decide +kernel
theorem dX10_move_13 : decode cX10_move 13 = .ok (.if_icmp .ne 4, 3) := by decide +kernel
theorem dX10_move_16 : decode cX10_move 16 = .ok (.return_, 1) := by decide +kernel
theorem dX10_move_17 : decode cX10_move 17 = .ok (.aload_n 3, 1) := by decide +kernel
theorem dX10_move_18 : decode cX10_move 18 = .ok (.iload 4, 2) := by decide +kernel
theorem dX10_move_20 : decode cX10_move 20 = .ok (.aaload, 1) := by decide +kernel
theorem dX10_move_21 : decode cX10_move 21 = .ok (.iload_n 2, 1) := by decide +kernel
theorem dX10_move_22 : decode cX10_move 22 = .ok (.iaload, 1) := by decide +kernel
theorem dX10_move_23 : decode cX10_move 23 = .ok (.aload_n 0, 1) := by decide +kernel
theorem dX10_move_24 : decode cX10_move 24 = .ok (.getfield 17, 3) := by decide +kernel
theorem dX10_move_27 : decode cX10_move 27 = .ok (.iload 4, 2) := by decide +kernel
theorem dX10_move_29 : decode cX10_move 29 = .ok (.aaload, 1) := by decide +kernel
theorem dX10_move_30 : decode cX10_move 30 = .ok (.iload_n 2, 1) := by decide +kernel
theorem dX10_move_31 : decode cX10_move 31 = .ok (.iaload, 1) := by decide +kernel
theorem dX10_move_32 : decode cX10_move 32 = .ok (.if_icmp .ge 17, 3) := by decide +kernel
theorem dX10_move_35 : decode cX10_move 35 = .ok (.aload_n 0, 1) := by decide +kernel
theorem dX10_move_36 : decode cX10_move 36 = .ok (.iload_n 2, 1) := by decide +kernel
theorem dX10_move_37 : decode cX10_move 37 = .ok (.invokevirtual 143, 3) := by decide +kernel
theorem dX10_move_40 : decode cX10_move 40 = .ok (.aload_n 0, 1) := by decide +kernel
theorem dX10_move_41 : decode cX10_move 41 = .ok (.getfield 9, 3) := by decide +kernel
theorem dX10_move_44 : decode cX10_move 44 = .ok (.iload_n 2, 1) := by decide +kernel
theorem dX10_move_45 : decode cX10_move 45 = .ok (.iaload, 1) := by decide +kernel
theorem dX10_move_46 : decode cX10_move 46 = .ok (.if_icmp .lt 12, 3) := by decide +kernel
theorem dX10_move_49 : decode cX10_move 49 = .ok (.aload_n 1, 1) := by decide +kernel
theorem dX10_move_50 : decode cX10_move 50 = .ok (.bipush 6, 2) := by decide +kernel
theorem dX10_move_52 : decode cX10_move 52 = .ok (.dup2, 1) := by decide +kernel
theorem dX10_move_53 : decode cX10_move 53 = .ok (.iaload, 1) := by decide +kernel
theorem dX10_move_54 : decode cX10_move 54 = .ok (.iconst 1, 1) := by decide +kernel
theorem dX10_move_55 : decode cX10_move 55 = .ok (.iadd, 1) := by decide +kernel
theorem dX10_move_56 : decode cX10_move 56 = .ok (.iastore, 1) := by decide +kernel
theorem dX10_move_57 : decode cX10_move 57 = .ok (.return_, 1) := by decide +kernel
theorem dX10_move_58 : decode cX10_move 58 = .ok (.aload_n 3, 1) := by decide +kernel
theorem dX10_move_59 : decode cX10_move 59 = .ok (.iload 4, 2) := by decide +kernel
theorem dX10_move_61 : decode cX10_move 61 = .ok (.aaload, 1) := by decide +kernel
theorem dX10_move_62 : decode cX10_move 62 = .ok (.iload_n 2, 1) := by decide +kernel
theorem dX10_move_63 : decode cX10_move 63 = .ok (.dup2, 1) := by decide +kernel
theorem dX10_move_64 : decode cX10_move 64 = .ok (.iaload, 1) := by decide +kernel
theorem dX10_move_65 : decode cX10_move 65 = .ok (.iconst 1, 1) := by decide +kernel
theorem dX10_move_66 : decode cX10_move 66 = .ok (.iadd, 1) := by decide +kernel
theorem dX10_move_67 : decode cX10_move 67 = .ok (.iastore, 1) := by decide +kernel
theorem dX10_move_68 : decode cX10_move 68 = .ok (.aload_n 3, 1) := by decide +kernel
theorem dX10_move_69 : decode cX10_move 69 = .ok (.iload_n 2, 1) := by decide +kernel
theorem dX10_move_70 : decode cX10_move 70 = .ok (.aaload, 1) := by decide +kernel
theorem dX10_move_71 : decode cX10_move 71 = .ok (.iload 4, 2) := by decide +kernel
theorem dX10_move_73 : decode cX10_move 73 = .ok (.dup2, 1) := by decide +kernel
theorem dX10_move_74 : decode cX10_move 74 = .ok (.iaload, 1) := by decide +kernel
theorem dX10_move_75 : decode cX10_move 75 = .ok (.iconst 1, 1) := by decide +kernel
theorem dX10_move_76 : decode cX10_move 76 = .ok (.iadd, 1) := by decide +kernel
theorem dX10_move_77 : decode cX10_move 77 = .ok (.iastore, 1) := by decide +kernel
theorem dX10_move_78 : decode cX10_move 78 = .ok (.aload_n 1, 1) := by decide +kernel
theorem dX10_move_79 : decode cX10_move 79 = .ok (.iconst 1, 1) := by decide +kernel
theorem dX10_move_80 : decode cX10_move 80 = .ok (.iload_n 2, 1) := by decide +kernel
theorem dX10_move_81 : decode cX10_move 81 = .ok (.iastore, 1) := by decide +kernel
theorem dX10_move_82 : decode cX10_move 82 = .ok (.aload_n 1, 1) := by decide +kernel
theorem dX10_move_83 : decode cX10_move 83 = .ok (.iconst 5, 1) := by decide +kernel
theorem dX10_move_84 : decode cX10_move 84 = .ok (.dup2, 1) := by decide +kernel
theorem dX10_move_85 : decode cX10_move 85 = .ok (.iaload, 1) := by decide +kernel
theorem dX10_move_86 : decode cX10_move 86 = .ok (.iconst 1, 1) := by decide +kernel
theorem dX10_move_87 : decode cX10_move 87 = .ok (.iadd, 1) := by decide +kernel
theorem dX10_move_88 : decode cX10_move 88 = .ok (.iastore, 1) := by decide +kernel
theorem dX10_move_89 : decode cX10_move 89 = .ok (.return_, 1) := by decide +kernel
theorem dX10_show_0 : decode cX10_show 0 = .ok (.aload_n 0, 1) := by decide +kernel
theorem dX10_show_1 : decode cX10_show 1 = .ok (.getfield 29, 3) := by decide +kernel
theorem dX10_show_4 : decode cX10_show 4 = .ok (.iload_n 1, 1) := by decide +kernel
theorem dX10_show_5 : decode cX10_show 5 = .ok (.aaload, 1) := by decide +kernel
theorem dX10_show_6 : decode cX10_show 6 = .ok (.astore_n 2, 1) := by decide +kernel
theorem dX10_show_7 : decode cX10_show 7 = .ok (.aload_n 0, 1) := by decide +kernel
theorem dX10_show_8 : decode cX10_show 8 = .ok (.getfield 9, 3) := by decide +kernel
theorem dX10_show_11 : decode cX10_show 11 = .ok (.aload_n 2, 1) := by decide +kernel
theorem dX10_show_12 : decode cX10_show 12 = .ok (.iconst 1, 1) := by decide +kernel
theorem dX10_show_13 : decode cX10_show 13 = .ok (.iaload, 1) := by decide +kernel
theorem dX10_show_14 : decode cX10_show 14 = .ok (.iaload, 1) := by decide +kernel
theorem dX10_show_15 : decode cX10_show 15 = .ok (.iconst 1, 1) := by decide +kernel
theorem dX10_show_16 : decode cX10_show 16 = .ok (.iadd, 1) := by decide +kernel
theorem dX10_show_17 : decode cX10_show 17 = .ok (.iconst 2, 1) := by decide +kernel
theorem dX10_show_18 : decode cX10_show 18 = .ok (.idiv, 1) := by decide +kernel
theorem dX10_show_19 : decode cX10_show 19 = .ok (.istore_n 3, 1) := by decide +kernel
theorem dX10_show_20 : decode cX10_show 20 = .ok (.iconst 0, 1) := by decide +kernel
theorem dX10_show_21 : decode cX10_show 21 = .ok (.istore 4, 2) := by decide +kernel
theorem dX10_show_23 : decode cX10_show 23 = .ok (.iload 4, 2) := by decide +kernel
theorem dX10_show_25 : decode cX10_show 25 = .ok (.aload_n 0, 1) := by decide +kernel
theorem dX10_show_26 : decode cX10_show 26 = .ok (.getfield 68, 3) := by decide +kernel
theorem dX10_show_29 : decode cX10_show 29 = .ok (.if_icmp .ge 81, 3) := by decide +kernel
theorem dX10_show_32 : decode cX10_show 32 = .ok (.iload_n 3, 1) := by decide +kernel
theorem dX10_show_33 : decode cX10_show 33 = .ok (.ifCond .le 77, 3) := by decide +kernel
theorem dX10_show_36 : decode cX10_show 36 = .ok (.aload_n 0, 1) := by decide +kernel
theorem dX10_show_37 : decode cX10_show 37 = .ok (.getfield 32, 3) := by decide +kernel
theorem dX10_show_40 : decode cX10_show 40 = .ok (.iload 4, 2) := by decide +kernel
theorem dX10_show_42 : decode cX10_show 42 = .ok (.aaload, 1) := by decide +kernel
theorem dX10_show_43 : decode cX10_show 43 = .ok (.iconst 1, 1) := by decide +kernel
theorem dX10_show_44 : decode cX10_show 44 = .ok (.iaload, 1) := by decide +kernel
theorem dX10_show_45 : decode cX10_show 45 = .ok (.aload_n 2, 1) := by decide +kernel
theorem dX10_show_46 : decode cX10_show 46 = .ok (.iconst 1, 1) := by decide +kernel
theorem dX10_show_47 : decode cX10_show 47 = .ok (.iaload, 1) := by decide +kernel
theorem dX10_show_48 : decode cX10_show 48 = .ok (.if_icmp .eq 6, 3) := by decide +kernel
theorem dX10_show_51 : decode cX10_show 51 = .ok (.goto 53, 3) := by decide +kernel
theorem dX10_show_54 : decode cX10_show 54 = .ok (.iinc 3 (-1), 3) := by decide +kernel
theorem dX10_show_57 : decode cX10_show 57 = .ok (.aload_n 0, 1) := by decide +kernel
theorem dX10_show_58 : decode cX10_show 58 = .ok (.getfield 35, 3) := by decide +kernel
theorem dX10_show_61 : decode cX10_show 61 = .ok (.iload 4, 2) := by decide +kernel
theorem dX10_show_63 : decode cX10_show 63 = .ok (.aaload, 1) := by decide +kernel
theorem dX10_show_64 : decode cX10_show 64 = .ok (.iload_n 1, 1) := by decide +kernel
theorem dX10_show_65 : decode cX10_show 65 = .ok (.dup2, 1) := by decide +kernel
theorem dX10_show_66 : decode cX10_show 66 = .ok (.iaload, 1) := by decide +kernel
theorem dX10_show_67 : decode cX10_show 67 = .ok (.iconst 1, 1) := by decide +kernel
theorem dX10_show_68 : decode cX10_show 68 = .ok (.iadd, 1) := by decide +kernel
theorem dX10_show_69 : decode cX10_show 69 = .ok (.iastore, 1) := by decide +kernel
theorem dX10_show_70 : decode cX10_show 70 = .ok (.aload_n 0, 1) := by decide +kernel
theorem dX10_show_71 : decode cX10_show 71 = .ok (.getfield 35, 3) := by decide +kernel
theorem dX10_show_74 : decode cX10_show 74 = .ok (.iload 4, 2) := by decide +kernel
theorem dX10_show_76 : decode cX10_show 76 = .ok (.aaload, 1) := by decide +kernel
theorem dX10_show_77 : decode cX10_show 77 = .ok (.iload_n 1, 1) := by decide +kernel
theorem dX10_show_78 : decode cX10_show 78 = .ok (.iaload, 1) := by decide +kernel
theorem dX10_show_79 : decode cX10_show 79 = .ok (.aload_n 2, 1) := by decide +kernel
theorem dX10_show_80 : decode cX10_show 80 = .ok (.iconst 2, 1) := by decide +kernel
theorem dX10_show_81 : decode cX10_show 81 = .ok (.iaload, 1) := by decide +kernel
theorem dX10_show_82 : decode cX10_show 82 = .ok (.iconst 1, 1) := by decide +kernel
theorem dX10_show_83 : decode cX10_show 83 = .ok (.iadd, 1) := by decide +kernel
theorem dX10_show_84 : decode cX10_show 84 = .ok (.iconst 2, 1) := by decide +kernel
theorem dX10_show_85 : decode cX10_show 85 = .ok (.idiv, 1) := by decide +kernel
theorem dX10_show_86 : decode cX10_show 86 = .ok (.if_icmp .lt 18, 3) := by decide +kernel
theorem dX10_show_89 : decode cX10_show 89 = .ok (.aload_n 0, 1) := by decide +kernel
theorem dX10_show_90 : decode cX10_show 90 = .ok (.getfield 32, 3) := by decide +kernel
theorem dX10_show_93 : decode cX10_show 93 = .ok (.iload 4, 2) := by decide +kernel
theorem dX10_show_95 : decode cX10_show 95 = .ok (.aaload, 1) := by decide +kernel
theorem dX10_show_96 : decode cX10_show 96 = .ok (.iconst 4, 1) := by decide +kernel
theorem dX10_show_97 : decode cX10_show 97 = .ok (.dup2, 1) := by decide +kernel
theorem dX10_show_98 : decode cX10_show 98 = .ok (.iaload, 1) := by decide +kernel
theorem dX10_show_99 : decode cX10_show 99 = .ok (.iconst 1, 1) := by decide +kernel
theorem dX10_show_100 : decode cX10_show 100 = .ok (.iload_n 1, 1) := by decide +kernel
theorem dX10_show_101 : decode cX10_show 101 = .ok (.ishl, 1) := by decide +kernel
theorem dX10_show_102 : decode cX10_show 102 = .ok (.ior, 1) := by decide +kernel
theorem dX10_show_103 : decode cX10_show 103 = .ok (.iastore, 1) := by decide +kernel
theorem dX10_show_104 : decode cX10_show 104 = .ok (.iinc 4 1, 3) := by decide +kernel
theorem dX10_show_107 : decode cX10_show 107 = .ok (.goto (-84), 3) := by decide +kernel
theorem dX10_show_110 : decode cX10_show 110 = .ok (.return_, 1) := by decide +kernel
theorem dX10_sum_0 : decode cX10_sum 0 = .ok (.iconst 0, 1) := by decide +kernel
theorem dX10_sum_1 : decode cX10_sum 1 = .ok (.istore 4, 2) := by decide +kernel
theorem dX10_sum_3 : decode cX10_sum 3 = .ok (.iconst 0, 1) := by decide +kernel
theorem dX10_sum_4 : decode cX10_sum 4 = .ok (.istore 5, 2) := by decide +kernel
theorem dX10_sum_6 : decode cX10_sum 6 = .ok (.iload 5, 2) := by decide +kernel
theorem dX10_sum_8 : decode cX10_sum 8 = .ok (.iload_n 2, 1) := by decide +kernel
theorem dX10_sum_9 : decode cX10_sum 9 = .ok (.if_icmp .ge 20, 3) := by decide +kernel
theorem dX10_sum_12 : decode cX10_sum 12 = .ok (.iload 4, 2) := by decide +kernel
theorem dX10_sum_14 : decode cX10_sum 14 = .ok (.aload_n 1, 1) := by decide +kernel
theorem dX10_sum_15 : decode cX10_sum 15 = .ok (.iload 5, 2) := by decide +kernel
theorem dX10_sum_17 : decode cX10_sum 17 = .ok (.aaload, 1) := by decide +kernel
theorem dX10_sum_18 : decode cX10_sum 18 = .ok (.iload_n 3, 1) := by decide +kernel
theorem dX10_sum_19 : decode cX10_sum 19 = .ok (.iaload, 1) := by decide +kernel
theorem dX10_sum_20 : decode cX10_sum 20 = .ok (.iadd, 1) := by decide +kernel
theorem dX10_sum_21 : decode cX10_sum 21 = .ok (.istore 4, 2) := by decide +kernel
theorem dX10_sum_23 : decode cX10_sum 23 = .ok (.iinc 5 1, 3) := by decide +kernel
theorem dX10_sum_26 : decode cX10_sum 26 = .ok (.goto (-20), 3) := by decide +kernel
theorem dX10_sum_29 : decode cX10_sum 29 = .ok (.iload 4, 2) := by decide +kernel
theorem dX10_sum_31 : decode cX10_sum 31 = .ok (.ireturn, 1) := by decide +kernel
theorem dX10_known_0 : decode cX10_known 0 = .ok (.iconst 0, 1) := by decide +kernel
theorem dX10_known_1 : decode cX10_known 1 = .ok (.istore_n 2, 1) := by decide +kernel
theorem dX10_known_2 : decode cX10_known 2 = .ok (.iconst 0, 1) := by decide +kernel
theorem dX10_known_3 : decode cX10_known 3 = .ok (.istore_n 3, 1) := by decide +kernel
theorem dX10_known_4 : decode cX10_known 4 = .ok (.iload_n 3, 1) := by decide +kernel
theorem dX10_known_5 : decode cX10_known 5 = .ok (.aload_n 0, 1) := by decide +kernel
theorem dX10_known_6 : decode cX10_known 6 = .ok (.getfield 68, 3) := by decide +kernel
theorem dX10_known_9 : decode cX10_known 9 = .ok (.if_icmp .ge 32, 3) := by decide +kernel
theorem dX10_known_12 : decode cX10_known 12 = .ok (.iload_n 2, 1) := by decide +kernel
theorem dX10_known_13 : decode cX10_known 13 = .ok (.aload_n 0, 1) := by decide +kernel
theorem dX10_known_14 : decode cX10_known 14 = .ok (.getfield 32, 3) := by decide +kernel
theorem dX10_known_17 : decode cX10_known 17 = .ok (.iload_n 3, 1) := by decide +kernel
theorem dX10_known_18 : decode cX10_known 18 = .ok (.aaload, 1) := by decide +kernel
theorem dX10_known_19 : decode cX10_known 19 = .ok (.iconst 4, 1) := by decide +kernel
theorem dX10_known_20 : decode cX10_known 20 = .ok (.iaload, 1) := by decide +kernel
theorem dX10_known_21 : decode cX10_known 21 = .ok (.iload_n 1, 1) := by decide +kernel
theorem dX10_known_22 : decode cX10_known 22 = .ok (.invokestatic 80, 3) := by decide +kernel
theorem dX10_known_25 : decode cX10_known 25 = .ok (.ifCond .eq 7, 3) := by decide +kernel
theorem dX10_known_28 : decode cX10_known 28 = .ok (.iconst 1, 1) := by decide +kernel
theorem dX10_known_29 : decode cX10_known 29 = .ok (.goto 4, 3) := by decide +kernel
theorem dX10_known_32 : decode cX10_known 32 = .ok (.iconst 0, 1) := by decide +kernel
theorem dX10_known_33 : decode cX10_known 33 = .ok (.iadd, 1) := by decide +kernel
theorem dX10_known_34 : decode cX10_known 34 = .ok (.istore_n 2, 1) := by decide +kernel
theorem dX10_known_35 : decode cX10_known 35 = .ok (.iinc 3 1, 3) := by decide +kernel
theorem dX10_known_38 : decode cX10_known 38 = .ok (.goto (-34), 3) := by decide +kernel
theorem dX10_known_41 : decode cX10_known 41 = .ok (.iload_n 2, 1) := by decide +kernel
theorem dX10_known_42 : decode cX10_known 42 = .ok (.ireturn, 1) := by decide +kernel
theorem dX10_overlap_0 : decode cX10_overlap 0 = .ok (.aload_n 0, 1) := by decide +kernel
theorem dX10_overlap_1 : decode cX10_overlap 1 = .ok (.getfield 29, 3) := by decide +kernel
theorem dX10_overlap_4 : decode cX10_overlap 4 = .ok (.iload_n 1, 1) := by decide +kernel
theorem dX10_overlap_5 : decode cX10_overlap 5 = .ok (.aaload, 1) := by decide +kernel
theorem dX10_overlap_6 : decode cX10_overlap 6 = .ok (.iconst 0, 1) := by decide +kernel
theorem dX10_overlap_7 : decode cX10_overlap 7 = .ok (.iaload, 1) := by decide +kernel
theorem dX10_overlap_8 : decode cX10_overlap 8 = .ok (.aload_n 0, 1) := by decide +kernel
theorem dX10_overlap_9 : decode cX10_overlap 9 = .ok (.getfield 29, 3) := by decide +kernel
theorem dX10_overlap_12 : decode cX10_overlap 12 = .ok (.iload_n 2, 1) := by decide +kernel
theorem dX10_overlap_13 : decode cX10_overlap 13 = .ok (.aaload, 1) := by decide +kernel
theorem dX10_overlap_14 : decode cX10_overlap 14 = .ok (.iconst 0, 1) := by decide +kernel
theorem dX10_overlap_15 : decode cX10_overlap 15 = .ok (.iaload, 1) := by decide +kernel
theorem dX10_overlap_16 : decode cX10_overlap 16 = .ok (.aload_n 0, 1) := by decide +kernel
theorem dX10_overlap_17 : decode cX10_overlap 17 = .ok (.getfield 29, 3) := by decide +kernel
theorem dX10_overlap_20 : decode cX10_overlap 20 = .ok (.iload_n 2, 1) := by decide +kernel
theorem dX10_overlap_21 : decode cX10_overlap 21 = .ok (.aaload, 1) := by decide +kernel
theorem dX10_overlap_22 : decode cX10_overlap 22 = .ok (.iconst 2, 1) := by decide +kernel
theorem dX10_overlap_23 : decode cX10_overlap 23 = .ok (.iaload, 1) := by decide +kernel
theorem dX10_overlap_24 : decode cX10_overlap 24 = .ok (.iadd, 1) := by decide +kernel
theorem dX10_overlap_25 : decode cX10_overlap 25 = .ok (.if_icmp .ge 35, 3) := by decide +kernel
theorem dX10_overlap_28 : decode cX10_overlap 28 = .ok (.aload_n 0, 1) := by decide +kernel
theorem dX10_overlap_29 : decode cX10_overlap 29 = .ok (.getfield 29, 3) := by decide +kernel
theorem dX10_overlap_32 : decode cX10_overlap 32 = .ok (.iload_n 2, 1) := by decide +kernel
theorem dX10_overlap_33 : decode cX10_overlap 33 = .ok (.aaload, 1) := by decide +kernel
theorem dX10_overlap_34 : decode cX10_overlap 34 = .ok (.iconst 0, 1) := by decide +kernel
theorem dX10_overlap_35 : decode cX10_overlap 35 = .ok (.iaload, 1) := by decide +kernel
theorem dX10_overlap_36 : decode cX10_overlap 36 = .ok (.aload_n 0, 1) := by decide +kernel
theorem dX10_overlap_37 : decode cX10_overlap 37 = .ok (.getfield 29, 3) := by decide +kernel
theorem dX10_overlap_40 : decode cX10_overlap 40 = .ok (.iload_n 1, 1) := by decide +kernel
theorem dX10_overlap_41 : decode cX10_overlap 41 = .ok (.aaload, 1) := by decide +kernel
theorem dX10_overlap_42 : decode cX10_overlap 42 = .ok (.iconst 0, 1) := by decide +kernel
theorem dX10_overlap_43 : decode cX10_overlap 43 = .ok (.iaload, 1) := by decide +kernel
theorem dX10_overlap_44 : decode cX10_overlap 44 = .ok (.aload_n 0, 1) := by decide +kernel
theorem dX10_overlap_45 : decode cX10_overlap 45 = .ok (.getfield 29, 3) := by decide +kernel
theorem dX10_overlap_48 : decode cX10_overlap 48 = .ok (.iload_n 1, 1) := by decide +kernel
theorem dX10_overlap_49 : decode cX10_overlap 49 = .ok (.aaload, 1) := by decide +kernel
theorem dX10_overlap_50 : decode cX10_overlap 50 = .ok (.iconst 2, 1) := by decide +kernel
theorem dX10_overlap_51 : decode cX10_overlap 51 = .ok (.iaload, 1) := by decide +kernel
theorem dX10_overlap_52 : decode cX10_overlap 52 = .ok (.iadd, 1) := by decide +kernel
theorem dX10_overlap_53 : decode cX10_overlap 53 = .ok (.if_icmp .ge 7, 3) := by decide +kernel
theorem dX10_overlap_56 : decode cX10_overlap 56 = .ok (.iconst 1, 1) := by decide +kernel
theorem dX10_overlap_57 : decode cX10_overlap 57 = .ok (.goto 4, 3) := by decide +kernel
theorem dX10_overlap_60 : decode cX10_overlap 60 = .ok (.iconst 0, 1) := by decide +kernel
theorem dX10_overlap_61 : decode cX10_overlap 61 = .ok (.ireturn, 1) := by decide +kernel
theorem dX10_isOverlapped_0 : decode cX10_isOverlapped 0 = .ok (.iconst 0, 1) := by decide +kernel
theorem dX10_isOverlapped_1 : decode cX10_isOverlapped 1 = .ok (.istore_n 3, 1) := by decide +kernel
theorem dX10_isOverlapped_2 : decode cX10_isOverlapped 2 = .ok (.iload_n 3, 1) := by decide +kernel
theorem dX10_isOverlapped_3 : decode cX10_isOverlapped 3 = .ok (.aload_n 0, 1) := by decide +kernel
theorem dX10_isOverlapped_4 : decode cX10_isOverlapped 4 = .ok (.getfield 65, 3) := by decide +kernel
theorem dX10_isOverlapped_7 : decode cX10_isOverlapped 7 = .ok (.if_icmp .ge 33, 3) := by decide +kernel
theorem dX10_isOverlapped_10 : decode cX10_isOverlapped 10 = .ok (.aload_n 0, 1) := by decide +kernel
theorem dX10_isOverlapped_11 : decode cX10_isOverlapped 11 = .ok (.getfield 29, 3) := by decide +kernel
theorem dX10_isOverlapped_14 : decode cX10_isOverlapped 14 = .ok (.iload_n 3, 1) := by decide +kernel
theorem dX10_isOverlapped_15 : decode cX10_isOverlapped 15 = .ok (.aaload, 1) := by decide +kernel
theorem dX10_isOverlapped_16 : decode cX10_isOverlapped 16 = .ok (.iconst 3, 1) := by decide +kernel
theorem dX10_isOverlapped_17 : decode cX10_isOverlapped 17 = .ok (.iaload, 1) := by decide +kernel
theorem dX10_isOverlapped_18 : decode cX10_isOverlapped 18 = .ok (.iload_n 2, 1) := by decide +kernel
theorem dX10_isOverlapped_19 : decode cX10_isOverlapped 19 = .ok (.iand, 1) := by decide +kernel
theorem dX10_isOverlapped_20 : decode cX10_isOverlapped 20 = .ok (.ifCond .eq 14, 3) := by decide +kernel
theorem dX10_isOverlapped_23 : decode cX10_isOverlapped 23 = .ok (.aload_n 0, 1) := by decide +kernel
theorem dX10_isOverlapped_24 : decode cX10_isOverlapped 24 = .ok (.iload_n 3, 1) := by decide +kernel
theorem dX10_isOverlapped_25 : decode cX10_isOverlapped 25 = .ok (.iload_n 1, 1) := by decide +kernel
theorem dX10_isOverlapped_26 : decode cX10_isOverlapped 26 = .ok (.invokevirtual 146, 3) := by decide +kernel
theorem dX10_isOverlapped_29 : decode cX10_isOverlapped 29 = .ok (.ifCond .eq 5, 3) := by decide +kernel
theorem dX10_isOverlapped_32 : decode cX10_isOverlapped 32 = .ok (.iconst 1, 1) := by decide +kernel
theorem dX10_isOverlapped_33 : decode cX10_isOverlapped 33 = .ok (.ireturn, 1) := by decide +kernel
theorem dX10_isOverlapped_34 : decode cX10_isOverlapped 34 = .ok (.iinc 3 1, 3) := by decide +kernel
theorem dX10_isOverlapped_37 : decode cX10_isOverlapped 37 = .ok (.goto (-35), 3) := by decide +kernel
theorem dX10_isOverlapped_40 : decode cX10_isOverlapped 40 = .ok (.iconst 0, 1) := by decide +kernel
theorem dX10_isOverlapped_41 : decode cX10_isOverlapped 41 = .ok (.ireturn, 1) := by decide +kernel
theorem dX10_canPlay_0 : decode cX10_canPlay 0 = .ok (.iload_n 1, 1) := by decide +kernel
theorem dX10_canPlay_1 : decode cX10_canPlay 1 = .ok (.iload_n 2, 1) := by decide +kernel
theorem dX10_canPlay_2 : decode cX10_canPlay 2 = .ok (.if_icmp .eq 63, 3) := by decide +kernel
theorem dX10_canPlay_5 : decode cX10_canPlay 5 = .ok (.aload_n 0, 1) := by decide +kernel
theorem dX10_canPlay_6 : decode cX10_canPlay 6 = .ok (.getfield 23, 3) := by decide +kernel
theorem dX10_canPlay_9 : decode cX10_canPlay 9 = .ok (.iload_n 1, 1) := by decide +kernel
theorem dX10_canPlay_10 : decode cX10_canPlay 10 = .ok (.aaload, 1) := by decide +kernel
theorem dX10_canPlay_11 : decode cX10_canPlay 11 = .ok (.iconst 2, 1) := by decide +kernel
theorem dX10_canPlay_12 : decode cX10_canPlay 12 = .ok (.iaload, 1) := by decide +kernel
theorem dX10_canPlay_13 : decode cX10_canPlay 13 = .ok (.iconst (-1), 1) := by decide +kernel
theorem dX10_canPlay_14 : decode cX10_canPlay 14 = .ok (.if_icmp .ne 51, 3) := by decide +kernel
theorem dX10_canPlay_17 : decode cX10_canPlay 17 = .ok (.aload_n 0, 1) := by decide +kernel
theorem dX10_canPlay_18 : decode cX10_canPlay 18 = .ok (.getfield 23, 3) := by decide +kernel
theorem dX10_canPlay_21 : decode cX10_canPlay 21 = .ok (.iload_n 2, 1) := by decide +kernel
theorem dX10_canPlay_22 : decode cX10_canPlay 22 = .ok (.aaload, 1) := by decide +kernel
theorem dX10_canPlay_23 : decode cX10_canPlay 23 = .ok (.iconst 2, 1) := by decide +kernel
theorem dX10_canPlay_24 : decode cX10_canPlay 24 = .ok (.iaload, 1) := by decide +kernel
theorem dX10_canPlay_25 : decode cX10_canPlay 25 = .ok (.iconst (-1), 1) := by decide +kernel
theorem dX10_canPlay_26 : decode cX10_canPlay 26 = .ok (.if_icmp .ne 39, 3) := by decide +kernel
theorem dX10_canPlay_29 : decode cX10_canPlay 29 = .ok (.aload_n 0, 1) := by decide +kernel
theorem dX10_canPlay_30 : decode cX10_canPlay 30 = .ok (.iload_n 1, 1) := by decide +kernel
theorem dX10_canPlay_31 : decode cX10_canPlay 31 = .ok (.invokevirtual 84, 3) := by decide +kernel
theorem dX10_canPlay_34 : decode cX10_canPlay 34 = .ok (.iconst (-1), 1) := by decide +kernel
theorem dX10_canPlay_35 : decode cX10_canPlay 35 = .ok (.if_icmp .ne 30, 3) := by decide +kernel
theorem dX10_canPlay_38 : decode cX10_canPlay 38 = .ok (.aload_n 0, 1) := by decide +kernel
theorem dX10_canPlay_39 : decode cX10_canPlay 39 = .ok (.iload_n 2, 1) := by decide +kernel
theorem dX10_canPlay_40 : decode cX10_canPlay 40 = .ok (.invokevirtual 84, 3) := by decide +kernel
theorem dX10_canPlay_43 : decode cX10_canPlay 43 = .ok (.iconst (-1), 1) := by decide +kernel
theorem dX10_canPlay_44 : decode cX10_canPlay 44 = .ok (.if_icmp .ne 21, 3) := by decide +kernel
theorem dX10_canPlay_47 : decode cX10_canPlay 47 = .ok (.aload_n 0, 1) := by decide +kernel
theorem dX10_canPlay_48 : decode cX10_canPlay 48 = .ok (.iload_n 1, 1) := by decide +kernel
theorem dX10_canPlay_49 : decode cX10_canPlay 49 = .ok (.invokevirtual 88, 3) := by decide +kernel
theorem dX10_canPlay_52 : decode cX10_canPlay 52 = .ok (.iconst (-1), 1) := by decide +kernel
theorem dX10_canPlay_53 : decode cX10_canPlay 53 = .ok (.if_icmp .ne 12, 3) := by decide +kernel
theorem dX10_canPlay_56 : decode cX10_canPlay 56 = .ok (.aload_n 0, 1) := by decide +kernel
theorem dX10_canPlay_57 : decode cX10_canPlay 57 = .ok (.iload_n 2, 1) := by decide +kernel
theorem dX10_canPlay_58 : decode cX10_canPlay 58 = .ok (.invokevirtual 88, 3) := by decide +kernel
theorem dX10_canPlay_61 : decode cX10_canPlay 61 = .ok (.iconst (-1), 1) := by decide +kernel
theorem dX10_canPlay_62 : decode cX10_canPlay 62 = .ok (.if_icmp .eq 5, 3) := by decide +kernel
theorem dX10_canPlay_65 : decode cX10_canPlay 65 = .ok (.iconst 0, 1) := by decide +kernel
theorem dX10_canPlay_66 : decode cX10_canPlay 66 = .ok (.ireturn, 1) := by decide +kernel
theorem dX10_canPlay_67 : decode cX10_canPlay 67 = .ok (.iconst 0, 1) := by decide +kernel
theorem dX10_canPlay_68 : decode cX10_canPlay 68 = .ok (.istore_n 3, 1) := by decide +kernel
theorem dX10_canPlay_69 : decode cX10_canPlay 69 = .ok (.iload_n 3, 1) := by decide +kernel
theorem dX10_canPlay_70 : decode cX10_canPlay 70 = .ok (.aload_n 0, 1) := by decide +kernel
theorem dX10_canPlay_71 : decode cX10_canPlay 71 = .ok (.getfield 65, 3) := by decide +kernel
theorem dX10_canPlay_74 : decode cX10_canPlay 74 = .ok (.if_icmp .ge 52, 3) := by decide +kernel
theorem dX10_canPlay_77 : decode cX10_canPlay 77 = .ok (.aload_n 0, 1) := by decide +kernel
theorem dX10_canPlay_78 : decode cX10_canPlay 78 = .ok (.getfield 29, 3) := by decide +kernel
theorem dX10_canPlay_81 : decode cX10_canPlay 81 = .ok (.iload_n 3, 1) := by decide +kernel
theorem dX10_canPlay_82 : decode cX10_canPlay 82 = .ok (.aaload, 1) := by decide +kernel
theorem dX10_canPlay_83 : decode cX10_canPlay 83 = .ok (.iconst 3, 1) := by decide +kernel
theorem dX10_canPlay_84 : decode cX10_canPlay 84 = .ok (.iaload, 1) := by decide +kernel
theorem dX10_canPlay_85 : decode cX10_canPlay 85 = .ok (.iload_n 1, 1) := by decide +kernel
theorem dX10_canPlay_86 : decode cX10_canPlay 86 = .ok (.invokestatic 80, 3) := by decide +kernel
theorem dX10_canPlay_89 : decode cX10_canPlay 89 = .ok (.ifCond .eq 31, 3) := by decide +kernel
theorem dX10_canPlay_92 : decode cX10_canPlay 92 = .ok (.aload_n 0, 1) := by decide +kernel
theorem dX10_canPlay_93 : decode cX10_canPlay 93 = .ok (.getfield 29, 3) := by decide +kernel
theorem dX10_canPlay_96 : decode cX10_canPlay 96 = .ok (.iload_n 3, 1) := by decide +kernel
theorem dX10_canPlay_97 : decode cX10_canPlay 97 = .ok (.aaload, 1) := by decide +kernel
theorem dX10_canPlay_98 : decode cX10_canPlay 98 = .ok (.iconst 3, 1) := by decide +kernel
theorem dX10_canPlay_99 : decode cX10_canPlay 99 = .ok (.iaload, 1) := by decide +kernel
theorem dX10_canPlay_100 : decode cX10_canPlay 100 = .ok (.iload_n 2, 1) := by decide +kernel
theorem dX10_canPlay_101 : decode cX10_canPlay 101 = .ok (.invokestatic 80, 3) := by decide +kernel
theorem dX10_canPlay_104 : decode cX10_canPlay 104 = .ok (.ifCond .ne 14, 3) := by decide +kernel
theorem dX10_canPlay_107 : decode cX10_canPlay 107 = .ok (.aload_n 0, 1) := by decide +kernel
theorem dX10_canPlay_108 : decode cX10_canPlay 108 = .ok (.iload_n 3, 1) := by decide +kernel
theorem dX10_canPlay_109 : decode cX10_canPlay 109 = .ok (.iconst 1, 1) := by decide +kernel
theorem dX10_canPlay_110 : decode cX10_canPlay 110 = .ok (.iload_n 2, 1) := by decide +kernel
theorem dX10_canPlay_111 : decode cX10_canPlay 111 = .ok (.ishl, 1) := by decide +kernel
theorem dX10_canPlay_112 : decode cX10_canPlay 112 = .ok (.invokevirtual 149, 3) := by decide +kernel
theorem dX10_canPlay_115 : decode cX10_canPlay 115 = .ok (.ifCond .eq 5, 3) := by decide +kernel
theorem dX10_canPlay_118 : decode cX10_canPlay 118 = .ok (.iconst 0, 1) := by decide +kernel
theorem dX10_canPlay_119 : decode cX10_canPlay 119 = .ok (.ireturn, 1) := by decide +kernel
theorem dX10_canPlay_120 : decode cX10_canPlay 120 = .ok (.iinc 3 1, 3) := by decide +kernel
theorem dX10_canPlay_123 : decode cX10_canPlay 123 = .ok (.goto (-54), 3) := by decide +kernel
theorem dX10_canPlay_126 : decode cX10_canPlay 126 = .ok (.iconst 1, 1) := by decide +kernel
theorem dX10_canPlay_127 : decode cX10_canPlay 127 = .ok (.ireturn, 1) := by decide +kernel
theorem dX10_scenesOf_0 : decode cX10_scenesOf 0 = .ok (.iconst 0, 1) := by decide +kernel
theorem dX10_scenesOf_1 : decode cX10_scenesOf 1 = .ok (.istore_n 2, 1) := by decide +kernel
theorem dX10_scenesOf_2 : decode cX10_scenesOf 2 = .ok (.iconst 0, 1) := by decide +kernel
theorem dX10_scenesOf_3 : decode cX10_scenesOf 3 = .ok (.istore_n 3, 1) := by decide +kernel
theorem dX10_scenesOf_4 : decode cX10_scenesOf 4 = .ok (.iload_n 3, 1) := by decide +kernel
theorem dX10_scenesOf_5 : decode cX10_scenesOf 5 = .ok (.aload_n 0, 1) := by decide +kernel
theorem dX10_scenesOf_6 : decode cX10_scenesOf 6 = .ok (.getfield 65, 3) := by decide +kernel
theorem dX10_scenesOf_9 : decode cX10_scenesOf 9 = .ok (.if_icmp .ge 32, 3) := by decide +kernel
theorem dX10_scenesOf_12 : decode cX10_scenesOf 12 = .ok (.iload_n 2, 1) := by decide +kernel
theorem dX10_scenesOf_13 : decode cX10_scenesOf 13 = .ok (.aload_n 0, 1) := by decide +kernel
theorem dX10_scenesOf_14 : decode cX10_scenesOf 14 = .ok (.getfield 29, 3) := by decide +kernel
theorem dX10_scenesOf_17 : decode cX10_scenesOf 17 = .ok (.iload_n 3, 1) := by decide +kernel
theorem dX10_scenesOf_18 : decode cX10_scenesOf 18 = .ok (.aaload, 1) := by decide +kernel
theorem dX10_scenesOf_19 : decode cX10_scenesOf 19 = .ok (.iconst 3, 1) := by decide +kernel
theorem dX10_scenesOf_20 : decode cX10_scenesOf 20 = .ok (.iaload, 1) := by decide +kernel
theorem dX10_scenesOf_21 : decode cX10_scenesOf 21 = .ok (.iload_n 1, 1) := by decide +kernel
theorem dX10_scenesOf_22 : decode cX10_scenesOf 22 = .ok (.invokestatic 80, 3) := by decide +kernel
theorem dX10_scenesOf_25 : decode cX10_scenesOf 25 = .ok (.ifCond .eq 7, 3) := by decide +kernel
theorem dX10_scenesOf_28 : decode cX10_scenesOf 28 = .ok (.iconst 1, 1) := by decide +kernel
theorem dX10_scenesOf_29 : decode cX10_scenesOf 29 = .ok (.goto 4, 3) := by decide +kernel
theorem dX10_scenesOf_32 : decode cX10_scenesOf 32 = .ok (.iconst 0, 1) := by decide +kernel
theorem dX10_scenesOf_33 : decode cX10_scenesOf 33 = .ok (.iadd, 1) := by decide +kernel
theorem dX10_scenesOf_34 : decode cX10_scenesOf 34 = .ok (.istore_n 2, 1) := by decide +kernel
theorem dX10_scenesOf_35 : decode cX10_scenesOf 35 = .ok (.iinc 3 1, 3) := by decide +kernel
theorem dX10_scenesOf_38 : decode cX10_scenesOf 38 = .ok (.goto (-34), 3) := by decide +kernel
theorem dX10_scenesOf_41 : decode cX10_scenesOf 41 = .ok (.iload_n 2, 1) := by decide +kernel
theorem dX10_scenesOf_42 : decode cX10_scenesOf 42 = .ok (.ireturn, 1) := by decide +kernel
theorem dX11_init_0 : decode cX11_init 0 = .ok (.aload_n 0, 1) := by decide +kernel
theorem dX11_init_1 : decode cX11_init 1 = .ok (.invokespecial 1, 3) := by decide +kernel
theorem dX11_init_4 : decode cX11_init 4 = .ok (.aload_n 0, 1) := by decide +kernel
theorem dX11_init_5 : decode cX11_init 5 = .ok (.new 7, 3) := by decide +kernel
theorem dX11_init_8 : decode cX11_init 8 = .ok (.dup, 1) := by decide +kernel
theorem dX11_init_9 : decode cX11_init 9 = .ok (.invokespecial 9, 3) := by decide +kernel
theorem dX11_init_12 : decode cX11_init 12 = .ok (.putfield 10, 3) := by decide +kernel
theorem dX11_init_15 : decode cX11_init 15 = .ok (.return_, 1) := by decide +kernel
theorem dX11_thrown_0 : decode cX11_thrown 0 = .ok (.aload_n 0, 1) := by decide +kernel
theorem dX11_thrown_1 : decode cX11_thrown 1 = .ok (.getfield 16, 3) := by decide +kernel
theorem dX11_thrown_4 : decode cX11_thrown 4 = .ok (.ireturn, 1) := by decide +kernel
theorem dX11_no_0 : decode cX11_no 0 = .ok (.aload_n 0, 1) := by decide +kernel
theorem dX11_no_1 : decode cX11_no 1 = .ok (.iload_n 1, 1) := by decide +kernel
theorem dX11_no_2 : decode cX11_no 2 = .ok (.putfield 16, 3) := by decide +kernel
theorem dX11_no_5 : decode cX11_no 5 = .ok (.iconst 0, 1) := by decide +kernel
theorem dX11_no_6 : decode cX11_no 6 = .ok (.ireturn, 1) := by decide +kernel
theorem dX11_in_0 : decode cX11_in 0 = .ok (.iload_n 0, 1) := by decide +kernel
theorem dX11_in_1 : decode cX11_in 1 = .ok (.iload_n 1, 1) := by decide +kernel
theorem dX11_in_2 : decode cX11_in 2 = .ok (.if_icmp .lt 12, 3) := by decide +kernel
theorem dX11_in_5 : decode cX11_in 5 = .ok (.iload_n 0, 1) := by decide +kernel
theorem dX11_in_6 : decode cX11_in 6 = .ok (.iload_n 2, 1) := by decide +kernel
theorem dX11_in_7 : decode cX11_in 7 = .ok (.if_icmp .gt 7, 3) := by decide +kernel
theorem dX11_in_10 : decode cX11_in 10 = .ok (.iconst 1, 1) := by decide +kernel
theorem dX11_in_11 : decode cX11_in 11 = .ok (.goto 4, 3) := by decide +kernel
theorem dX11_in_14 : decode cX11_in 14 = .ok (.iconst 0, 1) := by decide +kernel
theorem dX11_in_15 : decode cX11_in 15 = .ok (.ireturn, 1) := by decide +kernel
theorem dX11_has_0 : decode cX11_has 0 = .ok (.iload_n 0, 1) := by decide +kernel
theorem dX11_has_1 : decode cX11_has 1 = .ok (.iload_n 1, 1) := by decide +kernel
theorem dX11_has_2 : decode cX11_has 2 = .ok (.ishr, 1) := by decide +kernel
theorem dX11_has_3 : decode cX11_has 3 = .ok (.iconst 1, 1) := by decide +kernel
theorem dX11_has_4 : decode cX11_has 4 = .ok (.iand, 1) := by decide +kernel
theorem dX11_has_5 : decode cX11_has 5 = .ok (.iconst 1, 1) := by decide +kernel
theorem dX11_has_6 : decode cX11_has 6 = .ok (.if_icmp .ne 7, 3) := by decide +kernel
theorem dX11_has_9 : decode cX11_has 9 = .ok (.iconst 1, 1) := by decide +kernel
theorem dX11_has_10 : decode cX11_has 10 = .ok (.goto 4, 3) := by decide +kernel
theorem dX11_has_13 : decode cX11_has 13 = .ok (.iconst 0, 1) := by decide +kernel
theorem dX11_has_14 : decode cX11_has 14 = .ok (.ireturn, 1) := by decide +kernel
theorem dX11_size_0 : decode cX11_size 0 = .ok (.iconst 0, 1) := by decide +kernel
theorem dX11_size_1 : decode cX11_size 1 = .ok (.istore_n 1, 1) := by decide +kernel
theorem dX11_size_2 : decode cX11_size 2 = .ok (.iconst 0, 1) := by decide +kernel
theorem dX11_size_3 : decode cX11_size 3 = .ok (.istore_n 2, 1) := by decide +kernel
theorem dX11_size_4 : decode cX11_size 4 = .ok (.iload_n 2, 1) := by decide +kernel
theorem dX11_size_5 : decode cX11_size 5 = .ok (.bipush 12, 2) := by decide +kernel
theorem dX11_size_7 : decode cX11_size 7 = .ok (.if_icmp .ge 17, 3) := by decide +kernel
theorem dX11_size_10 : decode cX11_size 10 = .ok (.iload_n 1, 1) := by decide +kernel
theorem dX11_size_11 : decode cX11_size 11 = .ok (.iload_n 0, 1) := by decide +kernel
theorem dX11_size_12 : decode cX11_size 12 = .ok (.iload_n 2, 1) := by decide +kernel
theorem dX11_size_13 : decode cX11_size 13 = .ok (.ishr, 1) := by decide +kernel
theorem dX11_size_14 : decode cX11_size 14 = .ok (.iconst 1, 1) := by decide +kernel
theorem dX11_size_15 : decode cX11_size 15 = .ok (.iand, 1) := by decide +kernel
theorem dX11_size_16 : decode cX11_size 16 = .ok (.iadd, 1) := by decide +kernel
theorem dX11_size_17 : decode cX11_size 17 = .ok (.istore_n 1, 1) := by decide +kernel
theorem dX11_size_18 : decode cX11_size 18 = .ok (.iinc 2 1, 3) := by decide +kernel
theorem dX11_size_21 : decode cX11_size 21 = .ok (.goto (-17), 3) := by decide +kernel
theorem dX11_size_24 : decode cX11_size 24 = .ok (.iload_n 1, 1) := by decide +kernel
theorem dX11_size_25 : decode cX11_size 25 = .ok (.ireturn, 1) := by decide +kernel
theorem dX11_isRoom_0 : decode cX11_isRoom 0 = .ok (.iload_n 1, 1) := by decide +kernel
theorem dX11_isRoom_1 : decode cX11_isRoom 1 = .ok (.iconst 0, 1) := by decide +kernel
theorem dX11_isRoom_2 : decode cX11_isRoom 2 = .ok (.aload_n 0, 1) := by decide +kernel
theorem dX11_isRoom_3 : decode cX11_isRoom 3 = .ok (.getfield 10, 3) := by decide +kernel
theorem dX11_isRoom_6 : decode cX11_isRoom 6 = .ok (.getfield 20, 3) := by decide +kernel
theorem dX11_isRoom_9 : decode cX11_isRoom 9 = .ok (.iconst 1, 1) := by decide +kernel
theorem dX11_isRoom_10 : decode cX11_isRoom 10 = .ok (.isub, 1) := by decide +kernel
theorem dX11_isRoom_11 : decode cX11_isRoom 11 = .ok (.invokestatic 23, 3) := by decide +kernel
theorem dX11_isRoom_14 : decode cX11_isRoom 14 = .ok (.ireturn, 1) := by decide +kernel
theorem dX11_isTrack_0 : decode cX11_isTrack 0 = .ok (.iload_n 1, 1) := by decide +kernel
theorem dX11_isTrack_1 : decode cX11_isTrack 1 = .ok (.iconst 0, 1) := by decide +kernel
theorem dX11_isTrack_2 : decode cX11_isTrack 2 = .ok (.aload_n 0, 1) := by decide +kernel
theorem dX11_isTrack_3 : decode cX11_isTrack 3 = .ok (.getfield 10, 3) := by decide +kernel
theorem dX11_isTrack_6 : decode cX11_isTrack 6 = .ok (.getfield 27, 3) := by decide +kernel
theorem dX11_isTrack_9 : decode cX11_isTrack 9 = .ok (.iconst 1, 1) := by decide +kernel
theorem dX11_isTrack_10 : decode cX11_isTrack 10 = .ok (.isub, 1) := by decide +kernel
theorem dX11_isTrack_11 : decode cX11_isTrack 11 = .ok (.invokestatic 23, 3) := by decide +kernel
theorem dX11_isTrack_14 : decode cX11_isTrack 14 = .ok (.ireturn, 1) := by decide +kernel
theorem dX11_isProp_0 : decode cX11_isProp 0 = .ok (.iload_n 1, 1) := by decide +kernel
theorem dX11_isProp_1 : decode cX11_isProp 1 = .ok (.iconst 0, 1) := by decide +kernel
theorem dX11_isProp_2 : decode cX11_isProp 2 = .ok (.aload_n 0, 1) := by decide +kernel
theorem dX11_isProp_3 : decode cX11_isProp 3 = .ok (.getfield 10, 3) := by decide +kernel
theorem dX11_isProp_6 : decode cX11_isProp 6 = .ok (.getfield 30, 3) := by decide +kernel
theorem dX11_isProp_9 : decode cX11_isProp 9 = .ok (.iconst 1, 1) := by decide +kernel
theorem dX11_isProp_10 : decode cX11_isProp 10 = .ok (.isub, 1) := by decide +kernel
theorem dX11_isProp_11 : decode cX11_isProp 11 = .ok (.invokestatic 23, 3) := by decide +kernel
theorem dX11_isProp_14 : decode cX11_isProp 14 = .ok (.ireturn, 1) := by decide +kernel
theorem dX11_isScene_0 : decode cX11_isScene 0 = .ok (.iload_n 1, 1) := by decide +kernel
theorem dX11_isScene_1 : decode cX11_isScene 1 = .ok (.iconst 0, 1) := by decide +kernel
theorem dX11_isScene_2 : decode cX11_isScene 2 = .ok (.aload_n 0, 1) := by decide +kernel
theorem dX11_isScene_3 : decode cX11_isScene 3 = .ok (.getfield 10, 3) := by decide +kernel
theorem dX11_isScene_6 : decode cX11_isScene 6 = .ok (.getfield 33, 3) := by decide +kernel
theorem dX11_isScene_9 : decode cX11_isScene 9 = .ok (.iconst 1, 1) := by decide +kernel
theorem dX11_isScene_10 : decode cX11_isScene 10 = .ok (.isub, 1) := by decide +kernel
theorem dX11_isScene_11 : decode cX11_isScene 11 = .ok (.invokestatic 23, 3) := by decide +kernel
theorem dX11_isScene_14 : decode cX11_isScene 14 = .ok (.ireturn, 1) := by decide +kernel
theorem dX11_isGuest_0 : decode cX11_isGuest 0 = .ok (.iload_n 1, 1) := by decide +kernel
theorem dX11_isGuest_1 : decode cX11_isGuest 1 = .ok (.iconst 0, 1) := by decide +kernel
theorem dX11_isGuest_2 : decode cX11_isGuest 2 = .ok (.aload_n 0, 1) := by decide +kernel
theorem dX11_isGuest_3 : decode cX11_isGuest 3 = .ok (.getfield 10, 3) := by decide +kernel
theorem dX11_isGuest_6 : decode cX11_isGuest 6 = .ok (.getfield 36, 3) := by decide +kernel
theorem dX11_isGuest_9 : decode cX11_isGuest 9 = .ok (.iconst 1, 1) := by decide +kernel
theorem dX11_isGuest_10 : decode cX11_isGuest 10 = .ok (.isub, 1) := by decide +kernel
theorem dX11_isGuest_11 : decode cX11_isGuest 11 = .ok (.invokestatic 23, 3) := by decide +kernel
theorem dX11_isGuest_14 : decode cX11_isGuest 14 = .ok (.ireturn, 1) := by decide +kernel
theorem dX11_room_0 : decode cX11_room 0 = .ok (.aload_n 0, 1) := by decide +kernel
theorem dX11_room_1 : decode cX11_room 1 = .ok (.iconst 0, 1) := by decide +kernel
theorem dX11_room_2 : decode cX11_room 2 = .ok (.putfield 16, 3) := by decide +kernel
theorem dX11_room_5 : decode cX11_room 5 = .ok (.iload_n 1, 1) := by decide +kernel
theorem dX11_room_6 : decode cX11_room 6 = .ok (.iconst 1, 1) := by decide +kernel
theorem dX11_room_7 : decode cX11_room 7 = .ok (.bipush 30, 2) := by decide +kernel
theorem dX11_room_9 : decode cX11_room 9 = .ok (.invokestatic 23, 3) := by decide +kernel
theorem dX11_room_12 : decode cX11_room 12 = .ok (.ifCond .ne 9, 3) := by decide +kernel
theorem dX11_room_15 : decode cX11_room 15 = .ok (.aload_n 0, 1) := by decide +kernel
theorem dX11_room_16 : decode cX11_room 16 = .ok (.iconst 1, 1) := by decide +kernel
theorem dX11_room_17 : decode cX11_room 17 = .ok (.invokevirtual 39, 3) := by decide +kernel
theorem dX11_room_20 : decode cX11_room 20 = .ok (.ireturn, 1) := by decide +kernel
theorem dX11_room_21 : decode cX11_room 21 = .ok (.aload_n 0, 1) := by decide +kernel
theorem dX11_room_22 : decode cX11_room 22 = .ok (.getfield 10, 3) := by decide +kernel
theorem dX11_room_25 : decode cX11_room 25 = .ok (.getfield 20, 3) := by decide +kernel
theorem dX11_room_28 : decode cX11_room 28 = .ok (.bipush 8, 2) := by decide +kernel
theorem dX11_room_30 : decode cX11_room 30 = .ok (.if_icmp .ne 9, 3) := by decide +kernel
theorem dX11_room_33 : decode cX11_room 33 = .ok (.aload_n 0, 1) := by decide +kernel
theorem dX11_room_34 : decode cX11_room 34 = .ok (.iconst 2, 1) := by decide +kernel
theorem dX11_room_35 : decode cX11_room 35 = .ok (.invokevirtual 39, 3) := by decide +kernel
theorem dX11_room_38 : decode cX11_room 38 = .ok (.ireturn, 1) := by decide +kernel
theorem dX11_room_39 : decode cX11_room 39 = .ok (.aload_n 0, 1) := by decide +kernel
theorem dX11_room_40 : decode cX11_room 40 = .ok (.getfield 10, 3) := by decide +kernel
theorem dX11_room_43 : decode cX11_room 43 = .ok (.getfield 43, 3) := by decide +kernel
theorem dX11_room_46 : decode cX11_room 46 = .ok (.aload_n 0, 1) := by decide +kernel
theorem dX11_room_47 : decode cX11_room 47 = .ok (.getfield 10, 3) := by decide +kernel
theorem dX11_room_50 : decode cX11_room 50 = .ok (.getfield 20, 3) := by decide +kernel
theorem dX11_room_53 : decode cX11_room 53 = .ok (.iload_n 1, 1) := by decide +kernel
theorem dX11_room_54 : decode cX11_room 54 = .ok (.iastore, 1) := by decide +kernel
theorem dX11_room_55 : decode cX11_room 55 = .ok (.aload_n 0, 1) := by decide +kernel
theorem dX11_room_56 : decode cX11_room 56 = .ok (.getfield 10, 3) := by decide +kernel
theorem dX11_room_59 : decode cX11_room 59 = .ok (.invokevirtual 47, 3) := by decide +kernel
theorem dX11_room_62 : decode cX11_room 62 = .ok (.aload_n 0, 1) := by decide +kernel
theorem dX11_room_63 : decode cX11_room 63 = .ok (.getfield 10, 3) := by decide +kernel
theorem dX11_room_66 : decode cX11_room 66 = .ok (.dup, 1) := by decide +kernel
theorem dX11_room_67 : decode cX11_room 67 = .ok (.getfield 20, 3) := by decide +kernel
theorem dX11_room_70 : decode cX11_room 70 = .ok (.dup_x1, 1) := by decide +kernel
theorem dX11_room_71 : decode cX11_room 71 = .ok (.iconst 1, 1) := by decide +kernel
theorem dX11_room_72 : decode cX11_room 72 = .ok (.iadd, 1) := by decide +kernel
theorem dX11_room_73 : decode cX11_room 73 = .ok (.putfield 20, 3) := by decide +kernel
theorem dX11_room_76 : decode cX11_room 76 = .ok (.ireturn, 1) := by decide +kernel
theorem dX11_door_0 : decode cX11_door 0 = .ok (.aload_n 0, 1) := by decide +kernel
theorem dX11_door_1 : decode cX11_door 1 = .ok (.iconst 0, 1) := by decide +kernel
theorem dX11_door_2 : decode cX11_door 2 = .ok (.putfield 16, 3) := by decide +kernel
theorem dX11_door_5 : decode cX11_door 5 = .ok (.aload_n 0, 1) := by decide +kernel
theorem dX11_door_6 : decode cX11_door 6 = .ok (.iload_n 1, 1) := by decide +kernel
theorem dX11_door_7 : decode cX11_door 7 = .ok (.invokevirtual 50, 3) := by decide +kernel
theorem dX11_door_10 : decode cX11_door 10 = .ok (.ifCond .eq 11, 3) := by decide +kernel
theorem dX11_door_13 : decode cX11_door 13 = .ok (.aload_n 0, 1) := by decide +kernel
theorem dX11_door_14 : decode cX11_door 14 = .ok (.iload_n 2, 1) := by decide +kernel
theorem dX11_door_15 : decode cX11_door 15 = .ok (.invokevirtual 50, 3) := by decide +kernel
theorem dX11_door_18 : decode cX11_door 18 = .ok (.ifCond .ne 9, 3) := by decide +kernel
theorem dX11_door_21 : decode cX11_door 21 = .ok (.aload_n 0, 1) := by decide +kernel
theorem dX11_door_22 : decode cX11_door 22 = .ok (.iconst 1, 1) := by decide +kernel
theorem dX11_door_23 : decode cX11_door 23 = .ok (.invokevirtual 39, 3) := by decide +kernel
theorem dX11_door_26 : decode cX11_door 26 = .ok (.ireturn, 1) := by decide +kernel
theorem dX11_door_27 : decode cX11_door 27 = .ok (.iload_n 1, 1) := by decide +kernel
theorem dX11_door_28 : decode cX11_door 28 = .ok (.iload_n 2, 1) := by decide +kernel
theorem dX11_door_29 : decode cX11_door 29 = .ok (.if_icmp .eq 13, 3) := by decide +kernel
theorem dX11_door_32 : decode cX11_door 32 = .ok (.iload_n 3, 1) := by decide +kernel
theorem dX11_door_33 : decode cX11_door 33 = .ok (.iconst 1, 1) := by decide +kernel
theorem dX11_door_34 : decode cX11_door 34 = .ok (.bipush 6, 2) := by decide +kernel
theorem dX11_door_36 : decode cX11_door 36 = .ok (.invokestatic 23, 3) := by decide +kernel
theorem dX11_door_39 : decode cX11_door 39 = .ok (.ifCond .ne 9, 3) := by decide +kernel
theorem dX11_door_42 : decode cX11_door 42 = .ok (.aload_n 0, 1) := by decide +kernel
theorem dX11_door_43 : decode cX11_door 43 = .ok (.iconst 2, 1) := by decide +kernel
theorem dX11_door_44 : decode cX11_door 44 = .ok (.invokevirtual 39, 3) := by decide +kernel
theorem dX11_door_47 : decode cX11_door 47 = .ok (.ireturn, 1) := by decide +kernel
theorem dX11_door_48 : decode cX11_door 48 = .ok (.aload_n 0, 1) := by decide +kernel
theorem dX11_door_49 : decode cX11_door 49 = .ok (.getfield 10, 3) := by decide +kernel
theorem dX11_door_52 : decode cX11_door 52 = .ok (.getfield 54, 3) := by decide +kernel
theorem dX11_door_55 : decode cX11_door 55 = .ok (.bipush 14, 2) := by decide +kernel
theorem dX11_door_57 : decode cX11_door 57 = .ok (.if_icmp .eq 17, 3) := by decide +kernel
theorem dX11_door_60 : decode cX11_door 60 = .ok (.aload_n 0, 1) := by decide +kernel
theorem dX11_door_61 : decode cX11_door 61 = .ok (.getfield 10, 3) := by decide +kernel
theorem dX11_door_64 : decode cX11_door 64 = .ok (.getfield 57, 3) := by decide +kernel
theorem dX11_door_67 : decode cX11_door 67 = .ok (.iload_n 1, 1) := by decide +kernel
theorem dX11_door_68 : decode cX11_door 68 = .ok (.aaload, 1) := by decide +kernel
theorem dX11_door_69 : decode cX11_door 69 = .ok (.iload_n 2, 1) := by decide +kernel
theorem dX11_door_70 : decode cX11_door 70 = .ok (.iaload, 1) := by decide +kernel
theorem dX11_door_71 : decode cX11_door 71 = .ok (.ifCond .le 9, 3) := by decide +kernel
theorem dX11_door_74 : decode cX11_door 74 = .ok (.aload_n 0, 1) := by decide +kernel
theorem dX11_door_75 : decode cX11_door 75 = .ok (.iconst 3, 1) := by decide +kernel
theorem dX11_door_76 : decode cX11_door 76 = .ok (.invokevirtual 39, 3) := by decide +kernel
theorem dX11_door_79 : decode cX11_door 79 = .ok (.ireturn, 1) := by decide +kernel
theorem dX11_door_80 : decode cX11_door 80 = .ok (.aload_n 0, 1) := by decide +kernel
theorem dX11_door_81 : decode cX11_door 81 = .ok (.getfield 10, 3) := by decide +kernel
theorem dX11_door_84 : decode cX11_door 84 = .ok (.getfield 57, 3) := by decide +kernel
theorem dX11_door_87 : decode cX11_door 87 = .ok (.iload_n 1, 1) := by decide +kernel
theorem dX11_door_88 : decode cX11_door 88 = .ok (.aaload, 1) := by decide +kernel
theorem dX11_door_89 : decode cX11_door 89 = .ok (.iload_n 2, 1) := by decide +kernel
theorem dX11_door_90 : decode cX11_door 90 = .ok (.aload_n 0, 1) := by decide +kernel
theorem dX11_door_91 : decode cX11_door 91 = .ok (.getfield 10, 3) := by decide +kernel
theorem dX11_door_94 : decode cX11_door 94 = .ok (.getfield 57, 3) := by decide +kernel
theorem dX11_door_97 : decode cX11_door 97 = .ok (.iload_n 2, 1) := by decide +kernel
theorem dX11_door_98 : decode cX11_door 98 = .ok (.aaload, 1) := by decide +kernel
theorem dX11_door_99 : decode cX11_door 99 = .ok (.iload_n 1, 1) := by decide +kernel
theorem dX11_door_100 : decode cX11_door 100 = .ok (.iload_n 3, 1) := by decide +kernel
theorem dX11_door_101 : decode cX11_door 101 = .ok (.dup_x2, 1) := by decide +kernel
theorem dX11_door_102 : decode cX11_door 102 = .ok (.iastore, 1) := by decide +kernel
theorem dX11_door_103 : decode cX11_door 103 = .ok (.iastore, 1) := by decide +kernel
theorem dX11_door_104 : decode cX11_door 104 = .ok (.aload_n 0, 1) := by decide +kernel
theorem dX11_door_105 : decode cX11_door 105 = .ok (.getfield 10, 3) := by decide +kernel
theorem dX11_door_108 : decode cX11_door 108 = .ok (.invokevirtual 47, 3) := by decide +kernel
theorem dX11_door_111 : decode cX11_door 111 = .ok (.aload_n 0, 1) := by decide +kernel
theorem dX11_door_112 : decode cX11_door 112 = .ok (.getfield 10, 3) := by decide +kernel
theorem dX11_door_115 : decode cX11_door 115 = .ok (.dup, 1) := by decide +kernel
theorem dX11_door_116 : decode cX11_door 116 = .ok (.getfield 54, 3) := by decide +kernel
theorem dX11_door_119 : decode cX11_door 119 = .ok (.iconst 1, 1) := by decide +kernel
theorem dX11_door_120 : decode cX11_door 120 = .ok (.iadd, 1) := by decide +kernel
theorem dX11_door_121 : decode cX11_door 121 = .ok (.dup_x1, 1) := by decide +kernel
theorem dX11_door_122 : decode cX11_door 122 = .ok (.putfield 54, 3) := by decide +kernel
theorem dX11_door_125 : decode cX11_door 125 = .ok (.ireturn, 1) := by decide +kernel
theorem dX11_track_0 : decode cX11_track 0 = .ok (.aload_n 0, 1) := by decide +kernel
theorem dX11_track_1 : decode cX11_track 1 = .ok (.iconst 0, 1) := by decide +kernel
theorem dX11_track_2 : decode cX11_track 2 = .ok (.putfield 16, 3) := by decide +kernel
theorem dX11_track_5 : decode cX11_track 5 = .ok (.aload_n 0, 1) := by decide +kernel
theorem dX11_track_6 : decode cX11_track 6 = .ok (.iload_n 1, 1) := by decide +kernel
theorem dX11_track_7 : decode cX11_track 7 = .ok (.invokevirtual 50, 3) := by decide +kernel
theorem dX11_track_10 : decode cX11_track 10 = .ok (.ifCond .ne 9, 3) := by decide +kernel
theorem dX11_track_13 : decode cX11_track 13 = .ok (.aload_n 0, 1) := by decide +kernel
theorem dX11_track_14 : decode cX11_track 14 = .ok (.iconst 1, 1) := by decide +kernel
theorem dX11_track_15 : decode cX11_track 15 = .ok (.invokevirtual 39, 3) := by decide +kernel
theorem dX11_track_18 : decode cX11_track 18 = .ok (.ireturn, 1) := by decide +kernel
theorem dX11_track_19 : decode cX11_track 19 = .ok (.aload_n 0, 1) := by decide +kernel
theorem dX11_track_20 : decode cX11_track 20 = .ok (.getfield 10, 3) := by decide +kernel
theorem dX11_track_23 : decode cX11_track 23 = .ok (.getfield 27, 3) := by decide +kernel
theorem dX11_track_26 : decode cX11_track 26 = .ok (.iconst 5, 1) := by decide +kernel
theorem dX11_track_27 : decode cX11_track 27 = .ok (.if_icmp .ne 9, 3) := by decide +kernel
theorem dX11_track_30 : decode cX11_track 30 = .ok (.aload_n 0, 1) := by decide +kernel
theorem dX11_track_31 : decode cX11_track 31 = .ok (.iconst 2, 1) := by decide +kernel
theorem dX11_track_32 : decode cX11_track 32 = .ok (.invokevirtual 39, 3) := by decide +kernel
theorem dX11_track_35 : decode cX11_track 35 = .ok (.ireturn, 1) := by decide +kernel
theorem dX11_track_36 : decode cX11_track 36 = .ok (.iconst 4, 1) := by decide +kernel
theorem dX11_track_37 : decode cX11_track 37 = .ok (.newarray .int, 2) := by decide +kernel
theorem dX11_track_39 : decode cX11_track 39 = .ok (.dup, 1) := by decide +kernel
theorem dX11_track_40 : decode cX11_track 40 = .ok (.iconst 0, 1) := by decide +kernel
theorem dX11_track_41 : decode cX11_track 41 = .ok (.iload_n 1, 1) := by decide +kernel
theorem dX11_track_42 : decode cX11_track 42 = .ok (.iastore, 1) := by decide +kernel
theorem dX11_track_43 : decode cX11_track 43 = .ok (.dup, 1) := by decide +kernel
theorem dX11_track_44 : decode cX11_track 44 = .ok (.iconst 1, 1) := by decide +kernel
theorem dX11_track_45 : decode cX11_track 45 = .ok (.iload_n 1, 1) := by decide +kernel
theorem dX11_track_46 : decode cX11_track 46 = .ok (.iastore, 1) := by decide +kernel
theorem dX11_track_47 : decode cX11_track 47 = .ok (.dup, 1) := by decide +kernel
theorem dX11_track_48 : decode cX11_track 48 = .ok (.iconst 2, 1) := by decide +kernel
theorem dX11_track_49 : decode cX11_track 49 = .ok (.iconst (-1), 1) := by decide +kernel
theorem dX11_track_50 : decode cX11_track 50 = .ok (.iastore, 1) := by decide +kernel
theorem dX11_track_51 : decode cX11_track 51 = .ok (.dup, 1) := by decide +kernel
theorem dX11_track_52 : decode cX11_track 52 = .ok (.iconst 3, 1) := by decide +kernel
theorem dX11_track_53 : decode cX11_track 53 = .ok (.iconst 0, 1) := by decide +kernel
theorem dX11_track_54 : decode cX11_track 54 = .ok (.iastore, 1) := by decide +kernel
theorem dX11_track_55 : decode cX11_track 55 = .ok (.astore_n 2, 1) := by decide +kernel
theorem dX11_track_56 : decode cX11_track 56 = .ok (.aload_n 2, 1) := by decide +kernel
theorem dX11_track_57 : decode cX11_track 57 = .ok (.iconst 0, 1) := by decide +kernel
theorem dX11_track_58 : decode cX11_track 58 = .ok (.aload_n 0, 1) := by decide +kernel
theorem dX11_track_59 : decode cX11_track 59 = .ok (.getfield 10, 3) := by decide +kernel
theorem dX11_track_62 : decode cX11_track 62 = .ok (.getfield 61, 3) := by decide +kernel
theorem dX11_track_65 : decode cX11_track 65 = .ok (.aload_n 0, 1) := by decide +kernel
theorem dX11_track_66 : decode cX11_track 66 = .ok (.getfield 10, 3) := by decide +kernel
theorem dX11_track_69 : decode cX11_track 69 = .ok (.getfield 27, 3) := by decide +kernel
theorem dX11_track_72 : decode cX11_track 72 = .ok (.aaload, 1) := by decide +kernel
theorem dX11_track_73 : decode cX11_track 73 = .ok (.iconst 0, 1) := by decide +kernel
theorem dX11_track_74 : decode cX11_track 74 = .ok (.iconst 4, 1) := by decide +kernel
theorem dX11_track_75 : decode cX11_track 75 = .ok (.invokestatic 64, 3) := by decide +kernel
theorem dX11_track_78 : decode cX11_track 78 = .ok (.aload_n 0, 1) := by decide +kernel
theorem dX11_track_79 : decode cX11_track 79 = .ok (.getfield 10, 3) := by decide +kernel
theorem dX11_track_82 : decode cX11_track 82 = .ok (.dup, 1) := by decide +kernel
theorem dX11_track_83 : decode cX11_track 83 = .ok (.getfield 27, 3) := by decide +kernel
theorem dX11_track_86 : decode cX11_track 86 = .ok (.dup_x1, 1) := by decide +kernel
theorem dX11_track_87 : decode cX11_track 87 = .ok (.iconst 1, 1) := by decide +kernel
theorem dX11_track_88 : decode cX11_track 88 = .ok (.iadd, 1) := by decide +kernel
theorem dX11_track_89 : decode cX11_track 89 = .ok (.putfield 27, 3) := by decide +kernel
theorem dX11_track_92 : decode cX11_track 92 = .ok (.ireturn, 1) := by decide +kernel
theorem dX11_prop_0 : decode cX11_prop 0 = .ok (.aload_n 0, 1) := by decide +kernel
theorem dX11_prop_1 : decode cX11_prop 1 = .ok (.iconst 0, 1) := by decide +kernel
theorem dX11_prop_2 : decode cX11_prop 2 = .ok (.putfield 16, 3) := by decide +kernel
theorem dX11_prop_5 : decode cX11_prop 5 = .ok (.aload_n 0, 1) := by decide +kernel
theorem dX11_prop_6 : decode cX11_prop 6 = .ok (.iload_n 1, 1) := by decide +kernel
theorem dX11_prop_7 : decode cX11_prop 7 = .ok (.invokevirtual 50, 3) := by decide +kernel
theorem dX11_prop_10 : decode cX11_prop 10 = .ok (.ifCond .ne 9, 3) := by decide +kernel
theorem dX11_prop_13 : decode cX11_prop 13 = .ok (.aload_n 0, 1) := by decide +kernel
theorem dX11_prop_14 : decode cX11_prop 14 = .ok (.iconst 1, 1) := by decide +kernel
theorem dX11_prop_15 : decode cX11_prop 15 = .ok (.invokevirtual 39, 3) := by decide +kernel
theorem dX11_prop_18 : decode cX11_prop 18 = .ok (.ireturn, 1) := by decide +kernel
theorem dX11_prop_19 : decode cX11_prop 19 = .ok (.aload_n 0, 1) := by decide +kernel
theorem dX11_prop_20 : decode cX11_prop 20 = .ok (.getfield 10, 3) := by decide +kernel
theorem dX11_prop_23 : decode cX11_prop 23 = .ok (.getfield 30, 3) := by decide +kernel
theorem dX11_prop_26 : decode cX11_prop 26 = .ok (.iconst 4, 1) := by decide +kernel
theorem dX11_prop_27 : decode cX11_prop 27 = .ok (.if_icmp .ne 9, 3) := by decide +kernel
theorem dX11_prop_30 : decode cX11_prop 30 = .ok (.aload_n 0, 1) := by decide +kernel
theorem dX11_prop_31 : decode cX11_prop 31 = .ok (.iconst 2, 1) := by decide +kernel
theorem dX11_prop_32 : decode cX11_prop 32 = .ok (.invokevirtual 39, 3) := by decide +kernel
theorem dX11_prop_35 : decode cX11_prop 35 = .ok (.ireturn, 1) := by decide +kernel
theorem dX11_prop_36 : decode cX11_prop 36 = .ok (.iconst 5, 1) := by decide +kernel
theorem dX11_prop_37 : decode cX11_prop 37 = .ok (.newarray .int, 2) := by decide +kernel
theorem dX11_prop_39 : decode cX11_prop 39 = .ok (.dup, 1) := by decide +kernel
theorem dX11_prop_40 : decode cX11_prop 40 = .ok (.iconst 0, 1) := by decide +kernel
theorem dX11_prop_41 : decode cX11_prop 41 = .ok (.iload_n 1, 1) := by decide +kernel
theorem dX11_prop_42 : decode cX11_prop 42 = .ok (.iastore, 1) := by decide +kernel
theorem dX11_prop_43 : decode cX11_prop 43 = .ok (.dup, 1) := by decide +kernel
theorem dX11_prop_44 : decode cX11_prop 44 = .ok (.iconst 1, 1) := by decide +kernel
theorem dX11_prop_45 : decode cX11_prop 45 = .ok (.iload_n 1, 1) := by decide +kernel
theorem dX11_prop_46 : decode cX11_prop 46 = .ok (.iastore, 1) := by decide +kernel
theorem dX11_prop_47 : decode cX11_prop 47 = .ok (.dup, 1) := by decide +kernel
theorem dX11_prop_48 : decode cX11_prop 48 = .ok (.iconst 2, 1) := by decide +kernel
theorem dX11_prop_49 : decode cX11_prop 49 = .ok (.iconst (-1), 1) := by decide +kernel
theorem dX11_prop_50 : decode cX11_prop 50 = .ok (.iastore, 1) := by decide +kernel
theorem dX11_prop_51 : decode cX11_prop 51 = .ok (.dup, 1) := by decide +kernel
theorem dX11_prop_52 : decode cX11_prop 52 = .ok (.iconst 3, 1) := by decide +kernel
theorem dX11_prop_53 : decode cX11_prop 53 = .ok (.iconst (-1), 1) := by decide +kernel
theorem dX11_prop_54 : decode cX11_prop 54 = .ok (.iastore, 1) := by decide +kernel
theorem dX11_prop_55 : decode cX11_prop 55 = .ok (.dup, 1) := by decide +kernel
theorem dX11_prop_56 : decode cX11_prop 56 = .ok (.iconst 4, 1) := by decide +kernel
theorem dX11_prop_57 : decode cX11_prop 57 = .ok (.iconst 0, 1) := by decide +kernel
theorem dX11_prop_58 : decode cX11_prop 58 = .ok (.iastore, 1) := by decide +kernel
theorem dX11_prop_59 : decode cX11_prop 59 = .ok (.astore_n 2, 1) := by decide +kernel
theorem dX11_prop_60 : decode cX11_prop 60 = .ok (.aload_n 2, 1) := by decide +kernel
theorem dX11_prop_61 : decode cX11_prop 61 = .ok (.iconst 0, 1) := by decide +kernel
theorem dX11_prop_62 : decode cX11_prop 62 = .ok (.aload_n 0, 1) := by decide +kernel
theorem dX11_prop_63 : decode cX11_prop 63 = .ok (.getfield 10, 3) := by decide +kernel
theorem dX11_prop_66 : decode cX11_prop 66 = .ok (.getfield 70, 3) := by decide +kernel
theorem dX11_prop_69 : decode cX11_prop 69 = .ok (.aload_n 0, 1) := by decide +kernel
theorem dX11_prop_70 : decode cX11_prop 70 = .ok (.getfield 10, 3) := by decide +kernel
theorem dX11_prop_73 : decode cX11_prop 73 = .ok (.getfield 30, 3) := by decide +kernel
theorem dX11_prop_76 : decode cX11_prop 76 = .ok (.aaload, 1) := by decide +kernel
theorem dX11_prop_77 : decode cX11_prop 77 = .ok (.iconst 0, 1) := by decide +kernel
theorem dX11_prop_78 : decode cX11_prop 78 = .ok (.iconst 5, 1) := by decide +kernel
theorem dX11_prop_79 : decode cX11_prop 79 = .ok (.invokestatic 64, 3) := by decide +kernel
theorem dX11_prop_82 : decode cX11_prop 82 = .ok (.aload_n 0, 1) := by decide +kernel
theorem dX11_prop_83 : decode cX11_prop 83 = .ok (.getfield 10, 3) := by decide +kernel
theorem dX11_prop_86 : decode cX11_prop 86 = .ok (.dup, 1) := by decide +kernel
theorem dX11_prop_87 : decode cX11_prop 87 = .ok (.getfield 30, 3) := by decide +kernel
theorem dX11_prop_90 : decode cX11_prop 90 = .ok (.dup_x1, 1) := by decide +kernel
theorem dX11_prop_91 : decode cX11_prop 91 = .ok (.iconst 1, 1) := by decide +kernel
theorem dX11_prop_92 : decode cX11_prop 92 = .ok (.iadd, 1) := by decide +kernel
theorem dX11_prop_93 : decode cX11_prop 93 = .ok (.putfield 30, 3) := by decide +kernel
theorem dX11_prop_96 : decode cX11_prop 96 = .ok (.ireturn, 1) := by decide +kernel
theorem dX11_scene_0 : decode cX11_scene 0 = .ok (.aload_n 0, 1) := by decide +kernel
theorem dX11_scene_1 : decode cX11_scene 1 = .ok (.iconst 0, 1) := by decide +kernel
theorem dX11_scene_2 : decode cX11_scene 2 = .ok (.putfield 16, 3) := by decide +kernel
theorem dX11_scene_5 : decode cX11_scene 5 = .ok (.aload_n 0, 1) := by decide +kernel
theorem dX11_scene_6 : decode cX11_scene 6 = .ok (.iload_n 1, 1) := by decide +kernel
theorem dX11_scene_7 : decode cX11_scene 7 = .ok (.invokevirtual 50, 3) := by decide +kernel
theorem dX11_scene_10 : decode cX11_scene 10 = .ok (.ifCond .eq 18, 3) := by decide +kernel
theorem dX11_scene_13 : decode cX11_scene 13 = .ok (.iload 5, 2) := by decide +kernel
theorem dX11_scene_15 : decode cX11_scene 15 = .ok (.iconst (-1), 1) := by decide +kernel
theorem dX11_scene_16 : decode cX11_scene 16 = .ok (.if_icmp .eq 18, 3) := by decide +kernel
theorem dX11_scene_19 : decode cX11_scene 19 = .ok (.aload_n 0, 1) := by decide +kernel
theorem dX11_scene_20 : decode cX11_scene 20 = .ok (.iload 5, 2) := by decide +kernel
theorem dX11_scene_22 : decode cX11_scene 22 = .ok (.invokevirtual 73, 3) := by decide +kernel
theorem dX11_scene_25 : decode cX11_scene 25 = .ok (.ifCond .ne 9, 3) := by decide +kernel
theorem dX11_scene_28 : decode cX11_scene 28 = .ok (.aload_n 0, 1) := by decide +kernel
theorem dX11_scene_29 : decode cX11_scene 29 = .ok (.iconst 1, 1) := by decide +kernel
theorem dX11_scene_30 : decode cX11_scene 30 = .ok (.invokevirtual 39, 3) := by decide +kernel
theorem dX11_scene_33 : decode cX11_scene 33 = .ok (.ireturn, 1) := by decide +kernel
theorem dX11_scene_34 : decode cX11_scene 34 = .ok (.iload_n 2, 1) := by decide +kernel
theorem dX11_scene_35 : decode cX11_scene 35 = .ok (.iconst 0, 1) := by decide +kernel
theorem dX11_scene_36 : decode cX11_scene 36 = .ok (.bipush 18, 2) := by decide +kernel
theorem dX11_scene_38 : decode cX11_scene 38 = .ok (.invokestatic 23, 3) := by decide +kernel
theorem dX11_scene_41 : decode cX11_scene 41 = .ok (.ifCond .eq 41, 3) := by decide +kernel
theorem dX11_scene_44 : decode cX11_scene 44 = .ok (.iload_n 3, 1) := by decide +kernel
theorem dX11_scene_45 : decode cX11_scene 45 = .ok (.iconst 1, 1) := by decide +kernel
theorem dX11_scene_46 : decode cX11_scene 46 = .ok (.bipush 8, 2) := by decide +kernel
theorem dX11_scene_48 : decode cX11_scene 48 = .ok (.invokestatic 23, 3) := by decide +kernel
theorem dX11_scene_51 : decode cX11_scene 51 = .ok (.ifCond .eq 31, 3) := by decide +kernel
theorem dX11_scene_54 : decode cX11_scene 54 = .ok (.iload_n 2, 1) := by decide +kernel
theorem dX11_scene_55 : decode cX11_scene 55 = .ok (.iload_n 3, 1) := by decide +kernel
theorem dX11_scene_56 : decode cX11_scene 56 = .ok (.iadd, 1) := by decide +kernel
theorem dX11_scene_57 : decode cX11_scene 57 = .ok (.bipush 20, 2) := by decide +kernel
theorem dX11_scene_59 : decode cX11_scene 59 = .ok (.if_icmp .gt 23, 3) := by decide +kernel
theorem dX11_scene_62 : decode cX11_scene 62 = .ok (.iload 4, 2) := by decide +kernel
theorem dX11_scene_64 : decode cX11_scene 64 = .ok (.iconst 1, 1) := by decide +kernel
theorem dX11_scene_65 : decode cX11_scene 65 = .ok (.iconst 1, 1) := by decide +kernel
theorem dX11_scene_66 : decode cX11_scene 66 = .ok (.aload_n 0, 1) := by decide +kernel
theorem dX11_scene_67 : decode cX11_scene 67 = .ok (.getfield 10, 3) := by decide +kernel
theorem dX11_scene_70 : decode cX11_scene 70 = .ok (.getfield 27, 3) := by decide +kernel
theorem dX11_scene_73 : decode cX11_scene 73 = .ok (.ishl, 1) := by decide +kernel
theorem dX11_scene_74 : decode cX11_scene 74 = .ok (.iconst 1, 1) := by decide +kernel
theorem dX11_scene_75 : decode cX11_scene 75 = .ok (.isub, 1) := by decide +kernel
theorem dX11_scene_76 : decode cX11_scene 76 = .ok (.invokestatic 23, 3) := by decide +kernel
theorem dX11_scene_79 : decode cX11_scene 79 = .ok (.ifCond .ne 9, 3) := by decide +kernel
theorem dX11_scene_82 : decode cX11_scene 82 = .ok (.aload_n 0, 1) := by decide +kernel
theorem dX11_scene_83 : decode cX11_scene 83 = .ok (.iconst 2, 1) := by decide +kernel
theorem dX11_scene_84 : decode cX11_scene 84 = .ok (.invokevirtual 39, 3) := by decide +kernel
theorem dX11_scene_87 : decode cX11_scene 87 = .ok (.ireturn, 1) := by decide +kernel
theorem dX11_scene_88 : decode cX11_scene 88 = .ok (.aload_n 0, 1) := by decide +kernel
theorem dX11_scene_89 : decode cX11_scene 89 = .ok (.getfield 10, 3) := by decide +kernel
theorem dX11_scene_92 : decode cX11_scene 92 = .ok (.getfield 76, 3) := by decide +kernel
theorem dX11_scene_95 : decode cX11_scene 95 = .ok (.ifCond .gt 15, 3) := by decide +kernel
theorem dX11_scene_98 : decode cX11_scene 98 = .ok (.aload_n 0, 1) := by decide +kernel
theorem dX11_scene_99 : decode cX11_scene 99 = .ok (.getfield 10, 3) := by decide +kernel
theorem dX11_scene_102 : decode cX11_scene 102 = .ok (.getfield 33, 3) := by decide +kernel
theorem dX11_scene_105 : decode cX11_scene 105 = .ok (.bipush 12, 2) := by decide +kernel
theorem dX11_scene_107 : decode cX11_scene 107 = .ok (.if_icmp .ne 9, 3) := by decide +kernel
theorem dX11_scene_110 : decode cX11_scene 110 = .ok (.aload_n 0, 1) := by decide +kernel
theorem dX11_scene_111 : decode cX11_scene 111 = .ok (.iconst 3, 1) := by decide +kernel
theorem dX11_scene_112 : decode cX11_scene 112 = .ok (.invokevirtual 39, 3) := by decide +kernel
theorem dX11_scene_115 : decode cX11_scene 115 = .ok (.ireturn, 1) := by decide +kernel
theorem dX11_scene_116 : decode cX11_scene 116 = .ok (.bipush 10, 2) := by decide +kernel
theorem dX11_scene_118 : decode cX11_scene 118 = .ok (.newarray .int, 2) := by decide +kernel
theorem dX11_scene_120 : decode cX11_scene 120 = .ok (.dup, 1) := by decide +kernel
theorem dX11_scene_121 : decode cX11_scene 121 = .ok (.iconst 0, 1) := by decide +kernel
theorem dX11_scene_122 : decode cX11_scene 122 = .ok (.iload_n 2, 1) := by decide +kernel
theorem dX11_scene_123 : decode cX11_scene 123 = .ok (.iastore, 1) := by decide +kernel
theorem dX11_scene_124 : decode cX11_scene 124 = .ok (.dup, 1) := by decide +kernel
theorem dX11_scene_125 : decode cX11_scene 125 = .ok (.iconst 1, 1) := by decide +kernel
theorem dX11_scene_126 : decode cX11_scene 126 = .ok (.iload_n 1, 1) := by decide +kernel
theorem dX11_scene_127 : decode cX11_scene 127 = .ok (.iastore, 1) := by decide +kernel
theorem dX11_scene_128 : decode cX11_scene 128 = .ok (.dup, 1) := by decide +kernel
theorem dX11_scene_129 : decode cX11_scene 129 = .ok (.iconst 2, 1) := by decide +kernel
theorem dX11_scene_130 : decode cX11_scene 130 = .ok (.iload_n 3, 1) := by decide +kernel
theorem dX11_scene_131 : decode cX11_scene 131 = .ok (.iastore, 1) := by decide +kernel
theorem dX11_scene_132 : decode cX11_scene 132 = .ok (.dup, 1) := by decide +kernel
theorem dX11_scene_133 : decode cX11_scene 133 = .ok (.iconst 3, 1) := by decide +kernel
theorem dX11_scene_134 : decode cX11_scene 134 = .ok (.iload 4, 2) := by decide +kernel
theorem dX11_scene_136 : decode cX11_scene 136 = .ok (.iastore, 1) := by decide +kernel
theorem dX11_scene_137 : decode cX11_scene 137 = .ok (.dup, 1) := by decide +kernel
theorem dX11_scene_138 : decode cX11_scene 138 = .ok (.iconst 4, 1) := by decide +kernel
theorem dX11_scene_139 : decode cX11_scene 139 = .ok (.iload 5, 2) := by decide +kernel
theorem dX11_scene_141 : decode cX11_scene 141 = .ok (.iastore, 1) := by decide +kernel
theorem dX11_scene_142 : decode cX11_scene 142 = .ok (.dup, 1) := by decide +kernel
theorem dX11_scene_143 : decode cX11_scene 143 = .ok (.iconst 5, 1) := by decide +kernel
theorem dX11_scene_144 : decode cX11_scene 144 = .ok (.iconst 0, 1) := by decide +kernel
theorem dX11_scene_145 : decode cX11_scene 145 = .ok (.iastore, 1) := by decide +kernel
theorem dX11_scene_146 : decode cX11_scene 146 = .ok (.dup, 1) := by decide +kernel
theorem dX11_scene_147 : decode cX11_scene 147 = .ok (.bipush 6, 2) := by decide +kernel
theorem dX11_scene_149 : decode cX11_scene 149 = .ok (.iconst 0, 1) := by decide +kernel
theorem dX11_scene_150 : decode cX11_scene 150 = .ok (.iastore, 1) := by decide +kernel
theorem dX11_scene_151 : decode cX11_scene 151 = .ok (.dup, 1) := by decide +kernel
theorem dX11_scene_152 : decode cX11_scene 152 = .ok (.bipush 7, 2) := by decide +kernel
theorem dX11_scene_154 : decode cX11_scene 154 = .ok (.iconst 0, 1) := by decide +kernel
theorem dX11_scene_155 : decode cX11_scene 155 = .ok (.iastore, 1) := by decide +kernel
theorem dX11_scene_156 : decode cX11_scene 156 = .ok (.dup, 1) := by decide +kernel
theorem dX11_scene_157 : decode cX11_scene 157 = .ok (.bipush 8, 2) := by decide +kernel
theorem dX11_scene_159 : decode cX11_scene 159 = .ok (.iconst 0, 1) := by decide +kernel
theorem dX11_scene_160 : decode cX11_scene 160 = .ok (.iastore, 1) := by decide +kernel
theorem dX11_scene_161 : decode cX11_scene 161 = .ok (.dup, 1) := by decide +kernel
theorem dX11_scene_162 : decode cX11_scene 162 = .ok (.bipush 9, 2) := by decide +kernel
theorem dX11_scene_164 : decode cX11_scene 164 = .ok (.iconst 0, 1) := by decide +kernel
theorem dX11_scene_165 : decode cX11_scene 165 = .ok (.iastore, 1) := by decide +kernel
theorem dX11_scene_166 : decode cX11_scene 166 = .ok (.astore 6, 2) := by decide +kernel
theorem dX11_scene_168 : decode cX11_scene 168 = .ok (.aload 6, 2) := by decide +kernel
theorem dX11_scene_170 : decode cX11_scene 170 = .ok (.iconst 0, 1) := by decide +kernel
theorem dX11_scene_171 : decode cX11_scene 171 = .ok (.aload_n 0, 1) := by decide +kernel
theorem dX11_scene_172 : decode cX11_scene 172 = .ok (.getfield 10, 3) := by decide +kernel
theorem dX11_scene_175 : decode cX11_scene 175 = .ok (.getfield 79, 3) := by decide +kernel
theorem dX11_scene_178 : decode cX11_scene 178 = .ok (.aload_n 0, 1) := by decide +kernel
theorem dX11_scene_179 : decode cX11_scene 179 = .ok (.getfield 10, 3) := by decide +kernel
theorem dX11_scene_182 : decode cX11_scene 182 = .ok (.getfield 33, 3) := by decide +kernel
theorem dX11_scene_185 : decode cX11_scene 185 = .ok (.aaload, 1) := by decide +kernel
theorem dX11_scene_186 : decode cX11_scene 186 = .ok (.iconst 0, 1) := by decide +kernel
theorem dX11_scene_187 : decode cX11_scene 187 = .ok (.bipush 10, 2) := by decide +kernel
theorem dX11_scene_189 : decode cX11_scene 189 = .ok (.invokestatic 64, 3) := by decide +kernel
theorem dX11_scene_192 : decode cX11_scene 192 = .ok (.iconst 0, 1) := by decide +kernel
theorem dX11_scene_193 : decode cX11_scene 193 = .ok (.istore 7, 2) := by decide +kernel
theorem dX11_scene_195 : decode cX11_scene 195 = .ok (.iconst 0, 1) := by decide +kernel
theorem dX11_scene_196 : decode cX11_scene 196 = .ok (.istore 8, 2) := by decide +kernel
theorem dX11_scene_198 : decode cX11_scene 198 = .ok (.iload 8, 2) := by decide +kernel
theorem dX11_scene_200 : decode cX11_scene 200 = .ok (.aload_n 0, 1) := by decide +kernel
theorem dX11_scene_201 : decode cX11_scene 201 = .ok (.getfield 10, 3) := by decide +kernel
theorem dX11_scene_204 : decode cX11_scene 204 = .ok (.getfield 27, 3) := by decide +kernel
theorem dX11_scene_207 : decode cX11_scene 207 = .ok (.if_icmp .ge 35, 3) := by decide +kernel
theorem dX11_scene_210 : decode cX11_scene 210 = .ok (.iload 7, 2) := by decide +kernel
theorem dX11_scene_212 : decode cX11_scene 212 = .ok (.aload_n 0, 1) := by decide +kernel
theorem dX11_scene_213 : decode cX11_scene 213 = .ok (.getfield 10, 3) := by decide +kernel
theorem dX11_scene_216 : decode cX11_scene 216 = .ok (.getfield 61, 3) := by decide +kernel
theorem dX11_scene_219 : decode cX11_scene 219 = .ok (.iload 8, 2) := by decide +kernel
theorem dX11_scene_221 : decode cX11_scene 221 = .ok (.aaload, 1) := by decide +kernel
theorem dX11_scene_222 : decode cX11_scene 222 = .ok (.iconst 2, 1) := by decide +kernel
theorem dX11_scene_223 : decode cX11_scene 223 = .ok (.iaload, 1) := by decide +kernel
theorem dX11_scene_224 : decode cX11_scene 224 = .ok (.iconst (-1), 1) := by decide +kernel
theorem dX11_scene_225 : decode cX11_scene 225 = .ok (.if_icmp .eq 7, 3) := by decide +kernel
theorem dX11_scene_228 : decode cX11_scene 228 = .ok (.iconst 1, 1) := by decide +kernel
theorem dX11_scene_229 : decode cX11_scene 229 = .ok (.goto 4, 3) := by decide +kernel
theorem dX11_scene_232 : decode cX11_scene 232 = .ok (.iconst 0, 1) := by decide +kernel
theorem dX11_scene_233 : decode cX11_scene 233 = .ok (.ior, 1) := by decide +kernel
theorem dX11_scene_234 : decode cX11_scene 234 = .ok (.istore 7, 2) := by decide +kernel
theorem dX11_scene_236 : decode cX11_scene 236 = .ok (.iinc 8 1, 3) := by decide +kernel
theorem dX11_scene_239 : decode cX11_scene 239 = .ok (.goto (-41), 3) := by decide +kernel
theorem dX11_scene_242 : decode cX11_scene 242 = .ok (.iload 7, 2) := by decide +kernel
theorem dX11_scene_244 : decode cX11_scene 244 = .ok (.ifCond .ne 22, 3) := by decide +kernel
theorem dX11_scene_247 : decode cX11_scene 247 = .ok (.aload_n 0, 1) := by decide +kernel
theorem dX11_scene_248 : decode cX11_scene 248 = .ok (.getfield 10, 3) := by decide +kernel
theorem dX11_scene_251 : decode cX11_scene 251 = .ok (.aload_n 0, 1) := by decide +kernel
theorem dX11_scene_252 : decode cX11_scene 252 = .ok (.getfield 10, 3) := by decide +kernel
theorem dX11_scene_255 : decode cX11_scene 255 = .ok (.getfield 33, 3) := by decide +kernel
theorem dX11_scene_258 : decode cX11_scene 258 = .ok (.iload 4, 2) := by decide +kernel
theorem dX11_scene_260 : decode cX11_scene 260 = .ok (.invokevirtual 82, 3) := by decide +kernel
theorem dX11_scene_263 : decode cX11_scene 263 = .ok (.ifCond .eq 9, 3) := by decide +kernel
theorem dX11_scene_266 : decode cX11_scene 266 = .ok (.aload_n 0, 1) := by decide +kernel
theorem dX11_scene_267 : decode cX11_scene 267 = .ok (.iconst 3, 1) := by decide +kernel
theorem dX11_scene_268 : decode cX11_scene 268 = .ok (.invokevirtual 39, 3) := by decide +kernel
theorem dX11_scene_271 : decode cX11_scene 271 = .ok (.ireturn, 1) := by decide +kernel
theorem dX11_scene_272 : decode cX11_scene 272 = .ok (.aload_n 0, 1) := by decide +kernel
theorem dX11_scene_273 : decode cX11_scene 273 = .ok (.getfield 10, 3) := by decide +kernel
theorem dX11_scene_276 : decode cX11_scene 276 = .ok (.dup, 1) := by decide +kernel
theorem dX11_scene_277 : decode cX11_scene 277 = .ok (.getfield 33, 3) := by decide +kernel
theorem dX11_scene_280 : decode cX11_scene 280 = .ok (.dup_x1, 1) := by decide +kernel
theorem dX11_scene_281 : decode cX11_scene 281 = .ok (.iconst 1, 1) := by decide +kernel
theorem dX11_scene_282 : decode cX11_scene 282 = .ok (.iadd, 1) := by decide +kernel
theorem dX11_scene_283 : decode cX11_scene 283 = .ok (.putfield 33, 3) := by decide +kernel
theorem dX11_scene_286 : decode cX11_scene 286 = .ok (.ireturn, 1) := by decide +kernel
theorem dX11_guest_0 : decode cX11_guest 0 = .ok (.aload_n 0, 1) := by decide +kernel
theorem dX11_guest_1 : decode cX11_guest 1 = .ok (.iconst 0, 1) := by decide +kernel
theorem dX11_guest_2 : decode cX11_guest 2 = .ok (.putfield 16, 3) := by decide +kernel
theorem dX11_guest_5 : decode cX11_guest 5 = .ok (.aload_n 0, 1) := by decide +kernel
theorem dX11_guest_6 : decode cX11_guest 6 = .ok (.iload_n 1, 1) := by decide +kernel
theorem dX11_guest_7 : decode cX11_guest 7 = .ok (.invokevirtual 50, 3) := by decide +kernel
theorem dX11_guest_10 : decode cX11_guest 10 = .ok (.ifCond .ne 9, 3) := by decide +kernel
theorem dX11_guest_13 : decode cX11_guest 13 = .ok (.aload_n 0, 1) := by decide +kernel
theorem dX11_guest_14 : decode cX11_guest 14 = .ok (.iconst 1, 1) := by decide +kernel
theorem dX11_guest_15 : decode cX11_guest 15 = .ok (.invokevirtual 39, 3) := by decide +kernel
theorem dX11_guest_18 : decode cX11_guest 18 = .ok (.ireturn, 1) := by decide +kernel
theorem dX11_guest_19 : decode cX11_guest 19 = .ok (.aload_n 0, 1) := by decide +kernel
theorem dX11_guest_20 : decode cX11_guest 20 = .ok (.getfield 10, 3) := by decide +kernel
theorem dX11_guest_23 : decode cX11_guest 23 = .ok (.getfield 36, 3) := by decide +kernel
theorem dX11_guest_26 : decode cX11_guest 26 = .ok (.bipush 12, 2) := by decide +kernel
theorem dX11_guest_28 : decode cX11_guest 28 = .ok (.if_icmp .eq 23, 3) := by decide +kernel
theorem dX11_guest_31 : decode cX11_guest 31 = .ok (.aload_n 0, 1) := by decide +kernel
theorem dX11_guest_32 : decode cX11_guest 32 = .ok (.getfield 10, 3) := by decide +kernel
theorem dX11_guest_35 : decode cX11_guest 35 = .ok (.iload_n 1, 1) := by decide +kernel
theorem dX11_guest_36 : decode cX11_guest 36 = .ok (.invokevirtual 86, 3) := by decide +kernel
theorem dX11_guest_39 : decode cX11_guest 39 = .ok (.aload_n 0, 1) := by decide +kernel
theorem dX11_guest_40 : decode cX11_guest 40 = .ok (.getfield 10, 3) := by decide +kernel
theorem dX11_guest_43 : decode cX11_guest 43 = .ok (.getfield 43, 3) := by decide +kernel
theorem dX11_guest_46 : decode cX11_guest 46 = .ok (.iload_n 1, 1) := by decide +kernel
theorem dX11_guest_47 : decode cX11_guest 47 = .ok (.iaload, 1) := by decide +kernel
theorem dX11_guest_48 : decode cX11_guest 48 = .ok (.if_icmp .lt 9, 3) := by decide +kernel
theorem dX11_guest_51 : decode cX11_guest 51 = .ok (.aload_n 0, 1) := by decide +kernel
theorem dX11_guest_52 : decode cX11_guest 52 = .ok (.iconst 2, 1) := by decide +kernel
theorem dX11_guest_53 : decode cX11_guest 53 = .ok (.invokevirtual 39, 3) := by decide +kernel
theorem dX11_guest_56 : decode cX11_guest 56 = .ok (.ireturn, 1) := by decide +kernel
theorem dX11_guest_57 : decode cX11_guest 57 = .ok (.bipush 7, 2) := by decide +kernel
theorem dX11_guest_59 : decode cX11_guest 59 = .ok (.newarray .int, 2) := by decide +kernel
theorem dX11_guest_61 : decode cX11_guest 61 = .ok (.dup, 1) := by decide +kernel
theorem dX11_guest_62 : decode cX11_guest 62 = .ok (.iconst 0, 1) := by decide +kernel
theorem dX11_guest_63 : decode cX11_guest 63 = .ok (.iconst 0, 1) := by decide +kernel
theorem dX11_guest_64 : decode cX11_guest 64 = .ok (.iastore, 1) := by decide +kernel
theorem dX11_guest_65 : decode cX11_guest 65 = .ok (.dup, 1) := by decide +kernel
theorem dX11_guest_66 : decode cX11_guest 66 = .ok (.iconst 1, 1) := by decide +kernel
theorem dX11_guest_67 : decode cX11_guest 67 = .ok (.iload_n 1, 1) := by decide +kernel
theorem dX11_guest_68 : decode cX11_guest 68 = .ok (.iastore, 1) := by decide +kernel
theorem dX11_guest_69 : decode cX11_guest 69 = .ok (.dup, 1) := by decide +kernel
theorem dX11_guest_70 : decode cX11_guest 70 = .ok (.iconst 2, 1) := by decide +kernel
theorem dX11_guest_71 : decode cX11_guest 71 = .ok (.iconst (-1), 1) := by decide +kernel
theorem dX11_guest_72 : decode cX11_guest 72 = .ok (.iastore, 1) := by decide +kernel
theorem dX11_guest_73 : decode cX11_guest 73 = .ok (.dup, 1) := by decide +kernel
theorem dX11_guest_74 : decode cX11_guest 74 = .ok (.iconst 3, 1) := by decide +kernel
theorem dX11_guest_75 : decode cX11_guest 75 = .ok (.iconst (-1), 1) := by decide +kernel
theorem dX11_guest_76 : decode cX11_guest 76 = .ok (.iastore, 1) := by decide +kernel
theorem dX11_guest_77 : decode cX11_guest 77 = .ok (.dup, 1) := by decide +kernel
theorem dX11_guest_78 : decode cX11_guest 78 = .ok (.iconst 4, 1) := by decide +kernel
theorem dX11_guest_79 : decode cX11_guest 79 = .ok (.iconst 0, 1) := by decide +kernel
theorem dX11_guest_80 : decode cX11_guest 80 = .ok (.iastore, 1) := by decide +kernel
theorem dX11_guest_81 : decode cX11_guest 81 = .ok (.dup, 1) := by decide +kernel
theorem dX11_guest_82 : decode cX11_guest 82 = .ok (.iconst 5, 1) := by decide +kernel
theorem dX11_guest_83 : decode cX11_guest 83 = .ok (.iconst 0, 1) := by decide +kernel
theorem dX11_guest_84 : decode cX11_guest 84 = .ok (.iastore, 1) := by decide +kernel
theorem dX11_guest_85 : decode cX11_guest 85 = .ok (.dup, 1) := by decide +kernel
theorem dX11_guest_86 : decode cX11_guest 86 = .ok (.bipush 6, 2) := by decide +kernel
theorem dX11_guest_88 : decode cX11_guest 88 = .ok (.iconst 0, 1) := by decide +kernel
theorem dX11_guest_89 : decode cX11_guest 89 = .ok (.iastore, 1) := by decide +kernel
theorem dX11_guest_90 : decode cX11_guest 90 = .ok (.astore_n 2, 1) := by decide +kernel
theorem dX11_guest_91 : decode cX11_guest 91 = .ok (.aload_n 2, 1) := by decide +kernel
theorem dX11_guest_92 : decode cX11_guest 92 = .ok (.iconst 0, 1) := by decide +kernel
theorem dX11_guest_93 : decode cX11_guest 93 = .ok (.aload_n 0, 1) := by decide +kernel
theorem dX11_guest_94 : decode cX11_guest 94 = .ok (.getfield 10, 3) := by decide +kernel
theorem dX11_guest_97 : decode cX11_guest 97 = .ok (.getfield 89, 3) := by decide +kernel
theorem dX11_guest_100 : decode cX11_guest 100 = .ok (.aload_n 0, 1) := by decide +kernel
theorem dX11_guest_101 : decode cX11_guest 101 = .ok (.getfield 10, 3) := by decide +kernel
theorem dX11_guest_104 : decode cX11_guest 104 = .ok (.getfield 36, 3) := by decide +kernel
theorem dX11_guest_107 : decode cX11_guest 107 = .ok (.aaload, 1) := by decide +kernel
theorem dX11_guest_108 : decode cX11_guest 108 = .ok (.iconst 0, 1) := by decide +kernel
theorem dX11_guest_109 : decode cX11_guest 109 = .ok (.bipush 7, 2) := by decide +kernel
theorem dX11_guest_111 : decode cX11_guest 111 = .ok (.invokestatic 64, 3) := by decide +kernel
theorem dX11_guest_114 : decode cX11_guest 114 = .ok (.aload_n 0, 1) := by decide +kernel
theorem dX11_guest_115 : decode cX11_guest 115 = .ok (.getfield 10, 3) := by decide +kernel
theorem dX11_guest_118 : decode cX11_guest 118 = .ok (.dup, 1) := by decide +kernel
theorem dX11_guest_119 : decode cX11_guest 119 = .ok (.getfield 36, 3) := by decide +kernel
theorem dX11_guest_122 : decode cX11_guest 122 = .ok (.dup_x1, 1) := by decide +kernel
theorem dX11_guest_123 : decode cX11_guest 123 = .ok (.iconst 1, 1) := by decide +kernel
theorem dX11_guest_124 : decode cX11_guest 124 = .ok (.iadd, 1) := by decide +kernel
theorem dX11_guest_125 : decode cX11_guest 125 = .ok (.putfield 36, 3) := by decide +kernel
theorem dX11_guest_128 : decode cX11_guest 128 = .ok (.ireturn, 1) := by decide +kernel
theorem dX11_habit_0 : decode cX11_habit 0 = .ok (.aload_n 0, 1) := by decide +kernel
theorem dX11_habit_1 : decode cX11_habit 1 = .ok (.iconst 0, 1) := by decide +kernel
theorem dX11_habit_2 : decode cX11_habit 2 = .ok (.putfield 16, 3) := by decide +kernel
theorem dX11_habit_5 : decode cX11_habit 5 = .ok (.aload_n 0, 1) := by decide +kernel
theorem dX11_habit_6 : decode cX11_habit 6 = .ok (.iload_n 1, 1) := by decide +kernel
theorem dX11_habit_7 : decode cX11_habit 7 = .ok (.invokevirtual 92, 3) := by decide +kernel
theorem dX11_habit_10 : decode cX11_habit 10 = .ok (.ifCond .eq 16, 3) := by decide +kernel
theorem dX11_habit_13 : decode cX11_habit 13 = .ok (.iload_n 2, 1) := by decide +kernel
theorem dX11_habit_14 : decode cX11_habit 14 = .ok (.iconst 1, 1) := by decide +kernel
theorem dX11_habit_15 : decode cX11_habit 15 = .ok (.if_icmp .ne 17, 3) := by decide +kernel
theorem dX11_habit_18 : decode cX11_habit 18 = .ok (.aload_n 0, 1) := by decide +kernel
theorem dX11_habit_19 : decode cX11_habit 19 = .ok (.iload_n 3, 1) := by decide +kernel
theorem dX11_habit_20 : decode cX11_habit 20 = .ok (.invokevirtual 95, 3) := by decide +kernel
theorem dX11_habit_23 : decode cX11_habit 23 = .ok (.ifCond .ne 9, 3) := by decide +kernel
theorem dX11_habit_26 : decode cX11_habit 26 = .ok (.aload_n 0, 1) := by decide +kernel
theorem dX11_habit_27 : decode cX11_habit 27 = .ok (.iconst 1, 1) := by decide +kernel
theorem dX11_habit_28 : decode cX11_habit 28 = .ok (.invokevirtual 39, 3) := by decide +kernel
theorem dX11_habit_31 : decode cX11_habit 31 = .ok (.ireturn, 1) := by decide +kernel
theorem dX11_habit_32 : decode cX11_habit 32 = .ok (.iload_n 2, 1) := by decide +kernel
theorem dX11_habit_33 : decode cX11_habit 33 = .ok (.iconst 0, 1) := by decide +kernel
theorem dX11_habit_34 : decode cX11_habit 34 = .ok (.iconst 3, 1) := by decide +kernel
theorem dX11_habit_35 : decode cX11_habit 35 = .ok (.invokestatic 23, 3) := by decide +kernel
theorem dX11_habit_38 : decode cX11_habit 38 = .ok (.ifCond .ne 9, 3) := by decide +kernel
theorem dX11_habit_41 : decode cX11_habit 41 = .ok (.aload_n 0, 1) := by decide +kernel
theorem dX11_habit_42 : decode cX11_habit 42 = .ok (.iconst 2, 1) := by decide +kernel
theorem dX11_habit_43 : decode cX11_habit 43 = .ok (.invokevirtual 39, 3) := by decide +kernel
theorem dX11_habit_46 : decode cX11_habit 46 = .ok (.ireturn, 1) := by decide +kernel
theorem dX11_habit_47 : decode cX11_habit 47 = .ok (.aload_n 0, 1) := by decide +kernel
theorem dX11_habit_48 : decode cX11_habit 48 = .ok (.getfield 10, 3) := by decide +kernel
theorem dX11_habit_51 : decode cX11_habit 51 = .ok (.getfield 89, 3) := by decide +kernel
theorem dX11_habit_54 : decode cX11_habit 54 = .ok (.iload_n 1, 1) := by decide +kernel
theorem dX11_habit_55 : decode cX11_habit 55 = .ok (.aaload, 1) := by decide +kernel
theorem dX11_habit_56 : decode cX11_habit 56 = .ok (.iconst 0, 1) := by decide +kernel
theorem dX11_habit_57 : decode cX11_habit 57 = .ok (.iaload, 1) := by decide +kernel
theorem dX11_habit_58 : decode cX11_habit 58 = .ok (.istore 4, 2) := by decide +kernel
theorem dX11_habit_60 : decode cX11_habit 60 = .ok (.aload_n 0, 1) := by decide +kernel
theorem dX11_habit_61 : decode cX11_habit 61 = .ok (.getfield 10, 3) := by decide +kernel
theorem dX11_habit_64 : decode cX11_habit 64 = .ok (.getfield 89, 3) := by decide +kernel
theorem dX11_habit_67 : decode cX11_habit 67 = .ok (.iload_n 1, 1) := by decide +kernel
theorem dX11_habit_68 : decode cX11_habit 68 = .ok (.aaload, 1) := by decide +kernel
theorem dX11_habit_69 : decode cX11_habit 69 = .ok (.iconst 0, 1) := by decide +kernel
theorem dX11_habit_70 : decode cX11_habit 70 = .ok (.iload_n 2, 1) := by decide +kernel
theorem dX11_habit_71 : decode cX11_habit 71 = .ok (.iastore, 1) := by decide +kernel
theorem dX11_habit_72 : decode cX11_habit 72 = .ok (.aload_n 0, 1) := by decide +kernel
theorem dX11_habit_73 : decode cX11_habit 73 = .ok (.getfield 10, 3) := by decide +kernel
theorem dX11_habit_76 : decode cX11_habit 76 = .ok (.getfield 89, 3) := by decide +kernel
theorem dX11_habit_79 : decode cX11_habit 79 = .ok (.iload_n 1, 1) := by decide +kernel
theorem dX11_habit_80 : decode cX11_habit 80 = .ok (.aaload, 1) := by decide +kernel
theorem dX11_habit_81 : decode cX11_habit 81 = .ok (.iconst 2, 1) := by decide +kernel
theorem dX11_habit_82 : decode cX11_habit 82 = .ok (.iload_n 2, 1) := by decide +kernel
theorem dX11_habit_83 : decode cX11_habit 83 = .ok (.iconst 1, 1) := by decide +kernel
theorem dX11_habit_84 : decode cX11_habit 84 = .ok (.if_icmp .ne 7, 3) := by decide +kernel
theorem dX11_habit_87 : decode cX11_habit 87 = .ok (.iload_n 3, 1) := by decide +kernel
theorem dX11_habit_88 : decode cX11_habit 88 = .ok (.goto 4, 3) := by decide +kernel
theorem dX11_habit_91 : decode cX11_habit 91 = .ok (.iconst (-1), 1) := by decide +kernel
theorem dX11_habit_92 : decode cX11_habit 92 = .ok (.iastore, 1) := by decide +kernel
theorem dX11_habit_93 : decode cX11_habit 93 = .ok (.iload 4, 2) := by decide +kernel
theorem dX11_habit_95 : decode cX11_habit 95 = .ok (.ireturn, 1) := by decide +kernel
theorem dX11_pass_0 : decode cX11_pass 0 = .ok (.aload_n 0, 1) := by decide +kernel
theorem dX11_pass_1 : decode cX11_pass 1 = .ok (.iconst 0, 1) := by decide +kernel
theorem dX11_pass_2 : decode cX11_pass 2 = .ok (.putfield 16, 3) := by decide +kernel
theorem dX11_pass_5 : decode cX11_pass 5 = .ok (.iload_n 1, 1) := by decide +kernel
theorem dX11_pass_6 : decode cX11_pass 6 = .ok (.iconst 1, 1) := by decide +kernel
theorem dX11_pass_7 : decode cX11_pass 7 = .ok (.bipush 60, 2) := by decide +kernel
theorem dX11_pass_9 : decode cX11_pass 9 = .ok (.invokestatic 23, 3) := by decide +kernel
theorem dX11_pass_12 : decode cX11_pass 12 = .ok (.ifCond .ne 9, 3) := by decide +kernel
theorem dX11_pass_15 : decode cX11_pass 15 = .ok (.aload_n 0, 1) := by decide +kernel
theorem dX11_pass_16 : decode cX11_pass 16 = .ok (.iconst 1, 1) := by decide +kernel
theorem dX11_pass_17 : decode cX11_pass 17 = .ok (.invokevirtual 39, 3) := by decide +kernel
theorem dX11_pass_20 : decode cX11_pass 20 = .ok (.ireturn, 1) := by decide +kernel
theorem dX11_pass_21 : decode cX11_pass 21 = .ok (.aload_n 0, 1) := by decide +kernel
theorem dX11_pass_22 : decode cX11_pass 22 = .ok (.getfield 10, 3) := by decide +kernel
theorem dX11_pass_25 : decode cX11_pass 25 = .ok (.getfield 76, 3) := by decide +kernel
theorem dX11_pass_28 : decode cX11_pass 28 = .ok (.iload_n 1, 1) := by decide +kernel
theorem dX11_pass_29 : decode cX11_pass 29 = .ok (.iadd, 1) := by decide +kernel
theorem dX11_pass_30 : decode cX11_pass 30 = .ok (.sipush 600, 3) := by decide +kernel
theorem dX11_pass_33 : decode cX11_pass 33 = .ok (.if_icmp .le 9, 3) := by decide +kernel
theorem dX11_pass_36 : decode cX11_pass 36 = .ok (.aload_n 0, 1) := by decide +kernel
theorem dX11_pass_37 : decode cX11_pass 37 = .ok (.iconst 2, 1) := by decide +kernel
theorem dX11_pass_38 : decode cX11_pass 38 = .ok (.invokevirtual 39, 3) := by decide +kernel
theorem dX11_pass_41 : decode cX11_pass 41 = .ok (.ireturn, 1) := by decide +kernel
theorem dX11_pass_42 : decode cX11_pass 42 = .ok (.iconst 0, 1) := by decide +kernel
theorem dX11_pass_43 : decode cX11_pass 43 = .ok (.istore_n 2, 1) := by decide +kernel
theorem dX11_pass_44 : decode cX11_pass 44 = .ok (.iconst 0, 1) := by decide +kernel
theorem dX11_pass_45 : decode cX11_pass 45 = .ok (.istore_n 3, 1) := by decide +kernel
theorem dX11_pass_46 : decode cX11_pass 46 = .ok (.iload_n 3, 1) := by decide +kernel
theorem dX11_pass_47 : decode cX11_pass 47 = .ok (.iload_n 1, 1) := by decide +kernel
theorem dX11_pass_48 : decode cX11_pass 48 = .ok (.if_icmp .ge 19, 3) := by decide +kernel
theorem dX11_pass_51 : decode cX11_pass 51 = .ok (.iload_n 2, 1) := by decide +kernel
theorem dX11_pass_52 : decode cX11_pass 52 = .ok (.aload_n 0, 1) := by decide +kernel
theorem dX11_pass_53 : decode cX11_pass 53 = .ok (.getfield 10, 3) := by decide +kernel
theorem dX11_pass_56 : decode cX11_pass 56 = .ok (.invokevirtual 98, 3) := by decide +kernel
theorem dX11_pass_59 : decode cX11_pass 59 = .ok (.iadd, 1) := by decide +kernel
theorem dX11_pass_60 : decode cX11_pass 60 = .ok (.istore_n 2, 1) := by decide +kernel
theorem dX11_pass_61 : decode cX11_pass 61 = .ok (.iinc 3 1, 3) := by decide +kernel
theorem dX11_pass_64 : decode cX11_pass 64 = .ok (.goto (-18), 3) := by decide +kernel
theorem dX11_pass_67 : decode cX11_pass 67 = .ok (.iload_n 2, 1) := by decide +kernel
theorem dX11_pass_68 : decode cX11_pass 68 = .ok (.ireturn, 1) := by decide +kernel
theorem dX11_take_0 : decode cX11_take 0 = .ok (.aload_n 0, 1) := by decide +kernel
theorem dX11_take_1 : decode cX11_take 1 = .ok (.iconst 0, 1) := by decide +kernel
theorem dX11_take_2 : decode cX11_take 2 = .ok (.putfield 16, 3) := by decide +kernel
theorem dX11_take_5 : decode cX11_take 5 = .ok (.aload_n 0, 1) := by decide +kernel
theorem dX11_take_6 : decode cX11_take 6 = .ok (.iload_n 1, 1) := by decide +kernel
theorem dX11_take_7 : decode cX11_take 7 = .ok (.invokevirtual 92, 3) := by decide +kernel
theorem dX11_take_10 : decode cX11_take 10 = .ok (.ifCond .eq 11, 3) := by decide +kernel
theorem dX11_take_13 : decode cX11_take 13 = .ok (.aload_n 0, 1) := by decide +kernel
theorem dX11_take_14 : decode cX11_take 14 = .ok (.iload_n 2, 1) := by decide +kernel
theorem dX11_take_15 : decode cX11_take 15 = .ok (.invokevirtual 73, 3) := by decide +kernel
theorem dX11_take_18 : decode cX11_take 18 = .ok (.ifCond .ne 9, 3) := by decide +kernel
theorem dX11_take_21 : decode cX11_take 21 = .ok (.aload_n 0, 1) := by decide +kernel
theorem dX11_take_22 : decode cX11_take 22 = .ok (.iconst 1, 1) := by decide +kernel
theorem dX11_take_23 : decode cX11_take 23 = .ok (.invokevirtual 39, 3) := by decide +kernel
theorem dX11_take_26 : decode cX11_take 26 = .ok (.ireturn, 1) := by decide +kernel
theorem dX11_take_27 : decode cX11_take 27 = .ok (.aload_n 0, 1) := by decide +kernel
theorem dX11_take_28 : decode cX11_take 28 = .ok (.getfield 10, 3) := by decide +kernel
theorem dX11_take_31 : decode cX11_take 31 = .ok (.getfield 89, 3) := by decide +kernel
theorem dX11_take_34 : decode cX11_take 34 = .ok (.iload_n 1, 1) := by decide +kernel
theorem dX11_take_35 : decode cX11_take 35 = .ok (.aaload, 1) := by decide +kernel
theorem dX11_take_36 : decode cX11_take 36 = .ok (.astore_n 3, 1) := by decide +kernel
theorem dX11_take_37 : decode cX11_take 37 = .ok (.aload_n 3, 1) := by decide +kernel
theorem dX11_take_38 : decode cX11_take 38 = .ok (.iconst 3, 1) := by decide +kernel
theorem dX11_take_39 : decode cX11_take 39 = .ok (.iaload, 1) := by decide +kernel
theorem dX11_take_40 : decode cX11_take 40 = .ok (.iconst (-1), 1) := by decide +kernel
theorem dX11_take_41 : decode cX11_take 41 = .ok (.if_icmp .ne 21, 3) := by decide +kernel
theorem dX11_take_44 : decode cX11_take 44 = .ok (.aload_n 0, 1) := by decide +kernel
theorem dX11_take_45 : decode cX11_take 45 = .ok (.getfield 10, 3) := by decide +kernel
theorem dX11_take_48 : decode cX11_take 48 = .ok (.iload_n 2, 1) := by decide +kernel
theorem dX11_take_49 : decode cX11_take 49 = .ok (.aload_n 3, 1) := by decide +kernel
theorem dX11_take_50 : decode cX11_take 50 = .ok (.iconst 1, 1) := by decide +kernel
theorem dX11_take_51 : decode cX11_take 51 = .ok (.iaload, 1) := by decide +kernel
theorem dX11_take_52 : decode cX11_take 52 = .ok (.invokevirtual 102, 3) := by decide +kernel
theorem dX11_take_55 : decode cX11_take 55 = .ok (.ifCond .eq 7, 3) := by decide +kernel
theorem dX11_take_58 : decode cX11_take 58 = .ok (.iconst 1, 1) := by decide +kernel
theorem dX11_take_59 : decode cX11_take 59 = .ok (.goto 4, 3) := by decide +kernel
theorem dX11_take_62 : decode cX11_take 62 = .ok (.iconst 0, 1) := by decide +kernel
theorem dX11_take_63 : decode cX11_take 63 = .ok (.istore 4, 2) := by decide +kernel
theorem dX11_take_65 : decode cX11_take 65 = .ok (.iconst 0, 1) := by decide +kernel
theorem dX11_take_66 : decode cX11_take 66 = .ok (.istore 5, 2) := by decide +kernel
theorem dX11_take_68 : decode cX11_take 68 = .ok (.iload 5, 2) := by decide +kernel
theorem dX11_take_70 : decode cX11_take 70 = .ok (.aload_n 0, 1) := by decide +kernel
theorem dX11_take_71 : decode cX11_take 71 = .ok (.getfield 10, 3) := by decide +kernel
theorem dX11_take_74 : decode cX11_take 74 = .ok (.getfield 33, 3) := by decide +kernel
theorem dX11_take_77 : decode cX11_take 77 = .ok (.if_icmp .ge 53, 3) := by decide +kernel
theorem dX11_take_80 : decode cX11_take 80 = .ok (.iload 4, 2) := by decide +kernel
theorem dX11_take_82 : decode cX11_take 82 = .ok (.aload_n 0, 1) := by decide +kernel
theorem dX11_take_83 : decode cX11_take 83 = .ok (.getfield 10, 3) := by decide +kernel
theorem dX11_take_86 : decode cX11_take 86 = .ok (.aload_n 3, 1) := by decide +kernel
theorem dX11_take_87 : decode cX11_take 87 = .ok (.iconst 1, 1) := by decide +kernel
theorem dX11_take_88 : decode cX11_take 88 = .ok (.iaload, 1) := by decide +kernel
theorem dX11_take_89 : decode cX11_take 89 = .ok (.invokevirtual 105, 3) := by decide +kernel
theorem dX11_take_92 : decode cX11_take 92 = .ok (.iload 5, 2) := by decide +kernel
theorem dX11_take_94 : decode cX11_take 94 = .ok (.invokestatic 108, 3) := by decide +kernel
theorem dX11_take_97 : decode cX11_take 97 = .ok (.ifCond .eq 19, 3) := by decide +kernel
theorem dX11_take_100 : decode cX11_take 100 = .ok (.aload_n 0, 1) := by decide +kernel
theorem dX11_take_101 : decode cX11_take 101 = .ok (.getfield 10, 3) := by decide +kernel
theorem dX11_take_104 : decode cX11_take 104 = .ok (.getfield 79, 3) := by decide +kernel
theorem dX11_take_107 : decode cX11_take 107 = .ok (.iload 5, 2) := by decide +kernel
theorem dX11_take_109 : decode cX11_take 109 = .ok (.aaload, 1) := by decide +kernel
theorem dX11_take_110 : decode cX11_take 110 = .ok (.iconst 4, 1) := by decide +kernel
theorem dX11_take_111 : decode cX11_take 111 = .ok (.iaload, 1) := by decide +kernel
theorem dX11_take_112 : decode cX11_take 112 = .ok (.iload_n 2, 1) := by decide +kernel
theorem dX11_take_113 : decode cX11_take 113 = .ok (.if_icmp .eq 7, 3) := by decide +kernel
theorem dX11_take_116 : decode cX11_take 116 = .ok (.iconst 1, 1) := by decide +kernel
theorem dX11_take_117 : decode cX11_take 117 = .ok (.goto 4, 3) := by decide +kernel
theorem dX11_take_120 : decode cX11_take 120 = .ok (.iconst 0, 1) := by decide +kernel
theorem dX11_take_121 : decode cX11_take 121 = .ok (.iand, 1) := by decide +kernel
theorem dX11_take_122 : decode cX11_take 122 = .ok (.istore 4, 2) := by decide +kernel
theorem dX11_take_124 : decode cX11_take 124 = .ok (.iinc 5 1, 3) := by decide +kernel
theorem dX11_take_127 : decode cX11_take 127 = .ok (.goto (-59), 3) := by decide +kernel
theorem dX11_take_130 : decode cX11_take 130 = .ok (.iload 4, 2) := by decide +kernel
theorem dX11_take_132 : decode cX11_take 132 = .ok (.ifCond .ne 9, 3) := by decide +kernel
theorem dX11_take_135 : decode cX11_take 135 = .ok (.aload_n 0, 1) := by decide +kernel
theorem dX11_take_136 : decode cX11_take 136 = .ok (.iconst 2, 1) := by decide +kernel
theorem dX11_take_137 : decode cX11_take 137 = .ok (.invokevirtual 39, 3) := by decide +kernel
theorem dX11_take_140 : decode cX11_take 140 = .ok (.ireturn, 1) := by decide +kernel
theorem dX11_take_141 : decode cX11_take 141 = .ok (.aload_n 3, 1) := by decide +kernel
theorem dX11_take_142 : decode cX11_take 142 = .ok (.iconst 3, 1) := by decide +kernel
theorem dX11_take_143 : decode cX11_take 143 = .ok (.iload_n 2, 1) := by decide +kernel
theorem dX11_take_144 : decode cX11_take 144 = .ok (.iastore, 1) := by decide +kernel
theorem dX11_take_145 : decode cX11_take 145 = .ok (.aload_n 0, 1) := by decide +kernel
theorem dX11_take_146 : decode cX11_take 146 = .ok (.getfield 10, 3) := by decide +kernel
theorem dX11_take_149 : decode cX11_take 149 = .ok (.getfield 70, 3) := by decide +kernel
theorem dX11_take_152 : decode cX11_take 152 = .ok (.iload_n 2, 1) := by decide +kernel
theorem dX11_take_153 : decode cX11_take 153 = .ok (.aaload, 1) := by decide +kernel
theorem dX11_take_154 : decode cX11_take 154 = .ok (.iconst 3, 1) := by decide +kernel
theorem dX11_take_155 : decode cX11_take 155 = .ok (.iload_n 1, 1) := by decide +kernel
theorem dX11_take_156 : decode cX11_take 156 = .ok (.iastore, 1) := by decide +kernel
theorem dX11_take_157 : decode cX11_take 157 = .ok (.aload_n 0, 1) := by decide +kernel
theorem dX11_take_158 : decode cX11_take 158 = .ok (.getfield 10, 3) := by decide +kernel
theorem dX11_take_161 : decode cX11_take 161 = .ok (.getfield 70, 3) := by decide +kernel
theorem dX11_take_164 : decode cX11_take 164 = .ok (.iload_n 2, 1) := by decide +kernel
theorem dX11_take_165 : decode cX11_take 165 = .ok (.aaload, 1) := by decide +kernel
theorem dX11_take_166 : decode cX11_take 166 = .ok (.iconst 4, 1) := by decide +kernel
theorem dX11_take_167 : decode cX11_take 167 = .ok (.dup2, 1) := by decide +kernel
theorem dX11_take_168 : decode cX11_take 168 = .ok (.iaload, 1) := by decide +kernel
theorem dX11_take_169 : decode cX11_take 169 = .ok (.iconst 1, 1) := by decide +kernel
theorem dX11_take_170 : decode cX11_take 170 = .ok (.iload_n 1, 1) := by decide +kernel
theorem dX11_take_171 : decode cX11_take 171 = .ok (.ishl, 1) := by decide +kernel
theorem dX11_take_172 : decode cX11_take 172 = .ok (.ior, 1) := by decide +kernel
theorem dX11_take_173 : decode cX11_take 173 = .ok (.iastore, 1) := by decide +kernel
theorem dX11_take_174 : decode cX11_take 174 = .ok (.aload_n 0, 1) := by decide +kernel
theorem dX11_take_175 : decode cX11_take 175 = .ok (.getfield 10, 3) := by decide +kernel
theorem dX11_take_178 : decode cX11_take 178 = .ok (.getfield 70, 3) := by decide +kernel
theorem dX11_take_181 : decode cX11_take 181 = .ok (.iload_n 2, 1) := by decide +kernel
theorem dX11_take_182 : decode cX11_take 182 = .ok (.aaload, 1) := by decide +kernel
theorem dX11_take_183 : decode cX11_take 183 = .ok (.iconst 4, 1) := by decide +kernel
theorem dX11_take_184 : decode cX11_take 184 = .ok (.iaload, 1) := by decide +kernel
theorem dX11_take_185 : decode cX11_take 185 = .ok (.invokestatic 111, 3) := by decide +kernel
theorem dX11_take_188 : decode cX11_take 188 = .ok (.ireturn, 1) := by decide +kernel
theorem dX11_leave_0 : decode cX11_leave 0 = .ok (.aload_n 0, 1) := by decide +kernel
theorem dX11_leave_1 : decode cX11_leave 1 = .ok (.iconst 0, 1) := by decide +kernel
theorem dX11_leave_2 : decode cX11_leave 2 = .ok (.putfield 16, 3) := by decide +kernel
theorem dX11_leave_5 : decode cX11_leave 5 = .ok (.aload_n 0, 1) := by decide +kernel
theorem dX11_leave_6 : decode cX11_leave 6 = .ok (.iload_n 1, 1) := by decide +kernel
theorem dX11_leave_7 : decode cX11_leave 7 = .ok (.invokevirtual 92, 3) := by decide +kernel
theorem dX11_leave_10 : decode cX11_leave 10 = .ok (.ifCond .ne 9, 3) := by decide +kernel
theorem dX11_leave_13 : decode cX11_leave 13 = .ok (.aload_n 0, 1) := by decide +kernel
theorem dX11_leave_14 : decode cX11_leave 14 = .ok (.iconst 1, 1) := by decide +kernel
theorem dX11_leave_15 : decode cX11_leave 15 = .ok (.invokevirtual 39, 3) := by decide +kernel
theorem dX11_leave_18 : decode cX11_leave 18 = .ok (.ireturn, 1) := by decide +kernel
theorem dX11_leave_19 : decode cX11_leave 19 = .ok (.aload_n 0, 1) := by decide +kernel
theorem dX11_leave_20 : decode cX11_leave 20 = .ok (.getfield 10, 3) := by decide +kernel
theorem dX11_leave_23 : decode cX11_leave 23 = .ok (.getfield 89, 3) := by decide +kernel
theorem dX11_leave_26 : decode cX11_leave 26 = .ok (.iload_n 1, 1) := by decide +kernel
theorem dX11_leave_27 : decode cX11_leave 27 = .ok (.aaload, 1) := by decide +kernel
theorem dX11_leave_28 : decode cX11_leave 28 = .ok (.astore_n 2, 1) := by decide +kernel
theorem dX11_leave_29 : decode cX11_leave 29 = .ok (.aload_n 2, 1) := by decide +kernel
theorem dX11_leave_30 : decode cX11_leave 30 = .ok (.iconst 3, 1) := by decide +kernel
theorem dX11_leave_31 : decode cX11_leave 31 = .ok (.iaload, 1) := by decide +kernel
theorem dX11_leave_32 : decode cX11_leave 32 = .ok (.iconst (-1), 1) := by decide +kernel
theorem dX11_leave_33 : decode cX11_leave 33 = .ok (.if_icmp .ne 9, 3) := by decide +kernel
theorem dX11_leave_36 : decode cX11_leave 36 = .ok (.aload_n 0, 1) := by decide +kernel
theorem dX11_leave_37 : decode cX11_leave 37 = .ok (.iconst 2, 1) := by decide +kernel
theorem dX11_leave_38 : decode cX11_leave 38 = .ok (.invokevirtual 39, 3) := by decide +kernel
theorem dX11_leave_41 : decode cX11_leave 41 = .ok (.ireturn, 1) := by decide +kernel
theorem dX11_leave_42 : decode cX11_leave 42 = .ok (.aload_n 2, 1) := by decide +kernel
theorem dX11_leave_43 : decode cX11_leave 43 = .ok (.iconst 3, 1) := by decide +kernel
theorem dX11_leave_44 : decode cX11_leave 44 = .ok (.iaload, 1) := by decide +kernel
theorem dX11_leave_45 : decode cX11_leave 45 = .ok (.istore_n 3, 1) := by decide +kernel
theorem dX11_leave_46 : decode cX11_leave 46 = .ok (.aload_n 2, 1) := by decide +kernel
theorem dX11_leave_47 : decode cX11_leave 47 = .ok (.iconst 3, 1) := by decide +kernel
theorem dX11_leave_48 : decode cX11_leave 48 = .ok (.iconst (-1), 1) := by decide +kernel
theorem dX11_leave_49 : decode cX11_leave 49 = .ok (.iastore, 1) := by decide +kernel
theorem dX11_leave_50 : decode cX11_leave 50 = .ok (.aload_n 0, 1) := by decide +kernel
theorem dX11_leave_51 : decode cX11_leave 51 = .ok (.getfield 10, 3) := by decide +kernel
theorem dX11_leave_54 : decode cX11_leave 54 = .ok (.getfield 70, 3) := by decide +kernel
theorem dX11_leave_57 : decode cX11_leave 57 = .ok (.iload_n 3, 1) := by decide +kernel
theorem dX11_leave_58 : decode cX11_leave 58 = .ok (.aaload, 1) := by decide +kernel
theorem dX11_leave_59 : decode cX11_leave 59 = .ok (.iconst 3, 1) := by decide +kernel
theorem dX11_leave_60 : decode cX11_leave 60 = .ok (.iconst (-1), 1) := by decide +kernel
theorem dX11_leave_61 : decode cX11_leave 61 = .ok (.iastore, 1) := by decide +kernel
theorem dX11_leave_62 : decode cX11_leave 62 = .ok (.aload_n 0, 1) := by decide +kernel
theorem dX11_leave_63 : decode cX11_leave 63 = .ok (.getfield 10, 3) := by decide +kernel
theorem dX11_leave_66 : decode cX11_leave 66 = .ok (.getfield 70, 3) := by decide +kernel
theorem dX11_leave_69 : decode cX11_leave 69 = .ok (.iload_n 3, 1) := by decide +kernel
theorem dX11_leave_70 : decode cX11_leave 70 = .ok (.aaload, 1) := by decide +kernel
theorem dX11_leave_71 : decode cX11_leave 71 = .ok (.iconst 1, 1) := by decide +kernel
theorem dX11_leave_72 : decode cX11_leave 72 = .ok (.aload_n 2, 1) := by decide +kernel
theorem dX11_leave_73 : decode cX11_leave 73 = .ok (.iconst 1, 1) := by decide +kernel
theorem dX11_leave_74 : decode cX11_leave 74 = .ok (.iaload, 1) := by decide +kernel
theorem dX11_leave_75 : decode cX11_leave 75 = .ok (.iastore, 1) := by decide +kernel
theorem dX11_leave_76 : decode cX11_leave 76 = .ok (.iload_n 3, 1) := by decide +kernel
theorem dX11_leave_77 : decode cX11_leave 77 = .ok (.ireturn, 1) := by decide +kernel
theorem dX11_play_0 : decode cX11_play 0 = .ok (.aload_n 0, 1) := by decide +kernel
theorem dX11_play_1 : decode cX11_play 1 = .ok (.iconst 0, 1) := by decide +kernel
theorem dX11_play_2 : decode cX11_play 2 = .ok (.putfield 16, 3) := by decide +kernel
theorem dX11_play_5 : decode cX11_play 5 = .ok (.aload_n 0, 1) := by decide +kernel
theorem dX11_play_6 : decode cX11_play 6 = .ok (.iload_n 1, 1) := by decide +kernel
theorem dX11_play_7 : decode cX11_play 7 = .ok (.invokevirtual 95, 3) := by decide +kernel
theorem dX11_play_10 : decode cX11_play 10 = .ok (.ifCond .eq 11, 3) := by decide +kernel
theorem dX11_play_13 : decode cX11_play 13 = .ok (.aload_n 0, 1) := by decide +kernel
theorem dX11_play_14 : decode cX11_play 14 = .ok (.iload_n 2, 1) := by decide +kernel
theorem dX11_play_15 : decode cX11_play 15 = .ok (.invokevirtual 95, 3) := by decide +kernel
theorem dX11_play_18 : decode cX11_play 18 = .ok (.ifCond .ne 9, 3) := by decide +kernel
theorem dX11_play_21 : decode cX11_play 21 = .ok (.aload_n 0, 1) := by decide +kernel
theorem dX11_play_22 : decode cX11_play 22 = .ok (.iconst 1, 1) := by decide +kernel
theorem dX11_play_23 : decode cX11_play 23 = .ok (.invokevirtual 39, 3) := by decide +kernel
theorem dX11_play_26 : decode cX11_play 26 = .ok (.ireturn, 1) := by decide +kernel
theorem dX11_play_27 : decode cX11_play 27 = .ok (.iload_n 1, 1) := by decide +kernel
theorem dX11_play_28 : decode cX11_play 28 = .ok (.iload_n 2, 1) := by decide +kernel
theorem dX11_play_29 : decode cX11_play 29 = .ok (.if_icmp .ne 9, 3) := by decide +kernel
theorem dX11_play_32 : decode cX11_play 32 = .ok (.aload_n 0, 1) := by decide +kernel
theorem dX11_play_33 : decode cX11_play 33 = .ok (.iconst 2, 1) := by decide +kernel
theorem dX11_play_34 : decode cX11_play 34 = .ok (.invokevirtual 39, 3) := by decide +kernel
theorem dX11_play_37 : decode cX11_play 37 = .ok (.ireturn, 1) := by decide +kernel
theorem dX11_play_38 : decode cX11_play 38 = .ok (.aload_n 0, 1) := by decide +kernel
theorem dX11_play_39 : decode cX11_play 39 = .ok (.getfield 10, 3) := by decide +kernel
theorem dX11_play_42 : decode cX11_play 42 = .ok (.iload_n 1, 1) := by decide +kernel
theorem dX11_play_43 : decode cX11_play 43 = .ok (.iload_n 2, 1) := by decide +kernel
theorem dX11_play_44 : decode cX11_play 44 = .ok (.invokevirtual 114, 3) := by decide +kernel
theorem dX11_play_47 : decode cX11_play 47 = .ok (.ifCond .ne 9, 3) := by decide +kernel
theorem dX11_play_50 : decode cX11_play 50 = .ok (.aload_n 0, 1) := by decide +kernel
theorem dX11_play_51 : decode cX11_play 51 = .ok (.iconst 3, 1) := by decide +kernel
theorem dX11_play_52 : decode cX11_play 52 = .ok (.invokevirtual 39, 3) := by decide +kernel
theorem dX11_play_55 : decode cX11_play 55 = .ok (.ireturn, 1) := by decide +kernel
theorem dX11_play_56 : decode cX11_play 56 = .ok (.aload_n 0, 1) := by decide +kernel
theorem dX11_play_57 : decode cX11_play 57 = .ok (.getfield 10, 3) := by decide +kernel
theorem dX11_play_60 : decode cX11_play 60 = .ok (.getfield 61, 3) := by decide +kernel
theorem dX11_play_63 : decode cX11_play 63 = .ok (.iload_n 1, 1) := by decide +kernel
theorem dX11_play_64 : decode cX11_play 64 = .ok (.aaload, 1) := by decide +kernel
theorem dX11_play_65 : decode cX11_play 65 = .ok (.iconst 2, 1) := by decide +kernel
theorem dX11_play_66 : decode cX11_play 66 = .ok (.iload_n 2, 1) := by decide +kernel
theorem dX11_play_67 : decode cX11_play 67 = .ok (.iastore, 1) := by decide +kernel
theorem dX11_play_68 : decode cX11_play 68 = .ok (.aload_n 0, 1) := by decide +kernel
theorem dX11_play_69 : decode cX11_play 69 = .ok (.getfield 10, 3) := by decide +kernel
theorem dX11_play_72 : decode cX11_play 72 = .ok (.iload_n 1, 1) := by decide +kernel
theorem dX11_play_73 : decode cX11_play 73 = .ok (.invokevirtual 117, 3) := by decide +kernel
theorem dX11_play_76 : decode cX11_play 76 = .ok (.aload_n 0, 1) := by decide +kernel
theorem dX11_play_77 : decode cX11_play 77 = .ok (.getfield 10, 3) := by decide +kernel
theorem dX11_play_80 : decode cX11_play 80 = .ok (.iload_n 2, 1) := by decide +kernel
theorem dX11_play_81 : decode cX11_play 81 = .ok (.invokevirtual 117, 3) := by decide +kernel
theorem dX11_play_84 : decode cX11_play 84 = .ok (.iadd, 1) := by decide +kernel
theorem dX11_play_85 : decode cX11_play 85 = .ok (.ireturn, 1) := by decide +kernel
theorem dX11_part_0 : decode cX11_part 0 = .ok (.aload_n 0, 1) := by decide +kernel
theorem dX11_part_1 : decode cX11_part 1 = .ok (.iconst 0, 1) := by decide +kernel
theorem dX11_part_2 : decode cX11_part 2 = .ok (.putfield 16, 3) := by decide +kernel
theorem dX11_part_5 : decode cX11_part 5 = .ok (.aload_n 0, 1) := by decide +kernel
theorem dX11_part_6 : decode cX11_part 6 = .ok (.iload_n 1, 1) := by decide +kernel
theorem dX11_part_7 : decode cX11_part 7 = .ok (.invokevirtual 95, 3) := by decide +kernel
theorem dX11_part_10 : decode cX11_part 10 = .ok (.ifCond .ne 9, 3) := by decide +kernel
theorem dX11_part_13 : decode cX11_part 13 = .ok (.aload_n 0, 1) := by decide +kernel
theorem dX11_part_14 : decode cX11_part 14 = .ok (.iconst 1, 1) := by decide +kernel
theorem dX11_part_15 : decode cX11_part 15 = .ok (.invokevirtual 39, 3) := by decide +kernel
theorem dX11_part_18 : decode cX11_part 18 = .ok (.ireturn, 1) := by decide +kernel
theorem dX11_part_19 : decode cX11_part 19 = .ok (.aload_n 0, 1) := by decide +kernel
theorem dX11_part_20 : decode cX11_part 20 = .ok (.getfield 10, 3) := by decide +kernel
theorem dX11_part_23 : decode cX11_part 23 = .ok (.getfield 61, 3) := by decide +kernel
theorem dX11_part_26 : decode cX11_part 26 = .ok (.iload_n 1, 1) := by decide +kernel
theorem dX11_part_27 : decode cX11_part 27 = .ok (.aaload, 1) := by decide +kernel
theorem dX11_part_28 : decode cX11_part 28 = .ok (.iconst 2, 1) := by decide +kernel
theorem dX11_part_29 : decode cX11_part 29 = .ok (.iaload, 1) := by decide +kernel
theorem dX11_part_30 : decode cX11_part 30 = .ok (.istore_n 2, 1) := by decide +kernel
theorem dX11_part_31 : decode cX11_part 31 = .ok (.iload_n 2, 1) := by decide +kernel
theorem dX11_part_32 : decode cX11_part 32 = .ok (.iconst (-1), 1) := by decide +kernel
theorem dX11_part_33 : decode cX11_part 33 = .ok (.if_icmp .eq 27, 3) := by decide +kernel
theorem dX11_part_36 : decode cX11_part 36 = .ok (.aload_n 0, 1) := by decide +kernel
theorem dX11_part_37 : decode cX11_part 37 = .ok (.getfield 10, 3) := by decide +kernel
theorem dX11_part_40 : decode cX11_part 40 = .ok (.iload_n 1, 1) := by decide +kernel
theorem dX11_part_41 : decode cX11_part 41 = .ok (.invokevirtual 120, 3) := by decide +kernel
theorem dX11_part_44 : decode cX11_part 44 = .ok (.iconst (-1), 1) := by decide +kernel
theorem dX11_part_45 : decode cX11_part 45 = .ok (.if_icmp .ne 15, 3) := by decide +kernel
theorem dX11_part_48 : decode cX11_part 48 = .ok (.aload_n 0, 1) := by decide +kernel
theorem dX11_part_49 : decode cX11_part 49 = .ok (.getfield 10, 3) := by decide +kernel
theorem dX11_part_52 : decode cX11_part 52 = .ok (.iload_n 2, 1) := by decide +kernel
theorem dX11_part_53 : decode cX11_part 53 = .ok (.invokevirtual 120, 3) := by decide +kernel
theorem dX11_part_56 : decode cX11_part 56 = .ok (.iconst (-1), 1) := by decide +kernel
theorem dX11_part_57 : decode cX11_part 57 = .ok (.if_icmp .eq 9, 3) := by decide +kernel
theorem dX11_part_60 : decode cX11_part 60 = .ok (.aload_n 0, 1) := by decide +kernel
theorem dX11_part_61 : decode cX11_part 61 = .ok (.iconst 2, 1) := by decide +kernel
theorem dX11_part_62 : decode cX11_part 62 = .ok (.invokevirtual 39, 3) := by decide +kernel
theorem dX11_part_65 : decode cX11_part 65 = .ok (.ireturn, 1) := by decide +kernel
theorem dX11_part_66 : decode cX11_part 66 = .ok (.aload_n 0, 1) := by decide +kernel
theorem dX11_part_67 : decode cX11_part 67 = .ok (.getfield 10, 3) := by decide +kernel
theorem dX11_part_70 : decode cX11_part 70 = .ok (.getfield 61, 3) := by decide +kernel
theorem dX11_part_73 : decode cX11_part 73 = .ok (.iload_n 1, 1) := by decide +kernel
theorem dX11_part_74 : decode cX11_part 74 = .ok (.aaload, 1) := by decide +kernel
theorem dX11_part_75 : decode cX11_part 75 = .ok (.iconst 1, 1) := by decide +kernel
theorem dX11_part_76 : decode cX11_part 76 = .ok (.aload_n 0, 1) := by decide +kernel
theorem dX11_part_77 : decode cX11_part 77 = .ok (.getfield 10, 3) := by decide +kernel
theorem dX11_part_80 : decode cX11_part 80 = .ok (.getfield 61, 3) := by decide +kernel
theorem dX11_part_83 : decode cX11_part 83 = .ok (.iload_n 2, 1) := by decide +kernel
theorem dX11_part_84 : decode cX11_part 84 = .ok (.aaload, 1) := by decide +kernel
theorem dX11_part_85 : decode cX11_part 85 = .ok (.iconst 1, 1) := by decide +kernel
theorem dX11_part_86 : decode cX11_part 86 = .ok (.iaload, 1) := by decide +kernel
theorem dX11_part_87 : decode cX11_part 87 = .ok (.iastore, 1) := by decide +kernel
theorem dX11_part_88 : decode cX11_part 88 = .ok (.aload_n 0, 1) := by decide +kernel
theorem dX11_part_89 : decode cX11_part 89 = .ok (.getfield 10, 3) := by decide +kernel
theorem dX11_part_92 : decode cX11_part 92 = .ok (.getfield 61, 3) := by decide +kernel
theorem dX11_part_95 : decode cX11_part 95 = .ok (.iload_n 1, 1) := by decide +kernel
theorem dX11_part_96 : decode cX11_part 96 = .ok (.aaload, 1) := by decide +kernel
theorem dX11_part_97 : decode cX11_part 97 = .ok (.iconst 2, 1) := by decide +kernel
theorem dX11_part_98 : decode cX11_part 98 = .ok (.iconst (-1), 1) := by decide +kernel
theorem dX11_part_99 : decode cX11_part 99 = .ok (.iastore, 1) := by decide +kernel
theorem dX11_part_100 : decode cX11_part 100 = .ok (.iload_n 2, 1) := by decide +kernel
theorem dX11_part_101 : decode cX11_part 101 = .ok (.ireturn, 1) := by decide +kernel
theorem dX11_roomNow_0 : decode cX11_roomNow 0 = .ok (.iconst 0, 1) := by decide +kernel
theorem dX11_roomNow_1 : decode cX11_roomNow 1 = .ok (.istore_n 3, 1) := by decide +kernel
theorem dX11_roomNow_2 : decode cX11_roomNow 2 = .ok (.iconst 0, 1) := by decide +kernel
theorem dX11_roomNow_3 : decode cX11_roomNow 3 = .ok (.istore 4, 2) := by decide +kernel
theorem dX11_roomNow_5 : decode cX11_roomNow 5 = .ok (.iconst 0, 1) := by decide +kernel
theorem dX11_roomNow_6 : decode cX11_roomNow 6 = .ok (.istore 5, 2) := by decide +kernel
theorem dX11_roomNow_8 : decode cX11_roomNow 8 = .ok (.iload 5, 2) := by decide +kernel
theorem dX11_roomNow_10 : decode cX11_roomNow 10 = .ok (.aload_n 0, 1) := by decide +kernel
theorem dX11_roomNow_11 : decode cX11_roomNow 11 = .ok (.getfield 10, 3) := by decide +kernel
theorem dX11_roomNow_14 : decode cX11_roomNow 14 = .ok (.getfield 27, 3) := by decide +kernel
theorem dX11_roomNow_17 : decode cX11_roomNow 17 = .ok (.if_icmp .ge 33, 3) := by decide +kernel
theorem dX11_roomNow_20 : decode cX11_roomNow 20 = .ok (.iload_n 3, 1) := by decide +kernel
theorem dX11_roomNow_21 : decode cX11_roomNow 21 = .ok (.aload_n 0, 1) := by decide +kernel
theorem dX11_roomNow_22 : decode cX11_roomNow 22 = .ok (.getfield 10, 3) := by decide +kernel
theorem dX11_roomNow_25 : decode cX11_roomNow 25 = .ok (.iload 5, 2) := by decide +kernel
theorem dX11_roomNow_27 : decode cX11_roomNow 27 = .ok (.invokevirtual 123, 3) := by decide +kernel
theorem dX11_roomNow_30 : decode cX11_roomNow 30 = .ok (.iload_n 1, 1) := by decide +kernel
theorem dX11_roomNow_31 : decode cX11_roomNow 31 = .ok (.if_icmp .ne 10, 3) := by decide +kernel
theorem dX11_roomNow_34 : decode cX11_roomNow 34 = .ok (.iconst 1, 1) := by decide +kernel
theorem dX11_roomNow_35 : decode cX11_roomNow 35 = .ok (.iload 5, 2) := by decide +kernel
theorem dX11_roomNow_37 : decode cX11_roomNow 37 = .ok (.ishl, 1) := by decide +kernel
theorem dX11_roomNow_38 : decode cX11_roomNow 38 = .ok (.goto 4, 3) := by decide +kernel
theorem dX11_roomNow_41 : decode cX11_roomNow 41 = .ok (.iconst 0, 1) := by decide +kernel
theorem dX11_roomNow_42 : decode cX11_roomNow 42 = .ok (.ior, 1) := by decide +kernel
theorem dX11_roomNow_43 : decode cX11_roomNow 43 = .ok (.istore_n 3, 1) := by decide +kernel
theorem dX11_roomNow_44 : decode cX11_roomNow 44 = .ok (.iinc 5 1, 3) := by decide +kernel
theorem dX11_roomNow_47 : decode cX11_roomNow 47 = .ok (.goto (-39), 3) := by decide +kernel
theorem dX11_roomNow_50 : decode cX11_roomNow 50 = .ok (.iconst 0, 1) := by decide +kernel
theorem dX11_roomNow_51 : decode cX11_roomNow 51 = .ok (.istore 5, 2) := by decide +kernel
theorem dX11_roomNow_53 : decode cX11_roomNow 53 = .ok (.iload 5, 2) := by decide +kernel
theorem dX11_roomNow_55 : decode cX11_roomNow 55 = .ok (.aload_n 0, 1) := by decide +kernel
theorem dX11_roomNow_56 : decode cX11_roomNow 56 = .ok (.getfield 10, 3) := by decide +kernel
theorem dX11_roomNow_59 : decode cX11_roomNow 59 = .ok (.getfield 30, 3) := by decide +kernel
theorem dX11_roomNow_62 : decode cX11_roomNow 62 = .ok (.if_icmp .ge 35, 3) := by decide +kernel
theorem dX11_roomNow_65 : decode cX11_roomNow 65 = .ok (.iload 4, 2) := by decide +kernel
theorem dX11_roomNow_67 : decode cX11_roomNow 67 = .ok (.aload_n 0, 1) := by decide +kernel
theorem dX11_roomNow_68 : decode cX11_roomNow 68 = .ok (.getfield 10, 3) := by decide +kernel
theorem dX11_roomNow_71 : decode cX11_roomNow 71 = .ok (.iload 5, 2) := by decide +kernel
theorem dX11_roomNow_73 : decode cX11_roomNow 73 = .ok (.iload_n 1, 1) := by decide +kernel
theorem dX11_roomNow_74 : decode cX11_roomNow 74 = .ok (.invokevirtual 102, 3) := by decide +kernel
theorem dX11_roomNow_77 : decode cX11_roomNow 77 = .ok (.ifCond .eq 10, 3) := by decide +kernel
theorem dX11_roomNow_80 : decode cX11_roomNow 80 = .ok (.iconst 1, 1) := by decide +kernel
theorem dX11_roomNow_81 : decode cX11_roomNow 81 = .ok (.iload 5, 2) := by decide +kernel
theorem dX11_roomNow_83 : decode cX11_roomNow 83 = .ok (.ishl, 1) := by decide +kernel
theorem dX11_roomNow_84 : decode cX11_roomNow 84 = .ok (.goto 4, 3) := by decide +kernel
theorem dX11_roomNow_87 : decode cX11_roomNow 87 = .ok (.iconst 0, 1) := by decide +kernel
theorem dX11_roomNow_88 : decode cX11_roomNow 88 = .ok (.ior, 1) := by decide +kernel
theorem dX11_roomNow_89 : decode cX11_roomNow 89 = .ok (.istore 4, 2) := by decide +kernel
theorem dX11_roomNow_91 : decode cX11_roomNow 91 = .ok (.iinc 5 1, 3) := by decide +kernel
theorem dX11_roomNow_94 : decode cX11_roomNow 94 = .ok (.goto (-41), 3) := by decide +kernel
theorem dX11_roomNow_97 : decode cX11_roomNow 97 = .ok (.iconst 5, 1) := by decide +kernel
theorem dX11_roomNow_98 : decode cX11_roomNow 98 = .ok (.newarray .int, 2) := by decide +kernel
theorem dX11_roomNow_100 : decode cX11_roomNow 100 = .ok (.dup, 1) := by decide +kernel
theorem dX11_roomNow_101 : decode cX11_roomNow 101 = .ok (.iconst 0, 1) := by decide +kernel
theorem dX11_roomNow_102 : decode cX11_roomNow 102 = .ok (.aload_n 0, 1) := by decide +kernel
theorem dX11_roomNow_103 : decode cX11_roomNow 103 = .ok (.getfield 10, 3) := by decide +kernel
theorem dX11_roomNow_106 : decode cX11_roomNow 106 = .ok (.getfield 43, 3) := by decide +kernel
theorem dX11_roomNow_109 : decode cX11_roomNow 109 = .ok (.iload_n 1, 1) := by decide +kernel
theorem dX11_roomNow_110 : decode cX11_roomNow 110 = .ok (.iaload, 1) := by decide +kernel
theorem dX11_roomNow_111 : decode cX11_roomNow 111 = .ok (.iastore, 1) := by decide +kernel
theorem dX11_roomNow_112 : decode cX11_roomNow 112 = .ok (.dup, 1) := by decide +kernel
theorem dX11_roomNow_113 : decode cX11_roomNow 113 = .ok (.iconst 1, 1) := by decide +kernel
theorem dX11_roomNow_114 : decode cX11_roomNow 114 = .ok (.aload_n 0, 1) := by decide +kernel
theorem dX11_roomNow_115 : decode cX11_roomNow 115 = .ok (.getfield 10, 3) := by decide +kernel
theorem dX11_roomNow_118 : decode cX11_roomNow 118 = .ok (.iload_n 1, 1) := by decide +kernel
theorem dX11_roomNow_119 : decode cX11_roomNow 119 = .ok (.invokevirtual 86, 3) := by decide +kernel
theorem dX11_roomNow_122 : decode cX11_roomNow 122 = .ok (.iastore, 1) := by decide +kernel
theorem dX11_roomNow_123 : decode cX11_roomNow 123 = .ok (.dup, 1) := by decide +kernel
theorem dX11_roomNow_124 : decode cX11_roomNow 124 = .ok (.iconst 2, 1) := by decide +kernel
theorem dX11_roomNow_125 : decode cX11_roomNow 125 = .ok (.iload_n 3, 1) := by decide +kernel
theorem dX11_roomNow_126 : decode cX11_roomNow 126 = .ok (.iastore, 1) := by decide +kernel
theorem dX11_roomNow_127 : decode cX11_roomNow 127 = .ok (.dup, 1) := by decide +kernel
theorem dX11_roomNow_128 : decode cX11_roomNow 128 = .ok (.iconst 3, 1) := by decide +kernel
theorem dX11_roomNow_129 : decode cX11_roomNow 129 = .ok (.aload_n 0, 1) := by decide +kernel
theorem dX11_roomNow_130 : decode cX11_roomNow 130 = .ok (.getfield 10, 3) := by decide +kernel
theorem dX11_roomNow_133 : decode cX11_roomNow 133 = .ok (.iload_n 1, 1) := by decide +kernel
theorem dX11_roomNow_134 : decode cX11_roomNow 134 = .ok (.invokevirtual 105, 3) := by decide +kernel
theorem dX11_roomNow_137 : decode cX11_roomNow 137 = .ok (.iastore, 1) := by decide +kernel
theorem dX11_roomNow_138 : decode cX11_roomNow 138 = .ok (.dup, 1) := by decide +kernel
theorem dX11_roomNow_139 : decode cX11_roomNow 139 = .ok (.iconst 4, 1) := by decide +kernel
theorem dX11_roomNow_140 : decode cX11_roomNow 140 = .ok (.iload 4, 2) := by decide +kernel
theorem dX11_roomNow_142 : decode cX11_roomNow 142 = .ok (.iastore, 1) := by decide +kernel
theorem dX11_roomNow_143 : decode cX11_roomNow 143 = .ok (.astore 5, 2) := by decide +kernel
theorem dX11_roomNow_145 : decode cX11_roomNow 145 = .ok (.aload 5, 2) := by decide +kernel
theorem dX11_roomNow_147 : decode cX11_roomNow 147 = .ok (.iload_n 2, 1) := by decide +kernel
theorem dX11_roomNow_148 : decode cX11_roomNow 148 = .ok (.iaload, 1) := by decide +kernel
theorem dX11_roomNow_149 : decode cX11_roomNow 149 = .ok (.ireturn, 1) := by decide +kernel
theorem dX11_ofRoom_0 : decode cX11_ofRoom 0 = .ok (.aload_n 0, 1) := by decide +kernel
theorem dX11_ofRoom_1 : decode cX11_ofRoom 1 = .ok (.iconst 0, 1) := by decide +kernel
theorem dX11_ofRoom_2 : decode cX11_ofRoom 2 = .ok (.putfield 16, 3) := by decide +kernel
theorem dX11_ofRoom_5 : decode cX11_ofRoom 5 = .ok (.aload_n 0, 1) := by decide +kernel
theorem dX11_ofRoom_6 : decode cX11_ofRoom 6 = .ok (.iload_n 1, 1) := by decide +kernel
theorem dX11_ofRoom_7 : decode cX11_ofRoom 7 = .ok (.invokevirtual 50, 3) := by decide +kernel
theorem dX11_ofRoom_10 : decode cX11_ofRoom 10 = .ok (.ifCond .ne 9, 3) := by decide +kernel
theorem dX11_ofRoom_13 : decode cX11_ofRoom 13 = .ok (.aload_n 0, 1) := by decide +kernel
theorem dX11_ofRoom_14 : decode cX11_ofRoom 14 = .ok (.iconst 1, 1) := by decide +kernel
theorem dX11_ofRoom_15 : decode cX11_ofRoom 15 = .ok (.invokevirtual 39, 3) := by decide +kernel
theorem dX11_ofRoom_18 : decode cX11_ofRoom 18 = .ok (.ireturn, 1) := by decide +kernel
theorem dX11_ofRoom_19 : decode cX11_ofRoom 19 = .ok (.iload_n 2, 1) := by decide +kernel
theorem dX11_ofRoom_20 : decode cX11_ofRoom 20 = .ok (.iconst 0, 1) := by decide +kernel
theorem dX11_ofRoom_21 : decode cX11_ofRoom 21 = .ok (.iconst 4, 1) := by decide +kernel
theorem dX11_ofRoom_22 : decode cX11_ofRoom 22 = .ok (.invokestatic 23, 3) := by decide +kernel
theorem dX11_ofRoom_25 : decode cX11_ofRoom 25 = .ok (.ifCond .ne 9, 3) := by decide +kernel
theorem dX11_ofRoom_28 : decode cX11_ofRoom 28 = .ok (.aload_n 0, 1) := by decide +kernel
theorem dX11_ofRoom_29 : decode cX11_ofRoom 29 = .ok (.iconst 2, 1) := by decide +kernel
theorem dX11_ofRoom_30 : decode cX11_ofRoom 30 = .ok (.invokevirtual 39, 3) := by decide +kernel
theorem dX11_ofRoom_33 : decode cX11_ofRoom 33 = .ok (.ireturn, 1) := by decide +kernel
theorem dX11_ofRoom_34 : decode cX11_ofRoom 34 = .ok (.aload_n 0, 1) := by decide +kernel
theorem dX11_ofRoom_35 : decode cX11_ofRoom 35 = .ok (.iload_n 1, 1) := by decide +kernel
theorem dX11_ofRoom_36 : decode cX11_ofRoom 36 = .ok (.iload_n 2, 1) := by decide +kernel
theorem dX11_ofRoom_37 : decode cX11_ofRoom 37 = .ok (.invokevirtual 126, 3) := by decide +kernel
theorem dX11_ofRoom_40 : decode cX11_ofRoom 40 = .ok (.ireturn, 1) := by decide +kernel
theorem dX11_wayNow_0 : decode cX11_wayNow 0 = .ok (.iload_n 3, 1) := by decide +kernel
theorem dX11_wayNow_1 : decode cX11_wayNow 1 = .ok (.iconst 1, 1) := by decide +kernel
theorem dX11_wayNow_2 : decode cX11_wayNow 2 = .ok (.if_icmp .ne 15, 3) := by decide +kernel
theorem dX11_wayNow_5 : decode cX11_wayNow 5 = .ok (.aload_n 0, 1) := by decide +kernel
theorem dX11_wayNow_6 : decode cX11_wayNow 6 = .ok (.getfield 10, 3) := by decide +kernel
theorem dX11_wayNow_9 : decode cX11_wayNow 9 = .ok (.iload_n 1, 1) := by decide +kernel
theorem dX11_wayNow_10 : decode cX11_wayNow 10 = .ok (.iload_n 2, 1) := by decide +kernel
theorem dX11_wayNow_11 : decode cX11_wayNow 11 = .ok (.invokevirtual 130, 3) := by decide +kernel
theorem dX11_wayNow_14 : decode cX11_wayNow 14 = .ok (.goto 34, 3) := by decide +kernel
theorem dX11_wayNow_17 : decode cX11_wayNow 17 = .ok (.aload_n 0, 1) := by decide +kernel
theorem dX11_wayNow_18 : decode cX11_wayNow 18 = .ok (.getfield 10, 3) := by decide +kernel
theorem dX11_wayNow_21 : decode cX11_wayNow 21 = .ok (.getfield 133, 3) := by decide +kernel
theorem dX11_wayNow_24 : decode cX11_wayNow 24 = .ok (.iload_n 1, 1) := by decide +kernel
theorem dX11_wayNow_25 : decode cX11_wayNow 25 = .ok (.aaload, 1) := by decide +kernel
theorem dX11_wayNow_26 : decode cX11_wayNow 26 = .ok (.iload_n 2, 1) := by decide +kernel
theorem dX11_wayNow_27 : decode cX11_wayNow 27 = .ok (.iaload, 1) := by decide +kernel
theorem dX11_wayNow_28 : decode cX11_wayNow 28 = .ok (.bipush 99, 2) := by decide +kernel
theorem dX11_wayNow_30 : decode cX11_wayNow 30 = .ok (.if_icmp .lt 7, 3) := by decide +kernel
theorem dX11_wayNow_33 : decode cX11_wayNow 33 = .ok (.iconst (-1), 1) := by decide +kernel
theorem dX11_wayNow_34 : decode cX11_wayNow 34 = .ok (.goto 14, 3) := by decide +kernel
theorem dX11_wayNow_37 : decode cX11_wayNow 37 = .ok (.aload_n 0, 1) := by decide +kernel
theorem dX11_wayNow_38 : decode cX11_wayNow 38 = .ok (.getfield 10, 3) := by decide +kernel
theorem dX11_wayNow_41 : decode cX11_wayNow 41 = .ok (.getfield 133, 3) := by decide +kernel
theorem dX11_wayNow_44 : decode cX11_wayNow 44 = .ok (.iload_n 1, 1) := by decide +kernel
theorem dX11_wayNow_45 : decode cX11_wayNow 45 = .ok (.aaload, 1) := by decide +kernel
theorem dX11_wayNow_46 : decode cX11_wayNow 46 = .ok (.iload_n 2, 1) := by decide +kernel
theorem dX11_wayNow_47 : decode cX11_wayNow 47 = .ok (.iaload, 1) := by decide +kernel
theorem dX11_wayNow_48 : decode cX11_wayNow 48 = .ok (.ireturn, 1) := by decide +kernel
theorem dX11_way_0 : decode cX11_way 0 = .ok (.aload_n 0, 1) := by decide +kernel
theorem dX11_way_1 : decode cX11_way 1 = .ok (.iconst 0, 1) := by decide +kernel
theorem dX11_way_2 : decode cX11_way 2 = .ok (.putfield 16, 3) := by decide +kernel
theorem dX11_way_5 : decode cX11_way 5 = .ok (.aload_n 0, 1) := by decide +kernel
theorem dX11_way_6 : decode cX11_way 6 = .ok (.iload_n 1, 1) := by decide +kernel
theorem dX11_way_7 : decode cX11_way 7 = .ok (.invokevirtual 50, 3) := by decide +kernel
theorem dX11_way_10 : decode cX11_way 10 = .ok (.ifCond .eq 11, 3) := by decide +kernel
theorem dX11_way_13 : decode cX11_way 13 = .ok (.aload_n 0, 1) := by decide +kernel
theorem dX11_way_14 : decode cX11_way 14 = .ok (.iload_n 2, 1) := by decide +kernel
theorem dX11_way_15 : decode cX11_way 15 = .ok (.invokevirtual 50, 3) := by decide +kernel
theorem dX11_way_18 : decode cX11_way 18 = .ok (.ifCond .ne 9, 3) := by decide +kernel
theorem dX11_way_21 : decode cX11_way 21 = .ok (.aload_n 0, 1) := by decide +kernel
theorem dX11_way_22 : decode cX11_way 22 = .ok (.iconst 1, 1) := by decide +kernel
theorem dX11_way_23 : decode cX11_way 23 = .ok (.invokevirtual 39, 3) := by decide +kernel
theorem dX11_way_26 : decode cX11_way 26 = .ok (.ireturn, 1) := by decide +kernel
theorem dX11_way_27 : decode cX11_way 27 = .ok (.iload_n 3, 1) := by decide +kernel
theorem dX11_way_28 : decode cX11_way 28 = .ok (.iconst 0, 1) := by decide +kernel
theorem dX11_way_29 : decode cX11_way 29 = .ok (.iconst 1, 1) := by decide +kernel
theorem dX11_way_30 : decode cX11_way 30 = .ok (.invokestatic 23, 3) := by decide +kernel
theorem dX11_way_33 : decode cX11_way 33 = .ok (.ifCond .ne 9, 3) := by decide +kernel
theorem dX11_way_36 : decode cX11_way 36 = .ok (.aload_n 0, 1) := by decide +kernel
theorem dX11_way_37 : decode cX11_way 37 = .ok (.iconst 2, 1) := by decide +kernel
theorem dX11_way_38 : decode cX11_way 38 = .ok (.invokevirtual 39, 3) := by decide +kernel
theorem dX11_way_41 : decode cX11_way 41 = .ok (.ireturn, 1) := by decide +kernel
theorem dX11_way_42 : decode cX11_way 42 = .ok (.aload_n 0, 1) := by decide +kernel
theorem dX11_way_43 : decode cX11_way 43 = .ok (.iload_n 1, 1) := by decide +kernel
theorem dX11_way_44 : decode cX11_way 44 = .ok (.iload_n 2, 1) := by decide +kernel
theorem dX11_way_45 : decode cX11_way 45 = .ok (.iload_n 3, 1) := by decide +kernel
theorem dX11_way_46 : decode cX11_way 46 = .ok (.invokevirtual 136, 3) := by decide +kernel
theorem dX11_way_49 : decode cX11_way 49 = .ok (.ireturn, 1) := by decide +kernel
theorem dX11_trackNow_0 : decode cX11_trackNow 0 = .ok (.iconst 5, 1) := by decide +kernel
theorem dX11_trackNow_1 : decode cX11_trackNow 1 = .ok (.newarray .int, 2) := by decide +kernel
theorem dX11_trackNow_3 : decode cX11_trackNow 3 = .ok (.dup, 1) := by decide +kernel
theorem dX11_trackNow_4 : decode cX11_trackNow 4 = .ok (.iconst 0, 1) := by decide +kernel
theorem dX11_trackNow_5 : decode cX11_trackNow 5 = .ok (.aload_n 0, 1) := by decide +kernel
theorem dX11_trackNow_6 : decode cX11_trackNow 6 = .ok (.getfield 10, 3) := by decide +kernel
theorem dX11_trackNow_9 : decode cX11_trackNow 9 = .ok (.iload_n 1, 1) := by decide +kernel
theorem dX11_trackNow_10 : decode cX11_trackNow 10 = .ok (.invokevirtual 123, 3) := by decide +kernel
theorem dX11_trackNow_13 : decode cX11_trackNow 13 = .ok (.iastore, 1) := by decide +kernel
theorem dX11_trackNow_14 : decode cX11_trackNow 14 = .ok (.dup, 1) := by decide +kernel
theorem dX11_trackNow_15 : decode cX11_trackNow 15 = .ok (.iconst 1, 1) := by decide +kernel
theorem dX11_trackNow_16 : decode cX11_trackNow 16 = .ok (.aload_n 0, 1) := by decide +kernel
theorem dX11_trackNow_17 : decode cX11_trackNow 17 = .ok (.getfield 10, 3) := by decide +kernel
theorem dX11_trackNow_20 : decode cX11_trackNow 20 = .ok (.iload_n 1, 1) := by decide +kernel
theorem dX11_trackNow_21 : decode cX11_trackNow 21 = .ok (.invokevirtual 120, 3) := by decide +kernel
theorem dX11_trackNow_24 : decode cX11_trackNow 24 = .ok (.iastore, 1) := by decide +kernel
theorem dX11_trackNow_25 : decode cX11_trackNow 25 = .ok (.dup, 1) := by decide +kernel
theorem dX11_trackNow_26 : decode cX11_trackNow 26 = .ok (.iconst 2, 1) := by decide +kernel
theorem dX11_trackNow_27 : decode cX11_trackNow 27 = .ok (.aload_n 0, 1) := by decide +kernel
theorem dX11_trackNow_28 : decode cX11_trackNow 28 = .ok (.getfield 10, 3) := by decide +kernel
theorem dX11_trackNow_31 : decode cX11_trackNow 31 = .ok (.iload_n 1, 1) := by decide +kernel
theorem dX11_trackNow_32 : decode cX11_trackNow 32 = .ok (.invokevirtual 140, 3) := by decide +kernel
theorem dX11_trackNow_35 : decode cX11_trackNow 35 = .ok (.iastore, 1) := by decide +kernel
theorem dX11_trackNow_36 : decode cX11_trackNow 36 = .ok (.dup, 1) := by decide +kernel
theorem dX11_trackNow_37 : decode cX11_trackNow 37 = .ok (.iconst 3, 1) := by decide +kernel
theorem dX11_trackNow_38 : decode cX11_trackNow 38 = .ok (.aload_n 0, 1) := by decide +kernel
theorem dX11_trackNow_39 : decode cX11_trackNow 39 = .ok (.getfield 10, 3) := by decide +kernel
theorem dX11_trackNow_42 : decode cX11_trackNow 42 = .ok (.getfield 61, 3) := by decide +kernel
theorem dX11_trackNow_45 : decode cX11_trackNow 45 = .ok (.iload_n 1, 1) := by decide +kernel
theorem dX11_trackNow_46 : decode cX11_trackNow 46 = .ok (.aaload, 1) := by decide +kernel
theorem dX11_trackNow_47 : decode cX11_trackNow 47 = .ok (.iconst 2, 1) := by decide +kernel
theorem dX11_trackNow_48 : decode cX11_trackNow 48 = .ok (.iaload, 1) := by decide +kernel
theorem dX11_trackNow_49 : decode cX11_trackNow 49 = .ok (.iastore, 1) := by decide +kernel
theorem dX11_trackNow_50 : decode cX11_trackNow 50 = .ok (.dup, 1) := by decide +kernel
theorem dX11_trackNow_51 : decode cX11_trackNow 51 = .ok (.iconst 4, 1) := by decide +kernel
theorem dX11_trackNow_52 : decode cX11_trackNow 52 = .ok (.aload_n 0, 1) := by decide +kernel
theorem dX11_trackNow_53 : decode cX11_trackNow 53 = .ok (.getfield 10, 3) := by decide +kernel
theorem dX11_trackNow_56 : decode cX11_trackNow 56 = .ok (.getfield 61, 3) := by decide +kernel
theorem dX11_trackNow_59 : decode cX11_trackNow 59 = .ok (.iload_n 1, 1) := by decide +kernel
theorem dX11_trackNow_60 : decode cX11_trackNow 60 = .ok (.aaload, 1) := by decide +kernel
theorem dX11_trackNow_61 : decode cX11_trackNow 61 = .ok (.iconst 3, 1) := by decide +kernel
theorem dX11_trackNow_62 : decode cX11_trackNow 62 = .ok (.iaload, 1) := by decide +kernel
theorem dX11_trackNow_63 : decode cX11_trackNow 63 = .ok (.iastore, 1) := by decide +kernel
theorem dX11_trackNow_64 : decode cX11_trackNow 64 = .ok (.astore_n 3, 1) := by decide +kernel
theorem dX11_trackNow_65 : decode cX11_trackNow 65 = .ok (.aload_n 3, 1) := by decide +kernel
theorem dX11_trackNow_66 : decode cX11_trackNow 66 = .ok (.iload_n 2, 1) := by decide +kernel
theorem dX11_trackNow_67 : decode cX11_trackNow 67 = .ok (.iaload, 1) := by decide +kernel
theorem dX11_trackNow_68 : decode cX11_trackNow 68 = .ok (.ireturn, 1) := by decide +kernel
theorem dX11_ofTrack_0 : decode cX11_ofTrack 0 = .ok (.aload_n 0, 1) := by decide +kernel
theorem dX11_ofTrack_1 : decode cX11_ofTrack 1 = .ok (.iconst 0, 1) := by decide +kernel
theorem dX11_ofTrack_2 : decode cX11_ofTrack 2 = .ok (.putfield 16, 3) := by decide +kernel
theorem dX11_ofTrack_5 : decode cX11_ofTrack 5 = .ok (.aload_n 0, 1) := by decide +kernel
theorem dX11_ofTrack_6 : decode cX11_ofTrack 6 = .ok (.iload_n 1, 1) := by decide +kernel
theorem dX11_ofTrack_7 : decode cX11_ofTrack 7 = .ok (.invokevirtual 95, 3) := by decide +kernel
theorem dX11_ofTrack_10 : decode cX11_ofTrack 10 = .ok (.ifCond .ne 9, 3) := by decide +kernel
theorem dX11_ofTrack_13 : decode cX11_ofTrack 13 = .ok (.aload_n 0, 1) := by decide +kernel
theorem dX11_ofTrack_14 : decode cX11_ofTrack 14 = .ok (.iconst 1, 1) := by decide +kernel
theorem dX11_ofTrack_15 : decode cX11_ofTrack 15 = .ok (.invokevirtual 39, 3) := by decide +kernel
theorem dX11_ofTrack_18 : decode cX11_ofTrack 18 = .ok (.ireturn, 1) := by decide +kernel
theorem dX11_ofTrack_19 : decode cX11_ofTrack 19 = .ok (.iload_n 2, 1) := by decide +kernel
theorem dX11_ofTrack_20 : decode cX11_ofTrack 20 = .ok (.iconst 0, 1) := by decide +kernel
theorem dX11_ofTrack_21 : decode cX11_ofTrack 21 = .ok (.iconst 4, 1) := by decide +kernel
theorem dX11_ofTrack_22 : decode cX11_ofTrack 22 = .ok (.invokestatic 23, 3) := by decide +kernel
theorem dX11_ofTrack_25 : decode cX11_ofTrack 25 = .ok (.ifCond .ne 9, 3) := by decide +kernel
theorem dX11_ofTrack_28 : decode cX11_ofTrack 28 = .ok (.aload_n 0, 1) := by decide +kernel
theorem dX11_ofTrack_29 : decode cX11_ofTrack 29 = .ok (.iconst 2, 1) := by decide +kernel
theorem dX11_ofTrack_30 : decode cX11_ofTrack 30 = .ok (.invokevirtual 39, 3) := by decide +kernel
theorem dX11_ofTrack_33 : decode cX11_ofTrack 33 = .ok (.ireturn, 1) := by decide +kernel
theorem dX11_ofTrack_34 : decode cX11_ofTrack 34 = .ok (.aload_n 0, 1) := by decide +kernel
theorem dX11_ofTrack_35 : decode cX11_ofTrack 35 = .ok (.iload_n 1, 1) := by decide +kernel
theorem dX11_ofTrack_36 : decode cX11_ofTrack 36 = .ok (.iload_n 2, 1) := by decide +kernel
theorem dX11_ofTrack_37 : decode cX11_ofTrack 37 = .ok (.invokevirtual 143, 3) := by decide +kernel
theorem dX11_ofTrack_40 : decode cX11_ofTrack 40 = .ok (.ireturn, 1) := by decide +kernel
theorem dX11_sceneNow_0 : decode cX11_sceneNow 0 = .ok (.aload_n 0, 1) := by decide +kernel
theorem dX11_sceneNow_1 : decode cX11_sceneNow 1 = .ok (.getfield 10, 3) := by decide +kernel
theorem dX11_sceneNow_4 : decode cX11_sceneNow 4 = .ok (.getfield 79, 3) := by decide +kernel
theorem dX11_sceneNow_7 : decode cX11_sceneNow 7 = .ok (.iload_n 1, 1) := by decide +kernel
theorem dX11_sceneNow_8 : decode cX11_sceneNow 8 = .ok (.aaload, 1) := by decide +kernel
theorem dX11_sceneNow_9 : decode cX11_sceneNow 9 = .ok (.astore_n 3, 1) := by decide +kernel
theorem dX11_sceneNow_10 : decode cX11_sceneNow 10 = .ok (.bipush 11, 2) := by decide +kernel
theorem dX11_sceneNow_12 : decode cX11_sceneNow 12 = .ok (.newarray .int, 2) := by decide +kernel
theorem dX11_sceneNow_14 : decode cX11_sceneNow 14 = .ok (.dup, 1) := by decide +kernel
theorem dX11_sceneNow_15 : decode cX11_sceneNow 15 = .ok (.iconst 0, 1) := by decide +kernel
theorem dX11_sceneNow_16 : decode cX11_sceneNow 16 = .ok (.aload_n 3, 1) := by decide +kernel
theorem dX11_sceneNow_17 : decode cX11_sceneNow 17 = .ok (.iconst 1, 1) := by decide +kernel
theorem dX11_sceneNow_18 : decode cX11_sceneNow 18 = .ok (.iaload, 1) := by decide +kernel
theorem dX11_sceneNow_19 : decode cX11_sceneNow 19 = .ok (.iastore, 1) := by decide +kernel
theorem dX11_sceneNow_20 : decode cX11_sceneNow 20 = .ok (.dup, 1) := by decide +kernel
theorem dX11_sceneNow_21 : decode cX11_sceneNow 21 = .ok (.iconst 1, 1) := by decide +kernel
theorem dX11_sceneNow_22 : decode cX11_sceneNow 22 = .ok (.aload_n 3, 1) := by decide +kernel
theorem dX11_sceneNow_23 : decode cX11_sceneNow 23 = .ok (.iconst 0, 1) := by decide +kernel
theorem dX11_sceneNow_24 : decode cX11_sceneNow 24 = .ok (.iaload, 1) := by decide +kernel
theorem dX11_sceneNow_25 : decode cX11_sceneNow 25 = .ok (.iastore, 1) := by decide +kernel
theorem dX11_sceneNow_26 : decode cX11_sceneNow 26 = .ok (.dup, 1) := by decide +kernel
theorem dX11_sceneNow_27 : decode cX11_sceneNow 27 = .ok (.iconst 2, 1) := by decide +kernel
theorem dX11_sceneNow_28 : decode cX11_sceneNow 28 = .ok (.aload_n 3, 1) := by decide +kernel
theorem dX11_sceneNow_29 : decode cX11_sceneNow 29 = .ok (.iconst 2, 1) := by decide +kernel
theorem dX11_sceneNow_30 : decode cX11_sceneNow 30 = .ok (.iaload, 1) := by decide +kernel
theorem dX11_sceneNow_31 : decode cX11_sceneNow 31 = .ok (.iastore, 1) := by decide +kernel
theorem dX11_sceneNow_32 : decode cX11_sceneNow 32 = .ok (.dup, 1) := by decide +kernel
theorem dX11_sceneNow_33 : decode cX11_sceneNow 33 = .ok (.iconst 3, 1) := by decide +kernel
theorem dX11_sceneNow_34 : decode cX11_sceneNow 34 = .ok (.aload_n 3, 1) := by decide +kernel
theorem dX11_sceneNow_35 : decode cX11_sceneNow 35 = .ok (.iconst 3, 1) := by decide +kernel
theorem dX11_sceneNow_36 : decode cX11_sceneNow 36 = .ok (.iaload, 1) := by decide +kernel
theorem dX11_sceneNow_37 : decode cX11_sceneNow 37 = .ok (.iastore, 1) := by decide +kernel
theorem dX11_sceneNow_38 : decode cX11_sceneNow 38 = .ok (.dup, 1) := by decide +kernel
theorem dX11_sceneNow_39 : decode cX11_sceneNow 39 = .ok (.iconst 4, 1) := by decide +kernel
theorem dX11_sceneNow_40 : decode cX11_sceneNow 40 = .ok (.aload_n 3, 1) := by decide +kernel
theorem dX11_sceneNow_41 : decode cX11_sceneNow 41 = .ok (.iconst 4, 1) := by decide +kernel
theorem dX11_sceneNow_42 : decode cX11_sceneNow 42 = .ok (.iaload, 1) := by decide +kernel
theorem dX11_sceneNow_43 : decode cX11_sceneNow 43 = .ok (.iastore, 1) := by decide +kernel
theorem dX11_sceneNow_44 : decode cX11_sceneNow 44 = .ok (.dup, 1) := by decide +kernel
theorem dX11_sceneNow_45 : decode cX11_sceneNow 45 = .ok (.iconst 5, 1) := by decide +kernel
theorem dX11_sceneNow_46 : decode cX11_sceneNow 46 = .ok (.aload_n 3, 1) := by decide +kernel
theorem dX11_sceneNow_47 : decode cX11_sceneNow 47 = .ok (.iconst 5, 1) := by decide +kernel
theorem dX11_sceneNow_48 : decode cX11_sceneNow 48 = .ok (.iaload, 1) := by decide +kernel
theorem dX11_sceneNow_49 : decode cX11_sceneNow 49 = .ok (.iastore, 1) := by decide +kernel
theorem dX11_sceneNow_50 : decode cX11_sceneNow 50 = .ok (.dup, 1) := by decide +kernel
theorem dX11_sceneNow_51 : decode cX11_sceneNow 51 = .ok (.bipush 6, 2) := by decide +kernel
theorem dX11_sceneNow_53 : decode cX11_sceneNow 53 = .ok (.aload_n 3, 1) := by decide +kernel
theorem dX11_sceneNow_54 : decode cX11_sceneNow 54 = .ok (.iconst 5, 1) := by decide +kernel
theorem dX11_sceneNow_55 : decode cX11_sceneNow 55 = .ok (.iaload, 1) := by decide +kernel
theorem dX11_sceneNow_56 : decode cX11_sceneNow 56 = .ok (.iconst 1, 1) := by decide +kernel
theorem dX11_sceneNow_57 : decode cX11_sceneNow 57 = .ok (.if_icmp .ne 10, 3) := by decide +kernel
theorem dX11_sceneNow_60 : decode cX11_sceneNow 60 = .ok (.aload_n 3, 1) := by decide +kernel
theorem dX11_sceneNow_61 : decode cX11_sceneNow 61 = .ok (.bipush 6, 2) := by decide +kernel
theorem dX11_sceneNow_63 : decode cX11_sceneNow 63 = .ok (.iaload, 1) := by decide +kernel
theorem dX11_sceneNow_64 : decode cX11_sceneNow 64 = .ok (.goto 4, 3) := by decide +kernel
theorem dX11_sceneNow_67 : decode cX11_sceneNow 67 = .ok (.iconst 0, 1) := by decide +kernel
theorem dX11_sceneNow_68 : decode cX11_sceneNow 68 = .ok (.iastore, 1) := by decide +kernel
theorem dX11_sceneNow_69 : decode cX11_sceneNow 69 = .ok (.dup, 1) := by decide +kernel
theorem dX11_sceneNow_70 : decode cX11_sceneNow 70 = .ok (.bipush 7, 2) := by decide +kernel
theorem dX11_sceneNow_72 : decode cX11_sceneNow 72 = .ok (.aload_n 3, 1) := by decide +kernel
theorem dX11_sceneNow_73 : decode cX11_sceneNow 73 = .ok (.bipush 7, 2) := by decide +kernel
theorem dX11_sceneNow_75 : decode cX11_sceneNow 75 = .ok (.iaload, 1) := by decide +kernel
theorem dX11_sceneNow_76 : decode cX11_sceneNow 76 = .ok (.iastore, 1) := by decide +kernel
theorem dX11_sceneNow_77 : decode cX11_sceneNow 77 = .ok (.dup, 1) := by decide +kernel
theorem dX11_sceneNow_78 : decode cX11_sceneNow 78 = .ok (.bipush 8, 2) := by decide +kernel
theorem dX11_sceneNow_80 : decode cX11_sceneNow 80 = .ok (.aload_n 3, 1) := by decide +kernel
theorem dX11_sceneNow_81 : decode cX11_sceneNow 81 = .ok (.bipush 8, 2) := by decide +kernel
theorem dX11_sceneNow_83 : decode cX11_sceneNow 83 = .ok (.iaload, 1) := by decide +kernel
theorem dX11_sceneNow_84 : decode cX11_sceneNow 84 = .ok (.iastore, 1) := by decide +kernel
theorem dX11_sceneNow_85 : decode cX11_sceneNow 85 = .ok (.dup, 1) := by decide +kernel
theorem dX11_sceneNow_86 : decode cX11_sceneNow 86 = .ok (.bipush 9, 2) := by decide +kernel
theorem dX11_sceneNow_88 : decode cX11_sceneNow 88 = .ok (.aload_n 3, 1) := by decide +kernel
theorem dX11_sceneNow_89 : decode cX11_sceneNow 89 = .ok (.bipush 9, 2) := by decide +kernel
theorem dX11_sceneNow_91 : decode cX11_sceneNow 91 = .ok (.iaload, 1) := by decide +kernel
theorem dX11_sceneNow_92 : decode cX11_sceneNow 92 = .ok (.iastore, 1) := by decide +kernel
theorem dX11_sceneNow_93 : decode cX11_sceneNow 93 = .ok (.dup, 1) := by decide +kernel
theorem dX11_sceneNow_94 : decode cX11_sceneNow 94 = .ok (.bipush 10, 2) := by decide +kernel
theorem dX11_sceneNow_96 : decode cX11_sceneNow 96 = .ok (.aload_n 0, 1) := by decide +kernel
theorem dX11_sceneNow_97 : decode cX11_sceneNow 97 = .ok (.getfield 10, 3) := by decide +kernel
theorem dX11_sceneNow_100 : decode cX11_sceneNow 100 = .ok (.iload_n 1, 1) := by decide +kernel
theorem dX11_sceneNow_101 : decode cX11_sceneNow 101 = .ok (.invokevirtual 146, 3) := by decide +kernel
theorem dX11_sceneNow_104 : decode cX11_sceneNow 104 = .ok (.iastore, 1) := by decide +kernel
theorem dX11_sceneNow_105 : decode cX11_sceneNow 105 = .ok (.astore 4, 2) := by decide +kernel
theorem dX11_sceneNow_107 : decode cX11_sceneNow 107 = .ok (.aload 4, 2) := by decide +kernel
theorem dX11_sceneNow_109 : decode cX11_sceneNow 109 = .ok (.iload_n 2, 1) := by decide +kernel
theorem dX11_sceneNow_110 : decode cX11_sceneNow 110 = .ok (.iaload, 1) := by decide +kernel
theorem dX11_sceneNow_111 : decode cX11_sceneNow 111 = .ok (.ireturn, 1) := by decide +kernel
theorem dX11_ofScene_0 : decode cX11_ofScene 0 = .ok (.aload_n 0, 1) := by decide +kernel
theorem dX11_ofScene_1 : decode cX11_ofScene 1 = .ok (.iconst 0, 1) := by decide +kernel
theorem dX11_ofScene_2 : decode cX11_ofScene 2 = .ok (.putfield 16, 3) := by decide +kernel
theorem dX11_ofScene_5 : decode cX11_ofScene 5 = .ok (.aload_n 0, 1) := by decide +kernel
theorem dX11_ofScene_6 : decode cX11_ofScene 6 = .ok (.iload_n 1, 1) := by decide +kernel
theorem dX11_ofScene_7 : decode cX11_ofScene 7 = .ok (.invokevirtual 149, 3) := by decide +kernel
theorem dX11_ofScene_10 : decode cX11_ofScene 10 = .ok (.ifCond .ne 9, 3) := by decide +kernel
theorem dX11_ofScene_13 : decode cX11_ofScene 13 = .ok (.aload_n 0, 1) := by decide +kernel
theorem dX11_ofScene_14 : decode cX11_ofScene 14 = .ok (.iconst 1, 1) := by decide +kernel
theorem dX11_ofScene_15 : decode cX11_ofScene 15 = .ok (.invokevirtual 39, 3) := by decide +kernel
theorem dX11_ofScene_18 : decode cX11_ofScene 18 = .ok (.ireturn, 1) := by decide +kernel
theorem dX11_ofScene_19 : decode cX11_ofScene 19 = .ok (.iload_n 2, 1) := by decide +kernel
theorem dX11_ofScene_20 : decode cX11_ofScene 20 = .ok (.iconst 0, 1) := by decide +kernel
theorem dX11_ofScene_21 : decode cX11_ofScene 21 = .ok (.bipush 10, 2) := by decide +kernel
theorem dX11_ofScene_23 : decode cX11_ofScene 23 = .ok (.invokestatic 23, 3) := by decide +kernel
theorem dX11_ofScene_26 : decode cX11_ofScene 26 = .ok (.ifCond .ne 9, 3) := by decide +kernel
theorem dX11_ofScene_29 : decode cX11_ofScene 29 = .ok (.aload_n 0, 1) := by decide +kernel
theorem dX11_ofScene_30 : decode cX11_ofScene 30 = .ok (.iconst 2, 1) := by decide +kernel
theorem dX11_ofScene_31 : decode cX11_ofScene 31 = .ok (.invokevirtual 39, 3) := by decide +kernel
theorem dX11_ofScene_34 : decode cX11_ofScene 34 = .ok (.ireturn, 1) := by decide +kernel
theorem dX11_ofScene_35 : decode cX11_ofScene 35 = .ok (.aload_n 0, 1) := by decide +kernel
theorem dX11_ofScene_36 : decode cX11_ofScene 36 = .ok (.iload_n 1, 1) := by decide +kernel
theorem dX11_ofScene_37 : decode cX11_ofScene 37 = .ok (.iload_n 2, 1) := by decide +kernel
theorem dX11_ofScene_38 : decode cX11_ofScene 38 = .ok (.invokevirtual 152, 3) := by decide +kernel
theorem dX11_ofScene_41 : decode cX11_ofScene 41 = .ok (.ireturn, 1) := by decide +kernel
theorem dX11_guestNow_0 : decode cX11_guestNow 0 = .ok (.aload_n 0, 1) := by decide +kernel
theorem dX11_guestNow_1 : decode cX11_guestNow 1 = .ok (.getfield 10, 3) := by decide +kernel
theorem dX11_guestNow_4 : decode cX11_guestNow 4 = .ok (.getfield 89, 3) := by decide +kernel
theorem dX11_guestNow_7 : decode cX11_guestNow 7 = .ok (.iload_n 1, 1) := by decide +kernel
theorem dX11_guestNow_8 : decode cX11_guestNow 8 = .ok (.aaload, 1) := by decide +kernel
theorem dX11_guestNow_9 : decode cX11_guestNow 9 = .ok (.astore_n 3, 1) := by decide +kernel
theorem dX11_guestNow_10 : decode cX11_guestNow 10 = .ok (.bipush 7, 2) := by decide +kernel
theorem dX11_guestNow_12 : decode cX11_guestNow 12 = .ok (.newarray .int, 2) := by decide +kernel
theorem dX11_guestNow_14 : decode cX11_guestNow 14 = .ok (.dup, 1) := by decide +kernel
theorem dX11_guestNow_15 : decode cX11_guestNow 15 = .ok (.iconst 0, 1) := by decide +kernel
theorem dX11_guestNow_16 : decode cX11_guestNow 16 = .ok (.aload_n 3, 1) := by decide +kernel
theorem dX11_guestNow_17 : decode cX11_guestNow 17 = .ok (.iconst 1, 1) := by decide +kernel
theorem dX11_guestNow_18 : decode cX11_guestNow 18 = .ok (.iaload, 1) := by decide +kernel
theorem dX11_guestNow_19 : decode cX11_guestNow 19 = .ok (.iastore, 1) := by decide +kernel
theorem dX11_guestNow_20 : decode cX11_guestNow 20 = .ok (.dup, 1) := by decide +kernel
theorem dX11_guestNow_21 : decode cX11_guestNow 21 = .ok (.iconst 1, 1) := by decide +kernel
theorem dX11_guestNow_22 : decode cX11_guestNow 22 = .ok (.aload_n 3, 1) := by decide +kernel
theorem dX11_guestNow_23 : decode cX11_guestNow 23 = .ok (.iconst 0, 1) := by decide +kernel
theorem dX11_guestNow_24 : decode cX11_guestNow 24 = .ok (.iaload, 1) := by decide +kernel
theorem dX11_guestNow_25 : decode cX11_guestNow 25 = .ok (.iastore, 1) := by decide +kernel
theorem dX11_guestNow_26 : decode cX11_guestNow 26 = .ok (.dup, 1) := by decide +kernel
theorem dX11_guestNow_27 : decode cX11_guestNow 27 = .ok (.iconst 2, 1) := by decide +kernel
theorem dX11_guestNow_28 : decode cX11_guestNow 28 = .ok (.aload_n 3, 1) := by decide +kernel
theorem dX11_guestNow_29 : decode cX11_guestNow 29 = .ok (.iconst 2, 1) := by decide +kernel
theorem dX11_guestNow_30 : decode cX11_guestNow 30 = .ok (.iaload, 1) := by decide +kernel
theorem dX11_guestNow_31 : decode cX11_guestNow 31 = .ok (.iastore, 1) := by decide +kernel
theorem dX11_guestNow_32 : decode cX11_guestNow 32 = .ok (.dup, 1) := by decide +kernel
theorem dX11_guestNow_33 : decode cX11_guestNow 33 = .ok (.iconst 3, 1) := by decide +kernel
theorem dX11_guestNow_34 : decode cX11_guestNow 34 = .ok (.aload_n 3, 1) := by decide +kernel
theorem dX11_guestNow_35 : decode cX11_guestNow 35 = .ok (.iconst 3, 1) := by decide +kernel
theorem dX11_guestNow_36 : decode cX11_guestNow 36 = .ok (.iaload, 1) := by decide +kernel
theorem dX11_guestNow_37 : decode cX11_guestNow 37 = .ok (.iastore, 1) := by decide +kernel
theorem dX11_guestNow_38 : decode cX11_guestNow 38 = .ok (.dup, 1) := by decide +kernel
theorem dX11_guestNow_39 : decode cX11_guestNow 39 = .ok (.iconst 4, 1) := by decide +kernel
theorem dX11_guestNow_40 : decode cX11_guestNow 40 = .ok (.aload_n 3, 1) := by decide +kernel
theorem dX11_guestNow_41 : decode cX11_guestNow 41 = .ok (.iconst 4, 1) := by decide +kernel
theorem dX11_guestNow_42 : decode cX11_guestNow 42 = .ok (.iaload, 1) := by decide +kernel
theorem dX11_guestNow_43 : decode cX11_guestNow 43 = .ok (.iastore, 1) := by decide +kernel
theorem dX11_guestNow_44 : decode cX11_guestNow 44 = .ok (.dup, 1) := by decide +kernel
theorem dX11_guestNow_45 : decode cX11_guestNow 45 = .ok (.iconst 5, 1) := by decide +kernel
theorem dX11_guestNow_46 : decode cX11_guestNow 46 = .ok (.aload_n 3, 1) := by decide +kernel
theorem dX11_guestNow_47 : decode cX11_guestNow 47 = .ok (.iconst 5, 1) := by decide +kernel
theorem dX11_guestNow_48 : decode cX11_guestNow 48 = .ok (.iaload, 1) := by decide +kernel
theorem dX11_guestNow_49 : decode cX11_guestNow 49 = .ok (.iastore, 1) := by decide +kernel
theorem dX11_guestNow_50 : decode cX11_guestNow 50 = .ok (.dup, 1) := by decide +kernel
theorem dX11_guestNow_51 : decode cX11_guestNow 51 = .ok (.bipush 6, 2) := by decide +kernel
theorem dX11_guestNow_53 : decode cX11_guestNow 53 = .ok (.aload_n 3, 1) := by decide +kernel
theorem dX11_guestNow_54 : decode cX11_guestNow 54 = .ok (.bipush 6, 2) := by decide +kernel
theorem dX11_guestNow_56 : decode cX11_guestNow 56 = .ok (.iaload, 1) := by decide +kernel
theorem dX11_guestNow_57 : decode cX11_guestNow 57 = .ok (.iastore, 1) := by decide +kernel
theorem dX11_guestNow_58 : decode cX11_guestNow 58 = .ok (.astore 4, 2) := by decide +kernel
theorem dX11_guestNow_60 : decode cX11_guestNow 60 = .ok (.aload 4, 2) := by decide +kernel
theorem dX11_guestNow_62 : decode cX11_guestNow 62 = .ok (.iload_n 2, 1) := by decide +kernel
theorem dX11_guestNow_63 : decode cX11_guestNow 63 = .ok (.iaload, 1) := by decide +kernel
theorem dX11_guestNow_64 : decode cX11_guestNow 64 = .ok (.ireturn, 1) := by decide +kernel
theorem dX11_ofGuest_0 : decode cX11_ofGuest 0 = .ok (.aload_n 0, 1) := by decide +kernel
theorem dX11_ofGuest_1 : decode cX11_ofGuest 1 = .ok (.iconst 0, 1) := by decide +kernel
theorem dX11_ofGuest_2 : decode cX11_ofGuest 2 = .ok (.putfield 16, 3) := by decide +kernel
theorem dX11_ofGuest_5 : decode cX11_ofGuest 5 = .ok (.aload_n 0, 1) := by decide +kernel
theorem dX11_ofGuest_6 : decode cX11_ofGuest 6 = .ok (.iload_n 1, 1) := by decide +kernel
theorem dX11_ofGuest_7 : decode cX11_ofGuest 7 = .ok (.invokevirtual 92, 3) := by decide +kernel
theorem dX11_ofGuest_10 : decode cX11_ofGuest 10 = .ok (.ifCond .ne 9, 3) := by decide +kernel
theorem dX11_ofGuest_13 : decode cX11_ofGuest 13 = .ok (.aload_n 0, 1) := by decide +kernel
theorem dX11_ofGuest_14 : decode cX11_ofGuest 14 = .ok (.iconst 1, 1) := by decide +kernel
theorem dX11_ofGuest_15 : decode cX11_ofGuest 15 = .ok (.invokevirtual 39, 3) := by decide +kernel
theorem dX11_ofGuest_18 : decode cX11_ofGuest 18 = .ok (.ireturn, 1) := by decide +kernel
theorem dX11_ofGuest_19 : decode cX11_ofGuest 19 = .ok (.iload_n 2, 1) := by decide +kernel
theorem dX11_ofGuest_20 : decode cX11_ofGuest 20 = .ok (.iconst 0, 1) := by decide +kernel
theorem dX11_ofGuest_21 : decode cX11_ofGuest 21 = .ok (.bipush 6, 2) := by decide +kernel
theorem dX11_ofGuest_23 : decode cX11_ofGuest 23 = .ok (.invokestatic 23, 3) := by decide +kernel
theorem dX11_ofGuest_26 : decode cX11_ofGuest 26 = .ok (.ifCond .ne 9, 3) := by decide +kernel
theorem dX11_ofGuest_29 : decode cX11_ofGuest 29 = .ok (.aload_n 0, 1) := by decide +kernel
theorem dX11_ofGuest_30 : decode cX11_ofGuest 30 = .ok (.iconst 2, 1) := by decide +kernel
theorem dX11_ofGuest_31 : decode cX11_ofGuest 31 = .ok (.invokevirtual 39, 3) := by decide +kernel
theorem dX11_ofGuest_34 : decode cX11_ofGuest 34 = .ok (.ireturn, 1) := by decide +kernel
theorem dX11_ofGuest_35 : decode cX11_ofGuest 35 = .ok (.aload_n 0, 1) := by decide +kernel
theorem dX11_ofGuest_36 : decode cX11_ofGuest 36 = .ok (.iload_n 1, 1) := by decide +kernel
theorem dX11_ofGuest_37 : decode cX11_ofGuest 37 = .ok (.iload_n 2, 1) := by decide +kernel
theorem dX11_ofGuest_38 : decode cX11_ofGuest 38 = .ok (.invokevirtual 155, 3) := by decide +kernel
theorem dX11_ofGuest_41 : decode cX11_ofGuest 41 = .ok (.ireturn, 1) := by decide +kernel
theorem dX11_propNow_0 : decode cX11_propNow 0 = .ok (.aload_n 0, 1) := by decide +kernel
theorem dX11_propNow_1 : decode cX11_propNow 1 = .ok (.getfield 10, 3) := by decide +kernel
theorem dX11_propNow_4 : decode cX11_propNow 4 = .ok (.getfield 70, 3) := by decide +kernel
theorem dX11_propNow_7 : decode cX11_propNow 7 = .ok (.iload_n 1, 1) := by decide +kernel
theorem dX11_propNow_8 : decode cX11_propNow 8 = .ok (.aaload, 1) := by decide +kernel
theorem dX11_propNow_9 : decode cX11_propNow 9 = .ok (.astore_n 3, 1) := by decide +kernel
theorem dX11_propNow_10 : decode cX11_propNow 10 = .ok (.aload_n 3, 1) := by decide +kernel
theorem dX11_propNow_11 : decode cX11_propNow 11 = .ok (.iconst 2, 1) := by decide +kernel
theorem dX11_propNow_12 : decode cX11_propNow 12 = .ok (.iaload, 1) := by decide +kernel
theorem dX11_propNow_13 : decode cX11_propNow 13 = .ok (.iconst (-1), 1) := by decide +kernel
theorem dX11_propNow_14 : decode cX11_propNow 14 = .ok (.if_icmp .eq 16, 3) := by decide +kernel
theorem dX11_propNow_17 : decode cX11_propNow 17 = .ok (.aload_n 0, 1) := by decide +kernel
theorem dX11_propNow_18 : decode cX11_propNow 18 = .ok (.getfield 10, 3) := by decide +kernel
theorem dX11_propNow_21 : decode cX11_propNow 21 = .ok (.aload_n 3, 1) := by decide +kernel
theorem dX11_propNow_22 : decode cX11_propNow 22 = .ok (.iconst 2, 1) := by decide +kernel
theorem dX11_propNow_23 : decode cX11_propNow 23 = .ok (.iaload, 1) := by decide +kernel
theorem dX11_propNow_24 : decode cX11_propNow 24 = .ok (.invokevirtual 123, 3) := by decide +kernel
theorem dX11_propNow_27 : decode cX11_propNow 27 = .ok (.goto 29, 3) := by decide +kernel
theorem dX11_propNow_30 : decode cX11_propNow 30 = .ok (.aload_n 3, 1) := by decide +kernel
theorem dX11_propNow_31 : decode cX11_propNow 31 = .ok (.iconst 3, 1) := by decide +kernel
theorem dX11_propNow_32 : decode cX11_propNow 32 = .ok (.iaload, 1) := by decide +kernel
theorem dX11_propNow_33 : decode cX11_propNow 33 = .ok (.iconst (-1), 1) := by decide +kernel
theorem dX11_propNow_34 : decode cX11_propNow 34 = .ok (.if_icmp .eq 19, 3) := by decide +kernel
theorem dX11_propNow_37 : decode cX11_propNow 37 = .ok (.aload_n 0, 1) := by decide +kernel
theorem dX11_propNow_38 : decode cX11_propNow 38 = .ok (.getfield 10, 3) := by decide +kernel
theorem dX11_propNow_41 : decode cX11_propNow 41 = .ok (.getfield 89, 3) := by decide +kernel
theorem dX11_propNow_44 : decode cX11_propNow 44 = .ok (.aload_n 3, 1) := by decide +kernel
theorem dX11_propNow_45 : decode cX11_propNow 45 = .ok (.iconst 3, 1) := by decide +kernel
theorem dX11_propNow_46 : decode cX11_propNow 46 = .ok (.iaload, 1) := by decide +kernel
theorem dX11_propNow_47 : decode cX11_propNow 47 = .ok (.aaload, 1) := by decide +kernel
theorem dX11_propNow_48 : decode cX11_propNow 48 = .ok (.iconst 1, 1) := by decide +kernel
theorem dX11_propNow_49 : decode cX11_propNow 49 = .ok (.iaload, 1) := by decide +kernel
theorem dX11_propNow_50 : decode cX11_propNow 50 = .ok (.goto 6, 3) := by decide +kernel
theorem dX11_propNow_53 : decode cX11_propNow 53 = .ok (.aload_n 3, 1) := by decide +kernel
theorem dX11_propNow_54 : decode cX11_propNow 54 = .ok (.iconst 1, 1) := by decide +kernel
theorem dX11_propNow_55 : decode cX11_propNow 55 = .ok (.iaload, 1) := by decide +kernel
theorem dX11_propNow_56 : decode cX11_propNow 56 = .ok (.istore 4, 2) := by decide +kernel
theorem dX11_propNow_58 : decode cX11_propNow 58 = .ok (.iconst 5, 1) := by decide +kernel
theorem dX11_propNow_59 : decode cX11_propNow 59 = .ok (.newarray .int, 2) := by decide +kernel
theorem dX11_propNow_61 : decode cX11_propNow 61 = .ok (.dup, 1) := by decide +kernel
theorem dX11_propNow_62 : decode cX11_propNow 62 = .ok (.iconst 0, 1) := by decide +kernel
theorem dX11_propNow_63 : decode cX11_propNow 63 = .ok (.aload_n 3, 1) := by decide +kernel
theorem dX11_propNow_64 : decode cX11_propNow 64 = .ok (.iconst 0, 1) := by decide +kernel
theorem dX11_propNow_65 : decode cX11_propNow 65 = .ok (.iaload, 1) := by decide +kernel
theorem dX11_propNow_66 : decode cX11_propNow 66 = .ok (.iastore, 1) := by decide +kernel
theorem dX11_propNow_67 : decode cX11_propNow 67 = .ok (.dup, 1) := by decide +kernel
theorem dX11_propNow_68 : decode cX11_propNow 68 = .ok (.iconst 1, 1) := by decide +kernel
theorem dX11_propNow_69 : decode cX11_propNow 69 = .ok (.iload 4, 2) := by decide +kernel
theorem dX11_propNow_71 : decode cX11_propNow 71 = .ok (.iastore, 1) := by decide +kernel
theorem dX11_propNow_72 : decode cX11_propNow 72 = .ok (.dup, 1) := by decide +kernel
theorem dX11_propNow_73 : decode cX11_propNow 73 = .ok (.iconst 2, 1) := by decide +kernel
theorem dX11_propNow_74 : decode cX11_propNow 74 = .ok (.aload_n 3, 1) := by decide +kernel
theorem dX11_propNow_75 : decode cX11_propNow 75 = .ok (.iconst 2, 1) := by decide +kernel
theorem dX11_propNow_76 : decode cX11_propNow 76 = .ok (.iaload, 1) := by decide +kernel
theorem dX11_propNow_77 : decode cX11_propNow 77 = .ok (.iastore, 1) := by decide +kernel
theorem dX11_propNow_78 : decode cX11_propNow 78 = .ok (.dup, 1) := by decide +kernel
theorem dX11_propNow_79 : decode cX11_propNow 79 = .ok (.iconst 3, 1) := by decide +kernel
theorem dX11_propNow_80 : decode cX11_propNow 80 = .ok (.aload_n 3, 1) := by decide +kernel
theorem dX11_propNow_81 : decode cX11_propNow 81 = .ok (.iconst 3, 1) := by decide +kernel
theorem dX11_propNow_82 : decode cX11_propNow 82 = .ok (.iaload, 1) := by decide +kernel
theorem dX11_propNow_83 : decode cX11_propNow 83 = .ok (.iastore, 1) := by decide +kernel
theorem dX11_propNow_84 : decode cX11_propNow 84 = .ok (.dup, 1) := by decide +kernel
theorem dX11_propNow_85 : decode cX11_propNow 85 = .ok (.iconst 4, 1) := by decide +kernel
theorem dX11_propNow_86 : decode cX11_propNow 86 = .ok (.aload_n 3, 1) := by decide +kernel
theorem dX11_propNow_87 : decode cX11_propNow 87 = .ok (.iconst 4, 1) := by decide +kernel
theorem dX11_propNow_88 : decode cX11_propNow 88 = .ok (.iaload, 1) := by decide +kernel
theorem dX11_propNow_89 : decode cX11_propNow 89 = .ok (.iastore, 1) := by decide +kernel
theorem dX11_propNow_90 : decode cX11_propNow 90 = .ok (.astore 5, 2) := by decide +kernel
theorem dX11_propNow_92 : decode cX11_propNow 92 = .ok (.aload 5, 2) := by decide +kernel
theorem dX11_propNow_94 : decode cX11_propNow 94 = .ok (.iload_n 2, 1) := by decide +kernel
theorem dX11_propNow_95 : decode cX11_propNow 95 = .ok (.iaload, 1) := by decide +kernel
theorem dX11_propNow_96 : decode cX11_propNow 96 = .ok (.ireturn, 1) := by decide +kernel
theorem dX11_ofProp_0 : decode cX11_ofProp 0 = .ok (.aload_n 0, 1) := by decide +kernel
theorem dX11_ofProp_1 : decode cX11_ofProp 1 = .ok (.iconst 0, 1) := by decide +kernel
theorem dX11_ofProp_2 : decode cX11_ofProp 2 = .ok (.putfield 16, 3) := by decide +kernel
theorem dX11_ofProp_5 : decode cX11_ofProp 5 = .ok (.aload_n 0, 1) := by decide +kernel
theorem dX11_ofProp_6 : decode cX11_ofProp 6 = .ok (.iload_n 1, 1) := by decide +kernel
theorem dX11_ofProp_7 : decode cX11_ofProp 7 = .ok (.invokevirtual 73, 3) := by decide +kernel
theorem dX11_ofProp_10 : decode cX11_ofProp 10 = .ok (.ifCond .ne 9, 3) := by decide +kernel
theorem dX11_ofProp_13 : decode cX11_ofProp 13 = .ok (.aload_n 0, 1) := by decide +kernel
theorem dX11_ofProp_14 : decode cX11_ofProp 14 = .ok (.iconst 1, 1) := by decide +kernel
theorem dX11_ofProp_15 : decode cX11_ofProp 15 = .ok (.invokevirtual 39, 3) := by decide +kernel
theorem dX11_ofProp_18 : decode cX11_ofProp 18 = .ok (.ireturn, 1) := by decide +kernel
theorem dX11_ofProp_19 : decode cX11_ofProp 19 = .ok (.iload_n 2, 1) := by decide +kernel
theorem dX11_ofProp_20 : decode cX11_ofProp 20 = .ok (.iconst 0, 1) := by decide +kernel
theorem dX11_ofProp_21 : decode cX11_ofProp 21 = .ok (.iconst 4, 1) := by decide +kernel
theorem dX11_ofProp_22 : decode cX11_ofProp 22 = .ok (.invokestatic 23, 3) := by decide +kernel
theorem dX11_ofProp_25 : decode cX11_ofProp 25 = .ok (.ifCond .ne 9, 3) := by decide +kernel
theorem dX11_ofProp_28 : decode cX11_ofProp 28 = .ok (.aload_n 0, 1) := by decide +kernel
theorem dX11_ofProp_29 : decode cX11_ofProp 29 = .ok (.iconst 2, 1) := by decide +kernel
theorem dX11_ofProp_30 : decode cX11_ofProp 30 = .ok (.invokevirtual 39, 3) := by decide +kernel
theorem dX11_ofProp_33 : decode cX11_ofProp 33 = .ok (.ireturn, 1) := by decide +kernel
theorem dX11_ofProp_34 : decode cX11_ofProp 34 = .ok (.aload_n 0, 1) := by decide +kernel
theorem dX11_ofProp_35 : decode cX11_ofProp 35 = .ok (.iload_n 1, 1) := by decide +kernel
theorem dX11_ofProp_36 : decode cX11_ofProp 36 = .ok (.iload_n 2, 1) := by decide +kernel
theorem dX11_ofProp_37 : decode cX11_ofProp 37 = .ok (.invokevirtual 158, 3) := by decide +kernel
theorem dX11_ofProp_40 : decode cX11_ofProp 40 = .ok (.ireturn, 1) := by decide +kernel
theorem dX11_seen_0 : decode cX11_seen 0 = .ok (.aload_n 0, 1) := by decide +kernel
theorem dX11_seen_1 : decode cX11_seen 1 = .ok (.iconst 0, 1) := by decide +kernel
theorem dX11_seen_2 : decode cX11_seen 2 = .ok (.putfield 16, 3) := by decide +kernel
theorem dX11_seen_5 : decode cX11_seen 5 = .ok (.aload_n 0, 1) := by decide +kernel
theorem dX11_seen_6 : decode cX11_seen 6 = .ok (.iload_n 1, 1) := by decide +kernel
theorem dX11_seen_7 : decode cX11_seen 7 = .ok (.invokevirtual 92, 3) := by decide +kernel
theorem dX11_seen_10 : decode cX11_seen 10 = .ok (.ifCond .eq 11, 3) := by decide +kernel
theorem dX11_seen_13 : decode cX11_seen 13 = .ok (.aload_n 0, 1) := by decide +kernel
theorem dX11_seen_14 : decode cX11_seen 14 = .ok (.iload_n 2, 1) := by decide +kernel
theorem dX11_seen_15 : decode cX11_seen 15 = .ok (.invokevirtual 149, 3) := by decide +kernel
theorem dX11_seen_18 : decode cX11_seen 18 = .ok (.ifCond .ne 9, 3) := by decide +kernel
theorem dX11_seen_21 : decode cX11_seen 21 = .ok (.aload_n 0, 1) := by decide +kernel
theorem dX11_seen_22 : decode cX11_seen 22 = .ok (.iconst 1, 1) := by decide +kernel
theorem dX11_seen_23 : decode cX11_seen 23 = .ok (.invokevirtual 39, 3) := by decide +kernel
theorem dX11_seen_26 : decode cX11_seen 26 = .ok (.ireturn, 1) := by decide +kernel
theorem dX11_seen_27 : decode cX11_seen 27 = .ok (.aload_n 0, 1) := by decide +kernel
theorem dX11_seen_28 : decode cX11_seen 28 = .ok (.getfield 10, 3) := by decide +kernel
theorem dX11_seen_31 : decode cX11_seen 31 = .ok (.getfield 161, 3) := by decide +kernel
theorem dX11_seen_34 : decode cX11_seen 34 = .ok (.iload_n 1, 1) := by decide +kernel
theorem dX11_seen_35 : decode cX11_seen 35 = .ok (.aaload, 1) := by decide +kernel
theorem dX11_seen_36 : decode cX11_seen 36 = .ok (.iload_n 2, 1) := by decide +kernel
theorem dX11_seen_37 : decode cX11_seen 37 = .ok (.iaload, 1) := by decide +kernel
theorem dX11_seen_38 : decode cX11_seen 38 = .ok (.ireturn, 1) := by decide +kernel
theorem dX11_manyNow_0 : decode cX11_manyNow 0 = .ok (.iconst 0, 1) := by decide +kernel
theorem dX11_manyNow_1 : decode cX11_manyNow 1 = .ok (.istore_n 2, 1) := by decide +kernel
theorem dX11_manyNow_2 : decode cX11_manyNow 2 = .ok (.iconst 0, 1) := by decide +kernel
theorem dX11_manyNow_3 : decode cX11_manyNow 3 = .ok (.istore_n 3, 1) := by decide +kernel
theorem dX11_manyNow_4 : decode cX11_manyNow 4 = .ok (.iconst 0, 1) := by decide +kernel
theorem dX11_manyNow_5 : decode cX11_manyNow 5 = .ok (.istore 4, 2) := by decide +kernel
theorem dX11_manyNow_7 : decode cX11_manyNow 7 = .ok (.iload 4, 2) := by decide +kernel
theorem dX11_manyNow_9 : decode cX11_manyNow 9 = .ok (.aload_n 0, 1) := by decide +kernel
theorem dX11_manyNow_10 : decode cX11_manyNow 10 = .ok (.getfield 10, 3) := by decide +kernel
theorem dX11_manyNow_13 : decode cX11_manyNow 13 = .ok (.getfield 33, 3) := by decide +kernel
theorem dX11_manyNow_16 : decode cX11_manyNow 16 = .ok (.if_icmp .ge 53, 3) := by decide +kernel
theorem dX11_manyNow_19 : decode cX11_manyNow 19 = .ok (.iload_n 2, 1) := by decide +kernel
theorem dX11_manyNow_20 : decode cX11_manyNow 20 = .ok (.aload_n 0, 1) := by decide +kernel
theorem dX11_manyNow_21 : decode cX11_manyNow 21 = .ok (.getfield 10, 3) := by decide +kernel
theorem dX11_manyNow_24 : decode cX11_manyNow 24 = .ok (.getfield 79, 3) := by decide +kernel
theorem dX11_manyNow_27 : decode cX11_manyNow 27 = .ok (.iload 4, 2) := by decide +kernel
theorem dX11_manyNow_29 : decode cX11_manyNow 29 = .ok (.aaload, 1) := by decide +kernel
theorem dX11_manyNow_30 : decode cX11_manyNow 30 = .ok (.iconst 5, 1) := by decide +kernel
theorem dX11_manyNow_31 : decode cX11_manyNow 31 = .ok (.iaload, 1) := by decide +kernel
theorem dX11_manyNow_32 : decode cX11_manyNow 32 = .ok (.iconst 1, 1) := by decide +kernel
theorem dX11_manyNow_33 : decode cX11_manyNow 33 = .ok (.if_icmp .ne 7, 3) := by decide +kernel
theorem dX11_manyNow_36 : decode cX11_manyNow 36 = .ok (.iconst 1, 1) := by decide +kernel
theorem dX11_manyNow_37 : decode cX11_manyNow 37 = .ok (.goto 4, 3) := by decide +kernel
theorem dX11_manyNow_40 : decode cX11_manyNow 40 = .ok (.iconst 0, 1) := by decide +kernel
theorem dX11_manyNow_41 : decode cX11_manyNow 41 = .ok (.iadd, 1) := by decide +kernel
theorem dX11_manyNow_42 : decode cX11_manyNow 42 = .ok (.istore_n 2, 1) := by decide +kernel
theorem dX11_manyNow_43 : decode cX11_manyNow 43 = .ok (.iload_n 3, 1) := by decide +kernel
theorem dX11_manyNow_44 : decode cX11_manyNow 44 = .ok (.aload_n 0, 1) := by decide +kernel
theorem dX11_manyNow_45 : decode cX11_manyNow 45 = .ok (.getfield 10, 3) := by decide +kernel
theorem dX11_manyNow_48 : decode cX11_manyNow 48 = .ok (.iload 4, 2) := by decide +kernel
theorem dX11_manyNow_50 : decode cX11_manyNow 50 = .ok (.invokevirtual 146, 3) := by decide +kernel
theorem dX11_manyNow_53 : decode cX11_manyNow 53 = .ok (.ifCond .ne 7, 3) := by decide +kernel
theorem dX11_manyNow_56 : decode cX11_manyNow 56 = .ok (.iconst 1, 1) := by decide +kernel
theorem dX11_manyNow_57 : decode cX11_manyNow 57 = .ok (.goto 4, 3) := by decide +kernel
theorem dX11_manyNow_60 : decode cX11_manyNow 60 = .ok (.iconst 0, 1) := by decide +kernel
theorem dX11_manyNow_61 : decode cX11_manyNow 61 = .ok (.iadd, 1) := by decide +kernel
theorem dX11_manyNow_62 : decode cX11_manyNow 62 = .ok (.istore_n 3, 1) := by decide +kernel
theorem dX11_manyNow_63 : decode cX11_manyNow 63 = .ok (.iinc 4 1, 3) := by decide +kernel
theorem dX11_manyNow_66 : decode cX11_manyNow 66 = .ok (.goto (-59), 3) := by decide +kernel
theorem dX11_manyNow_69 : decode cX11_manyNow 69 = .ok (.bipush 13, 2) := by decide +kernel
theorem dX11_manyNow_71 : decode cX11_manyNow 71 = .ok (.newarray .int, 2) := by decide +kernel
theorem dX11_manyNow_73 : decode cX11_manyNow 73 = .ok (.dup, 1) := by decide +kernel
theorem dX11_manyNow_74 : decode cX11_manyNow 74 = .ok (.iconst 0, 1) := by decide +kernel
theorem dX11_manyNow_75 : decode cX11_manyNow 75 = .ok (.aload_n 0, 1) := by decide +kernel
theorem dX11_manyNow_76 : decode cX11_manyNow 76 = .ok (.getfield 10, 3) := by decide +kernel
theorem dX11_manyNow_79 : decode cX11_manyNow 79 = .ok (.getfield 76, 3) := by decide +kernel
theorem dX11_manyNow_82 : decode cX11_manyNow 82 = .ok (.iastore, 1) := by decide +kernel
theorem dX11_manyNow_83 : decode cX11_manyNow 83 = .ok (.dup, 1) := by decide +kernel
theorem dX11_manyNow_84 : decode cX11_manyNow 84 = .ok (.iconst 1, 1) := by decide +kernel
theorem dX11_manyNow_85 : decode cX11_manyNow 85 = .ok (.aload_n 0, 1) := by decide +kernel
theorem dX11_manyNow_86 : decode cX11_manyNow 86 = .ok (.getfield 10, 3) := by decide +kernel
theorem dX11_manyNow_89 : decode cX11_manyNow 89 = .ok (.getfield 20, 3) := by decide +kernel
theorem dX11_manyNow_92 : decode cX11_manyNow 92 = .ok (.iastore, 1) := by decide +kernel
theorem dX11_manyNow_93 : decode cX11_manyNow 93 = .ok (.dup, 1) := by decide +kernel
theorem dX11_manyNow_94 : decode cX11_manyNow 94 = .ok (.iconst 2, 1) := by decide +kernel
theorem dX11_manyNow_95 : decode cX11_manyNow 95 = .ok (.aload_n 0, 1) := by decide +kernel
theorem dX11_manyNow_96 : decode cX11_manyNow 96 = .ok (.getfield 10, 3) := by decide +kernel
theorem dX11_manyNow_99 : decode cX11_manyNow 99 = .ok (.getfield 54, 3) := by decide +kernel
theorem dX11_manyNow_102 : decode cX11_manyNow 102 = .ok (.iastore, 1) := by decide +kernel
theorem dX11_manyNow_103 : decode cX11_manyNow 103 = .ok (.dup, 1) := by decide +kernel
theorem dX11_manyNow_104 : decode cX11_manyNow 104 = .ok (.iconst 3, 1) := by decide +kernel
theorem dX11_manyNow_105 : decode cX11_manyNow 105 = .ok (.aload_n 0, 1) := by decide +kernel
theorem dX11_manyNow_106 : decode cX11_manyNow 106 = .ok (.getfield 10, 3) := by decide +kernel
theorem dX11_manyNow_109 : decode cX11_manyNow 109 = .ok (.getfield 27, 3) := by decide +kernel
theorem dX11_manyNow_112 : decode cX11_manyNow 112 = .ok (.iastore, 1) := by decide +kernel
theorem dX11_manyNow_113 : decode cX11_manyNow 113 = .ok (.dup, 1) := by decide +kernel
theorem dX11_manyNow_114 : decode cX11_manyNow 114 = .ok (.iconst 4, 1) := by decide +kernel
theorem dX11_manyNow_115 : decode cX11_manyNow 115 = .ok (.aload_n 0, 1) := by decide +kernel
theorem dX11_manyNow_116 : decode cX11_manyNow 116 = .ok (.getfield 10, 3) := by decide +kernel
theorem dX11_manyNow_119 : decode cX11_manyNow 119 = .ok (.getfield 33, 3) := by decide +kernel
theorem dX11_manyNow_122 : decode cX11_manyNow 122 = .ok (.iastore, 1) := by decide +kernel
theorem dX11_manyNow_123 : decode cX11_manyNow 123 = .ok (.dup, 1) := by decide +kernel
theorem dX11_manyNow_124 : decode cX11_manyNow 124 = .ok (.iconst 5, 1) := by decide +kernel
theorem dX11_manyNow_125 : decode cX11_manyNow 125 = .ok (.aload_n 0, 1) := by decide +kernel
theorem dX11_manyNow_126 : decode cX11_manyNow 126 = .ok (.getfield 10, 3) := by decide +kernel
theorem dX11_manyNow_129 : decode cX11_manyNow 129 = .ok (.getfield 30, 3) := by decide +kernel
theorem dX11_manyNow_132 : decode cX11_manyNow 132 = .ok (.iastore, 1) := by decide +kernel
theorem dX11_manyNow_133 : decode cX11_manyNow 133 = .ok (.dup, 1) := by decide +kernel
theorem dX11_manyNow_134 : decode cX11_manyNow 134 = .ok (.bipush 6, 2) := by decide +kernel
theorem dX11_manyNow_136 : decode cX11_manyNow 136 = .ok (.aload_n 0, 1) := by decide +kernel
theorem dX11_manyNow_137 : decode cX11_manyNow 137 = .ok (.getfield 10, 3) := by decide +kernel
theorem dX11_manyNow_140 : decode cX11_manyNow 140 = .ok (.getfield 36, 3) := by decide +kernel
theorem dX11_manyNow_143 : decode cX11_manyNow 143 = .ok (.iastore, 1) := by decide +kernel
theorem dX11_manyNow_144 : decode cX11_manyNow 144 = .ok (.dup, 1) := by decide +kernel
theorem dX11_manyNow_145 : decode cX11_manyNow 145 = .ok (.bipush 7, 2) := by decide +kernel
theorem dX11_manyNow_147 : decode cX11_manyNow 147 = .ok (.iload_n 2, 1) := by decide +kernel
theorem dX11_manyNow_148 : decode cX11_manyNow 148 = .ok (.iastore, 1) := by decide +kernel
theorem dX11_manyNow_149 : decode cX11_manyNow 149 = .ok (.dup, 1) := by decide +kernel
theorem dX11_manyNow_150 : decode cX11_manyNow 150 = .ok (.bipush 8, 2) := by decide +kernel
theorem dX11_manyNow_152 : decode cX11_manyNow 152 = .ok (.aload_n 0, 1) := by decide +kernel
theorem dX11_manyNow_153 : decode cX11_manyNow 153 = .ok (.getfield 10, 3) := by decide +kernel
theorem dX11_manyNow_156 : decode cX11_manyNow 156 = .ok (.aload_n 0, 1) := by decide +kernel
theorem dX11_manyNow_157 : decode cX11_manyNow 157 = .ok (.getfield 10, 3) := by decide +kernel
theorem dX11_manyNow_160 : decode cX11_manyNow 160 = .ok (.getfield 79, 3) := by decide +kernel
theorem dX11_manyNow_163 : decode cX11_manyNow 163 = .ok (.aload_n 0, 1) := by decide +kernel
theorem dX11_manyNow_164 : decode cX11_manyNow 164 = .ok (.getfield 10, 3) := by decide +kernel
theorem dX11_manyNow_167 : decode cX11_manyNow 167 = .ok (.getfield 33, 3) := by decide +kernel
theorem dX11_manyNow_170 : decode cX11_manyNow 170 = .ok (.bipush 8, 2) := by decide +kernel
theorem dX11_manyNow_172 : decode cX11_manyNow 172 = .ok (.invokevirtual 164, 3) := by decide +kernel
theorem dX11_manyNow_175 : decode cX11_manyNow 175 = .ok (.iastore, 1) := by decide +kernel
theorem dX11_manyNow_176 : decode cX11_manyNow 176 = .ok (.dup, 1) := by decide +kernel
theorem dX11_manyNow_177 : decode cX11_manyNow 177 = .ok (.bipush 9, 2) := by decide +kernel
theorem dX11_manyNow_179 : decode cX11_manyNow 179 = .ok (.aload_n 0, 1) := by decide +kernel
theorem dX11_manyNow_180 : decode cX11_manyNow 180 = .ok (.getfield 10, 3) := by decide +kernel
theorem dX11_manyNow_183 : decode cX11_manyNow 183 = .ok (.aload_n 0, 1) := by decide +kernel
theorem dX11_manyNow_184 : decode cX11_manyNow 184 = .ok (.getfield 10, 3) := by decide +kernel
theorem dX11_manyNow_187 : decode cX11_manyNow 187 = .ok (.getfield 79, 3) := by decide +kernel
theorem dX11_manyNow_190 : decode cX11_manyNow 190 = .ok (.aload_n 0, 1) := by decide +kernel
theorem dX11_manyNow_191 : decode cX11_manyNow 191 = .ok (.getfield 10, 3) := by decide +kernel
theorem dX11_manyNow_194 : decode cX11_manyNow 194 = .ok (.getfield 33, 3) := by decide +kernel
theorem dX11_manyNow_197 : decode cX11_manyNow 197 = .ok (.bipush 9, 2) := by decide +kernel
theorem dX11_manyNow_199 : decode cX11_manyNow 199 = .ok (.invokevirtual 164, 3) := by decide +kernel
theorem dX11_manyNow_202 : decode cX11_manyNow 202 = .ok (.iastore, 1) := by decide +kernel
theorem dX11_manyNow_203 : decode cX11_manyNow 203 = .ok (.dup, 1) := by decide +kernel
theorem dX11_manyNow_204 : decode cX11_manyNow 204 = .ok (.bipush 10, 2) := by decide +kernel
theorem dX11_manyNow_206 : decode cX11_manyNow 206 = .ok (.aload_n 0, 1) := by decide +kernel
theorem dX11_manyNow_207 : decode cX11_manyNow 207 = .ok (.getfield 10, 3) := by decide +kernel
theorem dX11_manyNow_210 : decode cX11_manyNow 210 = .ok (.getfield 168, 3) := by decide +kernel
theorem dX11_manyNow_213 : decode cX11_manyNow 213 = .ok (.iastore, 1) := by decide +kernel
theorem dX11_manyNow_214 : decode cX11_manyNow 214 = .ok (.dup, 1) := by decide +kernel
theorem dX11_manyNow_215 : decode cX11_manyNow 215 = .ok (.bipush 11, 2) := by decide +kernel
theorem dX11_manyNow_217 : decode cX11_manyNow 217 = .ok (.iload_n 3, 1) := by decide +kernel
theorem dX11_manyNow_218 : decode cX11_manyNow 218 = .ok (.iastore, 1) := by decide +kernel
theorem dX11_manyNow_219 : decode cX11_manyNow 219 = .ok (.dup, 1) := by decide +kernel
theorem dX11_manyNow_220 : decode cX11_manyNow 220 = .ok (.bipush 12, 2) := by decide +kernel
theorem dX11_manyNow_222 : decode cX11_manyNow 222 = .ok (.aload_n 0, 1) := by decide +kernel
theorem dX11_manyNow_223 : decode cX11_manyNow 223 = .ok (.getfield 10, 3) := by decide +kernel
theorem dX11_manyNow_226 : decode cX11_manyNow 226 = .ok (.aload_n 0, 1) := by decide +kernel
theorem dX11_manyNow_227 : decode cX11_manyNow 227 = .ok (.getfield 10, 3) := by decide +kernel
theorem dX11_manyNow_230 : decode cX11_manyNow 230 = .ok (.getfield 89, 3) := by decide +kernel
theorem dX11_manyNow_233 : decode cX11_manyNow 233 = .ok (.aload_n 0, 1) := by decide +kernel
theorem dX11_manyNow_234 : decode cX11_manyNow 234 = .ok (.getfield 10, 3) := by decide +kernel
theorem dX11_manyNow_237 : decode cX11_manyNow 237 = .ok (.getfield 36, 3) := by decide +kernel
theorem dX11_manyNow_240 : decode cX11_manyNow 240 = .ok (.bipush 6, 2) := by decide +kernel
theorem dX11_manyNow_242 : decode cX11_manyNow 242 = .ok (.invokevirtual 164, 3) := by decide +kernel
theorem dX11_manyNow_245 : decode cX11_manyNow 245 = .ok (.iastore, 1) := by decide +kernel
theorem dX11_manyNow_246 : decode cX11_manyNow 246 = .ok (.astore 4, 2) := by decide +kernel
theorem dX11_manyNow_248 : decode cX11_manyNow 248 = .ok (.aload 4, 2) := by decide +kernel
theorem dX11_manyNow_250 : decode cX11_manyNow 250 = .ok (.iload_n 1, 1) := by decide +kernel
theorem dX11_manyNow_251 : decode cX11_manyNow 251 = .ok (.iaload, 1) := by decide +kernel
theorem dX11_manyNow_252 : decode cX11_manyNow 252 = .ok (.ireturn, 1) := by decide +kernel
theorem dX11_many_0 : decode cX11_many 0 = .ok (.aload_n 0, 1) := by decide +kernel
theorem dX11_many_1 : decode cX11_many 1 = .ok (.iconst 0, 1) := by decide +kernel
theorem dX11_many_2 : decode cX11_many 2 = .ok (.putfield 16, 3) := by decide +kernel
theorem dX11_many_5 : decode cX11_many 5 = .ok (.iload_n 1, 1) := by decide +kernel
theorem dX11_many_6 : decode cX11_many 6 = .ok (.iconst 0, 1) := by decide +kernel
theorem dX11_many_7 : decode cX11_many 7 = .ok (.bipush 12, 2) := by decide +kernel
theorem dX11_many_9 : decode cX11_many 9 = .ok (.invokestatic 23, 3) := by decide +kernel
theorem dX11_many_12 : decode cX11_many 12 = .ok (.ifCond .ne 9, 3) := by decide +kernel
theorem dX11_many_15 : decode cX11_many 15 = .ok (.aload_n 0, 1) := by decide +kernel
theorem dX11_many_16 : decode cX11_many 16 = .ok (.iconst 1, 1) := by decide +kernel
theorem dX11_many_17 : decode cX11_many 17 = .ok (.invokevirtual 39, 3) := by decide +kernel
theorem dX11_many_20 : decode cX11_many 20 = .ok (.ireturn, 1) := by decide +kernel
theorem dX11_many_21 : decode cX11_many 21 = .ok (.aload_n 0, 1) := by decide +kernel
theorem dX11_many_22 : decode cX11_many 22 = .ok (.iload_n 1, 1) := by decide +kernel
theorem dX11_many_23 : decode cX11_many 23 = .ok (.invokevirtual 171, 3) := by decide +kernel
theorem dX11_many_26 : decode cX11_many 26 = .ok (.ireturn, 1) := by decide +kernel
theorem dX11_meanKnown_0 : decode cX11_meanKnown 0 = .ok (.aload_n 0, 1) := by decide +kernel
theorem dX11_meanKnown_1 : decode cX11_meanKnown 1 = .ok (.iconst 0, 1) := by decide +kernel
theorem dX11_meanKnown_2 : decode cX11_meanKnown 2 = .ok (.putfield 16, 3) := by decide +kernel
theorem dX11_meanKnown_5 : decode cX11_meanKnown 5 = .ok (.iconst 0, 1) := by decide +kernel
theorem dX11_meanKnown_6 : decode cX11_meanKnown 6 = .ok (.istore_n 1, 1) := by decide +kernel
theorem dX11_meanKnown_7 : decode cX11_meanKnown 7 = .ok (.iconst 0, 1) := by decide +kernel
theorem dX11_meanKnown_8 : decode cX11_meanKnown 8 = .ok (.istore_n 2, 1) := by decide +kernel
theorem dX11_meanKnown_9 : decode cX11_meanKnown 9 = .ok (.iload_n 2, 1) := by decide +kernel
theorem dX11_meanKnown_10 : decode cX11_meanKnown 10 = .ok (.aload_n 0, 1) := by decide +kernel
theorem dX11_meanKnown_11 : decode cX11_meanKnown 11 = .ok (.getfield 10, 3) := by decide +kernel
theorem dX11_meanKnown_14 : decode cX11_meanKnown 14 = .ok (.getfield 36, 3) := by decide +kernel
theorem dX11_meanKnown_17 : decode cX11_meanKnown 17 = .ok (.if_icmp .ge 26, 3) := by decide +kernel
theorem dX11_meanKnown_20 : decode cX11_meanKnown 20 = .ok (.iload_n 1, 1) := by decide +kernel
theorem dX11_meanKnown_21 : decode cX11_meanKnown 21 = .ok (.aload_n 0, 1) := by decide +kernel
theorem dX11_meanKnown_22 : decode cX11_meanKnown 22 = .ok (.getfield 10, 3) := by decide +kernel
theorem dX11_meanKnown_25 : decode cX11_meanKnown 25 = .ok (.getfield 89, 3) := by decide +kernel
theorem dX11_meanKnown_28 : decode cX11_meanKnown 28 = .ok (.iload_n 2, 1) := by decide +kernel
theorem dX11_meanKnown_29 : decode cX11_meanKnown 29 = .ok (.aaload, 1) := by decide +kernel
theorem dX11_meanKnown_30 : decode cX11_meanKnown 30 = .ok (.iconst 4, 1) := by decide +kernel
theorem dX11_meanKnown_31 : decode cX11_meanKnown 31 = .ok (.iaload, 1) := by decide +kernel
theorem dX11_meanKnown_32 : decode cX11_meanKnown 32 = .ok (.invokestatic 111, 3) := by decide +kernel
theorem dX11_meanKnown_35 : decode cX11_meanKnown 35 = .ok (.iadd, 1) := by decide +kernel
theorem dX11_meanKnown_36 : decode cX11_meanKnown 36 = .ok (.istore_n 1, 1) := by decide +kernel
theorem dX11_meanKnown_37 : decode cX11_meanKnown 37 = .ok (.iinc 2 1, 3) := by decide +kernel
theorem dX11_meanKnown_40 : decode cX11_meanKnown 40 = .ok (.goto (-31), 3) := by decide +kernel
theorem dX11_meanKnown_43 : decode cX11_meanKnown 43 = .ok (.aload_n 0, 1) := by decide +kernel
theorem dX11_meanKnown_44 : decode cX11_meanKnown 44 = .ok (.getfield 10, 3) := by decide +kernel
theorem dX11_meanKnown_47 : decode cX11_meanKnown 47 = .ok (.getfield 36, 3) := by decide +kernel
theorem dX11_meanKnown_50 : decode cX11_meanKnown 50 = .ok (.ifCond .ne 7, 3) := by decide +kernel
theorem dX11_meanKnown_53 : decode cX11_meanKnown 53 = .ok (.dconst 0, 1) := by decide +kernel
theorem dX11_meanKnown_54 : decode cX11_meanKnown 54 = .ok (.goto 14, 3) := by decide +kernel
theorem dX11_meanKnown_57 : decode cX11_meanKnown 57 = .ok (.iload_n 1, 1) := by decide +kernel
theorem dX11_meanKnown_58 : decode cX11_meanKnown 58 = .ok (.i2d, 1) := by decide +kernel
theorem dX11_meanKnown_59 : decode cX11_meanKnown 59 = .ok (.aload_n 0, 1) := by decide +kernel
theorem dX11_meanKnown_60 : decode cX11_meanKnown 60 = .ok (.getfield 10, 3) := by decide +kernel
theorem dX11_meanKnown_63 : decode cX11_meanKnown 63 = .ok (.getfield 36, 3) := by decide +kernel
theorem dX11_meanKnown_66 : decode cX11_meanKnown 66 = .ok (.i2d, 1) := by decide +kernel
theorem dX11_meanKnown_67 : decode cX11_meanKnown 67 = .ok (.ddiv, 1) := by decide +kernel
theorem dX11_meanKnown_68 : decode cX11_meanKnown 68 = .ok (.dreturn, 1) := by decide +kernel
theorem dX11_knowNow_0 : decode cX11_knowNow 0 = .ok (.iconst 0, 1) := by decide +kernel
theorem dX11_knowNow_1 : decode cX11_knowNow 1 = .ok (.istore 4, 2) := by decide +kernel
theorem dX11_knowNow_3 : decode cX11_knowNow 3 = .ok (.iload 4, 2) := by decide +kernel
theorem dX11_knowNow_5 : decode cX11_knowNow 5 = .ok (.iload_n 3, 1) := by decide +kernel
theorem dX11_knowNow_6 : decode cX11_knowNow 6 = .ok (.if_icmp .ge 14, 3) := by decide +kernel
theorem dX11_knowNow_9 : decode cX11_knowNow 9 = .ok (.aload_n 1, 1) := by decide +kernel
theorem dX11_knowNow_10 : decode cX11_knowNow 10 = .ok (.invokevirtual 98, 3) := by decide +kernel
theorem dX11_knowNow_13 : decode cX11_knowNow 13 = .ok (.pop, 1) := by decide +kernel
theorem dX11_knowNow_14 : decode cX11_knowNow 14 = .ok (.iinc 4 1, 3) := by decide +kernel
theorem dX11_knowNow_17 : decode cX11_knowNow 17 = .ok (.goto (-14), 3) := by decide +kernel
theorem dX11_knowNow_20 : decode cX11_knowNow 20 = .ok (.aload_n 1, 1) := by decide +kernel
theorem dX11_knowNow_21 : decode cX11_knowNow 21 = .ok (.getfield 89, 3) := by decide +kernel
theorem dX11_knowNow_24 : decode cX11_knowNow 24 = .ok (.iload_n 2, 1) := by decide +kernel
theorem dX11_knowNow_25 : decode cX11_knowNow 25 = .ok (.aaload, 1) := by decide +kernel
theorem dX11_knowNow_26 : decode cX11_knowNow 26 = .ok (.iconst 4, 1) := by decide +kernel
theorem dX11_knowNow_27 : decode cX11_knowNow 27 = .ok (.iaload, 1) := by decide +kernel
theorem dX11_knowNow_28 : decode cX11_knowNow 28 = .ok (.invokestatic 111, 3) := by decide +kernel
theorem dX11_knowNow_31 : decode cX11_knowNow 31 = .ok (.ireturn, 1) := by decide +kernel
theorem dX11_wouldKnow_0 : decode cX11_wouldKnow 0 = .ok (.aload_n 0, 1) := by decide +kernel
theorem dX11_wouldKnow_1 : decode cX11_wouldKnow 1 = .ok (.iconst 0, 1) := by decide +kernel
theorem dX11_wouldKnow_2 : decode cX11_wouldKnow 2 = .ok (.putfield 16, 3) := by decide +kernel
theorem dX11_wouldKnow_5 : decode cX11_wouldKnow 5 = .ok (.aload_n 0, 1) := by decide +kernel
theorem dX11_wouldKnow_6 : decode cX11_wouldKnow 6 = .ok (.iload_n 1, 1) := by decide +kernel
theorem dX11_wouldKnow_7 : decode cX11_wouldKnow 7 = .ok (.invokevirtual 92, 3) := by decide +kernel
theorem dX11_wouldKnow_10 : decode cX11_wouldKnow 10 = .ok (.ifCond .ne 9, 3) := by decide +kernel
theorem dX11_wouldKnow_13 : decode cX11_wouldKnow 13 = .ok (.aload_n 0, 1) := by decide +kernel
theorem dX11_wouldKnow_14 : decode cX11_wouldKnow 14 = .ok (.iconst 1, 1) := by decide +kernel
theorem dX11_wouldKnow_15 : decode cX11_wouldKnow 15 = .ok (.invokevirtual 39, 3) := by decide +kernel
theorem dX11_wouldKnow_18 : decode cX11_wouldKnow 18 = .ok (.ireturn, 1) := by decide +kernel
theorem dX11_wouldKnow_19 : decode cX11_wouldKnow 19 = .ok (.iload_n 2, 1) := by decide +kernel
theorem dX11_wouldKnow_20 : decode cX11_wouldKnow 20 = .ok (.iconst 1, 1) := by decide +kernel
theorem dX11_wouldKnow_21 : decode cX11_wouldKnow 21 = .ok (.bipush 40, 2) := by decide +kernel
theorem dX11_wouldKnow_23 : decode cX11_wouldKnow 23 = .ok (.invokestatic 23, 3) := by decide +kernel
theorem dX11_wouldKnow_26 : decode cX11_wouldKnow 26 = .ok (.ifCond .ne 9, 3) := by decide +kernel
theorem dX11_wouldKnow_29 : decode cX11_wouldKnow 29 = .ok (.aload_n 0, 1) := by decide +kernel
theorem dX11_wouldKnow_30 : decode cX11_wouldKnow 30 = .ok (.iconst 2, 1) := by decide +kernel
theorem dX11_wouldKnow_31 : decode cX11_wouldKnow 31 = .ok (.invokevirtual 39, 3) := by decide +kernel
theorem dX11_wouldKnow_34 : decode cX11_wouldKnow 34 = .ok (.ireturn, 1) := by decide +kernel
theorem dX11_wouldKnow_35 : decode cX11_wouldKnow 35 = .ok (.aload_n 0, 1) := by decide +kernel
theorem dX11_wouldKnow_36 : decode cX11_wouldKnow 36 = .ok (.aload_n 0, 1) := by decide +kernel
theorem dX11_wouldKnow_37 : decode cX11_wouldKnow 37 = .ok (.getfield 10, 3) := by decide +kernel
theorem dX11_wouldKnow_40 : decode cX11_wouldKnow 40 = .ok (.invokevirtual 174, 3) := by decide +kernel
theorem dX11_wouldKnow_43 : decode cX11_wouldKnow 43 = .ok (.iload_n 1, 1) := by decide +kernel
theorem dX11_wouldKnow_44 : decode cX11_wouldKnow 44 = .ok (.iload_n 2, 1) := by decide +kernel
theorem dX11_wouldKnow_45 : decode cX11_wouldKnow 45 = .ok (.invokevirtual 178, 3) := by decide +kernel
theorem dX11_wouldKnow_48 : decode cX11_wouldKnow 48 = .ok (.ireturn, 1) := by decide +kernel
theorem dX11_bestHabit_0 : decode cX11_bestHabit 0 = .ok (.aload_n 0, 1) := by decide +kernel
theorem dX11_bestHabit_1 : decode cX11_bestHabit 1 = .ok (.iconst 0, 1) := by decide +kernel
theorem dX11_bestHabit_2 : decode cX11_bestHabit 2 = .ok (.putfield 16, 3) := by decide +kernel
theorem dX11_bestHabit_5 : decode cX11_bestHabit 5 = .ok (.aload_n 0, 1) := by decide +kernel
theorem dX11_bestHabit_6 : decode cX11_bestHabit 6 = .ok (.iload_n 1, 1) := by decide +kernel
theorem dX11_bestHabit_7 : decode cX11_bestHabit 7 = .ok (.invokevirtual 92, 3) := by decide +kernel
theorem dX11_bestHabit_10 : decode cX11_bestHabit 10 = .ok (.ifCond .ne 9, 3) := by decide +kernel
theorem dX11_bestHabit_13 : decode cX11_bestHabit 13 = .ok (.aload_n 0, 1) := by decide +kernel
theorem dX11_bestHabit_14 : decode cX11_bestHabit 14 = .ok (.iconst 1, 1) := by decide +kernel
theorem dX11_bestHabit_15 : decode cX11_bestHabit 15 = .ok (.invokevirtual 39, 3) := by decide +kernel
theorem dX11_bestHabit_18 : decode cX11_bestHabit 18 = .ok (.ireturn, 1) := by decide +kernel
theorem dX11_bestHabit_19 : decode cX11_bestHabit 19 = .ok (.iload_n 2, 1) := by decide +kernel
theorem dX11_bestHabit_20 : decode cX11_bestHabit 20 = .ok (.iconst 1, 1) := by decide +kernel
theorem dX11_bestHabit_21 : decode cX11_bestHabit 21 = .ok (.bipush 40, 2) := by decide +kernel
theorem dX11_bestHabit_23 : decode cX11_bestHabit 23 = .ok (.invokestatic 23, 3) := by decide +kernel
theorem dX11_bestHabit_26 : decode cX11_bestHabit 26 = .ok (.ifCond .ne 9, 3) := by decide +kernel
theorem dX11_bestHabit_29 : decode cX11_bestHabit 29 = .ok (.aload_n 0, 1) := by decide +kernel
theorem dX11_bestHabit_30 : decode cX11_bestHabit 30 = .ok (.iconst 2, 1) := by decide +kernel
theorem dX11_bestHabit_31 : decode cX11_bestHabit 31 = .ok (.invokevirtual 39, 3) := by decide +kernel
theorem dX11_bestHabit_34 : decode cX11_bestHabit 34 = .ok (.ireturn, 1) := by decide +kernel
theorem dX11_bestHabit_35 : decode cX11_bestHabit 35 = .ok (.iconst 0, 1) := by decide +kernel
theorem dX11_bestHabit_36 : decode cX11_bestHabit 36 = .ok (.istore_n 3, 1) := by decide +kernel
theorem dX11_bestHabit_37 : decode cX11_bestHabit 37 = .ok (.iconst (-1), 1) := by decide +kernel
theorem dX11_bestHabit_38 : decode cX11_bestHabit 38 = .ok (.istore 4, 2) := by decide +kernel
theorem dX11_bestHabit_40 : decode cX11_bestHabit 40 = .ok (.iconst 0, 1) := by decide +kernel
theorem dX11_bestHabit_41 : decode cX11_bestHabit 41 = .ok (.istore 5, 2) := by decide +kernel
theorem dX11_bestHabit_43 : decode cX11_bestHabit 43 = .ok (.iload 5, 2) := by decide +kernel
theorem dX11_bestHabit_45 : decode cX11_bestHabit 45 = .ok (.bipush 10, 2) := by decide +kernel
theorem dX11_bestHabit_47 : decode cX11_bestHabit 47 = .ok (.aload_n 0, 1) := by decide +kernel
theorem dX11_bestHabit_48 : decode cX11_bestHabit 48 = .ok (.getfield 10, 3) := by decide +kernel
theorem dX11_bestHabit_51 : decode cX11_bestHabit 51 = .ok (.getfield 27, 3) := by decide +kernel
theorem dX11_bestHabit_54 : decode cX11_bestHabit 54 = .ok (.iadd, 1) := by decide +kernel
theorem dX11_bestHabit_55 : decode cX11_bestHabit 55 = .ok (.if_icmp .ge 116, 3) := by decide +kernel
theorem dX11_bestHabit_58 : decode cX11_bestHabit 58 = .ok (.iload 5, 2) := by decide +kernel
theorem dX11_bestHabit_60 : decode cX11_bestHabit 60 = .ok (.iconst 1, 1) := by decide +kernel
theorem dX11_bestHabit_61 : decode cX11_bestHabit 61 = .ok (.if_icmp .eq 104, 3) := by decide +kernel
theorem dX11_bestHabit_64 : decode cX11_bestHabit 64 = .ok (.iload 5, 2) := by decide +kernel
theorem dX11_bestHabit_66 : decode cX11_bestHabit 66 = .ok (.iconst 4, 1) := by decide +kernel
theorem dX11_bestHabit_67 : decode cX11_bestHabit 67 = .ok (.bipush 9, 2) := by decide +kernel
theorem dX11_bestHabit_69 : decode cX11_bestHabit 69 = .ok (.invokestatic 23, 3) := by decide +kernel
theorem dX11_bestHabit_72 : decode cX11_bestHabit 72 = .ok (.ifCond .eq 6, 3) := by decide +kernel
theorem dX11_bestHabit_75 : decode cX11_bestHabit 75 = .ok (.goto 90, 3) := by decide +kernel
theorem dX11_bestHabit_78 : decode cX11_bestHabit 78 = .ok (.aload_n 0, 1) := by decide +kernel
theorem dX11_bestHabit_79 : decode cX11_bestHabit 79 = .ok (.getfield 10, 3) := by decide +kernel
theorem dX11_bestHabit_82 : decode cX11_bestHabit 82 = .ok (.invokevirtual 174, 3) := by decide +kernel
theorem dX11_bestHabit_85 : decode cX11_bestHabit 85 = .ok (.astore 6, 2) := by decide +kernel
theorem dX11_bestHabit_87 : decode cX11_bestHabit 87 = .ok (.aload 6, 2) := by decide +kernel
theorem dX11_bestHabit_89 : decode cX11_bestHabit 89 = .ok (.getfield 89, 3) := by decide +kernel
theorem dX11_bestHabit_92 : decode cX11_bestHabit 92 = .ok (.iload_n 1, 1) := by decide +kernel
theorem dX11_bestHabit_93 : decode cX11_bestHabit 93 = .ok (.aaload, 1) := by decide +kernel
theorem dX11_bestHabit_94 : decode cX11_bestHabit 94 = .ok (.iconst 0, 1) := by decide +kernel
theorem dX11_bestHabit_95 : decode cX11_bestHabit 95 = .ok (.iload 5, 2) := by decide +kernel
theorem dX11_bestHabit_97 : decode cX11_bestHabit 97 = .ok (.iconst 4, 1) := by decide +kernel
theorem dX11_bestHabit_98 : decode cX11_bestHabit 98 = .ok (.if_icmp .ge 8, 3) := by decide +kernel
theorem dX11_bestHabit_101 : decode cX11_bestHabit 101 = .ok (.iload 5, 2) := by decide +kernel
theorem dX11_bestHabit_103 : decode cX11_bestHabit 103 = .ok (.goto 4, 3) := by decide +kernel
theorem dX11_bestHabit_106 : decode cX11_bestHabit 106 = .ok (.iconst 1, 1) := by decide +kernel
theorem dX11_bestHabit_107 : decode cX11_bestHabit 107 = .ok (.iastore, 1) := by decide +kernel
theorem dX11_bestHabit_108 : decode cX11_bestHabit 108 = .ok (.aload 6, 2) := by decide +kernel
theorem dX11_bestHabit_110 : decode cX11_bestHabit 110 = .ok (.getfield 89, 3) := by decide +kernel
theorem dX11_bestHabit_113 : decode cX11_bestHabit 113 = .ok (.iload_n 1, 1) := by decide +kernel
theorem dX11_bestHabit_114 : decode cX11_bestHabit 114 = .ok (.aaload, 1) := by decide +kernel
theorem dX11_bestHabit_115 : decode cX11_bestHabit 115 = .ok (.iconst 2, 1) := by decide +kernel
theorem dX11_bestHabit_116 : decode cX11_bestHabit 116 = .ok (.iload 5, 2) := by decide +kernel
theorem dX11_bestHabit_118 : decode cX11_bestHabit 118 = .ok (.iconst 4, 1) := by decide +kernel
theorem dX11_bestHabit_119 : decode cX11_bestHabit 119 = .ok (.if_icmp .ge 7, 3) := by decide +kernel
theorem dX11_bestHabit_122 : decode cX11_bestHabit 122 = .ok (.iconst (-1), 1) := by decide +kernel
theorem dX11_bestHabit_123 : decode cX11_bestHabit 123 = .ok (.goto 8, 3) := by decide +kernel
theorem dX11_bestHabit_126 : decode cX11_bestHabit 126 = .ok (.iload 5, 2) := by decide +kernel
theorem dX11_bestHabit_128 : decode cX11_bestHabit 128 = .ok (.bipush 10, 2) := by decide +kernel
theorem dX11_bestHabit_130 : decode cX11_bestHabit 130 = .ok (.isub, 1) := by decide +kernel
theorem dX11_bestHabit_131 : decode cX11_bestHabit 131 = .ok (.iastore, 1) := by decide +kernel
theorem dX11_bestHabit_132 : decode cX11_bestHabit 132 = .ok (.aload_n 0, 1) := by decide +kernel
theorem dX11_bestHabit_133 : decode cX11_bestHabit 133 = .ok (.aload 6, 2) := by decide +kernel
theorem dX11_bestHabit_135 : decode cX11_bestHabit 135 = .ok (.iload_n 1, 1) := by decide +kernel
theorem dX11_bestHabit_136 : decode cX11_bestHabit 136 = .ok (.iload_n 2, 1) := by decide +kernel
theorem dX11_bestHabit_137 : decode cX11_bestHabit 137 = .ok (.invokevirtual 178, 3) := by decide +kernel
theorem dX11_bestHabit_140 : decode cX11_bestHabit 140 = .ok (.istore 7, 2) := by decide +kernel
theorem dX11_bestHabit_142 : decode cX11_bestHabit 142 = .ok (.iload 7, 2) := by decide +kernel
theorem dX11_bestHabit_144 : decode cX11_bestHabit 144 = .ok (.iload 4, 2) := by decide +kernel
theorem dX11_bestHabit_146 : decode cX11_bestHabit 146 = .ok (.if_icmp .le 8, 3) := by decide +kernel
theorem dX11_bestHabit_149 : decode cX11_bestHabit 149 = .ok (.iload 5, 2) := by decide +kernel
theorem dX11_bestHabit_151 : decode cX11_bestHabit 151 = .ok (.goto 4, 3) := by decide +kernel
theorem dX11_bestHabit_154 : decode cX11_bestHabit 154 = .ok (.iload_n 3, 1) := by decide +kernel
theorem dX11_bestHabit_155 : decode cX11_bestHabit 155 = .ok (.istore_n 3, 1) := by decide +kernel
theorem dX11_bestHabit_156 : decode cX11_bestHabit 156 = .ok (.iload 4, 2) := by decide +kernel
theorem dX11_bestHabit_158 : decode cX11_bestHabit 158 = .ok (.iload 7, 2) := by decide +kernel
theorem dX11_bestHabit_160 : decode cX11_bestHabit 160 = .ok (.invokestatic 182, 3) := by decide +kernel
theorem dX11_bestHabit_163 : decode cX11_bestHabit 163 = .ok (.istore 4, 2) := by decide +kernel
theorem dX11_bestHabit_165 : decode cX11_bestHabit 165 = .ok (.iinc 5 1, 3) := by decide +kernel
theorem dX11_bestHabit_168 : decode cX11_bestHabit 168 = .ok (.goto (-125), 3) := by decide +kernel
theorem dX11_bestHabit_171 : decode cX11_bestHabit 171 = .ok (.iload_n 3, 1) := by decide +kernel
theorem dX11_bestHabit_172 : decode cX11_bestHabit 172 = .ok (.ireturn, 1) := by decide +kernel
theorem dX11_cutNow_0 : decode cX11_cutNow 0 = .ok (.aload_n 0, 1) := by decide +kernel
theorem dX11_cutNow_1 : decode cX11_cutNow 1 = .ok (.getfield 10, 3) := by decide +kernel
theorem dX11_cutNow_4 : decode cX11_cutNow 4 = .ok (.invokevirtual 174, 3) := by decide +kernel
theorem dX11_cutNow_7 : decode cX11_cutNow 7 = .ok (.astore_n 2, 1) := by decide +kernel
theorem dX11_cutNow_8 : decode cX11_cutNow 8 = .ok (.iconst 0, 1) := by decide +kernel
theorem dX11_cutNow_9 : decode cX11_cutNow 9 = .ok (.istore_n 3, 1) := by decide +kernel
theorem dX11_cutNow_10 : decode cX11_cutNow 10 = .ok (.iload_n 3, 1) := by decide +kernel
theorem dX11_cutNow_11 : decode cX11_cutNow 11 = .ok (.iload_n 1, 1) := by decide +kernel
theorem dX11_cutNow_12 : decode cX11_cutNow 12 = .ok (.if_icmp .ge 14, 3) := by decide +kernel
theorem dX11_cutNow_15 : decode cX11_cutNow 15 = .ok (.aload_n 2, 1) := by decide +kernel
theorem dX11_cutNow_16 : decode cX11_cutNow 16 = .ok (.invokevirtual 98, 3) := by decide +kernel
theorem dX11_cutNow_19 : decode cX11_cutNow 19 = .ok (.pop, 1) := by decide +kernel
theorem dX11_cutNow_20 : decode cX11_cutNow 20 = .ok (.iinc 3 1, 3) := by decide +kernel
theorem dX11_cutNow_23 : decode cX11_cutNow 23 = .ok (.goto (-13), 3) := by decide +kernel
theorem dX11_cutNow_26 : decode cX11_cutNow 26 = .ok (.aload_n 2, 1) := by decide +kernel
theorem dX11_cutNow_27 : decode cX11_cutNow 27 = .ok (.aload_n 2, 1) := by decide +kernel
theorem dX11_cutNow_28 : decode cX11_cutNow 28 = .ok (.getfield 79, 3) := by decide +kernel
theorem dX11_cutNow_31 : decode cX11_cutNow 31 = .ok (.aload_n 2, 1) := by decide +kernel
theorem dX11_cutNow_32 : decode cX11_cutNow 32 = .ok (.getfield 33, 3) := by decide +kernel
theorem dX11_cutNow_35 : decode cX11_cutNow 35 = .ok (.bipush 9, 2) := by decide +kernel
theorem dX11_cutNow_37 : decode cX11_cutNow 37 = .ok (.invokevirtual 164, 3) := by decide +kernel
theorem dX11_cutNow_40 : decode cX11_cutNow 40 = .ok (.aload_n 0, 1) := by decide +kernel
theorem dX11_cutNow_41 : decode cX11_cutNow 41 = .ok (.getfield 10, 3) := by decide +kernel
theorem dX11_cutNow_44 : decode cX11_cutNow 44 = .ok (.aload_n 0, 1) := by decide +kernel
theorem dX11_cutNow_45 : decode cX11_cutNow 45 = .ok (.getfield 10, 3) := by decide +kernel
theorem dX11_cutNow_48 : decode cX11_cutNow 48 = .ok (.getfield 79, 3) := by decide +kernel
theorem dX11_cutNow_51 : decode cX11_cutNow 51 = .ok (.aload_n 0, 1) := by decide +kernel
theorem dX11_cutNow_52 : decode cX11_cutNow 52 = .ok (.getfield 10, 3) := by decide +kernel
theorem dX11_cutNow_55 : decode cX11_cutNow 55 = .ok (.getfield 33, 3) := by decide +kernel
theorem dX11_cutNow_58 : decode cX11_cutNow 58 = .ok (.bipush 9, 2) := by decide +kernel
theorem dX11_cutNow_60 : decode cX11_cutNow 60 = .ok (.invokevirtual 164, 3) := by decide +kernel
theorem dX11_cutNow_63 : decode cX11_cutNow 63 = .ok (.isub, 1) := by decide +kernel
theorem dX11_cutNow_64 : decode cX11_cutNow 64 = .ok (.ireturn, 1) := by decide +kernel
theorem dX11_wouldCut_0 : decode cX11_wouldCut 0 = .ok (.aload_n 0, 1) := by decide +kernel
theorem dX11_wouldCut_1 : decode cX11_wouldCut 1 = .ok (.iconst 0, 1) := by decide +kernel
theorem dX11_wouldCut_2 : decode cX11_wouldCut 2 = .ok (.putfield 16, 3) := by decide +kernel
theorem dX11_wouldCut_5 : decode cX11_wouldCut 5 = .ok (.iload_n 1, 1) := by decide +kernel
theorem dX11_wouldCut_6 : decode cX11_wouldCut 6 = .ok (.iconst 1, 1) := by decide +kernel
theorem dX11_wouldCut_7 : decode cX11_wouldCut 7 = .ok (.bipush 40, 2) := by decide +kernel
theorem dX11_wouldCut_9 : decode cX11_wouldCut 9 = .ok (.invokestatic 23, 3) := by decide +kernel
theorem dX11_wouldCut_12 : decode cX11_wouldCut 12 = .ok (.ifCond .ne 9, 3) := by decide +kernel
theorem dX11_wouldCut_15 : decode cX11_wouldCut 15 = .ok (.aload_n 0, 1) := by decide +kernel
theorem dX11_wouldCut_16 : decode cX11_wouldCut 16 = .ok (.iconst 1, 1) := by decide +kernel
theorem dX11_wouldCut_17 : decode cX11_wouldCut 17 = .ok (.invokevirtual 39, 3) := by decide +kernel
theorem dX11_wouldCut_20 : decode cX11_wouldCut 20 = .ok (.ireturn, 1) := by decide +kernel
theorem dX11_wouldCut_21 : decode cX11_wouldCut 21 = .ok (.aload_n 0, 1) := by decide +kernel
theorem dX11_wouldCut_22 : decode cX11_wouldCut 22 = .ok (.iload_n 1, 1) := by decide +kernel
theorem dX11_wouldCut_23 : decode cX11_wouldCut 23 = .ok (.invokevirtual 187, 3) := by decide +kernel
theorem dX11_wouldCut_26 : decode cX11_wouldCut 26 = .ok (.ireturn, 1) := by decide +kernel
theorem dX11_doublesNow_0 : decode cX11_doublesNow 0 = .ok (.iconst 0, 1) := by decide +kernel
theorem dX11_doublesNow_1 : decode cX11_doublesNow 1 = .ok (.istore_n 2, 1) := by decide +kernel
theorem dX11_doublesNow_2 : decode cX11_doublesNow 2 = .ok (.iconst 0, 1) := by decide +kernel
theorem dX11_doublesNow_3 : decode cX11_doublesNow 3 = .ok (.istore_n 3, 1) := by decide +kernel
theorem dX11_doublesNow_4 : decode cX11_doublesNow 4 = .ok (.iload_n 3, 1) := by decide +kernel
theorem dX11_doublesNow_5 : decode cX11_doublesNow 5 = .ok (.aload_n 0, 1) := by decide +kernel
theorem dX11_doublesNow_6 : decode cX11_doublesNow 6 = .ok (.getfield 10, 3) := by decide +kernel
theorem dX11_doublesNow_9 : decode cX11_doublesNow 9 = .ok (.getfield 27, 3) := by decide +kernel
theorem dX11_doublesNow_12 : decode cX11_doublesNow 12 = .ok (.if_icmp .ge 31, 3) := by decide +kernel
theorem dX11_doublesNow_15 : decode cX11_doublesNow 15 = .ok (.iload_n 2, 1) := by decide +kernel
theorem dX11_doublesNow_16 : decode cX11_doublesNow 16 = .ok (.aload_n 0, 1) := by decide +kernel
theorem dX11_doublesNow_17 : decode cX11_doublesNow 17 = .ok (.getfield 10, 3) := by decide +kernel
theorem dX11_doublesNow_20 : decode cX11_doublesNow 20 = .ok (.iload_n 1, 1) := by decide +kernel
theorem dX11_doublesNow_21 : decode cX11_doublesNow 21 = .ok (.iload_n 3, 1) := by decide +kernel
theorem dX11_doublesNow_22 : decode cX11_doublesNow 22 = .ok (.invokevirtual 114, 3) := by decide +kernel
theorem dX11_doublesNow_25 : decode cX11_doublesNow 25 = .ok (.ifCond .eq 9, 3) := by decide +kernel
theorem dX11_doublesNow_28 : decode cX11_doublesNow 28 = .ok (.iconst 1, 1) := by decide +kernel
theorem dX11_doublesNow_29 : decode cX11_doublesNow 29 = .ok (.iload_n 3, 1) := by decide +kernel
theorem dX11_doublesNow_30 : decode cX11_doublesNow 30 = .ok (.ishl, 1) := by decide +kernel
theorem dX11_doublesNow_31 : decode cX11_doublesNow 31 = .ok (.goto 4, 3) := by decide +kernel
theorem dX11_doublesNow_34 : decode cX11_doublesNow 34 = .ok (.iconst 0, 1) := by decide +kernel
theorem dX11_doublesNow_35 : decode cX11_doublesNow 35 = .ok (.ior, 1) := by decide +kernel
theorem dX11_doublesNow_36 : decode cX11_doublesNow 36 = .ok (.istore_n 2, 1) := by decide +kernel
theorem dX11_doublesNow_37 : decode cX11_doublesNow 37 = .ok (.iinc 3 1, 3) := by decide +kernel
theorem dX11_doublesNow_40 : decode cX11_doublesNow 40 = .ok (.goto (-36), 3) := by decide +kernel
theorem dX11_doublesNow_43 : decode cX11_doublesNow 43 = .ok (.iload_n 2, 1) := by decide +kernel
theorem dX11_doublesNow_44 : decode cX11_doublesNow 44 = .ok (.ireturn, 1) := by decide +kernel
theorem dX11_doubles_0 : decode cX11_doubles 0 = .ok (.aload_n 0, 1) := by decide +kernel
theorem dX11_doubles_1 : decode cX11_doubles 1 = .ok (.iconst 0, 1) := by decide +kernel
theorem dX11_doubles_2 : decode cX11_doubles 2 = .ok (.putfield 16, 3) := by decide +kernel
theorem dX11_doubles_5 : decode cX11_doubles 5 = .ok (.aload_n 0, 1) := by decide +kernel
theorem dX11_doubles_6 : decode cX11_doubles 6 = .ok (.iload_n 1, 1) := by decide +kernel
theorem dX11_doubles_7 : decode cX11_doubles 7 = .ok (.invokevirtual 95, 3) := by decide +kernel
theorem dX11_doubles_10 : decode cX11_doubles 10 = .ok (.ifCond .ne 9, 3) := by decide +kernel
theorem dX11_doubles_13 : decode cX11_doubles 13 = .ok (.aload_n 0, 1) := by decide +kernel
theorem dX11_doubles_14 : decode cX11_doubles 14 = .ok (.iconst 1, 1) := by decide +kernel
theorem dX11_doubles_15 : decode cX11_doubles 15 = .ok (.invokevirtual 39, 3) := by decide +kernel
theorem dX11_doubles_18 : decode cX11_doubles 18 = .ok (.ireturn, 1) := by decide +kernel
theorem dX11_doubles_19 : decode cX11_doubles 19 = .ok (.aload_n 0, 1) := by decide +kernel
theorem dX11_doubles_20 : decode cX11_doubles 20 = .ok (.iload_n 1, 1) := by decide +kernel
theorem dX11_doubles_21 : decode cX11_doubles 21 = .ok (.invokevirtual 190, 3) := by decide +kernel
theorem dX11_doubles_24 : decode cX11_doubles 24 = .ok (.ireturn, 1) := by decide +kernel
theorem dX11_digest_0 : decode cX11_digest 0 = .ok (.aload_n 0, 1) := by decide +kernel
theorem dX11_digest_1 : decode cX11_digest 1 = .ok (.iconst 0, 1) := by decide +kernel
theorem dX11_digest_2 : decode cX11_digest 2 = .ok (.putfield 16, 3) := by decide +kernel
theorem dX11_digest_5 : decode cX11_digest 5 = .ok (.ldc2_w 193, 3) := by decide +kernel
theorem dX11_digest_8 : decode cX11_digest 8 = .ok (.lstore_n 1, 1) := by decide +kernel
theorem dX11_digest_9 : decode cX11_digest 9 = .ok (.iconst 0, 1) := by decide +kernel
theorem dX11_digest_10 : decode cX11_digest 10 = .ok (.istore_n 3, 1) := by decide +kernel
theorem dX11_digest_11 : decode cX11_digest 11 = .ok (.iload_n 3, 1) := by decide +kernel
theorem dX11_digest_12 : decode cX11_digest 12 = .ok (.bipush 12, 2) := by decide +kernel
theorem dX11_digest_14 : decode cX11_digest 14 = .ok (.if_icmp .gt 22, 3) := by decide +kernel
theorem dX11_digest_17 : decode cX11_digest 17 = .ok (.lload_n 1, 1) := by decide +kernel
theorem dX11_digest_18 : decode cX11_digest 18 = .ok (.ldc2_w 195, 3) := by decide +kernel
theorem dX11_digest_21 : decode cX11_digest 21 = .ok (.lmul, 1) := by decide +kernel
theorem dX11_digest_22 : decode cX11_digest 22 = .ok (.aload_n 0, 1) := by decide +kernel
theorem dX11_digest_23 : decode cX11_digest 23 = .ok (.iload_n 3, 1) := by decide +kernel
theorem dX11_digest_24 : decode cX11_digest 24 = .ok (.invokevirtual 171, 3) := by decide +kernel
theorem dX11_digest_27 : decode cX11_digest 27 = .ok (.i2l, 1) := by decide +kernel
theorem dX11_digest_28 : decode cX11_digest 28 = .ok (.ladd, 1) := by decide +kernel
theorem dX11_digest_29 : decode cX11_digest 29 = .ok (.lstore_n 1, 1) := by decide +kernel
theorem dX11_digest_30 : decode cX11_digest 30 = .ok (.iinc 3 1, 3) := by decide +kernel
theorem dX11_digest_33 : decode cX11_digest 33 = .ok (.goto (-22), 3) := by decide +kernel
theorem dX11_digest_36 : decode cX11_digest 36 = .ok (.iconst 0, 1) := by decide +kernel
theorem dX11_digest_37 : decode cX11_digest 37 = .ok (.istore_n 3, 1) := by decide +kernel
theorem dX11_digest_38 : decode cX11_digest 38 = .ok (.iload_n 3, 1) := by decide +kernel
theorem dX11_digest_39 : decode cX11_digest 39 = .ok (.aload_n 0, 1) := by decide +kernel
theorem dX11_digest_40 : decode cX11_digest 40 = .ok (.getfield 10, 3) := by decide +kernel
theorem dX11_digest_43 : decode cX11_digest 43 = .ok (.getfield 20, 3) := by decide +kernel
theorem dX11_digest_46 : decode cX11_digest 46 = .ok (.if_icmp .ge 67, 3) := by decide +kernel
theorem dX11_digest_49 : decode cX11_digest 49 = .ok (.iconst 0, 1) := by decide +kernel
theorem dX11_digest_50 : decode cX11_digest 50 = .ok (.istore 4, 2) := by decide +kernel
theorem dX11_digest_52 : decode cX11_digest 52 = .ok (.iload 4, 2) := by decide +kernel
theorem dX11_digest_54 : decode cX11_digest 54 = .ok (.iconst 4, 1) := by decide +kernel
theorem dX11_digest_55 : decode cX11_digest 55 = .ok (.if_icmp .gt 24, 3) := by decide +kernel
theorem dX11_digest_58 : decode cX11_digest 58 = .ok (.lload_n 1, 1) := by decide +kernel
theorem dX11_digest_59 : decode cX11_digest 59 = .ok (.ldc2_w 195, 3) := by decide +kernel
theorem dX11_digest_62 : decode cX11_digest 62 = .ok (.lmul, 1) := by decide +kernel
theorem dX11_digest_63 : decode cX11_digest 63 = .ok (.aload_n 0, 1) := by decide +kernel
theorem dX11_digest_64 : decode cX11_digest 64 = .ok (.iload_n 3, 1) := by decide +kernel
theorem dX11_digest_65 : decode cX11_digest 65 = .ok (.iload 4, 2) := by decide +kernel
theorem dX11_digest_67 : decode cX11_digest 67 = .ok (.invokevirtual 126, 3) := by decide +kernel
theorem dX11_digest_70 : decode cX11_digest 70 = .ok (.i2l, 1) := by decide +kernel
theorem dX11_digest_71 : decode cX11_digest 71 = .ok (.ladd, 1) := by decide +kernel
theorem dX11_digest_72 : decode cX11_digest 72 = .ok (.lstore_n 1, 1) := by decide +kernel
theorem dX11_digest_73 : decode cX11_digest 73 = .ok (.iinc 4 1, 3) := by decide +kernel
theorem dX11_digest_76 : decode cX11_digest 76 = .ok (.goto (-24), 3) := by decide +kernel
theorem dX11_digest_79 : decode cX11_digest 79 = .ok (.lload_n 1, 1) := by decide +kernel
theorem dX11_digest_80 : decode cX11_digest 80 = .ok (.ldc2_w 195, 3) := by decide +kernel
theorem dX11_digest_83 : decode cX11_digest 83 = .ok (.lmul, 1) := by decide +kernel
theorem dX11_digest_84 : decode cX11_digest 84 = .ok (.aload_n 0, 1) := by decide +kernel
theorem dX11_digest_85 : decode cX11_digest 85 = .ok (.iload_n 3, 1) := by decide +kernel
theorem dX11_digest_86 : decode cX11_digest 86 = .ok (.iconst 0, 1) := by decide +kernel
theorem dX11_digest_87 : decode cX11_digest 87 = .ok (.iconst 0, 1) := by decide +kernel
theorem dX11_digest_88 : decode cX11_digest 88 = .ok (.invokevirtual 136, 3) := by decide +kernel
theorem dX11_digest_91 : decode cX11_digest 91 = .ok (.i2l, 1) := by decide +kernel
theorem dX11_digest_92 : decode cX11_digest 92 = .ok (.ladd, 1) := by decide +kernel
theorem dX11_digest_93 : decode cX11_digest 93 = .ok (.ldc2_w 195, 3) := by decide +kernel
theorem dX11_digest_96 : decode cX11_digest 96 = .ok (.lmul, 1) := by decide +kernel
theorem dX11_digest_97 : decode cX11_digest 97 = .ok (.aload_n 0, 1) := by decide +kernel
theorem dX11_digest_98 : decode cX11_digest 98 = .ok (.iload_n 3, 1) := by decide +kernel
theorem dX11_digest_99 : decode cX11_digest 99 = .ok (.iconst 0, 1) := by decide +kernel
theorem dX11_digest_100 : decode cX11_digest 100 = .ok (.iconst 1, 1) := by decide +kernel
theorem dX11_digest_101 : decode cX11_digest 101 = .ok (.invokevirtual 136, 3) := by decide +kernel
theorem dX11_digest_104 : decode cX11_digest 104 = .ok (.i2l, 1) := by decide +kernel
theorem dX11_digest_105 : decode cX11_digest 105 = .ok (.ladd, 1) := by decide +kernel
theorem dX11_digest_106 : decode cX11_digest 106 = .ok (.lstore_n 1, 1) := by decide +kernel
theorem dX11_digest_107 : decode cX11_digest 107 = .ok (.iinc 3 1, 3) := by decide +kernel
theorem dX11_digest_110 : decode cX11_digest 110 = .ok (.goto (-72), 3) := by decide +kernel
theorem dX11_digest_113 : decode cX11_digest 113 = .ok (.iconst 0, 1) := by decide +kernel
theorem dX11_digest_114 : decode cX11_digest 114 = .ok (.istore_n 3, 1) := by decide +kernel
theorem dX11_digest_115 : decode cX11_digest 115 = .ok (.iload_n 3, 1) := by decide +kernel
theorem dX11_digest_116 : decode cX11_digest 116 = .ok (.aload_n 0, 1) := by decide +kernel
theorem dX11_digest_117 : decode cX11_digest 117 = .ok (.getfield 10, 3) := by decide +kernel
theorem dX11_digest_120 : decode cX11_digest 120 = .ok (.getfield 27, 3) := by decide +kernel
theorem dX11_digest_123 : decode cX11_digest 123 = .ok (.if_icmp .ge 52, 3) := by decide +kernel
theorem dX11_digest_126 : decode cX11_digest 126 = .ok (.iconst 0, 1) := by decide +kernel
theorem dX11_digest_127 : decode cX11_digest 127 = .ok (.istore 4, 2) := by decide +kernel
theorem dX11_digest_129 : decode cX11_digest 129 = .ok (.iload 4, 2) := by decide +kernel
theorem dX11_digest_131 : decode cX11_digest 131 = .ok (.iconst 4, 1) := by decide +kernel
theorem dX11_digest_132 : decode cX11_digest 132 = .ok (.if_icmp .gt 24, 3) := by decide +kernel
theorem dX11_digest_135 : decode cX11_digest 135 = .ok (.lload_n 1, 1) := by decide +kernel
theorem dX11_digest_136 : decode cX11_digest 136 = .ok (.ldc2_w 195, 3) := by decide +kernel
theorem dX11_digest_139 : decode cX11_digest 139 = .ok (.lmul, 1) := by decide +kernel
theorem dX11_digest_140 : decode cX11_digest 140 = .ok (.aload_n 0, 1) := by decide +kernel
theorem dX11_digest_141 : decode cX11_digest 141 = .ok (.iload_n 3, 1) := by decide +kernel
theorem dX11_digest_142 : decode cX11_digest 142 = .ok (.iload 4, 2) := by decide +kernel
theorem dX11_digest_144 : decode cX11_digest 144 = .ok (.invokevirtual 143, 3) := by decide +kernel
theorem dX11_digest_147 : decode cX11_digest 147 = .ok (.i2l, 1) := by decide +kernel
theorem dX11_digest_148 : decode cX11_digest 148 = .ok (.ladd, 1) := by decide +kernel
theorem dX11_digest_149 : decode cX11_digest 149 = .ok (.lstore_n 1, 1) := by decide +kernel
theorem dX11_digest_150 : decode cX11_digest 150 = .ok (.iinc 4 1, 3) := by decide +kernel
theorem dX11_digest_153 : decode cX11_digest 153 = .ok (.goto (-24), 3) := by decide +kernel
theorem dX11_digest_156 : decode cX11_digest 156 = .ok (.lload_n 1, 1) := by decide +kernel
theorem dX11_digest_157 : decode cX11_digest 157 = .ok (.ldc2_w 195, 3) := by decide +kernel
theorem dX11_digest_160 : decode cX11_digest 160 = .ok (.lmul, 1) := by decide +kernel
theorem dX11_digest_161 : decode cX11_digest 161 = .ok (.aload_n 0, 1) := by decide +kernel
theorem dX11_digest_162 : decode cX11_digest 162 = .ok (.iload_n 3, 1) := by decide +kernel
theorem dX11_digest_163 : decode cX11_digest 163 = .ok (.invokevirtual 190, 3) := by decide +kernel
theorem dX11_digest_166 : decode cX11_digest 166 = .ok (.i2l, 1) := by decide +kernel
theorem dX11_digest_167 : decode cX11_digest 167 = .ok (.ladd, 1) := by decide +kernel
theorem dX11_digest_168 : decode cX11_digest 168 = .ok (.lstore_n 1, 1) := by decide +kernel
theorem dX11_digest_169 : decode cX11_digest 169 = .ok (.iinc 3 1, 3) := by decide +kernel
theorem dX11_digest_172 : decode cX11_digest 172 = .ok (.goto (-57), 3) := by decide +kernel
theorem dX11_digest_175 : decode cX11_digest 175 = .ok (.iconst 0, 1) := by decide +kernel
theorem dX11_digest_176 : decode cX11_digest 176 = .ok (.istore_n 3, 1) := by decide +kernel
theorem dX11_digest_177 : decode cX11_digest 177 = .ok (.iload_n 3, 1) := by decide +kernel
theorem dX11_digest_178 : decode cX11_digest 178 = .ok (.aload_n 0, 1) := by decide +kernel
theorem dX11_digest_179 : decode cX11_digest 179 = .ok (.getfield 10, 3) := by decide +kernel
theorem dX11_digest_182 : decode cX11_digest 182 = .ok (.getfield 33, 3) := by decide +kernel
theorem dX11_digest_185 : decode cX11_digest 185 = .ok (.if_icmp .ge 40, 3) := by decide +kernel
theorem dX11_digest_188 : decode cX11_digest 188 = .ok (.iconst 0, 1) := by decide +kernel
theorem dX11_digest_189 : decode cX11_digest 189 = .ok (.istore 4, 2) := by decide +kernel
theorem dX11_digest_191 : decode cX11_digest 191 = .ok (.iload 4, 2) := by decide +kernel
theorem dX11_digest_193 : decode cX11_digest 193 = .ok (.bipush 10, 2) := by decide +kernel
theorem dX11_digest_195 : decode cX11_digest 195 = .ok (.if_icmp .gt 24, 3) := by decide +kernel
theorem dX11_digest_198 : decode cX11_digest 198 = .ok (.lload_n 1, 1) := by decide +kernel
theorem dX11_digest_199 : decode cX11_digest 199 = .ok (.ldc2_w 195, 3) := by decide +kernel
theorem dX11_digest_202 : decode cX11_digest 202 = .ok (.lmul, 1) := by decide +kernel
theorem dX11_digest_203 : decode cX11_digest 203 = .ok (.aload_n 0, 1) := by decide +kernel
theorem dX11_digest_204 : decode cX11_digest 204 = .ok (.iload_n 3, 1) := by decide +kernel
theorem dX11_digest_205 : decode cX11_digest 205 = .ok (.iload 4, 2) := by decide +kernel
theorem dX11_digest_207 : decode cX11_digest 207 = .ok (.invokevirtual 152, 3) := by decide +kernel
theorem dX11_digest_210 : decode cX11_digest 210 = .ok (.i2l, 1) := by decide +kernel
theorem dX11_digest_211 : decode cX11_digest 211 = .ok (.ladd, 1) := by decide +kernel
theorem dX11_digest_212 : decode cX11_digest 212 = .ok (.lstore_n 1, 1) := by decide +kernel
theorem dX11_digest_213 : decode cX11_digest 213 = .ok (.iinc 4 1, 3) := by decide +kernel
theorem dX11_digest_216 : decode cX11_digest 216 = .ok (.goto (-25), 3) := by decide +kernel
theorem dX11_digest_219 : decode cX11_digest 219 = .ok (.iinc 3 1, 3) := by decide +kernel
theorem dX11_digest_222 : decode cX11_digest 222 = .ok (.goto (-45), 3) := by decide +kernel
theorem dX11_digest_225 : decode cX11_digest 225 = .ok (.iconst 0, 1) := by decide +kernel
theorem dX11_digest_226 : decode cX11_digest 226 = .ok (.istore_n 3, 1) := by decide +kernel
theorem dX11_digest_227 : decode cX11_digest 227 = .ok (.iload_n 3, 1) := by decide +kernel
theorem dX11_digest_228 : decode cX11_digest 228 = .ok (.aload_n 0, 1) := by decide +kernel
theorem dX11_digest_229 : decode cX11_digest 229 = .ok (.getfield 10, 3) := by decide +kernel
theorem dX11_digest_232 : decode cX11_digest 232 = .ok (.getfield 30, 3) := by decide +kernel
theorem dX11_digest_235 : decode cX11_digest 235 = .ok (.if_icmp .ge 39, 3) := by decide +kernel
theorem dX11_digest_238 : decode cX11_digest 238 = .ok (.iconst 0, 1) := by decide +kernel
theorem dX11_digest_239 : decode cX11_digest 239 = .ok (.istore 4, 2) := by decide +kernel
theorem dX11_digest_241 : decode cX11_digest 241 = .ok (.iload 4, 2) := by decide +kernel
theorem dX11_digest_243 : decode cX11_digest 243 = .ok (.iconst 4, 1) := by decide +kernel
theorem dX11_digest_244 : decode cX11_digest 244 = .ok (.if_icmp .gt 24, 3) := by decide +kernel
theorem dX11_digest_247 : decode cX11_digest 247 = .ok (.lload_n 1, 1) := by decide +kernel
theorem dX11_digest_248 : decode cX11_digest 248 = .ok (.ldc2_w 195, 3) := by decide +kernel
theorem dX11_digest_251 : decode cX11_digest 251 = .ok (.lmul, 1) := by decide +kernel
theorem dX11_digest_252 : decode cX11_digest 252 = .ok (.aload_n 0, 1) := by decide +kernel
theorem dX11_digest_253 : decode cX11_digest 253 = .ok (.iload_n 3, 1) := by decide +kernel
theorem dX11_digest_254 : decode cX11_digest 254 = .ok (.iload 4, 2) := by decide +kernel
theorem dX11_digest_256 : decode cX11_digest 256 = .ok (.invokevirtual 158, 3) := by decide +kernel
theorem dX11_digest_259 : decode cX11_digest 259 = .ok (.i2l, 1) := by decide +kernel
theorem dX11_digest_260 : decode cX11_digest 260 = .ok (.ladd, 1) := by decide +kernel
theorem dX11_digest_261 : decode cX11_digest 261 = .ok (.lstore_n 1, 1) := by decide +kernel
theorem dX11_digest_262 : decode cX11_digest 262 = .ok (.iinc 4 1, 3) := by decide +kernel
theorem dX11_digest_265 : decode cX11_digest 265 = .ok (.goto (-24), 3) := by decide +kernel
theorem dX11_digest_268 : decode cX11_digest 268 = .ok (.iinc 3 1, 3) := by decide +kernel
theorem dX11_digest_271 : decode cX11_digest 271 = .ok (.goto (-44), 3) := by decide +kernel
theorem dX11_digest_274 : decode cX11_digest 274 = .ok (.iconst 0, 1) := by decide +kernel
theorem dX11_digest_275 : decode cX11_digest 275 = .ok (.istore_n 3, 1) := by decide +kernel
theorem dX11_digest_276 : decode cX11_digest 276 = .ok (.iload_n 3, 1) := by decide +kernel
theorem dX11_digest_277 : decode cX11_digest 277 = .ok (.aload_n 0, 1) := by decide +kernel
theorem dX11_digest_278 : decode cX11_digest 278 = .ok (.getfield 10, 3) := by decide +kernel
theorem dX11_digest_281 : decode cX11_digest 281 = .ok (.getfield 36, 3) := by decide +kernel
theorem dX11_digest_284 : decode cX11_digest 284 = .ok (.if_icmp .ge 90, 3) := by decide +kernel
theorem dX11_digest_287 : decode cX11_digest 287 = .ok (.iconst 0, 1) := by decide +kernel
theorem dX11_digest_288 : decode cX11_digest 288 = .ok (.istore 4, 2) := by decide +kernel
theorem dX11_digest_290 : decode cX11_digest 290 = .ok (.iload 4, 2) := by decide +kernel
theorem dX11_digest_292 : decode cX11_digest 292 = .ok (.bipush 6, 2) := by decide +kernel
theorem dX11_digest_294 : decode cX11_digest 294 = .ok (.if_icmp .gt 24, 3) := by decide +kernel
theorem dX11_digest_297 : decode cX11_digest 297 = .ok (.lload_n 1, 1) := by decide +kernel
theorem dX11_digest_298 : decode cX11_digest 298 = .ok (.ldc2_w 195, 3) := by decide +kernel
theorem dX11_digest_301 : decode cX11_digest 301 = .ok (.lmul, 1) := by decide +kernel
theorem dX11_digest_302 : decode cX11_digest 302 = .ok (.aload_n 0, 1) := by decide +kernel
theorem dX11_digest_303 : decode cX11_digest 303 = .ok (.iload_n 3, 1) := by decide +kernel
theorem dX11_digest_304 : decode cX11_digest 304 = .ok (.iload 4, 2) := by decide +kernel
theorem dX11_digest_306 : decode cX11_digest 306 = .ok (.invokevirtual 155, 3) := by decide +kernel
theorem dX11_digest_309 : decode cX11_digest 309 = .ok (.i2l, 1) := by decide +kernel
theorem dX11_digest_310 : decode cX11_digest 310 = .ok (.ladd, 1) := by decide +kernel
theorem dX11_digest_311 : decode cX11_digest 311 = .ok (.lstore_n 1, 1) := by decide +kernel
theorem dX11_digest_312 : decode cX11_digest 312 = .ok (.iinc 4 1, 3) := by decide +kernel
theorem dX11_digest_315 : decode cX11_digest 315 = .ok (.goto (-25), 3) := by decide +kernel
theorem dX11_digest_318 : decode cX11_digest 318 = .ok (.lload_n 1, 1) := by decide +kernel
theorem dX11_digest_319 : decode cX11_digest 319 = .ok (.ldc2_w 195, 3) := by decide +kernel
theorem dX11_digest_322 : decode cX11_digest 322 = .ok (.lmul, 1) := by decide +kernel
theorem dX11_digest_323 : decode cX11_digest 323 = .ok (.aload_n 0, 1) := by decide +kernel
theorem dX11_digest_324 : decode cX11_digest 324 = .ok (.aload_n 0, 1) := by decide +kernel
theorem dX11_digest_325 : decode cX11_digest 325 = .ok (.getfield 10, 3) := by decide +kernel
theorem dX11_digest_328 : decode cX11_digest 328 = .ok (.invokevirtual 174, 3) := by decide +kernel
theorem dX11_digest_331 : decode cX11_digest 331 = .ok (.iload_n 3, 1) := by decide +kernel
theorem dX11_digest_332 : decode cX11_digest 332 = .ok (.iconst 5, 1) := by decide +kernel
theorem dX11_digest_333 : decode cX11_digest 333 = .ok (.invokevirtual 178, 3) := by decide +kernel
theorem dX11_digest_336 : decode cX11_digest 336 = .ok (.i2l, 1) := by decide +kernel
theorem dX11_digest_337 : decode cX11_digest 337 = .ok (.ladd, 1) := by decide +kernel
theorem dX11_digest_338 : decode cX11_digest 338 = .ok (.lstore_n 1, 1) := by decide +kernel
theorem dX11_digest_339 : decode cX11_digest 339 = .ok (.aload_n 0, 1) := by decide +kernel
theorem dX11_digest_340 : decode cX11_digest 340 = .ok (.getfield 10, 3) := by decide +kernel
theorem dX11_digest_343 : decode cX11_digest 343 = .ok (.getfield 33, 3) := by decide +kernel
theorem dX11_digest_346 : decode cX11_digest 346 = .ok (.ifCond .le 22, 3) := by decide +kernel
theorem dX11_digest_349 : decode cX11_digest 349 = .ok (.lload_n 1, 1) := by decide +kernel
theorem dX11_digest_350 : decode cX11_digest 350 = .ok (.ldc2_w 195, 3) := by decide +kernel
theorem dX11_digest_353 : decode cX11_digest 353 = .ok (.lmul, 1) := by decide +kernel
theorem dX11_digest_354 : decode cX11_digest 354 = .ok (.aload_n 0, 1) := by decide +kernel
theorem dX11_digest_355 : decode cX11_digest 355 = .ok (.getfield 10, 3) := by decide +kernel
theorem dX11_digest_358 : decode cX11_digest 358 = .ok (.getfield 161, 3) := by decide +kernel
theorem dX11_digest_361 : decode cX11_digest 361 = .ok (.iload_n 3, 1) := by decide +kernel
theorem dX11_digest_362 : decode cX11_digest 362 = .ok (.aaload, 1) := by decide +kernel
theorem dX11_digest_363 : decode cX11_digest 363 = .ok (.iconst 0, 1) := by decide +kernel
theorem dX11_digest_364 : decode cX11_digest 364 = .ok (.iaload, 1) := by decide +kernel
theorem dX11_digest_365 : decode cX11_digest 365 = .ok (.i2l, 1) := by decide +kernel
theorem dX11_digest_366 : decode cX11_digest 366 = .ok (.ladd, 1) := by decide +kernel
theorem dX11_digest_367 : decode cX11_digest 367 = .ok (.lstore_n 1, 1) := by decide +kernel
theorem dX11_digest_368 : decode cX11_digest 368 = .ok (.iinc 3 1, 3) := by decide +kernel
theorem dX11_digest_371 : decode cX11_digest 371 = .ok (.goto (-95), 3) := by decide +kernel
theorem dX11_digest_374 : decode cX11_digest 374 = .ok (.lload_n 1, 1) := by decide +kernel
theorem dX11_digest_375 : decode cX11_digest 375 = .ok (.ldc2_w 195, 3) := by decide +kernel
theorem dX11_digest_378 : decode cX11_digest 378 = .ok (.lmul, 1) := by decide +kernel
theorem dX11_digest_379 : decode cX11_digest 379 = .ok (.aload_n 0, 1) := by decide +kernel
theorem dX11_digest_380 : decode cX11_digest 380 = .ok (.bipush 9, 2) := by decide +kernel
theorem dX11_digest_382 : decode cX11_digest 382 = .ok (.invokevirtual 187, 3) := by decide +kernel
theorem dX11_digest_385 : decode cX11_digest 385 = .ok (.i2l, 1) := by decide +kernel
theorem dX11_digest_386 : decode cX11_digest 386 = .ok (.ladd, 1) := by decide +kernel
theorem dX11_digest_387 : decode cX11_digest 387 = .ok (.lreturn, 1) := by decide +kernel
theorem dJ6_bitCount_0f7a4_0 : decode cJ6_bitCount_0f7a4 0 = .ok (.iload_n 0, 1) := by decide +kernel
theorem dJ6_bitCount_0f7a4_1 : decode cJ6_bitCount_0f7a4 1 = .ok (.iload_n 0, 1) := by decide +kernel
theorem dJ6_bitCount_0f7a4_2 : decode cJ6_bitCount_0f7a4 2 = .ok (.iconst 1, 1) := by decide +kernel
theorem dJ6_bitCount_0f7a4_3 : decode cJ6_bitCount_0f7a4 3 = .ok (.iushr, 1) := by decide +kernel
theorem dJ6_bitCount_0f7a4_4 : decode cJ6_bitCount_0f7a4 4 = .ok (.ldc_w 265, 3) := by decide +kernel
theorem dJ6_bitCount_0f7a4_7 : decode cJ6_bitCount_0f7a4 7 = .ok (.iand, 1) := by decide +kernel
theorem dJ6_bitCount_0f7a4_8 : decode cJ6_bitCount_0f7a4 8 = .ok (.isub, 1) := by decide +kernel
theorem dJ6_bitCount_0f7a4_9 : decode cJ6_bitCount_0f7a4 9 = .ok (.istore_n 0, 1) := by decide +kernel
theorem dJ6_bitCount_0f7a4_10 : decode cJ6_bitCount_0f7a4 10 = .ok (.iload_n 0, 1) := by decide +kernel
theorem dJ6_bitCount_0f7a4_11 : decode cJ6_bitCount_0f7a4 11 = .ok (.ldc_w 266, 3) := by decide +kernel
theorem dJ6_bitCount_0f7a4_14 : decode cJ6_bitCount_0f7a4 14 = .ok (.iand, 1) := by decide +kernel
theorem dJ6_bitCount_0f7a4_15 : decode cJ6_bitCount_0f7a4 15 = .ok (.iload_n 0, 1) := by decide +kernel
theorem dJ6_bitCount_0f7a4_16 : decode cJ6_bitCount_0f7a4 16 = .ok (.iconst 2, 1) := by decide +kernel
theorem dJ6_bitCount_0f7a4_17 : decode cJ6_bitCount_0f7a4 17 = .ok (.iushr, 1) := by decide +kernel
theorem dJ6_bitCount_0f7a4_18 : decode cJ6_bitCount_0f7a4 18 = .ok (.ldc_w 266, 3) := by decide +kernel
theorem dJ6_bitCount_0f7a4_21 : decode cJ6_bitCount_0f7a4 21 = .ok (.iand, 1) := by decide +kernel
theorem dJ6_bitCount_0f7a4_22 : decode cJ6_bitCount_0f7a4 22 = .ok (.iadd, 1) := by decide +kernel
theorem dJ6_bitCount_0f7a4_23 : decode cJ6_bitCount_0f7a4 23 = .ok (.istore_n 0, 1) := by decide +kernel
theorem dJ6_bitCount_0f7a4_24 : decode cJ6_bitCount_0f7a4 24 = .ok (.iload_n 0, 1) := by decide +kernel
theorem dJ6_bitCount_0f7a4_25 : decode cJ6_bitCount_0f7a4 25 = .ok (.iload_n 0, 1) := by decide +kernel
theorem dJ6_bitCount_0f7a4_26 : decode cJ6_bitCount_0f7a4 26 = .ok (.iconst 4, 1) := by decide +kernel
theorem dJ6_bitCount_0f7a4_27 : decode cJ6_bitCount_0f7a4 27 = .ok (.iushr, 1) := by decide +kernel
theorem dJ6_bitCount_0f7a4_28 : decode cJ6_bitCount_0f7a4 28 = .ok (.iadd, 1) := by decide +kernel
theorem dJ6_bitCount_0f7a4_29 : decode cJ6_bitCount_0f7a4 29 = .ok (.ldc_w 267, 3) := by decide +kernel
theorem dJ6_bitCount_0f7a4_32 : decode cJ6_bitCount_0f7a4 32 = .ok (.iand, 1) := by decide +kernel
theorem dJ6_bitCount_0f7a4_33 : decode cJ6_bitCount_0f7a4 33 = .ok (.istore_n 0, 1) := by decide +kernel
theorem dJ6_bitCount_0f7a4_34 : decode cJ6_bitCount_0f7a4 34 = .ok (.iload_n 0, 1) := by decide +kernel
theorem dJ6_bitCount_0f7a4_35 : decode cJ6_bitCount_0f7a4 35 = .ok (.iload_n 0, 1) := by decide +kernel
theorem dJ6_bitCount_0f7a4_36 : decode cJ6_bitCount_0f7a4 36 = .ok (.bipush 8, 2) := by decide +kernel
theorem dJ6_bitCount_0f7a4_38 : decode cJ6_bitCount_0f7a4 38 = .ok (.iushr, 1) := by decide +kernel
theorem dJ6_bitCount_0f7a4_39 : decode cJ6_bitCount_0f7a4 39 = .ok (.iadd, 1) := by decide +kernel
theorem dJ6_bitCount_0f7a4_40 : decode cJ6_bitCount_0f7a4 40 = .ok (.istore_n 0, 1) := by decide +kernel
theorem dJ6_bitCount_0f7a4_41 : decode cJ6_bitCount_0f7a4 41 = .ok (.iload_n 0, 1) := by decide +kernel
theorem dJ6_bitCount_0f7a4_42 : decode cJ6_bitCount_0f7a4 42 = .ok (.iload_n 0, 1) := by decide +kernel
theorem dJ6_bitCount_0f7a4_43 : decode cJ6_bitCount_0f7a4 43 = .ok (.bipush 16, 2) := by decide +kernel
theorem dJ6_bitCount_0f7a4_45 : decode cJ6_bitCount_0f7a4 45 = .ok (.iushr, 1) := by decide +kernel
theorem dJ6_bitCount_0f7a4_46 : decode cJ6_bitCount_0f7a4 46 = .ok (.iadd, 1) := by decide +kernel
theorem dJ6_bitCount_0f7a4_47 : decode cJ6_bitCount_0f7a4 47 = .ok (.istore_n 0, 1) := by decide +kernel
theorem dJ6_bitCount_0f7a4_48 : decode cJ6_bitCount_0f7a4 48 = .ok (.iload_n 0, 1) := by decide +kernel
theorem dJ6_bitCount_0f7a4_49 : decode cJ6_bitCount_0f7a4 49 = .ok (.bipush 63, 2) := by decide +kernel
theorem dJ6_bitCount_0f7a4_51 : decode cJ6_bitCount_0f7a4 51 = .ok (.iand, 1) := by decide +kernel
theorem dJ6_bitCount_0f7a4_52 : decode cJ6_bitCount_0f7a4 52 = .ok (.ireturn, 1) := by decide +kernel
theorem dJ9_max_7cf53_0 : decode cJ9_max_7cf53 0 = .ok (.iload_n 0, 1) := by decide +kernel
theorem dJ9_max_7cf53_1 : decode cJ9_max_7cf53 1 = .ok (.iload_n 1, 1) := by decide +kernel
theorem dJ9_max_7cf53_2 : decode cJ9_max_7cf53 2 = .ok (.if_icmp .lt 7, 3) := by decide +kernel
theorem dJ9_max_7cf53_5 : decode cJ9_max_7cf53 5 = .ok (.iload_n 0, 1) := by decide +kernel
theorem dJ9_max_7cf53_6 : decode cJ9_max_7cf53 6 = .ok (.goto 4, 3) := by decide +kernel
theorem dJ9_max_7cf53_9 : decode cJ9_max_7cf53 9 = .ok (.iload_n 1, 1) := by decide +kernel
theorem dJ9_max_7cf53_10 : decode cJ9_max_7cf53 10 = .ok (.ireturn, 1) := by decide +kernel
theorem dJ9_min_7cf53_0 : decode cJ9_min_7cf53 0 = .ok (.iload_n 0, 1) := by decide +kernel
theorem dJ9_min_7cf53_1 : decode cJ9_min_7cf53 1 = .ok (.iload_n 1, 1) := by decide +kernel
theorem dJ9_min_7cf53_2 : decode cJ9_min_7cf53 2 = .ok (.if_icmp .gt 7, 3) := by decide +kernel
theorem dJ9_min_7cf53_5 : decode cJ9_min_7cf53 5 = .ok (.iload_n 0, 1) := by decide +kernel
theorem dJ9_min_7cf53_6 : decode cJ9_min_7cf53 6 = .ok (.goto 4, 3) := by decide +kernel
theorem dJ9_min_7cf53_9 : decode cJ9_min_7cf53 9 = .ok (.iload_n 1, 1) := by decide +kernel
theorem dJ9_min_7cf53_10 : decode cJ9_min_7cf53 10 = .ok (.ireturn, 1) := by decide +kernel
theorem dJ7_fill_53178_0 : decode cJ7_fill_53178 0 = .ok (.iconst 0, 1) := by decide +kernel
theorem dJ7_fill_53178_1 : decode cJ7_fill_53178 1 = .ok (.istore_n 2, 1) := by decide +kernel
theorem dJ7_fill_53178_2 : decode cJ7_fill_53178 2 = .ok (.aload_n 0, 1) := by decide +kernel
theorem dJ7_fill_53178_3 : decode cJ7_fill_53178 3 = .ok (.arraylength, 1) := by decide +kernel
theorem dJ7_fill_53178_4 : decode cJ7_fill_53178 4 = .ok (.istore_n 3, 1) := by decide +kernel
theorem dJ7_fill_53178_5 : decode cJ7_fill_53178 5 = .ok (.iload_n 2, 1) := by decide +kernel
theorem dJ7_fill_53178_6 : decode cJ7_fill_53178 6 = .ok (.iload_n 3, 1) := by decide +kernel
theorem dJ7_fill_53178_7 : decode cJ7_fill_53178 7 = .ok (.if_icmp .ge 13, 3) := by decide +kernel
theorem dJ7_fill_53178_10 : decode cJ7_fill_53178 10 = .ok (.aload_n 0, 1) := by decide +kernel
theorem dJ7_fill_53178_11 : decode cJ7_fill_53178 11 = .ok (.iload_n 2, 1) := by decide +kernel
theorem dJ7_fill_53178_12 : decode cJ7_fill_53178 12 = .ok (.iload_n 1, 1) := by decide +kernel
theorem dJ7_fill_53178_13 : decode cJ7_fill_53178 13 = .ok (.iastore, 1) := by decide +kernel
theorem dJ7_fill_53178_14 : decode cJ7_fill_53178 14 = .ok (.iinc 2 1, 3) := by decide +kernel
theorem dJ7_fill_53178_17 : decode cJ7_fill_53178 17 = .ok (.goto (-12), 3) := by decide +kernel
theorem dJ7_fill_53178_20 : decode cJ7_fill_53178 20 = .ok (.return_, 1) := by decide +kernel
theorem dL_room_0 : decode cL_room 0 = .ok (.aload_n 2, 1) := by decide +kernel
theorem dL_room_1 : decode cL_room 1 = .ok (.iconst 0, 1) := by decide +kernel
theorem dL_room_2 : decode cL_room 2 = .ok (.aload_n 0, 1) := by decide +kernel
theorem dL_room_3 : decode cL_room 3 = .ok (.iload_n 1, 1) := by decide +kernel
theorem dL_room_4 : decode cL_room 4 = .ok (.invokevirtual 7, 3) := by decide +kernel
theorem dL_room_7 : decode cL_room 7 = .ok (.i2l, 1) := by decide +kernel
theorem dL_room_8 : decode cL_room 8 = .ok (.lastore, 1) := by decide +kernel
theorem dL_room_9 : decode cL_room 9 = .ok (.goto 9, 3) := by decide +kernel
theorem dL_room_12 : decode cL_room 12 = .ok (.astore_n 3, 1) := by decide +kernel
theorem dL_room_13 : decode cL_room 13 = .ok (.iconst 1, 1) := by decide +kernel
theorem dL_room_14 : decode cL_room 14 = .ok (.ireturn, 1) := by decide +kernel
theorem dL_room_15 : decode cL_room 15 = .ok (.astore_n 3, 1) := by decide +kernel
theorem dL_room_16 : decode cL_room 16 = .ok (.iconst 2, 1) := by decide +kernel
theorem dL_room_17 : decode cL_room 17 = .ok (.ireturn, 1) := by decide +kernel
theorem dL_room_18 : decode cL_room 18 = .ok (.iconst 0, 1) := by decide +kernel
theorem dL_room_19 : decode cL_room 19 = .ok (.ireturn, 1) := by decide +kernel
theorem dL_door_0 : decode cL_door 0 = .ok (.aload 4, 2) := by decide +kernel
theorem dL_door_2 : decode cL_door 2 = .ok (.iconst 0, 1) := by decide +kernel
theorem dL_door_3 : decode cL_door 3 = .ok (.aload_n 0, 1) := by decide +kernel
theorem dL_door_4 : decode cL_door 4 = .ok (.iload_n 1, 1) := by decide +kernel
theorem dL_door_5 : decode cL_door 5 = .ok (.iload_n 2, 1) := by decide +kernel
theorem dL_door_6 : decode cL_door 6 = .ok (.iload_n 3, 1) := by decide +kernel
theorem dL_door_7 : decode cL_door 7 = .ok (.invokevirtual 17, 3) := by decide +kernel
theorem dL_door_10 : decode cL_door 10 = .ok (.i2l, 1) := by decide +kernel
theorem dL_door_11 : decode cL_door 11 = .ok (.lastore, 1) := by decide +kernel
theorem dL_door_12 : decode cL_door 12 = .ok (.goto 15, 3) := by decide +kernel
theorem dL_door_15 : decode cL_door 15 = .ok (.astore 5, 2) := by decide +kernel
theorem dL_door_17 : decode cL_door 17 = .ok (.iconst 1, 1) := by decide +kernel
theorem dL_door_18 : decode cL_door 18 = .ok (.ireturn, 1) := by decide +kernel
theorem dL_door_19 : decode cL_door 19 = .ok (.astore 5, 2) := by decide +kernel
theorem dL_door_21 : decode cL_door 21 = .ok (.iconst 2, 1) := by decide +kernel
theorem dL_door_22 : decode cL_door 22 = .ok (.ireturn, 1) := by decide +kernel
theorem dL_door_23 : decode cL_door 23 = .ok (.astore 5, 2) := by decide +kernel
theorem dL_door_25 : decode cL_door 25 = .ok (.iconst 3, 1) := by decide +kernel
theorem dL_door_26 : decode cL_door 26 = .ok (.ireturn, 1) := by decide +kernel
theorem dL_door_27 : decode cL_door 27 = .ok (.iconst 0, 1) := by decide +kernel
theorem dL_door_28 : decode cL_door 28 = .ok (.ireturn, 1) := by decide +kernel
theorem dL_track_0 : decode cL_track 0 = .ok (.aload_n 2, 1) := by decide +kernel
theorem dL_track_1 : decode cL_track 1 = .ok (.iconst 0, 1) := by decide +kernel
theorem dL_track_2 : decode cL_track 2 = .ok (.aload_n 0, 1) := by decide +kernel
theorem dL_track_3 : decode cL_track 3 = .ok (.iload_n 1, 1) := by decide +kernel
theorem dL_track_4 : decode cL_track 4 = .ok (.invokevirtual 23, 3) := by decide +kernel
theorem dL_track_7 : decode cL_track 7 = .ok (.i2l, 1) := by decide +kernel
theorem dL_track_8 : decode cL_track 8 = .ok (.lastore, 1) := by decide +kernel
theorem dL_track_9 : decode cL_track 9 = .ok (.goto 9, 3) := by decide +kernel
theorem dL_track_12 : decode cL_track 12 = .ok (.astore_n 3, 1) := by decide +kernel
theorem dL_track_13 : decode cL_track 13 = .ok (.iconst 1, 1) := by decide +kernel
theorem dL_track_14 : decode cL_track 14 = .ok (.ireturn, 1) := by decide +kernel
theorem dL_track_15 : decode cL_track 15 = .ok (.astore_n 3, 1) := by decide +kernel
theorem dL_track_16 : decode cL_track 16 = .ok (.iconst 2, 1) := by decide +kernel
theorem dL_track_17 : decode cL_track 17 = .ok (.ireturn, 1) := by decide +kernel
theorem dL_track_18 : decode cL_track 18 = .ok (.iconst 0, 1) := by decide +kernel
theorem dL_track_19 : decode cL_track 19 = .ok (.ireturn, 1) := by decide +kernel
theorem dL_prop_0 : decode cL_prop 0 = .ok (.aload_n 2, 1) := by decide +kernel
theorem dL_prop_1 : decode cL_prop 1 = .ok (.iconst 0, 1) := by decide +kernel
theorem dL_prop_2 : decode cL_prop 2 = .ok (.aload_n 0, 1) := by decide +kernel
theorem dL_prop_3 : decode cL_prop 3 = .ok (.iload_n 1, 1) := by decide +kernel
theorem dL_prop_4 : decode cL_prop 4 = .ok (.invokevirtual 26, 3) := by decide +kernel
theorem dL_prop_7 : decode cL_prop 7 = .ok (.i2l, 1) := by decide +kernel
theorem dL_prop_8 : decode cL_prop 8 = .ok (.lastore, 1) := by decide +kernel
theorem dL_prop_9 : decode cL_prop 9 = .ok (.goto 9, 3) := by decide +kernel
theorem dL_prop_12 : decode cL_prop 12 = .ok (.astore_n 3, 1) := by decide +kernel
theorem dL_prop_13 : decode cL_prop 13 = .ok (.iconst 1, 1) := by decide +kernel
theorem dL_prop_14 : decode cL_prop 14 = .ok (.ireturn, 1) := by decide +kernel
theorem dL_prop_15 : decode cL_prop 15 = .ok (.astore_n 3, 1) := by decide +kernel
theorem dL_prop_16 : decode cL_prop 16 = .ok (.iconst 2, 1) := by decide +kernel
theorem dL_prop_17 : decode cL_prop 17 = .ok (.ireturn, 1) := by decide +kernel
theorem dL_prop_18 : decode cL_prop 18 = .ok (.iconst 0, 1) := by decide +kernel
theorem dL_prop_19 : decode cL_prop 19 = .ok (.ireturn, 1) := by decide +kernel
theorem dL_scene_0 : decode cL_scene 0 = .ok (.aload 6, 2) := by decide +kernel
theorem dL_scene_2 : decode cL_scene 2 = .ok (.iconst 0, 1) := by decide +kernel
theorem dL_scene_3 : decode cL_scene 3 = .ok (.aload_n 0, 1) := by decide +kernel
theorem dL_scene_4 : decode cL_scene 4 = .ok (.iload_n 1, 1) := by decide +kernel
theorem dL_scene_5 : decode cL_scene 5 = .ok (.iload_n 2, 1) := by decide +kernel
theorem dL_scene_6 : decode cL_scene 6 = .ok (.iload_n 3, 1) := by decide +kernel
theorem dL_scene_7 : decode cL_scene 7 = .ok (.iload 4, 2) := by decide +kernel
theorem dL_scene_9 : decode cL_scene 9 = .ok (.iload 5, 2) := by decide +kernel
theorem dL_scene_11 : decode cL_scene 11 = .ok (.invokevirtual 29, 3) := by decide +kernel
theorem dL_scene_14 : decode cL_scene 14 = .ok (.i2l, 1) := by decide +kernel
theorem dL_scene_15 : decode cL_scene 15 = .ok (.lastore, 1) := by decide +kernel
theorem dL_scene_16 : decode cL_scene 16 = .ok (.goto 15, 3) := by decide +kernel
theorem dL_scene_19 : decode cL_scene 19 = .ok (.astore 7, 2) := by decide +kernel
theorem dL_scene_21 : decode cL_scene 21 = .ok (.iconst 1, 1) := by decide +kernel
theorem dL_scene_22 : decode cL_scene 22 = .ok (.ireturn, 1) := by decide +kernel
theorem dL_scene_23 : decode cL_scene 23 = .ok (.astore 7, 2) := by decide +kernel
theorem dL_scene_25 : decode cL_scene 25 = .ok (.iconst 2, 1) := by decide +kernel
theorem dL_scene_26 : decode cL_scene 26 = .ok (.ireturn, 1) := by decide +kernel
theorem dL_scene_27 : decode cL_scene 27 = .ok (.astore 7, 2) := by decide +kernel
theorem dL_scene_29 : decode cL_scene 29 = .ok (.iconst 3, 1) := by decide +kernel
theorem dL_scene_30 : decode cL_scene 30 = .ok (.ireturn, 1) := by decide +kernel
theorem dL_scene_31 : decode cL_scene 31 = .ok (.iconst 0, 1) := by decide +kernel
theorem dL_scene_32 : decode cL_scene 32 = .ok (.ireturn, 1) := by decide +kernel
theorem dL_guest_0 : decode cL_guest 0 = .ok (.aload_n 2, 1) := by decide +kernel
theorem dL_guest_1 : decode cL_guest 1 = .ok (.iconst 0, 1) := by decide +kernel
theorem dL_guest_2 : decode cL_guest 2 = .ok (.aload_n 0, 1) := by decide +kernel
theorem dL_guest_3 : decode cL_guest 3 = .ok (.iload_n 1, 1) := by decide +kernel
theorem dL_guest_4 : decode cL_guest 4 = .ok (.invokevirtual 33, 3) := by decide +kernel
theorem dL_guest_7 : decode cL_guest 7 = .ok (.i2l, 1) := by decide +kernel
theorem dL_guest_8 : decode cL_guest 8 = .ok (.lastore, 1) := by decide +kernel
theorem dL_guest_9 : decode cL_guest 9 = .ok (.goto 9, 3) := by decide +kernel
theorem dL_guest_12 : decode cL_guest 12 = .ok (.astore_n 3, 1) := by decide +kernel
theorem dL_guest_13 : decode cL_guest 13 = .ok (.iconst 1, 1) := by decide +kernel
theorem dL_guest_14 : decode cL_guest 14 = .ok (.ireturn, 1) := by decide +kernel
theorem dL_guest_15 : decode cL_guest 15 = .ok (.astore_n 3, 1) := by decide +kernel
theorem dL_guest_16 : decode cL_guest 16 = .ok (.iconst 2, 1) := by decide +kernel
theorem dL_guest_17 : decode cL_guest 17 = .ok (.ireturn, 1) := by decide +kernel
theorem dL_guest_18 : decode cL_guest 18 = .ok (.iconst 0, 1) := by decide +kernel
theorem dL_guest_19 : decode cL_guest 19 = .ok (.ireturn, 1) := by decide +kernel
theorem dL_habit_0 : decode cL_habit 0 = .ok (.aload 4, 2) := by decide +kernel
theorem dL_habit_2 : decode cL_habit 2 = .ok (.iconst 0, 1) := by decide +kernel
theorem dL_habit_3 : decode cL_habit 3 = .ok (.aload_n 0, 1) := by decide +kernel
theorem dL_habit_4 : decode cL_habit 4 = .ok (.iload_n 1, 1) := by decide +kernel
theorem dL_habit_5 : decode cL_habit 5 = .ok (.iload_n 2, 1) := by decide +kernel
theorem dL_habit_6 : decode cL_habit 6 = .ok (.iload_n 3, 1) := by decide +kernel
theorem dL_habit_7 : decode cL_habit 7 = .ok (.invokevirtual 36, 3) := by decide +kernel
theorem dL_habit_10 : decode cL_habit 10 = .ok (.i2l, 1) := by decide +kernel
theorem dL_habit_11 : decode cL_habit 11 = .ok (.lastore, 1) := by decide +kernel
theorem dL_habit_12 : decode cL_habit 12 = .ok (.goto 11, 3) := by decide +kernel
theorem dL_habit_15 : decode cL_habit 15 = .ok (.astore 5, 2) := by decide +kernel
theorem dL_habit_17 : decode cL_habit 17 = .ok (.iconst 1, 1) := by decide +kernel
theorem dL_habit_18 : decode cL_habit 18 = .ok (.ireturn, 1) := by decide +kernel
theorem dL_habit_19 : decode cL_habit 19 = .ok (.astore 5, 2) := by decide +kernel
theorem dL_habit_21 : decode cL_habit 21 = .ok (.iconst 2, 1) := by decide +kernel
theorem dL_habit_22 : decode cL_habit 22 = .ok (.ireturn, 1) := by decide +kernel
theorem dL_habit_23 : decode cL_habit 23 = .ok (.iconst 0, 1) := by decide +kernel
theorem dL_habit_24 : decode cL_habit 24 = .ok (.ireturn, 1) := by decide +kernel
theorem dL_pass_0 : decode cL_pass 0 = .ok (.aload_n 2, 1) := by decide +kernel
theorem dL_pass_1 : decode cL_pass 1 = .ok (.iconst 0, 1) := by decide +kernel
theorem dL_pass_2 : decode cL_pass 2 = .ok (.aload_n 0, 1) := by decide +kernel
theorem dL_pass_3 : decode cL_pass 3 = .ok (.iload_n 1, 1) := by decide +kernel
theorem dL_pass_4 : decode cL_pass 4 = .ok (.invokevirtual 39, 3) := by decide +kernel
theorem dL_pass_7 : decode cL_pass 7 = .ok (.i2l, 1) := by decide +kernel
theorem dL_pass_8 : decode cL_pass 8 = .ok (.lastore, 1) := by decide +kernel
theorem dL_pass_9 : decode cL_pass 9 = .ok (.goto 9, 3) := by decide +kernel
theorem dL_pass_12 : decode cL_pass 12 = .ok (.astore_n 3, 1) := by decide +kernel
theorem dL_pass_13 : decode cL_pass 13 = .ok (.iconst 1, 1) := by decide +kernel
theorem dL_pass_14 : decode cL_pass 14 = .ok (.ireturn, 1) := by decide +kernel
theorem dL_pass_15 : decode cL_pass 15 = .ok (.astore_n 3, 1) := by decide +kernel
theorem dL_pass_16 : decode cL_pass 16 = .ok (.iconst 2, 1) := by decide +kernel
theorem dL_pass_17 : decode cL_pass 17 = .ok (.ireturn, 1) := by decide +kernel
theorem dL_pass_18 : decode cL_pass 18 = .ok (.iconst 0, 1) := by decide +kernel
theorem dL_pass_19 : decode cL_pass 19 = .ok (.ireturn, 1) := by decide +kernel
theorem dL_take_0 : decode cL_take 0 = .ok (.aload_n 3, 1) := by decide +kernel
theorem dL_take_1 : decode cL_take 1 = .ok (.iconst 0, 1) := by decide +kernel
theorem dL_take_2 : decode cL_take 2 = .ok (.aload_n 0, 1) := by decide +kernel
theorem dL_take_3 : decode cL_take 3 = .ok (.iload_n 1, 1) := by decide +kernel
theorem dL_take_4 : decode cL_take 4 = .ok (.iload_n 2, 1) := by decide +kernel
theorem dL_take_5 : decode cL_take 5 = .ok (.invokevirtual 42, 3) := by decide +kernel
theorem dL_take_8 : decode cL_take 8 = .ok (.i2l, 1) := by decide +kernel
theorem dL_take_9 : decode cL_take 9 = .ok (.lastore, 1) := by decide +kernel
theorem dL_take_10 : decode cL_take 10 = .ok (.goto 11, 3) := by decide +kernel
theorem dL_take_13 : decode cL_take 13 = .ok (.astore 4, 2) := by decide +kernel
theorem dL_take_15 : decode cL_take 15 = .ok (.iconst 1, 1) := by decide +kernel
theorem dL_take_16 : decode cL_take 16 = .ok (.ireturn, 1) := by decide +kernel
theorem dL_take_17 : decode cL_take 17 = .ok (.astore 4, 2) := by decide +kernel
theorem dL_take_19 : decode cL_take 19 = .ok (.iconst 2, 1) := by decide +kernel
theorem dL_take_20 : decode cL_take 20 = .ok (.ireturn, 1) := by decide +kernel
theorem dL_take_21 : decode cL_take 21 = .ok (.iconst 0, 1) := by decide +kernel
theorem dL_take_22 : decode cL_take 22 = .ok (.ireturn, 1) := by decide +kernel
theorem dL_leave_0 : decode cL_leave 0 = .ok (.aload_n 2, 1) := by decide +kernel
theorem dL_leave_1 : decode cL_leave 1 = .ok (.iconst 0, 1) := by decide +kernel
theorem dL_leave_2 : decode cL_leave 2 = .ok (.aload_n 0, 1) := by decide +kernel
theorem dL_leave_3 : decode cL_leave 3 = .ok (.iload_n 1, 1) := by decide +kernel
theorem dL_leave_4 : decode cL_leave 4 = .ok (.invokevirtual 46, 3) := by decide +kernel
theorem dL_leave_7 : decode cL_leave 7 = .ok (.i2l, 1) := by decide +kernel
theorem dL_leave_8 : decode cL_leave 8 = .ok (.lastore, 1) := by decide +kernel
theorem dL_leave_9 : decode cL_leave 9 = .ok (.goto 9, 3) := by decide +kernel
theorem dL_leave_12 : decode cL_leave 12 = .ok (.astore_n 3, 1) := by decide +kernel
theorem dL_leave_13 : decode cL_leave 13 = .ok (.iconst 1, 1) := by decide +kernel
theorem dL_leave_14 : decode cL_leave 14 = .ok (.ireturn, 1) := by decide +kernel
theorem dL_leave_15 : decode cL_leave 15 = .ok (.astore_n 3, 1) := by decide +kernel
theorem dL_leave_16 : decode cL_leave 16 = .ok (.iconst 2, 1) := by decide +kernel
theorem dL_leave_17 : decode cL_leave 17 = .ok (.ireturn, 1) := by decide +kernel
theorem dL_leave_18 : decode cL_leave 18 = .ok (.iconst 0, 1) := by decide +kernel
theorem dL_leave_19 : decode cL_leave 19 = .ok (.ireturn, 1) := by decide +kernel
theorem dL_play_0 : decode cL_play 0 = .ok (.aload_n 3, 1) := by decide +kernel
theorem dL_play_1 : decode cL_play 1 = .ok (.iconst 0, 1) := by decide +kernel
theorem dL_play_2 : decode cL_play 2 = .ok (.aload_n 0, 1) := by decide +kernel
theorem dL_play_3 : decode cL_play 3 = .ok (.iload_n 1, 1) := by decide +kernel
theorem dL_play_4 : decode cL_play 4 = .ok (.iload_n 2, 1) := by decide +kernel
theorem dL_play_5 : decode cL_play 5 = .ok (.invokevirtual 49, 3) := by decide +kernel
theorem dL_play_8 : decode cL_play 8 = .ok (.i2l, 1) := by decide +kernel
theorem dL_play_9 : decode cL_play 9 = .ok (.lastore, 1) := by decide +kernel
theorem dL_play_10 : decode cL_play 10 = .ok (.goto 15, 3) := by decide +kernel
theorem dL_play_13 : decode cL_play 13 = .ok (.astore 4, 2) := by decide +kernel
theorem dL_play_15 : decode cL_play 15 = .ok (.iconst 1, 1) := by decide +kernel
theorem dL_play_16 : decode cL_play 16 = .ok (.ireturn, 1) := by decide +kernel
theorem dL_play_17 : decode cL_play 17 = .ok (.astore 4, 2) := by decide +kernel
theorem dL_play_19 : decode cL_play 19 = .ok (.iconst 2, 1) := by decide +kernel
theorem dL_play_20 : decode cL_play 20 = .ok (.ireturn, 1) := by decide +kernel
theorem dL_play_21 : decode cL_play 21 = .ok (.astore 4, 2) := by decide +kernel
theorem dL_play_23 : decode cL_play 23 = .ok (.iconst 3, 1) := by decide +kernel
theorem dL_play_24 : decode cL_play 24 = .ok (.ireturn, 1) := by decide +kernel
theorem dL_play_25 : decode cL_play 25 = .ok (.iconst 0, 1) := by decide +kernel
theorem dL_play_26 : decode cL_play 26 = .ok (.ireturn, 1) := by decide +kernel
theorem dL_part_0 : decode cL_part 0 = .ok (.aload_n 2, 1) := by decide +kernel
theorem dL_part_1 : decode cL_part 1 = .ok (.iconst 0, 1) := by decide +kernel
theorem dL_part_2 : decode cL_part 2 = .ok (.aload_n 0, 1) := by decide +kernel
theorem dL_part_3 : decode cL_part 3 = .ok (.iload_n 1, 1) := by decide +kernel
theorem dL_part_4 : decode cL_part 4 = .ok (.invokevirtual 52, 3) := by decide +kernel
theorem dL_part_7 : decode cL_part 7 = .ok (.i2l, 1) := by decide +kernel
theorem dL_part_8 : decode cL_part 8 = .ok (.lastore, 1) := by decide +kernel
theorem dL_part_9 : decode cL_part 9 = .ok (.goto 9, 3) := by decide +kernel
theorem dL_part_12 : decode cL_part 12 = .ok (.astore_n 3, 1) := by decide +kernel
theorem dL_part_13 : decode cL_part 13 = .ok (.iconst 1, 1) := by decide +kernel
theorem dL_part_14 : decode cL_part 14 = .ok (.ireturn, 1) := by decide +kernel
theorem dL_part_15 : decode cL_part 15 = .ok (.astore_n 3, 1) := by decide +kernel
theorem dL_part_16 : decode cL_part 16 = .ok (.iconst 2, 1) := by decide +kernel
theorem dL_part_17 : decode cL_part 17 = .ok (.ireturn, 1) := by decide +kernel
theorem dL_part_18 : decode cL_part 18 = .ok (.iconst 0, 1) := by decide +kernel
theorem dL_part_19 : decode cL_part 19 = .ok (.ireturn, 1) := by decide +kernel
theorem dL_ofRoom_0 : decode cL_ofRoom 0 = .ok (.aload_n 3, 1) := by decide +kernel
theorem dL_ofRoom_1 : decode cL_ofRoom 1 = .ok (.iconst 0, 1) := by decide +kernel
theorem dL_ofRoom_2 : decode cL_ofRoom 2 = .ok (.aload_n 0, 1) := by decide +kernel
theorem dL_ofRoom_3 : decode cL_ofRoom 3 = .ok (.iload_n 1, 1) := by decide +kernel
theorem dL_ofRoom_4 : decode cL_ofRoom 4 = .ok (.iload_n 2, 1) := by decide +kernel
theorem dL_ofRoom_5 : decode cL_ofRoom 5 = .ok (.invokevirtual 55, 3) := by decide +kernel
theorem dL_ofRoom_8 : decode cL_ofRoom 8 = .ok (.i2l, 1) := by decide +kernel
theorem dL_ofRoom_9 : decode cL_ofRoom 9 = .ok (.lastore, 1) := by decide +kernel
theorem dL_ofRoom_10 : decode cL_ofRoom 10 = .ok (.goto 11, 3) := by decide +kernel
theorem dL_ofRoom_13 : decode cL_ofRoom 13 = .ok (.astore 4, 2) := by decide +kernel
theorem dL_ofRoom_15 : decode cL_ofRoom 15 = .ok (.iconst 1, 1) := by decide +kernel
theorem dL_ofRoom_16 : decode cL_ofRoom 16 = .ok (.ireturn, 1) := by decide +kernel
theorem dL_ofRoom_17 : decode cL_ofRoom 17 = .ok (.astore 4, 2) := by decide +kernel
theorem dL_ofRoom_19 : decode cL_ofRoom 19 = .ok (.iconst 2, 1) := by decide +kernel
theorem dL_ofRoom_20 : decode cL_ofRoom 20 = .ok (.ireturn, 1) := by decide +kernel
theorem dL_ofRoom_21 : decode cL_ofRoom 21 = .ok (.iconst 0, 1) := by decide +kernel
theorem dL_ofRoom_22 : decode cL_ofRoom 22 = .ok (.ireturn, 1) := by decide +kernel
theorem dL_way_0 : decode cL_way 0 = .ok (.aload 4, 2) := by decide +kernel
theorem dL_way_2 : decode cL_way 2 = .ok (.iconst 0, 1) := by decide +kernel
theorem dL_way_3 : decode cL_way 3 = .ok (.aload_n 0, 1) := by decide +kernel
theorem dL_way_4 : decode cL_way 4 = .ok (.iload_n 1, 1) := by decide +kernel
theorem dL_way_5 : decode cL_way 5 = .ok (.iload_n 2, 1) := by decide +kernel
theorem dL_way_6 : decode cL_way 6 = .ok (.iload_n 3, 1) := by decide +kernel
theorem dL_way_7 : decode cL_way 7 = .ok (.invokevirtual 58, 3) := by decide +kernel
theorem dL_way_10 : decode cL_way 10 = .ok (.i2l, 1) := by decide +kernel
theorem dL_way_11 : decode cL_way 11 = .ok (.lastore, 1) := by decide +kernel
theorem dL_way_12 : decode cL_way 12 = .ok (.goto 11, 3) := by decide +kernel
theorem dL_way_15 : decode cL_way 15 = .ok (.astore 5, 2) := by decide +kernel
theorem dL_way_17 : decode cL_way 17 = .ok (.iconst 1, 1) := by decide +kernel
theorem dL_way_18 : decode cL_way 18 = .ok (.ireturn, 1) := by decide +kernel
theorem dL_way_19 : decode cL_way 19 = .ok (.astore 5, 2) := by decide +kernel
theorem dL_way_21 : decode cL_way 21 = .ok (.iconst 2, 1) := by decide +kernel
theorem dL_way_22 : decode cL_way 22 = .ok (.ireturn, 1) := by decide +kernel
theorem dL_way_23 : decode cL_way 23 = .ok (.iconst 0, 1) := by decide +kernel
theorem dL_way_24 : decode cL_way 24 = .ok (.ireturn, 1) := by decide +kernel
theorem dL_ofTrack_0 : decode cL_ofTrack 0 = .ok (.aload_n 3, 1) := by decide +kernel
theorem dL_ofTrack_1 : decode cL_ofTrack 1 = .ok (.iconst 0, 1) := by decide +kernel
theorem dL_ofTrack_2 : decode cL_ofTrack 2 = .ok (.aload_n 0, 1) := by decide +kernel
theorem dL_ofTrack_3 : decode cL_ofTrack 3 = .ok (.iload_n 1, 1) := by decide +kernel
theorem dL_ofTrack_4 : decode cL_ofTrack 4 = .ok (.iload_n 2, 1) := by decide +kernel
theorem dL_ofTrack_5 : decode cL_ofTrack 5 = .ok (.invokevirtual 61, 3) := by decide +kernel
theorem dL_ofTrack_8 : decode cL_ofTrack 8 = .ok (.i2l, 1) := by decide +kernel
theorem dL_ofTrack_9 : decode cL_ofTrack 9 = .ok (.lastore, 1) := by decide +kernel
theorem dL_ofTrack_10 : decode cL_ofTrack 10 = .ok (.goto 11, 3) := by decide +kernel
theorem dL_ofTrack_13 : decode cL_ofTrack 13 = .ok (.astore 4, 2) := by decide +kernel
theorem dL_ofTrack_15 : decode cL_ofTrack 15 = .ok (.iconst 1, 1) := by decide +kernel
theorem dL_ofTrack_16 : decode cL_ofTrack 16 = .ok (.ireturn, 1) := by decide +kernel
theorem dL_ofTrack_17 : decode cL_ofTrack 17 = .ok (.astore 4, 2) := by decide +kernel
theorem dL_ofTrack_19 : decode cL_ofTrack 19 = .ok (.iconst 2, 1) := by decide +kernel
theorem dL_ofTrack_20 : decode cL_ofTrack 20 = .ok (.ireturn, 1) := by decide +kernel
theorem dL_ofTrack_21 : decode cL_ofTrack 21 = .ok (.iconst 0, 1) := by decide +kernel
theorem dL_ofTrack_22 : decode cL_ofTrack 22 = .ok (.ireturn, 1) := by decide +kernel
theorem dL_ofScene_0 : decode cL_ofScene 0 = .ok (.aload_n 3, 1) := by decide +kernel
theorem dL_ofScene_1 : decode cL_ofScene 1 = .ok (.iconst 0, 1) := by decide +kernel
theorem dL_ofScene_2 : decode cL_ofScene 2 = .ok (.aload_n 0, 1) := by decide +kernel
theorem dL_ofScene_3 : decode cL_ofScene 3 = .ok (.iload_n 1, 1) := by decide +kernel
theorem dL_ofScene_4 : decode cL_ofScene 4 = .ok (.iload_n 2, 1) := by decide +kernel
theorem dL_ofScene_5 : decode cL_ofScene 5 = .ok (.invokevirtual 64, 3) := by decide +kernel
theorem dL_ofScene_8 : decode cL_ofScene 8 = .ok (.i2l, 1) := by decide +kernel
theorem dL_ofScene_9 : decode cL_ofScene 9 = .ok (.lastore, 1) := by decide +kernel
theorem dL_ofScene_10 : decode cL_ofScene 10 = .ok (.goto 11, 3) := by decide +kernel
theorem dL_ofScene_13 : decode cL_ofScene 13 = .ok (.astore 4, 2) := by decide +kernel
theorem dL_ofScene_15 : decode cL_ofScene 15 = .ok (.iconst 1, 1) := by decide +kernel
theorem dL_ofScene_16 : decode cL_ofScene 16 = .ok (.ireturn, 1) := by decide +kernel
theorem dL_ofScene_17 : decode cL_ofScene 17 = .ok (.astore 4, 2) := by decide +kernel
theorem dL_ofScene_19 : decode cL_ofScene 19 = .ok (.iconst 2, 1) := by decide +kernel
theorem dL_ofScene_20 : decode cL_ofScene 20 = .ok (.ireturn, 1) := by decide +kernel
theorem dL_ofScene_21 : decode cL_ofScene 21 = .ok (.iconst 0, 1) := by decide +kernel
theorem dL_ofScene_22 : decode cL_ofScene 22 = .ok (.ireturn, 1) := by decide +kernel
theorem dL_ofGuest_0 : decode cL_ofGuest 0 = .ok (.aload_n 3, 1) := by decide +kernel
theorem dL_ofGuest_1 : decode cL_ofGuest 1 = .ok (.iconst 0, 1) := by decide +kernel
theorem dL_ofGuest_2 : decode cL_ofGuest 2 = .ok (.aload_n 0, 1) := by decide +kernel
theorem dL_ofGuest_3 : decode cL_ofGuest 3 = .ok (.iload_n 1, 1) := by decide +kernel
theorem dL_ofGuest_4 : decode cL_ofGuest 4 = .ok (.iload_n 2, 1) := by decide +kernel
theorem dL_ofGuest_5 : decode cL_ofGuest 5 = .ok (.invokevirtual 67, 3) := by decide +kernel
theorem dL_ofGuest_8 : decode cL_ofGuest 8 = .ok (.i2l, 1) := by decide +kernel
theorem dL_ofGuest_9 : decode cL_ofGuest 9 = .ok (.lastore, 1) := by decide +kernel
theorem dL_ofGuest_10 : decode cL_ofGuest 10 = .ok (.goto 11, 3) := by decide +kernel
theorem dL_ofGuest_13 : decode cL_ofGuest 13 = .ok (.astore 4, 2) := by decide +kernel
theorem dL_ofGuest_15 : decode cL_ofGuest 15 = .ok (.iconst 1, 1) := by decide +kernel
theorem dL_ofGuest_16 : decode cL_ofGuest 16 = .ok (.ireturn, 1) := by decide +kernel
theorem dL_ofGuest_17 : decode cL_ofGuest 17 = .ok (.astore 4, 2) := by decide +kernel
theorem dL_ofGuest_19 : decode cL_ofGuest 19 = .ok (.iconst 2, 1) := by decide +kernel
theorem dL_ofGuest_20 : decode cL_ofGuest 20 = .ok (.ireturn, 1) := by decide +kernel
theorem dL_ofGuest_21 : decode cL_ofGuest 21 = .ok (.iconst 0, 1) := by decide +kernel
theorem dL_ofGuest_22 : decode cL_ofGuest 22 = .ok (.ireturn, 1) := by decide +kernel
theorem dL_ofProp_0 : decode cL_ofProp 0 = .ok (.aload_n 3, 1) := by decide +kernel
theorem dL_ofProp_1 : decode cL_ofProp 1 = .ok (.iconst 0, 1) := by decide +kernel
theorem dL_ofProp_2 : decode cL_ofProp 2 = .ok (.aload_n 0, 1) := by decide +kernel
theorem dL_ofProp_3 : decode cL_ofProp 3 = .ok (.iload_n 1, 1) := by decide +kernel
theorem dL_ofProp_4 : decode cL_ofProp 4 = .ok (.iload_n 2, 1) := by decide +kernel
theorem dL_ofProp_5 : decode cL_ofProp 5 = .ok (.invokevirtual 70, 3) := by decide +kernel
theorem dL_ofProp_8 : decode cL_ofProp 8 = .ok (.i2l, 1) := by decide +kernel
theorem dL_ofProp_9 : decode cL_ofProp 9 = .ok (.lastore, 1) := by decide +kernel
theorem dL_ofProp_10 : decode cL_ofProp 10 = .ok (.goto 11, 3) := by decide +kernel
theorem dL_ofProp_13 : decode cL_ofProp 13 = .ok (.astore 4, 2) := by decide +kernel
theorem dL_ofProp_15 : decode cL_ofProp 15 = .ok (.iconst 1, 1) := by decide +kernel
theorem dL_ofProp_16 : decode cL_ofProp 16 = .ok (.ireturn, 1) := by decide +kernel
theorem dL_ofProp_17 : decode cL_ofProp 17 = .ok (.astore 4, 2) := by decide +kernel
theorem dL_ofProp_19 : decode cL_ofProp 19 = .ok (.iconst 2, 1) := by decide +kernel
theorem dL_ofProp_20 : decode cL_ofProp 20 = .ok (.ireturn, 1) := by decide +kernel
theorem dL_ofProp_21 : decode cL_ofProp 21 = .ok (.iconst 0, 1) := by decide +kernel
theorem dL_ofProp_22 : decode cL_ofProp 22 = .ok (.ireturn, 1) := by decide +kernel
theorem dL_seen_0 : decode cL_seen 0 = .ok (.aload_n 3, 1) := by decide +kernel
theorem dL_seen_1 : decode cL_seen 1 = .ok (.iconst 0, 1) := by decide +kernel
theorem dL_seen_2 : decode cL_seen 2 = .ok (.aload_n 0, 1) := by decide +kernel
theorem dL_seen_3 : decode cL_seen 3 = .ok (.iload_n 1, 1) := by decide +kernel
theorem dL_seen_4 : decode cL_seen 4 = .ok (.iload_n 2, 1) := by decide +kernel
theorem dL_seen_5 : decode cL_seen 5 = .ok (.invokevirtual 73, 3) := by decide +kernel
theorem dL_seen_8 : decode cL_seen 8 = .ok (.i2l, 1) := by decide +kernel
theorem dL_seen_9 : decode cL_seen 9 = .ok (.lastore, 1) := by decide +kernel
theorem dL_seen_10 : decode cL_seen 10 = .ok (.goto 7, 3) := by decide +kernel
theorem dL_seen_13 : decode cL_seen 13 = .ok (.astore 4, 2) := by decide +kernel
theorem dL_seen_15 : decode cL_seen 15 = .ok (.iconst 1, 1) := by decide +kernel
theorem dL_seen_16 : decode cL_seen 16 = .ok (.ireturn, 1) := by decide +kernel
theorem dL_seen_17 : decode cL_seen 17 = .ok (.iconst 0, 1) := by decide +kernel
theorem dL_seen_18 : decode cL_seen 18 = .ok (.ireturn, 1) := by decide +kernel
theorem dL_many_0 : decode cL_many 0 = .ok (.aload_n 2, 1) := by decide +kernel
theorem dL_many_1 : decode cL_many 1 = .ok (.iconst 0, 1) := by decide +kernel
theorem dL_many_2 : decode cL_many 2 = .ok (.aload_n 0, 1) := by decide +kernel
theorem dL_many_3 : decode cL_many 3 = .ok (.iload_n 1, 1) := by decide +kernel
theorem dL_many_4 : decode cL_many 4 = .ok (.invokevirtual 76, 3) := by decide +kernel
theorem dL_many_7 : decode cL_many 7 = .ok (.i2l, 1) := by decide +kernel
theorem dL_many_8 : decode cL_many 8 = .ok (.lastore, 1) := by decide +kernel
theorem dL_many_9 : decode cL_many 9 = .ok (.goto 6, 3) := by decide +kernel
theorem dL_many_12 : decode cL_many 12 = .ok (.astore_n 3, 1) := by decide +kernel
theorem dL_many_13 : decode cL_many 13 = .ok (.iconst 1, 1) := by decide +kernel
theorem dL_many_14 : decode cL_many 14 = .ok (.ireturn, 1) := by decide +kernel
theorem dL_many_15 : decode cL_many 15 = .ok (.iconst 0, 1) := by decide +kernel
theorem dL_many_16 : decode cL_many 16 = .ok (.ireturn, 1) := by decide +kernel
theorem dL_wouldKnow_0 : decode cL_wouldKnow 0 = .ok (.aload_n 3, 1) := by decide +kernel
theorem dL_wouldKnow_1 : decode cL_wouldKnow 1 = .ok (.iconst 0, 1) := by decide +kernel
theorem dL_wouldKnow_2 : decode cL_wouldKnow 2 = .ok (.aload_n 0, 1) := by decide +kernel
theorem dL_wouldKnow_3 : decode cL_wouldKnow 3 = .ok (.iload_n 1, 1) := by decide +kernel
theorem dL_wouldKnow_4 : decode cL_wouldKnow 4 = .ok (.iload_n 2, 1) := by decide +kernel
theorem dL_wouldKnow_5 : decode cL_wouldKnow 5 = .ok (.invokevirtual 79, 3) := by decide +kernel
theorem dL_wouldKnow_8 : decode cL_wouldKnow 8 = .ok (.i2l, 1) := by decide +kernel
theorem dL_wouldKnow_9 : decode cL_wouldKnow 9 = .ok (.lastore, 1) := by decide +kernel
theorem dL_wouldKnow_10 : decode cL_wouldKnow 10 = .ok (.goto 11, 3) := by decide +kernel
theorem dL_wouldKnow_13 : decode cL_wouldKnow 13 = .ok (.astore 4, 2) := by decide +kernel
theorem dL_wouldKnow_15 : decode cL_wouldKnow 15 = .ok (.iconst 1, 1) := by decide +kernel
theorem dL_wouldKnow_16 : decode cL_wouldKnow 16 = .ok (.ireturn, 1) := by decide +kernel
theorem dL_wouldKnow_17 : decode cL_wouldKnow 17 = .ok (.astore 4, 2) := by decide +kernel
theorem dL_wouldKnow_19 : decode cL_wouldKnow 19 = .ok (.iconst 2, 1) := by decide +kernel
theorem dL_wouldKnow_20 : decode cL_wouldKnow 20 = .ok (.ireturn, 1) := by decide +kernel
theorem dL_wouldKnow_21 : decode cL_wouldKnow 21 = .ok (.iconst 0, 1) := by decide +kernel
theorem dL_wouldKnow_22 : decode cL_wouldKnow 22 = .ok (.ireturn, 1) := by decide +kernel
theorem dL_bestHabit_0 : decode cL_bestHabit 0 = .ok (.aload_n 3, 1) := by decide +kernel
theorem dL_bestHabit_1 : decode cL_bestHabit 1 = .ok (.iconst 0, 1) := by decide +kernel
theorem dL_bestHabit_2 : decode cL_bestHabit 2 = .ok (.aload_n 0, 1) := by decide +kernel
theorem dL_bestHabit_3 : decode cL_bestHabit 3 = .ok (.iload_n 1, 1) := by decide +kernel
theorem dL_bestHabit_4 : decode cL_bestHabit 4 = .ok (.iload_n 2, 1) := by decide +kernel
theorem dL_bestHabit_5 : decode cL_bestHabit 5 = .ok (.invokevirtual 82, 3) := by decide +kernel
theorem dL_bestHabit_8 : decode cL_bestHabit 8 = .ok (.i2l, 1) := by decide +kernel
theorem dL_bestHabit_9 : decode cL_bestHabit 9 = .ok (.lastore, 1) := by decide +kernel
theorem dL_bestHabit_10 : decode cL_bestHabit 10 = .ok (.goto 11, 3) := by decide +kernel
theorem dL_bestHabit_13 : decode cL_bestHabit 13 = .ok (.astore 4, 2) := by decide +kernel
theorem dL_bestHabit_15 : decode cL_bestHabit 15 = .ok (.iconst 1, 1) := by decide +kernel
theorem dL_bestHabit_16 : decode cL_bestHabit 16 = .ok (.ireturn, 1) := by decide +kernel
theorem dL_bestHabit_17 : decode cL_bestHabit 17 = .ok (.astore 4, 2) := by decide +kernel
theorem dL_bestHabit_19 : decode cL_bestHabit 19 = .ok (.iconst 2, 1) := by decide +kernel
theorem dL_bestHabit_20 : decode cL_bestHabit 20 = .ok (.ireturn, 1) := by decide +kernel
theorem dL_bestHabit_21 : decode cL_bestHabit 21 = .ok (.iconst 0, 1) := by decide +kernel
theorem dL_bestHabit_22 : decode cL_bestHabit 22 = .ok (.ireturn, 1) := by decide +kernel
theorem dL_wouldCut_0 : decode cL_wouldCut 0 = .ok (.aload_n 2, 1) := by decide +kernel
theorem dL_wouldCut_1 : decode cL_wouldCut 1 = .ok (.iconst 0, 1) := by decide +kernel
theorem dL_wouldCut_2 : decode cL_wouldCut 2 = .ok (.aload_n 0, 1) := by decide +kernel
theorem dL_wouldCut_3 : decode cL_wouldCut 3 = .ok (.iload_n 1, 1) := by decide +kernel
theorem dL_wouldCut_4 : decode cL_wouldCut 4 = .ok (.invokevirtual 85, 3) := by decide +kernel
theorem dL_wouldCut_7 : decode cL_wouldCut 7 = .ok (.i2l, 1) := by decide +kernel
theorem dL_wouldCut_8 : decode cL_wouldCut 8 = .ok (.lastore, 1) := by decide +kernel
theorem dL_wouldCut_9 : decode cL_wouldCut 9 = .ok (.goto 6, 3) := by decide +kernel
theorem dL_wouldCut_12 : decode cL_wouldCut 12 = .ok (.astore_n 3, 1) := by decide +kernel
theorem dL_wouldCut_13 : decode cL_wouldCut 13 = .ok (.iconst 1, 1) := by decide +kernel
theorem dL_wouldCut_14 : decode cL_wouldCut 14 = .ok (.ireturn, 1) := by decide +kernel
theorem dL_wouldCut_15 : decode cL_wouldCut 15 = .ok (.iconst 0, 1) := by decide +kernel
theorem dL_wouldCut_16 : decode cL_wouldCut 16 = .ok (.ireturn, 1) := by decide +kernel
theorem dL_doubles_0 : decode cL_doubles 0 = .ok (.aload_n 2, 1) := by decide +kernel
theorem dL_doubles_1 : decode cL_doubles 1 = .ok (.iconst 0, 1) := by decide +kernel
theorem dL_doubles_2 : decode cL_doubles 2 = .ok (.aload_n 0, 1) := by decide +kernel
theorem dL_doubles_3 : decode cL_doubles 3 = .ok (.iload_n 1, 1) := by decide +kernel
theorem dL_doubles_4 : decode cL_doubles 4 = .ok (.invokevirtual 88, 3) := by decide +kernel
theorem dL_doubles_7 : decode cL_doubles 7 = .ok (.i2l, 1) := by decide +kernel
theorem dL_doubles_8 : decode cL_doubles 8 = .ok (.lastore, 1) := by decide +kernel
theorem dL_doubles_9 : decode cL_doubles 9 = .ok (.goto 6, 3) := by decide +kernel
theorem dL_doubles_12 : decode cL_doubles 12 = .ok (.astore_n 3, 1) := by decide +kernel
theorem dL_doubles_13 : decode cL_doubles 13 = .ok (.iconst 1, 1) := by decide +kernel
theorem dL_doubles_14 : decode cL_doubles 14 = .ok (.ireturn, 1) := by decide +kernel
theorem dL_doubles_15 : decode cL_doubles 15 = .ok (.iconst 0, 1) := by decide +kernel
theorem dL_doubles_16 : decode cL_doubles 16 = .ok (.ireturn, 1) := by decide +kernel
theorem dL_law_0 : decode cL_law 0 = .ok (.new 8, 3) := by decide +kernel
theorem dL_law_3 : decode cL_law 3 = .ok (.dup, 1) := by decide +kernel
theorem dL_law_4 : decode cL_law 4 = .ok (.invokespecial 91, 3) := by decide +kernel
theorem dL_law_7 : decode cL_law 7 = .ok (.astore_n 1, 1) := by decide +kernel
theorem dL_law_8 : decode cL_law 8 = .ok (.new 92, 3) := by decide +kernel
theorem dL_law_11 : decode cL_law 11 = .ok (.dup, 1) := by decide +kernel
theorem dL_law_12 : decode cL_law 12 = .ok (.invokespecial 94, 3) := by decide +kernel
theorem dL_law_15 : decode cL_law 15 = .ok (.astore_n 2, 1) := by decide +kernel
theorem dL_law_16 : decode cL_law 16 = .ok (.iconst 1, 1) := by decide +kernel
theorem dL_law_17 : decode cL_law 17 = .ok (.newarray .long, 2) := by decide +kernel
theorem dL_law_19 : decode cL_law 19 = .ok (.astore_n 3, 1) := by decide +kernel
theorem dL_law_20 : decode cL_law 20 = .ok (.iconst 0, 1) := by decide +kernel
theorem dL_law_21 : decode cL_law 21 = .ok (.istore 4, 2) := by decide +kernel
theorem dL_law_23 : decode cL_law 23 = .ok (.iload 4, 2) := by decide +kernel
theorem dL_law_25 : decode cL_law 25 = .ok (.aload_n 0, 1) := by decide +kernel
theorem dL_law_26 : decode cL_law 26 = .ok (.arraylength, 1) := by decide +kernel
theorem dL_law_27 : decode cL_law 27 = .ok (.bipush 6, 2) := by decide +kernel
theorem dL_law_29 : decode cL_law 29 = .ok (.isub, 1) := by decide +kernel
theorem dL_law_30 : decode cL_law 30 = .ok (.if_icmp .gt 1775, 3) := by decide +kernel
theorem dL_law_33 : decode cL_law 33 = .ok (.aload_n 0, 1) := by decide +kernel
theorem dL_law_34 : decode cL_law 34 = .ok (.iload 4, 2) := by decide +kernel
theorem dL_law_36 : decode cL_law 36 = .ok (.iaload, 1) := by decide +kernel
theorem dL_law_37 : decode cL_law 37 = .ok (.bipush 31, 2) := by decide +kernel
theorem dL_law_39 : decode cL_law 39 = .ok (.iand, 1) := by decide +kernel
theorem dL_law_40 : decode cL_law 40 = .ok (.tableswitch 1759 0 25 #[120, 176, 256, 312, 368, 472, 528, 608, 664, 732, 788, 856, 912, 980, 1060, 1128, 1196, 1264, 1332, 1400, 1456, 1497, 1565, 1633, 1689, 1745], 120) := by decide +kernel
theorem dL_law_160 : decode cL_law 160 = .ok (.aload_n 1, 1) := by decide +kernel
theorem dL_law_161 : decode cL_law 161 = .ok (.aload_n 0, 1) := by decide +kernel
theorem dL_law_162 : decode cL_law 162 = .ok (.iload 4, 2) := by decide +kernel
theorem dL_law_164 : decode cL_law 164 = .ok (.iconst 1, 1) := by decide +kernel
theorem dL_law_165 : decode cL_law 165 = .ok (.iadd, 1) := by decide +kernel
theorem dL_law_166 : decode cL_law 166 = .ok (.iaload, 1) := by decide +kernel
theorem dL_law_167 : decode cL_law 167 = .ok (.aload_n 3, 1) := by decide +kernel
theorem dL_law_168 : decode cL_law 168 = .ok (.invokestatic 95, 3) := by decide +kernel
theorem dL_law_171 : decode cL_law 171 = .ok (.istore 5, 2) := by decide +kernel
theorem dL_law_173 : decode cL_law 173 = .ok (.aload_n 2, 1) := by decide +kernel
theorem dL_law_174 : decode cL_law 174 = .ok (.aload_n 0, 1) := by decide +kernel
theorem dL_law_175 : decode cL_law 175 = .ok (.iload 4, 2) := by decide +kernel
theorem dL_law_177 : decode cL_law 177 = .ok (.iconst 1, 1) := by decide +kernel
theorem dL_law_178 : decode cL_law 178 = .ok (.iadd, 1) := by decide +kernel
theorem dL_law_179 : decode cL_law 179 = .ok (.iaload, 1) := by decide +kernel
theorem dL_law_180 : decode cL_law 180 = .ok (.invokevirtual 100, 3) := by decide +kernel
theorem dL_law_183 : decode cL_law 183 = .ok (.istore 6, 2) := by decide +kernel
theorem dL_law_185 : decode cL_law 185 = .ok (.aload_n 2, 1) := by decide +kernel
theorem dL_law_186 : decode cL_law 186 = .ok (.invokevirtual 101, 3) := by decide +kernel
theorem dL_law_189 : decode cL_law 189 = .ok (.iload 5, 2) := by decide +kernel
theorem dL_law_191 : decode cL_law 191 = .ok (.if_icmp .eq 5, 3) := by decide +kernel
theorem dL_law_194 : decode cL_law 194 = .ok (.iconst 0, 1) := by decide +kernel
theorem dL_law_195 : decode cL_law 195 = .ok (.ireturn, 1) := by decide +kernel
theorem dL_law_196 : decode cL_law 196 = .ok (.iload 5, 2) := by decide +kernel
theorem dL_law_198 : decode cL_law 198 = .ok (.ifCond .ne 15, 3) := by decide +kernel
theorem dL_law_201 : decode cL_law 201 = .ok (.aload_n 3, 1) := by decide +kernel
theorem dL_law_202 : decode cL_law 202 = .ok (.iconst 0, 1) := by decide +kernel
theorem dL_law_203 : decode cL_law 203 = .ok (.laload, 1) := by decide +kernel
theorem dL_law_204 : decode cL_law 204 = .ok (.iload 6, 2) := by decide +kernel
theorem dL_law_206 : decode cL_law 206 = .ok (.i2l, 1) := by decide +kernel
theorem dL_law_207 : decode cL_law 207 = .ok (.lcmp, 1) := by decide +kernel
theorem dL_law_208 : decode cL_law 208 = .ok (.ifCond .eq 5, 3) := by decide +kernel
theorem dL_law_211 : decode cL_law 211 = .ok (.iconst 0, 1) := by decide +kernel
theorem dL_law_212 : decode cL_law 212 = .ok (.ireturn, 1) := by decide +kernel
theorem dL_law_213 : decode cL_law 213 = .ok (.goto 1586, 3) := by decide +kernel
theorem dL_law_216 : decode cL_law 216 = .ok (.aload_n 1, 1) := by decide +kernel
theorem dL_law_217 : decode cL_law 217 = .ok (.aload_n 0, 1) := by decide +kernel
theorem dL_law_218 : decode cL_law 218 = .ok (.iload 4, 2) := by decide +kernel
theorem dL_law_220 : decode cL_law 220 = .ok (.iconst 1, 1) := by decide +kernel
theorem dL_law_221 : decode cL_law 221 = .ok (.iadd, 1) := by decide +kernel
theorem dL_law_222 : decode cL_law 222 = .ok (.iaload, 1) := by decide +kernel
theorem dL_law_223 : decode cL_law 223 = .ok (.aload_n 0, 1) := by decide +kernel
theorem dL_law_224 : decode cL_law 224 = .ok (.iload 4, 2) := by decide +kernel
theorem dL_law_226 : decode cL_law 226 = .ok (.iconst 2, 1) := by decide +kernel
theorem dL_law_227 : decode cL_law 227 = .ok (.iadd, 1) := by decide +kernel
theorem dL_law_228 : decode cL_law 228 = .ok (.iaload, 1) := by decide +kernel
theorem dL_law_229 : decode cL_law 229 = .ok (.aload_n 0, 1) := by decide +kernel
theorem dL_law_230 : decode cL_law 230 = .ok (.iload 4, 2) := by decide +kernel
theorem dL_law_232 : decode cL_law 232 = .ok (.iconst 3, 1) := by decide +kernel
theorem dL_law_233 : decode cL_law 233 = .ok (.iadd, 1) := by decide +kernel
theorem dL_law_234 : decode cL_law 234 = .ok (.iaload, 1) := by decide +kernel
theorem dL_law_235 : decode cL_law 235 = .ok (.aload_n 3, 1) := by decide +kernel
theorem dL_law_236 : decode cL_law 236 = .ok (.invokestatic 105, 3) := by decide +kernel
theorem dL_law_239 : decode cL_law 239 = .ok (.istore 5, 2) := by decide +kernel
theorem dL_law_241 : decode cL_law 241 = .ok (.aload_n 2, 1) := by decide +kernel
theorem dL_law_242 : decode cL_law 242 = .ok (.aload_n 0, 1) := by decide +kernel
theorem dL_law_243 : decode cL_law 243 = .ok (.iload 4, 2) := by decide +kernel
theorem dL_law_245 : decode cL_law 245 = .ok (.iconst 1, 1) := by decide +kernel
theorem dL_law_246 : decode cL_law 246 = .ok (.iadd, 1) := by decide +kernel
theorem dL_law_247 : decode cL_law 247 = .ok (.iaload, 1) := by decide +kernel
theorem dL_law_248 : decode cL_law 248 = .ok (.aload_n 0, 1) := by decide +kernel
theorem dL_law_249 : decode cL_law 249 = .ok (.iload 4, 2) := by decide +kernel
theorem dL_law_251 : decode cL_law 251 = .ok (.iconst 2, 1) := by decide +kernel
theorem dL_law_252 : decode cL_law 252 = .ok (.iadd, 1) := by decide +kernel
theorem dL_law_253 : decode cL_law 253 = .ok (.iaload, 1) := by decide +kernel
theorem dL_law_254 : decode cL_law 254 = .ok (.aload_n 0, 1) := by decide +kernel
theorem dL_law_255 : decode cL_law 255 = .ok (.iload 4, 2) := by decide +kernel
theorem dL_law_257 : decode cL_law 257 = .ok (.iconst 3, 1) := by decide +kernel
theorem dL_law_258 : decode cL_law 258 = .ok (.iadd, 1) := by decide +kernel
theorem dL_law_259 : decode cL_law 259 = .ok (.iaload, 1) := by decide +kernel
theorem dL_law_260 : decode cL_law 260 = .ok (.invokevirtual 108, 3) := by decide +kernel
theorem dL_law_263 : decode cL_law 263 = .ok (.istore 6, 2) := by decide +kernel
theorem dL_law_265 : decode cL_law 265 = .ok (.aload_n 2, 1) := by decide +kernel
theorem dL_law_266 : decode cL_law 266 = .ok (.invokevirtual 101, 3) := by decide +kernel
theorem dL_law_269 : decode cL_law 269 = .ok (.iload 5, 2) := by decide +kernel
theorem dL_law_271 : decode cL_law 271 = .ok (.if_icmp .eq 5, 3) := by decide +kernel
theorem dL_law_274 : decode cL_law 274 = .ok (.iconst 0, 1) := by decide +kernel
theorem dL_law_275 : decode cL_law 275 = .ok (.ireturn, 1) := by decide +kernel
theorem dL_law_276 : decode cL_law 276 = .ok (.iload 5, 2) := by decide +kernel
theorem dL_law_278 : decode cL_law 278 = .ok (.ifCond .ne 15, 3) := by decide +kernel
theorem dL_law_281 : decode cL_law 281 = .ok (.aload_n 3, 1) := by decide +kernel
theorem dL_law_282 : decode cL_law 282 = .ok (.iconst 0, 1) := by decide +kernel
theorem dL_law_283 : decode cL_law 283 = .ok (.laload, 1) := by decide +kernel
theorem dL_law_284 : decode cL_law 284 = .ok (.iload 6, 2) := by decide +kernel
theorem dL_law_286 : decode cL_law 286 = .ok (.i2l, 1) := by decide +kernel
theorem dL_law_287 : decode cL_law 287 = .ok (.lcmp, 1) := by decide +kernel
theorem dL_law_288 : decode cL_law 288 = .ok (.ifCond .eq 5, 3) := by decide +kernel
theorem dL_law_291 : decode cL_law 291 = .ok (.iconst 0, 1) := by decide +kernel
theorem dL_law_292 : decode cL_law 292 = .ok (.ireturn, 1) := by decide +kernel
theorem dL_law_293 : decode cL_law 293 = .ok (.goto 1506, 3) := by decide +kernel
theorem dL_law_296 : decode cL_law 296 = .ok (.aload_n 1, 1) := by decide +kernel
theorem dL_law_297 : decode cL_law 297 = .ok (.aload_n 0, 1) := by decide +kernel
theorem dL_law_298 : decode cL_law 298 = .ok (.iload 4, 2) := by decide +kernel
theorem dL_law_300 : decode cL_law 300 = .ok (.iconst 1, 1) := by decide +kernel
theorem dL_law_301 : decode cL_law 301 = .ok (.iadd, 1) := by decide +kernel
theorem dL_law_302 : decode cL_law 302 = .ok (.iaload, 1) := by decide +kernel
theorem dL_law_303 : decode cL_law 303 = .ok (.aload_n 3, 1) := by decide +kernel
theorem dL_law_304 : decode cL_law 304 = .ok (.invokestatic 109, 3) := by decide +kernel
theorem dL_law_307 : decode cL_law 307 = .ok (.istore 5, 2) := by decide +kernel
theorem dL_law_309 : decode cL_law 309 = .ok (.aload_n 2, 1) := by decide +kernel
theorem dL_law_310 : decode cL_law 310 = .ok (.aload_n 0, 1) := by decide +kernel
theorem dL_law_311 : decode cL_law 311 = .ok (.iload 4, 2) := by decide +kernel
theorem dL_law_313 : decode cL_law 313 = .ok (.iconst 1, 1) := by decide +kernel
theorem dL_law_314 : decode cL_law 314 = .ok (.iadd, 1) := by decide +kernel
theorem dL_law_315 : decode cL_law 315 = .ok (.iaload, 1) := by decide +kernel
theorem dL_law_316 : decode cL_law 316 = .ok (.invokevirtual 111, 3) := by decide +kernel
theorem dL_law_319 : decode cL_law 319 = .ok (.istore 6, 2) := by decide +kernel
theorem dL_law_321 : decode cL_law 321 = .ok (.aload_n 2, 1) := by decide +kernel
theorem dL_law_322 : decode cL_law 322 = .ok (.invokevirtual 101, 3) := by decide +kernel
theorem dL_law_325 : decode cL_law 325 = .ok (.iload 5, 2) := by decide +kernel
theorem dL_law_327 : decode cL_law 327 = .ok (.if_icmp .eq 5, 3) := by decide +kernel
theorem dL_law_330 : decode cL_law 330 = .ok (.iconst 0, 1) := by decide +kernel
theorem dL_law_331 : decode cL_law 331 = .ok (.ireturn, 1) := by decide +kernel
theorem dL_law_332 : decode cL_law 332 = .ok (.iload 5, 2) := by decide +kernel
theorem dL_law_334 : decode cL_law 334 = .ok (.ifCond .ne 15, 3) := by decide +kernel
theorem dL_law_337 : decode cL_law 337 = .ok (.aload_n 3, 1) := by decide +kernel
theorem dL_law_338 : decode cL_law 338 = .ok (.iconst 0, 1) := by decide +kernel
theorem dL_law_339 : decode cL_law 339 = .ok (.laload, 1) := by decide +kernel
theorem dL_law_340 : decode cL_law 340 = .ok (.iload 6, 2) := by decide +kernel
theorem dL_law_342 : decode cL_law 342 = .ok (.i2l, 1) := by decide +kernel
theorem dL_law_343 : decode cL_law 343 = .ok (.lcmp, 1) := by decide +kernel
theorem dL_law_344 : decode cL_law 344 = .ok (.ifCond .eq 5, 3) := by decide +kernel
theorem dL_law_347 : decode cL_law 347 = .ok (.iconst 0, 1) := by decide +kernel
theorem dL_law_348 : decode cL_law 348 = .ok (.ireturn, 1) := by decide +kernel
theorem dL_law_349 : decode cL_law 349 = .ok (.goto 1450, 3) := by decide +kernel
theorem dL_law_352 : decode cL_law 352 = .ok (.aload_n 1, 1) := by decide +kernel
theorem dL_law_353 : decode cL_law 353 = .ok (.aload_n 0, 1) := by decide +kernel
theorem dL_law_354 : decode cL_law 354 = .ok (.iload 4, 2) := by decide +kernel
theorem dL_law_356 : decode cL_law 356 = .ok (.iconst 1, 1) := by decide +kernel
theorem dL_law_357 : decode cL_law 357 = .ok (.iadd, 1) := by decide +kernel
theorem dL_law_358 : decode cL_law 358 = .ok (.iaload, 1) := by decide +kernel
theorem dL_law_359 : decode cL_law 359 = .ok (.aload_n 3, 1) := by decide +kernel
theorem dL_law_360 : decode cL_law 360 = .ok (.invokestatic 112, 3) := by decide +kernel
theorem dL_law_363 : decode cL_law 363 = .ok (.istore 5, 2) := by decide +kernel
theorem dL_law_365 : decode cL_law 365 = .ok (.aload_n 2, 1) := by decide +kernel
theorem dL_law_366 : decode cL_law 366 = .ok (.aload_n 0, 1) := by decide +kernel
theorem dL_law_367 : decode cL_law 367 = .ok (.iload 4, 2) := by decide +kernel
theorem dL_law_369 : decode cL_law 369 = .ok (.iconst 1, 1) := by decide +kernel
theorem dL_law_370 : decode cL_law 370 = .ok (.iadd, 1) := by decide +kernel
theorem dL_law_371 : decode cL_law 371 = .ok (.iaload, 1) := by decide +kernel
theorem dL_law_372 : decode cL_law 372 = .ok (.invokevirtual 114, 3) := by decide +kernel
theorem dL_law_375 : decode cL_law 375 = .ok (.istore 6, 2) := by decide +kernel
theorem dL_law_377 : decode cL_law 377 = .ok (.aload_n 2, 1) := by decide +kernel
theorem dL_law_378 : decode cL_law 378 = .ok (.invokevirtual 101, 3) := by decide +kernel
theorem dL_law_381 : decode cL_law 381 = .ok (.iload 5, 2) := by decide +kernel
theorem dL_law_383 : decode cL_law 383 = .ok (.if_icmp .eq 5, 3) := by decide +kernel
theorem dL_law_386 : decode cL_law 386 = .ok (.iconst 0, 1) := by decide +kernel
theorem dL_law_387 : decode cL_law 387 = .ok (.ireturn, 1) := by decide +kernel
theorem dL_law_388 : decode cL_law 388 = .ok (.iload 5, 2) := by decide +kernel
theorem dL_law_390 : decode cL_law 390 = .ok (.ifCond .ne 15, 3) := by decide +kernel
theorem dL_law_393 : decode cL_law 393 = .ok (.aload_n 3, 1) := by decide +kernel
theorem dL_law_394 : decode cL_law 394 = .ok (.iconst 0, 1) := by decide +kernel
theorem dL_law_395 : decode cL_law 395 = .ok (.laload, 1) := by decide +kernel
theorem dL_law_396 : decode cL_law 396 = .ok (.iload 6, 2) := by decide +kernel
theorem dL_law_398 : decode cL_law 398 = .ok (.i2l, 1) := by decide +kernel
theorem dL_law_399 : decode cL_law 399 = .ok (.lcmp, 1) := by decide +kernel
theorem dL_law_400 : decode cL_law 400 = .ok (.ifCond .eq 5, 3) := by decide +kernel
theorem dL_law_403 : decode cL_law 403 = .ok (.iconst 0, 1) := by decide +kernel
theorem dL_law_404 : decode cL_law 404 = .ok (.ireturn, 1) := by decide +kernel
theorem dL_law_405 : decode cL_law 405 = .ok (.goto 1394, 3) := by decide +kernel
theorem dL_law_408 : decode cL_law 408 = .ok (.aload_n 1, 1) := by decide +kernel
theorem dL_law_409 : decode cL_law 409 = .ok (.aload_n 0, 1) := by decide +kernel
theorem dL_law_410 : decode cL_law 410 = .ok (.iload 4, 2) := by decide +kernel
theorem dL_law_412 : decode cL_law 412 = .ok (.iconst 1, 1) := by decide +kernel
theorem dL_law_413 : decode cL_law 413 = .ok (.iadd, 1) := by decide +kernel
theorem dL_law_414 : decode cL_law 414 = .ok (.iaload, 1) := by decide +kernel
theorem dL_law_415 : decode cL_law 415 = .ok (.aload_n 0, 1) := by decide +kernel
theorem dL_law_416 : decode cL_law 416 = .ok (.iload 4, 2) := by decide +kernel
theorem dL_law_418 : decode cL_law 418 = .ok (.iconst 2, 1) := by decide +kernel
theorem dL_law_419 : decode cL_law 419 = .ok (.iadd, 1) := by decide +kernel
theorem dL_law_420 : decode cL_law 420 = .ok (.iaload, 1) := by decide +kernel
theorem dL_law_421 : decode cL_law 421 = .ok (.aload_n 0, 1) := by decide +kernel
theorem dL_law_422 : decode cL_law 422 = .ok (.iload 4, 2) := by decide +kernel
theorem dL_law_424 : decode cL_law 424 = .ok (.iconst 3, 1) := by decide +kernel
theorem dL_law_425 : decode cL_law 425 = .ok (.iadd, 1) := by decide +kernel
theorem dL_law_426 : decode cL_law 426 = .ok (.iaload, 1) := by decide +kernel
theorem dL_law_427 : decode cL_law 427 = .ok (.aload_n 0, 1) := by decide +kernel
theorem dL_law_428 : decode cL_law 428 = .ok (.iload 4, 2) := by decide +kernel
theorem dL_law_430 : decode cL_law 430 = .ok (.iconst 4, 1) := by decide +kernel
theorem dL_law_431 : decode cL_law 431 = .ok (.iadd, 1) := by decide +kernel
theorem dL_law_432 : decode cL_law 432 = .ok (.iaload, 1) := by decide +kernel
theorem dL_law_433 : decode cL_law 433 = .ok (.aload_n 0, 1) := by decide +kernel
theorem dL_law_434 : decode cL_law 434 = .ok (.iload 4, 2) := by decide +kernel
theorem dL_law_436 : decode cL_law 436 = .ok (.iconst 5, 1) := by decide +kernel
theorem dL_law_437 : decode cL_law 437 = .ok (.iadd, 1) := by decide +kernel
theorem dL_law_438 : decode cL_law 438 = .ok (.iaload, 1) := by decide +kernel
theorem dL_law_439 : decode cL_law 439 = .ok (.aload_n 3, 1) := by decide +kernel
theorem dL_law_440 : decode cL_law 440 = .ok (.invokestatic 115, 3) := by decide +kernel
theorem dL_law_443 : decode cL_law 443 = .ok (.istore 5, 2) := by decide +kernel
theorem dL_law_445 : decode cL_law 445 = .ok (.aload_n 2, 1) := by decide +kernel
theorem dL_law_446 : decode cL_law 446 = .ok (.aload_n 0, 1) := by decide +kernel
theorem dL_law_447 : decode cL_law 447 = .ok (.iload 4, 2) := by decide +kernel
theorem dL_law_449 : decode cL_law 449 = .ok (.iconst 1, 1) := by decide +kernel
theorem dL_law_450 : decode cL_law 450 = .ok (.iadd, 1) := by decide +kernel
theorem dL_law_451 : decode cL_law 451 = .ok (.iaload, 1) := by decide +kernel
theorem dL_law_452 : decode cL_law 452 = .ok (.aload_n 0, 1) := by decide +kernel
theorem dL_law_453 : decode cL_law 453 = .ok (.iload 4, 2) := by decide +kernel
theorem dL_law_455 : decode cL_law 455 = .ok (.iconst 2, 1) := by decide +kernel
theorem dL_law_456 : decode cL_law 456 = .ok (.iadd, 1) := by decide +kernel
theorem dL_law_457 : decode cL_law 457 = .ok (.iaload, 1) := by decide +kernel
theorem dL_law_458 : decode cL_law 458 = .ok (.aload_n 0, 1) := by decide +kernel
theorem dL_law_459 : decode cL_law 459 = .ok (.iload 4, 2) := by decide +kernel
theorem dL_law_461 : decode cL_law 461 = .ok (.iconst 3, 1) := by decide +kernel
theorem dL_law_462 : decode cL_law 462 = .ok (.iadd, 1) := by decide +kernel
theorem dL_law_463 : decode cL_law 463 = .ok (.iaload, 1) := by decide +kernel
theorem dL_law_464 : decode cL_law 464 = .ok (.aload_n 0, 1) := by decide +kernel
theorem dL_law_465 : decode cL_law 465 = .ok (.iload 4, 2) := by decide +kernel
theorem dL_law_467 : decode cL_law 467 = .ok (.iconst 4, 1) := by decide +kernel
theorem dL_law_468 : decode cL_law 468 = .ok (.iadd, 1) := by decide +kernel
theorem dL_law_469 : decode cL_law 469 = .ok (.iaload, 1) := by decide +kernel
theorem dL_law_470 : decode cL_law 470 = .ok (.aload_n 0, 1) := by decide +kernel
theorem dL_law_471 : decode cL_law 471 = .ok (.iload 4, 2) := by decide +kernel
theorem dL_law_473 : decode cL_law 473 = .ok (.iconst 5, 1) := by decide +kernel
theorem dL_law_474 : decode cL_law 474 = .ok (.iadd, 1) := by decide +kernel
theorem dL_law_475 : decode cL_law 475 = .ok (.iaload, 1) := by decide +kernel
theorem dL_law_476 : decode cL_law 476 = .ok (.invokevirtual 118, 3) := by decide +kernel
theorem dL_law_479 : decode cL_law 479 = .ok (.istore 6, 2) := by decide +kernel
theorem dL_law_481 : decode cL_law 481 = .ok (.aload_n 2, 1) := by decide +kernel
theorem dL_law_482 : decode cL_law 482 = .ok (.invokevirtual 101, 3) := by decide +kernel
theorem dL_law_485 : decode cL_law 485 = .ok (.iload 5, 2) := by decide +kernel
theorem dL_law_487 : decode cL_law 487 = .ok (.if_icmp .eq 5, 3) := by decide +kernel
theorem dL_law_490 : decode cL_law 490 = .ok (.iconst 0, 1) := by decide +kernel
theorem dL_law_491 : decode cL_law 491 = .ok (.ireturn, 1) := by decide +kernel
theorem dL_law_492 : decode cL_law 492 = .ok (.iload 5, 2) := by decide +kernel
theorem dL_law_494 : decode cL_law 494 = .ok (.ifCond .ne 15, 3) := by decide +kernel
theorem dL_law_497 : decode cL_law 497 = .ok (.aload_n 3, 1) := by decide +kernel
theorem dL_law_498 : decode cL_law 498 = .ok (.iconst 0, 1) := by decide +kernel
theorem dL_law_499 : decode cL_law 499 = .ok (.laload, 1) := by decide +kernel
theorem dL_law_500 : decode cL_law 500 = .ok (.iload 6, 2) := by decide +kernel
theorem dL_law_502 : decode cL_law 502 = .ok (.i2l, 1) := by decide +kernel
theorem dL_law_503 : decode cL_law 503 = .ok (.lcmp, 1) := by decide +kernel
theorem dL_law_504 : decode cL_law 504 = .ok (.ifCond .eq 5, 3) := by decide +kernel
theorem dL_law_507 : decode cL_law 507 = .ok (.iconst 0, 1) := by decide +kernel
theorem dL_law_508 : decode cL_law 508 = .ok (.ireturn, 1) := by decide +kernel
theorem dL_law_509 : decode cL_law 509 = .ok (.goto 1290, 3) := by decide +kernel
theorem dL_law_512 : decode cL_law 512 = .ok (.aload_n 1, 1) := by decide +kernel
theorem dL_law_513 : decode cL_law 513 = .ok (.aload_n 0, 1) := by decide +kernel
theorem dL_law_514 : decode cL_law 514 = .ok (.iload 4, 2) := by decide +kernel
theorem dL_law_516 : decode cL_law 516 = .ok (.iconst 1, 1) := by decide +kernel
theorem dL_law_517 : decode cL_law 517 = .ok (.iadd, 1) := by decide +kernel
theorem dL_law_518 : decode cL_law 518 = .ok (.iaload, 1) := by decide +kernel
theorem dL_law_519 : decode cL_law 519 = .ok (.aload_n 3, 1) := by decide +kernel
theorem dL_law_520 : decode cL_law 520 = .ok (.invokestatic 119, 3) := by decide +kernel
theorem dL_law_523 : decode cL_law 523 = .ok (.istore 5, 2) := by decide +kernel
theorem dL_law_525 : decode cL_law 525 = .ok (.aload_n 2, 1) := by decide +kernel
theorem dL_law_526 : decode cL_law 526 = .ok (.aload_n 0, 1) := by decide +kernel
theorem dL_law_527 : decode cL_law 527 = .ok (.iload 4, 2) := by decide +kernel
theorem dL_law_529 : decode cL_law 529 = .ok (.iconst 1, 1) := by decide +kernel
theorem dL_law_530 : decode cL_law 530 = .ok (.iadd, 1) := by decide +kernel
theorem dL_law_531 : decode cL_law 531 = .ok (.iaload, 1) := by decide +kernel
theorem dL_law_532 : decode cL_law 532 = .ok (.invokevirtual 121, 3) := by decide +kernel
theorem dL_law_535 : decode cL_law 535 = .ok (.istore 6, 2) := by decide +kernel
theorem dL_law_537 : decode cL_law 537 = .ok (.aload_n 2, 1) := by decide +kernel
theorem dL_law_538 : decode cL_law 538 = .ok (.invokevirtual 101, 3) := by decide +kernel
theorem dL_law_541 : decode cL_law 541 = .ok (.iload 5, 2) := by decide +kernel
theorem dL_law_543 : decode cL_law 543 = .ok (.if_icmp .eq 5, 3) := by decide +kernel
theorem dL_law_546 : decode cL_law 546 = .ok (.iconst 0, 1) := by decide +kernel
theorem dL_law_547 : decode cL_law 547 = .ok (.ireturn, 1) := by decide +kernel
theorem dL_law_548 : decode cL_law 548 = .ok (.iload 5, 2) := by decide +kernel
theorem dL_law_550 : decode cL_law 550 = .ok (.ifCond .ne 15, 3) := by decide +kernel
theorem dL_law_553 : decode cL_law 553 = .ok (.aload_n 3, 1) := by decide +kernel
theorem dL_law_554 : decode cL_law 554 = .ok (.iconst 0, 1) := by decide +kernel
theorem dL_law_555 : decode cL_law 555 = .ok (.laload, 1) := by decide +kernel
theorem dL_law_556 : decode cL_law 556 = .ok (.iload 6, 2) := by decide +kernel
theorem dL_law_558 : decode cL_law 558 = .ok (.i2l, 1) := by decide +kernel
theorem dL_law_559 : decode cL_law 559 = .ok (.lcmp, 1) := by decide +kernel
theorem dL_law_560 : decode cL_law 560 = .ok (.ifCond .eq 5, 3) := by decide +kernel
theorem dL_law_563 : decode cL_law 563 = .ok (.iconst 0, 1) := by decide +kernel
theorem dL_law_564 : decode cL_law 564 = .ok (.ireturn, 1) := by decide +kernel
theorem dL_law_565 : decode cL_law 565 = .ok (.goto 1234, 3) := by decide +kernel
theorem dL_law_568 : decode cL_law 568 = .ok (.aload_n 1, 1) := by decide +kernel
theorem dL_law_569 : decode cL_law 569 = .ok (.aload_n 0, 1) := by decide +kernel
theorem dL_law_570 : decode cL_law 570 = .ok (.iload 4, 2) := by decide +kernel
theorem dL_law_572 : decode cL_law 572 = .ok (.iconst 1, 1) := by decide +kernel
theorem dL_law_573 : decode cL_law 573 = .ok (.iadd, 1) := by decide +kernel
theorem dL_law_574 : decode cL_law 574 = .ok (.iaload, 1) := by decide +kernel
theorem dL_law_575 : decode cL_law 575 = .ok (.aload_n 0, 1) := by decide +kernel
theorem dL_law_576 : decode cL_law 576 = .ok (.iload 4, 2) := by decide +kernel
theorem dL_law_578 : decode cL_law 578 = .ok (.iconst 2, 1) := by decide +kernel
theorem dL_law_579 : decode cL_law 579 = .ok (.iadd, 1) := by decide +kernel
theorem dL_law_580 : decode cL_law 580 = .ok (.iaload, 1) := by decide +kernel
theorem dL_law_581 : decode cL_law 581 = .ok (.aload_n 0, 1) := by decide +kernel
theorem dL_law_582 : decode cL_law 582 = .ok (.iload 4, 2) := by decide +kernel
theorem dL_law_584 : decode cL_law 584 = .ok (.iconst 3, 1) := by decide +kernel
theorem dL_law_585 : decode cL_law 585 = .ok (.iadd, 1) := by decide +kernel
theorem dL_law_586 : decode cL_law 586 = .ok (.iaload, 1) := by decide +kernel
theorem dL_law_587 : decode cL_law 587 = .ok (.aload_n 3, 1) := by decide +kernel
theorem dL_law_588 : decode cL_law 588 = .ok (.invokestatic 122, 3) := by decide +kernel
theorem dL_law_591 : decode cL_law 591 = .ok (.istore 5, 2) := by decide +kernel
theorem dL_law_593 : decode cL_law 593 = .ok (.aload_n 2, 1) := by decide +kernel
theorem dL_law_594 : decode cL_law 594 = .ok (.aload_n 0, 1) := by decide +kernel
theorem dL_law_595 : decode cL_law 595 = .ok (.iload 4, 2) := by decide +kernel
theorem dL_law_597 : decode cL_law 597 = .ok (.iconst 1, 1) := by decide +kernel
theorem dL_law_598 : decode cL_law 598 = .ok (.iadd, 1) := by decide +kernel
theorem dL_law_599 : decode cL_law 599 = .ok (.iaload, 1) := by decide +kernel
theorem dL_law_600 : decode cL_law 600 = .ok (.aload_n 0, 1) := by decide +kernel
theorem dL_law_601 : decode cL_law 601 = .ok (.iload 4, 2) := by decide +kernel
theorem dL_law_603 : decode cL_law 603 = .ok (.iconst 2, 1) := by decide +kernel
theorem dL_law_604 : decode cL_law 604 = .ok (.iadd, 1) := by decide +kernel
theorem dL_law_605 : decode cL_law 605 = .ok (.iaload, 1) := by decide +kernel
theorem dL_law_606 : decode cL_law 606 = .ok (.aload_n 0, 1) := by decide +kernel
theorem dL_law_607 : decode cL_law 607 = .ok (.iload 4, 2) := by decide +kernel
theorem dL_law_609 : decode cL_law 609 = .ok (.iconst 3, 1) := by decide +kernel
theorem dL_law_610 : decode cL_law 610 = .ok (.iadd, 1) := by decide +kernel
theorem dL_law_611 : decode cL_law 611 = .ok (.iaload, 1) := by decide +kernel
theorem dL_law_612 : decode cL_law 612 = .ok (.invokevirtual 124, 3) := by decide +kernel
theorem dL_law_615 : decode cL_law 615 = .ok (.istore 6, 2) := by decide +kernel
theorem dL_law_617 : decode cL_law 617 = .ok (.aload_n 2, 1) := by decide +kernel
theorem dL_law_618 : decode cL_law 618 = .ok (.invokevirtual 101, 3) := by decide +kernel
theorem dL_law_621 : decode cL_law 621 = .ok (.iload 5, 2) := by decide +kernel
theorem dL_law_623 : decode cL_law 623 = .ok (.if_icmp .eq 5, 3) := by decide +kernel
theorem dL_law_626 : decode cL_law 626 = .ok (.iconst 0, 1) := by decide +kernel
theorem dL_law_627 : decode cL_law 627 = .ok (.ireturn, 1) := by decide +kernel
theorem dL_law_628 : decode cL_law 628 = .ok (.iload 5, 2) := by decide +kernel
theorem dL_law_630 : decode cL_law 630 = .ok (.ifCond .ne 15, 3) := by decide +kernel
theorem dL_law_633 : decode cL_law 633 = .ok (.aload_n 3, 1) := by decide +kernel
theorem dL_law_634 : decode cL_law 634 = .ok (.iconst 0, 1) := by decide +kernel
theorem dL_law_635 : decode cL_law 635 = .ok (.laload, 1) := by decide +kernel
theorem dL_law_636 : decode cL_law 636 = .ok (.iload 6, 2) := by decide +kernel
theorem dL_law_638 : decode cL_law 638 = .ok (.i2l, 1) := by decide +kernel
theorem dL_law_639 : decode cL_law 639 = .ok (.lcmp, 1) := by decide +kernel
theorem dL_law_640 : decode cL_law 640 = .ok (.ifCond .eq 5, 3) := by decide +kernel
theorem dL_law_643 : decode cL_law 643 = .ok (.iconst 0, 1) := by decide +kernel
theorem dL_law_644 : decode cL_law 644 = .ok (.ireturn, 1) := by decide +kernel
theorem dL_law_645 : decode cL_law 645 = .ok (.goto 1154, 3) := by decide +kernel
theorem dL_law_648 : decode cL_law 648 = .ok (.aload_n 1, 1) := by decide +kernel
theorem dL_law_649 : decode cL_law 649 = .ok (.aload_n 0, 1) := by decide +kernel
theorem dL_law_650 : decode cL_law 650 = .ok (.iload 4, 2) := by decide +kernel
theorem dL_law_652 : decode cL_law 652 = .ok (.iconst 1, 1) := by decide +kernel
theorem dL_law_653 : decode cL_law 653 = .ok (.iadd, 1) := by decide +kernel
theorem dL_law_654 : decode cL_law 654 = .ok (.iaload, 1) := by decide +kernel
theorem dL_law_655 : decode cL_law 655 = .ok (.aload_n 3, 1) := by decide +kernel
theorem dL_law_656 : decode cL_law 656 = .ok (.invokestatic 125, 3) := by decide +kernel
theorem dL_law_659 : decode cL_law 659 = .ok (.istore 5, 2) := by decide +kernel
theorem dL_law_661 : decode cL_law 661 = .ok (.aload_n 2, 1) := by decide +kernel
theorem dL_law_662 : decode cL_law 662 = .ok (.aload_n 0, 1) := by decide +kernel
theorem dL_law_663 : decode cL_law 663 = .ok (.iload 4, 2) := by decide +kernel
theorem dL_law_665 : decode cL_law 665 = .ok (.iconst 1, 1) := by decide +kernel
theorem dL_law_666 : decode cL_law 666 = .ok (.iadd, 1) := by decide +kernel
theorem dL_law_667 : decode cL_law 667 = .ok (.iaload, 1) := by decide +kernel
theorem dL_law_668 : decode cL_law 668 = .ok (.invokevirtual 127, 3) := by decide +kernel
theorem dL_law_671 : decode cL_law 671 = .ok (.istore 6, 2) := by decide +kernel
theorem dL_law_673 : decode cL_law 673 = .ok (.aload_n 2, 1) := by decide +kernel
theorem dL_law_674 : decode cL_law 674 = .ok (.invokevirtual 101, 3) := by decide +kernel
theorem dL_law_677 : decode cL_law 677 = .ok (.iload 5, 2) := by decide +kernel
theorem dL_law_679 : decode cL_law 679 = .ok (.if_icmp .eq 5, 3) := by decide +kernel
theorem dL_law_682 : decode cL_law 682 = .ok (.iconst 0, 1) := by decide +kernel
theorem dL_law_683 : decode cL_law 683 = .ok (.ireturn, 1) := by decide +kernel
theorem dL_law_684 : decode cL_law 684 = .ok (.iload 5, 2) := by decide +kernel
theorem dL_law_686 : decode cL_law 686 = .ok (.ifCond .ne 15, 3) := by decide +kernel
theorem dL_law_689 : decode cL_law 689 = .ok (.aload_n 3, 1) := by decide +kernel
theorem dL_law_690 : decode cL_law 690 = .ok (.iconst 0, 1) := by decide +kernel
theorem dL_law_691 : decode cL_law 691 = .ok (.laload, 1) := by decide +kernel
theorem dL_law_692 : decode cL_law 692 = .ok (.iload 6, 2) := by decide +kernel
theorem dL_law_694 : decode cL_law 694 = .ok (.i2l, 1) := by decide +kernel
theorem dL_law_695 : decode cL_law 695 = .ok (.lcmp, 1) := by decide +kernel
theorem dL_law_696 : decode cL_law 696 = .ok (.ifCond .eq 5, 3) := by decide +kernel
theorem dL_law_699 : decode cL_law 699 = .ok (.iconst 0, 1) := by decide +kernel
theorem dL_law_700 : decode cL_law 700 = .ok (.ireturn, 1) := by decide +kernel
theorem dL_law_701 : decode cL_law 701 = .ok (.goto 1098, 3) := by decide +kernel
theorem dL_law_704 : decode cL_law 704 = .ok (.aload_n 1, 1) := by decide +kernel
theorem dL_law_705 : decode cL_law 705 = .ok (.aload_n 0, 1) := by decide +kernel
theorem dL_law_706 : decode cL_law 706 = .ok (.iload 4, 2) := by decide +kernel
theorem dL_law_708 : decode cL_law 708 = .ok (.iconst 1, 1) := by decide +kernel
theorem dL_law_709 : decode cL_law 709 = .ok (.iadd, 1) := by decide +kernel
theorem dL_law_710 : decode cL_law 710 = .ok (.iaload, 1) := by decide +kernel
theorem dL_law_711 : decode cL_law 711 = .ok (.aload_n 0, 1) := by decide +kernel
theorem dL_law_712 : decode cL_law 712 = .ok (.iload 4, 2) := by decide +kernel
theorem dL_law_714 : decode cL_law 714 = .ok (.iconst 2, 1) := by decide +kernel
theorem dL_law_715 : decode cL_law 715 = .ok (.iadd, 1) := by decide +kernel
theorem dL_law_716 : decode cL_law 716 = .ok (.iaload, 1) := by decide +kernel
theorem dL_law_717 : decode cL_law 717 = .ok (.aload_n 3, 1) := by decide +kernel
theorem dL_law_718 : decode cL_law 718 = .ok (.invokestatic 128, 3) := by decide +kernel
theorem dL_law_721 : decode cL_law 721 = .ok (.istore 5, 2) := by decide +kernel
theorem dL_law_723 : decode cL_law 723 = .ok (.aload_n 2, 1) := by decide +kernel
theorem dL_law_724 : decode cL_law 724 = .ok (.aload_n 0, 1) := by decide +kernel
theorem dL_law_725 : decode cL_law 725 = .ok (.iload 4, 2) := by decide +kernel
theorem dL_law_727 : decode cL_law 727 = .ok (.iconst 1, 1) := by decide +kernel
theorem dL_law_728 : decode cL_law 728 = .ok (.iadd, 1) := by decide +kernel
theorem dL_law_729 : decode cL_law 729 = .ok (.iaload, 1) := by decide +kernel
theorem dL_law_730 : decode cL_law 730 = .ok (.aload_n 0, 1) := by decide +kernel
theorem dL_law_731 : decode cL_law 731 = .ok (.iload 4, 2) := by decide +kernel
theorem dL_law_733 : decode cL_law 733 = .ok (.iconst 2, 1) := by decide +kernel
theorem dL_law_734 : decode cL_law 734 = .ok (.iadd, 1) := by decide +kernel
theorem dL_law_735 : decode cL_law 735 = .ok (.iaload, 1) := by decide +kernel
theorem dL_law_736 : decode cL_law 736 = .ok (.invokevirtual 131, 3) := by decide +kernel
theorem dL_law_739 : decode cL_law 739 = .ok (.istore 6, 2) := by decide +kernel
theorem dL_law_741 : decode cL_law 741 = .ok (.aload_n 2, 1) := by decide +kernel
theorem dL_law_742 : decode cL_law 742 = .ok (.invokevirtual 101, 3) := by decide +kernel
theorem dL_law_745 : decode cL_law 745 = .ok (.iload 5, 2) := by decide +kernel
theorem dL_law_747 : decode cL_law 747 = .ok (.if_icmp .eq 5, 3) := by decide +kernel
theorem dL_law_750 : decode cL_law 750 = .ok (.iconst 0, 1) := by decide +kernel
theorem dL_law_751 : decode cL_law 751 = .ok (.ireturn, 1) := by decide +kernel
theorem dL_law_752 : decode cL_law 752 = .ok (.iload 5, 2) := by decide +kernel
theorem dL_law_754 : decode cL_law 754 = .ok (.ifCond .ne 15, 3) := by decide +kernel
theorem dL_law_757 : decode cL_law 757 = .ok (.aload_n 3, 1) := by decide +kernel
theorem dL_law_758 : decode cL_law 758 = .ok (.iconst 0, 1) := by decide +kernel
theorem dL_law_759 : decode cL_law 759 = .ok (.laload, 1) := by decide +kernel
theorem dL_law_760 : decode cL_law 760 = .ok (.iload 6, 2) := by decide +kernel
theorem dL_law_762 : decode cL_law 762 = .ok (.i2l, 1) := by decide +kernel
theorem dL_law_763 : decode cL_law 763 = .ok (.lcmp, 1) := by decide +kernel
theorem dL_law_764 : decode cL_law 764 = .ok (.ifCond .eq 5, 3) := by decide +kernel
theorem dL_law_767 : decode cL_law 767 = .ok (.iconst 0, 1) := by decide +kernel
theorem dL_law_768 : decode cL_law 768 = .ok (.ireturn, 1) := by decide +kernel
theorem dL_law_769 : decode cL_law 769 = .ok (.goto 1030, 3) := by decide +kernel
theorem dL_law_772 : decode cL_law 772 = .ok (.aload_n 1, 1) := by decide +kernel
theorem dL_law_773 : decode cL_law 773 = .ok (.aload_n 0, 1) := by decide +kernel
theorem dL_law_774 : decode cL_law 774 = .ok (.iload 4, 2) := by decide +kernel
theorem dL_law_776 : decode cL_law 776 = .ok (.iconst 1, 1) := by decide +kernel
theorem dL_law_777 : decode cL_law 777 = .ok (.iadd, 1) := by decide +kernel
theorem dL_law_778 : decode cL_law 778 = .ok (.iaload, 1) := by decide +kernel
theorem dL_law_779 : decode cL_law 779 = .ok (.aload_n 3, 1) := by decide +kernel
theorem dL_law_780 : decode cL_law 780 = .ok (.invokestatic 132, 3) := by decide +kernel
theorem dL_law_783 : decode cL_law 783 = .ok (.istore 5, 2) := by decide +kernel
theorem dL_law_785 : decode cL_law 785 = .ok (.aload_n 2, 1) := by decide +kernel
theorem dL_law_786 : decode cL_law 786 = .ok (.aload_n 0, 1) := by decide +kernel
theorem dL_law_787 : decode cL_law 787 = .ok (.iload 4, 2) := by decide +kernel
theorem dL_law_789 : decode cL_law 789 = .ok (.iconst 1, 1) := by decide +kernel
theorem dL_law_790 : decode cL_law 790 = .ok (.iadd, 1) := by decide +kernel
theorem dL_law_791 : decode cL_law 791 = .ok (.iaload, 1) := by decide +kernel
theorem dL_law_792 : decode cL_law 792 = .ok (.invokevirtual 134, 3) := by decide +kernel
theorem dL_law_795 : decode cL_law 795 = .ok (.istore 6, 2) := by decide +kernel
theorem dL_law_797 : decode cL_law 797 = .ok (.aload_n 2, 1) := by decide +kernel
theorem dL_law_798 : decode cL_law 798 = .ok (.invokevirtual 101, 3) := by decide +kernel
theorem dL_law_801 : decode cL_law 801 = .ok (.iload 5, 2) := by decide +kernel
theorem dL_law_803 : decode cL_law 803 = .ok (.if_icmp .eq 5, 3) := by decide +kernel
theorem dL_law_806 : decode cL_law 806 = .ok (.iconst 0, 1) := by decide +kernel
theorem dL_law_807 : decode cL_law 807 = .ok (.ireturn, 1) := by decide +kernel
theorem dL_law_808 : decode cL_law 808 = .ok (.iload 5, 2) := by decide +kernel
theorem dL_law_810 : decode cL_law 810 = .ok (.ifCond .ne 15, 3) := by decide +kernel
theorem dL_law_813 : decode cL_law 813 = .ok (.aload_n 3, 1) := by decide +kernel
theorem dL_law_814 : decode cL_law 814 = .ok (.iconst 0, 1) := by decide +kernel
theorem dL_law_815 : decode cL_law 815 = .ok (.laload, 1) := by decide +kernel
theorem dL_law_816 : decode cL_law 816 = .ok (.iload 6, 2) := by decide +kernel
theorem dL_law_818 : decode cL_law 818 = .ok (.i2l, 1) := by decide +kernel
theorem dL_law_819 : decode cL_law 819 = .ok (.lcmp, 1) := by decide +kernel
theorem dL_law_820 : decode cL_law 820 = .ok (.ifCond .eq 5, 3) := by decide +kernel
theorem dL_law_823 : decode cL_law 823 = .ok (.iconst 0, 1) := by decide +kernel
theorem dL_law_824 : decode cL_law 824 = .ok (.ireturn, 1) := by decide +kernel
theorem dL_law_825 : decode cL_law 825 = .ok (.goto 974, 3) := by decide +kernel
theorem dL_law_828 : decode cL_law 828 = .ok (.aload_n 1, 1) := by decide +kernel
theorem dL_law_829 : decode cL_law 829 = .ok (.aload_n 0, 1) := by decide +kernel
theorem dL_law_830 : decode cL_law 830 = .ok (.iload 4, 2) := by decide +kernel
theorem dL_law_832 : decode cL_law 832 = .ok (.iconst 1, 1) := by decide +kernel
theorem dL_law_833 : decode cL_law 833 = .ok (.iadd, 1) := by decide +kernel
theorem dL_law_834 : decode cL_law 834 = .ok (.iaload, 1) := by decide +kernel
theorem dL_law_835 : decode cL_law 835 = .ok (.aload_n 0, 1) := by decide +kernel
theorem dL_law_836 : decode cL_law 836 = .ok (.iload 4, 2) := by decide +kernel
theorem dL_law_838 : decode cL_law 838 = .ok (.iconst 2, 1) := by decide +kernel
theorem dL_law_839 : decode cL_law 839 = .ok (.iadd, 1) := by decide +kernel
theorem dL_law_840 : decode cL_law 840 = .ok (.iaload, 1) := by decide +kernel
theorem dL_law_841 : decode cL_law 841 = .ok (.aload_n 3, 1) := by decide +kernel
theorem dL_law_842 : decode cL_law 842 = .ok (.invokestatic 135, 3) := by decide +kernel
theorem dL_law_845 : decode cL_law 845 = .ok (.istore 5, 2) := by decide +kernel
theorem dL_law_847 : decode cL_law 847 = .ok (.aload_n 2, 1) := by decide +kernel
theorem dL_law_848 : decode cL_law 848 = .ok (.aload_n 0, 1) := by decide +kernel
theorem dL_law_849 : decode cL_law 849 = .ok (.iload 4, 2) := by decide +kernel
theorem dL_law_851 : decode cL_law 851 = .ok (.iconst 1, 1) := by decide +kernel
theorem dL_law_852 : decode cL_law 852 = .ok (.iadd, 1) := by decide +kernel
theorem dL_law_853 : decode cL_law 853 = .ok (.iaload, 1) := by decide +kernel
theorem dL_law_854 : decode cL_law 854 = .ok (.aload_n 0, 1) := by decide +kernel
theorem dL_law_855 : decode cL_law 855 = .ok (.iload 4, 2) := by decide +kernel
theorem dL_law_857 : decode cL_law 857 = .ok (.iconst 2, 1) := by decide +kernel
theorem dL_law_858 : decode cL_law 858 = .ok (.iadd, 1) := by decide +kernel
theorem dL_law_859 : decode cL_law 859 = .ok (.iaload, 1) := by decide +kernel
theorem dL_law_860 : decode cL_law 860 = .ok (.invokevirtual 137, 3) := by decide +kernel
theorem dL_law_863 : decode cL_law 863 = .ok (.istore 6, 2) := by decide +kernel
theorem dL_law_865 : decode cL_law 865 = .ok (.aload_n 2, 1) := by decide +kernel
theorem dL_law_866 : decode cL_law 866 = .ok (.invokevirtual 101, 3) := by decide +kernel
theorem dL_law_869 : decode cL_law 869 = .ok (.iload 5, 2) := by decide +kernel
theorem dL_law_871 : decode cL_law 871 = .ok (.if_icmp .eq 5, 3) := by decide +kernel
theorem dL_law_874 : decode cL_law 874 = .ok (.iconst 0, 1) := by decide +kernel
theorem dL_law_875 : decode cL_law 875 = .ok (.ireturn, 1) := by decide +kernel
theorem dL_law_876 : decode cL_law 876 = .ok (.iload 5, 2) := by decide +kernel
theorem dL_law_878 : decode cL_law 878 = .ok (.ifCond .ne 15, 3) := by decide +kernel
theorem dL_law_881 : decode cL_law 881 = .ok (.aload_n 3, 1) := by decide +kernel
theorem dL_law_882 : decode cL_law 882 = .ok (.iconst 0, 1) := by decide +kernel
theorem dL_law_883 : decode cL_law 883 = .ok (.laload, 1) := by decide +kernel
theorem dL_law_884 : decode cL_law 884 = .ok (.iload 6, 2) := by decide +kernel
theorem dL_law_886 : decode cL_law 886 = .ok (.i2l, 1) := by decide +kernel
theorem dL_law_887 : decode cL_law 887 = .ok (.lcmp, 1) := by decide +kernel
theorem dL_law_888 : decode cL_law 888 = .ok (.ifCond .eq 5, 3) := by decide +kernel
theorem dL_law_891 : decode cL_law 891 = .ok (.iconst 0, 1) := by decide +kernel
theorem dL_law_892 : decode cL_law 892 = .ok (.ireturn, 1) := by decide +kernel
theorem dL_law_893 : decode cL_law 893 = .ok (.goto 906, 3) := by decide +kernel
theorem dL_law_896 : decode cL_law 896 = .ok (.aload_n 1, 1) := by decide +kernel
theorem dL_law_897 : decode cL_law 897 = .ok (.aload_n 0, 1) := by decide +kernel
theorem dL_law_898 : decode cL_law 898 = .ok (.iload 4, 2) := by decide +kernel
theorem dL_law_900 : decode cL_law 900 = .ok (.iconst 1, 1) := by decide +kernel
theorem dL_law_901 : decode cL_law 901 = .ok (.iadd, 1) := by decide +kernel
theorem dL_law_902 : decode cL_law 902 = .ok (.iaload, 1) := by decide +kernel
theorem dL_law_903 : decode cL_law 903 = .ok (.aload_n 3, 1) := by decide +kernel
theorem dL_law_904 : decode cL_law 904 = .ok (.invokestatic 138, 3) := by decide +kernel
theorem dL_law_907 : decode cL_law 907 = .ok (.istore 5, 2) := by decide +kernel
theorem dL_law_909 : decode cL_law 909 = .ok (.aload_n 2, 1) := by decide +kernel
theorem dL_law_910 : decode cL_law 910 = .ok (.aload_n 0, 1) := by decide +kernel
theorem dL_law_911 : decode cL_law 911 = .ok (.iload 4, 2) := by decide +kernel
theorem dL_law_913 : decode cL_law 913 = .ok (.iconst 1, 1) := by decide +kernel
theorem dL_law_914 : decode cL_law 914 = .ok (.iadd, 1) := by decide +kernel
theorem dL_law_915 : decode cL_law 915 = .ok (.iaload, 1) := by decide +kernel
theorem dL_law_916 : decode cL_law 916 = .ok (.invokevirtual 140, 3) := by decide +kernel
theorem dL_law_919 : decode cL_law 919 = .ok (.istore 6, 2) := by decide +kernel
theorem dL_law_921 : decode cL_law 921 = .ok (.aload_n 2, 1) := by decide +kernel
theorem dL_law_922 : decode cL_law 922 = .ok (.invokevirtual 101, 3) := by decide +kernel
theorem dL_law_925 : decode cL_law 925 = .ok (.iload 5, 2) := by decide +kernel
theorem dL_law_927 : decode cL_law 927 = .ok (.if_icmp .eq 5, 3) := by decide +kernel
theorem dL_law_930 : decode cL_law 930 = .ok (.iconst 0, 1) := by decide +kernel
theorem dL_law_931 : decode cL_law 931 = .ok (.ireturn, 1) := by decide +kernel
theorem dL_law_932 : decode cL_law 932 = .ok (.iload 5, 2) := by decide +kernel
theorem dL_law_934 : decode cL_law 934 = .ok (.ifCond .ne 15, 3) := by decide +kernel
theorem dL_law_937 : decode cL_law 937 = .ok (.aload_n 3, 1) := by decide +kernel
theorem dL_law_938 : decode cL_law 938 = .ok (.iconst 0, 1) := by decide +kernel
theorem dL_law_939 : decode cL_law 939 = .ok (.laload, 1) := by decide +kernel
theorem dL_law_940 : decode cL_law 940 = .ok (.iload 6, 2) := by decide +kernel
theorem dL_law_942 : decode cL_law 942 = .ok (.i2l, 1) := by decide +kernel
theorem dL_law_943 : decode cL_law 943 = .ok (.lcmp, 1) := by decide +kernel
theorem dL_law_944 : decode cL_law 944 = .ok (.ifCond .eq 5, 3) := by decide +kernel
theorem dL_law_947 : decode cL_law 947 = .ok (.iconst 0, 1) := by decide +kernel
theorem dL_law_948 : decode cL_law 948 = .ok (.ireturn, 1) := by decide +kernel
theorem dL_law_949 : decode cL_law 949 = .ok (.goto 850, 3) := by decide +kernel
theorem dL_law_952 : decode cL_law 952 = .ok (.aload_n 1, 1) := by decide +kernel
theorem dL_law_953 : decode cL_law 953 = .ok (.aload_n 0, 1) := by decide +kernel
theorem dL_law_954 : decode cL_law 954 = .ok (.iload 4, 2) := by decide +kernel
theorem dL_law_956 : decode cL_law 956 = .ok (.iconst 1, 1) := by decide +kernel
theorem dL_law_957 : decode cL_law 957 = .ok (.iadd, 1) := by decide +kernel
theorem dL_law_958 : decode cL_law 958 = .ok (.iaload, 1) := by decide +kernel
theorem dL_law_959 : decode cL_law 959 = .ok (.aload_n 0, 1) := by decide +kernel
theorem dL_law_960 : decode cL_law 960 = .ok (.iload 4, 2) := by decide +kernel
theorem dL_law_962 : decode cL_law 962 = .ok (.iconst 2, 1) := by decide +kernel
theorem dL_law_963 : decode cL_law 963 = .ok (.iadd, 1) := by decide +kernel
theorem dL_law_964 : decode cL_law 964 = .ok (.iaload, 1) := by decide +kernel
theorem dL_law_965 : decode cL_law 965 = .ok (.aload_n 3, 1) := by decide +kernel
theorem dL_law_966 : decode cL_law 966 = .ok (.invokestatic 141, 3) := by decide +kernel
theorem dL_law_969 : decode cL_law 969 = .ok (.istore 5, 2) := by decide +kernel
theorem dL_law_971 : decode cL_law 971 = .ok (.aload_n 2, 1) := by decide +kernel
theorem dL_law_972 : decode cL_law 972 = .ok (.aload_n 0, 1) := by decide +kernel
theorem dL_law_973 : decode cL_law 973 = .ok (.iload 4, 2) := by decide +kernel
theorem dL_law_975 : decode cL_law 975 = .ok (.iconst 1, 1) := by decide +kernel
theorem dL_law_976 : decode cL_law 976 = .ok (.iadd, 1) := by decide +kernel
theorem dL_law_977 : decode cL_law 977 = .ok (.iaload, 1) := by decide +kernel
theorem dL_law_978 : decode cL_law 978 = .ok (.aload_n 0, 1) := by decide +kernel
theorem dL_law_979 : decode cL_law 979 = .ok (.iload 4, 2) := by decide +kernel
theorem dL_law_981 : decode cL_law 981 = .ok (.iconst 2, 1) := by decide +kernel
theorem dL_law_982 : decode cL_law 982 = .ok (.iadd, 1) := by decide +kernel
theorem dL_law_983 : decode cL_law 983 = .ok (.iaload, 1) := by decide +kernel
theorem dL_law_984 : decode cL_law 984 = .ok (.invokevirtual 143, 3) := by decide +kernel
theorem dL_law_987 : decode cL_law 987 = .ok (.istore 6, 2) := by decide +kernel
theorem dL_law_989 : decode cL_law 989 = .ok (.aload_n 2, 1) := by decide +kernel
theorem dL_law_990 : decode cL_law 990 = .ok (.invokevirtual 101, 3) := by decide +kernel
theorem dL_law_993 : decode cL_law 993 = .ok (.iload 5, 2) := by decide +kernel
theorem dL_law_995 : decode cL_law 995 = .ok (.if_icmp .eq 5, 3) := by decide +kernel
theorem dL_law_998 : decode cL_law 998 = .ok (.iconst 0, 1) := by decide +kernel
theorem dL_law_999 : decode cL_law 999 = .ok (.ireturn, 1) := by decide +kernel
theorem dL_law_1000 : decode cL_law 1000 = .ok (.iload 5, 2) := by decide +kernel
theorem dL_law_1002 : decode cL_law 1002 = .ok (.ifCond .ne 15, 3) := by decide +kernel
theorem dL_law_1005 : decode cL_law 1005 = .ok (.aload_n 3, 1) := by decide +kernel
theorem dL_law_1006 : decode cL_law 1006 = .ok (.iconst 0, 1) := by decide +kernel
theorem dL_law_1007 : decode cL_law 1007 = .ok (.laload, 1) := by decide +kernel
theorem dL_law_1008 : decode cL_law 1008 = .ok (.iload 6, 2) := by decide +kernel
theorem dL_law_1010 : decode cL_law 1010 = .ok (.i2l, 1) := by decide +kernel
theorem dL_law_1011 : decode cL_law 1011 = .ok (.lcmp, 1) := by decide +kernel
theorem dL_law_1012 : decode cL_law 1012 = .ok (.ifCond .eq 5, 3) := by decide +kernel
theorem dL_law_1015 : decode cL_law 1015 = .ok (.iconst 0, 1) := by decide +kernel
theorem dL_law_1016 : decode cL_law 1016 = .ok (.ireturn, 1) := by decide +kernel
theorem dL_law_1017 : decode cL_law 1017 = .ok (.goto 782, 3) := by decide +kernel
theorem dL_law_1020 : decode cL_law 1020 = .ok (.aload_n 1, 1) := by decide +kernel
theorem dL_law_1021 : decode cL_law 1021 = .ok (.aload_n 0, 1) := by decide +kernel
theorem dL_law_1022 : decode cL_law 1022 = .ok (.iload 4, 2) := by decide +kernel
theorem dL_law_1024 : decode cL_law 1024 = .ok (.iconst 1, 1) := by decide +kernel
theorem dL_law_1025 : decode cL_law 1025 = .ok (.iadd, 1) := by decide +kernel
theorem dL_law_1026 : decode cL_law 1026 = .ok (.iaload, 1) := by decide +kernel
theorem dL_law_1027 : decode cL_law 1027 = .ok (.aload_n 0, 1) := by decide +kernel
theorem dL_law_1028 : decode cL_law 1028 = .ok (.iload 4, 2) := by decide +kernel
theorem dL_law_1030 : decode cL_law 1030 = .ok (.iconst 2, 1) := by decide +kernel
theorem dL_law_1031 : decode cL_law 1031 = .ok (.iadd, 1) := by decide +kernel
theorem dL_law_1032 : decode cL_law 1032 = .ok (.iaload, 1) := by decide +kernel
theorem dL_law_1033 : decode cL_law 1033 = .ok (.aload_n 0, 1) := by decide +kernel
theorem dL_law_1034 : decode cL_law 1034 = .ok (.iload 4, 2) := by decide +kernel
theorem dL_law_1036 : decode cL_law 1036 = .ok (.iconst 3, 1) := by decide +kernel
theorem dL_law_1037 : decode cL_law 1037 = .ok (.iadd, 1) := by decide +kernel
theorem dL_law_1038 : decode cL_law 1038 = .ok (.iaload, 1) := by decide +kernel
theorem dL_law_1039 : decode cL_law 1039 = .ok (.aload_n 3, 1) := by decide +kernel
theorem dL_law_1040 : decode cL_law 1040 = .ok (.invokestatic 144, 3) := by decide +kernel
theorem dL_law_1043 : decode cL_law 1043 = .ok (.istore 5, 2) := by decide +kernel
theorem dL_law_1045 : decode cL_law 1045 = .ok (.aload_n 2, 1) := by decide +kernel
theorem dL_law_1046 : decode cL_law 1046 = .ok (.aload_n 0, 1) := by decide +kernel
theorem dL_law_1047 : decode cL_law 1047 = .ok (.iload 4, 2) := by decide +kernel
theorem dL_law_1049 : decode cL_law 1049 = .ok (.iconst 1, 1) := by decide +kernel
theorem dL_law_1050 : decode cL_law 1050 = .ok (.iadd, 1) := by decide +kernel
theorem dL_law_1051 : decode cL_law 1051 = .ok (.iaload, 1) := by decide +kernel
theorem dL_law_1052 : decode cL_law 1052 = .ok (.aload_n 0, 1) := by decide +kernel
theorem dL_law_1053 : decode cL_law 1053 = .ok (.iload 4, 2) := by decide +kernel
theorem dL_law_1055 : decode cL_law 1055 = .ok (.iconst 2, 1) := by decide +kernel
theorem dL_law_1056 : decode cL_law 1056 = .ok (.iadd, 1) := by decide +kernel
theorem dL_law_1057 : decode cL_law 1057 = .ok (.iaload, 1) := by decide +kernel
theorem dL_law_1058 : decode cL_law 1058 = .ok (.aload_n 0, 1) := by decide +kernel
theorem dL_law_1059 : decode cL_law 1059 = .ok (.iload 4, 2) := by decide +kernel
theorem dL_law_1061 : decode cL_law 1061 = .ok (.iconst 3, 1) := by decide +kernel
theorem dL_law_1062 : decode cL_law 1062 = .ok (.iadd, 1) := by decide +kernel
theorem dL_law_1063 : decode cL_law 1063 = .ok (.iaload, 1) := by decide +kernel
theorem dL_law_1064 : decode cL_law 1064 = .ok (.invokevirtual 146, 3) := by decide +kernel
theorem dL_law_1067 : decode cL_law 1067 = .ok (.istore 6, 2) := by decide +kernel
theorem dL_law_1069 : decode cL_law 1069 = .ok (.aload_n 2, 1) := by decide +kernel
theorem dL_law_1070 : decode cL_law 1070 = .ok (.invokevirtual 101, 3) := by decide +kernel
theorem dL_law_1073 : decode cL_law 1073 = .ok (.iload 5, 2) := by decide +kernel
theorem dL_law_1075 : decode cL_law 1075 = .ok (.if_icmp .eq 5, 3) := by decide +kernel
theorem dL_law_1078 : decode cL_law 1078 = .ok (.iconst 0, 1) := by decide +kernel
theorem dL_law_1079 : decode cL_law 1079 = .ok (.ireturn, 1) := by decide +kernel
theorem dL_law_1080 : decode cL_law 1080 = .ok (.iload 5, 2) := by decide +kernel
theorem dL_law_1082 : decode cL_law 1082 = .ok (.ifCond .ne 15, 3) := by decide +kernel
theorem dL_law_1085 : decode cL_law 1085 = .ok (.aload_n 3, 1) := by decide +kernel
theorem dL_law_1086 : decode cL_law 1086 = .ok (.iconst 0, 1) := by decide +kernel
theorem dL_law_1087 : decode cL_law 1087 = .ok (.laload, 1) := by decide +kernel
theorem dL_law_1088 : decode cL_law 1088 = .ok (.iload 6, 2) := by decide +kernel
theorem dL_law_1090 : decode cL_law 1090 = .ok (.i2l, 1) := by decide +kernel
theorem dL_law_1091 : decode cL_law 1091 = .ok (.lcmp, 1) := by decide +kernel
theorem dL_law_1092 : decode cL_law 1092 = .ok (.ifCond .eq 5, 3) := by decide +kernel
theorem dL_law_1095 : decode cL_law 1095 = .ok (.iconst 0, 1) := by decide +kernel
theorem dL_law_1096 : decode cL_law 1096 = .ok (.ireturn, 1) := by decide +kernel
theorem dL_law_1097 : decode cL_law 1097 = .ok (.goto 702, 3) := by decide +kernel
theorem dL_law_1100 : decode cL_law 1100 = .ok (.aload_n 1, 1) := by decide +kernel
theorem dL_law_1101 : decode cL_law 1101 = .ok (.aload_n 0, 1) := by decide +kernel
theorem dL_law_1102 : decode cL_law 1102 = .ok (.iload 4, 2) := by decide +kernel
theorem dL_law_1104 : decode cL_law 1104 = .ok (.iconst 1, 1) := by decide +kernel
theorem dL_law_1105 : decode cL_law 1105 = .ok (.iadd, 1) := by decide +kernel
theorem dL_law_1106 : decode cL_law 1106 = .ok (.iaload, 1) := by decide +kernel
theorem dL_law_1107 : decode cL_law 1107 = .ok (.aload_n 0, 1) := by decide +kernel
theorem dL_law_1108 : decode cL_law 1108 = .ok (.iload 4, 2) := by decide +kernel
theorem dL_law_1110 : decode cL_law 1110 = .ok (.iconst 2, 1) := by decide +kernel
theorem dL_law_1111 : decode cL_law 1111 = .ok (.iadd, 1) := by decide +kernel
theorem dL_law_1112 : decode cL_law 1112 = .ok (.iaload, 1) := by decide +kernel
theorem dL_law_1113 : decode cL_law 1113 = .ok (.aload_n 3, 1) := by decide +kernel
theorem dL_law_1114 : decode cL_law 1114 = .ok (.invokestatic 147, 3) := by decide +kernel
theorem dL_law_1117 : decode cL_law 1117 = .ok (.istore 5, 2) := by decide +kernel
theorem dL_law_1119 : decode cL_law 1119 = .ok (.aload_n 2, 1) := by decide +kernel
theorem dL_law_1120 : decode cL_law 1120 = .ok (.aload_n 0, 1) := by decide +kernel
theorem dL_law_1121 : decode cL_law 1121 = .ok (.iload 4, 2) := by decide +kernel
theorem dL_law_1123 : decode cL_law 1123 = .ok (.iconst 1, 1) := by decide +kernel
theorem dL_law_1124 : decode cL_law 1124 = .ok (.iadd, 1) := by decide +kernel
theorem dL_law_1125 : decode cL_law 1125 = .ok (.iaload, 1) := by decide +kernel
theorem dL_law_1126 : decode cL_law 1126 = .ok (.aload_n 0, 1) := by decide +kernel
theorem dL_law_1127 : decode cL_law 1127 = .ok (.iload 4, 2) := by decide +kernel
theorem dL_law_1129 : decode cL_law 1129 = .ok (.iconst 2, 1) := by decide +kernel
theorem dL_law_1130 : decode cL_law 1130 = .ok (.iadd, 1) := by decide +kernel
theorem dL_law_1131 : decode cL_law 1131 = .ok (.iaload, 1) := by decide +kernel
theorem dL_law_1132 : decode cL_law 1132 = .ok (.invokevirtual 149, 3) := by decide +kernel
theorem dL_law_1135 : decode cL_law 1135 = .ok (.istore 6, 2) := by decide +kernel
theorem dL_law_1137 : decode cL_law 1137 = .ok (.aload_n 2, 1) := by decide +kernel
theorem dL_law_1138 : decode cL_law 1138 = .ok (.invokevirtual 101, 3) := by decide +kernel
theorem dL_law_1141 : decode cL_law 1141 = .ok (.iload 5, 2) := by decide +kernel
theorem dL_law_1143 : decode cL_law 1143 = .ok (.if_icmp .eq 5, 3) := by decide +kernel
theorem dL_law_1146 : decode cL_law 1146 = .ok (.iconst 0, 1) := by decide +kernel
theorem dL_law_1147 : decode cL_law 1147 = .ok (.ireturn, 1) := by decide +kernel
theorem dL_law_1148 : decode cL_law 1148 = .ok (.iload 5, 2) := by decide +kernel
theorem dL_law_1150 : decode cL_law 1150 = .ok (.ifCond .ne 15, 3) := by decide +kernel
theorem dL_law_1153 : decode cL_law 1153 = .ok (.aload_n 3, 1) := by decide +kernel
theorem dL_law_1154 : decode cL_law 1154 = .ok (.iconst 0, 1) := by decide +kernel
theorem dL_law_1155 : decode cL_law 1155 = .ok (.laload, 1) := by decide +kernel
theorem dL_law_1156 : decode cL_law 1156 = .ok (.iload 6, 2) := by decide +kernel
theorem dL_law_1158 : decode cL_law 1158 = .ok (.i2l, 1) := by decide +kernel
theorem dL_law_1159 : decode cL_law 1159 = .ok (.lcmp, 1) := by decide +kernel
theorem dL_law_1160 : decode cL_law 1160 = .ok (.ifCond .eq 5, 3) := by decide +kernel
theorem dL_law_1163 : decode cL_law 1163 = .ok (.iconst 0, 1) := by decide +kernel
theorem dL_law_1164 : decode cL_law 1164 = .ok (.ireturn, 1) := by decide +kernel
theorem dL_law_1165 : decode cL_law 1165 = .ok (.goto 634, 3) := by decide +kernel
theorem dL_law_1168 : decode cL_law 1168 = .ok (.aload_n 1, 1) := by decide +kernel
theorem dL_law_1169 : decode cL_law 1169 = .ok (.aload_n 0, 1) := by decide +kernel
theorem dL_law_1170 : decode cL_law 1170 = .ok (.iload 4, 2) := by decide +kernel
theorem dL_law_1172 : decode cL_law 1172 = .ok (.iconst 1, 1) := by decide +kernel
theorem dL_law_1173 : decode cL_law 1173 = .ok (.iadd, 1) := by decide +kernel
theorem dL_law_1174 : decode cL_law 1174 = .ok (.iaload, 1) := by decide +kernel
theorem dL_law_1175 : decode cL_law 1175 = .ok (.aload_n 0, 1) := by decide +kernel
theorem dL_law_1176 : decode cL_law 1176 = .ok (.iload 4, 2) := by decide +kernel
theorem dL_law_1178 : decode cL_law 1178 = .ok (.iconst 2, 1) := by decide +kernel
theorem dL_law_1179 : decode cL_law 1179 = .ok (.iadd, 1) := by decide +kernel
theorem dL_law_1180 : decode cL_law 1180 = .ok (.iaload, 1) := by decide +kernel
theorem dL_law_1181 : decode cL_law 1181 = .ok (.aload_n 3, 1) := by decide +kernel
theorem dL_law_1182 : decode cL_law 1182 = .ok (.invokestatic 150, 3) := by decide +kernel
theorem dL_law_1185 : decode cL_law 1185 = .ok (.istore 5, 2) := by decide +kernel
theorem dL_law_1187 : decode cL_law 1187 = .ok (.aload_n 2, 1) := by decide +kernel
theorem dL_law_1188 : decode cL_law 1188 = .ok (.aload_n 0, 1) := by decide +kernel
theorem dL_law_1189 : decode cL_law 1189 = .ok (.iload 4, 2) := by decide +kernel
theorem dL_law_1191 : decode cL_law 1191 = .ok (.iconst 1, 1) := by decide +kernel
theorem dL_law_1192 : decode cL_law 1192 = .ok (.iadd, 1) := by decide +kernel
theorem dL_law_1193 : decode cL_law 1193 = .ok (.iaload, 1) := by decide +kernel
theorem dL_law_1194 : decode cL_law 1194 = .ok (.aload_n 0, 1) := by decide +kernel
theorem dL_law_1195 : decode cL_law 1195 = .ok (.iload 4, 2) := by decide +kernel
theorem dL_law_1197 : decode cL_law 1197 = .ok (.iconst 2, 1) := by decide +kernel
theorem dL_law_1198 : decode cL_law 1198 = .ok (.iadd, 1) := by decide +kernel
theorem dL_law_1199 : decode cL_law 1199 = .ok (.iaload, 1) := by decide +kernel
theorem dL_law_1200 : decode cL_law 1200 = .ok (.invokevirtual 152, 3) := by decide +kernel
theorem dL_law_1203 : decode cL_law 1203 = .ok (.istore 6, 2) := by decide +kernel
theorem dL_law_1205 : decode cL_law 1205 = .ok (.aload_n 2, 1) := by decide +kernel
theorem dL_law_1206 : decode cL_law 1206 = .ok (.invokevirtual 101, 3) := by decide +kernel
theorem dL_law_1209 : decode cL_law 1209 = .ok (.iload 5, 2) := by decide +kernel
theorem dL_law_1211 : decode cL_law 1211 = .ok (.if_icmp .eq 5, 3) := by decide +kernel
theorem dL_law_1214 : decode cL_law 1214 = .ok (.iconst 0, 1) := by decide +kernel
theorem dL_law_1215 : decode cL_law 1215 = .ok (.ireturn, 1) := by decide +kernel
theorem dL_law_1216 : decode cL_law 1216 = .ok (.iload 5, 2) := by decide +kernel
theorem dL_law_1218 : decode cL_law 1218 = .ok (.ifCond .ne 15, 3) := by decide +kernel
theorem dL_law_1221 : decode cL_law 1221 = .ok (.aload_n 3, 1) := by decide +kernel
theorem dL_law_1222 : decode cL_law 1222 = .ok (.iconst 0, 1) := by decide +kernel
theorem dL_law_1223 : decode cL_law 1223 = .ok (.laload, 1) := by decide +kernel
theorem dL_law_1224 : decode cL_law 1224 = .ok (.iload 6, 2) := by decide +kernel
theorem dL_law_1226 : decode cL_law 1226 = .ok (.i2l, 1) := by decide +kernel
theorem dL_law_1227 : decode cL_law 1227 = .ok (.lcmp, 1) := by decide +kernel
theorem dL_law_1228 : decode cL_law 1228 = .ok (.ifCond .eq 5, 3) := by decide +kernel
theorem dL_law_1231 : decode cL_law 1231 = .ok (.iconst 0, 1) := by decide +kernel
theorem dL_law_1232 : decode cL_law 1232 = .ok (.ireturn, 1) := by decide +kernel
theorem dL_law_1233 : decode cL_law 1233 = .ok (.goto 566, 3) := by decide +kernel
theorem dL_law_1236 : decode cL_law 1236 = .ok (.aload_n 1, 1) := by decide +kernel
theorem dL_law_1237 : decode cL_law 1237 = .ok (.aload_n 0, 1) := by decide +kernel
theorem dL_law_1238 : decode cL_law 1238 = .ok (.iload 4, 2) := by decide +kernel
theorem dL_law_1240 : decode cL_law 1240 = .ok (.iconst 1, 1) := by decide +kernel
theorem dL_law_1241 : decode cL_law 1241 = .ok (.iadd, 1) := by decide +kernel
theorem dL_law_1242 : decode cL_law 1242 = .ok (.iaload, 1) := by decide +kernel
theorem dL_law_1243 : decode cL_law 1243 = .ok (.aload_n 0, 1) := by decide +kernel
theorem dL_law_1244 : decode cL_law 1244 = .ok (.iload 4, 2) := by decide +kernel
theorem dL_law_1246 : decode cL_law 1246 = .ok (.iconst 2, 1) := by decide +kernel
theorem dL_law_1247 : decode cL_law 1247 = .ok (.iadd, 1) := by decide +kernel
theorem dL_law_1248 : decode cL_law 1248 = .ok (.iaload, 1) := by decide +kernel
theorem dL_law_1249 : decode cL_law 1249 = .ok (.aload_n 3, 1) := by decide +kernel
theorem dL_law_1250 : decode cL_law 1250 = .ok (.invokestatic 153, 3) := by decide +kernel
theorem dL_law_1253 : decode cL_law 1253 = .ok (.istore 5, 2) := by decide +kernel
theorem dL_law_1255 : decode cL_law 1255 = .ok (.aload_n 2, 1) := by decide +kernel
theorem dL_law_1256 : decode cL_law 1256 = .ok (.aload_n 0, 1) := by decide +kernel
theorem dL_law_1257 : decode cL_law 1257 = .ok (.iload 4, 2) := by decide +kernel
theorem dL_law_1259 : decode cL_law 1259 = .ok (.iconst 1, 1) := by decide +kernel
theorem dL_law_1260 : decode cL_law 1260 = .ok (.iadd, 1) := by decide +kernel
theorem dL_law_1261 : decode cL_law 1261 = .ok (.iaload, 1) := by decide +kernel
theorem dL_law_1262 : decode cL_law 1262 = .ok (.aload_n 0, 1) := by decide +kernel
theorem dL_law_1263 : decode cL_law 1263 = .ok (.iload 4, 2) := by decide +kernel
theorem dL_law_1265 : decode cL_law 1265 = .ok (.iconst 2, 1) := by decide +kernel
theorem dL_law_1266 : decode cL_law 1266 = .ok (.iadd, 1) := by decide +kernel
theorem dL_law_1267 : decode cL_law 1267 = .ok (.iaload, 1) := by decide +kernel
theorem dL_law_1268 : decode cL_law 1268 = .ok (.invokevirtual 155, 3) := by decide +kernel
theorem dL_law_1271 : decode cL_law 1271 = .ok (.istore 6, 2) := by decide +kernel
theorem dL_law_1273 : decode cL_law 1273 = .ok (.aload_n 2, 1) := by decide +kernel
theorem dL_law_1274 : decode cL_law 1274 = .ok (.invokevirtual 101, 3) := by decide +kernel
theorem dL_law_1277 : decode cL_law 1277 = .ok (.iload 5, 2) := by decide +kernel
theorem dL_law_1279 : decode cL_law 1279 = .ok (.if_icmp .eq 5, 3) := by decide +kernel
theorem dL_law_1282 : decode cL_law 1282 = .ok (.iconst 0, 1) := by decide +kernel
theorem dL_law_1283 : decode cL_law 1283 = .ok (.ireturn, 1) := by decide +kernel
theorem dL_law_1284 : decode cL_law 1284 = .ok (.iload 5, 2) := by decide +kernel
theorem dL_law_1286 : decode cL_law 1286 = .ok (.ifCond .ne 15, 3) := by decide +kernel
theorem dL_law_1289 : decode cL_law 1289 = .ok (.aload_n 3, 1) := by decide +kernel
theorem dL_law_1290 : decode cL_law 1290 = .ok (.iconst 0, 1) := by decide +kernel
theorem dL_law_1291 : decode cL_law 1291 = .ok (.laload, 1) := by decide +kernel
theorem dL_law_1292 : decode cL_law 1292 = .ok (.iload 6, 2) := by decide +kernel
theorem dL_law_1294 : decode cL_law 1294 = .ok (.i2l, 1) := by decide +kernel
theorem dL_law_1295 : decode cL_law 1295 = .ok (.lcmp, 1) := by decide +kernel
theorem dL_law_1296 : decode cL_law 1296 = .ok (.ifCond .eq 5, 3) := by decide +kernel
theorem dL_law_1299 : decode cL_law 1299 = .ok (.iconst 0, 1) := by decide +kernel
theorem dL_law_1300 : decode cL_law 1300 = .ok (.ireturn, 1) := by decide +kernel
theorem dL_law_1301 : decode cL_law 1301 = .ok (.goto 498, 3) := by decide +kernel
theorem dL_law_1304 : decode cL_law 1304 = .ok (.aload_n 1, 1) := by decide +kernel
theorem dL_law_1305 : decode cL_law 1305 = .ok (.aload_n 0, 1) := by decide +kernel
theorem dL_law_1306 : decode cL_law 1306 = .ok (.iload 4, 2) := by decide +kernel
theorem dL_law_1308 : decode cL_law 1308 = .ok (.iconst 1, 1) := by decide +kernel
theorem dL_law_1309 : decode cL_law 1309 = .ok (.iadd, 1) := by decide +kernel
theorem dL_law_1310 : decode cL_law 1310 = .ok (.iaload, 1) := by decide +kernel
theorem dL_law_1311 : decode cL_law 1311 = .ok (.aload_n 0, 1) := by decide +kernel
theorem dL_law_1312 : decode cL_law 1312 = .ok (.iload 4, 2) := by decide +kernel
theorem dL_law_1314 : decode cL_law 1314 = .ok (.iconst 2, 1) := by decide +kernel
theorem dL_law_1315 : decode cL_law 1315 = .ok (.iadd, 1) := by decide +kernel
theorem dL_law_1316 : decode cL_law 1316 = .ok (.iaload, 1) := by decide +kernel
theorem dL_law_1317 : decode cL_law 1317 = .ok (.aload_n 3, 1) := by decide +kernel
theorem dL_law_1318 : decode cL_law 1318 = .ok (.invokestatic 156, 3) := by decide +kernel
theorem dL_law_1321 : decode cL_law 1321 = .ok (.istore 5, 2) := by decide +kernel
theorem dL_law_1323 : decode cL_law 1323 = .ok (.aload_n 2, 1) := by decide +kernel
theorem dL_law_1324 : decode cL_law 1324 = .ok (.aload_n 0, 1) := by decide +kernel
theorem dL_law_1325 : decode cL_law 1325 = .ok (.iload 4, 2) := by decide +kernel
theorem dL_law_1327 : decode cL_law 1327 = .ok (.iconst 1, 1) := by decide +kernel
theorem dL_law_1328 : decode cL_law 1328 = .ok (.iadd, 1) := by decide +kernel
theorem dL_law_1329 : decode cL_law 1329 = .ok (.iaload, 1) := by decide +kernel
theorem dL_law_1330 : decode cL_law 1330 = .ok (.aload_n 0, 1) := by decide +kernel
theorem dL_law_1331 : decode cL_law 1331 = .ok (.iload 4, 2) := by decide +kernel
theorem dL_law_1333 : decode cL_law 1333 = .ok (.iconst 2, 1) := by decide +kernel
theorem dL_law_1334 : decode cL_law 1334 = .ok (.iadd, 1) := by decide +kernel
theorem dL_law_1335 : decode cL_law 1335 = .ok (.iaload, 1) := by decide +kernel
theorem dL_law_1336 : decode cL_law 1336 = .ok (.invokevirtual 158, 3) := by decide +kernel
theorem dL_law_1339 : decode cL_law 1339 = .ok (.istore 6, 2) := by decide +kernel
theorem dL_law_1341 : decode cL_law 1341 = .ok (.aload_n 2, 1) := by decide +kernel
theorem dL_law_1342 : decode cL_law 1342 = .ok (.invokevirtual 101, 3) := by decide +kernel
theorem dL_law_1345 : decode cL_law 1345 = .ok (.iload 5, 2) := by decide +kernel
theorem dL_law_1347 : decode cL_law 1347 = .ok (.if_icmp .eq 5, 3) := by decide +kernel
theorem dL_law_1350 : decode cL_law 1350 = .ok (.iconst 0, 1) := by decide +kernel
theorem dL_law_1351 : decode cL_law 1351 = .ok (.ireturn, 1) := by decide +kernel
theorem dL_law_1352 : decode cL_law 1352 = .ok (.iload 5, 2) := by decide +kernel
theorem dL_law_1354 : decode cL_law 1354 = .ok (.ifCond .ne 15, 3) := by decide +kernel
theorem dL_law_1357 : decode cL_law 1357 = .ok (.aload_n 3, 1) := by decide +kernel
theorem dL_law_1358 : decode cL_law 1358 = .ok (.iconst 0, 1) := by decide +kernel
theorem dL_law_1359 : decode cL_law 1359 = .ok (.laload, 1) := by decide +kernel
theorem dL_law_1360 : decode cL_law 1360 = .ok (.iload 6, 2) := by decide +kernel
theorem dL_law_1362 : decode cL_law 1362 = .ok (.i2l, 1) := by decide +kernel
theorem dL_law_1363 : decode cL_law 1363 = .ok (.lcmp, 1) := by decide +kernel
theorem dL_law_1364 : decode cL_law 1364 = .ok (.ifCond .eq 5, 3) := by decide +kernel
theorem dL_law_1367 : decode cL_law 1367 = .ok (.iconst 0, 1) := by decide +kernel
theorem dL_law_1368 : decode cL_law 1368 = .ok (.ireturn, 1) := by decide +kernel
theorem dL_law_1369 : decode cL_law 1369 = .ok (.goto 430, 3) := by decide +kernel
theorem dL_law_1372 : decode cL_law 1372 = .ok (.aload_n 1, 1) := by decide +kernel
theorem dL_law_1373 : decode cL_law 1373 = .ok (.aload_n 0, 1) := by decide +kernel
theorem dL_law_1374 : decode cL_law 1374 = .ok (.iload 4, 2) := by decide +kernel
theorem dL_law_1376 : decode cL_law 1376 = .ok (.iconst 1, 1) := by decide +kernel
theorem dL_law_1377 : decode cL_law 1377 = .ok (.iadd, 1) := by decide +kernel
theorem dL_law_1378 : decode cL_law 1378 = .ok (.iaload, 1) := by decide +kernel
theorem dL_law_1379 : decode cL_law 1379 = .ok (.aload_n 0, 1) := by decide +kernel
theorem dL_law_1380 : decode cL_law 1380 = .ok (.iload 4, 2) := by decide +kernel
theorem dL_law_1382 : decode cL_law 1382 = .ok (.iconst 2, 1) := by decide +kernel
theorem dL_law_1383 : decode cL_law 1383 = .ok (.iadd, 1) := by decide +kernel
theorem dL_law_1384 : decode cL_law 1384 = .ok (.iaload, 1) := by decide +kernel
theorem dL_law_1385 : decode cL_law 1385 = .ok (.aload_n 3, 1) := by decide +kernel
theorem dL_law_1386 : decode cL_law 1386 = .ok (.invokestatic 159, 3) := by decide +kernel
theorem dL_law_1389 : decode cL_law 1389 = .ok (.istore 5, 2) := by decide +kernel
theorem dL_law_1391 : decode cL_law 1391 = .ok (.aload_n 2, 1) := by decide +kernel
theorem dL_law_1392 : decode cL_law 1392 = .ok (.aload_n 0, 1) := by decide +kernel
theorem dL_law_1393 : decode cL_law 1393 = .ok (.iload 4, 2) := by decide +kernel
theorem dL_law_1395 : decode cL_law 1395 = .ok (.iconst 1, 1) := by decide +kernel
theorem dL_law_1396 : decode cL_law 1396 = .ok (.iadd, 1) := by decide +kernel
theorem dL_law_1397 : decode cL_law 1397 = .ok (.iaload, 1) := by decide +kernel
theorem dL_law_1398 : decode cL_law 1398 = .ok (.aload_n 0, 1) := by decide +kernel
theorem dL_law_1399 : decode cL_law 1399 = .ok (.iload 4, 2) := by decide +kernel
theorem dL_law_1401 : decode cL_law 1401 = .ok (.iconst 2, 1) := by decide +kernel
theorem dL_law_1402 : decode cL_law 1402 = .ok (.iadd, 1) := by decide +kernel
theorem dL_law_1403 : decode cL_law 1403 = .ok (.iaload, 1) := by decide +kernel
theorem dL_law_1404 : decode cL_law 1404 = .ok (.invokevirtual 161, 3) := by decide +kernel
theorem dL_law_1407 : decode cL_law 1407 = .ok (.istore 6, 2) := by decide +kernel
theorem dL_law_1409 : decode cL_law 1409 = .ok (.aload_n 2, 1) := by decide +kernel
theorem dL_law_1410 : decode cL_law 1410 = .ok (.invokevirtual 101, 3) := by decide +kernel
theorem dL_law_1413 : decode cL_law 1413 = .ok (.iload 5, 2) := by decide +kernel
theorem dL_law_1415 : decode cL_law 1415 = .ok (.if_icmp .eq 5, 3) := by decide +kernel
theorem dL_law_1418 : decode cL_law 1418 = .ok (.iconst 0, 1) := by decide +kernel
theorem dL_law_1419 : decode cL_law 1419 = .ok (.ireturn, 1) := by decide +kernel
theorem dL_law_1420 : decode cL_law 1420 = .ok (.iload 5, 2) := by decide +kernel
theorem dL_law_1422 : decode cL_law 1422 = .ok (.ifCond .ne 15, 3) := by decide +kernel
theorem dL_law_1425 : decode cL_law 1425 = .ok (.aload_n 3, 1) := by decide +kernel
theorem dL_law_1426 : decode cL_law 1426 = .ok (.iconst 0, 1) := by decide +kernel
theorem dL_law_1427 : decode cL_law 1427 = .ok (.laload, 1) := by decide +kernel
theorem dL_law_1428 : decode cL_law 1428 = .ok (.iload 6, 2) := by decide +kernel
theorem dL_law_1430 : decode cL_law 1430 = .ok (.i2l, 1) := by decide +kernel
theorem dL_law_1431 : decode cL_law 1431 = .ok (.lcmp, 1) := by decide +kernel
theorem dL_law_1432 : decode cL_law 1432 = .ok (.ifCond .eq 5, 3) := by decide +kernel
theorem dL_law_1435 : decode cL_law 1435 = .ok (.iconst 0, 1) := by decide +kernel
theorem dL_law_1436 : decode cL_law 1436 = .ok (.ireturn, 1) := by decide +kernel
theorem dL_law_1437 : decode cL_law 1437 = .ok (.goto 362, 3) := by decide +kernel
theorem dL_law_1440 : decode cL_law 1440 = .ok (.aload_n 1, 1) := by decide +kernel
theorem dL_law_1441 : decode cL_law 1441 = .ok (.aload_n 0, 1) := by decide +kernel
theorem dL_law_1442 : decode cL_law 1442 = .ok (.iload 4, 2) := by decide +kernel
theorem dL_law_1444 : decode cL_law 1444 = .ok (.iconst 1, 1) := by decide +kernel
theorem dL_law_1445 : decode cL_law 1445 = .ok (.iadd, 1) := by decide +kernel
theorem dL_law_1446 : decode cL_law 1446 = .ok (.iaload, 1) := by decide +kernel
theorem dL_law_1447 : decode cL_law 1447 = .ok (.aload_n 3, 1) := by decide +kernel
theorem dL_law_1448 : decode cL_law 1448 = .ok (.invokestatic 162, 3) := by decide +kernel
theorem dL_law_1451 : decode cL_law 1451 = .ok (.istore 5, 2) := by decide +kernel
theorem dL_law_1453 : decode cL_law 1453 = .ok (.aload_n 2, 1) := by decide +kernel
theorem dL_law_1454 : decode cL_law 1454 = .ok (.aload_n 0, 1) := by decide +kernel
theorem dL_law_1455 : decode cL_law 1455 = .ok (.iload 4, 2) := by decide +kernel
theorem dL_law_1457 : decode cL_law 1457 = .ok (.iconst 1, 1) := by decide +kernel
theorem dL_law_1458 : decode cL_law 1458 = .ok (.iadd, 1) := by decide +kernel
theorem dL_law_1459 : decode cL_law 1459 = .ok (.iaload, 1) := by decide +kernel
theorem dL_law_1460 : decode cL_law 1460 = .ok (.invokevirtual 164, 3) := by decide +kernel
theorem dL_law_1463 : decode cL_law 1463 = .ok (.istore 6, 2) := by decide +kernel
theorem dL_law_1465 : decode cL_law 1465 = .ok (.aload_n 2, 1) := by decide +kernel
theorem dL_law_1466 : decode cL_law 1466 = .ok (.invokevirtual 101, 3) := by decide +kernel
theorem dL_law_1469 : decode cL_law 1469 = .ok (.iload 5, 2) := by decide +kernel
theorem dL_law_1471 : decode cL_law 1471 = .ok (.if_icmp .eq 5, 3) := by decide +kernel
theorem dL_law_1474 : decode cL_law 1474 = .ok (.iconst 0, 1) := by decide +kernel
theorem dL_law_1475 : decode cL_law 1475 = .ok (.ireturn, 1) := by decide +kernel
theorem dL_law_1476 : decode cL_law 1476 = .ok (.iload 5, 2) := by decide +kernel
theorem dL_law_1478 : decode cL_law 1478 = .ok (.ifCond .ne 15, 3) := by decide +kernel
theorem dL_law_1481 : decode cL_law 1481 = .ok (.aload_n 3, 1) := by decide +kernel
theorem dL_law_1482 : decode cL_law 1482 = .ok (.iconst 0, 1) := by decide +kernel
theorem dL_law_1483 : decode cL_law 1483 = .ok (.laload, 1) := by decide +kernel
theorem dL_law_1484 : decode cL_law 1484 = .ok (.iload 6, 2) := by decide +kernel
theorem dL_law_1486 : decode cL_law 1486 = .ok (.i2l, 1) := by decide +kernel
theorem dL_law_1487 : decode cL_law 1487 = .ok (.lcmp, 1) := by decide +kernel
theorem dL_law_1488 : decode cL_law 1488 = .ok (.ifCond .eq 5, 3) := by decide +kernel
theorem dL_law_1491 : decode cL_law 1491 = .ok (.iconst 0, 1) := by decide +kernel
theorem dL_law_1492 : decode cL_law 1492 = .ok (.ireturn, 1) := by decide +kernel
theorem dL_law_1493 : decode cL_law 1493 = .ok (.goto 306, 3) := by decide +kernel
theorem dL_law_1496 : decode cL_law 1496 = .ok (.aload_n 1, 1) := by decide +kernel
theorem dL_law_1497 : decode cL_law 1497 = .ok (.invokevirtual 165, 3) := by decide +kernel
theorem dL_law_1500 : decode cL_law 1500 = .ok (.dstore 5, 2) := by decide +kernel
theorem dL_law_1502 : decode cL_law 1502 = .ok (.aload_n 2, 1) := by decide +kernel
theorem dL_law_1503 : decode cL_law 1503 = .ok (.invokevirtual 169, 3) := by decide +kernel
theorem dL_law_1506 : decode cL_law 1506 = .ok (.dstore 7, 2) := by decide +kernel
theorem dL_law_1508 : decode cL_law 1508 = .ok (.dload 5, 2) := by decide +kernel
theorem dL_law_1510 : decode cL_law 1510 = .ok (.dload 7, 2) := by decide +kernel
theorem dL_law_1512 : decode cL_law 1512 = .ok (.dcmp .l, 1) := by decide +kernel
theorem dL_law_1513 : decode cL_law 1513 = .ok (.ifCond .eq 21, 3) := by decide +kernel
theorem dL_law_1516 : decode cL_law 1516 = .ok (.dload 5, 2) := by decide +kernel
theorem dL_law_1518 : decode cL_law 1518 = .ok (.dload 5, 2) := by decide +kernel
theorem dL_law_1520 : decode cL_law 1520 = .ok (.dcmp .l, 1) := by decide +kernel
theorem dL_law_1521 : decode cL_law 1521 = .ok (.ifCond .eq 11, 3) := by decide +kernel
theorem dL_law_1524 : decode cL_law 1524 = .ok (.dload 7, 2) := by decide +kernel
theorem dL_law_1526 : decode cL_law 1526 = .ok (.dload 7, 2) := by decide +kernel
theorem dL_law_1528 : decode cL_law 1528 = .ok (.dcmp .l, 1) := by decide +kernel
theorem dL_law_1529 : decode cL_law 1529 = .ok (.ifCond .ne 5, 3) := by decide +kernel
theorem dL_law_1532 : decode cL_law 1532 = .ok (.iconst 0, 1) := by decide +kernel
theorem dL_law_1533 : decode cL_law 1533 = .ok (.ireturn, 1) := by decide +kernel
theorem dL_law_1534 : decode cL_law 1534 = .ok (.goto 265, 3) := by decide +kernel
theorem dL_law_1537 : decode cL_law 1537 = .ok (.aload_n 1, 1) := by decide +kernel
theorem dL_law_1538 : decode cL_law 1538 = .ok (.aload_n 0, 1) := by decide +kernel
theorem dL_law_1539 : decode cL_law 1539 = .ok (.iload 4, 2) := by decide +kernel
theorem dL_law_1541 : decode cL_law 1541 = .ok (.iconst 1, 1) := by decide +kernel
theorem dL_law_1542 : decode cL_law 1542 = .ok (.iadd, 1) := by decide +kernel
theorem dL_law_1543 : decode cL_law 1543 = .ok (.iaload, 1) := by decide +kernel
theorem dL_law_1544 : decode cL_law 1544 = .ok (.aload_n 0, 1) := by decide +kernel
theorem dL_law_1545 : decode cL_law 1545 = .ok (.iload 4, 2) := by decide +kernel
theorem dL_law_1547 : decode cL_law 1547 = .ok (.iconst 2, 1) := by decide +kernel
theorem dL_law_1548 : decode cL_law 1548 = .ok (.iadd, 1) := by decide +kernel
theorem dL_law_1549 : decode cL_law 1549 = .ok (.iaload, 1) := by decide +kernel
theorem dL_law_1550 : decode cL_law 1550 = .ok (.aload_n 3, 1) := by decide +kernel
theorem dL_law_1551 : decode cL_law 1551 = .ok (.invokestatic 170, 3) := by decide +kernel
theorem dL_law_1554 : decode cL_law 1554 = .ok (.istore 5, 2) := by decide +kernel
theorem dL_law_1556 : decode cL_law 1556 = .ok (.aload_n 2, 1) := by decide +kernel
theorem dL_law_1557 : decode cL_law 1557 = .ok (.aload_n 0, 1) := by decide +kernel
theorem dL_law_1558 : decode cL_law 1558 = .ok (.iload 4, 2) := by decide +kernel
theorem dL_law_1560 : decode cL_law 1560 = .ok (.iconst 1, 1) := by decide +kernel
theorem dL_law_1561 : decode cL_law 1561 = .ok (.iadd, 1) := by decide +kernel
theorem dL_law_1562 : decode cL_law 1562 = .ok (.iaload, 1) := by decide +kernel
theorem dL_law_1563 : decode cL_law 1563 = .ok (.aload_n 0, 1) := by decide +kernel
theorem dL_law_1564 : decode cL_law 1564 = .ok (.iload 4, 2) := by decide +kernel
theorem dL_law_1566 : decode cL_law 1566 = .ok (.iconst 2, 1) := by decide +kernel
theorem dL_law_1567 : decode cL_law 1567 = .ok (.iadd, 1) := by decide +kernel
theorem dL_law_1568 : decode cL_law 1568 = .ok (.iaload, 1) := by decide +kernel
theorem dL_law_1569 : decode cL_law 1569 = .ok (.invokevirtual 172, 3) := by decide +kernel
theorem dL_law_1572 : decode cL_law 1572 = .ok (.istore 6, 2) := by decide +kernel
theorem dL_law_1574 : decode cL_law 1574 = .ok (.aload_n 2, 1) := by decide +kernel
theorem dL_law_1575 : decode cL_law 1575 = .ok (.invokevirtual 101, 3) := by decide +kernel
theorem dL_law_1578 : decode cL_law 1578 = .ok (.iload 5, 2) := by decide +kernel
theorem dL_law_1580 : decode cL_law 1580 = .ok (.if_icmp .eq 5, 3) := by decide +kernel
theorem dL_law_1583 : decode cL_law 1583 = .ok (.iconst 0, 1) := by decide +kernel
theorem dL_law_1584 : decode cL_law 1584 = .ok (.ireturn, 1) := by decide +kernel
theorem dL_law_1585 : decode cL_law 1585 = .ok (.iload 5, 2) := by decide +kernel
theorem dL_law_1587 : decode cL_law 1587 = .ok (.ifCond .ne 15, 3) := by decide +kernel
theorem dL_law_1590 : decode cL_law 1590 = .ok (.aload_n 3, 1) := by decide +kernel
theorem dL_law_1591 : decode cL_law 1591 = .ok (.iconst 0, 1) := by decide +kernel
theorem dL_law_1592 : decode cL_law 1592 = .ok (.laload, 1) := by decide +kernel
theorem dL_law_1593 : decode cL_law 1593 = .ok (.iload 6, 2) := by decide +kernel
theorem dL_law_1595 : decode cL_law 1595 = .ok (.i2l, 1) := by decide +kernel
theorem dL_law_1596 : decode cL_law 1596 = .ok (.lcmp, 1) := by decide +kernel
theorem dL_law_1597 : decode cL_law 1597 = .ok (.ifCond .eq 5, 3) := by decide +kernel
theorem dL_law_1600 : decode cL_law 1600 = .ok (.iconst 0, 1) := by decide +kernel
theorem dL_law_1601 : decode cL_law 1601 = .ok (.ireturn, 1) := by decide +kernel
theorem dL_law_1602 : decode cL_law 1602 = .ok (.goto 197, 3) := by decide +kernel
theorem dL_law_1605 : decode cL_law 1605 = .ok (.aload_n 1, 1) := by decide +kernel
theorem dL_law_1606 : decode cL_law 1606 = .ok (.aload_n 0, 1) := by decide +kernel
theorem dL_law_1607 : decode cL_law 1607 = .ok (.iload 4, 2) := by decide +kernel
theorem dL_law_1609 : decode cL_law 1609 = .ok (.iconst 1, 1) := by decide +kernel
theorem dL_law_1610 : decode cL_law 1610 = .ok (.iadd, 1) := by decide +kernel
theorem dL_law_1611 : decode cL_law 1611 = .ok (.iaload, 1) := by decide +kernel
theorem dL_law_1612 : decode cL_law 1612 = .ok (.aload_n 0, 1) := by decide +kernel
theorem dL_law_1613 : decode cL_law 1613 = .ok (.iload 4, 2) := by decide +kernel
theorem dL_law_1615 : decode cL_law 1615 = .ok (.iconst 2, 1) := by decide +kernel
theorem dL_law_1616 : decode cL_law 1616 = .ok (.iadd, 1) := by decide +kernel
theorem dL_law_1617 : decode cL_law 1617 = .ok (.iaload, 1) := by decide +kernel
theorem dL_law_1618 : decode cL_law 1618 = .ok (.aload_n 3, 1) := by decide +kernel
theorem dL_law_1619 : decode cL_law 1619 = .ok (.invokestatic 173, 3) := by decide +kernel
theorem dL_law_1622 : decode cL_law 1622 = .ok (.istore 5, 2) := by decide +kernel
theorem dL_law_1624 : decode cL_law 1624 = .ok (.aload_n 2, 1) := by decide +kernel
theorem dL_law_1625 : decode cL_law 1625 = .ok (.aload_n 0, 1) := by decide +kernel
theorem dL_law_1626 : decode cL_law 1626 = .ok (.iload 4, 2) := by decide +kernel
theorem dL_law_1628 : decode cL_law 1628 = .ok (.iconst 1, 1) := by decide +kernel
theorem dL_law_1629 : decode cL_law 1629 = .ok (.iadd, 1) := by decide +kernel
theorem dL_law_1630 : decode cL_law 1630 = .ok (.iaload, 1) := by decide +kernel
theorem dL_law_1631 : decode cL_law 1631 = .ok (.aload_n 0, 1) := by decide +kernel
theorem dL_law_1632 : decode cL_law 1632 = .ok (.iload 4, 2) := by decide +kernel
theorem dL_law_1634 : decode cL_law 1634 = .ok (.iconst 2, 1) := by decide +kernel
theorem dL_law_1635 : decode cL_law 1635 = .ok (.iadd, 1) := by decide +kernel
theorem dL_law_1636 : decode cL_law 1636 = .ok (.iaload, 1) := by decide +kernel
theorem dL_law_1637 : decode cL_law 1637 = .ok (.invokevirtual 175, 3) := by decide +kernel
theorem dL_law_1640 : decode cL_law 1640 = .ok (.istore 6, 2) := by decide +kernel
theorem dL_law_1642 : decode cL_law 1642 = .ok (.aload_n 2, 1) := by decide +kernel
theorem dL_law_1643 : decode cL_law 1643 = .ok (.invokevirtual 101, 3) := by decide +kernel
theorem dL_law_1646 : decode cL_law 1646 = .ok (.iload 5, 2) := by decide +kernel
theorem dL_law_1648 : decode cL_law 1648 = .ok (.if_icmp .eq 5, 3) := by decide +kernel
theorem dL_law_1651 : decode cL_law 1651 = .ok (.iconst 0, 1) := by decide +kernel
theorem dL_law_1652 : decode cL_law 1652 = .ok (.ireturn, 1) := by decide +kernel
theorem dL_law_1653 : decode cL_law 1653 = .ok (.iload 5, 2) := by decide +kernel
theorem dL_law_1655 : decode cL_law 1655 = .ok (.ifCond .ne 15, 3) := by decide +kernel
theorem dL_law_1658 : decode cL_law 1658 = .ok (.aload_n 3, 1) := by decide +kernel
theorem dL_law_1659 : decode cL_law 1659 = .ok (.iconst 0, 1) := by decide +kernel
theorem dL_law_1660 : decode cL_law 1660 = .ok (.laload, 1) := by decide +kernel
theorem dL_law_1661 : decode cL_law 1661 = .ok (.iload 6, 2) := by decide +kernel
theorem dL_law_1663 : decode cL_law 1663 = .ok (.i2l, 1) := by decide +kernel
theorem dL_law_1664 : decode cL_law 1664 = .ok (.lcmp, 1) := by decide +kernel
theorem dL_law_1665 : decode cL_law 1665 = .ok (.ifCond .eq 5, 3) := by decide +kernel
theorem dL_law_1668 : decode cL_law 1668 = .ok (.iconst 0, 1) := by decide +kernel
theorem dL_law_1669 : decode cL_law 1669 = .ok (.ireturn, 1) := by decide +kernel
theorem dL_law_1670 : decode cL_law 1670 = .ok (.goto 129, 3) := by decide +kernel
theorem dL_law_1673 : decode cL_law 1673 = .ok (.aload_n 1, 1) := by decide +kernel
theorem dL_law_1674 : decode cL_law 1674 = .ok (.aload_n 0, 1) := by decide +kernel
theorem dL_law_1675 : decode cL_law 1675 = .ok (.iload 4, 2) := by decide +kernel
theorem dL_law_1677 : decode cL_law 1677 = .ok (.iconst 1, 1) := by decide +kernel
theorem dL_law_1678 : decode cL_law 1678 = .ok (.iadd, 1) := by decide +kernel
theorem dL_law_1679 : decode cL_law 1679 = .ok (.iaload, 1) := by decide +kernel
theorem dL_law_1680 : decode cL_law 1680 = .ok (.aload_n 3, 1) := by decide +kernel
theorem dL_law_1681 : decode cL_law 1681 = .ok (.invokestatic 176, 3) := by decide +kernel
theorem dL_law_1684 : decode cL_law 1684 = .ok (.istore 5, 2) := by decide +kernel
theorem dL_law_1686 : decode cL_law 1686 = .ok (.aload_n 2, 1) := by decide +kernel
theorem dL_law_1687 : decode cL_law 1687 = .ok (.aload_n 0, 1) := by decide +kernel
theorem dL_law_1688 : decode cL_law 1688 = .ok (.iload 4, 2) := by decide +kernel
theorem dL_law_1690 : decode cL_law 1690 = .ok (.iconst 1, 1) := by decide +kernel
theorem dL_law_1691 : decode cL_law 1691 = .ok (.iadd, 1) := by decide +kernel
theorem dL_law_1692 : decode cL_law 1692 = .ok (.iaload, 1) := by decide +kernel
theorem dL_law_1693 : decode cL_law 1693 = .ok (.invokevirtual 178, 3) := by decide +kernel
theorem dL_law_1696 : decode cL_law 1696 = .ok (.istore 6, 2) := by decide +kernel
theorem dL_law_1698 : decode cL_law 1698 = .ok (.aload_n 2, 1) := by decide +kernel
theorem dL_law_1699 : decode cL_law 1699 = .ok (.invokevirtual 101, 3) := by decide +kernel
theorem dL_law_1702 : decode cL_law 1702 = .ok (.iload 5, 2) := by decide +kernel
theorem dL_law_1704 : decode cL_law 1704 = .ok (.if_icmp .eq 5, 3) := by decide +kernel
theorem dL_law_1707 : decode cL_law 1707 = .ok (.iconst 0, 1) := by decide +kernel
theorem dL_law_1708 : decode cL_law 1708 = .ok (.ireturn, 1) := by decide +kernel
theorem dL_law_1709 : decode cL_law 1709 = .ok (.iload 5, 2) := by decide +kernel
theorem dL_law_1711 : decode cL_law 1711 = .ok (.ifCond .ne 15, 3) := by decide +kernel
theorem dL_law_1714 : decode cL_law 1714 = .ok (.aload_n 3, 1) := by decide +kernel
theorem dL_law_1715 : decode cL_law 1715 = .ok (.iconst 0, 1) := by decide +kernel
theorem dL_law_1716 : decode cL_law 1716 = .ok (.laload, 1) := by decide +kernel
theorem dL_law_1717 : decode cL_law 1717 = .ok (.iload 6, 2) := by decide +kernel
theorem dL_law_1719 : decode cL_law 1719 = .ok (.i2l, 1) := by decide +kernel
theorem dL_law_1720 : decode cL_law 1720 = .ok (.lcmp, 1) := by decide +kernel
theorem dL_law_1721 : decode cL_law 1721 = .ok (.ifCond .eq 5, 3) := by decide +kernel
theorem dL_law_1724 : decode cL_law 1724 = .ok (.iconst 0, 1) := by decide +kernel
theorem dL_law_1725 : decode cL_law 1725 = .ok (.ireturn, 1) := by decide +kernel
theorem dL_law_1726 : decode cL_law 1726 = .ok (.goto 73, 3) := by decide +kernel
theorem dL_law_1729 : decode cL_law 1729 = .ok (.aload_n 1, 1) := by decide +kernel
theorem dL_law_1730 : decode cL_law 1730 = .ok (.aload_n 0, 1) := by decide +kernel
theorem dL_law_1731 : decode cL_law 1731 = .ok (.iload 4, 2) := by decide +kernel
theorem dL_law_1733 : decode cL_law 1733 = .ok (.iconst 1, 1) := by decide +kernel
theorem dL_law_1734 : decode cL_law 1734 = .ok (.iadd, 1) := by decide +kernel
theorem dL_law_1735 : decode cL_law 1735 = .ok (.iaload, 1) := by decide +kernel
theorem dL_law_1736 : decode cL_law 1736 = .ok (.aload_n 3, 1) := by decide +kernel
theorem dL_law_1737 : decode cL_law 1737 = .ok (.invokestatic 179, 3) := by decide +kernel
theorem dL_law_1740 : decode cL_law 1740 = .ok (.istore 5, 2) := by decide +kernel
theorem dL_law_1742 : decode cL_law 1742 = .ok (.aload_n 2, 1) := by decide +kernel
theorem dL_law_1743 : decode cL_law 1743 = .ok (.aload_n 0, 1) := by decide +kernel
theorem dL_law_1744 : decode cL_law 1744 = .ok (.iload 4, 2) := by decide +kernel
theorem dL_law_1746 : decode cL_law 1746 = .ok (.iconst 1, 1) := by decide +kernel
theorem dL_law_1747 : decode cL_law 1747 = .ok (.iadd, 1) := by decide +kernel
theorem dL_law_1748 : decode cL_law 1748 = .ok (.iaload, 1) := by decide +kernel
theorem dL_law_1749 : decode cL_law 1749 = .ok (.invokevirtual 181, 3) := by decide +kernel
theorem dL_law_1752 : decode cL_law 1752 = .ok (.istore 6, 2) := by decide +kernel
theorem dL_law_1754 : decode cL_law 1754 = .ok (.aload_n 2, 1) := by decide +kernel
theorem dL_law_1755 : decode cL_law 1755 = .ok (.invokevirtual 101, 3) := by decide +kernel
theorem dL_law_1758 : decode cL_law 1758 = .ok (.iload 5, 2) := by decide +kernel
theorem dL_law_1760 : decode cL_law 1760 = .ok (.if_icmp .eq 5, 3) := by decide +kernel
theorem dL_law_1763 : decode cL_law 1763 = .ok (.iconst 0, 1) := by decide +kernel
theorem dL_law_1764 : decode cL_law 1764 = .ok (.ireturn, 1) := by decide +kernel
theorem dL_law_1765 : decode cL_law 1765 = .ok (.iload 5, 2) := by decide +kernel
theorem dL_law_1767 : decode cL_law 1767 = .ok (.ifCond .ne 15, 3) := by decide +kernel
theorem dL_law_1770 : decode cL_law 1770 = .ok (.aload_n 3, 1) := by decide +kernel
theorem dL_law_1771 : decode cL_law 1771 = .ok (.iconst 0, 1) := by decide +kernel
theorem dL_law_1772 : decode cL_law 1772 = .ok (.laload, 1) := by decide +kernel
theorem dL_law_1773 : decode cL_law 1773 = .ok (.iload 6, 2) := by decide +kernel
theorem dL_law_1775 : decode cL_law 1775 = .ok (.i2l, 1) := by decide +kernel
theorem dL_law_1776 : decode cL_law 1776 = .ok (.lcmp, 1) := by decide +kernel
theorem dL_law_1777 : decode cL_law 1777 = .ok (.ifCond .eq 5, 3) := by decide +kernel
theorem dL_law_1780 : decode cL_law 1780 = .ok (.iconst 0, 1) := by decide +kernel
theorem dL_law_1781 : decode cL_law 1781 = .ok (.ireturn, 1) := by decide +kernel
theorem dL_law_1782 : decode cL_law 1782 = .ok (.goto 17, 3) := by decide +kernel
theorem dL_law_1785 : decode cL_law 1785 = .ok (.aload_n 1, 1) := by decide +kernel
theorem dL_law_1786 : decode cL_law 1786 = .ok (.invokevirtual 182, 3) := by decide +kernel
theorem dL_law_1789 : decode cL_law 1789 = .ok (.aload_n 2, 1) := by decide +kernel
theorem dL_law_1790 : decode cL_law 1790 = .ok (.invokevirtual 186, 3) := by decide +kernel
theorem dL_law_1793 : decode cL_law 1793 = .ok (.lcmp, 1) := by decide +kernel
theorem dL_law_1794 : decode cL_law 1794 = .ok (.ifCond .eq 5, 3) := by decide +kernel
theorem dL_law_1797 : decode cL_law 1797 = .ok (.iconst 0, 1) := by decide +kernel
theorem dL_law_1798 : decode cL_law 1798 = .ok (.ireturn, 1) := by decide +kernel
theorem dL_law_1799 : decode cL_law 1799 = .ok (.iinc 4 6, 3) := by decide +kernel
theorem dL_law_1802 : decode cL_law 1802 = .ok (.goto (-1779), 3) := by decide +kernel
theorem dL_law_1805 : decode cL_law 1805 = .ok (.iconst 1, 1) := by decide +kernel
theorem dL_law_1806 : decode cL_law 1806 = .ok (.ireturn, 1) := by decide +kernel
abbrev vwCl : List vw_C := [(RX0, TX0, 9), (RX1, TX1, 4), (RX2, TX2, 8), (RX3, TX3, 2), (RX4, TX4, 7), (RX5, TX5, 5), (RX6, TX6, 1), (RX7, TX7, 10), (RX8, TX8, 7), (RX9, TX9, 4), (RX10, TX10, 16), (RX11, TX11, 2)]
