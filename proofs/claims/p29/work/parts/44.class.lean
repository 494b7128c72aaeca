/-! the class's object, by what is real of it; its methods -/
def mz_CP (D : va_G) (cA : Nat → ClassId) (κ : Nat → Nat) (N : mz_Mem) (H : Heap) : Prop := ∃ M : mz_Mem, mz_EQ M N ∧ mz_H D vwCl cA κ mz_lay2 M H
theorem mz_CP.kept {D : va_G} {cA : Nat → ClassId} {κ : Nat → Nat} {N : mz_Mem} {H H1 : Heap} (h : mz_CP D cA κ N H) (hk : ∀ q, mz_A κ mz_lay2 q → H1[q]? = H[q]?) : mz_CP D cA κ N H1 := by
  obtain ⟨M, h1, h2⟩ := h
  exact ⟨M, h1, fun k sh hs => (h2 k sh hs).kept (hk _ ⟨k, sh, hs, rfl⟩)⟩
theorem mz_CP.lt {D : va_G} {cA : Nat → ClassId} {κ : Nat → Nat} {N : mz_Mem} {H : Heap} (h : mz_CP D cA κ N H) {q : Nat} (hq : mz_A κ mz_lay2 q) : q < H.size := by
  obtain ⟨M, h1, h2⟩ := h
  obtain ⟨k, sh, hs, rfl⟩ := hq
  exact (h2 k sh hs).lt
theorem mz_CP.at {D : va_G} {cA : Nat → ClassId} {κ : Nat → Nat} {N : mz_Mem} {H : Heap} (h : mz_CP D cA κ N H) : ∃ fs, va_at D vwCl (κ 0, .inr (9, fs)) H := by
  obtain ⟨M, h1, h2⟩ := h
  exact ⟨_, h2 0 _ rfl⟩
theorem mz_J.ex {l : Launch} {D : va_G} {cl : List vw_C} {cA : Nat → ClassId} {y : MethodName} {cc : ByteArray} {nL fr lo mc ms : Nat} {ret : Option FieldType} {As : List Value} {α : Type} {Pre : α → Heap → Prop} {Post : Heap → Prop} {r : Option Value} {A : Nat → Prop}
    (F : ∀ a, mz_J l D cl cA y cc nL ret fr lo mc ms As (Pre a) r Post A) : mz_J l D cl cA y cc nL ret fr lo mc ms As (fun H => ∃ a, Pre a H) r Post A := by
  intro p e ha hc hk s m args below hf happ hv ht
  obtain ⟨hA, ⟨a, hP⟩, hK⟩ := hv
  exact F a p e ha hc hk s m args below hf happ ⟨hA, hP, hK⟩ ht
theorem mz_J.pr {l : Launch} {D : va_G} {cl : List vw_C} {cA : Nat → ClassId} {y : MethodName} {cc : ByteArray} {nL fr lo mc ms : Nat} {ret : Option FieldType} {As : List Value} {q : Prop} {Pre Post : Heap → Prop} {r : Option Value} {A : Nat → Prop}
    (F : q → mz_J l D cl cA y cc nL ret fr lo mc ms As Pre r Post A) : mz_J l D cl cA y cc nL ret fr lo mc ms As (fun H => q ∧ Pre H) r Post A := by
  intro p e ha hc hk s m args below hf happ hv ht
  obtain ⟨hA, ⟨h, hP⟩, hK⟩ := hv
  exact F h p e ha hc hk s m args below hf happ ⟨hA, hP, hK⟩ ht
section MZCC
variable {l : Launch} {D : va_G} {cA : Nat → ClassId} {κ : Nat → Nat} {N : mz_Mem}
theorem mz_JC {y : MethodName} {cc : ByteArray} {nL fr lo : Nat} {ret : Option FieldType} {As : List Value} {r : Option Value} {N' : mz_Mem} (F : ∀ M, mz_EQ M N → ∃ M', mz_EQ M' N' ∧ mz_J l D vwCl cA y cc nL ret fr lo 0 0 As (mz_H D vwCl cA κ mz_lay2 M) r (mz_H D vwCl cA κ mz_lay2 M') (mz_A κ mz_lay2)) : mz_J l D vwCl cA y cc nL ret fr lo 0 0 As (mz_CP D cA κ N) r (mz_CP D cA κ N') (mz_A κ mz_lay2) := by
  refine mz_J.ex fun M => mz_J.pr fun h => ?_
  obtain ⟨M', h2, F2⟩ := F M h
  exact F2.weaken (fun _ h => h) (fun H H' _ hp _ _ => ⟨M', h2, hp⟩)
theorem c_room (hI : mz_I κ mz_lay2) (q : Int32) (w1 : ¬ q < 1) (w2 : q ≤ 30) (w3 : N 1 0 < 8) : mz_J l D vwCl cA yX9_room cX9_room 2 (some .int) 3 67 0 0 [.ref (κ 0), .int q] (mz_CP D cA κ N) (some (.int (N 1 0))) (mz_CP D cA κ ((g_X4_addRoom N q).2)) (mz_A κ mz_lay2) := by
  refine mz_JC fun M h => ?_
  have e10 : M 1 0 = N 1 0 := congrFun (mz_md_r h.1 rfl) 0
  have F := mz_J.of (f_X9_room l D cA κ hI M q w1 w2 (by rw [e10]; exact w3))
  obtain ⟨e1, e2⟩ := mz_sp_room h q
  rw [e1] at F
  exact ⟨_, e2, F⟩
theorem c_door (hI : mz_I κ mz_lay2) (a : Int32) (b : Int32) (q : Int32) (w1 : ¬ a < 0) (w2 : a < N 1 0) (w3 : ¬ b < 0) (w4 : b < N 1 0) (w5 : ¬ a = b) (w6 : ¬ q < 1) (w7 : q ≤ 6) (w8 : ¬ 14 ≤ N 1 1) (w9 : mz_gg 64 (N 6 0) (N 8) a b = -1) : mz_J l D vwCl cA yX9_door cX9_door 4 (some .int) 5 121 0 0 [.ref (κ 0), .int a, .int b, .int q] (mz_CP D cA κ N) (some (.int (N 1 1 + 1))) (mz_CP D cA κ ((g_X4_addDoor N a b q).2)) (mz_A κ mz_lay2) := by
  refine mz_JC fun M h => ?_
  have e10 : M 1 0 = N 1 0 := congrFun (mz_md_r h.1 rfl) 0
  have e11 : M 1 1 = N 1 1 := congrFun (mz_md_r h.1 rfl) 1
  have e6 : M 6 0 = N 6 0 := congrFun (mz_md_r h.1 rfl) 0
  have e8 : M 8 = N 8 := mz_md_r h.1 rfl
  have F := mz_J.of (f_X9_door l D cA κ hI M a b q w1 (by rw [e10]; exact w2) w3 (by rw [e10]; exact w4) w5 w6 w7 (by rw [e11]; exact w8) (by rw [e6, e8]; exact w9))
  obtain ⟨e1, e2⟩ := mz_sp_door h a b q
  rw [e1] at F
  exact ⟨_, e2, F⟩
theorem c_track (hI : mz_I κ mz_lay2) (h0 : Int32) (w1 : ¬ h0 < 0) (w2 : h0 < N 1 0) (w3 : N 15 0 < 5) : mz_J l D vwCl cA yX9_track cX9_track 3 (some .int) 2 44 0 0 [.ref (κ 0), .int h0] (mz_CP D cA κ N) (some (.int (N 15 0))) (mz_CP D cA κ (g_X1_enter (g_X7_addTrack N h0).2 (N 15 0) h0)) (mz_A κ mz_lay2) := by
  refine mz_JC fun M h => ?_
  have e10 : M 1 0 = N 1 0 := congrFun (mz_md_r h.1 rfl) 0
  have t0 : M 15 0 = N 15 0 := congrFun (mz_md_r h.1 rfl) 0
  have F := mz_J.of (f_X9_track l D cA κ hI M h0 w1 (by rw [e10]; exact w2) (by rw [t0]; exact w3))
  obtain ⟨e1, e2⟩ := mz_sp_track h h0
  rw [e1] at F
  exact ⟨_, e2, F⟩
theorem c_prop (hI : mz_I κ mz_lay2) (h0 : Int32) (w1 : ¬ h0 < 0) (w2 : h0 < N 1 0) (w3 : N 15 1 < 4) : mz_J l D vwCl cA yX9_prop cX9_prop 3 (some .int) 2 44 0 0 [.ref (κ 0), .int h0] (mz_CP D cA κ N) (some (.int (N 15 1))) (mz_CP D cA κ (g_X5_lay (g_X7_addProp N h0).2 (N 15 1) h0)) (mz_A κ mz_lay2) := by
  refine mz_JC fun M h => ?_
  have e10 : M 1 0 = N 1 0 := congrFun (mz_md_r h.1 rfl) 0
  have t1 : M 15 1 = N 15 1 := congrFun (mz_md_r h.1 rfl) 1
  have F := mz_J.of (f_X9_prop l D cA κ hI M h0 w1 (by rw [e10]; exact w2) (by rw [t1]; exact w3))
  obtain ⟨e1, e2⟩ := mz_sp_prop h h0
  rw [e1] at F
  exact ⟨_, e2, F⟩
theorem c_scene (hI : mz_I κ mz_lay2) (r : Int32) (s : Int32) (d : Int32) (q : Int32) (p : Int32) (w1 : ¬ r < 0) (w2 : r < N 1 0) (w3 : ¬ s < 0) (w4 : ¬ 18 < s) (w5 : ¬ d < 1) (w6 : ¬ 8 < d) (w7 : s + d ≤ 20) (w8 : ¬ g_X7_areTracks N q = 0) (w9 : ¬ 0 < N 30 7) (w10 : ¬ 12 ≤ N 15 2) (w11 : g_X7_overlapsSceneOf N q s d = 0) (w12 : g_X1_anyIsPlayed N = 0) (z1 : ¬ p = -1 → ¬ p < 0) (z2 : ¬ p = -1 → p < N 15 1) : mz_J l D vwCl cA yX9_scene cX9_scene 6 (some .int) 2 48 0 0 [.ref (κ 0), .int r, .int s, .int d, .int q, .int p] (mz_CP D cA κ N) (some (.int (N 15 2))) (mz_CP D cA κ ((g_X7_addScene N r s d q p).2)) (mz_A κ mz_lay2) := by
  refine mz_JC fun M h => ?_
  have e10 : M 1 0 = N 1 0 := congrFun (mz_md_r h.1 rfl) 0
  have nw : M 30 7 = N 30 7 := mz_md_r30 h.1
  have t1 : M 15 1 = N 15 1 := congrFun (mz_md_r h.1 rfl) 1
  have t2 : M 15 2 = N 15 2 := congrFun (mz_md_r h.1 rfl) 2
  have ea : g_X7_areTracks M q = g_X7_areTracks N q := (congrArg (fun x => g_X7_areTracks x q) h.1).trans (g_X7_areTracks_md q)
  have eo : g_X7_overlapsSceneOf M q s d = g_X7_overlapsSceneOf N q s d := (congrArg (fun x => g_X7_overlapsSceneOf x q s d) h.1).trans (g_X7_overlapsSceneOf_md q s d)
  have ep : g_X1_anyIsPlayed M = g_X1_anyIsPlayed N := (congrArg g_X1_anyIsPlayed h.1).trans g_X1_anyIsPlayed_md
  have F := mz_J.of (f_X9_scene l D cA κ hI M r s d q p w1 (by rw [e10]; exact w2) w3 w4 w5 w6 w7 (by rw [ea]; exact w8) (by rw [nw]; exact w9) (by rw [t2]; exact w10) (by rw [eo]; exact w11) (by rw [ep]; exact w12) z1 (by rw [t1]; exact z2))
  obtain ⟨e1, e2⟩ := mz_sp_scene h r s d q p
  rw [e1] at F
  exact ⟨_, e2, F⟩
theorem c_guest (hI : mz_I κ mz_lay2) (r : Int32) (w1 : ¬ r < 0) (w2 : r < N 1 0) (w3 : ¬ 12 ≤ N 60 0) (w4 : g_X2_isFull N r = 0) : mz_J l D vwCl cA yX9_guest cX9_guest 2 (some .int) 3 67 0 0 [.ref (κ 0), .int r] (mz_CP D cA κ N) (some (.int (N 60 0))) (mz_CP D cA κ ((g_X0_enter N r).2)) (mz_A κ mz_lay2) := by
  refine mz_JC fun M h => ?_
  have e10 : M 1 0 = N 1 0 := congrFun (mz_md_r h.1 rfl) 0
  have g0 : M 60 0 = N 60 0 := mz_md_r60 h.1
  have ef : g_X2_isFull M r = g_X2_isFull N r := (congrArg (fun x => g_X2_isFull x r) h.1).trans (g_X2_isFull_md r)
  have F := mz_J.of (f_X9_guest l D cA κ hI M r w1 (by rw [e10]; exact w2) (by rw [g0]; exact w3) (by rw [ef]; exact w4))
  obtain ⟨e1, e2⟩ := mz_sp_guest h r
  rw [e1] at F
  exact ⟨_, e2, F⟩
theorem c_habit (hI : mz_I κ mz_lay2) (g : Int32) (h0 : Int32) (t : Int32) (w1 : ¬ g < 0) (w2 : g < N 60 0) (w3 : ¬ h0 < 0) (w4 : h0 ≤ 3) (z1 : h0 = 1 → ¬ t < 0) (z2 : h0 = 1 → t < N 15 0) : mz_J l D vwCl cA yX9_habit cX9_habit 5 (some .int) 2 45 0 0 [.ref (κ 0), .int g, .int h0, .int t] (mz_CP D cA κ N) (some (.int (mz_rg 12 (N 64) g))) (mz_CP D cA κ (g_X0_changeHabit N g h0 t)) (mz_A κ mz_lay2) := by
  refine mz_JC fun M h => ?_
  have g0 : M 60 0 = N 60 0 := mz_md_r60 h.1
  have t0 : M 15 0 = N 15 0 := congrFun (mz_md_r h.1 rfl) 0
  have F := mz_J.of (f_X9_habit l D cA κ hI M g h0 t w1 (by rw [g0]; exact w2) w3 w4 z1 (by rw [t0]; exact z2))
  obtain ⟨e1, e2⟩ := mz_sp_habit h g h0 t
  rw [e1] at F
  exact ⟨_, e2, F⟩
theorem c_pass (hI : mz_I κ mz_lay2) (m : Int32) (hm : 0 < mz_n m) (w1 : ¬ m < 1) (w2 : m ≤ 60) (w3 : N 30 7 + m ≤ 600) : mz_J l D vwCl cA yX9_pass cX9_pass 3 (some .int) 6 138 0 0 [.ref (κ 0), .int m] (mz_CP D cA κ N) (some (.int (mz_sum 12 (g_X2_run N m 48) - mz_sum 12 (N 48)))) (mz_CP D cA κ (g_X2_run N m)) (mz_A κ mz_lay2) := by
  refine mz_JC fun M h => ?_
  have nw : M 30 7 = N 30 7 := mz_md_r30 h.1
  have F := mz_J.of (f_X9_pass l D cA κ hI M m w1 w2 (by rw [nw]; exact w3))
  obtain ⟨e1, e2⟩ := mz_sp_pass h hm
  rw [e1] at F
  exact ⟨_, e2, F⟩
theorem c_wouldKnow (hI : mz_I κ mz_lay2) (g : Int32) (m : Int32) (hm : 0 < mz_n m) (w1 : ¬ g < 0) (w2 : g < N 60 0) (w3 : ¬ m < 1) (w4 : m ≤ 40) : mz_J l D vwCl cA yX9_wouldKnow cX9_wouldKnow 3 (some .int) 6 138 0 0 [.ref (κ 0), .int g, .int m] (mz_CP D cA κ N) (some (.int (mz_bitc (mz_rg 12 (g_X2_run N m 68) g)))) (mz_CP D cA κ (N)) (mz_A κ mz_lay2) := by
  refine mz_JC fun M h => ?_
  have g0 : M 60 0 = N 60 0 := mz_md_r60 h.1
  have F := mz_J.of (f_X9_wouldKnow l D cA κ hI M g m w1 (by rw [g0]; exact w2) w3 w4)
  obtain ⟨e1, e2⟩ := mz_sp_wouldKnow h (g := g) hm
  rw [e1] at F
  exact ⟨_, e2, F⟩
theorem c_wouldCut (hI : mz_I κ mz_lay2) (m : Int32) (hm : 0 < mz_n m) (w1 : ¬ m < 1) (w2 : m ≤ 40) : mz_J l D vwCl cA yX9_wouldCut cX9_wouldCut 2 (some .int) 6 138 0 0 [.ref (κ 0), .int m] (mz_CP D cA κ N) (some (.int (mz_sum 12 (g_X2_run N m 50) - mz_sum 12 (N 50)))) (mz_CP D cA κ (N)) (mz_A κ mz_lay2) := by
  refine mz_JC fun M h => ?_
  have F := mz_J.of (f_X9_wouldCut l D cA κ hI M m w1 w2)
  obtain ⟨e1, e2⟩ := mz_sp_wouldCut h hm
  rw [e1] at F
  exact ⟨_, e2, F⟩
theorem c_digest (hI : mz_I κ mz_lay2)   : mz_J l D vwCl cA yX9_digest cX9_digest 4 (some .long) 6 142 0 0 [.ref (κ 0)] (mz_CP D cA κ N) (some (.long (mz_dig N))) (mz_CP D cA κ (N)) (mz_A κ mz_lay2) := by
  refine mz_JC fun M h => ?_
  have F := mz_J.of (f_X9_digest l D cA κ hI M  )
  obtain ⟨e1, e2⟩ := mz_sp_digest h
  rw [e1] at F
  exact ⟨_, e2, F⟩
theorem c_many (hI : mz_I κ mz_lay2) (w : Int32) (w1 : ¬ w < 0) (w2 : w ≤ 12) : mz_J l D vwCl cA yX9_many cX9_many 2 (some .int) 2 43 0 0 [.ref (κ 0), .int w] (mz_CP D cA κ N) (some (.int (g_X9_many N w))) (mz_CP D cA κ (N)) (mz_A κ mz_lay2) := by
  refine mz_JC fun M h => ?_
  have F := mz_J.of (f_X9_many l D cA κ hI M w w1 w2)
  rw [mz_sp_many h] at F
  exact ⟨M, h, F⟩
theorem c_doubles (hI : mz_I κ mz_lay2) (t : Int32) (w1 : ¬ t < 0) (w2 : t < N 15 0) : mz_J l D vwCl cA yX9_doubles cX9_doubles 4 (some .int) 4 93 0 0 [.ref (κ 0), .int t] (mz_CP D cA κ N) (some (.int (g_X9_doubles N t))) (mz_CP D cA κ (N)) (mz_A κ mz_lay2) := by
  refine mz_JC fun M h => ?_
  have t0 : M 15 0 = N 15 0 := congrFun (mz_md_r h.1 rfl) 0
  have F := mz_J.of (f_X9_doubles l D cA κ hI M t w1 (by rw [t0]; exact w2))
  rw [mz_sp_doubles h] at F
  exact ⟨M, h, F⟩
theorem c_ofGuest (hI : mz_I κ mz_lay2) (g : Int32) (w : Int32) (w1 : ¬ g < 0) (w2 : g < N 60 0) (w3 : ¬ w < 0) (w4 : w ≤ 6) : mz_J l D vwCl cA yX9_ofGuest cX9_ofGuest 4 (some .int) 2 43 0 0 [.ref (κ 0), .int g, .int w] (mz_CP D cA κ N) (some (.int (g_X9_ofGuest N g w))) (mz_CP D cA κ (N)) (mz_A κ mz_lay2) := by
  refine mz_JC fun M h => ?_
  have g0 : M 60 0 = N 60 0 := mz_md_r60 h.1
  have F := mz_J.of (f_X9_ofGuest l D cA κ hI M g w w1 (by rw [g0]; exact w2) w3 w4)
  rw [mz_sp_ofGuest h] at F
  exact ⟨M, h, F⟩
theorem c_play (hI : mz_I κ mz_lay2) (t : Int32) (b : Int32) (w1 : ¬ t < 0) (w2 : t < N 15 0) (w3 : ¬ b < 0) (w4 : b < N 15 0) (w5 : ¬ t = b) (w6 : ¬ g_X2_canDouble N t b = 0) : mz_J l D vwCl cA yX9_play cX9_play 3 (some .int) 4 93 0 0 [.ref (κ 0), .int t, .int b] (mz_CP D cA κ N) (some (.int (g_X7_countScenesOf N ((1 <<< (t &&& 31)) ||| (1 <<< (b &&& 31)))))) (mz_CP D cA κ (g_X1_startDouble N t b)) (mz_A κ mz_lay2) := by
  refine mz_JC fun M h => ?_
  have t0 : M 15 0 = N 15 0 := congrFun (mz_md_r h.1 rfl) 0
  have F := mz_J.of (f_X9_play l D cA κ hI M t b w1 (by rw [t0]; exact w2) w3 (by rw [t0]; exact w4) w5 (by rw [mz_sp_canDouble h]; exact w6))
  obtain ⟨e1, e2⟩ := mz_sp_play h t b
  rw [e1] at F
  exact ⟨_, e2, F⟩
theorem c_part (hI : mz_I κ mz_lay2) (t : Int32) (w1 : ¬ t < 0) (w2 : t < N 15 0) (w3 : ¬ mz_rg 5 (N 37) t = -1) (w4 : ((g_X8_busyTracks N) &&& ((1 <<< (t &&& 31)) ||| (1 <<< ((mz_rg 5 (N 37) t) &&& 31)))) = 0) : mz_J l D vwCl cA yX9_part cX9_part 3 (some .int) 2 43 0 0 [.ref (κ 0), .int t] (mz_CP D cA κ N) (some (.int (mz_rg 5 (N 37) t))) (mz_CP D cA κ (g_X1_endDouble N t)) (mz_A κ mz_lay2) := by
  refine mz_JC fun M h => ?_
  have t0 : M 15 0 = N 15 0 := congrFun (mz_md_r h.1 rfl) 0
  have e37 : M 37 = N 37 := mz_md_r h.1 rfl
  have F := mz_J.of (f_X9_part l D cA κ hI M t w1 (by rw [t0]; exact w2) (by rw [e37]; exact w3) (by rw [mz_sp_busy h, e37]; exact w4))
  obtain ⟨e1, e2⟩ := mz_sp_part h t
  rw [e1] at F
  exact ⟨_, e2, F⟩
/-- what bestHabit answers of N -/
def mz_bst (N : mz_Mem) (g m : Int32) : Int32 := (g_X9_bestHabit (mz_md true (fun k => if k = 121 then N 73 else fun _ => 0) N) g m).1
theorem mz_bst_EQ (N : mz_Mem) : mz_EQ (mz_md true (fun k => if k = 121 then N 73 else fun _ => 0) N) N := mz_EQ.of (F := fun k => if k = 121 then N 73 else fun _ => 0) rfl rfl
theorem mz_nI_le {a b : Nat} (ha : a < 2 ^ 31) (hb : b < 2 ^ 31) (h : nI a = nI b) : a = b := (nI_eq ha hb).mp h
theorem mz_bst_of {M : mz_Mem} (h : mz_EQ M N) {g m : Int32} (hm : 0 < mz_n m) (hp : ∀ c, -1 < mz_kn N g m c) (hn : 0 < mz_n (10 + N 15 0)) : (g_X9_bestHabit M g m).1 = mz_bst N g m := by
  obtain ⟨-, b, b1, b2, b3, b4⟩ := mz_sp_best h hm hp hn
  obtain ⟨-, c, c1, c2, c3, c4⟩ := mz_sp_best (mz_bst_EQ N) hm hp hn
  have hb := mz_n_lt (10 + N 15 0)
  unfold mz_bst
  rw [b2, c2]
  have e1 := b4 c c1 c3
  have e2 := c4 b b1 b3
  have e3 : mz_kn N g m (nI c) = mz_kn N g m (nI b) := Int32.toInt_inj.mp (by
    have h1 := e1.1; have h2 := e2.1
    rw [Int32.le_iff_toInt_le] at h1 h2
    omega)
  have h1 := e1.2 e3
  have h2 := e2.2 e3.symm
  rw [show b = c by omega]
theorem c_bestHabit (hI : mz_I κ mz_lay2) (g m : Int32) (hm : 0 < mz_n m) (hp : ∀ c, -1 < mz_kn N g m c) (hn : 0 < mz_n (10 + N 15 0)) (w1 : ¬ g < 0) (w2 : g < N 60 0) (w3 : ¬ m < 1) (w4 : m ≤ 40) : mz_J l D vwCl cA yX9_bestHabit cX9_bestHabit 7 (some .int) 6 138 0 0 [.ref (κ 0), .int g, .int m] (mz_CP D cA κ N) (some (.int (mz_bst N g m))) (mz_CP D cA κ N) (mz_A κ mz_lay2) := by
  refine mz_JC fun M h => ?_
  have g0 : M 60 0 = N 60 0 := mz_md_r60 h.1
  have F := mz_J.of (f_X9_bestHabit l D cA κ hI M g m w1 (by rw [g0]; exact w2) w3 w4)
  rw [mz_bst_of h hm hp hn] at F
  exact ⟨_, (mz_sp_best h hm hp hn).1, F⟩
end MZCC
