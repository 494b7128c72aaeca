theorem mz_fr_0 {α : Type} {n : Int32} {F : Int32 → α → α} {a : α} (h : n = 0) : mz_fr n F a = a := by
  rw [h]
  rfl
/-- an evening of nothing: no tracks, no props, no scenes, no guests -/
def mz_Em (M : mz_Mem) : Prop := M 15 0 = 0 ∧ M 15 1 = 0 ∧ M 15 2 = 0 ∧ M 60 0 = 0
def mz_qt (a b : mz_Mem) : Prop := ∀ k, k ≠ 30 → k ≠ 32 → k ≠ 75 → b k = a k
theorem mz_Em.qt {a b : mz_Mem} (h : mz_Em a) (q : mz_qt a b) : mz_Em b := by
  have h15 := q 15 (by decide) (by decide) (by decide)
  have h60 := q 60 (by decide) (by decide) (by decide)
  exact ⟨by rw [h15]; exact h.1, by rw [h15]; exact h.2.1, by rw [h15]; exact h.2.2.1, by rw [h60]; exact h.2.2.2⟩
theorem mz_qt_s {M : mz_Mem} {k : Nat} {f : Nat → Int32} (h : k = 30 ∨ k = 32 ∨ k = 75) : mz_qt M (mz_s M k f) := fun j h1 h2 h3 => mz_s_ne (by omega)
theorem mz_qt.trans {a b c : mz_Mem} (h : mz_qt a b) (g : mz_qt b c) : mz_qt a c := fun k h1 h2 h3 => (g k h1 h2 h3).trans (h k h1 h2 h3)
theorem mz_e_mt {M : mz_Mem} (h : mz_Em M) : g_X2_moveTracks M = M := mz_fr_0 h.1
theorem mz_e_ps {M : mz_Mem} (h : mz_Em M) : g_X2_performScenes M = M := mz_fr_0 h.2.2.1
theorem mz_e_ss {M : mz_Mem} (h : mz_Em M) : g_X2_showScenes M = M := mz_fr_0 h.2.2.1
theorem mz_e_mg {M : mz_Mem} (h : mz_Em M) : g_X2_moveGuests M = mz_s M 32 (fun _ => 0) := mz_fr_0 (by rw [mz_s_ne (by decide)]; exact h.2.2.2)
theorem mz_e_bl {M : mz_Mem} (h : mz_Em M) : g_X2_beginLoop M = mz_s M 75 (fun _ => 0) := by
  unfold g_X2_beginLoop
  have e1 : g_X8_restart M = M := mz_fr_0 h.2.2.1
  have e2 : g_X5_goHome M = M := mz_fr_0 h.2.1
  rw [e1, e2]
theorem mz_e_rest {B : mz_Mem} (h : mz_Em B) : g_X2_showScenes (g_X2_moveGuests (g_X2_performScenes (g_X2_moveTracks B))) = mz_s B 32 (fun _ => 0) := by
  rw [mz_e_mt h, mz_e_ps h, mz_e_mg h, mz_e_ss (h.qt (mz_qt_s (by decide)))]
theorem mz_e_run1 (M : mz_Mem) (m i : Int32) (a : mz_Mem) (h : mz_Em a) : mz_qt a (g_X2_run_1 M m i a) := by
  have q0 : mz_qt a (mz_s a 30 (upd (a 30) 7 ((a 30 7) + 1))) := mz_qt_s (by decide)
  unfold g_X2_run_1
  generalize mz_s a 30 (upd (a 30) 7 ((a 30 7) + 1)) = B at q0
  have hB := h.qt q0
  split
  · rw [mz_e_bl hB, mz_e_rest (hB.qt (mz_qt_s (by decide)))]
    exact (q0.trans (mz_qt_s (by decide))).trans (mz_qt_s (by decide))
  · rw [mz_e_rest hB]
    exact q0.trans (mz_qt_s (by decide))
theorem mz_e_run {M : mz_Mem} (m : Int32) (h : mz_Em M) : mz_qt M (g_X2_run M m) :=
  mz_lp_ind (g_X2_run_1 M m) (fun a b => mz_Em a → mz_qt a b) (fun _ _ _ _ _ _ => rfl) (fun a b c h1 h2 ha => (h1 ha).trans (h2 (ha.qt (h1 ha)))) (fun i a ha => mz_e_run1 M m i a ha) _ _ _ h
theorem mz_Em7 : mz_Em mz_m7 := ⟨rfl, rfl, rfl, rfl⟩
theorem mz_EmC : mz_Em (mz_tv (g_X2_copyFrom mz_m7)) := ⟨by decide +kernel, by decide +kernel, by decide +kernel, by decide +kernel⟩
theorem mz_v_room (a : Int32) : (g_X9_room mz_m7 a).1 = 0 := rfl
theorem mz_v_many (w : Int32) : g_X9_many mz_m7 w = 0 := by
  have e0 : mz_m7 30 7 = 0 := rfl
  have e1 : mz_m7 1 0 = 0 := rfl
  have e2 : mz_m7 1 1 = 0 := rfl
  have e3 : mz_m7 15 0 = 0 := rfl
  have e4 : mz_m7 15 2 = 0 := rfl
  have e5 : mz_m7 15 1 = 0 := rfl
  have e6 : mz_m7 60 0 = 0 := rfl
  have e7 : g_X8_countRunning mz_m7 = 0 := by decide +kernel
  have e8 : mz_sum 12 (mz_m7 48) = 0 := by decide +kernel
  have e9 : mz_sum 12 (mz_m7 50) = 0 := by decide +kernel
  have e10 : mz_m7 40 6 = 0 := rfl
  have e11 : (0 : Int32) - mz_bitc (g_X0_knownByAny mz_m7) = 0 := by decide +kernel
  have e12 : mz_sum 12 (mz_m7 72) = 0 := by decide +kernel
  unfold g_X9_many
  rw [e0, e1, e2, e3, e4, e5, e6, e7, e8, e9, e10, e11, e12]
  simp only [ite_self]
theorem mz_v_pass (m : Int32) : (g_X9_pass mz_m7 m).1 = 0 := by
  show mz_sum 12 ((mz_act mz_m7 (g_X2_run mz_m7 m)) 48) - mz_sum 12 (mz_m7 48) = 0
  rw [mz_act_lo (by decide) (by decide), mz_e_run m mz_Em7 48 (by decide) (by decide) (by decide)]
  decide +kernel
theorem mz_v_tri {C : mz_Mem} (m : Int32) (h : mz_Em (mz_tv C)) : (mz_tri C (g_X2_run (mz_tv C) m)) 98 = C 98 ∧ (mz_tri C (g_X2_run (mz_tv C) m)) 108 = C 108 ∧ (∀ k, k < 78 → (mz_tri C (g_X2_run (mz_tv C) m)) k = C k) := by
  refine ⟨?_, ?_, fun k hk => mz_tri_lo hk⟩
  · show (if 78 ≤ 98 ∧ 98 < 126 then (g_X2_run (mz_tv C) m) (98 - 48) else C 98) = C 98
    rw [if_pos (by decide)]
    exact mz_e_run m h 50 (by decide) (by decide) (by decide)
  · show (if 78 ≤ 108 ∧ 108 < 126 then (g_X2_run (mz_tv C) m) (108 - 48) else C 108) = C 108
    rw [if_pos (by decide)]
    exact mz_e_run m h 60 (by decide) (by decide) (by decide)
theorem mz_v_cut0 : mz_sum 12 (g_X2_copyFrom mz_m7 98) - mz_sum 12 (g_X2_copyFrom mz_m7 50) = 0 := by decide +kernel
theorem mz_v_wouldCut (m : Int32) : (g_X9_wouldCut mz_m7 m).1 = 0 := by
  obtain ⟨e1, -, e2⟩ := mz_v_tri m mz_EmC
  show mz_sum 12 ((mz_tri (g_X2_copyFrom mz_m7) (g_X2_run (mz_tv (g_X2_copyFrom mz_m7)) m)) 98) - mz_sum 12 ((mz_tri (g_X2_copyFrom mz_m7) (g_X2_run (mz_tv (g_X2_copyFrom mz_m7)) m)) 50) = 0
  rw [e1, e2 50 (by decide)]
  exact mz_v_cut0
theorem mz_v_d13 : mz_fr 13 (g_X9_digest_1 mz_m7) 9103 = mz_dg 13 := by decide +kernel
theorem mz_v_digest : (g_X9_digest mz_m7).1 = mz_dg 14 := by
  unfold g_X9_digest
  obtain ⟨a1, a2, a3⟩ := mz_v_tri 5 mz_EmC
  generalize hT : mz_tri (g_X2_copyFrom mz_m7) (g_X2_run (mz_tv (g_X2_copyFrom mz_m7)) 5) = T at a1 a2 a3
  have hT2 : mz_Em (mz_tv T) := by
    have e15 : mz_tv T 15 = mz_tv (g_X2_copyFrom mz_m7) 15 := a3 15 (by decide)
    have e60 : mz_tv T 60 = mz_tv (g_X2_copyFrom mz_m7) 60 := a2
    have h := mz_EmC
    exact ⟨by rw [e15]; exact h.1, by rw [e15]; exact h.2.1, by rw [e15]; exact h.2.2.1, by rw [e60]; exact h.2.2.2⟩
  obtain ⟨b1, -, b3⟩ := mz_v_tri 4 hT2
  have hcut : g_X9_countCutsOfTrial (mz_tri T (g_X2_run (mz_tv T) 4)) = 0 := by
    show mz_sum 12 ((mz_tri T (g_X2_run (mz_tv T) 4)) 98) - mz_sum 12 ((mz_tri T (g_X2_run (mz_tv T) 4)) 50) = 0
    rw [b1, b3 50 (by decide), a1, a3 50 (by decide)]
    exact mz_v_cut0
  have h1 : ∀ d, g_X9_foldRooms mz_m7 d = d := fun d => mz_fr_0 rfl
  have h2 : ∀ d, g_X9_foldTracks mz_m7 d = d := fun d => mz_fr_0 rfl
  have h3 : ∀ d, g_X9_foldScenes mz_m7 d = d := fun d => mz_fr_0 rfl
  have h4 : ∀ d, g_X9_foldProps mz_m7 d = d := fun d => mz_fr_0 rfl
  have h5 : ∀ d, g_X9_foldGuests T d = d := fun d => mz_fr_0 (by rw [a3 60 (by decide)]; decide +kernel)
  show g_X9_fold (mz_tri T (g_X2_run (mz_tv T) 4)) (g_X9_foldGuests T (g_X9_foldProps mz_m7 (g_X9_foldScenes mz_m7 (g_X9_foldTracks mz_m7 (g_X9_foldRooms mz_m7 (mz_fr 13 (g_X9_digest_1 mz_m7) 9103)))))) ((g_X9_countCutsOfTrial (mz_tri T (g_X2_run (mz_tv T) 4))).toInt64) = _
  rw [hcut, h1, h2, h3, h4, h5, mz_v_d13]
  rfl
theorem mz_J.wide {l : Launch} {D : va_G} {cl : List vw_C} {cA : Nat → ClassId} {y : MethodName} {cc : ByteArray} {nL fr lo mc ms : Nat} {ret : Option FieldType} {As : List Value} {Pre Post : Heap → Prop} {r : Option Value} {A B : Nat → Prop}
    (F : mz_J l D cl cA y cc nL ret fr lo mc ms As Pre r Post A) (hAB : ∀ q, A q → B q) : mz_J l D cl cA y cc nL ret fr lo mc ms As Pre r Post B := by
  intro p e ha hc hk s m args below hf happ hv _
  obtain ⟨n, o, g1, g2, g3, ⟨ho, hp, hF⟩, Lc, g4, g5⟩ := F p e ha hc hk s m args below hf happ hv trivial
  exact ⟨n, o, g1, g2, g3, ⟨ho, hp, hF.1, fun q hq hn => hF.2 q hq (fun h => hn (hAB q h))⟩, Lc, g4, fun q hq => hAB _ (g5 q hq)⟩
theorem mz_lay2_lt {k : Nat} {sh : mz_Sh} (h : mz_lay2 k = some sh) : k < 126 := mz_lf_lt h
/-- a contract over the whole object, at its place; what it holds then is not asked -/
theorem mz_cJ {l : Launch} {D : va_G} {cA : Nat → ClassId} {x : Nat} {y : MethodName} {cc : ByteArray} {nL fr lo : Nat} {ret : Option FieldType} {As As' : List Value} {M M' : mz_Mem} {r r' : Option Value} (F : mz_M l D vwCl cA (fun k => x + k) mz_lay2 y cc nL ret fr lo As M r M') (hAs : As' = As.map (mz_e (fun k => x + k))) (hr : r' = r.map (mz_e (fun k => x + k))) :
    mz_J l D vwCl cA y cc nL ret fr lo 0 0 As' (mz_H D vwCl cA (fun k => x + k) mz_lay2 M) r' (fun _ => True) (fun q => x ≤ q ∧ q < x + 126) := by
  subst hAs; subst hr
  exact ((mz_J.of F).weaken (fun _ h => h) (fun _ _ _ _ _ _ => trivial)).wide (by
    rintro q ⟨k, sh, hk, rfl⟩
    have := mz_lay2_lt hk
    exact ⟨Nat.le_add_right _ _, by show x + k < x + 126; omega⟩)
theorem c_room (l : Launch) (D : va_G) (cA : Nat → ClassId) (x : Nat) (a : Int32) (h : 1 ≤ a ∧ a ≤ 30) : mz_J l D vwCl cA yX9_room cX9_room 2 (some .int) 3 67 0 0 [.ref x, .int a] (mz_H D vwCl cA (fun k => x + k) mz_lay2 mz_m7) (some (.int 0)) (fun _ => True) (fun q => x ≤ q ∧ q < x + 126) :=
  mz_cJ (f_X9_room l D cA (fun k => x + k) mz_Ix mz_m7 a (Int32.not_lt.mpr h.1) h.2 (by decide)) rfl (by rw [mz_v_room]; rfl)
theorem c_pass (l : Launch) (D : va_G) (cA : Nat → ClassId) (x : Nat) (a : Int32) (h : 1 ≤ a ∧ a ≤ 60) : mz_J l D vwCl cA yX9_pass cX9_pass 3 (some .int) 6 138 0 0 [.ref x, .int a] (mz_H D vwCl cA (fun k => x + k) mz_lay2 mz_m7) (some (.int 0)) (fun _ => True) (fun q => x ≤ q ∧ q < x + 126) :=
  mz_cJ (f_X9_pass l D cA (fun k => x + k) mz_Ix mz_m7 a (Int32.not_lt.mpr h.1) h.2 (mz_600 h)) rfl (by rw [mz_v_pass]; rfl)
theorem c_many (l : Launch) (D : va_G) (cA : Nat → ClassId) (x : Nat) (a : Int32) (h : 0 ≤ a ∧ a ≤ 12) : mz_J l D vwCl cA yX9_many cX9_many 2 (some .int) 2 43 0 0 [.ref x, .int a] (mz_H D vwCl cA (fun k => x + k) mz_lay2 mz_m7) (some (.int 0)) (fun _ => True) (fun q => x ≤ q ∧ q < x + 126) :=
  mz_cJ (f_X9_many l D cA (fun k => x + k) mz_Ix mz_m7 a (Int32.not_lt.mpr h.1) h.2) rfl (by rw [mz_v_many]; rfl)
theorem c_wouldCut (l : Launch) (D : va_G) (cA : Nat → ClassId) (x : Nat) (a : Int32) (h : 1 ≤ a ∧ a ≤ 40) : mz_J l D vwCl cA yX9_wouldCut cX9_wouldCut 2 (some .int) 6 138 0 0 [.ref x, .int a] (mz_H D vwCl cA (fun k => x + k) mz_lay2 mz_m7) (some (.int 0)) (fun _ => True) (fun q => x ≤ q ∧ q < x + 126) :=
  mz_cJ (f_X9_wouldCut l D cA (fun k => x + k) mz_Ix mz_m7 a (Int32.not_lt.mpr h.1) h.2) rfl (by rw [mz_v_wouldCut]; rfl)
theorem c_digest (l : Launch) (D : va_G) (cA : Nat → ClassId) (x : Nat)  : mz_J l D vwCl cA yX9_digest cX9_digest 4 (some .long) 6 142 0 0 [.ref x] (mz_H D vwCl cA (fun k => x + k) mz_lay2 mz_m7) (some (.long (mz_dg 14))) (fun _ => True) (fun q => x ≤ q ∧ q < x + 126) :=
  mz_cJ (f_X9_digest l D cA (fun k => x + k) mz_Ix mz_m7) rfl (by rw [mz_v_digest]; rfl)
set_option maxHeartbeats 4000000 in
theorem c_meanKnown (l : Launch) (D : va_G) (cA : Nat → ClassId) (x : Nat) : mz_J l D vwCl cA yX9_meanKnown cX9_meanKnown 2 (some .double) 0 0 0 0 [.ref x] (mz_H D vwCl cA (fun k => x + k) mz_lay2 mz_m7) (some (.double FP.dconst0)) (fun _ => True) (fun q => x ≤ q ∧ q < x + 126) := by
  refine mz_introJ (ρ := (fun k => x + k)) (As0 := [.ref 0]) (by decide +kernel) (Nat.le_of_ble_eq_true rfl) rfl (fun Γ C hO E hN => ?_)
  refine mz_goP (lay := mz_lay2) (M := mz_m7) (cA := cA) (D := D) (cl := vwCl) (fun H h => h) FLX9 KLX9 C [(0, .aload_n 0), (1, .getfield 28), (4, .getfield 146), (7, .getfield 150), (10, .istore_n 1), (11, .iload_n 1)] (by decide +kernel) (pc' := 12) (L' := [(1, .int 0), (0, .ref 0)]) (st' := [.int 0]) rfl ?_
  refine mz_zle (off := 20) (tgt := 32) C (by decide +kernel) (by decide) (fun _ => ?_) (fun q => absurd (by decide) q)
  refine mz_dc0 C (by decide +kernel) ?_
  exact mz_jdret C E (by decide +kernel) rfl (fun H h => trivial)
theorem c_new (l : Launch) (D : va_G) (cA : Nat → ClassId) (x : Nat) : mz_J l D vwCl cA yX9_init cX9_init 1 none 5 108 125 1088 [.ref x] (mz_S D vwCl cA x mz_k0 1 mz_Z) none (mz_S D vwCl cA x mz_lay2 126 mz_m7) (fun q => x ≤ q) := by
  intro p e ha hc hk s m args below hf happ hv _
  obtain ⟨hA, hP, hK⟩ := hv
  exact n_ManorLoops_0 l D cA x p e ha hc hk s m args below hf happ ⟨hA, hP, mz_K1 rfl hK.1⟩ trivial
