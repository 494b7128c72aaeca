def g_X9_room (M : mz_Mem) (q : Int32) : Int32 × mz_Mem := (((g_X4_addRoom M q).1), (mz_act M (g_X4_addRoom M q).2))
set_option maxHeartbeats 4000000 in
theorem f_X9_room (l : Launch) (D : va_G) (cA : Nat → ClassId) (ρ : Nat → Nat) (hI : mz_I ρ mz_lay2) (M : mz_Mem) (q : Int32) (v1 : ¬ q < 1) (v2 : q ≤ 30) (v3 : (M 1 0) < 8) : mz_M l D vwCl cA ρ mz_lay2 yX9_room cX9_room 2 (some .int) 3 67 [.ref 0, .int q] M (some (.int (g_X9_room M q).1)) (g_X9_room M q).2 := by
  refine mz_in0 (by decide +kernel) (Nat.le_of_ble_eq_true rfl) (fun Γ C E => ?_)
  have E' := (⟨_, _, _, E⟩ : ∃ Qc mc ms, mz_E Γ Qc mc ms (mz_A ρ mz_lay2))
  refine mz_go FLX9 KLX9 C [(0, .iload_n 1), (1, .iconst 1)] (by decide +kernel) (pc' := 2) (L' := [(0, .ref 0), (1, .int q)]) (st' := [.int 1, .int q]) rfl ?_
  refine mz_ilt (off := 9) (tgt := 11) C (by decide +kernel) (by decide) (fun h1 => absurd h1 v1) (fun _ => ?_)
  refine mz_go FLX9 KLX9 C [(5, .iload_n 1), (6, .bipush 30)] (by decide +kernel) (pc' := 8) (L' := [(0, .ref 0), (1, .int q)]) (st' := [.int 30, .int q]) rfl ?_
  refine mz_ile (off := 13) (tgt := 21) C (by decide +kernel) (by decide) (fun _ => ?_) (fun h2 => absurd v2 h2)
  refine mz_go FLX9 KLX9 C [(21, .aload_n 0), (22, .getfield 10), (25, .getfield 42), (28, .bipush 8)] (by decide +kernel) (pc' := 30) (L' := [(0, .ref 0), (1, .int q)]) (st' := [.int 8, .int (M 1 0)]) rfl ?_
  refine mz_ilt (off := 13) (tgt := 43) C (by decide +kernel) (by decide) (fun _ => ?_) (fun h3 => absurd v3 h3)
  refine mz_go FLX9 KLX9 C [(43, .aload_n 0), (44, .getfield 10), (47, .iload_n 1)] (by decide +kernel) (pc' := 48) (L' := [(0, .ref 0), (1, .int q)]) (st' := [.int q, .ref 1]) rfl ?_
  refine mz_callV (As := [.int q]) (rest := []) C E' (mz_liftA hI (f_X4_addRoom l D cA ρ (mz_I1 hI) M q)) hy_X4_addRoom wl_X9_51 rfl rfl rfl ⟨Nat.le_of_ble_eq_true rfl, Nat.le_of_ble_eq_true rfl⟩ ⟨Nat.le_refl _, Nat.le_refl _⟩ (Nat.le_of_ble_eq_true rfl) (by decide +kernel) ?_ rfl
  exact mz_iret C E (by decide +kernel) (rfl) (rfl)
def g_X9_door (M : mz_Mem) (a : Int32) (b : Int32) (q : Int32) : Int32 × mz_Mem := (((g_X4_addDoor M a b q).1), (mz_act M (g_X4_addDoor M a b q).2))
set_option maxHeartbeats 4000000 in
theorem f_X9_door (l : Launch) (D : va_G) (cA : Nat → ClassId) (ρ : Nat → Nat) (hI : mz_I ρ mz_lay2) (M : mz_Mem) (a : Int32) (b : Int32) (q : Int32) (v1 : ¬ a < 0) (v2 : a < (M 1 0)) (v3 : ¬ b < 0) (v4 : b < (M 1 0)) (v5 : ¬ a = b) (v6 : ¬ q < 1) (v7 : q ≤ 6) (v8 : ¬ 14 ≤ (M 1 1)) (v9 : (mz_gg 64 (M 6 0) (M 8) a b) = (-1)) : mz_M l D vwCl cA ρ mz_lay2 yX9_door cX9_door 4 (some .int) 5 121 [.ref 0, .int a, .int b, .int q] M (some (.int (g_X9_door M a b q).1)) (g_X9_door M a b q).2 := by
  refine mz_in0 (by decide +kernel) (Nat.le_of_ble_eq_true rfl) (fun Γ C E => ?_)
  have E' := (⟨_, _, _, E⟩ : ∃ Qc mc ms, mz_E Γ Qc mc ms (mz_A ρ mz_lay2))
  refine mz_go FLX9 KLX9 C [(0, .aload_n 0), (1, .iload_n 1)] (by decide +kernel) (pc' := 2) (L' := [(0, .ref 0), (1, .int a), (2, .int b), (3, .int q)]) (st' := [.int a, .ref 0]) rfl ?_
  refine mz_callV (As := [.int a]) (rest := []) C E' (f_X9_checkRoom l D cA ρ hI M a v1 v2) hy_X9_checkRoom wl_X9_55 rfl rfl rfl ⟨Nat.le_of_ble_eq_true rfl, Nat.le_of_ble_eq_true rfl⟩ ⟨Nat.le_refl _, Nat.le_refl _⟩ (Nat.le_of_ble_eq_true rfl) (by decide +kernel) ?_ rfl
  refine mz_go FLX9 KLX9 C [(5, .aload_n 0), (6, .iload_n 2)] (by decide +kernel) (pc' := 7) (L' := [(0, .ref 0), (1, .int a), (2, .int b), (3, .int q)]) (st' := [.int b, .ref 0]) rfl ?_
  refine mz_callV (As := [.int b]) (rest := []) C E' (f_X9_checkRoom l D cA ρ hI M b v3 v4) hy_X9_checkRoom wl_X9_55 rfl rfl rfl ⟨Nat.le_of_ble_eq_true rfl, Nat.le_of_ble_eq_true rfl⟩ ⟨Nat.le_refl _, Nat.le_refl _⟩ (Nat.le_of_ble_eq_true rfl) (by decide +kernel) ?_ rfl
  refine mz_go FLX9 KLX9 C [(10, .iload_n 1), (11, .iload_n 2)] (by decide +kernel) (pc' := 12) (L' := [(0, .ref 0), (1, .int a), (2, .int b), (3, .int q)]) (st' := [.int b, .int a]) rfl ?_
  refine mz_ieq (off := 14) (tgt := 26) C (by decide +kernel) (by decide) (fun h1 => absurd h1 v5) (fun _ => ?_)
  refine mz_go FLX9 KLX9 C [(15, .iload_n 3), (16, .iconst 1)] (by decide +kernel) (pc' := 17) (L' := [(0, .ref 0), (1, .int a), (2, .int b), (3, .int q)]) (st' := [.int 1, .int q]) rfl ?_
  refine mz_ilt (off := 9) (tgt := 26) C (by decide +kernel) (by decide) (fun h2 => absurd h2 v6) (fun _ => ?_)
  refine mz_go FLX9 KLX9 C [(20, .iload_n 3), (21, .bipush 6)] (by decide +kernel) (pc' := 23) (L' := [(0, .ref 0), (1, .int a), (2, .int b), (3, .int q)]) (st' := [.int 6, .int q]) rfl ?_
  refine mz_ile (off := 13) (tgt := 36) C (by decide +kernel) (by decide) (fun _ => ?_) (fun h3 => absurd v7 h3)
  refine mz_go FLX9 KLX9 C [(36, .aload_n 0), (37, .getfield 10), (40, .getfield 61), (43, .bipush 14)] (by decide +kernel) (pc' := 45) (L' := [(0, .ref 0), (1, .int a), (2, .int b), (3, .int q)]) (st' := [.int 14, .int (M 1 1)]) rfl ?_
  refine mz_ige (off := 19) (tgt := 64) C (by decide +kernel) (by decide) (fun h4 => absurd h4 v8) (fun _ => ?_)
  refine mz_go FLX9 KLX9 C [(48, .aload_n 0), (49, .getfield 10), (52, .getfield 64), (55, .iload_n 1), (56, .iload_n 2)] (by decide +kernel) (pc' := 57) (L' := [(0, .ref 0), (1, .int a), (2, .int b), (3, .int q)]) (st' := [.int b, .int a, .ref 6]) rfl ?_
  refine mz_callV (As := [.int a, .int b]) (rest := []) C E' (f_Grid_get l D cA ρ hI (g := 6) (r := 7) (a := 8) (n := 64) rfl rfl rfl (by decide) M a b) hy_X3_get wl_X9_68 rfl rfl rfl ⟨Nat.le_of_ble_eq_true rfl, Nat.le_of_ble_eq_true rfl⟩ ⟨Nat.le_refl _, Nat.le_refl _⟩ (Nat.le_of_ble_eq_true rfl) (by decide +kernel) ?_ rfl
  refine mz_go FLX9 KLX9 C [(60, .iconst (-1))] (by decide +kernel) (pc' := 61) (L' := [(0, .ref 0), (1, .int a), (2, .int b), (3, .int q)]) (st' := [.int (-1), .int (mz_gg 64 (M 6 0) (M 8) a b)]) rfl ?_
  refine mz_ieq (off := 13) (tgt := 74) C (by decide +kernel) (by decide) (fun _ => ?_) (fun h5 => absurd v9 h5)
  refine mz_go FLX9 KLX9 C [(74, .aload_n 0), (75, .getfield 10), (78, .iload_n 1), (79, .iload_n 2), (80, .iload_n 3)] (by decide +kernel) (pc' := 81) (L' := [(0, .ref 0), (1, .int a), (2, .int b), (3, .int q)]) (st' := [.int q, .int b, .int a, .ref 1]) rfl ?_
  refine mz_callV (As := [.int a, .int b, .int q]) (rest := []) C E' (mz_liftA hI (f_X4_addDoor l D cA ρ (mz_I1 hI) M a b q)) hy_X4_addDoor wl_X9_76 rfl rfl rfl ⟨Nat.le_of_ble_eq_true rfl, Nat.le_of_ble_eq_true rfl⟩ ⟨Nat.le_refl _, Nat.le_refl _⟩ (Nat.le_of_ble_eq_true rfl) (by decide +kernel) ?_ rfl
  exact mz_iret C E (by decide +kernel) (rfl) (rfl)
def g_X9_track (M : mz_Mem) (h : Int32) : Int32 × mz_Mem := (((g_X7_addTrack M h).1), (mz_act (mz_act M (g_X7_addTrack M h).2) (g_X1_enter (mz_act M (g_X7_addTrack M h).2) ((g_X7_addTrack M h).1) h)))
set_option maxHeartbeats 4000000 in
theorem f_X9_track (l : Launch) (D : va_G) (cA : Nat → ClassId) (ρ : Nat → Nat) (hI : mz_I ρ mz_lay2) (M : mz_Mem) (h : Int32) (v1 : ¬ h < 0) (v2 : h < (M 1 0)) (v3 : (M 15 0) < 5) : mz_M l D vwCl cA ρ mz_lay2 yX9_track cX9_track 3 (some .int) 2 44 [.ref 0, .int h] M (some (.int (g_X9_track M h).1)) (g_X9_track M h).2 := by
  refine mz_in0 (by decide +kernel) (Nat.le_of_ble_eq_true rfl) (fun Γ C E => ?_)
  have E' := (⟨_, _, _, E⟩ : ∃ Qc mc ms, mz_E Γ Qc mc ms (mz_A ρ mz_lay2))
  refine mz_go FLX9 KLX9 C [(0, .aload_n 0), (1, .iload_n 1)] (by decide +kernel) (pc' := 2) (L' := [(0, .ref 0), (1, .int h)]) (st' := [.int h, .ref 0]) rfl ?_
  refine mz_callV (As := [.int h]) (rest := []) C E' (f_X9_checkRoom l D cA ρ hI M h v1 v2) hy_X9_checkRoom wl_X9_55 rfl rfl rfl ⟨Nat.le_of_ble_eq_true rfl, Nat.le_of_ble_eq_true rfl⟩ ⟨Nat.le_refl _, Nat.le_refl _⟩ (Nat.le_of_ble_eq_true rfl) (by decide +kernel) ?_ rfl
  refine mz_go FLX9 KLX9 C [(5, .aload_n 0), (6, .getfield 19), (9, .getfield 80), (12, .iconst 5)] (by decide +kernel) (pc' := 13) (L' := [(0, .ref 0), (1, .int h)]) (st' := [.int 5, .int (M 15 0)]) rfl ?_
  refine mz_ilt (off := 13) (tgt := 26) C (by decide +kernel) (by decide) (fun _ => ?_) (fun h1 => absurd v3 h1)
  refine mz_go FLX9 KLX9 C [(26, .aload_n 0), (27, .getfield 19), (30, .iload_n 1)] (by decide +kernel) (pc' := 31) (L' := [(0, .ref 0), (1, .int h)]) (st' := [.int h, .ref 15]) rfl ?_
  refine mz_callV (As := [.int h]) (rest := []) C E' (mz_liftA hI (f_X7_addTrack l D cA ρ (mz_I1 hI) M h)) hy_X7_addTrack wl_X9_85 rfl rfl rfl ⟨Nat.le_of_ble_eq_true rfl, Nat.le_of_ble_eq_true rfl⟩ ⟨Nat.le_refl _, Nat.le_refl _⟩ (Nat.le_of_ble_eq_true rfl) (by decide +kernel) ?_ rfl
  refine mz_go FLX9 KLX9 C [(34, .istore_n 2), (35, .aload_n 0), (36, .getfield 28), (39, .getfield 88), (42, .iload_n 2), (43, .iload_n 1)] (by decide +kernel) (pc' := 44) (L' := [(2, .int ((g_X7_addTrack M h).1)), (0, .ref 0), (1, .int h)]) (st' := [.int h, .int ((g_X7_addTrack M h).1), .ref 33]) rfl ?_
  refine mz_callV (As := [.int ((g_X7_addTrack M h).1), .int h]) (rest := []) C E' (mz_liftA hI (f_X1_enter l D cA ρ (mz_I1 hI) (mz_act M (g_X7_addTrack M h).2) ((g_X7_addTrack M h).1) h)) hy_X1_enter wl_X9_92 rfl rfl rfl ⟨Nat.le_of_ble_eq_true rfl, Nat.le_of_ble_eq_true rfl⟩ ⟨Nat.le_refl _, Nat.le_refl _⟩ (Nat.le_of_ble_eq_true rfl) (by decide +kernel) ?_ rfl
  refine mz_go FLX9 KLX9 C [(47, .iload_n 2)] (by decide +kernel) (pc' := 48) (L' := [(2, .int ((g_X7_addTrack M h).1)), (0, .ref 0), (1, .int h)]) (st' := [.int ((g_X7_addTrack M h).1)]) rfl ?_
  exact mz_iret C E (by decide +kernel) (rfl) (rfl)
def g_X9_prop (M : mz_Mem) (h : Int32) : Int32 × mz_Mem := (((g_X7_addProp M h).1), (mz_act (mz_act M (g_X7_addProp M h).2) (g_X5_lay (mz_act M (g_X7_addProp M h).2) ((g_X7_addProp M h).1) h)))
set_option maxHeartbeats 4000000 in
theorem f_X9_prop (l : Launch) (D : va_G) (cA : Nat → ClassId) (ρ : Nat → Nat) (hI : mz_I ρ mz_lay2) (M : mz_Mem) (h : Int32) (v1 : ¬ h < 0) (v2 : h < (M 1 0)) (v3 : (M 15 1) < 4) : mz_M l D vwCl cA ρ mz_lay2 yX9_prop cX9_prop 3 (some .int) 2 44 [.ref 0, .int h] M (some (.int (g_X9_prop M h).1)) (g_X9_prop M h).2 := by
  refine mz_in0 (by decide +kernel) (Nat.le_of_ble_eq_true rfl) (fun Γ C E => ?_)
  have E' := (⟨_, _, _, E⟩ : ∃ Qc mc ms, mz_E Γ Qc mc ms (mz_A ρ mz_lay2))
  refine mz_go FLX9 KLX9 C [(0, .aload_n 0), (1, .iload_n 1)] (by decide +kernel) (pc' := 2) (L' := [(0, .ref 0), (1, .int h)]) (st' := [.int h, .ref 0]) rfl ?_
  refine mz_callV (As := [.int h]) (rest := []) C E' (f_X9_checkRoom l D cA ρ hI M h v1 v2) hy_X9_checkRoom wl_X9_55 rfl rfl rfl ⟨Nat.le_of_ble_eq_true rfl, Nat.le_of_ble_eq_true rfl⟩ ⟨Nat.le_refl _, Nat.le_refl _⟩ (Nat.le_of_ble_eq_true rfl) (by decide +kernel) ?_ rfl
  refine mz_go FLX9 KLX9 C [(5, .aload_n 0), (6, .getfield 19), (9, .getfield 98), (12, .iconst 4)] (by decide +kernel) (pc' := 13) (L' := [(0, .ref 0), (1, .int h)]) (st' := [.int 4, .int (M 15 1)]) rfl ?_
  refine mz_ilt (off := 13) (tgt := 26) C (by decide +kernel) (by decide) (fun _ => ?_) (fun h1 => absurd v3 h1)
  refine mz_go FLX9 KLX9 C [(26, .aload_n 0), (27, .getfield 19), (30, .iload_n 1)] (by decide +kernel) (pc' := 31) (L' := [(0, .ref 0), (1, .int h)]) (st' := [.int h, .ref 15]) rfl ?_
  refine mz_callV (As := [.int h]) (rest := []) C E' (mz_liftA hI (f_X7_addProp l D cA ρ (mz_I1 hI) M h)) hy_X7_addProp wl_X9_103 rfl rfl rfl ⟨Nat.le_of_ble_eq_true rfl, Nat.le_of_ble_eq_true rfl⟩ ⟨Nat.le_refl _, Nat.le_refl _⟩ (Nat.le_of_ble_eq_true rfl) (by decide +kernel) ?_ rfl
  refine mz_go FLX9 KLX9 C [(34, .istore_n 2), (35, .aload_n 0), (36, .getfield 28), (39, .getfield 106), (42, .iload_n 2), (43, .iload_n 1)] (by decide +kernel) (pc' := 44) (L' := [(2, .int ((g_X7_addProp M h).1)), (0, .ref 0), (1, .int h)]) (st' := [.int h, .int ((g_X7_addProp M h).1), .ref 51]) rfl ?_
  refine mz_callV (As := [.int ((g_X7_addProp M h).1), .int h]) (rest := []) C E' (mz_liftA hI (f_X5_lay l D cA ρ (mz_I1 hI) (mz_act M (g_X7_addProp M h).2) ((g_X7_addProp M h).1) h)) hy_X5_lay wl_X9_109 rfl rfl rfl ⟨Nat.le_of_ble_eq_true rfl, Nat.le_of_ble_eq_true rfl⟩ ⟨Nat.le_refl _, Nat.le_refl _⟩ (Nat.le_of_ble_eq_true rfl) (by decide +kernel) ?_ rfl
  refine mz_go FLX9 KLX9 C [(47, .iload_n 2)] (by decide +kernel) (pc' := 48) (L' := [(2, .int ((g_X7_addProp M h).1)), (0, .ref 0), (1, .int h)]) (st' := [.int ((g_X7_addProp M h).1)]) rfl ?_
  exact mz_iret C E (by decide +kernel) (rfl) (rfl)
def g_X9_guest (M : mz_Mem) (r : Int32) : Int32 × mz_Mem := (((g_X0_enter M r).1), (mz_act M (g_X0_enter M r).2))
set_option maxHeartbeats 4000000 in
theorem f_X9_guest (l : Launch) (D : va_G) (cA : Nat → ClassId) (ρ : Nat → Nat) (hI : mz_I ρ mz_lay2) (M : mz_Mem) (r : Int32) (v1 : ¬ r < 0) (v2 : r < (M 1 0)) (v3 : ¬ 12 ≤ (M 60 0)) (v4 : (g_X2_isFull M r) = 0) : mz_M l D vwCl cA ρ mz_lay2 yX9_guest cX9_guest 2 (some .int) 3 67 [.ref 0, .int r] M (some (.int (g_X9_guest M r).1)) (g_X9_guest M r).2 := by
  refine mz_in0 (by decide +kernel) (Nat.le_of_ble_eq_true rfl) (fun Γ C E => ?_)
  have E' := (⟨_, _, _, E⟩ : ∃ Qc mc ms, mz_E Γ Qc mc ms (mz_A ρ mz_lay2))
  refine mz_go FLX9 KLX9 C [(0, .aload_n 0), (1, .iload_n 1)] (by decide +kernel) (pc' := 2) (L' := [(0, .ref 0), (1, .int r)]) (st' := [.int r, .ref 0]) rfl ?_
  refine mz_callV (As := [.int r]) (rest := []) C E' (f_X9_checkRoom l D cA ρ hI M r v1 v2) hy_X9_checkRoom wl_X9_55 rfl rfl rfl ⟨Nat.le_of_ble_eq_true rfl, Nat.le_of_ble_eq_true rfl⟩ ⟨Nat.le_refl _, Nat.le_refl _⟩ (Nat.le_of_ble_eq_true rfl) (by decide +kernel) ?_ rfl
  refine mz_go FLX9 KLX9 C [(5, .aload_n 0), (6, .getfield 28), (9, .getfield 146), (12, .getfield 150), (15, .bipush 12)] (by decide +kernel) (pc' := 17) (L' := [(0, .ref 0), (1, .int r)]) (st' := [.int 12, .int (M 60 0)]) rfl ?_
  refine mz_ige (off := 14) (tgt := 31) C (by decide +kernel) (by decide) (fun h1 => absurd h1 v3) (fun _ => ?_)
  refine mz_go FLX9 KLX9 C [(20, .aload_n 0), (21, .getfield 28), (24, .iload_n 1)] (by decide +kernel) (pc' := 25) (L' := [(0, .ref 0), (1, .int r)]) (st' := [.int r, .ref 30]) rfl ?_
  refine mz_callV (As := [.int r]) (rest := []) C E' (mz_liftAR hI (f_X2_isFull l D cA ρ (mz_I1 hI) M r)) hy_X2_isFull wl_X9_155 rfl rfl rfl ⟨Nat.le_of_ble_eq_true rfl, Nat.le_of_ble_eq_true rfl⟩ ⟨Nat.le_refl _, Nat.le_refl _⟩ (Nat.le_of_ble_eq_true rfl) (by decide +kernel) ?_ rfl
  refine mz_zeq (off := 13) (tgt := 41) C (by decide +kernel) (by decide) (fun _ => ?_) (fun h2 => absurd v4 h2)
  refine mz_go FLX9 KLX9 C [(41, .aload_n 0), (42, .getfield 28), (45, .getfield 146), (48, .iload_n 1)] (by decide +kernel) (pc' := 49) (L' := [(0, .ref 0), (1, .int r)]) (st' := [.int r, .ref 60]) rfl ?_
  refine mz_callV (As := [.int r]) (rest := []) C E' (mz_liftA hI (f_X0_enter l D cA ρ (mz_I1 hI) M r)) hy_X0_enter wl_X9_160 rfl rfl rfl ⟨Nat.le_of_ble_eq_true rfl, Nat.le_of_ble_eq_true rfl⟩ ⟨Nat.le_refl _, Nat.le_refl _⟩ (Nat.le_of_ble_eq_true rfl) (by decide +kernel) ?_ rfl
  exact mz_iret C E (by decide +kernel) (rfl) (rfl)
def g_X9_pass (M : mz_Mem) (m : Int32) : Int32 × mz_Mem := (((mz_sum 12 ((mz_act M (g_X2_run M m)) 48)) - (mz_sum 12 (M 48))), (mz_act M (g_X2_run M m)))
theorem g_X9_pass_hs (M : mz_Mem) (m : Int32) : mz_hs M (g_X9_pass M m).2 := by
  unfold g_X9_pass
  exact mz_hs_act (g_X2_run_hs M m)

set_option maxHeartbeats 4000000 in
theorem f_X9_pass (l : Launch) (D : va_G) (cA : Nat → ClassId) (ρ : Nat → Nat) (hI : mz_I ρ mz_lay2) (M : mz_Mem) (m : Int32) (v1 : ¬ m < 1) (v2 : m ≤ 60) (v3 : ((M 30 7) + m) ≤ 600) : mz_M l D vwCl cA ρ mz_lay2 yX9_pass cX9_pass 3 (some .int) 6 138 [.ref 0, .int m] M (some (.int (g_X9_pass M m).1)) (g_X9_pass M m).2 := by
  refine mz_in0 (by decide +kernel) (Nat.le_of_ble_eq_true rfl) (fun Γ C E => ?_)
  have E' := (⟨_, _, _, E⟩ : ∃ Qc mc ms, mz_E Γ Qc mc ms (mz_A ρ mz_lay2))
  refine mz_go FLX9 KLX9 C [(0, .iload_n 1), (1, .bipush 60)] (by decide +kernel) (pc' := 3) (L' := [(0, .ref 0), (1, .int m)]) (st' := [.int 60, .int m]) rfl ?_
  refine mz_callS (As := [.int m, .int 60]) (rest := []) C E' (f_X9_checkMinutes l D cA ρ hI M m 60 v1 v2) hs_X9_checkMinutes wl_X9_182 rfl ⟨Nat.le_of_ble_eq_true rfl, Nat.le_of_ble_eq_true rfl⟩ ⟨Nat.le_refl _, Nat.le_refl _⟩ (Nat.le_of_ble_eq_true rfl) (by decide +kernel) ?_ rfl
  refine mz_go FLX9 KLX9 C [(6, .aload_n 0), (7, .getfield 28), (10, .getfield 126), (13, .iload_n 1), (14, .iadd), (15, .sipush 600)] (by decide +kernel) (pc' := 18) (L' := [(0, .ref 0), (1, .int m)]) (st' := [.int 600, .int ((M 30 7) + m)]) rfl ?_
  refine mz_ile (off := 13) (tgt := 31) C (by decide +kernel) (by decide) (fun _ => ?_) (fun h1 => absurd v3 h1)
  refine mz_go FLX9 KLX9 C [(31, .aload_n 0), (32, .getfield 28), (35, .getfield 187), (38, .getfield 191)] (by decide +kernel) (pc' := 41) (L' := [(0, .ref 0), (1, .int m)]) (st' := [.ref 47]) rfl ?_
  refine mz_callV (As := []) (rest := []) C E' (f_Row_sum l D cA ρ hI (r := 47) (a := 48) (n := 12) rfl rfl (by decide) M ) hy_X6_sum wl_X9_196 rfl rfl rfl ⟨Nat.le_of_ble_eq_true rfl, Nat.le_of_ble_eq_true rfl⟩ ⟨Nat.le_refl _, Nat.le_refl _⟩ (Nat.le_of_ble_eq_true rfl) (by decide +kernel) ?_ rfl
  refine mz_go FLX9 KLX9 C [(44, .istore_n 2), (45, .aload_n 0), (46, .getfield 28), (49, .iload_n 1)] (by decide +kernel) (pc' := 50) (L' := [(2, .int (mz_sum 12 (M 48))), (0, .ref 0), (1, .int m)]) (st' := [.int m, .ref 30]) rfl ?_
  refine mz_callV (As := [.int m]) (rest := []) C E' (mz_liftA hI (f_X2_run l D cA ρ (mz_I1 hI) M m)) hy_X2_run wl_X9_200 rfl rfl rfl ⟨Nat.le_of_ble_eq_true rfl, Nat.le_of_ble_eq_true rfl⟩ ⟨Nat.le_refl _, Nat.le_refl _⟩ (Nat.le_of_ble_eq_true rfl) (by decide +kernel) ?_ rfl
  refine mz_go FLX9 KLX9 C [(53, .aload_n 0), (54, .getfield 28), (57, .getfield 187), (60, .getfield 191)] (by decide +kernel) (pc' := 63) (L' := [(2, .int (mz_sum 12 (M 48))), (0, .ref 0), (1, .int m)]) (st' := [.ref 47]) rfl ?_
  refine mz_callV (As := []) (rest := []) C E' (f_Row_sum l D cA ρ hI (r := 47) (a := 48) (n := 12) rfl rfl (by decide) (mz_act M (g_X2_run M m)) ) hy_X6_sum wl_X9_196 rfl rfl rfl ⟨Nat.le_of_ble_eq_true rfl, Nat.le_of_ble_eq_true rfl⟩ ⟨Nat.le_refl _, Nat.le_refl _⟩ (Nat.le_of_ble_eq_true rfl) (by decide +kernel) ?_ rfl
  refine mz_go FLX9 KLX9 C [(66, .iload_n 2), (67, .isub)] (by decide +kernel) (pc' := 68) (L' := [(2, .int (mz_sum 12 (M 48))), (0, .ref 0), (1, .int m)]) (st' := [.int ((mz_sum 12 ((mz_act M (g_X2_run M m)) 48)) - (mz_sum 12 (M 48)))]) rfl ?_
  exact mz_iret C E (by decide +kernel) (rfl) (rfl)
