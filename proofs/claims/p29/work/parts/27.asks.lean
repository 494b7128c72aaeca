def g_X9_ofRoom (M : mz_Mem) (r : Int32) (w : Int32) : Int32 := if w = 0 then (mz_rg 8 (M 3) r) else if w = 1 then (mz_rg 8 (M 77) r) else if w = 2 then (g_X1_setIn M r) else if w = 3 then (g_X8_runningIn M r) else (g_X5_lyingIn M r)
set_option maxHeartbeats 4000000 in
theorem f_X9_ofRoom (l : Launch) (D : va_G) (cA : Nat → ClassId) (ρ : Nat → Nat) (hI : mz_I ρ mz_lay2) (M : mz_Mem) (r : Int32) (w : Int32) (v1 : ¬ r < 0) (v2 : r < (M 1 0)) (v3 : ¬ w < 0) (v4 : w ≤ 4) : mz_M l D vwCl cA ρ mz_lay2 yX9_ofRoom cX9_ofRoom 3 (some .int) 2 44 [.ref 0, .int r, .int w] M (some (.int (g_X9_ofRoom M r w))) M := by
  refine mz_in0 (by decide +kernel) (Nat.le_of_ble_eq_true rfl) (fun Γ C E => ?_)
  have E' := (⟨_, _, _, E⟩ : ∃ Qc mc ms, mz_E Γ Qc mc ms (mz_A ρ mz_lay2))
  refine mz_go FLX9 KLX9 C [(0, .aload_n 0), (1, .iload_n 1)] (by decide +kernel) (pc' := 2) (L' := [(0, .ref 0), (1, .int r), (2, .int w)]) (st' := [.int r, .ref 0]) rfl ?_
  refine mz_callV (As := [.int r]) (rest := []) C E' (f_X9_checkRoom l D cA ρ hI M r v1 v2) hy_X9_checkRoom wl_X9_55 rfl rfl rfl ⟨Nat.le_of_ble_eq_true rfl, Nat.le_of_ble_eq_true rfl⟩ ⟨Nat.le_refl _, Nat.le_refl _⟩ (Nat.le_of_ble_eq_true rfl) (by decide +kernel) ?_ rfl
  refine mz_go FLX9 KLX9 C [(5, .iload_n 2), (6, .iconst 4)] (by decide +kernel) (pc' := 7) (L' := [(0, .ref 0), (1, .int r), (2, .int w)]) (st' := [.int 4, .int w]) rfl ?_
  refine mz_callS (As := [.int w, .int 4]) (rest := []) C E' (f_X9_checkWhat l D cA ρ hI M w 4 v3 v4) hs_X9_checkWhat wl_X9_252 rfl ⟨Nat.le_of_ble_eq_true rfl, Nat.le_of_ble_eq_true rfl⟩ ⟨Nat.le_refl _, Nat.le_refl _⟩ (Nat.le_of_ble_eq_true rfl) (by decide +kernel) ?_ rfl
  refine mz_go FLX9 KLX9 C [(10, .iload_n 2)] (by decide +kernel) (pc' := 11) (L' := [(0, .ref 0), (1, .int r), (2, .int w)]) (st' := [.int w]) rfl ?_
  by_cases h1 : w = 0
  · refine mz_tin (dflt := 80) (lo := 0) (hi := 3) (offs := #[29, 41, 56, 68]) (len := 29) (q := 0) (v := 0) (off := 29) (tgt := 40) C (by decide +kernel) h1 (by decide) (by decide) rfl (by decide) ?_
    refine mz_go FLX9 KLX9 C [(40, .aload_n 0), (41, .getfield 10), (44, .getfield 255), (47, .iload_n 1)] (by decide +kernel) (pc' := 48) (L' := [(0, .ref 0), (1, .int r), (2, .int w)]) (st' := [.int r, .ref 2]) rfl ?_
    refine mz_callV (As := [.int r]) (rest := []) C E' (f_Row_get l D cA ρ hI (r := 2) (a := 3) (n := 8) rfl rfl (by decide) M r) hy_X6_get wl_X9_174 rfl rfl rfl ⟨Nat.le_of_ble_eq_true rfl, Nat.le_of_ble_eq_true rfl⟩ ⟨Nat.le_refl _, Nat.le_refl _⟩ (Nat.le_of_ble_eq_true rfl) (by decide +kernel) ?_ rfl
    exact mz_iret C E (by decide +kernel) (by unfold g_X9_ofRoom; rw [if_pos h1]; try rfl) (rfl)
  by_cases h2 : w = 1
  · refine mz_tin (dflt := 80) (lo := 0) (hi := 3) (offs := #[29, 41, 56, 68]) (len := 29) (q := 1) (v := 1) (off := 41) (tgt := 52) C (by decide +kernel) h2 (by decide) (by decide) rfl (by decide) ?_
    refine mz_go FLX9 KLX9 C [(52, .aload_n 0), (53, .getfield 28), (56, .getfield 146), (59, .getfield 258), (62, .iload_n 1)] (by decide +kernel) (pc' := 63) (L' := [(0, .ref 0), (1, .int r), (2, .int w)]) (st' := [.int r, .ref 76]) rfl ?_
    refine mz_callV (As := [.int r]) (rest := []) C E' (f_Row_get l D cA ρ hI (r := 76) (a := 77) (n := 8) rfl rfl (by decide) M r) hy_X6_get wl_X9_174 rfl rfl rfl ⟨Nat.le_of_ble_eq_true rfl, Nat.le_of_ble_eq_true rfl⟩ ⟨Nat.le_refl _, Nat.le_refl _⟩ (Nat.le_of_ble_eq_true rfl) (by decide +kernel) ?_ rfl
    exact mz_iret C E (by decide +kernel) (by unfold g_X9_ofRoom; rw [if_neg h1, if_pos h2]; try rfl) (rfl)
  by_cases h3 : w = 2
  · refine mz_tin (dflt := 80) (lo := 0) (hi := 3) (offs := #[29, 41, 56, 68]) (len := 29) (q := 2) (v := 2) (off := 56) (tgt := 67) C (by decide +kernel) h3 (by decide) (by decide) rfl (by decide) ?_
    refine mz_go FLX9 KLX9 C [(67, .aload_n 0), (68, .getfield 28), (71, .getfield 88), (74, .iload_n 1)] (by decide +kernel) (pc' := 75) (L' := [(0, .ref 0), (1, .int r), (2, .int w)]) (st' := [.int r, .ref 33]) rfl ?_
    refine mz_callV (As := [.int r]) (rest := []) C E' (mz_liftAR hI (f_X1_setIn l D cA ρ (mz_I1 hI) M r)) hy_X1_setIn wl_X9_261 rfl rfl rfl ⟨Nat.le_of_ble_eq_true rfl, Nat.le_of_ble_eq_true rfl⟩ ⟨Nat.le_refl _, Nat.le_refl _⟩ (Nat.le_of_ble_eq_true rfl) (by decide +kernel) ?_ rfl
    exact mz_iret C E (by decide +kernel) (by unfold g_X9_ofRoom; rw [if_neg h1, if_neg h2, if_pos h3]; try rfl) (rfl)
  by_cases h4 : w = 3
  · refine mz_tin (dflt := 80) (lo := 0) (hi := 3) (offs := #[29, 41, 56, 68]) (len := 29) (q := 3) (v := 3) (off := 68) (tgt := 79) C (by decide +kernel) h4 (by decide) (by decide) rfl (by decide) ?_
    refine mz_go FLX9 KLX9 C [(79, .aload_n 0), (80, .getfield 28), (83, .getfield 187), (86, .iload_n 1)] (by decide +kernel) (pc' := 87) (L' := [(0, .ref 0), (1, .int r), (2, .int w)]) (st' := [.int r, .ref 40]) rfl ?_
    refine mz_callV (As := [.int r]) (rest := []) C E' (mz_liftAR hI (f_X8_runningIn l D cA ρ (mz_I1 hI) M r)) hy_X8_runningIn wl_X9_264 rfl rfl rfl ⟨Nat.le_of_ble_eq_true rfl, Nat.le_of_ble_eq_true rfl⟩ ⟨Nat.le_refl _, Nat.le_refl _⟩ (Nat.le_of_ble_eq_true rfl) (by decide +kernel) ?_ rfl
    exact mz_iret C E (by decide +kernel) (by unfold g_X9_ofRoom; rw [if_neg h1, if_neg h2, if_neg h3, if_pos h4]; try rfl) (rfl)
  refine mz_tout (dflt := 80) (lo := 0) (hi := 3) (offs := #[29, 41, 56, 68]) (len := 29) (tgt := 91) C (by decide +kernel) (by have := mz_ne_toInt (v := 0) (by decide) h1; have := mz_ne_toInt (v := 1) (by decide) h2; have := mz_ne_toInt (v := 2) (by decide) h3; have := mz_ne_toInt (v := 3) (by decide) h4; omega) (by decide) ?_
  refine mz_go FLX9 KLX9 C [(91, .aload_n 0), (92, .getfield 28), (95, .getfield 106), (98, .iload_n 1)] (by decide +kernel) (pc' := 99) (L' := [(0, .ref 0), (1, .int r), (2, .int w)]) (st' := [.int r, .ref 51]) rfl ?_
  refine mz_callV (As := [.int r]) (rest := []) C E' (mz_liftAR hI (f_X5_lyingIn l D cA ρ (mz_I1 hI) M r)) hy_X5_lyingIn wl_X9_267 rfl rfl rfl ⟨Nat.le_of_ble_eq_true rfl, Nat.le_of_ble_eq_true rfl⟩ ⟨Nat.le_refl _, Nat.le_refl _⟩ (Nat.le_of_ble_eq_true rfl) (by decide +kernel) ?_ rfl
  exact mz_iret C E (by decide +kernel) (by unfold g_X9_ofRoom; rw [if_neg h1, if_neg h2, if_neg h3, if_neg h4]; try rfl) (rfl)
def g_X9_way (M : mz_Mem) (f : Int32) (t : Int32) (w : Int32) : Int32 := if w = 0 then (mz_gg 64 (M 9 0) (M 11) f t) else (mz_gg 64 (M 12 0) (M 14) f t)
set_option maxHeartbeats 4000000 in
theorem f_X9_way (l : Launch) (D : va_G) (cA : Nat → ClassId) (ρ : Nat → Nat) (hI : mz_I ρ mz_lay2) (M : mz_Mem) (f : Int32) (t : Int32) (w : Int32) (v1 : ¬ f < 0) (v2 : f < (M 1 0)) (v3 : ¬ t < 0) (v4 : t < (M 1 0)) (v5 : ¬ w < 0) (v6 : w ≤ 1) : mz_M l D vwCl cA ρ mz_lay2 yX9_way cX9_way 4 (some .int) 2 43 [.ref 0, .int f, .int t, .int w] M (some (.int (g_X9_way M f t w))) M := by
  refine mz_in0 (by decide +kernel) (Nat.le_of_ble_eq_true rfl) (fun Γ C E => ?_)
  have E' := (⟨_, _, _, E⟩ : ∃ Qc mc ms, mz_E Γ Qc mc ms (mz_A ρ mz_lay2))
  refine mz_go FLX9 KLX9 C [(0, .aload_n 0), (1, .iload_n 1)] (by decide +kernel) (pc' := 2) (L' := [(0, .ref 0), (1, .int f), (2, .int t), (3, .int w)]) (st' := [.int f, .ref 0]) rfl ?_
  refine mz_callV (As := [.int f]) (rest := []) C E' (f_X9_checkRoom l D cA ρ hI M f v1 v2) hy_X9_checkRoom wl_X9_55 rfl rfl rfl ⟨Nat.le_of_ble_eq_true rfl, Nat.le_of_ble_eq_true rfl⟩ ⟨Nat.le_refl _, Nat.le_refl _⟩ (Nat.le_of_ble_eq_true rfl) (by decide +kernel) ?_ rfl
  refine mz_go FLX9 KLX9 C [(5, .aload_n 0), (6, .iload_n 2)] (by decide +kernel) (pc' := 7) (L' := [(0, .ref 0), (1, .int f), (2, .int t), (3, .int w)]) (st' := [.int t, .ref 0]) rfl ?_
  refine mz_callV (As := [.int t]) (rest := []) C E' (f_X9_checkRoom l D cA ρ hI M t v3 v4) hy_X9_checkRoom wl_X9_55 rfl rfl rfl ⟨Nat.le_of_ble_eq_true rfl, Nat.le_of_ble_eq_true rfl⟩ ⟨Nat.le_refl _, Nat.le_refl _⟩ (Nat.le_of_ble_eq_true rfl) (by decide +kernel) ?_ rfl
  refine mz_go FLX9 KLX9 C [(10, .iload_n 3), (11, .iconst 1)] (by decide +kernel) (pc' := 12) (L' := [(0, .ref 0), (1, .int f), (2, .int t), (3, .int w)]) (st' := [.int 1, .int w]) rfl ?_
  refine mz_callS (As := [.int w, .int 1]) (rest := []) C E' (f_X9_checkWhat l D cA ρ hI M w 1 v5 v6) hs_X9_checkWhat wl_X9_252 rfl ⟨Nat.le_of_ble_eq_true rfl, Nat.le_of_ble_eq_true rfl⟩ ⟨Nat.le_refl _, Nat.le_refl _⟩ (Nat.le_of_ble_eq_true rfl) (by decide +kernel) ?_ rfl
  refine mz_go FLX9 KLX9 C [(15, .iload_n 3)] (by decide +kernel) (pc' := 16) (L' := [(0, .ref 0), (1, .int f), (2, .int t), (3, .int w)]) (st' := [.int w]) rfl ?_
  refine mz_zne (off := 18) (tgt := 34) C (by decide +kernel) (by decide) (fun h1 => ?_) (fun h1 => ?_)
  · refine mz_go FLX9 KLX9 C [(34, .aload_n 0), (35, .getfield 10), (38, .getfield 273), (41, .iload_n 1), (42, .iload_n 2)] (by decide +kernel) (pc' := 43) (L' := [(0, .ref 0), (1, .int f), (2, .int t), (3, .int w)]) (st' := [.int t, .int f, .ref 12]) rfl ?_
    refine mz_callV (As := [.int f, .int t]) (rest := []) C E' (f_Grid_get l D cA ρ hI (g := 12) (r := 13) (a := 14) (n := 64) rfl rfl rfl (by decide) M f t) hy_X3_get wl_X9_68 rfl rfl rfl ⟨Nat.le_of_ble_eq_true rfl, Nat.le_of_ble_eq_true rfl⟩ ⟨Nat.le_refl _, Nat.le_refl _⟩ (Nat.le_of_ble_eq_true rfl) (by decide +kernel) ?_ rfl
    exact mz_iret C E (by decide +kernel) (by unfold g_X9_way; rw [if_neg h1]; try rfl) (rfl)
  · refine mz_go FLX9 KLX9 C [(19, .aload_n 0), (20, .getfield 10), (23, .getfield 270), (26, .iload_n 1), (27, .iload_n 2)] (by decide +kernel) (pc' := 28) (L' := [(0, .ref 0), (1, .int f), (2, .int t), (3, .int w)]) (st' := [.int t, .int f, .ref 9]) rfl ?_
    refine mz_callV (As := [.int f, .int t]) (rest := []) C E' (f_Grid_get l D cA ρ hI (g := 9) (r := 10) (a := 11) (n := 64) rfl rfl rfl (by decide) M f t) hy_X3_get wl_X9_68 rfl rfl rfl ⟨Nat.le_of_ble_eq_true rfl, Nat.le_of_ble_eq_true rfl⟩ ⟨Nat.le_refl _, Nat.le_refl _⟩ (Nat.le_of_ble_eq_true rfl) (by decide +kernel) ?_ rfl
    refine mz_go FLX9 KLX9 C [(31, .goto 15)] (by decide +kernel) (pc' := 46) (L' := [(0, .ref 0), (1, .int f), (2, .int t), (3, .int w)]) (st' := [.int (mz_gg 64 (M 9 0) (M 11) f t)]) rfl ?_
    exact mz_iret C E (by decide +kernel) (by unfold g_X9_way; rw [if_pos h1]; try rfl) (rfl)
def g_X9_ofTrack (M : mz_Mem) (t : Int32) (w : Int32) : Int32 := if w = 0 then (mz_rg 5 (M 35) t) else if w = 1 then (g_X8_runningWith M t) else if w = 2 then (g_X8_nextSceneOf M (g_X1_rolesOf M t)) else if w = 3 then (mz_rg 5 (M 37) t) else (mz_rg 5 (M 39) t)
set_option maxHeartbeats 4000000 in
theorem f_X9_ofTrack (l : Launch) (D : va_G) (cA : Nat → ClassId) (ρ : Nat → Nat) (hI : mz_I ρ mz_lay2) (M : mz_Mem) (t : Int32) (w : Int32) (v1 : ¬ t < 0) (v2 : t < (M 15 0)) (v3 : ¬ w < 0) (v4 : w ≤ 4) : mz_M l D vwCl cA ρ mz_lay2 yX9_ofTrack cX9_ofTrack 4 (some .int) 3 66 [.ref 0, .int t, .int w] M (some (.int (g_X9_ofTrack M t w))) M := by
  refine mz_in0 (by decide +kernel) (Nat.le_of_ble_eq_true rfl) (fun Γ C E => ?_)
  have E' := (⟨_, _, _, E⟩ : ∃ Qc mc ms, mz_E Γ Qc mc ms (mz_A ρ mz_lay2))
  refine mz_go FLX9 KLX9 C [(0, .aload_n 0), (1, .iload_n 1)] (by decide +kernel) (pc' := 2) (L' := [(0, .ref 0), (1, .int t), (2, .int w)]) (st' := [.int t, .ref 0]) rfl ?_
  refine mz_callV (As := [.int t]) (rest := []) C E' (f_X9_checkTrack l D cA ρ hI M t v1 v2) hy_X9_checkTrack wl_X9_165 rfl rfl rfl ⟨Nat.le_of_ble_eq_true rfl, Nat.le_of_ble_eq_true rfl⟩ ⟨Nat.le_refl _, Nat.le_refl _⟩ (Nat.le_of_ble_eq_true rfl) (by decide +kernel) ?_ rfl
  refine mz_go FLX9 KLX9 C [(5, .iload_n 2), (6, .iconst 4)] (by decide +kernel) (pc' := 7) (L' := [(0, .ref 0), (1, .int t), (2, .int w)]) (st' := [.int 4, .int w]) rfl ?_
  refine mz_callS (As := [.int w, .int 4]) (rest := []) C E' (f_X9_checkWhat l D cA ρ hI M w 4 v3 v4) hs_X9_checkWhat wl_X9_252 rfl ⟨Nat.le_of_ble_eq_true rfl, Nat.le_of_ble_eq_true rfl⟩ ⟨Nat.le_refl _, Nat.le_refl _⟩ (Nat.le_of_ble_eq_true rfl) (by decide +kernel) ?_ rfl
  refine mz_go FLX9 KLX9 C [(10, .aload_n 0), (11, .getfield 28), (14, .getfield 88), (17, .astore_n 3), (18, .iload_n 2)] (by decide +kernel) (pc' := 19) (L' := [(3, .ref 33), (0, .ref 0), (1, .int t), (2, .int w)]) (st' := [.int w]) rfl ?_
  by_cases h1 : w = 0
  · refine mz_tin (dflt := 75) (lo := 0) (hi := 3) (offs := #[29, 38, 50, 66]) (len := 29) (q := 0) (v := 0) (off := 29) (tgt := 48) C (by decide +kernel) h1 (by decide) (by decide) rfl (by decide) ?_
    refine mz_go FLX9 KLX9 C [(48, .aload_n 3), (49, .getfield 276), (52, .iload_n 1)] (by decide +kernel) (pc' := 53) (L' := [(3, .ref 33), (0, .ref 0), (1, .int t), (2, .int w)]) (st' := [.int t, .ref 34]) rfl ?_
    refine mz_callV (As := [.int t]) (rest := []) C E' (f_Row_get l D cA ρ hI (r := 34) (a := 35) (n := 5) rfl rfl (by decide) M t) hy_X6_get wl_X9_174 rfl rfl rfl ⟨Nat.le_of_ble_eq_true rfl, Nat.le_of_ble_eq_true rfl⟩ ⟨Nat.le_refl _, Nat.le_refl _⟩ (Nat.le_of_ble_eq_true rfl) (by decide +kernel) ?_ rfl
    exact mz_iret C E (by decide +kernel) (by unfold g_X9_ofTrack; rw [if_pos h1]; try rfl) (rfl)
  by_cases h2 : w = 1
  · refine mz_tin (dflt := 75) (lo := 0) (hi := 3) (offs := #[29, 38, 50, 66]) (len := 29) (q := 1) (v := 1) (off := 38) (tgt := 57) C (by decide +kernel) h2 (by decide) (by decide) rfl (by decide) ?_
    refine mz_go FLX9 KLX9 C [(57, .aload_n 0), (58, .getfield 28), (61, .getfield 187), (64, .iload_n 1)] (by decide +kernel) (pc' := 65) (L' := [(3, .ref 33), (0, .ref 0), (1, .int t), (2, .int w)]) (st' := [.int t, .ref 40]) rfl ?_
    refine mz_callV (As := [.int t]) (rest := []) C E' (mz_liftAR hI (f_X8_runningWith l D cA ρ (mz_I1 hI) M t)) hy_X8_runningWith wl_X9_277 rfl rfl rfl ⟨Nat.le_of_ble_eq_true rfl, Nat.le_of_ble_eq_true rfl⟩ ⟨Nat.le_refl _, Nat.le_refl _⟩ (Nat.le_of_ble_eq_true rfl) (by decide +kernel) ?_ rfl
    exact mz_iret C E (by decide +kernel) (by unfold g_X9_ofTrack; rw [if_neg h1, if_pos h2]; try rfl) (rfl)
  by_cases h3 : w = 2
  · refine mz_tin (dflt := 75) (lo := 0) (hi := 3) (offs := #[29, 38, 50, 66]) (len := 29) (q := 2) (v := 2) (off := 50) (tgt := 69) C (by decide +kernel) h3 (by decide) (by decide) rfl (by decide) ?_
    refine mz_go FLX9 KLX9 C [(69, .aload_n 0), (70, .getfield 28), (73, .getfield 187), (76, .aload_n 3), (77, .iload_n 1)] (by decide +kernel) (pc' := 78) (L' := [(3, .ref 33), (0, .ref 0), (1, .int t), (2, .int w)]) (st' := [.int t, .ref 33, .ref 40]) rfl ?_
    refine mz_callV (As := [.int t]) (rest := [.ref 40]) C E' (mz_liftAR hI (f_X1_rolesOf l D cA ρ (mz_I1 hI) M t)) hy_X1_rolesOf wl_X9_280 rfl rfl rfl ⟨Nat.le_of_ble_eq_true rfl, Nat.le_of_ble_eq_true rfl⟩ ⟨Nat.le_refl _, Nat.le_refl _⟩ (Nat.le_of_ble_eq_true rfl) (by decide +kernel) ?_ rfl
    refine mz_callV (As := [.int (g_X1_rolesOf M t)]) (rest := []) C E' (mz_liftAR hI (f_X8_nextSceneOf l D cA ρ (mz_I1 hI) M (g_X1_rolesOf M t))) hy_X8_nextSceneOf wl_X9_283 rfl rfl rfl ⟨Nat.le_of_ble_eq_true rfl, Nat.le_of_ble_eq_true rfl⟩ ⟨Nat.le_refl _, Nat.le_refl _⟩ (Nat.le_of_ble_eq_true rfl) (by decide +kernel) ?_ rfl
    exact mz_iret C E (by decide +kernel) (by unfold g_X9_ofTrack; rw [if_neg h1, if_neg h2, if_pos h3]; try rfl) (rfl)
  by_cases h4 : w = 3
  · refine mz_tin (dflt := 75) (lo := 0) (hi := 3) (offs := #[29, 38, 50, 66]) (len := 29) (q := 3) (v := 3) (off := 66) (tgt := 85) C (by decide +kernel) h4 (by decide) (by decide) rfl (by decide) ?_
    refine mz_go FLX9 KLX9 C [(85, .aload_n 3), (86, .getfield 241), (89, .iload_n 1)] (by decide +kernel) (pc' := 90) (L' := [(3, .ref 33), (0, .ref 0), (1, .int t), (2, .int w)]) (st' := [.int t, .ref 36]) rfl ?_
    refine mz_callV (As := [.int t]) (rest := []) C E' (f_Row_get l D cA ρ hI (r := 36) (a := 37) (n := 5) rfl rfl (by decide) M t) hy_X6_get wl_X9_174 rfl rfl rfl ⟨Nat.le_of_ble_eq_true rfl, Nat.le_of_ble_eq_true rfl⟩ ⟨Nat.le_refl _, Nat.le_refl _⟩ (Nat.le_of_ble_eq_true rfl) (by decide +kernel) ?_ rfl
    exact mz_iret C E (by decide +kernel) (by unfold g_X9_ofTrack; rw [if_neg h1, if_neg h2, if_neg h3, if_pos h4]; try rfl) (rfl)
  refine mz_tout (dflt := 75) (lo := 0) (hi := 3) (offs := #[29, 38, 50, 66]) (len := 29) (tgt := 94) C (by decide +kernel) (by have := mz_ne_toInt (v := 0) (by decide) h1; have := mz_ne_toInt (v := 1) (by decide) h2; have := mz_ne_toInt (v := 2) (by decide) h3; have := mz_ne_toInt (v := 3) (by decide) h4; omega) (by decide) ?_
  refine mz_go FLX9 KLX9 C [(94, .aload_n 3), (95, .getfield 286), (98, .iload_n 1)] (by decide +kernel) (pc' := 99) (L' := [(3, .ref 33), (0, .ref 0), (1, .int t), (2, .int w)]) (st' := [.int t, .ref 38]) rfl ?_
  refine mz_callV (As := [.int t]) (rest := []) C E' (f_Row_get l D cA ρ hI (r := 38) (a := 39) (n := 5) rfl rfl (by decide) M t) hy_X6_get wl_X9_174 rfl rfl rfl ⟨Nat.le_of_ble_eq_true rfl, Nat.le_of_ble_eq_true rfl⟩ ⟨Nat.le_refl _, Nat.le_refl _⟩ (Nat.le_of_ble_eq_true rfl) (by decide +kernel) ?_ rfl
  exact mz_iret C E (by decide +kernel) (by unfold g_X9_ofTrack; rw [if_neg h1, if_neg h2, if_neg h3, if_neg h4]; try rfl) (rfl)
def g_X9_ofScene (M : mz_Mem) (k : Int32) (w : Int32) : Int32 := if w = 0 then (mz_rg 12 (M 21) k) else if w = 1 then (mz_rg 12 (M 23) k) else if w = 2 then (mz_rg 12 (M 25) k) else if w = 3 then (mz_rg 12 (M 27) k) else if w = 4 then (mz_rg 12 (M 29) k) else if w = 5 then (mz_rg 12 (M 42) k) else if w = 6 then (mz_rg 12 (M 44) k) else if w = 7 then (mz_rg 12 (M 46) k) else if w = 8 then (mz_rg 12 (M 48) k) else if w = 9 then (mz_rg 12 (M 50) k) else (g_X0_countKnowing M k)
set_option maxHeartbeats 4000000 in
theorem f_X9_ofScene (l : Launch) (D : va_G) (cA : Nat → ClassId) (ρ : Nat → Nat) (hI : mz_I ρ mz_lay2) (M : mz_Mem) (k : Int32) (w : Int32) (v1 : ¬ k < 0) (v2 : k < (M 15 2)) (v3 : ¬ w < 0) (v4 : w ≤ 10) : mz_M l D vwCl cA ρ mz_lay2 yX9_ofScene cX9_ofScene 4 (some .int) 3 66 [.ref 0, .int k, .int w] M (some (.int (g_X9_ofScene M k w))) M := by
  refine mz_in0 (by decide +kernel) (Nat.le_of_ble_eq_true rfl) (fun Γ C E => ?_)
  have E' := (⟨_, _, _, E⟩ : ∃ Qc mc ms, mz_E Γ Qc mc ms (mz_A ρ mz_lay2))
  refine mz_go FLX9 KLX9 C [(0, .aload_n 0), (1, .iload_n 1)] (by decide +kernel) (pc' := 2) (L' := [(0, .ref 0), (1, .int k), (2, .int w)]) (st' := [.int k, .ref 0]) rfl ?_
  refine mz_callV (As := [.int k]) (rest := []) C E' (f_X9_checkScene l D cA ρ hI M k v1 v2) hy_X9_checkScene wl_X9_289 rfl rfl rfl ⟨Nat.le_of_ble_eq_true rfl, Nat.le_of_ble_eq_true rfl⟩ ⟨Nat.le_refl _, Nat.le_refl _⟩ (Nat.le_of_ble_eq_true rfl) (by decide +kernel) ?_ rfl
  refine mz_go FLX9 KLX9 C [(5, .iload_n 2), (6, .bipush 10)] (by decide +kernel) (pc' := 8) (L' := [(0, .ref 0), (1, .int k), (2, .int w)]) (st' := [.int 10, .int w]) rfl ?_
  refine mz_callS (As := [.int w, .int 10]) (rest := []) C E' (f_X9_checkWhat l D cA ρ hI M w 10 v3 v4) hs_X9_checkWhat wl_X9_252 rfl ⟨Nat.le_of_ble_eq_true rfl, Nat.le_of_ble_eq_true rfl⟩ ⟨Nat.le_refl _, Nat.le_refl _⟩ (Nat.le_of_ble_eq_true rfl) (by decide +kernel) ?_ rfl
  refine mz_go FLX9 KLX9 C [(11, .aload_n 0), (12, .getfield 28), (15, .getfield 187), (18, .astore_n 3), (19, .iload_n 2)] (by decide +kernel) (pc' := 20) (L' := [(3, .ref 40), (0, .ref 0), (1, .int k), (2, .int w)]) (st' := [.int w]) rfl ?_
  by_cases h1 : w = 0
  · refine mz_tin (dflt := 161) (lo := 0) (hi := 9) (offs := #[56, 68, 80, 92, 104, 116, 125, 134, 143, 152]) (len := 56) (q := 0) (v := 0) (off := 56) (tgt := 76) C (by decide +kernel) h1 (by decide) (by decide) rfl (by decide) ?_
    refine mz_go FLX9 KLX9 C [(76, .aload_n 0), (77, .getfield 19), (80, .getfield 292), (83, .iload_n 1)] (by decide +kernel) (pc' := 84) (L' := [(3, .ref 40), (0, .ref 0), (1, .int k), (2, .int w)]) (st' := [.int k, .ref 20]) rfl ?_
    refine mz_callV (As := [.int k]) (rest := []) C E' (f_Row_get l D cA ρ hI (r := 20) (a := 21) (n := 12) rfl rfl (by decide) M k) hy_X6_get wl_X9_174 rfl rfl rfl ⟨Nat.le_of_ble_eq_true rfl, Nat.le_of_ble_eq_true rfl⟩ ⟨Nat.le_refl _, Nat.le_refl _⟩ (Nat.le_of_ble_eq_true rfl) (by decide +kernel) ?_ rfl
    exact mz_iret C E (by decide +kernel) (by unfold g_X9_ofScene; rw [if_pos h1]; try rfl) (rfl)
  by_cases h2 : w = 1
  · refine mz_tin (dflt := 161) (lo := 0) (hi := 9) (offs := #[56, 68, 80, 92, 104, 116, 125, 134, 143, 152]) (len := 56) (q := 1) (v := 1) (off := 68) (tgt := 88) C (by decide +kernel) h2 (by decide) (by decide) rfl (by decide) ?_
    refine mz_go FLX9 KLX9 C [(88, .aload_n 0), (89, .getfield 19), (92, .getfield 293), (95, .iload_n 1)] (by decide +kernel) (pc' := 96) (L' := [(3, .ref 40), (0, .ref 0), (1, .int k), (2, .int w)]) (st' := [.int k, .ref 22]) rfl ?_
    refine mz_callV (As := [.int k]) (rest := []) C E' (f_Row_get l D cA ρ hI (r := 22) (a := 23) (n := 12) rfl rfl (by decide) M k) hy_X6_get wl_X9_174 rfl rfl rfl ⟨Nat.le_of_ble_eq_true rfl, Nat.le_of_ble_eq_true rfl⟩ ⟨Nat.le_refl _, Nat.le_refl _⟩ (Nat.le_of_ble_eq_true rfl) (by decide +kernel) ?_ rfl
    exact mz_iret C E (by decide +kernel) (by unfold g_X9_ofScene; rw [if_neg h1, if_pos h2]; try rfl) (rfl)
  by_cases h3 : w = 2
  · refine mz_tin (dflt := 161) (lo := 0) (hi := 9) (offs := #[56, 68, 80, 92, 104, 116, 125, 134, 143, 152]) (len := 56) (q := 2) (v := 2) (off := 80) (tgt := 100) C (by decide +kernel) h3 (by decide) (by decide) rfl (by decide) ?_
    refine mz_go FLX9 KLX9 C [(100, .aload_n 0), (101, .getfield 19), (104, .getfield 296), (107, .iload_n 1)] (by decide +kernel) (pc' := 108) (L' := [(3, .ref 40), (0, .ref 0), (1, .int k), (2, .int w)]) (st' := [.int k, .ref 24]) rfl ?_
    refine mz_callV (As := [.int k]) (rest := []) C E' (f_Row_get l D cA ρ hI (r := 24) (a := 25) (n := 12) rfl rfl (by decide) M k) hy_X6_get wl_X9_174 rfl rfl rfl ⟨Nat.le_of_ble_eq_true rfl, Nat.le_of_ble_eq_true rfl⟩ ⟨Nat.le_refl _, Nat.le_refl _⟩ (Nat.le_of_ble_eq_true rfl) (by decide +kernel) ?_ rfl
    exact mz_iret C E (by decide +kernel) (by unfold g_X9_ofScene; rw [if_neg h1, if_neg h2, if_pos h3]; try rfl) (rfl)
  by_cases h4 : w = 3
  · refine mz_tin (dflt := 161) (lo := 0) (hi := 9) (offs := #[56, 68, 80, 92, 104, 116, 125, 134, 143, 152]) (len := 56) (q := 3) (v := 3) (off := 92) (tgt := 112) C (by decide +kernel) h4 (by decide) (by decide) rfl (by decide) ?_
    refine mz_go FLX9 KLX9 C [(112, .aload_n 0), (113, .getfield 19), (116, .getfield 299), (119, .iload_n 1)] (by decide +kernel) (pc' := 120) (L' := [(3, .ref 40), (0, .ref 0), (1, .int k), (2, .int w)]) (st' := [.int k, .ref 26]) rfl ?_
    refine mz_callV (As := [.int k]) (rest := []) C E' (f_Row_get l D cA ρ hI (r := 26) (a := 27) (n := 12) rfl rfl (by decide) M k) hy_X6_get wl_X9_174 rfl rfl rfl ⟨Nat.le_of_ble_eq_true rfl, Nat.le_of_ble_eq_true rfl⟩ ⟨Nat.le_refl _, Nat.le_refl _⟩ (Nat.le_of_ble_eq_true rfl) (by decide +kernel) ?_ rfl
    exact mz_iret C E (by decide +kernel) (by unfold g_X9_ofScene; rw [if_neg h1, if_neg h2, if_neg h3, if_pos h4]; try rfl) (rfl)
  by_cases h5 : w = 4
  · refine mz_tin (dflt := 161) (lo := 0) (hi := 9) (offs := #[56, 68, 80, 92, 104, 116, 125, 134, 143, 152]) (len := 56) (q := 4) (v := 4) (off := 104) (tgt := 124) C (by decide +kernel) h5 (by decide) (by decide) rfl (by decide) ?_
    refine mz_go FLX9 KLX9 C [(124, .aload_n 0), (125, .getfield 19), (128, .getfield 302), (131, .iload_n 1)] (by decide +kernel) (pc' := 132) (L' := [(3, .ref 40), (0, .ref 0), (1, .int k), (2, .int w)]) (st' := [.int k, .ref 28]) rfl ?_
    refine mz_callV (As := [.int k]) (rest := []) C E' (f_Row_get l D cA ρ hI (r := 28) (a := 29) (n := 12) rfl rfl (by decide) M k) hy_X6_get wl_X9_174 rfl rfl rfl ⟨Nat.le_of_ble_eq_true rfl, Nat.le_of_ble_eq_true rfl⟩ ⟨Nat.le_refl _, Nat.le_refl _⟩ (Nat.le_of_ble_eq_true rfl) (by decide +kernel) ?_ rfl
    exact mz_iret C E (by decide +kernel) (by unfold g_X9_ofScene; rw [if_neg h1, if_neg h2, if_neg h3, if_neg h4, if_pos h5]; try rfl) (rfl)
  by_cases h6 : w = 5
  · refine mz_tin (dflt := 161) (lo := 0) (hi := 9) (offs := #[56, 68, 80, 92, 104, 116, 125, 134, 143, 152]) (len := 56) (q := 5) (v := 5) (off := 116) (tgt := 136) C (by decide +kernel) h6 (by decide) (by decide) rfl (by decide) ?_
    refine mz_go FLX9 KLX9 C [(136, .aload_n 3), (137, .getfield 305), (140, .iload_n 1)] (by decide +kernel) (pc' := 141) (L' := [(3, .ref 40), (0, .ref 0), (1, .int k), (2, .int w)]) (st' := [.int k, .ref 41]) rfl ?_
    refine mz_callV (As := [.int k]) (rest := []) C E' (f_Row_get l D cA ρ hI (r := 41) (a := 42) (n := 12) rfl rfl (by decide) M k) hy_X6_get wl_X9_174 rfl rfl rfl ⟨Nat.le_of_ble_eq_true rfl, Nat.le_of_ble_eq_true rfl⟩ ⟨Nat.le_refl _, Nat.le_refl _⟩ (Nat.le_of_ble_eq_true rfl) (by decide +kernel) ?_ rfl
    exact mz_iret C E (by decide +kernel) (by unfold g_X9_ofScene; rw [if_neg h1, if_neg h2, if_neg h3, if_neg h4, if_neg h5, if_pos h6]; try rfl) (rfl)
  by_cases h7 : w = 6
  · refine mz_tin (dflt := 161) (lo := 0) (hi := 9) (offs := #[56, 68, 80, 92, 104, 116, 125, 134, 143, 152]) (len := 56) (q := 6) (v := 6) (off := 125) (tgt := 145) C (by decide +kernel) h7 (by decide) (by decide) rfl (by decide) ?_
    refine mz_go FLX9 KLX9 C [(145, .aload_n 3), (146, .getfield 308), (149, .iload_n 1)] (by decide +kernel) (pc' := 150) (L' := [(3, .ref 40), (0, .ref 0), (1, .int k), (2, .int w)]) (st' := [.int k, .ref 43]) rfl ?_
    refine mz_callV (As := [.int k]) (rest := []) C E' (f_Row_get l D cA ρ hI (r := 43) (a := 44) (n := 12) rfl rfl (by decide) M k) hy_X6_get wl_X9_174 rfl rfl rfl ⟨Nat.le_of_ble_eq_true rfl, Nat.le_of_ble_eq_true rfl⟩ ⟨Nat.le_refl _, Nat.le_refl _⟩ (Nat.le_of_ble_eq_true rfl) (by decide +kernel) ?_ rfl
    exact mz_iret C E (by decide +kernel) (by unfold g_X9_ofScene; rw [if_neg h1, if_neg h2, if_neg h3, if_neg h4, if_neg h5, if_neg h6, if_pos h7]; try rfl) (rfl)
  by_cases h8 : w = 7
  · refine mz_tin (dflt := 161) (lo := 0) (hi := 9) (offs := #[56, 68, 80, 92, 104, 116, 125, 134, 143, 152]) (len := 56) (q := 7) (v := 7) (off := 134) (tgt := 154) C (by decide +kernel) h8 (by decide) (by decide) rfl (by decide) ?_
    refine mz_go FLX9 KLX9 C [(154, .aload_n 3), (155, .getfield 311), (158, .iload_n 1)] (by decide +kernel) (pc' := 159) (L' := [(3, .ref 40), (0, .ref 0), (1, .int k), (2, .int w)]) (st' := [.int k, .ref 45]) rfl ?_
    refine mz_callV (As := [.int k]) (rest := []) C E' (f_Row_get l D cA ρ hI (r := 45) (a := 46) (n := 12) rfl rfl (by decide) M k) hy_X6_get wl_X9_174 rfl rfl rfl ⟨Nat.le_of_ble_eq_true rfl, Nat.le_of_ble_eq_true rfl⟩ ⟨Nat.le_refl _, Nat.le_refl _⟩ (Nat.le_of_ble_eq_true rfl) (by decide +kernel) ?_ rfl
    exact mz_iret C E (by decide +kernel) (by unfold g_X9_ofScene; rw [if_neg h1, if_neg h2, if_neg h3, if_neg h4, if_neg h5, if_neg h6, if_neg h7, if_pos h8]; try rfl) (rfl)
  by_cases h9 : w = 8
  · refine mz_tin (dflt := 161) (lo := 0) (hi := 9) (offs := #[56, 68, 80, 92, 104, 116, 125, 134, 143, 152]) (len := 56) (q := 8) (v := 8) (off := 143) (tgt := 163) C (by decide +kernel) h9 (by decide) (by decide) rfl (by decide) ?_
    refine mz_go FLX9 KLX9 C [(163, .aload_n 3), (164, .getfield 191), (167, .iload_n 1)] (by decide +kernel) (pc' := 168) (L' := [(3, .ref 40), (0, .ref 0), (1, .int k), (2, .int w)]) (st' := [.int k, .ref 47]) rfl ?_
    refine mz_callV (As := [.int k]) (rest := []) C E' (f_Row_get l D cA ρ hI (r := 47) (a := 48) (n := 12) rfl rfl (by decide) M k) hy_X6_get wl_X9_174 rfl rfl rfl ⟨Nat.le_of_ble_eq_true rfl, Nat.le_of_ble_eq_true rfl⟩ ⟨Nat.le_refl _, Nat.le_refl _⟩ (Nat.le_of_ble_eq_true rfl) (by decide +kernel) ?_ rfl
    exact mz_iret C E (by decide +kernel) (by unfold g_X9_ofScene; rw [if_neg h1, if_neg h2, if_neg h3, if_neg h4, if_neg h5, if_neg h6, if_neg h7, if_neg h8, if_pos h9]; try rfl) (rfl)
  by_cases h10 : w = 9
  · refine mz_tin (dflt := 161) (lo := 0) (hi := 9) (offs := #[56, 68, 80, 92, 104, 116, 125, 134, 143, 152]) (len := 56) (q := 9) (v := 9) (off := 152) (tgt := 172) C (by decide +kernel) h10 (by decide) (by decide) rfl (by decide) ?_
    refine mz_go FLX9 KLX9 C [(172, .aload_n 3), (173, .getfield 314), (176, .iload_n 1)] (by decide +kernel) (pc' := 177) (L' := [(3, .ref 40), (0, .ref 0), (1, .int k), (2, .int w)]) (st' := [.int k, .ref 49]) rfl ?_
    refine mz_callV (As := [.int k]) (rest := []) C E' (f_Row_get l D cA ρ hI (r := 49) (a := 50) (n := 12) rfl rfl (by decide) M k) hy_X6_get wl_X9_174 rfl rfl rfl ⟨Nat.le_of_ble_eq_true rfl, Nat.le_of_ble_eq_true rfl⟩ ⟨Nat.le_refl _, Nat.le_refl _⟩ (Nat.le_of_ble_eq_true rfl) (by decide +kernel) ?_ rfl
    exact mz_iret C E (by decide +kernel) (by unfold g_X9_ofScene; rw [if_neg h1, if_neg h2, if_neg h3, if_neg h4, if_neg h5, if_neg h6, if_neg h7, if_neg h8, if_neg h9, if_pos h10]; try rfl) (rfl)
  refine mz_tout (dflt := 161) (lo := 0) (hi := 9) (offs := #[56, 68, 80, 92, 104, 116, 125, 134, 143, 152]) (len := 56) (tgt := 181) C (by decide +kernel) (by have := mz_ne_toInt (v := 0) (by decide) h1; have := mz_ne_toInt (v := 1) (by decide) h2; have := mz_ne_toInt (v := 2) (by decide) h3; have := mz_ne_toInt (v := 3) (by decide) h4; have := mz_ne_toInt (v := 4) (by decide) h5; have := mz_ne_toInt (v := 5) (by decide) h6; have := mz_ne_toInt (v := 6) (by decide) h7; have := mz_ne_toInt (v := 7) (by decide) h8; have := mz_ne_toInt (v := 8) (by decide) h9; have := mz_ne_toInt (v := 9) (by decide) h10; omega) (by decide) ?_
  refine mz_go FLX9 KLX9 C [(181, .aload_n 0), (182, .getfield 28), (185, .getfield 146), (188, .iload_n 1)] (by decide +kernel) (pc' := 189) (L' := [(3, .ref 40), (0, .ref 0), (1, .int k), (2, .int w)]) (st' := [.int k, .ref 60]) rfl ?_
  refine mz_callV (As := [.int k]) (rest := []) C E' (mz_liftAR hI (f_X0_countKnowing l D cA ρ (mz_I1 hI) M k)) hy_X0_countKnowing wl_X9_317 rfl rfl rfl ⟨Nat.le_of_ble_eq_true rfl, Nat.le_of_ble_eq_true rfl⟩ ⟨Nat.le_refl _, Nat.le_refl _⟩ (Nat.le_of_ble_eq_true rfl) (by decide +kernel) ?_ rfl
  exact mz_iret C E (by decide +kernel) (by unfold g_X9_ofScene; rw [if_neg h1, if_neg h2, if_neg h3, if_neg h4, if_neg h5, if_neg h6, if_neg h7, if_neg h8, if_neg h9, if_neg h10]; try rfl) (rfl)
def g_X9_ofGuest (M : mz_Mem) (g : Int32) (w : Int32) : Int32 := if w = 0 then (mz_rg 12 (M 62) g) else if w = 1 then (mz_rg 12 (M 64) g) else if w = 2 then (mz_rg 12 (M 66) g) else if w = 3 then (g_X5_heldByGuest M g) else if w = 4 then (mz_rg 12 (M 68) g) else if w = 5 then (mz_rg 12 (M 70) g) else (mz_rg 12 (M 72) g)
set_option maxHeartbeats 4000000 in
theorem f_X9_ofGuest (l : Launch) (D : va_G) (cA : Nat → ClassId) (ρ : Nat → Nat) (hI : mz_I ρ mz_lay2) (M : mz_Mem) (g : Int32) (w : Int32) (v1 : ¬ g < 0) (v2 : g < (M 60 0)) (v3 : ¬ w < 0) (v4 : w ≤ 6) : mz_M l D vwCl cA ρ mz_lay2 yX9_ofGuest cX9_ofGuest 4 (some .int) 2 43 [.ref 0, .int g, .int w] M (some (.int (g_X9_ofGuest M g w))) M := by
  refine mz_in0 (by decide +kernel) (Nat.le_of_ble_eq_true rfl) (fun Γ C E => ?_)
  have E' := (⟨_, _, _, E⟩ : ∃ Qc mc ms, mz_E Γ Qc mc ms (mz_A ρ mz_lay2))
  refine mz_go FLX9 KLX9 C [(0, .aload_n 0), (1, .iload_n 1)] (by decide +kernel) (pc' := 2) (L' := [(0, .ref 0), (1, .int g), (2, .int w)]) (st' := [.int g, .ref 0]) rfl ?_
  refine mz_callV (As := [.int g]) (rest := []) C E' (f_X9_checkGuest l D cA ρ hI M g v1 v2) hy_X9_checkGuest wl_X9_162 rfl rfl rfl ⟨Nat.le_of_ble_eq_true rfl, Nat.le_of_ble_eq_true rfl⟩ ⟨Nat.le_refl _, Nat.le_refl _⟩ (Nat.le_of_ble_eq_true rfl) (by decide +kernel) ?_ rfl
  refine mz_go FLX9 KLX9 C [(5, .iload_n 2), (6, .bipush 6)] (by decide +kernel) (pc' := 8) (L' := [(0, .ref 0), (1, .int g), (2, .int w)]) (st' := [.int 6, .int w]) rfl ?_
  refine mz_callS (As := [.int w, .int 6]) (rest := []) C E' (f_X9_checkWhat l D cA ρ hI M w 6 v3 v4) hs_X9_checkWhat wl_X9_252 rfl ⟨Nat.le_of_ble_eq_true rfl, Nat.le_of_ble_eq_true rfl⟩ ⟨Nat.le_refl _, Nat.le_refl _⟩ (Nat.le_of_ble_eq_true rfl) (by decide +kernel) ?_ rfl
  refine mz_go FLX9 KLX9 C [(11, .aload_n 0), (12, .getfield 28), (15, .getfield 146), (18, .astore_n 3), (19, .iload_n 2)] (by decide +kernel) (pc' := 20) (L' := [(3, .ref 60), (0, .ref 0), (1, .int g), (2, .int w)]) (st' := [.int w]) rfl ?_
  by_cases h1 : w = 0
  · refine mz_tin (dflt := 97) (lo := 0) (hi := 5) (offs := #[40, 49, 58, 67, 79, 88]) (len := 40) (q := 0) (v := 0) (off := 40) (tgt := 60) C (by decide +kernel) h1 (by decide) (by decide) rfl (by decide) ?_
    refine mz_go FLX9 KLX9 C [(60, .aload_n 3), (61, .getfield 225), (64, .iload_n 1)] (by decide +kernel) (pc' := 65) (L' := [(3, .ref 60), (0, .ref 0), (1, .int g), (2, .int w)]) (st' := [.int g, .ref 61]) rfl ?_
    refine mz_callV (As := [.int g]) (rest := []) C E' (f_Row_get l D cA ρ hI (r := 61) (a := 62) (n := 12) rfl rfl (by decide) M g) hy_X6_get wl_X9_174 rfl rfl rfl ⟨Nat.le_of_ble_eq_true rfl, Nat.le_of_ble_eq_true rfl⟩ ⟨Nat.le_refl _, Nat.le_refl _⟩ (Nat.le_of_ble_eq_true rfl) (by decide +kernel) ?_ rfl
    exact mz_iret C E (by decide +kernel) (by unfold g_X9_ofGuest; rw [if_pos h1]; try rfl) (rfl)
  by_cases h2 : w = 1
  · refine mz_tin (dflt := 97) (lo := 0) (hi := 5) (offs := #[40, 49, 58, 67, 79, 88]) (len := 40) (q := 1) (v := 1) (off := 49) (tgt := 69) C (by decide +kernel) h2 (by decide) (by decide) rfl (by decide) ?_
    refine mz_go FLX9 KLX9 C [(69, .aload_n 3), (70, .getfield 170), (73, .iload_n 1)] (by decide +kernel) (pc' := 74) (L' := [(3, .ref 60), (0, .ref 0), (1, .int g), (2, .int w)]) (st' := [.int g, .ref 63]) rfl ?_
    refine mz_callV (As := [.int g]) (rest := []) C E' (f_Row_get l D cA ρ hI (r := 63) (a := 64) (n := 12) rfl rfl (by decide) M g) hy_X6_get wl_X9_174 rfl rfl rfl ⟨Nat.le_of_ble_eq_true rfl, Nat.le_of_ble_eq_true rfl⟩ ⟨Nat.le_refl _, Nat.le_refl _⟩ (Nat.le_of_ble_eq_true rfl) (by decide +kernel) ?_ rfl
    exact mz_iret C E (by decide +kernel) (by unfold g_X9_ofGuest; rw [if_neg h1, if_pos h2]; try rfl) (rfl)
  by_cases h3 : w = 2
  · refine mz_tin (dflt := 97) (lo := 0) (hi := 5) (offs := #[40, 49, 58, 67, 79, 88]) (len := 40) (q := 2) (v := 2) (off := 58) (tgt := 78) C (by decide +kernel) h3 (by decide) (by decide) rfl (by decide) ?_
    refine mz_go FLX9 KLX9 C [(78, .aload_n 3), (79, .getfield 320), (82, .iload_n 1)] (by decide +kernel) (pc' := 83) (L' := [(3, .ref 60), (0, .ref 0), (1, .int g), (2, .int w)]) (st' := [.int g, .ref 65]) rfl ?_
    refine mz_callV (As := [.int g]) (rest := []) C E' (f_Row_get l D cA ρ hI (r := 65) (a := 66) (n := 12) rfl rfl (by decide) M g) hy_X6_get wl_X9_174 rfl rfl rfl ⟨Nat.le_of_ble_eq_true rfl, Nat.le_of_ble_eq_true rfl⟩ ⟨Nat.le_refl _, Nat.le_refl _⟩ (Nat.le_of_ble_eq_true rfl) (by decide +kernel) ?_ rfl
    exact mz_iret C E (by decide +kernel) (by unfold g_X9_ofGuest; rw [if_neg h1, if_neg h2, if_pos h3]; try rfl) (rfl)
  by_cases h4 : w = 3
  · refine mz_tin (dflt := 97) (lo := 0) (hi := 5) (offs := #[40, 49, 58, 67, 79, 88]) (len := 40) (q := 3) (v := 3) (off := 67) (tgt := 87) C (by decide +kernel) h4 (by decide) (by decide) rfl (by decide) ?_
    refine mz_go FLX9 KLX9 C [(87, .aload_n 0), (88, .getfield 28), (91, .getfield 106), (94, .iload_n 1)] (by decide +kernel) (pc' := 95) (L' := [(3, .ref 60), (0, .ref 0), (1, .int g), (2, .int w)]) (st' := [.int g, .ref 51]) rfl ?_
    refine mz_callV (As := [.int g]) (rest := []) C E' (mz_liftAR hI (f_X5_heldByGuest l D cA ρ (mz_I1 hI) M g)) hy_X5_heldByGuest wl_X9_220 rfl rfl rfl ⟨Nat.le_of_ble_eq_true rfl, Nat.le_of_ble_eq_true rfl⟩ ⟨Nat.le_refl _, Nat.le_refl _⟩ (Nat.le_of_ble_eq_true rfl) (by decide +kernel) ?_ rfl
    exact mz_iret C E (by decide +kernel) (by unfold g_X9_ofGuest; rw [if_neg h1, if_neg h2, if_neg h3, if_pos h4]; try rfl) (rfl)
  by_cases h5 : w = 4
  · refine mz_tin (dflt := 97) (lo := 0) (hi := 5) (offs := #[40, 49, 58, 67, 79, 88]) (len := 40) (q := 4) (v := 4) (off := 79) (tgt := 99) C (by decide +kernel) h5 (by decide) (by decide) rfl (by decide) ?_
    refine mz_go FLX9 KLX9 C [(99, .aload_n 3), (100, .getfield 323), (103, .iload_n 1)] (by decide +kernel) (pc' := 104) (L' := [(3, .ref 60), (0, .ref 0), (1, .int g), (2, .int w)]) (st' := [.int g, .ref 67]) rfl ?_
    refine mz_callV (As := [.int g]) (rest := []) C E' (f_Row_get l D cA ρ hI (r := 67) (a := 68) (n := 12) rfl rfl (by decide) M g) hy_X6_get wl_X9_174 rfl rfl rfl ⟨Nat.le_of_ble_eq_true rfl, Nat.le_of_ble_eq_true rfl⟩ ⟨Nat.le_refl _, Nat.le_refl _⟩ (Nat.le_of_ble_eq_true rfl) (by decide +kernel) ?_ rfl
    exact mz_iret C E (by decide +kernel) (by unfold g_X9_ofGuest; rw [if_neg h1, if_neg h2, if_neg h3, if_neg h4, if_pos h5]; try rfl) (rfl)
  by_cases h6 : w = 5
  · refine mz_tin (dflt := 97) (lo := 0) (hi := 5) (offs := #[40, 49, 58, 67, 79, 88]) (len := 40) (q := 5) (v := 5) (off := 88) (tgt := 108) C (by decide +kernel) h6 (by decide) (by decide) rfl (by decide) ?_
    refine mz_go FLX9 KLX9 C [(108, .aload_n 3), (109, .getfield 326), (112, .iload_n 1)] (by decide +kernel) (pc' := 113) (L' := [(3, .ref 60), (0, .ref 0), (1, .int g), (2, .int w)]) (st' := [.int g, .ref 69]) rfl ?_
    refine mz_callV (As := [.int g]) (rest := []) C E' (f_Row_get l D cA ρ hI (r := 69) (a := 70) (n := 12) rfl rfl (by decide) M g) hy_X6_get wl_X9_174 rfl rfl rfl ⟨Nat.le_of_ble_eq_true rfl, Nat.le_of_ble_eq_true rfl⟩ ⟨Nat.le_refl _, Nat.le_refl _⟩ (Nat.le_of_ble_eq_true rfl) (by decide +kernel) ?_ rfl
    exact mz_iret C E (by decide +kernel) (by unfold g_X9_ofGuest; rw [if_neg h1, if_neg h2, if_neg h3, if_neg h4, if_neg h5, if_pos h6]; try rfl) (rfl)
  refine mz_tout (dflt := 97) (lo := 0) (hi := 5) (offs := #[40, 49, 58, 67, 79, 88]) (len := 40) (tgt := 117) C (by decide +kernel) (by have := mz_ne_toInt (v := 0) (by decide) h1; have := mz_ne_toInt (v := 1) (by decide) h2; have := mz_ne_toInt (v := 2) (by decide) h3; have := mz_ne_toInt (v := 3) (by decide) h4; have := mz_ne_toInt (v := 4) (by decide) h5; have := mz_ne_toInt (v := 5) (by decide) h6; omega) (by decide) ?_
  refine mz_go FLX9 KLX9 C [(117, .aload_n 3), (118, .getfield 327), (121, .iload_n 1)] (by decide +kernel) (pc' := 122) (L' := [(3, .ref 60), (0, .ref 0), (1, .int g), (2, .int w)]) (st' := [.int g, .ref 71]) rfl ?_
  refine mz_callV (As := [.int g]) (rest := []) C E' (f_Row_get l D cA ρ hI (r := 71) (a := 72) (n := 12) rfl rfl (by decide) M g) hy_X6_get wl_X9_174 rfl rfl rfl ⟨Nat.le_of_ble_eq_true rfl, Nat.le_of_ble_eq_true rfl⟩ ⟨Nat.le_refl _, Nat.le_refl _⟩ (Nat.le_of_ble_eq_true rfl) (by decide +kernel) ?_ rfl
  exact mz_iret C E (by decide +kernel) (by unfold g_X9_ofGuest; rw [if_neg h1, if_neg h2, if_neg h3, if_neg h4, if_neg h5, if_neg h6]; try rfl) (rfl)
def g_X9_ofProp (M : mz_Mem) (p : Int32) (w : Int32) : Int32 := if w = 0 then (mz_rg 4 (M 19) p) else if w = 1 then (g_X2_roomOfProp M p) else if w = 2 then (mz_rg 4 (M 55) p) else if w = 3 then (mz_rg 4 (M 57) p) else (mz_rg 4 (M 59) p)
set_option maxHeartbeats 4000000 in
theorem f_X9_ofProp (l : Launch) (D : va_G) (cA : Nat → ClassId) (ρ : Nat → Nat) (hI : mz_I ρ mz_lay2) (M : mz_Mem) (p : Int32) (w : Int32) (v1 : ¬ p < 0) (v2 : p < (M 15 1)) (v3 : ¬ w < 0) (v4 : w ≤ 4) : mz_M l D vwCl cA ρ mz_lay2 yX9_ofProp cX9_ofProp 3 (some .int) 2 42 [.ref 0, .int p, .int w] M (some (.int (g_X9_ofProp M p w))) M := by
  refine mz_in0 (by decide +kernel) (Nat.le_of_ble_eq_true rfl) (fun Γ C E => ?_)
  have E' := (⟨_, _, _, E⟩ : ∃ Qc mc ms, mz_E Γ Qc mc ms (mz_A ρ mz_lay2))
  refine mz_go FLX9 KLX9 C [(0, .aload_n 0), (1, .iload_n 1)] (by decide +kernel) (pc' := 2) (L' := [(0, .ref 0), (1, .int p), (2, .int w)]) (st' := [.int p, .ref 0]) rfl ?_
  refine mz_callV (As := [.int p]) (rest := []) C E' (f_X9_checkProp l D cA ρ hI M p v1 v2) hy_X9_checkProp wl_X9_114 rfl rfl rfl ⟨Nat.le_of_ble_eq_true rfl, Nat.le_of_ble_eq_true rfl⟩ ⟨Nat.le_refl _, Nat.le_refl _⟩ (Nat.le_of_ble_eq_true rfl) (by decide +kernel) ?_ rfl
  refine mz_go FLX9 KLX9 C [(5, .iload_n 2), (6, .iconst 4)] (by decide +kernel) (pc' := 7) (L' := [(0, .ref 0), (1, .int p), (2, .int w)]) (st' := [.int 4, .int w]) rfl ?_
  refine mz_callS (As := [.int w, .int 4]) (rest := []) C E' (f_X9_checkWhat l D cA ρ hI M w 4 v3 v4) hs_X9_checkWhat wl_X9_252 rfl ⟨Nat.le_of_ble_eq_true rfl, Nat.le_of_ble_eq_true rfl⟩ ⟨Nat.le_refl _, Nat.le_refl _⟩ (Nat.le_of_ble_eq_true rfl) (by decide +kernel) ?_ rfl
  refine mz_go FLX9 KLX9 C [(10, .iload_n 2)] (by decide +kernel) (pc' := 11) (L' := [(0, .ref 0), (1, .int p), (2, .int w)]) (st' := [.int w]) rfl ?_
  by_cases h1 : w = 0
  · refine mz_tin (dflt := 80) (lo := 0) (hi := 3) (offs := #[29, 41, 50, 65]) (len := 29) (q := 0) (v := 0) (off := 29) (tgt := 40) C (by decide +kernel) h1 (by decide) (by decide) rfl (by decide) ?_
    refine mz_go FLX9 KLX9 C [(40, .aload_n 0), (41, .getfield 19), (44, .getfield 330), (47, .iload_n 1)] (by decide +kernel) (pc' := 48) (L' := [(0, .ref 0), (1, .int p), (2, .int w)]) (st' := [.int p, .ref 18]) rfl ?_
    refine mz_callV (As := [.int p]) (rest := []) C E' (f_Row_get l D cA ρ hI (r := 18) (a := 19) (n := 4) rfl rfl (by decide) M p) hy_X6_get wl_X9_174 rfl rfl rfl ⟨Nat.le_of_ble_eq_true rfl, Nat.le_of_ble_eq_true rfl⟩ ⟨Nat.le_refl _, Nat.le_refl _⟩ (Nat.le_of_ble_eq_true rfl) (by decide +kernel) ?_ rfl
    exact mz_iret C E (by decide +kernel) (by unfold g_X9_ofProp; rw [if_pos h1]; try rfl) (rfl)
  by_cases h2 : w = 1
  · refine mz_tin (dflt := 80) (lo := 0) (hi := 3) (offs := #[29, 41, 50, 65]) (len := 29) (q := 1) (v := 1) (off := 41) (tgt := 52) C (by decide +kernel) h2 (by decide) (by decide) rfl (by decide) ?_
    refine mz_go FLX9 KLX9 C [(52, .aload_n 0), (53, .getfield 28), (56, .iload_n 1)] (by decide +kernel) (pc' := 57) (L' := [(0, .ref 0), (1, .int p), (2, .int w)]) (st' := [.int p, .ref 30]) rfl ?_
    refine mz_callV (As := [.int p]) (rest := []) C E' (mz_liftAR hI (f_X2_roomOfProp l D cA ρ (mz_I1 hI) M p)) hy_X2_roomOfProp wl_X9_333 rfl rfl rfl ⟨Nat.le_of_ble_eq_true rfl, Nat.le_of_ble_eq_true rfl⟩ ⟨Nat.le_refl _, Nat.le_refl _⟩ (Nat.le_of_ble_eq_true rfl) (by decide +kernel) ?_ rfl
    exact mz_iret C E (by decide +kernel) (by unfold g_X9_ofProp; rw [if_neg h1, if_pos h2]; try rfl) (rfl)
  by_cases h3 : w = 2
  · refine mz_tin (dflt := 80) (lo := 0) (hi := 3) (offs := #[29, 41, 50, 65]) (len := 29) (q := 2) (v := 2) (off := 50) (tgt := 61) C (by decide +kernel) h3 (by decide) (by decide) rfl (by decide) ?_
    refine mz_go FLX9 KLX9 C [(61, .aload_n 0), (62, .getfield 28), (65, .getfield 106), (68, .getfield 336), (71, .iload_n 1)] (by decide +kernel) (pc' := 72) (L' := [(0, .ref 0), (1, .int p), (2, .int w)]) (st' := [.int p, .ref 54]) rfl ?_
    refine mz_callV (As := [.int p]) (rest := []) C E' (f_Row_get l D cA ρ hI (r := 54) (a := 55) (n := 4) rfl rfl (by decide) M p) hy_X6_get wl_X9_174 rfl rfl rfl ⟨Nat.le_of_ble_eq_true rfl, Nat.le_of_ble_eq_true rfl⟩ ⟨Nat.le_refl _, Nat.le_refl _⟩ (Nat.le_of_ble_eq_true rfl) (by decide +kernel) ?_ rfl
    exact mz_iret C E (by decide +kernel) (by unfold g_X9_ofProp; rw [if_neg h1, if_neg h2, if_pos h3]; try rfl) (rfl)
  by_cases h4 : w = 3
  · refine mz_tin (dflt := 80) (lo := 0) (hi := 3) (offs := #[29, 41, 50, 65]) (len := 29) (q := 3) (v := 3) (off := 65) (tgt := 76) C (by decide +kernel) h4 (by decide) (by decide) rfl (by decide) ?_
    refine mz_go FLX9 KLX9 C [(76, .aload_n 0), (77, .getfield 28), (80, .getfield 106), (83, .getfield 339), (86, .iload_n 1)] (by decide +kernel) (pc' := 87) (L' := [(0, .ref 0), (1, .int p), (2, .int w)]) (st' := [.int p, .ref 56]) rfl ?_
    refine mz_callV (As := [.int p]) (rest := []) C E' (f_Row_get l D cA ρ hI (r := 56) (a := 57) (n := 4) rfl rfl (by decide) M p) hy_X6_get wl_X9_174 rfl rfl rfl ⟨Nat.le_of_ble_eq_true rfl, Nat.le_of_ble_eq_true rfl⟩ ⟨Nat.le_refl _, Nat.le_refl _⟩ (Nat.le_of_ble_eq_true rfl) (by decide +kernel) ?_ rfl
    exact mz_iret C E (by decide +kernel) (by unfold g_X9_ofProp; rw [if_neg h1, if_neg h2, if_neg h3, if_pos h4]; try rfl) (rfl)
  refine mz_tout (dflt := 80) (lo := 0) (hi := 3) (offs := #[29, 41, 50, 65]) (len := 29) (tgt := 91) C (by decide +kernel) (by have := mz_ne_toInt (v := 0) (by decide) h1; have := mz_ne_toInt (v := 1) (by decide) h2; have := mz_ne_toInt (v := 2) (by decide) h3; have := mz_ne_toInt (v := 3) (by decide) h4; omega) (by decide) ?_
  refine mz_go FLX9 KLX9 C [(91, .aload_n 0), (92, .getfield 28), (95, .getfield 106), (98, .getfield 212), (101, .iload_n 1)] (by decide +kernel) (pc' := 102) (L' := [(0, .ref 0), (1, .int p), (2, .int w)]) (st' := [.int p, .ref 58]) rfl ?_
  refine mz_callV (As := [.int p]) (rest := []) C E' (f_Row_get l D cA ρ hI (r := 58) (a := 59) (n := 4) rfl rfl (by decide) M p) hy_X6_get wl_X9_174 rfl rfl rfl ⟨Nat.le_of_ble_eq_true rfl, Nat.le_of_ble_eq_true rfl⟩ ⟨Nat.le_refl _, Nat.le_refl _⟩ (Nat.le_of_ble_eq_true rfl) (by decide +kernel) ?_ rfl
  exact mz_iret C E (by decide +kernel) (by unfold g_X9_ofProp; rw [if_neg h1, if_neg h2, if_neg h3, if_neg h4]; try rfl) (rfl)
def g_X9_seen (M : mz_Mem) (g : Int32) (k : Int32) : Int32 := (mz_gg 144 (M 73 0) (M 75) g k)
set_option maxHeartbeats 4000000 in
theorem f_X9_seen (l : Launch) (D : va_G) (cA : Nat → ClassId) (ρ : Nat → Nat) (hI : mz_I ρ mz_lay2) (M : mz_Mem) (g : Int32) (k : Int32) (v1 : ¬ g < 0) (v2 : g < (M 60 0)) (v3 : ¬ k < 0) (v4 : k < (M 15 2)) : mz_M l D vwCl cA ρ mz_lay2 yX9_seen cX9_seen 3 (some .int) 2 43 [.ref 0, .int g, .int k] M (some (.int (g_X9_seen M g k))) M := by
  refine mz_in0 (by decide +kernel) (Nat.le_of_ble_eq_true rfl) (fun Γ C E => ?_)
  have E' := (⟨_, _, _, E⟩ : ∃ Qc mc ms, mz_E Γ Qc mc ms (mz_A ρ mz_lay2))
  refine mz_go FLX9 KLX9 C [(0, .aload_n 0), (1, .iload_n 1)] (by decide +kernel) (pc' := 2) (L' := [(0, .ref 0), (1, .int g), (2, .int k)]) (st' := [.int g, .ref 0]) rfl ?_
  refine mz_callV (As := [.int g]) (rest := []) C E' (f_X9_checkGuest l D cA ρ hI M g v1 v2) hy_X9_checkGuest wl_X9_162 rfl rfl rfl ⟨Nat.le_of_ble_eq_true rfl, Nat.le_of_ble_eq_true rfl⟩ ⟨Nat.le_refl _, Nat.le_refl _⟩ (Nat.le_of_ble_eq_true rfl) (by decide +kernel) ?_ rfl
  refine mz_go FLX9 KLX9 C [(5, .aload_n 0), (6, .iload_n 2)] (by decide +kernel) (pc' := 7) (L' := [(0, .ref 0), (1, .int g), (2, .int k)]) (st' := [.int k, .ref 0]) rfl ?_
  refine mz_callV (As := [.int k]) (rest := []) C E' (f_X9_checkScene l D cA ρ hI M k v3 v4) hy_X9_checkScene wl_X9_289 rfl rfl rfl ⟨Nat.le_of_ble_eq_true rfl, Nat.le_of_ble_eq_true rfl⟩ ⟨Nat.le_refl _, Nat.le_refl _⟩ (Nat.le_of_ble_eq_true rfl) (by decide +kernel) ?_ rfl
  refine mz_go FLX9 KLX9 C [(10, .aload_n 0), (11, .getfield 28), (14, .getfield 146), (17, .getfield 342), (20, .iload_n 1), (21, .iload_n 2)] (by decide +kernel) (pc' := 22) (L' := [(0, .ref 0), (1, .int g), (2, .int k)]) (st' := [.int k, .int g, .ref 73]) rfl ?_
  refine mz_callV (As := [.int g, .int k]) (rest := []) C E' (f_Grid_get l D cA ρ hI (g := 73) (r := 74) (a := 75) (n := 144) rfl rfl rfl (by decide) M g k) hy_X3_get wl_X9_68 rfl rfl rfl ⟨Nat.le_of_ble_eq_true rfl, Nat.le_of_ble_eq_true rfl⟩ ⟨Nat.le_refl _, Nat.le_refl _⟩ (Nat.le_of_ble_eq_true rfl) (by decide +kernel) ?_ rfl
  exact mz_iret C E (by decide +kernel) (rfl) (rfl)
def g_X9_many (M : mz_Mem) (w : Int32) : Int32 := if w = 0 then (M 30 7) else if w = 1 then (M 1 0) else if w = 2 then (M 1 1) else if w = 3 then (M 15 0) else if w = 4 then (M 15 2) else if w = 5 then (M 15 1) else if w = 6 then (M 60 0) else if w = 7 then (g_X8_countRunning M) else if w = 8 then (mz_sum 12 (M 48)) else if w = 9 then (mz_sum 12 (M 50)) else if w = 10 then (M 40 6) else if w = 11 then ((M 15 2) - (mz_bitc (g_X0_knownByAny M))) else (mz_sum 12 (M 72))
set_option maxHeartbeats 4000000 in
theorem f_X9_many (l : Launch) (D : va_G) (cA : Nat → ClassId) (ρ : Nat → Nat) (hI : mz_I ρ mz_lay2) (M : mz_Mem) (w : Int32) (v1 : ¬ w < 0) (v2 : w ≤ 12) : mz_M l D vwCl cA ρ mz_lay2 yX9_many cX9_many 2 (some .int) 2 43 [.ref 0, .int w] M (some (.int (g_X9_many M w))) M := by
  refine mz_in0 (by decide +kernel) (Nat.le_of_ble_eq_true rfl) (fun Γ C E => ?_)
  have E' := (⟨_, _, _, E⟩ : ∃ Qc mc ms, mz_E Γ Qc mc ms (mz_A ρ mz_lay2))
  refine mz_go FLX9 KLX9 C [(0, .iload_n 1), (1, .bipush 12)] (by decide +kernel) (pc' := 3) (L' := [(0, .ref 0), (1, .int w)]) (st' := [.int 12, .int w]) rfl ?_
  refine mz_callS (As := [.int w, .int 12]) (rest := []) C E' (f_X9_checkWhat l D cA ρ hI M w 12 v1 v2) hs_X9_checkWhat wl_X9_252 rfl ⟨Nat.le_of_ble_eq_true rfl, Nat.le_of_ble_eq_true rfl⟩ ⟨Nat.le_refl _, Nat.le_refl _⟩ (Nat.le_of_ble_eq_true rfl) (by decide +kernel) ?_ rfl
  refine mz_go FLX9 KLX9 C [(6, .iload_n 1)] (by decide +kernel) (pc' := 7) (L' := [(0, .ref 0), (1, .int w)]) (st' := [.int w]) rfl ?_
  by_cases h1 : w = 0
  · refine mz_tin (dflt := 192) (lo := 0) (hi := 11) (offs := #[61, 69, 77, 85, 93, 101, 109, 120, 131, 145, 159, 170]) (len := 61) (q := 0) (v := 0) (off := 61) (tgt := 68) C (by decide +kernel) h1 (by decide) (by decide) rfl (by decide) ?_
    refine mz_go FLX9 KLX9 C [(68, .aload_n 0), (69, .getfield 28), (72, .getfield 126)] (by decide +kernel) (pc' := 75) (L' := [(0, .ref 0), (1, .int w)]) (st' := [.int (M 30 7)]) rfl ?_
    exact mz_iret C E (by decide +kernel) (by unfold g_X9_many; rw [if_pos h1]; try rfl) (rfl)
  by_cases h2 : w = 1
  · refine mz_tin (dflt := 192) (lo := 0) (hi := 11) (offs := #[61, 69, 77, 85, 93, 101, 109, 120, 131, 145, 159, 170]) (len := 61) (q := 1) (v := 1) (off := 69) (tgt := 76) C (by decide +kernel) h2 (by decide) (by decide) rfl (by decide) ?_
    refine mz_go FLX9 KLX9 C [(76, .aload_n 0), (77, .getfield 10), (80, .getfield 42)] (by decide +kernel) (pc' := 83) (L' := [(0, .ref 0), (1, .int w)]) (st' := [.int (M 1 0)]) rfl ?_
    exact mz_iret C E (by decide +kernel) (by unfold g_X9_many; rw [if_neg h1, if_pos h2]; try rfl) (rfl)
  by_cases h3 : w = 2
  · refine mz_tin (dflt := 192) (lo := 0) (hi := 11) (offs := #[61, 69, 77, 85, 93, 101, 109, 120, 131, 145, 159, 170]) (len := 61) (q := 2) (v := 2) (off := 77) (tgt := 84) C (by decide +kernel) h3 (by decide) (by decide) rfl (by decide) ?_
    refine mz_go FLX9 KLX9 C [(84, .aload_n 0), (85, .getfield 10), (88, .getfield 61)] (by decide +kernel) (pc' := 91) (L' := [(0, .ref 0), (1, .int w)]) (st' := [.int (M 1 1)]) rfl ?_
    exact mz_iret C E (by decide +kernel) (by unfold g_X9_many; rw [if_neg h1, if_neg h2, if_pos h3]; try rfl) (rfl)
  by_cases h4 : w = 3
  · refine mz_tin (dflt := 192) (lo := 0) (hi := 11) (offs := #[61, 69, 77, 85, 93, 101, 109, 120, 131, 145, 159, 170]) (len := 61) (q := 3) (v := 3) (off := 85) (tgt := 92) C (by decide +kernel) h4 (by decide) (by decide) rfl (by decide) ?_
    refine mz_go FLX9 KLX9 C [(92, .aload_n 0), (93, .getfield 19), (96, .getfield 80)] (by decide +kernel) (pc' := 99) (L' := [(0, .ref 0), (1, .int w)]) (st' := [.int (M 15 0)]) rfl ?_
    exact mz_iret C E (by decide +kernel) (by unfold g_X9_many; rw [if_neg h1, if_neg h2, if_neg h3, if_pos h4]; try rfl) (rfl)
  by_cases h5 : w = 4
  · refine mz_tin (dflt := 192) (lo := 0) (hi := 11) (offs := #[61, 69, 77, 85, 93, 101, 109, 120, 131, 145, 159, 170]) (len := 61) (q := 4) (v := 4) (off := 93) (tgt := 100) C (by decide +kernel) h5 (by decide) (by decide) rfl (by decide) ?_
    refine mz_go FLX9 KLX9 C [(100, .aload_n 0), (101, .getfield 19), (104, .getfield 129)] (by decide +kernel) (pc' := 107) (L' := [(0, .ref 0), (1, .int w)]) (st' := [.int (M 15 2)]) rfl ?_
    exact mz_iret C E (by decide +kernel) (by unfold g_X9_many; rw [if_neg h1, if_neg h2, if_neg h3, if_neg h4, if_pos h5]; try rfl) (rfl)
  by_cases h6 : w = 5
  · refine mz_tin (dflt := 192) (lo := 0) (hi := 11) (offs := #[61, 69, 77, 85, 93, 101, 109, 120, 131, 145, 159, 170]) (len := 61) (q := 5) (v := 5) (off := 101) (tgt := 108) C (by decide +kernel) h6 (by decide) (by decide) rfl (by decide) ?_
    refine mz_go FLX9 KLX9 C [(108, .aload_n 0), (109, .getfield 19), (112, .getfield 98)] (by decide +kernel) (pc' := 115) (L' := [(0, .ref 0), (1, .int w)]) (st' := [.int (M 15 1)]) rfl ?_
    exact mz_iret C E (by decide +kernel) (by unfold g_X9_many; rw [if_neg h1, if_neg h2, if_neg h3, if_neg h4, if_neg h5, if_pos h6]; try rfl) (rfl)
  by_cases h7 : w = 6
  · refine mz_tin (dflt := 192) (lo := 0) (hi := 11) (offs := #[61, 69, 77, 85, 93, 101, 109, 120, 131, 145, 159, 170]) (len := 61) (q := 6) (v := 6) (off := 109) (tgt := 116) C (by decide +kernel) h7 (by decide) (by decide) rfl (by decide) ?_
    refine mz_go FLX9 KLX9 C [(116, .aload_n 0), (117, .getfield 28), (120, .getfield 146), (123, .getfield 150)] (by decide +kernel) (pc' := 126) (L' := [(0, .ref 0), (1, .int w)]) (st' := [.int (M 60 0)]) rfl ?_
    exact mz_iret C E (by decide +kernel) (by unfold g_X9_many; rw [if_neg h1, if_neg h2, if_neg h3, if_neg h4, if_neg h5, if_neg h6, if_pos h7]; try rfl) (rfl)
  by_cases h8 : w = 7
  · refine mz_tin (dflt := 192) (lo := 0) (hi := 11) (offs := #[61, 69, 77, 85, 93, 101, 109, 120, 131, 145, 159, 170]) (len := 61) (q := 7) (v := 7) (off := 120) (tgt := 127) C (by decide +kernel) h8 (by decide) (by decide) rfl (by decide) ?_
    refine mz_go FLX9 KLX9 C [(127, .aload_n 0), (128, .getfield 28), (131, .getfield 187)] (by decide +kernel) (pc' := 134) (L' := [(0, .ref 0), (1, .int w)]) (st' := [.ref 40]) rfl ?_
    refine mz_callV (As := []) (rest := []) C E' (mz_liftAR hI (f_X8_countRunning l D cA ρ (mz_I1 hI) M )) hy_X8_countRunning wl_X9_345 rfl rfl rfl ⟨Nat.le_of_ble_eq_true rfl, Nat.le_of_ble_eq_true rfl⟩ ⟨Nat.le_refl _, Nat.le_refl _⟩ (Nat.le_of_ble_eq_true rfl) (by decide +kernel) ?_ rfl
    exact mz_iret C E (by decide +kernel) (by unfold g_X9_many; rw [if_neg h1, if_neg h2, if_neg h3, if_neg h4, if_neg h5, if_neg h6, if_neg h7, if_pos h8]; try rfl) (rfl)
  by_cases h9 : w = 8
  · refine mz_tin (dflt := 192) (lo := 0) (hi := 11) (offs := #[61, 69, 77, 85, 93, 101, 109, 120, 131, 145, 159, 170]) (len := 61) (q := 8) (v := 8) (off := 131) (tgt := 138) C (by decide +kernel) h9 (by decide) (by decide) rfl (by decide) ?_
    refine mz_go FLX9 KLX9 C [(138, .aload_n 0), (139, .getfield 28), (142, .getfield 187), (145, .getfield 191)] (by decide +kernel) (pc' := 148) (L' := [(0, .ref 0), (1, .int w)]) (st' := [.ref 47]) rfl ?_
    refine mz_callV (As := []) (rest := []) C E' (f_Row_sum l D cA ρ hI (r := 47) (a := 48) (n := 12) rfl rfl (by decide) M ) hy_X6_sum wl_X9_196 rfl rfl rfl ⟨Nat.le_of_ble_eq_true rfl, Nat.le_of_ble_eq_true rfl⟩ ⟨Nat.le_refl _, Nat.le_refl _⟩ (Nat.le_of_ble_eq_true rfl) (by decide +kernel) ?_ rfl
    exact mz_iret C E (by decide +kernel) (by unfold g_X9_many; rw [if_neg h1, if_neg h2, if_neg h3, if_neg h4, if_neg h5, if_neg h6, if_neg h7, if_neg h8, if_pos h9]; try rfl) (rfl)
  by_cases h10 : w = 9
  · refine mz_tin (dflt := 192) (lo := 0) (hi := 11) (offs := #[61, 69, 77, 85, 93, 101, 109, 120, 131, 145, 159, 170]) (len := 61) (q := 9) (v := 9) (off := 145) (tgt := 152) C (by decide +kernel) h10 (by decide) (by decide) rfl (by decide) ?_
    refine mz_go FLX9 KLX9 C [(152, .aload_n 0), (153, .getfield 28), (156, .getfield 187), (159, .getfield 314)] (by decide +kernel) (pc' := 162) (L' := [(0, .ref 0), (1, .int w)]) (st' := [.ref 49]) rfl ?_
    refine mz_callV (As := []) (rest := []) C E' (f_Row_sum l D cA ρ hI (r := 49) (a := 50) (n := 12) rfl rfl (by decide) M ) hy_X6_sum wl_X9_196 rfl rfl rfl ⟨Nat.le_of_ble_eq_true rfl, Nat.le_of_ble_eq_true rfl⟩ ⟨Nat.le_refl _, Nat.le_refl _⟩ (Nat.le_of_ble_eq_true rfl) (by decide +kernel) ?_ rfl
    exact mz_iret C E (by decide +kernel) (by unfold g_X9_many; rw [if_neg h1, if_neg h2, if_neg h3, if_neg h4, if_neg h5, if_neg h6, if_neg h7, if_neg h8, if_neg h9, if_pos h10]; try rfl) (rfl)
  by_cases h11 : w = 10
  · refine mz_tin (dflt := 192) (lo := 0) (hi := 11) (offs := #[61, 69, 77, 85, 93, 101, 109, 120, 131, 145, 159, 170]) (len := 61) (q := 10) (v := 10) (off := 159) (tgt := 166) C (by decide +kernel) h11 (by decide) (by decide) rfl (by decide) ?_
    refine mz_go FLX9 KLX9 C [(166, .aload_n 0), (167, .getfield 28), (170, .getfield 187), (173, .getfield 348)] (by decide +kernel) (pc' := 176) (L' := [(0, .ref 0), (1, .int w)]) (st' := [.int (M 40 6)]) rfl ?_
    exact mz_iret C E (by decide +kernel) (by unfold g_X9_many; rw [if_neg h1, if_neg h2, if_neg h3, if_neg h4, if_neg h5, if_neg h6, if_neg h7, if_neg h8, if_neg h9, if_neg h10, if_pos h11]; try rfl) (rfl)
  by_cases h12 : w = 11
  · refine mz_tin (dflt := 192) (lo := 0) (hi := 11) (offs := #[61, 69, 77, 85, 93, 101, 109, 120, 131, 145, 159, 170]) (len := 61) (q := 11) (v := 11) (off := 170) (tgt := 177) C (by decide +kernel) h12 (by decide) (by decide) rfl (by decide) ?_
    refine mz_go FLX9 KLX9 C [(177, .aload_n 0), (178, .getfield 19), (181, .getfield 129), (184, .aload_n 0), (185, .getfield 28), (188, .getfield 146)] (by decide +kernel) (pc' := 191) (L' := [(0, .ref 0), (1, .int w)]) (st' := [.ref 60, .int (M 15 2)]) rfl ?_
    refine mz_callV (As := []) (rest := [.int (M 15 2)]) C E' (mz_liftAR hI (f_X0_knownByAny l D cA ρ (mz_I1 hI) M )) hy_X0_knownByAny wl_X9_351 rfl rfl rfl ⟨Nat.le_of_ble_eq_true rfl, Nat.le_of_ble_eq_true rfl⟩ ⟨Nat.le_refl _, Nat.le_refl _⟩ (Nat.le_of_ble_eq_true rfl) (by decide +kernel) ?_ rfl
    refine mz_callS (As := [.int (g_X0_knownByAny M)]) (rest := [.int (M 15 2)]) C E' (f_J6_bitCount_0f7a4 l D cA ρ hI M (g_X0_knownByAny M)) hs_J6_bitCount_0f7a4 wl_X9_215 rfl ⟨Nat.le_of_ble_eq_true rfl, Nat.le_of_ble_eq_true rfl⟩ ⟨Nat.le_refl _, Nat.le_refl _⟩ (Nat.le_of_ble_eq_true rfl) (by decide +kernel) ?_ rfl
    refine mz_go FLX9 KLX9 C [(197, .isub)] (by decide +kernel) (pc' := 198) (L' := [(0, .ref 0), (1, .int w)]) (st' := [.int ((M 15 2) - (mz_bitc (g_X0_knownByAny M)))]) rfl ?_
    exact mz_iret C E (by decide +kernel) (by unfold g_X9_many; rw [if_neg h1, if_neg h2, if_neg h3, if_neg h4, if_neg h5, if_neg h6, if_neg h7, if_neg h8, if_neg h9, if_neg h10, if_neg h11, if_pos h12]; try rfl) (rfl)
  refine mz_tout (dflt := 192) (lo := 0) (hi := 11) (offs := #[61, 69, 77, 85, 93, 101, 109, 120, 131, 145, 159, 170]) (len := 61) (tgt := 199) C (by decide +kernel) (by have := mz_ne_toInt (v := 0) (by decide) h1; have := mz_ne_toInt (v := 1) (by decide) h2; have := mz_ne_toInt (v := 2) (by decide) h3; have := mz_ne_toInt (v := 3) (by decide) h4; have := mz_ne_toInt (v := 4) (by decide) h5; have := mz_ne_toInt (v := 5) (by decide) h6; have := mz_ne_toInt (v := 6) (by decide) h7; have := mz_ne_toInt (v := 7) (by decide) h8; have := mz_ne_toInt (v := 8) (by decide) h9; have := mz_ne_toInt (v := 9) (by decide) h10; have := mz_ne_toInt (v := 10) (by decide) h11; have := mz_ne_toInt (v := 11) (by decide) h12; omega) (by decide) ?_
  refine mz_go FLX9 KLX9 C [(199, .aload_n 0), (200, .getfield 28), (203, .getfield 146), (206, .getfield 327)] (by decide +kernel) (pc' := 209) (L' := [(0, .ref 0), (1, .int w)]) (st' := [.ref 71]) rfl ?_
  refine mz_callV (As := []) (rest := []) C E' (f_Row_sum l D cA ρ hI (r := 71) (a := 72) (n := 12) rfl rfl (by decide) M ) hy_X6_sum wl_X9_196 rfl rfl rfl ⟨Nat.le_of_ble_eq_true rfl, Nat.le_of_ble_eq_true rfl⟩ ⟨Nat.le_refl _, Nat.le_refl _⟩ (Nat.le_of_ble_eq_true rfl) (by decide +kernel) ?_ rfl
  exact mz_iret C E (by decide +kernel) (by unfold g_X9_many; rw [if_neg h1, if_neg h2, if_neg h3, if_neg h4, if_neg h5, if_neg h6, if_neg h7, if_neg h8, if_neg h9, if_neg h10, if_neg h11, if_neg h12]; try rfl) (rfl)
def g_X9_doubles_1 (M : mz_Mem) (t : Int32) (i2 : Int32) (a3 : Int32) : Int32 := if i2 = t then a3 else if (g_X2_canDouble M t i2) = 0 then a3 else a3 ||| (1 <<< (i2 &&& 31))
def g_X9_doubles (M : mz_Mem) (t : Int32) : Int32 := (mz_fr (M 15 0) (g_X9_doubles_1 M t) 0)
set_option maxHeartbeats 4000000 in
theorem f_X9_doubles (l : Launch) (D : va_G) (cA : Nat → ClassId) (ρ : Nat → Nat) (hI : mz_I ρ mz_lay2) (M : mz_Mem) (t : Int32) (v1 : ¬ t < 0) (v2 : t < (M 15 0)) : mz_M l D vwCl cA ρ mz_lay2 yX9_doubles cX9_doubles 4 (some .int) 4 93 [.ref 0, .int t] M (some (.int (g_X9_doubles M t))) M := by
  refine mz_in0 (by decide +kernel) (Nat.le_of_ble_eq_true rfl) (fun Γ C E => ?_)
  have E' := (⟨_, _, _, E⟩ : ∃ Qc mc ms, mz_E Γ Qc mc ms (mz_A ρ mz_lay2))
  refine mz_go FLX9 KLX9 C [(0, .aload_n 0), (1, .iload_n 1)] (by decide +kernel) (pc' := 2) (L' := [(0, .ref 0), (1, .int t)]) (st' := [.int t, .ref 0]) rfl ?_
  refine mz_callV (As := [.int t]) (rest := []) C E' (f_X9_checkTrack l D cA ρ hI M t v1 v2) hy_X9_checkTrack wl_X9_165 rfl rfl rfl ⟨Nat.le_of_ble_eq_true rfl, Nat.le_of_ble_eq_true rfl⟩ ⟨Nat.le_refl _, Nat.le_refl _⟩ (Nat.le_of_ble_eq_true rfl) (by decide +kernel) ?_ rfl
  refine mz_go FLX9 KLX9 C [(5, .iconst 0), (6, .istore_n 2), (7, .iconst 0), (8, .istore_n 3)] (by decide +kernel) (pc' := 9) (L' := [(3, .int 0), (2, .int 0), (0, .ref 0), (1, .int t)]) (st' := []) rfl ?_
  refine mz_sub (L' := [(0, .ref 0), (1, .int t), (2, .int 0), (3, .int 0)]) (by simp) ?_
  refine mz_loop (M 15 0) (g_X9_doubles_1 M t) (fun (i : Int32) (a : Int32) => mz_W Γ ρ 4 0 0 (mz_H D vwCl cA ρ mz_lay2 M) 9 [(0, .ref 0), (1, .int t), (2, .int a), (3, .int i)] []) 0 (fun i2 a3 hi4 hx5 hb6 => ?_)
  refine mz_go FLX9 KLX9 C [(9, .iload_n 3), (10, .aload_n 0), (11, .getfield 19), (14, .getfield 80)] (by decide +kernel) (pc' := 17) (L' := [(0, .ref 0), (1, .int t), (2, .int a3), (3, .int i2)]) (st' := [.int (M 15 0), .int i2]) rfl ?_
  refine mz_ige (off := 32) (tgt := 49) C (by decide +kernel) (by decide) (fun h1 => ?_) (fun h1 => ?_)
  · have e10 := hx5 h1
    subst e10
    refine mz_sub (L' := [(0, .ref 0), (1, .int t), (2, .int (mz_fr (M 15 0) (g_X9_doubles_1 M t) 0))]) (by simp) ?_
    refine mz_go FLX9 KLX9 C [(49, .iload_n 2)] (by decide +kernel) (pc' := 50) (L' := [(0, .ref 0), (1, .int t), (2, .int (mz_fr (M 15 0) (g_X9_doubles_1 M t) 0))]) (st' := [.int (mz_fr (M 15 0) (g_X9_doubles_1 M t) 0)]) rfl ?_
    exact mz_iret C E (by decide +kernel) (rfl) (rfl)
  · refine mz_go FLX9 KLX9 C [(20, .iload_n 3), (21, .iload_n 1)] (by decide +kernel) (pc' := 22) (L' := [(0, .ref 0), (1, .int t), (2, .int a3), (3, .int i2)]) (st' := [.int t, .int i2]) rfl ?_
    refine mz_ieq (off := 21) (tgt := 43) C (by decide +kernel) (by decide) (fun h11 => ?_) (fun h11 => ?_)
    · refine mz_go FLX9 KLX9 C [(43, .iinc 3 1), (46, .goto (-37))] (by decide +kernel) (pc' := 9) (L' := [(3, .int (i2 + 1)), (0, .ref 0), (1, .int t), (2, .int a3)]) (st' := []) rfl ?_
      have hb12 := hb6 h1
      rw [show g_X9_doubles_1 M t i2 a3 = a3 from by unfold g_X9_doubles_1; rw [if_pos h11]] at hb12
      exact mz_sub (by simp) hb12
    · refine mz_go FLX9 KLX9 C [(25, .aload_n 0), (26, .getfield 28), (29, .iload_n 1), (30, .iload_n 3)] (by decide +kernel) (pc' := 31) (L' := [(0, .ref 0), (1, .int t), (2, .int a3), (3, .int i2)]) (st' := [.int i2, .int t, .ref 30]) rfl ?_
      refine mz_callV (As := [.int t, .int i2]) (rest := []) C E' (mz_liftAR hI (f_X2_canDouble l D cA ρ (mz_I1 hI) M t i2)) hy_X2_canDouble wl_X9_230 rfl rfl rfl ⟨Nat.le_of_ble_eq_true rfl, Nat.le_of_ble_eq_true rfl⟩ ⟨Nat.le_refl _, Nat.le_refl _⟩ (Nat.le_of_ble_eq_true rfl) (by decide +kernel) ?_ rfl
      refine mz_zeq (off := 9) (tgt := 43) C (by decide +kernel) (by decide) (fun h13 => ?_) (fun h13 => ?_)
      · refine mz_go FLX9 KLX9 C [(43, .iinc 3 1), (46, .goto (-37))] (by decide +kernel) (pc' := 9) (L' := [(3, .int (i2 + 1)), (0, .ref 0), (1, .int t), (2, .int a3)]) (st' := []) rfl ?_
        have hb14 := hb6 h1
        rw [show g_X9_doubles_1 M t i2 a3 = a3 from by unfold g_X9_doubles_1; rw [if_neg h11, if_pos h13]] at hb14
        exact mz_sub (by simp) hb14
      · refine mz_go FLX9 KLX9 C [(37, .iload_n 2), (38, .iconst 1), (39, .iload_n 3), (40, .ishl), (41, .ior), (42, .istore_n 2), (43, .iinc 3 1), (46, .goto (-37))] (by decide +kernel) (pc' := 9) (L' := [(3, .int (i2 + 1)), (2, .int (a3 ||| (1 <<< (i2 &&& 31)))), (0, .ref 0), (1, .int t)]) (st' := []) rfl ?_
        have hb15 := hb6 h1
        rw [show g_X9_doubles_1 M t i2 a3 = a3 ||| (1 <<< (i2 &&& 31)) from by unfold g_X9_doubles_1; rw [if_neg h11, if_neg h13]] at hb15
        exact mz_sub (by simp) hb15
