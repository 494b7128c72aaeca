def g_X2_roomOfProp (M : mz_Mem) (p : Int32) : Int32 := if (mz_rg 4 (M 55) p) = (-1) then (if (mz_rg 4 (M 57) p) = (-1) then (mz_rg 4 (M 53) p) else (mz_rg 12 (M 62) (mz_rg 4 (M 57) p))) else (mz_rg 5 (M 35) (mz_rg 4 (M 55) p))
set_option maxHeartbeats 4000000 in
theorem f_X2_roomOfProp (l : Launch) (D : va_G) (cA : Nat → ClassId) (ρ : Nat → Nat) (hI : mz_I ρ mz_lay1) (M : mz_Mem) (p : Int32) : mz_M l D vwCl cA ρ mz_lay1 yX2_roomOfProp cX2_roomOfProp 2 (some .int) 1 21 [.ref 30, .int p] M (some (.int (g_X2_roomOfProp M p))) M := by
  refine mz_in0 (by decide +kernel) (Nat.le_of_ble_eq_true rfl) (fun Γ C E => ?_)
  have E' := (⟨_, _, _, E⟩ : ∃ Qc mc ms, mz_E Γ Qc mc ms (mz_A ρ mz_lay1))
  refine mz_go FLX2 KLX2 C [(0, .aload_n 0), (1, .getfield 47), (4, .getfield 199), (7, .iload_n 1)] (by decide +kernel) (pc' := 8) (L' := [(0, .ref 30), (1, .int p)]) (st' := [.int p, .ref 54]) rfl ?_
  refine mz_callV (As := [.int p]) (rest := []) C E' (f_Row_get l D cA ρ hI (r := 54) (a := 55) (n := 4) rfl rfl (by decide) M p) hy_X6_get wl_X2_121 rfl rfl rfl ⟨Nat.le_of_ble_eq_true rfl, Nat.le_of_ble_eq_true rfl⟩ ⟨Nat.le_refl _, Nat.le_refl _⟩ (Nat.le_of_ble_eq_true rfl) (by decide +kernel) ?_ rfl
  refine mz_go FLX2 KLX2 C [(11, .iconst (-1))] (by decide +kernel) (pc' := 12) (L' := [(0, .ref 30), (1, .int p)]) (st' := [.int (-1), .int (mz_rg 4 (M 55) p)]) rfl ?_
  refine mz_ieq (off := 25) (tgt := 37) C (by decide +kernel) (by decide) (fun h1 => ?_) (fun h1 => ?_)
  · refine mz_go FLX2 KLX2 C [(37, .aload_n 0), (38, .getfield 47), (41, .getfield 273), (44, .iload_n 1)] (by decide +kernel) (pc' := 45) (L' := [(0, .ref 30), (1, .int p)]) (st' := [.int p, .ref 56]) rfl ?_
    refine mz_callV (As := [.int p]) (rest := []) C E' (f_Row_get l D cA ρ hI (r := 56) (a := 57) (n := 4) rfl rfl (by decide) M p) hy_X6_get wl_X2_121 rfl rfl rfl ⟨Nat.le_of_ble_eq_true rfl, Nat.le_of_ble_eq_true rfl⟩ ⟨Nat.le_refl _, Nat.le_refl _⟩ (Nat.le_of_ble_eq_true rfl) (by decide +kernel) ?_ rfl
    refine mz_go FLX2 KLX2 C [(48, .iconst (-1))] (by decide +kernel) (pc' := 49) (L' := [(0, .ref 30), (1, .int p)]) (st' := [.int (-1), .int (mz_rg 4 (M 57) p)]) rfl ?_
    refine mz_ieq (off := 25) (tgt := 74) C (by decide +kernel) (by decide) (fun h2 => ?_) (fun h2 => ?_)
    · refine mz_go FLX2 KLX2 C [(74, .aload_n 0), (75, .getfield 47), (78, .getfield 198), (81, .iload_n 1)] (by decide +kernel) (pc' := 82) (L' := [(0, .ref 30), (1, .int p)]) (st' := [.int p, .ref 52]) rfl ?_
      refine mz_callV (As := [.int p]) (rest := []) C E' (f_Row_get l D cA ρ hI (r := 52) (a := 53) (n := 4) rfl rfl (by decide) M p) hy_X6_get wl_X2_121 rfl rfl rfl ⟨Nat.le_of_ble_eq_true rfl, Nat.le_of_ble_eq_true rfl⟩ ⟨Nat.le_refl _, Nat.le_refl _⟩ (Nat.le_of_ble_eq_true rfl) (by decide +kernel) ?_ rfl
      exact mz_iret C E (by decide +kernel) (by unfold g_X2_roomOfProp; rw [if_pos h1, if_pos h2]; try rfl) (rfl)
    · refine mz_go FLX2 KLX2 C [(52, .aload_n 0), (53, .getfield 54), (56, .getfield 210), (59, .aload_n 0), (60, .getfield 47), (63, .getfield 273), (66, .iload_n 1)] (by decide +kernel) (pc' := 67) (L' := [(0, .ref 30), (1, .int p)]) (st' := [.int p, .ref 56, .ref 61]) rfl ?_
      refine mz_callV (As := [.int p]) (rest := [.ref 61]) C E' (f_Row_get l D cA ρ hI (r := 56) (a := 57) (n := 4) rfl rfl (by decide) M p) hy_X6_get wl_X2_121 rfl rfl rfl ⟨Nat.le_of_ble_eq_true rfl, Nat.le_of_ble_eq_true rfl⟩ ⟨Nat.le_refl _, Nat.le_refl _⟩ (Nat.le_of_ble_eq_true rfl) (by decide +kernel) ?_ rfl
      refine mz_callV (As := [.int (mz_rg 4 (M 57) p)]) (rest := []) C E' (f_Row_get l D cA ρ hI (r := 61) (a := 62) (n := 12) rfl rfl (by decide) M (mz_rg 4 (M 57) p)) hy_X6_get wl_X2_121 rfl rfl rfl ⟨Nat.le_of_ble_eq_true rfl, Nat.le_of_ble_eq_true rfl⟩ ⟨Nat.le_refl _, Nat.le_refl _⟩ (Nat.le_of_ble_eq_true rfl) (by decide +kernel) ?_ rfl
      exact mz_iret C E (by decide +kernel) (by unfold g_X2_roomOfProp; rw [if_pos h1, if_neg h2]; try rfl) (rfl)
  · refine mz_go FLX2 KLX2 C [(15, .aload_n 0), (16, .getfield 33), (19, .getfield 137), (22, .aload_n 0), (23, .getfield 47), (26, .getfield 199), (29, .iload_n 1)] (by decide +kernel) (pc' := 30) (L' := [(0, .ref 30), (1, .int p)]) (st' := [.int p, .ref 54, .ref 34]) rfl ?_
    refine mz_callV (As := [.int p]) (rest := [.ref 34]) C E' (f_Row_get l D cA ρ hI (r := 54) (a := 55) (n := 4) rfl rfl (by decide) M p) hy_X6_get wl_X2_121 rfl rfl rfl ⟨Nat.le_of_ble_eq_true rfl, Nat.le_of_ble_eq_true rfl⟩ ⟨Nat.le_refl _, Nat.le_refl _⟩ (Nat.le_of_ble_eq_true rfl) (by decide +kernel) ?_ rfl
    refine mz_callV (As := [.int (mz_rg 4 (M 55) p)]) (rest := []) C E' (f_Row_get l D cA ρ hI (r := 34) (a := 35) (n := 5) rfl rfl (by decide) M (mz_rg 4 (M 55) p)) hy_X6_get wl_X2_121 rfl rfl rfl ⟨Nat.le_of_ble_eq_true rfl, Nat.le_of_ble_eq_true rfl⟩ ⟨Nat.le_refl _, Nat.le_refl _⟩ (Nat.le_of_ble_eq_true rfl) (by decide +kernel) ?_ rfl
    exact mz_iret C E (by decide +kernel) (by unfold g_X2_roomOfProp; rw [if_neg h1]; try rfl) (rfl)


def g_X2_canDouble (M : mz_Mem) (t : Int32) (b : Int32) : Int32 := if ((g_X8_busyTracks M) &&& ((1 <<< (t &&& 31)) ||| (1 <<< (b &&& 31)))) = 0 then (if (g_X1_isSingle M t) = 0 then 0 else if (g_X1_isSingle M b) = 0 then 0 else if (g_X7_overlap M t b) = 0 then 1 else 0) else 0
set_option maxHeartbeats 4000000 in
theorem f_X2_canDouble (l : Launch) (D : va_G) (cA : Nat → ClassId) (ρ : Nat → Nat) (hI : mz_I ρ mz_lay1) (M : mz_Mem) (t : Int32) (b : Int32) : mz_M l D vwCl cA ρ mz_lay1 yX2_canDouble cX2_canDouble 4 (some .boolean) 3 70 [.ref 30, .int t, .int b] M (some (.int (g_X2_canDouble M t b))) M := by
  refine mz_in0 (by decide +kernel) (Nat.le_of_ble_eq_true rfl) (fun Γ C E => ?_)
  have E' := (⟨_, _, _, E⟩ : ∃ Qc mc ms, mz_E Γ Qc mc ms (mz_A ρ mz_lay1))
  refine mz_go FLX2 KLX2 C [(0, .aload_n 0), (1, .getfield 40)] (by decide +kernel) (pc' := 4) (L' := [(0, .ref 30), (1, .int t), (2, .int b)]) (st' := [.ref 40]) rfl ?_
  refine mz_callV (As := []) (rest := []) C E' (f_X8_busyTracks l D cA ρ hI M ) hy_X8_busyTracks wl_X2_105 rfl rfl rfl ⟨Nat.le_of_ble_eq_true rfl, Nat.le_of_ble_eq_true rfl⟩ ⟨Nat.le_refl _, Nat.le_refl _⟩ (Nat.le_of_ble_eq_true rfl) (by decide +kernel) ?_ rfl
  refine mz_go FLX2 KLX2 C [(7, .iconst 1), (8, .iload_n 1), (9, .ishl), (10, .iconst 1), (11, .iload_n 2), (12, .ishl), (13, .ior), (14, .iand)] (by decide +kernel) (pc' := 15) (L' := [(0, .ref 30), (1, .int t), (2, .int b)]) (st' := [.int ((g_X8_busyTracks M) &&& ((1 <<< (t &&& 31)) ||| (1 <<< (b &&& 31))))]) rfl ?_
  refine mz_zne (off := 7) (tgt := 22) C (by decide +kernel) (by decide) (fun h1 => ?_) (fun h1 => ?_)
  · refine mz_go FLX2 KLX2 C [(22, .iconst 0), (23, .istore_n 3), (24, .iload_n 3)] (by decide +kernel) (pc' := 25) (L' := [(3, .int 0), (0, .ref 30), (1, .int t), (2, .int b)]) (st' := [.int 0]) rfl ?_
    refine mz_zeq (off := 41) (tgt := 66) C (by decide +kernel) (by decide) (fun _ => ?_) (fun h2 => absurd h2 (by decide))
    refine mz_go FLX2 KLX2 C [(66, .iconst 0)] (by decide +kernel) (pc' := 67) (L' := [(3, .int 0), (0, .ref 30), (1, .int t), (2, .int b)]) (st' := [.int 0]) rfl ?_
    exact mz_zret C E (by decide +kernel) (Or.inl rfl) (by unfold g_X2_canDouble; rw [if_neg h1]; try rfl) (rfl)
  · refine mz_go FLX2 KLX2 C [(18, .iconst 1), (19, .goto 4), (23, .istore_n 3), (24, .iload_n 3)] (by decide +kernel) (pc' := 25) (L' := [(3, .int 1), (0, .ref 30), (1, .int t), (2, .int b)]) (st' := [.int 1]) rfl ?_
    refine mz_zeq (off := 41) (tgt := 66) C (by decide +kernel) (by decide) (fun h3 => absurd h3 (by decide)) (fun _ => ?_)
    refine mz_go FLX2 KLX2 C [(28, .aload_n 0), (29, .getfield 33), (32, .iload_n 1)] (by decide +kernel) (pc' := 33) (L' := [(3, .int 1), (0, .ref 30), (1, .int t), (2, .int b)]) (st' := [.int t, .ref 33]) rfl ?_
    refine mz_callV (As := [.int t]) (rest := []) C E' (f_X1_isSingle l D cA ρ hI M t) hy_X1_isSingle wl_X2_282 rfl rfl rfl ⟨Nat.le_of_ble_eq_true rfl, Nat.le_of_ble_eq_true rfl⟩ ⟨Nat.le_refl _, Nat.le_refl _⟩ (Nat.le_of_ble_eq_true rfl) (by decide +kernel) ?_ rfl
    refine mz_zeq (off := 30) (tgt := 66) C (by decide +kernel) (by decide) (fun h4 => ?_) (fun h4 => ?_)
    · refine mz_go FLX2 KLX2 C [(66, .iconst 0)] (by decide +kernel) (pc' := 67) (L' := [(3, .int 1), (0, .ref 30), (1, .int t), (2, .int b)]) (st' := [.int 0]) rfl ?_
      exact mz_zret C E (by decide +kernel) (Or.inl rfl) (by unfold g_X2_canDouble; rw [if_pos h1, if_pos h4]; try rfl) (rfl)
    · refine mz_go FLX2 KLX2 C [(39, .aload_n 0), (40, .getfield 33), (43, .iload_n 2)] (by decide +kernel) (pc' := 44) (L' := [(3, .int 1), (0, .ref 30), (1, .int t), (2, .int b)]) (st' := [.int b, .ref 33]) rfl ?_
      refine mz_callV (As := [.int b]) (rest := []) C E' (f_X1_isSingle l D cA ρ hI M b) hy_X1_isSingle wl_X2_282 rfl rfl rfl ⟨Nat.le_of_ble_eq_true rfl, Nat.le_of_ble_eq_true rfl⟩ ⟨Nat.le_refl _, Nat.le_refl _⟩ (Nat.le_of_ble_eq_true rfl) (by decide +kernel) ?_ rfl
      refine mz_zeq (off := 19) (tgt := 66) C (by decide +kernel) (by decide) (fun h5 => ?_) (fun h5 => ?_)
      · refine mz_go FLX2 KLX2 C [(66, .iconst 0)] (by decide +kernel) (pc' := 67) (L' := [(3, .int 1), (0, .ref 30), (1, .int t), (2, .int b)]) (st' := [.int 0]) rfl ?_
        exact mz_zret C E (by decide +kernel) (Or.inl rfl) (by unfold g_X2_canDouble; rw [if_pos h1, if_neg h4, if_pos h5]; try rfl) (rfl)
      · refine mz_go FLX2 KLX2 C [(50, .aload_n 0), (51, .getfield 24), (54, .iload_n 1), (55, .iload_n 2)] (by decide +kernel) (pc' := 56) (L' := [(3, .int 1), (0, .ref 30), (1, .int t), (2, .int b)]) (st' := [.int b, .int t, .ref 15]) rfl ?_
        refine mz_callV (As := [.int t, .int b]) (rest := []) C E' (f_X7_overlap l D cA ρ hI M t b) hy_X7_overlap wl_X2_285 rfl rfl rfl ⟨Nat.le_of_ble_eq_true rfl, Nat.le_of_ble_eq_true rfl⟩ ⟨Nat.le_refl _, Nat.le_refl _⟩ (Nat.le_of_ble_eq_true rfl) (by decide +kernel) ?_ rfl
        refine mz_zne (off := 7) (tgt := 66) C (by decide +kernel) (by decide) (fun h6 => ?_) (fun h6 => ?_)
        · refine mz_go FLX2 KLX2 C [(66, .iconst 0)] (by decide +kernel) (pc' := 67) (L' := [(3, .int 1), (0, .ref 30), (1, .int t), (2, .int b)]) (st' := [.int 0]) rfl ?_
          exact mz_zret C E (by decide +kernel) (Or.inl rfl) (by unfold g_X2_canDouble; rw [if_pos h1, if_neg h4, if_neg h5, if_neg h6]; try rfl) (rfl)
        · refine mz_go FLX2 KLX2 C [(62, .iconst 1), (63, .goto 4)] (by decide +kernel) (pc' := 67) (L' := [(3, .int 1), (0, .ref 30), (1, .int t), (2, .int b)]) (st' := [.int 1]) rfl ?_
          exact mz_zret C E (by decide +kernel) (Or.inr rfl) (by unfold g_X2_canDouble; rw [if_pos h1, if_neg h4, if_neg h5, if_pos h6]; try rfl) (rfl)
