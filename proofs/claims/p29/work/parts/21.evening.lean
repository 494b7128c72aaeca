def g_X2_moveTrack (M : mz_Mem) (t : Int32) (w : Int32) : mz_Mem := if (mz_gg 64 (M 12 0) (M 14) (mz_rg 5 (M 35) t) w) = (-1) then M else if (mz_gg 64 (M 12 0) (M 14) (mz_rg 5 (M 35) t) w) = (mz_rg 5 (M 35) t) then M else (g_X1_walk M t (mz_gg 64 (M 12 0) (M 14) (mz_rg 5 (M 35) t) w))
theorem g_X2_moveTrack_hs (M : mz_Mem) (t : Int32) (w : Int32) : mz_hs M (g_X2_moveTrack M t w) := by
  unfold g_X2_moveTrack
  by_cases h1 : (mz_gg 64 (M 12 0) (M 14) (mz_rg 5 (M 35) t) w) = (-1)
  · rw [if_pos h1]
    exact mz_hs_rf
  · rw [if_neg h1]
    by_cases h2 : (mz_gg 64 (M 12 0) (M 14) (mz_rg 5 (M 35) t) w) = (mz_rg 5 (M 35) t)
    · rw [if_pos h2]
      exact mz_hs_rf
    · rw [if_neg h2]
      exact g_X1_walk_hs M t (mz_gg 64 (M 12 0) (M 14) (mz_rg 5 (M 35) t) w)

set_option maxHeartbeats 4000000 in
theorem f_X2_moveTrack (l : Launch) (D : va_G) (cA : Nat → ClassId) (ρ : Nat → Nat) (hI : mz_I ρ mz_lay1) (M : mz_Mem) (t : Int32) (w : Int32) : mz_M l D vwCl cA ρ mz_lay1 yX2_moveTrack cX2_moveTrack 5 none 3 68 [.ref 30, .int t, .int w] M none (g_X2_moveTrack M t w) := by
  refine mz_in0 (by decide +kernel) (Nat.le_of_ble_eq_true rfl) (fun Γ C E => ?_)
  have E' := (⟨_, _, _, E⟩ : ∃ Qc mc ms, mz_E Γ Qc mc ms (mz_A ρ mz_lay1))
  refine mz_go FLX2 KLX2 C [(0, .aload_n 0), (1, .getfield 33), (4, .getfield 137), (7, .iload_n 1)] (by decide +kernel) (pc' := 8) (L' := [(0, .ref 30), (1, .int t), (2, .int w)]) (st' := [.int t, .ref 34]) rfl ?_
  refine mz_callV (As := [.int t]) (rest := []) C E' (f_Row_get l D cA ρ hI (r := 34) (a := 35) (n := 5) rfl rfl (by decide) M t) hy_X6_get wl_X2_121 rfl rfl rfl ⟨Nat.le_of_ble_eq_true rfl, Nat.le_of_ble_eq_true rfl⟩ ⟨Nat.le_refl _, Nat.le_refl _⟩ (Nat.le_of_ble_eq_true rfl) (by decide +kernel) ?_ rfl
  refine mz_go FLX2 KLX2 C [(11, .istore_n 3), (12, .aload_n 0), (13, .getfield 20), (16, .getfield 138), (19, .iload_n 3), (20, .iload_n 2)] (by decide +kernel) (pc' := 21) (L' := [(3, .int (mz_rg 5 (M 35) t)), (0, .ref 30), (1, .int t), (2, .int w)]) (st' := [.int w, .int (mz_rg 5 (M 35) t), .ref 12]) rfl ?_
  refine mz_callV (As := [.int (mz_rg 5 (M 35) t), .int w]) (rest := []) C E' (f_Grid_get l D cA ρ hI (g := 12) (r := 13) (a := 14) (n := 64) rfl rfl rfl (by decide) M (mz_rg 5 (M 35) t) w) hy_X3_get wl_X2_143 rfl rfl rfl ⟨Nat.le_of_ble_eq_true rfl, Nat.le_of_ble_eq_true rfl⟩ ⟨Nat.le_refl _, Nat.le_refl _⟩ (Nat.le_of_ble_eq_true rfl) (by decide +kernel) ?_ rfl
  refine mz_go FLX2 KLX2 C [(24, .istore 4), (26, .iload 4), (28, .iconst (-1))] (by decide +kernel) (pc' := 29) (L' := [(4, .int (mz_gg 64 (M 12 0) (M 14) (mz_rg 5 (M 35) t) w)), (3, .int (mz_rg 5 (M 35) t)), (0, .ref 30), (1, .int t), (2, .int w)]) (st' := [.int (-1), .int (mz_gg 64 (M 12 0) (M 14) (mz_rg 5 (M 35) t) w)]) rfl ?_
  refine mz_ieq (off := 19) (tgt := 48) C (by decide +kernel) (by decide) (fun h1 => ?_) (fun h1 => ?_)
  · exact mz_vret C E (by decide +kernel) (by unfold g_X2_moveTrack; rw [if_pos h1]; try rfl)
  · refine mz_go FLX2 KLX2 C [(32, .iload 4), (34, .iload_n 3)] (by decide +kernel) (pc' := 35) (L' := [(4, .int (mz_gg 64 (M 12 0) (M 14) (mz_rg 5 (M 35) t) w)), (3, .int (mz_rg 5 (M 35) t)), (0, .ref 30), (1, .int t), (2, .int w)]) (st' := [.int (mz_rg 5 (M 35) t), .int (mz_gg 64 (M 12 0) (M 14) (mz_rg 5 (M 35) t) w)]) rfl ?_
    refine mz_ieq (off := 13) (tgt := 48) C (by decide +kernel) (by decide) (fun h2 => ?_) (fun h2 => ?_)
    · exact mz_vret C E (by decide +kernel) (by unfold g_X2_moveTrack; rw [if_neg h1, if_pos h2]; try rfl)
    · refine mz_go FLX2 KLX2 C [(38, .aload_n 0), (39, .getfield 33), (42, .iload_n 1), (43, .iload 4)] (by decide +kernel) (pc' := 45) (L' := [(4, .int (mz_gg 64 (M 12 0) (M 14) (mz_rg 5 (M 35) t) w)), (3, .int (mz_rg 5 (M 35) t)), (0, .ref 30), (1, .int t), (2, .int w)]) (st' := [.int (mz_gg 64 (M 12 0) (M 14) (mz_rg 5 (M 35) t) w), .int t, .ref 33]) rfl ?_
      refine mz_callV (As := [.int t, .int (mz_gg 64 (M 12 0) (M 14) (mz_rg 5 (M 35) t) w)]) (rest := []) C E' (f_X1_walk l D cA ρ hI M t (mz_gg 64 (M 12 0) (M 14) (mz_rg 5 (M 35) t) w)) hy_X1_walk wl_X2_146 rfl rfl rfl ⟨Nat.le_of_ble_eq_true rfl, Nat.le_of_ble_eq_true rfl⟩ ⟨Nat.le_refl _, Nat.le_refl _⟩ (Nat.le_of_ble_eq_true rfl) (by decide +kernel) ?_ rfl
      exact mz_vret C E (by decide +kernel) (by unfold g_X2_moveTrack; rw [if_neg h1, if_neg h2]; try rfl)
def g_X2_moveTracks_1 (M : mz_Mem) (i2 : Int32) (a3 : mz_Mem) : mz_Mem := if (mz_rg 5 (a3 37) i2) = (-1) then (if ((g_X8_busyTracks M) &&& (g_X1_rolesOf a3 i2)) = 0 then (if (g_X8_nextSceneOf a3 (g_X1_rolesOf a3 i2)) = (-1) then (g_X2_moveTrack a3 i2 (mz_rg 5 (a3 17) i2)) else (g_X2_moveTrack a3 i2 (mz_rg 12 (a3 21) (g_X8_nextSceneOf a3 (g_X1_rolesOf a3 i2))))) else a3) else a3
theorem g_X2_moveTracks_1_hs (M : mz_Mem) (i2 : Int32) (a3 : mz_Mem) : mz_hs a3 (g_X2_moveTracks_1 M i2 a3) := by
  unfold g_X2_moveTracks_1
  by_cases h1 : (mz_rg 5 (a3 37) i2) = (-1)
  · rw [if_pos h1]
    by_cases h2 : ((g_X8_busyTracks M) &&& (g_X1_rolesOf a3 i2)) = 0
    · rw [if_pos h2]
      by_cases h3 : (g_X8_nextSceneOf a3 (g_X1_rolesOf a3 i2)) = (-1)
      · rw [if_pos h3]
        exact g_X2_moveTrack_hs a3 i2 (mz_rg 5 (a3 17) i2)
      · rw [if_neg h3]
        exact g_X2_moveTrack_hs a3 i2 (mz_rg 12 (a3 21) (g_X8_nextSceneOf a3 (g_X1_rolesOf a3 i2)))
    · rw [if_neg h2]
      exact mz_hs_rf
  · rw [if_neg h1]
    exact mz_hs_rf

def g_X2_moveTracks (M : mz_Mem) : mz_Mem := (mz_fr (M 15 0) (g_X2_moveTracks_1 M) M)
theorem g_X2_moveTracks_hs (M : mz_Mem) : mz_hs M (g_X2_moveTracks M) := by
  unfold g_X2_moveTracks
  exact mz_hs_frp (fun (a : mz_Mem) => a) (fun i a => g_X2_moveTracks_1_hs M i a)

set_option maxHeartbeats 4000000 in
theorem f_X2_moveTracks (l : Launch) (D : va_G) (cA : Nat → ClassId) (ρ : Nat → Nat) (hI : mz_I ρ mz_lay1) (M : mz_Mem) : mz_M l D vwCl cA ρ mz_lay1 yX2_moveTracks cX2_moveTracks 5 none 4 92 [.ref 30] M none (g_X2_moveTracks M) := by
  refine mz_in0 (by decide +kernel) (Nat.le_of_ble_eq_true rfl) (fun Γ C E => ?_)
  have E' := (⟨_, _, _, E⟩ : ∃ Qc mc ms, mz_E Γ Qc mc ms (mz_A ρ mz_lay1))
  refine mz_go FLX2 KLX2 C [(0, .aload_n 0), (1, .getfield 40)] (by decide +kernel) (pc' := 4) (L' := [(0, .ref 30)]) (st' := [.ref 40]) rfl ?_
  refine mz_callV (As := []) (rest := []) C E' (f_X8_busyTracks l D cA ρ hI M ) hy_X8_busyTracks wl_X2_105 rfl rfl rfl ⟨Nat.le_of_ble_eq_true rfl, Nat.le_of_ble_eq_true rfl⟩ ⟨Nat.le_refl _, Nat.le_refl _⟩ (Nat.le_of_ble_eq_true rfl) (by decide +kernel) ?_ rfl
  refine mz_go FLX2 KLX2 C [(7, .istore_n 1), (8, .iconst 0), (9, .istore_n 2)] (by decide +kernel) (pc' := 10) (L' := [(2, .int 0), (1, .int (g_X8_busyTracks M)), (0, .ref 30)]) (st' := []) rfl ?_
  refine mz_sub (L' := [(0, .ref 30), (1, .int (g_X8_busyTracks M)), (2, .int 0)]) (by simp) ?_
  refine mz_loopI (M 15 0) (g_X2_moveTracks_1 M) (fun (i : Int32) (a : mz_Mem) => mz_W Γ ρ 5 0 0 (mz_H D vwCl cA ρ mz_lay1 a) 10 [(0, .ref 30), (1, .int (g_X8_busyTracks M)), (2, .int i)] []) (fun (a : mz_Mem) => a 15 0 = M 15 0) M rfl (fun i a h => ?_) (fun i2 a3 hi4 hv7 hx5 hb6 => ?_)
  · exact (congrFun (g_X2_moveTracks_1_hs M i a _ (by decide)) _).trans h
  have hv7 : a3 15 0 = M 15 0 := hv7
  refine mz_go FLX2 KLX2 C [(10, .iload_n 2), (11, .aload_n 0), (12, .getfield 24), (15, .getfield 109)] (by decide +kernel) (pc' := 18) (L' := [(0, .ref 30), (1, .int (g_X8_busyTracks M)), (2, .int i2)]) (st' := [.int (a3 15 0), .int i2]) rfl ?_
  refine mz_ige (off := 86) (tgt := 104) C (by decide +kernel) (by decide) (fun h1 => ?_) (fun h1 => ?_)
  · have e10 := hx5 (by rw [hv7] at h1; exact h1)
    subst e10
    refine mz_sub (L' := [(0, .ref 30), (1, .int (g_X8_busyTracks M))]) (by simp) ?_
    exact mz_vret C E (by decide +kernel) (rfl)
  · refine mz_go FLX2 KLX2 C [(21, .aload_n 0), (22, .getfield 33), (25, .iload_n 2)] (by decide +kernel) (pc' := 26) (L' := [(0, .ref 30), (1, .int (g_X8_busyTracks M)), (2, .int i2)]) (st' := [.int i2, .ref 33]) rfl ?_
    refine mz_callV (As := [.int i2]) (rest := []) C E' (f_X1_rolesOf l D cA ρ hI a3 i2) hy_X1_rolesOf wl_X2_114 rfl rfl rfl ⟨Nat.le_of_ble_eq_true rfl, Nat.le_of_ble_eq_true rfl⟩ ⟨Nat.le_refl _, Nat.le_refl _⟩ (Nat.le_of_ble_eq_true rfl) (by decide +kernel) ?_ rfl
    refine mz_go FLX2 KLX2 C [(29, .istore_n 3), (30, .aload_n 0), (31, .getfield 33), (34, .getfield 118), (37, .iload_n 2)] (by decide +kernel) (pc' := 38) (L' := [(3, .int (g_X1_rolesOf a3 i2)), (0, .ref 30), (1, .int (g_X8_busyTracks M)), (2, .int i2)]) (st' := [.int i2, .ref 36]) rfl ?_
    refine mz_callV (As := [.int i2]) (rest := []) C E' (f_Row_get l D cA ρ hI (r := 36) (a := 37) (n := 5) rfl rfl (by decide) a3 i2) hy_X6_get wl_X2_121 rfl rfl rfl ⟨Nat.le_of_ble_eq_true rfl, Nat.le_of_ble_eq_true rfl⟩ ⟨Nat.le_refl _, Nat.le_refl _⟩ (Nat.le_of_ble_eq_true rfl) (by decide +kernel) ?_ rfl
    refine mz_go FLX2 KLX2 C [(41, .iconst (-1))] (by decide +kernel) (pc' := 42) (L' := [(3, .int (g_X1_rolesOf a3 i2)), (0, .ref 30), (1, .int (g_X8_busyTracks M)), (2, .int i2)]) (st' := [.int (-1), .int (mz_rg 5 (a3 37) i2)]) rfl ?_
    refine mz_ine (off := 56) (tgt := 98) C (by decide +kernel) (by decide) (fun h11 => ?_) (fun h11 => ?_)
    · refine mz_go FLX2 KLX2 C [(98, .iinc 2 1), (101, .goto (-91))] (by decide +kernel) (pc' := 10) (L' := [(2, .int (i2 + 1)), (3, .int (g_X1_rolesOf a3 i2)), (0, .ref 30), (1, .int (g_X8_busyTracks M))]) (st' := []) rfl ?_
      have hb12 := hb6 (by rw [hv7] at h1; exact h1)
      rw [show g_X2_moveTracks_1 M i2 a3 = a3 from by unfold g_X2_moveTracks_1; rw [if_neg h11]] at hb12
      exact mz_sub (by simp) hb12
    · refine mz_go FLX2 KLX2 C [(45, .iload_n 1), (46, .iload_n 3), (47, .iand)] (by decide +kernel) (pc' := 48) (L' := [(3, .int (g_X1_rolesOf a3 i2)), (0, .ref 30), (1, .int (g_X8_busyTracks M)), (2, .int i2)]) (st' := [.int ((g_X8_busyTracks M) &&& (g_X1_rolesOf a3 i2))]) rfl ?_
      refine mz_zne (off := 50) (tgt := 98) C (by decide +kernel) (by decide) (fun h13 => ?_) (fun h13 => ?_)
      · refine mz_go FLX2 KLX2 C [(98, .iinc 2 1), (101, .goto (-91))] (by decide +kernel) (pc' := 10) (L' := [(2, .int (i2 + 1)), (3, .int (g_X1_rolesOf a3 i2)), (0, .ref 30), (1, .int (g_X8_busyTracks M))]) (st' := []) rfl ?_
        have hb14 := hb6 (by rw [hv7] at h1; exact h1)
        rw [show g_X2_moveTracks_1 M i2 a3 = a3 from by unfold g_X2_moveTracks_1; rw [if_pos h11, if_neg h13]] at hb14
        exact mz_sub (by simp) hb14
      · refine mz_go FLX2 KLX2 C [(51, .aload_n 0), (52, .getfield 40), (55, .iload_n 3)] (by decide +kernel) (pc' := 56) (L' := [(3, .int (g_X1_rolesOf a3 i2)), (0, .ref 30), (1, .int (g_X8_busyTracks M)), (2, .int i2)]) (st' := [.int (g_X1_rolesOf a3 i2), .ref 40]) rfl ?_
        refine mz_callV (As := [.int (g_X1_rolesOf a3 i2)]) (rest := []) C E' (f_X8_nextSceneOf l D cA ρ hI a3 (g_X1_rolesOf a3 i2)) hy_X8_nextSceneOf wl_X2_124 rfl rfl rfl ⟨Nat.le_of_ble_eq_true rfl, Nat.le_of_ble_eq_true rfl⟩ ⟨Nat.le_refl _, Nat.le_refl _⟩ (Nat.le_of_ble_eq_true rfl) (by decide +kernel) ?_ rfl
        refine mz_go FLX2 KLX2 C [(59, .istore 4), (61, .aload_n 0), (62, .iload_n 2), (63, .iload 4), (65, .iconst (-1))] (by decide +kernel) (pc' := 66) (L' := [(4, .int (g_X8_nextSceneOf a3 (g_X1_rolesOf a3 i2))), (3, .int (g_X1_rolesOf a3 i2)), (0, .ref 30), (1, .int (g_X8_busyTracks M)), (2, .int i2)]) (st' := [.int (-1), .int (g_X8_nextSceneOf a3 (g_X1_rolesOf a3 i2)), .int i2, .ref 30]) rfl ?_
        refine mz_ine (off := 17) (tgt := 83) C (by decide +kernel) (by decide) (fun h15 => ?_) (fun h15 => ?_)
        · refine mz_go FLX2 KLX2 C [(83, .aload_n 0), (84, .getfield 24), (87, .getfield 130), (90, .iload 4)] (by decide +kernel) (pc' := 92) (L' := [(4, .int (g_X8_nextSceneOf a3 (g_X1_rolesOf a3 i2))), (3, .int (g_X1_rolesOf a3 i2)), (0, .ref 30), (1, .int (g_X8_busyTracks M)), (2, .int i2)]) (st' := [.int (g_X8_nextSceneOf a3 (g_X1_rolesOf a3 i2)), .ref 20, .int i2, .ref 30]) rfl ?_
          refine mz_callV (As := [.int (g_X8_nextSceneOf a3 (g_X1_rolesOf a3 i2))]) (rest := [.int i2, .ref 30]) C E' (f_Row_get l D cA ρ hI (r := 20) (a := 21) (n := 12) rfl rfl (by decide) a3 (g_X8_nextSceneOf a3 (g_X1_rolesOf a3 i2))) hy_X6_get wl_X2_121 rfl rfl rfl ⟨Nat.le_of_ble_eq_true rfl, Nat.le_of_ble_eq_true rfl⟩ ⟨Nat.le_refl _, Nat.le_refl _⟩ (Nat.le_of_ble_eq_true rfl) (by decide +kernel) ?_ rfl
          refine mz_callV (As := [.int i2, .int (mz_rg 12 (a3 21) (g_X8_nextSceneOf a3 (g_X1_rolesOf a3 i2)))]) (rest := []) C E' (f_X2_moveTrack l D cA ρ hI a3 i2 (mz_rg 12 (a3 21) (g_X8_nextSceneOf a3 (g_X1_rolesOf a3 i2)))) hy_X2_moveTrack wl_X2_133 rfl rfl rfl ⟨Nat.le_of_ble_eq_true rfl, Nat.le_of_ble_eq_true rfl⟩ ⟨Nat.le_refl _, Nat.le_refl _⟩ (Nat.le_of_ble_eq_true rfl) (by decide +kernel) ?_ rfl
          refine mz_go FLX2 KLX2 C [(98, .iinc 2 1), (101, .goto (-91))] (by decide +kernel) (pc' := 10) (L' := [(2, .int (i2 + 1)), (4, .int (g_X8_nextSceneOf a3 (g_X1_rolesOf a3 i2))), (3, .int (g_X1_rolesOf a3 i2)), (0, .ref 30), (1, .int (g_X8_busyTracks M))]) (st' := []) rfl ?_
          have hb16 := hb6 (by rw [hv7] at h1; exact h1)
          rw [show g_X2_moveTracks_1 M i2 a3 = (g_X2_moveTrack a3 i2 (mz_rg 12 (a3 21) (g_X8_nextSceneOf a3 (g_X1_rolesOf a3 i2)))) from by unfold g_X2_moveTracks_1; rw [if_pos h11, if_pos h13, if_neg h15]] at hb16
          exact mz_sub (by simp) hb16
        · refine mz_go FLX2 KLX2 C [(69, .aload_n 0), (70, .getfield 24), (73, .getfield 127), (76, .iload_n 2)] (by decide +kernel) (pc' := 77) (L' := [(4, .int (g_X8_nextSceneOf a3 (g_X1_rolesOf a3 i2))), (3, .int (g_X1_rolesOf a3 i2)), (0, .ref 30), (1, .int (g_X8_busyTracks M)), (2, .int i2)]) (st' := [.int i2, .ref 16, .int i2, .ref 30]) rfl ?_
          refine mz_callV (As := [.int i2]) (rest := [.int i2, .ref 30]) C E' (f_Row_get l D cA ρ hI (r := 16) (a := 17) (n := 5) rfl rfl (by decide) a3 i2) hy_X6_get wl_X2_121 rfl rfl rfl ⟨Nat.le_of_ble_eq_true rfl, Nat.le_of_ble_eq_true rfl⟩ ⟨Nat.le_refl _, Nat.le_refl _⟩ (Nat.le_of_ble_eq_true rfl) (by decide +kernel) ?_ rfl
          refine mz_go FLX2 KLX2 C [(80, .goto 15)] (by decide +kernel) (pc' := 95) (L' := [(4, .int (g_X8_nextSceneOf a3 (g_X1_rolesOf a3 i2))), (3, .int (g_X1_rolesOf a3 i2)), (0, .ref 30), (1, .int (g_X8_busyTracks M)), (2, .int i2)]) (st' := [.int (mz_rg 5 (a3 17) i2), .int i2, .ref 30]) rfl ?_
          refine mz_callV (As := [.int i2, .int (mz_rg 5 (a3 17) i2)]) (rest := []) C E' (f_X2_moveTrack l D cA ρ hI a3 i2 (mz_rg 5 (a3 17) i2)) hy_X2_moveTrack wl_X2_133 rfl rfl rfl ⟨Nat.le_of_ble_eq_true rfl, Nat.le_of_ble_eq_true rfl⟩ ⟨Nat.le_refl _, Nat.le_refl _⟩ (Nat.le_of_ble_eq_true rfl) (by decide +kernel) ?_ rfl
          refine mz_go FLX2 KLX2 C [(98, .iinc 2 1), (101, .goto (-91))] (by decide +kernel) (pc' := 10) (L' := [(2, .int (i2 + 1)), (4, .int (g_X8_nextSceneOf a3 (g_X1_rolesOf a3 i2))), (3, .int (g_X1_rolesOf a3 i2)), (0, .ref 30), (1, .int (g_X8_busyTracks M))]) (st' := []) rfl ?_
          have hb17 := hb6 (by rw [hv7] at h1; exact h1)
          rw [show g_X2_moveTracks_1 M i2 a3 = (g_X2_moveTrack a3 i2 (mz_rg 5 (a3 17) i2)) from by unfold g_X2_moveTracks_1; rw [if_pos h11, if_pos h13, if_pos h15]] at hb17
          exact mz_sub (by simp) hb17
def g_X2_greatestTrack_1 (M : mz_Mem) (s : Int32) (i2 : Int32) (a3 : Int32) : Int32 := if (s &&& (1 <<< (i2 &&& 31))) = 0 then a3 else i2
def g_X2_greatestTrack (M : mz_Mem) (s : Int32) : Int32 := (mz_fr (M 15 0) (g_X2_greatestTrack_1 M s) (-1))
set_option maxHeartbeats 4000000 in
theorem f_X2_greatestTrack (l : Launch) (D : va_G) (cA : Nat → ClassId) (ρ : Nat → Nat) (hI : mz_I ρ mz_lay1) (M : mz_Mem) (s : Int32) : mz_M l D vwCl cA ρ mz_lay1 yX2_greatestTrack cX2_greatestTrack 4 (some .int) 0 0 [.ref 30, .int s] M (some (.int (g_X2_greatestTrack M s))) M := by
  refine mz_in0 (by decide +kernel) (Nat.le_of_ble_eq_true rfl) (fun Γ C E => ?_)
  have E' := (⟨_, _, _, E⟩ : ∃ Qc mc ms, mz_E Γ Qc mc ms (mz_A ρ mz_lay1))
  refine mz_go FLX2 KLX2 C [(0, .iconst (-1)), (1, .istore_n 2), (2, .iconst 0), (3, .istore_n 3)] (by decide +kernel) (pc' := 4) (L' := [(3, .int 0), (2, .int (-1)), (0, .ref 30), (1, .int s)]) (st' := []) rfl ?_
  refine mz_sub (L' := [(0, .ref 30), (1, .int s), (2, .int (-1)), (3, .int 0)]) (by simp) ?_
  refine mz_loop (M 15 0) (g_X2_greatestTrack_1 M s) (fun (i : Int32) (a : Int32) => mz_W Γ ρ 4 0 0 (mz_H D vwCl cA ρ mz_lay1 M) 4 [(0, .ref 30), (1, .int s), (2, .int a), (3, .int i)] []) (-1) (fun i2 a3 hi4 hx5 hb6 => ?_)
  refine mz_go FLX2 KLX2 C [(4, .iload_n 3), (5, .aload_n 0), (6, .getfield 24), (9, .getfield 109)] (by decide +kernel) (pc' := 12) (L' := [(0, .ref 30), (1, .int s), (2, .int a3), (3, .int i2)]) (st' := [.int (M 15 0), .int i2]) rfl ?_
  refine mz_ige (off := 19) (tgt := 31) C (by decide +kernel) (by decide) (fun h1 => ?_) (fun h1 => ?_)
  · have e10 := hx5 h1
    subst e10
    refine mz_sub (L' := [(0, .ref 30), (1, .int s), (2, .int (mz_fr (M 15 0) (g_X2_greatestTrack_1 M s) (-1)))]) (by simp) ?_
    refine mz_go FLX2 KLX2 C [(31, .iload_n 2)] (by decide +kernel) (pc' := 32) (L' := [(0, .ref 30), (1, .int s), (2, .int (mz_fr (M 15 0) (g_X2_greatestTrack_1 M s) (-1)))]) (st' := [.int (mz_fr (M 15 0) (g_X2_greatestTrack_1 M s) (-1))]) rfl ?_
    exact mz_iret C E (by decide +kernel) (rfl) (rfl)
  · refine mz_go FLX2 KLX2 C [(15, .iload_n 1), (16, .iconst 1), (17, .iload_n 3), (18, .ishl), (19, .iand)] (by decide +kernel) (pc' := 20) (L' := [(0, .ref 30), (1, .int s), (2, .int a3), (3, .int i2)]) (st' := [.int (s &&& (1 <<< (i2 &&& 31)))]) rfl ?_
    refine mz_zeq (off := 5) (tgt := 25) C (by decide +kernel) (by decide) (fun h11 => ?_) (fun h11 => ?_)
    · refine mz_go FLX2 KLX2 C [(25, .iinc 3 1), (28, .goto (-24))] (by decide +kernel) (pc' := 4) (L' := [(3, .int (i2 + 1)), (0, .ref 30), (1, .int s), (2, .int a3)]) (st' := []) rfl ?_
      have hb12 := hb6 h1
      rw [show g_X2_greatestTrack_1 M s i2 a3 = a3 from by unfold g_X2_greatestTrack_1; rw [if_pos h11]] at hb12
      exact mz_sub (by simp) hb12
    · refine mz_go FLX2 KLX2 C [(23, .iload_n 3), (24, .istore_n 2), (25, .iinc 3 1), (28, .goto (-24))] (by decide +kernel) (pc' := 4) (L' := [(3, .int (i2 + 1)), (2, .int i2), (0, .ref 30), (1, .int s)]) (st' := []) rfl ?_
      have hb13 := hb6 h1
      rw [show g_X2_greatestTrack_1 M s i2 a3 = i2 from by unfold g_X2_greatestTrack_1; rw [if_neg h11]] at hb13
      exact mz_sub (by simp) hb13
def g_X2_continueScene (M : mz_Mem) (k : Int32) : mz_Mem := if (mz_rg 12 ((g_X8_goOn M k) 29) k) = (-1) then (g_X8_goOn M k) else if (g_X8_runs (g_X8_goOn M k) k) = 0 then (g_X5_giveToTrack (g_X8_goOn M k) (mz_rg 12 ((g_X8_goOn M k) 29) k) (g_X2_greatestTrack (g_X8_goOn M k) (mz_rg 12 ((g_X8_goOn M k) 27) k))) else (g_X8_goOn M k)
theorem g_X2_continueScene_hs (M : mz_Mem) (k : Int32) : mz_hs M (g_X2_continueScene M k) := by
  unfold g_X2_continueScene
  by_cases h1 : (mz_rg 12 ((g_X8_goOn M k) 29) k) = (-1)
  · rw [if_pos h1]
    exact g_X8_goOn_hs M k
  · rw [if_neg h1]
    by_cases h2 : (g_X8_runs (g_X8_goOn M k) k) = 0
    · rw [if_pos h2]
      exact (g_X8_goOn_hs M k).trans (g_X5_giveToTrack_hs (g_X8_goOn M k) (mz_rg 12 ((g_X8_goOn M k) 29) k) (g_X2_greatestTrack (g_X8_goOn M k) (mz_rg 12 ((g_X8_goOn M k) 27) k)))
    · rw [if_neg h2]
      exact g_X8_goOn_hs M k

set_option maxHeartbeats 4000000 in
theorem f_X2_continueScene (l : Launch) (D : va_G) (cA : Nat → ClassId) (ρ : Nat → Nat) (hI : mz_I ρ mz_lay1) (M : mz_Mem) (k : Int32) : mz_M l D vwCl cA ρ mz_lay1 yX2_continueScene cX2_continueScene 3 none 3 66 [.ref 30, .int k] M none (g_X2_continueScene M k) := by
  refine mz_in0 (by decide +kernel) (Nat.le_of_ble_eq_true rfl) (fun Γ C E => ?_)
  have E' := (⟨_, _, _, E⟩ : ∃ Qc mc ms, mz_E Γ Qc mc ms (mz_A ρ mz_lay1))
  refine mz_go FLX2 KLX2 C [(0, .aload_n 0), (1, .getfield 40), (4, .iload_n 1)] (by decide +kernel) (pc' := 5) (L' := [(0, .ref 30), (1, .int k)]) (st' := [.int k, .ref 40]) rfl ?_
  refine mz_callV (As := [.int k]) (rest := []) C E' (f_X8_goOn l D cA ρ hI M k) hy_X8_goOn wl_X2_174 rfl rfl rfl ⟨Nat.le_of_ble_eq_true rfl, Nat.le_of_ble_eq_true rfl⟩ ⟨Nat.le_refl _, Nat.le_refl _⟩ (Nat.le_of_ble_eq_true rfl) (by decide +kernel) ?_ rfl
  refine mz_go FLX2 KLX2 C [(8, .aload_n 0), (9, .getfield 24), (12, .getfield 177), (15, .iload_n 1)] (by decide +kernel) (pc' := 16) (L' := [(0, .ref 30), (1, .int k)]) (st' := [.int k, .ref 28]) rfl ?_
  refine mz_callV (As := [.int k]) (rest := []) C E' (f_Row_get l D cA ρ hI (r := 28) (a := 29) (n := 12) rfl rfl (by decide) (g_X8_goOn M k) k) hy_X6_get wl_X2_121 rfl rfl rfl ⟨Nat.le_of_ble_eq_true rfl, Nat.le_of_ble_eq_true rfl⟩ ⟨Nat.le_refl _, Nat.le_refl _⟩ (Nat.le_of_ble_eq_true rfl) (by decide +kernel) ?_ rfl
  refine mz_go FLX2 KLX2 C [(19, .istore_n 2), (20, .iload_n 2), (21, .iconst (-1))] (by decide +kernel) (pc' := 22) (L' := [(2, .int (mz_rg 12 ((g_X8_goOn M k) 29) k)), (0, .ref 30), (1, .int k)]) (st' := [.int (-1), .int (mz_rg 12 ((g_X8_goOn M k) 29) k)]) rfl ?_
  refine mz_ieq (off := 37) (tgt := 59) C (by decide +kernel) (by decide) (fun h1 => ?_) (fun h1 => ?_)
  · exact mz_vret C E (by decide +kernel) (by unfold g_X2_continueScene; rw [if_pos h1]; try rfl)
  · refine mz_go FLX2 KLX2 C [(25, .aload_n 0), (26, .getfield 40), (29, .iload_n 1)] (by decide +kernel) (pc' := 30) (L' := [(2, .int (mz_rg 12 ((g_X8_goOn M k) 29) k)), (0, .ref 30), (1, .int k)]) (st' := [.int k, .ref 40]) rfl ?_
    refine mz_callV (As := [.int k]) (rest := []) C E' (f_X8_runs l D cA ρ hI (g_X8_goOn M k) k) hy_X8_runs wl_X2_152 rfl rfl rfl ⟨Nat.le_of_ble_eq_true rfl, Nat.le_of_ble_eq_true rfl⟩ ⟨Nat.le_refl _, Nat.le_refl _⟩ (Nat.le_of_ble_eq_true rfl) (by decide +kernel) ?_ rfl
    refine mz_zne (off := 26) (tgt := 59) C (by decide +kernel) (by decide) (fun h2 => ?_) (fun h2 => ?_)
    · exact mz_vret C E (by decide +kernel) (by unfold g_X2_continueScene; rw [if_neg h1, if_neg h2]; try rfl)
    · refine mz_go FLX2 KLX2 C [(36, .aload_n 0), (37, .getfield 47), (40, .iload_n 2), (41, .aload_n 0), (42, .aload_n 0), (43, .getfield 24), (46, .getfield 180), (49, .iload_n 1)] (by decide +kernel) (pc' := 50) (L' := [(2, .int (mz_rg 12 ((g_X8_goOn M k) 29) k)), (0, .ref 30), (1, .int k)]) (st' := [.int k, .ref 26, .ref 30, .int (mz_rg 12 ((g_X8_goOn M k) 29) k), .ref 51]) rfl ?_
      refine mz_callV (As := [.int k]) (rest := [.ref 30, .int (mz_rg 12 ((g_X8_goOn M k) 29) k), .ref 51]) C E' (f_Row_get l D cA ρ hI (r := 26) (a := 27) (n := 12) rfl rfl (by decide) (g_X8_goOn M k) k) hy_X6_get wl_X2_121 rfl rfl rfl ⟨Nat.le_of_ble_eq_true rfl, Nat.le_of_ble_eq_true rfl⟩ ⟨Nat.le_refl _, Nat.le_refl _⟩ (Nat.le_of_ble_eq_true rfl) (by decide +kernel) ?_ rfl
      refine mz_callV (As := [.int (mz_rg 12 ((g_X8_goOn M k) 27) k)]) (rest := [.int (mz_rg 12 ((g_X8_goOn M k) 29) k), .ref 51]) C E' (f_X2_greatestTrack l D cA ρ hI (g_X8_goOn M k) (mz_rg 12 ((g_X8_goOn M k) 27) k)) hy_X2_greatestTrack wl_X2_183 rfl rfl rfl ⟨Nat.le_of_ble_eq_true rfl, Nat.le_of_ble_eq_true rfl⟩ ⟨Nat.le_refl _, Nat.le_refl _⟩ (Nat.le_of_ble_eq_true rfl) (by decide +kernel) ?_ rfl
      refine mz_callV (As := [.int (mz_rg 12 ((g_X8_goOn M k) 29) k), .int (g_X2_greatestTrack (g_X8_goOn M k) (mz_rg 12 ((g_X8_goOn M k) 27) k))]) (rest := []) C E' (f_X5_giveToTrack l D cA ρ hI (g_X8_goOn M k) (mz_rg 12 ((g_X8_goOn M k) 29) k) (g_X2_greatestTrack (g_X8_goOn M k) (mz_rg 12 ((g_X8_goOn M k) 27) k))) hy_X5_giveToTrack wl_X2_186 rfl rfl rfl ⟨Nat.le_of_ble_eq_true rfl, Nat.le_of_ble_eq_true rfl⟩ ⟨Nat.le_refl _, Nat.le_refl _⟩ (Nat.le_of_ble_eq_true rfl) (by decide +kernel) ?_ rfl
      exact mz_vret C E (by decide +kernel) (by unfold g_X2_continueScene; rw [if_neg h1, if_pos h2]; try rfl)
def g_X2_hasProp (M : mz_Mem) (k : Int32) : Int32 := if (mz_rg 12 (M 29) k) = (-1) then 1 else if (mz_rg 4 (M 53) (mz_rg 12 (M 29) k)) = (mz_rg 12 (M 21) k) then 1 else if (mz_rg 4 (M 55) (mz_rg 12 (M 29) k)) = (-1) then 0 else if (g_X7_has M k (1 <<< ((mz_rg 4 (M 55) (mz_rg 12 (M 29) k)) &&& 31))) = 0 then 0 else 1
set_option maxHeartbeats 4000000 in
theorem f_X2_hasProp (l : Launch) (D : va_G) (cA : Nat → ClassId) (ρ : Nat → Nat) (hI : mz_I ρ mz_lay1) (M : mz_Mem) (k : Int32) : mz_M l D vwCl cA ρ mz_lay1 yX2_hasProp cX2_hasProp 4 (some .boolean) 2 43 [.ref 30, .int k] M (some (.int (g_X2_hasProp M k))) M := by
  refine mz_in0 (by decide +kernel) (Nat.le_of_ble_eq_true rfl) (fun Γ C E => ?_)
  have E' := (⟨_, _, _, E⟩ : ∃ Qc mc ms, mz_E Γ Qc mc ms (mz_A ρ mz_lay1))
  refine mz_go FLX2 KLX2 C [(0, .aload_n 0), (1, .getfield 24), (4, .getfield 177), (7, .iload_n 1)] (by decide +kernel) (pc' := 8) (L' := [(0, .ref 30), (1, .int k)]) (st' := [.int k, .ref 28]) rfl ?_
  refine mz_callV (As := [.int k]) (rest := []) C E' (f_Row_get l D cA ρ hI (r := 28) (a := 29) (n := 12) rfl rfl (by decide) M k) hy_X6_get wl_X2_121 rfl rfl rfl ⟨Nat.le_of_ble_eq_true rfl, Nat.le_of_ble_eq_true rfl⟩ ⟨Nat.le_refl _, Nat.le_refl _⟩ (Nat.le_of_ble_eq_true rfl) (by decide +kernel) ?_ rfl
  refine mz_go FLX2 KLX2 C [(11, .istore_n 2), (12, .iload_n 2), (13, .iconst (-1))] (by decide +kernel) (pc' := 14) (L' := [(2, .int (mz_rg 12 (M 29) k)), (0, .ref 30), (1, .int k)]) (st' := [.int (-1), .int (mz_rg 12 (M 29) k)]) rfl ?_
  refine mz_ieq (off := 28) (tgt := 42) C (by decide +kernel) (by decide) (fun h1 => ?_) (fun h1 => ?_)
  · refine mz_go FLX2 KLX2 C [(42, .iconst 1)] (by decide +kernel) (pc' := 43) (L' := [(2, .int (mz_rg 12 (M 29) k)), (0, .ref 30), (1, .int k)]) (st' := [.int 1]) rfl ?_
    exact mz_zret C E (by decide +kernel) (Or.inr rfl) (by unfold g_X2_hasProp; rw [if_pos h1]; try rfl) (rfl)
  · refine mz_go FLX2 KLX2 C [(17, .aload_n 0), (18, .getfield 47), (21, .getfield 198), (24, .iload_n 2)] (by decide +kernel) (pc' := 25) (L' := [(2, .int (mz_rg 12 (M 29) k)), (0, .ref 30), (1, .int k)]) (st' := [.int (mz_rg 12 (M 29) k), .ref 52]) rfl ?_
    refine mz_callV (As := [.int (mz_rg 12 (M 29) k)]) (rest := []) C E' (f_Row_get l D cA ρ hI (r := 52) (a := 53) (n := 4) rfl rfl (by decide) M (mz_rg 12 (M 29) k)) hy_X6_get wl_X2_121 rfl rfl rfl ⟨Nat.le_of_ble_eq_true rfl, Nat.le_of_ble_eq_true rfl⟩ ⟨Nat.le_refl _, Nat.le_refl _⟩ (Nat.le_of_ble_eq_true rfl) (by decide +kernel) ?_ rfl
    refine mz_go FLX2 KLX2 C [(28, .aload_n 0), (29, .getfield 24), (32, .getfield 130), (35, .iload_n 1)] (by decide +kernel) (pc' := 36) (L' := [(2, .int (mz_rg 12 (M 29) k)), (0, .ref 30), (1, .int k)]) (st' := [.int k, .ref 20, .int (mz_rg 4 (M 53) (mz_rg 12 (M 29) k))]) rfl ?_
    refine mz_callV (As := [.int k]) (rest := [.int (mz_rg 4 (M 53) (mz_rg 12 (M 29) k))]) C E' (f_Row_get l D cA ρ hI (r := 20) (a := 21) (n := 12) rfl rfl (by decide) M k) hy_X6_get wl_X2_121 rfl rfl rfl ⟨Nat.le_of_ble_eq_true rfl, Nat.le_of_ble_eq_true rfl⟩ ⟨Nat.le_refl _, Nat.le_refl _⟩ (Nat.le_of_ble_eq_true rfl) (by decide +kernel) ?_ rfl
    refine mz_ine (off := 5) (tgt := 44) C (by decide +kernel) (by decide) (fun h2 => ?_) (fun h2 => ?_)
    · refine mz_go FLX2 KLX2 C [(44, .aload_n 0), (45, .getfield 47), (48, .getfield 199), (51, .iload_n 2)] (by decide +kernel) (pc' := 52) (L' := [(2, .int (mz_rg 12 (M 29) k)), (0, .ref 30), (1, .int k)]) (st' := [.int (mz_rg 12 (M 29) k), .ref 54]) rfl ?_
      refine mz_callV (As := [.int (mz_rg 12 (M 29) k)]) (rest := []) C E' (f_Row_get l D cA ρ hI (r := 54) (a := 55) (n := 4) rfl rfl (by decide) M (mz_rg 12 (M 29) k)) hy_X6_get wl_X2_121 rfl rfl rfl ⟨Nat.le_of_ble_eq_true rfl, Nat.le_of_ble_eq_true rfl⟩ ⟨Nat.le_refl _, Nat.le_refl _⟩ (Nat.le_of_ble_eq_true rfl) (by decide +kernel) ?_ rfl
      refine mz_go FLX2 KLX2 C [(55, .istore_n 3), (56, .iload_n 3), (57, .iconst (-1))] (by decide +kernel) (pc' := 58) (L' := [(3, .int (mz_rg 4 (M 55) (mz_rg 12 (M 29) k))), (2, .int (mz_rg 12 (M 29) k)), (0, .ref 30), (1, .int k)]) (st' := [.int (-1), .int (mz_rg 4 (M 55) (mz_rg 12 (M 29) k))]) rfl ?_
      refine mz_ieq (off := 21) (tgt := 79) C (by decide +kernel) (by decide) (fun h3 => ?_) (fun h3 => ?_)
      · refine mz_go FLX2 KLX2 C [(79, .iconst 0)] (by decide +kernel) (pc' := 80) (L' := [(3, .int (mz_rg 4 (M 55) (mz_rg 12 (M 29) k))), (2, .int (mz_rg 12 (M 29) k)), (0, .ref 30), (1, .int k)]) (st' := [.int 0]) rfl ?_
        exact mz_zret C E (by decide +kernel) (Or.inl rfl) (by unfold g_X2_hasProp; rw [if_neg h1, if_neg h2, if_pos h3]; try rfl) (rfl)
      · refine mz_go FLX2 KLX2 C [(61, .aload_n 0), (62, .getfield 24), (65, .iload_n 1), (66, .iconst 1), (67, .iload_n 3), (68, .ishl)] (by decide +kernel) (pc' := 69) (L' := [(3, .int (mz_rg 4 (M 55) (mz_rg 12 (M 29) k))), (2, .int (mz_rg 12 (M 29) k)), (0, .ref 30), (1, .int k)]) (st' := [.int (1 <<< ((mz_rg 4 (M 55) (mz_rg 12 (M 29) k)) &&& 31)), .int k, .ref 15]) rfl ?_
        refine mz_callV (As := [.int k, .int (1 <<< ((mz_rg 4 (M 55) (mz_rg 12 (M 29) k)) &&& 31))]) (rest := []) C E' (f_X7_has l D cA ρ hI M k (1 <<< ((mz_rg 4 (M 55) (mz_rg 12 (M 29) k)) &&& 31))) hy_X7_has wl_X2_202 rfl rfl rfl ⟨Nat.le_of_ble_eq_true rfl, Nat.le_of_ble_eq_true rfl⟩ ⟨Nat.le_refl _, Nat.le_refl _⟩ (Nat.le_of_ble_eq_true rfl) (by decide +kernel) ?_ rfl
        refine mz_zeq (off := 7) (tgt := 79) C (by decide +kernel) (by decide) (fun h4 => ?_) (fun h4 => ?_)
        · refine mz_go FLX2 KLX2 C [(79, .iconst 0)] (by decide +kernel) (pc' := 80) (L' := [(3, .int (mz_rg 4 (M 55) (mz_rg 12 (M 29) k))), (2, .int (mz_rg 12 (M 29) k)), (0, .ref 30), (1, .int k)]) (st' := [.int 0]) rfl ?_
          exact mz_zret C E (by decide +kernel) (Or.inl rfl) (by unfold g_X2_hasProp; rw [if_neg h1, if_neg h2, if_neg h3, if_pos h4]; try rfl) (rfl)
        · refine mz_go FLX2 KLX2 C [(75, .iconst 1), (76, .goto 4)] (by decide +kernel) (pc' := 80) (L' := [(3, .int (mz_rg 4 (M 55) (mz_rg 12 (M 29) k))), (2, .int (mz_rg 12 (M 29) k)), (0, .ref 30), (1, .int k)]) (st' := [.int 1]) rfl ?_
          exact mz_zret C E (by decide +kernel) (Or.inr rfl) (by unfold g_X2_hasProp; rw [if_neg h1, if_neg h2, if_neg h3, if_neg h4]; try rfl) (rfl)
    · refine mz_go FLX2 KLX2 C [(42, .iconst 1)] (by decide +kernel) (pc' := 43) (L' := [(2, .int (mz_rg 12 (M 29) k)), (0, .ref 30), (1, .int k)]) (st' := [.int 1]) rfl ?_
      exact mz_zret C E (by decide +kernel) (Or.inr rfl) (by unfold g_X2_hasProp; rw [if_neg h1, if_pos h2]; try rfl) (rfl)
def g_X2_canBegin (M : mz_Mem) (k : Int32) : Int32 := if ((mz_rg 12 (M 27) k) &&& ((g_X1_setIn M (mz_rg 12 (M 21) k)) ^^^ (-1))) = 0 then (if ((g_X1_withDoubles M (mz_rg 12 (M 27) k)) &&& (g_X8_busyTracks M)) = 0 then (if (g_X2_hasProp M k) = 0 then 0 else 1) else 0) else 0
set_option maxHeartbeats 4000000 in
theorem f_X2_canBegin (l : Launch) (D : va_G) (cA : Nat → ClassId) (ρ : Nat → Nat) (hI : mz_I ρ mz_lay1) (M : mz_Mem) (k : Int32) : mz_M l D vwCl cA ρ mz_lay1 yX2_canBegin cX2_canBegin 4 (some .boolean) 3 66 [.ref 30, .int k] M (some (.int (g_X2_canBegin M k))) M := by
  refine mz_in0 (by decide +kernel) (Nat.le_of_ble_eq_true rfl) (fun Γ C E => ?_)
  have E' := (⟨_, _, _, E⟩ : ∃ Qc mc ms, mz_E Γ Qc mc ms (mz_A ρ mz_lay1))
  refine mz_go FLX2 KLX2 C [(0, .aload_n 0), (1, .getfield 24), (4, .getfield 180), (7, .iload_n 1)] (by decide +kernel) (pc' := 8) (L' := [(0, .ref 30), (1, .int k)]) (st' := [.int k, .ref 26]) rfl ?_
  refine mz_callV (As := [.int k]) (rest := []) C E' (f_Row_get l D cA ρ hI (r := 26) (a := 27) (n := 12) rfl rfl (by decide) M k) hy_X6_get wl_X2_121 rfl rfl rfl ⟨Nat.le_of_ble_eq_true rfl, Nat.le_of_ble_eq_true rfl⟩ ⟨Nat.le_refl _, Nat.le_refl _⟩ (Nat.le_of_ble_eq_true rfl) (by decide +kernel) ?_ rfl
  refine mz_go FLX2 KLX2 C [(11, .istore_n 2), (12, .iload_n 2), (13, .aload_n 0), (14, .getfield 33), (17, .aload_n 0), (18, .getfield 24), (21, .getfield 130), (24, .iload_n 1)] (by decide +kernel) (pc' := 25) (L' := [(2, .int (mz_rg 12 (M 27) k)), (0, .ref 30), (1, .int k)]) (st' := [.int k, .ref 20, .ref 33, .int (mz_rg 12 (M 27) k)]) rfl ?_
  refine mz_callV (As := [.int k]) (rest := [.ref 33, .int (mz_rg 12 (M 27) k)]) C E' (f_Row_get l D cA ρ hI (r := 20) (a := 21) (n := 12) rfl rfl (by decide) M k) hy_X6_get wl_X2_121 rfl rfl rfl ⟨Nat.le_of_ble_eq_true rfl, Nat.le_of_ble_eq_true rfl⟩ ⟨Nat.le_refl _, Nat.le_refl _⟩ (Nat.le_of_ble_eq_true rfl) (by decide +kernel) ?_ rfl
  refine mz_callV (As := [.int (mz_rg 12 (M 21) k)]) (rest := [.int (mz_rg 12 (M 27) k)]) C E' (f_X1_setIn l D cA ρ hI M (mz_rg 12 (M 21) k)) hy_X1_setIn wl_X2_189 rfl rfl rfl ⟨Nat.le_of_ble_eq_true rfl, Nat.le_of_ble_eq_true rfl⟩ ⟨Nat.le_refl _, Nat.le_refl _⟩ (Nat.le_of_ble_eq_true rfl) (by decide +kernel) ?_ rfl
  refine mz_go FLX2 KLX2 C [(31, .iconst (-1)), (32, .ixor), (33, .iand)] (by decide +kernel) (pc' := 34) (L' := [(2, .int (mz_rg 12 (M 27) k)), (0, .ref 30), (1, .int k)]) (st' := [.int ((mz_rg 12 (M 27) k) &&& ((g_X1_setIn M (mz_rg 12 (M 21) k)) ^^^ (-1)))]) rfl ?_
  refine mz_zne (off := 7) (tgt := 41) C (by decide +kernel) (by decide) (fun h1 => ?_) (fun h1 => ?_)
  · refine mz_go FLX2 KLX2 C [(41, .iconst 0), (42, .istore_n 3), (43, .iload_n 3)] (by decide +kernel) (pc' := 44) (L' := [(3, .int 0), (2, .int (mz_rg 12 (M 27) k)), (0, .ref 30), (1, .int k)]) (st' := [.int 0]) rfl ?_
    refine mz_zeq (off := 34) (tgt := 78) C (by decide +kernel) (by decide) (fun _ => ?_) (fun h2 => absurd h2 (by decide))
    refine mz_go FLX2 KLX2 C [(78, .iconst 0)] (by decide +kernel) (pc' := 79) (L' := [(3, .int 0), (2, .int (mz_rg 12 (M 27) k)), (0, .ref 30), (1, .int k)]) (st' := [.int 0]) rfl ?_
    exact mz_zret C E (by decide +kernel) (Or.inl rfl) (by unfold g_X2_canBegin; rw [if_neg h1]; try rfl) (rfl)
  · refine mz_go FLX2 KLX2 C [(37, .iconst 1), (38, .goto 4), (42, .istore_n 3), (43, .iload_n 3)] (by decide +kernel) (pc' := 44) (L' := [(3, .int 1), (2, .int (mz_rg 12 (M 27) k)), (0, .ref 30), (1, .int k)]) (st' := [.int 1]) rfl ?_
    refine mz_zeq (off := 34) (tgt := 78) C (by decide +kernel) (by decide) (fun h3 => absurd h3 (by decide)) (fun _ => ?_)
    refine mz_go FLX2 KLX2 C [(47, .aload_n 0), (48, .getfield 33), (51, .iload_n 2)] (by decide +kernel) (pc' := 52) (L' := [(3, .int 1), (2, .int (mz_rg 12 (M 27) k)), (0, .ref 30), (1, .int k)]) (st' := [.int (mz_rg 12 (M 27) k), .ref 33]) rfl ?_
    refine mz_callV (As := [.int (mz_rg 12 (M 27) k)]) (rest := []) C E' (f_X1_withDoubles l D cA ρ hI M (mz_rg 12 (M 27) k)) hy_X1_withDoubles wl_X2_192 rfl rfl rfl ⟨Nat.le_of_ble_eq_true rfl, Nat.le_of_ble_eq_true rfl⟩ ⟨Nat.le_refl _, Nat.le_refl _⟩ (Nat.le_of_ble_eq_true rfl) (by decide +kernel) ?_ rfl
    refine mz_go FLX2 KLX2 C [(55, .aload_n 0), (56, .getfield 40)] (by decide +kernel) (pc' := 59) (L' := [(3, .int 1), (2, .int (mz_rg 12 (M 27) k)), (0, .ref 30), (1, .int k)]) (st' := [.ref 40, .int (g_X1_withDoubles M (mz_rg 12 (M 27) k))]) rfl ?_
    refine mz_callV (As := []) (rest := [.int (g_X1_withDoubles M (mz_rg 12 (M 27) k))]) C E' (f_X8_busyTracks l D cA ρ hI M ) hy_X8_busyTracks wl_X2_105 rfl rfl rfl ⟨Nat.le_of_ble_eq_true rfl, Nat.le_of_ble_eq_true rfl⟩ ⟨Nat.le_refl _, Nat.le_refl _⟩ (Nat.le_of_ble_eq_true rfl) (by decide +kernel) ?_ rfl
    refine mz_go FLX2 KLX2 C [(62, .iand)] (by decide +kernel) (pc' := 63) (L' := [(3, .int 1), (2, .int (mz_rg 12 (M 27) k)), (0, .ref 30), (1, .int k)]) (st' := [.int ((g_X1_withDoubles M (mz_rg 12 (M 27) k)) &&& (g_X8_busyTracks M))]) rfl ?_
    refine mz_zne (off := 15) (tgt := 78) C (by decide +kernel) (by decide) (fun h4 => ?_) (fun h4 => ?_)
    · refine mz_go FLX2 KLX2 C [(78, .iconst 0)] (by decide +kernel) (pc' := 79) (L' := [(3, .int 1), (2, .int (mz_rg 12 (M 27) k)), (0, .ref 30), (1, .int k)]) (st' := [.int 0]) rfl ?_
      exact mz_zret C E (by decide +kernel) (Or.inl rfl) (by unfold g_X2_canBegin; rw [if_pos h1, if_neg h4]; try rfl) (rfl)
    · refine mz_go FLX2 KLX2 C [(66, .aload_n 0), (67, .iload_n 1)] (by decide +kernel) (pc' := 68) (L' := [(3, .int 1), (2, .int (mz_rg 12 (M 27) k)), (0, .ref 30), (1, .int k)]) (st' := [.int k, .ref 30]) rfl ?_
      refine mz_callV (As := [.int k]) (rest := []) C E' (f_X2_hasProp l D cA ρ hI M k) hy_X2_hasProp wl_X2_195 rfl rfl rfl ⟨Nat.le_of_ble_eq_true rfl, Nat.le_of_ble_eq_true rfl⟩ ⟨Nat.le_refl _, Nat.le_refl _⟩ (Nat.le_of_ble_eq_true rfl) (by decide +kernel) ?_ rfl
      refine mz_zeq (off := 7) (tgt := 78) C (by decide +kernel) (by decide) (fun h5 => ?_) (fun h5 => ?_)
      · refine mz_go FLX2 KLX2 C [(78, .iconst 0)] (by decide +kernel) (pc' := 79) (L' := [(3, .int 1), (2, .int (mz_rg 12 (M 27) k)), (0, .ref 30), (1, .int k)]) (st' := [.int 0]) rfl ?_
        exact mz_zret C E (by decide +kernel) (Or.inl rfl) (by unfold g_X2_canBegin; rw [if_pos h1, if_pos h4, if_pos h5]; try rfl) (rfl)
      · refine mz_go FLX2 KLX2 C [(74, .iconst 1), (75, .goto 4)] (by decide +kernel) (pc' := 79) (L' := [(3, .int 1), (2, .int (mz_rg 12 (M 27) k)), (0, .ref 30), (1, .int k)]) (st' := [.int 1]) rfl ?_
        exact mz_zret C E (by decide +kernel) (Or.inr rfl) (by unfold g_X2_canBegin; rw [if_pos h1, if_pos h4, if_neg h5]; try rfl) (rfl)
def g_X2_performScenes_1 (M : mz_Mem) (i2 : Int32) (a3 : mz_Mem) : mz_Mem := if (g_X8_runs a3 i2) = 0 then (if (g_X8_waits a3 i2) = 0 then a3 else if ((M 30 7) - (M 30 7) / 20 * 20) < (mz_rg 12 (a3 23) i2) then a3 else if (g_X2_canBegin a3 i2) = 0 then (g_X8_delay a3 i2) else (g_X8_begin a3 i2)) else (g_X2_continueScene a3 i2)
theorem g_X2_performScenes_1_hs (M : mz_Mem) (i2 : Int32) (a3 : mz_Mem) : mz_hs a3 (g_X2_performScenes_1 M i2 a3) := by
  unfold g_X2_performScenes_1
  by_cases h1 : (g_X8_runs a3 i2) = 0
  · rw [if_pos h1]
    by_cases h2 : (g_X8_waits a3 i2) = 0
    · rw [if_pos h2]
      exact mz_hs_rf
    · rw [if_neg h2]
      by_cases h3 : ((M 30 7) - (M 30 7) / 20 * 20) < (mz_rg 12 (a3 23) i2)
      · rw [if_pos h3]
        exact mz_hs_rf
      · rw [if_neg h3]
        by_cases h4 : (g_X2_canBegin a3 i2) = 0
        · rw [if_pos h4]
          exact g_X8_delay_hs a3 i2
        · rw [if_neg h4]
          exact g_X8_begin_hs a3 i2
  · rw [if_neg h1]
    exact g_X2_continueScene_hs a3 i2

def g_X2_performScenes (M : mz_Mem) : mz_Mem := (mz_fr (M 15 2) (g_X2_performScenes_1 M) M)
theorem g_X2_performScenes_hs (M : mz_Mem) : mz_hs M (g_X2_performScenes M) := by
  unfold g_X2_performScenes
  exact mz_hs_frp (fun (a : mz_Mem) => a) (fun i a => g_X2_performScenes_1_hs M i a)

set_option maxHeartbeats 4000000 in
theorem f_X2_performScenes (l : Launch) (D : va_G) (cA : Nat → ClassId) (ρ : Nat → Nat) (hI : mz_I ρ mz_lay1) (M : mz_Mem) : mz_M l D vwCl cA ρ mz_lay1 yX2_performScenes cX2_performScenes 3 none 4 89 [.ref 30] M none (g_X2_performScenes M) := by
  refine mz_in0 (by decide +kernel) (Nat.le_of_ble_eq_true rfl) (fun Γ C E => ?_)
  have E' := (⟨_, _, _, E⟩ : ∃ Qc mc ms, mz_E Γ Qc mc ms (mz_A ρ mz_lay1))
  refine mz_go FLX2 KLX2 C [(0, .aload_n 0), (1, .getfield 58), (4, .bipush 20)] (by decide +kernel) (pc' := 6) (L' := [(0, .ref 30)]) (st' := [.int 20, .int (M 30 7)]) rfl ?_
  refine mz_irem C (by decide) (by decide +kernel) ?_
  refine mz_go FLX2 KLX2 C [(7, .istore_n 1), (8, .iconst 0), (9, .istore_n 2)] (by decide +kernel) (pc' := 10) (L' := [(2, .int 0), (1, .int ((M 30 7) - (M 30 7) / 20 * 20)), (0, .ref 30)]) (st' := []) rfl ?_
  refine mz_sub (L' := [(0, .ref 30), (1, .int ((M 30 7) - (M 30 7) / 20 * 20)), (2, .int 0)]) (by simp) ?_
  refine mz_loopI (M 15 2) (g_X2_performScenes_1 M) (fun (i : Int32) (a : mz_Mem) => mz_W Γ ρ 3 0 0 (mz_H D vwCl cA ρ mz_lay1 a) 10 [(0, .ref 30), (1, .int ((M 30 7) - (M 30 7) / 20 * 20)), (2, .int i)] []) (fun (a : mz_Mem) => a 15 2 = M 15 2) M rfl (fun i a h => ?_) (fun i2 a3 hi4 hv7 hx5 hb6 => ?_)
  · exact (congrFun (g_X2_performScenes_1_hs M i a _ (by decide)) _).trans h
  have hv7 : a3 15 2 = M 15 2 := hv7
  refine mz_go FLX2 KLX2 C [(10, .iload_n 2), (11, .aload_n 0), (12, .getfield 24), (15, .getfield 149)] (by decide +kernel) (pc' := 18) (L' := [(0, .ref 30), (1, .int ((M 30 7) - (M 30 7) / 20 * 20)), (2, .int i2)]) (st' := [.int (a3 15 2), .int i2]) rfl ?_
  refine mz_ige (off := 81) (tgt := 99) C (by decide +kernel) (by decide) (fun h1 => ?_) (fun h1 => ?_)
  · have e10 := hx5 (by rw [hv7] at h1; exact h1)
    subst e10
    refine mz_sub (L' := [(0, .ref 30), (1, .int ((M 30 7) - (M 30 7) / 20 * 20))]) (by simp) ?_
    exact mz_vret C E (by decide +kernel) (rfl)
  · refine mz_go FLX2 KLX2 C [(21, .aload_n 0), (22, .getfield 40), (25, .iload_n 2)] (by decide +kernel) (pc' := 26) (L' := [(0, .ref 30), (1, .int ((M 30 7) - (M 30 7) / 20 * 20)), (2, .int i2)]) (st' := [.int i2, .ref 40]) rfl ?_
    refine mz_callV (As := [.int i2]) (rest := []) C E' (f_X8_runs l D cA ρ hI a3 i2) hy_X8_runs wl_X2_152 rfl rfl rfl ⟨Nat.le_of_ble_eq_true rfl, Nat.le_of_ble_eq_true rfl⟩ ⟨Nat.le_refl _, Nat.le_refl _⟩ (Nat.le_of_ble_eq_true rfl) (by decide +kernel) ?_ rfl
    refine mz_zeq (off := 11) (tgt := 40) C (by decide +kernel) (by decide) (fun h11 => ?_) (fun h11 => ?_)
    · refine mz_go FLX2 KLX2 C [(40, .aload_n 0), (41, .getfield 40), (44, .iload_n 2)] (by decide +kernel) (pc' := 45) (L' := [(0, .ref 30), (1, .int ((M 30 7) - (M 30 7) / 20 * 20)), (2, .int i2)]) (st' := [.int i2, .ref 40]) rfl ?_
      refine mz_callV (As := [.int i2]) (rest := []) C E' (f_X8_waits l D cA ρ hI a3 i2) hy_X8_waits wl_X2_159 rfl rfl rfl ⟨Nat.le_of_ble_eq_true rfl, Nat.le_of_ble_eq_true rfl⟩ ⟨Nat.le_refl _, Nat.le_refl _⟩ (Nat.le_of_ble_eq_true rfl) (by decide +kernel) ?_ rfl
      refine mz_zeq (off := 45) (tgt := 93) C (by decide +kernel) (by decide) (fun h12 => ?_) (fun h12 => ?_)
      · refine mz_go FLX2 KLX2 C [(93, .iinc 2 1), (96, .goto (-86))] (by decide +kernel) (pc' := 10) (L' := [(2, .int (i2 + 1)), (0, .ref 30), (1, .int ((M 30 7) - (M 30 7) / 20 * 20))]) (st' := []) rfl ?_
        have hb13 := hb6 (by rw [hv7] at h1; exact h1)
        rw [show g_X2_performScenes_1 M i2 a3 = a3 from by unfold g_X2_performScenes_1; rw [if_pos h11, if_pos h12]] at hb13
        exact mz_sub (by simp) hb13
      · refine mz_go FLX2 KLX2 C [(51, .aload_n 0), (52, .getfield 24), (55, .getfield 162), (58, .iload_n 2)] (by decide +kernel) (pc' := 59) (L' := [(0, .ref 30), (1, .int ((M 30 7) - (M 30 7) / 20 * 20)), (2, .int i2)]) (st' := [.int i2, .ref 22]) rfl ?_
        refine mz_callV (As := [.int i2]) (rest := []) C E' (f_Row_get l D cA ρ hI (r := 22) (a := 23) (n := 12) rfl rfl (by decide) a3 i2) hy_X6_get wl_X2_121 rfl rfl rfl ⟨Nat.le_of_ble_eq_true rfl, Nat.le_of_ble_eq_true rfl⟩ ⟨Nat.le_refl _, Nat.le_refl _⟩ (Nat.le_of_ble_eq_true rfl) (by decide +kernel) ?_ rfl
        refine mz_go FLX2 KLX2 C [(62, .iload_n 1)] (by decide +kernel) (pc' := 63) (L' := [(0, .ref 30), (1, .int ((M 30 7) - (M 30 7) / 20 * 20)), (2, .int i2)]) (st' := [.int ((M 30 7) - (M 30 7) / 20 * 20), .int (mz_rg 12 (a3 23) i2)]) rfl ?_
        refine mz_igt (off := 30) (tgt := 93) C (by decide +kernel) (by decide) (fun h14 => ?_) (fun h14 => ?_)
        · refine mz_go FLX2 KLX2 C [(93, .iinc 2 1), (96, .goto (-86))] (by decide +kernel) (pc' := 10) (L' := [(2, .int (i2 + 1)), (0, .ref 30), (1, .int ((M 30 7) - (M 30 7) / 20 * 20))]) (st' := []) rfl ?_
          have hb15 := hb6 (by rw [hv7] at h1; exact h1)
          rw [show g_X2_performScenes_1 M i2 a3 = a3 from by unfold g_X2_performScenes_1; rw [if_pos h11, if_neg h12, if_pos h14]] at hb15
          exact mz_sub (by simp) hb15
        · refine mz_go FLX2 KLX2 C [(66, .aload_n 0), (67, .iload_n 2)] (by decide +kernel) (pc' := 68) (L' := [(0, .ref 30), (1, .int ((M 30 7) - (M 30 7) / 20 * 20)), (2, .int i2)]) (st' := [.int i2, .ref 30]) rfl ?_
          refine mz_callV (As := [.int i2]) (rest := []) C E' (f_X2_canBegin l D cA ρ hI a3 i2) hy_X2_canBegin wl_X2_165 rfl rfl rfl ⟨Nat.le_of_ble_eq_true rfl, Nat.le_of_ble_eq_true rfl⟩ ⟨Nat.le_refl _, Nat.le_refl _⟩ (Nat.le_of_ble_eq_true rfl) (by decide +kernel) ?_ rfl
          refine mz_zeq (off := 14) (tgt := 85) C (by decide +kernel) (by decide) (fun h16 => ?_) (fun h16 => ?_)
          · refine mz_go FLX2 KLX2 C [(85, .aload_n 0), (86, .getfield 40), (89, .iload_n 2)] (by decide +kernel) (pc' := 90) (L' := [(0, .ref 30), (1, .int ((M 30 7) - (M 30 7) / 20 * 20)), (2, .int i2)]) (st' := [.int i2, .ref 40]) rfl ?_
            refine mz_callV (As := [.int i2]) (rest := []) C E' (f_X8_delay l D cA ρ hI a3 i2) hy_X8_delay wl_X2_171 rfl rfl rfl ⟨Nat.le_of_ble_eq_true rfl, Nat.le_of_ble_eq_true rfl⟩ ⟨Nat.le_refl _, Nat.le_refl _⟩ (Nat.le_of_ble_eq_true rfl) (by decide +kernel) ?_ rfl
            refine mz_go FLX2 KLX2 C [(93, .iinc 2 1), (96, .goto (-86))] (by decide +kernel) (pc' := 10) (L' := [(2, .int (i2 + 1)), (0, .ref 30), (1, .int ((M 30 7) - (M 30 7) / 20 * 20))]) (st' := []) rfl ?_
            have hb17 := hb6 (by rw [hv7] at h1; exact h1)
            rw [show g_X2_performScenes_1 M i2 a3 = (g_X8_delay a3 i2) from by unfold g_X2_performScenes_1; rw [if_pos h11, if_neg h12, if_neg h14, if_pos h16]] at hb17
            exact mz_sub (by simp) hb17
          · refine mz_go FLX2 KLX2 C [(74, .aload_n 0), (75, .getfield 40), (78, .iload_n 2)] (by decide +kernel) (pc' := 79) (L' := [(0, .ref 30), (1, .int ((M 30 7) - (M 30 7) / 20 * 20)), (2, .int i2)]) (st' := [.int i2, .ref 40]) rfl ?_
            refine mz_callV (As := [.int i2]) (rest := []) C E' (f_X8_begin l D cA ρ hI a3 i2) hy_X8_begin wl_X2_168 rfl rfl rfl ⟨Nat.le_of_ble_eq_true rfl, Nat.le_of_ble_eq_true rfl⟩ ⟨Nat.le_refl _, Nat.le_refl _⟩ (Nat.le_of_ble_eq_true rfl) (by decide +kernel) ?_ rfl
            refine mz_go FLX2 KLX2 C [(82, .goto 11), (93, .iinc 2 1), (96, .goto (-86))] (by decide +kernel) (pc' := 10) (L' := [(2, .int (i2 + 1)), (0, .ref 30), (1, .int ((M 30 7) - (M 30 7) / 20 * 20))]) (st' := []) rfl ?_
            have hb18 := hb6 (by rw [hv7] at h1; exact h1)
            rw [show g_X2_performScenes_1 M i2 a3 = (g_X8_begin a3 i2) from by unfold g_X2_performScenes_1; rw [if_pos h11, if_neg h12, if_neg h14, if_neg h16]] at hb18
            exact mz_sub (by simp) hb18
    · refine mz_go FLX2 KLX2 C [(32, .aload_n 0), (33, .iload_n 2)] (by decide +kernel) (pc' := 34) (L' := [(0, .ref 30), (1, .int ((M 30 7) - (M 30 7) / 20 * 20)), (2, .int i2)]) (st' := [.int i2, .ref 30]) rfl ?_
      refine mz_callV (As := [.int i2]) (rest := []) C E' (f_X2_continueScene l D cA ρ hI a3 i2) hy_X2_continueScene wl_X2_156 rfl rfl rfl ⟨Nat.le_of_ble_eq_true rfl, Nat.le_of_ble_eq_true rfl⟩ ⟨Nat.le_refl _, Nat.le_refl _⟩ (Nat.le_of_ble_eq_true rfl) (by decide +kernel) ?_ rfl
      refine mz_go FLX2 KLX2 C [(37, .goto 56), (93, .iinc 2 1), (96, .goto (-86))] (by decide +kernel) (pc' := 10) (L' := [(2, .int (i2 + 1)), (0, .ref 30), (1, .int ((M 30 7) - (M 30 7) / 20 * 20))]) (st' := []) rfl ?_
      have hb19 := hb6 (by rw [hv7] at h1; exact h1)
      rw [show g_X2_performScenes_1 M i2 a3 = (g_X2_continueScene a3 i2) from by unfold g_X2_performScenes_1; rw [if_neg h11]] at hb19
      exact mz_sub (by simp) hb19
