def g_X8_runs (M : mz_Mem) (k : Int32) : Int32 := if (mz_rg 12 (M 42) k) = 1 then 1 else 0
set_option maxHeartbeats 4000000 in
theorem f_X8_runs (l : Launch) (D : va_G) (cA : Nat → ClassId) (ρ : Nat → Nat) (hI : mz_I ρ mz_lay1) (M : mz_Mem) (k : Int32) : mz_M l D vwCl cA ρ mz_lay1 yX8_runs cX8_runs 2 (some .boolean) 1 21 [.ref 40, .int k] M (some (.int (g_X8_runs M k))) M := by
  refine mz_in0 (by decide +kernel) (Nat.le_of_ble_eq_true rfl) (fun Γ C E => ?_)
  have E' := (⟨_, _, _, E⟩ : ∃ Qc mc ms, mz_E Γ Qc mc ms (mz_A ρ mz_lay1))
  refine mz_go FLX8 KLX8 C [(0, .aload_n 0), (1, .getfield 14), (4, .iload_n 1)] (by decide +kernel) (pc' := 5) (L' := [(0, .ref 40), (1, .int k)]) (st' := [.int k, .ref 41]) rfl ?_
  refine mz_callV (As := [.int k]) (rest := []) C E' (f_Row_get l D cA ρ hI (r := 41) (a := 42) (n := 12) rfl rfl (by decide) M k) hy_X6_get wl_X8_44 rfl rfl rfl ⟨Nat.le_of_ble_eq_true rfl, Nat.le_of_ble_eq_true rfl⟩ ⟨Nat.le_refl _, Nat.le_refl _⟩ (Nat.le_of_ble_eq_true rfl) (by decide +kernel) ?_ rfl
  refine mz_go FLX8 KLX8 C [(8, .iconst 1)] (by decide +kernel) (pc' := 9) (L' := [(0, .ref 40), (1, .int k)]) (st' := [.int 1, .int (mz_rg 12 (M 42) k)]) rfl ?_
  refine mz_ine (off := 7) (tgt := 16) C (by decide +kernel) (by decide) (fun h1 => ?_) (fun h1 => ?_)
  · refine mz_go FLX8 KLX8 C [(16, .iconst 0)] (by decide +kernel) (pc' := 17) (L' := [(0, .ref 40), (1, .int k)]) (st' := [.int 0]) rfl ?_
    exact mz_zret C E (by decide +kernel) (Or.inl rfl) (by unfold g_X8_runs; rw [if_neg h1]; try rfl) (rfl)
  · refine mz_go FLX8 KLX8 C [(12, .iconst 1), (13, .goto 4)] (by decide +kernel) (pc' := 17) (L' := [(0, .ref 40), (1, .int k)]) (st' := [.int 1]) rfl ?_
    exact mz_zret C E (by decide +kernel) (Or.inr rfl) (by unfold g_X8_runs; rw [if_pos h1]; try rfl) (rfl)
def g_X8_waits (M : mz_Mem) (k : Int32) : Int32 := if (mz_rg 12 (M 42) k) = 0 then 1 else 0
set_option maxHeartbeats 4000000 in
theorem f_X8_waits (l : Launch) (D : va_G) (cA : Nat → ClassId) (ρ : Nat → Nat) (hI : mz_I ρ mz_lay1) (M : mz_Mem) (k : Int32) : mz_M l D vwCl cA ρ mz_lay1 yX8_waits cX8_waits 2 (some .boolean) 1 21 [.ref 40, .int k] M (some (.int (g_X8_waits M k))) M := by
  refine mz_in0 (by decide +kernel) (Nat.le_of_ble_eq_true rfl) (fun Γ C E => ?_)
  have E' := (⟨_, _, _, E⟩ : ∃ Qc mc ms, mz_E Γ Qc mc ms (mz_A ρ mz_lay1))
  refine mz_go FLX8 KLX8 C [(0, .aload_n 0), (1, .getfield 14), (4, .iload_n 1)] (by decide +kernel) (pc' := 5) (L' := [(0, .ref 40), (1, .int k)]) (st' := [.int k, .ref 41]) rfl ?_
  refine mz_callV (As := [.int k]) (rest := []) C E' (f_Row_get l D cA ρ hI (r := 41) (a := 42) (n := 12) rfl rfl (by decide) M k) hy_X6_get wl_X8_44 rfl rfl rfl ⟨Nat.le_of_ble_eq_true rfl, Nat.le_of_ble_eq_true rfl⟩ ⟨Nat.le_refl _, Nat.le_refl _⟩ (Nat.le_of_ble_eq_true rfl) (by decide +kernel) ?_ rfl
  refine mz_zne (off := 7) (tgt := 15) C (by decide +kernel) (by decide) (fun h1 => ?_) (fun h1 => ?_)
  · refine mz_go FLX8 KLX8 C [(15, .iconst 0)] (by decide +kernel) (pc' := 16) (L' := [(0, .ref 40), (1, .int k)]) (st' := [.int 0]) rfl ?_
    exact mz_zret C E (by decide +kernel) (Or.inl rfl) (by unfold g_X8_waits; rw [if_neg h1]; try rfl) (rfl)
  · refine mz_go FLX8 KLX8 C [(11, .iconst 1), (12, .goto 4)] (by decide +kernel) (pc' := 16) (L' := [(0, .ref 40), (1, .int k)]) (st' := [.int 1]) rfl ?_
    exact mz_zret C E (by decide +kernel) (Or.inr rfl) (by unfold g_X8_waits; rw [if_pos h1]; try rfl) (rfl)
def g_X8_cut (M : mz_Mem) (k : Int32) : mz_Mem := (mz_s (mz_s (mz_s M 42 (mz_rs 12 (M 42) k 3)) 44 (mz_rs 12 ((mz_s M 42 (mz_rs 12 (M 42) k 3)) 44) k 0)) 50 (mz_ra 12 ((mz_s (mz_s M 42 (mz_rs 12 (M 42) k 3)) 44 (mz_rs 12 ((mz_s M 42 (mz_rs 12 (M 42) k 3)) 44) k 0)) 50) k 1))
theorem g_X8_cut_hs (M : mz_Mem) (k : Int32) : mz_hs M (g_X8_cut M k) := by
  unfold g_X8_cut
  exact ((mz_hs_s (by decide)).trans (mz_hs_s (by decide))).trans (mz_hs_s (by decide))

set_option maxHeartbeats 4000000 in
theorem f_X8_cut (l : Launch) (D : va_G) (cA : Nat → ClassId) (ρ : Nat → Nat) (hI : mz_I ρ mz_lay1) (M : mz_Mem) (k : Int32) : mz_M l D vwCl cA ρ mz_lay1 yX8_cut cX8_cut 2 none 1 22 [.ref 40, .int k] M none (g_X8_cut M k) := by
  refine mz_in0 (by decide +kernel) (Nat.le_of_ble_eq_true rfl) (fun Γ C E => ?_)
  have E' := (⟨_, _, _, E⟩ : ∃ Qc mc ms, mz_E Γ Qc mc ms (mz_A ρ mz_lay1))
  refine mz_go FLX8 KLX8 C [(0, .aload_n 0), (1, .getfield 14), (4, .iload_n 1), (5, .iconst 3)] (by decide +kernel) (pc' := 6) (L' := [(0, .ref 40), (1, .int k)]) (st' := [.int 3, .int k, .ref 41]) rfl ?_
  refine mz_callV (As := [.int k, .int 3]) (rest := []) C E' (f_Row_set l D cA ρ hI (r := 41) (a := 42) (n := 12) rfl rfl (by decide) M k 3) hy_X6_set wl_X8_63 rfl rfl rfl ⟨Nat.le_of_ble_eq_true rfl, Nat.le_of_ble_eq_true rfl⟩ ⟨Nat.le_refl _, Nat.le_refl _⟩ (Nat.le_of_ble_eq_true rfl) (by decide +kernel) ?_ rfl
  refine mz_go FLX8 KLX8 C [(9, .aload_n 0), (10, .getfield 20), (13, .iload_n 1), (14, .iconst 0)] (by decide +kernel) (pc' := 15) (L' := [(0, .ref 40), (1, .int k)]) (st' := [.int 0, .int k, .ref 43]) rfl ?_
  refine mz_callV (As := [.int k, .int 0]) (rest := []) C E' (f_Row_set l D cA ρ hI (r := 43) (a := 44) (n := 12) rfl rfl (by decide) (mz_s M 42 (mz_rs 12 (M 42) k 3)) k 0) hy_X6_set wl_X8_63 rfl rfl rfl ⟨Nat.le_of_ble_eq_true rfl, Nat.le_of_ble_eq_true rfl⟩ ⟨Nat.le_refl _, Nat.le_refl _⟩ (Nat.le_of_ble_eq_true rfl) (by decide +kernel) ?_ rfl
  refine mz_go FLX8 KLX8 C [(18, .aload_n 0), (19, .getfield 29), (22, .iload_n 1), (23, .iconst 1)] (by decide +kernel) (pc' := 24) (L' := [(0, .ref 40), (1, .int k)]) (st' := [.int 1, .int k, .ref 49]) rfl ?_
  refine mz_callV (As := [.int k, .int 1]) (rest := []) C E' (f_Row_add l D cA ρ hI (r := 49) (a := 50) (n := 12) rfl rfl (by decide) (mz_s (mz_s M 42 (mz_rs 12 (M 42) k 3)) 44 (mz_rs 12 ((mz_s M 42 (mz_rs 12 (M 42) k 3)) 44) k 0)) k 1) hy_X6_add wl_X8_67 rfl rfl rfl ⟨Nat.le_of_ble_eq_true rfl, Nat.le_of_ble_eq_true rfl⟩ ⟨Nat.le_refl _, Nat.le_refl _⟩ (Nat.le_of_ble_eq_true rfl) (by decide +kernel) ?_ rfl
  exact mz_vret C E (by decide +kernel) (rfl)
def g_X8_restart_1 (M : mz_Mem) (i2 : Int32) (a3 : mz_Mem) : mz_Mem := if (g_X8_waits a3 i2) = 0 then (if (g_X8_runs a3 i2) = 0 then (mz_s (mz_s a3 42 (mz_rs 12 (a3 42) i2 0)) 46 (mz_rs 12 ((mz_s a3 42 (mz_rs 12 (a3 42) i2 0)) 46) i2 0)) else (mz_s (mz_s (g_X8_cut a3 i2) 42 (mz_rs 12 ((g_X8_cut a3 i2) 42) i2 0)) 46 (mz_rs 12 ((mz_s (g_X8_cut a3 i2) 42 (mz_rs 12 ((g_X8_cut a3 i2) 42) i2 0)) 46) i2 0))) else (mz_s (mz_s (g_X8_cut a3 i2) 42 (mz_rs 12 ((g_X8_cut a3 i2) 42) i2 0)) 46 (mz_rs 12 ((mz_s (g_X8_cut a3 i2) 42 (mz_rs 12 ((g_X8_cut a3 i2) 42) i2 0)) 46) i2 0))
theorem g_X8_restart_1_hs (M : mz_Mem) (i2 : Int32) (a3 : mz_Mem) : mz_hs a3 (g_X8_restart_1 M i2 a3) := by
  unfold g_X8_restart_1
  by_cases h1 : (g_X8_waits a3 i2) = 0
  · rw [if_pos h1]
    by_cases h2 : (g_X8_runs a3 i2) = 0
    · rw [if_pos h2]
      exact (mz_hs_s (by decide)).trans (mz_hs_s (by decide))
    · rw [if_neg h2]
      exact ((g_X8_cut_hs a3 i2).trans (mz_hs_s (by decide))).trans (mz_hs_s (by decide))
  · rw [if_neg h1]
    exact ((g_X8_cut_hs a3 i2).trans (mz_hs_s (by decide))).trans (mz_hs_s (by decide))

def g_X8_restart (M : mz_Mem) : mz_Mem := (mz_fr (M 15 2) (g_X8_restart_1 M) M)
theorem g_X8_restart_hs (M : mz_Mem) : mz_hs M (g_X8_restart M) := by
  unfold g_X8_restart
  exact mz_hs_frp (fun (a : mz_Mem) => a) (fun i a => g_X8_restart_1_hs M i a)

set_option maxHeartbeats 4000000 in
theorem f_X8_restart (l : Launch) (D : va_G) (cA : Nat → ClassId) (ρ : Nat → Nat) (hI : mz_I ρ mz_lay1) (M : mz_Mem) : mz_M l D vwCl cA ρ mz_lay1 yX8_restart cX8_restart 2 none 2 43 [.ref 40] M none (g_X8_restart M) := by
  refine mz_in0 (by decide +kernel) (Nat.le_of_ble_eq_true rfl) (fun Γ C E => ?_)
  have E' := (⟨_, _, _, E⟩ : ∃ Qc mc ms, mz_E Γ Qc mc ms (mz_A ρ mz_lay1))
  refine mz_go FLX8 KLX8 C [(0, .iconst 0), (1, .istore_n 1)] (by decide +kernel) (pc' := 2) (L' := [(1, .int 0), (0, .ref 40)]) (st' := []) rfl ?_
  refine mz_sub (L' := [(0, .ref 40), (1, .int 0)]) (by simp) ?_
  refine mz_loopI (M 15 2) (g_X8_restart_1 M) (fun (i : Int32) (a : mz_Mem) => mz_W Γ ρ 2 0 0 (mz_H D vwCl cA ρ mz_lay1 a) 2 [(0, .ref 40), (1, .int i)] []) (fun (a : mz_Mem) => a 15 2 = M 15 2) M rfl (fun i a h => ?_) (fun i2 a3 hi4 hv7 hx5 hb6 => ?_)
  · exact (congrFun (g_X8_restart_1_hs M i a _ (by decide)) _).trans h
  have hv7 : a3 15 2 = M 15 2 := hv7
  refine mz_go FLX8 KLX8 C [(2, .iload_n 1), (3, .aload_n 0), (4, .getfield 32), (7, .getfield 48)] (by decide +kernel) (pc' := 10) (L' := [(0, .ref 40), (1, .int i2)]) (st' := [.int (a3 15 2), .int i2]) rfl ?_
  refine mz_ige (off := 48) (tgt := 58) C (by decide +kernel) (by decide) (fun h1 => ?_) (fun h1 => ?_)
  · have e10 := hx5 (by rw [hv7] at h1; exact h1)
    subst e10
    refine mz_sub (L' := [(0, .ref 40)]) (by simp) ?_
    exact mz_vret C E (by decide +kernel) (rfl)
  · refine mz_go FLX8 KLX8 C [(13, .aload_n 0), (14, .iload_n 1)] (by decide +kernel) (pc' := 15) (L' := [(0, .ref 40), (1, .int i2)]) (st' := [.int i2, .ref 40]) rfl ?_
    refine mz_callV (As := [.int i2]) (rest := []) C E' (f_X8_waits l D cA ρ hI a3 i2) hy_X8_waits wl_X8_53 rfl rfl rfl ⟨Nat.le_of_ble_eq_true rfl, Nat.le_of_ble_eq_true rfl⟩ ⟨Nat.le_refl _, Nat.le_refl _⟩ (Nat.le_of_ble_eq_true rfl) (by decide +kernel) ?_ rfl
    refine mz_zne (off := 11) (tgt := 29) C (by decide +kernel) (by decide) (fun h11 => ?_) (fun h11 => ?_)
    · refine mz_go FLX8 KLX8 C [(29, .aload_n 0), (30, .iload_n 1)] (by decide +kernel) (pc' := 31) (L' := [(0, .ref 40), (1, .int i2)]) (st' := [.int i2, .ref 40]) rfl ?_
      refine mz_callV (As := [.int i2]) (rest := []) C E' (f_X8_cut l D cA ρ hI a3 i2) hy_X8_cut wl_X8_60 rfl rfl rfl ⟨Nat.le_of_ble_eq_true rfl, Nat.le_of_ble_eq_true rfl⟩ ⟨Nat.le_refl _, Nat.le_refl _⟩ (Nat.le_of_ble_eq_true rfl) (by decide +kernel) ?_ rfl
      refine mz_go FLX8 KLX8 C [(34, .aload_n 0), (35, .getfield 14), (38, .iload_n 1), (39, .iconst 0)] (by decide +kernel) (pc' := 40) (L' := [(0, .ref 40), (1, .int i2)]) (st' := [.int 0, .int i2, .ref 41]) rfl ?_
      refine mz_callV (As := [.int i2, .int 0]) (rest := []) C E' (f_Row_set l D cA ρ hI (r := 41) (a := 42) (n := 12) rfl rfl (by decide) (g_X8_cut a3 i2) i2 0) hy_X6_set wl_X8_63 rfl rfl rfl ⟨Nat.le_of_ble_eq_true rfl, Nat.le_of_ble_eq_true rfl⟩ ⟨Nat.le_refl _, Nat.le_refl _⟩ (Nat.le_of_ble_eq_true rfl) (by decide +kernel) ?_ rfl
      refine mz_go FLX8 KLX8 C [(43, .aload_n 0), (44, .getfield 23), (47, .iload_n 1), (48, .iconst 0)] (by decide +kernel) (pc' := 49) (L' := [(0, .ref 40), (1, .int i2)]) (st' := [.int 0, .int i2, .ref 45]) rfl ?_
      refine mz_callV (As := [.int i2, .int 0]) (rest := []) C E' (f_Row_set l D cA ρ hI (r := 45) (a := 46) (n := 12) rfl rfl (by decide) (mz_s (g_X8_cut a3 i2) 42 (mz_rs 12 ((g_X8_cut a3 i2) 42) i2 0)) i2 0) hy_X6_set wl_X8_63 rfl rfl rfl ⟨Nat.le_of_ble_eq_true rfl, Nat.le_of_ble_eq_true rfl⟩ ⟨Nat.le_refl _, Nat.le_refl _⟩ (Nat.le_of_ble_eq_true rfl) (by decide +kernel) ?_ rfl
      refine mz_go FLX8 KLX8 C [(52, .iinc 1 1), (55, .goto (-53))] (by decide +kernel) (pc' := 2) (L' := [(1, .int (i2 + 1)), (0, .ref 40)]) (st' := []) rfl ?_
      have hb12 := hb6 (by rw [hv7] at h1; exact h1)
      rw [show g_X8_restart_1 M i2 a3 = (mz_s (mz_s (g_X8_cut a3 i2) 42 (mz_rs 12 ((g_X8_cut a3 i2) 42) i2 0)) 46 (mz_rs 12 ((mz_s (g_X8_cut a3 i2) 42 (mz_rs 12 ((g_X8_cut a3 i2) 42) i2 0)) 46) i2 0)) from by unfold g_X8_restart_1; rw [if_neg h11]] at hb12
      exact mz_sub (by simp) hb12
    · refine mz_go FLX8 KLX8 C [(21, .aload_n 0), (22, .iload_n 1)] (by decide +kernel) (pc' := 23) (L' := [(0, .ref 40), (1, .int i2)]) (st' := [.int i2, .ref 40]) rfl ?_
      refine mz_callV (As := [.int i2]) (rest := []) C E' (f_X8_runs l D cA ρ hI a3 i2) hy_X8_runs wl_X8_57 rfl rfl rfl ⟨Nat.le_of_ble_eq_true rfl, Nat.le_of_ble_eq_true rfl⟩ ⟨Nat.le_refl _, Nat.le_refl _⟩ (Nat.le_of_ble_eq_true rfl) (by decide +kernel) ?_ rfl
      refine mz_zeq (off := 8) (tgt := 34) C (by decide +kernel) (by decide) (fun h13 => ?_) (fun h13 => ?_)
      · refine mz_go FLX8 KLX8 C [(34, .aload_n 0), (35, .getfield 14), (38, .iload_n 1), (39, .iconst 0)] (by decide +kernel) (pc' := 40) (L' := [(0, .ref 40), (1, .int i2)]) (st' := [.int 0, .int i2, .ref 41]) rfl ?_
        refine mz_callV (As := [.int i2, .int 0]) (rest := []) C E' (f_Row_set l D cA ρ hI (r := 41) (a := 42) (n := 12) rfl rfl (by decide) a3 i2 0) hy_X6_set wl_X8_63 rfl rfl rfl ⟨Nat.le_of_ble_eq_true rfl, Nat.le_of_ble_eq_true rfl⟩ ⟨Nat.le_refl _, Nat.le_refl _⟩ (Nat.le_of_ble_eq_true rfl) (by decide +kernel) ?_ rfl
        refine mz_go FLX8 KLX8 C [(43, .aload_n 0), (44, .getfield 23), (47, .iload_n 1), (48, .iconst 0)] (by decide +kernel) (pc' := 49) (L' := [(0, .ref 40), (1, .int i2)]) (st' := [.int 0, .int i2, .ref 45]) rfl ?_
        refine mz_callV (As := [.int i2, .int 0]) (rest := []) C E' (f_Row_set l D cA ρ hI (r := 45) (a := 46) (n := 12) rfl rfl (by decide) (mz_s a3 42 (mz_rs 12 (a3 42) i2 0)) i2 0) hy_X6_set wl_X8_63 rfl rfl rfl ⟨Nat.le_of_ble_eq_true rfl, Nat.le_of_ble_eq_true rfl⟩ ⟨Nat.le_refl _, Nat.le_refl _⟩ (Nat.le_of_ble_eq_true rfl) (by decide +kernel) ?_ rfl
        refine mz_go FLX8 KLX8 C [(52, .iinc 1 1), (55, .goto (-53))] (by decide +kernel) (pc' := 2) (L' := [(1, .int (i2 + 1)), (0, .ref 40)]) (st' := []) rfl ?_
        have hb14 := hb6 (by rw [hv7] at h1; exact h1)
        rw [show g_X8_restart_1 M i2 a3 = (mz_s (mz_s a3 42 (mz_rs 12 (a3 42) i2 0)) 46 (mz_rs 12 ((mz_s a3 42 (mz_rs 12 (a3 42) i2 0)) 46) i2 0)) from by unfold g_X8_restart_1; rw [if_pos h11, if_pos h13]] at hb14
        exact mz_sub (by simp) hb14
      · refine mz_go FLX8 KLX8 C [(29, .aload_n 0), (30, .iload_n 1)] (by decide +kernel) (pc' := 31) (L' := [(0, .ref 40), (1, .int i2)]) (st' := [.int i2, .ref 40]) rfl ?_
        refine mz_callV (As := [.int i2]) (rest := []) C E' (f_X8_cut l D cA ρ hI a3 i2) hy_X8_cut wl_X8_60 rfl rfl rfl ⟨Nat.le_of_ble_eq_true rfl, Nat.le_of_ble_eq_true rfl⟩ ⟨Nat.le_refl _, Nat.le_refl _⟩ (Nat.le_of_ble_eq_true rfl) (by decide +kernel) ?_ rfl
        refine mz_go FLX8 KLX8 C [(34, .aload_n 0), (35, .getfield 14), (38, .iload_n 1), (39, .iconst 0)] (by decide +kernel) (pc' := 40) (L' := [(0, .ref 40), (1, .int i2)]) (st' := [.int 0, .int i2, .ref 41]) rfl ?_
        refine mz_callV (As := [.int i2, .int 0]) (rest := []) C E' (f_Row_set l D cA ρ hI (r := 41) (a := 42) (n := 12) rfl rfl (by decide) (g_X8_cut a3 i2) i2 0) hy_X6_set wl_X8_63 rfl rfl rfl ⟨Nat.le_of_ble_eq_true rfl, Nat.le_of_ble_eq_true rfl⟩ ⟨Nat.le_refl _, Nat.le_refl _⟩ (Nat.le_of_ble_eq_true rfl) (by decide +kernel) ?_ rfl
        refine mz_go FLX8 KLX8 C [(43, .aload_n 0), (44, .getfield 23), (47, .iload_n 1), (48, .iconst 0)] (by decide +kernel) (pc' := 49) (L' := [(0, .ref 40), (1, .int i2)]) (st' := [.int 0, .int i2, .ref 45]) rfl ?_
        refine mz_callV (As := [.int i2, .int 0]) (rest := []) C E' (f_Row_set l D cA ρ hI (r := 45) (a := 46) (n := 12) rfl rfl (by decide) (mz_s (g_X8_cut a3 i2) 42 (mz_rs 12 ((g_X8_cut a3 i2) 42) i2 0)) i2 0) hy_X6_set wl_X8_63 rfl rfl rfl ⟨Nat.le_of_ble_eq_true rfl, Nat.le_of_ble_eq_true rfl⟩ ⟨Nat.le_refl _, Nat.le_refl _⟩ (Nat.le_of_ble_eq_true rfl) (by decide +kernel) ?_ rfl
        refine mz_go FLX8 KLX8 C [(52, .iinc 1 1), (55, .goto (-53))] (by decide +kernel) (pc' := 2) (L' := [(1, .int (i2 + 1)), (0, .ref 40)]) (st' := []) rfl ?_
        have hb15 := hb6 (by rw [hv7] at h1; exact h1)
        rw [show g_X8_restart_1 M i2 a3 = (mz_s (mz_s (g_X8_cut a3 i2) 42 (mz_rs 12 ((g_X8_cut a3 i2) 42) i2 0)) 46 (mz_rs 12 ((mz_s (g_X8_cut a3 i2) 42 (mz_rs 12 ((g_X8_cut a3 i2) 42) i2 0)) 46) i2 0)) from by unfold g_X8_restart_1; rw [if_pos h11, if_neg h13]] at hb15
        exact mz_sub (by simp) hb15
def g_X8_begin (M : mz_Mem) (k : Int32) : mz_Mem := (mz_s (mz_s M 42 (mz_rs 12 (M 42) k 1)) 44 (mz_rs 12 ((mz_s M 42 (mz_rs 12 (M 42) k 1)) 44) k (mz_rg 12 ((mz_s M 42 (mz_rs 12 (M 42) k 1)) 25) k)))
theorem g_X8_begin_hs (M : mz_Mem) (k : Int32) : mz_hs M (g_X8_begin M k) := by
  unfold g_X8_begin
  exact (mz_hs_s (by decide)).trans (mz_hs_s (by decide))

set_option maxHeartbeats 4000000 in
theorem f_X8_begin (l : Launch) (D : va_G) (cA : Nat → ClassId) (ρ : Nat → Nat) (hI : mz_I ρ mz_lay1) (M : mz_Mem) (k : Int32) : mz_M l D vwCl cA ρ mz_lay1 yX8_begin cX8_begin 2 none 1 22 [.ref 40, .int k] M none (g_X8_begin M k) := by
  refine mz_in0 (by decide +kernel) (Nat.le_of_ble_eq_true rfl) (fun Γ C E => ?_)
  have E' := (⟨_, _, _, E⟩ : ∃ Qc mc ms, mz_E Γ Qc mc ms (mz_A ρ mz_lay1))
  refine mz_go FLX8 KLX8 C [(0, .aload_n 0), (1, .getfield 14), (4, .iload_n 1), (5, .iconst 1)] (by decide +kernel) (pc' := 6) (L' := [(0, .ref 40), (1, .int k)]) (st' := [.int 1, .int k, .ref 41]) rfl ?_
  refine mz_callV (As := [.int k, .int 1]) (rest := []) C E' (f_Row_set l D cA ρ hI (r := 41) (a := 42) (n := 12) rfl rfl (by decide) M k 1) hy_X6_set wl_X8_63 rfl rfl rfl ⟨Nat.le_of_ble_eq_true rfl, Nat.le_of_ble_eq_true rfl⟩ ⟨Nat.le_refl _, Nat.le_refl _⟩ (Nat.le_of_ble_eq_true rfl) (by decide +kernel) ?_ rfl
  refine mz_go FLX8 KLX8 C [(9, .aload_n 0), (10, .getfield 20), (13, .iload_n 1), (14, .aload_n 0), (15, .getfield 32), (18, .getfield 70), (21, .iload_n 1)] (by decide +kernel) (pc' := 22) (L' := [(0, .ref 40), (1, .int k)]) (st' := [.int k, .ref 24, .int k, .ref 43]) rfl ?_
  refine mz_callV (As := [.int k]) (rest := [.int k, .ref 43]) C E' (f_Row_get l D cA ρ hI (r := 24) (a := 25) (n := 12) rfl rfl (by decide) (mz_s M 42 (mz_rs 12 (M 42) k 1)) k) hy_X6_get wl_X8_44 rfl rfl rfl ⟨Nat.le_of_ble_eq_true rfl, Nat.le_of_ble_eq_true rfl⟩ ⟨Nat.le_refl _, Nat.le_refl _⟩ (Nat.le_of_ble_eq_true rfl) (by decide +kernel) ?_ rfl
  refine mz_callV (As := [.int k, .int (mz_rg 12 ((mz_s M 42 (mz_rs 12 (M 42) k 1)) 25) k)]) (rest := []) C E' (f_Row_set l D cA ρ hI (r := 43) (a := 44) (n := 12) rfl rfl (by decide) (mz_s M 42 (mz_rs 12 (M 42) k 1)) k (mz_rg 12 ((mz_s M 42 (mz_rs 12 (M 42) k 1)) 25) k)) hy_X6_set wl_X8_63 rfl rfl rfl ⟨Nat.le_of_ble_eq_true rfl, Nat.le_of_ble_eq_true rfl⟩ ⟨Nat.le_refl _, Nat.le_refl _⟩ (Nat.le_of_ble_eq_true rfl) (by decide +kernel) ?_ rfl
  exact mz_vret C E (by decide +kernel) (rfl)
def g_X8_delay (M : mz_Mem) (k : Int32) : mz_Mem := if (mz_rg 12 ((mz_s (mz_s M 46 (mz_ra 12 (M 46) k 1)) 40 (upd ((mz_s M 46 (mz_ra 12 (M 46) k 1)) 40) 6 (((mz_s M 46 (mz_ra 12 (M 46) k 1)) 40 6) + 1))) 46) k) < 5 then (mz_s (mz_s M 46 (mz_ra 12 (M 46) k 1)) 40 (upd ((mz_s M 46 (mz_ra 12 (M 46) k 1)) 40) 6 (((mz_s M 46 (mz_ra 12 (M 46) k 1)) 40 6) + 1))) else (g_X8_cut (mz_s (mz_s M 46 (mz_ra 12 (M 46) k 1)) 40 (upd ((mz_s M 46 (mz_ra 12 (M 46) k 1)) 40) 6 (((mz_s M 46 (mz_ra 12 (M 46) k 1)) 40 6) + 1))) k)
theorem g_X8_delay_hs (M : mz_Mem) (k : Int32) : mz_hs M (g_X8_delay M k) := by
  unfold g_X8_delay
  by_cases h1 : (mz_rg 12 ((mz_s (mz_s M 46 (mz_ra 12 (M 46) k 1)) 40 (upd ((mz_s M 46 (mz_ra 12 (M 46) k 1)) 40) 6 (((mz_s M 46 (mz_ra 12 (M 46) k 1)) 40 6) + 1))) 46) k) < 5
  · rw [if_pos h1]
    exact (mz_hs_s (by decide)).trans (mz_hs_s (by decide))
  · rw [if_neg h1]
    exact ((mz_hs_s (by decide)).trans (mz_hs_s (by decide))).trans (g_X8_cut_hs (mz_s (mz_s M 46 (mz_ra 12 (M 46) k 1)) 40 (upd ((mz_s M 46 (mz_ra 12 (M 46) k 1)) 40) 6 (((mz_s M 46 (mz_ra 12 (M 46) k 1)) 40 6) + 1))) k)

set_option maxHeartbeats 4000000 in
theorem f_X8_delay (l : Launch) (D : va_G) (cA : Nat → ClassId) (ρ : Nat → Nat) (hI : mz_I ρ mz_lay1) (M : mz_Mem) (k : Int32) : mz_M l D vwCl cA ρ mz_lay1 yX8_delay cX8_delay 2 none 2 43 [.ref 40, .int k] M none (g_X8_delay M k) := by
  refine mz_in0 (by decide +kernel) (Nat.le_of_ble_eq_true rfl) (fun Γ C E => ?_)
  have E' := (⟨_, _, _, E⟩ : ∃ Qc mc ms, mz_E Γ Qc mc ms (mz_A ρ mz_lay1))
  refine mz_go FLX8 KLX8 C [(0, .aload_n 0), (1, .getfield 23), (4, .iload_n 1), (5, .iconst 1)] (by decide +kernel) (pc' := 6) (L' := [(0, .ref 40), (1, .int k)]) (st' := [.int 1, .int k, .ref 45]) rfl ?_
  refine mz_callV (As := [.int k, .int 1]) (rest := []) C E' (f_Row_add l D cA ρ hI (r := 45) (a := 46) (n := 12) rfl rfl (by decide) M k 1) hy_X6_add wl_X8_67 rfl rfl rfl ⟨Nat.le_of_ble_eq_true rfl, Nat.le_of_ble_eq_true rfl⟩ ⟨Nat.le_refl _, Nat.le_refl _⟩ (Nat.le_of_ble_eq_true rfl) (by decide +kernel) ?_ rfl
  refine mz_go FLX8 KLX8 C [(9, .aload_n 0), (10, .dup), (11, .getfield 40), (14, .iconst 1), (15, .iadd)] (by decide +kernel) (pc' := 16) (L' := [(0, .ref 40), (1, .int k)]) (st' := [.int (((mz_s M 46 (mz_ra 12 (M 46) k 1)) 40 6) + 1), .ref 40]) rfl ?_
  refine mz_put (id := 40) (ci := 8) (j := 6) (T := TX8) (N := 7) C E' hI rfl rfl rfl (by decide) iu_X8 tyX8 tyX8_ok nmX8 wf_X8_40 rfl (by decide +kernel) (by decide +kernel) ?_
  refine mz_go FLX8 KLX8 C [(19, .aload_n 0), (20, .getfield 23), (23, .iload_n 1)] (by decide +kernel) (pc' := 24) (L' := [(0, .ref 40), (1, .int k)]) (st' := [.int k, .ref 45]) rfl ?_
  refine mz_callV (As := [.int k]) (rest := []) C E' (f_Row_get l D cA ρ hI (r := 45) (a := 46) (n := 12) rfl rfl (by decide) (mz_s (mz_s M 46 (mz_ra 12 (M 46) k 1)) 40 (upd ((mz_s M 46 (mz_ra 12 (M 46) k 1)) 40) 6 (((mz_s M 46 (mz_ra 12 (M 46) k 1)) 40 6) + 1))) k) hy_X6_get wl_X8_44 rfl rfl rfl ⟨Nat.le_of_ble_eq_true rfl, Nat.le_of_ble_eq_true rfl⟩ ⟨Nat.le_refl _, Nat.le_refl _⟩ (Nat.le_of_ble_eq_true rfl) (by decide +kernel) ?_ rfl
  refine mz_go FLX8 KLX8 C [(27, .iconst 5)] (by decide +kernel) (pc' := 28) (L' := [(0, .ref 40), (1, .int k)]) (st' := [.int 5, .int (mz_rg 12 ((mz_s (mz_s M 46 (mz_ra 12 (M 46) k 1)) 40 (upd ((mz_s M 46 (mz_ra 12 (M 46) k 1)) 40) 6 (((mz_s M 46 (mz_ra 12 (M 46) k 1)) 40 6) + 1))) 46) k)]) rfl ?_
  refine mz_ilt (off := 8) (tgt := 36) C (by decide +kernel) (by decide) (fun h1 => ?_) (fun h1 => ?_)
  · exact mz_vret C E (by decide +kernel) (by unfold g_X8_delay; rw [if_pos h1]; try rfl)
  · refine mz_go FLX8 KLX8 C [(31, .aload_n 0), (32, .iload_n 1)] (by decide +kernel) (pc' := 33) (L' := [(0, .ref 40), (1, .int k)]) (st' := [.int k, .ref 40]) rfl ?_
    refine mz_callV (As := [.int k]) (rest := []) C E' (f_X8_cut l D cA ρ hI (mz_s (mz_s M 46 (mz_ra 12 (M 46) k 1)) 40 (upd ((mz_s M 46 (mz_ra 12 (M 46) k 1)) 40) 6 (((mz_s M 46 (mz_ra 12 (M 46) k 1)) 40 6) + 1))) k) hy_X8_cut wl_X8_60 rfl rfl rfl ⟨Nat.le_of_ble_eq_true rfl, Nat.le_of_ble_eq_true rfl⟩ ⟨Nat.le_refl _, Nat.le_refl _⟩ (Nat.le_of_ble_eq_true rfl) (by decide +kernel) ?_ rfl
    exact mz_vret C E (by decide +kernel) (by unfold g_X8_delay; rw [if_neg h1]; try rfl)
def g_X8_goOn (M : mz_Mem) (k : Int32) : mz_Mem := if 0 < (mz_rg 12 ((mz_s M 44 (mz_ra 12 (M 44) k (-1))) 44) k) then (mz_s M 44 (mz_ra 12 (M 44) k (-1))) else (mz_s (mz_s (mz_s M 44 (mz_ra 12 (M 44) k (-1))) 42 (mz_rs 12 ((mz_s M 44 (mz_ra 12 (M 44) k (-1))) 42) k 2)) 48 (mz_ra 12 ((mz_s (mz_s M 44 (mz_ra 12 (M 44) k (-1))) 42 (mz_rs 12 ((mz_s M 44 (mz_ra 12 (M 44) k (-1))) 42) k 2)) 48) k 1))
theorem g_X8_goOn_hs (M : mz_Mem) (k : Int32) : mz_hs M (g_X8_goOn M k) := by
  unfold g_X8_goOn
  by_cases h1 : 0 < (mz_rg 12 ((mz_s M 44 (mz_ra 12 (M 44) k (-1))) 44) k)
  · rw [if_pos h1]
    exact mz_hs_s (by decide)
  · rw [if_neg h1]
    exact ((mz_hs_s (by decide)).trans (mz_hs_s (by decide))).trans (mz_hs_s (by decide))

set_option maxHeartbeats 4000000 in
theorem f_X8_goOn (l : Launch) (D : va_G) (cA : Nat → ClassId) (ρ : Nat → Nat) (hI : mz_I ρ mz_lay1) (M : mz_Mem) (k : Int32) : mz_M l D vwCl cA ρ mz_lay1 yX8_goOn cX8_goOn 2 none 1 22 [.ref 40, .int k] M none (g_X8_goOn M k) := by
  refine mz_in0 (by decide +kernel) (Nat.le_of_ble_eq_true rfl) (fun Γ C E => ?_)
  have E' := (⟨_, _, _, E⟩ : ∃ Qc mc ms, mz_E Γ Qc mc ms (mz_A ρ mz_lay1))
  refine mz_go FLX8 KLX8 C [(0, .aload_n 0), (1, .getfield 20), (4, .iload_n 1), (5, .iconst (-1))] (by decide +kernel) (pc' := 6) (L' := [(0, .ref 40), (1, .int k)]) (st' := [.int (-1), .int k, .ref 43]) rfl ?_
  refine mz_callV (As := [.int k, .int (-1)]) (rest := []) C E' (f_Row_add l D cA ρ hI (r := 43) (a := 44) (n := 12) rfl rfl (by decide) M k (-1)) hy_X6_add wl_X8_67 rfl rfl rfl ⟨Nat.le_of_ble_eq_true rfl, Nat.le_of_ble_eq_true rfl⟩ ⟨Nat.le_refl _, Nat.le_refl _⟩ (Nat.le_of_ble_eq_true rfl) (by decide +kernel) ?_ rfl
  refine mz_go FLX8 KLX8 C [(9, .aload_n 0), (10, .getfield 20), (13, .iload_n 1)] (by decide +kernel) (pc' := 14) (L' := [(0, .ref 40), (1, .int k)]) (st' := [.int k, .ref 43]) rfl ?_
  refine mz_callV (As := [.int k]) (rest := []) C E' (f_Row_get l D cA ρ hI (r := 43) (a := 44) (n := 12) rfl rfl (by decide) (mz_s M 44 (mz_ra 12 (M 44) k (-1))) k) hy_X6_get wl_X8_44 rfl rfl rfl ⟨Nat.le_of_ble_eq_true rfl, Nat.le_of_ble_eq_true rfl⟩ ⟨Nat.le_refl _, Nat.le_refl _⟩ (Nat.le_of_ble_eq_true rfl) (by decide +kernel) ?_ rfl
  refine mz_zgt (off := 21) (tgt := 38) C (by decide +kernel) (by decide) (fun h1 => ?_) (fun h1 => ?_)
  · exact mz_vret C E (by decide +kernel) (by unfold g_X8_goOn; rw [if_pos h1]; try rfl)
  · refine mz_go FLX8 KLX8 C [(20, .aload_n 0), (21, .getfield 14), (24, .iload_n 1), (25, .iconst 2)] (by decide +kernel) (pc' := 26) (L' := [(0, .ref 40), (1, .int k)]) (st' := [.int 2, .int k, .ref 41]) rfl ?_
    refine mz_callV (As := [.int k, .int 2]) (rest := []) C E' (f_Row_set l D cA ρ hI (r := 41) (a := 42) (n := 12) rfl rfl (by decide) (mz_s M 44 (mz_ra 12 (M 44) k (-1))) k 2) hy_X6_set wl_X8_63 rfl rfl rfl ⟨Nat.le_of_ble_eq_true rfl, Nat.le_of_ble_eq_true rfl⟩ ⟨Nat.le_refl _, Nat.le_refl _⟩ (Nat.le_of_ble_eq_true rfl) (by decide +kernel) ?_ rfl
    refine mz_go FLX8 KLX8 C [(29, .aload_n 0), (30, .getfield 26), (33, .iload_n 1), (34, .iconst 1)] (by decide +kernel) (pc' := 35) (L' := [(0, .ref 40), (1, .int k)]) (st' := [.int 1, .int k, .ref 47]) rfl ?_
    refine mz_callV (As := [.int k, .int 1]) (rest := []) C E' (f_Row_add l D cA ρ hI (r := 47) (a := 48) (n := 12) rfl rfl (by decide) (mz_s (mz_s M 44 (mz_ra 12 (M 44) k (-1))) 42 (mz_rs 12 ((mz_s M 44 (mz_ra 12 (M 44) k (-1))) 42) k 2)) k 1) hy_X6_add wl_X8_67 rfl rfl rfl ⟨Nat.le_of_ble_eq_true rfl, Nat.le_of_ble_eq_true rfl⟩ ⟨Nat.le_refl _, Nat.le_refl _⟩ (Nat.le_of_ble_eq_true rfl) (by decide +kernel) ?_ rfl
    exact mz_vret C E (by decide +kernel) (by unfold g_X8_goOn; rw [if_neg h1]; try rfl)
def g_X8_busyTracks_1 (M : mz_Mem) (i2 : Int32) (a3 : Int32) : Int32 := if (mz_rg 12 (M 42) i2) = 1 then a3 ||| (mz_rg 12 (M 27) i2) else a3
def g_X8_busyTracks (M : mz_Mem) : Int32 := (mz_fr (M 15 2) (g_X8_busyTracks_1 M) 0)
set_option maxHeartbeats 4000000 in
theorem f_X8_busyTracks (l : Launch) (D : va_G) (cA : Nat → ClassId) (ρ : Nat → Nat) (hI : mz_I ρ mz_lay1) (M : mz_Mem) : mz_M l D vwCl cA ρ mz_lay1 yX8_busyTracks cX8_busyTracks 3 (some .int) 1 21 [.ref 40] M (some (.int (g_X8_busyTracks M))) M := by
  refine mz_in0 (by decide +kernel) (Nat.le_of_ble_eq_true rfl) (fun Γ C E => ?_)
  have E' := (⟨_, _, _, E⟩ : ∃ Qc mc ms, mz_E Γ Qc mc ms (mz_A ρ mz_lay1))
  refine mz_go FLX8 KLX8 C [(0, .iconst 0), (1, .istore_n 1), (2, .iconst 0), (3, .istore_n 2)] (by decide +kernel) (pc' := 4) (L' := [(2, .int 0), (1, .int 0), (0, .ref 40)]) (st' := []) rfl ?_
  refine mz_sub (L' := [(0, .ref 40), (1, .int 0), (2, .int 0)]) (by simp) ?_
  refine mz_loop (M 15 2) (g_X8_busyTracks_1 M) (fun (i : Int32) (a : Int32) => mz_W Γ ρ 3 0 0 (mz_H D vwCl cA ρ mz_lay1 M) 4 [(0, .ref 40), (1, .int a), (2, .int i)] []) 0 (fun i2 a3 hi4 hx5 hb6 => ?_)
  refine mz_go FLX8 KLX8 C [(4, .iload_n 2), (5, .aload_n 0), (6, .getfield 32), (9, .getfield 48)] (by decide +kernel) (pc' := 12) (L' := [(0, .ref 40), (1, .int a3), (2, .int i2)]) (st' := [.int (M 15 2), .int i2]) rfl ?_
  refine mz_ige (off := 35) (tgt := 47) C (by decide +kernel) (by decide) (fun h1 => ?_) (fun h1 => ?_)
  · have e10 := hx5 h1
    subst e10
    refine mz_sub (L' := [(0, .ref 40), (1, .int (mz_fr (M 15 2) (g_X8_busyTracks_1 M) 0))]) (by simp) ?_
    refine mz_go FLX8 KLX8 C [(47, .iload_n 1)] (by decide +kernel) (pc' := 48) (L' := [(0, .ref 40), (1, .int (mz_fr (M 15 2) (g_X8_busyTracks_1 M) 0))]) (st' := [.int (mz_fr (M 15 2) (g_X8_busyTracks_1 M) 0)]) rfl ?_
    exact mz_iret C E (by decide +kernel) (rfl) (rfl)
  · refine mz_go FLX8 KLX8 C [(15, .aload_n 0), (16, .getfield 14), (19, .iload_n 2)] (by decide +kernel) (pc' := 20) (L' := [(0, .ref 40), (1, .int a3), (2, .int i2)]) (st' := [.int i2, .ref 41]) rfl ?_
    refine mz_callV (As := [.int i2]) (rest := []) C E' (f_Row_get l D cA ρ hI (r := 41) (a := 42) (n := 12) rfl rfl (by decide) M i2) hy_X6_get wl_X8_44 rfl rfl rfl ⟨Nat.le_of_ble_eq_true rfl, Nat.le_of_ble_eq_true rfl⟩ ⟨Nat.le_refl _, Nat.le_refl _⟩ (Nat.le_of_ble_eq_true rfl) (by decide +kernel) ?_ rfl
    refine mz_go FLX8 KLX8 C [(23, .iconst 1)] (by decide +kernel) (pc' := 24) (L' := [(0, .ref 40), (1, .int a3), (2, .int i2)]) (st' := [.int 1, .int (mz_rg 12 (M 42) i2)]) rfl ?_
    refine mz_ine (off := 17) (tgt := 41) C (by decide +kernel) (by decide) (fun h11 => ?_) (fun h11 => ?_)
    · refine mz_go FLX8 KLX8 C [(41, .iinc 2 1), (44, .goto (-40))] (by decide +kernel) (pc' := 4) (L' := [(2, .int (i2 + 1)), (0, .ref 40), (1, .int a3)]) (st' := []) rfl ?_
      have hb12 := hb6 h1
      rw [show g_X8_busyTracks_1 M i2 a3 = a3 from by unfold g_X8_busyTracks_1; rw [if_neg h11]] at hb12
      exact mz_sub (by simp) hb12
    · refine mz_go FLX8 KLX8 C [(27, .iload_n 1), (28, .aload_n 0), (29, .getfield 32), (32, .getfield 73), (35, .iload_n 2)] (by decide +kernel) (pc' := 36) (L' := [(0, .ref 40), (1, .int a3), (2, .int i2)]) (st' := [.int i2, .ref 26, .int a3]) rfl ?_
      refine mz_callV (As := [.int i2]) (rest := [.int a3]) C E' (f_Row_get l D cA ρ hI (r := 26) (a := 27) (n := 12) rfl rfl (by decide) M i2) hy_X6_get wl_X8_44 rfl rfl rfl ⟨Nat.le_of_ble_eq_true rfl, Nat.le_of_ble_eq_true rfl⟩ ⟨Nat.le_refl _, Nat.le_refl _⟩ (Nat.le_of_ble_eq_true rfl) (by decide +kernel) ?_ rfl
      refine mz_go FLX8 KLX8 C [(39, .ior), (40, .istore_n 1), (41, .iinc 2 1), (44, .goto (-40))] (by decide +kernel) (pc' := 4) (L' := [(2, .int (i2 + 1)), (1, .int (a3 ||| (mz_rg 12 (M 27) i2))), (0, .ref 40)]) (st' := []) rfl ?_
      have hb13 := hb6 h1
      rw [show g_X8_busyTracks_1 M i2 a3 = a3 ||| (mz_rg 12 (M 27) i2) from by unfold g_X8_busyTracks_1; rw [if_pos h11]] at hb13
      exact mz_sub (by simp) hb13
def g_X8_nextSceneOf_1 (M : mz_Mem) (s : Int32) (i2 : Int32) (a3 : Int32) : Int32 := if (mz_rg 12 (M 42) i2) = 0 then (if (g_X7_has M i2 s) = 0 then a3 else if a3 = (-1) then i2 else if (mz_rg 12 (M 23) a3) ≤ (mz_rg 12 (M 23) i2) then a3 else i2) else a3
def g_X8_nextSceneOf (M : mz_Mem) (s : Int32) : Int32 := (mz_fr (M 15 2) (g_X8_nextSceneOf_1 M s) (-1))
set_option maxHeartbeats 4000000 in
theorem f_X8_nextSceneOf (l : Launch) (D : va_G) (cA : Nat → ClassId) (ρ : Nat → Nat) (hI : mz_I ρ mz_lay1) (M : mz_Mem) (s : Int32) : mz_M l D vwCl cA ρ mz_lay1 yX8_nextSceneOf cX8_nextSceneOf 4 (some .int) 2 43 [.ref 40, .int s] M (some (.int (g_X8_nextSceneOf M s))) M := by
  refine mz_in0 (by decide +kernel) (Nat.le_of_ble_eq_true rfl) (fun Γ C E => ?_)
  have E' := (⟨_, _, _, E⟩ : ∃ Qc mc ms, mz_E Γ Qc mc ms (mz_A ρ mz_lay1))
  refine mz_go FLX8 KLX8 C [(0, .iconst (-1)), (1, .istore_n 2), (2, .iconst 0), (3, .istore_n 3)] (by decide +kernel) (pc' := 4) (L' := [(3, .int 0), (2, .int (-1)), (0, .ref 40), (1, .int s)]) (st' := []) rfl ?_
  refine mz_sub (L' := [(0, .ref 40), (1, .int s), (2, .int (-1)), (3, .int 0)]) (by simp) ?_
  refine mz_loop (M 15 2) (g_X8_nextSceneOf_1 M s) (fun (i : Int32) (a : Int32) => mz_W Γ ρ 4 0 0 (mz_H D vwCl cA ρ mz_lay1 M) 4 [(0, .ref 40), (1, .int s), (2, .int a), (3, .int i)] []) (-1) (fun i2 a3 hi4 hx5 hb6 => ?_)
  refine mz_go FLX8 KLX8 C [(4, .iload_n 3), (5, .aload_n 0), (6, .getfield 32), (9, .getfield 48)] (by decide +kernel) (pc' := 12) (L' := [(0, .ref 40), (1, .int s), (2, .int a3), (3, .int i2)]) (st' := [.int (M 15 2), .int i2]) rfl ?_
  refine mz_ige (off := 64) (tgt := 76) C (by decide +kernel) (by decide) (fun h1 => ?_) (fun h1 => ?_)
  · have e10 := hx5 h1
    subst e10
    refine mz_sub (L' := [(0, .ref 40), (1, .int s), (2, .int (mz_fr (M 15 2) (g_X8_nextSceneOf_1 M s) (-1)))]) (by simp) ?_
    refine mz_go FLX8 KLX8 C [(76, .iload_n 2)] (by decide +kernel) (pc' := 77) (L' := [(0, .ref 40), (1, .int s), (2, .int (mz_fr (M 15 2) (g_X8_nextSceneOf_1 M s) (-1)))]) (st' := [.int (mz_fr (M 15 2) (g_X8_nextSceneOf_1 M s) (-1))]) rfl ?_
    exact mz_iret C E (by decide +kernel) (rfl) (rfl)
  · refine mz_go FLX8 KLX8 C [(15, .aload_n 0), (16, .getfield 14), (19, .iload_n 3)] (by decide +kernel) (pc' := 20) (L' := [(0, .ref 40), (1, .int s), (2, .int a3), (3, .int i2)]) (st' := [.int i2, .ref 41]) rfl ?_
    refine mz_callV (As := [.int i2]) (rest := []) C E' (f_Row_get l D cA ρ hI (r := 41) (a := 42) (n := 12) rfl rfl (by decide) M i2) hy_X6_get wl_X8_44 rfl rfl rfl ⟨Nat.le_of_ble_eq_true rfl, Nat.le_of_ble_eq_true rfl⟩ ⟨Nat.le_refl _, Nat.le_refl _⟩ (Nat.le_of_ble_eq_true rfl) (by decide +kernel) ?_ rfl
    refine mz_zne (off := 47) (tgt := 70) C (by decide +kernel) (by decide) (fun h11 => ?_) (fun h11 => ?_)
    · refine mz_go FLX8 KLX8 C [(70, .iinc 3 1), (73, .goto (-69))] (by decide +kernel) (pc' := 4) (L' := [(3, .int (i2 + 1)), (0, .ref 40), (1, .int s), (2, .int a3)]) (st' := []) rfl ?_
      have hb12 := hb6 h1
      rw [show g_X8_nextSceneOf_1 M s i2 a3 = a3 from by unfold g_X8_nextSceneOf_1; rw [if_neg h11]] at hb12
      exact mz_sub (by simp) hb12
    · refine mz_go FLX8 KLX8 C [(26, .aload_n 0), (27, .getfield 32), (30, .iload_n 3), (31, .iload_n 1)] (by decide +kernel) (pc' := 32) (L' := [(0, .ref 40), (1, .int s), (2, .int a3), (3, .int i2)]) (st' := [.int s, .int i2, .ref 15]) rfl ?_
      refine mz_callV (As := [.int i2, .int s]) (rest := []) C E' (f_X7_has l D cA ρ hI M i2 s) hy_X7_has wl_X8_76 rfl rfl rfl ⟨Nat.le_of_ble_eq_true rfl, Nat.le_of_ble_eq_true rfl⟩ ⟨Nat.le_refl _, Nat.le_refl _⟩ (Nat.le_of_ble_eq_true rfl) (by decide +kernel) ?_ rfl
      refine mz_zeq (off := 35) (tgt := 70) C (by decide +kernel) (by decide) (fun h13 => ?_) (fun h13 => ?_)
      · refine mz_go FLX8 KLX8 C [(70, .iinc 3 1), (73, .goto (-69))] (by decide +kernel) (pc' := 4) (L' := [(3, .int (i2 + 1)), (0, .ref 40), (1, .int s), (2, .int a3)]) (st' := []) rfl ?_
        have hb14 := hb6 h1
        rw [show g_X8_nextSceneOf_1 M s i2 a3 = a3 from by unfold g_X8_nextSceneOf_1; rw [if_pos h11, if_pos h13]] at hb14
        exact mz_sub (by simp) hb14
      · refine mz_go FLX8 KLX8 C [(38, .iload_n 2), (39, .iconst (-1))] (by decide +kernel) (pc' := 40) (L' := [(0, .ref 40), (1, .int s), (2, .int a3), (3, .int i2)]) (st' := [.int (-1), .int a3]) rfl ?_
        refine mz_ieq (off := 28) (tgt := 68) C (by decide +kernel) (by decide) (fun h15 => ?_) (fun h15 => ?_)
        · refine mz_go FLX8 KLX8 C [(68, .iload_n 3), (69, .istore_n 2), (70, .iinc 3 1), (73, .goto (-69))] (by decide +kernel) (pc' := 4) (L' := [(3, .int (i2 + 1)), (2, .int i2), (0, .ref 40), (1, .int s)]) (st' := []) rfl ?_
          have hb16 := hb6 h1
          rw [show g_X8_nextSceneOf_1 M s i2 a3 = i2 from by unfold g_X8_nextSceneOf_1; rw [if_pos h11, if_neg h13, if_pos h15]] at hb16
          exact mz_sub (by simp) hb16
        · refine mz_go FLX8 KLX8 C [(43, .aload_n 0), (44, .getfield 32), (47, .getfield 80), (50, .iload_n 3)] (by decide +kernel) (pc' := 51) (L' := [(0, .ref 40), (1, .int s), (2, .int a3), (3, .int i2)]) (st' := [.int i2, .ref 22]) rfl ?_
          refine mz_callV (As := [.int i2]) (rest := []) C E' (f_Row_get l D cA ρ hI (r := 22) (a := 23) (n := 12) rfl rfl (by decide) M i2) hy_X6_get wl_X8_44 rfl rfl rfl ⟨Nat.le_of_ble_eq_true rfl, Nat.le_of_ble_eq_true rfl⟩ ⟨Nat.le_refl _, Nat.le_refl _⟩ (Nat.le_of_ble_eq_true rfl) (by decide +kernel) ?_ rfl
          refine mz_go FLX8 KLX8 C [(54, .aload_n 0), (55, .getfield 32), (58, .getfield 80), (61, .iload_n 2)] (by decide +kernel) (pc' := 62) (L' := [(0, .ref 40), (1, .int s), (2, .int a3), (3, .int i2)]) (st' := [.int a3, .ref 22, .int (mz_rg 12 (M 23) i2)]) rfl ?_
          refine mz_callV (As := [.int a3]) (rest := [.int (mz_rg 12 (M 23) i2)]) C E' (f_Row_get l D cA ρ hI (r := 22) (a := 23) (n := 12) rfl rfl (by decide) M a3) hy_X6_get wl_X8_44 rfl rfl rfl ⟨Nat.le_of_ble_eq_true rfl, Nat.le_of_ble_eq_true rfl⟩ ⟨Nat.le_refl _, Nat.le_refl _⟩ (Nat.le_of_ble_eq_true rfl) (by decide +kernel) ?_ rfl
          refine mz_ige (off := 5) (tgt := 70) C (by decide +kernel) (by decide) (fun h17 => ?_) (fun h17 => ?_)
          · refine mz_go FLX8 KLX8 C [(70, .iinc 3 1), (73, .goto (-69))] (by decide +kernel) (pc' := 4) (L' := [(3, .int (i2 + 1)), (0, .ref 40), (1, .int s), (2, .int a3)]) (st' := []) rfl ?_
            have hb18 := hb6 h1
            rw [show g_X8_nextSceneOf_1 M s i2 a3 = a3 from by unfold g_X8_nextSceneOf_1; rw [if_pos h11, if_neg h13, if_neg h15, if_pos h17]] at hb18
            exact mz_sub (by simp) hb18
          · refine mz_go FLX8 KLX8 C [(68, .iload_n 3), (69, .istore_n 2), (70, .iinc 3 1), (73, .goto (-69))] (by decide +kernel) (pc' := 4) (L' := [(3, .int (i2 + 1)), (2, .int i2), (0, .ref 40), (1, .int s)]) (st' := []) rfl ?_
            have hb19 := hb6 h1
            rw [show g_X8_nextSceneOf_1 M s i2 a3 = i2 from by unfold g_X8_nextSceneOf_1; rw [if_pos h11, if_neg h13, if_neg h15, if_neg h17]] at hb19
            exact mz_sub (by simp) hb19
def g_X8_runningWith_1 (M : mz_Mem) (t : Int32) (i6 : Int32) : Bool := if (mz_rg 12 (M 42) i6) = 1 then (if (g_X7_has M i6 (1 <<< (t &&& 31))) = 0 then false else true) else false
def g_X8_runningWith (M : mz_Mem) (t : Int32) : Int32 := (match mz_find (M 15 2) (g_X8_runningWith_1 M t) with | some i6 => i6 | none => (-1))
set_option maxHeartbeats 4000000 in
theorem f_X8_runningWith (l : Launch) (D : va_G) (cA : Nat → ClassId) (ρ : Nat → Nat) (hI : mz_I ρ mz_lay1) (M : mz_Mem) (t : Int32) : mz_M l D vwCl cA ρ mz_lay1 yX8_runningWith cX8_runningWith 3 (some .int) 2 43 [.ref 40, .int t] M (some (.int (g_X8_runningWith M t))) M := by
  refine mz_in0 (by decide +kernel) (Nat.le_of_ble_eq_true rfl) (fun Γ C E => ?_)
  have E' := (⟨_, _, _, E⟩ : ∃ Qc mc ms, mz_E Γ Qc mc ms (mz_A ρ mz_lay1))
  refine mz_go FLX8 KLX8 C [(0, .iconst 0), (1, .istore_n 2)] (by decide +kernel) (pc' := 2) (L' := [(2, .int 0), (0, .ref 40), (1, .int t)]) (st' := []) rfl ?_
  refine mz_sub (L' := [(0, .ref 40), (1, .int t), (2, .int 0)]) (by simp) ?_
  refine mz_loopf (M 15 2) (g_X8_runningWith_1 M t) (fun i => mz_W Γ ρ 3 0 0 (mz_H D vwCl cA ρ mz_lay1 M) 2 [(0, .ref 40), (1, .int t), (2, .int i)] []) (fun i6 hi5 hx3 hp4 ih2 => ?_)
  refine mz_go FLX8 KLX8 C [(2, .iload_n 2), (3, .aload_n 0), (4, .getfield 32), (7, .getfield 48)] (by decide +kernel) (pc' := 10) (L' := [(0, .ref 40), (1, .int t), (2, .int i6)]) (st' := [.int (M 15 2), .int i6]) rfl ?_
  refine mz_ige (off := 37) (tgt := 47) C (by decide +kernel) (by decide) (fun h1 => ?_) (fun h1 => ?_)
  · have hf7 := hx3 h1
    refine mz_sub (L' := [(0, .ref 40), (1, .int t)]) (by simp) ?_
    refine mz_go FLX8 KLX8 C [(47, .iconst (-1))] (by decide +kernel) (pc' := 48) (L' := [(0, .ref 40), (1, .int t)]) (st' := [.int (-1)]) rfl ?_
    exact mz_iret C E (by decide +kernel) (by unfold g_X8_runningWith; rw [hf7]; try rfl) (rfl)
  · refine mz_go FLX8 KLX8 C [(13, .aload_n 0), (14, .getfield 14), (17, .iload_n 2)] (by decide +kernel) (pc' := 18) (L' := [(0, .ref 40), (1, .int t), (2, .int i6)]) (st' := [.int i6, .ref 41]) rfl ?_
    refine mz_callV (As := [.int i6]) (rest := []) C E' (f_Row_get l D cA ρ hI (r := 41) (a := 42) (n := 12) rfl rfl (by decide) M i6) hy_X6_get wl_X8_44 rfl rfl rfl ⟨Nat.le_of_ble_eq_true rfl, Nat.le_of_ble_eq_true rfl⟩ ⟨Nat.le_refl _, Nat.le_refl _⟩ (Nat.le_of_ble_eq_true rfl) (by decide +kernel) ?_ rfl
    refine mz_go FLX8 KLX8 C [(21, .iconst 1)] (by decide +kernel) (pc' := 22) (L' := [(0, .ref 40), (1, .int t), (2, .int i6)]) (st' := [.int 1, .int (mz_rg 12 (M 42) i6)]) rfl ?_
    refine mz_ine (off := 19) (tgt := 41) C (by decide +kernel) (by decide) (fun h8 => ?_) (fun h8 => ?_)
    · refine mz_go FLX8 KLX8 C [(41, .iinc 2 1), (44, .goto (-42))] (by decide +kernel) (pc' := 2) (L' := [(2, .int (i6 + 1)), (0, .ref 40), (1, .int t)]) (st' := []) rfl ?_
      exact mz_sub (by simp) (ih2 h1 (by unfold g_X8_runningWith_1; rw [if_neg h8]))
    · refine mz_go FLX8 KLX8 C [(25, .aload_n 0), (26, .getfield 32), (29, .iload_n 2), (30, .iconst 1), (31, .iload_n 1), (32, .ishl)] (by decide +kernel) (pc' := 33) (L' := [(0, .ref 40), (1, .int t), (2, .int i6)]) (st' := [.int (1 <<< (t &&& 31)), .int i6, .ref 15]) rfl ?_
      refine mz_callV (As := [.int i6, .int (1 <<< (t &&& 31))]) (rest := []) C E' (f_X7_has l D cA ρ hI M i6 (1 <<< (t &&& 31))) hy_X7_has wl_X8_76 rfl rfl rfl ⟨Nat.le_of_ble_eq_true rfl, Nat.le_of_ble_eq_true rfl⟩ ⟨Nat.le_refl _, Nat.le_refl _⟩ (Nat.le_of_ble_eq_true rfl) (by decide +kernel) ?_ rfl
      refine mz_zeq (off := 5) (tgt := 41) C (by decide +kernel) (by decide) (fun h9 => ?_) (fun h9 => ?_)
      · refine mz_go FLX8 KLX8 C [(41, .iinc 2 1), (44, .goto (-42))] (by decide +kernel) (pc' := 2) (L' := [(2, .int (i6 + 1)), (0, .ref 40), (1, .int t)]) (st' := []) rfl ?_
        exact mz_sub (by simp) (ih2 h1 (by unfold g_X8_runningWith_1; rw [if_pos h8, if_pos h9]))
      · refine mz_go FLX8 KLX8 C [(39, .iload_n 2)] (by decide +kernel) (pc' := 40) (L' := [(0, .ref 40), (1, .int t), (2, .int i6)]) (st' := [.int i6]) rfl ?_
        have hf10 := hp4 h1 (by unfold g_X8_runningWith_1; rw [if_pos h8, if_neg h9])
        exact mz_iret C E (by decide +kernel) (by unfold g_X8_runningWith; rw [hf10]; try rfl) (rfl)
def g_X8_runningIn_1 (M : mz_Mem) (r : Int32) (i2 : Int32) (a3 : Int32) : Int32 := if (mz_rg 12 (M 42) i2) = 1 then (if (mz_rg 12 (M 21) i2) = r then a3 ||| (1 <<< (i2 &&& 31)) else a3) else a3
def g_X8_runningIn (M : mz_Mem) (r : Int32) : Int32 := (mz_fr (M 15 2) (g_X8_runningIn_1 M r) 0)
set_option maxHeartbeats 4000000 in
theorem f_X8_runningIn (l : Launch) (D : va_G) (cA : Nat → ClassId) (ρ : Nat → Nat) (hI : mz_I ρ mz_lay1) (M : mz_Mem) (r : Int32) : mz_M l D vwCl cA ρ mz_lay1 yX8_runningIn cX8_runningIn 4 (some .int) 1 21 [.ref 40, .int r] M (some (.int (g_X8_runningIn M r))) M := by
  refine mz_in0 (by decide +kernel) (Nat.le_of_ble_eq_true rfl) (fun Γ C E => ?_)
  have E' := (⟨_, _, _, E⟩ : ∃ Qc mc ms, mz_E Γ Qc mc ms (mz_A ρ mz_lay1))
  refine mz_go FLX8 KLX8 C [(0, .iconst 0), (1, .istore_n 2), (2, .iconst 0), (3, .istore_n 3)] (by decide +kernel) (pc' := 4) (L' := [(3, .int 0), (2, .int 0), (0, .ref 40), (1, .int r)]) (st' := []) rfl ?_
  refine mz_sub (L' := [(0, .ref 40), (1, .int r), (2, .int 0), (3, .int 0)]) (by simp) ?_
  refine mz_loop (M 15 2) (g_X8_runningIn_1 M r) (fun (i : Int32) (a : Int32) => mz_W Γ ρ 4 0 0 (mz_H D vwCl cA ρ mz_lay1 M) 4 [(0, .ref 40), (1, .int r), (2, .int a), (3, .int i)] []) 0 (fun i2 a3 hi4 hx5 hb6 => ?_)
  refine mz_go FLX8 KLX8 C [(4, .iload_n 3), (5, .aload_n 0), (6, .getfield 32), (9, .getfield 48)] (by decide +kernel) (pc' := 12) (L' := [(0, .ref 40), (1, .int r), (2, .int a3), (3, .int i2)]) (st' := [.int (M 15 2), .int i2]) rfl ?_
  refine mz_ige (off := 42) (tgt := 54) C (by decide +kernel) (by decide) (fun h1 => ?_) (fun h1 => ?_)
  · have e10 := hx5 h1
    subst e10
    refine mz_sub (L' := [(0, .ref 40), (1, .int r), (2, .int (mz_fr (M 15 2) (g_X8_runningIn_1 M r) 0))]) (by simp) ?_
    refine mz_go FLX8 KLX8 C [(54, .iload_n 2)] (by decide +kernel) (pc' := 55) (L' := [(0, .ref 40), (1, .int r), (2, .int (mz_fr (M 15 2) (g_X8_runningIn_1 M r) 0))]) (st' := [.int (mz_fr (M 15 2) (g_X8_runningIn_1 M r) 0)]) rfl ?_
    exact mz_iret C E (by decide +kernel) (rfl) (rfl)
  · refine mz_go FLX8 KLX8 C [(15, .aload_n 0), (16, .getfield 14), (19, .iload_n 3)] (by decide +kernel) (pc' := 20) (L' := [(0, .ref 40), (1, .int r), (2, .int a3), (3, .int i2)]) (st' := [.int i2, .ref 41]) rfl ?_
    refine mz_callV (As := [.int i2]) (rest := []) C E' (f_Row_get l D cA ρ hI (r := 41) (a := 42) (n := 12) rfl rfl (by decide) M i2) hy_X6_get wl_X8_44 rfl rfl rfl ⟨Nat.le_of_ble_eq_true rfl, Nat.le_of_ble_eq_true rfl⟩ ⟨Nat.le_refl _, Nat.le_refl _⟩ (Nat.le_of_ble_eq_true rfl) (by decide +kernel) ?_ rfl
    refine mz_go FLX8 KLX8 C [(23, .iconst 1)] (by decide +kernel) (pc' := 24) (L' := [(0, .ref 40), (1, .int r), (2, .int a3), (3, .int i2)]) (st' := [.int 1, .int (mz_rg 12 (M 42) i2)]) rfl ?_
    refine mz_ine (off := 24) (tgt := 48) C (by decide +kernel) (by decide) (fun h11 => ?_) (fun h11 => ?_)
    · refine mz_go FLX8 KLX8 C [(48, .iinc 3 1), (51, .goto (-47))] (by decide +kernel) (pc' := 4) (L' := [(3, .int (i2 + 1)), (0, .ref 40), (1, .int r), (2, .int a3)]) (st' := []) rfl ?_
      have hb12 := hb6 h1
      rw [show g_X8_runningIn_1 M r i2 a3 = a3 from by unfold g_X8_runningIn_1; rw [if_neg h11]] at hb12
      exact mz_sub (by simp) hb12
    · refine mz_go FLX8 KLX8 C [(27, .aload_n 0), (28, .getfield 32), (31, .getfield 83), (34, .iload_n 3)] (by decide +kernel) (pc' := 35) (L' := [(0, .ref 40), (1, .int r), (2, .int a3), (3, .int i2)]) (st' := [.int i2, .ref 20]) rfl ?_
      refine mz_callV (As := [.int i2]) (rest := []) C E' (f_Row_get l D cA ρ hI (r := 20) (a := 21) (n := 12) rfl rfl (by decide) M i2) hy_X6_get wl_X8_44 rfl rfl rfl ⟨Nat.le_of_ble_eq_true rfl, Nat.le_of_ble_eq_true rfl⟩ ⟨Nat.le_refl _, Nat.le_refl _⟩ (Nat.le_of_ble_eq_true rfl) (by decide +kernel) ?_ rfl
      refine mz_go FLX8 KLX8 C [(38, .iload_n 1)] (by decide +kernel) (pc' := 39) (L' := [(0, .ref 40), (1, .int r), (2, .int a3), (3, .int i2)]) (st' := [.int r, .int (mz_rg 12 (M 21) i2)]) rfl ?_
      refine mz_ine (off := 9) (tgt := 48) C (by decide +kernel) (by decide) (fun h13 => ?_) (fun h13 => ?_)
      · refine mz_go FLX8 KLX8 C [(48, .iinc 3 1), (51, .goto (-47))] (by decide +kernel) (pc' := 4) (L' := [(3, .int (i2 + 1)), (0, .ref 40), (1, .int r), (2, .int a3)]) (st' := []) rfl ?_
        have hb14 := hb6 h1
        rw [show g_X8_runningIn_1 M r i2 a3 = a3 from by unfold g_X8_runningIn_1; rw [if_pos h11, if_neg h13]] at hb14
        exact mz_sub (by simp) hb14
      · refine mz_go FLX8 KLX8 C [(42, .iload_n 2), (43, .iconst 1), (44, .iload_n 3), (45, .ishl), (46, .ior), (47, .istore_n 2), (48, .iinc 3 1), (51, .goto (-47))] (by decide +kernel) (pc' := 4) (L' := [(3, .int (i2 + 1)), (2, .int (a3 ||| (1 <<< (i2 &&& 31)))), (0, .ref 40), (1, .int r)]) (st' := []) rfl ?_
        have hb15 := hb6 h1
        rw [show g_X8_runningIn_1 M r i2 a3 = a3 ||| (1 <<< (i2 &&& 31)) from by unfold g_X8_runningIn_1; rw [if_pos h11, if_pos h13]] at hb15
        exact mz_sub (by simp) hb15
def g_X8_countRunning_1 (M : mz_Mem) (i2 : Int32) (a3 : Int32) : Int32 := if (mz_rg 12 (M 42) i2) = 1 then a3 + 1 else a3
def g_X8_countRunning (M : mz_Mem) : Int32 := (mz_fr (M 15 2) (g_X8_countRunning_1 M) 0)
set_option maxHeartbeats 4000000 in
theorem f_X8_countRunning (l : Launch) (D : va_G) (cA : Nat → ClassId) (ρ : Nat → Nat) (hI : mz_I ρ mz_lay1) (M : mz_Mem) : mz_M l D vwCl cA ρ mz_lay1 yX8_countRunning cX8_countRunning 3 (some .int) 1 21 [.ref 40] M (some (.int (g_X8_countRunning M))) M := by
  refine mz_in0 (by decide +kernel) (Nat.le_of_ble_eq_true rfl) (fun Γ C E => ?_)
  have E' := (⟨_, _, _, E⟩ : ∃ Qc mc ms, mz_E Γ Qc mc ms (mz_A ρ mz_lay1))
  refine mz_go FLX8 KLX8 C [(0, .iconst 0), (1, .istore_n 1), (2, .iconst 0), (3, .istore_n 2)] (by decide +kernel) (pc' := 4) (L' := [(2, .int 0), (1, .int 0), (0, .ref 40)]) (st' := []) rfl ?_
  refine mz_sub (L' := [(0, .ref 40), (1, .int 0), (2, .int 0)]) (by simp) ?_
  refine mz_loop (M 15 2) (g_X8_countRunning_1 M) (fun (i : Int32) (a : Int32) => mz_W Γ ρ 3 0 0 (mz_H D vwCl cA ρ mz_lay1 M) 4 [(0, .ref 40), (1, .int a), (2, .int i)] []) 0 (fun i2 a3 hi4 hx5 hb6 => ?_)
  refine mz_go FLX8 KLX8 C [(4, .iload_n 2), (5, .aload_n 0), (6, .getfield 32), (9, .getfield 48)] (by decide +kernel) (pc' := 12) (L' := [(0, .ref 40), (1, .int a3), (2, .int i2)]) (st' := [.int (M 15 2), .int i2]) rfl ?_
  refine mz_ige (off := 24) (tgt := 36) C (by decide +kernel) (by decide) (fun h1 => ?_) (fun h1 => ?_)
  · have e10 := hx5 h1
    subst e10
    refine mz_sub (L' := [(0, .ref 40), (1, .int (mz_fr (M 15 2) (g_X8_countRunning_1 M) 0))]) (by simp) ?_
    refine mz_go FLX8 KLX8 C [(36, .iload_n 1)] (by decide +kernel) (pc' := 37) (L' := [(0, .ref 40), (1, .int (mz_fr (M 15 2) (g_X8_countRunning_1 M) 0))]) (st' := [.int (mz_fr (M 15 2) (g_X8_countRunning_1 M) 0)]) rfl ?_
    exact mz_iret C E (by decide +kernel) (rfl) (rfl)
  · refine mz_go FLX8 KLX8 C [(15, .aload_n 0), (16, .getfield 14), (19, .iload_n 2)] (by decide +kernel) (pc' := 20) (L' := [(0, .ref 40), (1, .int a3), (2, .int i2)]) (st' := [.int i2, .ref 41]) rfl ?_
    refine mz_callV (As := [.int i2]) (rest := []) C E' (f_Row_get l D cA ρ hI (r := 41) (a := 42) (n := 12) rfl rfl (by decide) M i2) hy_X6_get wl_X8_44 rfl rfl rfl ⟨Nat.le_of_ble_eq_true rfl, Nat.le_of_ble_eq_true rfl⟩ ⟨Nat.le_refl _, Nat.le_refl _⟩ (Nat.le_of_ble_eq_true rfl) (by decide +kernel) ?_ rfl
    refine mz_go FLX8 KLX8 C [(23, .iconst 1)] (by decide +kernel) (pc' := 24) (L' := [(0, .ref 40), (1, .int a3), (2, .int i2)]) (st' := [.int 1, .int (mz_rg 12 (M 42) i2)]) rfl ?_
    refine mz_ine (off := 6) (tgt := 30) C (by decide +kernel) (by decide) (fun h11 => ?_) (fun h11 => ?_)
    · refine mz_go FLX8 KLX8 C [(30, .iinc 2 1), (33, .goto (-29))] (by decide +kernel) (pc' := 4) (L' := [(2, .int (i2 + 1)), (0, .ref 40), (1, .int a3)]) (st' := []) rfl ?_
      have hb12 := hb6 h1
      rw [show g_X8_countRunning_1 M i2 a3 = a3 from by unfold g_X8_countRunning_1; rw [if_neg h11]] at hb12
      exact mz_sub (by simp) hb12
    · refine mz_go FLX8 KLX8 C [(27, .iinc 1 1), (30, .iinc 2 1), (33, .goto (-29))] (by decide +kernel) (pc' := 4) (L' := [(2, .int (i2 + 1)), (1, .int (a3 + 1)), (0, .ref 40)]) (st' := []) rfl ?_
      have hb13 := hb6 h1
      rw [show g_X8_countRunning_1 M i2 a3 = a3 + 1 from by unfold g_X8_countRunning_1; rw [if_pos h11]] at hb13
      exact mz_sub (by simp) hb13
