def g_X5_lay (M : mz_Mem) (p : Int32) (r : Int32) : mz_Mem := (mz_s (mz_s (mz_s M 53 (mz_rs 4 (M 53) p r)) 55 (mz_rs 4 ((mz_s M 53 (mz_rs 4 (M 53) p r)) 55) p (-1))) 57 (mz_rs 4 ((mz_s (mz_s M 53 (mz_rs 4 (M 53) p r)) 55 (mz_rs 4 ((mz_s M 53 (mz_rs 4 (M 53) p r)) 55) p (-1))) 57) p (-1)))
theorem g_X5_lay_hs (M : mz_Mem) (p : Int32) (r : Int32) : mz_hs M (g_X5_lay M p r) := by
  unfold g_X5_lay
  exact ((mz_hs_s (by decide)).trans (mz_hs_s (by decide))).trans (mz_hs_s (by decide))

set_option maxHeartbeats 4000000 in
theorem f_X5_lay (l : Launch) (D : va_G) (cA : Nat → ClassId) (ρ : Nat → Nat) (hI : mz_I ρ mz_lay1) (M : mz_Mem) (p : Int32) (r : Int32) : mz_M l D vwCl cA ρ mz_lay1 yX5_lay cX5_lay 3 none 1 22 [.ref 51, .int p, .int r] M none (g_X5_lay M p r) := by
  refine mz_in0 (by decide +kernel) (Nat.le_of_ble_eq_true rfl) (fun Γ C E => ?_)
  have E' := (⟨_, _, _, E⟩ : ∃ Qc mc ms, mz_E Γ Qc mc ms (mz_A ρ mz_lay1))
  refine mz_go FLX5 KLX5 C [(0, .aload_n 0), (1, .getfield 14), (4, .iload_n 1), (5, .iload_n 2)] (by decide +kernel) (pc' := 6) (L' := [(0, .ref 51), (1, .int p), (2, .int r)]) (st' := [.int r, .int p, .ref 52]) rfl ?_
  refine mz_callV (As := [.int p, .int r]) (rest := []) C E' (f_Row_set l D cA ρ hI (r := 52) (a := 53) (n := 4) rfl rfl (by decide) M p r) hy_X6_set wl_X5_37 rfl rfl rfl ⟨Nat.le_of_ble_eq_true rfl, Nat.le_of_ble_eq_true rfl⟩ ⟨Nat.le_refl _, Nat.le_refl _⟩ (Nat.le_of_ble_eq_true rfl) (by decide +kernel) ?_ rfl
  refine mz_go FLX5 KLX5 C [(9, .aload_n 0), (10, .getfield 20), (13, .iload_n 1), (14, .iconst (-1))] (by decide +kernel) (pc' := 15) (L' := [(0, .ref 51), (1, .int p), (2, .int r)]) (st' := [.int (-1), .int p, .ref 54]) rfl ?_
  refine mz_callV (As := [.int p, .int (-1)]) (rest := []) C E' (f_Row_set l D cA ρ hI (r := 54) (a := 55) (n := 4) rfl rfl (by decide) (mz_s M 53 (mz_rs 4 (M 53) p r)) p (-1)) hy_X6_set wl_X5_37 rfl rfl rfl ⟨Nat.le_of_ble_eq_true rfl, Nat.le_of_ble_eq_true rfl⟩ ⟨Nat.le_refl _, Nat.le_refl _⟩ (Nat.le_of_ble_eq_true rfl) (by decide +kernel) ?_ rfl
  refine mz_go FLX5 KLX5 C [(18, .aload_n 0), (19, .getfield 23), (22, .iload_n 1), (23, .iconst (-1))] (by decide +kernel) (pc' := 24) (L' := [(0, .ref 51), (1, .int p), (2, .int r)]) (st' := [.int (-1), .int p, .ref 56]) rfl ?_
  refine mz_callV (As := [.int p, .int (-1)]) (rest := []) C E' (f_Row_set l D cA ρ hI (r := 56) (a := 57) (n := 4) rfl rfl (by decide) (mz_s (mz_s M 53 (mz_rs 4 (M 53) p r)) 55 (mz_rs 4 ((mz_s M 53 (mz_rs 4 (M 53) p r)) 55) p (-1))) p (-1)) hy_X6_set wl_X5_37 rfl rfl rfl ⟨Nat.le_of_ble_eq_true rfl, Nat.le_of_ble_eq_true rfl⟩ ⟨Nat.le_refl _, Nat.le_refl _⟩ (Nat.le_of_ble_eq_true rfl) (by decide +kernel) ?_ rfl
  exact mz_vret C E (by decide +kernel) (rfl)
def g_X5_giveToTrack (M : mz_Mem) (p : Int32) (t : Int32) : mz_Mem := (mz_s (g_X5_lay M p (-1)) 55 (mz_rs 4 ((g_X5_lay M p (-1)) 55) p t))
theorem g_X5_giveToTrack_hs (M : mz_Mem) (p : Int32) (t : Int32) : mz_hs M (g_X5_giveToTrack M p t) := by
  unfold g_X5_giveToTrack
  exact (g_X5_lay_hs M p (-1)).trans (mz_hs_s (by decide))

set_option maxHeartbeats 4000000 in
theorem f_X5_giveToTrack (l : Launch) (D : va_G) (cA : Nat → ClassId) (ρ : Nat → Nat) (hI : mz_I ρ mz_lay1) (M : mz_Mem) (p : Int32) (t : Int32) : mz_M l D vwCl cA ρ mz_lay1 yX5_giveToTrack cX5_giveToTrack 3 none 2 44 [.ref 51, .int p, .int t] M none (g_X5_giveToTrack M p t) := by
  refine mz_in0 (by decide +kernel) (Nat.le_of_ble_eq_true rfl) (fun Γ C E => ?_)
  have E' := (⟨_, _, _, E⟩ : ∃ Qc mc ms, mz_E Γ Qc mc ms (mz_A ρ mz_lay1))
  refine mz_go FLX5 KLX5 C [(0, .aload_n 0), (1, .iload_n 1), (2, .iconst (-1))] (by decide +kernel) (pc' := 3) (L' := [(0, .ref 51), (1, .int p), (2, .int t)]) (st' := [.int (-1), .int p, .ref 51]) rfl ?_
  refine mz_callV (As := [.int p, .int (-1)]) (rest := []) C E' (f_X5_lay l D cA ρ hI M p (-1)) hy_X5_lay wl_X5_41 rfl rfl rfl ⟨Nat.le_of_ble_eq_true rfl, Nat.le_of_ble_eq_true rfl⟩ ⟨Nat.le_refl _, Nat.le_refl _⟩ (Nat.le_of_ble_eq_true rfl) (by decide +kernel) ?_ rfl
  refine mz_go FLX5 KLX5 C [(6, .aload_n 0), (7, .getfield 20), (10, .iload_n 1), (11, .iload_n 2)] (by decide +kernel) (pc' := 12) (L' := [(0, .ref 51), (1, .int p), (2, .int t)]) (st' := [.int t, .int p, .ref 54]) rfl ?_
  refine mz_callV (As := [.int p, .int t]) (rest := []) C E' (f_Row_set l D cA ρ hI (r := 54) (a := 55) (n := 4) rfl rfl (by decide) (g_X5_lay M p (-1)) p t) hy_X6_set wl_X5_37 rfl rfl rfl ⟨Nat.le_of_ble_eq_true rfl, Nat.le_of_ble_eq_true rfl⟩ ⟨Nat.le_refl _, Nat.le_refl _⟩ (Nat.le_of_ble_eq_true rfl) (by decide +kernel) ?_ rfl
  exact mz_vret C E (by decide +kernel) (rfl)

def g_X5_goHome_1 (M : mz_Mem) (i2 : Int32) (a3 : mz_Mem) : mz_Mem := if (mz_rg 4 (a3 57) i2) = (-1) then (g_X5_lay a3 i2 (mz_rg 4 (a3 19) i2)) else a3
theorem g_X5_goHome_1_hs (M : mz_Mem) (i2 : Int32) (a3 : mz_Mem) : mz_hs a3 (g_X5_goHome_1 M i2 a3) := by
  unfold g_X5_goHome_1
  by_cases h1 : (mz_rg 4 (a3 57) i2) = (-1)
  · rw [if_pos h1]
    exact g_X5_lay_hs a3 i2 (mz_rg 4 (a3 19) i2)
  · rw [if_neg h1]
    exact mz_hs_rf

def g_X5_goHome (M : mz_Mem) : mz_Mem := (mz_fr (M 15 1) (g_X5_goHome_1 M) M)
theorem g_X5_goHome_hs (M : mz_Mem) : mz_hs M (g_X5_goHome M) := by
  unfold g_X5_goHome
  exact mz_hs_frp (fun (a : mz_Mem) => a) (fun i a => g_X5_goHome_1_hs M i a)

set_option maxHeartbeats 4000000 in
theorem f_X5_goHome (l : Launch) (D : va_G) (cA : Nat → ClassId) (ρ : Nat → Nat) (hI : mz_I ρ mz_lay1) (M : mz_Mem) : mz_M l D vwCl cA ρ mz_lay1 yX5_goHome cX5_goHome 2 none 2 44 [.ref 51] M none (g_X5_goHome M) := by
  refine mz_in0 (by decide +kernel) (Nat.le_of_ble_eq_true rfl) (fun Γ C E => ?_)
  have E' := (⟨_, _, _, E⟩ : ∃ Qc mc ms, mz_E Γ Qc mc ms (mz_A ρ mz_lay1))
  refine mz_go FLX5 KLX5 C [(0, .iconst 0), (1, .istore_n 1)] (by decide +kernel) (pc' := 2) (L' := [(1, .int 0), (0, .ref 51)]) (st' := []) rfl ?_
  refine mz_sub (L' := [(0, .ref 51), (1, .int 0)]) (by simp) ?_
  refine mz_loopI (M 15 1) (g_X5_goHome_1 M) (fun (i : Int32) (a : mz_Mem) => mz_W Γ ρ 2 0 0 (mz_H D vwCl cA ρ mz_lay1 a) 2 [(0, .ref 51), (1, .int i)] []) (fun (a : mz_Mem) => a 15 1 = M 15 1) M rfl (fun i a h => ?_) (fun i2 a3 hi4 hv7 hx5 hb6 => ?_)
  · exact (congrFun (g_X5_goHome_1_hs M i a _ (by decide)) _).trans h
  have hv7 : a3 15 1 = M 15 1 := hv7
  refine mz_go FLX5 KLX5 C [(2, .iload_n 1), (3, .aload_n 0), (4, .getfield 29), (7, .getfield 48)] (by decide +kernel) (pc' := 10) (L' := [(0, .ref 51), (1, .int i2)]) (st' := [.int (a3 15 1), .int i2]) rfl ?_
  refine mz_ige (off := 37) (tgt := 47) C (by decide +kernel) (by decide) (fun h1 => ?_) (fun h1 => ?_)
  · have e10 := hx5 (by rw [hv7] at h1; exact h1)
    subst e10
    refine mz_sub (L' := [(0, .ref 51)]) (by simp) ?_
    exact mz_vret C E (by decide +kernel) (rfl)
  · refine mz_go FLX5 KLX5 C [(13, .aload_n 0), (14, .getfield 23), (17, .iload_n 1)] (by decide +kernel) (pc' := 18) (L' := [(0, .ref 51), (1, .int i2)]) (st' := [.int i2, .ref 56]) rfl ?_
    refine mz_callV (As := [.int i2]) (rest := []) C E' (f_Row_get l D cA ρ hI (r := 56) (a := 57) (n := 4) rfl rfl (by decide) a3 i2) hy_X6_get wl_X5_44 rfl rfl rfl ⟨Nat.le_of_ble_eq_true rfl, Nat.le_of_ble_eq_true rfl⟩ ⟨Nat.le_refl _, Nat.le_refl _⟩ (Nat.le_of_ble_eq_true rfl) (by decide +kernel) ?_ rfl
    refine mz_go FLX5 KLX5 C [(21, .iconst (-1))] (by decide +kernel) (pc' := 22) (L' := [(0, .ref 51), (1, .int i2)]) (st' := [.int (-1), .int (mz_rg 4 (a3 57) i2)]) rfl ?_
    refine mz_ine (off := 19) (tgt := 41) C (by decide +kernel) (by decide) (fun h11 => ?_) (fun h11 => ?_)
    · refine mz_go FLX5 KLX5 C [(41, .iinc 1 1), (44, .goto (-42))] (by decide +kernel) (pc' := 2) (L' := [(1, .int (i2 + 1)), (0, .ref 51)]) (st' := []) rfl ?_
      have hb12 := hb6 (by rw [hv7] at h1; exact h1)
      rw [show g_X5_goHome_1 M i2 a3 = a3 from by unfold g_X5_goHome_1; rw [if_neg h11]] at hb12
      exact mz_sub (by simp) hb12
    · refine mz_go FLX5 KLX5 C [(25, .aload_n 0), (26, .iload_n 1), (27, .aload_n 0), (28, .getfield 29), (31, .getfield 54), (34, .iload_n 1)] (by decide +kernel) (pc' := 35) (L' := [(0, .ref 51), (1, .int i2)]) (st' := [.int i2, .ref 18, .int i2, .ref 51]) rfl ?_
      refine mz_callV (As := [.int i2]) (rest := [.int i2, .ref 51]) C E' (f_Row_get l D cA ρ hI (r := 18) (a := 19) (n := 4) rfl rfl (by decide) a3 i2) hy_X6_get wl_X5_44 rfl rfl rfl ⟨Nat.le_of_ble_eq_true rfl, Nat.le_of_ble_eq_true rfl⟩ ⟨Nat.le_refl _, Nat.le_refl _⟩ (Nat.le_of_ble_eq_true rfl) (by decide +kernel) ?_ rfl
      refine mz_callV (As := [.int i2, .int (mz_rg 4 (a3 19) i2)]) (rest := []) C E' (f_X5_lay l D cA ρ hI a3 i2 (mz_rg 4 (a3 19) i2)) hy_X5_lay wl_X5_41 rfl rfl rfl ⟨Nat.le_of_ble_eq_true rfl, Nat.le_of_ble_eq_true rfl⟩ ⟨Nat.le_refl _, Nat.le_refl _⟩ (Nat.le_of_ble_eq_true rfl) (by decide +kernel) ?_ rfl
      refine mz_go FLX5 KLX5 C [(41, .iinc 1 1), (44, .goto (-42))] (by decide +kernel) (pc' := 2) (L' := [(1, .int (i2 + 1)), (0, .ref 51)]) (st' := []) rfl ?_
      have hb13 := hb6 (by rw [hv7] at h1; exact h1)
      rw [show g_X5_goHome_1 M i2 a3 = (g_X5_lay a3 i2 (mz_rg 4 (a3 19) i2)) from by unfold g_X5_goHome_1; rw [if_pos h11]] at hb13
      exact mz_sub (by simp) hb13
def g_X5_heldByGuest_1 (M : mz_Mem) (g : Int32) (i6 : Int32) : Bool := if (mz_rg 4 (M 57) i6) = g then true else false
def g_X5_heldByGuest (M : mz_Mem) (g : Int32) : Int32 := (match mz_find (M 15 1) (g_X5_heldByGuest_1 M g) with | some i6 => i6 | none => (-1))
set_option maxHeartbeats 4000000 in
theorem f_X5_heldByGuest (l : Launch) (D : va_G) (cA : Nat → ClassId) (ρ : Nat → Nat) (hI : mz_I ρ mz_lay1) (M : mz_Mem) (g : Int32) : mz_M l D vwCl cA ρ mz_lay1 yX5_heldByGuest cX5_heldByGuest 3 (some .int) 1 21 [.ref 51, .int g] M (some (.int (g_X5_heldByGuest M g))) M := by
  refine mz_in0 (by decide +kernel) (Nat.le_of_ble_eq_true rfl) (fun Γ C E => ?_)
  have E' := (⟨_, _, _, E⟩ : ∃ Qc mc ms, mz_E Γ Qc mc ms (mz_A ρ mz_lay1))
  refine mz_go FLX5 KLX5 C [(0, .iconst 0), (1, .istore_n 2)] (by decide +kernel) (pc' := 2) (L' := [(2, .int 0), (0, .ref 51), (1, .int g)]) (st' := []) rfl ?_
  refine mz_sub (L' := [(0, .ref 51), (1, .int g), (2, .int 0)]) (by simp) ?_
  refine mz_loopf (M 15 1) (g_X5_heldByGuest_1 M g) (fun i => mz_W Γ ρ 3 0 0 (mz_H D vwCl cA ρ mz_lay1 M) 2 [(0, .ref 51), (1, .int g), (2, .int i)] []) (fun i6 hi5 hx3 hp4 ih2 => ?_)
  refine mz_go FLX5 KLX5 C [(2, .iload_n 2), (3, .aload_n 0), (4, .getfield 29), (7, .getfield 48)] (by decide +kernel) (pc' := 10) (L' := [(0, .ref 51), (1, .int g), (2, .int i6)]) (st' := [.int (M 15 1), .int i6]) rfl ?_
  refine mz_ige (off := 23) (tgt := 33) C (by decide +kernel) (by decide) (fun h1 => ?_) (fun h1 => ?_)
  · have hf7 := hx3 h1
    refine mz_sub (L' := [(0, .ref 51), (1, .int g)]) (by simp) ?_
    refine mz_go FLX5 KLX5 C [(33, .iconst (-1))] (by decide +kernel) (pc' := 34) (L' := [(0, .ref 51), (1, .int g)]) (st' := [.int (-1)]) rfl ?_
    exact mz_iret C E (by decide +kernel) (by unfold g_X5_heldByGuest; rw [hf7]; try rfl) (rfl)
  · refine mz_go FLX5 KLX5 C [(13, .aload_n 0), (14, .getfield 23), (17, .iload_n 2)] (by decide +kernel) (pc' := 18) (L' := [(0, .ref 51), (1, .int g), (2, .int i6)]) (st' := [.int i6, .ref 56]) rfl ?_
    refine mz_callV (As := [.int i6]) (rest := []) C E' (f_Row_get l D cA ρ hI (r := 56) (a := 57) (n := 4) rfl rfl (by decide) M i6) hy_X6_get wl_X5_44 rfl rfl rfl ⟨Nat.le_of_ble_eq_true rfl, Nat.le_of_ble_eq_true rfl⟩ ⟨Nat.le_refl _, Nat.le_refl _⟩ (Nat.le_of_ble_eq_true rfl) (by decide +kernel) ?_ rfl
    refine mz_go FLX5 KLX5 C [(21, .iload_n 1)] (by decide +kernel) (pc' := 22) (L' := [(0, .ref 51), (1, .int g), (2, .int i6)]) (st' := [.int g, .int (mz_rg 4 (M 57) i6)]) rfl ?_
    refine mz_ine (off := 5) (tgt := 27) C (by decide +kernel) (by decide) (fun h8 => ?_) (fun h8 => ?_)
    · refine mz_go FLX5 KLX5 C [(27, .iinc 2 1), (30, .goto (-28))] (by decide +kernel) (pc' := 2) (L' := [(2, .int (i6 + 1)), (0, .ref 51), (1, .int g)]) (st' := []) rfl ?_
      exact mz_sub (by simp) (ih2 h1 (by unfold g_X5_heldByGuest_1; rw [if_neg h8]))
    · refine mz_go FLX5 KLX5 C [(25, .iload_n 2)] (by decide +kernel) (pc' := 26) (L' := [(0, .ref 51), (1, .int g), (2, .int i6)]) (st' := [.int i6]) rfl ?_
      have hf9 := hp4 h1 (by unfold g_X5_heldByGuest_1; rw [if_pos h8])
      exact mz_iret C E (by decide +kernel) (by unfold g_X5_heldByGuest; rw [hf9]; try rfl) (rfl)
def g_X5_lyingIn_1 (M : mz_Mem) (r : Int32) (i2 : Int32) (a3 : Int32) : Int32 := if (mz_rg 4 (M 53) i2) = r then a3 ||| (1 <<< (i2 &&& 31)) else a3
def g_X5_lyingIn (M : mz_Mem) (r : Int32) : Int32 := (mz_fr (M 15 1) (g_X5_lyingIn_1 M r) 0)
set_option maxHeartbeats 4000000 in
theorem f_X5_lyingIn (l : Launch) (D : va_G) (cA : Nat → ClassId) (ρ : Nat → Nat) (hI : mz_I ρ mz_lay1) (M : mz_Mem) (r : Int32) : mz_M l D vwCl cA ρ mz_lay1 yX5_lyingIn cX5_lyingIn 4 (some .int) 1 21 [.ref 51, .int r] M (some (.int (g_X5_lyingIn M r))) M := by
  refine mz_in0 (by decide +kernel) (Nat.le_of_ble_eq_true rfl) (fun Γ C E => ?_)
  have E' := (⟨_, _, _, E⟩ : ∃ Qc mc ms, mz_E Γ Qc mc ms (mz_A ρ mz_lay1))
  refine mz_go FLX5 KLX5 C [(0, .iconst 0), (1, .istore_n 2), (2, .iconst 0), (3, .istore_n 3)] (by decide +kernel) (pc' := 4) (L' := [(3, .int 0), (2, .int 0), (0, .ref 51), (1, .int r)]) (st' := []) rfl ?_
  refine mz_sub (L' := [(0, .ref 51), (1, .int r), (2, .int 0), (3, .int 0)]) (by simp) ?_
  refine mz_loop (M 15 1) (g_X5_lyingIn_1 M r) (fun (i : Int32) (a : Int32) => mz_W Γ ρ 4 0 0 (mz_H D vwCl cA ρ mz_lay1 M) 4 [(0, .ref 51), (1, .int r), (2, .int a), (3, .int i)] []) 0 (fun i2 a3 hi4 hx5 hb6 => ?_)
  refine mz_go FLX5 KLX5 C [(4, .iload_n 3), (5, .aload_n 0), (6, .getfield 29), (9, .getfield 48)] (by decide +kernel) (pc' := 12) (L' := [(0, .ref 51), (1, .int r), (2, .int a3), (3, .int i2)]) (st' := [.int (M 15 1), .int i2]) rfl ?_
  refine mz_ige (off := 27) (tgt := 39) C (by decide +kernel) (by decide) (fun h1 => ?_) (fun h1 => ?_)
  · have e10 := hx5 h1
    subst e10
    refine mz_sub (L' := [(0, .ref 51), (1, .int r), (2, .int (mz_fr (M 15 1) (g_X5_lyingIn_1 M r) 0))]) (by simp) ?_
    refine mz_go FLX5 KLX5 C [(39, .iload_n 2)] (by decide +kernel) (pc' := 40) (L' := [(0, .ref 51), (1, .int r), (2, .int (mz_fr (M 15 1) (g_X5_lyingIn_1 M r) 0))]) (st' := [.int (mz_fr (M 15 1) (g_X5_lyingIn_1 M r) 0)]) rfl ?_
    exact mz_iret C E (by decide +kernel) (rfl) (rfl)
  · refine mz_go FLX5 KLX5 C [(15, .aload_n 0), (16, .getfield 14), (19, .iload_n 3)] (by decide +kernel) (pc' := 20) (L' := [(0, .ref 51), (1, .int r), (2, .int a3), (3, .int i2)]) (st' := [.int i2, .ref 52]) rfl ?_
    refine mz_callV (As := [.int i2]) (rest := []) C E' (f_Row_get l D cA ρ hI (r := 52) (a := 53) (n := 4) rfl rfl (by decide) M i2) hy_X6_get wl_X5_44 rfl rfl rfl ⟨Nat.le_of_ble_eq_true rfl, Nat.le_of_ble_eq_true rfl⟩ ⟨Nat.le_refl _, Nat.le_refl _⟩ (Nat.le_of_ble_eq_true rfl) (by decide +kernel) ?_ rfl
    refine mz_go FLX5 KLX5 C [(23, .iload_n 1)] (by decide +kernel) (pc' := 24) (L' := [(0, .ref 51), (1, .int r), (2, .int a3), (3, .int i2)]) (st' := [.int r, .int (mz_rg 4 (M 53) i2)]) rfl ?_
    refine mz_ine (off := 9) (tgt := 33) C (by decide +kernel) (by decide) (fun h11 => ?_) (fun h11 => ?_)
    · refine mz_go FLX5 KLX5 C [(33, .iinc 3 1), (36, .goto (-32))] (by decide +kernel) (pc' := 4) (L' := [(3, .int (i2 + 1)), (0, .ref 51), (1, .int r), (2, .int a3)]) (st' := []) rfl ?_
      have hb12 := hb6 h1
      rw [show g_X5_lyingIn_1 M r i2 a3 = a3 from by unfold g_X5_lyingIn_1; rw [if_neg h11]] at hb12
      exact mz_sub (by simp) hb12
    · refine mz_go FLX5 KLX5 C [(27, .iload_n 2), (28, .iconst 1), (29, .iload_n 3), (30, .ishl), (31, .ior), (32, .istore_n 2), (33, .iinc 3 1), (36, .goto (-32))] (by decide +kernel) (pc' := 4) (L' := [(3, .int (i2 + 1)), (2, .int (a3 ||| (1 <<< (i2 &&& 31)))), (0, .ref 51), (1, .int r)]) (st' := []) rfl ?_
      have hb13 := hb6 h1
      rw [show g_X5_lyingIn_1 M r i2 a3 = a3 ||| (1 <<< (i2 &&& 31)) from by unfold g_X5_lyingIn_1; rw [if_pos h11]] at hb13
      exact mz_sub (by simp) hb13
