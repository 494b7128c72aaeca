def g_X1_enter (M : mz_Mem) (t : Int32) (h : Int32) : mz_Mem := (mz_s (mz_s M 35 (mz_rs 5 (M 35) t h)) 37 (mz_rs 5 ((mz_s M 35 (mz_rs 5 (M 35) t h)) 37) t (-1)))
theorem g_X1_enter_hs (M : mz_Mem) (t : Int32) (h : Int32) : mz_hs M (g_X1_enter M t h) := by
  unfold g_X1_enter
  exact (mz_hs_s (by decide)).trans (mz_hs_s (by decide))

set_option maxHeartbeats 4000000 in
theorem f_X1_enter (l : Launch) (D : va_G) (cA : Nat → ClassId) (ρ : Nat → Nat) (hI : mz_I ρ mz_lay1) (M : mz_Mem) (t : Int32) (h : Int32) : mz_M l D vwCl cA ρ mz_lay1 yX1_enter cX1_enter 3 none 1 22 [.ref 33, .int t, .int h] M none (g_X1_enter M t h) := by
  refine mz_in0 (by decide +kernel) (Nat.le_of_ble_eq_true rfl) (fun Γ C E => ?_)
  have E' := (⟨_, _, _, E⟩ : ∃ Qc mc ms, mz_E Γ Qc mc ms (mz_A ρ mz_lay1))
  refine mz_go FLX1 KLX1 C [(0, .aload_n 0), (1, .getfield 14), (4, .iload_n 1), (5, .iload_n 2)] (by decide +kernel) (pc' := 6) (L' := [(0, .ref 33), (1, .int t), (2, .int h)]) (st' := [.int h, .int t, .ref 34]) rfl ?_
  refine mz_callV (As := [.int t, .int h]) (rest := []) C E' (f_Row_set l D cA ρ hI (r := 34) (a := 35) (n := 5) rfl rfl (by decide) M t h) hy_X6_set wl_X1_34 rfl rfl rfl ⟨Nat.le_of_ble_eq_true rfl, Nat.le_of_ble_eq_true rfl⟩ ⟨Nat.le_refl _, Nat.le_refl _⟩ (Nat.le_of_ble_eq_true rfl) (by decide +kernel) ?_ rfl
  refine mz_go FLX1 KLX1 C [(9, .aload_n 0), (10, .getfield 20), (13, .iload_n 1), (14, .iconst (-1))] (by decide +kernel) (pc' := 15) (L' := [(0, .ref 33), (1, .int t), (2, .int h)]) (st' := [.int (-1), .int t, .ref 36]) rfl ?_
  refine mz_callV (As := [.int t, .int (-1)]) (rest := []) C E' (f_Row_set l D cA ρ hI (r := 36) (a := 37) (n := 5) rfl rfl (by decide) (mz_s M 35 (mz_rs 5 (M 35) t h)) t (-1)) hy_X6_set wl_X1_34 rfl rfl rfl ⟨Nat.le_of_ble_eq_true rfl, Nat.le_of_ble_eq_true rfl⟩ ⟨Nat.le_refl _, Nat.le_refl _⟩ (Nat.le_of_ble_eq_true rfl) (by decide +kernel) ?_ rfl
  exact mz_vret C E (by decide +kernel) (rfl)
def g_X1_startDouble (M : mz_Mem) (t : Int32) (b : Int32) : mz_Mem := (mz_s (mz_s M 37 (mz_rs 5 (M 37) t b)) 35 (mz_rs 5 ((mz_s M 37 (mz_rs 5 (M 37) t b)) 35) t (mz_rg 5 ((mz_s M 37 (mz_rs 5 (M 37) t b)) 35) b)))
theorem g_X1_startDouble_hs (M : mz_Mem) (t : Int32) (b : Int32) : mz_hs M (g_X1_startDouble M t b) := by
  unfold g_X1_startDouble
  exact (mz_hs_s (by decide)).trans (mz_hs_s (by decide))

set_option maxHeartbeats 4000000 in
theorem f_X1_startDouble (l : Launch) (D : va_G) (cA : Nat → ClassId) (ρ : Nat → Nat) (hI : mz_I ρ mz_lay1) (M : mz_Mem) (t : Int32) (b : Int32) : mz_M l D vwCl cA ρ mz_lay1 yX1_startDouble cX1_startDouble 3 none 1 22 [.ref 33, .int t, .int b] M none (g_X1_startDouble M t b) := by
  refine mz_in0 (by decide +kernel) (Nat.le_of_ble_eq_true rfl) (fun Γ C E => ?_)
  have E' := (⟨_, _, _, E⟩ : ∃ Qc mc ms, mz_E Γ Qc mc ms (mz_A ρ mz_lay1))
  refine mz_go FLX1 KLX1 C [(0, .aload_n 0), (1, .getfield 20), (4, .iload_n 1), (5, .iload_n 2)] (by decide +kernel) (pc' := 6) (L' := [(0, .ref 33), (1, .int t), (2, .int b)]) (st' := [.int b, .int t, .ref 36]) rfl ?_
  refine mz_callV (As := [.int t, .int b]) (rest := []) C E' (f_Row_set l D cA ρ hI (r := 36) (a := 37) (n := 5) rfl rfl (by decide) M t b) hy_X6_set wl_X1_34 rfl rfl rfl ⟨Nat.le_of_ble_eq_true rfl, Nat.le_of_ble_eq_true rfl⟩ ⟨Nat.le_refl _, Nat.le_refl _⟩ (Nat.le_of_ble_eq_true rfl) (by decide +kernel) ?_ rfl
  refine mz_go FLX1 KLX1 C [(9, .aload_n 0), (10, .getfield 14), (13, .iload_n 1), (14, .aload_n 0), (15, .getfield 14), (18, .iload_n 2)] (by decide +kernel) (pc' := 19) (L' := [(0, .ref 33), (1, .int t), (2, .int b)]) (st' := [.int b, .ref 34, .int t, .ref 34]) rfl ?_
  refine mz_callV (As := [.int b]) (rest := [.int t, .ref 34]) C E' (f_Row_get l D cA ρ hI (r := 34) (a := 35) (n := 5) rfl rfl (by decide) (mz_s M 37 (mz_rs 5 (M 37) t b)) b) hy_X6_get wl_X1_38 rfl rfl rfl ⟨Nat.le_of_ble_eq_true rfl, Nat.le_of_ble_eq_true rfl⟩ ⟨Nat.le_refl _, Nat.le_refl _⟩ (Nat.le_of_ble_eq_true rfl) (by decide +kernel) ?_ rfl
  refine mz_callV (As := [.int t, .int (mz_rg 5 ((mz_s M 37 (mz_rs 5 (M 37) t b)) 35) b)]) (rest := []) C E' (f_Row_set l D cA ρ hI (r := 34) (a := 35) (n := 5) rfl rfl (by decide) (mz_s M 37 (mz_rs 5 (M 37) t b)) t (mz_rg 5 ((mz_s M 37 (mz_rs 5 (M 37) t b)) 35) b)) hy_X6_set wl_X1_34 rfl rfl rfl ⟨Nat.le_of_ble_eq_true rfl, Nat.le_of_ble_eq_true rfl⟩ ⟨Nat.le_refl _, Nat.le_refl _⟩ (Nat.le_of_ble_eq_true rfl) (by decide +kernel) ?_ rfl
  exact mz_vret C E (by decide +kernel) (rfl)
def g_X1_endDouble (M : mz_Mem) (t : Int32) : mz_Mem := (mz_s M 37 (mz_rs 5 (M 37) t (-1)))
theorem g_X1_endDouble_hs (M : mz_Mem) (t : Int32) : mz_hs M (g_X1_endDouble M t) := by
  unfold g_X1_endDouble
  exact mz_hs_s (by decide)

set_option maxHeartbeats 4000000 in
theorem f_X1_endDouble (l : Launch) (D : va_G) (cA : Nat → ClassId) (ρ : Nat → Nat) (hI : mz_I ρ mz_lay1) (M : mz_Mem) (t : Int32) : mz_M l D vwCl cA ρ mz_lay1 yX1_endDouble cX1_endDouble 2 none 1 22 [.ref 33, .int t] M none (g_X1_endDouble M t) := by
  refine mz_in0 (by decide +kernel) (Nat.le_of_ble_eq_true rfl) (fun Γ C E => ?_)
  have E' := (⟨_, _, _, E⟩ : ∃ Qc mc ms, mz_E Γ Qc mc ms (mz_A ρ mz_lay1))
  refine mz_go FLX1 KLX1 C [(0, .aload_n 0), (1, .getfield 20), (4, .iload_n 1), (5, .iconst (-1))] (by decide +kernel) (pc' := 6) (L' := [(0, .ref 33), (1, .int t)]) (st' := [.int (-1), .int t, .ref 36]) rfl ?_
  refine mz_callV (As := [.int t, .int (-1)]) (rest := []) C E' (f_Row_set l D cA ρ hI (r := 36) (a := 37) (n := 5) rfl rfl (by decide) M t (-1)) hy_X6_set wl_X1_34 rfl rfl rfl ⟨Nat.le_of_ble_eq_true rfl, Nat.le_of_ble_eq_true rfl⟩ ⟨Nat.le_refl _, Nat.le_refl _⟩ (Nat.le_of_ble_eq_true rfl) (by decide +kernel) ?_ rfl
  exact mz_vret C E (by decide +kernel) (rfl)
def g_X1_anyIsPlayed_1 (M : mz_Mem) (i6 : Int32) : Bool := if (mz_rg 5 (M 37) i6) = (-1) then false else true
def g_X1_anyIsPlayed (M : mz_Mem) : Int32 := (match mz_find (M 15 0) (g_X1_anyIsPlayed_1 M) with | some i6 => 1 | none => 0)
set_option maxHeartbeats 4000000 in
theorem f_X1_anyIsPlayed (l : Launch) (D : va_G) (cA : Nat → ClassId) (ρ : Nat → Nat) (hI : mz_I ρ mz_lay1) (M : mz_Mem) : mz_M l D vwCl cA ρ mz_lay1 yX1_anyIsPlayed cX1_anyIsPlayed 2 (some .boolean) 1 21 [.ref 33] M (some (.int (g_X1_anyIsPlayed M))) M := by
  refine mz_in0 (by decide +kernel) (Nat.le_of_ble_eq_true rfl) (fun Γ C E => ?_)
  have E' := (⟨_, _, _, E⟩ : ∃ Qc mc ms, mz_E Γ Qc mc ms (mz_A ρ mz_lay1))
  refine mz_go FLX1 KLX1 C [(0, .iconst 0), (1, .istore_n 1)] (by decide +kernel) (pc' := 2) (L' := [(1, .int 0), (0, .ref 33)]) (st' := []) rfl ?_
  refine mz_sub (L' := [(0, .ref 33), (1, .int 0)]) (by simp) ?_
  refine mz_loopf (M 15 0) (g_X1_anyIsPlayed_1 M) (fun i => mz_W Γ ρ 2 0 0 (mz_H D vwCl cA ρ mz_lay1 M) 2 [(0, .ref 33), (1, .int i)] []) (fun i6 hi5 hx3 hp4 ih2 => ?_)
  refine mz_go FLX1 KLX1 C [(2, .iload_n 1), (3, .aload_n 0), (4, .getfield 26), (7, .getfield 42)] (by decide +kernel) (pc' := 10) (L' := [(0, .ref 33), (1, .int i6)]) (st' := [.int (M 15 0), .int i6]) rfl ?_
  refine mz_ige (off := 23) (tgt := 33) C (by decide +kernel) (by decide) (fun h1 => ?_) (fun h1 => ?_)
  · have hf7 := hx3 h1
    refine mz_sub (L' := [(0, .ref 33)]) (by simp) ?_
    refine mz_go FLX1 KLX1 C [(33, .iconst 0)] (by decide +kernel) (pc' := 34) (L' := [(0, .ref 33)]) (st' := [.int 0]) rfl ?_
    exact mz_zret C E (by decide +kernel) (Or.inl rfl) (by unfold g_X1_anyIsPlayed; rw [hf7]; try rfl) (rfl)
  · refine mz_go FLX1 KLX1 C [(13, .aload_n 0), (14, .getfield 20), (17, .iload_n 1)] (by decide +kernel) (pc' := 18) (L' := [(0, .ref 33), (1, .int i6)]) (st' := [.int i6, .ref 36]) rfl ?_
    refine mz_callV (As := [.int i6]) (rest := []) C E' (f_Row_get l D cA ρ hI (r := 36) (a := 37) (n := 5) rfl rfl (by decide) M i6) hy_X6_get wl_X1_38 rfl rfl rfl ⟨Nat.le_of_ble_eq_true rfl, Nat.le_of_ble_eq_true rfl⟩ ⟨Nat.le_refl _, Nat.le_refl _⟩ (Nat.le_of_ble_eq_true rfl) (by decide +kernel) ?_ rfl
    refine mz_go FLX1 KLX1 C [(21, .iconst (-1))] (by decide +kernel) (pc' := 22) (L' := [(0, .ref 33), (1, .int i6)]) (st' := [.int (-1), .int (mz_rg 5 (M 37) i6)]) rfl ?_
    refine mz_ieq (off := 5) (tgt := 27) C (by decide +kernel) (by decide) (fun h8 => ?_) (fun h8 => ?_)
    · refine mz_go FLX1 KLX1 C [(27, .iinc 1 1), (30, .goto (-28))] (by decide +kernel) (pc' := 2) (L' := [(1, .int (i6 + 1)), (0, .ref 33)]) (st' := []) rfl ?_
      exact mz_sub (by simp) (ih2 h1 (by unfold g_X1_anyIsPlayed_1; rw [if_pos h8]))
    · refine mz_go FLX1 KLX1 C [(25, .iconst 1)] (by decide +kernel) (pc' := 26) (L' := [(0, .ref 33), (1, .int i6)]) (st' := [.int 1]) rfl ?_
      have hf9 := hp4 h1 (by unfold g_X1_anyIsPlayed_1; rw [if_neg h8])
      exact mz_zret C E (by decide +kernel) (Or.inr rfl) (by unfold g_X1_anyIsPlayed; rw [hf9]; try rfl) (rfl)
def g_X1_rolesOf_1 (M : mz_Mem) (t : Int32) (i2 : Int32) (a3 : Int32) : Int32 := if (mz_rg 5 (M 37) i2) = t then a3 ||| (1 <<< (i2 &&& 31)) else a3
def g_X1_rolesOf (M : mz_Mem) (t : Int32) : Int32 := (mz_fr (M 15 0) (g_X1_rolesOf_1 M t) (1 <<< (t &&& 31)))
set_option maxHeartbeats 4000000 in
theorem f_X1_rolesOf (l : Launch) (D : va_G) (cA : Nat → ClassId) (ρ : Nat → Nat) (hI : mz_I ρ mz_lay1) (M : mz_Mem) (t : Int32) : mz_M l D vwCl cA ρ mz_lay1 yX1_rolesOf cX1_rolesOf 4 (some .int) 1 21 [.ref 33, .int t] M (some (.int (g_X1_rolesOf M t))) M := by
  refine mz_in0 (by decide +kernel) (Nat.le_of_ble_eq_true rfl) (fun Γ C E => ?_)
  have E' := (⟨_, _, _, E⟩ : ∃ Qc mc ms, mz_E Γ Qc mc ms (mz_A ρ mz_lay1))
  refine mz_go FLX1 KLX1 C [(0, .iconst 1), (1, .iload_n 1), (2, .ishl), (3, .istore_n 2), (4, .iconst 0), (5, .istore_n 3)] (by decide +kernel) (pc' := 6) (L' := [(3, .int 0), (2, .int (1 <<< (t &&& 31))), (0, .ref 33), (1, .int t)]) (st' := []) rfl ?_
  refine mz_sub (L' := [(0, .ref 33), (1, .int t), (2, .int (1 <<< (t &&& 31))), (3, .int 0)]) (by simp) ?_
  refine mz_loop (M 15 0) (g_X1_rolesOf_1 M t) (fun (i : Int32) (a : Int32) => mz_W Γ ρ 4 0 0 (mz_H D vwCl cA ρ mz_lay1 M) 6 [(0, .ref 33), (1, .int t), (2, .int a), (3, .int i)] []) (1 <<< (t &&& 31)) (fun i2 a3 hi4 hx5 hb6 => ?_)
  refine mz_go FLX1 KLX1 C [(6, .iload_n 3), (7, .aload_n 0), (8, .getfield 26), (11, .getfield 42)] (by decide +kernel) (pc' := 14) (L' := [(0, .ref 33), (1, .int t), (2, .int a3), (3, .int i2)]) (st' := [.int (M 15 0), .int i2]) rfl ?_
  refine mz_ige (off := 27) (tgt := 41) C (by decide +kernel) (by decide) (fun h1 => ?_) (fun h1 => ?_)
  · have e10 := hx5 h1
    subst e10
    refine mz_sub (L' := [(0, .ref 33), (1, .int t), (2, .int (mz_fr (M 15 0) (g_X1_rolesOf_1 M t) (1 <<< (t &&& 31))))]) (by simp) ?_
    refine mz_go FLX1 KLX1 C [(41, .iload_n 2)] (by decide +kernel) (pc' := 42) (L' := [(0, .ref 33), (1, .int t), (2, .int (mz_fr (M 15 0) (g_X1_rolesOf_1 M t) (1 <<< (t &&& 31))))]) (st' := [.int (mz_fr (M 15 0) (g_X1_rolesOf_1 M t) (1 <<< (t &&& 31)))]) rfl ?_
    exact mz_iret C E (by decide +kernel) (rfl) (rfl)
  · refine mz_go FLX1 KLX1 C [(17, .aload_n 0), (18, .getfield 20), (21, .iload_n 3)] (by decide +kernel) (pc' := 22) (L' := [(0, .ref 33), (1, .int t), (2, .int a3), (3, .int i2)]) (st' := [.int i2, .ref 36]) rfl ?_
    refine mz_callV (As := [.int i2]) (rest := []) C E' (f_Row_get l D cA ρ hI (r := 36) (a := 37) (n := 5) rfl rfl (by decide) M i2) hy_X6_get wl_X1_38 rfl rfl rfl ⟨Nat.le_of_ble_eq_true rfl, Nat.le_of_ble_eq_true rfl⟩ ⟨Nat.le_refl _, Nat.le_refl _⟩ (Nat.le_of_ble_eq_true rfl) (by decide +kernel) ?_ rfl
    refine mz_go FLX1 KLX1 C [(25, .iload_n 1)] (by decide +kernel) (pc' := 26) (L' := [(0, .ref 33), (1, .int t), (2, .int a3), (3, .int i2)]) (st' := [.int t, .int (mz_rg 5 (M 37) i2)]) rfl ?_
    refine mz_ine (off := 9) (tgt := 35) C (by decide +kernel) (by decide) (fun h11 => ?_) (fun h11 => ?_)
    · refine mz_go FLX1 KLX1 C [(35, .iinc 3 1), (38, .goto (-32))] (by decide +kernel) (pc' := 6) (L' := [(3, .int (i2 + 1)), (0, .ref 33), (1, .int t), (2, .int a3)]) (st' := []) rfl ?_
      have hb12 := hb6 h1
      rw [show g_X1_rolesOf_1 M t i2 a3 = a3 from by unfold g_X1_rolesOf_1; rw [if_neg h11]] at hb12
      exact mz_sub (by simp) hb12
    · refine mz_go FLX1 KLX1 C [(29, .iload_n 2), (30, .iconst 1), (31, .iload_n 3), (32, .ishl), (33, .ior), (34, .istore_n 2), (35, .iinc 3 1), (38, .goto (-32))] (by decide +kernel) (pc' := 6) (L' := [(3, .int (i2 + 1)), (2, .int (a3 ||| (1 <<< (i2 &&& 31)))), (0, .ref 33), (1, .int t)]) (st' := []) rfl ?_
      have hb13 := hb6 h1
      rw [show g_X1_rolesOf_1 M t i2 a3 = a3 ||| (1 <<< (i2 &&& 31)) from by unfold g_X1_rolesOf_1; rw [if_pos h11]] at hb13
      exact mz_sub (by simp) hb13
def g_X1_isSingle (M : mz_Mem) (t : Int32) : Int32 := if (mz_rg 5 (M 37) t) = (-1) then (if (g_X1_rolesOf M t) = (1 <<< (t &&& 31)) then 1 else 0) else 0
set_option maxHeartbeats 4000000 in
theorem f_X1_isSingle (l : Launch) (D : va_G) (cA : Nat → ClassId) (ρ : Nat → Nat) (hI : mz_I ρ mz_lay1) (M : mz_Mem) (t : Int32) : mz_M l D vwCl cA ρ mz_lay1 yX1_isSingle cX1_isSingle 2 (some .boolean) 2 44 [.ref 33, .int t] M (some (.int (g_X1_isSingle M t))) M := by
  refine mz_in0 (by decide +kernel) (Nat.le_of_ble_eq_true rfl) (fun Γ C E => ?_)
  have E' := (⟨_, _, _, E⟩ : ∃ Qc mc ms, mz_E Γ Qc mc ms (mz_A ρ mz_lay1))
  refine mz_go FLX1 KLX1 C [(0, .aload_n 0), (1, .getfield 20), (4, .iload_n 1)] (by decide +kernel) (pc' := 5) (L' := [(0, .ref 33), (1, .int t)]) (st' := [.int t, .ref 36]) rfl ?_
  refine mz_callV (As := [.int t]) (rest := []) C E' (f_Row_get l D cA ρ hI (r := 36) (a := 37) (n := 5) rfl rfl (by decide) M t) hy_X6_get wl_X1_38 rfl rfl rfl ⟨Nat.le_of_ble_eq_true rfl, Nat.le_of_ble_eq_true rfl⟩ ⟨Nat.le_refl _, Nat.le_refl _⟩ (Nat.le_of_ble_eq_true rfl) (by decide +kernel) ?_ rfl
  refine mz_go FLX1 KLX1 C [(8, .iconst (-1))] (by decide +kernel) (pc' := 9) (L' := [(0, .ref 33), (1, .int t)]) (st' := [.int (-1), .int (mz_rg 5 (M 37) t)]) rfl ?_
  refine mz_ine (off := 18) (tgt := 27) C (by decide +kernel) (by decide) (fun h1 => ?_) (fun h1 => ?_)
  · refine mz_go FLX1 KLX1 C [(27, .iconst 0)] (by decide +kernel) (pc' := 28) (L' := [(0, .ref 33), (1, .int t)]) (st' := [.int 0]) rfl ?_
    exact mz_zret C E (by decide +kernel) (Or.inl rfl) (by unfold g_X1_isSingle; rw [if_neg h1]; try rfl) (rfl)
  · refine mz_go FLX1 KLX1 C [(12, .aload_n 0), (13, .iload_n 1)] (by decide +kernel) (pc' := 14) (L' := [(0, .ref 33), (1, .int t)]) (st' := [.int t, .ref 33]) rfl ?_
    refine mz_callV (As := [.int t]) (rest := []) C E' (f_X1_rolesOf l D cA ρ hI M t) hy_X1_rolesOf wl_X1_48 rfl rfl rfl ⟨Nat.le_of_ble_eq_true rfl, Nat.le_of_ble_eq_true rfl⟩ ⟨Nat.le_refl _, Nat.le_refl _⟩ (Nat.le_of_ble_eq_true rfl) (by decide +kernel) ?_ rfl
    refine mz_go FLX1 KLX1 C [(17, .iconst 1), (18, .iload_n 1), (19, .ishl)] (by decide +kernel) (pc' := 20) (L' := [(0, .ref 33), (1, .int t)]) (st' := [.int (1 <<< (t &&& 31)), .int (g_X1_rolesOf M t)]) rfl ?_
    refine mz_ine (off := 7) (tgt := 27) C (by decide +kernel) (by decide) (fun h2 => ?_) (fun h2 => ?_)
    · refine mz_go FLX1 KLX1 C [(27, .iconst 0)] (by decide +kernel) (pc' := 28) (L' := [(0, .ref 33), (1, .int t)]) (st' := [.int 0]) rfl ?_
      exact mz_zret C E (by decide +kernel) (Or.inl rfl) (by unfold g_X1_isSingle; rw [if_pos h1, if_neg h2]; try rfl) (rfl)
    · refine mz_go FLX1 KLX1 C [(23, .iconst 1), (24, .goto 4)] (by decide +kernel) (pc' := 28) (L' := [(0, .ref 33), (1, .int t)]) (st' := [.int 1]) rfl ?_
      exact mz_zret C E (by decide +kernel) (Or.inr rfl) (by unfold g_X1_isSingle; rw [if_pos h1, if_pos h2]; try rfl) (rfl)
def g_X1_withDoubles_1 (M : mz_Mem) (s : Int32) (i2 : Int32) (a3 : Int32) : Int32 := if (mz_rg 5 (M 37) i2) = (-1) then a3 else if (s &&& ((1 <<< (i2 &&& 31)) ||| (1 <<< ((mz_rg 5 (M 37) i2) &&& 31)))) = 0 then a3 else a3 ||| ((1 <<< (i2 &&& 31)) ||| (1 <<< ((mz_rg 5 (M 37) i2) &&& 31)))
def g_X1_withDoubles (M : mz_Mem) (s : Int32) : Int32 := (mz_fr (M 15 0) (g_X1_withDoubles_1 M s) s)
set_option maxHeartbeats 4000000 in
theorem f_X1_withDoubles (l : Launch) (D : va_G) (cA : Nat → ClassId) (ρ : Nat → Nat) (hI : mz_I ρ mz_lay1) (M : mz_Mem) (s : Int32) : mz_M l D vwCl cA ρ mz_lay1 yX1_withDoubles cX1_withDoubles 5 (some .int) 1 21 [.ref 33, .int s] M (some (.int (g_X1_withDoubles M s))) M := by
  refine mz_in0 (by decide +kernel) (Nat.le_of_ble_eq_true rfl) (fun Γ C E => ?_)
  have E' := (⟨_, _, _, E⟩ : ∃ Qc mc ms, mz_E Γ Qc mc ms (mz_A ρ mz_lay1))
  refine mz_go FLX1 KLX1 C [(0, .iload_n 1), (1, .istore_n 2), (2, .iconst 0), (3, .istore_n 3)] (by decide +kernel) (pc' := 4) (L' := [(3, .int 0), (2, .int s), (0, .ref 33), (1, .int s)]) (st' := []) rfl ?_
  refine mz_sub (L' := [(0, .ref 33), (1, .int s), (2, .int s), (3, .int 0)]) (by simp) ?_
  refine mz_loop (M 15 0) (g_X1_withDoubles_1 M s) (fun (i : Int32) (a : Int32) => mz_W Γ ρ 5 0 0 (mz_H D vwCl cA ρ mz_lay1 M) 4 [(0, .ref 33), (1, .int s), (2, .int a), (3, .int i)] []) s (fun i2 a3 hi4 hx5 hb6 => ?_)
  refine mz_go FLX1 KLX1 C [(4, .iload_n 3), (5, .aload_n 0), (6, .getfield 26), (9, .getfield 42)] (by decide +kernel) (pc' := 12) (L' := [(0, .ref 33), (1, .int s), (2, .int a3), (3, .int i2)]) (st' := [.int (M 15 0), .int i2]) rfl ?_
  refine mz_ige (off := 49) (tgt := 61) C (by decide +kernel) (by decide) (fun h1 => ?_) (fun h1 => ?_)
  · have e10 := hx5 h1
    subst e10
    refine mz_sub (L' := [(0, .ref 33), (1, .int s), (2, .int (mz_fr (M 15 0) (g_X1_withDoubles_1 M s) s))]) (by simp) ?_
    refine mz_go FLX1 KLX1 C [(61, .iload_n 2)] (by decide +kernel) (pc' := 62) (L' := [(0, .ref 33), (1, .int s), (2, .int (mz_fr (M 15 0) (g_X1_withDoubles_1 M s) s))]) (st' := [.int (mz_fr (M 15 0) (g_X1_withDoubles_1 M s) s)]) rfl ?_
    exact mz_iret C E (by decide +kernel) (rfl) (rfl)
  · refine mz_go FLX1 KLX1 C [(15, .aload_n 0), (16, .getfield 20), (19, .iload_n 3)] (by decide +kernel) (pc' := 20) (L' := [(0, .ref 33), (1, .int s), (2, .int a3), (3, .int i2)]) (st' := [.int i2, .ref 36]) rfl ?_
    refine mz_callV (As := [.int i2]) (rest := []) C E' (f_Row_get l D cA ρ hI (r := 36) (a := 37) (n := 5) rfl rfl (by decide) M i2) hy_X6_get wl_X1_38 rfl rfl rfl ⟨Nat.le_of_ble_eq_true rfl, Nat.le_of_ble_eq_true rfl⟩ ⟨Nat.le_refl _, Nat.le_refl _⟩ (Nat.le_of_ble_eq_true rfl) (by decide +kernel) ?_ rfl
    refine mz_go FLX1 KLX1 C [(23, .istore 4), (25, .iload 4), (27, .iconst (-1))] (by decide +kernel) (pc' := 28) (L' := [(4, .int (mz_rg 5 (M 37) i2)), (0, .ref 33), (1, .int s), (2, .int a3), (3, .int i2)]) (st' := [.int (-1), .int (mz_rg 5 (M 37) i2)]) rfl ?_
    refine mz_ieq (off := 27) (tgt := 55) C (by decide +kernel) (by decide) (fun h11 => ?_) (fun h11 => ?_)
    · refine mz_go FLX1 KLX1 C [(55, .iinc 3 1), (58, .goto (-54))] (by decide +kernel) (pc' := 4) (L' := [(3, .int (i2 + 1)), (4, .int (mz_rg 5 (M 37) i2)), (0, .ref 33), (1, .int s), (2, .int a3)]) (st' := []) rfl ?_
      have hb12 := hb6 h1
      rw [show g_X1_withDoubles_1 M s i2 a3 = a3 from by unfold g_X1_withDoubles_1; rw [if_pos h11]] at hb12
      exact mz_sub (by simp) hb12
    · refine mz_go FLX1 KLX1 C [(31, .iload_n 1), (32, .iconst 1), (33, .iload_n 3), (34, .ishl), (35, .iconst 1), (36, .iload 4), (38, .ishl), (39, .ior), (40, .iand)] (by decide +kernel) (pc' := 41) (L' := [(4, .int (mz_rg 5 (M 37) i2)), (0, .ref 33), (1, .int s), (2, .int a3), (3, .int i2)]) (st' := [.int (s &&& ((1 <<< (i2 &&& 31)) ||| (1 <<< ((mz_rg 5 (M 37) i2) &&& 31))))]) rfl ?_
      refine mz_zeq (off := 14) (tgt := 55) C (by decide +kernel) (by decide) (fun h13 => ?_) (fun h13 => ?_)
      · refine mz_go FLX1 KLX1 C [(55, .iinc 3 1), (58, .goto (-54))] (by decide +kernel) (pc' := 4) (L' := [(3, .int (i2 + 1)), (4, .int (mz_rg 5 (M 37) i2)), (0, .ref 33), (1, .int s), (2, .int a3)]) (st' := []) rfl ?_
        have hb14 := hb6 h1
        rw [show g_X1_withDoubles_1 M s i2 a3 = a3 from by unfold g_X1_withDoubles_1; rw [if_neg h11, if_pos h13]] at hb14
        exact mz_sub (by simp) hb14
      · refine mz_go FLX1 KLX1 C [(44, .iload_n 2), (45, .iconst 1), (46, .iload_n 3), (47, .ishl), (48, .iconst 1), (49, .iload 4), (51, .ishl), (52, .ior), (53, .ior), (54, .istore_n 2), (55, .iinc 3 1), (58, .goto (-54))] (by decide +kernel) (pc' := 4) (L' := [(3, .int (i2 + 1)), (2, .int (a3 ||| ((1 <<< (i2 &&& 31)) ||| (1 <<< ((mz_rg 5 (M 37) i2) &&& 31))))), (4, .int (mz_rg 5 (M 37) i2)), (0, .ref 33), (1, .int s)]) (st' := []) rfl ?_
        have hb15 := hb6 h1
        rw [show g_X1_withDoubles_1 M s i2 a3 = a3 ||| ((1 <<< (i2 &&& 31)) ||| (1 <<< ((mz_rg 5 (M 37) i2) &&& 31))) from by unfold g_X1_withDoubles_1; rw [if_neg h11, if_neg h13]] at hb15
        exact mz_sub (by simp) hb15
def g_X1_setIn_1 (M : mz_Mem) (p : Int32) (i2 : Int32) (a3 : Int32) : Int32 := if (mz_rg 5 (M 35) i2) = p then a3 ||| (1 <<< (i2 &&& 31)) else a3
def g_X1_setIn (M : mz_Mem) (p : Int32) : Int32 := (mz_fr (M 15 0) (g_X1_setIn_1 M p) 0)
set_option maxHeartbeats 4000000 in
theorem f_X1_setIn (l : Launch) (D : va_G) (cA : Nat → ClassId) (ρ : Nat → Nat) (hI : mz_I ρ mz_lay1) (M : mz_Mem) (p : Int32) : mz_M l D vwCl cA ρ mz_lay1 yX1_setIn cX1_setIn 4 (some .int) 1 21 [.ref 33, .int p] M (some (.int (g_X1_setIn M p))) M := by
  refine mz_in0 (by decide +kernel) (Nat.le_of_ble_eq_true rfl) (fun Γ C E => ?_)
  have E' := (⟨_, _, _, E⟩ : ∃ Qc mc ms, mz_E Γ Qc mc ms (mz_A ρ mz_lay1))
  refine mz_go FLX1 KLX1 C [(0, .iconst 0), (1, .istore_n 2), (2, .iconst 0), (3, .istore_n 3)] (by decide +kernel) (pc' := 4) (L' := [(3, .int 0), (2, .int 0), (0, .ref 33), (1, .int p)]) (st' := []) rfl ?_
  refine mz_sub (L' := [(0, .ref 33), (1, .int p), (2, .int 0), (3, .int 0)]) (by simp) ?_
  refine mz_loop (M 15 0) (g_X1_setIn_1 M p) (fun (i : Int32) (a : Int32) => mz_W Γ ρ 4 0 0 (mz_H D vwCl cA ρ mz_lay1 M) 4 [(0, .ref 33), (1, .int p), (2, .int a), (3, .int i)] []) 0 (fun i2 a3 hi4 hx5 hb6 => ?_)
  refine mz_go FLX1 KLX1 C [(4, .iload_n 3), (5, .aload_n 0), (6, .getfield 26), (9, .getfield 42)] (by decide +kernel) (pc' := 12) (L' := [(0, .ref 33), (1, .int p), (2, .int a3), (3, .int i2)]) (st' := [.int (M 15 0), .int i2]) rfl ?_
  refine mz_ige (off := 27) (tgt := 39) C (by decide +kernel) (by decide) (fun h1 => ?_) (fun h1 => ?_)
  · have e10 := hx5 h1
    subst e10
    refine mz_sub (L' := [(0, .ref 33), (1, .int p), (2, .int (mz_fr (M 15 0) (g_X1_setIn_1 M p) 0))]) (by simp) ?_
    refine mz_go FLX1 KLX1 C [(39, .iload_n 2)] (by decide +kernel) (pc' := 40) (L' := [(0, .ref 33), (1, .int p), (2, .int (mz_fr (M 15 0) (g_X1_setIn_1 M p) 0))]) (st' := [.int (mz_fr (M 15 0) (g_X1_setIn_1 M p) 0)]) rfl ?_
    exact mz_iret C E (by decide +kernel) (rfl) (rfl)
  · refine mz_go FLX1 KLX1 C [(15, .aload_n 0), (16, .getfield 14), (19, .iload_n 3)] (by decide +kernel) (pc' := 20) (L' := [(0, .ref 33), (1, .int p), (2, .int a3), (3, .int i2)]) (st' := [.int i2, .ref 34]) rfl ?_
    refine mz_callV (As := [.int i2]) (rest := []) C E' (f_Row_get l D cA ρ hI (r := 34) (a := 35) (n := 5) rfl rfl (by decide) M i2) hy_X6_get wl_X1_38 rfl rfl rfl ⟨Nat.le_of_ble_eq_true rfl, Nat.le_of_ble_eq_true rfl⟩ ⟨Nat.le_refl _, Nat.le_refl _⟩ (Nat.le_of_ble_eq_true rfl) (by decide +kernel) ?_ rfl
    refine mz_go FLX1 KLX1 C [(23, .iload_n 1)] (by decide +kernel) (pc' := 24) (L' := [(0, .ref 33), (1, .int p), (2, .int a3), (3, .int i2)]) (st' := [.int p, .int (mz_rg 5 (M 35) i2)]) rfl ?_
    refine mz_ine (off := 9) (tgt := 33) C (by decide +kernel) (by decide) (fun h11 => ?_) (fun h11 => ?_)
    · refine mz_go FLX1 KLX1 C [(33, .iinc 3 1), (36, .goto (-32))] (by decide +kernel) (pc' := 4) (L' := [(3, .int (i2 + 1)), (0, .ref 33), (1, .int p), (2, .int a3)]) (st' := []) rfl ?_
      have hb12 := hb6 h1
      rw [show g_X1_setIn_1 M p i2 a3 = a3 from by unfold g_X1_setIn_1; rw [if_neg h11]] at hb12
      exact mz_sub (by simp) hb12
    · refine mz_go FLX1 KLX1 C [(27, .iload_n 2), (28, .iconst 1), (29, .iload_n 3), (30, .ishl), (31, .ior), (32, .istore_n 2), (33, .iinc 3 1), (36, .goto (-32))] (by decide +kernel) (pc' := 4) (L' := [(3, .int (i2 + 1)), (2, .int (a3 ||| (1 <<< (i2 &&& 31)))), (0, .ref 33), (1, .int p)]) (st' := []) rfl ?_
      have hb13 := hb6 h1
      rw [show g_X1_setIn_1 M p i2 a3 = a3 ||| (1 <<< (i2 &&& 31)) from by unfold g_X1_setIn_1; rw [if_pos h11]] at hb13
      exact mz_sub (by simp) hb13
def g_X1_walk_1 (M : mz_Mem) (t : Int32) (to_ : Int32) (i2 : Int32) (a3 : mz_Mem) : mz_Mem := if ((g_X1_rolesOf (mz_s M 39 (mz_ra 5 (M 39) t 1)) t) &&& (1 <<< (i2 &&& 31))) = 0 then a3 else (mz_s a3 35 (mz_rs 5 (a3 35) i2 to_))
theorem g_X1_walk_1_hs (M : mz_Mem) (t : Int32) (to_ : Int32) (i2 : Int32) (a3 : mz_Mem) : mz_hs a3 (g_X1_walk_1 M t to_ i2 a3) := by
  unfold g_X1_walk_1
  by_cases h1 : ((g_X1_rolesOf (mz_s M 39 (mz_ra 5 (M 39) t 1)) t) &&& (1 <<< (i2 &&& 31))) = 0
  · rw [if_pos h1]
    exact mz_hs_rf
  · rw [if_neg h1]
    exact mz_hs_s (by decide)

def g_X1_walk (M : mz_Mem) (t : Int32) (to_ : Int32) : mz_Mem := (mz_fr ((mz_s M 39 (mz_ra 5 (M 39) t 1)) 15 0) (g_X1_walk_1 M t to_) (mz_s M 39 (mz_ra 5 (M 39) t 1)))
theorem g_X1_walk_hs (M : mz_Mem) (t : Int32) (to_ : Int32) : mz_hs M (g_X1_walk M t to_) := by
  unfold g_X1_walk
  exact (mz_hs_s (by decide)).trans (mz_hs_frp (fun (a : mz_Mem) => a) (fun i a => g_X1_walk_1_hs M t to_ i a))

set_option maxHeartbeats 4000000 in
theorem f_X1_walk (l : Launch) (D : va_G) (cA : Nat → ClassId) (ρ : Nat → Nat) (hI : mz_I ρ mz_lay1) (M : mz_Mem) (t : Int32) (to_ : Int32) : mz_M l D vwCl cA ρ mz_lay1 yX1_walk cX1_walk 5 none 2 44 [.ref 33, .int t, .int to_] M none (g_X1_walk M t to_) := by
  refine mz_in0 (by decide +kernel) (Nat.le_of_ble_eq_true rfl) (fun Γ C E => ?_)
  have E' := (⟨_, _, _, E⟩ : ∃ Qc mc ms, mz_E Γ Qc mc ms (mz_A ρ mz_lay1))
  refine mz_go FLX1 KLX1 C [(0, .aload_n 0), (1, .getfield 23), (4, .iload_n 1), (5, .iconst 1)] (by decide +kernel) (pc' := 6) (L' := [(0, .ref 33), (1, .int t), (2, .int to_)]) (st' := [.int 1, .int t, .ref 38]) rfl ?_
  refine mz_callV (As := [.int t, .int 1]) (rest := []) C E' (f_Row_add l D cA ρ hI (r := 38) (a := 39) (n := 5) rfl rfl (by decide) M t 1) hy_X6_add wl_X1_51 rfl rfl rfl ⟨Nat.le_of_ble_eq_true rfl, Nat.le_of_ble_eq_true rfl⟩ ⟨Nat.le_refl _, Nat.le_refl _⟩ (Nat.le_of_ble_eq_true rfl) (by decide +kernel) ?_ rfl
  refine mz_go FLX1 KLX1 C [(9, .aload_n 0), (10, .iload_n 1)] (by decide +kernel) (pc' := 11) (L' := [(0, .ref 33), (1, .int t), (2, .int to_)]) (st' := [.int t, .ref 33]) rfl ?_
  refine mz_callV (As := [.int t]) (rest := []) C E' (f_X1_rolesOf l D cA ρ hI (mz_s M 39 (mz_ra 5 (M 39) t 1)) t) hy_X1_rolesOf wl_X1_48 rfl rfl rfl ⟨Nat.le_of_ble_eq_true rfl, Nat.le_of_ble_eq_true rfl⟩ ⟨Nat.le_refl _, Nat.le_refl _⟩ (Nat.le_of_ble_eq_true rfl) (by decide +kernel) ?_ rfl
  refine mz_go FLX1 KLX1 C [(14, .istore_n 3), (15, .iconst 0), (16, .istore 4)] (by decide +kernel) (pc' := 18) (L' := [(4, .int 0), (3, .int (g_X1_rolesOf (mz_s M 39 (mz_ra 5 (M 39) t 1)) t)), (0, .ref 33), (1, .int t), (2, .int to_)]) (st' := []) rfl ?_
  refine mz_sub (L' := [(0, .ref 33), (1, .int t), (2, .int to_), (3, .int (g_X1_rolesOf (mz_s M 39 (mz_ra 5 (M 39) t 1)) t)), (4, .int 0)]) (by simp) ?_
  refine mz_loopI ((mz_s M 39 (mz_ra 5 (M 39) t 1)) 15 0) (g_X1_walk_1 M t to_) (fun (i : Int32) (a : mz_Mem) => mz_W Γ ρ 5 0 0 (mz_H D vwCl cA ρ mz_lay1 a) 18 [(0, .ref 33), (1, .int t), (2, .int to_), (3, .int (g_X1_rolesOf (mz_s M 39 (mz_ra 5 (M 39) t 1)) t)), (4, .int i)] []) (fun (a : mz_Mem) => a 15 0 = (mz_s M 39 (mz_ra 5 (M 39) t 1)) 15 0) (mz_s M 39 (mz_ra 5 (M 39) t 1)) rfl (fun i a h => ?_) (fun i2 a3 hi4 hv7 hx5 hb6 => ?_)
  · exact (congrFun (g_X1_walk_1_hs M t to_ i a _ (by decide)) _).trans h
  have hv7 : a3 15 0 = (mz_s M 39 (mz_ra 5 (M 39) t 1)) 15 0 := hv7
  refine mz_go FLX1 KLX1 C [(18, .iload 4), (20, .aload_n 0), (21, .getfield 26), (24, .getfield 42)] (by decide +kernel) (pc' := 27) (L' := [(0, .ref 33), (1, .int t), (2, .int to_), (3, .int (g_X1_rolesOf (mz_s M 39 (mz_ra 5 (M 39) t 1)) t)), (4, .int i2)]) (st' := [.int (a3 15 0), .int i2]) rfl ?_
  refine mz_ige (off := 28) (tgt := 55) C (by decide +kernel) (by decide) (fun h1 => ?_) (fun h1 => ?_)
  · have e10 := hx5 (by rw [hv7] at h1; exact h1)
    subst e10
    refine mz_sub (L' := [(0, .ref 33), (1, .int t), (2, .int to_), (3, .int (g_X1_rolesOf (mz_s M 39 (mz_ra 5 (M 39) t 1)) t))]) (by simp) ?_
    exact mz_vret C E (by decide +kernel) (rfl)
  · refine mz_go FLX1 KLX1 C [(30, .iload_n 3), (31, .iconst 1), (32, .iload 4), (34, .ishl), (35, .iand)] (by decide +kernel) (pc' := 36) (L' := [(0, .ref 33), (1, .int t), (2, .int to_), (3, .int (g_X1_rolesOf (mz_s M 39 (mz_ra 5 (M 39) t 1)) t)), (4, .int i2)]) (st' := [.int ((g_X1_rolesOf (mz_s M 39 (mz_ra 5 (M 39) t 1)) t) &&& (1 <<< (i2 &&& 31)))]) rfl ?_
    refine mz_zeq (off := 13) (tgt := 49) C (by decide +kernel) (by decide) (fun h11 => ?_) (fun h11 => ?_)
    · refine mz_go FLX1 KLX1 C [(49, .iinc 4 1), (52, .goto (-34))] (by decide +kernel) (pc' := 18) (L' := [(4, .int (i2 + 1)), (0, .ref 33), (1, .int t), (2, .int to_), (3, .int (g_X1_rolesOf (mz_s M 39 (mz_ra 5 (M 39) t 1)) t))]) (st' := []) rfl ?_
      have hb12 := hb6 (by rw [hv7] at h1; exact h1)
      rw [show g_X1_walk_1 M t to_ i2 a3 = a3 from by unfold g_X1_walk_1; rw [if_pos h11]] at hb12
      exact mz_sub (by simp) hb12
    · refine mz_go FLX1 KLX1 C [(39, .aload_n 0), (40, .getfield 14), (43, .iload 4), (45, .iload_n 2)] (by decide +kernel) (pc' := 46) (L' := [(0, .ref 33), (1, .int t), (2, .int to_), (3, .int (g_X1_rolesOf (mz_s M 39 (mz_ra 5 (M 39) t 1)) t)), (4, .int i2)]) (st' := [.int to_, .int i2, .ref 34]) rfl ?_
      refine mz_callV (As := [.int i2, .int to_]) (rest := []) C E' (f_Row_set l D cA ρ hI (r := 34) (a := 35) (n := 5) rfl rfl (by decide) a3 i2 to_) hy_X6_set wl_X1_34 rfl rfl rfl ⟨Nat.le_of_ble_eq_true rfl, Nat.le_of_ble_eq_true rfl⟩ ⟨Nat.le_refl _, Nat.le_refl _⟩ (Nat.le_of_ble_eq_true rfl) (by decide +kernel) ?_ rfl
      refine mz_go FLX1 KLX1 C [(49, .iinc 4 1), (52, .goto (-34))] (by decide +kernel) (pc' := 18) (L' := [(4, .int (i2 + 1)), (0, .ref 33), (1, .int t), (2, .int to_), (3, .int (g_X1_rolesOf (mz_s M 39 (mz_ra 5 (M 39) t 1)) t))]) (st' := []) rfl ?_
      have hb13 := hb6 (by rw [hv7] at h1; exact h1)
      rw [show g_X1_walk_1 M t to_ i2 a3 = (mz_s a3 35 (mz_rs 5 (a3 35) i2 to_)) from by unfold g_X1_walk_1; rw [if_neg h11]] at hb13
      exact mz_sub (by simp) hb13
