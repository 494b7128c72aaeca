def g_X2_isFull (M : mz_Mem) (r : Int32) : Int32 := if (mz_rg 8 (M 77) r) < (mz_rg 8 (M 3) r) then 0 else 1
set_option maxHeartbeats 4000000 in
theorem f_X2_isFull (l : Launch) (D : va_G) (cA : Nat → ClassId) (ρ : Nat → Nat) (hI : mz_I ρ mz_lay1) (M : mz_Mem) (r : Int32) : mz_M l D vwCl cA ρ mz_lay1 yX2_isFull cX2_isFull 2 (some .boolean) 1 21 [.ref 30, .int r] M (some (.int (g_X2_isFull M r))) M := by
  refine mz_in0 (by decide +kernel) (Nat.le_of_ble_eq_true rfl) (fun Γ C E => ?_)
  have E' := (⟨_, _, _, E⟩ : ∃ Qc mc ms, mz_E Γ Qc mc ms (mz_A ρ mz_lay1))
  refine mz_go FLX2 KLX2 C [(0, .aload_n 0), (1, .getfield 54), (4, .getfield 234), (7, .iload_n 1)] (by decide +kernel) (pc' := 8) (L' := [(0, .ref 30), (1, .int r)]) (st' := [.int r, .ref 76]) rfl ?_
  refine mz_callV (As := [.int r]) (rest := []) C E' (f_Row_get l D cA ρ hI (r := 76) (a := 77) (n := 8) rfl rfl (by decide) M r) hy_X6_get wl_X2_121 rfl rfl rfl ⟨Nat.le_of_ble_eq_true rfl, Nat.le_of_ble_eq_true rfl⟩ ⟨Nat.le_refl _, Nat.le_refl _⟩ (Nat.le_of_ble_eq_true rfl) (by decide +kernel) ?_ rfl
  refine mz_go FLX2 KLX2 C [(11, .aload_n 0), (12, .getfield 20), (15, .getfield 237), (18, .iload_n 1)] (by decide +kernel) (pc' := 19) (L' := [(0, .ref 30), (1, .int r)]) (st' := [.int r, .ref 2, .int (mz_rg 8 (M 77) r)]) rfl ?_
  refine mz_callV (As := [.int r]) (rest := [.int (mz_rg 8 (M 77) r)]) C E' (f_Row_get l D cA ρ hI (r := 2) (a := 3) (n := 8) rfl rfl (by decide) M r) hy_X6_get wl_X2_121 rfl rfl rfl ⟨Nat.le_of_ble_eq_true rfl, Nat.le_of_ble_eq_true rfl⟩ ⟨Nat.le_refl _, Nat.le_refl _⟩ (Nat.le_of_ble_eq_true rfl) (by decide +kernel) ?_ rfl
  refine mz_ilt (off := 7) (tgt := 29) C (by decide +kernel) (by decide) (fun h1 => ?_) (fun h1 => ?_)
  · refine mz_go FLX2 KLX2 C [(29, .iconst 0)] (by decide +kernel) (pc' := 30) (L' := [(0, .ref 30), (1, .int r)]) (st' := [.int 0]) rfl ?_
    exact mz_zret C E (by decide +kernel) (Or.inl rfl) (by unfold g_X2_isFull; rw [if_pos h1]; try rfl) (rfl)
  · refine mz_go FLX2 KLX2 C [(25, .iconst 1), (26, .goto 4)] (by decide +kernel) (pc' := 30) (L' := [(0, .ref 30), (1, .int r)]) (st' := [.int 1]) rfl ?_
    exact mz_zret C E (by decide +kernel) (Or.inr rfl) (by unfold g_X2_isFull; rw [if_neg h1]; try rfl) (rfl)
def g_X2_emptierRoom_1 (M : mz_Mem) (f : Int32) (i3 : Int32) (a4 : Int32) : Int32 := if (mz_gg 64 (M 6 0) (M 8) f i3) = (-1) then a4 else if (mz_rg 8 (M 77) a4) ≤ (mz_rg 8 (M 77) i3) then a4 else i3
def g_X2_emptierRoom (M : mz_Mem) (f : Int32) : Int32 := if (g_X8_runningIn M f) = 0 then (mz_fr (M 1 0) (g_X2_emptierRoom_1 M f) f) else f
set_option maxHeartbeats 4000000 in
theorem f_X2_emptierRoom (l : Launch) (D : va_G) (cA : Nat → ClassId) (ρ : Nat → Nat) (hI : mz_I ρ mz_lay1) (M : mz_Mem) (f : Int32) : mz_M l D vwCl cA ρ mz_lay1 yX2_emptierRoom cX2_emptierRoom 4 (some .int) 2 44 [.ref 30, .int f] M (some (.int (g_X2_emptierRoom M f))) M := by
  refine mz_in0 (by decide +kernel) (Nat.le_of_ble_eq_true rfl) (fun Γ C E => ?_)
  have E' := (⟨_, _, _, E⟩ : ∃ Qc mc ms, mz_E Γ Qc mc ms (mz_A ρ mz_lay1))
  refine mz_go FLX2 KLX2 C [(0, .aload_n 0), (1, .getfield 40), (4, .iload_n 1)] (by decide +kernel) (pc' := 5) (L' := [(0, .ref 30), (1, .int f)]) (st' := [.int f, .ref 40]) rfl ?_
  refine mz_callV (As := [.int f]) (rest := []) C E' (f_X8_runningIn l D cA ρ hI M f) hy_X8_runningIn wl_X2_252 rfl rfl rfl ⟨Nat.le_of_ble_eq_true rfl, Nat.le_of_ble_eq_true rfl⟩ ⟨Nat.le_refl _, Nat.le_refl _⟩ (Nat.le_of_ble_eq_true rfl) (by decide +kernel) ?_ rfl
  refine mz_zeq (off := 5) (tgt := 13) C (by decide +kernel) (by decide) (fun h1 => ?_) (fun h1 => ?_)
  · refine mz_go FLX2 KLX2 C [(13, .iload_n 1), (14, .istore_n 2), (15, .iconst 0), (16, .istore_n 3)] (by decide +kernel) (pc' := 17) (L' := [(3, .int 0), (2, .int f), (0, .ref 30), (1, .int f)]) (st' := []) rfl ?_
    refine mz_sub (L' := [(0, .ref 30), (1, .int f), (2, .int f), (3, .int 0)]) (by simp) ?_
    refine mz_loop (M 1 0) (g_X2_emptierRoom_1 M f) (fun (i : Int32) (a : Int32) => mz_W Γ ρ 4 0 0 (mz_H D vwCl cA ρ mz_lay1 M) 17 [(0, .ref 30), (1, .int f), (2, .int a), (3, .int i)] []) f (fun i3 a4 hi5 hx6 hb7 => ?_)
    refine mz_go FLX2 KLX2 C [(17, .iload_n 3), (18, .aload_n 0), (19, .getfield 20), (22, .getfield 255)] (by decide +kernel) (pc' := 25) (L' := [(0, .ref 30), (1, .int f), (2, .int a4), (3, .int i3)]) (st' := [.int (M 1 0), .int i3]) rfl ?_
    refine mz_ige (off := 52) (tgt := 77) C (by decide +kernel) (by decide) (fun h2 => ?_) (fun h2 => ?_)
    · have e11 := hx6 h2
      subst e11
      refine mz_sub (L' := [(0, .ref 30), (1, .int f), (2, .int (mz_fr (M 1 0) (g_X2_emptierRoom_1 M f) f))]) (by simp) ?_
      refine mz_go FLX2 KLX2 C [(77, .iload_n 2)] (by decide +kernel) (pc' := 78) (L' := [(0, .ref 30), (1, .int f), (2, .int (mz_fr (M 1 0) (g_X2_emptierRoom_1 M f) f))]) (st' := [.int (mz_fr (M 1 0) (g_X2_emptierRoom_1 M f) f)]) rfl ?_
      exact mz_iret C E (by decide +kernel) (by unfold g_X2_emptierRoom; rw [if_pos h1]; try rfl) (rfl)
    · refine mz_go FLX2 KLX2 C [(28, .aload_n 0), (29, .getfield 20), (32, .getfield 214), (35, .iload_n 1), (36, .iload_n 3)] (by decide +kernel) (pc' := 37) (L' := [(0, .ref 30), (1, .int f), (2, .int a4), (3, .int i3)]) (st' := [.int i3, .int f, .ref 6]) rfl ?_
      refine mz_callV (As := [.int f, .int i3]) (rest := []) C E' (f_Grid_get l D cA ρ hI (g := 6) (r := 7) (a := 8) (n := 64) rfl rfl rfl (by decide) M f i3) hy_X3_get wl_X2_143 rfl rfl rfl ⟨Nat.le_of_ble_eq_true rfl, Nat.le_of_ble_eq_true rfl⟩ ⟨Nat.le_refl _, Nat.le_refl _⟩ (Nat.le_of_ble_eq_true rfl) (by decide +kernel) ?_ rfl
      refine mz_go FLX2 KLX2 C [(40, .iconst (-1))] (by decide +kernel) (pc' := 41) (L' := [(0, .ref 30), (1, .int f), (2, .int a4), (3, .int i3)]) (st' := [.int (-1), .int (mz_gg 64 (M 6 0) (M 8) f i3)]) rfl ?_
      refine mz_ieq (off := 30) (tgt := 71) C (by decide +kernel) (by decide) (fun h12 => ?_) (fun h12 => ?_)
      · refine mz_go FLX2 KLX2 C [(71, .iinc 3 1), (74, .goto (-57))] (by decide +kernel) (pc' := 17) (L' := [(3, .int (i3 + 1)), (0, .ref 30), (1, .int f), (2, .int a4)]) (st' := []) rfl ?_
        have hb13 := hb7 h2
        rw [show g_X2_emptierRoom_1 M f i3 a4 = a4 from by unfold g_X2_emptierRoom_1; rw [if_pos h12]] at hb13
        exact mz_sub (by simp) hb13
      · refine mz_go FLX2 KLX2 C [(44, .aload_n 0), (45, .getfield 54), (48, .getfield 234), (51, .iload_n 3)] (by decide +kernel) (pc' := 52) (L' := [(0, .ref 30), (1, .int f), (2, .int a4), (3, .int i3)]) (st' := [.int i3, .ref 76]) rfl ?_
        refine mz_callV (As := [.int i3]) (rest := []) C E' (f_Row_get l D cA ρ hI (r := 76) (a := 77) (n := 8) rfl rfl (by decide) M i3) hy_X6_get wl_X2_121 rfl rfl rfl ⟨Nat.le_of_ble_eq_true rfl, Nat.le_of_ble_eq_true rfl⟩ ⟨Nat.le_refl _, Nat.le_refl _⟩ (Nat.le_of_ble_eq_true rfl) (by decide +kernel) ?_ rfl
        refine mz_go FLX2 KLX2 C [(55, .aload_n 0), (56, .getfield 54), (59, .getfield 234), (62, .iload_n 2)] (by decide +kernel) (pc' := 63) (L' := [(0, .ref 30), (1, .int f), (2, .int a4), (3, .int i3)]) (st' := [.int a4, .ref 76, .int (mz_rg 8 (M 77) i3)]) rfl ?_
        refine mz_callV (As := [.int a4]) (rest := [.int (mz_rg 8 (M 77) i3)]) C E' (f_Row_get l D cA ρ hI (r := 76) (a := 77) (n := 8) rfl rfl (by decide) M a4) hy_X6_get wl_X2_121 rfl rfl rfl ⟨Nat.le_of_ble_eq_true rfl, Nat.le_of_ble_eq_true rfl⟩ ⟨Nat.le_refl _, Nat.le_refl _⟩ (Nat.le_of_ble_eq_true rfl) (by decide +kernel) ?_ rfl
        refine mz_ige (off := 5) (tgt := 71) C (by decide +kernel) (by decide) (fun h14 => ?_) (fun h14 => ?_)
        · refine mz_go FLX2 KLX2 C [(71, .iinc 3 1), (74, .goto (-57))] (by decide +kernel) (pc' := 17) (L' := [(3, .int (i3 + 1)), (0, .ref 30), (1, .int f), (2, .int a4)]) (st' := []) rfl ?_
          have hb15 := hb7 h2
          rw [show g_X2_emptierRoom_1 M f i3 a4 = a4 from by unfold g_X2_emptierRoom_1; rw [if_neg h12, if_pos h14]] at hb15
          exact mz_sub (by simp) hb15
        · refine mz_go FLX2 KLX2 C [(69, .iload_n 3), (70, .istore_n 2), (71, .iinc 3 1), (74, .goto (-57))] (by decide +kernel) (pc' := 17) (L' := [(3, .int (i3 + 1)), (2, .int i3), (0, .ref 30), (1, .int f)]) (st' := []) rfl ?_
          have hb16 := hb7 h2
          rw [show g_X2_emptierRoom_1 M f i3 a4 = i3 from by unfold g_X2_emptierRoom_1; rw [if_neg h12, if_neg h14]] at hb16
          exact mz_sub (by simp) hb16
  · refine mz_go FLX2 KLX2 C [(11, .iload_n 1)] (by decide +kernel) (pc' := 12) (L' := [(0, .ref 30), (1, .int f)]) (st' := [.int f]) rfl ?_
    exact mz_iret C E (by decide +kernel) (by unfold g_X2_emptierRoom; rw [if_neg h1]; try rfl) (rfl)
def g_X2_nextRoomToScene_1 (M : mz_Mem) (g : Int32) (f : Int32) (i2 : Int32) (a3 : Int32 × Int32) : Int32 × Int32 := if (g_X8_runs M i2) = 0 then (a3.1, a3.2) else if (g_X0_knows M g i2) = 0 then (if (mz_gg 64 (M 9 0) (M 11) f (mz_rg 12 (M 21) i2)) = (-1) then (a3.1, a3.2) else if a3.2 = (-1) then (mz_rg 12 (M 21) i2, mz_gg 64 (M 9 0) (M 11) f (mz_rg 12 (M 21) i2)) else if a3.2 ≤ (mz_gg 64 (M 9 0) (M 11) f (mz_rg 12 (M 21) i2)) then (a3.1, a3.2) else (mz_rg 12 (M 21) i2, mz_gg 64 (M 9 0) (M 11) f (mz_rg 12 (M 21) i2))) else (a3.1, a3.2)
def g_X2_nextRoomToScene (M : mz_Mem) (g : Int32) (f : Int32) : Int32 := (mz_gg 64 (M 12 0) (M 14) f ((mz_fr (M 15 2) (g_X2_nextRoomToScene_1 M g f) (f, -1)).1))
set_option maxHeartbeats 4000000 in
theorem f_X2_nextRoomToScene (l : Launch) (D : va_G) (cA : Nat → ClassId) (ρ : Nat → Nat) (hI : mz_I ρ mz_lay1) (M : mz_Mem) (g : Int32) (f : Int32) : mz_M l D vwCl cA ρ mz_lay1 yX2_nextRoomToScene cX2_nextRoomToScene 8 (some .int) 2 43 [.ref 30, .int g, .int f] M (some (.int (g_X2_nextRoomToScene M g f))) M := by
  refine mz_in0 (by decide +kernel) (Nat.le_of_ble_eq_true rfl) (fun Γ C E => ?_)
  have E' := (⟨_, _, _, E⟩ : ∃ Qc mc ms, mz_E Γ Qc mc ms (mz_A ρ mz_lay1))
  refine mz_go FLX2 KLX2 C [(0, .iload_n 2), (1, .istore_n 3), (2, .iconst (-1)), (3, .istore 4), (5, .iconst 0), (6, .istore 5)] (by decide +kernel) (pc' := 8) (L' := [(5, .int 0), (4, .int (-1)), (3, .int f), (0, .ref 30), (1, .int g), (2, .int f)]) (st' := []) rfl ?_
  refine mz_sub (L' := [(0, .ref 30), (1, .int g), (2, .int f), (3, .int f), (4, .int (-1)), (5, .int 0)]) (by simp) ?_
  refine mz_loop (M 15 2) (g_X2_nextRoomToScene_1 M g f) (fun (i : Int32) (a : Int32 × Int32) => mz_W Γ ρ 8 0 0 (mz_H D vwCl cA ρ mz_lay1 M) 8 [(0, .ref 30), (1, .int g), (2, .int f), (3, .int a.1), (4, .int a.2), (5, .int i)] []) (f, -1) (fun i2 a3 hi4 hx5 hb6 => ?_)
  refine mz_go FLX2 KLX2 C [(8, .iload 5), (10, .aload_n 0), (11, .getfield 24), (14, .getfield 149)] (by decide +kernel) (pc' := 17) (L' := [(0, .ref 30), (1, .int g), (2, .int f), (3, .int a3.1), (4, .int a3.2), (5, .int i2)]) (st' := [.int (M 15 2), .int i2]) rfl ?_
  refine mz_ige (off := 89) (tgt := 106) C (by decide +kernel) (by decide) (fun h1 => ?_) (fun h1 => ?_)
  · have e10 := hx5 h1
    subst e10
    refine mz_sub (L' := [(0, .ref 30), (1, .int g), (2, .int f), (3, .int ((mz_fr (M 15 2) (g_X2_nextRoomToScene_1 M g f) (f, -1)).1)), (4, .int ((mz_fr (M 15 2) (g_X2_nextRoomToScene_1 M g f) (f, -1)).2))]) (by simp) ?_
    refine mz_go FLX2 KLX2 C [(106, .aload_n 0), (107, .getfield 20), (110, .getfield 138), (113, .iload_n 2), (114, .iload_n 3)] (by decide +kernel) (pc' := 115) (L' := [(0, .ref 30), (1, .int g), (2, .int f), (3, .int ((mz_fr (M 15 2) (g_X2_nextRoomToScene_1 M g f) (f, -1)).1)), (4, .int ((mz_fr (M 15 2) (g_X2_nextRoomToScene_1 M g f) (f, -1)).2))]) (st' := [.int ((mz_fr (M 15 2) (g_X2_nextRoomToScene_1 M g f) (f, -1)).1), .int f, .ref 12]) rfl ?_
    refine mz_callV (As := [.int f, .int ((mz_fr (M 15 2) (g_X2_nextRoomToScene_1 M g f) (f, -1)).1)]) (rest := []) C E' (f_Grid_get l D cA ρ hI (g := 12) (r := 13) (a := 14) (n := 64) rfl rfl rfl (by decide) M f ((mz_fr (M 15 2) (g_X2_nextRoomToScene_1 M g f) (f, -1)).1)) hy_X3_get wl_X2_143 rfl rfl rfl ⟨Nat.le_of_ble_eq_true rfl, Nat.le_of_ble_eq_true rfl⟩ ⟨Nat.le_refl _, Nat.le_refl _⟩ (Nat.le_of_ble_eq_true rfl) (by decide +kernel) ?_ rfl
    exact mz_iret C E (by decide +kernel) (rfl) (rfl)
  · refine mz_go FLX2 KLX2 C [(20, .aload_n 0), (21, .getfield 24), (24, .getfield 130), (27, .iload 5)] (by decide +kernel) (pc' := 29) (L' := [(0, .ref 30), (1, .int g), (2, .int f), (3, .int a3.1), (4, .int a3.2), (5, .int i2)]) (st' := [.int i2, .ref 20]) rfl ?_
    refine mz_callV (As := [.int i2]) (rest := []) C E' (f_Row_get l D cA ρ hI (r := 20) (a := 21) (n := 12) rfl rfl (by decide) M i2) hy_X6_get wl_X2_121 rfl rfl rfl ⟨Nat.le_of_ble_eq_true rfl, Nat.le_of_ble_eq_true rfl⟩ ⟨Nat.le_refl _, Nat.le_refl _⟩ (Nat.le_of_ble_eq_true rfl) (by decide +kernel) ?_ rfl
    refine mz_go FLX2 KLX2 C [(32, .istore 6), (34, .aload_n 0), (35, .getfield 20), (38, .getfield 258), (41, .iload_n 2), (42, .iload 6)] (by decide +kernel) (pc' := 44) (L' := [(6, .int (mz_rg 12 (M 21) i2)), (0, .ref 30), (1, .int g), (2, .int f), (3, .int a3.1), (4, .int a3.2), (5, .int i2)]) (st' := [.int (mz_rg 12 (M 21) i2), .int f, .ref 9]) rfl ?_
    refine mz_callV (As := [.int f, .int (mz_rg 12 (M 21) i2)]) (rest := []) C E' (f_Grid_get l D cA ρ hI (g := 9) (r := 10) (a := 11) (n := 64) rfl rfl rfl (by decide) M f (mz_rg 12 (M 21) i2)) hy_X3_get wl_X2_143 rfl rfl rfl ⟨Nat.le_of_ble_eq_true rfl, Nat.le_of_ble_eq_true rfl⟩ ⟨Nat.le_refl _, Nat.le_refl _⟩ (Nat.le_of_ble_eq_true rfl) (by decide +kernel) ?_ rfl
    refine mz_go FLX2 KLX2 C [(47, .istore 7), (49, .aload_n 0), (50, .getfield 40), (53, .iload 5)] (by decide +kernel) (pc' := 55) (L' := [(7, .int (mz_gg 64 (M 9 0) (M 11) f (mz_rg 12 (M 21) i2))), (6, .int (mz_rg 12 (M 21) i2)), (0, .ref 30), (1, .int g), (2, .int f), (3, .int a3.1), (4, .int a3.2), (5, .int i2)]) (st' := [.int i2, .ref 40]) rfl ?_
    refine mz_callV (As := [.int i2]) (rest := []) C E' (f_X8_runs l D cA ρ hI M i2) hy_X8_runs wl_X2_152 rfl rfl rfl ⟨Nat.le_of_ble_eq_true rfl, Nat.le_of_ble_eq_true rfl⟩ ⟨Nat.le_refl _, Nat.le_refl _⟩ (Nat.le_of_ble_eq_true rfl) (by decide +kernel) ?_ rfl
    refine mz_zeq (off := 42) (tgt := 100) C (by decide +kernel) (by decide) (fun h11 => ?_) (fun h11 => ?_)
    · refine mz_go FLX2 KLX2 C [(100, .iinc 5 1), (103, .goto (-95))] (by decide +kernel) (pc' := 8) (L' := [(5, .int (i2 + 1)), (7, .int (mz_gg 64 (M 9 0) (M 11) f (mz_rg 12 (M 21) i2))), (6, .int (mz_rg 12 (M 21) i2)), (0, .ref 30), (1, .int g), (2, .int f), (3, .int a3.1), (4, .int a3.2)]) (st' := []) rfl ?_
      have hb12 := hb6 h1
      rw [show g_X2_nextRoomToScene_1 M g f i2 a3 = (a3.1, a3.2) from by unfold g_X2_nextRoomToScene_1; rw [if_pos h11]] at hb12
      exact mz_sub (by simp) hb12
    · refine mz_go FLX2 KLX2 C [(61, .aload_n 0), (62, .getfield 54), (65, .iload_n 1), (66, .iload 5)] (by decide +kernel) (pc' := 68) (L' := [(7, .int (mz_gg 64 (M 9 0) (M 11) f (mz_rg 12 (M 21) i2))), (6, .int (mz_rg 12 (M 21) i2)), (0, .ref 30), (1, .int g), (2, .int f), (3, .int a3.1), (4, .int a3.2), (5, .int i2)]) (st' := [.int i2, .int g, .ref 60]) rfl ?_
      refine mz_callV (As := [.int g, .int i2]) (rest := []) C E' (f_X0_knows l D cA ρ hI M g i2) hy_X0_knows wl_X2_261 rfl rfl rfl ⟨Nat.le_of_ble_eq_true rfl, Nat.le_of_ble_eq_true rfl⟩ ⟨Nat.le_refl _, Nat.le_refl _⟩ (Nat.le_of_ble_eq_true rfl) (by decide +kernel) ?_ rfl
      refine mz_zne (off := 29) (tgt := 100) C (by decide +kernel) (by decide) (fun h13 => ?_) (fun h13 => ?_)
      · refine mz_go FLX2 KLX2 C [(100, .iinc 5 1), (103, .goto (-95))] (by decide +kernel) (pc' := 8) (L' := [(5, .int (i2 + 1)), (7, .int (mz_gg 64 (M 9 0) (M 11) f (mz_rg 12 (M 21) i2))), (6, .int (mz_rg 12 (M 21) i2)), (0, .ref 30), (1, .int g), (2, .int f), (3, .int a3.1), (4, .int a3.2)]) (st' := []) rfl ?_
        have hb14 := hb6 h1
        rw [show g_X2_nextRoomToScene_1 M g f i2 a3 = (a3.1, a3.2) from by unfold g_X2_nextRoomToScene_1; rw [if_neg h11, if_neg h13]] at hb14
        exact mz_sub (by simp) hb14
      · refine mz_go FLX2 KLX2 C [(74, .iload 7), (76, .iconst (-1))] (by decide +kernel) (pc' := 77) (L' := [(7, .int (mz_gg 64 (M 9 0) (M 11) f (mz_rg 12 (M 21) i2))), (6, .int (mz_rg 12 (M 21) i2)), (0, .ref 30), (1, .int g), (2, .int f), (3, .int a3.1), (4, .int a3.2), (5, .int i2)]) (st' := [.int (-1), .int (mz_gg 64 (M 9 0) (M 11) f (mz_rg 12 (M 21) i2))]) rfl ?_
        refine mz_ieq (off := 23) (tgt := 100) C (by decide +kernel) (by decide) (fun h15 => ?_) (fun h15 => ?_)
        · refine mz_go FLX2 KLX2 C [(100, .iinc 5 1), (103, .goto (-95))] (by decide +kernel) (pc' := 8) (L' := [(5, .int (i2 + 1)), (7, .int (mz_gg 64 (M 9 0) (M 11) f (mz_rg 12 (M 21) i2))), (6, .int (mz_rg 12 (M 21) i2)), (0, .ref 30), (1, .int g), (2, .int f), (3, .int a3.1), (4, .int a3.2)]) (st' := []) rfl ?_
          have hb16 := hb6 h1
          rw [show g_X2_nextRoomToScene_1 M g f i2 a3 = (a3.1, a3.2) from by unfold g_X2_nextRoomToScene_1; rw [if_neg h11, if_pos h13, if_pos h15]] at hb16
          exact mz_sub (by simp) hb16
        · refine mz_go FLX2 KLX2 C [(80, .iload 4), (82, .iconst (-1))] (by decide +kernel) (pc' := 83) (L' := [(7, .int (mz_gg 64 (M 9 0) (M 11) f (mz_rg 12 (M 21) i2))), (6, .int (mz_rg 12 (M 21) i2)), (0, .ref 30), (1, .int g), (2, .int f), (3, .int a3.1), (4, .int a3.2), (5, .int i2)]) (st' := [.int (-1), .int a3.2]) rfl ?_
          refine mz_ieq (off := 10) (tgt := 93) C (by decide +kernel) (by decide) (fun h17 => ?_) (fun h17 => ?_)
          · refine mz_go FLX2 KLX2 C [(93, .iload 6), (95, .istore_n 3), (96, .iload 7), (98, .istore 4), (100, .iinc 5 1), (103, .goto (-95))] (by decide +kernel) (pc' := 8) (L' := [(5, .int (i2 + 1)), (4, .int (mz_gg 64 (M 9 0) (M 11) f (mz_rg 12 (M 21) i2))), (3, .int (mz_rg 12 (M 21) i2)), (7, .int (mz_gg 64 (M 9 0) (M 11) f (mz_rg 12 (M 21) i2))), (6, .int (mz_rg 12 (M 21) i2)), (0, .ref 30), (1, .int g), (2, .int f)]) (st' := []) rfl ?_
            have hb18 := hb6 h1
            rw [show g_X2_nextRoomToScene_1 M g f i2 a3 = (mz_rg 12 (M 21) i2, mz_gg 64 (M 9 0) (M 11) f (mz_rg 12 (M 21) i2)) from by unfold g_X2_nextRoomToScene_1; rw [if_neg h11, if_pos h13, if_neg h15, if_pos h17]] at hb18
            exact mz_sub (by simp) hb18
          · refine mz_go FLX2 KLX2 C [(86, .iload 7), (88, .iload 4)] (by decide +kernel) (pc' := 90) (L' := [(7, .int (mz_gg 64 (M 9 0) (M 11) f (mz_rg 12 (M 21) i2))), (6, .int (mz_rg 12 (M 21) i2)), (0, .ref 30), (1, .int g), (2, .int f), (3, .int a3.1), (4, .int a3.2), (5, .int i2)]) (st' := [.int a3.2, .int (mz_gg 64 (M 9 0) (M 11) f (mz_rg 12 (M 21) i2))]) rfl ?_
            refine mz_ige (off := 10) (tgt := 100) C (by decide +kernel) (by decide) (fun h19 => ?_) (fun h19 => ?_)
            · refine mz_go FLX2 KLX2 C [(100, .iinc 5 1), (103, .goto (-95))] (by decide +kernel) (pc' := 8) (L' := [(5, .int (i2 + 1)), (7, .int (mz_gg 64 (M 9 0) (M 11) f (mz_rg 12 (M 21) i2))), (6, .int (mz_rg 12 (M 21) i2)), (0, .ref 30), (1, .int g), (2, .int f), (3, .int a3.1), (4, .int a3.2)]) (st' := []) rfl ?_
              have hb20 := hb6 h1
              rw [show g_X2_nextRoomToScene_1 M g f i2 a3 = (a3.1, a3.2) from by unfold g_X2_nextRoomToScene_1; rw [if_neg h11, if_pos h13, if_neg h15, if_neg h17, if_pos h19]] at hb20
              exact mz_sub (by simp) hb20
            · refine mz_go FLX2 KLX2 C [(93, .iload 6), (95, .istore_n 3), (96, .iload 7), (98, .istore 4), (100, .iinc 5 1), (103, .goto (-95))] (by decide +kernel) (pc' := 8) (L' := [(5, .int (i2 + 1)), (4, .int (mz_gg 64 (M 9 0) (M 11) f (mz_rg 12 (M 21) i2))), (3, .int (mz_rg 12 (M 21) i2)), (7, .int (mz_gg 64 (M 9 0) (M 11) f (mz_rg 12 (M 21) i2))), (6, .int (mz_rg 12 (M 21) i2)), (0, .ref 30), (1, .int g), (2, .int f)]) (st' := []) rfl ?_
              have hb21 := hb6 h1
              rw [show g_X2_nextRoomToScene_1 M g f i2 a3 = (mz_rg 12 (M 21) i2, mz_gg 64 (M 9 0) (M 11) f (mz_rg 12 (M 21) i2)) from by unfold g_X2_nextRoomToScene_1; rw [if_neg h11, if_pos h13, if_neg h15, if_neg h17, if_neg h19]] at hb21
              exact mz_sub (by simp) hb21
def g_X2_nextRoomOf (M : mz_Mem) (g : Int32) (f : Int32) : Int32 := if (mz_rg 12 (M 64) g) = 1 then (mz_gg 64 (M 12 0) (M 14) f (mz_rg 5 (M 35) (mz_rg 12 (M 66) g))) else if (mz_rg 12 (M 64) g) = 2 then (g_X2_emptierRoom M f) else if (mz_rg 12 (M 64) g) = 3 then (g_X2_nextRoomToScene M g f) else f
set_option maxHeartbeats 4000000 in
theorem f_X2_nextRoomOf (l : Launch) (D : va_G) (cA : Nat → ClassId) (ρ : Nat → Nat) (hI : mz_I ρ mz_lay1) (M : mz_Mem) (g : Int32) (f : Int32) : mz_M l D vwCl cA ρ mz_lay1 yX2_nextRoomOf cX2_nextRoomOf 3 (some .int) 3 70 [.ref 30, .int g, .int f] M (some (.int (g_X2_nextRoomOf M g f))) M := by
  refine mz_in0 (by decide +kernel) (Nat.le_of_ble_eq_true rfl) (fun Γ C E => ?_)
  have E' := (⟨_, _, _, E⟩ : ∃ Qc mc ms, mz_E Γ Qc mc ms (mz_A ρ mz_lay1))
  refine mz_go FLX2 KLX2 C [(0, .aload_n 0), (1, .getfield 54), (4, .getfield 240), (7, .iload_n 1)] (by decide +kernel) (pc' := 8) (L' := [(0, .ref 30), (1, .int g), (2, .int f)]) (st' := [.int g, .ref 63]) rfl ?_
  refine mz_callV (As := [.int g]) (rest := []) C E' (f_Row_get l D cA ρ hI (r := 63) (a := 64) (n := 12) rfl rfl (by decide) M g) hy_X6_get wl_X2_121 rfl rfl rfl ⟨Nat.le_of_ble_eq_true rfl, Nat.le_of_ble_eq_true rfl⟩ ⟨Nat.le_refl _, Nat.le_refl _⟩ (Nat.le_of_ble_eq_true rfl) (by decide +kernel) ?_ rfl
  by_cases h1 : (mz_rg 12 (M 64) g) = 1
  · refine mz_tin (dflt := 71) (lo := 1) (hi := 3) (offs := #[25, 58, 64]) (len := 25) (q := 1) (v := 1) (off := 25) (tgt := 36) C (by decide +kernel) h1 (by decide) (by decide) rfl (by decide) ?_
    refine mz_go FLX2 KLX2 C [(36, .aload_n 0), (37, .getfield 20), (40, .getfield 138), (43, .iload_n 2), (44, .aload_n 0), (45, .getfield 33), (48, .getfield 137), (51, .aload_n 0), (52, .getfield 54), (55, .getfield 243), (58, .iload_n 1)] (by decide +kernel) (pc' := 59) (L' := [(0, .ref 30), (1, .int g), (2, .int f)]) (st' := [.int g, .ref 65, .ref 34, .int f, .ref 12]) rfl ?_
    refine mz_callV (As := [.int g]) (rest := [.ref 34, .int f, .ref 12]) C E' (f_Row_get l D cA ρ hI (r := 65) (a := 66) (n := 12) rfl rfl (by decide) M g) hy_X6_get wl_X2_121 rfl rfl rfl ⟨Nat.le_of_ble_eq_true rfl, Nat.le_of_ble_eq_true rfl⟩ ⟨Nat.le_refl _, Nat.le_refl _⟩ (Nat.le_of_ble_eq_true rfl) (by decide +kernel) ?_ rfl
    refine mz_callV (As := [.int (mz_rg 12 (M 66) g)]) (rest := [.int f, .ref 12]) C E' (f_Row_get l D cA ρ hI (r := 34) (a := 35) (n := 5) rfl rfl (by decide) M (mz_rg 12 (M 66) g)) hy_X6_get wl_X2_121 rfl rfl rfl ⟨Nat.le_of_ble_eq_true rfl, Nat.le_of_ble_eq_true rfl⟩ ⟨Nat.le_refl _, Nat.le_refl _⟩ (Nat.le_of_ble_eq_true rfl) (by decide +kernel) ?_ rfl
    refine mz_callV (As := [.int f, .int (mz_rg 5 (M 35) (mz_rg 12 (M 66) g))]) (rest := []) C E' (f_Grid_get l D cA ρ hI (g := 12) (r := 13) (a := 14) (n := 64) rfl rfl rfl (by decide) M f (mz_rg 5 (M 35) (mz_rg 12 (M 66) g))) hy_X3_get wl_X2_143 rfl rfl rfl ⟨Nat.le_of_ble_eq_true rfl, Nat.le_of_ble_eq_true rfl⟩ ⟨Nat.le_refl _, Nat.le_refl _⟩ (Nat.le_of_ble_eq_true rfl) (by decide +kernel) ?_ rfl
    exact mz_iret C E (by decide +kernel) (by unfold g_X2_nextRoomOf; rw [if_pos h1]; try rfl) (rfl)
  by_cases h2 : (mz_rg 12 (M 64) g) = 2
  · refine mz_tin (dflt := 71) (lo := 1) (hi := 3) (offs := #[25, 58, 64]) (len := 25) (q := 2) (v := 2) (off := 58) (tgt := 69) C (by decide +kernel) h2 (by decide) (by decide) rfl (by decide) ?_
    refine mz_go FLX2 KLX2 C [(69, .aload_n 0), (70, .iload_n 2)] (by decide +kernel) (pc' := 71) (L' := [(0, .ref 30), (1, .int g), (2, .int f)]) (st' := [.int f, .ref 30]) rfl ?_
    refine mz_callV (As := [.int f]) (rest := []) C E' (f_X2_emptierRoom l D cA ρ hI M f) hy_X2_emptierRoom wl_X2_246 rfl rfl rfl ⟨Nat.le_of_ble_eq_true rfl, Nat.le_of_ble_eq_true rfl⟩ ⟨Nat.le_refl _, Nat.le_refl _⟩ (Nat.le_of_ble_eq_true rfl) (by decide +kernel) ?_ rfl
    exact mz_iret C E (by decide +kernel) (by unfold g_X2_nextRoomOf; rw [if_neg h1, if_pos h2]; try rfl) (rfl)
  by_cases h3 : (mz_rg 12 (M 64) g) = 3
  · refine mz_tin (dflt := 71) (lo := 1) (hi := 3) (offs := #[25, 58, 64]) (len := 25) (q := 3) (v := 3) (off := 64) (tgt := 75) C (by decide +kernel) h3 (by decide) (by decide) rfl (by decide) ?_
    refine mz_go FLX2 KLX2 C [(75, .aload_n 0), (76, .iload_n 1), (77, .iload_n 2)] (by decide +kernel) (pc' := 78) (L' := [(0, .ref 30), (1, .int g), (2, .int f)]) (st' := [.int f, .int g, .ref 30]) rfl ?_
    refine mz_callV (As := [.int g, .int f]) (rest := []) C E' (f_X2_nextRoomToScene l D cA ρ hI M g f) hy_X2_nextRoomToScene wl_X2_249 rfl rfl rfl ⟨Nat.le_of_ble_eq_true rfl, Nat.le_of_ble_eq_true rfl⟩ ⟨Nat.le_refl _, Nat.le_refl _⟩ (Nat.le_of_ble_eq_true rfl) (by decide +kernel) ?_ rfl
    exact mz_iret C E (by decide +kernel) (by unfold g_X2_nextRoomOf; rw [if_neg h1, if_neg h2, if_pos h3]; try rfl) (rfl)
  refine mz_tout (dflt := 71) (lo := 1) (hi := 3) (offs := #[25, 58, 64]) (len := 25) (tgt := 82) C (by decide +kernel) (by have := mz_ne_toInt (v := 1) (by decide) h1; have := mz_ne_toInt (v := 2) (by decide) h2; have := mz_ne_toInt (v := 3) (by decide) h3; omega) (by decide) ?_
  refine mz_go FLX2 KLX2 C [(82, .iload_n 2)] (by decide +kernel) (pc' := 83) (L' := [(0, .ref 30), (1, .int g), (2, .int f)]) (st' := [.int f]) rfl ?_
  exact mz_iret C E (by decide +kernel) (by unfold g_X2_nextRoomOf; rw [if_neg h1, if_neg h2, if_neg h3]; try rfl) (rfl)
def g_X2_moveGuest (M : mz_Mem) (g : Int32) (to_ : Int32) (d : Int32) : mz_Mem := if (mz_rg 14 (M 5) d) ≤ (mz_rg 14 (M 32) d) then (mz_s M 72 (mz_ra 12 (M 72) g 1)) else if (g_X2_isFull M to_) = 0 then (g_X0_walk (mz_s M 32 (mz_ra 14 (M 32) d 1)) g to_) else (mz_s M 72 (mz_ra 12 (M 72) g 1))
theorem g_X2_moveGuest_hs (M : mz_Mem) (g : Int32) (to_ : Int32) (d : Int32) : mz_hs M (g_X2_moveGuest M g to_ d) := by
  unfold g_X2_moveGuest
  by_cases h1 : (mz_rg 14 (M 5) d) ≤ (mz_rg 14 (M 32) d)
  · rw [if_pos h1]
    exact mz_hs_s (by decide)
  · rw [if_neg h1]
    by_cases h2 : (g_X2_isFull M to_) = 0
    · rw [if_pos h2]
      exact (mz_hs_s (by decide)).trans (g_X0_walk_hs (mz_s M 32 (mz_ra 14 (M 32) d 1)) g to_)
    · rw [if_neg h2]
      exact mz_hs_s (by decide)

set_option maxHeartbeats 4000000 in
theorem f_X2_moveGuest (l : Launch) (D : va_G) (cA : Nat → ClassId) (ρ : Nat → Nat) (hI : mz_I ρ mz_lay1) (M : mz_Mem) (g : Int32) (to_ : Int32) (d : Int32) : mz_M l D vwCl cA ρ mz_lay1 yX2_moveGuest cX2_moveGuest 4 none 2 44 [.ref 30, .int g, .int to_, .int d] M none (g_X2_moveGuest M g to_ d) := by
  refine mz_in0 (by decide +kernel) (Nat.le_of_ble_eq_true rfl) (fun Γ C E => ?_)
  have E' := (⟨_, _, _, E⟩ : ∃ Qc mc ms, mz_E Γ Qc mc ms (mz_A ρ mz_lay1))
  refine mz_go FLX2 KLX2 C [(0, .aload_n 0), (1, .getfield 14), (4, .iload_n 3)] (by decide +kernel) (pc' := 5) (L' := [(0, .ref 30), (1, .int g), (2, .int to_), (3, .int d)]) (st' := [.int d, .ref 31]) rfl ?_
  refine mz_callV (As := [.int d]) (rest := []) C E' (f_Row_get l D cA ρ hI (r := 31) (a := 32) (n := 14) rfl rfl (by decide) M d) hy_X6_get wl_X2_121 rfl rfl rfl ⟨Nat.le_of_ble_eq_true rfl, Nat.le_of_ble_eq_true rfl⟩ ⟨Nat.le_refl _, Nat.le_refl _⟩ (Nat.le_of_ble_eq_true rfl) (by decide +kernel) ?_ rfl
  refine mz_go FLX2 KLX2 C [(8, .aload_n 0), (9, .getfield 20), (12, .getfield 221), (15, .iload_n 3)] (by decide +kernel) (pc' := 16) (L' := [(0, .ref 30), (1, .int g), (2, .int to_), (3, .int d)]) (st' := [.int d, .ref 4, .int (mz_rg 14 (M 32) d)]) rfl ?_
  refine mz_callV (As := [.int d]) (rest := [.int (mz_rg 14 (M 32) d)]) C E' (f_Row_get l D cA ρ hI (r := 4) (a := 5) (n := 14) rfl rfl (by decide) M d) hy_X6_get wl_X2_121 rfl rfl rfl ⟨Nat.le_of_ble_eq_true rfl, Nat.le_of_ble_eq_true rfl⟩ ⟨Nat.le_refl _, Nat.le_refl _⟩ (Nat.le_of_ble_eq_true rfl) (by decide +kernel) ?_ rfl
  refine mz_ige (off := 32) (tgt := 51) C (by decide +kernel) (by decide) (fun h1 => ?_) (fun h1 => ?_)
  · refine mz_go FLX2 KLX2 C [(51, .aload_n 0), (52, .getfield 54), (55, .getfield 231), (58, .iload_n 1), (59, .iconst 1)] (by decide +kernel) (pc' := 60) (L' := [(0, .ref 30), (1, .int g), (2, .int to_), (3, .int d)]) (st' := [.int 1, .int g, .ref 71]) rfl ?_
    refine mz_callV (As := [.int g, .int 1]) (rest := []) C E' (f_Row_add l D cA ρ hI (r := 71) (a := 72) (n := 12) rfl rfl (by decide) M g 1) hy_X6_add wl_X2_227 rfl rfl rfl ⟨Nat.le_of_ble_eq_true rfl, Nat.le_of_ble_eq_true rfl⟩ ⟨Nat.le_refl _, Nat.le_refl _⟩ (Nat.le_of_ble_eq_true rfl) (by decide +kernel) ?_ rfl
    exact mz_vret C E (by decide +kernel) (by unfold g_X2_moveGuest; rw [if_pos h1]; try rfl)
  · refine mz_go FLX2 KLX2 C [(22, .aload_n 0), (23, .iload_n 2)] (by decide +kernel) (pc' := 24) (L' := [(0, .ref 30), (1, .int g), (2, .int to_), (3, .int d)]) (st' := [.int to_, .ref 30]) rfl ?_
    refine mz_callV (As := [.int to_]) (rest := []) C E' (f_X2_isFull l D cA ρ hI M to_) hy_X2_isFull wl_X2_224 rfl rfl rfl ⟨Nat.le_of_ble_eq_true rfl, Nat.le_of_ble_eq_true rfl⟩ ⟨Nat.le_refl _, Nat.le_refl _⟩ (Nat.le_of_ble_eq_true rfl) (by decide +kernel) ?_ rfl
    refine mz_zne (off := 24) (tgt := 51) C (by decide +kernel) (by decide) (fun h2 => ?_) (fun h2 => ?_)
    · refine mz_go FLX2 KLX2 C [(51, .aload_n 0), (52, .getfield 54), (55, .getfield 231), (58, .iload_n 1), (59, .iconst 1)] (by decide +kernel) (pc' := 60) (L' := [(0, .ref 30), (1, .int g), (2, .int to_), (3, .int d)]) (st' := [.int 1, .int g, .ref 71]) rfl ?_
      refine mz_callV (As := [.int g, .int 1]) (rest := []) C E' (f_Row_add l D cA ρ hI (r := 71) (a := 72) (n := 12) rfl rfl (by decide) M g 1) hy_X6_add wl_X2_227 rfl rfl rfl ⟨Nat.le_of_ble_eq_true rfl, Nat.le_of_ble_eq_true rfl⟩ ⟨Nat.le_refl _, Nat.le_refl _⟩ (Nat.le_of_ble_eq_true rfl) (by decide +kernel) ?_ rfl
      exact mz_vret C E (by decide +kernel) (by unfold g_X2_moveGuest; rw [if_neg h1, if_neg h2]; try rfl)
    · refine mz_go FLX2 KLX2 C [(30, .aload_n 0), (31, .getfield 14), (34, .iload_n 3), (35, .iconst 1)] (by decide +kernel) (pc' := 36) (L' := [(0, .ref 30), (1, .int g), (2, .int to_), (3, .int d)]) (st' := [.int 1, .int d, .ref 31]) rfl ?_
      refine mz_callV (As := [.int d, .int 1]) (rest := []) C E' (f_Row_add l D cA ρ hI (r := 31) (a := 32) (n := 14) rfl rfl (by decide) M d 1) hy_X6_add wl_X2_227 rfl rfl rfl ⟨Nat.le_of_ble_eq_true rfl, Nat.le_of_ble_eq_true rfl⟩ ⟨Nat.le_refl _, Nat.le_refl _⟩ (Nat.le_of_ble_eq_true rfl) (by decide +kernel) ?_ rfl
      refine mz_go FLX2 KLX2 C [(39, .aload_n 0), (40, .getfield 54), (43, .iload_n 1), (44, .iload_n 2)] (by decide +kernel) (pc' := 45) (L' := [(0, .ref 30), (1, .int g), (2, .int to_), (3, .int d)]) (st' := [.int to_, .int g, .ref 60]) rfl ?_
      refine mz_callV (As := [.int g, .int to_]) (rest := []) C E' (f_X0_walk l D cA ρ hI (mz_s M 32 (mz_ra 14 (M 32) d 1)) g to_) hy_X0_walk wl_X2_230 rfl rfl rfl ⟨Nat.le_of_ble_eq_true rfl, Nat.le_of_ble_eq_true rfl⟩ ⟨Nat.le_refl _, Nat.le_refl _⟩ (Nat.le_of_ble_eq_true rfl) (by decide +kernel) ?_ rfl
      refine mz_go FLX2 KLX2 C [(48, .goto 15)] (by decide +kernel) (pc' := 63) (L' := [(0, .ref 30), (1, .int g), (2, .int to_), (3, .int d)]) (st' := []) rfl ?_
      exact mz_vret C E (by decide +kernel) (by unfold g_X2_moveGuest; rw [if_neg h1, if_pos h2]; try rfl)
def g_X2_moveGuests_1 (M : mz_Mem) (i2 : Int32) (a3 : mz_Mem) : mz_Mem := if (g_X2_nextRoomOf a3 i2 (mz_rg 12 (a3 62) i2)) = (-1) then a3 else if (g_X2_nextRoomOf a3 i2 (mz_rg 12 (a3 62) i2)) = (mz_rg 12 (a3 62) i2) then a3 else (g_X2_moveGuest a3 i2 (g_X2_nextRoomOf a3 i2 (mz_rg 12 (a3 62) i2)) (mz_gg 64 (a3 6 0) (a3 8) (mz_rg 12 (a3 62) i2) (g_X2_nextRoomOf a3 i2 (mz_rg 12 (a3 62) i2))))
theorem g_X2_moveGuests_1_hs (M : mz_Mem) (i2 : Int32) (a3 : mz_Mem) : mz_hs a3 (g_X2_moveGuests_1 M i2 a3) := by
  unfold g_X2_moveGuests_1
  by_cases h1 : (g_X2_nextRoomOf a3 i2 (mz_rg 12 (a3 62) i2)) = (-1)
  · rw [if_pos h1]
    exact mz_hs_rf
  · rw [if_neg h1]
    by_cases h2 : (g_X2_nextRoomOf a3 i2 (mz_rg 12 (a3 62) i2)) = (mz_rg 12 (a3 62) i2)
    · rw [if_pos h2]
      exact mz_hs_rf
    · rw [if_neg h2]
      exact g_X2_moveGuest_hs a3 i2 (g_X2_nextRoomOf a3 i2 (mz_rg 12 (a3 62) i2)) (mz_gg 64 (a3 6 0) (a3 8) (mz_rg 12 (a3 62) i2) (g_X2_nextRoomOf a3 i2 (mz_rg 12 (a3 62) i2)))

def g_X2_moveGuests (M : mz_Mem) : mz_Mem := (mz_fr ((mz_s M 32 (fun _ => 0)) 60 0) (g_X2_moveGuests_1 M) (mz_s M 32 (fun _ => 0)))
theorem g_X2_moveGuests_hs (M : mz_Mem) : mz_hs M (g_X2_moveGuests M) := by
  unfold g_X2_moveGuests
  exact (mz_hs_s (by decide)).trans (mz_hs_frp (fun (a : mz_Mem) => a) (fun i a => g_X2_moveGuests_1_hs M i a))

set_option maxHeartbeats 4000000 in
theorem f_X2_moveGuests (l : Launch) (D : va_G) (cA : Nat → ClassId) (ρ : Nat → Nat) (hI : mz_I ρ mz_lay1) (M : mz_Mem) : mz_M l D vwCl cA ρ mz_lay1 yX2_moveGuests cX2_moveGuests 4 none 4 92 [.ref 30] M none (g_X2_moveGuests M) := by
  refine mz_in0 (by decide +kernel) (Nat.le_of_ble_eq_true rfl) (fun Γ C E => ?_)
  have E' := (⟨_, _, _, E⟩ : ∃ Qc mc ms, mz_E Γ Qc mc ms (mz_A ρ mz_lay1))
  refine mz_go FLX2 KLX2 C [(0, .aload_n 0), (1, .getfield 14), (4, .iconst 0)] (by decide +kernel) (pc' := 5) (L' := [(0, .ref 30)]) (st' := [.int 0, .ref 31]) rfl ?_
  refine mz_callV (As := [.int 0]) (rest := []) C E' (f_Row_fill l D cA ρ hI (r := 31) (a := 32) (n := 14) rfl rfl (by decide) M 0) hy_X6_fill wl_X2_206 rfl rfl rfl ⟨Nat.le_of_ble_eq_true rfl, Nat.le_of_ble_eq_true rfl⟩ ⟨Nat.le_refl _, Nat.le_refl _⟩ (Nat.le_of_ble_eq_true rfl) (by decide +kernel) ?_ rfl
  refine mz_go FLX2 KLX2 C [(8, .iconst 0), (9, .istore_n 1)] (by decide +kernel) (pc' := 10) (L' := [(1, .int 0), (0, .ref 30)]) (st' := []) rfl ?_
  refine mz_sub (L' := [(0, .ref 30), (1, .int 0)]) (by simp) ?_
  refine mz_loopI ((mz_s M 32 (fun _ => 0)) 60 0) (g_X2_moveGuests_1 M) (fun (i : Int32) (a : mz_Mem) => mz_W Γ ρ 4 0 0 (mz_H D vwCl cA ρ mz_lay1 a) 10 [(0, .ref 30), (1, .int i)] []) (fun (a : mz_Mem) => a 60 0 = (mz_s M 32 (fun _ => 0)) 60 0) (mz_s M 32 (fun _ => 0)) rfl (fun i a h => ?_) (fun i2 a3 hi4 hv7 hx5 hb6 => ?_)
  · exact (congrFun (g_X2_moveGuests_1_hs M i a _ (by decide)) _).trans h
  have hv7 : a3 60 0 = (mz_s M 32 (fun _ => 0)) 60 0 := hv7
  refine mz_go FLX2 KLX2 C [(10, .iload_n 1), (11, .aload_n 0), (12, .getfield 54), (15, .getfield 207)] (by decide +kernel) (pc' := 18) (L' := [(0, .ref 30), (1, .int i2)]) (st' := [.int (a3 60 0), .int i2]) rfl ?_
  refine mz_ige (off := 56) (tgt := 74) C (by decide +kernel) (by decide) (fun h1 => ?_) (fun h1 => ?_)
  · have e10 := hx5 (by rw [hv7] at h1; exact h1)
    subst e10
    refine mz_sub (L' := [(0, .ref 30)]) (by simp) ?_
    exact mz_vret C E (by decide +kernel) (rfl)
  · refine mz_go FLX2 KLX2 C [(21, .aload_n 0), (22, .getfield 54), (25, .getfield 210), (28, .iload_n 1)] (by decide +kernel) (pc' := 29) (L' := [(0, .ref 30), (1, .int i2)]) (st' := [.int i2, .ref 61]) rfl ?_
    refine mz_callV (As := [.int i2]) (rest := []) C E' (f_Row_get l D cA ρ hI (r := 61) (a := 62) (n := 12) rfl rfl (by decide) a3 i2) hy_X6_get wl_X2_121 rfl rfl rfl ⟨Nat.le_of_ble_eq_true rfl, Nat.le_of_ble_eq_true rfl⟩ ⟨Nat.le_refl _, Nat.le_refl _⟩ (Nat.le_of_ble_eq_true rfl) (by decide +kernel) ?_ rfl
    refine mz_go FLX2 KLX2 C [(32, .istore_n 2), (33, .aload_n 0), (34, .iload_n 1), (35, .iload_n 2)] (by decide +kernel) (pc' := 36) (L' := [(2, .int (mz_rg 12 (a3 62) i2)), (0, .ref 30), (1, .int i2)]) (st' := [.int (mz_rg 12 (a3 62) i2), .int i2, .ref 30]) rfl ?_
    refine mz_callV (As := [.int i2, .int (mz_rg 12 (a3 62) i2)]) (rest := []) C E' (f_X2_nextRoomOf l D cA ρ hI a3 i2 (mz_rg 12 (a3 62) i2)) hy_X2_nextRoomOf wl_X2_211 rfl rfl rfl ⟨Nat.le_of_ble_eq_true rfl, Nat.le_of_ble_eq_true rfl⟩ ⟨Nat.le_refl _, Nat.le_refl _⟩ (Nat.le_of_ble_eq_true rfl) (by decide +kernel) ?_ rfl
    refine mz_go FLX2 KLX2 C [(39, .istore_n 3), (40, .iload_n 3), (41, .iconst (-1))] (by decide +kernel) (pc' := 42) (L' := [(3, .int (g_X2_nextRoomOf a3 i2 (mz_rg 12 (a3 62) i2))), (2, .int (mz_rg 12 (a3 62) i2)), (0, .ref 30), (1, .int i2)]) (st' := [.int (-1), .int (g_X2_nextRoomOf a3 i2 (mz_rg 12 (a3 62) i2))]) rfl ?_
    refine mz_ieq (off := 26) (tgt := 68) C (by decide +kernel) (by decide) (fun h11 => ?_) (fun h11 => ?_)
    · refine mz_go FLX2 KLX2 C [(68, .iinc 1 1), (71, .goto (-61))] (by decide +kernel) (pc' := 10) (L' := [(1, .int (i2 + 1)), (3, .int (g_X2_nextRoomOf a3 i2 (mz_rg 12 (a3 62) i2))), (2, .int (mz_rg 12 (a3 62) i2)), (0, .ref 30)]) (st' := []) rfl ?_
      have hb12 := hb6 (by rw [hv7] at h1; exact h1)
      rw [show g_X2_moveGuests_1 M i2 a3 = a3 from by unfold g_X2_moveGuests_1; rw [if_pos h11]] at hb12
      exact mz_sub (by simp) hb12
    · refine mz_go FLX2 KLX2 C [(45, .iload_n 3), (46, .iload_n 2)] (by decide +kernel) (pc' := 47) (L' := [(3, .int (g_X2_nextRoomOf a3 i2 (mz_rg 12 (a3 62) i2))), (2, .int (mz_rg 12 (a3 62) i2)), (0, .ref 30), (1, .int i2)]) (st' := [.int (mz_rg 12 (a3 62) i2), .int (g_X2_nextRoomOf a3 i2 (mz_rg 12 (a3 62) i2))]) rfl ?_
      refine mz_ieq (off := 21) (tgt := 68) C (by decide +kernel) (by decide) (fun h13 => ?_) (fun h13 => ?_)
      · refine mz_go FLX2 KLX2 C [(68, .iinc 1 1), (71, .goto (-61))] (by decide +kernel) (pc' := 10) (L' := [(1, .int (i2 + 1)), (3, .int (g_X2_nextRoomOf a3 i2 (mz_rg 12 (a3 62) i2))), (2, .int (mz_rg 12 (a3 62) i2)), (0, .ref 30)]) (st' := []) rfl ?_
        have hb14 := hb6 (by rw [hv7] at h1; exact h1)
        rw [show g_X2_moveGuests_1 M i2 a3 = a3 from by unfold g_X2_moveGuests_1; rw [if_neg h11, if_pos h13]] at hb14
        exact mz_sub (by simp) hb14
      · refine mz_go FLX2 KLX2 C [(50, .aload_n 0), (51, .iload_n 1), (52, .iload_n 3), (53, .aload_n 0), (54, .getfield 20), (57, .getfield 214), (60, .iload_n 2), (61, .iload_n 3)] (by decide +kernel) (pc' := 62) (L' := [(3, .int (g_X2_nextRoomOf a3 i2 (mz_rg 12 (a3 62) i2))), (2, .int (mz_rg 12 (a3 62) i2)), (0, .ref 30), (1, .int i2)]) (st' := [.int (g_X2_nextRoomOf a3 i2 (mz_rg 12 (a3 62) i2)), .int (mz_rg 12 (a3 62) i2), .ref 6, .int (g_X2_nextRoomOf a3 i2 (mz_rg 12 (a3 62) i2)), .int i2, .ref 30]) rfl ?_
        refine mz_callV (As := [.int (mz_rg 12 (a3 62) i2), .int (g_X2_nextRoomOf a3 i2 (mz_rg 12 (a3 62) i2))]) (rest := [.int (g_X2_nextRoomOf a3 i2 (mz_rg 12 (a3 62) i2)), .int i2, .ref 30]) C E' (f_Grid_get l D cA ρ hI (g := 6) (r := 7) (a := 8) (n := 64) rfl rfl rfl (by decide) a3 (mz_rg 12 (a3 62) i2) (g_X2_nextRoomOf a3 i2 (mz_rg 12 (a3 62) i2))) hy_X3_get wl_X2_143 rfl rfl rfl ⟨Nat.le_of_ble_eq_true rfl, Nat.le_of_ble_eq_true rfl⟩ ⟨Nat.le_refl _, Nat.le_refl _⟩ (Nat.le_of_ble_eq_true rfl) (by decide +kernel) ?_ rfl
        refine mz_callV (As := [.int i2, .int (g_X2_nextRoomOf a3 i2 (mz_rg 12 (a3 62) i2)), .int (mz_gg 64 (a3 6 0) (a3 8) (mz_rg 12 (a3 62) i2) (g_X2_nextRoomOf a3 i2 (mz_rg 12 (a3 62) i2)))]) (rest := []) C E' (f_X2_moveGuest l D cA ρ hI a3 i2 (g_X2_nextRoomOf a3 i2 (mz_rg 12 (a3 62) i2)) (mz_gg 64 (a3 6 0) (a3 8) (mz_rg 12 (a3 62) i2) (g_X2_nextRoomOf a3 i2 (mz_rg 12 (a3 62) i2)))) hy_X2_moveGuest wl_X2_217 rfl rfl rfl ⟨Nat.le_of_ble_eq_true rfl, Nat.le_of_ble_eq_true rfl⟩ ⟨Nat.le_refl _, Nat.le_refl _⟩ (Nat.le_of_ble_eq_true rfl) (by decide +kernel) ?_ rfl
        refine mz_go FLX2 KLX2 C [(68, .iinc 1 1), (71, .goto (-61))] (by decide +kernel) (pc' := 10) (L' := [(1, .int (i2 + 1)), (3, .int (g_X2_nextRoomOf a3 i2 (mz_rg 12 (a3 62) i2))), (2, .int (mz_rg 12 (a3 62) i2)), (0, .ref 30)]) (st' := []) rfl ?_
        have hb15 := hb6 (by rw [hv7] at h1; exact h1)
        rw [show g_X2_moveGuests_1 M i2 a3 = (g_X2_moveGuest a3 i2 (g_X2_nextRoomOf a3 i2 (mz_rg 12 (a3 62) i2)) (mz_gg 64 (a3 6 0) (a3 8) (mz_rg 12 (a3 62) i2) (g_X2_nextRoomOf a3 i2 (mz_rg 12 (a3 62) i2)))) from by unfold g_X2_moveGuests_1; rw [if_neg h11, if_neg h13]] at hb15
        exact mz_sub (by simp) hb15
def g_X2_showScene_1 (M : mz_Mem) (k : Int32) (i2 : Int32) (a3 : Int32 × mz_Mem) : Int32 × mz_Mem := if a3.1 ≤ 0 then a3 else if (mz_rg 12 (a3.2 62) i2) = (mz_rg 12 (M 21) k) then (a3.1 + (-1), (g_X0_see a3.2 i2 k (((mz_rg 12 (M 25) k) + 1) / 2))) else (a3.1, a3.2)
theorem g_X2_showScene_1_hs (M : mz_Mem) (k : Int32) (i2 : Int32) (a3 : Int32 × mz_Mem) : mz_hs a3.2 (g_X2_showScene_1 M k i2 a3).2 := by
  unfold g_X2_showScene_1
  by_cases h1 : a3.1 ≤ 0
  · rw [if_pos h1]
    exact mz_hs_rf
  · rw [if_neg h1]
    by_cases h2 : (mz_rg 12 (a3.2 62) i2) = (mz_rg 12 (M 21) k)
    · rw [if_pos h2]
      exact g_X0_see_hs a3.2 i2 k (((mz_rg 12 (M 25) k) + 1) / 2)
    · rw [if_neg h2]
      exact mz_hs_rf

def g_X2_showScene (M : mz_Mem) (k : Int32) : mz_Mem := (mz_fr (M 60 0) (g_X2_showScene_1 M k) (((mz_rg 8 (M 3) (mz_rg 12 (M 21) k)) + 1) / 2, M)).2
theorem g_X2_showScene_hs (M : mz_Mem) (k : Int32) : mz_hs M (g_X2_showScene M k) := by
  unfold g_X2_showScene
  exact mz_hs_frp (fun (a : Int32 × mz_Mem) => a.2) (fun i a => g_X2_showScene_1_hs M k i a)

set_option maxHeartbeats 4000000 in
theorem f_X2_showScene (l : Launch) (D : va_G) (cA : Nat → ClassId) (ρ : Nat → Nat) (hI : mz_I ρ mz_lay1) (M : mz_Mem) (k : Int32) : mz_M l D vwCl cA ρ mz_lay1 yX2_showScene cX2_showScene 6 none 3 69 [.ref 30, .int k] M none (g_X2_showScene M k) := by
  refine mz_in0 (by decide +kernel) (Nat.le_of_ble_eq_true rfl) (fun Γ C E => ?_)
  have E' := (⟨_, _, _, E⟩ : ∃ Qc mc ms, mz_E Γ Qc mc ms (mz_A ρ mz_lay1))
  refine mz_go FLX2 KLX2 C [(0, .aload_n 0), (1, .getfield 24), (4, .getfield 130), (7, .iload_n 1)] (by decide +kernel) (pc' := 8) (L' := [(0, .ref 30), (1, .int k)]) (st' := [.int k, .ref 20]) rfl ?_
  refine mz_callV (As := [.int k]) (rest := []) C E' (f_Row_get l D cA ρ hI (r := 20) (a := 21) (n := 12) rfl rfl (by decide) M k) hy_X6_get wl_X2_121 rfl rfl rfl ⟨Nat.le_of_ble_eq_true rfl, Nat.le_of_ble_eq_true rfl⟩ ⟨Nat.le_refl _, Nat.le_refl _⟩ (Nat.le_of_ble_eq_true rfl) (by decide +kernel) ?_ rfl
  refine mz_go FLX2 KLX2 C [(11, .istore_n 2), (12, .aload_n 0), (13, .getfield 20), (16, .getfield 237), (19, .iload_n 2)] (by decide +kernel) (pc' := 20) (L' := [(2, .int (mz_rg 12 (M 21) k)), (0, .ref 30), (1, .int k)]) (st' := [.int (mz_rg 12 (M 21) k), .ref 2]) rfl ?_
  refine mz_callV (As := [.int (mz_rg 12 (M 21) k)]) (rest := []) C E' (f_Row_get l D cA ρ hI (r := 2) (a := 3) (n := 8) rfl rfl (by decide) M (mz_rg 12 (M 21) k)) hy_X6_get wl_X2_121 rfl rfl rfl ⟨Nat.le_of_ble_eq_true rfl, Nat.le_of_ble_eq_true rfl⟩ ⟨Nat.le_refl _, Nat.le_refl _⟩ (Nat.le_of_ble_eq_true rfl) (by decide +kernel) ?_ rfl
  refine mz_go FLX2 KLX2 C [(23, .iconst 1), (24, .iadd), (25, .iconst 2)] (by decide +kernel) (pc' := 26) (L' := [(2, .int (mz_rg 12 (M 21) k)), (0, .ref 30), (1, .int k)]) (st' := [.int 2, .int ((mz_rg 8 (M 3) (mz_rg 12 (M 21) k)) + 1)]) rfl ?_
  refine mz_idiv C (by decide) (by decide +kernel) ?_
  refine mz_go FLX2 KLX2 C [(27, .istore_n 3), (28, .aload_n 0), (29, .getfield 24), (32, .getfield 267), (35, .iload_n 1)] (by decide +kernel) (pc' := 36) (L' := [(3, .int (((mz_rg 8 (M 3) (mz_rg 12 (M 21) k)) + 1) / 2)), (2, .int (mz_rg 12 (M 21) k)), (0, .ref 30), (1, .int k)]) (st' := [.int k, .ref 24]) rfl ?_
  refine mz_callV (As := [.int k]) (rest := []) C E' (f_Row_get l D cA ρ hI (r := 24) (a := 25) (n := 12) rfl rfl (by decide) M k) hy_X6_get wl_X2_121 rfl rfl rfl ⟨Nat.le_of_ble_eq_true rfl, Nat.le_of_ble_eq_true rfl⟩ ⟨Nat.le_refl _, Nat.le_refl _⟩ (Nat.le_of_ble_eq_true rfl) (by decide +kernel) ?_ rfl
  refine mz_go FLX2 KLX2 C [(39, .iconst 1), (40, .iadd), (41, .iconst 2)] (by decide +kernel) (pc' := 42) (L' := [(3, .int (((mz_rg 8 (M 3) (mz_rg 12 (M 21) k)) + 1) / 2)), (2, .int (mz_rg 12 (M 21) k)), (0, .ref 30), (1, .int k)]) (st' := [.int 2, .int ((mz_rg 12 (M 25) k) + 1)]) rfl ?_
  refine mz_idiv C (by decide) (by decide +kernel) ?_
  refine mz_go FLX2 KLX2 C [(43, .istore 4), (45, .iconst 0), (46, .istore 5)] (by decide +kernel) (pc' := 48) (L' := [(5, .int 0), (4, .int (((mz_rg 12 (M 25) k) + 1) / 2)), (3, .int (((mz_rg 8 (M 3) (mz_rg 12 (M 21) k)) + 1) / 2)), (2, .int (mz_rg 12 (M 21) k)), (0, .ref 30), (1, .int k)]) (st' := []) rfl ?_
  refine mz_sub (L' := [(0, .ref 30), (1, .int k), (2, .int (mz_rg 12 (M 21) k)), (3, .int (((mz_rg 8 (M 3) (mz_rg 12 (M 21) k)) + 1) / 2)), (4, .int (((mz_rg 12 (M 25) k) + 1) / 2)), (5, .int 0)]) (by simp) ?_
  refine mz_loopB (M 60 0) (g_X2_showScene_1 M k) (fun (i : Int32) (a : Int32 × mz_Mem) => mz_W Γ ρ 6 0 0 (mz_H D vwCl cA ρ mz_lay1 a.2) 48 [(0, .ref 30), (1, .int k), (2, .int (mz_rg 12 (M 21) k)), (3, .int a.1), (4, .int (((mz_rg 12 (M 25) k) + 1) / 2)), (5, .int i)] []) (fun (a : Int32 × mz_Mem) => a.2 60 0 = M 60 0) (fun (a : Int32 × mz_Mem) => a.1 ≤ 0) (((mz_rg 8 (M 3) (mz_rg 12 (M 21) k)) + 1) / 2, M) rfl (fun i a h => ?_) (fun i a h => ?_) (fun i2 a3 hi4 hv7 hx5 hk9 hb6 => ?_)
  · exact (congrFun (g_X2_showScene_1_hs M k i a _ (by decide)) _).trans h
  · unfold g_X2_showScene_1; rw [if_pos h]
  have hv7 : a3.2 60 0 = M 60 0 := hv7
  refine mz_go FLX2 KLX2 C [(48, .iload 5), (50, .aload_n 0), (51, .getfield 54), (54, .getfield 207)] (by decide +kernel) (pc' := 57) (L' := [(0, .ref 30), (1, .int k), (2, .int (mz_rg 12 (M 21) k)), (3, .int a3.1), (4, .int (((mz_rg 12 (M 25) k) + 1) / 2)), (5, .int i2)]) (st' := [.int (a3.2 60 0), .int i2]) rfl ?_
  refine mz_ige (off := 44) (tgt := 101) C (by decide +kernel) (by decide) (fun h1 => ?_) (fun h1 => ?_)
  · have e10 := hx5 (by rw [hv7] at h1; exact h1)
    subst e10
    refine mz_sub (L' := [(0, .ref 30), (1, .int k), (2, .int (mz_rg 12 (M 21) k)), (3, .int ((mz_fr (M 60 0) (g_X2_showScene_1 M k) (((mz_rg 8 (M 3) (mz_rg 12 (M 21) k)) + 1) / 2, M)).1)), (4, .int (((mz_rg 12 (M 25) k) + 1) / 2))]) (by simp) ?_
    exact mz_vret C E (by decide +kernel) (rfl)
  · refine mz_go FLX2 KLX2 C [(60, .iload_n 3)] (by decide +kernel) (pc' := 61) (L' := [(0, .ref 30), (1, .int k), (2, .int (mz_rg 12 (M 21) k)), (3, .int a3.1), (4, .int (((mz_rg 12 (M 25) k) + 1) / 2)), (5, .int i2)]) (st' := [.int a3.1]) rfl ?_
    refine mz_zle (off := 40) (tgt := 101) C (by decide +kernel) (by decide) (fun h8 => ?_) (fun h8 => ?_)
    · have e11 := hk9 (by rw [hv7] at h1; exact h1) h8
      subst e11
      refine mz_sub (L' := [(0, .ref 30), (1, .int k), (2, .int (mz_rg 12 (M 21) k)), (3, .int ((mz_fr (M 60 0) (g_X2_showScene_1 M k) (((mz_rg 8 (M 3) (mz_rg 12 (M 21) k)) + 1) / 2, M)).1)), (4, .int (((mz_rg 12 (M 25) k) + 1) / 2))]) (by simp) ?_
      exact mz_vret C E (by decide +kernel) (rfl)
    · refine mz_go FLX2 KLX2 C [(64, .aload_n 0), (65, .getfield 54), (68, .getfield 210), (71, .iload 5)] (by decide +kernel) (pc' := 73) (L' := [(0, .ref 30), (1, .int k), (2, .int (mz_rg 12 (M 21) k)), (3, .int a3.1), (4, .int (((mz_rg 12 (M 25) k) + 1) / 2)), (5, .int i2)]) (st' := [.int i2, .ref 61]) rfl ?_
      refine mz_callV (As := [.int i2]) (rest := []) C E' (f_Row_get l D cA ρ hI (r := 61) (a := 62) (n := 12) rfl rfl (by decide) a3.2 i2) hy_X6_get wl_X2_121 rfl rfl rfl ⟨Nat.le_of_ble_eq_true rfl, Nat.le_of_ble_eq_true rfl⟩ ⟨Nat.le_refl _, Nat.le_refl _⟩ (Nat.le_of_ble_eq_true rfl) (by decide +kernel) ?_ rfl
      refine mz_go FLX2 KLX2 C [(76, .iload_n 2)] (by decide +kernel) (pc' := 77) (L' := [(0, .ref 30), (1, .int k), (2, .int (mz_rg 12 (M 21) k)), (3, .int a3.1), (4, .int (((mz_rg 12 (M 25) k) + 1) / 2)), (5, .int i2)]) (st' := [.int (mz_rg 12 (M 21) k), .int (mz_rg 12 (a3.2 62) i2)]) rfl ?_
      refine mz_ine (off := 18) (tgt := 95) C (by decide +kernel) (by decide) (fun h12 => ?_) (fun h12 => ?_)
      · refine mz_go FLX2 KLX2 C [(95, .iinc 5 1), (98, .goto (-50))] (by decide +kernel) (pc' := 48) (L' := [(5, .int (i2 + 1)), (0, .ref 30), (1, .int k), (2, .int (mz_rg 12 (M 21) k)), (3, .int a3.1), (4, .int (((mz_rg 12 (M 25) k) + 1) / 2))]) (st' := []) rfl ?_
        have hb13 := hb6 (by rw [hv7] at h1; exact h1)
        rw [show g_X2_showScene_1 M k i2 a3 = (a3.1, a3.2) from by unfold g_X2_showScene_1; rw [if_neg h8, if_neg h12]] at hb13
        exact mz_sub (by simp) hb13
      · refine mz_go FLX2 KLX2 C [(80, .aload_n 0), (81, .getfield 54), (84, .iload 5), (86, .iload_n 1), (87, .iload 4)] (by decide +kernel) (pc' := 89) (L' := [(0, .ref 30), (1, .int k), (2, .int (mz_rg 12 (M 21) k)), (3, .int a3.1), (4, .int (((mz_rg 12 (M 25) k) + 1) / 2)), (5, .int i2)]) (st' := [.int (((mz_rg 12 (M 25) k) + 1) / 2), .int k, .int i2, .ref 60]) rfl ?_
        refine mz_callV (As := [.int i2, .int k, .int (((mz_rg 12 (M 25) k) + 1) / 2)]) (rest := []) C E' (f_X0_see l D cA ρ hI a3.2 i2 k (((mz_rg 12 (M 25) k) + 1) / 2)) hy_X0_see wl_X2_270 rfl rfl rfl ⟨Nat.le_of_ble_eq_true rfl, Nat.le_of_ble_eq_true rfl⟩ ⟨Nat.le_refl _, Nat.le_refl _⟩ (Nat.le_of_ble_eq_true rfl) (by decide +kernel) ?_ rfl
        refine mz_go FLX2 KLX2 C [(92, .iinc 3 (-1)), (95, .iinc 5 1), (98, .goto (-50))] (by decide +kernel) (pc' := 48) (L' := [(5, .int (i2 + 1)), (3, .int (a3.1 + (-1))), (0, .ref 30), (1, .int k), (2, .int (mz_rg 12 (M 21) k)), (4, .int (((mz_rg 12 (M 25) k) + 1) / 2))]) (st' := []) rfl ?_
        have hb14 := hb6 (by rw [hv7] at h1; exact h1)
        rw [show g_X2_showScene_1 M k i2 a3 = (a3.1 + (-1), (g_X0_see a3.2 i2 k (((mz_rg 12 (M 25) k) + 1) / 2))) from by unfold g_X2_showScene_1; rw [if_neg h8, if_pos h12]] at hb14
        exact mz_sub (by simp) hb14
def g_X2_showScenes_1 (M : mz_Mem) (i2 : Int32) (a3 : mz_Mem) : mz_Mem := if (g_X8_runs a3 i2) = 0 then a3 else (g_X2_showScene a3 i2)
theorem g_X2_showScenes_1_hs (M : mz_Mem) (i2 : Int32) (a3 : mz_Mem) : mz_hs a3 (g_X2_showScenes_1 M i2 a3) := by
  unfold g_X2_showScenes_1
  by_cases h1 : (g_X8_runs a3 i2) = 0
  · rw [if_pos h1]
    exact mz_hs_rf
  · rw [if_neg h1]
    exact g_X2_showScene_hs a3 i2

def g_X2_showScenes (M : mz_Mem) : mz_Mem := (mz_fr (M 15 2) (g_X2_showScenes_1 M) M)
theorem g_X2_showScenes_hs (M : mz_Mem) : mz_hs M (g_X2_showScenes M) := by
  unfold g_X2_showScenes
  exact mz_hs_frp (fun (a : mz_Mem) => a) (fun i a => g_X2_showScenes_1_hs M i a)

set_option maxHeartbeats 4000000 in
theorem f_X2_showScenes (l : Launch) (D : va_G) (cA : Nat → ClassId) (ρ : Nat → Nat) (hI : mz_I ρ mz_lay1) (M : mz_Mem) : mz_M l D vwCl cA ρ mz_lay1 yX2_showScenes cX2_showScenes 2 none 4 94 [.ref 30] M none (g_X2_showScenes M) := by
  refine mz_in0 (by decide +kernel) (Nat.le_of_ble_eq_true rfl) (fun Γ C E => ?_)
  have E' := (⟨_, _, _, E⟩ : ∃ Qc mc ms, mz_E Γ Qc mc ms (mz_A ρ mz_lay1))
  refine mz_go FLX2 KLX2 C [(0, .iconst 0), (1, .istore_n 1)] (by decide +kernel) (pc' := 2) (L' := [(1, .int 0), (0, .ref 30)]) (st' := []) rfl ?_
  refine mz_sub (L' := [(0, .ref 30), (1, .int 0)]) (by simp) ?_
  refine mz_loopI (M 15 2) (g_X2_showScenes_1 M) (fun (i : Int32) (a : mz_Mem) => mz_W Γ ρ 2 0 0 (mz_H D vwCl cA ρ mz_lay1 a) 2 [(0, .ref 30), (1, .int i)] []) (fun (a : mz_Mem) => a 15 2 = M 15 2) M rfl (fun i a h => ?_) (fun i2 a3 hi4 hv7 hx5 hb6 => ?_)
  · exact (congrFun (g_X2_showScenes_1_hs M i a _ (by decide)) _).trans h
  have hv7 : a3 15 2 = M 15 2 := hv7
  refine mz_go FLX2 KLX2 C [(2, .iload_n 1), (3, .aload_n 0), (4, .getfield 24), (7, .getfield 149)] (by decide +kernel) (pc' := 10) (L' := [(0, .ref 30), (1, .int i2)]) (st' := [.int (a3 15 2), .int i2]) rfl ?_
  refine mz_ige (off := 25) (tgt := 35) C (by decide +kernel) (by decide) (fun h1 => ?_) (fun h1 => ?_)
  · have e10 := hx5 (by rw [hv7] at h1; exact h1)
    subst e10
    refine mz_sub (L' := [(0, .ref 30)]) (by simp) ?_
    exact mz_vret C E (by decide +kernel) (rfl)
  · refine mz_go FLX2 KLX2 C [(13, .aload_n 0), (14, .getfield 40), (17, .iload_n 1)] (by decide +kernel) (pc' := 18) (L' := [(0, .ref 30), (1, .int i2)]) (st' := [.int i2, .ref 40]) rfl ?_
    refine mz_callV (As := [.int i2]) (rest := []) C E' (f_X8_runs l D cA ρ hI a3 i2) hy_X8_runs wl_X2_152 rfl rfl rfl ⟨Nat.le_of_ble_eq_true rfl, Nat.le_of_ble_eq_true rfl⟩ ⟨Nat.le_refl _, Nat.le_refl _⟩ (Nat.le_of_ble_eq_true rfl) (by decide +kernel) ?_ rfl
    refine mz_zeq (off := 8) (tgt := 29) C (by decide +kernel) (by decide) (fun h11 => ?_) (fun h11 => ?_)
    · refine mz_go FLX2 KLX2 C [(29, .iinc 1 1), (32, .goto (-30))] (by decide +kernel) (pc' := 2) (L' := [(1, .int (i2 + 1)), (0, .ref 30)]) (st' := []) rfl ?_
      have hb12 := hb6 (by rw [hv7] at h1; exact h1)
      rw [show g_X2_showScenes_1 M i2 a3 = a3 from by unfold g_X2_showScenes_1; rw [if_pos h11]] at hb12
      exact mz_sub (by simp) hb12
    · refine mz_go FLX2 KLX2 C [(24, .aload_n 0), (25, .iload_n 1)] (by decide +kernel) (pc' := 26) (L' := [(0, .ref 30), (1, .int i2)]) (st' := [.int i2, .ref 30]) rfl ?_
      refine mz_callV (As := [.int i2]) (rest := []) C E' (f_X2_showScene l D cA ρ hI a3 i2) hy_X2_showScene wl_X2_264 rfl rfl rfl ⟨Nat.le_of_ble_eq_true rfl, Nat.le_of_ble_eq_true rfl⟩ ⟨Nat.le_refl _, Nat.le_refl _⟩ (Nat.le_of_ble_eq_true rfl) (by decide +kernel) ?_ rfl
      refine mz_go FLX2 KLX2 C [(29, .iinc 1 1), (32, .goto (-30))] (by decide +kernel) (pc' := 2) (L' := [(1, .int (i2 + 1)), (0, .ref 30)]) (st' := []) rfl ?_
      have hb13 := hb6 (by rw [hv7] at h1; exact h1)
      rw [show g_X2_showScenes_1 M i2 a3 = (g_X2_showScene a3 i2) from by unfold g_X2_showScenes_1; rw [if_neg h11]] at hb13
      exact mz_sub (by simp) hb13
def g_X2_beginLoop (M : mz_Mem) : mz_Mem := (mz_s (g_X5_goHome (g_X8_restart M)) 75 (fun _ => 0))
theorem g_X2_beginLoop_hs (M : mz_Mem) : mz_hs M (g_X2_beginLoop M) := by
  unfold g_X2_beginLoop
  exact ((g_X8_restart_hs M ).trans (g_X5_goHome_hs (g_X8_restart M) )).trans (mz_hs_s (by decide))

set_option maxHeartbeats 4000000 in
theorem f_X2_beginLoop (l : Launch) (D : va_G) (cA : Nat → ClassId) (ρ : Nat → Nat) (hI : mz_I ρ mz_lay1) (M : mz_Mem) : mz_M l D vwCl cA ρ mz_lay1 yX2_beginLoop cX2_beginLoop 1 none 3 65 [.ref 30] M none (g_X2_beginLoop M) := by
  refine mz_in0 (by decide +kernel) (Nat.le_of_ble_eq_true rfl) (fun Γ C E => ?_)
  have E' := (⟨_, _, _, E⟩ : ∃ Qc mc ms, mz_E Γ Qc mc ms (mz_A ρ mz_lay1))
  refine mz_go FLX2 KLX2 C [(0, .aload_n 0), (1, .getfield 40)] (by decide +kernel) (pc' := 4) (L' := [(0, .ref 30)]) (st' := [.ref 40]) rfl ?_
  refine mz_callV (As := []) (rest := []) C E' (f_X8_restart l D cA ρ hI M ) hy_X8_restart wl_X2_90 rfl rfl rfl ⟨Nat.le_of_ble_eq_true rfl, Nat.le_of_ble_eq_true rfl⟩ ⟨Nat.le_refl _, Nat.le_refl _⟩ (Nat.le_of_ble_eq_true rfl) (by decide +kernel) ?_ rfl
  refine mz_go FLX2 KLX2 C [(7, .aload_n 0), (8, .getfield 47)] (by decide +kernel) (pc' := 11) (L' := [(0, .ref 30)]) (st' := [.ref 51]) rfl ?_
  refine mz_callV (As := []) (rest := []) C E' (f_X5_goHome l D cA ρ hI (g_X8_restart M) ) hy_X5_goHome wl_X2_93 rfl rfl rfl ⟨Nat.le_of_ble_eq_true rfl, Nat.le_of_ble_eq_true rfl⟩ ⟨Nat.le_refl _, Nat.le_refl _⟩ (Nat.le_of_ble_eq_true rfl) (by decide +kernel) ?_ rfl
  refine mz_go FLX2 KLX2 C [(14, .aload_n 0), (15, .getfield 54), (18, .getfield 96), (21, .iconst 0)] (by decide +kernel) (pc' := 22) (L' := [(0, .ref 30)]) (st' := [.int 0, .ref 73]) rfl ?_
  refine mz_callV (As := [.int 0]) (rest := []) C E' (f_Grid_fill l D cA ρ hI (g := 73) (r := 74) (a := 75) (n := 144) rfl rfl rfl (by decide) (g_X5_goHome (g_X8_restart M)) 0) hy_X3_fill wl_X2_100 rfl rfl rfl ⟨Nat.le_of_ble_eq_true rfl, Nat.le_of_ble_eq_true rfl⟩ ⟨Nat.le_refl _, Nat.le_refl _⟩ (Nat.le_of_ble_eq_true rfl) (by decide +kernel) ?_ rfl
  exact mz_vret C E (by decide +kernel) (rfl)
def g_X2_run_1 (M : mz_Mem) (m : Int32) (i2 : Int32) (a3 : mz_Mem) : mz_Mem := if (((mz_s a3 30 (upd (a3 30) 7 ((a3 30 7) + 1))) 30 7) - ((mz_s a3 30 (upd (a3 30) 7 ((a3 30 7) + 1))) 30 7) / 20 * 20) = 0 then (g_X2_showScenes (g_X2_moveGuests (g_X2_performScenes (g_X2_moveTracks (g_X2_beginLoop (mz_s a3 30 (upd (a3 30) 7 ((a3 30 7) + 1)))))))) else (g_X2_showScenes (g_X2_moveGuests (g_X2_performScenes (g_X2_moveTracks (mz_s a3 30 (upd (a3 30) 7 ((a3 30 7) + 1)))))))
theorem g_X2_run_1_hs (M : mz_Mem) (m : Int32) (i2 : Int32) (a3 : mz_Mem) : mz_hs a3 (g_X2_run_1 M m i2 a3) := by
  unfold g_X2_run_1
  by_cases h1 : (((mz_s a3 30 (upd (a3 30) 7 ((a3 30 7) + 1))) 30 7) - ((mz_s a3 30 (upd (a3 30) 7 ((a3 30 7) + 1))) 30 7) / 20 * 20) = 0
  · rw [if_pos h1]
    exact (((((mz_hs_s (by decide)).trans (g_X2_beginLoop_hs (mz_s a3 30 (upd (a3 30) 7 ((a3 30 7) + 1))) )).trans (g_X2_moveTracks_hs (g_X2_beginLoop (mz_s a3 30 (upd (a3 30) 7 ((a3 30 7) + 1)))) )).trans (g_X2_performScenes_hs (g_X2_moveTracks (g_X2_beginLoop (mz_s a3 30 (upd (a3 30) 7 ((a3 30 7) + 1))))) )).trans (g_X2_moveGuests_hs (g_X2_performScenes (g_X2_moveTracks (g_X2_beginLoop (mz_s a3 30 (upd (a3 30) 7 ((a3 30 7) + 1)))))) )).trans (g_X2_showScenes_hs (g_X2_moveGuests (g_X2_performScenes (g_X2_moveTracks (g_X2_beginLoop (mz_s a3 30 (upd (a3 30) 7 ((a3 30 7) + 1))))))) )
  · rw [if_neg h1]
    exact ((((mz_hs_s (by decide)).trans (g_X2_moveTracks_hs (mz_s a3 30 (upd (a3 30) 7 ((a3 30 7) + 1))) )).trans (g_X2_performScenes_hs (g_X2_moveTracks (mz_s a3 30 (upd (a3 30) 7 ((a3 30 7) + 1)))) )).trans (g_X2_moveGuests_hs (g_X2_performScenes (g_X2_moveTracks (mz_s a3 30 (upd (a3 30) 7 ((a3 30 7) + 1))))) )).trans (g_X2_showScenes_hs (g_X2_moveGuests (g_X2_performScenes (g_X2_moveTracks (mz_s a3 30 (upd (a3 30) 7 ((a3 30 7) + 1)))))) )

def g_X2_run (M : mz_Mem) (m : Int32) : mz_Mem := (mz_fr m (g_X2_run_1 M m) M)
theorem g_X2_run_hs (M : mz_Mem) (m : Int32) : mz_hs M (g_X2_run M m) := by
  unfold g_X2_run
  exact mz_hs_frp (fun (a : mz_Mem) => a) (fun i a => g_X2_run_1_hs M m i a)

set_option maxHeartbeats 4000000 in
theorem f_X2_run (l : Launch) (D : va_G) (cA : Nat → ClassId) (ρ : Nat → Nat) (hI : mz_I ρ mz_lay1) (M : mz_Mem) (m : Int32) : mz_M l D vwCl cA ρ mz_lay1 yX2_run cX2_run 3 none 5 116 [.ref 30, .int m] M none (g_X2_run M m) := by
  refine mz_in0 (by decide +kernel) (Nat.le_of_ble_eq_true rfl) (fun Γ C E => ?_)
  have E' := (⟨_, _, _, E⟩ : ∃ Qc mc ms, mz_E Γ Qc mc ms (mz_A ρ mz_lay1))
  refine mz_go FLX2 KLX2 C [(0, .iconst 0), (1, .istore_n 2)] (by decide +kernel) (pc' := 2) (L' := [(2, .int 0), (0, .ref 30), (1, .int m)]) (st' := []) rfl ?_
  refine mz_sub (L' := [(0, .ref 30), (1, .int m), (2, .int 0)]) (by simp) ?_
  refine mz_loopI m (g_X2_run_1 M m) (fun (i : Int32) (a : mz_Mem) => mz_W Γ ρ 3 0 0 (mz_H D vwCl cA ρ mz_lay1 a) 2 [(0, .ref 30), (1, .int m), (2, .int i)] []) (fun (a : mz_Mem) => True) M trivial (fun i a h => ?_) (fun i2 a3 hi4 hv7 hx5 hb6 => ?_)
  · trivial
  have hv7 : True := hv7
  refine mz_go FLX2 KLX2 C [(2, .iload_n 2), (3, .iload_n 1)] (by decide +kernel) (pc' := 4) (L' := [(0, .ref 30), (1, .int m), (2, .int i2)]) (st' := [.int m, .int i2]) rfl ?_
  refine mz_ige (off := 49) (tgt := 53) C (by decide +kernel) (by decide) (fun h1 => ?_) (fun h1 => ?_)
  · have e10 := hx5 h1
    subst e10
    refine mz_sub (L' := [(0, .ref 30), (1, .int m)]) (by simp) ?_
    exact mz_vret C E (by decide +kernel) (rfl)
  · refine mz_go FLX2 KLX2 C [(7, .aload_n 0), (8, .dup), (9, .getfield 58), (12, .iconst 1), (13, .iadd)] (by decide +kernel) (pc' := 14) (L' := [(0, .ref 30), (1, .int m), (2, .int i2)]) (st' := [.int ((a3 30 7) + 1), .ref 30]) rfl ?_
    refine mz_put (id := 30) (ci := 2) (j := 7) (T := TX2) (N := 8) C E' hI rfl rfl rfl (by decide) iu_X2 tyX2 tyX2_ok nmX2 wf_X2_58 rfl (by decide +kernel) (by decide +kernel) ?_
    refine mz_go FLX2 KLX2 C [(17, .aload_n 0), (18, .getfield 58), (21, .bipush 20)] (by decide +kernel) (pc' := 23) (L' := [(0, .ref 30), (1, .int m), (2, .int i2)]) (st' := [.int 20, .int ((mz_s a3 30 (upd (a3 30) 7 ((a3 30 7) + 1))) 30 7)]) rfl ?_
    refine mz_irem C (by decide) (by decide +kernel) ?_
    refine mz_zne (off := 7) (tgt := 31) C (by decide +kernel) (by decide) (fun h11 => ?_) (fun h11 => ?_)
    · refine mz_go FLX2 KLX2 C [(31, .aload_n 0)] (by decide +kernel) (pc' := 32) (L' := [(0, .ref 30), (1, .int m), (2, .int i2)]) (st' := [.ref 30]) rfl ?_
      refine mz_callV (As := []) (rest := []) C E' (f_X2_moveTracks l D cA ρ hI (mz_s a3 30 (upd (a3 30) 7 ((a3 30 7) + 1))) ) hy_X2_moveTracks wl_X2_78 rfl rfl rfl ⟨Nat.le_of_ble_eq_true rfl, Nat.le_of_ble_eq_true rfl⟩ ⟨Nat.le_refl _, Nat.le_refl _⟩ (Nat.le_of_ble_eq_true rfl) (by decide +kernel) ?_ rfl
      refine mz_go FLX2 KLX2 C [(35, .aload_n 0)] (by decide +kernel) (pc' := 36) (L' := [(0, .ref 30), (1, .int m), (2, .int i2)]) (st' := [.ref 30]) rfl ?_
      refine mz_callV (As := []) (rest := []) C E' (f_X2_performScenes l D cA ρ hI (g_X2_moveTracks (mz_s a3 30 (upd (a3 30) 7 ((a3 30 7) + 1)))) ) hy_X2_performScenes wl_X2_81 rfl rfl rfl ⟨Nat.le_of_ble_eq_true rfl, Nat.le_of_ble_eq_true rfl⟩ ⟨Nat.le_refl _, Nat.le_refl _⟩ (Nat.le_of_ble_eq_true rfl) (by decide +kernel) ?_ rfl
      refine mz_go FLX2 KLX2 C [(39, .aload_n 0)] (by decide +kernel) (pc' := 40) (L' := [(0, .ref 30), (1, .int m), (2, .int i2)]) (st' := [.ref 30]) rfl ?_
      refine mz_callV (As := []) (rest := []) C E' (f_X2_moveGuests l D cA ρ hI (g_X2_performScenes (g_X2_moveTracks (mz_s a3 30 (upd (a3 30) 7 ((a3 30 7) + 1))))) ) hy_X2_moveGuests wl_X2_84 rfl rfl rfl ⟨Nat.le_of_ble_eq_true rfl, Nat.le_of_ble_eq_true rfl⟩ ⟨Nat.le_refl _, Nat.le_refl _⟩ (Nat.le_of_ble_eq_true rfl) (by decide +kernel) ?_ rfl
      refine mz_go FLX2 KLX2 C [(43, .aload_n 0)] (by decide +kernel) (pc' := 44) (L' := [(0, .ref 30), (1, .int m), (2, .int i2)]) (st' := [.ref 30]) rfl ?_
      refine mz_callV (As := []) (rest := []) C E' (f_X2_showScenes l D cA ρ hI (g_X2_moveGuests (g_X2_performScenes (g_X2_moveTracks (mz_s a3 30 (upd (a3 30) 7 ((a3 30 7) + 1)))))) ) hy_X2_showScenes wl_X2_87 rfl rfl rfl ⟨Nat.le_of_ble_eq_true rfl, Nat.le_of_ble_eq_true rfl⟩ ⟨Nat.le_refl _, Nat.le_refl _⟩ (Nat.le_of_ble_eq_true rfl) (by decide +kernel) ?_ rfl
      refine mz_go FLX2 KLX2 C [(47, .iinc 2 1), (50, .goto (-48))] (by decide +kernel) (pc' := 2) (L' := [(2, .int (i2 + 1)), (0, .ref 30), (1, .int m)]) (st' := []) rfl ?_
      have hb12 := hb6 h1
      rw [show g_X2_run_1 M m i2 a3 = (g_X2_showScenes (g_X2_moveGuests (g_X2_performScenes (g_X2_moveTracks (mz_s a3 30 (upd (a3 30) 7 ((a3 30 7) + 1))))))) from by unfold g_X2_run_1; rw [if_neg h11]] at hb12
      exact mz_sub (by simp) hb12
    · refine mz_go FLX2 KLX2 C [(27, .aload_n 0)] (by decide +kernel) (pc' := 28) (L' := [(0, .ref 30), (1, .int m), (2, .int i2)]) (st' := [.ref 30]) rfl ?_
      refine mz_callV (As := []) (rest := []) C E' (f_X2_beginLoop l D cA ρ hI (mz_s a3 30 (upd (a3 30) 7 ((a3 30 7) + 1))) ) hy_X2_beginLoop wl_X2_75 rfl rfl rfl ⟨Nat.le_of_ble_eq_true rfl, Nat.le_of_ble_eq_true rfl⟩ ⟨Nat.le_refl _, Nat.le_refl _⟩ (Nat.le_of_ble_eq_true rfl) (by decide +kernel) ?_ rfl
      refine mz_go FLX2 KLX2 C [(31, .aload_n 0)] (by decide +kernel) (pc' := 32) (L' := [(0, .ref 30), (1, .int m), (2, .int i2)]) (st' := [.ref 30]) rfl ?_
      refine mz_callV (As := []) (rest := []) C E' (f_X2_moveTracks l D cA ρ hI (g_X2_beginLoop (mz_s a3 30 (upd (a3 30) 7 ((a3 30 7) + 1)))) ) hy_X2_moveTracks wl_X2_78 rfl rfl rfl ⟨Nat.le_of_ble_eq_true rfl, Nat.le_of_ble_eq_true rfl⟩ ⟨Nat.le_refl _, Nat.le_refl _⟩ (Nat.le_of_ble_eq_true rfl) (by decide +kernel) ?_ rfl
      refine mz_go FLX2 KLX2 C [(35, .aload_n 0)] (by decide +kernel) (pc' := 36) (L' := [(0, .ref 30), (1, .int m), (2, .int i2)]) (st' := [.ref 30]) rfl ?_
      refine mz_callV (As := []) (rest := []) C E' (f_X2_performScenes l D cA ρ hI (g_X2_moveTracks (g_X2_beginLoop (mz_s a3 30 (upd (a3 30) 7 ((a3 30 7) + 1))))) ) hy_X2_performScenes wl_X2_81 rfl rfl rfl ⟨Nat.le_of_ble_eq_true rfl, Nat.le_of_ble_eq_true rfl⟩ ⟨Nat.le_refl _, Nat.le_refl _⟩ (Nat.le_of_ble_eq_true rfl) (by decide +kernel) ?_ rfl
      refine mz_go FLX2 KLX2 C [(39, .aload_n 0)] (by decide +kernel) (pc' := 40) (L' := [(0, .ref 30), (1, .int m), (2, .int i2)]) (st' := [.ref 30]) rfl ?_
      refine mz_callV (As := []) (rest := []) C E' (f_X2_moveGuests l D cA ρ hI (g_X2_performScenes (g_X2_moveTracks (g_X2_beginLoop (mz_s a3 30 (upd (a3 30) 7 ((a3 30 7) + 1)))))) ) hy_X2_moveGuests wl_X2_84 rfl rfl rfl ⟨Nat.le_of_ble_eq_true rfl, Nat.le_of_ble_eq_true rfl⟩ ⟨Nat.le_refl _, Nat.le_refl _⟩ (Nat.le_of_ble_eq_true rfl) (by decide +kernel) ?_ rfl
      refine mz_go FLX2 KLX2 C [(43, .aload_n 0)] (by decide +kernel) (pc' := 44) (L' := [(0, .ref 30), (1, .int m), (2, .int i2)]) (st' := [.ref 30]) rfl ?_
      refine mz_callV (As := []) (rest := []) C E' (f_X2_showScenes l D cA ρ hI (g_X2_moveGuests (g_X2_performScenes (g_X2_moveTracks (g_X2_beginLoop (mz_s a3 30 (upd (a3 30) 7 ((a3 30 7) + 1))))))) ) hy_X2_showScenes wl_X2_87 rfl rfl rfl ⟨Nat.le_of_ble_eq_true rfl, Nat.le_of_ble_eq_true rfl⟩ ⟨Nat.le_refl _, Nat.le_refl _⟩ (Nat.le_of_ble_eq_true rfl) (by decide +kernel) ?_ rfl
      refine mz_go FLX2 KLX2 C [(47, .iinc 2 1), (50, .goto (-48))] (by decide +kernel) (pc' := 2) (L' := [(2, .int (i2 + 1)), (0, .ref 30), (1, .int m)]) (st' := []) rfl ?_
      have hb13 := hb6 h1
      rw [show g_X2_run_1 M m i2 a3 = (g_X2_showScenes (g_X2_moveGuests (g_X2_performScenes (g_X2_moveTracks (g_X2_beginLoop (mz_s a3 30 (upd (a3 30) 7 ((a3 30 7) + 1)))))))) from by unfold g_X2_run_1; rw [if_pos h11]] at hb13
      exact mz_sub (by simp) hb13
