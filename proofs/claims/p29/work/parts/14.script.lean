def g_X7_areTracks (M : mz_Mem) (s : Int32) : Int32 := if s ≤ 0 then 0 else if (1 <<< ((M 15 0) &&& 31)) ≤ s then 0 else 1
set_option maxHeartbeats 4000000 in
theorem f_X7_areTracks (l : Launch) (D : va_G) (cA : Nat → ClassId) (ρ : Nat → Nat) (hI : mz_I ρ mz_lay1) (M : mz_Mem) (s : Int32) : mz_M l D vwCl cA ρ mz_lay1 yX7_areTracks cX7_areTracks 2 (some .boolean) 0 0 [.ref 15, .int s] M (some (.int (g_X7_areTracks M s))) M := by
  refine mz_in0 (by decide +kernel) (Nat.le_of_ble_eq_true rfl) (fun Γ C E => ?_)
  have E' := (⟨_, _, _, E⟩ : ∃ Qc mc ms, mz_E Γ Qc mc ms (mz_A ρ mz_lay1))
  refine mz_go FLX7 KLX7 C [(0, .iload_n 1)] (by decide +kernel) (pc' := 1) (L' := [(0, .ref 15), (1, .int s)]) (st' := [.int s]) rfl ?_
  refine mz_zle (off := 17) (tgt := 18) C (by decide +kernel) (by decide) (fun h1 => ?_) (fun h1 => ?_)
  · refine mz_go FLX7 KLX7 C [(18, .iconst 0)] (by decide +kernel) (pc' := 19) (L' := [(0, .ref 15), (1, .int s)]) (st' := [.int 0]) rfl ?_
    exact mz_zret C E (by decide +kernel) (Or.inl rfl) (by unfold g_X7_areTracks; rw [if_pos h1]; try rfl) (rfl)
  · refine mz_go FLX7 KLX7 C [(4, .iload_n 1), (5, .iconst 1), (6, .aload_n 0), (7, .getfield 38), (10, .ishl)] (by decide +kernel) (pc' := 11) (L' := [(0, .ref 15), (1, .int s)]) (st' := [.int (1 <<< ((M 15 0) &&& 31)), .int s]) rfl ?_
    refine mz_ige (off := 7) (tgt := 18) C (by decide +kernel) (by decide) (fun h2 => ?_) (fun h2 => ?_)
    · refine mz_go FLX7 KLX7 C [(18, .iconst 0)] (by decide +kernel) (pc' := 19) (L' := [(0, .ref 15), (1, .int s)]) (st' := [.int 0]) rfl ?_
      exact mz_zret C E (by decide +kernel) (Or.inl rfl) (by unfold g_X7_areTracks; rw [if_neg h1, if_pos h2]; try rfl) (rfl)
    · refine mz_go FLX7 KLX7 C [(14, .iconst 1), (15, .goto 4)] (by decide +kernel) (pc' := 19) (L' := [(0, .ref 15), (1, .int s)]) (st' := [.int 1]) rfl ?_
      exact mz_zret C E (by decide +kernel) (Or.inr rfl) (by unfold g_X7_areTracks; rw [if_neg h1, if_neg h2]; try rfl) (rfl)
def g_X7_has (M : mz_Mem) (k : Int32) (s : Int32) : Int32 := if ((mz_rg 12 (M 27) k) &&& s) = 0 then 0 else 1
set_option maxHeartbeats 4000000 in
theorem f_X7_has (l : Launch) (D : va_G) (cA : Nat → ClassId) (ρ : Nat → Nat) (hI : mz_I ρ mz_lay1) (M : mz_Mem) (k : Int32) (s : Int32) : mz_M l D vwCl cA ρ mz_lay1 yX7_has cX7_has 3 (some .boolean) 1 21 [.ref 15, .int k, .int s] M (some (.int (g_X7_has M k s))) M := by
  refine mz_in0 (by decide +kernel) (Nat.le_of_ble_eq_true rfl) (fun Γ C E => ?_)
  have E' := (⟨_, _, _, E⟩ : ∃ Qc mc ms, mz_E Γ Qc mc ms (mz_A ρ mz_lay1))
  refine mz_go FLX7 KLX7 C [(0, .aload_n 0), (1, .getfield 32), (4, .iload_n 1)] (by decide +kernel) (pc' := 5) (L' := [(0, .ref 15), (1, .int k), (2, .int s)]) (st' := [.int k, .ref 26]) rfl ?_
  refine mz_callV (As := [.int k]) (rest := []) C E' (f_Row_get l D cA ρ hI (r := 26) (a := 27) (n := 12) rfl rfl (by decide) M k) hy_X6_get wl_X7_52 rfl rfl rfl ⟨Nat.le_of_ble_eq_true rfl, Nat.le_of_ble_eq_true rfl⟩ ⟨Nat.le_refl _, Nat.le_refl _⟩ (Nat.le_of_ble_eq_true rfl) (by decide +kernel) ?_ rfl
  refine mz_go FLX7 KLX7 C [(8, .iload_n 2), (9, .iand)] (by decide +kernel) (pc' := 10) (L' := [(0, .ref 15), (1, .int k), (2, .int s)]) (st' := [.int ((mz_rg 12 (M 27) k) &&& s)]) rfl ?_
  refine mz_zeq (off := 7) (tgt := 17) C (by decide +kernel) (by decide) (fun h1 => ?_) (fun h1 => ?_)
  · refine mz_go FLX7 KLX7 C [(17, .iconst 0)] (by decide +kernel) (pc' := 18) (L' := [(0, .ref 15), (1, .int k), (2, .int s)]) (st' := [.int 0]) rfl ?_
    exact mz_zret C E (by decide +kernel) (Or.inl rfl) (by unfold g_X7_has; rw [if_pos h1]; try rfl) (rfl)
  · refine mz_go FLX7 KLX7 C [(13, .iconst 1), (14, .goto 4)] (by decide +kernel) (pc' := 18) (L' := [(0, .ref 15), (1, .int k), (2, .int s)]) (st' := [.int 1]) rfl ?_
    exact mz_zret C E (by decide +kernel) (Or.inr rfl) (by unfold g_X7_has; rw [if_neg h1]; try rfl) (rfl)
def g_X7_countScenesOf_1 (M : mz_Mem) (s : Int32) (i2 : Int32) (a3 : Int32) : Int32 := if (g_X7_has M i2 s) = 0 then a3 else a3 + 1
def g_X7_countScenesOf (M : mz_Mem) (s : Int32) : Int32 := (mz_fr (M 15 2) (g_X7_countScenesOf_1 M s) 0)
set_option maxHeartbeats 4000000 in
theorem f_X7_countScenesOf (l : Launch) (D : va_G) (cA : Nat → ClassId) (ρ : Nat → Nat) (hI : mz_I ρ mz_lay1) (M : mz_Mem) (s : Int32) : mz_M l D vwCl cA ρ mz_lay1 yX7_countScenesOf cX7_countScenesOf 4 (some .int) 2 43 [.ref 15, .int s] M (some (.int (g_X7_countScenesOf M s))) M := by
  refine mz_in0 (by decide +kernel) (Nat.le_of_ble_eq_true rfl) (fun Γ C E => ?_)
  have E' := (⟨_, _, _, E⟩ : ∃ Qc mc ms, mz_E Γ Qc mc ms (mz_A ρ mz_lay1))
  refine mz_go FLX7 KLX7 C [(0, .iconst 0), (1, .istore_n 2), (2, .iconst 0), (3, .istore_n 3)] (by decide +kernel) (pc' := 4) (L' := [(3, .int 0), (2, .int 0), (0, .ref 15), (1, .int s)]) (st' := []) rfl ?_
  refine mz_sub (L' := [(0, .ref 15), (1, .int s), (2, .int 0), (3, .int 0)]) (by simp) ?_
  refine mz_loop (M 15 2) (g_X7_countScenesOf_1 M s) (fun (i : Int32) (a : Int32) => mz_W Γ ρ 4 0 0 (mz_H D vwCl cA ρ mz_lay1 M) 4 [(0, .ref 15), (1, .int s), (2, .int a), (3, .int i)] []) 0 (fun i2 a3 hi4 hx5 hb6 => ?_)
  refine mz_go FLX7 KLX7 C [(4, .iload_n 3), (5, .aload_n 0), (6, .getfield 49)] (by decide +kernel) (pc' := 9) (L' := [(0, .ref 15), (1, .int s), (2, .int a3), (3, .int i2)]) (st' := [.int (M 15 2), .int i2]) rfl ?_
  refine mz_ige (off := 21) (tgt := 30) C (by decide +kernel) (by decide) (fun h1 => ?_) (fun h1 => ?_)
  · have e10 := hx5 h1
    subst e10
    refine mz_sub (L' := [(0, .ref 15), (1, .int s), (2, .int (mz_fr (M 15 2) (g_X7_countScenesOf_1 M s) 0))]) (by simp) ?_
    refine mz_go FLX7 KLX7 C [(30, .iload_n 2)] (by decide +kernel) (pc' := 31) (L' := [(0, .ref 15), (1, .int s), (2, .int (mz_fr (M 15 2) (g_X7_countScenesOf_1 M s) 0))]) (st' := [.int (mz_fr (M 15 2) (g_X7_countScenesOf_1 M s) 0)]) rfl ?_
    exact mz_iret C E (by decide +kernel) (rfl) (rfl)
  · refine mz_go FLX7 KLX7 C [(12, .aload_n 0), (13, .iload_n 3), (14, .iload_n 1)] (by decide +kernel) (pc' := 15) (L' := [(0, .ref 15), (1, .int s), (2, .int a3), (3, .int i2)]) (st' := [.int s, .int i2, .ref 15]) rfl ?_
    refine mz_callV (As := [.int i2, .int s]) (rest := []) C E' (f_X7_has l D cA ρ hI M i2 s) hy_X7_has wl_X7_56 rfl rfl rfl ⟨Nat.le_of_ble_eq_true rfl, Nat.le_of_ble_eq_true rfl⟩ ⟨Nat.le_refl _, Nat.le_refl _⟩ (Nat.le_of_ble_eq_true rfl) (by decide +kernel) ?_ rfl
    refine mz_zeq (off := 6) (tgt := 24) C (by decide +kernel) (by decide) (fun h11 => ?_) (fun h11 => ?_)
    · refine mz_go FLX7 KLX7 C [(24, .iinc 3 1), (27, .goto (-23))] (by decide +kernel) (pc' := 4) (L' := [(3, .int (i2 + 1)), (0, .ref 15), (1, .int s), (2, .int a3)]) (st' := []) rfl ?_
      have hb12 := hb6 h1
      rw [show g_X7_countScenesOf_1 M s i2 a3 = a3 from by unfold g_X7_countScenesOf_1; rw [if_pos h11]] at hb12
      exact mz_sub (by simp) hb12
    · refine mz_go FLX7 KLX7 C [(21, .iinc 2 1), (24, .iinc 3 1), (27, .goto (-23))] (by decide +kernel) (pc' := 4) (L' := [(3, .int (i2 + 1)), (2, .int (a3 + 1)), (0, .ref 15), (1, .int s)]) (st' := []) rfl ?_
      have hb13 := hb6 h1
      rw [show g_X7_countScenesOf_1 M s i2 a3 = a3 + 1 from by unfold g_X7_countScenesOf_1; rw [if_neg h11]] at hb13
      exact mz_sub (by simp) hb13
def g_X7_overlapsSceneOf_1 (M : mz_Mem) (s : Int32) (f : Int32) (d : Int32) (i6 : Int32) : Bool := if ((mz_rg 12 (M 23) i6) + (mz_rg 12 (M 25) i6)) ≤ f then false else if (f + d) ≤ (mz_rg 12 (M 23) i6) then false else if ((mz_rg 12 (M 27) i6) &&& s) = 0 then false else true
def g_X7_overlapsSceneOf (M : mz_Mem) (s : Int32) (f : Int32) (d : Int32) : Int32 := (match mz_find (M 15 2) (g_X7_overlapsSceneOf_1 M s f d) with | some i6 => 1 | none => 0)
set_option maxHeartbeats 4000000 in
theorem f_X7_overlapsSceneOf (l : Launch) (D : va_G) (cA : Nat → ClassId) (ρ : Nat → Nat) (hI : mz_I ρ mz_lay1) (M : mz_Mem) (s : Int32) (f : Int32) (d : Int32) : mz_M l D vwCl cA ρ mz_lay1 yX7_overlapsSceneOf cX7_overlapsSceneOf 7 (some .boolean) 1 21 [.ref 15, .int s, .int f, .int d] M (some (.int (g_X7_overlapsSceneOf M s f d))) M := by
  refine mz_in0 (by decide +kernel) (Nat.le_of_ble_eq_true rfl) (fun Γ C E => ?_)
  have E' := (⟨_, _, _, E⟩ : ∃ Qc mc ms, mz_E Γ Qc mc ms (mz_A ρ mz_lay1))
  refine mz_go FLX7 KLX7 C [(0, .iconst 0), (1, .istore 4)] (by decide +kernel) (pc' := 3) (L' := [(4, .int 0), (0, .ref 15), (1, .int s), (2, .int f), (3, .int d)]) (st' := []) rfl ?_
  refine mz_sub (L' := [(0, .ref 15), (1, .int s), (2, .int f), (3, .int d), (4, .int 0)]) (by simp) ?_
  refine mz_loopf (M 15 2) (g_X7_overlapsSceneOf_1 M s f d) (fun i => mz_W Γ ρ 7 0 0 (mz_H D vwCl cA ρ mz_lay1 M) 3 [(0, .ref 15), (1, .int s), (2, .int f), (3, .int d), (4, .int i)] []) (fun i6 hi5 hx3 hp4 ih2 => ?_)
  refine mz_go FLX7 KLX7 C [(3, .iload 4), (5, .aload_n 0), (6, .getfield 49)] (by decide +kernel) (pc' := 9) (L' := [(0, .ref 15), (1, .int s), (2, .int f), (3, .int d), (4, .int i6)]) (st' := [.int (M 15 2), .int i6]) rfl ?_
  refine mz_ige (off := 72) (tgt := 81) C (by decide +kernel) (by decide) (fun h1 => ?_) (fun h1 => ?_)
  · have hf7 := hx3 h1
    refine mz_sub (L' := [(0, .ref 15), (1, .int s), (2, .int f), (3, .int d)]) (by simp) ?_
    refine mz_go FLX7 KLX7 C [(81, .iconst 0)] (by decide +kernel) (pc' := 82) (L' := [(0, .ref 15), (1, .int s), (2, .int f), (3, .int d)]) (st' := [.int 0]) rfl ?_
    exact mz_zret C E (by decide +kernel) (Or.inl rfl) (by unfold g_X7_overlapsSceneOf; rw [hf7]; try rfl) (rfl)
  · refine mz_go FLX7 KLX7 C [(12, .aload_n 0), (13, .getfield 26), (16, .iload 4)] (by decide +kernel) (pc' := 18) (L' := [(0, .ref 15), (1, .int s), (2, .int f), (3, .int d), (4, .int i6)]) (st' := [.int i6, .ref 22]) rfl ?_
    refine mz_callV (As := [.int i6]) (rest := []) C E' (f_Row_get l D cA ρ hI (r := 22) (a := 23) (n := 12) rfl rfl (by decide) M i6) hy_X6_get wl_X7_52 rfl rfl rfl ⟨Nat.le_of_ble_eq_true rfl, Nat.le_of_ble_eq_true rfl⟩ ⟨Nat.le_refl _, Nat.le_refl _⟩ (Nat.le_of_ble_eq_true rfl) (by decide +kernel) ?_ rfl
    refine mz_go FLX7 KLX7 C [(21, .istore 5), (23, .iload_n 2), (24, .iload 5), (26, .aload_n 0), (27, .getfield 29), (30, .iload 4)] (by decide +kernel) (pc' := 32) (L' := [(5, .int (mz_rg 12 (M 23) i6)), (0, .ref 15), (1, .int s), (2, .int f), (3, .int d), (4, .int i6)]) (st' := [.int i6, .ref 24, .int (mz_rg 12 (M 23) i6), .int f]) rfl ?_
    refine mz_callV (As := [.int i6]) (rest := [.int (mz_rg 12 (M 23) i6), .int f]) C E' (f_Row_get l D cA ρ hI (r := 24) (a := 25) (n := 12) rfl rfl (by decide) M i6) hy_X6_get wl_X7_52 rfl rfl rfl ⟨Nat.le_of_ble_eq_true rfl, Nat.le_of_ble_eq_true rfl⟩ ⟨Nat.le_refl _, Nat.le_refl _⟩ (Nat.le_of_ble_eq_true rfl) (by decide +kernel) ?_ rfl
    refine mz_go FLX7 KLX7 C [(35, .iadd)] (by decide +kernel) (pc' := 36) (L' := [(5, .int (mz_rg 12 (M 23) i6)), (0, .ref 15), (1, .int s), (2, .int f), (3, .int d), (4, .int i6)]) (st' := [.int ((mz_rg 12 (M 23) i6) + (mz_rg 12 (M 25) i6)), .int f]) rfl ?_
    refine mz_ige (off := 15) (tgt := 51) C (by decide +kernel) (by decide) (fun h8 => ?_) (fun h8 => ?_)
    · refine mz_go FLX7 KLX7 C [(51, .iconst 0), (52, .istore 6), (54, .iload 6)] (by decide +kernel) (pc' := 56) (L' := [(6, .int 0), (5, .int (mz_rg 12 (M 23) i6)), (0, .ref 15), (1, .int s), (2, .int f), (3, .int d), (4, .int i6)]) (st' := [.int 0]) rfl ?_
      refine mz_zeq (off := 19) (tgt := 75) C (by decide +kernel) (by decide) (fun _ => ?_) (fun h9 => absurd h9 (by decide))
      refine mz_go FLX7 KLX7 C [(75, .iinc 4 1), (78, .goto (-75))] (by decide +kernel) (pc' := 3) (L' := [(4, .int (i6 + 1)), (6, .int 0), (5, .int (mz_rg 12 (M 23) i6)), (0, .ref 15), (1, .int s), (2, .int f), (3, .int d)]) (st' := []) rfl ?_
      exact mz_sub (by simp) (ih2 h1 (by unfold g_X7_overlapsSceneOf_1; rw [if_pos h8]))
    · refine mz_go FLX7 KLX7 C [(39, .iload 5), (41, .iload_n 2), (42, .iload_n 3), (43, .iadd)] (by decide +kernel) (pc' := 44) (L' := [(5, .int (mz_rg 12 (M 23) i6)), (0, .ref 15), (1, .int s), (2, .int f), (3, .int d), (4, .int i6)]) (st' := [.int (f + d), .int (mz_rg 12 (M 23) i6)]) rfl ?_
      refine mz_ige (off := 7) (tgt := 51) C (by decide +kernel) (by decide) (fun h10 => ?_) (fun h10 => ?_)
      · refine mz_go FLX7 KLX7 C [(51, .iconst 0), (52, .istore 6), (54, .iload 6)] (by decide +kernel) (pc' := 56) (L' := [(6, .int 0), (5, .int (mz_rg 12 (M 23) i6)), (0, .ref 15), (1, .int s), (2, .int f), (3, .int d), (4, .int i6)]) (st' := [.int 0]) rfl ?_
        refine mz_zeq (off := 19) (tgt := 75) C (by decide +kernel) (by decide) (fun _ => ?_) (fun h11 => absurd h11 (by decide))
        refine mz_go FLX7 KLX7 C [(75, .iinc 4 1), (78, .goto (-75))] (by decide +kernel) (pc' := 3) (L' := [(4, .int (i6 + 1)), (6, .int 0), (5, .int (mz_rg 12 (M 23) i6)), (0, .ref 15), (1, .int s), (2, .int f), (3, .int d)]) (st' := []) rfl ?_
        exact mz_sub (by simp) (ih2 h1 (by unfold g_X7_overlapsSceneOf_1; rw [if_neg h8, if_pos h10]))
      · refine mz_go FLX7 KLX7 C [(47, .iconst 1), (48, .goto 4), (52, .istore 6), (54, .iload 6)] (by decide +kernel) (pc' := 56) (L' := [(6, .int 1), (5, .int (mz_rg 12 (M 23) i6)), (0, .ref 15), (1, .int s), (2, .int f), (3, .int d), (4, .int i6)]) (st' := [.int 1]) rfl ?_
        refine mz_zeq (off := 19) (tgt := 75) C (by decide +kernel) (by decide) (fun h12 => absurd h12 (by decide)) (fun _ => ?_)
        refine mz_go FLX7 KLX7 C [(59, .aload_n 0), (60, .getfield 32), (63, .iload 4)] (by decide +kernel) (pc' := 65) (L' := [(6, .int 1), (5, .int (mz_rg 12 (M 23) i6)), (0, .ref 15), (1, .int s), (2, .int f), (3, .int d), (4, .int i6)]) (st' := [.int i6, .ref 26]) rfl ?_
        refine mz_callV (As := [.int i6]) (rest := []) C E' (f_Row_get l D cA ρ hI (r := 26) (a := 27) (n := 12) rfl rfl (by decide) M i6) hy_X6_get wl_X7_52 rfl rfl rfl ⟨Nat.le_of_ble_eq_true rfl, Nat.le_of_ble_eq_true rfl⟩ ⟨Nat.le_refl _, Nat.le_refl _⟩ (Nat.le_of_ble_eq_true rfl) (by decide +kernel) ?_ rfl
        refine mz_go FLX7 KLX7 C [(68, .iload_n 1), (69, .iand)] (by decide +kernel) (pc' := 70) (L' := [(6, .int 1), (5, .int (mz_rg 12 (M 23) i6)), (0, .ref 15), (1, .int s), (2, .int f), (3, .int d), (4, .int i6)]) (st' := [.int ((mz_rg 12 (M 27) i6) &&& s)]) rfl ?_
        refine mz_zeq (off := 5) (tgt := 75) C (by decide +kernel) (by decide) (fun h13 => ?_) (fun h13 => ?_)
        · refine mz_go FLX7 KLX7 C [(75, .iinc 4 1), (78, .goto (-75))] (by decide +kernel) (pc' := 3) (L' := [(4, .int (i6 + 1)), (6, .int 1), (5, .int (mz_rg 12 (M 23) i6)), (0, .ref 15), (1, .int s), (2, .int f), (3, .int d)]) (st' := []) rfl ?_
          exact mz_sub (by simp) (ih2 h1 (by unfold g_X7_overlapsSceneOf_1; rw [if_neg h8, if_neg h10, if_pos h13]))
        · refine mz_go FLX7 KLX7 C [(73, .iconst 1)] (by decide +kernel) (pc' := 74) (L' := [(6, .int 1), (5, .int (mz_rg 12 (M 23) i6)), (0, .ref 15), (1, .int s), (2, .int f), (3, .int d), (4, .int i6)]) (st' := [.int 1]) rfl ?_
          have hf14 := hp4 h1 (by unfold g_X7_overlapsSceneOf_1; rw [if_neg h8, if_neg h10, if_neg h13])
          exact mz_zret C E (by decide +kernel) (Or.inr rfl) (by unfold g_X7_overlapsSceneOf; rw [hf14]; try rfl) (rfl)
def g_X7_overlap_1 (M : mz_Mem) (t : Int32) (u : Int32) (i6 : Int32) : Bool := if (g_X7_has M i6 (1 <<< (t &&& 31))) = 0 then false else if (g_X7_overlapsSceneOf M (1 <<< (u &&& 31)) (mz_rg 12 (M 23) i6) (mz_rg 12 (M 25) i6)) = 0 then false else true
def g_X7_overlap (M : mz_Mem) (t : Int32) (u : Int32) : Int32 := (match mz_find (M 15 2) (g_X7_overlap_1 M t u) with | some i6 => 1 | none => 0)
set_option maxHeartbeats 4000000 in
theorem f_X7_overlap (l : Launch) (D : va_G) (cA : Nat → ClassId) (ρ : Nat → Nat) (hI : mz_I ρ mz_lay1) (M : mz_Mem) (t : Int32) (u : Int32) : mz_M l D vwCl cA ρ mz_lay1 yX7_overlap cX7_overlap 4 (some .boolean) 2 47 [.ref 15, .int t, .int u] M (some (.int (g_X7_overlap M t u))) M := by
  refine mz_in0 (by decide +kernel) (Nat.le_of_ble_eq_true rfl) (fun Γ C E => ?_)
  have E' := (⟨_, _, _, E⟩ : ∃ Qc mc ms, mz_E Γ Qc mc ms (mz_A ρ mz_lay1))
  refine mz_go FLX7 KLX7 C [(0, .iconst 0), (1, .istore_n 3)] (by decide +kernel) (pc' := 2) (L' := [(3, .int 0), (0, .ref 15), (1, .int t), (2, .int u)]) (st' := []) rfl ?_
  refine mz_sub (L' := [(0, .ref 15), (1, .int t), (2, .int u), (3, .int 0)]) (by simp) ?_
  refine mz_loopf (M 15 2) (g_X7_overlap_1 M t u) (fun i => mz_W Γ ρ 4 0 0 (mz_H D vwCl cA ρ mz_lay1 M) 2 [(0, .ref 15), (1, .int t), (2, .int u), (3, .int i)] []) (fun i6 hi5 hx3 hp4 ih2 => ?_)
  refine mz_go FLX7 KLX7 C [(2, .iload_n 3), (3, .aload_n 0), (4, .getfield 49)] (by decide +kernel) (pc' := 7) (L' := [(0, .ref 15), (1, .int t), (2, .int u), (3, .int i6)]) (st' := [.int (M 15 2), .int i6]) rfl ?_
  refine mz_ige (off := 48) (tgt := 55) C (by decide +kernel) (by decide) (fun h1 => ?_) (fun h1 => ?_)
  · have hf7 := hx3 h1
    refine mz_sub (L' := [(0, .ref 15), (1, .int t), (2, .int u)]) (by simp) ?_
    refine mz_go FLX7 KLX7 C [(55, .iconst 0)] (by decide +kernel) (pc' := 56) (L' := [(0, .ref 15), (1, .int t), (2, .int u)]) (st' := [.int 0]) rfl ?_
    exact mz_zret C E (by decide +kernel) (Or.inl rfl) (by unfold g_X7_overlap; rw [hf7]; try rfl) (rfl)
  · refine mz_go FLX7 KLX7 C [(10, .aload_n 0), (11, .iload_n 3), (12, .iconst 1), (13, .iload_n 1), (14, .ishl)] (by decide +kernel) (pc' := 15) (L' := [(0, .ref 15), (1, .int t), (2, .int u), (3, .int i6)]) (st' := [.int (1 <<< (t &&& 31)), .int i6, .ref 15]) rfl ?_
    refine mz_callV (As := [.int i6, .int (1 <<< (t &&& 31))]) (rest := []) C E' (f_X7_has l D cA ρ hI M i6 (1 <<< (t &&& 31))) hy_X7_has wl_X7_56 rfl rfl rfl ⟨Nat.le_of_ble_eq_true rfl, Nat.le_of_ble_eq_true rfl⟩ ⟨Nat.le_refl _, Nat.le_refl _⟩ (Nat.le_of_ble_eq_true rfl) (by decide +kernel) ?_ rfl
    refine mz_zeq (off := 31) (tgt := 49) C (by decide +kernel) (by decide) (fun h8 => ?_) (fun h8 => ?_)
    · refine mz_go FLX7 KLX7 C [(49, .iinc 3 1), (52, .goto (-50))] (by decide +kernel) (pc' := 2) (L' := [(3, .int (i6 + 1)), (0, .ref 15), (1, .int t), (2, .int u)]) (st' := []) rfl ?_
      exact mz_sub (by simp) (ih2 h1 (by unfold g_X7_overlap_1; rw [if_pos h8]))
    · refine mz_go FLX7 KLX7 C [(21, .aload_n 0), (22, .iconst 1), (23, .iload_n 2), (24, .ishl), (25, .aload_n 0), (26, .getfield 26), (29, .iload_n 3)] (by decide +kernel) (pc' := 30) (L' := [(0, .ref 15), (1, .int t), (2, .int u), (3, .int i6)]) (st' := [.int i6, .ref 22, .int (1 <<< (u &&& 31)), .ref 15]) rfl ?_
      refine mz_callV (As := [.int i6]) (rest := [.int (1 <<< (u &&& 31)), .ref 15]) C E' (f_Row_get l D cA ρ hI (r := 22) (a := 23) (n := 12) rfl rfl (by decide) M i6) hy_X6_get wl_X7_52 rfl rfl rfl ⟨Nat.le_of_ble_eq_true rfl, Nat.le_of_ble_eq_true rfl⟩ ⟨Nat.le_refl _, Nat.le_refl _⟩ (Nat.le_of_ble_eq_true rfl) (by decide +kernel) ?_ rfl
      refine mz_go FLX7 KLX7 C [(33, .aload_n 0), (34, .getfield 29), (37, .iload_n 3)] (by decide +kernel) (pc' := 38) (L' := [(0, .ref 15), (1, .int t), (2, .int u), (3, .int i6)]) (st' := [.int i6, .ref 24, .int (mz_rg 12 (M 23) i6), .int (1 <<< (u &&& 31)), .ref 15]) rfl ?_
      refine mz_callV (As := [.int i6]) (rest := [.int (mz_rg 12 (M 23) i6), .int (1 <<< (u &&& 31)), .ref 15]) C E' (f_Row_get l D cA ρ hI (r := 24) (a := 25) (n := 12) rfl rfl (by decide) M i6) hy_X6_get wl_X7_52 rfl rfl rfl ⟨Nat.le_of_ble_eq_true rfl, Nat.le_of_ble_eq_true rfl⟩ ⟨Nat.le_refl _, Nat.le_refl _⟩ (Nat.le_of_ble_eq_true rfl) (by decide +kernel) ?_ rfl
      refine mz_callV (As := [.int (1 <<< (u &&& 31)), .int (mz_rg 12 (M 23) i6), .int (mz_rg 12 (M 25) i6)]) (rest := []) C E' (f_X7_overlapsSceneOf l D cA ρ hI M (1 <<< (u &&& 31)) (mz_rg 12 (M 23) i6) (mz_rg 12 (M 25) i6)) hy_X7_overlapsSceneOf wl_X7_60 rfl rfl rfl ⟨Nat.le_of_ble_eq_true rfl, Nat.le_of_ble_eq_true rfl⟩ ⟨Nat.le_refl _, Nat.le_refl _⟩ (Nat.le_of_ble_eq_true rfl) (by decide +kernel) ?_ rfl
      refine mz_zeq (off := 5) (tgt := 49) C (by decide +kernel) (by decide) (fun h9 => ?_) (fun h9 => ?_)
      · refine mz_go FLX7 KLX7 C [(49, .iinc 3 1), (52, .goto (-50))] (by decide +kernel) (pc' := 2) (L' := [(3, .int (i6 + 1)), (0, .ref 15), (1, .int t), (2, .int u)]) (st' := []) rfl ?_
        exact mz_sub (by simp) (ih2 h1 (by unfold g_X7_overlap_1; rw [if_neg h8, if_pos h9]))
      · refine mz_go FLX7 KLX7 C [(47, .iconst 1)] (by decide +kernel) (pc' := 48) (L' := [(0, .ref 15), (1, .int t), (2, .int u), (3, .int i6)]) (st' := [.int 1]) rfl ?_
        have hf10 := hp4 h1 (by unfold g_X7_overlap_1; rw [if_neg h8, if_neg h9])
        exact mz_zret C E (by decide +kernel) (Or.inr rfl) (by unfold g_X7_overlap; rw [hf10]; try rfl) (rfl)
def g_X7_addTrack (M : mz_Mem) (h : Int32) : Int32 × mz_Mem := ((M 15 0), (mz_s (mz_s M 15 (upd (M 15) 0 ((M 15 0) + 1))) 17 (mz_rs 5 ((mz_s M 15 (upd (M 15) 0 ((M 15 0) + 1))) 17) (M 15 0) h)))
set_option maxHeartbeats 4000000 in
theorem f_X7_addTrack (l : Launch) (D : va_G) (cA : Nat → ClassId) (ρ : Nat → Nat) (hI : mz_I ρ mz_lay1) (M : mz_Mem) (h : Int32) : mz_M l D vwCl cA ρ mz_lay1 yX7_addTrack cX7_addTrack 3 (some .int) 1 22 [.ref 15, .int h] M (some (.int (g_X7_addTrack M h).1)) (g_X7_addTrack M h).2 := by
  refine mz_in0 (by decide +kernel) (Nat.le_of_ble_eq_true rfl) (fun Γ C E => ?_)
  have E' := (⟨_, _, _, E⟩ : ∃ Qc mc ms, mz_E Γ Qc mc ms (mz_A ρ mz_lay1))
  refine mz_go FLX7 KLX7 C [(0, .aload_n 0), (1, .getfield 38), (4, .istore_n 2), (5, .aload_n 0), (6, .dup), (7, .getfield 38), (10, .iconst 1), (11, .iadd)] (by decide +kernel) (pc' := 12) (L' := [(2, .int (M 15 0)), (0, .ref 15), (1, .int h)]) (st' := [.int ((M 15 0) + 1), .ref 15]) rfl ?_
  refine mz_put (id := 15) (ci := 7) (j := 0) (T := TX7) (N := 10) C E' hI rfl rfl rfl (by decide) iu_X7 tyX7 tyX7_ok nmX7 wf_X7_38 rfl (by decide +kernel) (by decide +kernel) ?_
  refine mz_go FLX7 KLX7 C [(15, .aload_n 0), (16, .getfield 14), (19, .iload_n 2), (20, .iload_n 1)] (by decide +kernel) (pc' := 21) (L' := [(2, .int (M 15 0)), (0, .ref 15), (1, .int h)]) (st' := [.int h, .int (M 15 0), .ref 16]) rfl ?_
  refine mz_callV (As := [.int (M 15 0), .int h]) (rest := []) C E' (f_Row_set l D cA ρ hI (r := 16) (a := 17) (n := 5) rfl rfl (by decide) (mz_s M 15 (upd (M 15) 0 ((M 15 0) + 1))) (M 15 0) h) hy_X6_set wl_X7_42 rfl rfl rfl ⟨Nat.le_of_ble_eq_true rfl, Nat.le_of_ble_eq_true rfl⟩ ⟨Nat.le_refl _, Nat.le_refl _⟩ (Nat.le_of_ble_eq_true rfl) (by decide +kernel) ?_ rfl
  refine mz_go FLX7 KLX7 C [(24, .iload_n 2)] (by decide +kernel) (pc' := 25) (L' := [(2, .int (M 15 0)), (0, .ref 15), (1, .int h)]) (st' := [.int (M 15 0)]) rfl ?_
  exact mz_iret C E (by decide +kernel) (rfl) (rfl)
def g_X7_addProp (M : mz_Mem) (h : Int32) : Int32 × mz_Mem := ((M 15 1), (mz_s (mz_s M 15 (upd (M 15) 1 ((M 15 1) + 1))) 19 (mz_rs 4 ((mz_s M 15 (upd (M 15) 1 ((M 15 1) + 1))) 19) (M 15 1) h)))
set_option maxHeartbeats 4000000 in
theorem f_X7_addProp (l : Launch) (D : va_G) (cA : Nat → ClassId) (ρ : Nat → Nat) (hI : mz_I ρ mz_lay1) (M : mz_Mem) (h : Int32) : mz_M l D vwCl cA ρ mz_lay1 yX7_addProp cX7_addProp 3 (some .int) 1 22 [.ref 15, .int h] M (some (.int (g_X7_addProp M h).1)) (g_X7_addProp M h).2 := by
  refine mz_in0 (by decide +kernel) (Nat.le_of_ble_eq_true rfl) (fun Γ C E => ?_)
  have E' := (⟨_, _, _, E⟩ : ∃ Qc mc ms, mz_E Γ Qc mc ms (mz_A ρ mz_lay1))
  refine mz_go FLX7 KLX7 C [(0, .aload_n 0), (1, .getfield 46), (4, .istore_n 2), (5, .aload_n 0), (6, .dup), (7, .getfield 46), (10, .iconst 1), (11, .iadd)] (by decide +kernel) (pc' := 12) (L' := [(2, .int (M 15 1)), (0, .ref 15), (1, .int h)]) (st' := [.int ((M 15 1) + 1), .ref 15]) rfl ?_
  refine mz_put (id := 15) (ci := 7) (j := 1) (T := TX7) (N := 10) C E' hI rfl rfl rfl (by decide) iu_X7 tyX7 tyX7_ok nmX7 wf_X7_46 rfl (by decide +kernel) (by decide +kernel) ?_
  refine mz_go FLX7 KLX7 C [(15, .aload_n 0), (16, .getfield 20), (19, .iload_n 2), (20, .iload_n 1)] (by decide +kernel) (pc' := 21) (L' := [(2, .int (M 15 1)), (0, .ref 15), (1, .int h)]) (st' := [.int h, .int (M 15 1), .ref 18]) rfl ?_
  refine mz_callV (As := [.int (M 15 1), .int h]) (rest := []) C E' (f_Row_set l D cA ρ hI (r := 18) (a := 19) (n := 4) rfl rfl (by decide) (mz_s M 15 (upd (M 15) 1 ((M 15 1) + 1))) (M 15 1) h) hy_X6_set wl_X7_42 rfl rfl rfl ⟨Nat.le_of_ble_eq_true rfl, Nat.le_of_ble_eq_true rfl⟩ ⟨Nat.le_refl _, Nat.le_refl _⟩ (Nat.le_of_ble_eq_true rfl) (by decide +kernel) ?_ rfl
  refine mz_go FLX7 KLX7 C [(24, .iload_n 2)] (by decide +kernel) (pc' := 25) (L' := [(2, .int (M 15 1)), (0, .ref 15), (1, .int h)]) (st' := [.int (M 15 1)]) rfl ?_
  exact mz_iret C E (by decide +kernel) (rfl) (rfl)
def g_X7_addScene (M : mz_Mem) (r : Int32) (s : Int32) (d : Int32) (t : Int32) (p : Int32) : Int32 × mz_Mem := ((M 15 2), (mz_s (mz_s (mz_s (mz_s (mz_s (mz_s M 15 (upd (M 15) 2 ((M 15 2) + 1))) 21 (mz_rs 12 ((mz_s M 15 (upd (M 15) 2 ((M 15 2) + 1))) 21) (M 15 2) r)) 23 (mz_rs 12 ((mz_s (mz_s M 15 (upd (M 15) 2 ((M 15 2) + 1))) 21 (mz_rs 12 ((mz_s M 15 (upd (M 15) 2 ((M 15 2) + 1))) 21) (M 15 2) r)) 23) (M 15 2) s)) 25 (mz_rs 12 ((mz_s (mz_s (mz_s M 15 (upd (M 15) 2 ((M 15 2) + 1))) 21 (mz_rs 12 ((mz_s M 15 (upd (M 15) 2 ((M 15 2) + 1))) 21) (M 15 2) r)) 23 (mz_rs 12 ((mz_s (mz_s M 15 (upd (M 15) 2 ((M 15 2) + 1))) 21 (mz_rs 12 ((mz_s M 15 (upd (M 15) 2 ((M 15 2) + 1))) 21) (M 15 2) r)) 23) (M 15 2) s)) 25) (M 15 2) d)) 27 (mz_rs 12 ((mz_s (mz_s (mz_s (mz_s M 15 (upd (M 15) 2 ((M 15 2) + 1))) 21 (mz_rs 12 ((mz_s M 15 (upd (M 15) 2 ((M 15 2) + 1))) 21) (M 15 2) r)) 23 (mz_rs 12 ((mz_s (mz_s M 15 (upd (M 15) 2 ((M 15 2) + 1))) 21 (mz_rs 12 ((mz_s M 15 (upd (M 15) 2 ((M 15 2) + 1))) 21) (M 15 2) r)) 23) (M 15 2) s)) 25 (mz_rs 12 ((mz_s (mz_s (mz_s M 15 (upd (M 15) 2 ((M 15 2) + 1))) 21 (mz_rs 12 ((mz_s M 15 (upd (M 15) 2 ((M 15 2) + 1))) 21) (M 15 2) r)) 23 (mz_rs 12 ((mz_s (mz_s M 15 (upd (M 15) 2 ((M 15 2) + 1))) 21 (mz_rs 12 ((mz_s M 15 (upd (M 15) 2 ((M 15 2) + 1))) 21) (M 15 2) r)) 23) (M 15 2) s)) 25) (M 15 2) d)) 27) (M 15 2) t)) 29 (mz_rs 12 ((mz_s (mz_s (mz_s (mz_s (mz_s M 15 (upd (M 15) 2 ((M 15 2) + 1))) 21 (mz_rs 12 ((mz_s M 15 (upd (M 15) 2 ((M 15 2) + 1))) 21) (M 15 2) r)) 23 (mz_rs 12 ((mz_s (mz_s M 15 (upd (M 15) 2 ((M 15 2) + 1))) 21 (mz_rs 12 ((mz_s M 15 (upd (M 15) 2 ((M 15 2) + 1))) 21) (M 15 2) r)) 23) (M 15 2) s)) 25 (mz_rs 12 ((mz_s (mz_s (mz_s M 15 (upd (M 15) 2 ((M 15 2) + 1))) 21 (mz_rs 12 ((mz_s M 15 (upd (M 15) 2 ((M 15 2) + 1))) 21) (M 15 2) r)) 23 (mz_rs 12 ((mz_s (mz_s M 15 (upd (M 15) 2 ((M 15 2) + 1))) 21 (mz_rs 12 ((mz_s M 15 (upd (M 15) 2 ((M 15 2) + 1))) 21) (M 15 2) r)) 23) (M 15 2) s)) 25) (M 15 2) d)) 27 (mz_rs 12 ((mz_s (mz_s (mz_s (mz_s M 15 (upd (M 15) 2 ((M 15 2) + 1))) 21 (mz_rs 12 ((mz_s M 15 (upd (M 15) 2 ((M 15 2) + 1))) 21) (M 15 2) r)) 23 (mz_rs 12 ((mz_s (mz_s M 15 (upd (M 15) 2 ((M 15 2) + 1))) 21 (mz_rs 12 ((mz_s M 15 (upd (M 15) 2 ((M 15 2) + 1))) 21) (M 15 2) r)) 23) (M 15 2) s)) 25 (mz_rs 12 ((mz_s (mz_s (mz_s M 15 (upd (M 15) 2 ((M 15 2) + 1))) 21 (mz_rs 12 ((mz_s M 15 (upd (M 15) 2 ((M 15 2) + 1))) 21) (M 15 2) r)) 23 (mz_rs 12 ((mz_s (mz_s M 15 (upd (M 15) 2 ((M 15 2) + 1))) 21 (mz_rs 12 ((mz_s M 15 (upd (M 15) 2 ((M 15 2) + 1))) 21) (M 15 2) r)) 23) (M 15 2) s)) 25) (M 15 2) d)) 27) (M 15 2) t)) 29) (M 15 2) p)))
set_option maxHeartbeats 4000000 in
theorem f_X7_addScene (l : Launch) (D : va_G) (cA : Nat → ClassId) (ρ : Nat → Nat) (hI : mz_I ρ mz_lay1) (M : mz_Mem) (r : Int32) (s : Int32) (d : Int32) (t : Int32) (p : Int32) : mz_M l D vwCl cA ρ mz_lay1 yX7_addScene cX7_addScene 7 (some .int) 1 22 [.ref 15, .int r, .int s, .int d, .int t, .int p] M (some (.int (g_X7_addScene M r s d t p).1)) (g_X7_addScene M r s d t p).2 := by
  refine mz_in0 (by decide +kernel) (Nat.le_of_ble_eq_true rfl) (fun Γ C E => ?_)
  have E' := (⟨_, _, _, E⟩ : ∃ Qc mc ms, mz_E Γ Qc mc ms (mz_A ρ mz_lay1))
  refine mz_go FLX7 KLX7 C [(0, .aload_n 0), (1, .getfield 49), (4, .istore 6), (6, .aload_n 0), (7, .dup), (8, .getfield 49), (11, .iconst 1), (12, .iadd)] (by decide +kernel) (pc' := 13) (L' := [(6, .int (M 15 2)), (0, .ref 15), (1, .int r), (2, .int s), (3, .int d), (4, .int t), (5, .int p)]) (st' := [.int ((M 15 2) + 1), .ref 15]) rfl ?_
  refine mz_put (id := 15) (ci := 7) (j := 2) (T := TX7) (N := 10) C E' hI rfl rfl rfl (by decide) iu_X7 tyX7 tyX7_ok nmX7 wf_X7_49 rfl (by decide +kernel) (by decide +kernel) ?_
  refine mz_go FLX7 KLX7 C [(16, .aload_n 0), (17, .getfield 23), (20, .iload 6), (22, .iload_n 1)] (by decide +kernel) (pc' := 23) (L' := [(6, .int (M 15 2)), (0, .ref 15), (1, .int r), (2, .int s), (3, .int d), (4, .int t), (5, .int p)]) (st' := [.int r, .int (M 15 2), .ref 20]) rfl ?_
  refine mz_callV (As := [.int (M 15 2), .int r]) (rest := []) C E' (f_Row_set l D cA ρ hI (r := 20) (a := 21) (n := 12) rfl rfl (by decide) (mz_s M 15 (upd (M 15) 2 ((M 15 2) + 1))) (M 15 2) r) hy_X6_set wl_X7_42 rfl rfl rfl ⟨Nat.le_of_ble_eq_true rfl, Nat.le_of_ble_eq_true rfl⟩ ⟨Nat.le_refl _, Nat.le_refl _⟩ (Nat.le_of_ble_eq_true rfl) (by decide +kernel) ?_ rfl
  refine mz_go FLX7 KLX7 C [(26, .aload_n 0), (27, .getfield 26), (30, .iload 6), (32, .iload_n 2)] (by decide +kernel) (pc' := 33) (L' := [(6, .int (M 15 2)), (0, .ref 15), (1, .int r), (2, .int s), (3, .int d), (4, .int t), (5, .int p)]) (st' := [.int s, .int (M 15 2), .ref 22]) rfl ?_
  refine mz_callV (As := [.int (M 15 2), .int s]) (rest := []) C E' (f_Row_set l D cA ρ hI (r := 22) (a := 23) (n := 12) rfl rfl (by decide) (mz_s (mz_s M 15 (upd (M 15) 2 ((M 15 2) + 1))) 21 (mz_rs 12 ((mz_s M 15 (upd (M 15) 2 ((M 15 2) + 1))) 21) (M 15 2) r)) (M 15 2) s) hy_X6_set wl_X7_42 rfl rfl rfl ⟨Nat.le_of_ble_eq_true rfl, Nat.le_of_ble_eq_true rfl⟩ ⟨Nat.le_refl _, Nat.le_refl _⟩ (Nat.le_of_ble_eq_true rfl) (by decide +kernel) ?_ rfl
  refine mz_go FLX7 KLX7 C [(36, .aload_n 0), (37, .getfield 29), (40, .iload 6), (42, .iload_n 3)] (by decide +kernel) (pc' := 43) (L' := [(6, .int (M 15 2)), (0, .ref 15), (1, .int r), (2, .int s), (3, .int d), (4, .int t), (5, .int p)]) (st' := [.int d, .int (M 15 2), .ref 24]) rfl ?_
  refine mz_callV (As := [.int (M 15 2), .int d]) (rest := []) C E' (f_Row_set l D cA ρ hI (r := 24) (a := 25) (n := 12) rfl rfl (by decide) (mz_s (mz_s (mz_s M 15 (upd (M 15) 2 ((M 15 2) + 1))) 21 (mz_rs 12 ((mz_s M 15 (upd (M 15) 2 ((M 15 2) + 1))) 21) (M 15 2) r)) 23 (mz_rs 12 ((mz_s (mz_s M 15 (upd (M 15) 2 ((M 15 2) + 1))) 21 (mz_rs 12 ((mz_s M 15 (upd (M 15) 2 ((M 15 2) + 1))) 21) (M 15 2) r)) 23) (M 15 2) s)) (M 15 2) d) hy_X6_set wl_X7_42 rfl rfl rfl ⟨Nat.le_of_ble_eq_true rfl, Nat.le_of_ble_eq_true rfl⟩ ⟨Nat.le_refl _, Nat.le_refl _⟩ (Nat.le_of_ble_eq_true rfl) (by decide +kernel) ?_ rfl
  refine mz_go FLX7 KLX7 C [(46, .aload_n 0), (47, .getfield 32), (50, .iload 6), (52, .iload 4)] (by decide +kernel) (pc' := 54) (L' := [(6, .int (M 15 2)), (0, .ref 15), (1, .int r), (2, .int s), (3, .int d), (4, .int t), (5, .int p)]) (st' := [.int t, .int (M 15 2), .ref 26]) rfl ?_
  refine mz_callV (As := [.int (M 15 2), .int t]) (rest := []) C E' (f_Row_set l D cA ρ hI (r := 26) (a := 27) (n := 12) rfl rfl (by decide) (mz_s (mz_s (mz_s (mz_s M 15 (upd (M 15) 2 ((M 15 2) + 1))) 21 (mz_rs 12 ((mz_s M 15 (upd (M 15) 2 ((M 15 2) + 1))) 21) (M 15 2) r)) 23 (mz_rs 12 ((mz_s (mz_s M 15 (upd (M 15) 2 ((M 15 2) + 1))) 21 (mz_rs 12 ((mz_s M 15 (upd (M 15) 2 ((M 15 2) + 1))) 21) (M 15 2) r)) 23) (M 15 2) s)) 25 (mz_rs 12 ((mz_s (mz_s (mz_s M 15 (upd (M 15) 2 ((M 15 2) + 1))) 21 (mz_rs 12 ((mz_s M 15 (upd (M 15) 2 ((M 15 2) + 1))) 21) (M 15 2) r)) 23 (mz_rs 12 ((mz_s (mz_s M 15 (upd (M 15) 2 ((M 15 2) + 1))) 21 (mz_rs 12 ((mz_s M 15 (upd (M 15) 2 ((M 15 2) + 1))) 21) (M 15 2) r)) 23) (M 15 2) s)) 25) (M 15 2) d)) (M 15 2) t) hy_X6_set wl_X7_42 rfl rfl rfl ⟨Nat.le_of_ble_eq_true rfl, Nat.le_of_ble_eq_true rfl⟩ ⟨Nat.le_refl _, Nat.le_refl _⟩ (Nat.le_of_ble_eq_true rfl) (by decide +kernel) ?_ rfl
  refine mz_go FLX7 KLX7 C [(57, .aload_n 0), (58, .getfield 35), (61, .iload 6), (63, .iload 5)] (by decide +kernel) (pc' := 65) (L' := [(6, .int (M 15 2)), (0, .ref 15), (1, .int r), (2, .int s), (3, .int d), (4, .int t), (5, .int p)]) (st' := [.int p, .int (M 15 2), .ref 28]) rfl ?_
  refine mz_callV (As := [.int (M 15 2), .int p]) (rest := []) C E' (f_Row_set l D cA ρ hI (r := 28) (a := 29) (n := 12) rfl rfl (by decide) (mz_s (mz_s (mz_s (mz_s (mz_s M 15 (upd (M 15) 2 ((M 15 2) + 1))) 21 (mz_rs 12 ((mz_s M 15 (upd (M 15) 2 ((M 15 2) + 1))) 21) (M 15 2) r)) 23 (mz_rs 12 ((mz_s (mz_s M 15 (upd (M 15) 2 ((M 15 2) + 1))) 21 (mz_rs 12 ((mz_s M 15 (upd (M 15) 2 ((M 15 2) + 1))) 21) (M 15 2) r)) 23) (M 15 2) s)) 25 (mz_rs 12 ((mz_s (mz_s (mz_s M 15 (upd (M 15) 2 ((M 15 2) + 1))) 21 (mz_rs 12 ((mz_s M 15 (upd (M 15) 2 ((M 15 2) + 1))) 21) (M 15 2) r)) 23 (mz_rs 12 ((mz_s (mz_s M 15 (upd (M 15) 2 ((M 15 2) + 1))) 21 (mz_rs 12 ((mz_s M 15 (upd (M 15) 2 ((M 15 2) + 1))) 21) (M 15 2) r)) 23) (M 15 2) s)) 25) (M 15 2) d)) 27 (mz_rs 12 ((mz_s (mz_s (mz_s (mz_s M 15 (upd (M 15) 2 ((M 15 2) + 1))) 21 (mz_rs 12 ((mz_s M 15 (upd (M 15) 2 ((M 15 2) + 1))) 21) (M 15 2) r)) 23 (mz_rs 12 ((mz_s (mz_s M 15 (upd (M 15) 2 ((M 15 2) + 1))) 21 (mz_rs 12 ((mz_s M 15 (upd (M 15) 2 ((M 15 2) + 1))) 21) (M 15 2) r)) 23) (M 15 2) s)) 25 (mz_rs 12 ((mz_s (mz_s (mz_s M 15 (upd (M 15) 2 ((M 15 2) + 1))) 21 (mz_rs 12 ((mz_s M 15 (upd (M 15) 2 ((M 15 2) + 1))) 21) (M 15 2) r)) 23 (mz_rs 12 ((mz_s (mz_s M 15 (upd (M 15) 2 ((M 15 2) + 1))) 21 (mz_rs 12 ((mz_s M 15 (upd (M 15) 2 ((M 15 2) + 1))) 21) (M 15 2) r)) 23) (M 15 2) s)) 25) (M 15 2) d)) 27) (M 15 2) t)) (M 15 2) p) hy_X6_set wl_X7_42 rfl rfl rfl ⟨Nat.le_of_ble_eq_true rfl, Nat.le_of_ble_eq_true rfl⟩ ⟨Nat.le_refl _, Nat.le_refl _⟩ (Nat.le_of_ble_eq_true rfl) (by decide +kernel) ?_ rfl
  refine mz_go FLX7 KLX7 C [(68, .iload 6)] (by decide +kernel) (pc' := 70) (L' := [(6, .int (M 15 2)), (0, .ref 15), (1, .int r), (2, .int s), (3, .int d), (4, .int t), (5, .int p)]) (st' := [.int (M 15 2)]) rfl ?_
  exact mz_iret C E (by decide +kernel) (rfl) (rfl)
