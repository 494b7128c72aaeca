def g_X2_roomOfProp (M : mz_Mem) (p : Int32) : Int32 := if (mz_rg 4 (M 55) p) = (-1) then (if (mz_rg 4 (M 57) p) = (-1) then (mz_rg 4 (M 53) p) else (mz_rg 12 (M 62) (mz_rg 4 (M 57) p))) else (mz_rg 5 (M 35) (mz_rg 4 (M 55) p))
set_option maxHeartbeats 4000000 in
theorem f_X2_roomOfProp (l : Launch) (D : va_G) (cA : Nat → ClassId) (ρ : Nat → Nat) (hI : mz_I ρ mz_lay1) (M : mz_Mem) (p : Int32) : mz_M l D vwCl cA ρ mz_lay1 yX2_roomOfProp cX2_roomOfProp 2 (some .int) 1 21 [.ref 30, .int p] M (some (.int (g_X2_roomOfProp M p))) M := by
  refine mz_in0 (by decide +kernel) (Nat.le_of_ble_eq_true rfl) (fun Γ C E => ?_)
  have E' := (⟨_, _, _, E⟩ : ∃ Qc mc ms, mz_E Γ Qc mc ms (mz_A ρ mz_lay1))
  refine mz_go FLX2 KLX2 C [(0, .aload_n 0), (1, .getfield 47), (4, .getfield 199), (7, .iload_n 1)] (by decide +kernel) (pc' := 8) (L' := [(0, .ref 30), (1, .int p)]) (st' := [.int p, .ref 54]) rfl ?_
  refine mz_callV (As := [.int p]) (rest := []) C E' (f_Row_get l D cA ρ hI (r := 54) (a := 55) (n := 4) rfl rfl (by decide) M p) hy_X6_get wl_X2_121 rfl rfl rfl ⟨Nat.le_of_ble_eq_true rfl, Nat.le_of_ble_eq_true rfl⟩ ⟨Nat.le_refl _, Nat.le_refl _⟩ (Nat.le_of_ble_eq_true rfl) (by decide +kernel) ?_ rfl
  refine mz_go FLX2 KLX2 C [(11, .iconst (-1))] (by decide +kernel) (pc' := 12) (L' := [(0, .ref 30), (1, .int p)]) (st' := [.int (-1), .int (mz_rg 4 (M 55) p)]) rfl ?_
  refine mz_ieq (off := 25) (tgt := 37) C (by decide +kernel) (by decide) (fun h1 => ?_) (fun h1 => ?_)
  · refine mz_go FLX2 KLX2 C [(37, .aload_n 0), (38, .getfield 47), (41, .getfield 273), (44, .iload_n 1)] (by decide +kernel) (pc' := 45) (L' := [(0, .ref 30), (1, .int p)]) (st' := [.int p, .ref 56]) rfl ?_
    refine mz_callV (As := [.int p]) (rest := []) C E' (f_Row_get l D cA ρ hI (r := 56) (a := 57) (n := 4) rfl rfl (by decide) M p) hy_X6_get wl_X2_121 rfl rfl rfl ⟨Nat.le_of_ble_eq_true rfl, Nat.le_of_ble_eq_true rfl⟩ ⟨Nat.le_refl _, Nat.le_refl _⟩ (Nat.le_of_ble_eq_true rfl) (by decide +kernel) ?_ rfl
    refine mz_go FLX2 KLX2 C [(48, .iconst (-1))] (by decide +kernel) (pc' := 49) (L' := [(0, .ref 30), (1, .int p)]) (st' := [.int (-1), .int (mz_rg 4 (M 57) p)]) rfl ?_
    refine mz_ieq (off := 25) (tgt := 74) C (by decide +kernel) (by decide) (fun h2 => ?_) (fun h2 => ?_)
    · refine mz_go FLX2 KLX2 C [(74, .aload_n 0), (75, .getfield 47), (78, .getfield 198), (81, .iload_n 1)] (by decide +kernel) (pc' := 82) (L' := [(0, .ref 30), (1, .int p)]) (st' := [.int p, .ref 52]) rfl ?_
      refine mz_callV (As := [.int p]) (rest := []) C E' (f_Row_get l D cA ρ hI (r := 52) (a := 53) (n := 4) rfl rfl (by decide) M p) hy_X6_get wl_X2_121 rfl rfl rfl ⟨Nat.le_of_ble_eq_true rfl, Nat.le_of_ble_eq_true rfl⟩ ⟨Nat.le_refl _, Nat.le_refl _⟩ (Nat.le_of_ble_eq_true rfl) (by decide +kernel) ?_ rfl
      exact mz_iret C E (by decide +kernel) (by unfold g_X2_roomOfProp; rw [if_pos h1, if_pos h2]; try rfl) (rfl)
    · refine mz_go FLX2 KLX2 C [(52, .aload_n 0), (53, .getfield 54), (56, .getfield 210), (59, .aload_n 0), (60, .getfield 47), (63, .getfield 273), (66, .iload_n 1)] (by decide +kernel) (pc' := 67) (L' := [(0, .ref 30), (1, .int p)]) (st' := [.int p, .ref 56, .ref 61]) rfl ?_
      refine mz_callV (As := [.int p]) (rest := [.ref 61]) C E' (f_Row_get l D cA ρ hI (r := 56) (a := 57) (n := 4) rfl rfl (by decide) M p) hy_X6_get wl_X2_121 rfl rfl rfl ⟨Nat.le_of_ble_eq_true rfl, Nat.le_of_ble_eq_true rfl⟩ ⟨Nat.le_refl _, Nat.le_refl _⟩ (Nat.le_of_ble_eq_true rfl) (by decide +kernel) ?_ rfl
      refine mz_callV (As := [.int (mz_rg 4 (M 57) p)]) (rest := []) C E' (f_Row_get l D cA ρ hI (r := 61) (a := 62) (n := 12) rfl rfl (by decide) M (mz_rg 4 (M 57) p)) hy_X6_get wl_X2_121 rfl rfl rfl ⟨Nat.le_of_ble_eq_true rfl, Nat.le_of_ble_eq_true rfl⟩ ⟨Nat.le_refl _, Nat.le_refl _⟩ (Nat.le_of_ble_eq_true rfl) (by decide +kernel) ?_ rfl
      exact mz_iret C E (by decide +kernel) (by unfold g_X2_roomOfProp; rw [if_pos h1, if_neg h2]; try rfl) (rfl)
  · refine mz_go FLX2 KLX2 C [(15, .aload_n 0), (16, .getfield 33), (19, .getfield 137), (22, .aload_n 0), (23, .getfield 47), (26, .getfield 199), (29, .iload_n 1)] (by decide +kernel) (pc' := 30) (L' := [(0, .ref 30), (1, .int p)]) (st' := [.int p, .ref 54, .ref 34]) rfl ?_
    refine mz_callV (As := [.int p]) (rest := [.ref 34]) C E' (f_Row_get l D cA ρ hI (r := 54) (a := 55) (n := 4) rfl rfl (by decide) M p) hy_X6_get wl_X2_121 rfl rfl rfl ⟨Nat.le_of_ble_eq_true rfl, Nat.le_of_ble_eq_true rfl⟩ ⟨Nat.le_refl _, Nat.le_refl _⟩ (Nat.le_of_ble_eq_true rfl) (by decide +kernel) ?_ rfl
    refine mz_callV (As := [.int (mz_rg 4 (M 55) p)]) (rest := []) C E' (f_Row_get l D cA ρ hI (r := 34) (a := 35) (n := 5) rfl rfl (by decide) M (mz_rg 4 (M 55) p)) hy_X6_get wl_X2_121 rfl rfl rfl ⟨Nat.le_of_ble_eq_true rfl, Nat.le_of_ble_eq_true rfl⟩ ⟨Nat.le_refl _, Nat.le_refl _⟩ (Nat.le_of_ble_eq_true rfl) (by decide +kernel) ?_ rfl
    exact mz_iret C E (by decide +kernel) (by unfold g_X2_roomOfProp; rw [if_neg h1]; try rfl) (rfl)
def g_X2_isInUse_1 (M : mz_Mem) (p : Int32) (r : Int32) (i6 : Int32) : Bool := if (g_X8_runs M i6) = 0 then false else if (mz_rg 12 (M 21) i6) = r then (if (mz_rg 12 (M 29) i6) = p then true else false) else false
def g_X2_isInUse (M : mz_Mem) (p : Int32) (r : Int32) : Int32 := (match mz_find (M 15 2) (g_X2_isInUse_1 M p r) with | some i6 => 1 | none => 0)
set_option maxHeartbeats 4000000 in
theorem f_X2_isInUse (l : Launch) (D : va_G) (cA : Nat → ClassId) (ρ : Nat → Nat) (hI : mz_I ρ mz_lay1) (M : mz_Mem) (p : Int32) (r : Int32) : mz_M l D vwCl cA ρ mz_lay1 yX2_isInUse cX2_isInUse 4 (some .boolean) 2 42 [.ref 30, .int p, .int r] M (some (.int (g_X2_isInUse M p r))) M := by
  refine mz_in0 (by decide +kernel) (Nat.le_of_ble_eq_true rfl) (fun Γ C E => ?_)
  have E' := (⟨_, _, _, E⟩ : ∃ Qc mc ms, mz_E Γ Qc mc ms (mz_A ρ mz_lay1))
  refine mz_go FLX2 KLX2 C [(0, .iconst 0), (1, .istore_n 3)] (by decide +kernel) (pc' := 2) (L' := [(3, .int 0), (0, .ref 30), (1, .int p), (2, .int r)]) (st' := []) rfl ?_
  refine mz_sub (L' := [(0, .ref 30), (1, .int p), (2, .int r), (3, .int 0)]) (by simp) ?_
  refine mz_loopf (M 15 2) (g_X2_isInUse_1 M p r) (fun i => mz_W Γ ρ 4 0 0 (mz_H D vwCl cA ρ mz_lay1 M) 2 [(0, .ref 30), (1, .int p), (2, .int r), (3, .int i)] []) (fun i6 hi5 hx3 hp4 ih2 => ?_)
  refine mz_go FLX2 KLX2 C [(2, .iload_n 3), (3, .aload_n 0), (4, .getfield 24), (7, .getfield 149)] (by decide +kernel) (pc' := 10) (L' := [(0, .ref 30), (1, .int p), (2, .int r), (3, .int i6)]) (st' := [.int (M 15 2), .int i6]) rfl ?_
  refine mz_ige (off := 52) (tgt := 62) C (by decide +kernel) (by decide) (fun h1 => ?_) (fun h1 => ?_)
  · have hf7 := hx3 h1
    refine mz_sub (L' := [(0, .ref 30), (1, .int p), (2, .int r)]) (by simp) ?_
    refine mz_go FLX2 KLX2 C [(62, .iconst 0)] (by decide +kernel) (pc' := 63) (L' := [(0, .ref 30), (1, .int p), (2, .int r)]) (st' := [.int 0]) rfl ?_
    exact mz_zret C E (by decide +kernel) (Or.inl rfl) (by unfold g_X2_isInUse; rw [hf7]; try rfl) (rfl)
  · refine mz_go FLX2 KLX2 C [(13, .aload_n 0), (14, .getfield 40), (17, .iload_n 3)] (by decide +kernel) (pc' := 18) (L' := [(0, .ref 30), (1, .int p), (2, .int r), (3, .int i6)]) (st' := [.int i6, .ref 40]) rfl ?_
    refine mz_callV (As := [.int i6]) (rest := []) C E' (f_X8_runs l D cA ρ hI M i6) hy_X8_runs wl_X2_152 rfl rfl rfl ⟨Nat.le_of_ble_eq_true rfl, Nat.le_of_ble_eq_true rfl⟩ ⟨Nat.le_refl _, Nat.le_refl _⟩ (Nat.le_of_ble_eq_true rfl) (by decide +kernel) ?_ rfl
    refine mz_zeq (off := 35) (tgt := 56) C (by decide +kernel) (by decide) (fun h8 => ?_) (fun h8 => ?_)
    · refine mz_go FLX2 KLX2 C [(56, .iinc 3 1), (59, .goto (-57))] (by decide +kernel) (pc' := 2) (L' := [(3, .int (i6 + 1)), (0, .ref 30), (1, .int p), (2, .int r)]) (st' := []) rfl ?_
      exact mz_sub (by simp) (ih2 h1 (by unfold g_X2_isInUse_1; rw [if_pos h8]))
    · refine mz_go FLX2 KLX2 C [(24, .aload_n 0), (25, .getfield 24), (28, .getfield 130), (31, .iload_n 3)] (by decide +kernel) (pc' := 32) (L' := [(0, .ref 30), (1, .int p), (2, .int r), (3, .int i6)]) (st' := [.int i6, .ref 20]) rfl ?_
      refine mz_callV (As := [.int i6]) (rest := []) C E' (f_Row_get l D cA ρ hI (r := 20) (a := 21) (n := 12) rfl rfl (by decide) M i6) hy_X6_get wl_X2_121 rfl rfl rfl ⟨Nat.le_of_ble_eq_true rfl, Nat.le_of_ble_eq_true rfl⟩ ⟨Nat.le_refl _, Nat.le_refl _⟩ (Nat.le_of_ble_eq_true rfl) (by decide +kernel) ?_ rfl
      refine mz_go FLX2 KLX2 C [(35, .iload_n 2)] (by decide +kernel) (pc' := 36) (L' := [(0, .ref 30), (1, .int p), (2, .int r), (3, .int i6)]) (st' := [.int r, .int (mz_rg 12 (M 21) i6)]) rfl ?_
      refine mz_ine (off := 20) (tgt := 56) C (by decide +kernel) (by decide) (fun h9 => ?_) (fun h9 => ?_)
      · refine mz_go FLX2 KLX2 C [(56, .iinc 3 1), (59, .goto (-57))] (by decide +kernel) (pc' := 2) (L' := [(3, .int (i6 + 1)), (0, .ref 30), (1, .int p), (2, .int r)]) (st' := []) rfl ?_
        exact mz_sub (by simp) (ih2 h1 (by unfold g_X2_isInUse_1; rw [if_neg h8, if_neg h9]))
      · refine mz_go FLX2 KLX2 C [(39, .aload_n 0), (40, .getfield 24), (43, .getfield 177), (46, .iload_n 3)] (by decide +kernel) (pc' := 47) (L' := [(0, .ref 30), (1, .int p), (2, .int r), (3, .int i6)]) (st' := [.int i6, .ref 28]) rfl ?_
        refine mz_callV (As := [.int i6]) (rest := []) C E' (f_Row_get l D cA ρ hI (r := 28) (a := 29) (n := 12) rfl rfl (by decide) M i6) hy_X6_get wl_X2_121 rfl rfl rfl ⟨Nat.le_of_ble_eq_true rfl, Nat.le_of_ble_eq_true rfl⟩ ⟨Nat.le_refl _, Nat.le_refl _⟩ (Nat.le_of_ble_eq_true rfl) (by decide +kernel) ?_ rfl
        refine mz_go FLX2 KLX2 C [(50, .iload_n 1)] (by decide +kernel) (pc' := 51) (L' := [(0, .ref 30), (1, .int p), (2, .int r), (3, .int i6)]) (st' := [.int p, .int (mz_rg 12 (M 29) i6)]) rfl ?_
        refine mz_ine (off := 5) (tgt := 56) C (by decide +kernel) (by decide) (fun h10 => ?_) (fun h10 => ?_)
        · refine mz_go FLX2 KLX2 C [(56, .iinc 3 1), (59, .goto (-57))] (by decide +kernel) (pc' := 2) (L' := [(3, .int (i6 + 1)), (0, .ref 30), (1, .int p), (2, .int r)]) (st' := []) rfl ?_
          exact mz_sub (by simp) (ih2 h1 (by unfold g_X2_isInUse_1; rw [if_neg h8, if_pos h9, if_neg h10]))
        · refine mz_go FLX2 KLX2 C [(54, .iconst 1)] (by decide +kernel) (pc' := 55) (L' := [(0, .ref 30), (1, .int p), (2, .int r), (3, .int i6)]) (st' := [.int 1]) rfl ?_
          have hf11 := hp4 h1 (by unfold g_X2_isInUse_1; rw [if_neg h8, if_pos h9, if_pos h10])
          exact mz_zret C E (by decide +kernel) (Or.inr rfl) (by unfold g_X2_isInUse; rw [hf11]; try rfl) (rfl)
def g_X2_canTake (M : mz_Mem) (g : Int32) (p : Int32) : Int32 := if (mz_rg 4 (M 53) p) = (mz_rg 12 (M 62) g) then (if (g_X5_heldByGuest M g) = (-1) then (if (g_X2_isInUse M p (mz_rg 12 (M 62) g)) = 0 then 1 else 0) else 0) else 0
set_option maxHeartbeats 4000000 in
theorem f_X2_canTake (l : Launch) (D : va_G) (cA : Nat → ClassId) (ρ : Nat → Nat) (hI : mz_I ρ mz_lay1) (M : mz_Mem) (g : Int32) (p : Int32) : mz_M l D vwCl cA ρ mz_lay1 yX2_canTake cX2_canTake 4 (some .boolean) 3 65 [.ref 30, .int g, .int p] M (some (.int (g_X2_canTake M g p))) M := by
  refine mz_in0 (by decide +kernel) (Nat.le_of_ble_eq_true rfl) (fun Γ C E => ?_)
  have E' := (⟨_, _, _, E⟩ : ∃ Qc mc ms, mz_E Γ Qc mc ms (mz_A ρ mz_lay1))
  refine mz_go FLX2 KLX2 C [(0, .aload_n 0), (1, .getfield 54), (4, .getfield 210), (7, .iload_n 1)] (by decide +kernel) (pc' := 8) (L' := [(0, .ref 30), (1, .int g), (2, .int p)]) (st' := [.int g, .ref 61]) rfl ?_
  refine mz_callV (As := [.int g]) (rest := []) C E' (f_Row_get l D cA ρ hI (r := 61) (a := 62) (n := 12) rfl rfl (by decide) M g) hy_X6_get wl_X2_121 rfl rfl rfl ⟨Nat.le_of_ble_eq_true rfl, Nat.le_of_ble_eq_true rfl⟩ ⟨Nat.le_refl _, Nat.le_refl _⟩ (Nat.le_of_ble_eq_true rfl) (by decide +kernel) ?_ rfl
  refine mz_go FLX2 KLX2 C [(11, .istore_n 3), (12, .aload_n 0), (13, .getfield 47), (16, .getfield 198), (19, .iload_n 2)] (by decide +kernel) (pc' := 20) (L' := [(3, .int (mz_rg 12 (M 62) g)), (0, .ref 30), (1, .int g), (2, .int p)]) (st' := [.int p, .ref 52]) rfl ?_
  refine mz_callV (As := [.int p]) (rest := []) C E' (f_Row_get l D cA ρ hI (r := 52) (a := 53) (n := 4) rfl rfl (by decide) M p) hy_X6_get wl_X2_121 rfl rfl rfl ⟨Nat.le_of_ble_eq_true rfl, Nat.le_of_ble_eq_true rfl⟩ ⟨Nat.le_refl _, Nat.le_refl _⟩ (Nat.le_of_ble_eq_true rfl) (by decide +kernel) ?_ rfl
  refine mz_go FLX2 KLX2 C [(23, .iload_n 3)] (by decide +kernel) (pc' := 24) (L' := [(3, .int (mz_rg 12 (M 62) g)), (0, .ref 30), (1, .int g), (2, .int p)]) (st' := [.int (mz_rg 12 (M 62) g), .int (mz_rg 4 (M 53) p)]) rfl ?_
  refine mz_ine (off := 28) (tgt := 52) C (by decide +kernel) (by decide) (fun h1 => ?_) (fun h1 => ?_)
  · refine mz_go FLX2 KLX2 C [(52, .iconst 0)] (by decide +kernel) (pc' := 53) (L' := [(3, .int (mz_rg 12 (M 62) g)), (0, .ref 30), (1, .int g), (2, .int p)]) (st' := [.int 0]) rfl ?_
    exact mz_zret C E (by decide +kernel) (Or.inl rfl) (by unfold g_X2_canTake; rw [if_neg h1]; try rfl) (rfl)
  · refine mz_go FLX2 KLX2 C [(27, .aload_n 0), (28, .getfield 47), (31, .iload_n 1)] (by decide +kernel) (pc' := 32) (L' := [(3, .int (mz_rg 12 (M 62) g)), (0, .ref 30), (1, .int g), (2, .int p)]) (st' := [.int g, .ref 51]) rfl ?_
    refine mz_callV (As := [.int g]) (rest := []) C E' (f_X5_heldByGuest l D cA ρ hI M g) hy_X5_heldByGuest wl_X2_276 rfl rfl rfl ⟨Nat.le_of_ble_eq_true rfl, Nat.le_of_ble_eq_true rfl⟩ ⟨Nat.le_refl _, Nat.le_refl _⟩ (Nat.le_of_ble_eq_true rfl) (by decide +kernel) ?_ rfl
    refine mz_go FLX2 KLX2 C [(35, .iconst (-1))] (by decide +kernel) (pc' := 36) (L' := [(3, .int (mz_rg 12 (M 62) g)), (0, .ref 30), (1, .int g), (2, .int p)]) (st' := [.int (-1), .int (g_X5_heldByGuest M g)]) rfl ?_
    refine mz_ine (off := 16) (tgt := 52) C (by decide +kernel) (by decide) (fun h2 => ?_) (fun h2 => ?_)
    · refine mz_go FLX2 KLX2 C [(52, .iconst 0)] (by decide +kernel) (pc' := 53) (L' := [(3, .int (mz_rg 12 (M 62) g)), (0, .ref 30), (1, .int g), (2, .int p)]) (st' := [.int 0]) rfl ?_
      exact mz_zret C E (by decide +kernel) (Or.inl rfl) (by unfold g_X2_canTake; rw [if_pos h1, if_neg h2]; try rfl) (rfl)
    · refine mz_go FLX2 KLX2 C [(39, .aload_n 0), (40, .iload_n 2), (41, .iload_n 3)] (by decide +kernel) (pc' := 42) (L' := [(3, .int (mz_rg 12 (M 62) g)), (0, .ref 30), (1, .int g), (2, .int p)]) (st' := [.int (mz_rg 12 (M 62) g), .int p, .ref 30]) rfl ?_
      refine mz_callV (As := [.int p, .int (mz_rg 12 (M 62) g)]) (rest := []) C E' (f_X2_isInUse l D cA ρ hI M p (mz_rg 12 (M 62) g)) hy_X2_isInUse wl_X2_279 rfl rfl rfl ⟨Nat.le_of_ble_eq_true rfl, Nat.le_of_ble_eq_true rfl⟩ ⟨Nat.le_refl _, Nat.le_refl _⟩ (Nat.le_of_ble_eq_true rfl) (by decide +kernel) ?_ rfl
      refine mz_zne (off := 7) (tgt := 52) C (by decide +kernel) (by decide) (fun h3 => ?_) (fun h3 => ?_)
      · refine mz_go FLX2 KLX2 C [(52, .iconst 0)] (by decide +kernel) (pc' := 53) (L' := [(3, .int (mz_rg 12 (M 62) g)), (0, .ref 30), (1, .int g), (2, .int p)]) (st' := [.int 0]) rfl ?_
        exact mz_zret C E (by decide +kernel) (Or.inl rfl) (by unfold g_X2_canTake; rw [if_pos h1, if_pos h2, if_neg h3]; try rfl) (rfl)
      · refine mz_go FLX2 KLX2 C [(48, .iconst 1), (49, .goto 4)] (by decide +kernel) (pc' := 53) (L' := [(3, .int (mz_rg 12 (M 62) g)), (0, .ref 30), (1, .int g), (2, .int p)]) (st' := [.int 1]) rfl ?_
        exact mz_zret C E (by decide +kernel) (Or.inr rfl) (by unfold g_X2_canTake; rw [if_pos h1, if_pos h2, if_pos h3]; try rfl) (rfl)
def g_X2_canDouble (M : mz_Mem) (t : Int32) (b : Int32) : Int32 := if ((g_X8_busyTracks M) &&& ((1 <<< (t &&& 31)) ||| (1 <<< (b &&& 31)))) = 0 then (if (g_X1_isSingle M t) = 0 then 0 else if (g_X1_isSingle M b) = 0 then 0 else if (g_X7_overlap M t b) = 0 then 1 else 0) else 0
set_option maxHeartbeats 4000000 in
theorem f_X2_canDouble (l : Launch) (D : va_G) (cA : Nat → ClassId) (ρ : Nat → Nat) (hI : mz_I ρ mz_lay1) (M : mz_Mem) (t : Int32) (b : Int32) : mz_M l D vwCl cA ρ mz_lay1 yX2_canDouble cX2_canDouble 4 (some .boolean) 3 70 [.ref 30, .int t, .int b] M (some (.int (g_X2_canDouble M t b))) M := by
  refine mz_in0 (by decide +kernel) (Nat.le_of_ble_eq_true rfl) (fun Γ C E => ?_)
  have E' := (⟨_, _, _, E⟩ : ∃ Qc mc ms, mz_E Γ Qc mc ms (mz_A ρ mz_lay1))
  refine mz_go FLX2 KLX2 C [(0, .aload_n 0), (1, .getfield 40)] (by decide +kernel) (pc' := 4) (L' := [(0, .ref 30), (1, .int t), (2, .int b)]) (st' := [.ref 40]) rfl ?_
  refine mz_callV (As := []) (rest := []) C E' (f_X8_busyTracks l D cA ρ hI M ) hy_X8_busyTracks wl_X2_105 rfl rfl rfl ⟨Nat.le_of_ble_eq_true rfl, Nat.le_of_ble_eq_true rfl⟩ ⟨Nat.le_refl _, Nat.le_refl _⟩ (Nat.le_of_ble_eq_true rfl) (by decide +kernel) ?_ rfl
  refine mz_go FLX2 KLX2 C [(7, .iconst 1), (8, .iload_n 1), (9, .ishl), (10, .iconst 1), (11, .iload_n 2), (12, .ishl), (13, .ior), (14, .iand)] (by decide +kernel) (pc' := 15) (L' := [(0, .ref 30), (1, .int t), (2, .int b)]) (st' := [.int ((g_X8_busyTracks M) &&& ((1 <<< (t &&& 31)) ||| (1 <<< (b &&& 31))))]) rfl ?_
  refine mz_zne (off := 7) (tgt := 22) C (by decide +kernel) (by decide) (fun h1 => ?_) (fun h1 => ?_)
  · refine mz_go FLX2 KLX2 C [(22, .iconst 0), (23, .istore_n 3), (24, .iload_n 3)] (by decide +kernel) (pc' := 25) (L' := [(3, .int 0), (0, .ref 30), (1, .int t), (2, .int b)]) (st' := [.int 0]) rfl ?_
    refine mz_zeq (off := 41) (tgt := 66) C (by decide +kernel) (by decide) (fun _ => ?_) (fun h2 => absurd h2 (by decide))
    refine mz_go FLX2 KLX2 C [(66, .iconst 0)] (by decide +kernel) (pc' := 67) (L' := [(3, .int 0), (0, .ref 30), (1, .int t), (2, .int b)]) (st' := [.int 0]) rfl ?_
    exact mz_zret C E (by decide +kernel) (Or.inl rfl) (by unfold g_X2_canDouble; rw [if_neg h1]; try rfl) (rfl)
  · refine mz_go FLX2 KLX2 C [(18, .iconst 1), (19, .goto 4), (23, .istore_n 3), (24, .iload_n 3)] (by decide +kernel) (pc' := 25) (L' := [(3, .int 1), (0, .ref 30), (1, .int t), (2, .int b)]) (st' := [.int 1]) rfl ?_
    refine mz_zeq (off := 41) (tgt := 66) C (by decide +kernel) (by decide) (fun h3 => absurd h3 (by decide)) (fun _ => ?_)
    refine mz_go FLX2 KLX2 C [(28, .aload_n 0), (29, .getfield 33), (32, .iload_n 1)] (by decide +kernel) (pc' := 33) (L' := [(3, .int 1), (0, .ref 30), (1, .int t), (2, .int b)]) (st' := [.int t, .ref 33]) rfl ?_
    refine mz_callV (As := [.int t]) (rest := []) C E' (f_X1_isSingle l D cA ρ hI M t) hy_X1_isSingle wl_X2_282 rfl rfl rfl ⟨Nat.le_of_ble_eq_true rfl, Nat.le_of_ble_eq_true rfl⟩ ⟨Nat.le_refl _, Nat.le_refl _⟩ (Nat.le_of_ble_eq_true rfl) (by decide +kernel) ?_ rfl
    refine mz_zeq (off := 30) (tgt := 66) C (by decide +kernel) (by decide) (fun h4 => ?_) (fun h4 => ?_)
    · refine mz_go FLX2 KLX2 C [(66, .iconst 0)] (by decide +kernel) (pc' := 67) (L' := [(3, .int 1), (0, .ref 30), (1, .int t), (2, .int b)]) (st' := [.int 0]) rfl ?_
      exact mz_zret C E (by decide +kernel) (Or.inl rfl) (by unfold g_X2_canDouble; rw [if_pos h1, if_pos h4]; try rfl) (rfl)
    · refine mz_go FLX2 KLX2 C [(39, .aload_n 0), (40, .getfield 33), (43, .iload_n 2)] (by decide +kernel) (pc' := 44) (L' := [(3, .int 1), (0, .ref 30), (1, .int t), (2, .int b)]) (st' := [.int b, .ref 33]) rfl ?_
      refine mz_callV (As := [.int b]) (rest := []) C E' (f_X1_isSingle l D cA ρ hI M b) hy_X1_isSingle wl_X2_282 rfl rfl rfl ⟨Nat.le_of_ble_eq_true rfl, Nat.le_of_ble_eq_true rfl⟩ ⟨Nat.le_refl _, Nat.le_refl _⟩ (Nat.le_of_ble_eq_true rfl) (by decide +kernel) ?_ rfl
      refine mz_zeq (off := 19) (tgt := 66) C (by decide +kernel) (by decide) (fun h5 => ?_) (fun h5 => ?_)
      · refine mz_go FLX2 KLX2 C [(66, .iconst 0)] (by decide +kernel) (pc' := 67) (L' := [(3, .int 1), (0, .ref 30), (1, .int t), (2, .int b)]) (st' := [.int 0]) rfl ?_
        exact mz_zret C E (by decide +kernel) (Or.inl rfl) (by unfold g_X2_canDouble; rw [if_pos h1, if_neg h4, if_pos h5]; try rfl) (rfl)
      · refine mz_go FLX2 KLX2 C [(50, .aload_n 0), (51, .getfield 24), (54, .iload_n 1), (55, .iload_n 2)] (by decide +kernel) (pc' := 56) (L' := [(3, .int 1), (0, .ref 30), (1, .int t), (2, .int b)]) (st' := [.int b, .int t, .ref 15]) rfl ?_
        refine mz_callV (As := [.int t, .int b]) (rest := []) C E' (f_X7_overlap l D cA ρ hI M t b) hy_X7_overlap wl_X2_285 rfl rfl rfl ⟨Nat.le_of_ble_eq_true rfl, Nat.le_of_ble_eq_true rfl⟩ ⟨Nat.le_refl _, Nat.le_refl _⟩ (Nat.le_of_ble_eq_true rfl) (by decide +kernel) ?_ rfl
        refine mz_zne (off := 7) (tgt := 66) C (by decide +kernel) (by decide) (fun h6 => ?_) (fun h6 => ?_)
        · refine mz_go FLX2 KLX2 C [(66, .iconst 0)] (by decide +kernel) (pc' := 67) (L' := [(3, .int 1), (0, .ref 30), (1, .int t), (2, .int b)]) (st' := [.int 0]) rfl ?_
          exact mz_zret C E (by decide +kernel) (Or.inl rfl) (by unfold g_X2_canDouble; rw [if_pos h1, if_neg h4, if_neg h5, if_neg h6]; try rfl) (rfl)
        · refine mz_go FLX2 KLX2 C [(62, .iconst 1), (63, .goto 4)] (by decide +kernel) (pc' := 67) (L' := [(3, .int 1), (0, .ref 30), (1, .int t), (2, .int b)]) (st' := [.int 1]) rfl ?_
          exact mz_zret C E (by decide +kernel) (Or.inr rfl) (by unfold g_X2_canDouble; rw [if_pos h1, if_neg h4, if_neg h5, if_pos h6]; try rfl) (rfl)
