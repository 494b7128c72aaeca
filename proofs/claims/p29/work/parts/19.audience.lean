def g_X0_changeHabit (M : mz_Mem) (g : Int32) (h : Int32) (t : Int32) : mz_Mem := if h = 1 then (mz_s (mz_s M 64 (mz_rs 12 (M 64) g h)) 66 (mz_rs 12 ((mz_s M 64 (mz_rs 12 (M 64) g h)) 66) g t)) else (mz_s (mz_s M 64 (mz_rs 12 (M 64) g h)) 66 (mz_rs 12 ((mz_s M 64 (mz_rs 12 (M 64) g h)) 66) g (-1)))
theorem g_X0_changeHabit_hs (M : mz_Mem) (g : Int32) (h : Int32) (t : Int32) : mz_hs M (g_X0_changeHabit M g h t) := by
  unfold g_X0_changeHabit
  by_cases h1 : h = 1
  · rw [if_pos h1]
    exact (mz_hs_s (by decide)).trans (mz_hs_s (by decide))
  · rw [if_neg h1]
    exact (mz_hs_s (by decide)).trans (mz_hs_s (by decide))

set_option maxHeartbeats 4000000 in
theorem f_X0_changeHabit (l : Launch) (D : va_G) (cA : Nat → ClassId) (ρ : Nat → Nat) (hI : mz_I ρ mz_lay1) (M : mz_Mem) (g : Int32) (h : Int32) (t : Int32) : mz_M l D vwCl cA ρ mz_lay1 yX0_changeHabit cX0_changeHabit 4 none 1 22 [.ref 60, .int g, .int h, .int t] M none (g_X0_changeHabit M g h t) := by
  refine mz_in0 (by decide +kernel) (Nat.le_of_ble_eq_true rfl) (fun Γ C E => ?_)
  have E' := (⟨_, _, _, E⟩ : ∃ Qc mc ms, mz_E Γ Qc mc ms (mz_A ρ mz_lay1))
  refine mz_go FLX0 KLX0 C [(0, .aload_n 0), (1, .getfield 20), (4, .iload_n 1), (5, .iload_n 2)] (by decide +kernel) (pc' := 6) (L' := [(0, .ref 60), (1, .int g), (2, .int h), (3, .int t)]) (st' := [.int h, .int g, .ref 63]) rfl ?_
  refine mz_callV (As := [.int g, .int h]) (rest := []) C E' (f_Row_set l D cA ρ hI (r := 63) (a := 64) (n := 12) rfl rfl (by decide) M g h) hy_X6_set wl_X0_58 rfl rfl rfl ⟨Nat.le_of_ble_eq_true rfl, Nat.le_of_ble_eq_true rfl⟩ ⟨Nat.le_refl _, Nat.le_refl _⟩ (Nat.le_of_ble_eq_true rfl) (by decide +kernel) ?_ rfl
  refine mz_go FLX0 KLX0 C [(9, .aload_n 0), (10, .getfield 23), (13, .iload_n 1), (14, .iload_n 2), (15, .iconst 1)] (by decide +kernel) (pc' := 16) (L' := [(0, .ref 60), (1, .int g), (2, .int h), (3, .int t)]) (st' := [.int 1, .int h, .int g, .ref 65]) rfl ?_
  refine mz_ine (off := 7) (tgt := 23) C (by decide +kernel) (by decide) (fun h1 => ?_) (fun h1 => ?_)
  · refine mz_go FLX0 KLX0 C [(23, .iconst (-1))] (by decide +kernel) (pc' := 24) (L' := [(0, .ref 60), (1, .int g), (2, .int h), (3, .int t)]) (st' := [.int (-1), .int g, .ref 65]) rfl ?_
    refine mz_callV (As := [.int g, .int (-1)]) (rest := []) C E' (f_Row_set l D cA ρ hI (r := 65) (a := 66) (n := 12) rfl rfl (by decide) (mz_s M 64 (mz_rs 12 (M 64) g h)) g (-1)) hy_X6_set wl_X0_58 rfl rfl rfl ⟨Nat.le_of_ble_eq_true rfl, Nat.le_of_ble_eq_true rfl⟩ ⟨Nat.le_refl _, Nat.le_refl _⟩ (Nat.le_of_ble_eq_true rfl) (by decide +kernel) ?_ rfl
    exact mz_vret C E (by decide +kernel) (by unfold g_X0_changeHabit; rw [if_neg h1]; try rfl)
  · refine mz_go FLX0 KLX0 C [(19, .iload_n 3), (20, .goto 4)] (by decide +kernel) (pc' := 24) (L' := [(0, .ref 60), (1, .int g), (2, .int h), (3, .int t)]) (st' := [.int t, .int g, .ref 65]) rfl ?_
    refine mz_callV (As := [.int g, .int t]) (rest := []) C E' (f_Row_set l D cA ρ hI (r := 65) (a := 66) (n := 12) rfl rfl (by decide) (mz_s M 64 (mz_rs 12 (M 64) g h)) g t) hy_X6_set wl_X0_58 rfl rfl rfl ⟨Nat.le_of_ble_eq_true rfl, Nat.le_of_ble_eq_true rfl⟩ ⟨Nat.le_refl _, Nat.le_refl _⟩ (Nat.le_of_ble_eq_true rfl) (by decide +kernel) ?_ rfl
    exact mz_vret C E (by decide +kernel) (by unfold g_X0_changeHabit; rw [if_pos h1]; try rfl)
def g_X0_enter (M : mz_Mem) (p : Int32) : Int32 × mz_Mem := ((M 60 0), (g_X0_changeHabit (mz_s (mz_s (mz_s M 60 (upd (M 60) 0 ((M 60 0) + 1))) 62 (mz_rs 12 ((mz_s M 60 (upd (M 60) 0 ((M 60 0) + 1))) 62) (M 60 0) p)) 77 (mz_ra 8 ((mz_s (mz_s M 60 (upd (M 60) 0 ((M 60 0) + 1))) 62 (mz_rs 12 ((mz_s M 60 (upd (M 60) 0 ((M 60 0) + 1))) 62) (M 60 0) p)) 77) p 1)) (M 60 0) 0 (-1)))
set_option maxHeartbeats 4000000 in
theorem f_X0_enter (l : Launch) (D : va_G) (cA : Nat → ClassId) (ρ : Nat → Nat) (hI : mz_I ρ mz_lay1) (M : mz_Mem) (p : Int32) : mz_M l D vwCl cA ρ mz_lay1 yX0_enter cX0_enter 3 (some .int) 2 45 [.ref 60, .int p] M (some (.int (g_X0_enter M p).1)) (g_X0_enter M p).2 := by
  refine mz_in0 (by decide +kernel) (Nat.le_of_ble_eq_true rfl) (fun Γ C E => ?_)
  have E' := (⟨_, _, _, E⟩ : ∃ Qc mc ms, mz_E Γ Qc mc ms (mz_A ρ mz_lay1))
  refine mz_go FLX0 KLX0 C [(0, .aload_n 0), (1, .getfield 47), (4, .istore_n 2), (5, .aload_n 0), (6, .dup), (7, .getfield 47), (10, .iconst 1), (11, .iadd)] (by decide +kernel) (pc' := 12) (L' := [(2, .int (M 60 0)), (0, .ref 60), (1, .int p)]) (st' := [.int ((M 60 0) + 1), .ref 60]) rfl ?_
  refine mz_put (id := 60) (ci := 0) (j := 0) (T := TX0) (N := 9) C E' hI rfl rfl rfl (by decide) iu_X0 tyX0 tyX0_ok nmX0 wf_X0_47 rfl (by decide +kernel) (by decide +kernel) ?_
  refine mz_go FLX0 KLX0 C [(15, .aload_n 0), (16, .getfield 14), (19, .iload_n 2), (20, .iload_n 1)] (by decide +kernel) (pc' := 21) (L' := [(2, .int (M 60 0)), (0, .ref 60), (1, .int p)]) (st' := [.int p, .int (M 60 0), .ref 61]) rfl ?_
  refine mz_callV (As := [.int (M 60 0), .int p]) (rest := []) C E' (f_Row_set l D cA ρ hI (r := 61) (a := 62) (n := 12) rfl rfl (by decide) (mz_s M 60 (upd (M 60) 0 ((M 60 0) + 1))) (M 60 0) p) hy_X6_set wl_X0_58 rfl rfl rfl ⟨Nat.le_of_ble_eq_true rfl, Nat.le_of_ble_eq_true rfl⟩ ⟨Nat.le_refl _, Nat.le_refl _⟩ (Nat.le_of_ble_eq_true rfl) (by decide +kernel) ?_ rfl
  refine mz_go FLX0 KLX0 C [(24, .aload_n 0), (25, .getfield 44), (28, .iload_n 1), (29, .iconst 1)] (by decide +kernel) (pc' := 30) (L' := [(2, .int (M 60 0)), (0, .ref 60), (1, .int p)]) (st' := [.int 1, .int p, .ref 76]) rfl ?_
  refine mz_callV (As := [.int p, .int 1]) (rest := []) C E' (f_Row_add l D cA ρ hI (r := 76) (a := 77) (n := 8) rfl rfl (by decide) (mz_s (mz_s M 60 (upd (M 60) 0 ((M 60 0) + 1))) 62 (mz_rs 12 ((mz_s M 60 (upd (M 60) 0 ((M 60 0) + 1))) 62) (M 60 0) p)) p 1) hy_X6_add wl_X0_61 rfl rfl rfl ⟨Nat.le_of_ble_eq_true rfl, Nat.le_of_ble_eq_true rfl⟩ ⟨Nat.le_refl _, Nat.le_refl _⟩ (Nat.le_of_ble_eq_true rfl) (by decide +kernel) ?_ rfl
  refine mz_go FLX0 KLX0 C [(33, .aload_n 0), (34, .iload_n 2), (35, .iconst 0), (36, .iconst (-1))] (by decide +kernel) (pc' := 37) (L' := [(2, .int (M 60 0)), (0, .ref 60), (1, .int p)]) (st' := [.int (-1), .int 0, .int (M 60 0), .ref 60]) rfl ?_
  refine mz_callV (As := [.int (M 60 0), .int 0, .int (-1)]) (rest := []) C E' (f_X0_changeHabit l D cA ρ hI (mz_s (mz_s (mz_s M 60 (upd (M 60) 0 ((M 60 0) + 1))) 62 (mz_rs 12 ((mz_s M 60 (upd (M 60) 0 ((M 60 0) + 1))) 62) (M 60 0) p)) 77 (mz_ra 8 ((mz_s (mz_s M 60 (upd (M 60) 0 ((M 60 0) + 1))) 62 (mz_rs 12 ((mz_s M 60 (upd (M 60) 0 ((M 60 0) + 1))) 62) (M 60 0) p)) 77) p 1)) (M 60 0) 0 (-1)) hy_X0_changeHabit wl_X0_64 rfl rfl rfl ⟨Nat.le_of_ble_eq_true rfl, Nat.le_of_ble_eq_true rfl⟩ ⟨Nat.le_refl _, Nat.le_refl _⟩ (Nat.le_of_ble_eq_true rfl) (by decide +kernel) ?_ rfl
  refine mz_go FLX0 KLX0 C [(40, .iload_n 2)] (by decide +kernel) (pc' := 41) (L' := [(2, .int (M 60 0)), (0, .ref 60), (1, .int p)]) (st' := [.int (M 60 0)]) rfl ?_
  exact mz_iret C E (by decide +kernel) (rfl) (rfl)
def g_X0_walk (M : mz_Mem) (g : Int32) (to_ : Int32) : mz_Mem := (mz_s (mz_s (mz_s (mz_s M 77 (mz_ra 8 (M 77) (mz_rg 12 (M 62) g) (-1))) 77 (mz_ra 8 ((mz_s M 77 (mz_ra 8 (M 77) (mz_rg 12 (M 62) g) (-1))) 77) to_ 1)) 62 (mz_rs 12 ((mz_s (mz_s M 77 (mz_ra 8 (M 77) (mz_rg 12 (M 62) g) (-1))) 77 (mz_ra 8 ((mz_s M 77 (mz_ra 8 (M 77) (mz_rg 12 (M 62) g) (-1))) 77) to_ 1)) 62) g to_)) 70 (mz_ra 12 ((mz_s (mz_s (mz_s M 77 (mz_ra 8 (M 77) (mz_rg 12 (M 62) g) (-1))) 77 (mz_ra 8 ((mz_s M 77 (mz_ra 8 (M 77) (mz_rg 12 (M 62) g) (-1))) 77) to_ 1)) 62 (mz_rs 12 ((mz_s (mz_s M 77 (mz_ra 8 (M 77) (mz_rg 12 (M 62) g) (-1))) 77 (mz_ra 8 ((mz_s M 77 (mz_ra 8 (M 77) (mz_rg 12 (M 62) g) (-1))) 77) to_ 1)) 62) g to_)) 70) g 1))
theorem g_X0_walk_hs (M : mz_Mem) (g : Int32) (to_ : Int32) : mz_hs M (g_X0_walk M g to_) := by
  unfold g_X0_walk
  exact (((mz_hs_s (by decide)).trans (mz_hs_s (by decide))).trans (mz_hs_s (by decide))).trans (mz_hs_s (by decide))

set_option maxHeartbeats 4000000 in
theorem f_X0_walk (l : Launch) (D : va_G) (cA : Nat → ClassId) (ρ : Nat → Nat) (hI : mz_I ρ mz_lay1) (M : mz_Mem) (g : Int32) (to_ : Int32) : mz_M l D vwCl cA ρ mz_lay1 yX0_walk cX0_walk 3 none 1 22 [.ref 60, .int g, .int to_] M none (g_X0_walk M g to_) := by
  refine mz_in0 (by decide +kernel) (Nat.le_of_ble_eq_true rfl) (fun Γ C E => ?_)
  have E' := (⟨_, _, _, E⟩ : ∃ Qc mc ms, mz_E Γ Qc mc ms (mz_A ρ mz_lay1))
  refine mz_go FLX0 KLX0 C [(0, .aload_n 0), (1, .getfield 44), (4, .aload_n 0), (5, .getfield 14), (8, .iload_n 1)] (by decide +kernel) (pc' := 9) (L' := [(0, .ref 60), (1, .int g), (2, .int to_)]) (st' := [.int g, .ref 61, .ref 76]) rfl ?_
  refine mz_callV (As := [.int g]) (rest := [.ref 76]) C E' (f_Row_get l D cA ρ hI (r := 61) (a := 62) (n := 12) rfl rfl (by decide) M g) hy_X6_get wl_X0_68 rfl rfl rfl ⟨Nat.le_of_ble_eq_true rfl, Nat.le_of_ble_eq_true rfl⟩ ⟨Nat.le_refl _, Nat.le_refl _⟩ (Nat.le_of_ble_eq_true rfl) (by decide +kernel) ?_ rfl
  refine mz_go FLX0 KLX0 C [(12, .iconst (-1))] (by decide +kernel) (pc' := 13) (L' := [(0, .ref 60), (1, .int g), (2, .int to_)]) (st' := [.int (-1), .int (mz_rg 12 (M 62) g), .ref 76]) rfl ?_
  refine mz_callV (As := [.int (mz_rg 12 (M 62) g), .int (-1)]) (rest := []) C E' (f_Row_add l D cA ρ hI (r := 76) (a := 77) (n := 8) rfl rfl (by decide) M (mz_rg 12 (M 62) g) (-1)) hy_X6_add wl_X0_61 rfl rfl rfl ⟨Nat.le_of_ble_eq_true rfl, Nat.le_of_ble_eq_true rfl⟩ ⟨Nat.le_refl _, Nat.le_refl _⟩ (Nat.le_of_ble_eq_true rfl) (by decide +kernel) ?_ rfl
  refine mz_go FLX0 KLX0 C [(16, .aload_n 0), (17, .getfield 44), (20, .iload_n 2), (21, .iconst 1)] (by decide +kernel) (pc' := 22) (L' := [(0, .ref 60), (1, .int g), (2, .int to_)]) (st' := [.int 1, .int to_, .ref 76]) rfl ?_
  refine mz_callV (As := [.int to_, .int 1]) (rest := []) C E' (f_Row_add l D cA ρ hI (r := 76) (a := 77) (n := 8) rfl rfl (by decide) (mz_s M 77 (mz_ra 8 (M 77) (mz_rg 12 (M 62) g) (-1))) to_ 1) hy_X6_add wl_X0_61 rfl rfl rfl ⟨Nat.le_of_ble_eq_true rfl, Nat.le_of_ble_eq_true rfl⟩ ⟨Nat.le_refl _, Nat.le_refl _⟩ (Nat.le_of_ble_eq_true rfl) (by decide +kernel) ?_ rfl
  refine mz_go FLX0 KLX0 C [(25, .aload_n 0), (26, .getfield 14), (29, .iload_n 1), (30, .iload_n 2)] (by decide +kernel) (pc' := 31) (L' := [(0, .ref 60), (1, .int g), (2, .int to_)]) (st' := [.int to_, .int g, .ref 61]) rfl ?_
  refine mz_callV (As := [.int g, .int to_]) (rest := []) C E' (f_Row_set l D cA ρ hI (r := 61) (a := 62) (n := 12) rfl rfl (by decide) (mz_s (mz_s M 77 (mz_ra 8 (M 77) (mz_rg 12 (M 62) g) (-1))) 77 (mz_ra 8 ((mz_s M 77 (mz_ra 8 (M 77) (mz_rg 12 (M 62) g) (-1))) 77) to_ 1)) g to_) hy_X6_set wl_X0_58 rfl rfl rfl ⟨Nat.le_of_ble_eq_true rfl, Nat.le_of_ble_eq_true rfl⟩ ⟨Nat.le_refl _, Nat.le_refl _⟩ (Nat.le_of_ble_eq_true rfl) (by decide +kernel) ?_ rfl
  refine mz_go FLX0 KLX0 C [(34, .aload_n 0), (35, .getfield 29), (38, .iload_n 1), (39, .iconst 1)] (by decide +kernel) (pc' := 40) (L' := [(0, .ref 60), (1, .int g), (2, .int to_)]) (st' := [.int 1, .int g, .ref 69]) rfl ?_
  refine mz_callV (As := [.int g, .int 1]) (rest := []) C E' (f_Row_add l D cA ρ hI (r := 69) (a := 70) (n := 12) rfl rfl (by decide) (mz_s (mz_s (mz_s M 77 (mz_ra 8 (M 77) (mz_rg 12 (M 62) g) (-1))) 77 (mz_ra 8 ((mz_s M 77 (mz_ra 8 (M 77) (mz_rg 12 (M 62) g) (-1))) 77) to_ 1)) 62 (mz_rs 12 ((mz_s (mz_s M 77 (mz_ra 8 (M 77) (mz_rg 12 (M 62) g) (-1))) 77 (mz_ra 8 ((mz_s M 77 (mz_ra 8 (M 77) (mz_rg 12 (M 62) g) (-1))) 77) to_ 1)) 62) g to_)) g 1) hy_X6_add wl_X0_61 rfl rfl rfl ⟨Nat.le_of_ble_eq_true rfl, Nat.le_of_ble_eq_true rfl⟩ ⟨Nat.le_refl _, Nat.le_refl _⟩ (Nat.le_of_ble_eq_true rfl) (by decide +kernel) ?_ rfl
  exact mz_vret C E (by decide +kernel) (rfl)
def g_X0_knows (M : mz_Mem) (g : Int32) (k : Int32) : Int32 := if ((mz_rg 12 (M 68) g) &&& (1 <<< (k &&& 31))) = 0 then 0 else 1
set_option maxHeartbeats 4000000 in
theorem f_X0_knows (l : Launch) (D : va_G) (cA : Nat → ClassId) (ρ : Nat → Nat) (hI : mz_I ρ mz_lay1) (M : mz_Mem) (g : Int32) (k : Int32) : mz_M l D vwCl cA ρ mz_lay1 yX0_knows cX0_knows 3 (some .boolean) 1 21 [.ref 60, .int g, .int k] M (some (.int (g_X0_knows M g k))) M := by
  refine mz_in0 (by decide +kernel) (Nat.le_of_ble_eq_true rfl) (fun Γ C E => ?_)
  have E' := (⟨_, _, _, E⟩ : ∃ Qc mc ms, mz_E Γ Qc mc ms (mz_A ρ mz_lay1))
  refine mz_go FLX0 KLX0 C [(0, .aload_n 0), (1, .getfield 26), (4, .iload_n 1)] (by decide +kernel) (pc' := 5) (L' := [(0, .ref 60), (1, .int g), (2, .int k)]) (st' := [.int g, .ref 67]) rfl ?_
  refine mz_callV (As := [.int g]) (rest := []) C E' (f_Row_get l D cA ρ hI (r := 67) (a := 68) (n := 12) rfl rfl (by decide) M g) hy_X6_get wl_X0_68 rfl rfl rfl ⟨Nat.le_of_ble_eq_true rfl, Nat.le_of_ble_eq_true rfl⟩ ⟨Nat.le_refl _, Nat.le_refl _⟩ (Nat.le_of_ble_eq_true rfl) (by decide +kernel) ?_ rfl
  refine mz_go FLX0 KLX0 C [(8, .iconst 1), (9, .iload_n 2), (10, .ishl), (11, .iand)] (by decide +kernel) (pc' := 12) (L' := [(0, .ref 60), (1, .int g), (2, .int k)]) (st' := [.int ((mz_rg 12 (M 68) g) &&& (1 <<< (k &&& 31)))]) rfl ?_
  refine mz_zeq (off := 7) (tgt := 19) C (by decide +kernel) (by decide) (fun h1 => ?_) (fun h1 => ?_)
  · refine mz_go FLX0 KLX0 C [(19, .iconst 0)] (by decide +kernel) (pc' := 20) (L' := [(0, .ref 60), (1, .int g), (2, .int k)]) (st' := [.int 0]) rfl ?_
    exact mz_zret C E (by decide +kernel) (Or.inl rfl) (by unfold g_X0_knows; rw [if_pos h1]; try rfl) (rfl)
  · refine mz_go FLX0 KLX0 C [(15, .iconst 1), (16, .goto 4)] (by decide +kernel) (pc' := 20) (L' := [(0, .ref 60), (1, .int g), (2, .int k)]) (st' := [.int 1]) rfl ?_
    exact mz_zret C E (by decide +kernel) (Or.inr rfl) (by unfold g_X0_knows; rw [if_neg h1]; try rfl) (rfl)
def g_X0_see (M : mz_Mem) (g : Int32) (k : Int32) (m : Int32) : mz_Mem := if ((mz_gg 144 (M 73 0) (M 75) g k) + 1) < m then (mz_s M 75 (mz_gs 144 (M 73 0) (M 75) g k ((mz_gg 144 (M 73 0) (M 75) g k) + 1))) else (mz_s (mz_s M 75 (mz_gs 144 (M 73 0) (M 75) g k ((mz_gg 144 (M 73 0) (M 75) g k) + 1))) 68 (mz_rs 12 ((mz_s M 75 (mz_gs 144 (M 73 0) (M 75) g k ((mz_gg 144 (M 73 0) (M 75) g k) + 1))) 68) g ((mz_rg 12 ((mz_s M 75 (mz_gs 144 (M 73 0) (M 75) g k ((mz_gg 144 (M 73 0) (M 75) g k) + 1))) 68) g) ||| (1 <<< (k &&& 31)))))
theorem g_X0_see_hs (M : mz_Mem) (g : Int32) (k : Int32) (m : Int32) : mz_hs M (g_X0_see M g k m) := by
  unfold g_X0_see
  by_cases h1 : ((mz_gg 144 (M 73 0) (M 75) g k) + 1) < m
  · rw [if_pos h1]
    exact mz_hs_s (by decide)
  · rw [if_neg h1]
    exact (mz_hs_s (by decide)).trans (mz_hs_s (by decide))

set_option maxHeartbeats 4000000 in
theorem f_X0_see (l : Launch) (D : va_G) (cA : Nat → ClassId) (ρ : Nat → Nat) (hI : mz_I ρ mz_lay1) (M : mz_Mem) (g : Int32) (k : Int32) (m : Int32) : mz_M l D vwCl cA ρ mz_lay1 yX0_see cX0_see 5 none 2 45 [.ref 60, .int g, .int k, .int m] M none (g_X0_see M g k m) := by
  refine mz_in0 (by decide +kernel) (Nat.le_of_ble_eq_true rfl) (fun Γ C E => ?_)
  have E' := (⟨_, _, _, E⟩ : ∃ Qc mc ms, mz_E Γ Qc mc ms (mz_A ρ mz_lay1))
  refine mz_go FLX0 KLX0 C [(0, .aload_n 0), (1, .getfield 40), (4, .iload_n 1), (5, .iload_n 2)] (by decide +kernel) (pc' := 6) (L' := [(0, .ref 60), (1, .int g), (2, .int k), (3, .int m)]) (st' := [.int k, .int g, .ref 73]) rfl ?_
  refine mz_callV (As := [.int g, .int k]) (rest := []) C E' (f_Grid_get l D cA ρ hI (g := 73) (r := 74) (a := 75) (n := 144) rfl rfl rfl (by decide) M g k) hy_X3_get wl_X0_72 rfl rfl rfl ⟨Nat.le_of_ble_eq_true rfl, Nat.le_of_ble_eq_true rfl⟩ ⟨Nat.le_refl _, Nat.le_refl _⟩ (Nat.le_of_ble_eq_true rfl) (by decide +kernel) ?_ rfl
  refine mz_go FLX0 KLX0 C [(9, .iconst 1), (10, .iadd), (11, .istore 4), (13, .aload_n 0), (14, .getfield 40), (17, .iload_n 1), (18, .iload_n 2), (19, .iload 4)] (by decide +kernel) (pc' := 21) (L' := [(4, .int ((mz_gg 144 (M 73 0) (M 75) g k) + 1)), (0, .ref 60), (1, .int g), (2, .int k), (3, .int m)]) (st' := [.int ((mz_gg 144 (M 73 0) (M 75) g k) + 1), .int k, .int g, .ref 73]) rfl ?_
  refine mz_callV (As := [.int g, .int k, .int ((mz_gg 144 (M 73 0) (M 75) g k) + 1)]) (rest := []) C E' (f_Grid_set l D cA ρ hI (g := 73) (r := 74) (a := 75) (n := 144) rfl rfl rfl (by decide) M g k ((mz_gg 144 (M 73 0) (M 75) g k) + 1)) hy_X3_set wl_X0_75 rfl rfl rfl ⟨Nat.le_of_ble_eq_true rfl, Nat.le_of_ble_eq_true rfl⟩ ⟨Nat.le_refl _, Nat.le_refl _⟩ (Nat.le_of_ble_eq_true rfl) (by decide +kernel) ?_ rfl
  refine mz_go FLX0 KLX0 C [(24, .iload 4), (26, .iload_n 3)] (by decide +kernel) (pc' := 27) (L' := [(4, .int ((mz_gg 144 (M 73 0) (M 75) g k) + 1)), (0, .ref 60), (1, .int g), (2, .int k), (3, .int m)]) (st' := [.int m, .int ((mz_gg 144 (M 73 0) (M 75) g k) + 1)]) rfl ?_
  refine mz_ilt (off := 23) (tgt := 50) C (by decide +kernel) (by decide) (fun h1 => ?_) (fun h1 => ?_)
  · exact mz_vret C E (by decide +kernel) (by unfold g_X0_see; rw [if_pos h1]; try rfl)
  · refine mz_go FLX0 KLX0 C [(30, .aload_n 0), (31, .getfield 26), (34, .iload_n 1), (35, .aload_n 0), (36, .getfield 26), (39, .iload_n 1)] (by decide +kernel) (pc' := 40) (L' := [(4, .int ((mz_gg 144 (M 73 0) (M 75) g k) + 1)), (0, .ref 60), (1, .int g), (2, .int k), (3, .int m)]) (st' := [.int g, .ref 67, .int g, .ref 67]) rfl ?_
    refine mz_callV (As := [.int g]) (rest := [.int g, .ref 67]) C E' (f_Row_get l D cA ρ hI (r := 67) (a := 68) (n := 12) rfl rfl (by decide) (mz_s M 75 (mz_gs 144 (M 73 0) (M 75) g k ((mz_gg 144 (M 73 0) (M 75) g k) + 1))) g) hy_X6_get wl_X0_68 rfl rfl rfl ⟨Nat.le_of_ble_eq_true rfl, Nat.le_of_ble_eq_true rfl⟩ ⟨Nat.le_refl _, Nat.le_refl _⟩ (Nat.le_of_ble_eq_true rfl) (by decide +kernel) ?_ rfl
    refine mz_go FLX0 KLX0 C [(43, .iconst 1), (44, .iload_n 2), (45, .ishl), (46, .ior)] (by decide +kernel) (pc' := 47) (L' := [(4, .int ((mz_gg 144 (M 73 0) (M 75) g k) + 1)), (0, .ref 60), (1, .int g), (2, .int k), (3, .int m)]) (st' := [.int ((mz_rg 12 ((mz_s M 75 (mz_gs 144 (M 73 0) (M 75) g k ((mz_gg 144 (M 73 0) (M 75) g k) + 1))) 68) g) ||| (1 <<< (k &&& 31))), .int g, .ref 67]) rfl ?_
    refine mz_callV (As := [.int g, .int ((mz_rg 12 ((mz_s M 75 (mz_gs 144 (M 73 0) (M 75) g k ((mz_gg 144 (M 73 0) (M 75) g k) + 1))) 68) g) ||| (1 <<< (k &&& 31)))]) (rest := []) C E' (f_Row_set l D cA ρ hI (r := 67) (a := 68) (n := 12) rfl rfl (by decide) (mz_s M 75 (mz_gs 144 (M 73 0) (M 75) g k ((mz_gg 144 (M 73 0) (M 75) g k) + 1))) g ((mz_rg 12 ((mz_s M 75 (mz_gs 144 (M 73 0) (M 75) g k ((mz_gg 144 (M 73 0) (M 75) g k) + 1))) 68) g) ||| (1 <<< (k &&& 31)))) hy_X6_set wl_X0_58 rfl rfl rfl ⟨Nat.le_of_ble_eq_true rfl, Nat.le_of_ble_eq_true rfl⟩ ⟨Nat.le_refl _, Nat.le_refl _⟩ (Nat.le_of_ble_eq_true rfl) (by decide +kernel) ?_ rfl
    exact mz_vret C E (by decide +kernel) (by unfold g_X0_see; rw [if_neg h1]; try rfl)
def g_X0_countKnownBy (M : mz_Mem) (g : Int32) : Int32 := (mz_bitc (mz_rg 12 (M 68) g))
set_option maxHeartbeats 4000000 in
theorem f_X0_countKnownBy (l : Launch) (D : va_G) (cA : Nat → ClassId) (ρ : Nat → Nat) (hI : mz_I ρ mz_lay1) (M : mz_Mem) (g : Int32) : mz_M l D vwCl cA ρ mz_lay1 yX0_countKnownBy cX0_countKnownBy 2 (some .int) 1 21 [.ref 60, .int g] M (some (.int (g_X0_countKnownBy M g))) M := by
  refine mz_in0 (by decide +kernel) (Nat.le_of_ble_eq_true rfl) (fun Γ C E => ?_)
  have E' := (⟨_, _, _, E⟩ : ∃ Qc mc ms, mz_E Γ Qc mc ms (mz_A ρ mz_lay1))
  refine mz_go FLX0 KLX0 C [(0, .aload_n 0), (1, .getfield 26), (4, .iload_n 1)] (by decide +kernel) (pc' := 5) (L' := [(0, .ref 60), (1, .int g)]) (st' := [.int g, .ref 67]) rfl ?_
  refine mz_callV (As := [.int g]) (rest := []) C E' (f_Row_get l D cA ρ hI (r := 67) (a := 68) (n := 12) rfl rfl (by decide) M g) hy_X6_get wl_X0_68 rfl rfl rfl ⟨Nat.le_of_ble_eq_true rfl, Nat.le_of_ble_eq_true rfl⟩ ⟨Nat.le_refl _, Nat.le_refl _⟩ (Nat.le_of_ble_eq_true rfl) (by decide +kernel) ?_ rfl
  refine mz_callS (As := [.int (mz_rg 12 (M 68) g)]) (rest := []) C E' (f_J6_bitCount_0f7a4 l D cA ρ hI M (mz_rg 12 (M 68) g)) hs_J6_bitCount_0f7a4 wl_X0_77 rfl ⟨Nat.le_of_ble_eq_true rfl, Nat.le_of_ble_eq_true rfl⟩ ⟨Nat.le_refl _, Nat.le_refl _⟩ (Nat.le_of_ble_eq_true rfl) (by decide +kernel) ?_ rfl
  exact mz_iret C E (by decide +kernel) (rfl) (rfl)
def g_X0_countKnowing_1 (M : mz_Mem) (k : Int32) (i2 : Int32) (a3 : Int32) : Int32 := if (g_X0_knows M i2 k) = 0 then a3 else a3 + 1
def g_X0_countKnowing (M : mz_Mem) (k : Int32) : Int32 := (mz_fr (M 60 0) (g_X0_countKnowing_1 M k) 0)
set_option maxHeartbeats 4000000 in
theorem f_X0_countKnowing (l : Launch) (D : va_G) (cA : Nat → ClassId) (ρ : Nat → Nat) (hI : mz_I ρ mz_lay1) (M : mz_Mem) (k : Int32) : mz_M l D vwCl cA ρ mz_lay1 yX0_countKnowing cX0_countKnowing 4 (some .int) 2 43 [.ref 60, .int k] M (some (.int (g_X0_countKnowing M k))) M := by
  refine mz_in0 (by decide +kernel) (Nat.le_of_ble_eq_true rfl) (fun Γ C E => ?_)
  have E' := (⟨_, _, _, E⟩ : ∃ Qc mc ms, mz_E Γ Qc mc ms (mz_A ρ mz_lay1))
  refine mz_go FLX0 KLX0 C [(0, .iconst 0), (1, .istore_n 2), (2, .iconst 0), (3, .istore_n 3)] (by decide +kernel) (pc' := 4) (L' := [(3, .int 0), (2, .int 0), (0, .ref 60), (1, .int k)]) (st' := []) rfl ?_
  refine mz_sub (L' := [(0, .ref 60), (1, .int k), (2, .int 0), (3, .int 0)]) (by simp) ?_
  refine mz_loop (M 60 0) (g_X0_countKnowing_1 M k) (fun (i : Int32) (a : Int32) => mz_W Γ ρ 4 0 0 (mz_H D vwCl cA ρ mz_lay1 M) 4 [(0, .ref 60), (1, .int k), (2, .int a), (3, .int i)] []) 0 (fun i2 a3 hi4 hx5 hb6 => ?_)
  refine mz_go FLX0 KLX0 C [(4, .iload_n 3), (5, .aload_n 0), (6, .getfield 47)] (by decide +kernel) (pc' := 9) (L' := [(0, .ref 60), (1, .int k), (2, .int a3), (3, .int i2)]) (st' := [.int (M 60 0), .int i2]) rfl ?_
  refine mz_ige (off := 21) (tgt := 30) C (by decide +kernel) (by decide) (fun h1 => ?_) (fun h1 => ?_)
  · have e10 := hx5 h1
    subst e10
    refine mz_sub (L' := [(0, .ref 60), (1, .int k), (2, .int (mz_fr (M 60 0) (g_X0_countKnowing_1 M k) 0))]) (by simp) ?_
    refine mz_go FLX0 KLX0 C [(30, .iload_n 2)] (by decide +kernel) (pc' := 31) (L' := [(0, .ref 60), (1, .int k), (2, .int (mz_fr (M 60 0) (g_X0_countKnowing_1 M k) 0))]) (st' := [.int (mz_fr (M 60 0) (g_X0_countKnowing_1 M k) 0)]) rfl ?_
    exact mz_iret C E (by decide +kernel) (rfl) (rfl)
  · refine mz_go FLX0 KLX0 C [(12, .aload_n 0), (13, .iload_n 3), (14, .iload_n 1)] (by decide +kernel) (pc' := 15) (L' := [(0, .ref 60), (1, .int k), (2, .int a3), (3, .int i2)]) (st' := [.int k, .int i2, .ref 60]) rfl ?_
    refine mz_callV (As := [.int i2, .int k]) (rest := []) C E' (f_X0_knows l D cA ρ hI M i2 k) hy_X0_knows wl_X0_82 rfl rfl rfl ⟨Nat.le_of_ble_eq_true rfl, Nat.le_of_ble_eq_true rfl⟩ ⟨Nat.le_refl _, Nat.le_refl _⟩ (Nat.le_of_ble_eq_true rfl) (by decide +kernel) ?_ rfl
    refine mz_zeq (off := 6) (tgt := 24) C (by decide +kernel) (by decide) (fun h11 => ?_) (fun h11 => ?_)
    · refine mz_go FLX0 KLX0 C [(24, .iinc 3 1), (27, .goto (-23))] (by decide +kernel) (pc' := 4) (L' := [(3, .int (i2 + 1)), (0, .ref 60), (1, .int k), (2, .int a3)]) (st' := []) rfl ?_
      have hb12 := hb6 h1
      rw [show g_X0_countKnowing_1 M k i2 a3 = a3 from by unfold g_X0_countKnowing_1; rw [if_pos h11]] at hb12
      exact mz_sub (by simp) hb12
    · refine mz_go FLX0 KLX0 C [(21, .iinc 2 1), (24, .iinc 3 1), (27, .goto (-23))] (by decide +kernel) (pc' := 4) (L' := [(3, .int (i2 + 1)), (2, .int (a3 + 1)), (0, .ref 60), (1, .int k)]) (st' := []) rfl ?_
      have hb13 := hb6 h1
      rw [show g_X0_countKnowing_1 M k i2 a3 = a3 + 1 from by unfold g_X0_countKnowing_1; rw [if_neg h11]] at hb13
      exact mz_sub (by simp) hb13

def g_X0_knownByAny_1 (M : mz_Mem) (i2 : Int32) (a3 : Int32) : Int32 := a3 ||| (mz_rg 12 (M 68) i2)
def g_X0_knownByAny (M : mz_Mem) : Int32 := (mz_fr (M 60 0) (g_X0_knownByAny_1 M) 0)
set_option maxHeartbeats 4000000 in
theorem f_X0_knownByAny (l : Launch) (D : va_G) (cA : Nat → ClassId) (ρ : Nat → Nat) (hI : mz_I ρ mz_lay1) (M : mz_Mem) : mz_M l D vwCl cA ρ mz_lay1 yX0_knownByAny cX0_knownByAny 3 (some .int) 1 21 [.ref 60] M (some (.int (g_X0_knownByAny M))) M := by
  refine mz_in0 (by decide +kernel) (Nat.le_of_ble_eq_true rfl) (fun Γ C E => ?_)
  have E' := (⟨_, _, _, E⟩ : ∃ Qc mc ms, mz_E Γ Qc mc ms (mz_A ρ mz_lay1))
  refine mz_go FLX0 KLX0 C [(0, .iconst 0), (1, .istore_n 1), (2, .iconst 0), (3, .istore_n 2)] (by decide +kernel) (pc' := 4) (L' := [(2, .int 0), (1, .int 0), (0, .ref 60)]) (st' := []) rfl ?_
  refine mz_sub (L' := [(0, .ref 60), (1, .int 0), (2, .int 0)]) (by simp) ?_
  refine mz_loop (M 60 0) (g_X0_knownByAny_1 M) (fun (i : Int32) (a : Int32) => mz_W Γ ρ 3 0 0 (mz_H D vwCl cA ρ mz_lay1 M) 4 [(0, .ref 60), (1, .int a), (2, .int i)] []) 0 (fun i2 a3 hi4 hx5 hb6 => ?_)
  refine mz_go FLX0 KLX0 C [(4, .iload_n 2), (5, .aload_n 0), (6, .getfield 47)] (by decide +kernel) (pc' := 9) (L' := [(0, .ref 60), (1, .int a3), (2, .int i2)]) (st' := [.int (M 60 0), .int i2]) rfl ?_
  refine mz_ige (off := 20) (tgt := 29) C (by decide +kernel) (by decide) (fun h1 => ?_) (fun h1 => ?_)
  · have e10 := hx5 h1
    subst e10
    refine mz_sub (L' := [(0, .ref 60), (1, .int (mz_fr (M 60 0) (g_X0_knownByAny_1 M) 0))]) (by simp) ?_
    refine mz_go FLX0 KLX0 C [(29, .iload_n 1)] (by decide +kernel) (pc' := 30) (L' := [(0, .ref 60), (1, .int (mz_fr (M 60 0) (g_X0_knownByAny_1 M) 0))]) (st' := [.int (mz_fr (M 60 0) (g_X0_knownByAny_1 M) 0)]) rfl ?_
    exact mz_iret C E (by decide +kernel) (rfl) (rfl)
  · refine mz_go FLX0 KLX0 C [(12, .iload_n 1), (13, .aload_n 0), (14, .getfield 26), (17, .iload_n 2)] (by decide +kernel) (pc' := 18) (L' := [(0, .ref 60), (1, .int a3), (2, .int i2)]) (st' := [.int i2, .ref 67, .int a3]) rfl ?_
    refine mz_callV (As := [.int i2]) (rest := [.int a3]) C E' (f_Row_get l D cA ρ hI (r := 67) (a := 68) (n := 12) rfl rfl (by decide) M i2) hy_X6_get wl_X0_68 rfl rfl rfl ⟨Nat.le_of_ble_eq_true rfl, Nat.le_of_ble_eq_true rfl⟩ ⟨Nat.le_refl _, Nat.le_refl _⟩ (Nat.le_of_ble_eq_true rfl) (by decide +kernel) ?_ rfl
    refine mz_go FLX0 KLX0 C [(21, .ior), (22, .istore_n 1), (23, .iinc 2 1), (26, .goto (-22))] (by decide +kernel) (pc' := 4) (L' := [(2, .int (i2 + 1)), (1, .int (a3 ||| (mz_rg 12 (M 68) i2))), (0, .ref 60)]) (st' := []) rfl ?_
    have hb11 := hb6 h1
    rw [show g_X0_knownByAny_1 M i2 a3 = a3 ||| (mz_rg 12 (M 68) i2) from rfl] at hb11
    exact mz_sub (by simp) hb11
