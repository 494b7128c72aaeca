def g_X9_scene (M : mz_Mem) (r : Int32) (s : Int32) (d : Int32) (q : Int32) (p : Int32) : Int32 × mz_Mem := if p = (-1) then (((g_X7_addScene M r s d q p).1), (mz_act M (g_X7_addScene M r s d q p).2)) else (((g_X7_addScene M r s d q p).1), (mz_act M (g_X7_addScene M r s d q p).2))
set_option maxHeartbeats 4000000 in
theorem f_X9_scene (l : Launch) (D : va_G) (cA : Nat → ClassId) (ρ : Nat → Nat) (hI : mz_I ρ mz_lay2) (M : mz_Mem) (r : Int32) (s : Int32) (d : Int32) (q : Int32) (p : Int32) (v1 : ¬ r < 0) (v2 : r < (M 1 0)) (v3 : ¬ s < 0) (v4 : ¬ 18 < s) (v5 : ¬ d < 1) (v6 : ¬ 8 < d) (v7 : (s + d) ≤ 20) (v8 : ¬ (g_X7_areTracks M q) = 0) (v9 : ¬ 0 < (M 30 7)) (v10 : ¬ 12 ≤ (M 15 2)) (v11 : (g_X7_overlapsSceneOf M q s d) = 0) (v12 : (g_X1_anyIsPlayed M) = 0) (u1 : ¬ p = (-1) → ¬ p < 0) (u2 : ¬ p = (-1) → p < (M 15 1)) : mz_M l D vwCl cA ρ mz_lay2 yX9_scene cX9_scene 6 (some .int) 2 48 [.ref 0, .int r, .int s, .int d, .int q, .int p] M (some (.int (g_X9_scene M r s d q p).1)) (g_X9_scene M r s d q p).2 := by
  refine mz_in0 (by decide +kernel) (Nat.le_of_ble_eq_true rfl) (fun Γ C E => ?_)
  have E' := (⟨_, _, _, E⟩ : ∃ Qc mc ms, mz_E Γ Qc mc ms (mz_A ρ mz_lay2))
  refine mz_go FLX9 KLX9 C [(0, .aload_n 0), (1, .iload_n 1)] (by decide +kernel) (pc' := 2) (L' := [(0, .ref 0), (1, .int r), (2, .int s), (3, .int d), (4, .int q), (5, .int p)]) (st' := [.int r, .ref 0]) rfl ?_
  refine mz_callV (As := [.int r]) (rest := []) C E' (f_X9_checkRoom l D cA ρ hI M r v1 v2) hy_X9_checkRoom wl_X9_55 rfl rfl rfl ⟨Nat.le_of_ble_eq_true rfl, Nat.le_of_ble_eq_true rfl⟩ ⟨Nat.le_refl _, Nat.le_refl _⟩ (Nat.le_of_ble_eq_true rfl) (by decide +kernel) ?_ rfl
  refine mz_go FLX9 KLX9 C [(5, .iload 5), (7, .iconst (-1))] (by decide +kernel) (pc' := 8) (L' := [(0, .ref 0), (1, .int r), (2, .int s), (3, .int d), (4, .int q), (5, .int p)]) (st' := [.int (-1), .int p]) rfl ?_
  refine mz_ieq (off := 9) (tgt := 17) C (by decide +kernel) (by decide) (fun h1 => ?_) (fun h1 => ?_)
  · refine mz_go FLX9 KLX9 C [(17, .iload_n 2), (18, .iload_n 3)] (by decide +kernel) (pc' := 19) (L' := [(0, .ref 0), (1, .int r), (2, .int s), (3, .int d), (4, .int q), (5, .int p)]) (st' := [.int d, .int s]) rfl ?_
    refine mz_callS (As := [.int s, .int d]) (rest := []) C E' (f_X9_checkTime l D cA ρ hI M s d v3 v4 v5 v6 v7) hs_X9_checkTime wl_X9_117 rfl ⟨Nat.le_of_ble_eq_true rfl, Nat.le_of_ble_eq_true rfl⟩ ⟨Nat.le_refl _, Nat.le_refl _⟩ (Nat.le_of_ble_eq_true rfl) (by decide +kernel) ?_ rfl
    refine mz_go FLX9 KLX9 C [(22, .aload_n 0), (23, .getfield 19), (26, .iload 4)] (by decide +kernel) (pc' := 28) (L' := [(0, .ref 0), (1, .int r), (2, .int s), (3, .int d), (4, .int q), (5, .int p)]) (st' := [.int q, .ref 15]) rfl ?_
    refine mz_callV (As := [.int q]) (rest := []) C E' (mz_liftAR hI (f_X7_areTracks l D cA ρ (mz_I1 hI) M q)) hy_X7_areTracks wl_X9_120 rfl rfl rfl ⟨Nat.le_of_ble_eq_true rfl, Nat.le_of_ble_eq_true rfl⟩ ⟨Nat.le_refl _, Nat.le_refl _⟩ (Nat.le_of_ble_eq_true rfl) (by decide +kernel) ?_ rfl
    refine mz_zne (off := 13) (tgt := 44) C (by decide +kernel) (by decide) (fun _ => ?_) (fun h2 => absurd h2 v8)
    refine mz_go FLX9 KLX9 C [(44, .aload_n 0), (45, .getfield 28), (48, .getfield 126)] (by decide +kernel) (pc' := 51) (L' := [(0, .ref 0), (1, .int r), (2, .int s), (3, .int d), (4, .int q), (5, .int p)]) (st' := [.int (M 30 7)]) rfl ?_
    refine mz_zgt (off := 42) (tgt := 93) C (by decide +kernel) (by decide) (fun h3 => absurd h3 v9) (fun _ => ?_)
    refine mz_go FLX9 KLX9 C [(54, .aload_n 0), (55, .getfield 19), (58, .getfield 129), (61, .bipush 12)] (by decide +kernel) (pc' := 63) (L' := [(0, .ref 0), (1, .int r), (2, .int s), (3, .int d), (4, .int q), (5, .int p)]) (st' := [.int 12, .int (M 15 2)]) rfl ?_
    refine mz_ige (off := 30) (tgt := 93) C (by decide +kernel) (by decide) (fun h4 => absurd h4 v10) (fun _ => ?_)
    refine mz_go FLX9 KLX9 C [(66, .aload_n 0), (67, .getfield 19), (70, .iload 4), (72, .iload_n 2), (73, .iload_n 3)] (by decide +kernel) (pc' := 74) (L' := [(0, .ref 0), (1, .int r), (2, .int s), (3, .int d), (4, .int q), (5, .int p)]) (st' := [.int d, .int s, .int q, .ref 15]) rfl ?_
    refine mz_callV (As := [.int q, .int s, .int d]) (rest := []) C E' (mz_liftAR hI (f_X7_overlapsSceneOf l D cA ρ (mz_I1 hI) M q s d)) hy_X7_overlapsSceneOf wl_X9_132 rfl rfl rfl ⟨Nat.le_of_ble_eq_true rfl, Nat.le_of_ble_eq_true rfl⟩ ⟨Nat.le_refl _, Nat.le_refl _⟩ (Nat.le_of_ble_eq_true rfl) (by decide +kernel) ?_ rfl
    refine mz_zne (off := 16) (tgt := 93) C (by decide +kernel) (by decide) (fun h5 => absurd v11 h5) (fun _ => ?_)
    refine mz_go FLX9 KLX9 C [(80, .aload_n 0), (81, .getfield 28), (84, .getfield 88)] (by decide +kernel) (pc' := 87) (L' := [(0, .ref 0), (1, .int r), (2, .int s), (3, .int d), (4, .int q), (5, .int p)]) (st' := [.ref 33]) rfl ?_
    refine mz_callV (As := []) (rest := []) C E' (mz_liftAR hI (f_X1_anyIsPlayed l D cA ρ (mz_I1 hI) M )) hy_X1_anyIsPlayed wl_X9_136 rfl rfl rfl ⟨Nat.le_of_ble_eq_true rfl, Nat.le_of_ble_eq_true rfl⟩ ⟨Nat.le_refl _, Nat.le_refl _⟩ (Nat.le_of_ble_eq_true rfl) (by decide +kernel) ?_ rfl
    refine mz_zeq (off := 13) (tgt := 103) C (by decide +kernel) (by decide) (fun _ => ?_) (fun h6 => absurd v12 h6)
    refine mz_go FLX9 KLX9 C [(103, .aload_n 0), (104, .getfield 19), (107, .iload_n 1), (108, .iload_n 2), (109, .iload_n 3), (110, .iload 4), (112, .iload 5)] (by decide +kernel) (pc' := 114) (L' := [(0, .ref 0), (1, .int r), (2, .int s), (3, .int d), (4, .int q), (5, .int p)]) (st' := [.int p, .int q, .int d, .int s, .int r, .ref 15]) rfl ?_
    refine mz_callV (As := [.int r, .int s, .int d, .int q, .int p]) (rest := []) C E' (mz_liftA hI (f_X7_addScene l D cA ρ (mz_I1 hI) M r s d q p)) hy_X7_addScene wl_X9_142 rfl rfl rfl ⟨Nat.le_of_ble_eq_true rfl, Nat.le_of_ble_eq_true rfl⟩ ⟨Nat.le_refl _, Nat.le_refl _⟩ (Nat.le_of_ble_eq_true rfl) (by decide +kernel) ?_ rfl
    exact mz_iret C E (by decide +kernel) (by unfold g_X9_scene; rw [if_pos h1]; try rfl) (by unfold g_X9_scene; rw [if_pos h1]; try rfl)
  · refine mz_go FLX9 KLX9 C [(11, .aload_n 0), (12, .iload 5)] (by decide +kernel) (pc' := 14) (L' := [(0, .ref 0), (1, .int r), (2, .int s), (3, .int d), (4, .int q), (5, .int p)]) (st' := [.int p, .ref 0]) rfl ?_
    refine mz_callV (As := [.int p]) (rest := []) C E' (f_X9_checkProp l D cA ρ hI M p (u1 h1) (u2 h1)) hy_X9_checkProp wl_X9_114 rfl rfl rfl ⟨Nat.le_of_ble_eq_true rfl, Nat.le_of_ble_eq_true rfl⟩ ⟨Nat.le_refl _, Nat.le_refl _⟩ (Nat.le_of_ble_eq_true rfl) (by decide +kernel) ?_ rfl
    refine mz_go FLX9 KLX9 C [(17, .iload_n 2), (18, .iload_n 3)] (by decide +kernel) (pc' := 19) (L' := [(0, .ref 0), (1, .int r), (2, .int s), (3, .int d), (4, .int q), (5, .int p)]) (st' := [.int d, .int s]) rfl ?_
    refine mz_callS (As := [.int s, .int d]) (rest := []) C E' (f_X9_checkTime l D cA ρ hI M s d v3 v4 v5 v6 v7) hs_X9_checkTime wl_X9_117 rfl ⟨Nat.le_of_ble_eq_true rfl, Nat.le_of_ble_eq_true rfl⟩ ⟨Nat.le_refl _, Nat.le_refl _⟩ (Nat.le_of_ble_eq_true rfl) (by decide +kernel) ?_ rfl
    refine mz_go FLX9 KLX9 C [(22, .aload_n 0), (23, .getfield 19), (26, .iload 4)] (by decide +kernel) (pc' := 28) (L' := [(0, .ref 0), (1, .int r), (2, .int s), (3, .int d), (4, .int q), (5, .int p)]) (st' := [.int q, .ref 15]) rfl ?_
    refine mz_callV (As := [.int q]) (rest := []) C E' (mz_liftAR hI (f_X7_areTracks l D cA ρ (mz_I1 hI) M q)) hy_X7_areTracks wl_X9_120 rfl rfl rfl ⟨Nat.le_of_ble_eq_true rfl, Nat.le_of_ble_eq_true rfl⟩ ⟨Nat.le_refl _, Nat.le_refl _⟩ (Nat.le_of_ble_eq_true rfl) (by decide +kernel) ?_ rfl
    refine mz_zne (off := 13) (tgt := 44) C (by decide +kernel) (by decide) (fun _ => ?_) (fun h7 => absurd h7 v8)
    refine mz_go FLX9 KLX9 C [(44, .aload_n 0), (45, .getfield 28), (48, .getfield 126)] (by decide +kernel) (pc' := 51) (L' := [(0, .ref 0), (1, .int r), (2, .int s), (3, .int d), (4, .int q), (5, .int p)]) (st' := [.int (M 30 7)]) rfl ?_
    refine mz_zgt (off := 42) (tgt := 93) C (by decide +kernel) (by decide) (fun h8 => absurd h8 v9) (fun _ => ?_)
    refine mz_go FLX9 KLX9 C [(54, .aload_n 0), (55, .getfield 19), (58, .getfield 129), (61, .bipush 12)] (by decide +kernel) (pc' := 63) (L' := [(0, .ref 0), (1, .int r), (2, .int s), (3, .int d), (4, .int q), (5, .int p)]) (st' := [.int 12, .int (M 15 2)]) rfl ?_
    refine mz_ige (off := 30) (tgt := 93) C (by decide +kernel) (by decide) (fun h9 => absurd h9 v10) (fun _ => ?_)
    refine mz_go FLX9 KLX9 C [(66, .aload_n 0), (67, .getfield 19), (70, .iload 4), (72, .iload_n 2), (73, .iload_n 3)] (by decide +kernel) (pc' := 74) (L' := [(0, .ref 0), (1, .int r), (2, .int s), (3, .int d), (4, .int q), (5, .int p)]) (st' := [.int d, .int s, .int q, .ref 15]) rfl ?_
    refine mz_callV (As := [.int q, .int s, .int d]) (rest := []) C E' (mz_liftAR hI (f_X7_overlapsSceneOf l D cA ρ (mz_I1 hI) M q s d)) hy_X7_overlapsSceneOf wl_X9_132 rfl rfl rfl ⟨Nat.le_of_ble_eq_true rfl, Nat.le_of_ble_eq_true rfl⟩ ⟨Nat.le_refl _, Nat.le_refl _⟩ (Nat.le_of_ble_eq_true rfl) (by decide +kernel) ?_ rfl
    refine mz_zne (off := 16) (tgt := 93) C (by decide +kernel) (by decide) (fun h10 => absurd v11 h10) (fun _ => ?_)
    refine mz_go FLX9 KLX9 C [(80, .aload_n 0), (81, .getfield 28), (84, .getfield 88)] (by decide +kernel) (pc' := 87) (L' := [(0, .ref 0), (1, .int r), (2, .int s), (3, .int d), (4, .int q), (5, .int p)]) (st' := [.ref 33]) rfl ?_
    refine mz_callV (As := []) (rest := []) C E' (mz_liftAR hI (f_X1_anyIsPlayed l D cA ρ (mz_I1 hI) M )) hy_X1_anyIsPlayed wl_X9_136 rfl rfl rfl ⟨Nat.le_of_ble_eq_true rfl, Nat.le_of_ble_eq_true rfl⟩ ⟨Nat.le_refl _, Nat.le_refl _⟩ (Nat.le_of_ble_eq_true rfl) (by decide +kernel) ?_ rfl
    refine mz_zeq (off := 13) (tgt := 103) C (by decide +kernel) (by decide) (fun _ => ?_) (fun h11 => absurd v12 h11)
    refine mz_go FLX9 KLX9 C [(103, .aload_n 0), (104, .getfield 19), (107, .iload_n 1), (108, .iload_n 2), (109, .iload_n 3), (110, .iload 4), (112, .iload 5)] (by decide +kernel) (pc' := 114) (L' := [(0, .ref 0), (1, .int r), (2, .int s), (3, .int d), (4, .int q), (5, .int p)]) (st' := [.int p, .int q, .int d, .int s, .int r, .ref 15]) rfl ?_
    refine mz_callV (As := [.int r, .int s, .int d, .int q, .int p]) (rest := []) C E' (mz_liftA hI (f_X7_addScene l D cA ρ (mz_I1 hI) M r s d q p)) hy_X7_addScene wl_X9_142 rfl rfl rfl ⟨Nat.le_of_ble_eq_true rfl, Nat.le_of_ble_eq_true rfl⟩ ⟨Nat.le_refl _, Nat.le_refl _⟩ (Nat.le_of_ble_eq_true rfl) (by decide +kernel) ?_ rfl
    exact mz_iret C E (by decide +kernel) (by unfold g_X9_scene; rw [if_neg h1]; try rfl) (by unfold g_X9_scene; rw [if_neg h1]; try rfl)
def g_X9_habit (M : mz_Mem) (g : Int32) (h : Int32) (t : Int32) : Int32 × mz_Mem := if h = 1 then ((mz_rg 12 (M 64) g), (mz_act M (g_X0_changeHabit M g h t))) else ((mz_rg 12 (M 64) g), (mz_act M (g_X0_changeHabit M g h t)))
theorem g_X9_habit_hs (M : mz_Mem) (g : Int32) (h : Int32) (t : Int32) : mz_hs M (g_X9_habit M g h t).2 := by
  unfold g_X9_habit
  by_cases h1 : h = 1
  · rw [if_pos h1]
    exact mz_hs_act (g_X0_changeHabit_hs M g h t)
  · rw [if_neg h1]
    exact mz_hs_act (g_X0_changeHabit_hs M g h t)

set_option maxHeartbeats 4000000 in
theorem f_X9_habit (l : Launch) (D : va_G) (cA : Nat → ClassId) (ρ : Nat → Nat) (hI : mz_I ρ mz_lay2) (M : mz_Mem) (g : Int32) (h : Int32) (t : Int32) (v1 : ¬ g < 0) (v2 : g < (M 60 0)) (v3 : ¬ h < 0) (v4 : h ≤ 3) (u1 : h = 1 → ¬ t < 0) (u2 : h = 1 → t < (M 15 0)) : mz_M l D vwCl cA ρ mz_lay2 yX9_habit cX9_habit 5 (some .int) 2 45 [.ref 0, .int g, .int h, .int t] M (some (.int (g_X9_habit M g h t).1)) (g_X9_habit M g h t).2 := by
  refine mz_in0 (by decide +kernel) (Nat.le_of_ble_eq_true rfl) (fun Γ C E => ?_)
  have E' := (⟨_, _, _, E⟩ : ∃ Qc mc ms, mz_E Γ Qc mc ms (mz_A ρ mz_lay2))
  refine mz_go FLX9 KLX9 C [(0, .aload_n 0), (1, .iload_n 1)] (by decide +kernel) (pc' := 2) (L' := [(0, .ref 0), (1, .int g), (2, .int h), (3, .int t)]) (st' := [.int g, .ref 0]) rfl ?_
  refine mz_callV (As := [.int g]) (rest := []) C E' (f_X9_checkGuest l D cA ρ hI M g v1 v2) hy_X9_checkGuest wl_X9_162 rfl rfl rfl ⟨Nat.le_of_ble_eq_true rfl, Nat.le_of_ble_eq_true rfl⟩ ⟨Nat.le_refl _, Nat.le_refl _⟩ (Nat.le_of_ble_eq_true rfl) (by decide +kernel) ?_ rfl
  refine mz_go FLX9 KLX9 C [(5, .iload_n 2), (6, .iconst 1)] (by decide +kernel) (pc' := 7) (L' := [(0, .ref 0), (1, .int g), (2, .int h), (3, .int t)]) (st' := [.int 1, .int h]) rfl ?_
  refine mz_ine (off := 8) (tgt := 15) C (by decide +kernel) (by decide) (fun h1 => ?_) (fun h1 => ?_)
  · refine mz_go FLX9 KLX9 C [(15, .iload_n 2)] (by decide +kernel) (pc' := 16) (L' := [(0, .ref 0), (1, .int g), (2, .int h), (3, .int t)]) (st' := [.int h]) rfl ?_
    refine mz_zlt (off := 8) (tgt := 24) C (by decide +kernel) (by decide) (fun h2 => absurd h2 v3) (fun _ => ?_)
    refine mz_go FLX9 KLX9 C [(19, .iload_n 2), (20, .iconst 3)] (by decide +kernel) (pc' := 21) (L' := [(0, .ref 0), (1, .int g), (2, .int h), (3, .int t)]) (st' := [.int 3, .int h]) rfl ?_
    refine mz_ile (off := 13) (tgt := 34) C (by decide +kernel) (by decide) (fun _ => ?_) (fun h3 => absurd v4 h3)
    refine mz_go FLX9 KLX9 C [(34, .aload_n 0), (35, .getfield 28), (38, .getfield 146), (41, .getfield 170), (44, .iload_n 1)] (by decide +kernel) (pc' := 45) (L' := [(0, .ref 0), (1, .int g), (2, .int h), (3, .int t)]) (st' := [.int g, .ref 63]) rfl ?_
    refine mz_callV (As := [.int g]) (rest := []) C E' (f_Row_get l D cA ρ hI (r := 63) (a := 64) (n := 12) rfl rfl (by decide) M g) hy_X6_get wl_X9_174 rfl rfl rfl ⟨Nat.le_of_ble_eq_true rfl, Nat.le_of_ble_eq_true rfl⟩ ⟨Nat.le_refl _, Nat.le_refl _⟩ (Nat.le_of_ble_eq_true rfl) (by decide +kernel) ?_ rfl
    refine mz_go FLX9 KLX9 C [(48, .istore 4), (50, .aload_n 0), (51, .getfield 28), (54, .getfield 146), (57, .iload_n 1), (58, .iload_n 2), (59, .iload_n 3)] (by decide +kernel) (pc' := 60) (L' := [(4, .int (mz_rg 12 (M 64) g)), (0, .ref 0), (1, .int g), (2, .int h), (3, .int t)]) (st' := [.int t, .int h, .int g, .ref 60]) rfl ?_
    refine mz_callV (As := [.int g, .int h, .int t]) (rest := []) C E' (mz_liftA hI (f_X0_changeHabit l D cA ρ (mz_I1 hI) M g h t)) hy_X0_changeHabit wl_X9_178 rfl rfl rfl ⟨Nat.le_of_ble_eq_true rfl, Nat.le_of_ble_eq_true rfl⟩ ⟨Nat.le_refl _, Nat.le_refl _⟩ (Nat.le_of_ble_eq_true rfl) (by decide +kernel) ?_ rfl
    refine mz_go FLX9 KLX9 C [(63, .iload 4)] (by decide +kernel) (pc' := 65) (L' := [(4, .int (mz_rg 12 (M 64) g)), (0, .ref 0), (1, .int g), (2, .int h), (3, .int t)]) (st' := [.int (mz_rg 12 (M 64) g)]) rfl ?_
    exact mz_iret C E (by decide +kernel) (by unfold g_X9_habit; rw [if_neg h1]; try rfl) (by unfold g_X9_habit; rw [if_neg h1]; try rfl)
  · refine mz_go FLX9 KLX9 C [(10, .aload_n 0), (11, .iload_n 3)] (by decide +kernel) (pc' := 12) (L' := [(0, .ref 0), (1, .int g), (2, .int h), (3, .int t)]) (st' := [.int t, .ref 0]) rfl ?_
    refine mz_callV (As := [.int t]) (rest := []) C E' (f_X9_checkTrack l D cA ρ hI M t (u1 h1) (u2 h1)) hy_X9_checkTrack wl_X9_165 rfl rfl rfl ⟨Nat.le_of_ble_eq_true rfl, Nat.le_of_ble_eq_true rfl⟩ ⟨Nat.le_refl _, Nat.le_refl _⟩ (Nat.le_of_ble_eq_true rfl) (by decide +kernel) ?_ rfl
    refine mz_go FLX9 KLX9 C [(15, .iload_n 2)] (by decide +kernel) (pc' := 16) (L' := [(0, .ref 0), (1, .int g), (2, .int h), (3, .int t)]) (st' := [.int h]) rfl ?_
    refine mz_zlt (off := 8) (tgt := 24) C (by decide +kernel) (by decide) (fun h4 => absurd h4 v3) (fun _ => ?_)
    refine mz_go FLX9 KLX9 C [(19, .iload_n 2), (20, .iconst 3)] (by decide +kernel) (pc' := 21) (L' := [(0, .ref 0), (1, .int g), (2, .int h), (3, .int t)]) (st' := [.int 3, .int h]) rfl ?_
    refine mz_ile (off := 13) (tgt := 34) C (by decide +kernel) (by decide) (fun _ => ?_) (fun h5 => absurd v4 h5)
    refine mz_go FLX9 KLX9 C [(34, .aload_n 0), (35, .getfield 28), (38, .getfield 146), (41, .getfield 170), (44, .iload_n 1)] (by decide +kernel) (pc' := 45) (L' := [(0, .ref 0), (1, .int g), (2, .int h), (3, .int t)]) (st' := [.int g, .ref 63]) rfl ?_
    refine mz_callV (As := [.int g]) (rest := []) C E' (f_Row_get l D cA ρ hI (r := 63) (a := 64) (n := 12) rfl rfl (by decide) M g) hy_X6_get wl_X9_174 rfl rfl rfl ⟨Nat.le_of_ble_eq_true rfl, Nat.le_of_ble_eq_true rfl⟩ ⟨Nat.le_refl _, Nat.le_refl _⟩ (Nat.le_of_ble_eq_true rfl) (by decide +kernel) ?_ rfl
    refine mz_go FLX9 KLX9 C [(48, .istore 4), (50, .aload_n 0), (51, .getfield 28), (54, .getfield 146), (57, .iload_n 1), (58, .iload_n 2), (59, .iload_n 3)] (by decide +kernel) (pc' := 60) (L' := [(4, .int (mz_rg 12 (M 64) g)), (0, .ref 0), (1, .int g), (2, .int h), (3, .int t)]) (st' := [.int t, .int h, .int g, .ref 60]) rfl ?_
    refine mz_callV (As := [.int g, .int h, .int t]) (rest := []) C E' (mz_liftA hI (f_X0_changeHabit l D cA ρ (mz_I1 hI) M g h t)) hy_X0_changeHabit wl_X9_178 rfl rfl rfl ⟨Nat.le_of_ble_eq_true rfl, Nat.le_of_ble_eq_true rfl⟩ ⟨Nat.le_refl _, Nat.le_refl _⟩ (Nat.le_of_ble_eq_true rfl) (by decide +kernel) ?_ rfl
    refine mz_go FLX9 KLX9 C [(63, .iload 4)] (by decide +kernel) (pc' := 65) (L' := [(4, .int (mz_rg 12 (M 64) g)), (0, .ref 0), (1, .int g), (2, .int h), (3, .int t)]) (st' := [.int (mz_rg 12 (M 64) g)]) rfl ?_
    exact mz_iret C E (by decide +kernel) (by unfold g_X9_habit; rw [if_pos h1]; try rfl) (by unfold g_X9_habit; rw [if_pos h1]; try rfl)
def g_X9_play (M : mz_Mem) (t : Int32) (b : Int32) : Int32 × mz_Mem := ((g_X7_countScenesOf (mz_act M (g_X1_startDouble M t b)) ((1 <<< (t &&& 31)) ||| (1 <<< (b &&& 31)))), (mz_act M (g_X1_startDouble M t b)))
theorem g_X9_play_hs (M : mz_Mem) (t : Int32) (b : Int32) : mz_hs M (g_X9_play M t b).2 := by
  unfold g_X9_play
  exact mz_hs_act (g_X1_startDouble_hs M t b)

set_option maxHeartbeats 4000000 in
theorem f_X9_play (l : Launch) (D : va_G) (cA : Nat → ClassId) (ρ : Nat → Nat) (hI : mz_I ρ mz_lay2) (M : mz_Mem) (t : Int32) (b : Int32) (v1 : ¬ t < 0) (v2 : t < (M 15 0)) (v3 : ¬ b < 0) (v4 : b < (M 15 0)) (v5 : ¬ t = b) (v6 : ¬ (g_X2_canDouble M t b) = 0) : mz_M l D vwCl cA ρ mz_lay2 yX9_play cX9_play 3 (some .int) 4 93 [.ref 0, .int t, .int b] M (some (.int (g_X9_play M t b).1)) (g_X9_play M t b).2 := by
  refine mz_in0 (by decide +kernel) (Nat.le_of_ble_eq_true rfl) (fun Γ C E => ?_)
  have E' := (⟨_, _, _, E⟩ : ∃ Qc mc ms, mz_E Γ Qc mc ms (mz_A ρ mz_lay2))
  refine mz_go FLX9 KLX9 C [(0, .aload_n 0), (1, .iload_n 1)] (by decide +kernel) (pc' := 2) (L' := [(0, .ref 0), (1, .int t), (2, .int b)]) (st' := [.int t, .ref 0]) rfl ?_
  refine mz_callV (As := [.int t]) (rest := []) C E' (f_X9_checkTrack l D cA ρ hI M t v1 v2) hy_X9_checkTrack wl_X9_165 rfl rfl rfl ⟨Nat.le_of_ble_eq_true rfl, Nat.le_of_ble_eq_true rfl⟩ ⟨Nat.le_refl _, Nat.le_refl _⟩ (Nat.le_of_ble_eq_true rfl) (by decide +kernel) ?_ rfl
  refine mz_go FLX9 KLX9 C [(5, .aload_n 0), (6, .iload_n 2)] (by decide +kernel) (pc' := 7) (L' := [(0, .ref 0), (1, .int t), (2, .int b)]) (st' := [.int b, .ref 0]) rfl ?_
  refine mz_callV (As := [.int b]) (rest := []) C E' (f_X9_checkTrack l D cA ρ hI M b v3 v4) hy_X9_checkTrack wl_X9_165 rfl rfl rfl ⟨Nat.le_of_ble_eq_true rfl, Nat.le_of_ble_eq_true rfl⟩ ⟨Nat.le_refl _, Nat.le_refl _⟩ (Nat.le_of_ble_eq_true rfl) (by decide +kernel) ?_ rfl
  refine mz_go FLX9 KLX9 C [(10, .iload_n 1), (11, .iload_n 2)] (by decide +kernel) (pc' := 12) (L' := [(0, .ref 0), (1, .int t), (2, .int b)]) (st' := [.int b, .int t]) rfl ?_
  refine mz_ine (off := 13) (tgt := 25) C (by decide +kernel) (by decide) (fun _ => ?_) (fun h1 => absurd h1 v5)
  refine mz_go FLX9 KLX9 C [(25, .aload_n 0), (26, .getfield 28), (29, .iload_n 1), (30, .iload_n 2)] (by decide +kernel) (pc' := 31) (L' := [(0, .ref 0), (1, .int t), (2, .int b)]) (st' := [.int b, .int t, .ref 30]) rfl ?_
  refine mz_callV (As := [.int t, .int b]) (rest := []) C E' (mz_liftAR hI (f_X2_canDouble l D cA ρ (mz_I1 hI) M t b)) hy_X2_canDouble wl_X9_230 rfl rfl rfl ⟨Nat.le_of_ble_eq_true rfl, Nat.le_of_ble_eq_true rfl⟩ ⟨Nat.le_refl _, Nat.le_refl _⟩ (Nat.le_of_ble_eq_true rfl) (by decide +kernel) ?_ rfl
  refine mz_zne (off := 13) (tgt := 47) C (by decide +kernel) (by decide) (fun _ => ?_) (fun h2 => absurd h2 v6)
  refine mz_go FLX9 KLX9 C [(47, .aload_n 0), (48, .getfield 28), (51, .getfield 88), (54, .iload_n 1), (55, .iload_n 2)] (by decide +kernel) (pc' := 56) (L' := [(0, .ref 0), (1, .int t), (2, .int b)]) (st' := [.int b, .int t, .ref 33]) rfl ?_
  refine mz_callV (As := [.int t, .int b]) (rest := []) C E' (mz_liftA hI (f_X1_startDouble l D cA ρ (mz_I1 hI) M t b)) hy_X1_startDouble wl_X9_235 rfl rfl rfl ⟨Nat.le_of_ble_eq_true rfl, Nat.le_of_ble_eq_true rfl⟩ ⟨Nat.le_refl _, Nat.le_refl _⟩ (Nat.le_of_ble_eq_true rfl) (by decide +kernel) ?_ rfl
  refine mz_go FLX9 KLX9 C [(59, .aload_n 0), (60, .getfield 19), (63, .iconst 1), (64, .iload_n 1), (65, .ishl), (66, .iconst 1), (67, .iload_n 2), (68, .ishl), (69, .ior)] (by decide +kernel) (pc' := 70) (L' := [(0, .ref 0), (1, .int t), (2, .int b)]) (st' := [.int ((1 <<< (t &&& 31)) ||| (1 <<< (b &&& 31))), .ref 15]) rfl ?_
  refine mz_callV (As := [.int ((1 <<< (t &&& 31)) ||| (1 <<< (b &&& 31)))]) (rest := []) C E' (mz_liftAR hI (f_X7_countScenesOf l D cA ρ (mz_I1 hI) (mz_act M (g_X1_startDouble M t b)) ((1 <<< (t &&& 31)) ||| (1 <<< (b &&& 31))))) hy_X7_countScenesOf wl_X9_238 rfl rfl rfl ⟨Nat.le_of_ble_eq_true rfl, Nat.le_of_ble_eq_true rfl⟩ ⟨Nat.le_refl _, Nat.le_refl _⟩ (Nat.le_of_ble_eq_true rfl) (by decide +kernel) ?_ rfl
  exact mz_iret C E (by decide +kernel) (rfl) (rfl)
def g_X9_part (M : mz_Mem) (t : Int32) : Int32 × mz_Mem := ((mz_rg 5 (M 37) t), (mz_act M (g_X1_endDouble M t)))
theorem g_X9_part_hs (M : mz_Mem) (t : Int32) : mz_hs M (g_X9_part M t).2 := by
  unfold g_X9_part
  exact mz_hs_act (g_X1_endDouble_hs M t)

set_option maxHeartbeats 4000000 in
theorem f_X9_part (l : Launch) (D : va_G) (cA : Nat → ClassId) (ρ : Nat → Nat) (hI : mz_I ρ mz_lay2) (M : mz_Mem) (t : Int32) (v1 : ¬ t < 0) (v2 : t < (M 15 0)) (v3 : ¬ (mz_rg 5 (M 37) t) = (-1)) (v4 : ((g_X8_busyTracks M) &&& ((1 <<< (t &&& 31)) ||| (1 <<< ((mz_rg 5 (M 37) t) &&& 31)))) = 0) : mz_M l D vwCl cA ρ mz_lay2 yX9_part cX9_part 3 (some .int) 2 43 [.ref 0, .int t] M (some (.int (g_X9_part M t).1)) (g_X9_part M t).2 := by
  refine mz_in0 (by decide +kernel) (Nat.le_of_ble_eq_true rfl) (fun Γ C E => ?_)
  have E' := (⟨_, _, _, E⟩ : ∃ Qc mc ms, mz_E Γ Qc mc ms (mz_A ρ mz_lay2))
  refine mz_go FLX9 KLX9 C [(0, .aload_n 0), (1, .iload_n 1)] (by decide +kernel) (pc' := 2) (L' := [(0, .ref 0), (1, .int t)]) (st' := [.int t, .ref 0]) rfl ?_
  refine mz_callV (As := [.int t]) (rest := []) C E' (f_X9_checkTrack l D cA ρ hI M t v1 v2) hy_X9_checkTrack wl_X9_165 rfl rfl rfl ⟨Nat.le_of_ble_eq_true rfl, Nat.le_of_ble_eq_true rfl⟩ ⟨Nat.le_refl _, Nat.le_refl _⟩ (Nat.le_of_ble_eq_true rfl) (by decide +kernel) ?_ rfl
  refine mz_go FLX9 KLX9 C [(5, .aload_n 0), (6, .getfield 28), (9, .getfield 88), (12, .getfield 241), (15, .iload_n 1)] (by decide +kernel) (pc' := 16) (L' := [(0, .ref 0), (1, .int t)]) (st' := [.int t, .ref 36]) rfl ?_
  refine mz_callV (As := [.int t]) (rest := []) C E' (f_Row_get l D cA ρ hI (r := 36) (a := 37) (n := 5) rfl rfl (by decide) M t) hy_X6_get wl_X9_174 rfl rfl rfl ⟨Nat.le_of_ble_eq_true rfl, Nat.le_of_ble_eq_true rfl⟩ ⟨Nat.le_refl _, Nat.le_refl _⟩ (Nat.le_of_ble_eq_true rfl) (by decide +kernel) ?_ rfl
  refine mz_go FLX9 KLX9 C [(19, .istore_n 2), (20, .iload_n 2), (21, .iconst (-1))] (by decide +kernel) (pc' := 22) (L' := [(2, .int (mz_rg 5 (M 37) t)), (0, .ref 0), (1, .int t)]) (st' := [.int (-1), .int (mz_rg 5 (M 37) t)]) rfl ?_
  refine mz_ieq (off := 24) (tgt := 46) C (by decide +kernel) (by decide) (fun h1 => absurd h1 v3) (fun _ => ?_)
  refine mz_go FLX9 KLX9 C [(25, .aload_n 0), (26, .getfield 28), (29, .getfield 187)] (by decide +kernel) (pc' := 32) (L' := [(2, .int (mz_rg 5 (M 37) t)), (0, .ref 0), (1, .int t)]) (st' := [.ref 40]) rfl ?_
  refine mz_callV (As := []) (rest := []) C E' (mz_liftAR hI (f_X8_busyTracks l D cA ρ (mz_I1 hI) M )) hy_X8_busyTracks wl_X9_244 rfl rfl rfl ⟨Nat.le_of_ble_eq_true rfl, Nat.le_of_ble_eq_true rfl⟩ ⟨Nat.le_refl _, Nat.le_refl _⟩ (Nat.le_of_ble_eq_true rfl) (by decide +kernel) ?_ rfl
  refine mz_go FLX9 KLX9 C [(35, .iconst 1), (36, .iload_n 1), (37, .ishl), (38, .iconst 1), (39, .iload_n 2), (40, .ishl), (41, .ior), (42, .iand)] (by decide +kernel) (pc' := 43) (L' := [(2, .int (mz_rg 5 (M 37) t)), (0, .ref 0), (1, .int t)]) (st' := [.int ((g_X8_busyTracks M) &&& ((1 <<< (t &&& 31)) ||| (1 <<< ((mz_rg 5 (M 37) t) &&& 31))))]) rfl ?_
  refine mz_zeq (off := 13) (tgt := 56) C (by decide +kernel) (by decide) (fun _ => ?_) (fun h2 => absurd v4 h2)
  refine mz_go FLX9 KLX9 C [(56, .aload_n 0), (57, .getfield 28), (60, .getfield 88), (63, .iload_n 1)] (by decide +kernel) (pc' := 64) (L' := [(2, .int (mz_rg 5 (M 37) t)), (0, .ref 0), (1, .int t)]) (st' := [.int t, .ref 33]) rfl ?_
  refine mz_callV (As := [.int t]) (rest := []) C E' (mz_liftA hI (f_X1_endDouble l D cA ρ (mz_I1 hI) M t)) hy_X1_endDouble wl_X9_249 rfl rfl rfl ⟨Nat.le_of_ble_eq_true rfl, Nat.le_of_ble_eq_true rfl⟩ ⟨Nat.le_refl _, Nat.le_refl _⟩ (Nat.le_of_ble_eq_true rfl) (by decide +kernel) ?_ rfl
  refine mz_go FLX9 KLX9 C [(67, .iload_n 2)] (by decide +kernel) (pc' := 68) (L' := [(2, .int (mz_rg 5 (M 37) t)), (0, .ref 0), (1, .int t)]) (st' := [.int (mz_rg 5 (M 37) t)]) rfl ?_
  exact mz_iret C E (by decide +kernel) (rfl) (rfl)
