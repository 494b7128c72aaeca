def g_X9_foldRooms_2 (M : mz_Mem) (d : Int64) (i2 : Int32) (a3 : Int64) (i12 : Int32) (a13 : Int64) : Int64 := g_X9_fold M a13 ((g_X9_ofRoom M i2 i12).toInt64)
def g_X9_foldRooms_1 (M : mz_Mem) (d : Int64) (i2 : Int32) (a3 : Int64) : Int64 := g_X9_fold M (g_X9_fold M (mz_fr 5 (g_X9_foldRooms_2 M d i2 a3) a3) ((g_X9_way M i2 0 0).toInt64)) ((g_X9_way M i2 0 1).toInt64)
def g_X9_foldRooms (M : mz_Mem) (d : Int64) : Int64 := (mz_fr (M 1 0) (g_X9_foldRooms_1 M d) d)
set_option maxHeartbeats 4000000 in
theorem f_X9_foldRooms (l : Launch) (D : va_G) (cA : Nat → ClassId) (ρ : Nat → Nat) (hI : mz_I ρ mz_lay2) (M : mz_Mem) (d : Int64) : mz_M l D vwCl cA ρ mz_lay2 yX9_foldRooms cX9_foldRooms 7 (some .long) 3 66 [.ref 0, .long d] M (some (.long (g_X9_foldRooms M d))) M := by
  refine mz_in0 (by decide +kernel) (Nat.le_of_ble_eq_true rfl) (fun Γ C E => ?_)
  have E' := (⟨_, _, _, E⟩ : ∃ Qc mc ms, mz_E Γ Qc mc ms (mz_A ρ mz_lay2))
  refine mz_go FLX9 KLX9 C [(0, .lload_n 1), (1, .lstore_n 3), (2, .iconst 0), (3, .istore 5)] (by decide +kernel) (pc' := 5) (L' := [(5, .int 0), (3, .long d), (0, .ref 0), (1, .long d)]) (st' := []) rfl ?_
  refine mz_sub (L' := [(0, .ref 0), (1, .long d), (3, .long d), (5, .int 0)]) (by simp) ?_
  refine mz_loop (M 1 0) (g_X9_foldRooms_1 M d) (fun (i : Int32) (a : Int64) => mz_W Γ ρ 7 0 0 (mz_H D vwCl cA ρ mz_lay2 M) 5 [(0, .ref 0), (1, .long d), (3, .long a), (5, .int i)] []) d (fun i2 a3 hi4 hx5 hb6 => ?_)
  refine mz_go FLX9 KLX9 C [(5, .iload 5), (7, .aload_n 0), (8, .getfield 10), (11, .getfield 42)] (by decide +kernel) (pc' := 14) (L' := [(0, .ref 0), (1, .long d), (3, .long a3), (5, .int i2)]) (st' := [.int (M 1 0), .int i2]) rfl ?_
  refine mz_ige (off := 66) (tgt := 80) C (by decide +kernel) (by decide) (fun h1 => ?_) (fun h1 => ?_)
  · have e10 := hx5 h1
    subst e10
    refine mz_sub (L' := [(0, .ref 0), (1, .long d), (3, .long (mz_fr (M 1 0) (g_X9_foldRooms_1 M d) d))]) (by simp) ?_
    refine mz_go FLX9 KLX9 C [(80, .lload_n 3)] (by decide +kernel) (pc' := 81) (L' := [(0, .ref 0), (1, .long d), (3, .long (mz_fr (M 1 0) (g_X9_foldRooms_1 M d) d))]) (st' := [.long (mz_fr (M 1 0) (g_X9_foldRooms_1 M d) d)]) rfl ?_
    exact mz_lret C E (by decide +kernel) (rfl) (rfl)
  · refine mz_go FLX9 KLX9 C [(17, .iconst 0), (18, .istore 6)] (by decide +kernel) (pc' := 20) (L' := [(6, .int 0), (0, .ref 0), (1, .long d), (3, .long a3), (5, .int i2)]) (st' := []) rfl ?_
    refine mz_sub (L' := [(0, .ref 0), (1, .long d), (3, .long a3), (5, .int i2), (6, .int 0)]) (by simp) ?_
    refine mz_loop 5 (g_X9_foldRooms_2 M d i2 a3) (fun (i : Int32) (a : Int64) => mz_W Γ ρ 7 0 0 (mz_H D vwCl cA ρ mz_lay2 M) 20 [(0, .ref 0), (1, .long d), (3, .long a), (5, .int i2), (6, .int i)] []) a3 (fun i12 a13 hi14 hx15 hb16 => ?_)
    refine mz_go FLX9 KLX9 C [(20, .iload 6), (22, .iconst 4)] (by decide +kernel) (pc' := 23) (L' := [(0, .ref 0), (1, .long d), (3, .long a13), (5, .int i2), (6, .int i12)]) (st' := [.int 4, .int i12]) rfl ?_
    refine mz_igt (off := 23) (tgt := 46) C (by decide +kernel) (by decide) (fun h11 => ?_) (fun h11 => ?_)
    · have e20 := hx15 ((mz_ltle (c := 4) (d := 5) (by decide)).mp h11)
      subst e20
      refine mz_sub (L' := [(0, .ref 0), (1, .long d), (3, .long (mz_fr 5 (g_X9_foldRooms_2 M d i2 a3) a3)), (5, .int i2)]) (by simp) ?_
      refine mz_go FLX9 KLX9 C [(46, .lload_n 3), (47, .aload_n 0), (48, .iload 5), (50, .iconst 0), (51, .iconst 0)] (by decide +kernel) (pc' := 52) (L' := [(0, .ref 0), (1, .long d), (3, .long (mz_fr 5 (g_X9_foldRooms_2 M d i2 a3) a3)), (5, .int i2)]) (st' := [.int 0, .int 0, .int i2, .ref 0, .long (mz_fr 5 (g_X9_foldRooms_2 M d i2 a3) a3)]) rfl ?_
      refine mz_callV (As := [.int i2, .int 0, .int 0]) (rest := [.long (mz_fr 5 (g_X9_foldRooms_2 M d i2 a3) a3)]) C E' (f_X9_way l D cA ρ hI M i2 0 0 (Int32.not_lt.mpr hi4) (Int32.not_le.mp h1) (by decide) (mz_lt0 hi4 h1) (by decide) (by decide)) hy_X9_way wl_X9_403 rfl rfl rfl ⟨Nat.le_of_ble_eq_true rfl, Nat.le_of_ble_eq_true rfl⟩ ⟨Nat.le_refl _, Nat.le_refl _⟩ (Nat.le_of_ble_eq_true rfl) (by decide +kernel) ?_ rfl
      refine mz_go FLX9 KLX9 C [(55, .i2l)] (by decide +kernel) (pc' := 56) (L' := [(0, .ref 0), (1, .long d), (3, .long (mz_fr 5 (g_X9_foldRooms_2 M d i2 a3) a3)), (5, .int i2)]) (st' := [.long ((g_X9_way M i2 0 0).toInt64), .long (mz_fr 5 (g_X9_foldRooms_2 M d i2 a3) a3)]) rfl ?_
      refine mz_callS (As := [.long (mz_fr 5 (g_X9_foldRooms_2 M d i2 a3) a3), .long ((g_X9_way M i2 0 0).toInt64)]) (rest := []) C E' (f_X9_fold l D cA ρ hI M (mz_fr 5 (g_X9_foldRooms_2 M d i2 a3) a3) ((g_X9_way M i2 0 0).toInt64)) hs_X9_fold wl_X9_378 rfl ⟨Nat.le_of_ble_eq_true rfl, Nat.le_of_ble_eq_true rfl⟩ ⟨Nat.le_refl _, Nat.le_refl _⟩ (Nat.le_of_ble_eq_true rfl) (by decide +kernel) ?_ rfl
      refine mz_go FLX9 KLX9 C [(59, .lstore_n 3), (60, .lload_n 3), (61, .aload_n 0), (62, .iload 5), (64, .iconst 0), (65, .iconst 1)] (by decide +kernel) (pc' := 66) (L' := [(3, .long (g_X9_fold M (mz_fr 5 (g_X9_foldRooms_2 M d i2 a3) a3) ((g_X9_way M i2 0 0).toInt64))), (0, .ref 0), (1, .long d), (5, .int i2)]) (st' := [.int 1, .int 0, .int i2, .ref 0, .long (g_X9_fold M (mz_fr 5 (g_X9_foldRooms_2 M d i2 a3) a3) ((g_X9_way M i2 0 0).toInt64))]) rfl ?_
      refine mz_callV (As := [.int i2, .int 0, .int 1]) (rest := [.long (g_X9_fold M (mz_fr 5 (g_X9_foldRooms_2 M d i2 a3) a3) ((g_X9_way M i2 0 0).toInt64))]) C E' (f_X9_way l D cA ρ hI M i2 0 1 (Int32.not_lt.mpr hi4) (Int32.not_le.mp h1) (by decide) (mz_lt0 hi4 h1) (by decide) (by decide)) hy_X9_way wl_X9_403 rfl rfl rfl ⟨Nat.le_of_ble_eq_true rfl, Nat.le_of_ble_eq_true rfl⟩ ⟨Nat.le_refl _, Nat.le_refl _⟩ (Nat.le_of_ble_eq_true rfl) (by decide +kernel) ?_ rfl
      refine mz_go FLX9 KLX9 C [(69, .i2l)] (by decide +kernel) (pc' := 70) (L' := [(3, .long (g_X9_fold M (mz_fr 5 (g_X9_foldRooms_2 M d i2 a3) a3) ((g_X9_way M i2 0 0).toInt64))), (0, .ref 0), (1, .long d), (5, .int i2)]) (st' := [.long ((g_X9_way M i2 0 1).toInt64), .long (g_X9_fold M (mz_fr 5 (g_X9_foldRooms_2 M d i2 a3) a3) ((g_X9_way M i2 0 0).toInt64))]) rfl ?_
      refine mz_callS (As := [.long (g_X9_fold M (mz_fr 5 (g_X9_foldRooms_2 M d i2 a3) a3) ((g_X9_way M i2 0 0).toInt64)), .long ((g_X9_way M i2 0 1).toInt64)]) (rest := []) C E' (f_X9_fold l D cA ρ hI M (g_X9_fold M (mz_fr 5 (g_X9_foldRooms_2 M d i2 a3) a3) ((g_X9_way M i2 0 0).toInt64)) ((g_X9_way M i2 0 1).toInt64)) hs_X9_fold wl_X9_378 rfl ⟨Nat.le_of_ble_eq_true rfl, Nat.le_of_ble_eq_true rfl⟩ ⟨Nat.le_refl _, Nat.le_refl _⟩ (Nat.le_of_ble_eq_true rfl) (by decide +kernel) ?_ rfl
      refine mz_go FLX9 KLX9 C [(73, .lstore_n 3), (74, .iinc 5 1), (77, .goto (-72))] (by decide +kernel) (pc' := 5) (L' := [(5, .int (i2 + 1)), (3, .long (g_X9_fold M (g_X9_fold M (mz_fr 5 (g_X9_foldRooms_2 M d i2 a3) a3) ((g_X9_way M i2 0 0).toInt64)) ((g_X9_way M i2 0 1).toInt64))), (0, .ref 0), (1, .long d)]) (st' := []) rfl ?_
      have hb21 := hb6 h1
      rw [show g_X9_foldRooms_1 M d i2 a3 = g_X9_fold M (g_X9_fold M (mz_fr 5 (g_X9_foldRooms_2 M d i2 a3) a3) ((g_X9_way M i2 0 0).toInt64)) ((g_X9_way M i2 0 1).toInt64) from rfl] at hb21
      exact mz_sub (by simp) hb21
    · refine mz_go FLX9 KLX9 C [(26, .lload_n 3), (27, .aload_n 0), (28, .iload 5), (30, .iload 6)] (by decide +kernel) (pc' := 32) (L' := [(0, .ref 0), (1, .long d), (3, .long a13), (5, .int i2), (6, .int i12)]) (st' := [.int i12, .int i2, .ref 0, .long a13]) rfl ?_
      refine mz_callV (As := [.int i2, .int i12]) (rest := [.long a13]) C E' (f_X9_ofRoom l D cA ρ hI M i2 i12 (Int32.not_lt.mpr hi4) (Int32.not_le.mp h1) (Int32.not_lt.mpr hi14) (mz_lec (c := 4) (d := 5) (by decide) (fun z => h11 ((mz_ltle (c := 4) (d := 5) (by decide)).mpr z)))) hy_X9_ofRoom wl_X9_400 rfl rfl rfl ⟨Nat.le_of_ble_eq_true rfl, Nat.le_of_ble_eq_true rfl⟩ ⟨Nat.le_refl _, Nat.le_refl _⟩ (Nat.le_of_ble_eq_true rfl) (by decide +kernel) ?_ rfl
      refine mz_go FLX9 KLX9 C [(35, .i2l)] (by decide +kernel) (pc' := 36) (L' := [(0, .ref 0), (1, .long d), (3, .long a13), (5, .int i2), (6, .int i12)]) (st' := [.long ((g_X9_ofRoom M i2 i12).toInt64), .long a13]) rfl ?_
      refine mz_callS (As := [.long a13, .long ((g_X9_ofRoom M i2 i12).toInt64)]) (rest := []) C E' (f_X9_fold l D cA ρ hI M a13 ((g_X9_ofRoom M i2 i12).toInt64)) hs_X9_fold wl_X9_378 rfl ⟨Nat.le_of_ble_eq_true rfl, Nat.le_of_ble_eq_true rfl⟩ ⟨Nat.le_refl _, Nat.le_refl _⟩ (Nat.le_of_ble_eq_true rfl) (by decide +kernel) ?_ rfl
      refine mz_go FLX9 KLX9 C [(39, .lstore_n 3), (40, .iinc 6 1), (43, .goto (-23))] (by decide +kernel) (pc' := 20) (L' := [(6, .int (i12 + 1)), (3, .long (g_X9_fold M a13 ((g_X9_ofRoom M i2 i12).toInt64))), (0, .ref 0), (1, .long d), (5, .int i2)]) (st' := []) rfl ?_
      have hb22 := hb16 (fun z => h11 ((mz_ltle (c := 4) (d := 5) (by decide)).mpr z))
      rw [show g_X9_foldRooms_2 M d i2 a3 i12 a13 = g_X9_fold M a13 ((g_X9_ofRoom M i2 i12).toInt64) from rfl] at hb22
      exact mz_sub (by simp) hb22
def g_X9_foldTracks_2 (M : mz_Mem) (d : Int64) (i2 : Int32) (a3 : Int64) (i12 : Int32) (a13 : Int64) : Int64 := g_X9_fold M a13 ((g_X9_ofTrack M i2 i12).toInt64)
def g_X9_foldTracks_1 (M : mz_Mem) (d : Int64) (i2 : Int32) (a3 : Int64) : Int64 := g_X9_fold M (mz_fr 5 (g_X9_foldTracks_2 M d i2 a3) a3) ((g_X9_doubles M i2).toInt64)
def g_X9_foldTracks (M : mz_Mem) (d : Int64) : Int64 := (mz_fr (M 15 0) (g_X9_foldTracks_1 M d) d)
set_option maxHeartbeats 4000000 in
theorem f_X9_foldTracks (l : Launch) (D : va_G) (cA : Nat → ClassId) (ρ : Nat → Nat) (hI : mz_I ρ mz_lay2) (M : mz_Mem) (d : Int64) : mz_M l D vwCl cA ρ mz_lay2 yX9_foldTracks cX9_foldTracks 7 (some .long) 5 116 [.ref 0, .long d] M (some (.long (g_X9_foldTracks M d))) M := by
  refine mz_in0 (by decide +kernel) (Nat.le_of_ble_eq_true rfl) (fun Γ C E => ?_)
  have E' := (⟨_, _, _, E⟩ : ∃ Qc mc ms, mz_E Γ Qc mc ms (mz_A ρ mz_lay2))
  refine mz_go FLX9 KLX9 C [(0, .lload_n 1), (1, .lstore_n 3), (2, .iconst 0), (3, .istore 5)] (by decide +kernel) (pc' := 5) (L' := [(5, .int 0), (3, .long d), (0, .ref 0), (1, .long d)]) (st' := []) rfl ?_
  refine mz_sub (L' := [(0, .ref 0), (1, .long d), (3, .long d), (5, .int 0)]) (by simp) ?_
  refine mz_loop (M 15 0) (g_X9_foldTracks_1 M d) (fun (i : Int32) (a : Int64) => mz_W Γ ρ 7 0 0 (mz_H D vwCl cA ρ mz_lay2 M) 5 [(0, .ref 0), (1, .long d), (3, .long a), (5, .int i)] []) d (fun i2 a3 hi4 hx5 hb6 => ?_)
  refine mz_go FLX9 KLX9 C [(5, .iload 5), (7, .aload_n 0), (8, .getfield 19), (11, .getfield 80)] (by decide +kernel) (pc' := 14) (L' := [(0, .ref 0), (1, .long d), (3, .long a3), (5, .int i2)]) (st' := [.int (M 15 0), .int i2]) rfl ?_
  refine mz_ige (off := 50) (tgt := 64) C (by decide +kernel) (by decide) (fun h1 => ?_) (fun h1 => ?_)
  · have e10 := hx5 h1
    subst e10
    refine mz_sub (L' := [(0, .ref 0), (1, .long d), (3, .long (mz_fr (M 15 0) (g_X9_foldTracks_1 M d) d))]) (by simp) ?_
    refine mz_go FLX9 KLX9 C [(64, .lload_n 3)] (by decide +kernel) (pc' := 65) (L' := [(0, .ref 0), (1, .long d), (3, .long (mz_fr (M 15 0) (g_X9_foldTracks_1 M d) d))]) (st' := [.long (mz_fr (M 15 0) (g_X9_foldTracks_1 M d) d)]) rfl ?_
    exact mz_lret C E (by decide +kernel) (rfl) (rfl)
  · refine mz_go FLX9 KLX9 C [(17, .iconst 0), (18, .istore 6)] (by decide +kernel) (pc' := 20) (L' := [(6, .int 0), (0, .ref 0), (1, .long d), (3, .long a3), (5, .int i2)]) (st' := []) rfl ?_
    refine mz_sub (L' := [(0, .ref 0), (1, .long d), (3, .long a3), (5, .int i2), (6, .int 0)]) (by simp) ?_
    refine mz_loop 5 (g_X9_foldTracks_2 M d i2 a3) (fun (i : Int32) (a : Int64) => mz_W Γ ρ 7 0 0 (mz_H D vwCl cA ρ mz_lay2 M) 20 [(0, .ref 0), (1, .long d), (3, .long a), (5, .int i2), (6, .int i)] []) a3 (fun i12 a13 hi14 hx15 hb16 => ?_)
    refine mz_go FLX9 KLX9 C [(20, .iload 6), (22, .iconst 4)] (by decide +kernel) (pc' := 23) (L' := [(0, .ref 0), (1, .long d), (3, .long a13), (5, .int i2), (6, .int i12)]) (st' := [.int 4, .int i12]) rfl ?_
    refine mz_igt (off := 23) (tgt := 46) C (by decide +kernel) (by decide) (fun h11 => ?_) (fun h11 => ?_)
    · have e20 := hx15 ((mz_ltle (c := 4) (d := 5) (by decide)).mp h11)
      subst e20
      refine mz_sub (L' := [(0, .ref 0), (1, .long d), (3, .long (mz_fr 5 (g_X9_foldTracks_2 M d i2 a3) a3)), (5, .int i2)]) (by simp) ?_
      refine mz_go FLX9 KLX9 C [(46, .lload_n 3), (47, .aload_n 0), (48, .iload 5)] (by decide +kernel) (pc' := 50) (L' := [(0, .ref 0), (1, .long d), (3, .long (mz_fr 5 (g_X9_foldTracks_2 M d i2 a3) a3)), (5, .int i2)]) (st' := [.int i2, .ref 0, .long (mz_fr 5 (g_X9_foldTracks_2 M d i2 a3) a3)]) rfl ?_
      refine mz_callV (As := [.int i2]) (rest := [.long (mz_fr 5 (g_X9_foldTracks_2 M d i2 a3) a3)]) C E' (f_X9_doubles l D cA ρ hI M i2 (Int32.not_lt.mpr hi4) (Int32.not_le.mp h1)) hy_X9_doubles wl_X9_409 rfl rfl rfl ⟨Nat.le_of_ble_eq_true rfl, Nat.le_of_ble_eq_true rfl⟩ ⟨Nat.le_refl _, Nat.le_refl _⟩ (Nat.le_of_ble_eq_true rfl) (by decide +kernel) ?_ rfl
      refine mz_go FLX9 KLX9 C [(53, .i2l)] (by decide +kernel) (pc' := 54) (L' := [(0, .ref 0), (1, .long d), (3, .long (mz_fr 5 (g_X9_foldTracks_2 M d i2 a3) a3)), (5, .int i2)]) (st' := [.long ((g_X9_doubles M i2).toInt64), .long (mz_fr 5 (g_X9_foldTracks_2 M d i2 a3) a3)]) rfl ?_
      refine mz_callS (As := [.long (mz_fr 5 (g_X9_foldTracks_2 M d i2 a3) a3), .long ((g_X9_doubles M i2).toInt64)]) (rest := []) C E' (f_X9_fold l D cA ρ hI M (mz_fr 5 (g_X9_foldTracks_2 M d i2 a3) a3) ((g_X9_doubles M i2).toInt64)) hs_X9_fold wl_X9_378 rfl ⟨Nat.le_of_ble_eq_true rfl, Nat.le_of_ble_eq_true rfl⟩ ⟨Nat.le_refl _, Nat.le_refl _⟩ (Nat.le_of_ble_eq_true rfl) (by decide +kernel) ?_ rfl
      refine mz_go FLX9 KLX9 C [(57, .lstore_n 3), (58, .iinc 5 1), (61, .goto (-56))] (by decide +kernel) (pc' := 5) (L' := [(5, .int (i2 + 1)), (3, .long (g_X9_fold M (mz_fr 5 (g_X9_foldTracks_2 M d i2 a3) a3) ((g_X9_doubles M i2).toInt64))), (0, .ref 0), (1, .long d)]) (st' := []) rfl ?_
      have hb21 := hb6 h1
      rw [show g_X9_foldTracks_1 M d i2 a3 = g_X9_fold M (mz_fr 5 (g_X9_foldTracks_2 M d i2 a3) a3) ((g_X9_doubles M i2).toInt64) from rfl] at hb21
      exact mz_sub (by simp) hb21
    · refine mz_go FLX9 KLX9 C [(26, .lload_n 3), (27, .aload_n 0), (28, .iload 5), (30, .iload 6)] (by decide +kernel) (pc' := 32) (L' := [(0, .ref 0), (1, .long d), (3, .long a13), (5, .int i2), (6, .int i12)]) (st' := [.int i12, .int i2, .ref 0, .long a13]) rfl ?_
      refine mz_callV (As := [.int i2, .int i12]) (rest := [.long a13]) C E' (f_X9_ofTrack l D cA ρ hI M i2 i12 (Int32.not_lt.mpr hi4) (Int32.not_le.mp h1) (Int32.not_lt.mpr hi14) (mz_lec (c := 4) (d := 5) (by decide) (fun z => h11 ((mz_ltle (c := 4) (d := 5) (by decide)).mpr z)))) hy_X9_ofTrack wl_X9_406 rfl rfl rfl ⟨Nat.le_of_ble_eq_true rfl, Nat.le_of_ble_eq_true rfl⟩ ⟨Nat.le_refl _, Nat.le_refl _⟩ (Nat.le_of_ble_eq_true rfl) (by decide +kernel) ?_ rfl
      refine mz_go FLX9 KLX9 C [(35, .i2l)] (by decide +kernel) (pc' := 36) (L' := [(0, .ref 0), (1, .long d), (3, .long a13), (5, .int i2), (6, .int i12)]) (st' := [.long ((g_X9_ofTrack M i2 i12).toInt64), .long a13]) rfl ?_
      refine mz_callS (As := [.long a13, .long ((g_X9_ofTrack M i2 i12).toInt64)]) (rest := []) C E' (f_X9_fold l D cA ρ hI M a13 ((g_X9_ofTrack M i2 i12).toInt64)) hs_X9_fold wl_X9_378 rfl ⟨Nat.le_of_ble_eq_true rfl, Nat.le_of_ble_eq_true rfl⟩ ⟨Nat.le_refl _, Nat.le_refl _⟩ (Nat.le_of_ble_eq_true rfl) (by decide +kernel) ?_ rfl
      refine mz_go FLX9 KLX9 C [(39, .lstore_n 3), (40, .iinc 6 1), (43, .goto (-23))] (by decide +kernel) (pc' := 20) (L' := [(6, .int (i12 + 1)), (3, .long (g_X9_fold M a13 ((g_X9_ofTrack M i2 i12).toInt64))), (0, .ref 0), (1, .long d), (5, .int i2)]) (st' := []) rfl ?_
      have hb22 := hb16 (fun z => h11 ((mz_ltle (c := 4) (d := 5) (by decide)).mpr z))
      rw [show g_X9_foldTracks_2 M d i2 a3 i12 a13 = g_X9_fold M a13 ((g_X9_ofTrack M i2 i12).toInt64) from rfl] at hb22
      exact mz_sub (by simp) hb22
def g_X9_foldScenes_2 (M : mz_Mem) (d : Int64) (i2 : Int32) (a3 : Int64) (i12 : Int32) (a13 : Int64) : Int64 := g_X9_fold M a13 ((g_X9_ofScene M i2 i12).toInt64)
def g_X9_foldScenes_1 (M : mz_Mem) (d : Int64) (i2 : Int32) (a3 : Int64) : Int64 := (mz_fr 11 (g_X9_foldScenes_2 M d i2 a3) a3)
def g_X9_foldScenes (M : mz_Mem) (d : Int64) : Int64 := (mz_fr (M 15 2) (g_X9_foldScenes_1 M d) d)
set_option maxHeartbeats 4000000 in
theorem f_X9_foldScenes (l : Launch) (D : va_G) (cA : Nat → ClassId) (ρ : Nat → Nat) (hI : mz_I ρ mz_lay2) (M : mz_Mem) (d : Int64) : mz_M l D vwCl cA ρ mz_lay2 yX9_foldScenes cX9_foldScenes 7 (some .long) 4 89 [.ref 0, .long d] M (some (.long (g_X9_foldScenes M d))) M := by
  refine mz_in0 (by decide +kernel) (Nat.le_of_ble_eq_true rfl) (fun Γ C E => ?_)
  have E' := (⟨_, _, _, E⟩ : ∃ Qc mc ms, mz_E Γ Qc mc ms (mz_A ρ mz_lay2))
  refine mz_go FLX9 KLX9 C [(0, .lload_n 1), (1, .lstore_n 3), (2, .iconst 0), (3, .istore 5)] (by decide +kernel) (pc' := 5) (L' := [(5, .int 0), (3, .long d), (0, .ref 0), (1, .long d)]) (st' := []) rfl ?_
  refine mz_sub (L' := [(0, .ref 0), (1, .long d), (3, .long d), (5, .int 0)]) (by simp) ?_
  refine mz_loop (M 15 2) (g_X9_foldScenes_1 M d) (fun (i : Int32) (a : Int64) => mz_W Γ ρ 7 0 0 (mz_H D vwCl cA ρ mz_lay2 M) 5 [(0, .ref 0), (1, .long d), (3, .long a), (5, .int i)] []) d (fun i2 a3 hi4 hx5 hb6 => ?_)
  refine mz_go FLX9 KLX9 C [(5, .iload 5), (7, .aload_n 0), (8, .getfield 19), (11, .getfield 129)] (by decide +kernel) (pc' := 14) (L' := [(0, .ref 0), (1, .long d), (3, .long a3), (5, .int i2)]) (st' := [.int (M 15 2), .int i2]) rfl ?_
  refine mz_ige (off := 39) (tgt := 53) C (by decide +kernel) (by decide) (fun h1 => ?_) (fun h1 => ?_)
  · have e10 := hx5 h1
    subst e10
    refine mz_sub (L' := [(0, .ref 0), (1, .long d), (3, .long (mz_fr (M 15 2) (g_X9_foldScenes_1 M d) d))]) (by simp) ?_
    refine mz_go FLX9 KLX9 C [(53, .lload_n 3)] (by decide +kernel) (pc' := 54) (L' := [(0, .ref 0), (1, .long d), (3, .long (mz_fr (M 15 2) (g_X9_foldScenes_1 M d) d))]) (st' := [.long (mz_fr (M 15 2) (g_X9_foldScenes_1 M d) d)]) rfl ?_
    exact mz_lret C E (by decide +kernel) (rfl) (rfl)
  · refine mz_go FLX9 KLX9 C [(17, .iconst 0), (18, .istore 6)] (by decide +kernel) (pc' := 20) (L' := [(6, .int 0), (0, .ref 0), (1, .long d), (3, .long a3), (5, .int i2)]) (st' := []) rfl ?_
    refine mz_sub (L' := [(0, .ref 0), (1, .long d), (3, .long a3), (5, .int i2), (6, .int 0)]) (by simp) ?_
    refine mz_loop 11 (g_X9_foldScenes_2 M d i2 a3) (fun (i : Int32) (a : Int64) => mz_W Γ ρ 7 0 0 (mz_H D vwCl cA ρ mz_lay2 M) 20 [(0, .ref 0), (1, .long d), (3, .long a), (5, .int i2), (6, .int i)] []) a3 (fun i12 a13 hi14 hx15 hb16 => ?_)
    refine mz_go FLX9 KLX9 C [(20, .iload 6), (22, .bipush 10)] (by decide +kernel) (pc' := 24) (L' := [(0, .ref 0), (1, .long d), (3, .long a13), (5, .int i2), (6, .int i12)]) (st' := [.int 10, .int i12]) rfl ?_
    refine mz_igt (off := 23) (tgt := 47) C (by decide +kernel) (by decide) (fun h11 => ?_) (fun h11 => ?_)
    · have e20 := hx15 ((mz_ltle (c := 10) (d := 11) (by decide)).mp h11)
      subst e20
      refine mz_sub (L' := [(0, .ref 0), (1, .long d), (3, .long (mz_fr 11 (g_X9_foldScenes_2 M d i2 a3) a3)), (5, .int i2)]) (by simp) ?_
      refine mz_go FLX9 KLX9 C [(47, .iinc 5 1), (50, .goto (-45))] (by decide +kernel) (pc' := 5) (L' := [(5, .int (i2 + 1)), (0, .ref 0), (1, .long d), (3, .long (mz_fr 11 (g_X9_foldScenes_2 M d i2 a3) a3))]) (st' := []) rfl ?_
      have hb21 := hb6 h1
      rw [show g_X9_foldScenes_1 M d i2 a3 = (mz_fr 11 (g_X9_foldScenes_2 M d i2 a3) a3) from rfl] at hb21
      exact mz_sub (by simp) hb21
    · refine mz_go FLX9 KLX9 C [(27, .lload_n 3), (28, .aload_n 0), (29, .iload 5), (31, .iload 6)] (by decide +kernel) (pc' := 33) (L' := [(0, .ref 0), (1, .long d), (3, .long a13), (5, .int i2), (6, .int i12)]) (st' := [.int i12, .int i2, .ref 0, .long a13]) rfl ?_
      refine mz_callV (As := [.int i2, .int i12]) (rest := [.long a13]) C E' (f_X9_ofScene l D cA ρ hI M i2 i12 (Int32.not_lt.mpr hi4) (Int32.not_le.mp h1) (Int32.not_lt.mpr hi14) (mz_lec (c := 10) (d := 11) (by decide) (fun z => h11 ((mz_ltle (c := 10) (d := 11) (by decide)).mpr z)))) hy_X9_ofScene wl_X9_412 rfl rfl rfl ⟨Nat.le_of_ble_eq_true rfl, Nat.le_of_ble_eq_true rfl⟩ ⟨Nat.le_refl _, Nat.le_refl _⟩ (Nat.le_of_ble_eq_true rfl) (by decide +kernel) ?_ rfl
      refine mz_go FLX9 KLX9 C [(36, .i2l)] (by decide +kernel) (pc' := 37) (L' := [(0, .ref 0), (1, .long d), (3, .long a13), (5, .int i2), (6, .int i12)]) (st' := [.long ((g_X9_ofScene M i2 i12).toInt64), .long a13]) rfl ?_
      refine mz_callS (As := [.long a13, .long ((g_X9_ofScene M i2 i12).toInt64)]) (rest := []) C E' (f_X9_fold l D cA ρ hI M a13 ((g_X9_ofScene M i2 i12).toInt64)) hs_X9_fold wl_X9_378 rfl ⟨Nat.le_of_ble_eq_true rfl, Nat.le_of_ble_eq_true rfl⟩ ⟨Nat.le_refl _, Nat.le_refl _⟩ (Nat.le_of_ble_eq_true rfl) (by decide +kernel) ?_ rfl
      refine mz_go FLX9 KLX9 C [(40, .lstore_n 3), (41, .iinc 6 1), (44, .goto (-24))] (by decide +kernel) (pc' := 20) (L' := [(6, .int (i12 + 1)), (3, .long (g_X9_fold M a13 ((g_X9_ofScene M i2 i12).toInt64))), (0, .ref 0), (1, .long d), (5, .int i2)]) (st' := []) rfl ?_
      have hb22 := hb16 (fun z => h11 ((mz_ltle (c := 10) (d := 11) (by decide)).mpr z))
      rw [show g_X9_foldScenes_2 M d i2 a3 i12 a13 = g_X9_fold M a13 ((g_X9_ofScene M i2 i12).toInt64) from rfl] at hb22
      exact mz_sub (by simp) hb22
def g_X9_foldProps_2 (M : mz_Mem) (d : Int64) (i2 : Int32) (a3 : Int64) (i12 : Int32) (a13 : Int64) : Int64 := g_X9_fold M a13 ((g_X9_ofProp M i2 i12).toInt64)
def g_X9_foldProps_1 (M : mz_Mem) (d : Int64) (i2 : Int32) (a3 : Int64) : Int64 := (mz_fr 5 (g_X9_foldProps_2 M d i2 a3) a3)
def g_X9_foldProps (M : mz_Mem) (d : Int64) : Int64 := (mz_fr (M 15 1) (g_X9_foldProps_1 M d) d)
set_option maxHeartbeats 4000000 in
theorem f_X9_foldProps (l : Launch) (D : va_G) (cA : Nat → ClassId) (ρ : Nat → Nat) (hI : mz_I ρ mz_lay2) (M : mz_Mem) (d : Int64) : mz_M l D vwCl cA ρ mz_lay2 yX9_foldProps cX9_foldProps 7 (some .long) 3 64 [.ref 0, .long d] M (some (.long (g_X9_foldProps M d))) M := by
  refine mz_in0 (by decide +kernel) (Nat.le_of_ble_eq_true rfl) (fun Γ C E => ?_)
  have E' := (⟨_, _, _, E⟩ : ∃ Qc mc ms, mz_E Γ Qc mc ms (mz_A ρ mz_lay2))
  refine mz_go FLX9 KLX9 C [(0, .lload_n 1), (1, .lstore_n 3), (2, .iconst 0), (3, .istore 5)] (by decide +kernel) (pc' := 5) (L' := [(5, .int 0), (3, .long d), (0, .ref 0), (1, .long d)]) (st' := []) rfl ?_
  refine mz_sub (L' := [(0, .ref 0), (1, .long d), (3, .long d), (5, .int 0)]) (by simp) ?_
  refine mz_loop (M 15 1) (g_X9_foldProps_1 M d) (fun (i : Int32) (a : Int64) => mz_W Γ ρ 7 0 0 (mz_H D vwCl cA ρ mz_lay2 M) 5 [(0, .ref 0), (1, .long d), (3, .long a), (5, .int i)] []) d (fun i2 a3 hi4 hx5 hb6 => ?_)
  refine mz_go FLX9 KLX9 C [(5, .iload 5), (7, .aload_n 0), (8, .getfield 19), (11, .getfield 98)] (by decide +kernel) (pc' := 14) (L' := [(0, .ref 0), (1, .long d), (3, .long a3), (5, .int i2)]) (st' := [.int (M 15 1), .int i2]) rfl ?_
  refine mz_ige (off := 38) (tgt := 52) C (by decide +kernel) (by decide) (fun h1 => ?_) (fun h1 => ?_)
  · have e10 := hx5 h1
    subst e10
    refine mz_sub (L' := [(0, .ref 0), (1, .long d), (3, .long (mz_fr (M 15 1) (g_X9_foldProps_1 M d) d))]) (by simp) ?_
    refine mz_go FLX9 KLX9 C [(52, .lload_n 3)] (by decide +kernel) (pc' := 53) (L' := [(0, .ref 0), (1, .long d), (3, .long (mz_fr (M 15 1) (g_X9_foldProps_1 M d) d))]) (st' := [.long (mz_fr (M 15 1) (g_X9_foldProps_1 M d) d)]) rfl ?_
    exact mz_lret C E (by decide +kernel) (rfl) (rfl)
  · refine mz_go FLX9 KLX9 C [(17, .iconst 0), (18, .istore 6)] (by decide +kernel) (pc' := 20) (L' := [(6, .int 0), (0, .ref 0), (1, .long d), (3, .long a3), (5, .int i2)]) (st' := []) rfl ?_
    refine mz_sub (L' := [(0, .ref 0), (1, .long d), (3, .long a3), (5, .int i2), (6, .int 0)]) (by simp) ?_
    refine mz_loop 5 (g_X9_foldProps_2 M d i2 a3) (fun (i : Int32) (a : Int64) => mz_W Γ ρ 7 0 0 (mz_H D vwCl cA ρ mz_lay2 M) 20 [(0, .ref 0), (1, .long d), (3, .long a), (5, .int i2), (6, .int i)] []) a3 (fun i12 a13 hi14 hx15 hb16 => ?_)
    refine mz_go FLX9 KLX9 C [(20, .iload 6), (22, .iconst 4)] (by decide +kernel) (pc' := 23) (L' := [(0, .ref 0), (1, .long d), (3, .long a13), (5, .int i2), (6, .int i12)]) (st' := [.int 4, .int i12]) rfl ?_
    refine mz_igt (off := 23) (tgt := 46) C (by decide +kernel) (by decide) (fun h11 => ?_) (fun h11 => ?_)
    · have e20 := hx15 ((mz_ltle (c := 4) (d := 5) (by decide)).mp h11)
      subst e20
      refine mz_sub (L' := [(0, .ref 0), (1, .long d), (3, .long (mz_fr 5 (g_X9_foldProps_2 M d i2 a3) a3)), (5, .int i2)]) (by simp) ?_
      refine mz_go FLX9 KLX9 C [(46, .iinc 5 1), (49, .goto (-44))] (by decide +kernel) (pc' := 5) (L' := [(5, .int (i2 + 1)), (0, .ref 0), (1, .long d), (3, .long (mz_fr 5 (g_X9_foldProps_2 M d i2 a3) a3))]) (st' := []) rfl ?_
      have hb21 := hb6 h1
      rw [show g_X9_foldProps_1 M d i2 a3 = (mz_fr 5 (g_X9_foldProps_2 M d i2 a3) a3) from rfl] at hb21
      exact mz_sub (by simp) hb21
    · refine mz_go FLX9 KLX9 C [(26, .lload_n 3), (27, .aload_n 0), (28, .iload 5), (30, .iload 6)] (by decide +kernel) (pc' := 32) (L' := [(0, .ref 0), (1, .long d), (3, .long a13), (5, .int i2), (6, .int i12)]) (st' := [.int i12, .int i2, .ref 0, .long a13]) rfl ?_
      refine mz_callV (As := [.int i2, .int i12]) (rest := [.long a13]) C E' (f_X9_ofProp l D cA ρ hI M i2 i12 (Int32.not_lt.mpr hi4) (Int32.not_le.mp h1) (Int32.not_lt.mpr hi14) (mz_lec (c := 4) (d := 5) (by decide) (fun z => h11 ((mz_ltle (c := 4) (d := 5) (by decide)).mpr z)))) hy_X9_ofProp wl_X9_415 rfl rfl rfl ⟨Nat.le_of_ble_eq_true rfl, Nat.le_of_ble_eq_true rfl⟩ ⟨Nat.le_refl _, Nat.le_refl _⟩ (Nat.le_of_ble_eq_true rfl) (by decide +kernel) ?_ rfl
      refine mz_go FLX9 KLX9 C [(35, .i2l)] (by decide +kernel) (pc' := 36) (L' := [(0, .ref 0), (1, .long d), (3, .long a13), (5, .int i2), (6, .int i12)]) (st' := [.long ((g_X9_ofProp M i2 i12).toInt64), .long a13]) rfl ?_
      refine mz_callS (As := [.long a13, .long ((g_X9_ofProp M i2 i12).toInt64)]) (rest := []) C E' (f_X9_fold l D cA ρ hI M a13 ((g_X9_ofProp M i2 i12).toInt64)) hs_X9_fold wl_X9_378 rfl ⟨Nat.le_of_ble_eq_true rfl, Nat.le_of_ble_eq_true rfl⟩ ⟨Nat.le_refl _, Nat.le_refl _⟩ (Nat.le_of_ble_eq_true rfl) (by decide +kernel) ?_ rfl
      refine mz_go FLX9 KLX9 C [(39, .lstore_n 3), (40, .iinc 6 1), (43, .goto (-23))] (by decide +kernel) (pc' := 20) (L' := [(6, .int (i12 + 1)), (3, .long (g_X9_fold M a13 ((g_X9_ofProp M i2 i12).toInt64))), (0, .ref 0), (1, .long d), (5, .int i2)]) (st' := []) rfl ?_
      have hb22 := hb16 (fun z => h11 ((mz_ltle (c := 4) (d := 5) (by decide)).mpr z))
      rw [show g_X9_foldProps_2 M d i2 a3 i12 a13 = g_X9_fold M a13 ((g_X9_ofProp M i2 i12).toInt64) from rfl] at hb22
      exact mz_sub (by simp) hb22
def g_X9_foldGuests_2 (M : mz_Mem) (d : Int64) (i2 : Int32) (a3 : Int64) (i12 : Int32) (a13 : Int64) : Int64 := g_X9_fold M a13 ((g_X9_ofGuest M i2 i12).toInt64)
def g_X9_foldGuests_1 (M : mz_Mem) (d : Int64) (i2 : Int32) (a3 : Int64) : Int64 := if (M 15 2) ≤ 0 then g_X9_fold M (mz_fr 7 (g_X9_foldGuests_2 M d i2 a3) a3) ((g_X0_countKnownBy (mz_tv M) i2).toInt64) else g_X9_fold M (g_X9_fold M (mz_fr 7 (g_X9_foldGuests_2 M d i2 a3) a3) ((g_X0_countKnownBy (mz_tv M) i2).toInt64)) ((g_X9_seen M i2 0).toInt64)
def g_X9_foldGuests (M : mz_Mem) (d : Int64) : Int64 := (mz_fr (M 60 0) (g_X9_foldGuests_1 M d) d)
set_option maxHeartbeats 4000000 in
theorem f_X9_foldGuests (l : Launch) (D : va_G) (cA : Nat → ClassId) (ρ : Nat → Nat) (hI : mz_I ρ mz_lay2) (M : mz_Mem) (d : Int64) : mz_M l D vwCl cA ρ mz_lay2 yX9_foldGuests cX9_foldGuests 7 (some .long) 3 66 [.ref 0, .long d] M (some (.long (g_X9_foldGuests M d))) M := by
  refine mz_in0 (by decide +kernel) (Nat.le_of_ble_eq_true rfl) (fun Γ C E => ?_)
  have E' := (⟨_, _, _, E⟩ : ∃ Qc mc ms, mz_E Γ Qc mc ms (mz_A ρ mz_lay2))
  refine mz_go FLX9 KLX9 C [(0, .lload_n 1), (1, .lstore_n 3), (2, .iconst 0), (3, .istore 5)] (by decide +kernel) (pc' := 5) (L' := [(5, .int 0), (3, .long d), (0, .ref 0), (1, .long d)]) (st' := []) rfl ?_
  refine mz_sub (L' := [(0, .ref 0), (1, .long d), (3, .long d), (5, .int 0)]) (by simp) ?_
  refine mz_loop (M 60 0) (g_X9_foldGuests_1 M d) (fun (i : Int32) (a : Int64) => mz_W Γ ρ 7 0 0 (mz_H D vwCl cA ρ mz_lay2 M) 5 [(0, .ref 0), (1, .long d), (3, .long a), (5, .int i)] []) d (fun i2 a3 hi4 hx5 hb6 => ?_)
  refine mz_go FLX9 KLX9 C [(5, .iload 5), (7, .aload_n 0), (8, .getfield 28), (11, .getfield 146), (14, .getfield 150)] (by decide +kernel) (pc' := 17) (L' := [(0, .ref 0), (1, .long d), (3, .long a3), (5, .int i2)]) (st' := [.int (M 60 0), .int i2]) rfl ?_
  refine mz_ige (off := 80) (tgt := 97) C (by decide +kernel) (by decide) (fun h1 => ?_) (fun h1 => ?_)
  · have e10 := hx5 h1
    subst e10
    refine mz_sub (L' := [(0, .ref 0), (1, .long d), (3, .long (mz_fr (M 60 0) (g_X9_foldGuests_1 M d) d))]) (by simp) ?_
    refine mz_go FLX9 KLX9 C [(97, .lload_n 3)] (by decide +kernel) (pc' := 98) (L' := [(0, .ref 0), (1, .long d), (3, .long (mz_fr (M 60 0) (g_X9_foldGuests_1 M d) d))]) (st' := [.long (mz_fr (M 60 0) (g_X9_foldGuests_1 M d) d)]) rfl ?_
    exact mz_lret C E (by decide +kernel) (rfl) (rfl)
  · refine mz_go FLX9 KLX9 C [(20, .iconst 0), (21, .istore 6)] (by decide +kernel) (pc' := 23) (L' := [(6, .int 0), (0, .ref 0), (1, .long d), (3, .long a3), (5, .int i2)]) (st' := []) rfl ?_
    refine mz_sub (L' := [(0, .ref 0), (1, .long d), (3, .long a3), (5, .int i2), (6, .int 0)]) (by simp) ?_
    refine mz_loop 7 (g_X9_foldGuests_2 M d i2 a3) (fun (i : Int32) (a : Int64) => mz_W Γ ρ 7 0 0 (mz_H D vwCl cA ρ mz_lay2 M) 23 [(0, .ref 0), (1, .long d), (3, .long a), (5, .int i2), (6, .int i)] []) a3 (fun i12 a13 hi14 hx15 hb16 => ?_)
    refine mz_go FLX9 KLX9 C [(23, .iload 6), (25, .bipush 6)] (by decide +kernel) (pc' := 27) (L' := [(0, .ref 0), (1, .long d), (3, .long a13), (5, .int i2), (6, .int i12)]) (st' := [.int 6, .int i12]) rfl ?_
    refine mz_igt (off := 23) (tgt := 50) C (by decide +kernel) (by decide) (fun h11 => ?_) (fun h11 => ?_)
    · have e20 := hx15 ((mz_ltle (c := 6) (d := 7) (by decide)).mp h11)
      subst e20
      refine mz_sub (L' := [(0, .ref 0), (1, .long d), (3, .long (mz_fr 7 (g_X9_foldGuests_2 M d i2 a3) a3)), (5, .int i2)]) (by simp) ?_
      refine mz_go FLX9 KLX9 C [(50, .lload_n 3), (51, .aload_n 0), (52, .getfield 32), (55, .getfield 146), (58, .iload 5)] (by decide +kernel) (pc' := 60) (L' := [(0, .ref 0), (1, .long d), (3, .long (mz_fr 7 (g_X9_foldGuests_2 M d i2 a3) a3)), (5, .int i2)]) (st' := [.int i2, .ref 108, .long (mz_fr 7 (g_X9_foldGuests_2 M d i2 a3) a3)]) rfl ?_
      refine mz_callV (As := [.int i2]) (rest := [.long (mz_fr 7 (g_X9_foldGuests_2 M d i2 a3) a3)]) C E' (mz_liftTR hI (f_X0_countKnownBy l D cA _ (mz_IT hI) (mz_tv M) i2) rfl rfl) hy_X0_countKnownBy wl_X9_361 rfl rfl rfl ⟨Nat.le_of_ble_eq_true rfl, Nat.le_of_ble_eq_true rfl⟩ ⟨Nat.le_refl _, Nat.le_refl _⟩ (Nat.le_of_ble_eq_true rfl) (by decide +kernel) ?_ rfl
      refine mz_go FLX9 KLX9 C [(63, .i2l)] (by decide +kernel) (pc' := 64) (L' := [(0, .ref 0), (1, .long d), (3, .long (mz_fr 7 (g_X9_foldGuests_2 M d i2 a3) a3)), (5, .int i2)]) (st' := [.long ((g_X0_countKnownBy (mz_tv M) i2).toInt64), .long (mz_fr 7 (g_X9_foldGuests_2 M d i2 a3) a3)]) rfl ?_
      refine mz_callS (As := [.long (mz_fr 7 (g_X9_foldGuests_2 M d i2 a3) a3), .long ((g_X0_countKnownBy (mz_tv M) i2).toInt64)]) (rest := []) C E' (f_X9_fold l D cA ρ hI M (mz_fr 7 (g_X9_foldGuests_2 M d i2 a3) a3) ((g_X0_countKnownBy (mz_tv M) i2).toInt64)) hs_X9_fold wl_X9_378 rfl ⟨Nat.le_of_ble_eq_true rfl, Nat.le_of_ble_eq_true rfl⟩ ⟨Nat.le_refl _, Nat.le_refl _⟩ (Nat.le_of_ble_eq_true rfl) (by decide +kernel) ?_ rfl
      refine mz_go FLX9 KLX9 C [(67, .lstore_n 3), (68, .aload_n 0), (69, .getfield 19), (72, .getfield 129)] (by decide +kernel) (pc' := 75) (L' := [(3, .long (g_X9_fold M (mz_fr 7 (g_X9_foldGuests_2 M d i2 a3) a3) ((g_X0_countKnownBy (mz_tv M) i2).toInt64))), (0, .ref 0), (1, .long d), (5, .int i2)]) (st' := [.int (M 15 2)]) rfl ?_
      refine mz_zle (off := 16) (tgt := 91) C (by decide +kernel) (by decide) (fun h21 => ?_) (fun h21 => ?_)
      · refine mz_go FLX9 KLX9 C [(91, .iinc 5 1), (94, .goto (-89))] (by decide +kernel) (pc' := 5) (L' := [(5, .int (i2 + 1)), (3, .long (g_X9_fold M (mz_fr 7 (g_X9_foldGuests_2 M d i2 a3) a3) ((g_X0_countKnownBy (mz_tv M) i2).toInt64))), (0, .ref 0), (1, .long d)]) (st' := []) rfl ?_
        have hb22 := hb6 h1
        rw [show g_X9_foldGuests_1 M d i2 a3 = g_X9_fold M (mz_fr 7 (g_X9_foldGuests_2 M d i2 a3) a3) ((g_X0_countKnownBy (mz_tv M) i2).toInt64) from by unfold g_X9_foldGuests_1; rw [if_pos h21]] at hb22
        exact mz_sub (by simp) hb22
      · refine mz_go FLX9 KLX9 C [(78, .lload_n 3), (79, .aload_n 0), (80, .iload 5), (82, .iconst 0)] (by decide +kernel) (pc' := 83) (L' := [(3, .long (g_X9_fold M (mz_fr 7 (g_X9_foldGuests_2 M d i2 a3) a3) ((g_X0_countKnownBy (mz_tv M) i2).toInt64))), (0, .ref 0), (1, .long d), (5, .int i2)]) (st' := [.int 0, .int i2, .ref 0, .long (g_X9_fold M (mz_fr 7 (g_X9_foldGuests_2 M d i2 a3) a3) ((g_X0_countKnownBy (mz_tv M) i2).toInt64))]) rfl ?_
        refine mz_callV (As := [.int i2, .int 0]) (rest := [.long (g_X9_fold M (mz_fr 7 (g_X9_foldGuests_2 M d i2 a3) a3) ((g_X0_countKnownBy (mz_tv M) i2).toInt64))]) C E' (f_X9_seen l D cA ρ hI M i2 0 (Int32.not_lt.mpr hi4) (Int32.not_le.mp h1) (by decide) (Int32.not_le.mp h21)) hy_X9_seen wl_X9_421 rfl rfl rfl ⟨Nat.le_of_ble_eq_true rfl, Nat.le_of_ble_eq_true rfl⟩ ⟨Nat.le_refl _, Nat.le_refl _⟩ (Nat.le_of_ble_eq_true rfl) (by decide +kernel) ?_ rfl
        refine mz_go FLX9 KLX9 C [(86, .i2l)] (by decide +kernel) (pc' := 87) (L' := [(3, .long (g_X9_fold M (mz_fr 7 (g_X9_foldGuests_2 M d i2 a3) a3) ((g_X0_countKnownBy (mz_tv M) i2).toInt64))), (0, .ref 0), (1, .long d), (5, .int i2)]) (st' := [.long ((g_X9_seen M i2 0).toInt64), .long (g_X9_fold M (mz_fr 7 (g_X9_foldGuests_2 M d i2 a3) a3) ((g_X0_countKnownBy (mz_tv M) i2).toInt64))]) rfl ?_
        refine mz_callS (As := [.long (g_X9_fold M (mz_fr 7 (g_X9_foldGuests_2 M d i2 a3) a3) ((g_X0_countKnownBy (mz_tv M) i2).toInt64)), .long ((g_X9_seen M i2 0).toInt64)]) (rest := []) C E' (f_X9_fold l D cA ρ hI M (g_X9_fold M (mz_fr 7 (g_X9_foldGuests_2 M d i2 a3) a3) ((g_X0_countKnownBy (mz_tv M) i2).toInt64)) ((g_X9_seen M i2 0).toInt64)) hs_X9_fold wl_X9_378 rfl ⟨Nat.le_of_ble_eq_true rfl, Nat.le_of_ble_eq_true rfl⟩ ⟨Nat.le_refl _, Nat.le_refl _⟩ (Nat.le_of_ble_eq_true rfl) (by decide +kernel) ?_ rfl
        refine mz_go FLX9 KLX9 C [(90, .lstore_n 3), (91, .iinc 5 1), (94, .goto (-89))] (by decide +kernel) (pc' := 5) (L' := [(5, .int (i2 + 1)), (3, .long (g_X9_fold M (g_X9_fold M (mz_fr 7 (g_X9_foldGuests_2 M d i2 a3) a3) ((g_X0_countKnownBy (mz_tv M) i2).toInt64)) ((g_X9_seen M i2 0).toInt64))), (0, .ref 0), (1, .long d)]) (st' := []) rfl ?_
        have hb23 := hb6 h1
        rw [show g_X9_foldGuests_1 M d i2 a3 = g_X9_fold M (g_X9_fold M (mz_fr 7 (g_X9_foldGuests_2 M d i2 a3) a3) ((g_X0_countKnownBy (mz_tv M) i2).toInt64)) ((g_X9_seen M i2 0).toInt64) from by unfold g_X9_foldGuests_1; rw [if_neg h21]] at hb23
        exact mz_sub (by simp) hb23
    · refine mz_go FLX9 KLX9 C [(30, .lload_n 3), (31, .aload_n 0), (32, .iload 5), (34, .iload 6)] (by decide +kernel) (pc' := 36) (L' := [(0, .ref 0), (1, .long d), (3, .long a13), (5, .int i2), (6, .int i12)]) (st' := [.int i12, .int i2, .ref 0, .long a13]) rfl ?_
      refine mz_callV (As := [.int i2, .int i12]) (rest := [.long a13]) C E' (f_X9_ofGuest l D cA ρ hI M i2 i12 (Int32.not_lt.mpr hi4) (Int32.not_le.mp h1) (Int32.not_lt.mpr hi14) (mz_lec (c := 6) (d := 7) (by decide) (fun z => h11 ((mz_ltle (c := 6) (d := 7) (by decide)).mpr z)))) hy_X9_ofGuest wl_X9_418 rfl rfl rfl ⟨Nat.le_of_ble_eq_true rfl, Nat.le_of_ble_eq_true rfl⟩ ⟨Nat.le_refl _, Nat.le_refl _⟩ (Nat.le_of_ble_eq_true rfl) (by decide +kernel) ?_ rfl
      refine mz_go FLX9 KLX9 C [(39, .i2l)] (by decide +kernel) (pc' := 40) (L' := [(0, .ref 0), (1, .long d), (3, .long a13), (5, .int i2), (6, .int i12)]) (st' := [.long ((g_X9_ofGuest M i2 i12).toInt64), .long a13]) rfl ?_
      refine mz_callS (As := [.long a13, .long ((g_X9_ofGuest M i2 i12).toInt64)]) (rest := []) C E' (f_X9_fold l D cA ρ hI M a13 ((g_X9_ofGuest M i2 i12).toInt64)) hs_X9_fold wl_X9_378 rfl ⟨Nat.le_of_ble_eq_true rfl, Nat.le_of_ble_eq_true rfl⟩ ⟨Nat.le_refl _, Nat.le_refl _⟩ (Nat.le_of_ble_eq_true rfl) (by decide +kernel) ?_ rfl
      refine mz_go FLX9 KLX9 C [(43, .lstore_n 3), (44, .iinc 6 1), (47, .goto (-24))] (by decide +kernel) (pc' := 23) (L' := [(6, .int (i12 + 1)), (3, .long (g_X9_fold M a13 ((g_X9_ofGuest M i2 i12).toInt64))), (0, .ref 0), (1, .long d), (5, .int i2)]) (st' := []) rfl ?_
      have hb24 := hb16 (fun z => h11 ((mz_ltle (c := 6) (d := 7) (by decide)).mpr z))
      rw [show g_X9_foldGuests_2 M d i2 a3 i12 a13 = g_X9_fold M a13 ((g_X9_ofGuest M i2 i12).toInt64) from rfl] at hb24
      exact mz_sub (by simp) hb24
def g_X9_countCutsOfTrial (M : mz_Mem) : Int32 := ((mz_sum 12 (M 98)) - (mz_sum 12 (M 50)))
set_option maxHeartbeats 4000000 in
theorem f_X9_countCutsOfTrial (l : Launch) (D : va_G) (cA : Nat → ClassId) (ρ : Nat → Nat) (hI : mz_I ρ mz_lay2) (M : mz_Mem) : mz_M l D vwCl cA ρ mz_lay2 yX9_countCutsOfTrial cX9_countCutsOfTrial 1 (some .int) 1 22 [.ref 0] M (some (.int (g_X9_countCutsOfTrial M))) M := by
  refine mz_in0 (by decide +kernel) (Nat.le_of_ble_eq_true rfl) (fun Γ C E => ?_)
  have E' := (⟨_, _, _, E⟩ : ∃ Qc mc ms, mz_E Γ Qc mc ms (mz_A ρ mz_lay2))
  refine mz_go FLX9 KLX9 C [(0, .aload_n 0), (1, .getfield 32), (4, .getfield 187), (7, .getfield 314)] (by decide +kernel) (pc' := 10) (L' := [(0, .ref 0)]) (st' := [.ref 97]) rfl ?_
  refine mz_callV (As := []) (rest := []) C E' (f_Row_sum l D cA ρ hI (r := 97) (a := 98) (n := 12) rfl rfl (by decide) M ) hy_X6_sum wl_X9_196 rfl rfl rfl ⟨Nat.le_of_ble_eq_true rfl, Nat.le_of_ble_eq_true rfl⟩ ⟨Nat.le_refl _, Nat.le_refl _⟩ (Nat.le_of_ble_eq_true rfl) (by decide +kernel) ?_ rfl
  refine mz_go FLX9 KLX9 C [(13, .aload_n 0), (14, .getfield 28), (17, .getfield 187), (20, .getfield 314)] (by decide +kernel) (pc' := 23) (L' := [(0, .ref 0)]) (st' := [.ref 49, .int (mz_sum 12 (M 98))]) rfl ?_
  refine mz_callV (As := []) (rest := [.int (mz_sum 12 (M 98))]) C E' (f_Row_sum l D cA ρ hI (r := 49) (a := 50) (n := 12) rfl rfl (by decide) M ) hy_X6_sum wl_X9_196 rfl rfl rfl ⟨Nat.le_of_ble_eq_true rfl, Nat.le_of_ble_eq_true rfl⟩ ⟨Nat.le_refl _, Nat.le_refl _⟩ (Nat.le_of_ble_eq_true rfl) (by decide +kernel) ?_ rfl
  refine mz_go FLX9 KLX9 C [(26, .isub)] (by decide +kernel) (pc' := 27) (L' := [(0, .ref 0)]) (st' := [.int ((mz_sum 12 (M 98)) - (mz_sum 12 (M 50)))]) rfl ?_
  exact mz_iret C E (by decide +kernel) (rfl) (rfl)
