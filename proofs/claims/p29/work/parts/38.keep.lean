/-! what a minute leaves as it is -/
def mz_hr (M M' : mz_Mem) : Prop := ∀ k, k = 37 ∨ k = 64 ∨ k = 66 → M' k = M k
theorem mz_hr_rf {M : mz_Mem} : mz_hr M M := fun _ _ => rfl
theorem mz_hr.trans {A B C : mz_Mem} (h : mz_hr A B) (g : mz_hr B C) : mz_hr A C := fun k hk => (g k hk).trans (h k hk)
theorem mz_hr_s {M : mz_Mem} {k : Nat} {f : Nat → Int32} (h : k ≠ 37 ∧ k ≠ 64 ∧ k ≠ 66) : mz_hr M (mz_s M k f) := fun j hj => mz_s_ne (by omega)
theorem mz_hr_frp {α : Type} (π : α → mz_Mem) {n : Int32} {F : Int32 → α → α} {a : α} (h : ∀ i a, mz_hr (π a) (π (F i a))) : mz_hr (π a) (π (mz_fr n F a)) :=
  mz_lp_ind F (fun x y => mz_hr (π x) (π y)) (fun _ => mz_hr_rf) (fun _ _ _ => mz_hr.trans) h _ _ _
theorem g_X1_walk_1_hr (M : mz_Mem) (t : Int32) (to_ : Int32) (i2 : Int32) (a3 : mz_Mem) : mz_hr a3 (g_X1_walk_1 M t to_ i2 a3) := by
  unfold g_X1_walk_1
  by_cases h1 : ((g_X1_rolesOf (mz_s M 39 (mz_ra 5 (M 39) t 1)) t) &&& (1 <<< (i2 &&& 31))) = 0
  · rw [if_pos h1]
    exact mz_hr_rf
  · rw [if_neg h1]
    exact mz_hr_s (by decide)
theorem g_X1_walk_hr (M : mz_Mem) (t : Int32) (to_ : Int32) : mz_hr M (g_X1_walk M t to_) := by
  unfold g_X1_walk
  exact (mz_hr_s (by decide)).trans (mz_hr_frp (fun (a : mz_Mem) => a) (fun i a => g_X1_walk_1_hr M t to_ i a))
theorem g_X5_lay_hr (M : mz_Mem) (p : Int32) (r : Int32) : mz_hr M (g_X5_lay M p r) := by
  unfold g_X5_lay
  exact ((mz_hr_s (by decide)).trans (mz_hr_s (by decide))).trans (mz_hr_s (by decide))
theorem g_X5_giveToTrack_hr (M : mz_Mem) (p : Int32) (t : Int32) : mz_hr M (g_X5_giveToTrack M p t) := by
  unfold g_X5_giveToTrack
  exact (g_X5_lay_hr M p (-1)).trans (mz_hr_s (by decide))
theorem g_X5_goHome_1_hr (M : mz_Mem) (i2 : Int32) (a3 : mz_Mem) : mz_hr a3 (g_X5_goHome_1 M i2 a3) := by
  unfold g_X5_goHome_1
  by_cases h1 : (mz_rg 4 (a3 57) i2) = (-1)
  · rw [if_pos h1]
    exact g_X5_lay_hr a3 i2 (mz_rg 4 (a3 19) i2)
  · rw [if_neg h1]
    exact mz_hr_rf
theorem g_X5_goHome_hr (M : mz_Mem) : mz_hr M (g_X5_goHome M) := by
  unfold g_X5_goHome
  exact mz_hr_frp (fun (a : mz_Mem) => a) (fun i a => g_X5_goHome_1_hr M i a)
theorem g_X8_cut_hr (M : mz_Mem) (k : Int32) : mz_hr M (g_X8_cut M k) := by
  unfold g_X8_cut
  exact ((mz_hr_s (by decide)).trans (mz_hr_s (by decide))).trans (mz_hr_s (by decide))
theorem g_X8_restart_1_hr (M : mz_Mem) (i2 : Int32) (a3 : mz_Mem) : mz_hr a3 (g_X8_restart_1 M i2 a3) := by
  unfold g_X8_restart_1
  by_cases h1 : (g_X8_waits a3 i2) = 0
  · rw [if_pos h1]
    by_cases h2 : (g_X8_runs a3 i2) = 0
    · rw [if_pos h2]
      exact (mz_hr_s (by decide)).trans (mz_hr_s (by decide))
    · rw [if_neg h2]
      exact ((g_X8_cut_hr a3 i2).trans (mz_hr_s (by decide))).trans (mz_hr_s (by decide))
  · rw [if_neg h1]
    exact ((g_X8_cut_hr a3 i2).trans (mz_hr_s (by decide))).trans (mz_hr_s (by decide))
theorem g_X8_restart_hr (M : mz_Mem) : mz_hr M (g_X8_restart M) := by
  unfold g_X8_restart
  exact mz_hr_frp (fun (a : mz_Mem) => a) (fun i a => g_X8_restart_1_hr M i a)
theorem g_X8_begin_hr (M : mz_Mem) (k : Int32) : mz_hr M (g_X8_begin M k) := by
  unfold g_X8_begin
  exact (mz_hr_s (by decide)).trans (mz_hr_s (by decide))
theorem g_X8_delay_hr (M : mz_Mem) (k : Int32) : mz_hr M (g_X8_delay M k) := by
  unfold g_X8_delay
  by_cases h1 : (mz_rg 12 ((mz_s (mz_s M 46 (mz_ra 12 (M 46) k 1)) 40 (upd ((mz_s M 46 (mz_ra 12 (M 46) k 1)) 40) 6 (((mz_s M 46 (mz_ra 12 (M 46) k 1)) 40 6) + 1))) 46) k) < 5
  · rw [if_pos h1]
    exact (mz_hr_s (by decide)).trans (mz_hr_s (by decide))
  · rw [if_neg h1]
    exact ((mz_hr_s (by decide)).trans (mz_hr_s (by decide))).trans (g_X8_cut_hr (mz_s (mz_s M 46 (mz_ra 12 (M 46) k 1)) 40 (upd ((mz_s M 46 (mz_ra 12 (M 46) k 1)) 40) 6 (((mz_s M 46 (mz_ra 12 (M 46) k 1)) 40 6) + 1))) k)
theorem g_X8_goOn_hr (M : mz_Mem) (k : Int32) : mz_hr M (g_X8_goOn M k) := by
  unfold g_X8_goOn
  by_cases h1 : 0 < (mz_rg 12 ((mz_s M 44 (mz_ra 12 (M 44) k (-1))) 44) k)
  · rw [if_pos h1]
    exact mz_hr_s (by decide)
  · rw [if_neg h1]
    exact ((mz_hr_s (by decide)).trans (mz_hr_s (by decide))).trans (mz_hr_s (by decide))
theorem g_X0_walk_hr (M : mz_Mem) (g : Int32) (to_ : Int32) : mz_hr M (g_X0_walk M g to_) := by
  unfold g_X0_walk
  exact (((mz_hr_s (by decide)).trans (mz_hr_s (by decide))).trans (mz_hr_s (by decide))).trans (mz_hr_s (by decide))
theorem g_X0_see_hr (M : mz_Mem) (g : Int32) (k : Int32) (m : Int32) : mz_hr M (g_X0_see M g k m) := by
  unfold g_X0_see
  by_cases h1 : ((mz_gg 144 (M 73 0) (M 75) g k) + 1) < m
  · rw [if_pos h1]
    exact mz_hr_s (by decide)
  · rw [if_neg h1]
    exact (mz_hr_s (by decide)).trans (mz_hr_s (by decide))
theorem g_X2_moveTrack_hr (M : mz_Mem) (t : Int32) (w : Int32) : mz_hr M (g_X2_moveTrack M t w) := by
  unfold g_X2_moveTrack
  by_cases h1 : (mz_gg 64 (M 12 0) (M 14) (mz_rg 5 (M 35) t) w) = (-1)
  · rw [if_pos h1]
    exact mz_hr_rf
  · rw [if_neg h1]
    by_cases h2 : (mz_gg 64 (M 12 0) (M 14) (mz_rg 5 (M 35) t) w) = (mz_rg 5 (M 35) t)
    · rw [if_pos h2]
      exact mz_hr_rf
    · rw [if_neg h2]
      exact g_X1_walk_hr M t (mz_gg 64 (M 12 0) (M 14) (mz_rg 5 (M 35) t) w)
theorem g_X2_moveTracks_1_hr (M : mz_Mem) (i2 : Int32) (a3 : mz_Mem) : mz_hr a3 (g_X2_moveTracks_1 M i2 a3) := by
  unfold g_X2_moveTracks_1
  by_cases h1 : (mz_rg 5 (a3 37) i2) = (-1)
  · rw [if_pos h1]
    by_cases h2 : ((g_X8_busyTracks M) &&& (g_X1_rolesOf a3 i2)) = 0
    · rw [if_pos h2]
      by_cases h3 : (g_X8_nextSceneOf a3 (g_X1_rolesOf a3 i2)) = (-1)
      · rw [if_pos h3]
        exact g_X2_moveTrack_hr a3 i2 (mz_rg 5 (a3 17) i2)
      · rw [if_neg h3]
        exact g_X2_moveTrack_hr a3 i2 (mz_rg 12 (a3 21) (g_X8_nextSceneOf a3 (g_X1_rolesOf a3 i2)))
    · rw [if_neg h2]
      exact mz_hr_rf
  · rw [if_neg h1]
    exact mz_hr_rf
theorem g_X2_moveTracks_hr (M : mz_Mem) : mz_hr M (g_X2_moveTracks M) := by
  unfold g_X2_moveTracks
  exact mz_hr_frp (fun (a : mz_Mem) => a) (fun i a => g_X2_moveTracks_1_hr M i a)
theorem g_X2_continueScene_hr (M : mz_Mem) (k : Int32) : mz_hr M (g_X2_continueScene M k) := by
  unfold g_X2_continueScene
  by_cases h1 : (mz_rg 12 ((g_X8_goOn M k) 29) k) = (-1)
  · rw [if_pos h1]
    exact g_X8_goOn_hr M k
  · rw [if_neg h1]
    by_cases h2 : (g_X8_runs (g_X8_goOn M k) k) = 0
    · rw [if_pos h2]
      exact (g_X8_goOn_hr M k).trans (g_X5_giveToTrack_hr (g_X8_goOn M k) (mz_rg 12 ((g_X8_goOn M k) 29) k) (g_X2_greatestTrack (g_X8_goOn M k) (mz_rg 12 ((g_X8_goOn M k) 27) k)))
    · rw [if_neg h2]
      exact g_X8_goOn_hr M k
theorem g_X2_performScenes_1_hr (M : mz_Mem) (i2 : Int32) (a3 : mz_Mem) : mz_hr a3 (g_X2_performScenes_1 M i2 a3) := by
  unfold g_X2_performScenes_1
  by_cases h1 : (g_X8_runs a3 i2) = 0
  · rw [if_pos h1]
    by_cases h2 : (g_X8_waits a3 i2) = 0
    · rw [if_pos h2]
      exact mz_hr_rf
    · rw [if_neg h2]
      by_cases h3 : ((M 30 7) - (M 30 7) / 20 * 20) < (mz_rg 12 (a3 23) i2)
      · rw [if_pos h3]
        exact mz_hr_rf
      · rw [if_neg h3]
        by_cases h4 : (g_X2_canBegin a3 i2) = 0
        · rw [if_pos h4]
          exact g_X8_delay_hr a3 i2
        · rw [if_neg h4]
          exact g_X8_begin_hr a3 i2
  · rw [if_neg h1]
    exact g_X2_continueScene_hr a3 i2
theorem g_X2_performScenes_hr (M : mz_Mem) : mz_hr M (g_X2_performScenes M) := by
  unfold g_X2_performScenes
  exact mz_hr_frp (fun (a : mz_Mem) => a) (fun i a => g_X2_performScenes_1_hr M i a)
theorem g_X2_moveGuest_hr (M : mz_Mem) (g : Int32) (to_ : Int32) (d : Int32) : mz_hr M (g_X2_moveGuest M g to_ d) := by
  unfold g_X2_moveGuest
  by_cases h1 : (mz_rg 14 (M 5) d) ≤ (mz_rg 14 (M 32) d)
  · rw [if_pos h1]
    exact mz_hr_s (by decide)
  · rw [if_neg h1]
    by_cases h2 : (g_X2_isFull M to_) = 0
    · rw [if_pos h2]
      exact (mz_hr_s (by decide)).trans (g_X0_walk_hr (mz_s M 32 (mz_ra 14 (M 32) d 1)) g to_)
    · rw [if_neg h2]
      exact mz_hr_s (by decide)
theorem g_X2_moveGuests_1_hr (M : mz_Mem) (i2 : Int32) (a3 : mz_Mem) : mz_hr a3 (g_X2_moveGuests_1 M i2 a3) := by
  unfold g_X2_moveGuests_1
  by_cases h1 : (g_X2_nextRoomOf a3 i2 (mz_rg 12 (a3 62) i2)) = (-1)
  · rw [if_pos h1]
    exact mz_hr_rf
  · rw [if_neg h1]
    by_cases h2 : (g_X2_nextRoomOf a3 i2 (mz_rg 12 (a3 62) i2)) = (mz_rg 12 (a3 62) i2)
    · rw [if_pos h2]
      exact mz_hr_rf
    · rw [if_neg h2]
      exact g_X2_moveGuest_hr a3 i2 (g_X2_nextRoomOf a3 i2 (mz_rg 12 (a3 62) i2)) (mz_gg 64 (a3 6 0) (a3 8) (mz_rg 12 (a3 62) i2) (g_X2_nextRoomOf a3 i2 (mz_rg 12 (a3 62) i2)))
theorem g_X2_moveGuests_hr (M : mz_Mem) : mz_hr M (g_X2_moveGuests M) := by
  unfold g_X2_moveGuests
  exact (mz_hr_s (by decide)).trans (mz_hr_frp (fun (a : mz_Mem) => a) (fun i a => g_X2_moveGuests_1_hr M i a))
theorem g_X2_showScene_1_hr (M : mz_Mem) (k : Int32) (i2 : Int32) (a3 : Int32 × mz_Mem) : mz_hr a3.2 (g_X2_showScene_1 M k i2 a3).2 := by
  unfold g_X2_showScene_1
  by_cases h1 : a3.1 ≤ 0
  · rw [if_pos h1]
    exact mz_hr_rf
  · rw [if_neg h1]
    by_cases h2 : (mz_rg 12 (a3.2 62) i2) = (mz_rg 12 (M 21) k)
    · rw [if_pos h2]
      exact g_X0_see_hr a3.2 i2 k (((mz_rg 12 (M 25) k) + 1) / 2)
    · rw [if_neg h2]
      exact mz_hr_rf
theorem g_X2_showScene_hr (M : mz_Mem) (k : Int32) : mz_hr M (g_X2_showScene M k) := by
  unfold g_X2_showScene
  exact mz_hr_frp (fun (a : Int32 × mz_Mem) => a.2) (fun i a => g_X2_showScene_1_hr M k i a)
theorem g_X2_showScenes_1_hr (M : mz_Mem) (i2 : Int32) (a3 : mz_Mem) : mz_hr a3 (g_X2_showScenes_1 M i2 a3) := by
  unfold g_X2_showScenes_1
  by_cases h1 : (g_X8_runs a3 i2) = 0
  · rw [if_pos h1]
    exact mz_hr_rf
  · rw [if_neg h1]
    exact g_X2_showScene_hr a3 i2
theorem g_X2_showScenes_hr (M : mz_Mem) : mz_hr M (g_X2_showScenes M) := by
  unfold g_X2_showScenes
  exact mz_hr_frp (fun (a : mz_Mem) => a) (fun i a => g_X2_showScenes_1_hr M i a)
theorem g_X2_beginLoop_hr (M : mz_Mem) : mz_hr M (g_X2_beginLoop M) := by
  unfold g_X2_beginLoop
  exact ((g_X8_restart_hr M ).trans (g_X5_goHome_hr (g_X8_restart M) )).trans (mz_hr_s (by decide))
theorem g_X2_run_1_hr (M : mz_Mem) (m : Int32) (i2 : Int32) (a3 : mz_Mem) : mz_hr a3 (g_X2_run_1 M m i2 a3) := by
  unfold g_X2_run_1
  by_cases h1 : (((mz_s a3 30 (upd (a3 30) 7 ((a3 30 7) + 1))) 30 7) - ((mz_s a3 30 (upd (a3 30) 7 ((a3 30 7) + 1))) 30 7) / 20 * 20) = 0
  · rw [if_pos h1]
    exact (((((mz_hr_s (by decide)).trans (g_X2_beginLoop_hr (mz_s a3 30 (upd (a3 30) 7 ((a3 30 7) + 1))) )).trans (g_X2_moveTracks_hr (g_X2_beginLoop (mz_s a3 30 (upd (a3 30) 7 ((a3 30 7) + 1)))) )).trans (g_X2_performScenes_hr (g_X2_moveTracks (g_X2_beginLoop (mz_s a3 30 (upd (a3 30) 7 ((a3 30 7) + 1))))) )).trans (g_X2_moveGuests_hr (g_X2_performScenes (g_X2_moveTracks (g_X2_beginLoop (mz_s a3 30 (upd (a3 30) 7 ((a3 30 7) + 1)))))) )).trans (g_X2_showScenes_hr (g_X2_moveGuests (g_X2_performScenes (g_X2_moveTracks (g_X2_beginLoop (mz_s a3 30 (upd (a3 30) 7 ((a3 30 7) + 1))))))) )
  · rw [if_neg h1]
    exact ((((mz_hr_s (by decide)).trans (g_X2_moveTracks_hr (mz_s a3 30 (upd (a3 30) 7 ((a3 30 7) + 1))) )).trans (g_X2_performScenes_hr (g_X2_moveTracks (mz_s a3 30 (upd (a3 30) 7 ((a3 30 7) + 1)))) )).trans (g_X2_moveGuests_hr (g_X2_performScenes (g_X2_moveTracks (mz_s a3 30 (upd (a3 30) 7 ((a3 30 7) + 1))))) )).trans (g_X2_showScenes_hr (g_X2_moveGuests (g_X2_performScenes (g_X2_moveTracks (mz_s a3 30 (upd (a3 30) 7 ((a3 30 7) + 1)))))) )
theorem g_X2_run_hr (M : mz_Mem) (m : Int32) : mz_hr M (g_X2_run M m) := by
  unfold g_X2_run
  exact mz_hr_frp (fun (a : mz_Mem) => a) (fun i a => g_X2_run_1_hr M m i a)
def mz_ht (M M' : mz_Mem) : Prop := ∀ k, k = 30 → M' k = M k
theorem mz_ht_rf {M : mz_Mem} : mz_ht M M := fun _ _ => rfl
theorem mz_ht.trans {A B C : mz_Mem} (h : mz_ht A B) (g : mz_ht B C) : mz_ht A C := fun k hk => (g k hk).trans (h k hk)
theorem mz_ht_s {M : mz_Mem} {k : Nat} {f : Nat → Int32} (h : k ≠ 30) : mz_ht M (mz_s M k f) := fun j hj => mz_s_ne (by omega)
theorem mz_ht_frp {α : Type} (π : α → mz_Mem) {n : Int32} {F : Int32 → α → α} {a : α} (h : ∀ i a, mz_ht (π a) (π (F i a))) : mz_ht (π a) (π (mz_fr n F a)) :=
  mz_lp_ind F (fun x y => mz_ht (π x) (π y)) (fun _ => mz_ht_rf) (fun _ _ _ => mz_ht.trans) h _ _ _
theorem g_X1_enter_ht (M : mz_Mem) (t : Int32) (h : Int32) : mz_ht M (g_X1_enter M t h) := by
  unfold g_X1_enter
  exact (mz_ht_s (by decide)).trans (mz_ht_s (by decide))
theorem g_X1_startDouble_ht (M : mz_Mem) (t : Int32) (b : Int32) : mz_ht M (g_X1_startDouble M t b) := by
  unfold g_X1_startDouble
  exact (mz_ht_s (by decide)).trans (mz_ht_s (by decide))
theorem g_X1_endDouble_ht (M : mz_Mem) (t : Int32) : mz_ht M (g_X1_endDouble M t) := by
  unfold g_X1_endDouble
  exact mz_ht_s (by decide)
theorem g_X1_walk_1_ht (M : mz_Mem) (t : Int32) (to_ : Int32) (i2 : Int32) (a3 : mz_Mem) : mz_ht a3 (g_X1_walk_1 M t to_ i2 a3) := by
  unfold g_X1_walk_1
  by_cases h1 : ((g_X1_rolesOf (mz_s M 39 (mz_ra 5 (M 39) t 1)) t) &&& (1 <<< (i2 &&& 31))) = 0
  · rw [if_pos h1]
    exact mz_ht_rf
  · rw [if_neg h1]
    exact mz_ht_s (by decide)
theorem g_X1_walk_ht (M : mz_Mem) (t : Int32) (to_ : Int32) : mz_ht M (g_X1_walk M t to_) := by
  unfold g_X1_walk
  exact (mz_ht_s (by decide)).trans (mz_ht_frp (fun (a : mz_Mem) => a) (fun i a => g_X1_walk_1_ht M t to_ i a))
theorem g_X5_lay_ht (M : mz_Mem) (p : Int32) (r : Int32) : mz_ht M (g_X5_lay M p r) := by
  unfold g_X5_lay
  exact ((mz_ht_s (by decide)).trans (mz_ht_s (by decide))).trans (mz_ht_s (by decide))
theorem g_X5_giveToTrack_ht (M : mz_Mem) (p : Int32) (t : Int32) : mz_ht M (g_X5_giveToTrack M p t) := by
  unfold g_X5_giveToTrack
  exact (g_X5_lay_ht M p (-1)).trans (mz_ht_s (by decide))
theorem g_X5_goHome_1_ht (M : mz_Mem) (i2 : Int32) (a3 : mz_Mem) : mz_ht a3 (g_X5_goHome_1 M i2 a3) := by
  unfold g_X5_goHome_1
  by_cases h1 : (mz_rg 4 (a3 57) i2) = (-1)
  · rw [if_pos h1]
    exact g_X5_lay_ht a3 i2 (mz_rg 4 (a3 19) i2)
  · rw [if_neg h1]
    exact mz_ht_rf
theorem g_X5_goHome_ht (M : mz_Mem) : mz_ht M (g_X5_goHome M) := by
  unfold g_X5_goHome
  exact mz_ht_frp (fun (a : mz_Mem) => a) (fun i a => g_X5_goHome_1_ht M i a)
theorem g_X8_cut_ht (M : mz_Mem) (k : Int32) : mz_ht M (g_X8_cut M k) := by
  unfold g_X8_cut
  exact ((mz_ht_s (by decide)).trans (mz_ht_s (by decide))).trans (mz_ht_s (by decide))
theorem g_X8_restart_1_ht (M : mz_Mem) (i2 : Int32) (a3 : mz_Mem) : mz_ht a3 (g_X8_restart_1 M i2 a3) := by
  unfold g_X8_restart_1
  by_cases h1 : (g_X8_waits a3 i2) = 0
  · rw [if_pos h1]
    by_cases h2 : (g_X8_runs a3 i2) = 0
    · rw [if_pos h2]
      exact (mz_ht_s (by decide)).trans (mz_ht_s (by decide))
    · rw [if_neg h2]
      exact ((g_X8_cut_ht a3 i2).trans (mz_ht_s (by decide))).trans (mz_ht_s (by decide))
  · rw [if_neg h1]
    exact ((g_X8_cut_ht a3 i2).trans (mz_ht_s (by decide))).trans (mz_ht_s (by decide))
theorem g_X8_restart_ht (M : mz_Mem) : mz_ht M (g_X8_restart M) := by
  unfold g_X8_restart
  exact mz_ht_frp (fun (a : mz_Mem) => a) (fun i a => g_X8_restart_1_ht M i a)
theorem g_X8_begin_ht (M : mz_Mem) (k : Int32) : mz_ht M (g_X8_begin M k) := by
  unfold g_X8_begin
  exact (mz_ht_s (by decide)).trans (mz_ht_s (by decide))
theorem g_X8_delay_ht (M : mz_Mem) (k : Int32) : mz_ht M (g_X8_delay M k) := by
  unfold g_X8_delay
  by_cases h1 : (mz_rg 12 ((mz_s (mz_s M 46 (mz_ra 12 (M 46) k 1)) 40 (upd ((mz_s M 46 (mz_ra 12 (M 46) k 1)) 40) 6 (((mz_s M 46 (mz_ra 12 (M 46) k 1)) 40 6) + 1))) 46) k) < 5
  · rw [if_pos h1]
    exact (mz_ht_s (by decide)).trans (mz_ht_s (by decide))
  · rw [if_neg h1]
    exact ((mz_ht_s (by decide)).trans (mz_ht_s (by decide))).trans (g_X8_cut_ht (mz_s (mz_s M 46 (mz_ra 12 (M 46) k 1)) 40 (upd ((mz_s M 46 (mz_ra 12 (M 46) k 1)) 40) 6 (((mz_s M 46 (mz_ra 12 (M 46) k 1)) 40 6) + 1))) k)
theorem g_X8_goOn_ht (M : mz_Mem) (k : Int32) : mz_ht M (g_X8_goOn M k) := by
  unfold g_X8_goOn
  by_cases h1 : 0 < (mz_rg 12 ((mz_s M 44 (mz_ra 12 (M 44) k (-1))) 44) k)
  · rw [if_pos h1]
    exact mz_ht_s (by decide)
  · rw [if_neg h1]
    exact ((mz_ht_s (by decide)).trans (mz_ht_s (by decide))).trans (mz_ht_s (by decide))
theorem g_X0_changeHabit_ht (M : mz_Mem) (g : Int32) (h : Int32) (t : Int32) : mz_ht M (g_X0_changeHabit M g h t) := by
  unfold g_X0_changeHabit
  by_cases h1 : h = 1
  · rw [if_pos h1]
    exact (mz_ht_s (by decide)).trans (mz_ht_s (by decide))
  · rw [if_neg h1]
    exact (mz_ht_s (by decide)).trans (mz_ht_s (by decide))
theorem g_X0_walk_ht (M : mz_Mem) (g : Int32) (to_ : Int32) : mz_ht M (g_X0_walk M g to_) := by
  unfold g_X0_walk
  exact (((mz_ht_s (by decide)).trans (mz_ht_s (by decide))).trans (mz_ht_s (by decide))).trans (mz_ht_s (by decide))
theorem g_X0_see_ht (M : mz_Mem) (g : Int32) (k : Int32) (m : Int32) : mz_ht M (g_X0_see M g k m) := by
  unfold g_X0_see
  by_cases h1 : ((mz_gg 144 (M 73 0) (M 75) g k) + 1) < m
  · rw [if_pos h1]
    exact mz_ht_s (by decide)
  · rw [if_neg h1]
    exact (mz_ht_s (by decide)).trans (mz_ht_s (by decide))
theorem g_X2_moveTrack_ht (M : mz_Mem) (t : Int32) (w : Int32) : mz_ht M (g_X2_moveTrack M t w) := by
  unfold g_X2_moveTrack
  by_cases h1 : (mz_gg 64 (M 12 0) (M 14) (mz_rg 5 (M 35) t) w) = (-1)
  · rw [if_pos h1]
    exact mz_ht_rf
  · rw [if_neg h1]
    by_cases h2 : (mz_gg 64 (M 12 0) (M 14) (mz_rg 5 (M 35) t) w) = (mz_rg 5 (M 35) t)
    · rw [if_pos h2]
      exact mz_ht_rf
    · rw [if_neg h2]
      exact g_X1_walk_ht M t (mz_gg 64 (M 12 0) (M 14) (mz_rg 5 (M 35) t) w)
theorem g_X2_moveTracks_1_ht (M : mz_Mem) (i2 : Int32) (a3 : mz_Mem) : mz_ht a3 (g_X2_moveTracks_1 M i2 a3) := by
  unfold g_X2_moveTracks_1
  by_cases h1 : (mz_rg 5 (a3 37) i2) = (-1)
  · rw [if_pos h1]
    by_cases h2 : ((g_X8_busyTracks M) &&& (g_X1_rolesOf a3 i2)) = 0
    · rw [if_pos h2]
      by_cases h3 : (g_X8_nextSceneOf a3 (g_X1_rolesOf a3 i2)) = (-1)
      · rw [if_pos h3]
        exact g_X2_moveTrack_ht a3 i2 (mz_rg 5 (a3 17) i2)
      · rw [if_neg h3]
        exact g_X2_moveTrack_ht a3 i2 (mz_rg 12 (a3 21) (g_X8_nextSceneOf a3 (g_X1_rolesOf a3 i2)))
    · rw [if_neg h2]
      exact mz_ht_rf
  · rw [if_neg h1]
    exact mz_ht_rf
theorem g_X2_moveTracks_ht (M : mz_Mem) : mz_ht M (g_X2_moveTracks M) := by
  unfold g_X2_moveTracks
  exact mz_ht_frp (fun (a : mz_Mem) => a) (fun i a => g_X2_moveTracks_1_ht M i a)
theorem g_X2_continueScene_ht (M : mz_Mem) (k : Int32) : mz_ht M (g_X2_continueScene M k) := by
  unfold g_X2_continueScene
  by_cases h1 : (mz_rg 12 ((g_X8_goOn M k) 29) k) = (-1)
  · rw [if_pos h1]
    exact g_X8_goOn_ht M k
  · rw [if_neg h1]
    by_cases h2 : (g_X8_runs (g_X8_goOn M k) k) = 0
    · rw [if_pos h2]
      exact (g_X8_goOn_ht M k).trans (g_X5_giveToTrack_ht (g_X8_goOn M k) (mz_rg 12 ((g_X8_goOn M k) 29) k) (g_X2_greatestTrack (g_X8_goOn M k) (mz_rg 12 ((g_X8_goOn M k) 27) k)))
    · rw [if_neg h2]
      exact g_X8_goOn_ht M k
theorem g_X2_performScenes_1_ht (M : mz_Mem) (i2 : Int32) (a3 : mz_Mem) : mz_ht a3 (g_X2_performScenes_1 M i2 a3) := by
  unfold g_X2_performScenes_1
  by_cases h1 : (g_X8_runs a3 i2) = 0
  · rw [if_pos h1]
    by_cases h2 : (g_X8_waits a3 i2) = 0
    · rw [if_pos h2]
      exact mz_ht_rf
    · rw [if_neg h2]
      by_cases h3 : ((M 30 7) - (M 30 7) / 20 * 20) < (mz_rg 12 (a3 23) i2)
      · rw [if_pos h3]
        exact mz_ht_rf
      · rw [if_neg h3]
        by_cases h4 : (g_X2_canBegin a3 i2) = 0
        · rw [if_pos h4]
          exact g_X8_delay_ht a3 i2
        · rw [if_neg h4]
          exact g_X8_begin_ht a3 i2
  · rw [if_neg h1]
    exact g_X2_continueScene_ht a3 i2
theorem g_X2_performScenes_ht (M : mz_Mem) : mz_ht M (g_X2_performScenes M) := by
  unfold g_X2_performScenes
  exact mz_ht_frp (fun (a : mz_Mem) => a) (fun i a => g_X2_performScenes_1_ht M i a)
theorem g_X2_moveGuest_ht (M : mz_Mem) (g : Int32) (to_ : Int32) (d : Int32) : mz_ht M (g_X2_moveGuest M g to_ d) := by
  unfold g_X2_moveGuest
  by_cases h1 : (mz_rg 14 (M 5) d) ≤ (mz_rg 14 (M 32) d)
  · rw [if_pos h1]
    exact mz_ht_s (by decide)
  · rw [if_neg h1]
    by_cases h2 : (g_X2_isFull M to_) = 0
    · rw [if_pos h2]
      exact (mz_ht_s (by decide)).trans (g_X0_walk_ht (mz_s M 32 (mz_ra 14 (M 32) d 1)) g to_)
    · rw [if_neg h2]
      exact mz_ht_s (by decide)
theorem g_X2_moveGuests_1_ht (M : mz_Mem) (i2 : Int32) (a3 : mz_Mem) : mz_ht a3 (g_X2_moveGuests_1 M i2 a3) := by
  unfold g_X2_moveGuests_1
  by_cases h1 : (g_X2_nextRoomOf a3 i2 (mz_rg 12 (a3 62) i2)) = (-1)
  · rw [if_pos h1]
    exact mz_ht_rf
  · rw [if_neg h1]
    by_cases h2 : (g_X2_nextRoomOf a3 i2 (mz_rg 12 (a3 62) i2)) = (mz_rg 12 (a3 62) i2)
    · rw [if_pos h2]
      exact mz_ht_rf
    · rw [if_neg h2]
      exact g_X2_moveGuest_ht a3 i2 (g_X2_nextRoomOf a3 i2 (mz_rg 12 (a3 62) i2)) (mz_gg 64 (a3 6 0) (a3 8) (mz_rg 12 (a3 62) i2) (g_X2_nextRoomOf a3 i2 (mz_rg 12 (a3 62) i2)))
theorem g_X2_moveGuests_ht (M : mz_Mem) : mz_ht M (g_X2_moveGuests M) := by
  unfold g_X2_moveGuests
  exact (mz_ht_s (by decide)).trans (mz_ht_frp (fun (a : mz_Mem) => a) (fun i a => g_X2_moveGuests_1_ht M i a))
theorem g_X2_showScene_1_ht (M : mz_Mem) (k : Int32) (i2 : Int32) (a3 : Int32 × mz_Mem) : mz_ht a3.2 (g_X2_showScene_1 M k i2 a3).2 := by
  unfold g_X2_showScene_1
  by_cases h1 : a3.1 ≤ 0
  · rw [if_pos h1]
    exact mz_ht_rf
  · rw [if_neg h1]
    by_cases h2 : (mz_rg 12 (a3.2 62) i2) = (mz_rg 12 (M 21) k)
    · rw [if_pos h2]
      exact g_X0_see_ht a3.2 i2 k (((mz_rg 12 (M 25) k) + 1) / 2)
    · rw [if_neg h2]
      exact mz_ht_rf
theorem g_X2_showScene_ht (M : mz_Mem) (k : Int32) : mz_ht M (g_X2_showScene M k) := by
  unfold g_X2_showScene
  exact mz_ht_frp (fun (a : Int32 × mz_Mem) => a.2) (fun i a => g_X2_showScene_1_ht M k i a)
theorem g_X2_showScenes_1_ht (M : mz_Mem) (i2 : Int32) (a3 : mz_Mem) : mz_ht a3 (g_X2_showScenes_1 M i2 a3) := by
  unfold g_X2_showScenes_1
  by_cases h1 : (g_X8_runs a3 i2) = 0
  · rw [if_pos h1]
    exact mz_ht_rf
  · rw [if_neg h1]
    exact g_X2_showScene_ht a3 i2
theorem g_X2_showScenes_ht (M : mz_Mem) : mz_ht M (g_X2_showScenes M) := by
  unfold g_X2_showScenes
  exact mz_ht_frp (fun (a : mz_Mem) => a) (fun i a => g_X2_showScenes_1_ht M i a)
theorem g_X2_beginLoop_ht (M : mz_Mem) : mz_ht M (g_X2_beginLoop M) := by
  unfold g_X2_beginLoop
  exact ((g_X8_restart_ht M ).trans (g_X5_goHome_ht (g_X8_restart M) )).trans (mz_ht_s (by decide))
def mz_hv (M M' : mz_Mem) : Prop := ∀ k, k = 68 → M' k = M k
theorem mz_hv_rf {M : mz_Mem} : mz_hv M M := fun _ _ => rfl
theorem mz_hv.trans {A B C : mz_Mem} (h : mz_hv A B) (g : mz_hv B C) : mz_hv A C := fun k hk => (g k hk).trans (h k hk)
theorem mz_hv_s {M : mz_Mem} {k : Nat} {f : Nat → Int32} (h : k ≠ 68) : mz_hv M (mz_s M k f) := fun j hj => mz_s_ne (by omega)
theorem mz_hv_frp {α : Type} (π : α → mz_Mem) {n : Int32} {F : Int32 → α → α} {a : α} (h : ∀ i a, mz_hv (π a) (π (F i a))) : mz_hv (π a) (π (mz_fr n F a)) :=
  mz_lp_ind F (fun x y => mz_hv (π x) (π y)) (fun _ => mz_hv_rf) (fun _ _ _ => mz_hv.trans) h _ _ _
theorem g_X1_enter_hv (M : mz_Mem) (t : Int32) (h : Int32) : mz_hv M (g_X1_enter M t h) := by
  unfold g_X1_enter
  exact (mz_hv_s (by decide)).trans (mz_hv_s (by decide))
theorem g_X1_startDouble_hv (M : mz_Mem) (t : Int32) (b : Int32) : mz_hv M (g_X1_startDouble M t b) := by
  unfold g_X1_startDouble
  exact (mz_hv_s (by decide)).trans (mz_hv_s (by decide))
theorem g_X1_endDouble_hv (M : mz_Mem) (t : Int32) : mz_hv M (g_X1_endDouble M t) := by
  unfold g_X1_endDouble
  exact mz_hv_s (by decide)
theorem g_X1_walk_1_hv (M : mz_Mem) (t : Int32) (to_ : Int32) (i2 : Int32) (a3 : mz_Mem) : mz_hv a3 (g_X1_walk_1 M t to_ i2 a3) := by
  unfold g_X1_walk_1
  by_cases h1 : ((g_X1_rolesOf (mz_s M 39 (mz_ra 5 (M 39) t 1)) t) &&& (1 <<< (i2 &&& 31))) = 0
  · rw [if_pos h1]
    exact mz_hv_rf
  · rw [if_neg h1]
    exact mz_hv_s (by decide)
theorem g_X1_walk_hv (M : mz_Mem) (t : Int32) (to_ : Int32) : mz_hv M (g_X1_walk M t to_) := by
  unfold g_X1_walk
  exact (mz_hv_s (by decide)).trans (mz_hv_frp (fun (a : mz_Mem) => a) (fun i a => g_X1_walk_1_hv M t to_ i a))
theorem g_X5_lay_hv (M : mz_Mem) (p : Int32) (r : Int32) : mz_hv M (g_X5_lay M p r) := by
  unfold g_X5_lay
  exact ((mz_hv_s (by decide)).trans (mz_hv_s (by decide))).trans (mz_hv_s (by decide))
theorem g_X5_giveToTrack_hv (M : mz_Mem) (p : Int32) (t : Int32) : mz_hv M (g_X5_giveToTrack M p t) := by
  unfold g_X5_giveToTrack
  exact (g_X5_lay_hv M p (-1)).trans (mz_hv_s (by decide))
theorem g_X5_goHome_1_hv (M : mz_Mem) (i2 : Int32) (a3 : mz_Mem) : mz_hv a3 (g_X5_goHome_1 M i2 a3) := by
  unfold g_X5_goHome_1
  by_cases h1 : (mz_rg 4 (a3 57) i2) = (-1)
  · rw [if_pos h1]
    exact g_X5_lay_hv a3 i2 (mz_rg 4 (a3 19) i2)
  · rw [if_neg h1]
    exact mz_hv_rf
theorem g_X5_goHome_hv (M : mz_Mem) : mz_hv M (g_X5_goHome M) := by
  unfold g_X5_goHome
  exact mz_hv_frp (fun (a : mz_Mem) => a) (fun i a => g_X5_goHome_1_hv M i a)
theorem g_X8_cut_hv (M : mz_Mem) (k : Int32) : mz_hv M (g_X8_cut M k) := by
  unfold g_X8_cut
  exact ((mz_hv_s (by decide)).trans (mz_hv_s (by decide))).trans (mz_hv_s (by decide))
theorem g_X8_restart_1_hv (M : mz_Mem) (i2 : Int32) (a3 : mz_Mem) : mz_hv a3 (g_X8_restart_1 M i2 a3) := by
  unfold g_X8_restart_1
  by_cases h1 : (g_X8_waits a3 i2) = 0
  · rw [if_pos h1]
    by_cases h2 : (g_X8_runs a3 i2) = 0
    · rw [if_pos h2]
      exact (mz_hv_s (by decide)).trans (mz_hv_s (by decide))
    · rw [if_neg h2]
      exact ((g_X8_cut_hv a3 i2).trans (mz_hv_s (by decide))).trans (mz_hv_s (by decide))
  · rw [if_neg h1]
    exact ((g_X8_cut_hv a3 i2).trans (mz_hv_s (by decide))).trans (mz_hv_s (by decide))
theorem g_X8_restart_hv (M : mz_Mem) : mz_hv M (g_X8_restart M) := by
  unfold g_X8_restart
  exact mz_hv_frp (fun (a : mz_Mem) => a) (fun i a => g_X8_restart_1_hv M i a)
theorem g_X8_begin_hv (M : mz_Mem) (k : Int32) : mz_hv M (g_X8_begin M k) := by
  unfold g_X8_begin
  exact (mz_hv_s (by decide)).trans (mz_hv_s (by decide))
theorem g_X8_delay_hv (M : mz_Mem) (k : Int32) : mz_hv M (g_X8_delay M k) := by
  unfold g_X8_delay
  by_cases h1 : (mz_rg 12 ((mz_s (mz_s M 46 (mz_ra 12 (M 46) k 1)) 40 (upd ((mz_s M 46 (mz_ra 12 (M 46) k 1)) 40) 6 (((mz_s M 46 (mz_ra 12 (M 46) k 1)) 40 6) + 1))) 46) k) < 5
  · rw [if_pos h1]
    exact (mz_hv_s (by decide)).trans (mz_hv_s (by decide))
  · rw [if_neg h1]
    exact ((mz_hv_s (by decide)).trans (mz_hv_s (by decide))).trans (g_X8_cut_hv (mz_s (mz_s M 46 (mz_ra 12 (M 46) k 1)) 40 (upd ((mz_s M 46 (mz_ra 12 (M 46) k 1)) 40) 6 (((mz_s M 46 (mz_ra 12 (M 46) k 1)) 40 6) + 1))) k)
theorem g_X8_goOn_hv (M : mz_Mem) (k : Int32) : mz_hv M (g_X8_goOn M k) := by
  unfold g_X8_goOn
  by_cases h1 : 0 < (mz_rg 12 ((mz_s M 44 (mz_ra 12 (M 44) k (-1))) 44) k)
  · rw [if_pos h1]
    exact mz_hv_s (by decide)
  · rw [if_neg h1]
    exact ((mz_hv_s (by decide)).trans (mz_hv_s (by decide))).trans (mz_hv_s (by decide))
theorem g_X0_changeHabit_hv (M : mz_Mem) (g : Int32) (h : Int32) (t : Int32) : mz_hv M (g_X0_changeHabit M g h t) := by
  unfold g_X0_changeHabit
  by_cases h1 : h = 1
  · rw [if_pos h1]
    exact (mz_hv_s (by decide)).trans (mz_hv_s (by decide))
  · rw [if_neg h1]
    exact (mz_hv_s (by decide)).trans (mz_hv_s (by decide))
theorem g_X0_walk_hv (M : mz_Mem) (g : Int32) (to_ : Int32) : mz_hv M (g_X0_walk M g to_) := by
  unfold g_X0_walk
  exact (((mz_hv_s (by decide)).trans (mz_hv_s (by decide))).trans (mz_hv_s (by decide))).trans (mz_hv_s (by decide))
theorem g_X2_moveTrack_hv (M : mz_Mem) (t : Int32) (w : Int32) : mz_hv M (g_X2_moveTrack M t w) := by
  unfold g_X2_moveTrack
  by_cases h1 : (mz_gg 64 (M 12 0) (M 14) (mz_rg 5 (M 35) t) w) = (-1)
  · rw [if_pos h1]
    exact mz_hv_rf
  · rw [if_neg h1]
    by_cases h2 : (mz_gg 64 (M 12 0) (M 14) (mz_rg 5 (M 35) t) w) = (mz_rg 5 (M 35) t)
    · rw [if_pos h2]
      exact mz_hv_rf
    · rw [if_neg h2]
      exact g_X1_walk_hv M t (mz_gg 64 (M 12 0) (M 14) (mz_rg 5 (M 35) t) w)
theorem g_X2_moveTracks_1_hv (M : mz_Mem) (i2 : Int32) (a3 : mz_Mem) : mz_hv a3 (g_X2_moveTracks_1 M i2 a3) := by
  unfold g_X2_moveTracks_1
  by_cases h1 : (mz_rg 5 (a3 37) i2) = (-1)
  · rw [if_pos h1]
    by_cases h2 : ((g_X8_busyTracks M) &&& (g_X1_rolesOf a3 i2)) = 0
    · rw [if_pos h2]
      by_cases h3 : (g_X8_nextSceneOf a3 (g_X1_rolesOf a3 i2)) = (-1)
      · rw [if_pos h3]
        exact g_X2_moveTrack_hv a3 i2 (mz_rg 5 (a3 17) i2)
      · rw [if_neg h3]
        exact g_X2_moveTrack_hv a3 i2 (mz_rg 12 (a3 21) (g_X8_nextSceneOf a3 (g_X1_rolesOf a3 i2)))
    · rw [if_neg h2]
      exact mz_hv_rf
  · rw [if_neg h1]
    exact mz_hv_rf
theorem g_X2_moveTracks_hv (M : mz_Mem) : mz_hv M (g_X2_moveTracks M) := by
  unfold g_X2_moveTracks
  exact mz_hv_frp (fun (a : mz_Mem) => a) (fun i a => g_X2_moveTracks_1_hv M i a)
theorem g_X2_continueScene_hv (M : mz_Mem) (k : Int32) : mz_hv M (g_X2_continueScene M k) := by
  unfold g_X2_continueScene
  by_cases h1 : (mz_rg 12 ((g_X8_goOn M k) 29) k) = (-1)
  · rw [if_pos h1]
    exact g_X8_goOn_hv M k
  · rw [if_neg h1]
    by_cases h2 : (g_X8_runs (g_X8_goOn M k) k) = 0
    · rw [if_pos h2]
      exact (g_X8_goOn_hv M k).trans (g_X5_giveToTrack_hv (g_X8_goOn M k) (mz_rg 12 ((g_X8_goOn M k) 29) k) (g_X2_greatestTrack (g_X8_goOn M k) (mz_rg 12 ((g_X8_goOn M k) 27) k)))
    · rw [if_neg h2]
      exact g_X8_goOn_hv M k
theorem g_X2_performScenes_1_hv (M : mz_Mem) (i2 : Int32) (a3 : mz_Mem) : mz_hv a3 (g_X2_performScenes_1 M i2 a3) := by
  unfold g_X2_performScenes_1
  by_cases h1 : (g_X8_runs a3 i2) = 0
  · rw [if_pos h1]
    by_cases h2 : (g_X8_waits a3 i2) = 0
    · rw [if_pos h2]
      exact mz_hv_rf
    · rw [if_neg h2]
      by_cases h3 : ((M 30 7) - (M 30 7) / 20 * 20) < (mz_rg 12 (a3 23) i2)
      · rw [if_pos h3]
        exact mz_hv_rf
      · rw [if_neg h3]
        by_cases h4 : (g_X2_canBegin a3 i2) = 0
        · rw [if_pos h4]
          exact g_X8_delay_hv a3 i2
        · rw [if_neg h4]
          exact g_X8_begin_hv a3 i2
  · rw [if_neg h1]
    exact g_X2_continueScene_hv a3 i2
theorem g_X2_performScenes_hv (M : mz_Mem) : mz_hv M (g_X2_performScenes M) := by
  unfold g_X2_performScenes
  exact mz_hv_frp (fun (a : mz_Mem) => a) (fun i a => g_X2_performScenes_1_hv M i a)
theorem g_X2_moveGuest_hv (M : mz_Mem) (g : Int32) (to_ : Int32) (d : Int32) : mz_hv M (g_X2_moveGuest M g to_ d) := by
  unfold g_X2_moveGuest
  by_cases h1 : (mz_rg 14 (M 5) d) ≤ (mz_rg 14 (M 32) d)
  · rw [if_pos h1]
    exact mz_hv_s (by decide)
  · rw [if_neg h1]
    by_cases h2 : (g_X2_isFull M to_) = 0
    · rw [if_pos h2]
      exact (mz_hv_s (by decide)).trans (g_X0_walk_hv (mz_s M 32 (mz_ra 14 (M 32) d 1)) g to_)
    · rw [if_neg h2]
      exact mz_hv_s (by decide)
theorem g_X2_moveGuests_1_hv (M : mz_Mem) (i2 : Int32) (a3 : mz_Mem) : mz_hv a3 (g_X2_moveGuests_1 M i2 a3) := by
  unfold g_X2_moveGuests_1
  by_cases h1 : (g_X2_nextRoomOf a3 i2 (mz_rg 12 (a3 62) i2)) = (-1)
  · rw [if_pos h1]
    exact mz_hv_rf
  · rw [if_neg h1]
    by_cases h2 : (g_X2_nextRoomOf a3 i2 (mz_rg 12 (a3 62) i2)) = (mz_rg 12 (a3 62) i2)
    · rw [if_pos h2]
      exact mz_hv_rf
    · rw [if_neg h2]
      exact g_X2_moveGuest_hv a3 i2 (g_X2_nextRoomOf a3 i2 (mz_rg 12 (a3 62) i2)) (mz_gg 64 (a3 6 0) (a3 8) (mz_rg 12 (a3 62) i2) (g_X2_nextRoomOf a3 i2 (mz_rg 12 (a3 62) i2)))
theorem g_X2_moveGuests_hv (M : mz_Mem) : mz_hv M (g_X2_moveGuests M) := by
  unfold g_X2_moveGuests
  exact (mz_hv_s (by decide)).trans (mz_hv_frp (fun (a : mz_Mem) => a) (fun i a => g_X2_moveGuests_1_hv M i a))
theorem g_X2_beginLoop_hv (M : mz_Mem) : mz_hv M (g_X2_beginLoop M) := by
  unfold g_X2_beginLoop
  exact ((g_X8_restart_hv M ).trans (g_X5_goHome_hv (g_X8_restart M) )).trans (mz_hv_s (by decide))
def mz_hw (M M' : mz_Mem) : Prop := ∀ k, k ≠ 11 → k ≠ 14 → M' k = M k
theorem mz_hw_rf {M : mz_Mem} : mz_hw M M := fun _ _ _ => rfl
theorem mz_hw.trans {A B C : mz_Mem} (h : mz_hw A B) (g : mz_hw B C) : mz_hw A C := fun k h1 h2 => (g k h1 h2).trans (h k h1 h2)
theorem mz_hw_s {M : mz_Mem} {k : Nat} {f : Nat → Int32} (h : k = 11 ∨ k = 14) : mz_hw M (mz_s M k f) := fun j h1 h2 => mz_s_ne (by omega)
theorem mz_hw_frp {α : Type} (π : α → mz_Mem) {n : Int32} {F : Int32 → α → α} {a : α} (h : ∀ i a, mz_hw (π a) (π (F i a))) : mz_hw (π a) (π (mz_fr n F a)) :=
  mz_lp_ind F (fun x y => mz_hw (π x) (π y)) (fun _ => mz_hw_rf) (fun _ _ _ => mz_hw.trans) h _ _ _
theorem g_X4_shortenWay_hw (M : mz_Mem) (f : Int32) (t : Int32) (d : Int32) (b : Int32) : mz_hw M (g_X4_shortenWay M f t d b) := by
  unfold g_X4_shortenWay
  by_cases h1 : d = (-1)
  · rw [if_pos h1]
    exact mz_hw_rf
  · rw [if_neg h1]
    by_cases h2 : b = (-1)
    · rw [if_pos h2]
      exact mz_hw_rf
    · rw [if_neg h2]
      by_cases h3 : (mz_gg 64 (M 9 0) (M 11) f t) = (-1)
      · rw [if_pos h3]
        exact mz_hw_s (by decide)
      · rw [if_neg h3]
        by_cases h4 : (mz_gg 64 (M 9 0) (M 11) f t) ≤ ((d + 1) + b)
        · rw [if_pos h4]
          exact mz_hw_rf
        · rw [if_neg h4]
          exact mz_hw_s (by decide)
theorem g_X4_shortenWays_2_hw (M : mz_Mem) (one : Int32) (oth : Int32) (i2 : Int32) (a3 : mz_Mem) (i12 : Int32) (a13 : mz_Mem) : mz_hw a13 (g_X4_shortenWays_2 M one oth i2 a3 i12 a13) := by
  unfold g_X4_shortenWays_2
  exact (g_X4_shortenWay_hw a13 i2 i12 (mz_gg 64 (a13 9 0) (a13 11) i2 one) (mz_gg 64 (a13 9 0) (a13 11) oth i12)).trans (g_X4_shortenWay_hw (g_X4_shortenWay a13 i2 i12 (mz_gg 64 (a13 9 0) (a13 11) i2 one) (mz_gg 64 (a13 9 0) (a13 11) oth i12)) i2 i12 (mz_gg 64 ((g_X4_shortenWay a13 i2 i12 (mz_gg 64 (a13 9 0) (a13 11) i2 one) (mz_gg 64 (a13 9 0) (a13 11) oth i12)) 9 0) ((g_X4_shortenWay a13 i2 i12 (mz_gg 64 (a13 9 0) (a13 11) i2 one) (mz_gg 64 (a13 9 0) (a13 11) oth i12)) 11) i2 oth) (mz_gg 64 ((g_X4_shortenWay a13 i2 i12 (mz_gg 64 (a13 9 0) (a13 11) i2 one) (mz_gg 64 (a13 9 0) (a13 11) oth i12)) 9 0) ((g_X4_shortenWay a13 i2 i12 (mz_gg 64 (a13 9 0) (a13 11) i2 one) (mz_gg 64 (a13 9 0) (a13 11) oth i12)) 11) one i12))
theorem g_X4_shortenWays_1_hw (M : mz_Mem) (one : Int32) (oth : Int32) (i2 : Int32) (a3 : mz_Mem) : mz_hw a3 (g_X4_shortenWays_1 M one oth i2 a3) := by
  unfold g_X4_shortenWays_1
  exact mz_hw_frp (fun (a : mz_Mem) => a) (fun i a => g_X4_shortenWays_2_hw M one oth i2 a3 i a)
theorem g_X4_shortenWays_hw (M : mz_Mem) (one : Int32) (oth : Int32) : mz_hw M (g_X4_shortenWays M one oth) := by
  unfold g_X4_shortenWays
  exact mz_hw_frp (fun (a : mz_Mem) => a) (fun i a => g_X4_shortenWays_1_hw M one oth i a)
theorem g_X4_addDoor_2_hw (M : mz_Mem) (one : Int32) (oth : Int32) (w : Int32) (i2 : Int32) (a3 : mz_Mem) (i12 : Int32) (a13 : mz_Mem) : mz_hw a13 (g_X4_addDoor_2 M one oth w i2 a3 i12 a13) := by
  unfold g_X4_addDoor_2
  exact mz_hw_s (by decide)
theorem g_X4_addDoor_1_hw (M : mz_Mem) (one : Int32) (oth : Int32) (w : Int32) (i2 : Int32) (a3 : mz_Mem) : mz_hw a3 (g_X4_addDoor_1 M one oth w i2 a3) := by
  unfold g_X4_addDoor_1
  exact mz_hw_frp (fun (a : mz_Mem) => a) (fun i a => g_X4_addDoor_2_hw M one oth w i2 a3 i a)
/-! what is known stays below 4096; the minutes are counted -/
def mz_kb (M : mz_Mem) : Prop := ∀ j, 0 ≤ M 68 j ∧ M 68 j < 4096
theorem mz_kb.eq {M N : mz_Mem} (h : mz_kb M) (e : N 68 = M 68) : mz_kb N := fun j => by rw [e]; exact h j
theorem mz_b12 {x : Int32} : (0 ≤ x ∧ x < 4096) ↔ x.toBitVec.toNat < 4096 := by
  rw [Int32.le_iff_toInt_le, Int32.lt_iff_toInt_lt]
  have e : x.toInt = x.toBitVec.toInt := rfl
  have e2 : (4096 : Int32).toInt = 4096 := by decide
  have e3 : (0 : Int32).toInt = 0 := by decide
  rw [e, e2, e3, BitVec.toInt_eq_toNat_cond]
  have := x.toBitVec.isLt
  split <;> omega
theorem mz_or12 {x : Int32} {j : Nat} (h : 0 ≤ x ∧ x < 4096) (hj : j < 12) : 0 ≤ x ||| ((1 : Int32) <<< (nI j &&& 31)) ∧ x ||| ((1 : Int32) <<< (nI j &&& 31)) < 4096 := by
  rw [mz_b12] at h ⊢
  rw [Int32.toBitVec_or, BitVec.toNat_or]
  have hc : ∀ j, j < 12 → ((1 : Int32) <<< (nI j &&& 31)).toBitVec.toNat < 4096 := by decide
  exact Nat.or_lt_two_pow (n := 12) h (hc j hj)
theorem mz_lp_indj {α : Type} (F : Int32 → α → α) (I : α → Prop) (n : Nat) (h : ∀ j a, j < n → I a → I (F (nI j) a)) : ∀ (r j : Nat) (a : α), j + r ≤ n → I a → I (mz_lp F j r a)
  | 0, _, _, _, ha => ha
  | r + 1, j, a, hj, ha => mz_lp_indj F I n h r (j + 1) _ (by omega) (h j a (by omega) ha)
theorem g_X0_see_kb {M : mz_Mem} {g m : Int32} {j : Nat} (hj : j < 12) (h : mz_kb M) : mz_kb (g_X0_see M g (nI j) m) := by
  unfold g_X0_see
  split
  · exact h.eq (mz_s_ne (by decide))
  · intro q
    rw [mz_s_eq, mz_s_ne (by decide)]
    unfold mz_rs mz_rg
    by_cases h1 : g < 0
    · rw [if_pos h1]; exact h q
    · rw [if_neg h1]
      by_cases h2 : Int32.ofNat 12 ≤ g
      · rw [if_pos h2]; exact h q
      · rw [if_neg h2, if_neg h1, if_neg h2]
        by_cases h3 : q = g.toNatClampNeg
        · subst h3
          rw [mz_upd_eq]
          exact mz_or12 (h _) hj
        · have e : ∀ (f : Nat → Int32) (x : Int32), upd f g.toNatClampNeg x q = f q := fun f x => by simp [upd, h3]
          rw [e]
          exact h q
theorem g_X2_showScene_kb {M : mz_Mem} {j : Nat} (hj : j < 12) (h : mz_kb M) : mz_kb (g_X2_showScene M (nI j)) := by
  unfold g_X2_showScene
  refine mz_lp_ind (g_X2_showScene_1 M (nI j)) (fun x y => mz_kb x.2 → mz_kb y.2) (fun _ h => h) (fun _ _ _ h1 h2 h => h2 (h1 h)) (fun i a ha => ?_) _ _ _ h
  unfold g_X2_showScene_1
  split
  · exact ha
  · split
    · exact g_X0_see_kb hj ha
    · exact ha
theorem g_X2_showScenes_kb {M : mz_Mem} (hn : mz_n (M 15 2) ≤ 12) (h : mz_kb M) : mz_kb (g_X2_showScenes M) := by
  unfold g_X2_showScenes mz_fr
  refine mz_lp_indj (g_X2_showScenes_1 M) mz_kb (mz_n (M 15 2)) (fun j a hj ha => ?_) _ _ _ (by omega) h
  unfold g_X2_showScenes_1
  split
  · exact ha
  · exact g_X2_showScene_kb (by omega) ha
theorem mz_st1_hs (a : mz_Mem) : mz_hs a (mz_st1 a) := g_X2_run_1_hs a 0 0 a
theorem mz_st1_hr (a : mz_Mem) : mz_hr a (mz_st1 a) := g_X2_run_1_hr a 0 0 a
theorem mz_st1_kb {a : mz_Mem} (hn : mz_n (a 15 2) ≤ 12) (h : mz_kb a) : mz_kb (mz_st1 a) := by
  unfold mz_st1 g_X2_run_1
  have key : ∀ b : mz_Mem, mz_hs a b → b 68 = a 68 → mz_kb (g_X2_showScenes (g_X2_moveGuests (g_X2_performScenes (g_X2_moveTracks b)))) := fun b hb he => by
    refine g_X2_showScenes_kb ?_ (h.eq ?_)
    · have := ((hb.trans (g_X2_moveTracks_hs b)).trans (g_X2_performScenes_hs _)).trans (g_X2_moveGuests_hs _) 15 (by decide)
      rw [this]; exact hn
    · rw [g_X2_moveGuests_hv _ 68 rfl, g_X2_performScenes_hv _ 68 rfl, g_X2_moveTracks_hv _ 68 rfl]
      exact he
  split
  · exact key _ ((mz_hs_s (by decide)).trans (g_X2_beginLoop_hs _)) ((g_X2_beginLoop_hv _ 68 rfl).trans (mz_s_ne (by decide)))
  · exact key _ (mz_hs_s (by decide)) (mz_s_ne (by decide))
theorem mz_st1_30 (a : mz_Mem) : mz_st1 a 30 7 = a 30 7 + 1 := by
  unfold mz_st1 g_X2_run_1
  have key : ∀ b : mz_Mem, (g_X2_showScenes (g_X2_moveGuests (g_X2_performScenes (g_X2_moveTracks b)))) 30 = b 30 := fun b => by
    rw [g_X2_showScenes_ht _ 30 rfl, g_X2_moveGuests_ht _ 30 rfl, g_X2_performScenes_ht _ 30 rfl, g_X2_moveTracks_ht _ 30 rfl]
  split
  · rw [key, g_X2_beginLoop_ht _ 30 rfl, mz_s_eq, mz_upd_eq]
  · rw [key, mz_s_eq, mz_upd_eq]
theorem mz_its_hs : ∀ (r : Nat) (a : mz_Mem), mz_hs a (mz_its r a)
  | 0, _ => mz_hs_rf
  | r + 1, a => (mz_st1_hs a).trans (mz_its_hs r _)
theorem mz_its_hr : ∀ (r : Nat) (a : mz_Mem), mz_hr a (mz_its r a)
  | 0, _ => mz_hr_rf
  | r + 1, a => (mz_st1_hr a).trans (mz_its_hr r _)
theorem mz_its_kb : ∀ (r : Nat) (a : mz_Mem), mz_n (a 15 2) ≤ 12 → mz_kb a → mz_kb (mz_its r a)
  | 0, _, _, h => h
  | r + 1, a, hn, h => mz_its_kb r _ (by rw [mz_st1_hs a 15 (by decide)]; exact hn) (mz_st1_kb hn h)
theorem mz_its_30 : ∀ (r : Nat) (a : mz_Mem), mz_its r a 30 7 = a 30 7 + Int32.ofNat r
  | 0, a => by show a 30 7 = a 30 7 + 0; rw [Int32.add_zero]
  | r + 1, a => by
    show mz_its r (mz_st1 a) 30 7 = _
    rw [mz_its_30 r, mz_st1_30, Int32.ofNat_add, Int32.add_assoc, Int32.add_comm 1]
    rfl
