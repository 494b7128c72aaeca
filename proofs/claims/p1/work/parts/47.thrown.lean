set_option maxHeartbeats 4000000 in
theorem t_checkRoom (l : Launch) (hl0 : l.stackTraces = false) (D : va_G) (cA : Nat → ClassId) (x : Nat) (r : Int32) : mz_TC l D vwCl cA yX9_checkRoom cX9_checkRoom 2 none 6 90 [.ref x, .int r] (mz_H D vwCl cA (fun k => x + k) mz_lay2 mz_m7) mz_IO := by
  refine mz_introT (ρ := (fun k => x + k)) (As0 := [.ref 0, .int r]) hl0 (by decide +kernel) (Nat.le_of_ble_eq_true rfl) rfl (fun Γ C hO E => ?_)
  refine mz_goP (lay := mz_lay2) (M := mz_m7) (cA := cA) (D := D) (cl := vwCl) (fun H h => h) FLX9 KLX9 C [(0, .iload_n 1)] (by decide +kernel) (pc' := 1) (L' := [(0, .ref 0), (1, .int r)]) (st' := [.int r]) rfl ?_
  have thr : mz_W Γ (fun k => x + k) 2 0 0 (mz_H D vwCl cA (fun k => x + k) mz_lay2 mz_m7) 15 [(0, .ref 0), (1, .int r)] [] := by
    exact mz_throwSW (is := 426) (text := "no such ROOM") C E mz_xw_io (by decide +kernel) mz_fitN (mz_in 559 (by decide +kernel) (by decide +kernel)) (mz_in 78 (by decide +kernel) (by decide +kernel)) (by decide +kernel) (by decide +kernel) (by decide +kernel) (by decide +kernel) (by decide +kernel) (by decide +kernel) (by decide) (by decide) ⟨rfl, rfl⟩
  refine mz_zlt (off := 14) (tgt := 15) C (by decide +kernel) (by decide) (fun _ => thr) (fun h => ?_)
  refine mz_goP (lay := mz_lay2) (M := mz_m7) (cA := cA) (D := D) (cl := vwCl) (fun H h => h) FLX9 KLX9 C [(4, .iload_n 1), (5, .aload_n 0), (6, .getfield 10), (9, .getfield 42)] (by decide +kernel) (pc' := 12) (L' := [(0, .ref 0), (1, .int r)]) (st' := [.int 0, .int r]) rfl ?_
  refine mz_ilt (off := 14) (tgt := 26) C (by decide +kernel) (by decide) (fun q => absurd q h) (fun _ => thr)
set_option maxHeartbeats 4000000 in
theorem t_checkTrack (l : Launch) (hl0 : l.stackTraces = false) (D : va_G) (cA : Nat → ClassId) (x : Nat) (r : Int32) : mz_TC l D vwCl cA yX9_checkTrack cX9_checkTrack 2 none 6 90 [.ref x, .int r] (mz_H D vwCl cA (fun k => x + k) mz_lay2 mz_m7) mz_IO := by
  refine mz_introT (ρ := (fun k => x + k)) (As0 := [.ref 0, .int r]) hl0 (by decide +kernel) (Nat.le_of_ble_eq_true rfl) rfl (fun Γ C hO E => ?_)
  refine mz_goP (lay := mz_lay2) (M := mz_m7) (cA := cA) (D := D) (cl := vwCl) (fun H h => h) FLX9 KLX9 C [(0, .iload_n 1)] (by decide +kernel) (pc' := 1) (L' := [(0, .ref 0), (1, .int r)]) (st' := [.int r]) rfl ?_
  have thr : mz_W Γ (fun k => x + k) 2 0 0 (mz_H D vwCl cA (fun k => x + k) mz_lay2 mz_m7) 15 [(0, .ref 0), (1, .int r)] [] := by
    exact mz_throwSW (is := 429) (text := "no such TRACK") C E mz_xw_io (by decide +kernel) mz_fitN (mz_in 559 (by decide +kernel) (by decide +kernel)) (mz_in 78 (by decide +kernel) (by decide +kernel)) (by decide +kernel) (by decide +kernel) (by decide +kernel) (by decide +kernel) (by decide +kernel) (by decide +kernel) (by decide) (by decide) ⟨rfl, rfl⟩
  refine mz_zlt (off := 14) (tgt := 15) C (by decide +kernel) (by decide) (fun _ => thr) (fun h => ?_)
  refine mz_goP (lay := mz_lay2) (M := mz_m7) (cA := cA) (D := D) (cl := vwCl) (fun H h => h) FLX9 KLX9 C [(4, .iload_n 1), (5, .aload_n 0), (6, .getfield 19), (9, .getfield 80)] (by decide +kernel) (pc' := 12) (L' := [(0, .ref 0), (1, .int r)]) (st' := [.int 0, .int r]) rfl ?_
  refine mz_ilt (off := 14) (tgt := 26) C (by decide +kernel) (by decide) (fun q => absurd q h) (fun _ => thr)
set_option maxHeartbeats 4000000 in
theorem t_checkProp (l : Launch) (hl0 : l.stackTraces = false) (D : va_G) (cA : Nat → ClassId) (x : Nat) (r : Int32) : mz_TC l D vwCl cA yX9_checkProp cX9_checkProp 2 none 6 90 [.ref x, .int r] (mz_H D vwCl cA (fun k => x + k) mz_lay2 mz_m7) mz_IO := by
  refine mz_introT (ρ := (fun k => x + k)) (As0 := [.ref 0, .int r]) hl0 (by decide +kernel) (Nat.le_of_ble_eq_true rfl) rfl (fun Γ C hO E => ?_)
  refine mz_goP (lay := mz_lay2) (M := mz_m7) (cA := cA) (D := D) (cl := vwCl) (fun H h => h) FLX9 KLX9 C [(0, .iload_n 1)] (by decide +kernel) (pc' := 1) (L' := [(0, .ref 0), (1, .int r)]) (st' := [.int r]) rfl ?_
  have thr : mz_W Γ (fun k => x + k) 2 0 0 (mz_H D vwCl cA (fun k => x + k) mz_lay2 mz_m7) 15 [(0, .ref 0), (1, .int r)] [] := by
    exact mz_throwSW (is := 431) (text := "no such PROP") C E mz_xw_io (by decide +kernel) mz_fitN (mz_in 559 (by decide +kernel) (by decide +kernel)) (mz_in 78 (by decide +kernel) (by decide +kernel)) (by decide +kernel) (by decide +kernel) (by decide +kernel) (by decide +kernel) (by decide +kernel) (by decide +kernel) (by decide) (by decide) ⟨rfl, rfl⟩
  refine mz_zlt (off := 14) (tgt := 15) C (by decide +kernel) (by decide) (fun _ => thr) (fun h => ?_)
  refine mz_goP (lay := mz_lay2) (M := mz_m7) (cA := cA) (D := D) (cl := vwCl) (fun H h => h) FLX9 KLX9 C [(4, .iload_n 1), (5, .aload_n 0), (6, .getfield 19), (9, .getfield 98)] (by decide +kernel) (pc' := 12) (L' := [(0, .ref 0), (1, .int r)]) (st' := [.int 0, .int r]) rfl ?_
  refine mz_ilt (off := 14) (tgt := 26) C (by decide +kernel) (by decide) (fun q => absurd q h) (fun _ => thr)
set_option maxHeartbeats 4000000 in
theorem t_checkScene (l : Launch) (hl0 : l.stackTraces = false) (D : va_G) (cA : Nat → ClassId) (x : Nat) (r : Int32) : mz_TC l D vwCl cA yX9_checkScene cX9_checkScene 2 none 6 90 [.ref x, .int r] (mz_H D vwCl cA (fun k => x + k) mz_lay2 mz_m7) mz_IO := by
  refine mz_introT (ρ := (fun k => x + k)) (As0 := [.ref 0, .int r]) hl0 (by decide +kernel) (Nat.le_of_ble_eq_true rfl) rfl (fun Γ C hO E => ?_)
  refine mz_goP (lay := mz_lay2) (M := mz_m7) (cA := cA) (D := D) (cl := vwCl) (fun H h => h) FLX9 KLX9 C [(0, .iload_n 1)] (by decide +kernel) (pc' := 1) (L' := [(0, .ref 0), (1, .int r)]) (st' := [.int r]) rfl ?_
  have thr : mz_W Γ (fun k => x + k) 2 0 0 (mz_H D vwCl cA (fun k => x + k) mz_lay2 mz_m7) 15 [(0, .ref 0), (1, .int r)] [] := by
    exact mz_throwSW (is := 433) (text := "no such SCENE") C E mz_xw_io (by decide +kernel) mz_fitN (mz_in 559 (by decide +kernel) (by decide +kernel)) (mz_in 78 (by decide +kernel) (by decide +kernel)) (by decide +kernel) (by decide +kernel) (by decide +kernel) (by decide +kernel) (by decide +kernel) (by decide +kernel) (by decide) (by decide) ⟨rfl, rfl⟩
  refine mz_zlt (off := 14) (tgt := 15) C (by decide +kernel) (by decide) (fun _ => thr) (fun h => ?_)
  refine mz_goP (lay := mz_lay2) (M := mz_m7) (cA := cA) (D := D) (cl := vwCl) (fun H h => h) FLX9 KLX9 C [(4, .iload_n 1), (5, .aload_n 0), (6, .getfield 19), (9, .getfield 129)] (by decide +kernel) (pc' := 12) (L' := [(0, .ref 0), (1, .int r)]) (st' := [.int 0, .int r]) rfl ?_
  refine mz_ilt (off := 14) (tgt := 26) C (by decide +kernel) (by decide) (fun q => absurd q h) (fun _ => thr)
set_option maxHeartbeats 4000000 in
theorem t_checkGuest (l : Launch) (hl0 : l.stackTraces = false) (D : va_G) (cA : Nat → ClassId) (x : Nat) (r : Int32) : mz_TC l D vwCl cA yX9_checkGuest cX9_checkGuest 2 none 6 90 [.ref x, .int r] (mz_H D vwCl cA (fun k => x + k) mz_lay2 mz_m7) mz_IO := by
  refine mz_introT (ρ := (fun k => x + k)) (As0 := [.ref 0, .int r]) hl0 (by decide +kernel) (Nat.le_of_ble_eq_true rfl) rfl (fun Γ C hO E => ?_)
  refine mz_goP (lay := mz_lay2) (M := mz_m7) (cA := cA) (D := D) (cl := vwCl) (fun H h => h) FLX9 KLX9 C [(0, .iload_n 1)] (by decide +kernel) (pc' := 1) (L' := [(0, .ref 0), (1, .int r)]) (st' := [.int r]) rfl ?_
  have thr : mz_W Γ (fun k => x + k) 2 0 0 (mz_H D vwCl cA (fun k => x + k) mz_lay2 mz_m7) 18 [(0, .ref 0), (1, .int r)] [] := by
    exact mz_throwSW (is := 435) (text := "no such GUEST") C E mz_xw_io (by decide +kernel) mz_fitN (mz_in 559 (by decide +kernel) (by decide +kernel)) (mz_in 78 (by decide +kernel) (by decide +kernel)) (by decide +kernel) (by decide +kernel) (by decide +kernel) (by decide +kernel) (by decide +kernel) (by decide +kernel) (by decide) (by decide) ⟨rfl, rfl⟩
  refine mz_zlt (off := 17) (tgt := 18) C (by decide +kernel) (by decide) (fun _ => thr) (fun h => ?_)
  refine mz_goP (lay := mz_lay2) (M := mz_m7) (cA := cA) (D := D) (cl := vwCl) (fun H h => h) FLX9 KLX9 C [(4, .iload_n 1), (5, .aload_n 0), (6, .getfield 28), (9, .getfield 146), (12, .getfield 150)] (by decide +kernel) (pc' := 15) (L' := [(0, .ref 0), (1, .int r)]) (st' := [.int 0, .int r]) rfl ?_
  refine mz_ilt (off := 14) (tgt := 29) C (by decide +kernel) (by decide) (fun q => absurd q h) (fun _ => thr)
set_option maxHeartbeats 4000000 in
theorem t_checkWhat (l : Launch) (hl0 : l.stackTraces = false) (D : va_G) (cA : Nat → ClassId) (w mx : Int32) (h : ¬ (0 ≤ w ∧ w ≤ mx)) : mz_TC l D vwCl cA yX9_checkWhat cX9_checkWhat 2 none 6 90 [.int w, .int mx] (fun _ => True) mz_IA := by
  refine mz_introT (ρ := (fun k => k)) (As0 := [.int w, .int mx]) hl0 (by decide +kernel) (Nat.le_of_ble_eq_true rfl) rfl (fun Γ C hO E => ?_)
  refine mz_goP (lay := (fun _ => none)) (M := mz_Z) (cA := cA) (D := D) (cl := vwCl) (fun H h => mz_Hnone) FLX9 KLX9 C [(0, .iload_n 0)] (by decide +kernel) (pc' := 1) (L' := [(0, .int w), (1, .int mx)]) (st' := [.int w]) rfl ?_
  have thr : mz_W Γ (fun k => k) 2 0 0 (fun _ => True) 9 [(0, .int w), (1, .int mx)] [] := by
    exact mz_throwSW (is := 437) (text := "nothing has this number to be asked by") C E mz_xw_ia (by decide +kernel) mz_fitN (mz_in 461 (by decide +kernel) (by decide +kernel)) (mz_in 75 (by decide +kernel) (by decide +kernel)) (by decide +kernel) (by decide +kernel) (by decide +kernel) (by decide +kernel) (by decide +kernel) (by decide +kernel) (by decide) (by decide) ⟨rfl, rfl⟩
  refine mz_zlt (off := 8) (tgt := 9) C (by decide +kernel) (by decide) (fun _ => thr) (fun q1 => ?_)
  refine mz_goP (lay := (fun _ => none)) (M := mz_Z) (cA := cA) (D := D) (cl := vwCl) (fun H h => mz_Hnone) FLX9 KLX9 C [(4, .iload_n 0), (5, .iload_n 1)] (by decide +kernel) (pc' := 6) (L' := [(0, .int w), (1, .int mx)]) (st' := [.int mx, .int w]) rfl ?_
  refine mz_ile (off := 14) (tgt := 20) C (by decide +kernel) (by decide) (fun q2 => absurd ⟨Int32.not_lt.mp q1, q2⟩ h) (fun _ => thr)
set_option maxHeartbeats 4000000 in
theorem t_checkMinutes (l : Launch) (hl0 : l.stackTraces = false) (D : va_G) (cA : Nat → ClassId) (w mx : Int32) (h : ¬ (1 ≤ w ∧ w ≤ mx)) : mz_TC l D vwCl cA yX9_checkMinutes cX9_checkMinutes 2 none 6 90 [.int w, .int mx] (fun _ => True) mz_IA := by
  refine mz_introT (ρ := (fun k => k)) (As0 := [.int w, .int mx]) hl0 (by decide +kernel) (Nat.le_of_ble_eq_true rfl) rfl (fun Γ C hO E => ?_)
  refine mz_goP (lay := (fun _ => none)) (M := mz_Z) (cA := cA) (D := D) (cl := vwCl) (fun H h => mz_Hnone) FLX9 KLX9 C [(0, .iload_n 0), (1, .iconst 1)] (by decide +kernel) (pc' := 2) (L' := [(0, .int w), (1, .int mx)]) (st' := [.int 1, .int w]) rfl ?_
  have thr : mz_W Γ (fun k => k) 2 0 0 (fun _ => True) 10 [(0, .int w), (1, .int mx)] [] := by
    exact mz_throwSW (is := 439) (text := "too few or too many minutes") C E mz_xw_ia (by decide +kernel) mz_fitN (mz_in 461 (by decide +kernel) (by decide +kernel)) (mz_in 75 (by decide +kernel) (by decide +kernel)) (by decide +kernel) (by decide +kernel) (by decide +kernel) (by decide +kernel) (by decide +kernel) (by decide +kernel) (by decide) (by decide) ⟨rfl, rfl⟩
  refine mz_ilt (off := 8) (tgt := 10) C (by decide +kernel) (by decide) (fun _ => thr) (fun q1 => ?_)
  refine mz_goP (lay := (fun _ => none)) (M := mz_Z) (cA := cA) (D := D) (cl := vwCl) (fun H h => mz_Hnone) FLX9 KLX9 C [(5, .iload_n 0), (6, .iload_n 1)] (by decide +kernel) (pc' := 7) (L' := [(0, .int w), (1, .int mx)]) (st' := [.int mx, .int w]) rfl ?_
  refine mz_ile (off := 14) (tgt := 21) C (by decide +kernel) (by decide) (fun q2 => absurd ⟨Int32.not_lt.mp q1, q2⟩ h) (fun _ => thr)
set_option maxHeartbeats 4000000 in
theorem t_room (l : Launch) (hl0 : l.stackTraces = false) (D : va_G) (cA : Nat → ClassId) (x : Nat) (a : Int32) (h : ¬ (1 ≤ a ∧ a ≤ 30)) : mz_TC l D vwCl cA yX9_room cX9_room 2 (some .int) 6 90 [.ref x, .int a] (mz_H D vwCl cA (fun k => x + k) mz_lay2 mz_m7) mz_IA := by
  refine mz_introT (ρ := (fun k => x + k)) (As0 := [.ref 0, .int a]) hl0 (by decide +kernel) (Nat.le_of_ble_eq_true rfl) rfl (fun Γ C hO E => ?_)
  refine mz_goP (lay := mz_lay2) (M := mz_m7) (cA := cA) (D := D) (cl := vwCl) (fun H h => h) FLX9 KLX9 C [(0, .iload_n 1), (1, .iconst 1)] (by decide +kernel) (pc' := 2) (L' := [(0, .ref 0), (1, .int a)]) (st' := [.int 1, .int a]) rfl ?_
  have thr : mz_W Γ (fun k => x + k) 2 0 0 (mz_H D vwCl cA (fun k => x + k) mz_lay2 mz_m7) 11 [(0, .ref 0), (1, .int a)] [] := by
    exact mz_throwS (is := 37) (text := "a CAPACITY is 1 to 30") C E mz_xw_ia (by decide +kernel) mz_fitN (mz_in 461 (by decide +kernel) (by decide +kernel)) (mz_in 75 (by decide +kernel) (by decide +kernel)) (by decide +kernel) (by decide +kernel) (by decide +kernel) (by decide +kernel) (by decide +kernel) (by decide +kernel) (by decide) (by decide) ⟨rfl, rfl⟩
  refine mz_ilt (off := 9) (tgt := 11) C (by decide +kernel) (by decide) (fun _ => thr) (fun q1 => ?_)
  refine mz_goP (lay := mz_lay2) (M := mz_m7) (cA := cA) (D := D) (cl := vwCl) (fun H h => h) FLX9 KLX9 C [(5, .iload_n 1), (6, .bipush 30)] (by decide +kernel) (pc' := 8) (L' := [(0, .ref 0), (1, .int a)]) (st' := [.int 30, .int a]) rfl ?_
  refine mz_ile (off := 13) (tgt := 21) C (by decide +kernel) (by decide) (fun q2 => absurd ⟨Int32.not_lt.mp q1, q2⟩ h) (fun _ => thr)
set_option maxHeartbeats 4000000 in
theorem t_door (l : Launch) (hl0 : l.stackTraces = false) (D : va_G) (cA : Nat → ClassId) (x : Nat) (a b e : Int32)  : mz_TC l D vwCl cA yX9_door cX9_door 4 (some .int) 7 111 [.ref x, .int a, .int b, .int e] (mz_H D vwCl cA (fun k => x + k) mz_lay2 mz_m7) mz_IO := by
  refine mz_introT (ρ := (fun k => x + k)) (As0 := [.ref 0, .int a, .int b, .int e]) hl0 (by decide +kernel) (Nat.le_of_ble_eq_true rfl) rfl (fun Γ C hO E => ?_)
  refine mz_goP (lay := mz_lay2) (M := mz_m7) (cA := cA) (D := D) (cl := vwCl) (fun H h => h) FLX9 KLX9 C [(0, .aload_n 0), (1, .iload_n 1)] (by decide +kernel) (pc' := 2) (L' := [(0, .ref 0), (1, .int a), (2, .int b), (3, .int e)]) (st' := [.int a, .ref 0]) rfl ?_
  exact mz_callT (As := [.int a]) (rest := []) (ci := 9) (index := 55) (T := TX9) (N := 4) C hO E (t_checkRoom l hl0 D cA x a) (fun H h => h) (fun H h => ⟨_, h 0 _ rfl⟩) hy_X9_checkRoom wl_X9_55 rfl rfl ⟨Nat.le_of_ble_eq_true rfl, Nat.le_of_ble_eq_true rfl⟩ ⟨rfl, rfl⟩ (Nat.le_of_ble_eq_true rfl) (by decide +kernel) rfl
set_option maxHeartbeats 4000000 in
theorem t_track (l : Launch) (hl0 : l.stackTraces = false) (D : va_G) (cA : Nat → ClassId) (x : Nat) (a : Int32)  : mz_TC l D vwCl cA yX9_track cX9_track 3 (some .int) 7 111 [.ref x, .int a] (mz_H D vwCl cA (fun k => x + k) mz_lay2 mz_m7) mz_IO := by
  refine mz_introT (ρ := (fun k => x + k)) (As0 := [.ref 0, .int a]) hl0 (by decide +kernel) (Nat.le_of_ble_eq_true rfl) rfl (fun Γ C hO E => ?_)
  refine mz_goP (lay := mz_lay2) (M := mz_m7) (cA := cA) (D := D) (cl := vwCl) (fun H h => h) FLX9 KLX9 C [(0, .aload_n 0), (1, .iload_n 1)] (by decide +kernel) (pc' := 2) (L' := [(0, .ref 0), (1, .int a)]) (st' := [.int a, .ref 0]) rfl ?_
  exact mz_callT (As := [.int a]) (rest := []) (ci := 9) (index := 55) (T := TX9) (N := 4) C hO E (t_checkRoom l hl0 D cA x a) (fun H h => h) (fun H h => ⟨_, h 0 _ rfl⟩) hy_X9_checkRoom wl_X9_55 rfl rfl ⟨Nat.le_of_ble_eq_true rfl, Nat.le_of_ble_eq_true rfl⟩ ⟨rfl, rfl⟩ (Nat.le_of_ble_eq_true rfl) (by decide +kernel) rfl
set_option maxHeartbeats 4000000 in
theorem t_prop (l : Launch) (hl0 : l.stackTraces = false) (D : va_G) (cA : Nat → ClassId) (x : Nat) (a : Int32)  : mz_TC l D vwCl cA yX9_prop cX9_prop 3 (some .int) 7 111 [.ref x, .int a] (mz_H D vwCl cA (fun k => x + k) mz_lay2 mz_m7) mz_IO := by
  refine mz_introT (ρ := (fun k => x + k)) (As0 := [.ref 0, .int a]) hl0 (by decide +kernel) (Nat.le_of_ble_eq_true rfl) rfl (fun Γ C hO E => ?_)
  refine mz_goP (lay := mz_lay2) (M := mz_m7) (cA := cA) (D := D) (cl := vwCl) (fun H h => h) FLX9 KLX9 C [(0, .aload_n 0), (1, .iload_n 1)] (by decide +kernel) (pc' := 2) (L' := [(0, .ref 0), (1, .int a)]) (st' := [.int a, .ref 0]) rfl ?_
  exact mz_callT (As := [.int a]) (rest := []) (ci := 9) (index := 55) (T := TX9) (N := 4) C hO E (t_checkRoom l hl0 D cA x a) (fun H h => h) (fun H h => ⟨_, h 0 _ rfl⟩) hy_X9_checkRoom wl_X9_55 rfl rfl ⟨Nat.le_of_ble_eq_true rfl, Nat.le_of_ble_eq_true rfl⟩ ⟨rfl, rfl⟩ (Nat.le_of_ble_eq_true rfl) (by decide +kernel) rfl
set_option maxHeartbeats 4000000 in
theorem t_scene (l : Launch) (hl0 : l.stackTraces = false) (D : va_G) (cA : Nat → ClassId) (x : Nat) (a b e f g : Int32)  : mz_TC l D vwCl cA yX9_scene cX9_scene 6 (some .int) 7 111 [.ref x, .int a, .int b, .int e, .int f, .int g] (mz_H D vwCl cA (fun k => x + k) mz_lay2 mz_m7) mz_IO := by
  refine mz_introT (ρ := (fun k => x + k)) (As0 := [.ref 0, .int a, .int b, .int e, .int f, .int g]) hl0 (by decide +kernel) (Nat.le_of_ble_eq_true rfl) rfl (fun Γ C hO E => ?_)
  refine mz_goP (lay := mz_lay2) (M := mz_m7) (cA := cA) (D := D) (cl := vwCl) (fun H h => h) FLX9 KLX9 C [(0, .aload_n 0), (1, .iload_n 1)] (by decide +kernel) (pc' := 2) (L' := [(0, .ref 0), (1, .int a), (2, .int b), (3, .int e), (4, .int f), (5, .int g)]) (st' := [.int a, .ref 0]) rfl ?_
  exact mz_callT (As := [.int a]) (rest := []) (ci := 9) (index := 55) (T := TX9) (N := 4) C hO E (t_checkRoom l hl0 D cA x a) (fun H h => h) (fun H h => ⟨_, h 0 _ rfl⟩) hy_X9_checkRoom wl_X9_55 rfl rfl ⟨Nat.le_of_ble_eq_true rfl, Nat.le_of_ble_eq_true rfl⟩ ⟨rfl, rfl⟩ (Nat.le_of_ble_eq_true rfl) (by decide +kernel) rfl
set_option maxHeartbeats 4000000 in
theorem t_guest (l : Launch) (hl0 : l.stackTraces = false) (D : va_G) (cA : Nat → ClassId) (x : Nat) (a : Int32)  : mz_TC l D vwCl cA yX9_guest cX9_guest 2 (some .int) 7 111 [.ref x, .int a] (mz_H D vwCl cA (fun k => x + k) mz_lay2 mz_m7) mz_IO := by
  refine mz_introT (ρ := (fun k => x + k)) (As0 := [.ref 0, .int a]) hl0 (by decide +kernel) (Nat.le_of_ble_eq_true rfl) rfl (fun Γ C hO E => ?_)
  refine mz_goP (lay := mz_lay2) (M := mz_m7) (cA := cA) (D := D) (cl := vwCl) (fun H h => h) FLX9 KLX9 C [(0, .aload_n 0), (1, .iload_n 1)] (by decide +kernel) (pc' := 2) (L' := [(0, .ref 0), (1, .int a)]) (st' := [.int a, .ref 0]) rfl ?_
  exact mz_callT (As := [.int a]) (rest := []) (ci := 9) (index := 55) (T := TX9) (N := 4) C hO E (t_checkRoom l hl0 D cA x a) (fun H h => h) (fun H h => ⟨_, h 0 _ rfl⟩) hy_X9_checkRoom wl_X9_55 rfl rfl ⟨Nat.le_of_ble_eq_true rfl, Nat.le_of_ble_eq_true rfl⟩ ⟨rfl, rfl⟩ (Nat.le_of_ble_eq_true rfl) (by decide +kernel) rfl
set_option maxHeartbeats 4000000 in
theorem t_habit (l : Launch) (hl0 : l.stackTraces = false) (D : va_G) (cA : Nat → ClassId) (x : Nat) (a b e : Int32)  : mz_TC l D vwCl cA yX9_habit cX9_habit 5 (some .int) 7 111 [.ref x, .int a, .int b, .int e] (mz_H D vwCl cA (fun k => x + k) mz_lay2 mz_m7) mz_IO := by
  refine mz_introT (ρ := (fun k => x + k)) (As0 := [.ref 0, .int a, .int b, .int e]) hl0 (by decide +kernel) (Nat.le_of_ble_eq_true rfl) rfl (fun Γ C hO E => ?_)
  refine mz_goP (lay := mz_lay2) (M := mz_m7) (cA := cA) (D := D) (cl := vwCl) (fun H h => h) FLX9 KLX9 C [(0, .aload_n 0), (1, .iload_n 1)] (by decide +kernel) (pc' := 2) (L' := [(0, .ref 0), (1, .int a), (2, .int b), (3, .int e)]) (st' := [.int a, .ref 0]) rfl ?_
  exact mz_callT (As := [.int a]) (rest := []) (ci := 9) (index := 162) (T := TX9) (N := 4) C hO E (t_checkGuest l hl0 D cA x a) (fun H h => h) (fun H h => ⟨_, h 0 _ rfl⟩) hy_X9_checkGuest wl_X9_162 rfl rfl ⟨Nat.le_of_ble_eq_true rfl, Nat.le_of_ble_eq_true rfl⟩ ⟨rfl, rfl⟩ (Nat.le_of_ble_eq_true rfl) (by decide +kernel) rfl
set_option maxHeartbeats 4000000 in
theorem t_take (l : Launch) (hl0 : l.stackTraces = false) (D : va_G) (cA : Nat → ClassId) (x : Nat) (a b : Int32)  : mz_TC l D vwCl cA yX9_take cX9_take 3 (some .int) 7 111 [.ref x, .int a, .int b] (mz_H D vwCl cA (fun k => x + k) mz_lay2 mz_m7) mz_IO := by
  refine mz_introT (ρ := (fun k => x + k)) (As0 := [.ref 0, .int a, .int b]) hl0 (by decide +kernel) (Nat.le_of_ble_eq_true rfl) rfl (fun Γ C hO E => ?_)
  refine mz_goP (lay := mz_lay2) (M := mz_m7) (cA := cA) (D := D) (cl := vwCl) (fun H h => h) FLX9 KLX9 C [(0, .aload_n 0), (1, .iload_n 1)] (by decide +kernel) (pc' := 2) (L' := [(0, .ref 0), (1, .int a), (2, .int b)]) (st' := [.int a, .ref 0]) rfl ?_
  exact mz_callT (As := [.int a]) (rest := []) (ci := 9) (index := 162) (T := TX9) (N := 4) C hO E (t_checkGuest l hl0 D cA x a) (fun H h => h) (fun H h => ⟨_, h 0 _ rfl⟩) hy_X9_checkGuest wl_X9_162 rfl rfl ⟨Nat.le_of_ble_eq_true rfl, Nat.le_of_ble_eq_true rfl⟩ ⟨rfl, rfl⟩ (Nat.le_of_ble_eq_true rfl) (by decide +kernel) rfl
set_option maxHeartbeats 4000000 in
theorem t_leave (l : Launch) (hl0 : l.stackTraces = false) (D : va_G) (cA : Nat → ClassId) (x : Nat) (a : Int32)  : mz_TC l D vwCl cA yX9_leave cX9_leave 3 (some .int) 7 111 [.ref x, .int a] (mz_H D vwCl cA (fun k => x + k) mz_lay2 mz_m7) mz_IO := by
  refine mz_introT (ρ := (fun k => x + k)) (As0 := [.ref 0, .int a]) hl0 (by decide +kernel) (Nat.le_of_ble_eq_true rfl) rfl (fun Γ C hO E => ?_)
  refine mz_goP (lay := mz_lay2) (M := mz_m7) (cA := cA) (D := D) (cl := vwCl) (fun H h => h) FLX9 KLX9 C [(0, .aload_n 0), (1, .iload_n 1)] (by decide +kernel) (pc' := 2) (L' := [(0, .ref 0), (1, .int a)]) (st' := [.int a, .ref 0]) rfl ?_
  exact mz_callT (As := [.int a]) (rest := []) (ci := 9) (index := 162) (T := TX9) (N := 4) C hO E (t_checkGuest l hl0 D cA x a) (fun H h => h) (fun H h => ⟨_, h 0 _ rfl⟩) hy_X9_checkGuest wl_X9_162 rfl rfl ⟨Nat.le_of_ble_eq_true rfl, Nat.le_of_ble_eq_true rfl⟩ ⟨rfl, rfl⟩ (Nat.le_of_ble_eq_true rfl) (by decide +kernel) rfl
set_option maxHeartbeats 4000000 in
theorem t_play (l : Launch) (hl0 : l.stackTraces = false) (D : va_G) (cA : Nat → ClassId) (x : Nat) (a b : Int32)  : mz_TC l D vwCl cA yX9_play cX9_play 3 (some .int) 7 111 [.ref x, .int a, .int b] (mz_H D vwCl cA (fun k => x + k) mz_lay2 mz_m7) mz_IO := by
  refine mz_introT (ρ := (fun k => x + k)) (As0 := [.ref 0, .int a, .int b]) hl0 (by decide +kernel) (Nat.le_of_ble_eq_true rfl) rfl (fun Γ C hO E => ?_)
  refine mz_goP (lay := mz_lay2) (M := mz_m7) (cA := cA) (D := D) (cl := vwCl) (fun H h => h) FLX9 KLX9 C [(0, .aload_n 0), (1, .iload_n 1)] (by decide +kernel) (pc' := 2) (L' := [(0, .ref 0), (1, .int a), (2, .int b)]) (st' := [.int a, .ref 0]) rfl ?_
  exact mz_callT (As := [.int a]) (rest := []) (ci := 9) (index := 165) (T := TX9) (N := 4) C hO E (t_checkTrack l hl0 D cA x a) (fun H h => h) (fun H h => ⟨_, h 0 _ rfl⟩) hy_X9_checkTrack wl_X9_165 rfl rfl ⟨Nat.le_of_ble_eq_true rfl, Nat.le_of_ble_eq_true rfl⟩ ⟨rfl, rfl⟩ (Nat.le_of_ble_eq_true rfl) (by decide +kernel) rfl
set_option maxHeartbeats 4000000 in
theorem t_part (l : Launch) (hl0 : l.stackTraces = false) (D : va_G) (cA : Nat → ClassId) (x : Nat) (a : Int32)  : mz_TC l D vwCl cA yX9_part cX9_part 3 (some .int) 7 111 [.ref x, .int a] (mz_H D vwCl cA (fun k => x + k) mz_lay2 mz_m7) mz_IO := by
  refine mz_introT (ρ := (fun k => x + k)) (As0 := [.ref 0, .int a]) hl0 (by decide +kernel) (Nat.le_of_ble_eq_true rfl) rfl (fun Γ C hO E => ?_)
  refine mz_goP (lay := mz_lay2) (M := mz_m7) (cA := cA) (D := D) (cl := vwCl) (fun H h => h) FLX9 KLX9 C [(0, .aload_n 0), (1, .iload_n 1)] (by decide +kernel) (pc' := 2) (L' := [(0, .ref 0), (1, .int a)]) (st' := [.int a, .ref 0]) rfl ?_
  exact mz_callT (As := [.int a]) (rest := []) (ci := 9) (index := 165) (T := TX9) (N := 4) C hO E (t_checkTrack l hl0 D cA x a) (fun H h => h) (fun H h => ⟨_, h 0 _ rfl⟩) hy_X9_checkTrack wl_X9_165 rfl rfl ⟨Nat.le_of_ble_eq_true rfl, Nat.le_of_ble_eq_true rfl⟩ ⟨rfl, rfl⟩ (Nat.le_of_ble_eq_true rfl) (by decide +kernel) rfl
set_option maxHeartbeats 4000000 in
theorem t_ofRoom (l : Launch) (hl0 : l.stackTraces = false) (D : va_G) (cA : Nat → ClassId) (x : Nat) (a b : Int32)  : mz_TC l D vwCl cA yX9_ofRoom cX9_ofRoom 3 (some .int) 7 111 [.ref x, .int a, .int b] (mz_H D vwCl cA (fun k => x + k) mz_lay2 mz_m7) mz_IO := by
  refine mz_introT (ρ := (fun k => x + k)) (As0 := [.ref 0, .int a, .int b]) hl0 (by decide +kernel) (Nat.le_of_ble_eq_true rfl) rfl (fun Γ C hO E => ?_)
  refine mz_goP (lay := mz_lay2) (M := mz_m7) (cA := cA) (D := D) (cl := vwCl) (fun H h => h) FLX9 KLX9 C [(0, .aload_n 0), (1, .iload_n 1)] (by decide +kernel) (pc' := 2) (L' := [(0, .ref 0), (1, .int a), (2, .int b)]) (st' := [.int a, .ref 0]) rfl ?_
  exact mz_callT (As := [.int a]) (rest := []) (ci := 9) (index := 55) (T := TX9) (N := 4) C hO E (t_checkRoom l hl0 D cA x a) (fun H h => h) (fun H h => ⟨_, h 0 _ rfl⟩) hy_X9_checkRoom wl_X9_55 rfl rfl ⟨Nat.le_of_ble_eq_true rfl, Nat.le_of_ble_eq_true rfl⟩ ⟨rfl, rfl⟩ (Nat.le_of_ble_eq_true rfl) (by decide +kernel) rfl
set_option maxHeartbeats 4000000 in
theorem t_way (l : Launch) (hl0 : l.stackTraces = false) (D : va_G) (cA : Nat → ClassId) (x : Nat) (a b e : Int32)  : mz_TC l D vwCl cA yX9_way cX9_way 4 (some .int) 7 111 [.ref x, .int a, .int b, .int e] (mz_H D vwCl cA (fun k => x + k) mz_lay2 mz_m7) mz_IO := by
  refine mz_introT (ρ := (fun k => x + k)) (As0 := [.ref 0, .int a, .int b, .int e]) hl0 (by decide +kernel) (Nat.le_of_ble_eq_true rfl) rfl (fun Γ C hO E => ?_)
  refine mz_goP (lay := mz_lay2) (M := mz_m7) (cA := cA) (D := D) (cl := vwCl) (fun H h => h) FLX9 KLX9 C [(0, .aload_n 0), (1, .iload_n 1)] (by decide +kernel) (pc' := 2) (L' := [(0, .ref 0), (1, .int a), (2, .int b), (3, .int e)]) (st' := [.int a, .ref 0]) rfl ?_
  exact mz_callT (As := [.int a]) (rest := []) (ci := 9) (index := 55) (T := TX9) (N := 4) C hO E (t_checkRoom l hl0 D cA x a) (fun H h => h) (fun H h => ⟨_, h 0 _ rfl⟩) hy_X9_checkRoom wl_X9_55 rfl rfl ⟨Nat.le_of_ble_eq_true rfl, Nat.le_of_ble_eq_true rfl⟩ ⟨rfl, rfl⟩ (Nat.le_of_ble_eq_true rfl) (by decide +kernel) rfl
set_option maxHeartbeats 4000000 in
theorem t_ofTrack (l : Launch) (hl0 : l.stackTraces = false) (D : va_G) (cA : Nat → ClassId) (x : Nat) (a b : Int32)  : mz_TC l D vwCl cA yX9_ofTrack cX9_ofTrack 4 (some .int) 7 111 [.ref x, .int a, .int b] (mz_H D vwCl cA (fun k => x + k) mz_lay2 mz_m7) mz_IO := by
  refine mz_introT (ρ := (fun k => x + k)) (As0 := [.ref 0, .int a, .int b]) hl0 (by decide +kernel) (Nat.le_of_ble_eq_true rfl) rfl (fun Γ C hO E => ?_)
  refine mz_goP (lay := mz_lay2) (M := mz_m7) (cA := cA) (D := D) (cl := vwCl) (fun H h => h) FLX9 KLX9 C [(0, .aload_n 0), (1, .iload_n 1)] (by decide +kernel) (pc' := 2) (L' := [(0, .ref 0), (1, .int a), (2, .int b)]) (st' := [.int a, .ref 0]) rfl ?_
  exact mz_callT (As := [.int a]) (rest := []) (ci := 9) (index := 165) (T := TX9) (N := 4) C hO E (t_checkTrack l hl0 D cA x a) (fun H h => h) (fun H h => ⟨_, h 0 _ rfl⟩) hy_X9_checkTrack wl_X9_165 rfl rfl ⟨Nat.le_of_ble_eq_true rfl, Nat.le_of_ble_eq_true rfl⟩ ⟨rfl, rfl⟩ (Nat.le_of_ble_eq_true rfl) (by decide +kernel) rfl
set_option maxHeartbeats 4000000 in
theorem t_ofScene (l : Launch) (hl0 : l.stackTraces = false) (D : va_G) (cA : Nat → ClassId) (x : Nat) (a b : Int32)  : mz_TC l D vwCl cA yX9_ofScene cX9_ofScene 4 (some .int) 7 111 [.ref x, .int a, .int b] (mz_H D vwCl cA (fun k => x + k) mz_lay2 mz_m7) mz_IO := by
  refine mz_introT (ρ := (fun k => x + k)) (As0 := [.ref 0, .int a, .int b]) hl0 (by decide +kernel) (Nat.le_of_ble_eq_true rfl) rfl (fun Γ C hO E => ?_)
  refine mz_goP (lay := mz_lay2) (M := mz_m7) (cA := cA) (D := D) (cl := vwCl) (fun H h => h) FLX9 KLX9 C [(0, .aload_n 0), (1, .iload_n 1)] (by decide +kernel) (pc' := 2) (L' := [(0, .ref 0), (1, .int a), (2, .int b)]) (st' := [.int a, .ref 0]) rfl ?_
  exact mz_callT (As := [.int a]) (rest := []) (ci := 9) (index := 289) (T := TX9) (N := 4) C hO E (t_checkScene l hl0 D cA x a) (fun H h => h) (fun H h => ⟨_, h 0 _ rfl⟩) hy_X9_checkScene wl_X9_289 rfl rfl ⟨Nat.le_of_ble_eq_true rfl, Nat.le_of_ble_eq_true rfl⟩ ⟨rfl, rfl⟩ (Nat.le_of_ble_eq_true rfl) (by decide +kernel) rfl
set_option maxHeartbeats 4000000 in
theorem t_ofGuest (l : Launch) (hl0 : l.stackTraces = false) (D : va_G) (cA : Nat → ClassId) (x : Nat) (a b : Int32)  : mz_TC l D vwCl cA yX9_ofGuest cX9_ofGuest 4 (some .int) 7 111 [.ref x, .int a, .int b] (mz_H D vwCl cA (fun k => x + k) mz_lay2 mz_m7) mz_IO := by
  refine mz_introT (ρ := (fun k => x + k)) (As0 := [.ref 0, .int a, .int b]) hl0 (by decide +kernel) (Nat.le_of_ble_eq_true rfl) rfl (fun Γ C hO E => ?_)
  refine mz_goP (lay := mz_lay2) (M := mz_m7) (cA := cA) (D := D) (cl := vwCl) (fun H h => h) FLX9 KLX9 C [(0, .aload_n 0), (1, .iload_n 1)] (by decide +kernel) (pc' := 2) (L' := [(0, .ref 0), (1, .int a), (2, .int b)]) (st' := [.int a, .ref 0]) rfl ?_
  exact mz_callT (As := [.int a]) (rest := []) (ci := 9) (index := 162) (T := TX9) (N := 4) C hO E (t_checkGuest l hl0 D cA x a) (fun H h => h) (fun H h => ⟨_, h 0 _ rfl⟩) hy_X9_checkGuest wl_X9_162 rfl rfl ⟨Nat.le_of_ble_eq_true rfl, Nat.le_of_ble_eq_true rfl⟩ ⟨rfl, rfl⟩ (Nat.le_of_ble_eq_true rfl) (by decide +kernel) rfl
set_option maxHeartbeats 4000000 in
theorem t_ofProp (l : Launch) (hl0 : l.stackTraces = false) (D : va_G) (cA : Nat → ClassId) (x : Nat) (a b : Int32)  : mz_TC l D vwCl cA yX9_ofProp cX9_ofProp 3 (some .int) 7 111 [.ref x, .int a, .int b] (mz_H D vwCl cA (fun k => x + k) mz_lay2 mz_m7) mz_IO := by
  refine mz_introT (ρ := (fun k => x + k)) (As0 := [.ref 0, .int a, .int b]) hl0 (by decide +kernel) (Nat.le_of_ble_eq_true rfl) rfl (fun Γ C hO E => ?_)
  refine mz_goP (lay := mz_lay2) (M := mz_m7) (cA := cA) (D := D) (cl := vwCl) (fun H h => h) FLX9 KLX9 C [(0, .aload_n 0), (1, .iload_n 1)] (by decide +kernel) (pc' := 2) (L' := [(0, .ref 0), (1, .int a), (2, .int b)]) (st' := [.int a, .ref 0]) rfl ?_
  exact mz_callT (As := [.int a]) (rest := []) (ci := 9) (index := 114) (T := TX9) (N := 4) C hO E (t_checkProp l hl0 D cA x a) (fun H h => h) (fun H h => ⟨_, h 0 _ rfl⟩) hy_X9_checkProp wl_X9_114 rfl rfl ⟨Nat.le_of_ble_eq_true rfl, Nat.le_of_ble_eq_true rfl⟩ ⟨rfl, rfl⟩ (Nat.le_of_ble_eq_true rfl) (by decide +kernel) rfl
set_option maxHeartbeats 4000000 in
theorem t_seen (l : Launch) (hl0 : l.stackTraces = false) (D : va_G) (cA : Nat → ClassId) (x : Nat) (a b : Int32)  : mz_TC l D vwCl cA yX9_seen cX9_seen 3 (some .int) 7 111 [.ref x, .int a, .int b] (mz_H D vwCl cA (fun k => x + k) mz_lay2 mz_m7) mz_IO := by
  refine mz_introT (ρ := (fun k => x + k)) (As0 := [.ref 0, .int a, .int b]) hl0 (by decide +kernel) (Nat.le_of_ble_eq_true rfl) rfl (fun Γ C hO E => ?_)
  refine mz_goP (lay := mz_lay2) (M := mz_m7) (cA := cA) (D := D) (cl := vwCl) (fun H h => h) FLX9 KLX9 C [(0, .aload_n 0), (1, .iload_n 1)] (by decide +kernel) (pc' := 2) (L' := [(0, .ref 0), (1, .int a), (2, .int b)]) (st' := [.int a, .ref 0]) rfl ?_
  exact mz_callT (As := [.int a]) (rest := []) (ci := 9) (index := 162) (T := TX9) (N := 4) C hO E (t_checkGuest l hl0 D cA x a) (fun H h => h) (fun H h => ⟨_, h 0 _ rfl⟩) hy_X9_checkGuest wl_X9_162 rfl rfl ⟨Nat.le_of_ble_eq_true rfl, Nat.le_of_ble_eq_true rfl⟩ ⟨rfl, rfl⟩ (Nat.le_of_ble_eq_true rfl) (by decide +kernel) rfl
set_option maxHeartbeats 4000000 in
theorem t_wouldKnow (l : Launch) (hl0 : l.stackTraces = false) (D : va_G) (cA : Nat → ClassId) (x : Nat) (a b : Int32)  : mz_TC l D vwCl cA yX9_wouldKnow cX9_wouldKnow 3 (some .int) 7 111 [.ref x, .int a, .int b] (mz_H D vwCl cA (fun k => x + k) mz_lay2 mz_m7) mz_IO := by
  refine mz_introT (ρ := (fun k => x + k)) (As0 := [.ref 0, .int a, .int b]) hl0 (by decide +kernel) (Nat.le_of_ble_eq_true rfl) rfl (fun Γ C hO E => ?_)
  refine mz_goP (lay := mz_lay2) (M := mz_m7) (cA := cA) (D := D) (cl := vwCl) (fun H h => h) FLX9 KLX9 C [(0, .aload_n 0), (1, .iload_n 1)] (by decide +kernel) (pc' := 2) (L' := [(0, .ref 0), (1, .int a), (2, .int b)]) (st' := [.int a, .ref 0]) rfl ?_
  exact mz_callT (As := [.int a]) (rest := []) (ci := 9) (index := 162) (T := TX9) (N := 4) C hO E (t_checkGuest l hl0 D cA x a) (fun H h => h) (fun H h => ⟨_, h 0 _ rfl⟩) hy_X9_checkGuest wl_X9_162 rfl rfl ⟨Nat.le_of_ble_eq_true rfl, Nat.le_of_ble_eq_true rfl⟩ ⟨rfl, rfl⟩ (Nat.le_of_ble_eq_true rfl) (by decide +kernel) rfl
set_option maxHeartbeats 4000000 in
theorem t_bestHabit (l : Launch) (hl0 : l.stackTraces = false) (D : va_G) (cA : Nat → ClassId) (x : Nat) (a b : Int32)  : mz_TC l D vwCl cA yX9_bestHabit cX9_bestHabit 7 (some .int) 7 111 [.ref x, .int a, .int b] (mz_H D vwCl cA (fun k => x + k) mz_lay2 mz_m7) mz_IO := by
  refine mz_introT (ρ := (fun k => x + k)) (As0 := [.ref 0, .int a, .int b]) hl0 (by decide +kernel) (Nat.le_of_ble_eq_true rfl) rfl (fun Γ C hO E => ?_)
  refine mz_goP (lay := mz_lay2) (M := mz_m7) (cA := cA) (D := D) (cl := vwCl) (fun H h => h) FLX9 KLX9 C [(0, .aload_n 0), (1, .iload_n 1)] (by decide +kernel) (pc' := 2) (L' := [(0, .ref 0), (1, .int a), (2, .int b)]) (st' := [.int a, .ref 0]) rfl ?_
  exact mz_callT (As := [.int a]) (rest := []) (ci := 9) (index := 162) (T := TX9) (N := 4) C hO E (t_checkGuest l hl0 D cA x a) (fun H h => h) (fun H h => ⟨_, h 0 _ rfl⟩) hy_X9_checkGuest wl_X9_162 rfl rfl ⟨Nat.le_of_ble_eq_true rfl, Nat.le_of_ble_eq_true rfl⟩ ⟨rfl, rfl⟩ (Nat.le_of_ble_eq_true rfl) (by decide +kernel) rfl
set_option maxHeartbeats 4000000 in
theorem t_doubles (l : Launch) (hl0 : l.stackTraces = false) (D : va_G) (cA : Nat → ClassId) (x : Nat) (a : Int32)  : mz_TC l D vwCl cA yX9_doubles cX9_doubles 4 (some .int) 7 111 [.ref x, .int a] (mz_H D vwCl cA (fun k => x + k) mz_lay2 mz_m7) mz_IO := by
  refine mz_introT (ρ := (fun k => x + k)) (As0 := [.ref 0, .int a]) hl0 (by decide +kernel) (Nat.le_of_ble_eq_true rfl) rfl (fun Γ C hO E => ?_)
  refine mz_goP (lay := mz_lay2) (M := mz_m7) (cA := cA) (D := D) (cl := vwCl) (fun H h => h) FLX9 KLX9 C [(0, .aload_n 0), (1, .iload_n 1)] (by decide +kernel) (pc' := 2) (L' := [(0, .ref 0), (1, .int a)]) (st' := [.int a, .ref 0]) rfl ?_
  exact mz_callT (As := [.int a]) (rest := []) (ci := 9) (index := 165) (T := TX9) (N := 4) C hO E (t_checkTrack l hl0 D cA x a) (fun H h => h) (fun H h => ⟨_, h 0 _ rfl⟩) hy_X9_checkTrack wl_X9_165 rfl rfl ⟨Nat.le_of_ble_eq_true rfl, Nat.le_of_ble_eq_true rfl⟩ ⟨rfl, rfl⟩ (Nat.le_of_ble_eq_true rfl) (by decide +kernel) rfl
set_option maxHeartbeats 4000000 in
theorem t_pass (l : Launch) (hl0 : l.stackTraces = false) (D : va_G) (cA : Nat → ClassId) (x : Nat) (a : Int32) (h : ¬ (1 ≤ a ∧ a ≤ 60)) : mz_TC l D vwCl cA yX9_pass cX9_pass 3 (some .int) 7 111 [.ref x, .int a] (mz_H D vwCl cA (fun k => x + k) mz_lay2 mz_m7) mz_IA := by
  refine mz_introT (ρ := (fun k => x + k)) (As0 := [.ref 0, .int a]) hl0 (by decide +kernel) (Nat.le_of_ble_eq_true rfl) rfl (fun Γ C hO E => ?_)
  refine mz_goP (lay := mz_lay2) (M := mz_m7) (cA := cA) (D := D) (cl := vwCl) (fun H h => h) FLX9 KLX9 C [(0, .iload_n 1), (1, .bipush 60)] (by decide +kernel) (pc' := 3) (L' := [(0, .ref 0), (1, .int a)]) (st' := [.int 60, .int a]) rfl ?_
  exact mz_callTS (As := [.int a, .int 60]) (rest := []) (index := 182) C hO E (t_checkMinutes l hl0 D cA a 60 h) (fun _ _ => trivial) hs_X9_checkMinutes wl_X9_182 rfl ⟨Nat.le_of_ble_eq_true rfl, Nat.le_of_ble_eq_true rfl⟩ ⟨rfl, rfl⟩ (Nat.le_of_ble_eq_true rfl) (by decide +kernel) rfl
set_option maxHeartbeats 4000000 in
theorem t_many (l : Launch) (hl0 : l.stackTraces = false) (D : va_G) (cA : Nat → ClassId) (x : Nat) (a : Int32) (h : ¬ (0 ≤ a ∧ a ≤ 12)) : mz_TC l D vwCl cA yX9_many cX9_many 2 (some .int) 7 111 [.ref x, .int a] (mz_H D vwCl cA (fun k => x + k) mz_lay2 mz_m7) mz_IA := by
  refine mz_introT (ρ := (fun k => x + k)) (As0 := [.ref 0, .int a]) hl0 (by decide +kernel) (Nat.le_of_ble_eq_true rfl) rfl (fun Γ C hO E => ?_)
  refine mz_goP (lay := mz_lay2) (M := mz_m7) (cA := cA) (D := D) (cl := vwCl) (fun H h => h) FLX9 KLX9 C [(0, .iload_n 1), (1, .bipush 12)] (by decide +kernel) (pc' := 3) (L' := [(0, .ref 0), (1, .int a)]) (st' := [.int 12, .int a]) rfl ?_
  exact mz_callTS (As := [.int a, .int 12]) (rest := []) (index := 252) C hO E (t_checkWhat l hl0 D cA a 12 h) (fun _ _ => trivial) hs_X9_checkWhat wl_X9_252 rfl ⟨Nat.le_of_ble_eq_true rfl, Nat.le_of_ble_eq_true rfl⟩ ⟨rfl, rfl⟩ (Nat.le_of_ble_eq_true rfl) (by decide +kernel) rfl
set_option maxHeartbeats 4000000 in
theorem t_wouldCut (l : Launch) (hl0 : l.stackTraces = false) (D : va_G) (cA : Nat → ClassId) (x : Nat) (a : Int32) (h : ¬ (1 ≤ a ∧ a ≤ 40)) : mz_TC l D vwCl cA yX9_wouldCut cX9_wouldCut 2 (some .int) 7 111 [.ref x, .int a] (mz_H D vwCl cA (fun k => x + k) mz_lay2 mz_m7) mz_IA := by
  refine mz_introT (ρ := (fun k => x + k)) (As0 := [.ref 0, .int a]) hl0 (by decide +kernel) (Nat.le_of_ble_eq_true rfl) rfl (fun Γ C hO E => ?_)
  refine mz_goP (lay := mz_lay2) (M := mz_m7) (cA := cA) (D := D) (cl := vwCl) (fun H h => h) FLX9 KLX9 C [(0, .iload_n 1), (1, .bipush 40)] (by decide +kernel) (pc' := 3) (L' := [(0, .ref 0), (1, .int a)]) (st' := [.int 40, .int a]) rfl ?_
  exact mz_callTS (As := [.int a, .int 40]) (rest := []) (index := 182) C hO E (t_checkMinutes l hl0 D cA a 40 h) (fun _ _ => trivial) hs_X9_checkMinutes wl_X9_182 rfl ⟨Nat.le_of_ble_eq_true rfl, Nat.le_of_ble_eq_true rfl⟩ ⟨rfl, rfl⟩ (Nat.le_of_ble_eq_true rfl) (by decide +kernel) rfl
