def g_X9_checkRoom (M : mz_Mem) (r : Int32) : mz_Mem := M
set_option maxHeartbeats 4000000 in
theorem f_X9_checkRoom (l : Launch) (D : va_G) (cA : Nat → ClassId) (ρ : Nat → Nat) (hI : mz_I ρ mz_lay2) (M : mz_Mem) (r : Int32) (v1 : ¬ r < 0) (v2 : r < (M 1 0)) : mz_M l D vwCl cA ρ mz_lay2 yX9_checkRoom cX9_checkRoom 2 none 0 0 [.ref 0, .int r] M none M := by
  refine mz_in0 (by decide +kernel) (Nat.le_of_ble_eq_true rfl) (fun Γ C E => ?_)
  have E' := (⟨_, _, _, E⟩ : ∃ Qc mc ms, mz_E Γ Qc mc ms (mz_A ρ mz_lay2))
  refine mz_go FLX9 KLX9 C [(0, .iload_n 1)] (by decide +kernel) (pc' := 1) (L' := [(0, .ref 0), (1, .int r)]) (st' := [.int r]) rfl ?_
  refine mz_zlt (off := 14) (tgt := 15) C (by decide +kernel) (by decide) (fun h1 => absurd h1 v1) (fun _ => ?_)
  refine mz_go FLX9 KLX9 C [(4, .iload_n 1), (5, .aload_n 0), (6, .getfield 10), (9, .getfield 42)] (by decide +kernel) (pc' := 12) (L' := [(0, .ref 0), (1, .int r)]) (st' := [.int (M 1 0), .int r]) rfl ?_
  refine mz_ilt (off := 14) (tgt := 26) C (by decide +kernel) (by decide) (fun _ => ?_) (fun h2 => absurd v2 h2)
  exact mz_vret C E (by decide +kernel) (rfl)
def g_X9_checkTrack (M : mz_Mem) (r : Int32) : mz_Mem := M
set_option maxHeartbeats 4000000 in
theorem f_X9_checkTrack (l : Launch) (D : va_G) (cA : Nat → ClassId) (ρ : Nat → Nat) (hI : mz_I ρ mz_lay2) (M : mz_Mem) (r : Int32) (v1 : ¬ r < 0) (v2 : r < (M 15 0)) : mz_M l D vwCl cA ρ mz_lay2 yX9_checkTrack cX9_checkTrack 2 none 0 0 [.ref 0, .int r] M none M := by
  refine mz_in0 (by decide +kernel) (Nat.le_of_ble_eq_true rfl) (fun Γ C E => ?_)
  have E' := (⟨_, _, _, E⟩ : ∃ Qc mc ms, mz_E Γ Qc mc ms (mz_A ρ mz_lay2))
  refine mz_go FLX9 KLX9 C [(0, .iload_n 1)] (by decide +kernel) (pc' := 1) (L' := [(0, .ref 0), (1, .int r)]) (st' := [.int r]) rfl ?_
  refine mz_zlt (off := 14) (tgt := 15) C (by decide +kernel) (by decide) (fun h1 => absurd h1 v1) (fun _ => ?_)
  refine mz_go FLX9 KLX9 C [(4, .iload_n 1), (5, .aload_n 0), (6, .getfield 19), (9, .getfield 80)] (by decide +kernel) (pc' := 12) (L' := [(0, .ref 0), (1, .int r)]) (st' := [.int (M 15 0), .int r]) rfl ?_
  refine mz_ilt (off := 14) (tgt := 26) C (by decide +kernel) (by decide) (fun _ => ?_) (fun h2 => absurd v2 h2)
  exact mz_vret C E (by decide +kernel) (rfl)
def g_X9_checkProp (M : mz_Mem) (r : Int32) : mz_Mem := M
set_option maxHeartbeats 4000000 in
theorem f_X9_checkProp (l : Launch) (D : va_G) (cA : Nat → ClassId) (ρ : Nat → Nat) (hI : mz_I ρ mz_lay2) (M : mz_Mem) (r : Int32) (v1 : ¬ r < 0) (v2 : r < (M 15 1)) : mz_M l D vwCl cA ρ mz_lay2 yX9_checkProp cX9_checkProp 2 none 0 0 [.ref 0, .int r] M none M := by
  refine mz_in0 (by decide +kernel) (Nat.le_of_ble_eq_true rfl) (fun Γ C E => ?_)
  have E' := (⟨_, _, _, E⟩ : ∃ Qc mc ms, mz_E Γ Qc mc ms (mz_A ρ mz_lay2))
  refine mz_go FLX9 KLX9 C [(0, .iload_n 1)] (by decide +kernel) (pc' := 1) (L' := [(0, .ref 0), (1, .int r)]) (st' := [.int r]) rfl ?_
  refine mz_zlt (off := 14) (tgt := 15) C (by decide +kernel) (by decide) (fun h1 => absurd h1 v1) (fun _ => ?_)
  refine mz_go FLX9 KLX9 C [(4, .iload_n 1), (5, .aload_n 0), (6, .getfield 19), (9, .getfield 98)] (by decide +kernel) (pc' := 12) (L' := [(0, .ref 0), (1, .int r)]) (st' := [.int (M 15 1), .int r]) rfl ?_
  refine mz_ilt (off := 14) (tgt := 26) C (by decide +kernel) (by decide) (fun _ => ?_) (fun h2 => absurd v2 h2)
  exact mz_vret C E (by decide +kernel) (rfl)
def g_X9_checkScene (M : mz_Mem) (r : Int32) : mz_Mem := M
set_option maxHeartbeats 4000000 in
theorem f_X9_checkScene (l : Launch) (D : va_G) (cA : Nat → ClassId) (ρ : Nat → Nat) (hI : mz_I ρ mz_lay2) (M : mz_Mem) (r : Int32) (v1 : ¬ r < 0) (v2 : r < (M 15 2)) : mz_M l D vwCl cA ρ mz_lay2 yX9_checkScene cX9_checkScene 2 none 0 0 [.ref 0, .int r] M none M := by
  refine mz_in0 (by decide +kernel) (Nat.le_of_ble_eq_true rfl) (fun Γ C E => ?_)
  have E' := (⟨_, _, _, E⟩ : ∃ Qc mc ms, mz_E Γ Qc mc ms (mz_A ρ mz_lay2))
  refine mz_go FLX9 KLX9 C [(0, .iload_n 1)] (by decide +kernel) (pc' := 1) (L' := [(0, .ref 0), (1, .int r)]) (st' := [.int r]) rfl ?_
  refine mz_zlt (off := 14) (tgt := 15) C (by decide +kernel) (by decide) (fun h1 => absurd h1 v1) (fun _ => ?_)
  refine mz_go FLX9 KLX9 C [(4, .iload_n 1), (5, .aload_n 0), (6, .getfield 19), (9, .getfield 129)] (by decide +kernel) (pc' := 12) (L' := [(0, .ref 0), (1, .int r)]) (st' := [.int (M 15 2), .int r]) rfl ?_
  refine mz_ilt (off := 14) (tgt := 26) C (by decide +kernel) (by decide) (fun _ => ?_) (fun h2 => absurd v2 h2)
  exact mz_vret C E (by decide +kernel) (rfl)
def g_X9_checkGuest (M : mz_Mem) (r : Int32) : mz_Mem := M
set_option maxHeartbeats 4000000 in
theorem f_X9_checkGuest (l : Launch) (D : va_G) (cA : Nat → ClassId) (ρ : Nat → Nat) (hI : mz_I ρ mz_lay2) (M : mz_Mem) (r : Int32) (v1 : ¬ r < 0) (v2 : r < (M 60 0)) : mz_M l D vwCl cA ρ mz_lay2 yX9_checkGuest cX9_checkGuest 2 none 0 0 [.ref 0, .int r] M none M := by
  refine mz_in0 (by decide +kernel) (Nat.le_of_ble_eq_true rfl) (fun Γ C E => ?_)
  have E' := (⟨_, _, _, E⟩ : ∃ Qc mc ms, mz_E Γ Qc mc ms (mz_A ρ mz_lay2))
  refine mz_go FLX9 KLX9 C [(0, .iload_n 1)] (by decide +kernel) (pc' := 1) (L' := [(0, .ref 0), (1, .int r)]) (st' := [.int r]) rfl ?_
  refine mz_zlt (off := 17) (tgt := 18) C (by decide +kernel) (by decide) (fun h1 => absurd h1 v1) (fun _ => ?_)
  refine mz_go FLX9 KLX9 C [(4, .iload_n 1), (5, .aload_n 0), (6, .getfield 28), (9, .getfield 146), (12, .getfield 150)] (by decide +kernel) (pc' := 15) (L' := [(0, .ref 0), (1, .int r)]) (st' := [.int (M 60 0), .int r]) rfl ?_
  refine mz_ilt (off := 14) (tgt := 29) C (by decide +kernel) (by decide) (fun _ => ?_) (fun h2 => absurd v2 h2)
  exact mz_vret C E (by decide +kernel) (rfl)
def g_X9_checkWhat (M : mz_Mem) (w : Int32) (g : Int32) : mz_Mem := M
set_option maxHeartbeats 4000000 in
theorem f_X9_checkWhat (l : Launch) (D : va_G) (cA : Nat → ClassId) (ρ : Nat → Nat) (hI : mz_I ρ mz_lay2) (M : mz_Mem) (w : Int32) (g : Int32) (v1 : ¬ w < 0) (v2 : w ≤ g) : mz_M l D vwCl cA ρ mz_lay2 yX9_checkWhat cX9_checkWhat 2 none 0 0 [.int w, .int g] M none M := by
  refine mz_in0 (by decide +kernel) (Nat.le_of_ble_eq_true rfl) (fun Γ C E => ?_)
  have E' := (⟨_, _, _, E⟩ : ∃ Qc mc ms, mz_E Γ Qc mc ms (mz_A ρ mz_lay2))
  refine mz_go FLX9 KLX9 C [(0, .iload_n 0)] (by decide +kernel) (pc' := 1) (L' := [(0, .int w), (1, .int g)]) (st' := [.int w]) rfl ?_
  refine mz_zlt (off := 8) (tgt := 9) C (by decide +kernel) (by decide) (fun h1 => absurd h1 v1) (fun _ => ?_)
  refine mz_go FLX9 KLX9 C [(4, .iload_n 0), (5, .iload_n 1)] (by decide +kernel) (pc' := 6) (L' := [(0, .int w), (1, .int g)]) (st' := [.int g, .int w]) rfl ?_
  refine mz_ile (off := 14) (tgt := 20) C (by decide +kernel) (by decide) (fun _ => ?_) (fun h2 => absurd v2 h2)
  exact mz_vret C E (by decide +kernel) (rfl)
def g_X9_checkMinutes (M : mz_Mem) (w : Int32) (g : Int32) : mz_Mem := M
set_option maxHeartbeats 4000000 in
theorem f_X9_checkMinutes (l : Launch) (D : va_G) (cA : Nat → ClassId) (ρ : Nat → Nat) (hI : mz_I ρ mz_lay2) (M : mz_Mem) (w : Int32) (g : Int32) (v1 : ¬ w < 1) (v2 : w ≤ g) : mz_M l D vwCl cA ρ mz_lay2 yX9_checkMinutes cX9_checkMinutes 2 none 0 0 [.int w, .int g] M none M := by
  refine mz_in0 (by decide +kernel) (Nat.le_of_ble_eq_true rfl) (fun Γ C E => ?_)
  have E' := (⟨_, _, _, E⟩ : ∃ Qc mc ms, mz_E Γ Qc mc ms (mz_A ρ mz_lay2))
  refine mz_go FLX9 KLX9 C [(0, .iload_n 0), (1, .iconst 1)] (by decide +kernel) (pc' := 2) (L' := [(0, .int w), (1, .int g)]) (st' := [.int 1, .int w]) rfl ?_
  refine mz_ilt (off := 8) (tgt := 10) C (by decide +kernel) (by decide) (fun h1 => absurd h1 v1) (fun _ => ?_)
  refine mz_go FLX9 KLX9 C [(5, .iload_n 0), (6, .iload_n 1)] (by decide +kernel) (pc' := 7) (L' := [(0, .int w), (1, .int g)]) (st' := [.int g, .int w]) rfl ?_
  refine mz_ile (off := 14) (tgt := 21) C (by decide +kernel) (by decide) (fun _ => ?_) (fun h2 => absurd v2 h2)
  exact mz_vret C E (by decide +kernel) (rfl)
def g_X9_checkTime (M : mz_Mem) (s : Int32) (d : Int32) : mz_Mem := M
set_option maxHeartbeats 4000000 in
theorem f_X9_checkTime (l : Launch) (D : va_G) (cA : Nat → ClassId) (ρ : Nat → Nat) (hI : mz_I ρ mz_lay2) (M : mz_Mem) (s : Int32) (d : Int32) (v1 : ¬ s < 0) (v2 : ¬ 18 < s) (v3 : ¬ d < 1) (v4 : ¬ 8 < d) (v5 : (s + d) ≤ 20) : mz_M l D vwCl cA ρ mz_lay2 yX9_checkTime cX9_checkTime 2 none 0 0 [.int s, .int d] M none M := by
  refine mz_in0 (by decide +kernel) (Nat.le_of_ble_eq_true rfl) (fun Γ C E => ?_)
  have E' := (⟨_, _, _, E⟩ : ∃ Qc mc ms, mz_E Γ Qc mc ms (mz_A ρ mz_lay2))
  refine mz_go FLX9 KLX9 C [(0, .iload_n 0)] (by decide +kernel) (pc' := 1) (L' := [(0, .int s), (1, .int d)]) (st' := [.int s]) rfl ?_
  refine mz_zlt (off := 28) (tgt := 29) C (by decide +kernel) (by decide) (fun h1 => absurd h1 v1) (fun _ => ?_)
  refine mz_go FLX9 KLX9 C [(4, .iload_n 0), (5, .bipush 18)] (by decide +kernel) (pc' := 7) (L' := [(0, .int s), (1, .int d)]) (st' := [.int 18, .int s]) rfl ?_
  refine mz_igt (off := 22) (tgt := 29) C (by decide +kernel) (by decide) (fun h2 => absurd h2 v2) (fun _ => ?_)
  refine mz_go FLX9 KLX9 C [(10, .iload_n 1), (11, .iconst 1)] (by decide +kernel) (pc' := 12) (L' := [(0, .int s), (1, .int d)]) (st' := [.int 1, .int d]) rfl ?_
  refine mz_ilt (off := 17) (tgt := 29) C (by decide +kernel) (by decide) (fun h3 => absurd h3 v3) (fun _ => ?_)
  refine mz_go FLX9 KLX9 C [(15, .iload_n 1), (16, .bipush 8)] (by decide +kernel) (pc' := 18) (L' := [(0, .int s), (1, .int d)]) (st' := [.int 8, .int d]) rfl ?_
  refine mz_igt (off := 11) (tgt := 29) C (by decide +kernel) (by decide) (fun h4 => absurd h4 v4) (fun _ => ?_)
  refine mz_go FLX9 KLX9 C [(21, .iload_n 0), (22, .iload_n 1), (23, .iadd), (24, .bipush 20)] (by decide +kernel) (pc' := 26) (L' := [(0, .int s), (1, .int d)]) (st' := [.int 20, .int (s + d)]) rfl ?_
  refine mz_ile (off := 14) (tgt := 40) C (by decide +kernel) (by decide) (fun _ => ?_) (fun h5 => absurd v5 h5)
  exact mz_vret C E (by decide +kernel) (rfl)
def g_X9_standsForHabit (M : mz_Mem) (a : Int32) : Int32 := if a = 0 then 1 else if a = 2 then 1 else if a = 3 then 1 else if a < 10 then 0 else 1
set_option maxHeartbeats 4000000 in
theorem f_X9_standsForHabit (l : Launch) (D : va_G) (cA : Nat → ClassId) (ρ : Nat → Nat) (hI : mz_I ρ mz_lay2) (M : mz_Mem) (a : Int32) : mz_M l D vwCl cA ρ mz_lay2 yX9_standsForHabit cX9_standsForHabit 1 (some .boolean) 0 0 [.int a] M (some (.int (g_X9_standsForHabit M a))) M := by
  refine mz_in0 (by decide +kernel) (Nat.le_of_ble_eq_true rfl) (fun Γ C E => ?_)
  have E' := (⟨_, _, _, E⟩ : ∃ Qc mc ms, mz_E Γ Qc mc ms (mz_A ρ mz_lay2))
  refine mz_go FLX9 KLX9 C [(0, .iload_n 0)] (by decide +kernel) (pc' := 1) (L' := [(0, .int a)]) (st' := [.int a]) rfl ?_
  refine mz_zeq (off := 19) (tgt := 20) C (by decide +kernel) (by decide) (fun h1 => ?_) (fun h1 => ?_)
  · refine mz_go FLX9 KLX9 C [(20, .iconst 1), (21, .goto 4)] (by decide +kernel) (pc' := 25) (L' := [(0, .int a)]) (st' := [.int 1]) rfl ?_
    exact mz_zret C E (by decide +kernel) (Or.inr rfl) (by unfold g_X9_standsForHabit; rw [if_pos h1]; try rfl) (rfl)
  · refine mz_go FLX9 KLX9 C [(4, .iload_n 0), (5, .iconst 2)] (by decide +kernel) (pc' := 6) (L' := [(0, .int a)]) (st' := [.int 2, .int a]) rfl ?_
    refine mz_ieq (off := 14) (tgt := 20) C (by decide +kernel) (by decide) (fun h2 => ?_) (fun h2 => ?_)
    · refine mz_go FLX9 KLX9 C [(20, .iconst 1), (21, .goto 4)] (by decide +kernel) (pc' := 25) (L' := [(0, .int a)]) (st' := [.int 1]) rfl ?_
      exact mz_zret C E (by decide +kernel) (Or.inr rfl) (by unfold g_X9_standsForHabit; rw [if_neg h1, if_pos h2]; try rfl) (rfl)
    · refine mz_go FLX9 KLX9 C [(9, .iload_n 0), (10, .iconst 3)] (by decide +kernel) (pc' := 11) (L' := [(0, .int a)]) (st' := [.int 3, .int a]) rfl ?_
      refine mz_ieq (off := 9) (tgt := 20) C (by decide +kernel) (by decide) (fun h3 => ?_) (fun h3 => ?_)
      · refine mz_go FLX9 KLX9 C [(20, .iconst 1), (21, .goto 4)] (by decide +kernel) (pc' := 25) (L' := [(0, .int a)]) (st' := [.int 1]) rfl ?_
        exact mz_zret C E (by decide +kernel) (Or.inr rfl) (by unfold g_X9_standsForHabit; rw [if_neg h1, if_neg h2, if_pos h3]; try rfl) (rfl)
      · refine mz_go FLX9 KLX9 C [(14, .iload_n 0), (15, .bipush 10)] (by decide +kernel) (pc' := 17) (L' := [(0, .int a)]) (st' := [.int 10, .int a]) rfl ?_
        refine mz_ilt (off := 7) (tgt := 24) C (by decide +kernel) (by decide) (fun h4 => ?_) (fun h4 => ?_)
        · refine mz_go FLX9 KLX9 C [(24, .iconst 0)] (by decide +kernel) (pc' := 25) (L' := [(0, .int a)]) (st' := [.int 0]) rfl ?_
          exact mz_zret C E (by decide +kernel) (Or.inl rfl) (by unfold g_X9_standsForHabit; rw [if_neg h1, if_neg h2, if_neg h3, if_pos h4]; try rfl) (rfl)
        · refine mz_go FLX9 KLX9 C [(20, .iconst 1), (21, .goto 4)] (by decide +kernel) (pc' := 25) (L' := [(0, .int a)]) (st' := [.int 1]) rfl ?_
          exact mz_zret C E (by decide +kernel) (Or.inr rfl) (by unfold g_X9_standsForHabit; rw [if_neg h1, if_neg h2, if_neg h3, if_neg h4]; try rfl) (rfl)
def g_X9_habitBehind (M : mz_Mem) (a : Int32) : Int32 := if a < 10 then a else 1
set_option maxHeartbeats 4000000 in
theorem f_X9_habitBehind (l : Launch) (D : va_G) (cA : Nat → ClassId) (ρ : Nat → Nat) (hI : mz_I ρ mz_lay2) (M : mz_Mem) (a : Int32) : mz_M l D vwCl cA ρ mz_lay2 yX9_habitBehind cX9_habitBehind 1 (some .int) 0 0 [.int a] M (some (.int (g_X9_habitBehind M a))) M := by
  refine mz_in0 (by decide +kernel) (Nat.le_of_ble_eq_true rfl) (fun Γ C E => ?_)
  have E' := (⟨_, _, _, E⟩ : ∃ Qc mc ms, mz_E Γ Qc mc ms (mz_A ρ mz_lay2))
  refine mz_go FLX9 KLX9 C [(0, .iload_n 0), (1, .bipush 10)] (by decide +kernel) (pc' := 3) (L' := [(0, .int a)]) (st' := [.int 10, .int a]) rfl ?_
  refine mz_ilt (off := 7) (tgt := 10) C (by decide +kernel) (by decide) (fun h1 => ?_) (fun h1 => ?_)
  · refine mz_go FLX9 KLX9 C [(10, .iload_n 0)] (by decide +kernel) (pc' := 11) (L' := [(0, .int a)]) (st' := [.int a]) rfl ?_
    exact mz_iret C E (by decide +kernel) (by unfold g_X9_habitBehind; rw [if_pos h1]; try rfl) (rfl)
  · refine mz_go FLX9 KLX9 C [(6, .iconst 1), (7, .goto 4)] (by decide +kernel) (pc' := 11) (L' := [(0, .int a)]) (st' := [.int 1]) rfl ?_
    exact mz_iret C E (by decide +kernel) (by unfold g_X9_habitBehind; rw [if_neg h1]; try rfl) (rfl)
def g_X9_fold (M : mz_Mem) (d : Int64) (v : Int64) : Int64 := ((d * 31) + v)
set_option maxHeartbeats 4000000 in
theorem f_X9_fold (l : Launch) (D : va_G) (cA : Nat → ClassId) (ρ : Nat → Nat) (hI : mz_I ρ mz_lay2) (M : mz_Mem) (d : Int64) (v : Int64) : mz_M l D vwCl cA ρ mz_lay2 yX9_fold cX9_fold 4 (some .long) 0 0 [.long d, .long v] M (some (.long (g_X9_fold M d v))) M := by
  refine mz_in0 (by decide +kernel) (Nat.le_of_ble_eq_true rfl) (fun Γ C E => ?_)
  have E' := (⟨_, _, _, E⟩ : ∃ Qc mc ms, mz_E Γ Qc mc ms (mz_A ρ mz_lay2))
  refine mz_go FLX9 KLX9 C [(0, .lload_n 0), (1, .ldc2_w 398), (4, .lmul), (5, .lload_n 2), (6, .ladd)] (by decide +kernel) (pc' := 7) (L' := [(0, .long d), (2, .long v)]) (st' := [.long ((d * 31) + v)]) rfl ?_
  exact mz_lret C E (by decide +kernel) (rfl) (rfl)
