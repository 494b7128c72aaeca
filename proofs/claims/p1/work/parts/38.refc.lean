def mz_h0 : mz_Lay := mz_ls (fun _ => none) 0 (mz_o 10 [some none, some none, some none, some none, some none, some none, some none, some none, none, none, none, none, none, none, none, none])
def mz_h1 : mz_Lay := mz_ls mz_h0 1 (mz_a 8)
def mz_h2 : mz_Lay := mz_ls mz_h1 0 (mz_o 10 [some (some 1), some none, some none, some none, some none, some none, some none, some none, none, none, none, none, none, none, none, none])
def mz_h3 : mz_Lay := mz_lr mz_h2 2 8 8
def mz_h4 : mz_Lay := mz_ls mz_h3 0 (mz_o 10 [some (some 1), some (some 2), some none, some none, some none, some none, some none, some none, none, none, none, none, none, none, none, none])
def mz_h5 : mz_Lay := mz_lr mz_h4 11 8 8
def mz_h6 : mz_Lay := mz_ls mz_h5 0 (mz_o 10 [some (some 1), some (some 2), some (some 11), some none, some none, some none, some none, some none, none, none, none, none, none, none, none, none])
def mz_h7 : mz_Lay := mz_lr mz_h6 20 5 4
def mz_h8 : mz_Lay := mz_ls mz_h7 0 (mz_o 10 [some (some 1), some (some 2), some (some 11), some (some 20), some none, some none, some none, some none, none, none, none, none, none, none, none, none])
def mz_h9 : mz_Lay := mz_lr mz_h8 26 4 5
def mz_h10 : mz_Lay := mz_ls mz_h9 0 (mz_o 10 [some (some 1), some (some 2), some (some 11), some (some 20), some (some 26), some none, some none, some none, none, none, none, none, none, none, none, none])
def mz_h11 : mz_Lay := mz_lr mz_h10 31 12 10
def mz_h12 : mz_Lay := mz_ls mz_h11 0 (mz_o 10 [some (some 1), some (some 2), some (some 11), some (some 20), some (some 26), some (some 31), some none, some none, none, none, none, none, none, none, none, none])
def mz_h13 : mz_Lay := mz_lr mz_h12 44 12 7
def mz_h14 : mz_Lay := mz_ls mz_h13 0 (mz_o 10 [some (some 1), some (some 2), some (some 11), some (some 20), some (some 26), some (some 31), some (some 44), some none, none, none, none, none, none, none, none, none])
def mz_h15 : mz_Lay := mz_lr mz_h14 57 12 12
def mz_h16 : mz_Lay := mz_ls mz_h15 0 (mz_o 10 [some (some 1), some (some 2), some (some 11), some (some 20), some (some 26), some (some 31), some (some 44), some (some 57), none, none, none, none, none, none, none, none])
set_option maxHeartbeats 4000000 in
theorem r_House (l : Launch) (D : va_G) (cA : Nat → ClassId) (x : Nat) : mz_J l D vwCl cA yX10_init cX10_init 1 none 1 13 69 585 [.ref x] (mz_S D vwCl cA x mz_h0 1 mz_Z) none (mz_S D vwCl cA x mz_h16 70 mz_Z) (fun q => x ≤ q) := by
  refine mz_introJ (ρ := fun k => x + k) (As0 := [.ref 0]) (by decide +kernel) (Nat.le_of_ble_eq_true rfl) rfl (fun Γ C hO E hN => ?_)
  have E' := (⟨_, _, _, E⟩ : ∃ Qc mc ms, mz_E Γ Qc mc ms (fun q => x ≤ q))
  refine mz_goP (lay := mz_h0) (M := mz_Z) (cA := cA) (D := D) (cl := vwCl) (fun H h => h.1) FLX10 KLX10 C [(0, .aload_n 0)] (by decide +kernel) (pc' := 1) (L' := [(0, .ref 0)]) (st' := [.ref 0]) rfl ?_
  refine mz_objI (index := 3) C (mz_in 1199 (by decide +kernel) (by decide +kernel)) (mz_in 87 (by decide +kernel) (by decide +kernel)) (mz_in 88 (by decide +kernel) (by decide +kernel)) (by decide +kernel) (Nat.le_of_ble_eq_true rfl) (Nat.le_of_ble_eq_true rfl) ?_
  refine mz_goP (lay := mz_h0) (M := mz_Z) (cA := cA) (D := D) (cl := vwCl) (fun H h => h.1) FLX10 KLX10 C [(4, .aload_n 0), (5, .bipush 8)] (by decide +kernel) (pc' := 7) (L' := [(0, .ref 0)]) (st' := [.int 8, .ref 0]) rfl ?_
  refine mz_newaP (fun H h => h.1) (nn := 1) (N := 8) (t0 := 0) (fun H h => h.2) (P' := mz_S D vwCl cA x mz_h1 2 mz_Z) (fun H H1 hp h z _ => ⟨by rw [mz_s_z (M := mz_Z) rfl] at h; exact h, by have := hp.2; omega⟩) C rfl (mz_in 105 (by decide +kernel) (by decide +kernel)) (by decide) rfl (by decide) (Nat.le_of_ble_eq_true rfl) (Nat.le_of_ble_eq_true rfl) (by decide +kernel) ?_
  refine mz_putrP (lay := mz_h1) (M := mz_Z) (fun H h => h.1) (id := 0) (ci := 10) (j := 0) (r := 1) (N := 16) (T := TX10) (ty := tyX10 0) (fs := [some none, some none, some none, some none, some none, some none, some none, some none, none, none, none, none, none, none, none, none]) (P' := mz_S D vwCl cA x mz_h2 2 mz_Z) (fun H H1 hp h z _ => ⟨h, by have := hp.2; omega⟩) C E' (Nat.le_add_right _ _) mz_Ix rfl (by decide) rfl (by decide) iu_X10 tyX10 tyX10_ok nmX10 wf_X10_9 (Or.inr ⟨rfl, ⟨_, rfl, hN⟩, rfl⟩) (by decide +kernel) (fun _ => rfl) (fun _ => rfl) (by decide +kernel) ?_
  refine mz_goP (lay := mz_h2) (M := mz_Z) (cA := cA) (D := D) (cl := vwCl) (fun H h => h.1) FLX10 KLX10 C [(12, .aload_n 0), (13, .bipush 8), (15, .bipush 8)] (by decide +kernel) (pc' := 17) (L' := [(0, .ref 0)]) (st' := [.int 8, .int 8, .ref 0]) rfl ?_
  refine mz_newr (index := 15) (lay := mz_h2) (M := mz_Z) (na := 2) (N := 8) (K := 8) (fun H h => h.1) (fun H h => h.2) (fun _ _ => (Nat.add_assoc _ _ _).symm) (fun _ _ _ => rfl) (P' := mz_S D vwCl cA x mz_h3 11 mz_Z) (fun H H1 hp h z _ => ⟨h, by have := hp.2; omega⟩) C hO (mz_in 1200 (by decide +kernel) (by decide +kernel)) (mz_in 105 (by decide +kernel) (by decide +kernel)) (by decide) (by decide) rfl rfl (by decide) (by decide) (Nat.le_of_ble_eq_true rfl) (Nat.le_of_ble_eq_true rfl) (by decide +kernel) ?_
  refine mz_putrP (lay := mz_h3) (M := mz_Z) (fun H h => h.1) (id := 0) (ci := 10) (j := 1) (r := 2) (N := 16) (T := TX10) (ty := tyX10 1) (fs := [some (some 1), some none, some none, some none, some none, some none, some none, some none, none, none, none, none, none, none, none, none]) (P' := mz_S D vwCl cA x mz_h4 11 mz_Z) (fun H H1 hp h z _ => ⟨h, by have := hp.2; omega⟩) C E' (Nat.le_add_right _ _) mz_Ix rfl (by decide) rfl (by decide) iu_X10 tyX10 tyX10_ok nmX10 wf_X10_17 (Or.inr ⟨rfl, ⟨_, rfl, hN⟩, rfl⟩) (by decide +kernel) (fun _ => rfl) (fun _ => rfl) (by decide +kernel) ?_
  refine mz_goP (lay := mz_h4) (M := mz_Z) (cA := cA) (D := D) (cl := vwCl) (fun H h => h.1) FLX10 KLX10 C [(24, .aload_n 0), (25, .bipush 8), (27, .bipush 8)] (by decide +kernel) (pc' := 29) (L' := [(0, .ref 0)]) (st' := [.int 8, .int 8, .ref 0]) rfl ?_
  refine mz_newr (index := 15) (lay := mz_h4) (M := mz_Z) (na := 11) (N := 8) (K := 8) (fun H h => h.1) (fun H h => h.2) (fun _ _ => (Nat.add_assoc _ _ _).symm) (fun _ _ _ => rfl) (P' := mz_S D vwCl cA x mz_h5 20 mz_Z) (fun H H1 hp h z _ => ⟨h, by have := hp.2; omega⟩) C hO (mz_in 1200 (by decide +kernel) (by decide +kernel)) (mz_in 105 (by decide +kernel) (by decide +kernel)) (by decide) (by decide) rfl rfl (by decide) (by decide) (Nat.le_of_ble_eq_true rfl) (Nat.le_of_ble_eq_true rfl) (by decide +kernel) ?_
  refine mz_putrP (lay := mz_h5) (M := mz_Z) (fun H h => h.1) (id := 0) (ci := 10) (j := 2) (r := 11) (N := 16) (T := TX10) (ty := tyX10 2) (fs := [some (some 1), some (some 2), some none, some none, some none, some none, some none, some none, none, none, none, none, none, none, none, none]) (P' := mz_S D vwCl cA x mz_h6 20 mz_Z) (fun H H1 hp h z _ => ⟨h, by have := hp.2; omega⟩) C E' (Nat.le_add_right _ _) mz_Ix rfl (by decide) rfl (by decide) iu_X10 tyX10 tyX10_ok nmX10 wf_X10_20 (Or.inr ⟨rfl, ⟨_, rfl, hN⟩, rfl⟩) (by decide +kernel) (fun _ => rfl) (fun _ => rfl) (by decide +kernel) ?_
  refine mz_goP (lay := mz_h6) (M := mz_Z) (cA := cA) (D := D) (cl := vwCl) (fun H h => h.1) FLX10 KLX10 C [(36, .aload_n 0), (37, .iconst 5), (38, .iconst 4)] (by decide +kernel) (pc' := 39) (L' := [(0, .ref 0)]) (st' := [.int 4, .int 5, .ref 0]) rfl ?_
  refine mz_newr (index := 15) (lay := mz_h6) (M := mz_Z) (na := 20) (N := 5) (K := 4) (fun H h => h.1) (fun H h => h.2) (fun _ _ => (Nat.add_assoc _ _ _).symm) (fun _ _ _ => rfl) (P' := mz_S D vwCl cA x mz_h7 26 mz_Z) (fun H H1 hp h z _ => ⟨h, by have := hp.2; omega⟩) C hO (mz_in 1200 (by decide +kernel) (by decide +kernel)) (mz_in 105 (by decide +kernel) (by decide +kernel)) (by decide) (by decide) rfl rfl (by decide) (by decide) (Nat.le_of_ble_eq_true rfl) (Nat.le_of_ble_eq_true rfl) (by decide +kernel) ?_
  refine mz_putrP (lay := mz_h7) (M := mz_Z) (fun H h => h.1) (id := 0) (ci := 10) (j := 3) (r := 20) (N := 16) (T := TX10) (ty := tyX10 3) (fs := [some (some 1), some (some 2), some (some 11), some none, some none, some none, some none, some none, none, none, none, none, none, none, none, none]) (P' := mz_S D vwCl cA x mz_h8 26 mz_Z) (fun H H1 hp h z _ => ⟨h, by have := hp.2; omega⟩) C E' (Nat.le_add_right _ _) mz_Ix rfl (by decide) rfl (by decide) iu_X10 tyX10 tyX10_ok nmX10 wf_X10_23 (Or.inr ⟨rfl, ⟨_, rfl, hN⟩, rfl⟩) (by decide +kernel) (fun _ => rfl) (fun _ => rfl) (by decide +kernel) ?_
  refine mz_goP (lay := mz_h8) (M := mz_Z) (cA := cA) (D := D) (cl := vwCl) (fun H h => h.1) FLX10 KLX10 C [(46, .aload_n 0), (47, .iconst 4), (48, .iconst 5)] (by decide +kernel) (pc' := 49) (L' := [(0, .ref 0)]) (st' := [.int 5, .int 4, .ref 0]) rfl ?_
  refine mz_newr (index := 15) (lay := mz_h8) (M := mz_Z) (na := 26) (N := 4) (K := 5) (fun H h => h.1) (fun H h => h.2) (fun _ _ => (Nat.add_assoc _ _ _).symm) (fun _ _ _ => rfl) (P' := mz_S D vwCl cA x mz_h9 31 mz_Z) (fun H H1 hp h z _ => ⟨h, by have := hp.2; omega⟩) C hO (mz_in 1200 (by decide +kernel) (by decide +kernel)) (mz_in 105 (by decide +kernel) (by decide +kernel)) (by decide) (by decide) rfl rfl (by decide) (by decide) (Nat.le_of_ble_eq_true rfl) (Nat.le_of_ble_eq_true rfl) (by decide +kernel) ?_
  refine mz_putrP (lay := mz_h9) (M := mz_Z) (fun H h => h.1) (id := 0) (ci := 10) (j := 4) (r := 26) (N := 16) (T := TX10) (ty := tyX10 4) (fs := [some (some 1), some (some 2), some (some 11), some (some 20), some none, some none, some none, some none, none, none, none, none, none, none, none, none]) (P' := mz_S D vwCl cA x mz_h10 31 mz_Z) (fun H H1 hp h z _ => ⟨h, by have := hp.2; omega⟩) C E' (Nat.le_add_right _ _) mz_Ix rfl (by decide) rfl (by decide) iu_X10 tyX10 tyX10_ok nmX10 wf_X10_26 (Or.inr ⟨rfl, ⟨_, rfl, hN⟩, rfl⟩) (by decide +kernel) (fun _ => rfl) (fun _ => rfl) (by decide +kernel) ?_
  refine mz_goP (lay := mz_h10) (M := mz_Z) (cA := cA) (D := D) (cl := vwCl) (fun H h => h.1) FLX10 KLX10 C [(56, .aload_n 0), (57, .bipush 12), (59, .bipush 10)] (by decide +kernel) (pc' := 61) (L' := [(0, .ref 0)]) (st' := [.int 10, .int 12, .ref 0]) rfl ?_
  refine mz_newr (index := 15) (lay := mz_h10) (M := mz_Z) (na := 31) (N := 12) (K := 10) (fun H h => h.1) (fun H h => h.2) (fun _ _ => (Nat.add_assoc _ _ _).symm) (fun _ _ _ => rfl) (P' := mz_S D vwCl cA x mz_h11 44 mz_Z) (fun H H1 hp h z _ => ⟨h, by have := hp.2; omega⟩) C hO (mz_in 1200 (by decide +kernel) (by decide +kernel)) (mz_in 105 (by decide +kernel) (by decide +kernel)) (by decide) (by decide) rfl rfl (by decide) (by decide) (Nat.le_of_ble_eq_true rfl) (Nat.le_of_ble_eq_true rfl) (by decide +kernel) ?_
  refine mz_putrP (lay := mz_h11) (M := mz_Z) (fun H h => h.1) (id := 0) (ci := 10) (j := 5) (r := 31) (N := 16) (T := TX10) (ty := tyX10 5) (fs := [some (some 1), some (some 2), some (some 11), some (some 20), some (some 26), some none, some none, some none, none, none, none, none, none, none, none, none]) (P' := mz_S D vwCl cA x mz_h12 44 mz_Z) (fun H H1 hp h z _ => ⟨h, by have := hp.2; omega⟩) C E' (Nat.le_add_right _ _) mz_Ix rfl (by decide) rfl (by decide) iu_X10 tyX10 tyX10_ok nmX10 wf_X10_29 (Or.inr ⟨rfl, ⟨_, rfl, hN⟩, rfl⟩) (by decide +kernel) (fun _ => rfl) (fun _ => rfl) (by decide +kernel) ?_
  refine mz_goP (lay := mz_h12) (M := mz_Z) (cA := cA) (D := D) (cl := vwCl) (fun H h => h.1) FLX10 KLX10 C [(68, .aload_n 0), (69, .bipush 12), (71, .bipush 7)] (by decide +kernel) (pc' := 73) (L' := [(0, .ref 0)]) (st' := [.int 7, .int 12, .ref 0]) rfl ?_
  refine mz_newr (index := 15) (lay := mz_h12) (M := mz_Z) (na := 44) (N := 12) (K := 7) (fun H h => h.1) (fun H h => h.2) (fun _ _ => (Nat.add_assoc _ _ _).symm) (fun _ _ _ => rfl) (P' := mz_S D vwCl cA x mz_h13 57 mz_Z) (fun H H1 hp h z _ => ⟨h, by have := hp.2; omega⟩) C hO (mz_in 1200 (by decide +kernel) (by decide +kernel)) (mz_in 105 (by decide +kernel) (by decide +kernel)) (by decide) (by decide) rfl rfl (by decide) (by decide) (Nat.le_of_ble_eq_true rfl) (Nat.le_of_ble_eq_true rfl) (by decide +kernel) ?_
  refine mz_putrP (lay := mz_h13) (M := mz_Z) (fun H h => h.1) (id := 0) (ci := 10) (j := 6) (r := 44) (N := 16) (T := TX10) (ty := tyX10 6) (fs := [some (some 1), some (some 2), some (some 11), some (some 20), some (some 26), some (some 31), some none, some none, none, none, none, none, none, none, none, none]) (P' := mz_S D vwCl cA x mz_h14 57 mz_Z) (fun H H1 hp h z _ => ⟨h, by have := hp.2; omega⟩) C E' (Nat.le_add_right _ _) mz_Ix rfl (by decide) rfl (by decide) iu_X10 tyX10 tyX10_ok nmX10 wf_X10_32 (Or.inr ⟨rfl, ⟨_, rfl, hN⟩, rfl⟩) (by decide +kernel) (fun _ => rfl) (fun _ => rfl) (by decide +kernel) ?_
  refine mz_goP (lay := mz_h14) (M := mz_Z) (cA := cA) (D := D) (cl := vwCl) (fun H h => h.1) FLX10 KLX10 C [(80, .aload_n 0), (81, .bipush 12), (83, .bipush 12)] (by decide +kernel) (pc' := 85) (L' := [(0, .ref 0)]) (st' := [.int 12, .int 12, .ref 0]) rfl ?_
  refine mz_newr (index := 15) (lay := mz_h14) (M := mz_Z) (na := 57) (N := 12) (K := 12) (fun H h => h.1) (fun H h => h.2) (fun _ _ => (Nat.add_assoc _ _ _).symm) (fun _ _ _ => rfl) (P' := mz_S D vwCl cA x mz_h15 70 mz_Z) (fun H H1 hp h z _ => ⟨h, by have := hp.2; omega⟩) C hO (mz_in 1200 (by decide +kernel) (by decide +kernel)) (mz_in 105 (by decide +kernel) (by decide +kernel)) (by decide) (by decide) rfl rfl (by decide) (by decide) (Nat.le_of_ble_eq_true rfl) (Nat.le_of_ble_eq_true rfl) (by decide +kernel) ?_
  refine mz_putrP (lay := mz_h15) (M := mz_Z) (fun H h => h.1) (id := 0) (ci := 10) (j := 7) (r := 57) (N := 16) (T := TX10) (ty := tyX10 7) (fs := [some (some 1), some (some 2), some (some 11), some (some 20), some (some 26), some (some 31), some (some 44), some none, none, none, none, none, none, none, none, none]) (P' := mz_S D vwCl cA x mz_h16 70 mz_Z) (fun H H1 hp h z _ => ⟨h, by have := hp.2; omega⟩) C E' (Nat.le_add_right _ _) mz_Ix rfl (by decide) rfl (by decide) iu_X10 tyX10 tyX10_ok nmX10 wf_X10_35 (Or.inr ⟨rfl, ⟨_, rfl, hN⟩, rfl⟩) (by decide +kernel) (fun _ => rfl) (fun _ => rfl) (by decide +kernel) ?_
  refine mz_widen (k' := 69) (n' := 585) (by decide) (by decide) ?_
  exact mz_jvret C E (by decide +kernel) (fun H h => h)
-- House: 69 cells, 585 slots, 70 numbers, mz_h16
abbrev mz_layH : mz_Lay := mz_h16
theorem mz_layH_lt {k : Nat} {sh : mz_Sh} (h : mz_layH k = some sh) : k < 70 := by
  apply Classical.byContradiction
  intro hk
  have e : mz_layH k = none := by
    simp only [mz_layH, mz_h0, mz_h1, mz_h2, mz_h3, mz_h4, mz_h5, mz_h6, mz_h7, mz_h8, mz_h9, mz_h10, mz_h11, mz_h12, mz_h13, mz_h14, mz_h15, mz_h16, mz_ls, mz_lr]
    repeat rw [if_neg (by omega)]
  rw [e] at h
  cases h
def mz_layR : mz_Lay := fun k => match k with
  | 0 => some (mz_o 11 [none, some (some 1)])
  | k + 1 => (mz_layH k).map (mz_shm (fun j => j + 1))
theorem mz_layR_lt {k : Nat} {sh : mz_Sh} (h : mz_layR k = some sh) : k < 71 := by
  rcases k with _ | k
  · omega
  · obtain ⟨s0, h0, -⟩ := Option.map_eq_some_iff.mp (show (mz_layH k).map (mz_shm (fun j => j + 1)) = some sh from h)
    have := mz_layH_lt h0
    omega
theorem mz_HR {D : va_G} {cA : Nat → ClassId} {x : Nat} {M : mz_Mem} {H : Heap} : mz_H D vwCl cA (fun k => x + k) mz_layR M H ↔ (va_at D vwCl (x, mz_ent cA (fun k => x + k) M 0 (mz_o 11 [none, some (some 1)])) H ∧ mz_H D vwCl cA (fun k => x + 1 + k) mz_layH (fun k => M (k + 1)) H) := by
  have key : ∀ (k : Nat) (sh : mz_Sh), mz_ent cA (fun k => x + 1 + k) (fun k => M (k + 1)) k sh = mz_ent cA (fun k => x + k) M (k + 1) (mz_shm (fun j => j + 1) sh) := fun k sh => by
    have e : (fun k => x + 1 + k) = (fun k => (fun k => x + k) ((fun j => j + 1) k)) := by funext k; show x + 1 + k = x + (k + 1); omega
    rw [e]
    exact mz_ent_lift cA (fun k => x + k) (fun j => j + 1) sh rfl
  constructor
  · intro h
    refine ⟨h 0 _ rfl, fun k sh hk => ?_⟩
    rw [key]
    show va_at D vwCl (x + 1 + k, _) H
    rw [show x + 1 + k = x + (k + 1) by omega]
    exact h (k + 1) _ (by show (mz_layH k).map _ = _; rw [hk]; rfl)
  · rintro ⟨h0, h1⟩ k sh hk
    rcases k with _ | k
    · cases hk; exact h0
    · obtain ⟨s0, h2, rfl⟩ := Option.map_eq_some_iff.mp (show (mz_layH k).map (mz_shm (fun j => j + 1)) = some sh from hk)
      have h9 := h1 k s0 h2
      rw [key] at h9
      have h10 : va_at D vwCl (x + 1 + k, mz_ent cA (fun k => x + k) M (k + 1) (mz_shm (fun j => j + 1) s0)) H := h9
      rw [show x + 1 + k = x + (k + 1) by omega] at h10
      exact h10
