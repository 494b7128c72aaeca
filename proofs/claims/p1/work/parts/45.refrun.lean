def mz_P (v : Int32) : mz_Mem := fun k j => if k = 1 ∧ j = 8 then v else 0
theorem mz_P0 : mz_P 0 = mz_Z := by
  funext k j
  unfold mz_P mz_Z
  split <;> rfl
theorem mz_P_1 (v : Int32) : (fun k => mz_P v (k + 1)) = mz_Nv v := by
  funext k j
  show (if k + 1 = 1 ∧ j = 8 then v else 0) = (if k = 0 ∧ j = 8 then v else 0)
  split <;> split <;> first | rfl | (exfalso; omega)
theorem mz_P_step {D : va_G} {cA : Nat → ClassId} {x : Nat} {v w : Int32} {H H' : Heap} (h : mz_H D vwCl cA (fun k => x + k) mz_layR (mz_P v) H) (hq : mz_H D vwCl cA (fun k => x + 1 + k) mz_layH (mz_Nv w) H') (hk : ∀ q, q < H.size → ¬ (x + 1 ≤ q ∧ q < x + 1 + 70) → H'[q]? = H[q]?) : mz_H D vwCl cA (fun k => x + k) mz_layR (mz_P w) H' := by
  refine mz_HR.mpr ⟨?_, by rw [mz_P_1]; exact hq⟩
  have h0 := (mz_HR.mp h).1
  have e : mz_ent cA (fun k => x + k) (mz_P w) 0 (mz_o 11 [none, some (some 1)]) = mz_ent cA (fun k => x + k) (mz_P v) 0 (mz_o 11 [none, some (some 1)]) := rfl
  rw [e]
  exact h0.kept (hk _ h0.lt (by show ¬ (x + 1 ≤ x ∧ x < x + 1 + 70); omega))
theorem mz_stop {a : Int32} {j : Nat} {N : Nat} (hN : N < 2 ^ 31) (h : a ≤ nI N) (g : ¬ a ≤ nI j) (hj : j < 2 ^ 31) : j < N := by
  rw [Int32.le_iff_toInt_le, nI_toInt hj] at g
  rw [Int32.le_iff_toInt_le, nI_toInt hN] at h
  omega
theorem mz_end {a : Int32} {j N : Nat} (hN : N < 2 ^ 31) (h : a ≤ nI N) (hj : N ≤ j) (hj2 : j < 2 ^ 31) : a ≤ nI j := by
  rw [Int32.le_iff_toInt_le, nI_toInt hj2]
  rw [Int32.le_iff_toInt_le, nI_toInt hN] at h
  omega
theorem mz_600 {a : Int32} (h : 1 ≤ a ∧ a ≤ 60) : 0 + a ≤ 600 := by
  have h1 := h.1
  have h2 := h.2
  have e : (0 + a : Int32) = a := by simp
  rw [e]
  have e1 : (600 : Int32).toInt = 600 := by decide
  have e2 : (60 : Int32).toInt = 60 := by decide
  rw [Int32.le_iff_toInt_le] at h2 ⊢
  omega
set_option maxHeartbeats 8000000 in
theorem q_pass (l : Launch) (D : va_G) (cA : Nat → ClassId) (x z : Nat) (a : Int32) (h : 1 ≤ a ∧ a ≤ 60) : mz_J l D vwCl cA yX11_pass cX11_pass 4 (some .int) 2 45 540 4320 [.ref x, .int a] (fun H => mz_H D vwCl cA (fun k => x + k) mz_layR mz_Z H ∧ H.size = z) (some (.int 0)) (fun H => ∃ M : mz_Mem, M 0 0 = 0 ∧ mz_H D vwCl cA (fun k => x + k) mz_layR M H) (fun q => (x ≤ q ∧ q < x + 71) ∨ z ≤ q) := by
  refine mz_introJ (ρ := (fun k => x + k)) (As0 := [.ref 0, .int a]) (by decide +kernel) (Nat.le_of_ble_eq_true rfl) rfl (fun Γ C hO E hN => ?_)
  have E' := (⟨_, _, _, E⟩ : ∃ Qc mc ms, mz_E Γ Qc mc ms (fun q => (x ≤ q ∧ q < x + 71) ∨ z ≤ q))
  have loop : ∀ r j : Nat, 60 - j ≤ r → j ≤ 60 → mz_W Γ (fun k => x + k) 4 (9 * j) (72 * j) (fun H => mz_H D vwCl cA (fun k => x + k) mz_layR (mz_P (nI j)) H ∧ z ≤ H.size) 46 [(3, .int (nI j)), (2, .int 0), (0, .ref 0), (1, .int a)] [] := by
    intro r
    induction r with
    | zero =>
      intro j h1 h2
      refine mz_goP (lay := mz_layR) (M := (mz_P (nI j))) (cA := cA) (D := D) (cl := vwCl) (fun H h => h.1) FLX11 KLX11 C [(46, .iload_n 3), (47, .iload_n 1)] (by decide +kernel) (pc' := 48) (L' := [(3, .int (nI j)), (2, .int 0), (0, .ref 0), (1, .int a)]) (st' := [.int a, .int (nI j)]) rfl ?_
      refine mz_ige (off := 19) (tgt := 67) C (by decide +kernel) (by decide) (fun q => ?_) (fun q => ?_)
      · refine mz_goP (lay := mz_layR) (M := (mz_P (nI j))) (cA := cA) (D := D) (cl := vwCl) (fun H h => h.1) FLX11 KLX11 C [(67, .iload_n 2)] (by decide +kernel) (pc' := 68) (L' := [(3, .int (nI j)), (2, .int 0), (0, .ref 0), (1, .int a)]) (st' := [.int 0]) rfl ?_
        refine mz_widen (k' := 540) (n' := 4320) (by omega) (by omega) ?_
        exact mz_jiret C E (by decide +kernel) rfl (fun H h => ⟨_, rfl, h.1⟩)
      · exact absurd (mz_end (N := 60) (by decide) h.2 (by omega) (by omega)) q
    | succ r ih =>
      intro j h1 h2
      refine mz_goP (lay := mz_layR) (M := (mz_P (nI j))) (cA := cA) (D := D) (cl := vwCl) (fun H h => h.1) FLX11 KLX11 C [(46, .iload_n 3), (47, .iload_n 1)] (by decide +kernel) (pc' := 48) (L' := [(3, .int (nI j)), (2, .int 0), (0, .ref 0), (1, .int a)]) (st' := [.int a, .int (nI j)]) rfl ?_
      refine mz_ige (off := 19) (tgt := 67) C (by decide +kernel) (by decide) (fun q => ?_) (fun q => ?_)
      · refine mz_goP (lay := mz_layR) (M := (mz_P (nI j))) (cA := cA) (D := D) (cl := vwCl) (fun H h => h.1) FLX11 KLX11 C [(67, .iload_n 2)] (by decide +kernel) (pc' := 68) (L' := [(3, .int (nI j)), (2, .int 0), (0, .ref 0), (1, .int a)]) (st' := [.int 0]) rfl ?_
        refine mz_widen (k' := 540) (n' := 4320) (by omega) (by omega) ?_
        exact mz_jiret C E (by decide +kernel) rfl (fun H h => ⟨_, rfl, h.1⟩)
      have hj : j < 60 := mz_stop (by decide) h.2 q (by omega)
      refine mz_goP (lay := mz_layR) (M := (mz_P (nI j))) (cA := cA) (D := D) (cl := vwCl) (fun H h => h.1) FLX11 KLX11 C [(51, .iload_n 2), (52, .aload_n 0), (53, .getfield 10)] (by decide +kernel) (pc' := 56) (L' := [(3, .int (nI j)), (2, .int 0), (0, .ref 0), (1, .int a)]) (st' := [.ref 1, .int 0]) rfl ?_
      refine mz_fix (fun z1 => ?_)
      refine mz_and (q := x + 71 ≤ z1 ∧ z ≤ z1) (fun H h => ⟨by rw [← h.2]; exact mz_Rsz h.1.1, by rw [← h.2]; exact h.1.2⟩) (fun hz1 => ?_)
      refine mz_callJ (As := []) (rest := [.int 0]) (ci := 10) (index := 98) (T := TX10) (N := 16) C hO E' (r_go l D cA (x + 1) z1 (nI j) (by omega)) (fun q h => Or.inl (by omega)) (fun H h => ⟨by have h9 := (mz_HR.mp h.1.1).2; rw [mz_P_1] at h9; exact h9, h.2⟩) (fun H h => ⟨_, h.1.1 1 _ rfl⟩) (P' := (fun H => mz_H D vwCl cA (fun k => x + k) mz_layR (mz_P (nI j + 1)) H ∧ z ≤ H.size)) (fun H H' hp hq hz2 hk => ⟨mz_P_step hp.1.1 hq hk, Nat.le_trans hp.1.2 hz2⟩) hy_X10_go wl_X11_98 rfl rfl ⟨Nat.le_of_ble_eq_true rfl, Nat.le_of_ble_eq_true rfl⟩ ⟨by show 9 * j + 9 ≤ 540; omega, by show 72 * j + 72 ≤ 4320; omega⟩ (Nat.le_of_ble_eq_true rfl) (by decide +kernel) (st' := [.int 0, .int 0]) ?_ rfl rfl
      refine mz_goP (lay := mz_layR) (M := (mz_P (nI j + 1))) (cA := cA) (D := D) (cl := vwCl) (fun H h => h.1) FLX11 KLX11 C [(59, .iadd), (60, .istore_n 2), (61, .iinc 3 1), (64, .goto (-18))] (by decide +kernel) (pc' := 46) (L' := [(3, .int ((nI j) + 1)), (2, .int (0 + 0)), (0, .ref 0), (1, .int a)]) (st' := []) rfl ?_
      rw [nI_1, show (0 + 0 : Int32) = 0 from rfl]
      refine mz_sub (L' := [(3, .int (nI (j + 1))), (2, .int 0), (0, .ref 0), (1, .int a)]) (fun q h => by simp at h ⊢; rcases h with rfl | rfl | rfl | rfl <;> simp) ?_
      have q9 := ih (j + 1) (by omega) (by omega)
      rw [show 9 * (j + 1) = 9 * j + 9 by omega, show 72 * (j + 1) = 72 * j + 72 by omega] at q9
      exact q9
  refine mz_mono (P' := (fun H => mz_H D vwCl cA (fun k => x + k) mz_layR mz_Z H ∧ z ≤ H.size)) (fun H h => ⟨h.1, Nat.le_of_eq h.2.symm⟩) ?_
  refine mz_goP (lay := mz_layR) (M := mz_Z) (cA := cA) (D := D) (cl := vwCl) (fun H h => h.1) FLX11 KLX11 C [(0, .aload_n 0), (1, .iconst 0)] (by decide +kernel) (pc' := 2) (L' := [(0, .ref 0), (1, .int a)]) (st' := [.int 0, .ref 0]) rfl ?_
  refine mz_putP (fun H h => h.1) (lay := mz_layR) (M := mz_Z) (id := 0) (ci := 11) (j := 0) (N := 2) (T := TX11) (fs := [none, some (some 1)]) (P' := (fun H => mz_H D vwCl cA (fun k => x + k) mz_layR mz_Z H ∧ z ≤ H.size)) (fun H H1 hp h e _ => ⟨by rw [mz_Z_up] at h; exact h, by rw [e]; exact hp.2⟩) C E' (Or.inl ⟨Nat.le_add_right _ _, by show x + 0 < x + 71; omega⟩) mz_Ix rfl rfl rfl (by decide) iu_X11 tyX11 tyX11_ok nmX11 wf_X11_16 rfl rfl (by decide +kernel) ?_
  refine mz_goP (lay := mz_layR) (M := mz_Z) (cA := cA) (D := D) (cl := vwCl) (fun H h => h.1) FLX11 KLX11 C [(5, .iload_n 1), (6, .iconst 1), (7, .bipush 60)] (by decide +kernel) (pc' := 9) (L' := [(0, .ref 0), (1, .int a)]) (st' := [.int 60, .int 1, .int a]) rfl ?_
  refine mz_callJS (index := 23) (As := [.int a, .int 1, .int 60]) (rest := []) C hO E' (r_in1 l D cA a 1 60 h) (fun _ h => h.elim) (fun _ _ => trivial) (P' := (fun H => mz_H D vwCl cA (fun k => x + k) mz_layR mz_Z H ∧ z ≤ H.size)) (fun H H' hp _ hz hk => ⟨mz_keep hp.1 hk, Nat.le_trans hp.2 hz⟩) hs_X11_in wl_X11_23 rfl ⟨Nat.le_of_ble_eq_true rfl, Nat.le_of_ble_eq_true rfl⟩ ⟨Nat.le_of_ble_eq_true rfl, Nat.le_of_ble_eq_true rfl⟩ (Nat.le_of_ble_eq_true rfl) (by decide +kernel) (st' := [.int 1]) ?_ rfl rfl
  refine mz_zne (off := 9) (tgt := 21) C (by decide +kernel) (by decide) (fun _ => ?_) (fun q => absurd q (by decide))
  refine mz_goP (lay := mz_layR) (M := mz_Z) (cA := cA) (D := D) (cl := vwCl) (fun H h => h.1) FLX11 KLX11 C [(21, .aload_n 0), (22, .getfield 10), (25, .getfield 76), (28, .iload_n 1), (29, .iadd), (30, .sipush 600)] (by decide +kernel) (pc' := 33) (L' := [(0, .ref 0), (1, .int a)]) (st' := [.int 600, .int (0 + a)]) rfl ?_
  refine mz_ile (off := 9) (tgt := 42) C (by decide +kernel) (by decide) (fun _ => ?_) (fun q => absurd (mz_600 h) q)
  refine mz_goP (lay := mz_layR) (M := mz_Z) (cA := cA) (D := D) (cl := vwCl) (fun H h => h.1) FLX11 KLX11 C [(42, .iconst 0), (43, .istore_n 2), (44, .iconst 0), (45, .istore_n 3)] (by decide +kernel) (pc' := 46) (L' := [(3, .int 0), (2, .int 0), (0, .ref 0), (1, .int a)]) (st' := []) rfl ?_
  have q9 := loop 60 0 (by omega) (by omega)
  rw [show nI 0 = 0 from rfl, mz_P0] at q9
  refine mz_sub (L' := [(3, .int 0), (2, .int 0), (0, .ref 0), (1, .int a)]) (fun q h => by simp at h ⊢; rcases h with rfl | rfl | rfl | rfl <;> simp) ?_
  exact q9
set_option maxHeartbeats 8000000 in
theorem r_cutNow (l : Launch) (D : va_G) (cA : Nat → ClassId) (x z : Nat) (a : Int32) (hz : x + 71 ≤ z) (h : 1 ≤ a ∧ a ≤ 40) : mz_J l D vwCl cA yX11_cutNow cX11_cutNow 4 (some .int) 3 121 430 3481 [.ref x, .int a] (fun H => mz_H D vwCl cA (fun k => x + k) mz_layR mz_Z H ∧ H.size = z) (some (.int 0)) (mz_H D vwCl cA (fun k => x + k) mz_layR mz_Z) (fun q => z ≤ q) := by
  refine mz_introJ (ρ := (fun k => x + k)) (As0 := [.ref 0, .int a]) (by decide +kernel) (Nat.le_of_ble_eq_true rfl) rfl (fun Γ C hO E hN => ?_)
  have E' := (⟨_, _, _, E⟩ : ∃ Qc mc ms, mz_E Γ Qc mc ms (fun q => z ≤ q))
  have hxz : x + (z - x) = z := by omega
  have loop : ∀ r j : Nat, 40 - j ≤ r → j ≤ 40 → mz_W Γ (fun k => x + k) 4 (70 + 9 * j) (601 + 72 * j) (fun H => mz_H D vwCl cA (fun k => x + k) mz_layR mz_Z H ∧ mz_H D vwCl cA (fun k => z + k) mz_layH (mz_Nv (nI j)) H) 10 [(3, .int (nI j)), (2, .ref (z - x)), (0, .ref 0), (1, .int a)] [] := by
    intro r
    induction r with
    | zero =>
      intro j h1 h2
      refine mz_goP (lay := mz_layR) (M := mz_Z) (cA := cA) (D := D) (cl := vwCl) (fun H h => h.1) FLX11 KLX11 C [(10, .iload_n 3), (11, .iload_n 1)] (by decide +kernel) (pc' := 12) (L' := [(3, .int (nI j)), (2, .ref (z - x)), (0, .ref 0), (1, .int a)]) (st' := [.int a, .int (nI j)]) rfl ?_
      refine mz_ige (off := 14) (tgt := 26) C (by decide +kernel) (by decide) (fun q => ?_) (fun q => ?_)
      · refine mz_goP (lay := mz_layR) (M := mz_Z) (cA := cA) (D := D) (cl := vwCl) (fun H h => h.1) FLX11 KLX11 C [(26, .aload_n 2), (27, .aload_n 2)] (by decide +kernel) (pc' := 28) (L' := [(3, .int (nI j)), (2, .ref (z - x)), (0, .ref 0), (1, .int a)]) (st' := [.ref (z - x), .ref (z - x)]) rfl ?_
        refine mz_getA (ci := 10) (j := 5) (N := 16) (T := TX10) (fs := ((mz_fs (mz_Nv (nI j) 0) [some (some 1), some (some 2), some (some 11), some (some 20), some (some 26), some (some 31), some (some 44), some (some 57), none, none, none, none, none, none, none, none]).map (mz_e (fun k => z + k)))) (v := .ref (z - x + 31)) C (fun H h => by show va_at D vwCl (x + (z - x), _) H; rw [hxz]; exact h.2 0 _ rfl) rfl (by decide) iu_X10 wf_X11_79 (by show some (Value.ref (z + 31)) = some (Value.ref (x + (z - x + 31))); rw [show x + (z - x + 31) = z + 31 by omega]) (by decide +kernel) ?_
        refine mz_goP (lay := mz_layR) (M := mz_Z) (cA := cA) (D := D) (cl := vwCl) (fun H h => h.1) FLX11 KLX11 C [(31, .aload_n 2)] (by decide +kernel) (pc' := 32) (L' := [(3, .int (nI j)), (2, .ref (z - x)), (0, .ref 0), (1, .int a)]) (st' := [.ref (z - x), .ref (z - x + 31), .ref (z - x)]) rfl ?_
        refine mz_getA (ci := 10) (j := 13) (N := 16) (T := TX10) (fs := ((mz_fs (mz_Nv (nI j) 0) [some (some 1), some (some 2), some (some 11), some (some 20), some (some 26), some (some 31), some (some 44), some (some 57), none, none, none, none, none, none, none, none]).map (mz_e (fun k => z + k)))) (v := .int 0) C (fun H h => by show va_at D vwCl (x + (z - x), _) H; rw [hxz]; exact h.2 0 _ rfl) rfl (by decide) iu_X10 wf_X11_33 rfl (by decide +kernel) ?_
        refine mz_goP (lay := mz_layR) (M := mz_Z) (cA := cA) (D := D) (cl := vwCl) (fun H h => h.1) FLX11 KLX11 C [(35, .bipush 9)] (by decide +kernel) (pc' := 37) (L' := [(3, .int (nI j)), (2, .ref (z - x)), (0, .ref 0), (1, .int a)]) (st' := [.int 9, .int 0, .ref (z - x + 31), .ref (z - x)]) rfl ?_
        refine mz_callJ (As := [.ref (x + (z - x + 31)), .int 0, .int 9]) (rest := []) (ci := 10) (index := 164) (T := TX10) (N := 16) C hO E' (r_sum l D cA (x + (z - x + 31)) z 9) (fun _ h => h.elim) (fun _ _ => trivial) (fun H h => ⟨_, h.2 0 _ rfl⟩) (P' := (fun H => mz_H D vwCl cA (fun k => x + k) mz_layR mz_Z H ∧ mz_H D vwCl cA (fun k => z + k) mz_layH (mz_Nv (nI j)) H)) (fun H H' hp _ hz2 hk => ⟨mz_keep hp.1 hk, mz_keep hp.2 hk⟩) hy_X10_sum wl_X11_164 rfl rfl ⟨Nat.le_of_ble_eq_true rfl, Nat.le_of_ble_eq_true rfl⟩ ⟨by show 70 + 9 * j + 0 ≤ 430; omega, by show 601 + 72 * j + 0 ≤ 3481; omega⟩ (Nat.le_of_ble_eq_true rfl) (by decide +kernel) (st' := [.int 0]) ?_ rfl (by show [Value.int 9, Value.int 0, Value.ref (x + (z - x + 31)), Value.ref (x + (z - x))] = [Value.int 9, Value.int 0, Value.ref (x + (z - x + 31)), Value.ref z]; rw [hxz])
        refine mz_goP (lay := mz_layR) (M := mz_Z) (cA := cA) (D := D) (cl := vwCl) (fun H h => h.1) FLX11 KLX11 C [(40, .aload_n 0), (41, .getfield 10), (44, .aload_n 0), (45, .getfield 10), (48, .getfield 79), (51, .aload_n 0), (52, .getfield 10), (55, .getfield 33), (58, .bipush 9)] (by decide +kernel) (pc' := 60) (L' := [(3, .int (nI j)), (2, .ref (z - x)), (0, .ref 0), (1, .int a)]) (st' := [.int 9, .int 0, .ref 32, .ref 1, .int 0]) rfl ?_
        refine mz_callJ (As := [.ref (x + 32), .int 0, .int 9]) (rest := [.int 0]) (ci := 10) (index := 164) (T := TX10) (N := 16) C hO E' (r_sum l D cA (x + 32) (x + 1) 9) (fun _ h => h.elim) (fun _ _ => trivial) (fun H h => ⟨_, h.1 1 _ rfl⟩) (P' := (fun H => mz_H D vwCl cA (fun k => x + k) mz_layR mz_Z H ∧ mz_H D vwCl cA (fun k => z + k) mz_layH (mz_Nv (nI j)) H)) (fun H H' hp _ hz2 hk => ⟨mz_keep hp.1 hk, mz_keep hp.2 hk⟩) hy_X10_sum wl_X11_164 rfl rfl ⟨Nat.le_of_ble_eq_true rfl, Nat.le_of_ble_eq_true rfl⟩ ⟨by show 70 + 9 * j + 0 ≤ 430; omega, by show 601 + 72 * j + 0 ≤ 3481; omega⟩ (Nat.le_of_ble_eq_true rfl) (by decide +kernel) (st' := [.int 0, .int 0]) ?_ rfl rfl
        refine mz_goP (lay := mz_layR) (M := mz_Z) (cA := cA) (D := D) (cl := vwCl) (fun H h => h.1) FLX11 KLX11 C [(63, .isub)] (by decide +kernel) (pc' := 64) (L' := [(3, .int (nI j)), (2, .ref (z - x)), (0, .ref 0), (1, .int a)]) (st' := [.int (0 - 0)]) rfl ?_
        refine mz_widen (k' := 430) (n' := 3481) (by omega) (by omega) ?_
        exact mz_jiret C E (by decide +kernel) rfl (fun H h => h.1)
      · exact absurd (mz_end (N := 40) (by decide) h.2 (by omega) (by omega)) q
    | succ r ih =>
      intro j h1 h2
      refine mz_goP (lay := mz_layR) (M := mz_Z) (cA := cA) (D := D) (cl := vwCl) (fun H h => h.1) FLX11 KLX11 C [(10, .iload_n 3), (11, .iload_n 1)] (by decide +kernel) (pc' := 12) (L' := [(3, .int (nI j)), (2, .ref (z - x)), (0, .ref 0), (1, .int a)]) (st' := [.int a, .int (nI j)]) rfl ?_
      refine mz_ige (off := 14) (tgt := 26) C (by decide +kernel) (by decide) (fun q => ?_) (fun q => ?_)
      · refine mz_goP (lay := mz_layR) (M := mz_Z) (cA := cA) (D := D) (cl := vwCl) (fun H h => h.1) FLX11 KLX11 C [(26, .aload_n 2), (27, .aload_n 2)] (by decide +kernel) (pc' := 28) (L' := [(3, .int (nI j)), (2, .ref (z - x)), (0, .ref 0), (1, .int a)]) (st' := [.ref (z - x), .ref (z - x)]) rfl ?_
        refine mz_getA (ci := 10) (j := 5) (N := 16) (T := TX10) (fs := ((mz_fs (mz_Nv (nI j) 0) [some (some 1), some (some 2), some (some 11), some (some 20), some (some 26), some (some 31), some (some 44), some (some 57), none, none, none, none, none, none, none, none]).map (mz_e (fun k => z + k)))) (v := .ref (z - x + 31)) C (fun H h => by show va_at D vwCl (x + (z - x), _) H; rw [hxz]; exact h.2 0 _ rfl) rfl (by decide) iu_X10 wf_X11_79 (by show some (Value.ref (z + 31)) = some (Value.ref (x + (z - x + 31))); rw [show x + (z - x + 31) = z + 31 by omega]) (by decide +kernel) ?_
        refine mz_goP (lay := mz_layR) (M := mz_Z) (cA := cA) (D := D) (cl := vwCl) (fun H h => h.1) FLX11 KLX11 C [(31, .aload_n 2)] (by decide +kernel) (pc' := 32) (L' := [(3, .int (nI j)), (2, .ref (z - x)), (0, .ref 0), (1, .int a)]) (st' := [.ref (z - x), .ref (z - x + 31), .ref (z - x)]) rfl ?_
        refine mz_getA (ci := 10) (j := 13) (N := 16) (T := TX10) (fs := ((mz_fs (mz_Nv (nI j) 0) [some (some 1), some (some 2), some (some 11), some (some 20), some (some 26), some (some 31), some (some 44), some (some 57), none, none, none, none, none, none, none, none]).map (mz_e (fun k => z + k)))) (v := .int 0) C (fun H h => by show va_at D vwCl (x + (z - x), _) H; rw [hxz]; exact h.2 0 _ rfl) rfl (by decide) iu_X10 wf_X11_33 rfl (by decide +kernel) ?_
        refine mz_goP (lay := mz_layR) (M := mz_Z) (cA := cA) (D := D) (cl := vwCl) (fun H h => h.1) FLX11 KLX11 C [(35, .bipush 9)] (by decide +kernel) (pc' := 37) (L' := [(3, .int (nI j)), (2, .ref (z - x)), (0, .ref 0), (1, .int a)]) (st' := [.int 9, .int 0, .ref (z - x + 31), .ref (z - x)]) rfl ?_
        refine mz_callJ (As := [.ref (x + (z - x + 31)), .int 0, .int 9]) (rest := []) (ci := 10) (index := 164) (T := TX10) (N := 16) C hO E' (r_sum l D cA (x + (z - x + 31)) z 9) (fun _ h => h.elim) (fun _ _ => trivial) (fun H h => ⟨_, h.2 0 _ rfl⟩) (P' := (fun H => mz_H D vwCl cA (fun k => x + k) mz_layR mz_Z H ∧ mz_H D vwCl cA (fun k => z + k) mz_layH (mz_Nv (nI j)) H)) (fun H H' hp _ hz2 hk => ⟨mz_keep hp.1 hk, mz_keep hp.2 hk⟩) hy_X10_sum wl_X11_164 rfl rfl ⟨Nat.le_of_ble_eq_true rfl, Nat.le_of_ble_eq_true rfl⟩ ⟨by show 70 + 9 * j + 0 ≤ 430; omega, by show 601 + 72 * j + 0 ≤ 3481; omega⟩ (Nat.le_of_ble_eq_true rfl) (by decide +kernel) (st' := [.int 0]) ?_ rfl (by show [Value.int 9, Value.int 0, Value.ref (x + (z - x + 31)), Value.ref (x + (z - x))] = [Value.int 9, Value.int 0, Value.ref (x + (z - x + 31)), Value.ref z]; rw [hxz])
        refine mz_goP (lay := mz_layR) (M := mz_Z) (cA := cA) (D := D) (cl := vwCl) (fun H h => h.1) FLX11 KLX11 C [(40, .aload_n 0), (41, .getfield 10), (44, .aload_n 0), (45, .getfield 10), (48, .getfield 79), (51, .aload_n 0), (52, .getfield 10), (55, .getfield 33), (58, .bipush 9)] (by decide +kernel) (pc' := 60) (L' := [(3, .int (nI j)), (2, .ref (z - x)), (0, .ref 0), (1, .int a)]) (st' := [.int 9, .int 0, .ref 32, .ref 1, .int 0]) rfl ?_
        refine mz_callJ (As := [.ref (x + 32), .int 0, .int 9]) (rest := [.int 0]) (ci := 10) (index := 164) (T := TX10) (N := 16) C hO E' (r_sum l D cA (x + 32) (x + 1) 9) (fun _ h => h.elim) (fun _ _ => trivial) (fun H h => ⟨_, h.1 1 _ rfl⟩) (P' := (fun H => mz_H D vwCl cA (fun k => x + k) mz_layR mz_Z H ∧ mz_H D vwCl cA (fun k => z + k) mz_layH (mz_Nv (nI j)) H)) (fun H H' hp _ hz2 hk => ⟨mz_keep hp.1 hk, mz_keep hp.2 hk⟩) hy_X10_sum wl_X11_164 rfl rfl ⟨Nat.le_of_ble_eq_true rfl, Nat.le_of_ble_eq_true rfl⟩ ⟨by show 70 + 9 * j + 0 ≤ 430; omega, by show 601 + 72 * j + 0 ≤ 3481; omega⟩ (Nat.le_of_ble_eq_true rfl) (by decide +kernel) (st' := [.int 0, .int 0]) ?_ rfl rfl
        refine mz_goP (lay := mz_layR) (M := mz_Z) (cA := cA) (D := D) (cl := vwCl) (fun H h => h.1) FLX11 KLX11 C [(63, .isub)] (by decide +kernel) (pc' := 64) (L' := [(3, .int (nI j)), (2, .ref (z - x)), (0, .ref 0), (1, .int a)]) (st' := [.int (0 - 0)]) rfl ?_
        refine mz_widen (k' := 430) (n' := 3481) (by omega) (by omega) ?_
        exact mz_jiret C E (by decide +kernel) rfl (fun H h => h.1)
      have hj : j < 40 := mz_stop (by decide) h.2 q (by omega)
      refine mz_goP (lay := mz_layR) (M := mz_Z) (cA := cA) (D := D) (cl := vwCl) (fun H h => h.1) FLX11 KLX11 C [(15, .aload_n 2)] (by decide +kernel) (pc' := 16) (L' := [(3, .int (nI j)), (2, .ref (z - x)), (0, .ref 0), (1, .int a)]) (st' := [.ref (z - x)]) rfl ?_
      refine mz_fix (fun z1 => ?_)
      refine mz_and (q := z + 70 ≤ z1) (fun H h => by rw [← h.2]; exact mz_Hsz h.1.2) (fun hz1 => ?_)
      refine mz_callJ (As := []) (rest := []) (ci := 10) (index := 98) (T := TX10) (N := 16) C hO E' (r_go l D cA z z1 (nI j) hz1) (fun q h => h.1) (fun H h => ⟨h.1.2, h.2⟩) (fun H h => ⟨_, h.1.2 0 _ rfl⟩) (P' := (fun H => mz_H D vwCl cA (fun k => x + k) mz_layR mz_Z H ∧ mz_H D vwCl cA (fun k => z + k) mz_layH (mz_Nv (nI j + 1)) H)) (fun H H' hp hq hz2 hk => ⟨mz_keepA hp.1.1 (fun k sh hs => by have := mz_layR_lt hs; show ¬ (z ≤ x + k ∧ x + k < z + 70); omega) hk, hq⟩) hy_X10_go wl_X11_98 rfl rfl ⟨Nat.le_of_ble_eq_true rfl, Nat.le_of_ble_eq_true rfl⟩ ⟨by show 70 + 9 * j + 9 ≤ 430; omega, by show 601 + 72 * j + 72 ≤ 3481; omega⟩ (Nat.le_of_ble_eq_true rfl) (by decide +kernel) (st' := [.int 0]) ?_ rfl (by show [Value.ref (x + (z - x))] = [Value.ref z]; rw [hxz])
      refine mz_goP (lay := mz_layR) (M := mz_Z) (cA := cA) (D := D) (cl := vwCl) (fun H h => h.1) FLX11 KLX11 C [(19, .pop), (20, .iinc 3 1), (23, .goto (-13))] (by decide +kernel) (pc' := 10) (L' := [(3, .int ((nI j) + 1)), (2, .ref (z - x)), (0, .ref 0), (1, .int a)]) (st' := []) rfl ?_
      rw [nI_1]
      refine mz_sub (L' := [(3, .int (nI (j + 1))), (2, .ref (z - x)), (0, .ref 0), (1, .int a)]) (fun q h => by simp at h ⊢; rcases h with rfl | rfl | rfl | rfl <;> simp) ?_
      have q9 := ih (j + 1) (by omega) (by omega)
      rw [show 70 + 9 * (j + 1) = 70 + 9 * j + 9 by omega, show 601 + 72 * (j + 1) = 601 + 72 * j + 72 by omega] at q9
      exact q9
  refine mz_goP (lay := mz_layR) (M := mz_Z) (cA := cA) (D := D) (cl := vwCl) (fun H h => h.1) FLX11 KLX11 C [(0, .aload_n 0), (1, .getfield 10)] (by decide +kernel) (pc' := 4) (L' := [(0, .ref 0), (1, .int a)]) (st' := [.ref 1]) rfl ?_
  refine mz_callJ (As := []) (rest := []) (ci := 10) (index := 174) (T := TX10) (N := 16) C hO E' (r_copy l D cA (x + 1) z 0 (by omega)) (fun q h => h) (fun H h => ⟨by rw [mz_Nv0]; exact (mz_HR.mp h.1).2, h.2⟩) (fun H h => ⟨_, h.1 1 _ rfl⟩) (P' := (fun H => mz_H D vwCl cA (fun k => x + k) mz_layR mz_Z H ∧ mz_H D vwCl cA (fun k => z + k) mz_layH (mz_Nv 0) H)) (fun H H' hp hq hz2 hk => ⟨mz_keepA hp.1 (fun k sh hs => by have := mz_layR_lt hs; show ¬ z ≤ x + k; omega) hk, hq.2⟩) hy_X10_copy wl_X11_174 rfl rfl ⟨Nat.le_of_ble_eq_true rfl, Nat.le_of_ble_eq_true rfl⟩ ⟨Nat.le_of_ble_eq_true rfl, Nat.le_of_ble_eq_true rfl⟩ (Nat.le_of_ble_eq_true rfl) (by decide +kernel) (st' := [.ref (z - x)]) ?_ (by show [Value.ref (x + (z - x))] = [Value.ref z]; rw [hxz]) rfl
  refine mz_goP (lay := mz_layR) (M := mz_Z) (cA := cA) (D := D) (cl := vwCl) (fun H h => h.1) FLX11 KLX11 C [(7, .astore_n 2), (8, .iconst 0), (9, .istore_n 3)] (by decide +kernel) (pc' := 10) (L' := [(3, .int 0), (2, .ref (z - x)), (0, .ref 0), (1, .int a)]) (st' := []) rfl ?_
  have q9 := loop 40 0 (by omega) (by omega)
  refine mz_widen (k' := 70 + 9 * 0) (n' := 601 + 72 * 0) (by omega) (by omega) ?_
  refine mz_sub (L' := [(3, .int 0), (2, .ref (z - x)), (0, .ref 0), (1, .int a)]) (fun q h => by simp at h ⊢; rcases h with rfl | rfl | rfl | rfl <;> simp) ?_
  exact q9
set_option maxHeartbeats 4000000 in
theorem q_wouldCut (l : Launch) (D : va_G) (cA : Nat → ClassId) (x z : Nat) (a : Int32) (h : 1 ≤ a ∧ a ≤ 40) : mz_J l D vwCl cA yX11_wouldCut cX11_wouldCut 2 (some .int) 4 144 430 3481 [.ref x, .int a] (fun H => mz_H D vwCl cA (fun k => x + k) mz_layR mz_Z H ∧ H.size = z) (some (.int 0)) (fun H => ∃ M : mz_Mem, M 0 0 = 0 ∧ mz_H D vwCl cA (fun k => x + k) mz_layR M H) (fun q => (x ≤ q ∧ q < x + 71) ∨ z ≤ q) := by
  refine mz_introJ (ρ := (fun k => x + k)) (As0 := [.ref 0, .int a]) (by decide +kernel) (Nat.le_of_ble_eq_true rfl) rfl (fun Γ C hO E hN => ?_)
  have E' := (⟨_, _, _, E⟩ : ∃ Qc mc ms, mz_E Γ Qc mc ms (fun q => (x ≤ q ∧ q < x + 71) ∨ z ≤ q))
  refine mz_mono (P' := (fun H => mz_H D vwCl cA (fun k => x + k) mz_layR mz_Z H ∧ z ≤ H.size)) (fun H h => ⟨h.1, Nat.le_of_eq h.2.symm⟩) ?_
  refine mz_goP (lay := mz_layR) (M := mz_Z) (cA := cA) (D := D) (cl := vwCl) (fun H h => h.1) FLX11 KLX11 C [(0, .aload_n 0), (1, .iconst 0)] (by decide +kernel) (pc' := 2) (L' := [(0, .ref 0), (1, .int a)]) (st' := [.int 0, .ref 0]) rfl ?_
  refine mz_putP (fun H h => h.1) (lay := mz_layR) (M := mz_Z) (id := 0) (ci := 11) (j := 0) (N := 2) (T := TX11) (fs := [none, some (some 1)]) (P' := (fun H => mz_H D vwCl cA (fun k => x + k) mz_layR mz_Z H ∧ z ≤ H.size)) (fun H H1 hp h e _ => ⟨by rw [mz_Z_up] at h; exact h, by rw [e]; exact hp.2⟩) C E' (Or.inl ⟨Nat.le_add_right _ _, by show x + 0 < x + 71; omega⟩) mz_Ix rfl rfl rfl (by decide) iu_X11 tyX11 tyX11_ok nmX11 wf_X11_16 rfl rfl (by decide +kernel) ?_
  refine mz_goP (lay := mz_layR) (M := mz_Z) (cA := cA) (D := D) (cl := vwCl) (fun H h => h.1) FLX11 KLX11 C [(5, .iload_n 1), (6, .iconst 1), (7, .bipush 40)] (by decide +kernel) (pc' := 9) (L' := [(0, .ref 0), (1, .int a)]) (st' := [.int 40, .int 1, .int a]) rfl ?_
  refine mz_callJS (index := 23) (As := [.int a, .int 1, .int 40]) (rest := []) C hO E' (r_in1 l D cA a 1 40 h) (fun _ h => h.elim) (fun _ _ => trivial) (P' := (fun H => mz_H D vwCl cA (fun k => x + k) mz_layR mz_Z H ∧ z ≤ H.size)) (fun H H' hp _ hz hk => ⟨mz_keep hp.1 hk, Nat.le_trans hp.2 hz⟩) hs_X11_in wl_X11_23 rfl ⟨Nat.le_of_ble_eq_true rfl, Nat.le_of_ble_eq_true rfl⟩ ⟨Nat.le_of_ble_eq_true rfl, Nat.le_of_ble_eq_true rfl⟩ (Nat.le_of_ble_eq_true rfl) (by decide +kernel) (st' := [.int 1]) ?_ rfl rfl
  refine mz_zne (off := 9) (tgt := 21) C (by decide +kernel) (by decide) (fun _ => ?_) (fun q => absurd q (by decide))
  refine mz_goP (lay := mz_layR) (M := mz_Z) (cA := cA) (D := D) (cl := vwCl) (fun H h => h.1) FLX11 KLX11 C [(21, .aload_n 0), (22, .iload_n 1)] (by decide +kernel) (pc' := 23) (L' := [(0, .ref 0), (1, .int a)]) (st' := [.int a, .ref 0]) rfl ?_
  refine mz_fix (fun z1 => ?_)
  refine mz_and (q := x + 71 ≤ z1 ∧ z ≤ z1) (fun H h => ⟨by rw [← h.2]; exact mz_Rsz h.1.1, by rw [← h.2]; exact h.1.2⟩) (fun hz1 => ?_)
  refine mz_callJ (As := [.int a]) (rest := []) (ci := 11) (index := 187) (T := TX11) (N := 2) C hO E' (r_cutNow l D cA x z1 a hz1.1 h) (fun q h => Or.inr (Nat.le_trans hz1.2 h)) (fun H h => ⟨h.1.1, h.2⟩) (fun H h => ⟨_, h.1.1 0 _ rfl⟩) (P' := (fun H => mz_H D vwCl cA (fun k => x + k) mz_layR mz_Z H ∧ z ≤ H.size)) (fun H H' hp hq hz2 hk => ⟨hq, Nat.le_trans hp.1.2 hz2⟩) hy_X11_cutNow wl_X11_187 rfl rfl ⟨Nat.le_of_ble_eq_true rfl, Nat.le_of_ble_eq_true rfl⟩ ⟨Nat.le_of_ble_eq_true rfl, Nat.le_of_ble_eq_true rfl⟩ (Nat.le_of_ble_eq_true rfl) (by decide +kernel) (st' := [.int 0]) ?_ rfl rfl
  refine mz_widen (k' := 430) (n' := 3481) (by decide) (by decide) ?_
  exact mz_jiret C E (by decide +kernel) rfl (fun H h => ⟨mz_Z, rfl, h.1⟩)
def mz_dg : Nat → Int64
  | 0 => 9103
  | j + 1 => mz_dg j * 31 + (0 : Int32).toInt64
theorem mz_12 {j : Nat} (q : 12 < nI j) (hb : j ≤ 13) : j = 13 := by
  rw [Int32.lt_iff_toInt_lt, nI_toInt (by omega), show (12 : Int32).toInt = 12 by decide] at q
  omega
theorem mz_12b {j : Nat} (q : ¬ 12 < nI j) (hb : j ≤ 13) : j ≤ 12 := by
  rw [Int32.lt_iff_toInt_lt, nI_toInt (by omega), show (12 : Int32).toInt = 12 by decide] at q
  omega
theorem mz_0_12 {j : Nat} (h : j ≤ 12) : 0 ≤ nI j ∧ nI j ≤ 12 := by
  refine ⟨nI_pos' (by omega), ?_⟩
  rw [Int32.le_iff_toInt_le, nI_toInt (by omega), show (12 : Int32).toInt = 12 by decide]
  omega
set_option maxHeartbeats 16000000 in
theorem q_digest (l : Launch) (D : va_G) (cA : Nat → ClassId) (x z : Nat) : mz_J l D vwCl cA yX11_digest cX11_digest 5 (some .long) 4 144 443 3650 [.ref x] (fun H => mz_H D vwCl cA (fun k => x + k) mz_layR mz_Z H ∧ H.size = z) (some (.long (mz_dg 14))) (fun H => ∃ M : mz_Mem, M 0 0 = 0 ∧ mz_H D vwCl cA (fun k => x + k) mz_layR M H) (fun q => (x ≤ q ∧ q < x + 71) ∨ z ≤ q) := by
  refine mz_introJ (ρ := (fun k => x + k)) (As0 := [.ref 0]) (by decide +kernel) (Nat.le_of_ble_eq_true rfl) rfl (fun Γ C hO E hN => ?_)
  have E' := (⟨_, _, _, E⟩ : ∃ Qc mc ms, mz_E Γ Qc mc ms (fun q => (x ≤ q ∧ q < x + 71) ∨ z ≤ q))
  have loop : ∀ r j : Nat, 13 - j ≤ r → j ≤ 13 → mz_W Γ (fun k => x + k) 5 j (13 * j) (fun H => mz_H D vwCl cA (fun k => x + k) mz_layR mz_Z H ∧ z ≤ H.size) 11 [(3, .int (nI j)), (1, .long (mz_dg j)), (0, .ref 0)] [] := by
    intro r
    induction r with
    | zero =>
      intro j h1 hb
      refine mz_goP (lay := mz_layR) (M := mz_Z) (cA := cA) (D := D) (cl := vwCl) (fun H h => h.1) FLX11 KLX11 C [(11, .iload_n 3), (12, .bipush 12)] (by decide +kernel) (pc' := 14) (L' := [(3, .int (nI j)), (1, .long (mz_dg j)), (0, .ref 0)]) (st' := [.int 12, .int (nI j)]) rfl ?_
      refine mz_igt (off := 22) (tgt := 36) C (by decide +kernel) (by decide) (fun q => ?_) (fun q => ?_)
      · have hj : j = 13 := mz_12 q hb
        subst hj
        refine mz_goP (lay := mz_layR) (M := mz_Z) (cA := cA) (D := D) (cl := vwCl) (fun H h => h.1) FLX11 KLX11 C [(36, .iconst 0), (37, .istore_n 3), (38, .iload_n 3), (39, .aload_n 0), (40, .getfield 10), (43, .getfield 20)] (by decide +kernel) (pc' := 46) (L' := [(3, .int 0), (1, .long (mz_dg 13)), (0, .ref 0)]) (st' := [.int 0, .int 0]) rfl ?_
        refine mz_ige (off := 67) (tgt := 113) C (by decide +kernel) (by decide) (fun _ => ?_) (fun h => absurd (by decide) h)
        refine mz_goP (lay := mz_layR) (M := mz_Z) (cA := cA) (D := D) (cl := vwCl) (fun H h => h.1) FLX11 KLX11 C [(113, .iconst 0), (114, .istore_n 3), (115, .iload_n 3), (116, .aload_n 0), (117, .getfield 10), (120, .getfield 27)] (by decide +kernel) (pc' := 123) (L' := [(3, .int 0), (1, .long (mz_dg 13)), (0, .ref 0)]) (st' := [.int 0, .int 0]) rfl ?_
        refine mz_ige (off := 52) (tgt := 175) C (by decide +kernel) (by decide) (fun _ => ?_) (fun h => absurd (by decide) h)
        refine mz_goP (lay := mz_layR) (M := mz_Z) (cA := cA) (D := D) (cl := vwCl) (fun H h => h.1) FLX11 KLX11 C [(175, .iconst 0), (176, .istore_n 3), (177, .iload_n 3), (178, .aload_n 0), (179, .getfield 10), (182, .getfield 33)] (by decide +kernel) (pc' := 185) (L' := [(3, .int 0), (1, .long (mz_dg 13)), (0, .ref 0)]) (st' := [.int 0, .int 0]) rfl ?_
        refine mz_ige (off := 40) (tgt := 225) C (by decide +kernel) (by decide) (fun _ => ?_) (fun h => absurd (by decide) h)
        refine mz_goP (lay := mz_layR) (M := mz_Z) (cA := cA) (D := D) (cl := vwCl) (fun H h => h.1) FLX11 KLX11 C [(225, .iconst 0), (226, .istore_n 3), (227, .iload_n 3), (228, .aload_n 0), (229, .getfield 10), (232, .getfield 30)] (by decide +kernel) (pc' := 235) (L' := [(3, .int 0), (1, .long (mz_dg 13)), (0, .ref 0)]) (st' := [.int 0, .int 0]) rfl ?_
        refine mz_ige (off := 39) (tgt := 274) C (by decide +kernel) (by decide) (fun _ => ?_) (fun h => absurd (by decide) h)
        refine mz_goP (lay := mz_layR) (M := mz_Z) (cA := cA) (D := D) (cl := vwCl) (fun H h => h.1) FLX11 KLX11 C [(274, .iconst 0), (275, .istore_n 3), (276, .iload_n 3), (277, .aload_n 0), (278, .getfield 10), (281, .getfield 36)] (by decide +kernel) (pc' := 284) (L' := [(3, .int 0), (1, .long (mz_dg 13)), (0, .ref 0)]) (st' := [.int 0, .int 0]) rfl ?_
        refine mz_ige (off := 90) (tgt := 374) C (by decide +kernel) (by decide) (fun _ => ?_) (fun h => absurd (by decide) h)
        refine mz_goP (lay := mz_layR) (M := mz_Z) (cA := cA) (D := D) (cl := vwCl) (fun H h => h.1) FLX11 KLX11 C [(374, .lload_n 1), (375, .ldc2_w 195), (378, .lmul), (379, .aload_n 0), (380, .bipush 9)] (by decide +kernel) (pc' := 382) (L' := [(3, .int 0), (1, .long (mz_dg 13)), (0, .ref 0)]) (st' := [.int 9, .ref 0, .long ((mz_dg 13) * 31)]) rfl ?_
        refine mz_fix (fun z1 => ?_)
        refine mz_and (q := x + 71 ≤ z1 ∧ z ≤ z1) (fun H h => ⟨by rw [← h.2]; exact mz_Rsz h.1.1, by rw [← h.2]; exact h.1.2⟩) (fun hz1 => ?_)
        refine mz_callJ (As := [.int 9]) (rest := [.long ((mz_dg 13) * 31)]) (ci := 11) (index := 187) (T := TX11) (N := 2) C hO E' (r_cutNow l D cA x z1 9 hz1.1 (by decide)) (fun q h => Or.inr (Nat.le_trans hz1.2 h)) (fun H h => ⟨h.1.1, h.2⟩) (fun H h => ⟨_, h.1.1 0 _ rfl⟩) (P' := (fun H => mz_H D vwCl cA (fun k => x + k) mz_layR mz_Z H ∧ z ≤ H.size)) (fun H H' hp hq hz2 hk => ⟨hq, Nat.le_trans hp.1.2 hz2⟩) hy_X11_cutNow wl_X11_187 rfl rfl ⟨Nat.le_of_ble_eq_true rfl, Nat.le_of_ble_eq_true rfl⟩ ⟨Nat.le_of_ble_eq_true rfl, Nat.le_of_ble_eq_true rfl⟩ (Nat.le_of_ble_eq_true rfl) (by decide +kernel) (st' := [.int 0, .long ((mz_dg 13) * 31)]) ?_ rfl rfl
        refine mz_goP (lay := mz_layR) (M := mz_Z) (cA := cA) (D := D) (cl := vwCl) (fun H h => h.1) FLX11 KLX11 C [(385, .i2l), (386, .ladd)] (by decide +kernel) (pc' := 387) (L' := [(3, .int 0), (1, .long (mz_dg 13)), (0, .ref 0)]) (st' := [.long (((mz_dg 13) * 31) + ((0 : Int32).toInt64))]) rfl ?_
        refine mz_widen (k' := 443) (n' := 3650) (by decide) (by decide) ?_
        exact mz_jlret C E (by decide +kernel) rfl (fun H h => ⟨mz_Z, rfl, h.1⟩)
      · exact absurd (by rw [show j = 13 by omega]; decide) q
    | succ r ih =>
      intro j h1 hb
      refine mz_goP (lay := mz_layR) (M := mz_Z) (cA := cA) (D := D) (cl := vwCl) (fun H h => h.1) FLX11 KLX11 C [(11, .iload_n 3), (12, .bipush 12)] (by decide +kernel) (pc' := 14) (L' := [(3, .int (nI j)), (1, .long (mz_dg j)), (0, .ref 0)]) (st' := [.int 12, .int (nI j)]) rfl ?_
      refine mz_igt (off := 22) (tgt := 36) C (by decide +kernel) (by decide) (fun q => ?_) (fun q => ?_)
      · have hj : j = 13 := mz_12 q hb
        subst hj
        refine mz_goP (lay := mz_layR) (M := mz_Z) (cA := cA) (D := D) (cl := vwCl) (fun H h => h.1) FLX11 KLX11 C [(36, .iconst 0), (37, .istore_n 3), (38, .iload_n 3), (39, .aload_n 0), (40, .getfield 10), (43, .getfield 20)] (by decide +kernel) (pc' := 46) (L' := [(3, .int 0), (1, .long (mz_dg 13)), (0, .ref 0)]) (st' := [.int 0, .int 0]) rfl ?_
        refine mz_ige (off := 67) (tgt := 113) C (by decide +kernel) (by decide) (fun _ => ?_) (fun h => absurd (by decide) h)
        refine mz_goP (lay := mz_layR) (M := mz_Z) (cA := cA) (D := D) (cl := vwCl) (fun H h => h.1) FLX11 KLX11 C [(113, .iconst 0), (114, .istore_n 3), (115, .iload_n 3), (116, .aload_n 0), (117, .getfield 10), (120, .getfield 27)] (by decide +kernel) (pc' := 123) (L' := [(3, .int 0), (1, .long (mz_dg 13)), (0, .ref 0)]) (st' := [.int 0, .int 0]) rfl ?_
        refine mz_ige (off := 52) (tgt := 175) C (by decide +kernel) (by decide) (fun _ => ?_) (fun h => absurd (by decide) h)
        refine mz_goP (lay := mz_layR) (M := mz_Z) (cA := cA) (D := D) (cl := vwCl) (fun H h => h.1) FLX11 KLX11 C [(175, .iconst 0), (176, .istore_n 3), (177, .iload_n 3), (178, .aload_n 0), (179, .getfield 10), (182, .getfield 33)] (by decide +kernel) (pc' := 185) (L' := [(3, .int 0), (1, .long (mz_dg 13)), (0, .ref 0)]) (st' := [.int 0, .int 0]) rfl ?_
        refine mz_ige (off := 40) (tgt := 225) C (by decide +kernel) (by decide) (fun _ => ?_) (fun h => absurd (by decide) h)
        refine mz_goP (lay := mz_layR) (M := mz_Z) (cA := cA) (D := D) (cl := vwCl) (fun H h => h.1) FLX11 KLX11 C [(225, .iconst 0), (226, .istore_n 3), (227, .iload_n 3), (228, .aload_n 0), (229, .getfield 10), (232, .getfield 30)] (by decide +kernel) (pc' := 235) (L' := [(3, .int 0), (1, .long (mz_dg 13)), (0, .ref 0)]) (st' := [.int 0, .int 0]) rfl ?_
        refine mz_ige (off := 39) (tgt := 274) C (by decide +kernel) (by decide) (fun _ => ?_) (fun h => absurd (by decide) h)
        refine mz_goP (lay := mz_layR) (M := mz_Z) (cA := cA) (D := D) (cl := vwCl) (fun H h => h.1) FLX11 KLX11 C [(274, .iconst 0), (275, .istore_n 3), (276, .iload_n 3), (277, .aload_n 0), (278, .getfield 10), (281, .getfield 36)] (by decide +kernel) (pc' := 284) (L' := [(3, .int 0), (1, .long (mz_dg 13)), (0, .ref 0)]) (st' := [.int 0, .int 0]) rfl ?_
        refine mz_ige (off := 90) (tgt := 374) C (by decide +kernel) (by decide) (fun _ => ?_) (fun h => absurd (by decide) h)
        refine mz_goP (lay := mz_layR) (M := mz_Z) (cA := cA) (D := D) (cl := vwCl) (fun H h => h.1) FLX11 KLX11 C [(374, .lload_n 1), (375, .ldc2_w 195), (378, .lmul), (379, .aload_n 0), (380, .bipush 9)] (by decide +kernel) (pc' := 382) (L' := [(3, .int 0), (1, .long (mz_dg 13)), (0, .ref 0)]) (st' := [.int 9, .ref 0, .long ((mz_dg 13) * 31)]) rfl ?_
        refine mz_fix (fun z1 => ?_)
        refine mz_and (q := x + 71 ≤ z1 ∧ z ≤ z1) (fun H h => ⟨by rw [← h.2]; exact mz_Rsz h.1.1, by rw [← h.2]; exact h.1.2⟩) (fun hz1 => ?_)
        refine mz_callJ (As := [.int 9]) (rest := [.long ((mz_dg 13) * 31)]) (ci := 11) (index := 187) (T := TX11) (N := 2) C hO E' (r_cutNow l D cA x z1 9 hz1.1 (by decide)) (fun q h => Or.inr (Nat.le_trans hz1.2 h)) (fun H h => ⟨h.1.1, h.2⟩) (fun H h => ⟨_, h.1.1 0 _ rfl⟩) (P' := (fun H => mz_H D vwCl cA (fun k => x + k) mz_layR mz_Z H ∧ z ≤ H.size)) (fun H H' hp hq hz2 hk => ⟨hq, Nat.le_trans hp.1.2 hz2⟩) hy_X11_cutNow wl_X11_187 rfl rfl ⟨Nat.le_of_ble_eq_true rfl, Nat.le_of_ble_eq_true rfl⟩ ⟨Nat.le_of_ble_eq_true rfl, Nat.le_of_ble_eq_true rfl⟩ (Nat.le_of_ble_eq_true rfl) (by decide +kernel) (st' := [.int 0, .long ((mz_dg 13) * 31)]) ?_ rfl rfl
        refine mz_goP (lay := mz_layR) (M := mz_Z) (cA := cA) (D := D) (cl := vwCl) (fun H h => h.1) FLX11 KLX11 C [(385, .i2l), (386, .ladd)] (by decide +kernel) (pc' := 387) (L' := [(3, .int 0), (1, .long (mz_dg 13)), (0, .ref 0)]) (st' := [.long (((mz_dg 13) * 31) + ((0 : Int32).toInt64))]) rfl ?_
        refine mz_widen (k' := 443) (n' := 3650) (by decide) (by decide) ?_
        exact mz_jlret C E (by decide +kernel) rfl (fun H h => ⟨mz_Z, rfl, h.1⟩)
      have hj : j ≤ 12 := mz_12b q hb
      refine mz_goP (lay := mz_layR) (M := mz_Z) (cA := cA) (D := D) (cl := vwCl) (fun H h => h.1) FLX11 KLX11 C [(17, .lload_n 1), (18, .ldc2_w 195), (21, .lmul), (22, .aload_n 0), (23, .iload_n 3)] (by decide +kernel) (pc' := 24) (L' := [(3, .int (nI j)), (1, .long (mz_dg j)), (0, .ref 0)]) (st' := [.int (nI j), .ref 0, .long ((mz_dg j) * 31)]) rfl ?_
      refine mz_fix (fun z1 => ?_)
      refine mz_and (q := x + 71 ≤ z1 ∧ z ≤ z1) (fun H h => ⟨by rw [← h.2]; exact mz_Rsz h.1.1, by rw [← h.2]; exact h.1.2⟩) (fun hz1 => ?_)
      refine mz_callJ (As := [.int (nI j)]) (rest := [.long ((mz_dg j) * 31)]) (ci := 11) (index := 171) (T := TX11) (N := 2) C hO E' (r_manyNow l D cA x z1 (nI j) hz1.1 (mz_0_12 hj)) (fun q h => Or.inr (Nat.le_trans hz1.2 h)) (fun H h => ⟨h.1.1, h.2⟩) (fun H h => ⟨_, h.1.1 0 _ rfl⟩) (P' := (fun H => mz_H D vwCl cA (fun k => x + k) mz_layR mz_Z H ∧ z ≤ H.size)) (fun H H' hp hq hz2 hk => ⟨hq, Nat.le_trans hp.1.2 hz2⟩) hy_X11_manyNow wl_X11_171 rfl rfl ⟨Nat.le_of_ble_eq_true rfl, Nat.le_of_ble_eq_true rfl⟩ ⟨by show j + 1 ≤ 443; omega, by show 13 * j + 13 ≤ 3650; omega⟩ (Nat.le_of_ble_eq_true rfl) (by decide +kernel) (st' := [.int 0, .long ((mz_dg j) * 31)]) ?_ rfl rfl
      refine mz_goP (lay := mz_layR) (M := mz_Z) (cA := cA) (D := D) (cl := vwCl) (fun H h => h.1) FLX11 KLX11 C [(27, .i2l), (28, .ladd), (29, .lstore_n 1), (30, .iinc 3 1), (33, .goto (-22))] (by decide +kernel) (pc' := 11) (L' := [(3, .int ((nI j) + 1)), (1, .long (((mz_dg j) * 31) + ((0 : Int32).toInt64))), (0, .ref 0)]) (st' := []) rfl ?_
      rw [nI_1]
      refine mz_sub (L' := [(3, .int (nI (j + 1))), (1, .long (mz_dg (j + 1))), (0, .ref 0)]) (fun q h => by simp at h ⊢; rcases h with rfl | rfl | rfl <;> simp [mz_dg]) ?_
      have q9 := ih (j + 1) (by omega) (by omega)
      rw [show 13 * (j + 1) = 13 * j + 13 by omega] at q9
      exact q9
  refine mz_mono (P' := (fun H => mz_H D vwCl cA (fun k => x + k) mz_layR mz_Z H ∧ z ≤ H.size)) (fun H h => ⟨h.1, Nat.le_of_eq h.2.symm⟩) ?_
  refine mz_goP (lay := mz_layR) (M := mz_Z) (cA := cA) (D := D) (cl := vwCl) (fun H h => h.1) FLX11 KLX11 C [(0, .aload_n 0), (1, .iconst 0)] (by decide +kernel) (pc' := 2) (L' := [(0, .ref 0)]) (st' := [.int 0, .ref 0]) rfl ?_
  refine mz_putP (fun H h => h.1) (lay := mz_layR) (M := mz_Z) (id := 0) (ci := 11) (j := 0) (N := 2) (T := TX11) (fs := [none, some (some 1)]) (P' := (fun H => mz_H D vwCl cA (fun k => x + k) mz_layR mz_Z H ∧ z ≤ H.size)) (fun H H1 hp h e _ => ⟨by rw [mz_Z_up] at h; exact h, by rw [e]; exact hp.2⟩) C E' (Or.inl ⟨Nat.le_add_right _ _, by show x + 0 < x + 71; omega⟩) mz_Ix rfl rfl rfl (by decide) iu_X11 tyX11 tyX11_ok nmX11 wf_X11_16 rfl rfl (by decide +kernel) ?_
  refine mz_goP (lay := mz_layR) (M := mz_Z) (cA := cA) (D := D) (cl := vwCl) (fun H h => h.1) FLX11 KLX11 C [(5, .ldc2_w 193), (8, .lstore_n 1), (9, .iconst 0), (10, .istore_n 3)] (by decide +kernel) (pc' := 11) (L' := [(3, .int 0), (1, .long 9103), (0, .ref 0)]) (st' := []) rfl ?_
  refine mz_sub (L' := [(3, .int (nI 0)), (1, .long (mz_dg 0)), (0, .ref 0)]) (fun q h => by simp at h ⊢; rcases h with rfl | rfl | rfl <;> simp [mz_dg, nI]) ?_
  exact loop 13 0 (by omega) (by omega)
