def mz_Nv (v : Int32) : mz_Mem := fun k j => if k = 0 ∧ j = 8 then v else 0
theorem mz_Nv0 : mz_Nv 0 = mz_Z := by
  funext k j
  unfold mz_Nv mz_Z
  split <;> rfl
theorem mz_Nv_up (v w : Int32) : mz_s (mz_Nv v) 0 (upd (mz_Nv v 0) 8 w) = mz_Nv w := by
  funext k j
  by_cases hk : k = 0
  · subst hk
    rw [mz_s_eq]
    by_cases hj : j = 8
    · subst hj; simp [upd, mz_Nv]
    · simp [upd, mz_Nv, hj]
  · rw [mz_s_ne hk]; simp [mz_Nv, hk]
theorem mz_Hnone {D : va_G} {cl : List vw_C} {cA : Nat → ClassId} {ρ : Nat → Nat} {M : mz_Mem} {H : Heap} : mz_H D cl cA ρ (fun _ => none) M H := fun _ _ h => by cases h
set_option maxHeartbeats 4000000 in
theorem r_minute (l : Launch) (D : va_G) (cA : Nat → ClassId) (x : Nat) (v : Int32) : mz_J l D vwCl cA yX10_minute cX10_minute 1 (some .int) 0 0 0 0 [.ref x] (mz_H D vwCl cA (fun k => x + k) mz_layH (mz_Nv v)) (some (.int (v - v / 20 * 20))) (mz_H D vwCl cA (fun k => x + k) mz_layH (mz_Nv v)) (fun _ => False) := by
  refine mz_introJ (ρ := (fun k => x + k)) (As0 := [.ref 0]) (by decide +kernel) (Nat.le_of_ble_eq_true rfl) rfl (fun Γ C hO E hN => ?_)
  have E' := (⟨_, _, _, E⟩ : ∃ Qc mc ms, mz_E Γ Qc mc ms (fun _ => False))
  refine mz_goP (lay := mz_layH) (M := (mz_Nv v)) (cA := cA) (D := D) (cl := vwCl) (fun H h => h) FLX10 KLX10 C [(0, .aload_n 0), (1, .getfield 49), (4, .bipush 20)] (by decide +kernel) (pc' := 6) (L' := [(0, .ref 0)]) (st' := [.int 20, .int v]) rfl ?_
  refine mz_irem C (by decide) (by decide +kernel) ?_
  exact mz_jiret C E (by decide +kernel) rfl (fun H h => h)
set_option maxHeartbeats 4000000 in
theorem r_loop (l : Launch) (D : va_G) (cA : Nat → ClassId) (x : Nat) (v : Int32) : mz_J l D vwCl cA yX10_loop cX10_loop 3 none 0 0 0 0 [.ref x] (mz_H D vwCl cA (fun k => x + k) mz_layH (mz_Nv v)) none (mz_H D vwCl cA (fun k => x + k) mz_layH (mz_Nv v)) (fun _ => False) := by
  refine mz_introJ (ρ := (fun k => x + k)) (As0 := [.ref 0]) (by decide +kernel) (Nat.le_of_ble_eq_true rfl) rfl (fun Γ C hO E hN => ?_)
  have E' := (⟨_, _, _, E⟩ : ∃ Qc mc ms, mz_E Γ Qc mc ms (fun _ => False))
  refine mz_goP (lay := mz_layH) (M := (mz_Nv v)) (cA := cA) (D := D) (cl := vwCl) (fun H h => h) FLX10 KLX10 C [(0, .iconst 0), (1, .istore_n 1), (2, .iload_n 1), (3, .aload_n 0), (4, .getfield 65)] (by decide +kernel) (pc' := 7) (L' := [(1, .int 0), (0, .ref 0)]) (st' := [.int 0, .int 0]) rfl ?_
  refine mz_ige (off := 90) (tgt := 97) C (by decide +kernel) (by decide) (fun _ => ?_) (fun h => absurd (by decide) h)
  refine mz_goP (lay := mz_layH) (M := (mz_Nv v)) (cA := cA) (D := D) (cl := vwCl) (fun H h => h) FLX10 KLX10 C [(97, .iconst 0), (98, .istore_n 1), (99, .iload_n 1), (100, .aload_n 0), (101, .getfield 62)] (by decide +kernel) (pc' := 104) (L' := [(1, .int 0), (0, .ref 0)]) (st' := [.int 0, .int 0]) rfl ?_
  refine mz_ige (off := 49) (tgt := 153) C (by decide +kernel) (by decide) (fun _ => ?_) (fun h => absurd (by decide) h)
  exact mz_jvret C E (by decide +kernel) (fun H h => h)
set_option maxHeartbeats 4000000 in
theorem r_sum (l : Launch) (D : va_G) (cA : Nat → ClassId) (a b : Nat) (w : Int32) : mz_J l D vwCl cA yX10_sum cX10_sum 6 (some .int) 0 0 0 0 [.ref b, .ref a, .int 0, .int w] (fun _ => True) (some (.int 0)) (fun _ => True) (fun _ => False) := by
  refine mz_introJ (ρ := (fun k => k)) (As0 := [.ref b, .ref a, .int 0, .int w]) (by decide +kernel) (Nat.le_of_ble_eq_true rfl) rfl (fun Γ C hO E hN => ?_)
  have E' := (⟨_, _, _, E⟩ : ∃ Qc mc ms, mz_E Γ Qc mc ms (fun _ => False))
  refine mz_goP (lay := (fun _ => none)) (M := mz_Z) (cA := cA) (D := D) (cl := vwCl) (fun H h => mz_Hnone) FLX10 KLX10 C [(0, .iconst 0), (1, .istore 4), (3, .iconst 0), (4, .istore 5), (6, .iload 5), (8, .iload_n 2)] (by decide +kernel) (pc' := 9) (L' := [(5, .int 0), (4, .int 0), (0, .ref b), (1, .ref a), (2, .int 0), (3, .int w)]) (st' := [.int 0, .int 0]) rfl ?_
  refine mz_ige (off := 20) (tgt := 29) C (by decide +kernel) (by decide) (fun _ => ?_) (fun h => absurd (by decide) h)
  refine mz_goP (lay := (fun _ => none)) (M := mz_Z) (cA := cA) (D := D) (cl := vwCl) (fun H h => mz_Hnone) FLX10 KLX10 C [(29, .iload 4)] (by decide +kernel) (pc' := 31) (L' := [(5, .int 0), (4, .int 0), (0, .ref b), (1, .ref a), (2, .int 0), (3, .int w)]) (st' := [.int 0]) rfl ?_
  exact mz_jiret C E (by decide +kernel) rfl (fun H h => h)
/-- what makes nothing keeps the heap's size -/
theorem mz_J.size {l : Launch} {D : va_G} {cl : List vw_C} {cA : Nat → ClassId} {y : MethodName} {cc : ByteArray} {nL fr lo ms z : Nat} {ret : Option FieldType} {As : List Value} {Pre Post : Heap → Prop} {r : Option Value} {A : Nat → Prop}
    (F : mz_J l D cl cA y cc nL ret fr lo 0 ms As Pre r Post A) : mz_J l D cl cA y cc nL ret fr lo 0 ms As (fun H => Pre H ∧ H.size = z) r (fun H => Post H ∧ H.size = z) A := by
  intro p e ha hc hk s m args below hf happ hv _
  obtain ⟨hA, hP, hK⟩ := hv
  obtain ⟨n, o, g1, g2, g3, ⟨⟨ho, hp, hF⟩, hsz⟩, Lc, g4, g5⟩ := mz_sz F p e ha hc hk s m args below hf happ ⟨hA, hP.1, hK⟩ trivial
  exact ⟨n, o, g1, g2, g3, ⟨ho, ⟨hp, by rw [hsz]; exact hP.2⟩, hF⟩, Lc, g4, g5⟩
set_option maxHeartbeats 4000000 in
theorem r_go (l : Launch) (D : va_G) (cA : Nat → ClassId) (x z : Nat) (v : Int32) (hz : x + 70 ≤ z) : mz_J l D vwCl cA yX10_go cX10_go 4 (some .int) 1 22 9 72 [.ref x] (fun H => mz_H D vwCl cA (fun k => x + k) mz_layH (mz_Nv v) H ∧ H.size = z) (some (.int 0)) (mz_H D vwCl cA (fun k => x + k) mz_layH (mz_Nv (v + 1))) (fun q => x ≤ q ∧ q < x + 70) := by
  refine mz_introJ (ρ := (fun k => x + k)) (As0 := [.ref 0]) (by decide +kernel) (Nat.le_of_ble_eq_true rfl) rfl (fun Γ C hO E hN => ?_)
  have E' := (⟨_, _, _, E⟩ : ∃ Qc mc ms, mz_E Γ Qc mc ms (fun q => x ≤ q ∧ q < x + 70))
  refine mz_goP (lay := mz_layH) (M := (mz_Nv v)) (cA := cA) (D := D) (cl := vwCl) (fun H h => h.1) FLX10 KLX10 C [(0, .aload_n 0), (1, .dup), (2, .getfield 49), (5, .iconst 1), (6, .iadd)] (by decide +kernel) (pc' := 7) (L' := [(0, .ref 0)]) (st' := [.int (v + 1), .ref 0]) rfl ?_
  refine mz_putP (fun H h => h.1) (id := 0) (ci := 10) (j := 8) (N := 16) (T := TX10) (P' := fun H => mz_H D vwCl cA (fun k => x + k) mz_layH (mz_Nv (v + 1)) H ∧ H.size = z) (fun H H1 hp h e _ => ⟨by rw [mz_Nv_up] at h; exact h, by rw [e]; exact hp.2⟩) C E' ⟨Nat.le_add_right _ _, by show x + 0 < x + 70; omega⟩ mz_Ix rfl rfl rfl (by decide) iu_X10 tyX10 tyX10_ok nmX10 wf_X10_49 rfl rfl (by decide +kernel) ?_
  refine mz_goP (lay := mz_layH) (M := (mz_Nv (v + 1))) (cA := cA) (D := D) (cl := vwCl) (fun H h => h.1) FLX10 KLX10 C [(10, .aload_n 0)] (by decide +kernel) (pc' := 11) (L' := [(0, .ref 0)]) (st' := [.ref 0]) rfl ?_
  refine mz_callJ (As := []) (rest := []) (ci := 10) (index := 91) (T := TX10) (N := 16) C hO E' (mz_J.size (r_minute l D cA x (v + 1))) (fun _ h => h.elim) (fun H h => h) (fun H h => ⟨_, h.1 0 _ rfl⟩) (P' := (fun H => mz_H D vwCl cA (fun k => x + k) mz_layH (mz_Nv (v + 1)) H ∧ H.size = z)) (fun H H' hp hq hz hk => hq) hy_X10_minute wl_X10_91 rfl rfl ⟨Nat.le_of_ble_eq_true rfl, Nat.le_of_ble_eq_true rfl⟩ ⟨Nat.le_of_ble_eq_true rfl, Nat.le_of_ble_eq_true rfl⟩ (Nat.le_of_ble_eq_true rfl) (by decide +kernel) (st' := [.int ((v + 1) - (v + 1) / 20 * 20)]) ?_ rfl rfl
  have tail : mz_W Γ (fun k => x + k) 4 0 0 (fun H => mz_H D vwCl cA (fun k => x + k) mz_layH (mz_Nv (v + 1)) H ∧ H.size = z) 21 [(0, .ref 0)] [] := by
    refine mz_goP (lay := mz_layH) (M := (mz_Nv (v + 1))) (cA := cA) (D := D) (cl := vwCl) (fun H h => h.1) FLX10 KLX10 C [(21, .iconst 0), (22, .istore_n 1), (23, .iload_n 1), (24, .aload_n 0), (25, .getfield 59)] (by decide +kernel) (pc' := 28) (L' := [(1, .int 0), (0, .ref 0)]) (st' := [.int 0, .int 0]) rfl ?_
    refine mz_ige (off := 40) (tgt := 68) C (by decide +kernel) (by decide) (fun _ => ?_) (fun h => absurd (by decide) h)
    refine mz_goP (lay := mz_layH) (M := (mz_Nv (v + 1))) (cA := cA) (D := D) (cl := vwCl) (fun H h => h.1) FLX10 KLX10 C [(68, .iconst 0), (69, .istore_n 1), (70, .iconst 0), (71, .istore_n 2), (72, .iload_n 2), (73, .aload_n 0), (74, .getfield 65)] (by decide +kernel) (pc' := 77) (L' := [(2, .int 0), (1, .int 0), (0, .ref 0)]) (st' := [.int 0, .int 0]) rfl ?_
    refine mz_ige (off := 47) (tgt := 124) C (by decide +kernel) (by decide) (fun _ => ?_) (fun h => absurd (by decide) h)
    refine mz_goP (lay := mz_layH) (M := (mz_Nv (v + 1))) (cA := cA) (D := D) (cl := vwCl) (fun H h => h.1) FLX10 KLX10 C [(124, .bipush 8), (126, .bipush 8)] (by decide +kernel) (pc' := 128) (L' := [(2, .int 0), (1, .int 0), (0, .ref 0)]) (st' := [.int 8, .int 8]) rfl ?_
    refine mz_newr (index := 15) (lay := mz_layH) (M := mz_Nv (v + 1)) (na := z - x) (N := 8) (K := 8) (fun H h => h.1) (fun H h => by rw [h.2]; show z = x + (z - x); omega) (fun _ _ => (Nat.add_assoc _ _ _).symm) (fun q h1 _ => by funext j; unfold mz_Nv; rw [if_neg (by omega)]) (P' := mz_H D vwCl cA (fun k => x + k) mz_layH (mz_Nv (v + 1))) (fun H H1 hp _ _ hk k sh hk2 => (hp.1 k sh hk2).kept (hk _ (hp.1 k sh hk2).lt)) C hO (mz_in 1200 (by decide +kernel) (by decide +kernel)) (mz_in 105 (by decide +kernel) (by decide +kernel)) (by decide) (by decide) rfl rfl (by decide) (by decide) (Nat.le_of_ble_eq_true rfl) (Nat.le_of_ble_eq_true rfl) (by decide +kernel) ?_
    refine mz_goP (lay := mz_layH) (M := (mz_Nv (v + 1))) (cA := cA) (D := D) (cl := vwCl) (fun H h => h) FLX10 KLX10 C [(132, .astore_n 2), (133, .iconst 0), (134, .istore_n 3), (135, .iload_n 3), (136, .aload_n 0), (137, .getfield 68)] (by decide +kernel) (pc' := 140) (L' := [(3, .int 0), (2, .ref (z - x)), (1, .int 0), (0, .ref 0)]) (st' := [.int 0, .int 0]) rfl ?_
    refine mz_ige (off := 30) (tgt := 170) C (by decide +kernel) (by decide) (fun _ => ?_) (fun h => absurd (by decide) h)
    refine mz_goP (lay := mz_layH) (M := (mz_Nv (v + 1))) (cA := cA) (D := D) (cl := vwCl) (fun H h => h) FLX10 KLX10 C [(170, .iconst 0), (171, .istore_n 3), (172, .iload_n 3), (173, .aload_n 0), (174, .getfield 65)] (by decide +kernel) (pc' := 177) (L' := [(3, .int 0), (2, .ref (z - x)), (1, .int 0), (0, .ref 0)]) (st' := [.int 0, .int 0]) rfl ?_
    refine mz_ige (off := 26) (tgt := 203) C (by decide +kernel) (by decide) (fun _ => ?_) (fun h => absurd (by decide) h)
    refine mz_goP (lay := mz_layH) (M := (mz_Nv (v + 1))) (cA := cA) (D := D) (cl := vwCl) (fun H h => h) FLX10 KLX10 C [(203, .iload_n 1)] (by decide +kernel) (pc' := 204) (L' := [(3, .int 0), (2, .ref (z - x)), (1, .int 0), (0, .ref 0)]) (st' := [.int 0]) rfl ?_
    refine mz_widen (k' := 9) (n' := 72) (by decide) (by decide) ?_
    exact mz_jiret C E (by decide +kernel) rfl (fun H h => h)
  refine mz_zne (off := 7) (tgt := 21) C (by decide +kernel) (by decide) (fun _ => tail) (fun h => ?_)
  refine mz_goP (lay := mz_layH) (M := (mz_Nv (v + 1))) (cA := cA) (D := D) (cl := vwCl) (fun H h => h.1) FLX10 KLX10 C [(17, .aload_n 0)] (by decide +kernel) (pc' := 18) (L' := [(0, .ref 0)]) (st' := [.ref 0]) rfl ?_
  refine mz_callJ (As := []) (rest := []) (ci := 10) (index := 95) (T := TX10) (N := 16) C hO E' (mz_J.size (r_loop l D cA x (v + 1))) (fun _ h => h.elim) (fun H h => h) (fun H h => ⟨_, h.1 0 _ rfl⟩) (P' := (fun H => mz_H D vwCl cA (fun k => x + k) mz_layH (mz_Nv (v + 1)) H ∧ H.size = z)) (fun H H' hp hq hz hk => hq) hy_X10_loop wl_X10_95 rfl rfl ⟨Nat.le_of_ble_eq_true rfl, Nat.le_of_ble_eq_true rfl⟩ ⟨Nat.le_of_ble_eq_true rfl, Nat.le_of_ble_eq_true rfl⟩ (Nat.le_of_ble_eq_true rfl) (by decide +kernel) (st' := []) ?_ rfl rfl
  exact tail
