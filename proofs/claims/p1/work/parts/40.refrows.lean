theorem mz_nneg {K : Nat} (h : K ≤ 1000) : ¬ Int32.ofNat K < 0 := nI_pos (by omega)
theorem mz_ncl {K : Nat} (h : K ≤ 1000) : (Int32.ofNat K).toNatClampNeg = K := nI_clamp (by omega)
theorem mz_cpz {a b n : Nat} : va_cpy (fun _ => (0 : Int32)) (fun _ => 0) a b n = fun _ => 0 := by
  funext i
  unfold va_cpy
  split <;> rfl
set_option maxHeartbeats 4000000 in
theorem r_rows (l : Launch) (D : va_G) (cA : Nat → ClassId) (ρ : Nat → Nat) (lay : mz_Lay) (M : mz_Mem) (P : Heap → Prop) (A : Nat → Prop) (a b N K : Nat) (ga gb : Nat → Option Nat) (ra rb : Nat → Nat) (hN : N ≤ 1000) (hK : K ≤ 1000) (hPH : ∀ H, P H → mz_H D vwCl cA ρ lay M H) (hI : mz_I ρ lay) (ha : lay a = some (mz_r 1 N ga)) (hb : lay b = some (mz_r 1 N gb))
    (hra : ∀ j, j < N → ga j = some (ra j) ∧ lay (ra j) = some (mz_a K)) (hrb : ∀ j, j < N → gb j = some (rb j) ∧ lay (rb j) = some (mz_a K)) (hz : ∀ j, j < N → M (ra j) = (fun _ => 0) ∧ M (rb j) = (fun _ => 0)) (hA : ∀ j, j < N → A (ρ (rb j)))
    (hP : ∀ H H1, P H → mz_H D vwCl cA ρ lay M H1 → H1.size = H.size → (∀ q : Nat, ¬ A q → H1[q]? = H[q]?) → P H1) : mz_J l D vwCl cA yX10_rows cX10_rows 3 none 1 60 0 0 [.ref (ρ a), .ref (ρ b)] P none P A := by
  refine mz_introJ (ρ := ρ) (As0 := [.ref a, .ref b]) (by decide +kernel) (Nat.le_of_ble_eq_true rfl) rfl (fun Γ C hO E hnm => ?_)
  have E' := (⟨_, _, _, E⟩ : ∃ Qc mc ms, mz_E Γ Qc mc ms A)
  have loop : ∀ r j : Nat, N - j ≤ r → j ≤ N → mz_W Γ ρ 3 0 0 P 2 [(2, .int (nI j)), (0, .ref a), (1, .ref b)] [] := by
    intro r
    induction r with
    | zero =>
      intro j h1 h2
      refine mz_goP (lay := lay) (M := M) (cA := cA) (D := D) (cl := vwCl) (hPH) FLX10 KLX10 C [(2, .iload_n 2), (3, .aload_n 0)] (by decide +kernel) (pc' := 4) (L' := [(2, .int (nI j)), (0, .ref a), (1, .ref b)]) (st' := [.ref a, .int (nI j)]) rfl ?_
      refine mz_aalen (lay := lay) (M := M) (id := a) (N := N) hPH C ha (by decide +kernel) ?_
      refine mz_ige (off := 24) (tgt := 29) C (by decide +kernel) (by decide) (fun h => ?_) (fun h => ?_)
      · exact mz_jvret C E (by decide +kernel) (fun H h => h)
      · exact absurd (show Int32.ofNat N ≤ nI j by rw [show j = N by omega]; exact Int32.le_refl _) h
    | succ r ih =>
      intro j h1 h2
      refine mz_goP (lay := lay) (M := M) (cA := cA) (D := D) (cl := vwCl) (hPH) FLX10 KLX10 C [(2, .iload_n 2), (3, .aload_n 0)] (by decide +kernel) (pc' := 4) (L' := [(2, .int (nI j)), (0, .ref a), (1, .ref b)]) (st' := [.ref a, .int (nI j)]) rfl ?_
      refine mz_aalen (lay := lay) (M := M) (id := a) (N := N) hPH C ha (by decide +kernel) ?_
      refine mz_ige (off := 24) (tgt := 29) C (by decide +kernel) (by decide) (fun h => ?_) (fun h => ?_)
      · exact mz_jvret C E (by decide +kernel) (fun H h => h)
      · have hj2 : j < N := Nat.not_le.mp fun q => h (by rw [Int32.le_iff_toInt_le]; show (nI N).toInt ≤ _; rw [nI_toInt (by omega), nI_toInt (by omega)]; omega)
        have hin : vp_in (nI j) N := vp_in_nI hj2 (by omega)
        have hcl : (nI j).toNatClampNeg = j := nI_clamp (by omega)
        refine mz_goP (lay := lay) (M := M) (cA := cA) (D := D) (cl := vwCl) (hPH) FLX10 KLX10 C [(8, .aload_n 0), (9, .iload_n 2)] (by decide +kernel) (pc' := 10) (L' := [(2, .int (nI j)), (0, .ref a), (1, .ref b)]) (st' := [.int (nI j), .ref a]) rfl ?_
        refine mz_aald (lay := lay) (M := M) (id := a) (N := N) (q := (ra j)) hPH C ha hin (by rw [hcl]; exact (hra j hj2).1) (by decide +kernel) ?_
        refine mz_goP (lay := lay) (M := M) (cA := cA) (D := D) (cl := vwCl) (hPH) FLX10 KLX10 C [(11, .iconst 0), (12, .aload_n 1), (13, .iload_n 2)] (by decide +kernel) (pc' := 14) (L' := [(2, .int (nI j)), (0, .ref a), (1, .ref b)]) (st' := [.int (nI j), .ref b, .int 0, .ref (ra j)]) rfl ?_
        refine mz_aald (lay := lay) (M := M) (id := b) (N := N) (q := (rb j)) hPH C hb hin (by rw [hcl]; exact (hrb j hj2).1) (by decide +kernel) ?_
        refine mz_goP (lay := lay) (M := M) (cA := cA) (D := D) (cl := vwCl) (hPH) FLX10 KLX10 C [(15, .iconst 0), (16, .aload_n 0), (17, .iload_n 2)] (by decide +kernel) (pc' := 18) (L' := [(2, .int (nI j)), (0, .ref a), (1, .ref b)]) (st' := [.int (nI j), .ref a, .int 0, .ref (rb j), .int 0, .ref (ra j)]) rfl ?_
        refine mz_aald (lay := lay) (M := M) (id := a) (N := N) (q := (ra j)) hPH C ha hin (by rw [hcl]; exact (hra j hj2).1) (by decide +kernel) ?_
        refine mz_alenP (t0 := 0) hPH C rfl (hra j hj2).2 (by decide +kernel) ?_
        refine mz_acpy (index := 39) (src := ra j) (dst := rb j) (n0 := K) (n1 := K) (t0 := 0) hPH (P' := P) (fun H H1 hp h z hq => ?_) C E' (hA j hj2) hI rfl (hra j hj2).2 (hrb j hj2).2 (mz_in 1548 (by decide +kernel) (by decide +kernel)) (mz_in 711 (by decide +kernel) (by decide +kernel)) (mz_in 710 (by decide +kernel) (by decide +kernel)) (mz_in 79 (by decide +kernel) (by decide +kernel)) (by decide) (by decide) (mz_nneg hK) (by rw [mz_ncl hK]; exact Nat.le_of_eq (Nat.zero_add _)) (by rw [mz_ncl hK]; exact Nat.le_of_eq (Nat.zero_add _)) (Nat.le_of_ble_eq_true rfl) (Nat.le_of_ble_eq_true rfl) (by decide +kernel) ?_
        · rw [(hz j hj2).1, (hz j hj2).2, mz_cpz, mz_s_z (hz j hj2).2] at h
          exact hP H H1 hp h z (fun q hq2 => hq q (fun e => hq2 (by rw [e]; exact hA j hj2)))
        refine mz_goP (lay := lay) (M := M) (cA := cA) (D := D) (cl := vwCl) (hPH) FLX10 KLX10 C [(23, .iinc 2 1), (26, .goto (-24))] (by decide +kernel) (pc' := 2) (L' := [(2, .int ((nI j) + 1)), (0, .ref a), (1, .ref b)]) (st' := []) rfl ?_
        rw [nI_1]
        refine mz_sub (L' := [(2, .int (nI (j + 1))), (0, .ref a), (1, .ref b)]) (fun q h => by simpa using h) ?_
        exact ih (j + 1) (by omega) (by omega)
  refine mz_goP (lay := lay) (M := M) (cA := cA) (D := D) (cl := vwCl) (hPH) FLX10 KLX10 C [(0, .iconst 0), (1, .istore_n 2)] (by decide +kernel) (pc' := 2) (L' := [(2, .int 0), (0, .ref a), (1, .ref b)]) (st' := []) rfl ?_
  exact loop N 0 (by omega) (by omega)
