/-! what a told house is asked: the door between, the guests in, whether a scene can be -/
set_option maxHeartbeats 4000000 in
theorem t_doorOf (l : Launch) (D : va_G) (cA : Nat → ClassId) (ρ : Nat → Nat) (Lg : Nat) (sz : Nat → Nat) (N M : mz_Mem) (Pr : Heap → Prop) (hPr : ∀ H, Pr H → mz_H D vwCl cA ρ (mz_TL Lg sz) M H) (hLK : mz_LK N M sz) (a b : Nat) (ha : a < 8) (hb : b < 8) : mz_J l D vwCl cA yX10_doorOf cX10_doorOf 4 (some .int) 0 0 0 0 [.ref (ρ 130), .int (nI a), .int (nI b)] Pr (some (.int (N 8 (a * 8 + b)))) Pr (fun _ => False) := by
  refine mz_introJ (ρ := ρ) (As0 := [.ref 130, .int (nI a), .int (nI b)]) (by decide +kernel) (Nat.le_of_ble_eq_true rfl) rfl (fun Γ C hO E _ => ?_)
  have E' := (⟨_, _, _, E⟩ : ∃ Qc mc ms, mz_E Γ Qc mc ms (fun _ => False))
  obtain ⟨⟨a3, a4, -⟩, -, -, h4, h5, -⟩ := hLK
  let mtch : Nat → Prop := fun k => (M (200 + k) 0 = nI a ∧ M (200 + k) 1 = nI b) ∨ (M (200 + k) 0 = nI b ∧ M (200 + k) 1 = nI a)
  have none_ : (∀ k, k < sz 4 → ¬ mtch k) → N 8 (a * 8 + b) = -1 := fun hno => by
    rcases h5 a b ha hb with h | ⟨i, hi, -, h⟩
    · exact h
    · exact absurd h (hno i hi)
  have hit : ∀ k, k < sz 4 → mtch k → N 8 (a * 8 + b) = nI k := fun k hk hm => by
    obtain ⟨x, y, hx, hy, g1, g2, g3, g4⟩ := h4 k hk
    rcases hm with ⟨p, q⟩ | ⟨p, q⟩
    · have e1 : x = a := (nI_eq (by omega) (by omega)).mp (g1.symm.trans p)
      have e2 : y = b := (nI_eq (by omega) (by omega)).mp (g2.symm.trans q)
      rw [← e1, ← e2]; exact g3
    · have e1 : x = b := (nI_eq (by omega) (by omega)).mp (g1.symm.trans p)
      have e2 : y = a := (nI_eq (by omega) (by omega)).mp (g2.symm.trans q)
      rw [← e1, ← e2]; exact g4
  refine mz_goP (lay := (mz_TL Lg sz)) (M := M) (cA := cA) (D := D) (cl := vwCl) (hPr) FLX10 KLX10 C [(0, .iconst 0), (1, .istore_n 3)] (by decide +kernel) (pc' := 2) (L' := [(3, .int 0), (0, .ref 130), (1, .int (nI a)), (2, .int (nI b))]) (st' := []) rfl ?_
  have key : ∀ (r k : Nat), k + r = sz 4 → (∀ q, q < k → ¬ mtch q) → mz_W Γ ρ 4 0 0 Pr 2 [(0, .ref 130), (1, .int (nI a)), (2, .int (nI b)), (3, .int (nI k))] [] := by
    intro r
    induction r with
    | zero =>
      intro k hk hno
      refine mz_goP (lay := (mz_TL Lg sz)) (M := M) (cA := cA) (D := D) (cl := vwCl) (hPr) FLX10 KLX10 C [(2, .iload_n 3), (3, .aload_n 0), (4, .getfield 21)] (by decide +kernel) (pc' := 7) (L' := [(0, .ref 130), (1, .int (nI a)), (2, .int (nI b)), (3, .int (nI k))]) (st' := [.ref 133, .int (nI k)]) rfl ?_
      refine mz_aalen hPr C (id := 133) (g := mz_rwi 4 (sz 4)) rfl (by decide +kernel) ?_
      refine mz_ige (off := 59) (tgt := 67) C (by decide +kernel) (by decide) (fun h => ?_) (fun h => absurd (nI_le (a := sz 4) (b := k) (by omega) (by omega)) h)
      refine mz_goP (lay := (mz_TL Lg sz)) (M := M) (cA := cA) (D := D) (cl := vwCl) (hPr) FLX10 KLX10 C [(67, .iconst (-1))] (by decide +kernel) (pc' := 68) (L' := [(0, .ref 130), (1, .int (nI a)), (2, .int (nI b)), (3, .int (nI k))]) (st' := [.int (-1)]) rfl ?_
      exact mz_jiret C E (by decide +kernel) (none_ (fun q hq => hno q (by omega))).symm (fun _ h => h)
    | succ r ih =>
      intro k hkr hno
      have hk : k < sz 4 := by omega
      have nxt : ¬ mtch k → mz_W Γ ρ 4 0 0 Pr 61 [(0, .ref 130), (1, .int (nI a)), (2, .int (nI b)), (3, .int (nI k))] [] := by
        intro hm
        refine mz_goP (lay := (mz_TL Lg sz)) (M := M) (cA := cA) (D := D) (cl := vwCl) (hPr) FLX10 KLX10 C [(61, .iinc 3 1), (64, .goto (-62))] (by decide +kernel) (pc' := 2) (L' := [(3, .int ((nI k) + 1)), (0, .ref 130), (1, .int (nI a)), (2, .int (nI b))]) (st' := []) rfl ?_
        rw [nI_1]
        refine mz_sub (L' := [(0, .ref 130), (1, .int (nI a)), (2, .int (nI b)), (3, .int (nI (k + 1)))]) (by simp) (ih (k + 1) (by omega) (fun q hq => ?_))
        by_cases z : q = k
        · rw [z]; exact hm
        · exact hno q (by omega)
      have fnd : mtch k → mz_W Γ ρ 4 0 0 Pr 59 [(0, .ref 130), (1, .int (nI a)), (2, .int (nI b)), (3, .int (nI k))] [] := by
        intro hm
        refine mz_goP (lay := (mz_TL Lg sz)) (M := M) (cA := cA) (D := D) (cl := vwCl) (hPr) FLX10 KLX10 C [(59, .iload_n 3)] (by decide +kernel) (pc' := 60) (L' := [(0, .ref 130), (1, .int (nI a)), (2, .int (nI b)), (3, .int (nI k))]) (st' := [.int (nI k)]) rfl ?_
        exact mz_jiret C E (by decide +kernel) (hit k hk hm).symm (fun _ h => h)
      have tail : ¬ (M (200 + k) 0 = nI a ∧ M (200 + k) 1 = nI b) → mz_W Γ ρ 4 0 0 Pr 35 [(0, .ref 130), (1, .int (nI a)), (2, .int (nI b)), (3, .int (nI k))] [] := by
        intro hm
        refine mz_goP (lay := (mz_TL Lg sz)) (M := M) (cA := cA) (D := D) (cl := vwCl) (hPr) FLX10 KLX10 C [(35, .aload_n 0), (36, .getfield 21), (39, .iload_n 3)] (by decide +kernel) (pc' := 40) (L' := [(0, .ref 130), (1, .int (nI a)), (2, .int (nI b)), (3, .int (nI k))]) (st' := [.int (nI k), .ref 133]) rfl ?_
        refine mz_aald (q := 200 + k) hPr C (id := 133) (N := sz 4) (g := mz_rwi 4 (sz 4)) rfl (vp_in_nI hk (by omega)) (by rw [nI_clamp (by omega)]; exact if_pos hk) (by decide +kernel) ?_
        refine mz_goP (lay := (mz_TL Lg sz)) (M := M) (cA := cA) (D := D) (cl := vwCl) (hPr) FLX10 KLX10 C [(41, .iconst 0)] (by decide +kernel) (pc' := 42) (L' := [(0, .ref 130), (1, .int (nI a)), (2, .int (nI b)), (3, .int (nI k))]) (st' := [.int 0, .ref (200 + k)]) rfl ?_
        refine mz_ildP hPr (t0 := 0) C rfl (N := 4) (mz_TL_row (j := 4) ⟨by decide, by decide⟩ hk (by omega)) (by unfold vp_in; decide) (by decide +kernel) ?_
        rw [show M (200 + k) (0 : Int32).toNatClampNeg = M (200 + k) 0 from rfl]
        refine mz_goP (lay := (mz_TL Lg sz)) (M := M) (cA := cA) (D := D) (cl := vwCl) (hPr) FLX10 KLX10 C [(43, .iload_n 2)] (by decide +kernel) (pc' := 44) (L' := [(0, .ref 130), (1, .int (nI a)), (2, .int (nI b)), (3, .int (nI k))]) (st' := [.int (nI b), .int (M (200 + k) 0)]) rfl ?_
        refine mz_ine (off := 17) (tgt := 61) C (by decide +kernel) (by decide) (fun h1 => nxt (fun z => z.elim hm (fun w => h1 w.1))) (fun h1 => ?_)
        refine mz_goP (lay := (mz_TL Lg sz)) (M := M) (cA := cA) (D := D) (cl := vwCl) (hPr) FLX10 KLX10 C [(47, .aload_n 0), (48, .getfield 21), (51, .iload_n 3)] (by decide +kernel) (pc' := 52) (L' := [(0, .ref 130), (1, .int (nI a)), (2, .int (nI b)), (3, .int (nI k))]) (st' := [.int (nI k), .ref 133]) rfl ?_
        refine mz_aald (q := 200 + k) hPr C (id := 133) (N := sz 4) (g := mz_rwi 4 (sz 4)) rfl (vp_in_nI hk (by omega)) (by rw [nI_clamp (by omega)]; exact if_pos hk) (by decide +kernel) ?_
        refine mz_goP (lay := (mz_TL Lg sz)) (M := M) (cA := cA) (D := D) (cl := vwCl) (hPr) FLX10 KLX10 C [(53, .iconst 1)] (by decide +kernel) (pc' := 54) (L' := [(0, .ref 130), (1, .int (nI a)), (2, .int (nI b)), (3, .int (nI k))]) (st' := [.int 1, .ref (200 + k)]) rfl ?_
        refine mz_ildP hPr (t0 := 0) C rfl (N := 4) (mz_TL_row (j := 4) ⟨by decide, by decide⟩ hk (by omega)) (by unfold vp_in; decide) (by decide +kernel) ?_
        rw [show M (200 + k) (1 : Int32).toNatClampNeg = M (200 + k) 1 from rfl]
        refine mz_goP (lay := (mz_TL Lg sz)) (M := M) (cA := cA) (D := D) (cl := vwCl) (hPr) FLX10 KLX10 C [(55, .iload_n 1)] (by decide +kernel) (pc' := 56) (L' := [(0, .ref 130), (1, .int (nI a)), (2, .int (nI b)), (3, .int (nI k))]) (st' := [.int (nI a), .int (M (200 + k) 1)]) rfl ?_
        refine mz_ine (off := 5) (tgt := 61) C (by decide +kernel) (by decide) (fun h2 => nxt (fun z => z.elim hm (fun w => h2 w.2))) (fun h2 => fnd (Or.inr ⟨h1, h2⟩))
      refine mz_goP (lay := (mz_TL Lg sz)) (M := M) (cA := cA) (D := D) (cl := vwCl) (hPr) FLX10 KLX10 C [(2, .iload_n 3), (3, .aload_n 0), (4, .getfield 21)] (by decide +kernel) (pc' := 7) (L' := [(0, .ref 130), (1, .int (nI a)), (2, .int (nI b)), (3, .int (nI k))]) (st' := [.ref 133, .int (nI k)]) rfl ?_
      refine mz_aalen hPr C (id := 133) (g := mz_rwi 4 (sz 4)) rfl (by decide +kernel) ?_
      refine mz_ige (off := 59) (tgt := 67) C (by decide +kernel) (by decide) (fun h => absurd h (nI_ge (a := k) (b := sz 4) hk (by omega))) (fun h => ?_)
      refine mz_goP (lay := (mz_TL Lg sz)) (M := M) (cA := cA) (D := D) (cl := vwCl) (hPr) FLX10 KLX10 C [(11, .aload_n 0), (12, .getfield 21), (15, .iload_n 3)] (by decide +kernel) (pc' := 16) (L' := [(0, .ref 130), (1, .int (nI a)), (2, .int (nI b)), (3, .int (nI k))]) (st' := [.int (nI k), .ref 133]) rfl ?_
      refine mz_aald (q := 200 + k) hPr C (id := 133) (N := sz 4) (g := mz_rwi 4 (sz 4)) rfl (vp_in_nI hk (by omega)) (by rw [nI_clamp (by omega)]; exact if_pos hk) (by decide +kernel) ?_
      refine mz_goP (lay := (mz_TL Lg sz)) (M := M) (cA := cA) (D := D) (cl := vwCl) (hPr) FLX10 KLX10 C [(17, .iconst 0)] (by decide +kernel) (pc' := 18) (L' := [(0, .ref 130), (1, .int (nI a)), (2, .int (nI b)), (3, .int (nI k))]) (st' := [.int 0, .ref (200 + k)]) rfl ?_
      refine mz_ildP hPr (t0 := 0) C rfl (N := 4) (mz_TL_row (j := 4) ⟨by decide, by decide⟩ hk (by omega)) (by unfold vp_in; decide) (by decide +kernel) ?_
      rw [show M (200 + k) (0 : Int32).toNatClampNeg = M (200 + k) 0 from rfl]
      refine mz_goP (lay := (mz_TL Lg sz)) (M := M) (cA := cA) (D := D) (cl := vwCl) (hPr) FLX10 KLX10 C [(19, .iload_n 1)] (by decide +kernel) (pc' := 20) (L' := [(0, .ref 130), (1, .int (nI a)), (2, .int (nI b)), (3, .int (nI k))]) (st' := [.int (nI a), .int (M (200 + k) 0)]) rfl ?_
      refine mz_ine (off := 15) (tgt := 35) C (by decide +kernel) (by decide) (fun h1 => tail (fun w => h1 w.1)) (fun h1 => ?_)
      refine mz_goP (lay := (mz_TL Lg sz)) (M := M) (cA := cA) (D := D) (cl := vwCl) (hPr) FLX10 KLX10 C [(23, .aload_n 0), (24, .getfield 21), (27, .iload_n 3)] (by decide +kernel) (pc' := 28) (L' := [(0, .ref 130), (1, .int (nI a)), (2, .int (nI b)), (3, .int (nI k))]) (st' := [.int (nI k), .ref 133]) rfl ?_
      refine mz_aald (q := 200 + k) hPr C (id := 133) (N := sz 4) (g := mz_rwi 4 (sz 4)) rfl (vp_in_nI hk (by omega)) (by rw [nI_clamp (by omega)]; exact if_pos hk) (by decide +kernel) ?_
      refine mz_goP (lay := (mz_TL Lg sz)) (M := M) (cA := cA) (D := D) (cl := vwCl) (hPr) FLX10 KLX10 C [(29, .iconst 1)] (by decide +kernel) (pc' := 30) (L' := [(0, .ref 130), (1, .int (nI a)), (2, .int (nI b)), (3, .int (nI k))]) (st' := [.int 1, .ref (200 + k)]) rfl ?_
      refine mz_ildP hPr (t0 := 0) C rfl (N := 4) (mz_TL_row (j := 4) ⟨by decide, by decide⟩ hk (by omega)) (by unfold vp_in; decide) (by decide +kernel) ?_
      rw [show M (200 + k) (1 : Int32).toNatClampNeg = M (200 + k) 1 from rfl]
      refine mz_goP (lay := (mz_TL Lg sz)) (M := M) (cA := cA) (D := D) (cl := vwCl) (hPr) FLX10 KLX10 C [(31, .iload_n 2)] (by decide +kernel) (pc' := 32) (L' := [(0, .ref 130), (1, .int (nI a)), (2, .int (nI b)), (3, .int (nI k))]) (st' := [.int (nI b), .int (M (200 + k) 1)]) rfl ?_
      refine mz_ieq (off := 27) (tgt := 59) C (by decide +kernel) (by decide) (fun h2 => fnd (Or.inl ⟨h1, h2⟩)) (fun h2 => tail (fun w => h2 w.2))
  refine mz_sub (L' := [(0, .ref 130), (1, .int (nI a)), (2, .int (nI b)), (3, .int (nI 0))]) (by simp [nI_0]) (key (sz 4) 0 (by omega) (fun q hq => by omega))
set_option maxHeartbeats 4000000 in
theorem t_guestsIn (l : Launch) (D : va_G) (cA : Nat → ClassId) (ρ : Nat → Nat) (Lg : Nat) (sz : Nat → Nat) (N M : mz_Mem) (Pr : Heap → Prop) (hPr : ∀ H, Pr H → mz_H D vwCl cA ρ (mz_TL Lg sz) M H) (hLK : mz_LK N M sz) (r : Nat) : mz_J l D vwCl cA yX10_guestsIn cX10_guestsIn 7 (some .int) 0 0 0 0 [.ref (ρ 130), .int (nI r)] Pr (some (.int (nI (mz_cnt (N 62) (nI r) (sz 8))))) Pr (fun _ => False) := by
  refine mz_introJ (ρ := ρ) (As0 := [.ref 130, .int (nI r)]) (by decide +kernel) (Nat.le_of_ble_eq_true rfl) rfl (fun Γ C hO E _ => ?_)
  have E' := (⟨_, _, _, E⟩ : ∃ Qc mc ms, mz_E Γ Qc mc ms (fun _ => False))
  obtain ⟨⟨a3, a4, a5, a6, a7, a8⟩, -, -, -, -, -, h7, -⟩ := hLK
  refine mz_goP (lay := (mz_TL Lg sz)) (M := M) (cA := cA) (D := D) (cl := vwCl) (hPr) FLX10 KLX10 C [(0, .iconst 0), (1, .istore_n 2), (2, .aload_n 0), (3, .getfield 34), (6, .astore_n 3), (7, .aload_n 3)] (by decide +kernel) (pc' := 8) (L' := [(3, .ref 137), (2, .int 0), (0, .ref 130), (1, .int (nI r))]) (st' := [.ref 137]) rfl ?_
  refine mz_aalen hPr C (id := 137) (g := mz_rwi 8 (sz 8)) rfl (by decide +kernel) ?_
  refine mz_goP (lay := (mz_TL Lg sz)) (M := M) (cA := cA) (D := D) (cl := vwCl) (hPr) FLX10 KLX10 C [(9, .istore 4), (11, .iconst 0), (12, .istore 5)] (by decide +kernel) (pc' := 14) (L' := [(5, .int 0), (4, .int (Int32.ofNat (sz 8))), (3, .ref 137), (2, .int 0), (0, .ref 130), (1, .int (nI r))]) (st' := []) rfl ?_
  have key : ∀ (f k : Nat), k + f = sz 8 → mz_W Γ ρ 7 0 0 Pr 14 [(1, .int (nI r)), (2, .int (nI (mz_cnt (N 62) (nI r) k))), (3, .ref 137), (4, .int (nI (sz 8))), (5, .int (nI k))] [] := by
    intro f
    induction f with
    | zero =>
      intro k hk
      refine mz_goP (lay := (mz_TL Lg sz)) (M := M) (cA := cA) (D := D) (cl := vwCl) (hPr) FLX10 KLX10 C [(14, .iload 5), (16, .iload 4)] (by decide +kernel) (pc' := 18) (L' := [(1, .int (nI r)), (2, .int (nI (mz_cnt (N 62) (nI r) k))), (3, .ref 137), (4, .int (nI (sz 8))), (5, .int (nI k))]) (st' := [.int (nI (sz 8)), .int (nI k)]) rfl ?_
      refine mz_ige (off := 31) (tgt := 49) C (by decide +kernel) (by decide) (fun h => ?_) (fun h => absurd (nI_le (a := sz 8) (b := k) (by omega) (by omega)) h)
      refine mz_goP (lay := (mz_TL Lg sz)) (M := M) (cA := cA) (D := D) (cl := vwCl) (hPr) FLX10 KLX10 C [(49, .iload_n 2)] (by decide +kernel) (pc' := 50) (L' := [(1, .int (nI r)), (2, .int (nI (mz_cnt (N 62) (nI r) k))), (3, .ref 137), (4, .int (nI (sz 8))), (5, .int (nI k))]) (st' := [.int (nI (mz_cnt (N 62) (nI r) k))]) rfl ?_
      have hk : k = sz 8 := by omega
      exact mz_jiret C E (by decide +kernel) (by rw [hk]) (fun _ h => h)
    | succ f ih =>
      intro k hkf
      have hk : k < sz 8 := by omega
      refine mz_goP (lay := (mz_TL Lg sz)) (M := M) (cA := cA) (D := D) (cl := vwCl) (hPr) FLX10 KLX10 C [(14, .iload 5), (16, .iload 4)] (by decide +kernel) (pc' := 18) (L' := [(1, .int (nI r)), (2, .int (nI (mz_cnt (N 62) (nI r) k))), (3, .ref 137), (4, .int (nI (sz 8))), (5, .int (nI k))]) (st' := [.int (nI (sz 8)), .int (nI k)]) rfl ?_
      refine mz_ige (off := 31) (tgt := 49) C (by decide +kernel) (by decide) (fun h => absurd h (nI_ge (a := k) (b := sz 8) hk (by omega))) (fun h => ?_)
      refine mz_goP (lay := (mz_TL Lg sz)) (M := M) (cA := cA) (D := D) (cl := vwCl) (hPr) FLX10 KLX10 C [(21, .aload_n 3), (22, .iload 5)] (by decide +kernel) (pc' := 24) (L' := [(1, .int (nI r)), (2, .int (nI (mz_cnt (N 62) (nI r) k))), (3, .ref 137), (4, .int (nI (sz 8))), (5, .int (nI k))]) (st' := [.int (nI k), .ref 137]) rfl ?_
      refine mz_aald (q := 600 + k) hPr C (id := 137) (N := sz 8) (g := mz_rwi 8 (sz 8)) rfl (vp_in_nI hk (by omega)) (by rw [nI_clamp (by omega)]; exact if_pos hk) (by decide +kernel) ?_
      refine mz_goP (lay := (mz_TL Lg sz)) (M := M) (cA := cA) (D := D) (cl := vwCl) (hPr) FLX10 KLX10 C [(25, .astore 6), (27, .iload_n 2), (28, .aload 6), (30, .iconst 0)] (by decide +kernel) (pc' := 31) (L' := [(6, .ref (600 + k)), (1, .int (nI r)), (2, .int (nI (mz_cnt (N 62) (nI r) k))), (3, .ref 137), (4, .int (nI (sz 8))), (5, .int (nI k))]) (st' := [.int 0, .ref (600 + k), .int (nI (mz_cnt (N 62) (nI r) k))]) rfl ?_
      refine mz_ildP hPr (t0 := 0) C rfl (N := 7) (mz_TL_row (j := 8) ⟨by decide, by decide⟩ hk (by omega)) (by unfold vp_in; decide) (by decide +kernel) ?_
      rw [show M (600 + k) (0 : Int32).toNatClampNeg = N 62 k from (h7 k hk).1]
      refine mz_goP (lay := (mz_TL Lg sz)) (M := M) (cA := cA) (D := D) (cl := vwCl) (hPr) FLX10 KLX10 C [(32, .iload_n 1)] (by decide +kernel) (pc' := 33) (L' := [(6, .ref (600 + k)), (1, .int (nI r)), (2, .int (nI (mz_cnt (N 62) (nI r) k))), (3, .ref 137), (4, .int (nI (sz 8))), (5, .int (nI k))]) (st' := [.int (nI r), .int (N 62 k), .int (nI (mz_cnt (N 62) (nI r) k))]) rfl ?_
      have stp : ∀ v : Nat, (if N 62 k = nI r then 1 else 0) = v → mz_W Γ ρ 7 0 0 Pr 41 [(6, .ref (600 + k)), (1, .int (nI r)), (2, .int (nI (mz_cnt (N 62) (nI r) k))), (3, .ref 137), (4, .int (nI (sz 8))), (5, .int (nI k))] [.int (nI v), .int (nI (mz_cnt (N 62) (nI r) k))] := by
        intro v hv
        refine mz_goP (lay := (mz_TL Lg sz)) (M := M) (cA := cA) (D := D) (cl := vwCl) (hPr) FLX10 KLX10 C [(41, .iadd), (42, .istore_n 2), (43, .iinc 5 1), (46, .goto (-32))] (by decide +kernel) (pc' := 14) (L' := [(5, .int ((nI k) + 1)), (2, .int ((nI (mz_cnt (N 62) (nI r) k)) + (nI v))), (6, .ref (600 + k)), (1, .int (nI r)), (3, .ref 137), (4, .int (nI (sz 8)))]) (st' := []) rfl ?_
        rw [nI_add, nI_1]
        refine mz_sub (L' := [(1, .int (nI r)), (2, .int (nI (mz_cnt (N 62) (nI r) (k + 1)))), (3, .ref 137), (4, .int (nI (sz 8))), (5, .int (nI (k + 1)))]) ?_ (ih (k + 1) (by omega))
        rw [show mz_cnt (N 62) (nI r) (k + 1) = mz_cnt (N 62) (nI r) k + v by rw [← hv]; rfl]
        simp
      refine mz_ine (off := 7) (tgt := 40) C (by decide +kernel) (by decide) (fun h2 => ?_) (fun h2 => ?_)
      · refine mz_goP (lay := (mz_TL Lg sz)) (M := M) (cA := cA) (D := D) (cl := vwCl) (hPr) FLX10 KLX10 C [(40, .iconst 0)] (by decide +kernel) (pc' := 41) (L' := [(6, .ref (600 + k)), (1, .int (nI r)), (2, .int (nI (mz_cnt (N 62) (nI r) k))), (3, .ref 137), (4, .int (nI (sz 8))), (5, .int (nI k))]) (st' := [.int 0, .int (nI (mz_cnt (N 62) (nI r) k))]) rfl ?_
        exact stp 0 (if_neg h2)
      · refine mz_goP (lay := (mz_TL Lg sz)) (M := M) (cA := cA) (D := D) (cl := vwCl) (hPr) FLX10 KLX10 C [(36, .iconst 1), (37, .goto 4)] (by decide +kernel) (pc' := 41) (L' := [(6, .ref (600 + k)), (1, .int (nI r)), (2, .int (nI (mz_cnt (N 62) (nI r) k))), (3, .ref 137), (4, .int (nI (sz 8))), (5, .int (nI k))]) (st' := [.int 1, .int (nI (mz_cnt (N 62) (nI r) k))]) rfl ?_
        exact stp 1 (if_pos h2)
  refine mz_sub (L' := [(1, .int (nI r)), (2, .int (nI (mz_cnt (N 62) (nI r) 0))), (3, .ref 137), (4, .int (nI (sz 8))), (5, .int (nI 0))]) (by simp [nI_0, mz_cnt, nI]) (key (sz 8) 0 (by omega))
/-- no scene that is told has a track and a minute of these -/
def mz_cs (N : mz_Mem) (q : Int32) (s d : Nat) : Nat → Prop := fun n => ∀ k, k < n → 0 < N 27 k &&& q → mz_ov (N 23 k).toInt.toNat (N 25 k).toInt.toNat s d = 0
noncomputable def mz_csI (N : mz_Mem) (q : Int32) (s d n : Nat) : Int32 := @ite _ (mz_cs N q s d n) (Classical.propDecidable _) 1 0
set_option maxHeartbeats 4000000 in
theorem t_canScene (l : Launch) (D : va_G) (cA : Nat → ClassId) (ρ : Nat → Nat) (Lg : Nat) (sz : Nat → Nat) (N M : mz_Mem) (lay : mz_Lay) (Pr : Heap → Prop) (hPr : ∀ H, Pr H → mz_H D vwCl cA ρ lay M H) (hTL : ∀ k sh, mz_TL Lg sz k = some sh → lay k = some sh) (hLK : mz_LK N M sz) (b s d : Nat) (q : Int32) (hb : lay b = some (mz_a 10)) (v1 : M b 1 = nI s) (v2 : M b 2 = nI d) (v3 : M b 3 = q) (hs : s ≤ 12) (hd1 : 1 ≤ d) (hd : d ≤ 6) : mz_J l D vwCl cA yX10_canScene cX10_canScene 6 (some .boolean) 1 22 0 0 [.ref (ρ 130), .ref (ρ b)] Pr (some (.int (mz_csI N q s d (sz 7)))) Pr (fun _ => False) := by
  refine mz_introJ (ρ := ρ) (As0 := [.ref 130, .ref b]) (by decide +kernel) (Nat.le_of_ble_eq_true rfl) rfl (fun Γ C hO E _ => ?_)
  have E' := (⟨_, _, _, E⟩ : ∃ Qc mc ms, mz_E Γ Qc mc ms (fun _ => False))
  obtain ⟨⟨a3, a4, a5, a6, a7, a8⟩, -, -, -, -, h6, -⟩ := hLK
  refine mz_goP (lay := (mz_TL Lg sz)) (M := M) (cA := cA) (D := D) (cl := vwCl) (fun H h => mz_H_TL hTL (hPr H h)) FLX10 KLX10 C [(0, .aload_n 0), (1, .getfield 31), (4, .astore_n 2), (5, .aload_n 2)] (by decide +kernel) (pc' := 6) (L' := [(2, .ref 136), (0, .ref 130), (1, .ref b)]) (st' := [.ref 136]) rfl ?_
  refine mz_aalen hPr C (id := 136) (g := mz_rwi 7 (sz 7)) (hTL 136 _ rfl) (by decide +kernel) ?_
  refine mz_goP (lay := (mz_TL Lg sz)) (M := M) (cA := cA) (D := D) (cl := vwCl) (fun H h => mz_H_TL hTL (hPr H h)) FLX10 KLX10 C [(7, .istore_n 3), (8, .iconst 0), (9, .istore 4)] (by decide +kernel) (pc' := 11) (L' := [(4, .int 0), (3, .int (Int32.ofNat (sz 7))), (2, .ref 136), (0, .ref 130), (1, .ref b)]) (st' := []) rfl ?_
  have key : ∀ (f k : Nat), k + f = sz 7 → mz_cs N q s d k → mz_W Γ ρ 6 0 0 Pr 11 [(1, .ref b), (2, .ref 136), (3, .int (nI (sz 7))), (4, .int (nI k))] [] := by
    intro f
    induction f with
    | zero =>
      intro k hk hcs
      refine mz_goP (lay := (mz_TL Lg sz)) (M := M) (cA := cA) (D := D) (cl := vwCl) (fun H h => mz_H_TL hTL (hPr H h)) FLX10 KLX10 C [(11, .iload 4), (13, .iload_n 3)] (by decide +kernel) (pc' := 14) (L' := [(1, .ref b), (2, .ref 136), (3, .int (nI (sz 7))), (4, .int (nI k))]) (st' := [.int (nI (sz 7)), .int (nI k)]) rfl ?_
      refine mz_ige (off := 37) (tgt := 51) C (by decide +kernel) (by decide) (fun h => ?_) (fun h => absurd (nI_le (a := sz 7) (b := k) (by omega) (by omega)) h)
      refine mz_goP (lay := (mz_TL Lg sz)) (M := M) (cA := cA) (D := D) (cl := vwCl) (fun H h => mz_H_TL hTL (hPr H h)) FLX10 KLX10 C [(51, .iconst 1)] (by decide +kernel) (pc' := 52) (L' := [(1, .ref b), (2, .ref 136), (3, .int (nI (sz 7))), (4, .int (nI k))]) (st' := [.int 1]) rfl ?_
      have hk : k = sz 7 := by omega
      exact mz_jzret C E (by decide +kernel) (Or.inr rfl) (by unfold mz_csI; rw [if_pos (hk ▸ hcs)]) (fun _ h => h)
    | succ f ih =>
      intro k hkf hcs
      have hk : k < sz 7 := by omega
      obtain ⟨w1, w2, w3, x, y, hx, hy1, hy, w4, w5⟩ := h6 k hk
      have eov : mz_ov (N 23 k).toInt.toNat (N 25 k).toInt.toNat s d = mz_ov x y s d := by rw [w4, w5, nI_toInt (by omega), nI_toInt (by omega)]; rfl
      have nxt : (0 < N 27 k &&& q → mz_ov x y s d = 0) → mz_W Γ ρ 6 0 0 Pr 45 [(1, .ref b), (2, .ref 136), (3, .int (nI (sz 7))), (4, .int (nI k))] [] := by
        intro hz
        refine mz_goP (lay := (mz_TL Lg sz)) (M := M) (cA := cA) (D := D) (cl := vwCl) (fun H h => mz_H_TL hTL (hPr H h)) FLX10 KLX10 C [(45, .iinc 4 1), (48, .goto (-37))] (by decide +kernel) (pc' := 11) (L' := [(4, .int ((nI k) + 1)), (1, .ref b), (2, .ref 136), (3, .int (nI (sz 7)))]) (st' := []) rfl ?_
        rw [nI_1]
        refine mz_sub (L' := [(1, .ref b), (2, .ref 136), (3, .int (nI (sz 7))), (4, .int (nI (k + 1)))]) (by simp) (ih (k + 1) (by omega) (fun j hj => ?_))
        by_cases z : j = k
        · rw [z, eov]; exact hz
        · exact hcs j (by omega)
      refine mz_goP (lay := (mz_TL Lg sz)) (M := M) (cA := cA) (D := D) (cl := vwCl) (fun H h => mz_H_TL hTL (hPr H h)) FLX10 KLX10 C [(11, .iload 4), (13, .iload_n 3)] (by decide +kernel) (pc' := 14) (L' := [(1, .ref b), (2, .ref 136), (3, .int (nI (sz 7))), (4, .int (nI k))]) (st' := [.int (nI (sz 7)), .int (nI k)]) rfl ?_
      refine mz_ige (off := 37) (tgt := 51) C (by decide +kernel) (by decide) (fun h => absurd h (nI_ge (a := k) (b := sz 7) hk (by omega))) (fun h => ?_)
      refine mz_goP (lay := (mz_TL Lg sz)) (M := M) (cA := cA) (D := D) (cl := vwCl) (fun H h => mz_H_TL hTL (hPr H h)) FLX10 KLX10 C [(17, .aload_n 2), (18, .iload 4)] (by decide +kernel) (pc' := 20) (L' := [(1, .ref b), (2, .ref 136), (3, .int (nI (sz 7))), (4, .int (nI k))]) (st' := [.int (nI k), .ref 136]) rfl ?_
      refine mz_aald (q := 500 + k) hPr C (id := 136) (N := sz 7) (g := mz_rwi 7 (sz 7)) (hTL 136 _ rfl) (vp_in_nI hk (by omega)) (by rw [nI_clamp (by omega)]; exact if_pos hk) (by decide +kernel) ?_
      refine mz_goP (lay := (mz_TL Lg sz)) (M := M) (cA := cA) (D := D) (cl := vwCl) (fun H h => mz_H_TL hTL (hPr H h)) FLX10 KLX10 C [(21, .astore 5), (23, .aload 5), (25, .iconst 3)] (by decide +kernel) (pc' := 26) (L' := [(5, .ref (500 + k)), (1, .ref b), (2, .ref 136), (3, .int (nI (sz 7))), (4, .int (nI k))]) (st' := [.int 3, .ref (500 + k)]) rfl ?_
      refine mz_ildP hPr (t0 := 0) C rfl (N := 10) (hTL _ _ (mz_TL_row (j := 7) ⟨by decide, by decide⟩ hk (by omega))) (by unfold vp_in; decide) (by decide +kernel) ?_
      rw [show M (500 + k) (3 : Int32).toNatClampNeg = N 27 k from w3]
      refine mz_goP (lay := (mz_TL Lg sz)) (M := M) (cA := cA) (D := D) (cl := vwCl) (fun H h => mz_H_TL hTL (hPr H h)) FLX10 KLX10 C [(27, .aload_n 1), (28, .iconst 3)] (by decide +kernel) (pc' := 29) (L' := [(5, .ref (500 + k)), (1, .ref b), (2, .ref 136), (3, .int (nI (sz 7))), (4, .int (nI k))]) (st' := [.int 3, .ref b, .int (N 27 k)]) rfl ?_
      refine mz_ildP hPr (t0 := 0) C rfl (N := 10) hb (by unfold vp_in; decide) (by decide +kernel) ?_
      rw [show M b (3 : Int32).toNatClampNeg = q from v3]
      refine mz_goP (lay := (mz_TL Lg sz)) (M := M) (cA := cA) (D := D) (cl := vwCl) (fun H h => mz_H_TL hTL (hPr H h)) FLX10 KLX10 C [(30, .iand)] (by decide +kernel) (pc' := 31) (L' := [(5, .ref (500 + k)), (1, .ref b), (2, .ref 136), (3, .int (nI (sz 7))), (4, .int (nI k))]) (st' := [.int ((N 27 k) &&& q)]) rfl ?_
      refine mz_zle (off := 14) (tgt := 45) C (by decide +kernel) (by decide) (fun h2 => mz_sub (L' := [(1, .ref b), (2, .ref 136), (3, .int (nI (sz 7))), (4, .int (nI k))]) (by simp) (nxt (fun z => absurd h2 (Int32.not_le.mpr z)))) (fun h2 => ?_)
      refine mz_goP (lay := (mz_TL Lg sz)) (M := M) (cA := cA) (D := D) (cl := vwCl) (fun H h => mz_H_TL hTL (hPr H h)) FLX10 KLX10 C [(34, .aload 5), (36, .aload_n 1)] (by decide +kernel) (pc' := 37) (L' := [(5, .ref (500 + k)), (1, .ref b), (2, .ref 136), (3, .int (nI (sz 7))), (4, .int (nI k))]) (st' := [.ref b, .ref (500 + k)]) rfl ?_
      refine mz_callJS (As := [.ref (ρ (500 + k)), .ref (ρ b)]) (rest := []) (index := 88) C hO E' (t_overlap l D cA ρ lay M Pr hPr (500 + k) b x y s d (hTL _ _ (mz_TL_row (j := 7) ⟨by decide, by decide⟩ hk (by omega))) hb (w1.trans w4) (w2.trans w5) v1 v2 (by omega) (by omega) (by omega) (by omega) (by omega) (by omega)) (fun _ h => h.elim) (fun _ h => h) (fun _ _ _ h _ _ => h) hs_X10_overlap wl_X10_88 rfl ⟨Nat.le_of_ble_eq_true rfl, Nat.le_of_ble_eq_true rfl⟩ ⟨Nat.le_refl _, Nat.le_refl _⟩ (Nat.le_of_ble_eq_true rfl) (by decide +kernel) (st' := [.int (mz_ov x y s d)]) ?_ rfl rfl
      refine mz_zeq (off := 5) (tgt := 45) C (by decide +kernel) (by decide) (fun h3 => mz_sub (L' := [(1, .ref b), (2, .ref 136), (3, .int (nI (sz 7))), (4, .int (nI k))]) (by simp) (nxt (fun _ => h3))) (fun h3 => ?_)
      refine mz_goP (lay := (mz_TL Lg sz)) (M := M) (cA := cA) (D := D) (cl := vwCl) (fun H h => mz_H_TL hTL (hPr H h)) FLX10 KLX10 C [(43, .iconst 0)] (by decide +kernel) (pc' := 44) (L' := [(5, .ref (500 + k)), (1, .ref b), (2, .ref 136), (3, .int (nI (sz 7))), (4, .int (nI k))]) (st' := [.int 0]) rfl ?_
      exact mz_jzret C E (by decide +kernel) (Or.inl rfl) (by unfold mz_csI; rw [if_neg (fun z => h3 (eov ▸ z k hk (Int32.not_le.mp h2)))]) (fun _ h => h)
  refine mz_sub (L' := [(1, .ref b), (2, .ref 136), (3, .int (nI (sz 7))), (4, .int (nI 0))]) (by simp [nI_0, nI]) (key (sz 7) 0 (by omega) (fun j hj => by omega))
