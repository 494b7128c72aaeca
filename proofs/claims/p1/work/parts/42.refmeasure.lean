theorem mz_far_row {a : Nat} (h : a < 8) : mz_layH (12 + a) = some (mz_a 8) := mz_row_of (lay := mz_layH) (a := 11) (N := 8) (by decide +kernel) a h
theorem mz_wid_row {a : Nat} (h : a < 8) : mz_layH (3 + a) = some (mz_a 8) := mz_row_of (lay := mz_layH) (a := 2) (N := 8) (by decide +kernel) a h
theorem mz_nlt {a : Nat} (h : ¬ (8 : Int32) ≤ nI a) (ha : a ≤ 8) : a < 8 := by
  rcases Nat.lt_or_ge a 8 with h1 | h1
  · exact h1
  · have : a = 8 := by omega
    subst this
    exact absurd (by decide) h
set_option maxHeartbeats 8000000 in
theorem r_measure (l : Launch) (D : va_G) (cA : Nat → ClassId) (x : Nat) (M : mz_Mem) (f0 : Nat → Int32) (h0 : M 0 = f0) : mz_J l D vwCl cA yX10_measure cX10_measure 4 none 1 40 0 0 [.ref x] (mz_H D vwCl cA (fun k => x + k) mz_layH M) none (fun H => ∃ M' : mz_Mem, M' 0 = f0 ∧ mz_H D vwCl cA (fun k => x + k) mz_layH M' H) (fun q => x ≤ q ∧ q < x + 70) := by
  refine mz_introJ (ρ := (fun k => x + k)) (As0 := [.ref 0]) (by decide +kernel) (Nat.le_of_ble_eq_true rfl) rfl (fun Γ C hO E hN => ?_)
  have E' := (⟨_, _, _, E⟩ : ∃ Qc mc ms, mz_E Γ Qc mc ms (fun q => x ≤ q ∧ q < x + 70))
  have s3 : ∀ (r m : Nat), 8 - m ≤ r → m ≤ 8 → ∀ M : mz_Mem, M 0 = f0 → mz_W Γ (fun k => x + k) 4 0 0 (mz_H D vwCl cA (fun k => x + k) mz_layH M) 64 [(1, .int (nI m)), (0, .ref 0)] [] := by
    intro r
    induction r with
    | zero =>
      intro m h1 hm M hM
      refine mz_goP (lay := mz_layH) (M := M) (cA := cA) (D := D) (cl := vwCl) (fun H h => h) FLX10 KLX10 C [(64, .iload_n 1), (65, .bipush 8)] (by decide +kernel) (pc' := 67) (L' := [(1, .int (nI m)), (0, .ref 0)]) (st' := [.int 8, .int (nI m)]) rfl ?_
      refine mz_ige (off := 73) (tgt := 140) C (by decide +kernel) (by decide) (fun h => ?_) (fun h => ?_)
      · exact mz_jvret C E (by decide +kernel) (fun H h => ⟨M, hM, h⟩)
      · exact absurd (by rw [show m = 8 by omega]; decide) h
    | succ r ihm =>
      intro m h1 hm8 M hM
      refine mz_goP (lay := mz_layH) (M := M) (cA := cA) (D := D) (cl := vwCl) (fun H h => h) FLX10 KLX10 C [(64, .iload_n 1), (65, .bipush 8)] (by decide +kernel) (pc' := 67) (L' := [(1, .int (nI m)), (0, .ref 0)]) (st' := [.int 8, .int (nI m)]) rfl ?_
      refine mz_ige (off := 73) (tgt := 140) C (by decide +kernel) (by decide) (fun h => ?_) (fun h => ?_)
      · exact mz_jvret C E (by decide +kernel) (fun H h => ⟨M, hM, h⟩)
      have hm : m < 8 := mz_nlt h hm8
      refine mz_goP (lay := mz_layH) (M := M) (cA := cA) (D := D) (cl := vwCl) (fun H h => h) FLX10 KLX10 C [(70, .iconst 0), (71, .istore_n 2)] (by decide +kernel) (pc' := 72) (L' := [(2, .int 0), (1, .int (nI m)), (0, .ref 0)]) (st' := []) rfl ?_
      have s2 : ∀ (r2 a : Nat), 8 - a ≤ r2 → a ≤ 8 → ∀ M : mz_Mem, M 0 = f0 → mz_W Γ (fun k => x + k) 4 0 0 (mz_H D vwCl cA (fun k => x + k) mz_layH M) 72 [(2, .int (nI a)), (1, .int (nI m)), (0, .ref 0)] [] := by
        intro r2
        induction r2 with
        | zero =>
          intro a h1a ha8 M hM
          refine mz_goP (lay := mz_layH) (M := M) (cA := cA) (D := D) (cl := vwCl) (fun H h => h) FLX10 KLX10 C [(72, .iload_n 2), (73, .bipush 8)] (by decide +kernel) (pc' := 75) (L' := [(2, .int (nI a)), (1, .int (nI m)), (0, .ref 0)]) (st' := [.int 8, .int (nI a)]) rfl ?_
          refine mz_ige (off := 59) (tgt := 134) C (by decide +kernel) (by decide) (fun h => ?_) (fun h => ?_)
          · refine mz_goP (lay := mz_layH) (M := M) (cA := cA) (D := D) (cl := vwCl) (fun H h => h) FLX10 KLX10 C [(134, .iinc 1 1), (137, .goto (-73))] (by decide +kernel) (pc' := 64) (L' := [(1, .int ((nI m) + 1)), (2, .int (nI a)), (0, .ref 0)]) (st' := []) rfl ?_
            rw [nI_1]
            refine mz_sub (L' := [(1, .int (nI (m + 1))), (0, .ref 0)]) (fun q h => by simp at h ⊢; rcases h with rfl | rfl | rfl | rfl <;> simp) ?_
            exact ihm (m + 1) (by omega) (by omega) M hM
          · exact absurd (by rw [show a = 8 by omega]; decide) h
        | succ r2 iha =>
          intro a h1a ha8 M hM
          refine mz_goP (lay := mz_layH) (M := M) (cA := cA) (D := D) (cl := vwCl) (fun H h => h) FLX10 KLX10 C [(72, .iload_n 2), (73, .bipush 8)] (by decide +kernel) (pc' := 75) (L' := [(2, .int (nI a)), (1, .int (nI m)), (0, .ref 0)]) (st' := [.int 8, .int (nI a)]) rfl ?_
          refine mz_ige (off := 59) (tgt := 134) C (by decide +kernel) (by decide) (fun h => ?_) (fun h => ?_)
          · refine mz_goP (lay := mz_layH) (M := M) (cA := cA) (D := D) (cl := vwCl) (fun H h => h) FLX10 KLX10 C [(134, .iinc 1 1), (137, .goto (-73))] (by decide +kernel) (pc' := 64) (L' := [(1, .int ((nI m) + 1)), (2, .int (nI a)), (0, .ref 0)]) (st' := []) rfl ?_
            rw [nI_1]
            refine mz_sub (L' := [(1, .int (nI (m + 1))), (0, .ref 0)]) (fun q h => by simp at h ⊢; rcases h with rfl | rfl | rfl | rfl <;> simp) ?_
            exact ihm (m + 1) (by omega) (by omega) M hM
          have ha : a < 8 := mz_nlt h ha8
          refine mz_goP (lay := mz_layH) (M := M) (cA := cA) (D := D) (cl := vwCl) (fun H h => h) FLX10 KLX10 C [(78, .iconst 0), (79, .istore_n 3)] (by decide +kernel) (pc' := 80) (L' := [(3, .int 0), (2, .int (nI a)), (1, .int (nI m)), (0, .ref 0)]) (st' := []) rfl ?_
          have s1 : ∀ (r3 b : Nat), 8 - b ≤ r3 → b ≤ 8 → ∀ M : mz_Mem, M 0 = f0 → mz_W Γ (fun k => x + k) 4 0 0 (mz_H D vwCl cA (fun k => x + k) mz_layH M) 80 [(3, .int (nI b)), (2, .int (nI a)), (1, .int (nI m)), (0, .ref 0)] [] := by
            intro r3
            induction r3 with
            | zero =>
              intro b h1b hb M hM
              refine mz_goP (lay := mz_layH) (M := M) (cA := cA) (D := D) (cl := vwCl) (fun H h => h) FLX10 KLX10 C [(80, .iload_n 3), (81, .bipush 8)] (by decide +kernel) (pc' := 83) (L' := [(3, .int (nI b)), (2, .int (nI a)), (1, .int (nI m)), (0, .ref 0)]) (st' := [.int 8, .int (nI b)]) rfl ?_
              refine mz_ige (off := 45) (tgt := 128) C (by decide +kernel) (by decide) (fun h => ?_) (fun h => ?_)
              · refine mz_goP (lay := mz_layH) (M := M) (cA := cA) (D := D) (cl := vwCl) (fun H h => h) FLX10 KLX10 C [(128, .iinc 2 1), (131, .goto (-59))] (by decide +kernel) (pc' := 72) (L' := [(2, .int ((nI a) + 1)), (3, .int (nI b)), (1, .int (nI m)), (0, .ref 0)]) (st' := []) rfl ?_
                rw [nI_1]
                refine mz_sub (L' := [(2, .int (nI (a + 1))), (1, .int (nI m)), (0, .ref 0)]) (fun q h => by simp at h ⊢; rcases h with rfl | rfl | rfl | rfl <;> simp) ?_
                exact iha (a + 1) (by omega) (by omega) M hM
              · exact absurd (by rw [show b = 8 by omega]; decide) h
            | succ r3 ih =>
              intro b h1b hb M hM
              refine mz_goP (lay := mz_layH) (M := M) (cA := cA) (D := D) (cl := vwCl) (fun H h => h) FLX10 KLX10 C [(80, .iload_n 3), (81, .bipush 8)] (by decide +kernel) (pc' := 83) (L' := [(3, .int (nI b)), (2, .int (nI a)), (1, .int (nI m)), (0, .ref 0)]) (st' := [.int 8, .int (nI b)]) rfl ?_
              refine mz_ige (off := 45) (tgt := 128) C (by decide +kernel) (by decide) (fun h => ?_) (fun h => ?_)
              · refine mz_goP (lay := mz_layH) (M := M) (cA := cA) (D := D) (cl := vwCl) (fun H h => h) FLX10 KLX10 C [(128, .iinc 2 1), (131, .goto (-59))] (by decide +kernel) (pc' := 72) (L' := [(2, .int ((nI a) + 1)), (3, .int (nI b)), (1, .int (nI m)), (0, .ref 0)]) (st' := []) rfl ?_
                rw [nI_1]
                refine mz_sub (L' := [(2, .int (nI (a + 1))), (1, .int (nI m)), (0, .ref 0)]) (fun q h => by simp at h ⊢; rcases h with rfl | rfl | rfl | rfl <;> simp) ?_
                exact iha (a + 1) (by omega) (by omega) M hM
              have hb2 : b < 8 := mz_nlt h hb
              refine mz_goP (lay := mz_layH) (M := M) (cA := cA) (D := D) (cl := vwCl) (fun H h => h) FLX10 KLX10 C [(86, .aload_n 0), (87, .getfield 20), (90, .iload_n 2)] (by decide +kernel) (pc' := 91) (L' := [(3, .int (nI b)), (2, .int (nI a)), (1, .int (nI m)), (0, .ref 0)]) (st' := [.int (nI a), .ref 11]) rfl ?_
              refine mz_aald (lay := mz_layH) (M := M) (id := 11) (N := 8) (g := mz_rw 11 8) (q := (12 + a)) (fun H h => h) C rfl (vp_in_nI ha (by decide)) (by rw [nI_clamp (by omega)]; exact if_pos ha) (by decide +kernel) ?_
              refine mz_goP (lay := mz_layH) (M := M) (cA := cA) (D := D) (cl := vwCl) (fun H h => h) FLX10 KLX10 C [(92, .iload_n 3), (93, .aload_n 0), (94, .getfield 20), (97, .iload_n 2)] (by decide +kernel) (pc' := 98) (L' := [(3, .int (nI b)), (2, .int (nI a)), (1, .int (nI m)), (0, .ref 0)]) (st' := [.int (nI a), .ref 11, .int (nI b), .ref (12 + a)]) rfl ?_
              refine mz_aald (lay := mz_layH) (M := M) (id := 11) (N := 8) (g := mz_rw 11 8) (q := (12 + a)) (fun H h => h) C rfl (vp_in_nI ha (by decide)) (by rw [nI_clamp (by omega)]; exact if_pos ha) (by decide +kernel) ?_
              refine mz_goP (lay := mz_layH) (M := M) (cA := cA) (D := D) (cl := vwCl) (fun H h => h) FLX10 KLX10 C [(99, .iload_n 3)] (by decide +kernel) (pc' := 100) (L' := [(3, .int (nI b)), (2, .int (nI a)), (1, .int (nI m)), (0, .ref 0)]) (st' := [.int (nI b), .ref (12 + a), .int (nI b), .ref (12 + a)]) rfl ?_
              refine mz_ildP (lay := mz_layH) (M := M) (id := (12 + a)) (N := 8) (t0 := 0) (fun H h => h) C rfl (mz_far_row ha) (vp_in_nI hb2 (by decide)) (by decide +kernel) ?_
              rw [nI_clamp (show b < 2 ^ 31 by omega)]
              refine mz_goP (lay := mz_layH) (M := M) (cA := cA) (D := D) (cl := vwCl) (fun H h => h) FLX10 KLX10 C [(101, .aload_n 0), (102, .getfield 20), (105, .iload_n 2)] (by decide +kernel) (pc' := 106) (L' := [(3, .int (nI b)), (2, .int (nI a)), (1, .int (nI m)), (0, .ref 0)]) (st' := [.int (nI a), .ref 11, .int (M (12 + a) b), .int (nI b), .ref (12 + a)]) rfl ?_
              refine mz_aald (lay := mz_layH) (M := M) (id := 11) (N := 8) (g := mz_rw 11 8) (q := (12 + a)) (fun H h => h) C rfl (vp_in_nI ha (by decide)) (by rw [nI_clamp (by omega)]; exact if_pos ha) (by decide +kernel) ?_
              refine mz_goP (lay := mz_layH) (M := M) (cA := cA) (D := D) (cl := vwCl) (fun H h => h) FLX10 KLX10 C [(107, .iload_n 1)] (by decide +kernel) (pc' := 108) (L' := [(3, .int (nI b)), (2, .int (nI a)), (1, .int (nI m)), (0, .ref 0)]) (st' := [.int (nI m), .ref (12 + a), .int (M (12 + a) b), .int (nI b), .ref (12 + a)]) rfl ?_
              refine mz_ildP (lay := mz_layH) (M := M) (id := (12 + a)) (N := 8) (t0 := 0) (fun H h => h) C rfl (mz_far_row ha) (vp_in_nI hm (by decide)) (by decide +kernel) ?_
              rw [nI_clamp (show m < 2 ^ 31 by omega)]
              refine mz_goP (lay := mz_layH) (M := M) (cA := cA) (D := D) (cl := vwCl) (fun H h => h) FLX10 KLX10 C [(109, .aload_n 0), (110, .getfield 20), (113, .iload_n 1)] (by decide +kernel) (pc' := 114) (L' := [(3, .int (nI b)), (2, .int (nI a)), (1, .int (nI m)), (0, .ref 0)]) (st' := [.int (nI m), .ref 11, .int (M (12 + a) m), .int (M (12 + a) b), .int (nI b), .ref (12 + a)]) rfl ?_
              refine mz_aald (lay := mz_layH) (M := M) (id := 11) (N := 8) (g := mz_rw 11 8) (q := (12 + m)) (fun H h => h) C rfl (vp_in_nI hm (by decide)) (by rw [nI_clamp (by omega)]; exact if_pos hm) (by decide +kernel) ?_
              refine mz_goP (lay := mz_layH) (M := M) (cA := cA) (D := D) (cl := vwCl) (fun H h => h) FLX10 KLX10 C [(115, .iload_n 3)] (by decide +kernel) (pc' := 116) (L' := [(3, .int (nI b)), (2, .int (nI a)), (1, .int (nI m)), (0, .ref 0)]) (st' := [.int (nI b), .ref (12 + m), .int (M (12 + a) m), .int (M (12 + a) b), .int (nI b), .ref (12 + a)]) rfl ?_
              refine mz_ildP (lay := mz_layH) (M := M) (id := (12 + m)) (N := 8) (t0 := 0) (fun H h => h) C rfl (mz_far_row hm) (vp_in_nI hb2 (by decide)) (by decide +kernel) ?_
              rw [nI_clamp (show b < 2 ^ 31 by omega)]
              refine mz_goP (lay := mz_layH) (M := M) (cA := cA) (D := D) (cl := vwCl) (fun H h => h) FLX10 KLX10 C [(117, .iadd)] (by decide +kernel) (pc' := 118) (L' := [(3, .int (nI b)), (2, .int (nI a)), (1, .int (nI m)), (0, .ref 0)]) (st' := [.int ((M (12 + a) m) + (M (12 + m) b)), .int (M (12 + a) b), .int (nI b), .ref (12 + a)]) rfl ?_
              refine mz_minW (index := 74) C (mz_in 1293 (by decide +kernel) (by decide +kernel)) (mz_in 707 (by decide +kernel) (by decide +kernel)) (mz_in 77 (by decide +kernel) (by decide +kernel)) (mz_in 708 (by decide +kernel) (by decide +kernel)) (Nat.le_of_ble_eq_true rfl) (Nat.le_of_ble_eq_true rfl) (Nat.le_of_ble_eq_true rfl) (Nat.le_of_ble_eq_true rfl) (by decide +kernel) ?_
              generalize (if ((M (12 + a) m) + (M (12 + m) b)) < (M (12 + a) b) then ((M (12 + a) m) + (M (12 + m) b)) else (M (12 + a) b)) = w
              refine mz_istP (lay := mz_layH) (M := M) (id := 12 + a) (N := 8) (t0 := 0) (fun H h => h) (P' := mz_H D vwCl cA (fun k => x + k) mz_layH (mz_s M (12 + a) (upd (M (12 + a)) (nI b).toNatClampNeg w))) (fun H H1 hp h e _ => h) C E' ⟨Nat.le_add_right _ _, by show x + (12 + a) < x + 70; omega⟩ mz_Ix rfl (mz_far_row ha) (vp_in_nI hb2 (by decide)) (by decide +kernel) ?_
              refine mz_goP (lay := mz_layH) (M := (mz_s M (12 + a) (upd (M (12 + a)) (nI b).toNatClampNeg w))) (cA := cA) (D := D) (cl := vwCl) (fun H h => h) FLX10 KLX10 C [(122, .iinc 3 1), (125, .goto (-45))] (by decide +kernel) (pc' := 80) (L' := [(3, .int ((nI b) + 1)), (2, .int (nI a)), (1, .int (nI m)), (0, .ref 0)]) (st' := []) rfl ?_
              rw [nI_1]
              refine mz_sub (L' := [(3, .int (nI (b + 1))), (2, .int (nI a)), (1, .int (nI m)), (0, .ref 0)]) (fun q h => by simpa using h) ?_
              exact ih (b + 1) (by omega) (by omega) _ (by rw [mz_s_ne (by omega)]; exact hM)
          exact s1 8 0 (by omega) (by omega) M hM
      exact s2 8 0 (by omega) (by omega) M hM
  have t2 : ∀ (r a : Nat), 8 - a ≤ r → a ≤ 8 → ∀ M : mz_Mem, M 0 = f0 → mz_W Γ (fun k => x + k) 4 0 0 (mz_H D vwCl cA (fun k => x + k) mz_layH M) 2 [(1, .int (nI a)), (0, .ref 0)] [] := by
    intro r
    induction r with
    | zero =>
      intro a h1 ha8 M hM
      refine mz_goP (lay := mz_layH) (M := M) (cA := cA) (D := D) (cl := vwCl) (fun H h => h) FLX10 KLX10 C [(2, .iload_n 1), (3, .bipush 8)] (by decide +kernel) (pc' := 5) (L' := [(1, .int (nI a)), (0, .ref 0)]) (st' := [.int 8, .int (nI a)]) rfl ?_
      refine mz_ige (off := 57) (tgt := 62) C (by decide +kernel) (by decide) (fun h => ?_) (fun h => ?_)
      · refine mz_goP (lay := mz_layH) (M := M) (cA := cA) (D := D) (cl := vwCl) (fun H h => h) FLX10 KLX10 C [(62, .iconst 0), (63, .istore_n 1)] (by decide +kernel) (pc' := 64) (L' := [(1, .int 0), (0, .ref 0)]) (st' := []) rfl ?_
        exact s3 8 0 (by omega) (by omega) M hM
      · exact absurd (by rw [show a = 8 by omega]; decide) h
    | succ r iha =>
      intro a h1 ha8 M hM
      refine mz_goP (lay := mz_layH) (M := M) (cA := cA) (D := D) (cl := vwCl) (fun H h => h) FLX10 KLX10 C [(2, .iload_n 1), (3, .bipush 8)] (by decide +kernel) (pc' := 5) (L' := [(1, .int (nI a)), (0, .ref 0)]) (st' := [.int 8, .int (nI a)]) rfl ?_
      refine mz_ige (off := 57) (tgt := 62) C (by decide +kernel) (by decide) (fun h => ?_) (fun h => ?_)
      · refine mz_goP (lay := mz_layH) (M := M) (cA := cA) (D := D) (cl := vwCl) (fun H h => h) FLX10 KLX10 C [(62, .iconst 0), (63, .istore_n 1)] (by decide +kernel) (pc' := 64) (L' := [(1, .int 0), (0, .ref 0)]) (st' := []) rfl ?_
        exact s3 8 0 (by omega) (by omega) M hM
      have ha : a < 8 := mz_nlt h ha8
      refine mz_goP (lay := mz_layH) (M := M) (cA := cA) (D := D) (cl := vwCl) (fun H h => h) FLX10 KLX10 C [(8, .iconst 0), (9, .istore_n 2)] (by decide +kernel) (pc' := 10) (L' := [(2, .int 0), (1, .int (nI a)), (0, .ref 0)]) (st' := []) rfl ?_
      have t1 : ∀ (r3 b : Nat), 8 - b ≤ r3 → b ≤ 8 → ∀ M : mz_Mem, M 0 = f0 → mz_W Γ (fun k => x + k) 4 0 0 (mz_H D vwCl cA (fun k => x + k) mz_layH M) 10 [(2, .int (nI b)), (1, .int (nI a)), (0, .ref 0)] [] := by
        intro r3
        induction r3 with
        | zero =>
          intro b h1b hb M hM
          refine mz_goP (lay := mz_layH) (M := M) (cA := cA) (D := D) (cl := vwCl) (fun H h => h) FLX10 KLX10 C [(10, .iload_n 2), (11, .bipush 8)] (by decide +kernel) (pc' := 13) (L' := [(2, .int (nI b)), (1, .int (nI a)), (0, .ref 0)]) (st' := [.int 8, .int (nI b)]) rfl ?_
          refine mz_ige (off := 43) (tgt := 56) C (by decide +kernel) (by decide) (fun h => ?_) (fun h => ?_)
          · refine mz_goP (lay := mz_layH) (M := M) (cA := cA) (D := D) (cl := vwCl) (fun H h => h) FLX10 KLX10 C [(56, .iinc 1 1), (59, .goto (-57))] (by decide +kernel) (pc' := 2) (L' := [(1, .int ((nI a) + 1)), (2, .int (nI b)), (0, .ref 0)]) (st' := []) rfl ?_
            rw [nI_1]
            refine mz_sub (L' := [(1, .int (nI (a + 1))), (0, .ref 0)]) (fun q h => by simp at h ⊢; rcases h with rfl | rfl | rfl | rfl <;> simp) ?_
            exact iha (a + 1) (by omega) (by omega) M hM
          · exact absurd (by rw [show b = 8 by omega]; decide) h
        | succ r3 ih =>
          intro b h1b hb M hM
          refine mz_goP (lay := mz_layH) (M := M) (cA := cA) (D := D) (cl := vwCl) (fun H h => h) FLX10 KLX10 C [(10, .iload_n 2), (11, .bipush 8)] (by decide +kernel) (pc' := 13) (L' := [(2, .int (nI b)), (1, .int (nI a)), (0, .ref 0)]) (st' := [.int 8, .int (nI b)]) rfl ?_
          refine mz_ige (off := 43) (tgt := 56) C (by decide +kernel) (by decide) (fun h => ?_) (fun h => ?_)
          · refine mz_goP (lay := mz_layH) (M := M) (cA := cA) (D := D) (cl := vwCl) (fun H h => h) FLX10 KLX10 C [(56, .iinc 1 1), (59, .goto (-57))] (by decide +kernel) (pc' := 2) (L' := [(1, .int ((nI a) + 1)), (2, .int (nI b)), (0, .ref 0)]) (st' := []) rfl ?_
            rw [nI_1]
            refine mz_sub (L' := [(1, .int (nI (a + 1))), (0, .ref 0)]) (fun q h => by simp at h ⊢; rcases h with rfl | rfl | rfl | rfl <;> simp) ?_
            exact iha (a + 1) (by omega) (by omega) M hM
          have hb2 : b < 8 := mz_nlt h hb
          refine mz_goP (lay := mz_layH) (M := M) (cA := cA) (D := D) (cl := vwCl) (fun H h => h) FLX10 KLX10 C [(16, .aload_n 0), (17, .getfield 20), (20, .iload_n 1)] (by decide +kernel) (pc' := 21) (L' := [(2, .int (nI b)), (1, .int (nI a)), (0, .ref 0)]) (st' := [.int (nI a), .ref 11]) rfl ?_
          refine mz_aald (lay := mz_layH) (M := M) (id := 11) (N := 8) (g := mz_rw 11 8) (q := (12 + a)) (fun H h => h) C rfl (vp_in_nI ha (by decide)) (by rw [nI_clamp (by omega)]; exact if_pos ha) (by decide +kernel) ?_
          refine mz_goP (lay := mz_layH) (M := M) (cA := cA) (D := D) (cl := vwCl) (fun H h => h) FLX10 KLX10 C [(22, .iload_n 2), (23, .iload_n 1), (24, .iload_n 2)] (by decide +kernel) (pc' := 25) (L' := [(2, .int (nI b)), (1, .int (nI a)), (0, .ref 0)]) (st' := [.int (nI b), .int (nI a), .int (nI b), .ref (12 + a)]) rfl ?_
          have store : ∀ w : Int32, mz_W Γ (fun k => x + k) 4 0 0 (mz_H D vwCl cA (fun k => x + k) mz_layH M) 49 [(2, .int (nI b)), (1, .int (nI a)), (0, .ref 0)] [.int w, .int (nI b), .ref (12 + a)] := by
            intro w
            refine mz_istP (lay := mz_layH) (M := M) (id := 12 + a) (N := 8) (t0 := 0) (fun H h => h) (P' := mz_H D vwCl cA (fun k => x + k) mz_layH (mz_s M (12 + a) (upd (M (12 + a)) (nI b).toNatClampNeg w))) (fun H H1 hp h e _ => h) C E' ⟨Nat.le_add_right _ _, by show x + (12 + a) < x + 70; omega⟩ mz_Ix rfl (mz_far_row ha) (vp_in_nI hb2 (by decide)) (by decide +kernel) ?_
            refine mz_goP (lay := mz_layH) (M := (mz_s M (12 + a) (upd (M (12 + a)) (nI b).toNatClampNeg w))) (cA := cA) (D := D) (cl := vwCl) (fun H h => h) FLX10 KLX10 C [(50, .iinc 2 1), (53, .goto (-43))] (by decide +kernel) (pc' := 10) (L' := [(2, .int ((nI b) + 1)), (1, .int (nI a)), (0, .ref 0)]) (st' := []) rfl ?_
            rw [nI_1]
            refine mz_sub (L' := [(2, .int (nI (b + 1))), (1, .int (nI a)), (0, .ref 0)]) (fun q h => by simpa using h) ?_
            exact ih (b + 1) (by omega) (by omega) _ (by rw [mz_s_ne (by omega)]; exact hM)
          refine mz_ine (off := 7) (tgt := 32) C (by decide +kernel) (by decide) (fun h => ?_) (fun h => ?_)
          · refine mz_goP (lay := mz_layH) (M := M) (cA := cA) (D := D) (cl := vwCl) (fun H h => h) FLX10 KLX10 C [(32, .aload_n 0), (33, .getfield 17), (36, .iload_n 1)] (by decide +kernel) (pc' := 37) (L' := [(2, .int (nI b)), (1, .int (nI a)), (0, .ref 0)]) (st' := [.int (nI a), .ref 2, .int (nI b), .ref (12 + a)]) rfl ?_
            refine mz_aald (lay := mz_layH) (M := M) (id := 2) (N := 8) (g := mz_rw 2 8) (q := (3 + a)) (fun H h => h) C rfl (vp_in_nI ha (by decide)) (by rw [nI_clamp (by omega)]; exact if_pos ha) (by decide +kernel) ?_
            refine mz_goP (lay := mz_layH) (M := M) (cA := cA) (D := D) (cl := vwCl) (fun H h => h) FLX10 KLX10 C [(38, .iload_n 2)] (by decide +kernel) (pc' := 39) (L' := [(2, .int (nI b)), (1, .int (nI a)), (0, .ref 0)]) (st' := [.int (nI b), .ref (3 + a), .int (nI b), .ref (12 + a)]) rfl ?_
            refine mz_ildP (lay := mz_layH) (M := M) (id := (3 + a)) (N := 8) (t0 := 0) (fun H h => h) C rfl (mz_wid_row ha) (vp_in_nI hb2 (by decide)) (by decide +kernel) ?_
            rw [nI_clamp (show b < 2 ^ 31 by omega)]
            refine mz_zle (off := 7) (tgt := 47) C (by decide +kernel) (by decide) (fun h => ?_) (fun h => ?_)
            · refine mz_goP (lay := mz_layH) (M := M) (cA := cA) (D := D) (cl := vwCl) (fun H h => h) FLX10 KLX10 C [(47, .bipush 99)] (by decide +kernel) (pc' := 49) (L' := [(2, .int (nI b)), (1, .int (nI a)), (0, .ref 0)]) (st' := [.int 99, .int (nI b), .ref (12 + a)]) rfl ?_
              exact store _
            · refine mz_goP (lay := mz_layH) (M := M) (cA := cA) (D := D) (cl := vwCl) (fun H h => h) FLX10 KLX10 C [(43, .iconst 1), (44, .goto 5)] (by decide +kernel) (pc' := 49) (L' := [(2, .int (nI b)), (1, .int (nI a)), (0, .ref 0)]) (st' := [.int 1, .int (nI b), .ref (12 + a)]) rfl ?_
              exact store _
          · refine mz_goP (lay := mz_layH) (M := M) (cA := cA) (D := D) (cl := vwCl) (fun H h => h) FLX10 KLX10 C [(28, .iconst 0), (29, .goto 20)] (by decide +kernel) (pc' := 49) (L' := [(2, .int (nI b)), (1, .int (nI a)), (0, .ref 0)]) (st' := [.int 0, .int (nI b), .ref (12 + a)]) rfl ?_
            exact store _
      exact t1 8 0 (by omega) (by omega) M hM
  refine mz_goP (lay := mz_layH) (M := M) (cA := cA) (D := D) (cl := vwCl) (fun H h => h) FLX10 KLX10 C [(0, .iconst 0), (1, .istore_n 1)] (by decide +kernel) (pc' := 2) (L' := [(1, .int 0), (0, .ref 0)]) (st' := []) rfl ?_
  exact t2 8 0 (by omega) (by omega) M h0
