/-! one round of the law -/
theorem mz_LX.st {Γ : mz_G} {l : Launch} {D : va_G} {cA : Nat → ClassId} {b B : Nat} (X : mz_LX Γ l D cA b B) : l.stackTraces = false := by
  obtain ⟨p, l', e, R, s, m, args, below, meth, c, H0, A, Q⟩ := Γ
  obtain ⟨⟨rfl, -⟩, -, -, -, -, -, h, -⟩ := X
  exact h
section MZRD
variable {Γ : mz_G} {l : Launch} {D : va_G} {cA : Nat → ClassId} {b B Lg : Nat} {xs : Nat → Int32} {k n : Nat} {κt κo ρ : Nat → Nat} {nT nS nG now : Nat} {Mb N : mz_Mem} {e : Nat} {tm rr : Int32}
set_option maxHeartbeats 4000000 in
theorem lw_guest (X : mz_LX Γ l D cA b B) (hF : mz_LF κt κo ρ (mz_LL nT nG) B Lg xs) (hLg : Lg < 2 ^ 31) (hN : mz_FI N nT nS nG now) (he : e ≤ 100000) (hkn : k ≤ 700000 ∧ n ≤ 6000000) {gv mm : Nat} {dg : Int64} (hg : gv < nG) (hm : 1 ≤ mm ∧ mm ≤ 20)
    (kk : ∀ N2, mz_FI N2 nT nS nG now → mz_W Γ ρ 16 k n (mz_LP D cA κt κo ρ (mz_LL nT nG) Mb N2 N2 (e + 1 + 1)) 293 [(0, .ref 131), (1, .int tm), (2, .ref 130), (3, .ref 1130), (4, .ref 0), (5, .int rr), (6, .int (nI mm)), (7, .long (mz_dig N2)), (9, .int (nI gv))] []) :
    mz_W Γ ρ 16 k n (mz_LP D cA κt κo ρ (mz_LL nT nG) Mb N N (e)) 119 [(0, .ref 131), (1, .int tm), (2, .ref 130), (3, .ref 1130), (4, .ref 0), (5, .int rr), (6, .int (nI mm)), (7, .long dg), (9, .int (nI gv))] [] := by
  have C := X.1
  obtain ⟨m1, m2, m3, m4⟩ := mz_mm hm
  have hT5 := hN.1.2
  have hT3 := hN.1.1
  have hG12 := hN.2.2.1
  have g1 : ¬ nI gv < 0 := nI_pos (by omega)
  have g2 : nI gv < N 60 0 := by rw [hN.2.2.2.2.2.1]; exact nI_lt hg (by omega)
  obtain ⟨bb, b1, b2, b3, b4⟩ := hN.best (g := nI gv) m1
  refine mz_goP (lay := (mz_LL nT nG)) (M := (mz_MD Mb e)) (cA := cA) (D := D) (cl := vwCl) (fun _ h => h.2.2.2) FLW KLW C [(119, .aload 4), (121, .iload 9), (123, .iload 6)] (by decide +kernel) (pc' := 125) (L' := [(0, .ref 131), (1, .int tm), (2, .ref 130), (3, .ref 1130), (4, .ref 0), (5, .int rr), (6, .int (nI mm)), (7, .long dg), (9, .int (nI gv))]) (st' := [.int (nI mm), .int (nI gv), .ref 0]) rfl ?_
  refine lw_t X hF [.int (nI gv), .int (nI mm)] [] (index := 36) (c_bestHabit hF.1.1 (nI gv) (nI mm) m1 (fun c => hN.kn (nI gv) (nI mm) c) (by rw [hN.nb]; omega) g1 g2 m2 m3) hy_X9_bestHabit wl_W_36 rfl rfl rfl ⟨by decide, by decide⟩ ⟨by omega, by omega⟩ (Nat.le_of_ble_eq_true rfl) (by decide +kernel) (st' := [.int (mz_bst N (nI gv) (nI mm))]) ?_ rfl rfl
  rw [b2]
  refine mz_goP (lay := (mz_LL nT nG)) (M := (mz_MD Mb e)) (cA := cA) (D := D) (cl := vwCl) (fun _ h => h.2.2.2) FLW KLW C [(128, .istore 10), (130, .aload_n 2), (131, .iconst 4)] (by decide +kernel) (pc' := 132) (L' := [(10, .int (nI bb)), (0, .ref 131), (1, .int tm), (2, .ref 130), (3, .ref 1130), (4, .ref 0), (5, .int rr), (6, .int (nI mm)), (7, .long dg), (9, .int (nI gv))]) (st' := [.int 4, .ref 130]) rfl ?_
  refine lw_draw X hF rfl (n0 := 4) hLg (by omega) (by decide) (by decide) ⟨by omega, by omega⟩ (Nat.le_of_ble_eq_true rfl) (by decide +kernel) ?_
  have ho := (mz_dv_ok Lg xs e (n := 4) (by decide) (by decide)).1
  generalize mz_dv Lg xs e 4 = ot at ho ⊢
  refine mz_goP (lay := (mz_LL nT nG)) (M := (mz_MD Mb (e + 1))) (cA := cA) (D := D) (cl := vwCl) (fun _ h => h.2.2.2) FLW KLW C [(135, .istore 11), (137, .aload_n 2), (138, .aload_n 2), (139, .getfield 40)] (by decide +kernel) (pc' := 142) (L' := [(11, .int (nI ot)), (10, .int (nI bb)), (0, .ref 131), (1, .int tm), (2, .ref 130), (3, .ref 1130), (4, .ref 0), (5, .int rr), (6, .int (nI mm)), (7, .long dg), (9, .int (nI gv))]) (st' := [.ref 134, .ref 130]) rfl ?_
  refine mz_aalen (fun _ h => h.2.2.2) C (id := 134) rfl (by decide +kernel) ?_
  refine lw_draw X hF rfl (n0 := nT) hLg (by omega) (by omega) (by omega) ⟨by omega, by omega⟩ (Nat.le_of_ble_eq_true rfl) (by decide +kernel) ?_
  have ht := (mz_dv_ok Lg xs (e + 1) (n := nT) (by have := hN.1.1; omega) (by omega)).1
  generalize mz_dv Lg xs (e + 1) nT = tv at ht ⊢
  refine mz_goP (lay := (mz_LL nT nG)) (M := (mz_MD Mb (e + 1 + 1))) (cA := cA) (D := D) (cl := vwCl) (fun _ h => h.2.2.2) FLW KLW C [(146, .istore 12), (148, .aload 4), (150, .iload 9), (152, .iload 6)] (by decide +kernel) (pc' := 154) (L' := [(12, .int (nI tv)), (11, .int (nI ot)), (10, .int (nI bb)), (0, .ref 131), (1, .int tm), (2, .ref 130), (3, .ref 1130), (4, .ref 0), (5, .int rr), (6, .int (nI mm)), (7, .long dg), (9, .int (nI gv))]) (st' := [.int (nI mm), .int (nI gv), .ref 0]) rfl ?_
  refine lw_t X hF [.int (nI gv), .int (nI mm)] [] (index := 43) (c_wouldKnow hF.1.1 (nI gv) (nI mm) m1 g1 g2 m2 m3) hy_X9_wouldKnow wl_W_43 rfl rfl rfl ⟨by decide, by decide⟩ ⟨by omega, by omega⟩ (Nat.le_of_ble_eq_true rfl) (by decide +kernel) (st' := [.int (mz_bitc (mz_rg 12 (g_X2_run N (nI mm) 68) (nI gv)))]) ?_ rfl rfl
  obtain ⟨c0, p1, p2, p3⟩ := hN.was hg (nI mm)
  rw [p3]
  have hoc := mz_oc_ok ho ht hT5
  refine mz_goP (lay := (mz_LL nT nG)) (M := (mz_MD Mb (e + 1 + 1))) (cA := cA) (D := D) (cl := vwCl) (fun _ h => h.2.2.2) FLW KLW C [(157, .istore 13), (159, .aload 4), (161, .iload 9)] (by decide +kernel) (pc' := 163) (L' := [(13, .int (mz_kn N (nI gv) (nI mm) (nI c0))), (12, .int (nI tv)), (11, .int (nI ot)), (10, .int (nI bb)), (0, .ref 131), (1, .int tm), (2, .ref 130), (3, .ref 1130), (4, .ref 0), (5, .int rr), (6, .int (nI mm)), (7, .long dg), (9, .int (nI gv))]) (st' := [.int (nI gv), .ref 0]) rfl ?_
  have hjoin : ∀ v : Int32, v = nI (mz_oc ot tv) → mz_W Γ ρ 16 k n (mz_LP D cA κt κo ρ (mz_LL nT nG) Mb N N (e + 1 + 1)) 179 [(13, .int (mz_kn N (nI gv) (nI mm) (nI c0))), (12, .int (nI tv)), (11, .int (nI ot)), (10, .int (nI bb)), (0, .ref 131), (1, .int tm), (2, .ref 130), (3, .ref 1130), (4, .ref 0), (5, .int rr), (6, .int (nI mm)), (7, .long dg), (9, .int (nI gv))] [.int v, .int (nI gv), .ref 0] := by
    intro v hv
    subst hv
    refine lw_tellt X hF g1 g2 hN.2.2.2.1 hT5 hoc.1 hoc.2 ⟨by omega, by omega⟩ (Nat.le_of_ble_eq_true rfl) (by decide +kernel) ?_
    have hN1 := hN.by hg hoc.1 hoc.2
    have g2a : nI gv < (mz_by N (nI gv) (nI (mz_oc ot tv))) 60 0 := by rw [hN1.2.2.2.2.2.1]; exact nI_lt hg (by omega)
    refine mz_goP (lay := (mz_LL nT nG)) (M := (mz_MD Mb (e + 1 + 1))) (cA := cA) (D := D) (cl := vwCl) (fun _ h => h.2.2.2) FLW KLW C [(182, .aload 4), (184, .iload 9), (186, .iload 6)] (by decide +kernel) (pc' := 188) (L' := [(13, .int (mz_kn N (nI gv) (nI mm) (nI c0))), (12, .int (nI tv)), (11, .int (nI ot)), (10, .int (nI bb)), (0, .ref 131), (1, .int tm), (2, .ref 130), (3, .ref 1130), (4, .ref 0), (5, .int rr), (6, .int (nI mm)), (7, .long dg), (9, .int (nI gv))]) (st' := [.int (nI mm), .int (nI gv), .ref 0]) rfl ?_
    refine lw_t X hF [.int (nI gv), .int (nI mm)] [] (index := 43) (c_wouldKnow hF.1.1 (nI gv) (nI mm) m1 g1 g2a m2 m3) hy_X9_wouldKnow wl_W_43 rfl rfl rfl ⟨by decide, by decide⟩ ⟨by omega, by omega⟩ (Nat.le_of_ble_eq_true rfl) (by decide +kernel) (st' := [.int (mz_bitc (mz_rg 12 (g_X2_run (mz_by N (nI gv) (nI (mz_oc ot tv))) (nI mm) 68) (nI gv)))]) ?_ rfl rfl
    rw [← mz_kn_by N (nI gv) (nI mm) (nI (mz_oc ot tv))]
    refine mz_goP (lay := (mz_LL nT nG)) (M := (mz_MD Mb (e + 1 + 1))) (cA := cA) (D := D) (cl := vwCl) (fun _ h => h.2.2.2) FLW KLW C [(191, .istore 14), (193, .aload 4), (195, .iload 9), (197, .iload 10)] (by decide +kernel) (pc' := 199) (L' := [(14, .int (mz_kn N (nI gv) (nI mm) (nI (mz_oc ot tv)))), (13, .int (mz_kn N (nI gv) (nI mm) (nI c0))), (12, .int (nI tv)), (11, .int (nI ot)), (10, .int (nI bb)), (0, .ref 131), (1, .int tm), (2, .ref 130), (3, .ref 1130), (4, .ref 0), (5, .int rr), (6, .int (nI mm)), (7, .long dg), (9, .int (nI gv))]) (st' := [.int (nI bb), .int (nI gv), .ref 0]) rfl ?_
    refine lw_tellt X hF g1 g2a hN1.2.2.2.1 hT5 b1 b3 ⟨by omega, by omega⟩ (Nat.le_of_ble_eq_true rfl) (by decide +kernel) ?_
    rw [mz_by_2]
    refine mz_goP (lay := (mz_LL nT nG)) (M := (mz_MD Mb (e + 1 + 1))) (cA := cA) (D := D) (cl := vwCl) (fun _ h => h.2.2.2) FLW KLW C [(202, .aload_n 3), (203, .getfield 14), (206, .iload 9), (208, .iload 10)] (by decide +kernel) (pc' := 210) (L' := [(14, .int (mz_kn N (nI gv) (nI mm) (nI (mz_oc ot tv)))), (13, .int (mz_kn N (nI gv) (nI mm) (nI c0))), (12, .int (nI tv)), (11, .int (nI ot)), (10, .int (nI bb)), (0, .ref 131), (1, .int tm), (2, .ref 130), (3, .ref 1130), (4, .ref 0), (5, .int rr), (6, .int (nI mm)), (7, .long dg), (9, .int (nI gv))]) (st' := [.int (nI bb), .int (nI gv), .ref 1000]) rfl ?_
    refine lw_tello X hF g1 g2 hN.2.2.2.1 hT5 b1 b3 ⟨by omega, by omega⟩ (Nat.le_of_ble_eq_true rfl) (by decide +kernel) ?_
    have hN2 := hN.by hg b1 b3
    have g2b : nI gv < (mz_by N (nI gv) (nI bb)) 60 0 := by rw [hN2.2.2.2.2.2.1]; exact nI_lt hg (by omega)
    refine mz_goP (lay := (mz_LL nT nG)) (M := (mz_MD Mb (e + 1 + 1))) (cA := cA) (D := D) (cl := vwCl) (fun _ h => h.2.2.2) FLW KLW C [(213, .aload 4), (215, .iload 9), (217, .iload 6)] (by decide +kernel) (pc' := 219) (L' := [(14, .int (mz_kn N (nI gv) (nI mm) (nI (mz_oc ot tv)))), (13, .int (mz_kn N (nI gv) (nI mm) (nI c0))), (12, .int (nI tv)), (11, .int (nI ot)), (10, .int (nI bb)), (0, .ref 131), (1, .int tm), (2, .ref 130), (3, .ref 1130), (4, .ref 0), (5, .int rr), (6, .int (nI mm)), (7, .long dg), (9, .int (nI gv))]) (st' := [.int (nI mm), .int (nI gv), .ref 0]) rfl ?_
    refine lw_t X hF [.int (nI gv), .int (nI mm)] [] (index := 43) (c_wouldKnow hF.1.1 (nI gv) (nI mm) m1 g1 g2b m2 m3) hy_X9_wouldKnow wl_W_43 rfl rfl rfl ⟨by decide, by decide⟩ ⟨by omega, by omega⟩ (Nat.le_of_ble_eq_true rfl) (by decide +kernel) (st' := [.int (mz_bitc (mz_rg 12 (g_X2_run (mz_by N (nI gv) (nI bb)) (nI mm) 68) (nI gv)))]) ?_ rfl rfl
    rw [← mz_kn_by N (nI gv) (nI mm) (nI bb)]
    have q1 := b4 c0 p1 p2
    have q2 := b4 (mz_oc ot tv) hoc.1 hoc.2
    generalize mz_kn N (nI gv) (nI mm) (nI bb) = kb0 at q1 q2 ⊢
    generalize mz_kn N (nI gv) (nI mm) (nI c0) = kc0 at q1 q2 ⊢
    generalize mz_kn N (nI gv) (nI mm) (nI (mz_oc ot tv)) = ko0 at q2 ⊢
    refine mz_goP (lay := (mz_LL nT nG)) (M := (mz_MD Mb (e + 1 + 1))) (cA := cA) (D := D) (cl := vwCl) (fun _ h => h.2.2.2) FLW KLW C [(222, .istore 15), (224, .iload 15), (226, .iload 13)] (by decide +kernel) (pc' := 228) (L' := [(15, .int kb0), (14, .int ko0), (13, .int kc0), (12, .int (nI tv)), (11, .int (nI ot)), (10, .int (nI bb)), (0, .ref 131), (1, .int tm), (2, .ref 130), (3, .ref 1130), (4, .ref 0), (5, .int rr), (6, .int (nI mm)), (7, .long dg), (9, .int (nI gv))]) (st' := [.int kc0, .int kb0]) rfl ?_
    refine mz_ilt (off := 38) (tgt := 266) C (by decide +kernel) (by decide) (fun h => absurd q1.1 (Int32.not_le.mpr h)) (fun _ => ?_)
    refine mz_goP (lay := (mz_LL nT nG)) (M := (mz_MD Mb (e + 1 + 1))) (cA := cA) (D := D) (cl := vwCl) (fun _ h => h.2.2.2) FLW KLW C [(231, .iload 15), (233, .iload 14)] (by decide +kernel) (pc' := 235) (L' := [(15, .int kb0), (14, .int ko0), (13, .int kc0), (12, .int (nI tv)), (11, .int (nI ot)), (10, .int (nI bb)), (0, .ref 131), (1, .int tm), (2, .ref 130), (3, .ref 1130), (4, .ref 0), (5, .int rr), (6, .int (nI mm)), (7, .long dg), (9, .int (nI gv))]) (st' := [.int ko0, .int kb0]) rfl ?_
    refine mz_ilt (off := 31) (tgt := 266) C (by decide +kernel) (by decide) (fun h => absurd q2.1 (Int32.not_le.mpr h)) (fun _ => ?_)
    have h268 : mz_W Γ ρ 16 k n (mz_LP D cA κt κo ρ (mz_LL nT nG) Mb (mz_by N (nI gv) (nI bb)) (mz_by N (nI gv) (nI bb)) (e + 1 + 1)) 268 [(15, .int kb0), (14, .int ko0), (13, .int kc0), (12, .int (nI tv)), (11, .int (nI ot)), (10, .int (nI bb)), (0, .ref 131), (1, .int tm), (2, .ref 130), (3, .ref 1130), (4, .ref 0), (5, .int rr), (6, .int (nI mm)), (7, .long dg), (9, .int (nI gv))] [] := by
      refine mz_goP (lay := (mz_LL nT nG)) (M := (mz_MD Mb (e + 1 + 1))) (cA := cA) (D := D) (cl := vwCl) (fun _ h => h.2.2.2) FLW KLW C [(268, .aload 4)] (by decide +kernel) (pc' := 270) (L' := [(15, .int kb0), (14, .int ko0), (13, .int kc0), (12, .int (nI tv)), (11, .int (nI ot)), (10, .int (nI bb)), (0, .ref 131), (1, .int tm), (2, .ref 130), (3, .ref 1130), (4, .ref 0), (5, .int rr), (6, .int (nI mm)), (7, .long dg), (9, .int (nI gv))]) (st' := [.ref 0]) rfl ?_
      refine lw_t X hF [] [] (index := 26) (c_digest hF.1.1) hy_X9_digest wl_W_26 rfl rfl rfl ⟨by decide, by decide⟩ ⟨by omega, by omega⟩ (Nat.le_of_ble_eq_true rfl) (by decide +kernel) (st' := [.long (mz_dig (mz_by N (nI gv) (nI bb)))]) ?_ rfl rfl
      refine mz_goP (lay := (mz_LL nT nG)) (M := (mz_MD Mb (e + 1 + 1))) (cA := cA) (D := D) (cl := vwCl) (fun _ h => h.2.2.2) FLW KLW C [(273, .aload_n 3), (274, .getfield 14)] (by decide +kernel) (pc' := 277) (L' := [(15, .int kb0), (14, .int ko0), (13, .int kc0), (12, .int (nI tv)), (11, .int (nI ot)), (10, .int (nI bb)), (0, .ref 131), (1, .int tm), (2, .ref 130), (3, .ref 1130), (4, .ref 0), (5, .int rr), (6, .int (nI mm)), (7, .long dg), (9, .int (nI gv))]) (st' := [.ref 1000, .long (mz_dig (mz_by N (nI gv) (nI bb)))]) rfl ?_
      refine lw_o X hF [] [.long (mz_dig (mz_by N (nI gv) (nI bb)))] (index := 26) (c_digest hF.1.2) hy_X9_digest wl_W_26 rfl rfl rfl ⟨by decide, by decide⟩ ⟨by omega, by omega⟩ (Nat.le_of_ble_eq_true rfl) (by decide +kernel) (st' := [.long (mz_dig (mz_by N (nI gv) (nI bb))), .long (mz_dig (mz_by N (nI gv) (nI bb)))]) ?_ rfl rfl
      refine mz_lcmpr X (mz_lg _) (by decide +kernel) ?_
      refine mz_zeq (off := 5) (tgt := 286) C (by decide +kernel) (by decide) (fun _ => ?_) (fun h => absurd rfl h)
      refine mz_goP (lay := (mz_LL nT nG)) (M := (mz_MD Mb (e + 1 + 1))) (cA := cA) (D := D) (cl := vwCl) (fun _ h => h.2.2.2) FLW KLW C [(286, .aload 4)] (by decide +kernel) (pc' := 288) (L' := [(15, .int kb0), (14, .int ko0), (13, .int kc0), (12, .int (nI tv)), (11, .int (nI ot)), (10, .int (nI bb)), (0, .ref 131), (1, .int tm), (2, .ref 130), (3, .ref 1130), (4, .ref 0), (5, .int rr), (6, .int (nI mm)), (7, .long dg), (9, .int (nI gv))]) (st' := [.ref 0]) rfl ?_
      refine lw_t X hF [] [] (index := 26) (c_digest hF.1.1) hy_X9_digest wl_W_26 rfl rfl rfl ⟨by decide, by decide⟩ ⟨by omega, by omega⟩ (Nat.le_of_ble_eq_true rfl) (by decide +kernel) (st' := [.long (mz_dig (mz_by N (nI gv) (nI bb)))]) ?_ rfl rfl
      refine mz_goP (lay := (mz_LL nT nG)) (M := (mz_MD Mb (e + 1 + 1))) (cA := cA) (D := D) (cl := vwCl) (fun _ h => h.2.2.2) FLW KLW C [(291, .lstore 7)] (by decide +kernel) (pc' := 293) (L' := [(7, .long (mz_dig (mz_by N (nI gv) (nI bb)))), (15, .int kb0), (14, .int ko0), (13, .int kc0), (12, .int (nI tv)), (11, .int (nI ot)), (10, .int (nI bb)), (0, .ref 131), (1, .int tm), (2, .ref 130), (3, .ref 1130), (4, .ref 0), (5, .int rr), (6, .int (nI mm)), (9, .int (nI gv))]) (st' := []) rfl ?_
      refine mz_sub (L' := [(0, .ref 131), (1, .int tm), (2, .ref 130), (3, .ref 1130), (4, .ref 0), (5, .int rr), (6, .int (nI mm)), (7, .long (mz_dig (mz_by N (nI gv) (nI bb)))), (9, .int (nI gv))]) (by simp) ?_
      exact kk _ hN2
    refine mz_goP (lay := (mz_LL nT nG)) (M := (mz_MD Mb (e + 1 + 1))) (cA := cA) (D := D) (cl := vwCl) (fun _ h => h.2.2.2) FLW KLW C [(238, .iload 15), (240, .iload 14)] (by decide +kernel) (pc' := 242) (L' := [(15, .int kb0), (14, .int ko0), (13, .int kc0), (12, .int (nI tv)), (11, .int (nI ot)), (10, .int (nI bb)), (0, .ref 131), (1, .int tm), (2, .ref 130), (3, .ref 1130), (4, .ref 0), (5, .int rr), (6, .int (nI mm)), (7, .long dg), (9, .int (nI gv))]) (st' := [.int ko0, .int kb0]) rfl ?_
    refine mz_ine (off := 26) (tgt := 268) C (by decide +kernel) (by decide) (fun _ => h268) (fun h => ?_)
    refine mz_goP (lay := (mz_LL nT nG)) (M := (mz_MD Mb (e + 1 + 1))) (cA := cA) (D := D) (cl := vwCl) (fun _ h => h.2.2.2) FLW KLW C [(245, .iload 10)] (by decide +kernel) (pc' := 247) (L' := [(15, .int kb0), (14, .int ko0), (13, .int kc0), (12, .int (nI tv)), (11, .int (nI ot)), (10, .int (nI bb)), (0, .ref 131), (1, .int tm), (2, .ref 130), (3, .ref 1130), (4, .ref 0), (5, .int rr), (6, .int (nI mm)), (7, .long dg), (9, .int (nI gv))]) (st' := [.int (nI bb)]) rfl ?_
    have hcmp : ∀ v : Int32, v = nI (mz_oc ot tv) → mz_W Γ ρ 16 k n (mz_LP D cA κt κo ρ (mz_LL nT nG) Mb (mz_by N (nI gv) (nI bb)) (mz_by N (nI gv) (nI bb)) (e + 1 + 1)) 263 [(15, .int kb0), (14, .int ko0), (13, .int kc0), (12, .int (nI tv)), (11, .int (nI ot)), (10, .int (nI bb)), (0, .ref 131), (1, .int tm), (2, .ref 130), (3, .ref 1130), (4, .ref 0), (5, .int rr), (6, .int (nI mm)), (7, .long dg), (9, .int (nI gv))] [.int v, .int (nI bb)] := by
      intro v hv
      subst hv
      refine mz_ile (off := 5) (tgt := 268) C (by decide +kernel) (by decide) (fun _ => h268) (fun z => absurd (nI_le (q2.2 h.symm) (by have := hoc.1; omega)) z)
    refine mz_goP (lay := (mz_LL nT nG)) (M := (mz_MD Mb (e + 1 + 1))) (cA := cA) (D := D) (cl := vwCl) (fun _ h => h.2.2.2) FLW KLW C [(247, .iload 11), (249, .iconst 1)] (by decide +kernel) (pc' := 250) (L' := [(15, .int kb0), (14, .int ko0), (13, .int kc0), (12, .int (nI tv)), (11, .int (nI ot)), (10, .int (nI bb)), (0, .ref 131), (1, .int tm), (2, .ref 130), (3, .ref 1130), (4, .ref 0), (5, .int rr), (6, .int (nI mm)), (7, .long dg), (9, .int (nI gv))]) (st' := [.int 1, .int (nI ot), .int (nI bb)]) rfl ?_
    refine mz_ine (off := 11) (tgt := 261) C (by decide +kernel) (by decide) (fun h => ?_) (fun h => ?_)
    · refine mz_goP (lay := (mz_LL nT nG)) (M := (mz_MD Mb (e + 1 + 1))) (cA := cA) (D := D) (cl := vwCl) (fun _ h => h.2.2.2) FLW KLW C [(261, .iload 11)] (by decide +kernel) (pc' := 263) (L' := [(15, .int kb0), (14, .int ko0), (13, .int kc0), (12, .int (nI tv)), (11, .int (nI ot)), (10, .int (nI bb)), (0, .ref 131), (1, .int tm), (2, .ref 130), (3, .ref 1130), (4, .ref 0), (5, .int rr), (6, .int (nI mm)), (7, .long dg), (9, .int (nI gv))]) (st' := [.int (nI ot), .int (nI bb)]) rfl ?_
      exact hcmp _ (by unfold mz_oc; rw [if_neg (fun z => h (by rw [z]; rfl))])
    · refine mz_goP (lay := (mz_LL nT nG)) (M := (mz_MD Mb (e + 1 + 1))) (cA := cA) (D := D) (cl := vwCl) (fun _ h => h.2.2.2) FLW KLW C [(253, .bipush 10), (255, .iload 12), (257, .iadd), (258, .goto 5)] (by decide +kernel) (pc' := 263) (L' := [(15, .int kb0), (14, .int ko0), (13, .int kc0), (12, .int (nI tv)), (11, .int (nI ot)), (10, .int (nI bb)), (0, .ref 131), (1, .int tm), (2, .ref 130), (3, .ref 1130), (4, .ref 0), (5, .int rr), (6, .int (nI mm)), (7, .long dg), (9, .int (nI gv))]) (st' := [.int (10 + (nI tv)), .int (nI bb)]) rfl ?_
      exact hcmp _ (by unfold mz_oc; rw [if_pos ((nI_eq (a := ot) (b := 1) (by omega) (by decide)).mp h)]; exact nI_add 10 tv)
  refine mz_goP (lay := (mz_LL nT nG)) (M := (mz_MD Mb (e + 1 + 1))) (cA := cA) (D := D) (cl := vwCl) (fun _ h => h.2.2.2) FLW KLW C [(163, .iload 11), (165, .iconst 1)] (by decide +kernel) (pc' := 166) (L' := [(13, .int (mz_kn N (nI gv) (nI mm) (nI c0))), (12, .int (nI tv)), (11, .int (nI ot)), (10, .int (nI bb)), (0, .ref 131), (1, .int tm), (2, .ref 130), (3, .ref 1130), (4, .ref 0), (5, .int rr), (6, .int (nI mm)), (7, .long dg), (9, .int (nI gv))]) (st' := [.int 1, .int (nI ot), .int (nI gv), .ref 0]) rfl ?_
  refine mz_ine (off := 11) (tgt := 177) C (by decide +kernel) (by decide) (fun h => ?_) (fun h => ?_)
  · refine mz_goP (lay := (mz_LL nT nG)) (M := (mz_MD Mb (e + 1 + 1))) (cA := cA) (D := D) (cl := vwCl) (fun _ h => h.2.2.2) FLW KLW C [(177, .iload 11)] (by decide +kernel) (pc' := 179) (L' := [(13, .int (mz_kn N (nI gv) (nI mm) (nI c0))), (12, .int (nI tv)), (11, .int (nI ot)), (10, .int (nI bb)), (0, .ref 131), (1, .int tm), (2, .ref 130), (3, .ref 1130), (4, .ref 0), (5, .int rr), (6, .int (nI mm)), (7, .long dg), (9, .int (nI gv))]) (st' := [.int (nI ot), .int (nI gv), .ref 0]) rfl ?_
    exact hjoin _ (by unfold mz_oc; rw [if_neg (fun z => h (by rw [z]; rfl))])
  · refine mz_goP (lay := (mz_LL nT nG)) (M := (mz_MD Mb (e + 1 + 1))) (cA := cA) (D := D) (cl := vwCl) (fun _ h => h.2.2.2) FLW KLW C [(169, .bipush 10), (171, .iload 12), (173, .iadd), (174, .goto 5)] (by decide +kernel) (pc' := 179) (L' := [(13, .int (mz_kn N (nI gv) (nI mm) (nI c0))), (12, .int (nI tv)), (11, .int (nI ot)), (10, .int (nI bb)), (0, .ref 131), (1, .int tm), (2, .ref 130), (3, .ref 1130), (4, .ref 0), (5, .int rr), (6, .int (nI mm)), (7, .long dg), (9, .int (nI gv))]) (st' := [.int (10 + (nI tv)), .int (nI gv), .ref 0]) rfl ?_
    exact hjoin _ (by unfold mz_oc; rw [if_pos ((nI_eq (a := ot) (b := 1) (by omega) (by decide)).mp h)]; exact nI_add 10 tv)
set_option maxHeartbeats 4000000 in
theorem lw_ask (X : mz_LX Γ l D cA b B) (hF : mz_LF κt κo ρ (mz_LL nT nG) B Lg xs) (hLg : Lg < 2 ^ 31) (hN : mz_FI N nT nS nG now) (he : e ≤ 100000) (hkn : k ≤ 700000 ∧ n ≤ 6000000) {mm : Nat} {gg : Int32} (hg : gg < 0 ∨ ∃ gv, gv < nG ∧ gg = nI gv) (hm : 1 ≤ mm ∧ mm ≤ 20)
    (kk : ∀ kw : Int32, (gg < 0 ∨ kw = mz_bitc (mz_rg 12 (g_X2_run N (nI mm) 68) gg)) → mz_W Γ ρ 16 k n (mz_LP D cA κt κo ρ (mz_LL nT nG) Mb N N (e)) 395 [(0, .ref 131), (1, .int tm), (2, .ref 130), (3, .ref 1130), (4, .ref 0), (5, .int rr), (6, .int (nI mm)), (7, .long (mz_dig N)), (9, .int gg), (10, .int (mz_sum 12 (g_X2_run N (nI mm) 50))), (11, .int kw)] []) :
    mz_W Γ ρ 16 k n (mz_LP D cA κt κo ρ (mz_LL nT nG) Mb N N (e)) 293 [(0, .ref 131), (1, .int tm), (2, .ref 130), (3, .ref 1130), (4, .ref 0), (5, .int rr), (6, .int (nI mm)), (7, .long (mz_dig N)), (9, .int gg)] [] := by
  have C := X.1
  obtain ⟨m1, m2, m3, m4⟩ := mz_mm hm
  have hT5 := hN.1.2
  have hT3 := hN.1.1
  have hG12 := hN.2.2.1
  refine mz_goP (lay := (mz_LL nT nG)) (M := (mz_MD Mb e)) (cA := cA) (D := D) (cl := vwCl) (fun _ h => h.2.2.2) FLW KLW C [(293, .aload 4), (295, .bipush 9)] (by decide +kernel) (pc' := 297) (L' := [(0, .ref 131), (1, .int tm), (2, .ref 130), (3, .ref 1130), (4, .ref 0), (5, .int rr), (6, .int (nI mm)), (7, .long (mz_dig N)), (9, .int gg)]) (st' := [.int 9, .ref 0]) rfl ?_
  refine lw_t X hF [.int 9] [] (index := 52) (c_many hF.1.1 9 (by decide) (by decide)) hy_X9_many wl_W_52 rfl rfl rfl ⟨by decide, by decide⟩ ⟨by omega, by omega⟩ (Nat.le_of_ble_eq_true rfl) (by decide +kernel) (st' := [.int (g_X9_many N 9)]) ?_ rfl rfl
  refine mz_goP (lay := (mz_LL nT nG)) (M := (mz_MD Mb e)) (cA := cA) (D := D) (cl := vwCl) (fun _ h => h.2.2.2) FLW KLW C [(300, .aload 4), (302, .iload 6)] (by decide +kernel) (pc' := 304) (L' := [(0, .ref 131), (1, .int tm), (2, .ref 130), (3, .ref 1130), (4, .ref 0), (5, .int rr), (6, .int (nI mm)), (7, .long (mz_dig N)), (9, .int gg)]) (st' := [.int (nI mm), .ref 0, .int (g_X9_many N 9)]) rfl ?_
  refine lw_t X hF [.int (nI mm)] [.int (g_X9_many N 9)] (index := 55) (c_wouldCut hF.1.1 (nI mm) m1 m2 m3) hy_X9_wouldCut wl_W_55 rfl rfl rfl ⟨by decide, by decide⟩ ⟨by omega, by omega⟩ (Nat.le_of_ble_eq_true rfl) (by decide +kernel) (st' := [.int (mz_sum 12 (g_X2_run N (nI mm) 50) - mz_sum 12 (N 50)), .int (g_X9_many N 9)]) ?_ rfl rfl
  refine mz_goP (lay := (mz_LL nT nG)) (M := (mz_MD Mb e)) (cA := cA) (D := D) (cl := vwCl) (fun _ h => h.2.2.2) FLW KLW C [(307, .iadd)] (by decide +kernel) (pc' := 308) (L' := [(0, .ref 131), (1, .int tm), (2, .ref 130), (3, .ref 1130), (4, .ref 0), (5, .int rr), (6, .int (nI mm)), (7, .long (mz_dig N)), (9, .int gg)]) (st' := [.int ((g_X9_many N 9) + (mz_sum 12 (g_X2_run N (nI mm) 50) - mz_sum 12 (N 50)))]) rfl ?_
  rw [mz_m9, mz_asub]
  refine mz_goP (lay := (mz_LL nT nG)) (M := (mz_MD Mb e)) (cA := cA) (D := D) (cl := vwCl) (fun _ h => h.2.2.2) FLW KLW C [(308, .istore 10)] (by decide +kernel) (pc' := 310) (L' := [(10, .int (mz_sum 12 (g_X2_run N (nI mm) 50))), (0, .ref 131), (1, .int tm), (2, .ref 130), (3, .ref 1130), (4, .ref 0), (5, .int rr), (6, .int (nI mm)), (7, .long (mz_dig N)), (9, .int gg)]) (st' := []) rfl ?_
  have h328 : ∀ kw : Int32, (gg < 0 ∨ kw = mz_bitc (mz_rg 12 (g_X2_run N (nI mm) 68) gg)) → mz_W Γ ρ 16 k n (mz_LP D cA κt κo ρ (mz_LL nT nG) Mb N N (e)) 328 [(10, .int (mz_sum 12 (g_X2_run N (nI mm) 50))), (0, .ref 131), (1, .int tm), (2, .ref 130), (3, .ref 1130), (4, .ref 0), (5, .int rr), (6, .int (nI mm)), (7, .long (mz_dig N)), (9, .int gg)] [.int kw] := by
    intro kw hkw
    refine mz_goP (lay := (mz_LL nT nG)) (M := (mz_MD Mb e)) (cA := cA) (D := D) (cl := vwCl) (fun _ h => h.2.2.2) FLW KLW C [(328, .istore 11), (330, .iconst 0), (331, .istore 12)] (by decide +kernel) (pc' := 333) (L' := [(12, .int 0), (11, .int kw), (10, .int (mz_sum 12 (g_X2_run N (nI mm) 50))), (0, .ref 131), (1, .int tm), (2, .ref 130), (3, .ref 1130), (4, .ref 0), (5, .int rr), (6, .int (nI mm)), (7, .long (mz_dig N)), (9, .int gg)]) (st' := []) rfl ?_
    refine mz_sub (L' := [(0, .ref 131), (1, .int tm), (2, .ref 130), (3, .ref 1130), (4, .ref 0), (5, .int rr), (6, .int (nI mm)), (7, .long (mz_dig N)), (9, .int gg), (10, .int (mz_sum 12 (g_X2_run N (nI mm) 50))), (11, .int kw), (12, .int 0)]) (by simp) ?_
    have loop : ∀ q j : Nat, j + q = nT → mz_W Γ ρ 16 k n (mz_LP D cA κt κo ρ (mz_LL nT nG) Mb N N (e)) 333 [(0, .ref 131), (1, .int tm), (2, .ref 130), (3, .ref 1130), (4, .ref 0), (5, .int rr), (6, .int (nI mm)), (7, .long (mz_dig N)), (9, .int gg), (10, .int (mz_sum 12 (g_X2_run N (nI mm) 50))), (11, .int kw), (12, .int (nI j))] [] := by
      intro q
      induction q with
      | zero =>
        intro j hj
        refine mz_goP (lay := (mz_LL nT nG)) (M := (mz_MD Mb e)) (cA := cA) (D := D) (cl := vwCl) (fun _ h => h.2.2.2) FLW KLW C [(333, .iload 12), (335, .aload_n 2), (336, .getfield 40)] (by decide +kernel) (pc' := 339) (L' := [(0, .ref 131), (1, .int tm), (2, .ref 130), (3, .ref 1130), (4, .ref 0), (5, .int rr), (6, .int (nI mm)), (7, .long (mz_dig N)), (9, .int gg), (10, .int (mz_sum 12 (g_X2_run N (nI mm) 50))), (11, .int kw), (12, .int (nI j))]) (st' := [.ref 134, .int (nI j)]) rfl ?_
        refine mz_aalen (fun _ h => h.2.2.2) C (id := 134) rfl (by decide +kernel) ?_
        refine mz_ige (off := 42) (tgt := 382) C (by decide +kernel) (by decide) (fun _ => ?_) (fun h => absurd (nI_le (show nT ≤ j by omega) (by omega)) h)
        refine mz_goP (lay := (mz_LL nT nG)) (M := (mz_MD Mb e)) (cA := cA) (D := D) (cl := vwCl) (fun _ h => h.2.2.2) FLW KLW C [(382, .aload 4)] (by decide +kernel) (pc' := 384) (L' := [(0, .ref 131), (1, .int tm), (2, .ref 130), (3, .ref 1130), (4, .ref 0), (5, .int rr), (6, .int (nI mm)), (7, .long (mz_dig N)), (9, .int gg), (10, .int (mz_sum 12 (g_X2_run N (nI mm) 50))), (11, .int kw), (12, .int (nI j))]) (st' := [.ref 0]) rfl ?_
        refine lw_t X hF [] [] (index := 26) (c_digest hF.1.1) hy_X9_digest wl_W_26 rfl rfl rfl ⟨by decide, by decide⟩ ⟨by omega, by omega⟩ (Nat.le_of_ble_eq_true rfl) (by decide +kernel) (st' := [.long (mz_dig N)]) ?_ rfl rfl
        refine mz_goP (lay := (mz_LL nT nG)) (M := (mz_MD Mb e)) (cA := cA) (D := D) (cl := vwCl) (fun _ h => h.2.2.2) FLW KLW C [(387, .lload 7)] (by decide +kernel) (pc' := 389) (L' := [(0, .ref 131), (1, .int tm), (2, .ref 130), (3, .ref 1130), (4, .ref 0), (5, .int rr), (6, .int (nI mm)), (7, .long (mz_dig N)), (9, .int gg), (10, .int (mz_sum 12 (g_X2_run N (nI mm) 50))), (11, .int kw), (12, .int (nI j))]) (st' := [.long (mz_dig N), .long (mz_dig N)]) rfl ?_
        refine mz_lcmpr X (mz_lg _) (by decide +kernel) ?_
        refine mz_zeq (off := 5) (tgt := 395) C (by decide +kernel) (by decide) (fun _ => ?_) (fun h => absurd rfl h)
        refine mz_sub (L' := [(0, .ref 131), (1, .int tm), (2, .ref 130), (3, .ref 1130), (4, .ref 0), (5, .int rr), (6, .int (nI mm)), (7, .long (mz_dig N)), (9, .int gg), (10, .int (mz_sum 12 (g_X2_run N (nI mm) 50))), (11, .int kw)]) (by simp) ?_
        exact kk kw hkw
      | succ q ih =>
        intro j hj
        refine mz_goP (lay := (mz_LL nT nG)) (M := (mz_MD Mb e)) (cA := cA) (D := D) (cl := vwCl) (fun _ h => h.2.2.2) FLW KLW C [(333, .iload 12), (335, .aload_n 2), (336, .getfield 40)] (by decide +kernel) (pc' := 339) (L' := [(0, .ref 131), (1, .int tm), (2, .ref 130), (3, .ref 1130), (4, .ref 0), (5, .int rr), (6, .int (nI mm)), (7, .long (mz_dig N)), (9, .int gg), (10, .int (mz_sum 12 (g_X2_run N (nI mm) 50))), (11, .int kw), (12, .int (nI j))]) (st' := [.ref 134, .int (nI j)]) rfl ?_
        refine mz_aalen (fun _ h => h.2.2.2) C (id := 134) rfl (by decide +kernel) ?_
        refine mz_ige (off := 42) (tgt := 382) C (by decide +kernel) (by decide) (fun h => absurd h (nI_ge (show j < nT by omega) (by omega))) (fun _ => ?_)
        refine mz_goP (lay := (mz_LL nT nG)) (M := (mz_MD Mb e)) (cA := cA) (D := D) (cl := vwCl) (fun _ h => h.2.2.2) FLW KLW C [(343, .aload 4), (345, .iload 12)] (by decide +kernel) (pc' := 347) (L' := [(0, .ref 131), (1, .int tm), (2, .ref 130), (3, .ref 1130), (4, .ref 0), (5, .int rr), (6, .int (nI mm)), (7, .long (mz_dig N)), (9, .int gg), (10, .int (mz_sum 12 (g_X2_run N (nI mm) 50))), (11, .int kw), (12, .int (nI j))]) (st' := [.int (nI j), .ref 0]) rfl ?_
        refine lw_t X hF [.int (nI j)] [] (index := 58) (c_doubles hF.1.1 (nI j) (nI_pos (by omega)) (by rw [hN.2.2.2.1]; exact nI_lt (by omega) (by omega))) hy_X9_doubles wl_W_58 rfl rfl rfl ⟨by decide, by decide⟩ ⟨by omega, by omega⟩ (Nat.le_of_ble_eq_true rfl) (by decide +kernel) (st' := [.int (g_X9_doubles N (nI j))]) ?_ rfl rfl
        refine mz_goP (lay := (mz_LL nT nG)) (M := (mz_MD Mb e)) (cA := cA) (D := D) (cl := vwCl) (fun _ h => h.2.2.2) FLW KLW C [(350, .istore 13), (352, .iload 13), (354, .iload 12)] (by decide +kernel) (pc' := 356) (L' := [(13, .int (g_X9_doubles N (nI j))), (0, .ref 131), (1, .int tm), (2, .ref 130), (3, .ref 1130), (4, .ref 0), (5, .int rr), (6, .int (nI mm)), (7, .long (mz_dig N)), (9, .int gg), (10, .int (mz_sum 12 (g_X2_run N (nI mm) 50))), (11, .int kw), (12, .int (nI j))]) (st' := [.int (nI j), .int (g_X9_doubles N (nI j))]) rfl ?_
        refine lw_has X ⟨by omega, by omega⟩ (Nat.le_of_ble_eq_true rfl) (by decide +kernel) ?_
        rw [show mz_hf (g_X9_doubles N (nI j)) (nI j) = 0 from by rw [mz_hf_doubles (nI j) hN.2.2.2.1 hT5 (show j < nT by omega), mz_cb_self]; rfl]
        refine mz_zne (off := 15) (tgt := 374) C (by decide +kernel) (by decide) (fun h => absurd rfl h) (fun _ => ?_)
        refine mz_goP (lay := (mz_LL nT nG)) (M := (mz_MD Mb e)) (cA := cA) (D := D) (cl := vwCl) (fun _ h => h.2.2.2) FLW KLW C [(362, .iload 13), (364, .iconst 1), (365, .aload_n 2), (366, .getfield 40)] (by decide +kernel) (pc' := 369) (L' := [(13, .int (g_X9_doubles N (nI j))), (0, .ref 131), (1, .int tm), (2, .ref 130), (3, .ref 1130), (4, .ref 0), (5, .int rr), (6, .int (nI mm)), (7, .long (mz_dig N)), (9, .int gg), (10, .int (mz_sum 12 (g_X2_run N (nI mm) 50))), (11, .int kw), (12, .int (nI j))]) (st' := [.ref 134, .int 1, .int (g_X9_doubles N (nI j))]) rfl ?_
        refine mz_aalen (fun _ h => h.2.2.2) C (id := 134) rfl (by decide +kernel) ?_
        refine mz_goP (lay := (mz_LL nT nG)) (M := (mz_MD Mb e)) (cA := cA) (D := D) (cl := vwCl) (fun _ h => h.2.2.2) FLW KLW C [(370, .ishl)] (by decide +kernel) (pc' := 371) (L' := [(13, .int (g_X9_doubles N (nI j))), (0, .ref 131), (1, .int tm), (2, .ref 130), (3, .ref 1130), (4, .ref 0), (5, .int rr), (6, .int (nI mm)), (7, .long (mz_dig N)), (9, .int gg), (10, .int (mz_sum 12 (g_X2_run N (nI mm) 50))), (11, .int kw), (12, .int (nI j))]) (st' := [.int (1 <<< ((nI nT) &&& 31)), .int (g_X9_doubles N (nI j))]) rfl ?_
        refine mz_ilt (off := 5) (tgt := 376) C (by decide +kernel) (by decide) (fun _ => ?_) (fun h => absurd (mz_doubles_lt (nI j) hN.2.2.2.1 hT5) h)
        refine mz_goP (lay := (mz_LL nT nG)) (M := (mz_MD Mb e)) (cA := cA) (D := D) (cl := vwCl) (fun _ h => h.2.2.2) FLW KLW C [(376, .iinc 12 1), (379, .goto (-46))] (by decide +kernel) (pc' := 333) (L' := [(12, .int ((nI j) + 1)), (13, .int (g_X9_doubles N (nI j))), (0, .ref 131), (1, .int tm), (2, .ref 130), (3, .ref 1130), (4, .ref 0), (5, .int rr), (6, .int (nI mm)), (7, .long (mz_dig N)), (9, .int gg), (10, .int (mz_sum 12 (g_X2_run N (nI mm) 50))), (11, .int kw)]) (st' := []) rfl ?_
        rw [nI_1]
        refine mz_sub (L' := [(0, .ref 131), (1, .int tm), (2, .ref 130), (3, .ref 1130), (4, .ref 0), (5, .int rr), (6, .int (nI mm)), (7, .long (mz_dig N)), (9, .int gg), (10, .int (mz_sum 12 (g_X2_run N (nI mm) 50))), (11, .int kw), (12, .int (nI (j + 1)))]) (by simp) ?_
        exact ih (j + 1) (by omega)
    have h0 := loop nT 0 (by omega)
    rw [nI_0] at h0
    exact h0
  refine mz_goP (lay := (mz_LL nT nG)) (M := (mz_MD Mb e)) (cA := cA) (D := D) (cl := vwCl) (fun _ h => h.2.2.2) FLW KLW C [(310, .iload 9)] (by decide +kernel) (pc' := 312) (L' := [(10, .int (mz_sum 12 (g_X2_run N (nI mm) 50))), (0, .ref 131), (1, .int tm), (2, .ref 130), (3, .ref 1130), (4, .ref 0), (5, .int rr), (6, .int (nI mm)), (7, .long (mz_dig N)), (9, .int gg)]) (st' := [.int gg]) rfl ?_
  refine mz_zge (off := 7) (tgt := 319) C (by decide +kernel) (by decide) (fun h => ?_) (fun h => ?_)
  · obtain ⟨gv, hgv, rfl⟩ := hg.resolve_left (fun z => absurd h (Int32.not_le.mpr z))
    have g1 : ¬ nI gv < 0 := nI_pos (by omega)
    have g2 : nI gv < N 60 0 := by rw [hN.2.2.2.2.2.1]; exact nI_lt hgv (by omega)
    refine mz_goP (lay := (mz_LL nT nG)) (M := (mz_MD Mb e)) (cA := cA) (D := D) (cl := vwCl) (fun _ h => h.2.2.2) FLW KLW C [(319, .aload 4), (321, .iload 9), (323, .iload 6)] (by decide +kernel) (pc' := 325) (L' := [(10, .int (mz_sum 12 (g_X2_run N (nI mm) 50))), (0, .ref 131), (1, .int tm), (2, .ref 130), (3, .ref 1130), (4, .ref 0), (5, .int rr), (6, .int (nI mm)), (7, .long (mz_dig N)), (9, .int (nI gv))]) (st' := [.int (nI mm), .int (nI gv), .ref 0]) rfl ?_
    refine lw_t X hF [.int (nI gv), .int (nI mm)] [] (index := 43) (c_wouldKnow hF.1.1 (nI gv) (nI mm) m1 g1 g2 m2 m3) hy_X9_wouldKnow wl_W_43 rfl rfl rfl ⟨by decide, by decide⟩ ⟨by omega, by omega⟩ (Nat.le_of_ble_eq_true rfl) (by decide +kernel) (st' := [.int (mz_bitc (mz_rg 12 (g_X2_run N (nI mm) 68) (nI gv)))]) ?_ rfl rfl
    exact h328 _ (Or.inr rfl)
  · refine mz_goP (lay := (mz_LL nT nG)) (M := (mz_MD Mb e)) (cA := cA) (D := D) (cl := vwCl) (fun _ h => h.2.2.2) FLW KLW C [(315, .iconst 0), (316, .goto 12)] (by decide +kernel) (pc' := 328) (L' := [(10, .int (mz_sum 12 (g_X2_run N (nI mm) 50))), (0, .ref 131), (1, .int tm), (2, .ref 130), (3, .ref 1130), (4, .ref 0), (5, .int rr), (6, .int (nI mm)), (7, .long (mz_dig N)), (9, .int gg)]) (st' := [.int 0]) rfl ?_
    exact h328 _ (Or.inl (Int32.not_le.mp h))
set_option maxHeartbeats 4000000 in
theorem lw_minutes (X : mz_LX Γ l D cA b B) (hF : mz_LF κt κo ρ (mz_LL nT nG) B Lg xs) (hLg : Lg < 2 ^ 31) (hN : mz_FI N nT nS nG now) (he : e ≤ 100000) (hkn : k ≤ 700000 ∧ n ≤ 6000000) {mm : Nat} {gg kw : Int32} (hg : gg < 0 ∨ ∃ gv, gv < nG ∧ gg = nI gv) (hm : 1 ≤ mm ∧ mm ≤ 20) (hnow : now ≤ 500) (hkw : gg < 0 ∨ kw = mz_bitc (mz_rg 12 (g_X2_run N (nI mm) 68) gg))
    (kk : mz_FI (mz_its mm N) nT nS nG (now + mm) → mz_W Γ ρ 16 k n (mz_LP D cA κt κo ρ (mz_LL nT nG) Mb (mz_its mm N) (mz_its mm N) (e)) 489 [(0, .ref 131), (1, .int tm), (2, .ref 130), (3, .ref 1130), (4, .ref 0), (5, .int rr), (6, .int (nI mm)), (9, .int gg)] []) :
    mz_W Γ ρ 16 k n (mz_LP D cA κt κo ρ (mz_LL nT nG) Mb N N (e)) 395 [(0, .ref 131), (1, .int tm), (2, .ref 130), (3, .ref 1130), (4, .ref 0), (5, .int rr), (6, .int (nI mm)), (9, .int gg), (10, .int (mz_sum 12 (g_X2_run N (nI mm) 50))), (11, .int kw)] [] := by
  have C := X.1
  obtain ⟨m1, m2, m3, m4⟩ := mz_mm hm
  have hT5 := hN.1.2
  have hT3 := hN.1.1
  have hG12 := hN.2.2.1
  have hrun : g_X2_run N (nI mm) = mz_its mm N := mz_run_n N (by omega)
  refine mz_goP (lay := (mz_LL nT nG)) (M := (mz_MD Mb e)) (cA := cA) (D := D) (cl := vwCl) (fun _ h => h.2.2.2) FLW KLW C [(395, .aload 4), (397, .iload 6)] (by decide +kernel) (pc' := 399) (L' := [(0, .ref 131), (1, .int tm), (2, .ref 130), (3, .ref 1130), (4, .ref 0), (5, .int rr), (6, .int (nI mm)), (9, .int gg), (10, .int (mz_sum 12 (g_X2_run N (nI mm) 50))), (11, .int kw)]) (st' := [.int (nI mm), .ref 0]) rfl ?_
  refine lw_t X hF [.int (nI mm)] [] (index := 65) (c_pass hF.1.1 (nI mm) m1 m2 m4 (by rw [hN.2.2.2.2.2.2.1, nI_add]; exact nI_le (b := 600) (by omega) (by decide))) hy_X9_pass wl_W_65 rfl rfl rfl ⟨by decide, by decide⟩ ⟨by omega, by omega⟩ (Nat.le_of_ble_eq_true rfl) (by decide +kernel) (st' := [.int (mz_sum 12 (g_X2_run N (nI mm) 48) - mz_sum 12 (N 48))]) ?_ rfl rfl
  rw [hrun]
  rw [hrun] at hkw
  refine mz_goP (lay := (mz_LL nT nG)) (M := (mz_MD Mb e)) (cA := cA) (D := D) (cl := vwCl) (fun _ h => h.2.2.2) FLW KLW C [(402, .istore 12), (404, .iconst 0), (405, .istore 13)] (by decide +kernel) (pc' := 407) (L' := [(13, .int 0), (12, .int (mz_sum 12 (mz_its mm N 48) - mz_sum 12 (N 48))), (0, .ref 131), (1, .int tm), (2, .ref 130), (3, .ref 1130), (4, .ref 0), (5, .int rr), (6, .int (nI mm)), (9, .int gg), (10, .int (mz_sum 12 (mz_its mm N 50))), (11, .int kw)]) (st' := []) rfl ?_
  have hfi := hN.its (x := mm) (by omega)
  have loop : ∀ q x : Nat, x + q = mm → mz_W Γ ρ 16 k n (mz_LP D cA κt κo ρ (mz_LL nT nG) Mb (mz_its mm N) (mz_its x N) (e)) 407 [(0, .ref 131), (1, .int tm), (2, .ref 130), (3, .ref 1130), (4, .ref 0), (5, .int rr), (6, .int (nI mm)), (9, .int gg), (10, .int (mz_sum 12 (mz_its mm N 50))), (11, .int kw), (12, .int (mz_sum 12 (mz_its mm N 48) - mz_sum 12 (mz_its x N 48))), (13, .int (nI x))] [] := by
    intro q
    induction q with
    | zero =>
      intro x hx
      have ex : x = mm := by omega
      subst ex
      refine mz_goP (lay := (mz_LL nT nG)) (M := (mz_MD Mb e)) (cA := cA) (D := D) (cl := vwCl) (fun _ h => h.2.2.2) FLW KLW C [(407, .iload 13), (409, .iload 6)] (by decide +kernel) (pc' := 411) (L' := [(0, .ref 131), (1, .int tm), (2, .ref 130), (3, .ref 1130), (4, .ref 0), (5, .int rr), (6, .int (nI x)), (9, .int gg), (10, .int (mz_sum 12 (mz_its x N 50))), (11, .int kw), (12, .int (mz_sum 12 (mz_its x N 48) - mz_sum 12 (mz_its x N 48))), (13, .int (nI x))]) (st' := [.int (nI x), .int (nI x)]) rfl ?_
      refine mz_ige (off := 22) (tgt := 433) C (by decide +kernel) (by decide) (fun _ => ?_) (fun h => absurd (Int32.le_refl _) h)
      refine mz_goP (lay := (mz_LL nT nG)) (M := (mz_MD Mb e)) (cA := cA) (D := D) (cl := vwCl) (fun _ h => h.2.2.2) FLW KLW C [(433, .iload 12)] (by decide +kernel) (pc' := 435) (L' := [(0, .ref 131), (1, .int tm), (2, .ref 130), (3, .ref 1130), (4, .ref 0), (5, .int rr), (6, .int (nI x)), (9, .int gg), (10, .int (mz_sum 12 (mz_its x N 50))), (11, .int kw), (12, .int (mz_sum 12 (mz_its x N 48) - mz_sum 12 (mz_its x N 48))), (13, .int (nI x))]) (st' := [.int (mz_sum 12 (mz_its x N 48) - mz_sum 12 (mz_its x N 48))]) rfl ?_
      refine mz_zne (off := 52) (tgt := 487) C (by decide +kernel) (by decide) (fun h => absurd (Int32.sub_self _) h) (fun _ => ?_)
      refine mz_goP (lay := (mz_LL nT nG)) (M := (mz_MD Mb e)) (cA := cA) (D := D) (cl := vwCl) (fun _ h => h.2.2.2) FLW KLW C [(438, .aload 4), (440, .bipush 9)] (by decide +kernel) (pc' := 442) (L' := [(0, .ref 131), (1, .int tm), (2, .ref 130), (3, .ref 1130), (4, .ref 0), (5, .int rr), (6, .int (nI x)), (9, .int gg), (10, .int (mz_sum 12 (mz_its x N 50))), (11, .int kw), (12, .int (mz_sum 12 (mz_its x N 48) - mz_sum 12 (mz_its x N 48))), (13, .int (nI x))]) (st' := [.int 9, .ref 0]) rfl ?_
      refine lw_t X hF [.int 9] [] (index := 52) (c_many hF.1.1 9 (by decide) (by decide)) hy_X9_many wl_W_52 rfl rfl rfl ⟨by decide, by decide⟩ ⟨by omega, by omega⟩ (Nat.le_of_ble_eq_true rfl) (by decide +kernel) (st' := [.int (g_X9_many (mz_its x N) 9)]) ?_ rfl rfl
      refine mz_goP (lay := (mz_LL nT nG)) (M := (mz_MD Mb e)) (cA := cA) (D := D) (cl := vwCl) (fun _ h => h.2.2.2) FLW KLW C [(445, .iload 10)] (by decide +kernel) (pc' := 447) (L' := [(0, .ref 131), (1, .int tm), (2, .ref 130), (3, .ref 1130), (4, .ref 0), (5, .int rr), (6, .int (nI x)), (9, .int gg), (10, .int (mz_sum 12 (mz_its x N 50))), (11, .int kw), (12, .int (mz_sum 12 (mz_its x N 48) - mz_sum 12 (mz_its x N 48))), (13, .int (nI x))]) (st' := [.int (mz_sum 12 (mz_its x N 50)), .int (g_X9_many (mz_its x N) 9)]) rfl ?_
      refine mz_ine (off := 40) (tgt := 487) C (by decide +kernel) (by decide) (fun h => absurd (mz_m9 _) h) (fun _ => ?_)
      have h471 : mz_W Γ ρ 16 k n (mz_LP D cA κt κo ρ (mz_LL nT nG) Mb (mz_its x N) (mz_its x N) (e)) 471 [(0, .ref 131), (1, .int tm), (2, .ref 130), (3, .ref 1130), (4, .ref 0), (5, .int rr), (6, .int (nI x)), (9, .int gg), (10, .int (mz_sum 12 (mz_its x N 50))), (11, .int kw), (12, .int (mz_sum 12 (mz_its x N 48) - mz_sum 12 (mz_its x N 48))), (13, .int (nI x))] [] := by
        refine mz_goP (lay := (mz_LL nT nG)) (M := (mz_MD Mb e)) (cA := cA) (D := D) (cl := vwCl) (fun _ h => h.2.2.2) FLW KLW C [(471, .aload 4)] (by decide +kernel) (pc' := 473) (L' := [(0, .ref 131), (1, .int tm), (2, .ref 130), (3, .ref 1130), (4, .ref 0), (5, .int rr), (6, .int (nI x)), (9, .int gg), (10, .int (mz_sum 12 (mz_its x N 50))), (11, .int kw), (12, .int (mz_sum 12 (mz_its x N 48) - mz_sum 12 (mz_its x N 48))), (13, .int (nI x))]) (st' := [.ref 0]) rfl ?_
        refine lw_t X hF [] [] (index := 26) (c_digest hF.1.1) hy_X9_digest wl_W_26 rfl rfl rfl ⟨by decide, by decide⟩ ⟨by omega, by omega⟩ (Nat.le_of_ble_eq_true rfl) (by decide +kernel) (st' := [.long (mz_dig (mz_its x N))]) ?_ rfl rfl
        refine mz_goP (lay := (mz_LL nT nG)) (M := (mz_MD Mb e)) (cA := cA) (D := D) (cl := vwCl) (fun _ h => h.2.2.2) FLW KLW C [(476, .aload_n 3), (477, .getfield 14)] (by decide +kernel) (pc' := 480) (L' := [(0, .ref 131), (1, .int tm), (2, .ref 130), (3, .ref 1130), (4, .ref 0), (5, .int rr), (6, .int (nI x)), (9, .int gg), (10, .int (mz_sum 12 (mz_its x N 50))), (11, .int kw), (12, .int (mz_sum 12 (mz_its x N 48) - mz_sum 12 (mz_its x N 48))), (13, .int (nI x))]) (st' := [.ref 1000, .long (mz_dig (mz_its x N))]) rfl ?_
        refine lw_o X hF [] [.long (mz_dig (mz_its x N))] (index := 26) (c_digest hF.1.2) hy_X9_digest wl_W_26 rfl rfl rfl ⟨by decide, by decide⟩ ⟨by omega, by omega⟩ (Nat.le_of_ble_eq_true rfl) (by decide +kernel) (st' := [.long (mz_dig (mz_its x N)), .long (mz_dig (mz_its x N))]) ?_ rfl rfl
        refine mz_lcmpr X (mz_lg _) (by decide +kernel) ?_
        refine mz_zeq (off := 5) (tgt := 489) C (by decide +kernel) (by decide) (fun _ => ?_) (fun h => absurd rfl h)
        refine mz_sub (L' := [(0, .ref 131), (1, .int tm), (2, .ref 130), (3, .ref 1130), (4, .ref 0), (5, .int rr), (6, .int (nI x)), (9, .int gg)]) (by simp) ?_
        exact kk hfi
      refine mz_goP (lay := (mz_LL nT nG)) (M := (mz_MD Mb e)) (cA := cA) (D := D) (cl := vwCl) (fun _ h => h.2.2.2) FLW KLW C [(450, .iload 9)] (by decide +kernel) (pc' := 452) (L' := [(0, .ref 131), (1, .int tm), (2, .ref 130), (3, .ref 1130), (4, .ref 0), (5, .int rr), (6, .int (nI x)), (9, .int gg), (10, .int (mz_sum 12 (mz_its x N 50))), (11, .int kw), (12, .int (mz_sum 12 (mz_its x N 48) - mz_sum 12 (mz_its x N 48))), (13, .int (nI x))]) (st' := [.int gg]) rfl ?_
      refine mz_zlt (off := 19) (tgt := 471) C (by decide +kernel) (by decide) (fun _ => h471) (fun h => ?_)
      obtain ⟨gv, hgv, rfl⟩ := hg.resolve_left h
      have g1 : ¬ nI gv < 0 := nI_pos (by omega)
      have g2 : nI gv < (mz_its x N) 60 0 := by rw [hfi.2.2.2.2.2.1]; exact nI_lt hgv (by omega)
      refine mz_goP (lay := (mz_LL nT nG)) (M := (mz_MD Mb e)) (cA := cA) (D := D) (cl := vwCl) (fun _ h => h.2.2.2) FLW KLW C [(455, .aload 4), (457, .iload 9), (459, .iconst 4)] (by decide +kernel) (pc' := 460) (L' := [(0, .ref 131), (1, .int tm), (2, .ref 130), (3, .ref 1130), (4, .ref 0), (5, .int rr), (6, .int (nI x)), (9, .int (nI gv)), (10, .int (mz_sum 12 (mz_its x N 50))), (11, .int kw), (12, .int (mz_sum 12 (mz_its x N 48) - mz_sum 12 (mz_its x N 48))), (13, .int (nI x))]) (st' := [.int 4, .int (nI gv), .ref 0]) rfl ?_
      refine lw_t X hF [.int (nI gv), .int 4] [] (index := 68) (c_ofGuest hF.1.1 (nI gv) 4 g1 g2 (by decide) (by decide)) hy_X9_ofGuest wl_W_68 rfl rfl rfl ⟨by decide, by decide⟩ ⟨by omega, by omega⟩ (Nat.le_of_ble_eq_true rfl) (by decide +kernel) (st' := [.int (g_X9_ofGuest (mz_its x N) (nI gv) 4)]) ?_ rfl rfl
      obtain ⟨j, hj, ej⟩ := mz_nI_of (mz_rg_kb hfi.2.2.2.2.2.2.2.1 (show gv < 12 by omega))
      rw [mz_og4, ej]
      refine lw_size X hj ⟨by omega, by omega⟩ (Nat.le_of_ble_eq_true rfl) (by decide +kernel) ?_
      rw [mz_pc_bitc j hj]
      refine mz_goP (lay := (mz_LL nT nG)) (M := (mz_MD Mb e)) (cA := cA) (D := D) (cl := vwCl) (fun _ h => h.2.2.2) FLW KLW C [(466, .iload 11)] (by decide +kernel) (pc' := 468) (L' := [(0, .ref 131), (1, .int tm), (2, .ref 130), (3, .ref 1130), (4, .ref 0), (5, .int rr), (6, .int (nI x)), (9, .int (nI gv)), (10, .int (mz_sum 12 (mz_its x N 50))), (11, .int kw), (12, .int (mz_sum 12 (mz_its x N 48) - mz_sum 12 (mz_its x N 48))), (13, .int (nI x))]) (st' := [.int kw, .int (mz_bitc (nI j))]) rfl ?_
      refine mz_ine (off := 19) (tgt := 487) C (by decide +kernel) (by decide) (fun z => absurd (by rw [hkw.resolve_left h, ej]) z) (fun _ => h471)
    | succ q ih =>
      intro x hx
      refine mz_goP (lay := (mz_LL nT nG)) (M := (mz_MD Mb e)) (cA := cA) (D := D) (cl := vwCl) (fun _ h => h.2.2.2) FLW KLW C [(407, .iload 13), (409, .iload 6)] (by decide +kernel) (pc' := 411) (L' := [(0, .ref 131), (1, .int tm), (2, .ref 130), (3, .ref 1130), (4, .ref 0), (5, .int rr), (6, .int (nI mm)), (9, .int gg), (10, .int (mz_sum 12 (mz_its mm N 50))), (11, .int kw), (12, .int (mz_sum 12 (mz_its mm N 48) - mz_sum 12 (mz_its x N 48))), (13, .int (nI x))]) (st' := [.int (nI mm), .int (nI x)]) rfl ?_
      refine mz_ige (off := 22) (tgt := 433) C (by decide +kernel) (by decide) (fun h => absurd h (nI_ge (show x < mm by omega) (by omega))) (fun _ => ?_)
      have hfx := hN.its (x := x) (by omega)
      refine mz_goP (lay := (mz_LL nT nG)) (M := (mz_MD Mb e)) (cA := cA) (D := D) (cl := vwCl) (fun _ h => h.2.2.2) FLW KLW C [(414, .iload 12), (416, .aload_n 3), (417, .getfield 14), (420, .iconst 1)] (by decide +kernel) (pc' := 421) (L' := [(0, .ref 131), (1, .int tm), (2, .ref 130), (3, .ref 1130), (4, .ref 0), (5, .int rr), (6, .int (nI mm)), (9, .int gg), (10, .int (mz_sum 12 (mz_its mm N 50))), (11, .int kw), (12, .int (mz_sum 12 (mz_its mm N 48) - mz_sum 12 (mz_its x N 48))), (13, .int (nI x))]) (st' := [.int 1, .ref 1000, .int (mz_sum 12 (mz_its mm N 48) - mz_sum 12 (mz_its x N 48))]) rfl ?_
      refine lw_o X hF [.int 1] [.int (mz_sum 12 (mz_its mm N 48) - mz_sum 12 (mz_its x N 48))] (index := 65) (c_pass hF.1.2 1 (by decide) (by decide) (by decide) (by rw [hfx.2.2.2.2.2.2.1, show nI (now + x) + 1 = nI (now + x + 1) from nI_1 _]; exact nI_le (b := 600) (by omega) (by decide))) hy_X9_pass wl_W_65 rfl rfl rfl ⟨by decide, by decide⟩ ⟨by omega, by omega⟩ (Nat.le_of_ble_eq_true rfl) (by decide +kernel) (st' := [.int (mz_sum 12 (g_X2_run (mz_its x N) 1 48) - mz_sum 12 (mz_its x N 48)), .int (mz_sum 12 (mz_its mm N 48) - mz_sum 12 (mz_its x N 48))]) ?_ rfl rfl
      rw [mz_run_1, ← mz_its_s]
      refine mz_goP (lay := (mz_LL nT nG)) (M := (mz_MD Mb e)) (cA := cA) (D := D) (cl := vwCl) (fun _ h => h.2.2.2) FLW KLW C [(424, .isub)] (by decide +kernel) (pc' := 425) (L' := [(0, .ref 131), (1, .int tm), (2, .ref 130), (3, .ref 1130), (4, .ref 0), (5, .int rr), (6, .int (nI mm)), (9, .int gg), (10, .int (mz_sum 12 (mz_its mm N 50))), (11, .int kw), (12, .int (mz_sum 12 (mz_its mm N 48) - mz_sum 12 (mz_its x N 48))), (13, .int (nI x))]) (st' := [.int ((mz_sum 12 (mz_its mm N 48) - mz_sum 12 (mz_its x N 48)) - (mz_sum 12 (mz_its (x + 1) N 48) - mz_sum 12 (mz_its x N 48)))]) rfl ?_
      rw [mz_sss]
      refine mz_goP (lay := (mz_LL nT nG)) (M := (mz_MD Mb e)) (cA := cA) (D := D) (cl := vwCl) (fun _ h => h.2.2.2) FLW KLW C [(425, .istore 12), (427, .iinc 13 1), (430, .goto (-23))] (by decide +kernel) (pc' := 407) (L' := [(13, .int ((nI x) + 1)), (12, .int (mz_sum 12 (mz_its mm N 48) - mz_sum 12 (mz_its (x + 1) N 48))), (0, .ref 131), (1, .int tm), (2, .ref 130), (3, .ref 1130), (4, .ref 0), (5, .int rr), (6, .int (nI mm)), (9, .int gg), (10, .int (mz_sum 12 (mz_its mm N 50))), (11, .int kw)]) (st' := []) rfl ?_
      rw [nI_1]
      refine mz_sub (L' := [(0, .ref 131), (1, .int tm), (2, .ref 130), (3, .ref 1130), (4, .ref 0), (5, .int rr), (6, .int (nI mm)), (9, .int gg), (10, .int (mz_sum 12 (mz_its mm N 50))), (11, .int kw), (12, .int (mz_sum 12 (mz_its mm N 48) - mz_sum 12 (mz_its (x + 1) N 48))), (13, .int (nI (x + 1)))]) (by simp) ?_
      exact ih (x + 1) (by omega)
  have h0 := loop mm 0 (by omega)
  rw [nI_0] at h0
  refine mz_sub ?_ h0
  intro q hq
  simp only [List.mem_cons, List.not_mem_nil, or_false] at hq ⊢
  rcases hq with hq | hq | hq | hq | hq | hq | hq | hq | hq | hq | hq | hq <;> subst hq <;> simp [mz_its]
set_option maxHeartbeats 4000000 in
theorem lw_double (X : mz_LX Γ l D cA b B) (hF : mz_LF κt κo ρ (mz_LL nT nG) B Lg xs) (hLg : Lg < 2 ^ 31) (hN : mz_FI N nT nS nG now) (he : e ≤ 100000) (hkn : k ≤ 700000 ∧ n ≤ 6000000) 
    (kk : ∀ N2 e2 k2 n2, mz_FI N2 nT nS nG now → e2 ≤ e + 3 → k2 ≤ k + 2 → n2 ≤ n + 12 → mz_W Γ ρ 16 k2 n2 (mz_LP D cA κt κo ρ (mz_LL nT nG) Mb N2 N2 (e2)) 612 [(0, .ref 131), (1, .int tm), (2, .ref 130), (3, .ref 1130), (4, .ref 0), (5, .int rr)] []) :
    mz_W Γ ρ 16 k n (mz_LP D cA κt κo ρ (mz_LL nT nG) Mb N N (e)) 489 [(0, .ref 131), (1, .int tm), (2, .ref 130), (3, .ref 1130), (4, .ref 0), (5, .int rr)] [] := by
  have C := X.1
  have hT5 := hN.1.2
  have hT3 := hN.1.1
  refine mz_goP (lay := (mz_LL nT nG)) (M := (mz_MD Mb e)) (cA := cA) (D := D) (cl := vwCl) (fun _ h => h.2.2.2) FLW KLW C [(489, .aload_n 2), (490, .aload_n 2), (491, .getfield 40)] (by decide +kernel) (pc' := 494) (L' := [(0, .ref 131), (1, .int tm), (2, .ref 130), (3, .ref 1130), (4, .ref 0), (5, .int rr)]) (st' := [.ref 134, .ref 130]) rfl ?_
  refine mz_aalen (fun _ h => h.2.2.2) C (id := 134) rfl (by decide +kernel) ?_
  refine lw_draw X hF rfl (n0 := nT) hLg (by omega) (by omega) (by omega) ⟨by omega, by omega⟩ (Nat.le_of_ble_eq_true rfl) (by decide +kernel) ?_
  have hov := (mz_dv_ok Lg xs e (n := nT) (by omega) (by omega)).1
  generalize mz_dv Lg xs e nT = ov at hov ⊢
  refine mz_goP (lay := (mz_LL nT nG)) (M := (mz_MD Mb (e + 1))) (cA := cA) (D := D) (cl := vwCl) (fun _ h => h.2.2.2) FLW KLW C [(498, .istore 13), (500, .aload_n 2), (501, .aload_n 2), (502, .getfield 40)] (by decide +kernel) (pc' := 505) (L' := [(13, .int (nI ov)), (0, .ref 131), (1, .int tm), (2, .ref 130), (3, .ref 1130), (4, .ref 0), (5, .int rr)]) (st' := [.ref 134, .ref 130]) rfl ?_
  refine mz_aalen (fun _ h => h.2.2.2) C (id := 134) rfl (by decide +kernel) ?_
  refine lw_draw X hF rfl (n0 := nT) hLg (by omega) (by omega) (by omega) ⟨by omega, by omega⟩ (Nat.le_of_ble_eq_true rfl) (by decide +kernel) ?_
  have hbv := (mz_dv_ok Lg xs (e + 1) (n := nT) (by omega) (by omega)).1
  generalize mz_dv Lg xs (e + 1) nT = bv at hbv ⊢
  have w1 : ¬ nI ov < 0 := nI_pos (by omega)
  have w2 : nI ov < N 15 0 := by rw [hN.2.2.2.1]; exact nI_lt hov (by omega)
  have w3 : ¬ nI bv < 0 := nI_pos (by omega)
  have w4 : nI bv < N 15 0 := by rw [hN.2.2.2.1]; exact nI_lt hbv (by omega)
  refine mz_goP (lay := (mz_LL nT nG)) (M := (mz_MD Mb (e + 1 + 1))) (cA := cA) (D := D) (cl := vwCl) (fun _ h => h.2.2.2) FLW KLW C [(509, .istore 14), (511, .aload 4), (513, .iload 13)] (by decide +kernel) (pc' := 515) (L' := [(14, .int (nI bv)), (13, .int (nI ov)), (0, .ref 131), (1, .int tm), (2, .ref 130), (3, .ref 1130), (4, .ref 0), (5, .int rr)]) (st' := [.int (nI ov), .ref 0]) rfl ?_
  refine lw_t X hF [.int (nI ov)] [] (index := 58) (c_doubles hF.1.1 (nI ov) w1 w2) hy_X9_doubles wl_W_58 rfl rfl rfl ⟨by decide, by decide⟩ ⟨by omega, by omega⟩ (Nat.le_of_ble_eq_true rfl) (by decide +kernel) (st' := [.int (g_X9_doubles N (nI ov))]) ?_ rfl rfl
  refine mz_goP (lay := (mz_LL nT nG)) (M := (mz_MD Mb (e + 1 + 1))) (cA := cA) (D := D) (cl := vwCl) (fun _ h => h.2.2.2) FLW KLW C [(518, .iload 14)] (by decide +kernel) (pc' := 520) (L' := [(14, .int (nI bv)), (13, .int (nI ov)), (0, .ref 131), (1, .int tm), (2, .ref 130), (3, .ref 1130), (4, .ref 0), (5, .int rr)]) (st' := [.int (nI bv), .int (g_X9_doubles N (nI ov))]) rfl ?_
  refine lw_has X ⟨by omega, by omega⟩ (Nat.le_of_ble_eq_true rfl) (by decide +kernel) ?_
  have hcan := mz_hf_doubles (nI ov) hN.2.2.2.1 hT5 hbv
  refine mz_goP (lay := (mz_LL nT nG)) (M := (mz_MD Mb (e + 1 + 1))) (cA := cA) (D := D) (cl := vwCl) (fun _ h => h.2.2.2) FLW KLW C [(523, .istore 15)] (by decide +kernel) (pc' := 525) (L' := [(15, .int (mz_hf (g_X9_doubles N (nI ov)) (nI bv))), (14, .int (nI bv)), (13, .int (nI ov)), (0, .ref 131), (1, .int tm), (2, .ref 130), (3, .ref 1130), (4, .ref 0), (5, .int rr)]) (st' := []) rfl ?_
  refine mz_goP (lay := (mz_LL nT nG)) (M := (mz_MD Mb (e + 1 + 1))) (cA := cA) (D := D) (cl := vwCl) (fun _ h => h.2.2.2) FLW KLW C [(525, .iload 13), (527, .iload 14)] (by decide +kernel) (pc' := 529) (L' := [(15, .int (mz_hf (g_X9_doubles N (nI ov)) (nI bv))), (14, .int (nI bv)), (13, .int (nI ov)), (0, .ref 131), (1, .int tm), (2, .ref 130), (3, .ref 1130), (4, .ref 0), (5, .int rr)]) (st' := [.int (nI bv), .int (nI ov)]) rfl ?_
  refine mz_ieq (off := 17) (tgt := 546) C (by decide +kernel) (by decide) (fun h => ?_) (fun h => ?_)
  · have eo : ov = bv := (nI_eq (by omega) (by omega)).mp h
    subst eo
    rw [mz_cb_self] at hcan
    rw [show mz_hf (g_X9_doubles N (nI ov)) (nI ov) = 0 from hcan]
    refine mz_goP (lay := (mz_LL nT nG)) (M := (mz_MD Mb (e + 1 + 1))) (cA := cA) (D := D) (cl := vwCl) (fun _ h => h.2.2.2) FLW KLW C [(546, .iload 13), (548, .iload 14)] (by decide +kernel) (pc' := 550) (L' := [(15, .int 0), (14, .int (nI ov)), (13, .int (nI ov)), (0, .ref 131), (1, .int tm), (2, .ref 130), (3, .ref 1130), (4, .ref 0), (5, .int rr)]) (st' := [.int (nI ov), .int (nI ov)]) rfl ?_
    refine mz_ieq (off := 21) (tgt := 571) C (by decide +kernel) (by decide) (fun _ => ?_) (fun h => absurd rfl h)
    refine mz_goP (lay := (mz_LL nT nG)) (M := (mz_MD Mb (e + 1 + 1))) (cA := cA) (D := D) (cl := vwCl) (fun _ h => h.2.2.2) FLW KLW C [(571, .iload 15)] (by decide +kernel) (pc' := 573) (L' := [(15, .int 0), (14, .int (nI ov)), (13, .int (nI ov)), (0, .ref 131), (1, .int tm), (2, .ref 130), (3, .ref 1130), (4, .ref 0), (5, .int rr)]) (st' := [.int 0]) rfl ?_
    refine mz_zeq (off := 39) (tgt := 612) C (by decide +kernel) (by decide) (fun _ => ?_) (fun h => absurd rfl h)
    refine mz_sub (L' := [(0, .ref 131), (1, .int tm), (2, .ref 130), (3, .ref 1130), (4, .ref 0), (5, .int rr)]) (by simp) ?_
    exact kk N (e + 1 + 1) k n hN (by omega) (by omega) (by omega)
  · have hne : ¬ bv = ov := fun z => h (by rw [z])
    have hcb := mz_cb_other (N := N) (show ov < 5 by omega) (show bv < 5 by omega) hne
    refine mz_goP (lay := (mz_LL nT nG)) (M := (mz_MD Mb (e + 1 + 1))) (cA := cA) (D := D) (cl := vwCl) (fun _ h => h.2.2.2) FLW KLW C [(532, .iload 15), (534, .aload 4), (536, .iload 13), (538, .iload 14)] (by decide +kernel) (pc' := 540) (L' := [(15, .int (mz_hf (g_X9_doubles N (nI ov)) (nI bv))), (14, .int (nI bv)), (13, .int (nI ov)), (0, .ref 131), (1, .int tm), (2, .ref 130), (3, .ref 1130), (4, .ref 0), (5, .int rr)]) (st' := [.int (nI bv), .int (nI ov), .ref 0, .int (mz_hf (g_X9_doubles N (nI ov)) (nI bv))]) rfl ?_
    by_cases hc : g_X2_canDouble N (nI ov) (nI bv) = 0
    · rw [if_neg (fun z => hcb.mp z hc)] at hcan
      rw [hcan]
      refine lw_help (As := [.ref (κt 0), .int (nI ov), .int (nI bv)]) (rest := [.int 0]) (P' := mz_LP D cA κt κo ρ (mz_LL nT nG) Mb N N (e + 1 + 1)) X (h_isLet_no l X.st D cA κt hF.1.1 N (nI ov) (nI bv) w1 w2 w3 w4 h hc) (fun q hq => (hF.2.2.2.2.1 q hq).1) (fun _ h => h.1) (fun H H' h h1 _ h3 => h.t hF h1 h3) hx_isLet wl_W_74 rfl ⟨Nat.le_of_ble_eq_true rfl, Nat.le_of_ble_eq_true rfl⟩ ⟨by show _ ≤ 797112; omega, by show _ ≤ 6710362; omega⟩ (Nat.le_of_ble_eq_true rfl) (by decide +kernel) (st' := [.int 0, .int 0]) ?_ rfl (by show Value.int (nI bv) :: .int (nI ov) :: .ref (ρ 0) :: _ = _; rw [hF.2.1.1]; rfl)
      refine mz_ine (off := 26) (tgt := 569) C (by decide +kernel) (by decide) (fun h => absurd rfl h) (fun _ => ?_)
      refine mz_goP (lay := (mz_LL nT nG)) (M := (mz_MD Mb (e + 1 + 1))) (cA := cA) (D := D) (cl := vwCl) (fun _ h => h.2.2.2) FLW KLW C [(546, .iload 13), (548, .iload 14)] (by decide +kernel) (pc' := 550) (L' := [(15, .int 0), (14, .int (nI bv)), (13, .int (nI ov)), (0, .ref 131), (1, .int tm), (2, .ref 130), (3, .ref 1130), (4, .ref 0), (5, .int rr)]) (st' := [.int (nI bv), .int (nI ov)]) rfl ?_
      refine mz_ieq (off := 21) (tgt := 571) C (by decide +kernel) (by decide) (fun z => absurd z h) (fun _ => ?_)
      refine mz_goP (lay := (mz_LL nT nG)) (M := (mz_MD Mb (e + 1 + 1))) (cA := cA) (D := D) (cl := vwCl) (fun _ h => h.2.2.2) FLW KLW C [(553, .iload 15), (555, .aload_n 3), (556, .getfield 14), (559, .iload 13), (561, .iload 14)] (by decide +kernel) (pc' := 563) (L' := [(15, .int 0), (14, .int (nI bv)), (13, .int (nI ov)), (0, .ref 131), (1, .int tm), (2, .ref 130), (3, .ref 1130), (4, .ref 0), (5, .int rr)]) (st' := [.int (nI bv), .int (nI ov), .ref 1000, .int 0]) rfl ?_
      refine lw_help (As := [.ref (κo 0), .int (nI ov), .int (nI bv)]) (rest := [.int 0]) (P' := mz_LP D cA κt κo ρ (mz_LL nT nG) Mb N N (e + 1 + 1)) X (h_isLet_no l X.st D cA κo hF.1.2 N (nI ov) (nI bv) w1 w2 w3 w4 h hc) (fun q hq => (hF.2.2.2.2.2.1 q hq).1) (fun _ h => h.2.1) (fun H H' h h1 _ h3 => h.o hF h1 h3) hx_isLet wl_W_74 rfl ⟨Nat.le_of_ble_eq_true rfl, Nat.le_of_ble_eq_true rfl⟩ ⟨by show _ ≤ 797112; omega, by show _ ≤ 6710362; omega⟩ (Nat.le_of_ble_eq_true rfl) (by decide +kernel) (st' := [.int 0, .int 0]) ?_ rfl (by show Value.int (nI bv) :: .int (nI ov) :: .ref (ρ 1000) :: _ = _; rw [hF.2.1.2.1]; rfl)
      refine mz_ieq (off := 5) (tgt := 571) C (by decide +kernel) (by decide) (fun _ => ?_) (fun h => absurd rfl h)
      refine mz_goP (lay := (mz_LL nT nG)) (M := (mz_MD Mb (e + 1 + 1))) (cA := cA) (D := D) (cl := vwCl) (fun _ h => h.2.2.2) FLW KLW C [(571, .iload 15)] (by decide +kernel) (pc' := 573) (L' := [(15, .int 0), (14, .int (nI bv)), (13, .int (nI ov)), (0, .ref 131), (1, .int tm), (2, .ref 130), (3, .ref 1130), (4, .ref 0), (5, .int rr)]) (st' := [.int 0]) rfl ?_
      refine mz_zeq (off := 39) (tgt := 612) C (by decide +kernel) (by decide) (fun _ => ?_) (fun h => absurd rfl h)
      refine mz_sub (L' := [(0, .ref 131), (1, .int tm), (2, .ref 130), (3, .ref 1130), (4, .ref 0), (5, .int rr)]) (by simp) ?_
      exact kk N (e + 1 + 1) _ _ hN (by omega) (by omega) (by omega)
    · rw [if_pos (hcb.mpr hc)] at hcan
      rw [hcan]
      refine lw_help (As := [.ref (κt 0), .int (nI ov), .int (nI bv)]) (rest := [.int 1]) (P' := mz_LP D cA κt κo ρ (mz_LL nT nG) Mb (g_X1_startDouble N (nI ov) (nI bv)) N (e + 1 + 1)) X (h_isLet_ok l X.st D cA κt hF.1.1 N (nI ov) (nI bv) w1 w2 w3 w4 h hc (mz_count_pos _ hN.2.2.2.2.1 hN.2.1)) (fun q hq => (hF.2.2.2.2.1 q hq).1) (fun _ h => h.1) (fun H H' h h1 _ h3 => h.t hF h1 h3) hx_isLet wl_W_74 rfl ⟨Nat.le_of_ble_eq_true rfl, Nat.le_of_ble_eq_true rfl⟩ ⟨by show _ ≤ 797112; omega, by show _ ≤ 6710362; omega⟩ (Nat.le_of_ble_eq_true rfl) (by decide +kernel) (st' := [.int 1, .int 1]) ?_ rfl (by show Value.int (nI bv) :: .int (nI ov) :: .ref (ρ 0) :: _ = _; rw [hF.2.1.1]; rfl)
      refine mz_ine (off := 26) (tgt := 569) C (by decide +kernel) (by decide) (fun h => absurd rfl h) (fun _ => ?_)
      refine mz_goP (lay := (mz_LL nT nG)) (M := (mz_MD Mb (e + 1 + 1))) (cA := cA) (D := D) (cl := vwCl) (fun _ h => h.2.2.2) FLW KLW C [(546, .iload 13), (548, .iload 14)] (by decide +kernel) (pc' := 550) (L' := [(15, .int 1), (14, .int (nI bv)), (13, .int (nI ov)), (0, .ref 131), (1, .int tm), (2, .ref 130), (3, .ref 1130), (4, .ref 0), (5, .int rr)]) (st' := [.int (nI bv), .int (nI ov)]) rfl ?_
      refine mz_ieq (off := 21) (tgt := 571) C (by decide +kernel) (by decide) (fun z => absurd z h) (fun _ => ?_)
      refine mz_goP (lay := (mz_LL nT nG)) (M := (mz_MD Mb (e + 1 + 1))) (cA := cA) (D := D) (cl := vwCl) (fun _ h => h.2.2.2) FLW KLW C [(553, .iload 15), (555, .aload_n 3), (556, .getfield 14), (559, .iload 13), (561, .iload 14)] (by decide +kernel) (pc' := 563) (L' := [(15, .int 1), (14, .int (nI bv)), (13, .int (nI ov)), (0, .ref 131), (1, .int tm), (2, .ref 130), (3, .ref 1130), (4, .ref 0), (5, .int rr)]) (st' := [.int (nI bv), .int (nI ov), .ref 1000, .int 1]) rfl ?_
      refine lw_help (As := [.ref (κo 0), .int (nI ov), .int (nI bv)]) (rest := [.int 1]) (P' := mz_LP D cA κt κo ρ (mz_LL nT nG) Mb (g_X1_startDouble N (nI ov) (nI bv)) (g_X1_startDouble N (nI ov) (nI bv)) (e + 1 + 1)) X (h_isLet_ok l X.st D cA κo hF.1.2 N (nI ov) (nI bv) w1 w2 w3 w4 h hc (mz_count_pos _ hN.2.2.2.2.1 hN.2.1)) (fun q hq => (hF.2.2.2.2.2.1 q hq).1) (fun _ h => h.2.1) (fun H H' h h1 _ h3 => h.o hF h1 h3) hx_isLet wl_W_74 rfl ⟨Nat.le_of_ble_eq_true rfl, Nat.le_of_ble_eq_true rfl⟩ ⟨by show _ ≤ 797112; omega, by show _ ≤ 6710362; omega⟩ (Nat.le_of_ble_eq_true rfl) (by decide +kernel) (st' := [.int 1, .int 1]) ?_ rfl (by show Value.int (nI bv) :: .int (nI ov) :: .ref (ρ 1000) :: _ = _; rw [hF.2.1.2.1]; rfl)
      refine mz_ieq (off := 5) (tgt := 571) C (by decide +kernel) (by decide) (fun _ => ?_) (fun h => absurd rfl h)
      refine mz_goP (lay := (mz_LL nT nG)) (M := (mz_MD Mb (e + 1 + 1))) (cA := cA) (D := D) (cl := vwCl) (fun _ h => h.2.2.2) FLW KLW C [(571, .iload 15)] (by decide +kernel) (pc' := 573) (L' := [(15, .int 1), (14, .int (nI bv)), (13, .int (nI ov)), (0, .ref 131), (1, .int tm), (2, .ref 130), (3, .ref 1130), (4, .ref 0), (5, .int rr)]) (st' := [.int 1]) rfl ?_
      refine mz_zeq (off := 39) (tgt := 612) C (by decide +kernel) (by decide) (fun h => absurd h (by decide)) (fun _ => ?_)
      have hN2 := hN.start (nI ov) (nI bv)
      have w2b : nI ov < (g_X1_startDouble N (nI ov) (nI bv)) 15 0 := by rw [hN2.2.2.2.1]; exact nI_lt hov (by omega)
      have hp := mz_player_start (N := N) (t := ov) (nI bv) (by omega)
      have hw3 : ¬ mz_rg 5 ((g_X1_startDouble N (nI ov) (nI bv)) 37) (nI ov) = -1 := by rw [hp]; intro z; exact nI_pos (n := bv) (by omega) (by rw [z]; decide)
      have hw4 : ((g_X8_busyTracks (g_X1_startDouble N (nI ov) (nI bv))) &&& ((1 <<< (nI ov &&& 31)) ||| (1 <<< ((mz_rg 5 ((g_X1_startDouble N (nI ov) (nI bv)) 37) (nI ov)) &&& 31)))) = 0 := by rw [hp, mz_busy_start]; exact mz_can_free hc
      refine mz_goP (lay := (mz_LL nT nG)) (M := (mz_MD Mb (e + 1 + 1))) (cA := cA) (D := D) (cl := vwCl) (fun _ h => h.2.2.2) FLW KLW C [(576, .aload_n 2), (577, .iconst 2)] (by decide +kernel) (pc' := 578) (L' := [(15, .int 1), (14, .int (nI bv)), (13, .int (nI ov)), (0, .ref 131), (1, .int tm), (2, .ref 130), (3, .ref 1130), (4, .ref 0), (5, .int rr)]) (st' := [.int 2, .ref 130]) rfl ?_
      refine lw_draw X hF rfl (n0 := 2) hLg (by omega) (by decide) (by decide) ⟨by omega, by omega⟩ (Nat.le_of_ble_eq_true rfl) (by decide +kernel) ?_
      refine mz_zne (off := 31) (tgt := 612) C (by decide +kernel) (by decide) (fun _ => ?_) (fun _ => ?_)
      · refine mz_sub (L' := [(0, .ref 131), (1, .int tm), (2, .ref 130), (3, .ref 1130), (4, .ref 0), (5, .int rr)]) (by simp) ?_
        exact kk _ (e + 1 + 1 + 1) _ _ hN2 (by omega) (by omega) (by omega)
      · refine mz_goP (lay := (mz_LL nT nG)) (M := (mz_MD Mb (e + 1 + 1 + 1))) (cA := cA) (D := D) (cl := vwCl) (fun _ h => h.2.2.2) FLW KLW C [(584, .aload 4), (586, .iload 13)] (by decide +kernel) (pc' := 588) (L' := [(15, .int 1), (14, .int (nI bv)), (13, .int (nI ov)), (0, .ref 131), (1, .int tm), (2, .ref 130), (3, .ref 1130), (4, .ref 0), (5, .int rr)]) (st' := [.int (nI ov), .ref 0]) rfl ?_
        refine lw_t X hF [.int (nI ov)] [] (index := 78) (c_part hF.1.1 (nI ov) w1 w2b hw3 hw4) hy_X9_part wl_W_78 rfl rfl rfl ⟨by decide, by decide⟩ ⟨by omega, by omega⟩ (Nat.le_of_ble_eq_true rfl) (by decide +kernel) (st' := [.int (mz_rg 5 ((g_X1_startDouble N (nI ov) (nI bv)) 37) (nI ov))]) ?_ rfl rfl
        refine mz_goP (lay := (mz_LL nT nG)) (M := (mz_MD Mb (e + 1 + 1 + 1))) (cA := cA) (D := D) (cl := vwCl) (fun _ h => h.2.2.2) FLW KLW C [(591, .iload 14)] (by decide +kernel) (pc' := 593) (L' := [(15, .int 1), (14, .int (nI bv)), (13, .int (nI ov)), (0, .ref 131), (1, .int tm), (2, .ref 130), (3, .ref 1130), (4, .ref 0), (5, .int rr)]) (st' := [.int (nI bv), .int (mz_rg 5 ((g_X1_startDouble N (nI ov) (nI bv)) 37) (nI ov))]) rfl ?_
        refine mz_ine (off := 17) (tgt := 610) C (by decide +kernel) (by decide) (fun z => absurd hp z) (fun _ => ?_)
        refine mz_goP (lay := (mz_LL nT nG)) (M := (mz_MD Mb (e + 1 + 1 + 1))) (cA := cA) (D := D) (cl := vwCl) (fun _ h => h.2.2.2) FLW KLW C [(596, .aload_n 3), (597, .getfield 14), (600, .iload 13)] (by decide +kernel) (pc' := 602) (L' := [(15, .int 1), (14, .int (nI bv)), (13, .int (nI ov)), (0, .ref 131), (1, .int tm), (2, .ref 130), (3, .ref 1130), (4, .ref 0), (5, .int rr)]) (st' := [.int (nI ov), .ref 1000]) rfl ?_
        refine lw_o X hF [.int (nI ov)] [] (index := 78) (c_part hF.1.2 (nI ov) w1 w2b hw3 hw4) hy_X9_part wl_W_78 rfl rfl rfl ⟨by decide, by decide⟩ ⟨by omega, by omega⟩ (Nat.le_of_ble_eq_true rfl) (by decide +kernel) (st' := [.int (mz_rg 5 ((g_X1_startDouble N (nI ov) (nI bv)) 37) (nI ov))]) ?_ rfl rfl
        refine mz_goP (lay := (mz_LL nT nG)) (M := (mz_MD Mb (e + 1 + 1 + 1))) (cA := cA) (D := D) (cl := vwCl) (fun _ h => h.2.2.2) FLW KLW C [(605, .iload 14)] (by decide +kernel) (pc' := 607) (L' := [(15, .int 1), (14, .int (nI bv)), (13, .int (nI ov)), (0, .ref 131), (1, .int tm), (2, .ref 130), (3, .ref 1130), (4, .ref 0), (5, .int rr)]) (st' := [.int (nI bv), .int (mz_rg 5 ((g_X1_startDouble N (nI ov) (nI bv)) 37) (nI ov))]) rfl ?_
        refine mz_ieq (off := 5) (tgt := 612) C (by decide +kernel) (by decide) (fun _ => ?_) (fun z => absurd hp z)
        refine mz_sub (L' := [(0, .ref 131), (1, .int tm), (2, .ref 130), (3, .ref 1130), (4, .ref 0), (5, .int rr)]) (by simp) ?_
        exact kk _ (e + 1 + 1 + 1) _ _ (hN2.endD (nI ov)) (by omega) (by omega) (by omega)
set_option maxHeartbeats 4000000 in
theorem lw_rounds (X : mz_LX Γ l D cA b B) (hF : mz_LF κt κo ρ (mz_LL nT nG) B Lg xs) (hLg : Lg < 2 ^ 31) (hkn : k ≤ 300000 ∧ n ≤ 3000000)
    (kk : ∀ N now e2 k2 n2, mz_FI N nT nS nG now → e2 ≤ 10000 → k2 ≤ k + 10 → n2 ≤ n + 60 → mz_W Γ ρ 16 k2 n2 (mz_LP D cA κt κo ρ (mz_LL nT nG) Mb N N e2) 618 [(0, .ref 131), (1, .int tm), (2, .ref 130), (3, .ref 1130), (4, .ref 0)] []) :
    ∀ (q r : Nat) (N : mz_Mem) (now e k' n' : Nat), r + q = 5 → mz_FI N nT nS nG now → now ≤ 20 * r → e ≤ 500 + 100 * r → k' ≤ k + 2 * r → n' ≤ n + 12 * r → mz_W Γ ρ 16 k' n' (mz_LP D cA κt κo ρ (mz_LL nT nG) Mb N N e) 68 [(0, .ref 131), (1, .int tm), (2, .ref 130), (3, .ref 1130), (4, .ref 0), (5, .int (nI r))] [] := by
  intro q
  induction q with
  | zero =>
    intro r N now e k' n' hr hN hnow he hk hn
    have C := X.1
    have er : r = 5 := by omega
    subst er
    refine mz_goP (lay := (mz_LL nT nG)) (M := (mz_MD Mb e)) (cA := cA) (D := D) (cl := vwCl) (fun _ h => h.2.2.2) FLW KLW C [(68, .iload 5), (70, .iconst 5)] (by decide +kernel) (pc' := 71) (L' := [(0, .ref 131), (1, .int tm), (2, .ref 130), (3, .ref 1130), (4, .ref 0), (5, .int (nI 5))]) (st' := [.int 5, .int (nI 5)]) rfl ?_
    refine mz_ige (off := 547) (tgt := 618) C (by decide +kernel) (by decide) (fun _ => ?_) (fun h => absurd (show (5 : Int32) ≤ nI 5 by decide) h)
    refine mz_sub (L' := [(0, .ref 131), (1, .int tm), (2, .ref 130), (3, .ref 1130), (4, .ref 0)]) (by simp) ?_
    exact kk N now e k' n' hN (by omega) (by omega) (by omega)
  | succ q ih =>
    intro r N now e k' n' hr hN hnow he hk hn
    have C := X.1
    have hT3 := hN.1
    have hG12 := hN.2.2.1
    refine mz_goP (lay := (mz_LL nT nG)) (M := (mz_MD Mb e)) (cA := cA) (D := D) (cl := vwCl) (fun _ h => h.2.2.2) FLW KLW C [(68, .iload 5), (70, .iconst 5)] (by decide +kernel) (pc' := 71) (L' := [(0, .ref 131), (1, .int tm), (2, .ref 130), (3, .ref 1130), (4, .ref 0), (5, .int (nI r))]) (st' := [.int 5, .int (nI r)]) rfl ?_
    refine mz_ige (off := 547) (tgt := 618) C (by decide +kernel) (by decide) (fun h => absurd h (nI_ge (a := r) (b := 5) (by omega) (by decide))) (fun _ => ?_)
    refine mz_goP (lay := (mz_LL nT nG)) (M := (mz_MD Mb e)) (cA := cA) (D := D) (cl := vwCl) (fun _ h => h.2.2.2) FLW KLW C [(74, .iconst 1), (75, .aload_n 2), (76, .bipush 20)] (by decide +kernel) (pc' := 78) (L' := [(0, .ref 131), (1, .int tm), (2, .ref 130), (3, .ref 1130), (4, .ref 0), (5, .int (nI r))]) (st' := [.int 20, .ref 130, .int 1]) rfl ?_
    refine lw_draw X hF rfl (n0 := 20) hLg (by omega) (by decide) (by decide) ⟨by omega, by omega⟩ (Nat.le_of_ble_eq_true rfl) (by decide +kernel) ?_
    obtain ⟨mm, em⟩ : ∃ m, m = 1 + mz_dv Lg xs e 20 := ⟨_, rfl⟩
    have hmm : 1 ≤ mm ∧ mm ≤ 20 := by have := (mz_dv_ok Lg xs e (n := 20) (by decide) (by decide)).1; omega
    refine mz_goP (lay := (mz_LL nT nG)) (M := (mz_MD Mb (e + 1))) (cA := cA) (D := D) (cl := vwCl) (fun _ h => h.2.2.2) FLW KLW C [(81, .iadd)] (by decide +kernel) (pc' := 82) (L' := [(0, .ref 131), (1, .int tm), (2, .ref 130), (3, .ref 1130), (4, .ref 0), (5, .int (nI r))]) (st' := [.int (1 + (nI (mz_dv Lg xs e 20)))]) rfl ?_
    rw [show (1 : Int32) + nI (mz_dv Lg xs e 20) = nI mm from (nI_add 1 _).trans (by rw [em])]
    have key : ∀ N2 e2 gg, mz_FI N2 nT nS nG now → (gg < 0 ∨ ∃ gv, gv < nG ∧ gg = nI gv) → e2 ≤ e + 4 → mz_W Γ ρ 16 k' n' (mz_LP D cA κt κo ρ (mz_LL nT nG) Mb N2 N2 (e2)) 293 [(0, .ref 131), (1, .int tm), (2, .ref 130), (3, .ref 1130), (4, .ref 0), (5, .int (nI r)), (6, .int (nI mm)), (7, .long (mz_dig N2)), (9, .int gg)] [] := by
      intro N2 e2 gg hN2 hg he2
      refine lw_ask X hF hLg hN2 (by omega) ⟨by omega, by omega⟩ hg hmm (fun kw hkw => ?_)
      refine mz_sub (L' := [(0, .ref 131), (1, .int tm), (2, .ref 130), (3, .ref 1130), (4, .ref 0), (5, .int (nI r)), (6, .int (nI mm)), (9, .int gg), (10, .int (mz_sum 12 (g_X2_run N2 (nI mm) 50))), (11, .int kw)]) (by simp) ?_
      refine lw_minutes X hF hLg hN2 (by omega) ⟨by omega, by omega⟩ hg hmm (by omega) hkw (fun hN3 => ?_)
      refine mz_sub (L' := [(0, .ref 131), (1, .int tm), (2, .ref 130), (3, .ref 1130), (4, .ref 0), (5, .int (nI r))]) (by simp) ?_
      refine lw_double X hF hLg hN3 (by omega) ⟨by omega, by omega⟩ (fun N4 e4 k4 n4 hN4 he4 hk4 hn4 => ?_)
      refine mz_goP (lay := (mz_LL nT nG)) (M := (mz_MD Mb e4)) (cA := cA) (D := D) (cl := vwCl) (fun _ h => h.2.2.2) FLW KLW C [(612, .iinc 5 1), (615, .goto (-547))] (by decide +kernel) (pc' := 68) (L' := [(5, .int ((nI r) + 1)), (0, .ref 131), (1, .int tm), (2, .ref 130), (3, .ref 1130), (4, .ref 0)]) (st' := []) rfl ?_
      rw [nI_1]
      refine mz_sub (L' := [(0, .ref 131), (1, .int tm), (2, .ref 130), (3, .ref 1130), (4, .ref 0), (5, .int (nI (r + 1)))]) (by simp) ?_
      exact ih (r + 1) N4 (now + mm) e4 k4 n4 (by omega) hN4 (by omega) (by omega) (by omega) (by omega)
    refine mz_goP (lay := (mz_LL nT nG)) (M := (mz_MD Mb (e + 1))) (cA := cA) (D := D) (cl := vwCl) (fun _ h => h.2.2.2) FLW KLW C [(82, .istore 6), (84, .aload 4)] (by decide +kernel) (pc' := 86) (L' := [(6, .int (nI mm)), (0, .ref 131), (1, .int tm), (2, .ref 130), (3, .ref 1130), (4, .ref 0), (5, .int (nI r))]) (st' := [.ref 0]) rfl ?_
    refine lw_t X hF [] [] (index := 26) (c_digest hF.1.1) hy_X9_digest wl_W_26 rfl rfl rfl ⟨by decide, by decide⟩ ⟨by omega, by omega⟩ (Nat.le_of_ble_eq_true rfl) (by decide +kernel) (st' := [.long (mz_dig N)]) ?_ rfl rfl
    refine mz_goP (lay := (mz_LL nT nG)) (M := (mz_MD Mb (e + 1))) (cA := cA) (D := D) (cl := vwCl) (fun _ h => h.2.2.2) FLW KLW C [(89, .lstore 7), (91, .aload_n 2), (92, .getfield 32)] (by decide +kernel) (pc' := 95) (L' := [(7, .long (mz_dig N)), (6, .int (nI mm)), (0, .ref 131), (1, .int tm), (2, .ref 130), (3, .ref 1130), (4, .ref 0), (5, .int (nI r))]) (st' := [.ref 137]) rfl ?_
    refine mz_aalen (fun _ h => h.2.2.2) C (id := 137) rfl (by decide +kernel) ?_
    refine mz_zne (off := 7) (tgt := 103) C (by decide +kernel) (by decide) (fun h => ?_) (fun h => ?_)
    · have hG0 : 0 < nG := Nat.pos_of_ne_zero (fun z => h (by rw [z]; rfl))
      refine mz_goP (lay := (mz_LL nT nG)) (M := (mz_MD Mb (e + 1))) (cA := cA) (D := D) (cl := vwCl) (fun _ h => h.2.2.2) FLW KLW C [(103, .aload_n 2), (104, .aload_n 2), (105, .getfield 32)] (by decide +kernel) (pc' := 108) (L' := [(7, .long (mz_dig N)), (6, .int (nI mm)), (0, .ref 131), (1, .int tm), (2, .ref 130), (3, .ref 1130), (4, .ref 0), (5, .int (nI r))]) (st' := [.ref 137, .ref 130]) rfl ?_
      refine mz_aalen (fun _ h => h.2.2.2) C (id := 137) rfl (by decide +kernel) ?_
      refine lw_draw X hF rfl (n0 := nG) hLg (by omega) hG0 (by omega) ⟨by omega, by omega⟩ (Nat.le_of_ble_eq_true rfl) (by decide +kernel) ?_
      have hgv := (mz_dv_ok Lg xs (e + 1) (n := nG) hG0 (by omega)).1
      generalize mz_dv Lg xs (e + 1) nG = gv at hgv ⊢
      refine mz_goP (lay := (mz_LL nT nG)) (M := (mz_MD Mb (e + 1 + 1))) (cA := cA) (D := D) (cl := vwCl) (fun _ h => h.2.2.2) FLW KLW C [(112, .istore 9), (114, .iload 9)] (by decide +kernel) (pc' := 116) (L' := [(9, .int (nI gv)), (7, .long (mz_dig N)), (6, .int (nI mm)), (0, .ref 131), (1, .int tm), (2, .ref 130), (3, .ref 1130), (4, .ref 0), (5, .int (nI r))]) (st' := [.int (nI gv)]) rfl ?_
      refine mz_zlt (off := 177) (tgt := 293) C (by decide +kernel) (by decide) (fun h => absurd h (nI_pos (by omega))) (fun _ => ?_)
      refine mz_sub (L' := [(0, .ref 131), (1, .int tm), (2, .ref 130), (3, .ref 1130), (4, .ref 0), (5, .int (nI r)), (6, .int (nI mm)), (7, .long (mz_dig N)), (9, .int (nI gv))]) (by simp) ?_
      exact lw_guest X hF hLg hN (by omega) ⟨by omega, by omega⟩ hgv hmm (fun N2 hN2 => key N2 _ _ hN2 (Or.inr ⟨gv, hgv, rfl⟩) (by omega))
    · refine mz_goP (lay := (mz_LL nT nG)) (M := (mz_MD Mb (e + 1))) (cA := cA) (D := D) (cl := vwCl) (fun _ h => h.2.2.2) FLW KLW C [(99, .iconst (-1)), (100, .goto 12), (112, .istore 9), (114, .iload 9)] (by decide +kernel) (pc' := 116) (L' := [(9, .int (-1)), (7, .long (mz_dig N)), (6, .int (nI mm)), (0, .ref 131), (1, .int tm), (2, .ref 130), (3, .ref 1130), (4, .ref 0), (5, .int (nI r))]) (st' := [.int (-1)]) rfl ?_
      refine mz_zlt (off := 177) (tgt := 293) C (by decide +kernel) (by decide) (fun _ => ?_) (fun h => absurd (by decide) h)
      refine mz_sub (L' := [(0, .ref 131), (1, .int tm), (2, .ref 130), (3, .ref 1130), (4, .ref 0), (5, .int (nI r)), (6, .int (nI mm)), (7, .long (mz_dig N)), (9, .int (-1))]) (by simp) ?_
      exact key N _ _ hN (Or.inl (by decide)) (by omega)
end MZRD
