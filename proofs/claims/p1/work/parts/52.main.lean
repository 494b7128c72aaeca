theorem law_sw : decode code 40 = .ok (.tableswitch 1759 0 25 #[120, 176, 256, 312, 368, 472, 528, 608, 664, 732, 788, 856, 912, 980, 1060, 1128, 1196, 1264, 1332, 1400, 1456, 1497, 1565, 1633, 1689, 1745], 120) := by decide +kernel
theorem mz_off25 {v : Int32} (w0 : ¬ v = 0) (w1 : ¬ v = 1) (w2 : ¬ v = 2) (w3 : ¬ v = 3) (w4 : ¬ v = 4) (w5 : ¬ v = 5) (w6 : ¬ v = 6) (w7 : ¬ v = 7) (w8 : ¬ v = 8) (w9 : ¬ v = 9) (w10 : ¬ v = 10) (w11 : ¬ v = 11) (w12 : ¬ v = 12) (w13 : ¬ v = 13) (w14 : ¬ v = 14) (w15 : ¬ v = 15) (w16 : ¬ v = 16) (w17 : ¬ v = 17) (w18 : ¬ v = 18) (w19 : ¬ v = 19) (w20 : ¬ v = 20) (w21 : ¬ v = 21) (w22 : ¬ v = 22) (w23 : ¬ v = 23) (w24 : ¬ v = 24) (w25 : ¬ v = 25) : v.toInt < 0 ∨ 25 < v.toInt := by
  have e : ∀ n : Nat, n < 26 → v.toInt = (n : Int) → v = Int32.ofNat n := fun n hn h => Int32.toInt_inj.mp (h.trans (nI_toInt (n := n) (by omega)).symm)
  rcases Int.lt_or_le v.toInt 0 with h | h
  · exact Or.inl h
  rcases Int.lt_or_le 25 v.toInt with h1 | h1
  · exact Or.inr h1
  exfalso
  have hn : v.toInt.toNat < 26 := by omega
  have e0 := e v.toInt.toNat hn (by omega)
  generalize v.toInt.toNat = n at hn e0
  rcases (show n = 0 ∨ n = 1 ∨ n = 2 ∨ n = 3 ∨ n = 4 ∨ n = 5 ∨ n = 6 ∨ n = 7 ∨ n = 8 ∨ n = 9 ∨ n = 10 ∨ n = 11 ∨ n = 12 ∨ n = 13 ∨ n = 14 ∨ n = 15 ∨ n = 16 ∨ n = 17 ∨ n = 18 ∨ n = 19 ∨ n = 20 ∨ n = 21 ∨ n = 22 ∨ n = 23 ∨ n = 24 ∨ n = 25 by omega) with rfl | rfl | rfl | rfl | rfl | rfl | rfl | rfl | rfl | rfl | rfl | rfl | rfl | rfl | rfl | rfl | rfl | rfl | rfl | rfl | rfl | rfl | rfl | rfl | rfl | rfl
  · exact w0 e0
  · exact w1 e0
  · exact w2 e0
  · exact w3 e0
  · exact w4 e0
  · exact w5 e0
  · exact w6 e0
  · exact w7 e0
  · exact w8 e0
  · exact w9 e0
  · exact w10 e0
  · exact w11 e0
  · exact w12 e0
  · exact w13 e0
  · exact w14 e0
  · exact w15 e0
  · exact w16 e0
  · exact w17 e0
  · exact w18 e0
  · exact w19 e0
  · exact w20 e0
  · exact w21 e0
  · exact w22 e0
  · exact w23 e0
  · exact w24 e0
  · exact w25 e0
theorem law_head {Γ : mz_G} {l : Launch} {D : va_G} {cA : Nat → ClassId} {cL : ClassId} {b B : Nat} {xs : Nat → Int32} {k n : Nat} (hl0 : l.stackTraces = false) (X : mz_LX Γ l D cA cL b B 6 xs) (hk : k ≤ 1000) (hn : n ≤ 10000) : mz_W Γ (mz_lr0 b B) 9 k n (mz_P1 D cA cL B) 23 [(4, .int 0), (3, .ref 197), (2, .ref 126), (1, .ref 0), (0, .ref 1000)] [] := by
  have C := X.1
  refine mz_goP (lay := (fun _ => none)) (M := mz_Z) (cA := cA) (D := D) (cl := vwCl) (fun H h => mz_Hnone) FLL KLL C [(23, .iload 4), (25, .aload_n 0)] (by decide +kernel) (pc' := 26) (L' := [(4, .int 0), (3, .ref 197), (2, .ref 126), (1, .ref 0), (0, .ref 1000)]) (st' := [.ref 1000, .int 0]) rfl ?_
  refine mz_slen X rfl (by decide +kernel) ?_
  refine mz_goP (lay := (fun _ => none)) (M := mz_Z) (cA := cA) (D := D) (cl := vwCl) (fun H h => mz_Hnone) FLL KLL C [(27, .bipush 6), (29, .isub)] (by decide +kernel) (pc' := 30) (L' := [(4, .int 0), (3, .ref 197), (2, .ref 126), (1, .ref 0), (0, .ref 1000)]) (st' := [.int (6 - 6), .int 0]) rfl ?_
  refine mz_igt (off := 1775) (tgt := 1805) C (by decide +kernel) (by decide) (fun q => absurd q (by decide)) (fun _ => ?_)
  refine mz_goP (lay := (fun _ => none)) (M := mz_Z) (cA := cA) (D := D) (cl := vwCl) (fun H h => mz_Hnone) FLL KLL C [(33, .aload_n 0), (34, .iload 4)] (by decide +kernel) (pc' := 36) (L' := [(4, .int 0), (3, .ref 197), (2, .ref 126), (1, .ref 0), (0, .ref 1000)]) (st' := [.int 0, .ref 1000]) rfl ?_
  refine mz_sld (j := 0) X rfl (by decide) (by unfold vp_in; decide) (by decide +kernel) ?_
  refine mz_goP (lay := (fun _ => none)) (M := mz_Z) (cA := cA) (D := D) (cl := vwCl) (fun H h => mz_Hnone) FLL KLL C [(37, .bipush 31), (39, .iand)] (by decide +kernel) (pc' := 40) (L' := [(4, .int 0), (3, .ref 197), (2, .ref 126), (1, .ref 0), (0, .ref 1000)]) (st' := [.int ((xs 0) &&& 31)]) rfl ?_
  generalize hv : (xs 0) &&& 31 = v
  by_cases h0 : v = 0
  · exact mz_tin (q := 0) (v := 0) C law_sw h0 (by decide) (by decide) rfl rfl (law_room hl0 X hk hn)
  by_cases h1 : v = 1
  · exact mz_tin (q := 1) (v := 1) C law_sw h1 (by decide) (by decide) rfl rfl (law_door hl0 X hk hn)
  by_cases h2 : v = 2
  · exact mz_tin (q := 2) (v := 2) C law_sw h2 (by decide) (by decide) rfl rfl (law_track hl0 X hk hn)
  by_cases h3 : v = 3
  · exact mz_tin (q := 3) (v := 3) C law_sw h3 (by decide) (by decide) rfl rfl (law_prop hl0 X hk hn)
  by_cases h4 : v = 4
  · exact mz_tin (q := 4) (v := 4) C law_sw h4 (by decide) (by decide) rfl rfl (law_scene hl0 X hk hn)
  by_cases h5 : v = 5
  · exact mz_tin (q := 5) (v := 5) C law_sw h5 (by decide) (by decide) rfl rfl (law_guest hl0 X hk hn)
  by_cases h6 : v = 6
  · exact mz_tin (q := 6) (v := 6) C law_sw h6 (by decide) (by decide) rfl rfl (law_habit hl0 X hk hn)
  by_cases h7 : v = 7
  · exact mz_tin (q := 7) (v := 7) C law_sw h7 (by decide) (by decide) rfl rfl (law_pass hl0 X hk hn)
  by_cases h8 : v = 8
  · exact mz_tin (q := 8) (v := 8) C law_sw h8 (by decide) (by decide) rfl rfl (law_take hl0 X hk hn)
  by_cases h9 : v = 9
  · exact mz_tin (q := 9) (v := 9) C law_sw h9 (by decide) (by decide) rfl rfl (law_leave hl0 X hk hn)
  by_cases h10 : v = 10
  · exact mz_tin (q := 10) (v := 10) C law_sw h10 (by decide) (by decide) rfl rfl (law_play hl0 X hk hn)
  by_cases h11 : v = 11
  · exact mz_tin (q := 11) (v := 11) C law_sw h11 (by decide) (by decide) rfl rfl (law_part hl0 X hk hn)
  by_cases h12 : v = 12
  · exact mz_tin (q := 12) (v := 12) C law_sw h12 (by decide) (by decide) rfl rfl (law_ofRoom hl0 X hk hn)
  by_cases h13 : v = 13
  · exact mz_tin (q := 13) (v := 13) C law_sw h13 (by decide) (by decide) rfl rfl (law_way hl0 X hk hn)
  by_cases h14 : v = 14
  · exact mz_tin (q := 14) (v := 14) C law_sw h14 (by decide) (by decide) rfl rfl (law_ofTrack hl0 X hk hn)
  by_cases h15 : v = 15
  · exact mz_tin (q := 15) (v := 15) C law_sw h15 (by decide) (by decide) rfl rfl (law_ofScene hl0 X hk hn)
  by_cases h16 : v = 16
  · exact mz_tin (q := 16) (v := 16) C law_sw h16 (by decide) (by decide) rfl rfl (law_ofGuest hl0 X hk hn)
  by_cases h17 : v = 17
  · exact mz_tin (q := 17) (v := 17) C law_sw h17 (by decide) (by decide) rfl rfl (law_ofProp hl0 X hk hn)
  by_cases h18 : v = 18
  · exact mz_tin (q := 18) (v := 18) C law_sw h18 (by decide) (by decide) rfl rfl (law_seen hl0 X hk hn)
  by_cases h19 : v = 19
  · exact mz_tin (q := 19) (v := 19) C law_sw h19 (by decide) (by decide) rfl rfl (law_many hl0 X hk hn)
  by_cases h20 : v = 20
  · exact mz_tin (q := 20) (v := 20) C law_sw h20 (by decide) (by decide) rfl rfl (law_meanKnown hl0 X hk hn)
  by_cases h21 : v = 21
  · exact mz_tin (q := 21) (v := 21) C law_sw h21 (by decide) (by decide) rfl rfl (law_wouldKnow hl0 X hk hn)
  by_cases h22 : v = 22
  · exact mz_tin (q := 22) (v := 22) C law_sw h22 (by decide) (by decide) rfl rfl (law_bestHabit hl0 X hk hn)
  by_cases h23 : v = 23
  · exact mz_tin (q := 23) (v := 23) C law_sw h23 (by decide) (by decide) rfl rfl (law_wouldCut hl0 X hk hn)
  by_cases h24 : v = 24
  · exact mz_tin (q := 24) (v := 24) C law_sw h24 (by decide) (by decide) rfl rfl (law_doubles hl0 X hk hn)
  by_cases h25 : v = 25
  · exact mz_tin (q := 25) (v := 25) C law_sw h25 (by decide) (by decide) rfl rfl (law_digest hl0 X hk hn)
  refine mz_tout (tgt := 1799) C law_sw (mz_off25 h0 h1 h2 h3 h4 h5 h6 h7 h8 h9 h10 h11 h12 h13 h14 h15 h16 h17 h18 h19 h20 h21 h22 h23 h24 h25) rfl ?_
  refine mz_sub (L' := [(0, .ref 1000), (4, .int 0)]) (fun q h => by simp at h ⊢; rcases h with rfl | rfl <;> simp) ?_
  exact law_tail X (by omega) (by omega)
theorem mz_few {n : Nat} (h : n < 6) : (Int32.ofNat n) - 6 < 0 := by
  rcases (show n = 0 ∨ n = 1 ∨ n = 2 ∨ n = 3 ∨ n = 4 ∨ n = 5 by omega) with rfl | rfl | rfl | rfl | rfl | rfl <;> decide
theorem law_short {Γ : mz_G} {l : Launch} {D : va_G} {cA : Nat → ClassId} {cL : ClassId} {b B Lg : Nat} {xs : Nat → Int32} {k n : Nat} {P : Heap → Prop} (X : mz_LX Γ l D cA cL b B Lg xs) (hL : Lg < 6) (hk : k ≤ 1000) (hn : n ≤ 10000) : mz_W Γ (mz_lr0 b B) 9 k n P 23 [(4, .int 0), (3, .ref 197), (2, .ref 126), (1, .ref 0), (0, .ref 1000)] [] := by
  have C := X.1
  refine mz_goP (lay := (fun _ => none)) (M := mz_Z) (cA := cA) (D := D) (cl := vwCl) (fun H h => mz_Hnone) FLL KLL C [(23, .iload 4), (25, .aload_n 0)] (by decide +kernel) (pc' := 26) (L' := [(4, .int 0), (3, .ref 197), (2, .ref 126), (1, .ref 0), (0, .ref 1000)]) (st' := [.ref 1000, .int 0]) rfl ?_
  refine mz_slenG X rfl (by decide +kernel) ?_
  refine mz_goP (lay := (fun _ => none)) (M := mz_Z) (cA := cA) (D := D) (cl := vwCl) (fun H h => mz_Hnone) FLL KLL C [(27, .bipush 6), (29, .isub)] (by decide +kernel) (pc' := 30) (L' := [(4, .int 0), (3, .ref 197), (2, .ref 126), (1, .ref 0), (0, .ref 1000)]) (st' := [.int ((Int32.ofNat Lg) - 6), .int 0]) rfl ?_
  refine mz_igt (off := 1775) (tgt := 1805) C (by decide +kernel) (by decide) (fun _ => ?_) (fun q => absurd (mz_few hL) q)
  refine mz_goP (lay := (fun _ => none)) (M := mz_Z) (cA := cA) (D := D) (cl := vwCl) (fun H h => mz_Hnone) FLL KLL C [(1805, .iconst 1)] (by decide +kernel) (pc' := 1806) (L' := [(4, .int 0), (3, .ref 197), (2, .ref 126), (1, .ref 0), (0, .ref 1000)]) (st' := [.int 1]) rfl ?_
  exact mz_lend X (by omega) (by omega) (by decide +kernel)
theorem mz_newlong {Γ : mz_G} {l : Launch} {D : va_G} {cA : Nat → ClassId} {cL : ClassId} {b B Lg : Nat} {xs : Nat → Int32} {k n : Nat} {pc : Nat} {P P' : Heap → Prop} {L : List (Nat × Value)} {st : List Value} (X : mz_LX Γ l D cA cL b B Lg xs) (hz : ∀ H : Heap, P H → H.size = B + 197) (hP' : ∀ H H1 : Heap, P H → mz_out cL (B + 197) H1 → H1.size = B + 198 → (∀ q, q < H.size → H1[q]? = H[q]?) → P' H1) (hcl : Γ.2.2.2.2.1.vm.findClass ("[" ++ FieldType.long.toString) = some cL)
    (hc : k + 1 ≤ room_1.cells) (hs : n + 1 ≤ room_1.slots) (hd : decode code pc = .ok (.newarray .long, 2)) (kk : mz_W Γ (mz_lr0 b B) 9 (k + 1) (n + 1) P' (pc + 2) L (.ref 197 :: st)) : mz_W Γ (mz_lr0 b B) 9 k n P pc L (.int 1 :: st) := by
  obtain ⟨p, l', e, R, s, m, args, below, meth, c, H0, A, Q⟩ := Γ
  obtain ⟨⟨rfl, hx, hb, hml, hown, hts, hK, -, -, rfl⟩, -, rfl, -⟩ := X
  refine fun H ls locs hPq hS hl => ?_
  refine va_newaK hx hb (atype := .long) (hts _ (mz_in 1585 (by decide +kernel) (by decide +kernel))) rfl hd rfl (by decide) (N := 1) (by decide) (by decide) hc hs (hz H hPq) fun H1 cB e1 z1 o1 hAr hNm => ?_
  have hcB : cB = cL := Option.some.inj (hNm.symm.trans hcl)
  subst hcB
  have hzz := hz H hPq
  exact kk H1 ls locs (hP' H H1 hPq (by unfold mz_out; rw [e1]; rfl) (by rw [z1]) (by rw [hzz]; exact o1)) ⟨Nat.le_trans hS.1 (by rw [z1, hzz]; omega), fun x h1 h2 => (o1 x (by rw [← hzz]; exact Nat.lt_of_lt_of_le h1 hS.1)).trans (hS.2.1 x h1 h2), hS.2.2⟩ hl
set_option maxHeartbeats 4000000 in
theorem law_main {Γ : mz_G} {l : Launch} {D : va_G} {cA : Nat → ClassId} {cL : ClassId} {b B Lg : Nat} {xs : Nat → Int32} (hl0 : l.stackTraces = false) (X : mz_LX Γ l D cA cL b B Lg xs) (hL : Lg ≤ 6) (hcl : Γ.2.2.2.2.1.vm.findClass ("[" ++ FieldType.long.toString) = some cL) : mz_W Γ (mz_lr0 b B) 9 0 0 (fun H => H.size = B) 0 [(0, .ref 1000)] [] := by
  have C := X.1
  refine mz_newP (cA := cA) (lay := fun _ => none) (M := mz_Z) (index := 8) (fun H h => mz_Hnone) (nn := 0) (ci := 9) (N := 4) (T := TX9) (fs := [some none, some none, some none, some none]) (fun H h => h) (P' := mz_S D vwCl cA B mz_k0 1 mz_Z) (fun H H1 hp h e hk2 => ⟨fun k sh hk3 => ?_, by rw [e, show H.size = B from hp]⟩) C rfl iu_X9 tyX9 tyX9_ok (mz_in 81 (by decide +kernel) (by decide +kernel)) (mz_in 82 (by decide +kernel) (by decide +kernel)) (mz_in 59 (by decide +kernel) (by decide +kernel)) (fun j hj => by have : j < 4 := hj; rcases (show j = 0 ∨ j = 1 ∨ j = 2 ∨ j = 3 by omega) with rfl | rfl | rfl | rfl <;> rfl) (Nat.le_of_ble_eq_true rfl) (Nat.le_of_ble_eq_true rfl) (by decide +kernel) ?_
  · by_cases e0 : k = 0
    · subst e0
      rw [show mz_k0 0 = some (mz_o 9 [some none, some none, some none, some none]) from rfl] at hk3
      cases hk3
      exact h 0 _ (mz_ls_eq _ _ _)
    · have := mz_lf_lt hk3
      simp at this
      exact absurd this e0
  refine mz_goP (lay := (fun _ => none)) (M := mz_Z) (cA := cA) (D := D) (cl := vwCl) (fun H h => mz_Hnone) FLL KLL C [(3, .dup)] (by decide +kernel) (pc' := 4) (L' := [(0, .ref 1000)]) (st' := [.ref 0, .ref 0]) rfl ?_
  refine mz_lnew (As := []) (rest := [.ref 0]) (index := 91) (x := B) X (c_new l D cA B) (fun q h => h) (fun H h => h) (P' := mz_S D vwCl cA B mz_lay2 126 mz_m7) (fun H H' hp hq hz hk2 => hq) wl_L_91 hn_X9_init rfl rfl ⟨Nat.le_of_ble_eq_true rfl, Nat.le_of_ble_eq_true rfl⟩ ⟨Nat.le_of_ble_eq_true rfl, Nat.le_of_ble_eq_true rfl⟩ (Nat.le_of_ble_eq_true rfl) (by decide +kernel) ?_ rfl
  refine mz_goP (lay := (fun _ => none)) (M := mz_Z) (cA := cA) (D := D) (cl := vwCl) (fun H h => mz_Hnone) FLL KLL C [(7, .astore_n 1)] (by decide +kernel) (pc' := 8) (L' := [(1, .ref 0), (0, .ref 1000)]) (st' := []) rfl ?_
  refine mz_newP (cA := cA) (lay := fun _ => none) (M := mz_Z) (index := 92) (fun H h => mz_Hnone) (nn := 126) (ci := 11) (N := 2) (T := TX11) (fs := [none, some none]) (fun H h => h.2) (P' := (fun H => mz_H D vwCl cA (fun k => B + k) mz_lay2 mz_m7 H ∧ mz_S D vwCl cA (B + 126) mz_r0 1 mz_Z H)) (fun H H1 hp h e hk2 => ⟨fun k sh hs => (hp.1 k sh hs).kept (hk2 _ (hp.1 k sh hs).lt), fun k sh hk3 => ?_, by rw [e, hp.2]⟩) C rfl iu_X11 tyX11 tyX11_ok (mz_in 1188 (by decide +kernel) (by decide +kernel)) (mz_in 1189 (by decide +kernel) (by decide +kernel)) (mz_in 70 (by decide +kernel) (by decide +kernel)) (fun j hj => by have : j < 2 := hj; rcases (show j = 0 ∨ j = 1 by omega) with rfl | rfl <;> rfl) (Nat.le_of_ble_eq_true rfl) (Nat.le_of_ble_eq_true rfl) (by decide +kernel) ?_
  · by_cases e0 : k = 0
    · subst e0
      rw [show mz_r0 0 = some (mz_o 11 [none, some none]) from rfl] at hk3
      cases hk3
      exact h 126 _ (mz_ls_eq _ _ _)
    · rw [show mz_r0 k = none by unfold mz_r0; rw [mz_ls_ne e0]] at hk3
      cases hk3
  refine mz_goP (lay := (fun _ => none)) (M := mz_Z) (cA := cA) (D := D) (cl := vwCl) (fun H h => mz_Hnone) FLL KLL C [(11, .dup)] (by decide +kernel) (pc' := 12) (L' := [(1, .ref 0), (0, .ref 1000)]) (st' := [.ref 126, .ref 126]) rfl ?_
  refine mz_lnew (As := []) (rest := [.ref 126]) (index := 94) (x := B + 126) X (r_Model l D cA (B + 126)) (fun q h => by omega) (fun H h => h.2) (P' := (fun H => mz_H D vwCl cA (fun k => B + k) mz_lay2 mz_m7 H ∧ mz_H D vwCl cA (fun k => B + 126 + k) mz_layR mz_Z H ∧ H.size = B + 197)) (fun H H' hp hq hz hk2 => ⟨mz_keepA hp.1 (fun k sh hs => by have := mz_lay2_lt hs; show ¬ B + 126 ≤ B + k; omega) hk2, hq.1, by rw [hq.2]⟩) wl_L_94 hn_X11_init rfl rfl ⟨Nat.le_of_ble_eq_true rfl, Nat.le_of_ble_eq_true rfl⟩ ⟨Nat.le_of_ble_eq_true rfl, Nat.le_of_ble_eq_true rfl⟩ (Nat.le_of_ble_eq_true rfl) (by decide +kernel) ?_ rfl
  refine mz_goP (lay := (fun _ => none)) (M := mz_Z) (cA := cA) (D := D) (cl := vwCl) (fun H h => mz_Hnone) FLL KLL C [(15, .astore_n 2), (16, .iconst 1)] (by decide +kernel) (pc' := 17) (L' := [(2, .ref 126), (1, .ref 0), (0, .ref 1000)]) (st' := [.int 1]) rfl ?_
  refine mz_newlong X (fun H h => h.2.2) (P' := mz_P1 D cA cL B) (fun H H1 hp h e hk2 => ⟨fun k sh hs => (hp.1 k sh hs).kept (hk2 _ (hp.1 k sh hs).lt), fun k sh hs => (hp.2.1 k sh hs).kept (hk2 _ (hp.2.1 k sh hs).lt), h, by rw [e]; exact Nat.le_refl _⟩) hcl (Nat.le_of_ble_eq_true rfl) (Nat.le_of_ble_eq_true rfl) (by decide +kernel) ?_
  refine mz_goP (lay := (fun _ => none)) (M := mz_Z) (cA := cA) (D := D) (cl := vwCl) (fun H h => mz_Hnone) FLL KLL C [(19, .astore_n 3), (20, .iconst 0), (21, .istore 4)] (by decide +kernel) (pc' := 23) (L' := [(4, .int 0), (3, .ref 197), (2, .ref 126), (1, .ref 0), (0, .ref 1000)]) (st' := []) rfl ?_
  rcases Nat.lt_or_ge Lg 6 with h | h
  · exact law_short X h (by decide) (by decide)
  · have e6 : Lg = 6 := by omega
    subst e6
    exact law_head hl0 X (by decide) (by decide)
