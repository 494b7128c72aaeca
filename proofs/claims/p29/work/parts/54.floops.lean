/-! found, loop by loop -/
section MZFL
variable {Γ : mz_G} {l : Launch} {D : va_G} {cA : Nat → ClassId} {κ : Nat → Nat} {lo Lg : Nat} {xs : Nat → Int32}
set_option maxHeartbeats 4000000 in
theorem fw_loop1 (X : mz_FC Γ l D cA κ lo) (hκ : mz_I κ mz_lay2) (hLg : Lg < 2 ^ 31) (many : Nat) (hm0 : 3 ≤ many) (hm : many ≤ 7) (x9 : Int32) : ∀ (r i : Nat) (σ : mz_FS) (k n : Nat), i + r = many → mz_V1 i σ → k + 3 * r ≤ 30 → n + 36 * r ≤ 300 →
    (∀ (k' n' : Nat), k' ≤ 30 → n' ≤ 300 → mz_V1 many (mz_F1 Lg xs r σ) → mz_W Γ κ 6 k' n' (mz_T D cA κ lo Lg xs (mz_F1 Lg xs r σ).1 (mz_F1 Lg xs r σ).2.1 (mz_F1 Lg xs r σ).2.2) 81 [(0, .ref 130), (1, .int x9), (2, .int (nI many))] []) →
    mz_W Γ κ 6 k n (mz_T D cA κ lo Lg xs σ.1 σ.2.1 σ.2.2) 10 [(0, .ref 130), (1, .int x9), (2, .int (nI many)), (3, .int (nI i))] [] := by
  have C := X.1
  intro r
  induction r with
  | zero =>
    intro i σ k n hi hV hk hn ex
    have hi : i = many := by omega
    refine mz_goP (lay := (fun _ => none)) (M := mz_Z) (cA := cA) (D := D) (cl := vwCl) (fun _ _ => mz_Hno) FLX10 KLX10 C [(10, .iload_n 3), (11, .iload_n 2)] (by decide +kernel) (pc' := 12) (L' := [(0, .ref 130), (1, .int x9), (2, .int (nI many)), (3, .int (nI i))]) (st' := [.int (nI many), .int (nI i)]) rfl ?_
    refine mz_ige (off := 69) (tgt := 81) C (by decide +kernel) (by decide) (fun _ => ?_) (fun h => absurd (nI_le (a := many) (b := i) (by omega) (by omega)) h)
    exact mz_sub (L' := [(0, .ref 130), (1, .int x9), (2, .int (nI many))]) (by simp) (ex k n (by omega) (by omega) (by rw [hi] at hV; exact hV))
  | succ r ih =>
    intro i σ k n hi hV hk hn ex
    obtain ⟨N, d, sz⟩ := σ
    show mz_W Γ κ 6 k n (mz_T D cA κ lo Lg xs N d sz) 10 [(0, .ref 130), (1, .int x9), (2, .int (nI many)), (3, .int (nI i))] []
    obtain ⟨v1, v2, v3, v4, v5⟩ := hV
    replace v1 : sz 3 = i := v1
    replace v2 : sz 4 ≤ i := v2
    replace v3 : ∀ j, 5 ≤ j → sz j = 0 := v3
    replace v4 : d ≤ 100 + 4 * i := v4
    replace v5 : ∀ a b, a < 8 → b < 8 → (i ≤ a ∨ i ≤ b) → N 8 (a * 8 + b) = -1 := v5
    have nxt : ∀ (σ' : mz_FS) (k' n' : Nat), mz_S1 Lg xs (N, d, sz) = σ' → mz_V1 (i + 1) σ' → k' ≤ k + 3 → n' ≤ n + 36 → mz_W Γ κ 6 k' n' (mz_T D cA κ lo Lg xs σ'.1 σ'.2.1 σ'.2.2) 75 [(0, .ref 130), (1, .int x9), (2, .int (nI many)), (3, .int (nI i))] [] := by
      intro σ' k' n' e hV' h1 h2
      refine mz_goP (lay := (fun _ => none)) (M := mz_Z) (cA := cA) (D := D) (cl := vwCl) (fun _ _ => mz_Hno) FLX10 KLX10 C [(75, .iinc 3 1), (78, .goto (-68))] (by decide +kernel) (pc' := 10) (L' := [(3, .int ((nI i) + 1)), (0, .ref 130), (1, .int x9), (2, .int (nI many))]) (st' := []) rfl ?_
      rw [nI_1]
      have e2 : mz_F1 Lg xs (r + 1) (N, d, sz) = mz_F1 Lg xs r σ' := by rw [← e]; rfl
      rw [e2] at ex
      exact mz_sub (L' := [(0, .ref 130), (1, .int x9), (2, .int (nI many)), (3, .int (nI (i + 1)))]) (by simp) (ih (i + 1) σ' k' n' (by omega) hV' (by omega) (by omega) ex)
    have hif : 0 < (if mz_dv Lg xs d 2 = 0 then 4 else 15) ∧ (if mz_dv Lg xs d 2 = 0 then 4 else 15) ≤ 15 := by split <;> omega
    have hcap := (mz_dv_ok Lg xs (d + 1) hif.1 (by omega)).1
    have V0 : ∀ e, e ≤ d + 4 → mz_V1 (i + 1) ((g_X4_addRoom N (nI (1 + mz_dv Lg xs (d + 1) (if mz_dv Lg xs d 2 = 0 then 4 else 15)))).2, e, mz_sz1 sz 3) := fun e he => ⟨by show sz 3 + 1 = i + 1; rw [v1], by show sz 4 ≤ i + 1; omega, fun j hj => (mz_sz1_ne (by omega)).trans (v3 j hj), by show e ≤ 100 + 4 * (i + 1); omega, fun a b ha hb h => v5 a b ha hb (by omega)⟩
    have stp : mz_W Γ κ 6 k n (mz_T D cA κ lo Lg xs N (d + 1) sz) 32 [(0, .ref 130), (1, .int x9), (2, .int (nI many)), (3, .int (nI i))] [.int (nI (if mz_dv Lg xs d 2 = 0 then 4 else 15)), .ref 130, .int 1, .ref 130] := by
      refine fw_draw X (n0 := (if mz_dv Lg xs d 2 = 0 then 4 else 15)) (d := d + 1) hif.1 (by omega) hLg (by omega) (by omega) (by omega) (Nat.le_of_ble_eq_true rfl) (by decide +kernel) ?_
      refine mz_goP (lay := (fun _ => none)) (M := mz_Z) (cA := cA) (D := D) (cl := vwCl) (fun _ _ => mz_Hno) FLX10 KLX10 C [(35, .iadd)] (by decide +kernel) (pc' := 36) (L' := [(0, .ref 130), (1, .int x9), (2, .int (nI many)), (3, .int (nI i))]) (st' := [.int (1 + (nI (mz_dv Lg xs (d + 1) (if mz_dv Lg xs d 2 = 0 then 4 else 15)))), .ref 130]) rfl ?_
      rw [show (1 : Int32) + nI (mz_dv Lg xs (d + 1) (if mz_dv Lg xs d 2 = 0 then 4 else 15)) = nI (1 + (mz_dv Lg xs (d + 1) (if mz_dv Lg xs d 2 = 0 then 4 else 15))) from nI_add 1 _]
      refine fw_room X hκ (a := 1 + mz_dv Lg xs (d + 1) (if mz_dv Lg xs d 2 = 0 then 4 else 15)) ⟨by omega, by omega⟩ (by omega) (by omega) (by omega) (Nat.le_of_ble_eq_true rfl) (by decide +kernel) ?_
      refine mz_zeq (off := 34) (tgt := 73) C (by decide +kernel) (by decide) (fun h => absurd h (by decide)) (fun _ => ?_)
      refine mz_goP (lay := (fun _ => none)) (M := mz_Z) (cA := cA) (D := D) (cl := vwCl) (fun _ _ => mz_Hno) FLX10 KLX10 C [(42, .iload_n 3)] (by decide +kernel) (pc' := 43) (L' := [(0, .ref 130), (1, .int x9), (2, .int (nI many)), (3, .int (nI i))]) (st' := [.int (nI i)]) rfl ?_
      refine mz_zle (off := 32) (tgt := 75) C (by decide +kernel) (by decide) (fun h => ?_) (fun h => ?_)
      · have h0 : i = 0 := Classical.byContradiction fun z => nI_nle (n := i) (by omega) (by omega) h
        exact nxt _ _ _ (by unfold mz_S1; exact if_pos (v1.trans h0)) (V0 _ (by omega)) (by omega) (by omega)
      · have h0 : ¬ i = 0 := fun z => h (by rw [z]; decide)
        refine mz_goP (lay := (fun _ => none)) (M := mz_Z) (cA := cA) (D := D) (cl := vwCl) (fun _ _ => mz_Hno) FLX10 KLX10 C [(46, .aload_n 0), (47, .bipush 9)] (by decide +kernel) (pc' := 49) (L' := [(0, .ref 130), (1, .int x9), (2, .int (nI many)), (3, .int (nI i))]) (st' := [.int 9, .ref 130]) rfl ?_
        refine fw_draw X (n0 := 9) (d := d + 2) (by decide) (by decide) hLg (by omega) (by omega) (by omega) (Nat.le_of_ble_eq_true rfl) (by decide +kernel) ?_
        refine mz_zle (off := 23) (tgt := 75) C (by decide +kernel) (by decide) (fun h9 => ?_) (fun h9 => ?_)
        · have h90 : mz_dv Lg xs (d + 2) 9 = 0 := Classical.byContradiction fun z => nI_nle (n := mz_dv Lg xs (d + 2) 9) (by omega) (by have := (mz_dv_ok Lg xs (d + 2) (n := 9) (by decide) (by decide)).1; omega) h9
          exact nxt _ _ _ (by unfold mz_S1; exact (if_neg (fun z => h0 (v1.symm.trans z))).trans (if_pos h90)) (V0 _ (by omega)) (by omega) (by omega)
        · have h90 : ¬ mz_dv Lg xs (d + 2) 9 = 0 := fun z => h9 (by rw [z]; decide)
          obtain ⟨q, rfl⟩ : ∃ q, i = q + 1 := ⟨i - 1, by omega⟩
          refine mz_goP (lay := (fun _ => none)) (M := mz_Z) (cA := cA) (D := D) (cl := vwCl) (fun _ _ => mz_Hno) FLX10 KLX10 C [(55, .aload_n 0), (56, .iload_n 3), (57, .iconst 1), (58, .isub), (59, .iload_n 3), (60, .iconst 1), (61, .aload_n 0), (62, .iconst 3)] (by decide +kernel) (pc' := 63) (L' := [(0, .ref 130), (1, .int x9), (2, .int (nI many)), (3, .int (nI (q + 1)))]) (st' := [.int 3, .ref 130, .int 1, .int (nI (q + 1)), .int ((nI (q + 1)) - 1), .ref 130]) rfl ?_
          refine fw_draw X (n0 := 3) (d := d + 3) (by decide) (by decide) hLg (by omega) (by omega) (by omega) (Nat.le_of_ble_eq_true rfl) (by decide +kernel) ?_
          refine mz_goP (lay := (fun _ => none)) (M := mz_Z) (cA := cA) (D := D) (cl := vwCl) (fun _ _ => mz_Hno) FLX10 KLX10 C [(66, .iadd)] (by decide +kernel) (pc' := 67) (L' := [(0, .ref 130), (1, .int x9), (2, .int (nI many)), (3, .int (nI (q + 1)))]) (st' := [.int (1 + (nI (mz_dv Lg xs (d + 3) 3))), .int (nI (q + 1)), .int ((nI (q + 1)) - 1), .ref 130]) rfl ?_
          rw [show (1 : Int32) + nI (mz_dv Lg xs (d + 3) 3) = nI (1 + (mz_dv Lg xs (d + 3) 3)) from nI_add 1 _]
          rw [nI_pred]
          have hw3 := (mz_dv_ok Lg xs (d + 3) (n := 3) (by decide) (by decide)).1
          refine mz_and (q := ∃ M, mz_LK (g_X4_addRoom N (nI (1 + mz_dv Lg xs (d + 1) (if mz_dv Lg xs d 2 = 0 then 4 else 15)))).2 M (mz_sz1 sz 3) ∧ mz_NI (g_X4_addRoom N (nI (1 + mz_dv Lg xs (d + 1) (if mz_dv Lg xs d 2 = 0 then 4 else 15)))).2 (mz_sz1 sz 3)) (fun H h => mz_T.lk h) (fun hlk => ?_)
          obtain ⟨M0, hLK, hNI⟩ := hlk
          have s3 : mz_sz1 sz 3 3 = q + 2 := by show sz 3 + 1 = q + 2; rw [v1]
          have s4 : mz_sz1 sz 3 4 = sz 4 := rfl
          refine fw_door X hκ (a := q) (b := q + 1) (w := 1 + mz_dv Lg xs (d + 3) 3) (by omega) (by omega) (by omega) ⟨by omega, by omega⟩ (by omega) (v5 q (q + 1) (by omega) (by omega) (by omega)) (by omega) (by omega) (Nat.le_of_ble_eq_true rfl) (by decide +kernel) ?_
          refine mz_zne (off := 5) (tgt := 75) C (by decide +kernel) (by decide) (fun _ => ?_) (fun h => absurd h (by decide))
          refine nxt ((g_X4_addDoor (g_X4_addRoom N (nI (1 + mz_dv Lg xs (d + 1) (if mz_dv Lg xs d 2 = 0 then 4 else 15)))).2 (nI q) (nI (q + 1)) (nI (1 + mz_dv Lg xs (d + 3) 3))).2, d + 4, mz_sz1 (mz_sz1 sz 3) 4) (k + 1 + 2) (n + 16 + 20) (by unfold mz_S1; refine (if_neg (fun z => h0 (v1.symm.trans z))).trans ((if_neg h90).trans ?_); show ((g_X4_addDoor _ (nI (sz 3 - 1)) (nI (sz 3)) _).2, _, _) = _; rw [v1]; rfl) ⟨?_, ?_, fun j hj => ?_, ?_, fun a b ha hb h => ?_⟩ (by omega) (by omega)
          · show sz 3 + 1 = q + 1 + 1; rw [v1]
          · show sz 4 + 1 ≤ q + 1 + 1; omega
          · exact (mz_sz1_ne (by omega)).trans ((mz_sz1_ne (by omega)).trans (v3 j hj))
          · show d + 4 ≤ 100 + 4 * (q + 1 + 1); omega
          · show (g_X4_addDoor (g_X4_addRoom N (nI (1 + mz_dv Lg xs (d + 1) (if mz_dv Lg xs d 2 = 0 then 4 else 15)))).2 (nI q) (nI (q + 1)) _).2 8 (a * 8 + b) = -1
            rw [mz_door_8 hNI.1 hLK.2.1.2.1 (by omega) (by omega), mz_upd_at (by omega), mz_upd_at (by omega)]
            exact v5 a b ha hb (by omega)
    refine mz_goP (lay := (fun _ => none)) (M := mz_Z) (cA := cA) (D := D) (cl := vwCl) (fun _ _ => mz_Hno) FLX10 KLX10 C [(10, .iload_n 3), (11, .iload_n 2)] (by decide +kernel) (pc' := 12) (L' := [(0, .ref 130), (1, .int x9), (2, .int (nI many)), (3, .int (nI i))]) (st' := [.int (nI many), .int (nI i)]) rfl ?_
    refine mz_ige (off := 69) (tgt := 81) C (by decide +kernel) (by decide) (fun h => absurd h (nI_ge (a := i) (b := many) (by omega) (by omega))) (fun _ => ?_)
    refine mz_goP (lay := (fun _ => none)) (M := mz_Z) (cA := cA) (D := D) (cl := vwCl) (fun _ _ => mz_Hno) FLX10 KLX10 C [(15, .aload_n 0), (16, .iconst 1), (17, .aload_n 0), (18, .aload_n 0), (19, .iconst 2)] (by decide +kernel) (pc' := 20) (L' := [(0, .ref 130), (1, .int x9), (2, .int (nI many)), (3, .int (nI i))]) (st' := [.int 2, .ref 130, .ref 130, .int 1, .ref 130]) rfl ?_
    refine fw_draw X (n0 := 2) (d := d) (by decide) (by decide) hLg (by omega) (by omega) (by omega) (Nat.le_of_ble_eq_true rfl) (by decide +kernel) ?_
    refine mz_zne (off := 7) (tgt := 30) C (by decide +kernel) (by decide) (fun h2 => ?_) (fun h2 => ?_)
    · rw [if_neg (fun z => h2 (by rw [z]; decide))] at stp
      refine mz_goP (lay := (fun _ => none)) (M := mz_Z) (cA := cA) (D := D) (cl := vwCl) (fun _ _ => mz_Hno) FLX10 KLX10 C [(30, .bipush 15)] (by decide +kernel) (pc' := 32) (L' := [(0, .ref 130), (1, .int x9), (2, .int (nI many)), (3, .int (nI i))]) (st' := [.int 15, .ref 130, .int 1, .ref 130]) rfl ?_
      exact stp
    · rw [if_pos ((nI_eq (b := 0) (by have := (mz_dv_ok Lg xs d (n := 2) (by decide) (by decide)).1; omega) (by decide)).mp h2)] at stp
      refine mz_goP (lay := (fun _ => none)) (M := mz_Z) (cA := cA) (D := D) (cl := vwCl) (fun _ _ => mz_Hno) FLX10 KLX10 C [(26, .iconst 4), (27, .goto 5)] (by decide +kernel) (pc' := 32) (L' := [(0, .ref 130), (1, .int x9), (2, .int (nI many)), (3, .int (nI i))]) (st' := [.int 4, .ref 130, .int 1, .ref 130]) rfl ?_
      exact stp
set_option maxHeartbeats 4000000 in
theorem fw_loop2 (X : mz_FC Γ l D cA κ lo) (hκ : mz_I κ mz_lay2) (hLg : Lg < 2 ^ 31) (many : Nat) (hm0 : 3 ≤ many) (hm : many ≤ 7) (x9 : Int32) : ∀ (r i : Nat) (σ : mz_FS) (k n : Nat), i + r = 3 → mz_V2 many i σ → k + 2 * r ≤ 40 → n + 20 * r ≤ 400 →
    (∀ (k' n' : Nat), k' ≤ 40 → n' ≤ 400 → mz_V2 many 3 (mz_F2 Lg xs many r σ) → mz_W Γ κ 6 k' n' (mz_T D cA κ lo Lg xs (mz_F2 Lg xs many r σ).1 (mz_F2 Lg xs many r σ).2.1 (mz_F2 Lg xs many r σ).2.2) 147 [(0, .ref 130), (1, .int x9), (2, .int (nI many))] []) →
    mz_W Γ κ 6 k n (mz_T D cA κ lo Lg xs σ.1 σ.2.1 σ.2.2) 83 [(0, .ref 130), (1, .int x9), (2, .int (nI many)), (3, .int (nI i))] [] := by
  have C := X.1
  intro r
  induction r with
  | zero =>
    intro i σ k n hi hV hk hn ex
    have hi : i = 3 := by omega
    subst hi
    refine mz_goP (lay := (fun _ => none)) (M := mz_Z) (cA := cA) (D := D) (cl := vwCl) (fun _ _ => mz_Hno) FLX10 KLX10 C [(83, .iload_n 3), (84, .iconst 3)] (by decide +kernel) (pc' := 85) (L' := [(0, .ref 130), (1, .int x9), (2, .int (nI many)), (3, .int (nI 3))]) (st' := [.int 3, .int (nI 3)]) rfl ?_
    refine mz_ige (off := 62) (tgt := 147) C (by decide +kernel) (by decide) (fun _ => ?_) (fun h => absurd (show (3 : Int32) ≤ nI 3 by decide) h)
    exact mz_sub (L' := [(0, .ref 130), (1, .int x9), (2, .int (nI many))]) (by simp) (ex k n (by omega) (by omega) hV)
  | succ r ih =>
    intro i σ k n hi hV hk hn ex
    obtain ⟨N, d, sz⟩ := σ
    show mz_W Γ κ 6 k n (mz_T D cA κ lo Lg xs N d sz) 83 [(0, .ref 130), (1, .int x9), (2, .int (nI many)), (3, .int (nI i))] []
    obtain ⟨v1, v2, v3, v4⟩ := hV
    replace v1 : sz 3 = many := v1
    replace v2 : sz 4 ≤ 7 + i := v2
    replace v3 : ∀ j, 5 ≤ j → sz j = 0 := v3
    replace v4 : d ≤ 128 + 3 * i := v4
    have nxt : ∀ (σ' : mz_FS) (k' n' : Nat), mz_S2 Lg xs many (N, d, sz) = σ' → mz_V2 many (i + 1) σ' → k' ≤ k + 2 → n' ≤ n + 20 → mz_W Γ κ 6 k' n' (mz_T D cA κ lo Lg xs σ'.1 σ'.2.1 σ'.2.2) 141 [(0, .ref 130), (1, .int x9), (2, .int (nI many)), (3, .int (nI i))] [] := by
      intro σ' k' n' e hV' h1 h2
      refine mz_goP (lay := (fun _ => none)) (M := mz_Z) (cA := cA) (D := D) (cl := vwCl) (fun _ _ => mz_Hno) FLX10 KLX10 C [(141, .iinc 3 1), (144, .goto (-61))] (by decide +kernel) (pc' := 83) (L' := [(3, .int ((nI i) + 1)), (0, .ref 130), (1, .int x9), (2, .int (nI many))]) (st' := []) rfl ?_
      rw [nI_1]
      have e2 : mz_F2 Lg xs many (r + 1) (N, d, sz) = mz_F2 Lg xs many r σ' := by rw [← e]; rfl
      rw [e2] at ex
      exact mz_sub (L' := [(0, .ref 130), (1, .int x9), (2, .int (nI many)), (3, .int (nI (i + 1)))]) (by simp) (ih (i + 1) σ' k' n' (by omega) hV' (by omega) (by omega) ex)
    have b1 := (mz_dv_ok Lg xs d (n := many) (by omega) (by omega)).1
    have b2 := (mz_dv_ok Lg xs (d + 1) (n := many) (by omega) (by omega)).1
    have V0 : mz_V2 many (i + 1) (N, d + 2, sz) := ⟨v1, by show sz 4 ≤ 7 + (i + 1); omega, v3, by show d + 2 ≤ 128 + 3 * (i + 1); omega⟩
    refine mz_goP (lay := (fun _ => none)) (M := mz_Z) (cA := cA) (D := D) (cl := vwCl) (fun _ _ => mz_Hno) FLX10 KLX10 C [(83, .iload_n 3), (84, .iconst 3)] (by decide +kernel) (pc' := 85) (L' := [(0, .ref 130), (1, .int x9), (2, .int (nI many)), (3, .int (nI i))]) (st' := [.int 3, .int (nI i)]) rfl ?_
    refine mz_ige (off := 62) (tgt := 147) C (by decide +kernel) (by decide) (fun h => absurd h (nI_ge (a := i) (b := 3) (by omega) (by decide))) (fun _ => ?_)
    refine mz_goP (lay := (fun _ => none)) (M := mz_Z) (cA := cA) (D := D) (cl := vwCl) (fun _ _ => mz_Hno) FLX10 KLX10 C [(88, .aload_n 0), (89, .iload_n 2)] (by decide +kernel) (pc' := 90) (L' := [(0, .ref 130), (1, .int x9), (2, .int (nI many)), (3, .int (nI i))]) (st' := [.int (nI many), .ref 130]) rfl ?_
    refine fw_draw X (n0 := many) (d := d) (by omega) (by omega) hLg (by omega) (by omega) (by omega) (Nat.le_of_ble_eq_true rfl) (by decide +kernel) ?_
    refine mz_goP (lay := (fun _ => none)) (M := mz_Z) (cA := cA) (D := D) (cl := vwCl) (fun _ _ => mz_Hno) FLX10 KLX10 C [(93, .istore 4), (95, .aload_n 0), (96, .iload_n 2)] (by decide +kernel) (pc' := 97) (L' := [(4, .int (nI (mz_dv Lg xs d many))), (0, .ref 130), (1, .int x9), (2, .int (nI many)), (3, .int (nI i))]) (st' := [.int (nI many), .ref 130]) rfl ?_
    refine fw_draw X (n0 := many) (d := d + 1) (by omega) (by omega) hLg (by omega) (by omega) (by omega) (Nat.le_of_ble_eq_true rfl) (by decide +kernel) ?_
    refine mz_goP (lay := (fun _ => none)) (M := mz_Z) (cA := cA) (D := D) (cl := vwCl) (fun _ _ => mz_Hno) FLX10 KLX10 C [(100, .istore 5), (102, .iload 4), (104, .iload 5)] (by decide +kernel) (pc' := 106) (L' := [(5, .int (nI (mz_dv Lg xs (d + 1) many))), (4, .int (nI (mz_dv Lg xs d many))), (0, .ref 130), (1, .int x9), (2, .int (nI many)), (3, .int (nI i))]) (st' := [.int (nI (mz_dv Lg xs (d + 1) many)), .int (nI (mz_dv Lg xs d many))]) rfl ?_
    refine mz_ieq (off := 35) (tgt := 141) C (by decide +kernel) (by decide) (fun h => ?_) (fun h => ?_)
    · have h0 : mz_dv Lg xs d many = mz_dv Lg xs (d + 1) many := (nI_eq (by omega) (by omega)).mp h
      exact mz_sub (L' := [(0, .ref 130), (1, .int x9), (2, .int (nI many)), (3, .int (nI i))]) (by simp) (nxt _ _ _ (by unfold mz_S2; exact if_pos h0) V0 (by omega) (by omega))
    · have h0 : ¬ mz_dv Lg xs d many = mz_dv Lg xs (d + 1) many := fun z => h (by rw [z])
      refine mz_goP (lay := (fun _ => none)) (M := mz_Z) (cA := cA) (D := D) (cl := vwCl) (fun _ _ => mz_Hno) FLX10 KLX10 C [(109, .aload_n 0), (110, .iload 4), (112, .iload 5)] (by decide +kernel) (pc' := 114) (L' := [(5, .int (nI (mz_dv Lg xs (d + 1) many))), (4, .int (nI (mz_dv Lg xs d many))), (0, .ref 130), (1, .int x9), (2, .int (nI many)), (3, .int (nI i))]) (st' := [.int (nI (mz_dv Lg xs (d + 1) many)), .int (nI (mz_dv Lg xs d many)), .ref 130]) rfl ?_
      refine fw_doorOf X (a := mz_dv Lg xs d many) (b := mz_dv Lg xs (d + 1) many) (by omega) (by omega) (by omega) (by omega) (Nat.le_of_ble_eq_true rfl) (by decide +kernel) ?_
      refine mz_and (q := ∃ M, mz_LK N M sz ∧ mz_NI N sz) (fun H h => mz_T.lk h) (fun hlk => ?_)
      obtain ⟨M0, hLK, hNI⟩ := hlk
      refine mz_zge (off := 24) (tgt := 141) C (by decide +kernel) (by decide) (fun h => ?_) (fun h => ?_)
      · have h1 : ¬ N 8 (mz_dv Lg xs d many * 8 + mz_dv Lg xs (d + 1) many) = -1 := fun z => absurd (show (0 : Int32) ≤ -1 by rw [← z]; exact h) (by decide)
        exact mz_sub (L' := [(0, .ref 130), (1, .int x9), (2, .int (nI many)), (3, .int (nI i))]) (by simp) (nxt _ _ _ (by unfold mz_S2; exact (if_neg h0).trans (if_neg h1)) V0 (by omega) (by omega))
      · have h1 : N 8 (mz_dv Lg xs d many * 8 + mz_dv Lg xs (d + 1) many) = -1 := by
          rcases hLK.2.2.2.2.1 _ _ (show mz_dv Lg xs d many < 8 by omega) (show mz_dv Lg xs (d + 1) many < 8 by omega) with z | ⟨j, hj, z, -⟩
          · exact z
          · exact absurd (by rw [z]; exact nI_pos' (by have := hLK.1.2.1; omega)) h
        refine mz_goP (lay := (fun _ => none)) (M := mz_Z) (cA := cA) (D := D) (cl := vwCl) (fun _ _ => mz_Hno) FLX10 KLX10 C [(120, .aload_n 0), (121, .iload 4), (123, .iload 5), (125, .iconst 1), (126, .aload_n 0), (127, .bipush 6)] (by decide +kernel) (pc' := 129) (L' := [(5, .int (nI (mz_dv Lg xs (d + 1) many))), (4, .int (nI (mz_dv Lg xs d many))), (0, .ref 130), (1, .int x9), (2, .int (nI many)), (3, .int (nI i))]) (st' := [.int 6, .ref 130, .int 1, .int (nI (mz_dv Lg xs (d + 1) many)), .int (nI (mz_dv Lg xs d many)), .ref 130]) rfl ?_
        refine fw_draw X (n0 := 6) (d := d + 2) (by decide) (by decide) hLg (by omega) (by omega) (by omega) (Nat.le_of_ble_eq_true rfl) (by decide +kernel) ?_
        refine mz_goP (lay := (fun _ => none)) (M := mz_Z) (cA := cA) (D := D) (cl := vwCl) (fun _ _ => mz_Hno) FLX10 KLX10 C [(132, .iadd)] (by decide +kernel) (pc' := 133) (L' := [(5, .int (nI (mz_dv Lg xs (d + 1) many))), (4, .int (nI (mz_dv Lg xs d many))), (0, .ref 130), (1, .int x9), (2, .int (nI many)), (3, .int (nI i))]) (st' := [.int (1 + (nI (mz_dv Lg xs (d + 2) 6))), .int (nI (mz_dv Lg xs (d + 1) many)), .int (nI (mz_dv Lg xs d many)), .ref 130]) rfl ?_
        rw [show (1 : Int32) + nI (mz_dv Lg xs (d + 2) 6) = nI (1 + (mz_dv Lg xs (d + 2) 6)) from nI_add 1 _]
        have hw := (mz_dv_ok Lg xs (d + 2) (n := 6) (by decide) (by decide)).1
        refine fw_door X hκ (a := mz_dv Lg xs d many) (b := mz_dv Lg xs (d + 1) many) (w := 1 + mz_dv Lg xs (d + 2) 6) (by omega) (by omega) h0 ⟨by omega, by omega⟩ (by omega) h1 (by omega) (by omega) (Nat.le_of_ble_eq_true rfl) (by decide +kernel) ?_
        refine mz_zne (off := 5) (tgt := 141) C (by decide +kernel) (by decide) (fun _ => ?_) (fun h => absurd h (by decide))
        exact mz_sub (L' := [(0, .ref 130), (1, .int x9), (2, .int (nI many)), (3, .int (nI i))]) (by simp) (nxt ((g_X4_addDoor N (nI (mz_dv Lg xs d many)) (nI (mz_dv Lg xs (d + 1) many)) (nI (1 + mz_dv Lg xs (d + 2) 6))).2, d + 3, mz_sz1 sz 4) (k + 2) (n + 20) (by unfold mz_S2; exact (if_neg h0).trans (if_pos h1)) ⟨v1, by show sz 4 + 1 ≤ 7 + (i + 1); omega, fun j hj => (mz_sz1_ne (by omega)).trans (v3 j hj), by show d + 3 ≤ 128 + 3 * (i + 1); omega⟩ (by omega) (by omega))
set_option maxHeartbeats 4000000 in
theorem fw_loop4 (X : mz_FC Γ l D cA κ lo) (hκ : mz_I κ mz_lay2) (hLg : Lg < 2 ^ 31) (many : Nat) (hm0 : 3 ≤ many) (hm : many ≤ 7) (x9 : Int32) : ∀ (r i : Nat) (σ : mz_FS) (k n : Nat), i + r = 2 → mz_V4 many i σ → k + 2 * r ≤ 54 → n + 21 * r ≤ 542 →
    (∀ (k' n' : Nat), k' ≤ 54 → n' ≤ 542 → mz_V4 many 2 (mz_F4 Lg xs many r σ) → mz_W Γ κ 6 k' n' (mz_T D cA κ lo Lg xs (mz_F4 Lg xs many r σ).1 (mz_F4 Lg xs many r σ).2.1 (mz_F4 Lg xs many r σ).2.2) 216 [(0, .ref 130), (1, .int x9), (2, .int (nI many))] []) →
    mz_W Γ κ 6 k n (mz_T D cA κ lo Lg xs σ.1 σ.2.1 σ.2.2) 191 [(0, .ref 130), (1, .int x9), (2, .int (nI many)), (3, .int (nI i))] [] := by
  have C := X.1
  intro r
  induction r with
  | zero =>
    intro i σ k n hi hV hk hn ex
    have hi : i = 2 := by omega
    subst hi
    refine mz_goP (lay := (fun _ => none)) (M := mz_Z) (cA := cA) (D := D) (cl := vwCl) (fun _ _ => mz_Hno) FLX10 KLX10 C [(191, .iload_n 3), (192, .iconst 2)] (by decide +kernel) (pc' := 193) (L' := [(0, .ref 130), (1, .int x9), (2, .int (nI many)), (3, .int (nI 2))]) (st' := [.int 2, .int (nI 2)]) rfl ?_
    refine mz_ige (off := 23) (tgt := 216) C (by decide +kernel) (by decide) (fun _ => ?_) (fun h => absurd (show (2 : Int32) ≤ nI 2 by decide) h)
    exact mz_sub (L' := [(0, .ref 130), (1, .int x9), (2, .int (nI many))]) (by simp) (ex k n (by omega) (by omega) hV)
  | succ r ih =>
    intro i σ k n hi hV hk hn ex
    obtain ⟨N, d, sz⟩ := σ
    show mz_W Γ κ 6 k n (mz_T D cA κ lo Lg xs N d sz) 191 [(0, .ref 130), (1, .int x9), (2, .int (nI many)), (3, .int (nI i))] []
    obtain ⟨v1, v2, v3, v4, v5⟩ := hV
    replace v1 : sz 3 = many := v1
    replace v2 : 3 ≤ sz 5 ∧ sz 5 ≤ 5 := v2
    replace v3 : sz 6 = i := v3
    replace v4 : ∀ j, 7 ≤ j → sz j = 0 := v4
    replace v5 : d ≤ 160 + i := v5
    have nxt : ∀ (σ' : mz_FS) (k' n' : Nat), mz_S4 Lg xs many (N, d, sz) = σ' → mz_V4 many (i + 1) σ' → k' ≤ k + 2 → n' ≤ n + 21 → mz_W Γ κ 6 k' n' (mz_T D cA κ lo Lg xs σ'.1 σ'.2.1 σ'.2.2) 210 [(0, .ref 130), (1, .int x9), (2, .int (nI many)), (3, .int (nI i))] [] := by
      intro σ' k' n' e hV' h1 h2
      refine mz_goP (lay := (fun _ => none)) (M := mz_Z) (cA := cA) (D := D) (cl := vwCl) (fun _ _ => mz_Hno) FLX10 KLX10 C [(210, .iinc 3 1), (213, .goto (-22))] (by decide +kernel) (pc' := 191) (L' := [(3, .int ((nI i) + 1)), (0, .ref 130), (1, .int x9), (2, .int (nI many))]) (st' := []) rfl ?_
      rw [nI_1]
      have e2 : mz_F4 Lg xs many (r + 1) (N, d, sz) = mz_F4 Lg xs many r σ' := by rw [← e]; rfl
      rw [e2] at ex
      exact mz_sub (L' := [(0, .ref 130), (1, .int x9), (2, .int (nI many)), (3, .int (nI (i + 1)))]) (by simp) (ih (i + 1) σ' k' n' (by omega) hV' (by omega) (by omega) ex)
    have b1 := (mz_dv_ok Lg xs d (n := many) (by omega) (by omega)).1
    refine mz_goP (lay := (fun _ => none)) (M := mz_Z) (cA := cA) (D := D) (cl := vwCl) (fun _ _ => mz_Hno) FLX10 KLX10 C [(191, .iload_n 3), (192, .iconst 2)] (by decide +kernel) (pc' := 193) (L' := [(0, .ref 130), (1, .int x9), (2, .int (nI many)), (3, .int (nI i))]) (st' := [.int 2, .int (nI i)]) rfl ?_
    refine mz_ige (off := 23) (tgt := 216) C (by decide +kernel) (by decide) (fun h => absurd h (nI_ge (a := i) (b := 2) (by omega) (by decide))) (fun _ => ?_)
    refine mz_goP (lay := (fun _ => none)) (M := mz_Z) (cA := cA) (D := D) (cl := vwCl) (fun _ _ => mz_Hno) FLX10 KLX10 C [(196, .aload_n 0), (197, .aload_n 0), (198, .iload_n 2)] (by decide +kernel) (pc' := 199) (L' := [(0, .ref 130), (1, .int x9), (2, .int (nI many)), (3, .int (nI i))]) (st' := [.int (nI many), .ref 130, .ref 130]) rfl ?_
    refine fw_draw X (n0 := many) (d := d) (by omega) (by omega) hLg (by omega) (by omega) (by omega) (Nat.le_of_ble_eq_true rfl) (by decide +kernel) ?_
    refine fw_prop X hκ (a := mz_dv Lg xs d many) (by omega) (by omega) (by omega) (by omega) (Nat.le_of_ble_eq_true rfl) (by decide +kernel) ?_
    refine mz_zne (off := 5) (tgt := 210) C (by decide +kernel) (by decide) (fun _ => ?_) (fun h => absurd h (by decide))
    exact nxt _ (k + 2) (n + 21) rfl ⟨v1, v2, by show sz 6 + 1 = i + 1; omega, fun j hj => (mz_sz1_ne (by omega)).trans (v4 j hj), by show d + 1 ≤ 160 + (i + 1); omega⟩ (by omega) (by omega)
set_option maxHeartbeats 4000000 in
theorem fw_loop6 (X : mz_FC Γ l D cA κ lo) (hκ : mz_I κ mz_lay2) (hLg : Lg < 2 ^ 31) (many : Nat) (hm0 : 3 ≤ many) (hm : many ≤ 7) (x9 : Int32) : ∀ (r i : Nat) (σ : mz_FS) (k n : Nat), i + r = 6 → mz_V6 many i σ → k + 2 * r ≤ 90 → n + 23 * r ≤ 950 →
    (∀ (k' n' : Nat), k' ≤ 90 → n' ≤ 950 → mz_V6 many 6 (mz_F6 Lg xs many r σ) → mz_W Γ κ 6 k' n' (mz_T D cA κ lo Lg xs (mz_F6 Lg xs many r σ).1 (mz_F6 Lg xs many r σ).2.1 (mz_F6 Lg xs many r σ).2.2) 495 [(0, .ref 130), (1, .int x9), (2, .int (nI many))] []) →
    mz_W Γ κ 6 k n (mz_T D cA κ lo Lg xs σ.1 σ.2.1 σ.2.2) 421 [(0, .ref 130), (1, .int x9), (2, .int (nI many)), (3, .int (nI i))] [] := by
  have C := X.1
  intro r
  induction r with
  | zero =>
    intro i σ k n hi hV hk hn ex
    have hi : i = 6 := by omega
    subst hi
    refine mz_goP (lay := (fun _ => none)) (M := mz_Z) (cA := cA) (D := D) (cl := vwCl) (fun _ _ => mz_Hno) FLX10 KLX10 C [(421, .iload_n 3), (422, .bipush 6)] (by decide +kernel) (pc' := 424) (L' := [(0, .ref 130), (1, .int x9), (2, .int (nI many)), (3, .int (nI 6))]) (st' := [.int 6, .int (nI 6)]) rfl ?_
    refine mz_ige (off := 71) (tgt := 495) C (by decide +kernel) (by decide) (fun _ => ?_) (fun h => absurd (show (6 : Int32) ≤ nI 6 by decide) h)
    exact mz_sub (L' := [(0, .ref 130), (1, .int x9), (2, .int (nI many))]) (by simp) (ex k n (by omega) (by omega) hV)
  | succ r ih =>
    intro i σ k n hi hV hk hn ex
    obtain ⟨N, d, sz⟩ := σ
    show mz_W Γ κ 6 k n (mz_T D cA κ lo Lg xs N d sz) 421 [(0, .ref 130), (1, .int x9), (2, .int (nI many)), (3, .int (nI i))] []
    obtain ⟨v1, v2, v3, v4⟩ := hV
    replace v1 : sz 3 = many := v1
    replace v2 : 3 ≤ sz 5 ∧ sz 5 ≤ 5 := v2
    replace v3 : sz 8 ≤ i := v3
    replace v4 : d ≤ 250 + 3 * i := v4
    have nxt : ∀ (σ' : mz_FS) (k' n' : Nat), mz_S6 Lg xs many (N, d, sz) = σ' → mz_V6 many (i + 1) σ' → k' ≤ k + 2 → n' ≤ n + 23 → mz_W Γ κ 6 k' n' (mz_T D cA κ lo Lg xs σ'.1 σ'.2.1 σ'.2.2) 489 [(0, .ref 130), (1, .int x9), (2, .int (nI many)), (3, .int (nI i))] [] := by
      intro σ' k' n' e hV' h1 h2
      refine mz_goP (lay := (fun _ => none)) (M := mz_Z) (cA := cA) (D := D) (cl := vwCl) (fun _ _ => mz_Hno) FLX10 KLX10 C [(489, .iinc 3 1), (492, .goto (-71))] (by decide +kernel) (pc' := 421) (L' := [(3, .int ((nI i) + 1)), (0, .ref 130), (1, .int x9), (2, .int (nI many))]) (st' := []) rfl ?_
      rw [nI_1]
      have e2 : mz_F6 Lg xs many (r + 1) (N, d, sz) = mz_F6 Lg xs many r σ' := by rw [← e]; rfl
      rw [e2] at ex
      exact mz_sub (L' := [(0, .ref 130), (1, .int x9), (2, .int (nI many)), (3, .int (nI (i + 1)))]) (by simp) (ih (i + 1) σ' k' n' (by omega) hV' (by omega) (by omega) ex)
    have b1 := (mz_dv_ok Lg xs d (n := many) (by omega) (by omega)).1
    refine mz_goP (lay := (fun _ => none)) (M := mz_Z) (cA := cA) (D := D) (cl := vwCl) (fun _ _ => mz_Hno) FLX10 KLX10 C [(421, .iload_n 3), (422, .bipush 6)] (by decide +kernel) (pc' := 424) (L' := [(0, .ref 130), (1, .int x9), (2, .int (nI many)), (3, .int (nI i))]) (st' := [.int 6, .int (nI i)]) rfl ?_
    refine mz_ige (off := 71) (tgt := 495) C (by decide +kernel) (by decide) (fun h => absurd h (nI_ge (a := i) (b := 6) (by omega) (by decide))) (fun _ => ?_)
    refine mz_goP (lay := (fun _ => none)) (M := mz_Z) (cA := cA) (D := D) (cl := vwCl) (fun _ _ => mz_Hno) FLX10 KLX10 C [(427, .aload_n 0), (428, .iload_n 2)] (by decide +kernel) (pc' := 429) (L' := [(0, .ref 130), (1, .int x9), (2, .int (nI many)), (3, .int (nI i))]) (st' := [.int (nI many), .ref 130]) rfl ?_
    refine fw_draw X (n0 := many) (d := d) (by omega) (by omega) hLg (by omega) (by omega) (by omega) (Nat.le_of_ble_eq_true rfl) (by decide +kernel) ?_
    refine mz_goP (lay := (fun _ => none)) (M := mz_Z) (cA := cA) (D := D) (cl := vwCl) (fun _ _ => mz_Hno) FLX10 KLX10 C [(432, .istore 4), (434, .aload_n 0), (435, .iload 4)] (by decide +kernel) (pc' := 437) (L' := [(4, .int (nI (mz_dv Lg xs d many))), (0, .ref 130), (1, .int x9), (2, .int (nI many)), (3, .int (nI i))]) (st' := [.int (nI (mz_dv Lg xs d many)), .ref 130]) rfl ?_
    refine fw_guestsIn X (r := mz_dv Lg xs d many) (by omega) (by omega) (Nat.le_of_ble_eq_true rfl) (by decide +kernel) ?_
    refine mz_Topen (fun ρ h => by simp [mz_L, mz_e, h]) (fun ρ h => by simp [mz_e, h]) (fun ρ M hF => ?_)
    refine mz_goP (lay := (mz_TL Lg sz)) (M := M) (cA := cA) (D := D) (cl := vwCl) (fun _ h => h.2) FLX10 KLX10 C [(440, .aload_n 0), (441, .getfield 16), (444, .iload 4)] (by decide +kernel) (pc' := 446) (L' := [(4, .int (nI (mz_dv Lg xs d many))), (0, .ref 130), (1, .int x9), (2, .int (nI many)), (3, .int (nI i))]) (st' := [.int (nI (mz_dv Lg xs d many)), .ref 132, .int (nI (mz_cnt (N 62) (nI (mz_dv Lg xs d many)) (sz 8)))]) rfl ?_
    have b3 : mz_dv Lg xs d many < sz 3 := by omega
    refine mz_ildP (fun _ h => h.2) (t0 := 0) C rfl (id := 132) (N := sz 3) rfl (vp_in_nI b3 (by omega)) (by decide +kernel) ?_
    rw [show M 132 (nI (mz_dv Lg xs d many)).toNatClampNeg = N 3 (mz_dv Lg xs d many) from (by rw [nI_clamp (by omega)]; exact hF.2.2.2.2.2.1.2.2.1 _ b3)]
    refine mz_Tback hF (fun ρ h => by simp [mz_L, mz_e, h]) (fun ρ h => by simp [mz_e, h]) ?_
    refine mz_ige (off := 42) (tgt := 489) C (by decide +kernel) (by decide) (fun h => ?_) (fun h => ?_)
    · exact mz_sub (L' := [(0, .ref 130), (1, .int x9), (2, .int (nI many)), (3, .int (nI i))]) (by simp) (nxt (N, d + 1, sz) k n (by unfold mz_S6; exact if_neg (Int32.not_lt.mpr h)) ⟨v1, v2, by show sz 8 ≤ i + 1; omega, by show d + 1 ≤ 250 + 3 * (i + 1); omega⟩ (by omega) (by omega))
    · have h := Int32.not_le.mp h
      refine mz_goP (lay := (fun _ => none)) (M := mz_Z) (cA := cA) (D := D) (cl := vwCl) (fun _ _ => mz_Hno) FLX10 KLX10 C [(450, .aload_n 0), (451, .iload 4)] (by decide +kernel) (pc' := 453) (L' := [(4, .int (nI (mz_dv Lg xs d many))), (0, .ref 130), (1, .int x9), (2, .int (nI many)), (3, .int (nI i))]) (st' := [.int (nI (mz_dv Lg xs d many)), .ref 130]) rfl ?_
      refine fw_guest X hκ (a := mz_dv Lg xs d many) (by omega) (by omega) h (by omega) (by omega) (Nat.le_of_ble_eq_true rfl) (by decide +kernel) ?_
      refine mz_zeq (off := 31) (tgt := 487) C (by decide +kernel) (by decide) (fun h => absurd h (by decide)) (fun _ => ?_)
      refine mz_Topen (fun ρ h => by simp [mz_L, mz_e, h]) (fun ρ h => by simp [mz_e, h]) (fun ρ M hF => ?_)
      refine mz_goP (lay := (mz_TL Lg (mz_sz1 sz 8))) (M := M) (cA := cA) (D := D) (cl := vwCl) (fun _ h => h.2) FLX10 KLX10 C [(459, .aload_n 0), (460, .aload_n 0), (461, .getfield 34)] (by decide +kernel) (pc' := 464) (L' := [(4, .int (nI (mz_dv Lg xs d many))), (0, .ref 130), (1, .int x9), (2, .int (nI many)), (3, .int (nI i))]) (st' := [.ref 137, .ref 130]) rfl ?_
      refine mz_aalen (fun _ h => h.2) C (id := 137) (g := mz_rwi 8 ((mz_sz1 sz 8) 8)) rfl (by decide +kernel) ?_
      refine mz_Tback hF (fun ρ h => by simp [mz_L, mz_e, h]) (fun ρ h => by simp [mz_e, h]) ?_
      refine mz_goP (lay := (fun _ => none)) (M := mz_Z) (cA := cA) (D := D) (cl := vwCl) (fun _ _ => mz_Hno) FLX10 KLX10 C [(465, .iconst 1), (466, .isub), (467, .aload_n 0), (468, .iconst 4)] (by decide +kernel) (pc' := 469) (L' := [(4, .int (nI (mz_dv Lg xs d many))), (0, .ref 130), (1, .int x9), (2, .int (nI many)), (3, .int (nI i))]) (st' := [.int 4, .ref 130, .int ((Int32.ofNat ((mz_sz1 sz 8) 8)) - 1), .ref 130]) rfl ?_
      rw [show (Int32.ofNat (mz_sz1 sz 8 8)) - 1 = nI (sz 8) from nI_pred (sz 8)]
      refine fw_draw X (n0 := 4) (d := d + 1) (by decide) (by decide) hLg (by omega) (by omega) (by omega) (Nat.le_of_ble_eq_true rfl) (by decide +kernel) ?_
      refine mz_Topen (fun ρ h => by simp [mz_L, mz_e, h]) (fun ρ h => by simp [mz_e, h]) (fun ρ M hF => ?_)
      refine mz_goP (lay := (mz_TL Lg (mz_sz1 sz 8))) (M := M) (cA := cA) (D := D) (cl := vwCl) (fun _ h => h.2) FLX10 KLX10 C [(472, .aload_n 0), (473, .aload_n 0), (474, .getfield 25)] (by decide +kernel) (pc' := 477) (L' := [(4, .int (nI (mz_dv Lg xs d many))), (0, .ref 130), (1, .int x9), (2, .int (nI many)), (3, .int (nI i))]) (st' := [.ref 134, .ref 130, .int (nI (mz_dv Lg xs (d + 1) 4)), .int (nI (sz 8)), .ref 130]) rfl ?_
      refine mz_aalen (fun _ h => h.2) C (id := 134) (g := mz_rwi 5 ((mz_sz1 sz 8) 5)) rfl (by decide +kernel) ?_
      refine mz_Tback hF (fun ρ h => by simp [mz_L, mz_e, h]) (fun ρ h => by simp [mz_e, h]) ?_
      rw [show (Int32.ofNat (mz_sz1 sz 8 5)) = nI (sz 5) from rfl]
      refine fw_draw X (n0 := sz 5) (d := d + 2) (by omega) (by omega) hLg (by omega) (by omega) (by omega) (Nat.le_of_ble_eq_true rfl) (by decide +kernel) ?_
      have b4 := (mz_dv_ok Lg xs (d + 1) (n := 4) (by decide) (by decide)).1
      have b5 := (mz_dv_ok Lg xs (d + 2) (n := sz 5) (by omega) (by omega)).1
      have s8 : mz_sz1 sz 8 8 = sz 8 + 1 := rfl
      have s5 : mz_sz1 sz 8 5 = sz 5 := rfl
      refine fw_habit X hκ (g := sz 8) (h0 := mz_dv Lg xs (d + 1) 4) (t := mz_dv Lg xs (d + 2) (sz 5)) (by omega) (by omega) (by omega) (by omega) (by omega) (Nat.le_of_ble_eq_true rfl) (by decide +kernel) ?_
      refine mz_zne (off := 5) (tgt := 489) C (by decide +kernel) (by decide) (fun _ => ?_) (fun h => absurd h (by decide))
      exact mz_sub (L' := [(0, .ref 130), (1, .int x9), (2, .int (nI many)), (3, .int (nI i))]) (by simp) (nxt _ (k + 2) (n + 23) (by unfold mz_S6; exact if_pos h) ⟨v1, v2, by show sz 8 + 1 ≤ i + 1; omega, by show d + 3 ≤ 250 + 3 * (i + 1); omega⟩ (by omega) (by omega))
set_option maxHeartbeats 4000000 in
theorem fw_loop3 (X : mz_FC Γ l D cA κ lo) (hκ : mz_I κ mz_lay2) (hLg : Lg < 2 ^ 31) (many : Nat) (hm0 : 3 ≤ many) (hm : many ≤ 7) (x9 : Int32) : ∀ (r i : Nat) (σ : mz_FS) (k n : Nat), i + r = 5 → mz_V3 many i σ → k + 2 * r ≤ 50 → n + 20 * r ≤ 500 →
    (∀ (k' n' : Nat), k' ≤ 50 → n' ≤ 500 → mz_V4 many 0 (mz_F3 Lg xs many r i σ) → mz_W Γ κ 6 k' n' (mz_T D cA κ lo Lg xs (mz_F3 Lg xs many r i σ).1 (mz_F3 Lg xs many r i σ).2.1 (mz_F3 Lg xs many r i σ).2.2) 189 [(0, .ref 130), (1, .int x9), (2, .int (nI many))] []) →
    mz_W Γ κ 6 k n (mz_T D cA κ lo Lg xs σ.1 σ.2.1 σ.2.2) 149 [(0, .ref 130), (1, .int x9), (2, .int (nI many)), (3, .int (nI i))] [] := by
  have C := X.1
  intro r
  induction r with
  | zero =>
    intro i σ k n hi hV hk hn ex
    obtain ⟨N, d, sz⟩ := σ
    show mz_W Γ κ 6 k n (mz_T D cA κ lo Lg xs N d sz) 149 [(0, .ref 130), (1, .int x9), (2, .int (nI many)), (3, .int (nI i))] []
    obtain ⟨v1, v2, v3, v4⟩ := hV
    replace v1 : sz 3 = many := v1
    replace v2 : sz 5 = i := v2
    replace v3 : ∀ j, 6 ≤ j → sz j = 0 := v3
    replace v4 : d ≤ 140 + 2 * i := v4
    have b0 := (mz_dv_ok Lg xs d (n := 3) (by decide) (by decide)).1
    refine mz_goP (lay := (fun _ => none)) (M := mz_Z) (cA := cA) (D := D) (cl := vwCl) (fun _ _ => mz_Hno) FLX10 KLX10 C [(149, .iload_n 3), (150, .iconst 3), (151, .aload_n 0), (152, .iconst 3)] (by decide +kernel) (pc' := 153) (L' := [(0, .ref 130), (1, .int x9), (2, .int (nI many)), (3, .int (nI i))]) (st' := [.int 3, .ref 130, .int 3, .int (nI i)]) rfl ?_
    refine fw_draw X (n0 := 3) (d := d) (by decide) (by decide) hLg (by omega) (by omega) (by omega) (Nat.le_of_ble_eq_true rfl) (by decide +kernel) ?_
    refine mz_goP (lay := (fun _ => none)) (M := mz_Z) (cA := cA) (D := D) (cl := vwCl) (fun _ _ => mz_Hno) FLX10 KLX10 C [(156, .iadd)] (by decide +kernel) (pc' := 157) (L' := [(0, .ref 130), (1, .int x9), (2, .int (nI many)), (3, .int (nI i))]) (st' := [.int (3 + (nI (mz_dv Lg xs d 3))), .int (nI i)]) rfl ?_
    rw [show (3 : Int32) + nI (mz_dv Lg xs d 3) = nI (3 + mz_dv Lg xs d 3) from nI_add 3 _]
    refine mz_ige (off := 32) (tgt := 189) C (by decide +kernel) (by decide) (fun h => ?_) (fun h => absurd (nI_le (a := 3 + mz_dv Lg xs d 3) (b := i) (by omega) (by omega)) h)
    exact mz_sub (L' := [(0, .ref 130), (1, .int x9), (2, .int (nI many))]) (by simp) (ex k n (by omega) (by omega) ⟨v1, ⟨by show 3 ≤ sz 5; omega, by show sz 5 ≤ 5; omega⟩, v3 6 (by decide), fun j hj => v3 j (by omega), by show d + 1 ≤ 160; omega⟩)
  | succ r ih =>
    intro i σ k n hi hV hk hn ex
    obtain ⟨N, d, sz⟩ := σ
    show mz_W Γ κ 6 k n (mz_T D cA κ lo Lg xs N d sz) 149 [(0, .ref 130), (1, .int x9), (2, .int (nI many)), (3, .int (nI i))] []
    obtain ⟨v1, v2, v3, v4⟩ := hV
    replace v1 : sz 3 = many := v1
    replace v2 : sz 5 = i := v2
    replace v3 : ∀ j, 6 ≤ j → sz j = 0 := v3
    replace v4 : d ≤ 140 + 2 * i := v4
    have b0 := (mz_dv_ok Lg xs d (n := 3) (by decide) (by decide)).1
    refine mz_goP (lay := (fun _ => none)) (M := mz_Z) (cA := cA) (D := D) (cl := vwCl) (fun _ _ => mz_Hno) FLX10 KLX10 C [(149, .iload_n 3), (150, .iconst 3), (151, .aload_n 0), (152, .iconst 3)] (by decide +kernel) (pc' := 153) (L' := [(0, .ref 130), (1, .int x9), (2, .int (nI many)), (3, .int (nI i))]) (st' := [.int 3, .ref 130, .int 3, .int (nI i)]) rfl ?_
    refine fw_draw X (n0 := 3) (d := d) (by decide) (by decide) hLg (by omega) (by omega) (by omega) (Nat.le_of_ble_eq_true rfl) (by decide +kernel) ?_
    refine mz_goP (lay := (fun _ => none)) (M := mz_Z) (cA := cA) (D := D) (cl := vwCl) (fun _ _ => mz_Hno) FLX10 KLX10 C [(156, .iadd)] (by decide +kernel) (pc' := 157) (L' := [(0, .ref 130), (1, .int x9), (2, .int (nI many)), (3, .int (nI i))]) (st' := [.int (3 + (nI (mz_dv Lg xs d 3))), .int (nI i)]) rfl ?_
    rw [show (3 : Int32) + nI (mz_dv Lg xs d 3) = nI (3 + mz_dv Lg xs d 3) from nI_add 3 _]
    refine mz_ige (off := 32) (tgt := 189) C (by decide +kernel) (by decide) (fun h => ?_) (fun h => ?_)
    · have h0 : 3 + mz_dv Lg xs d 3 ≤ i := (nI_leI (by omega) (by omega)).mp h
      have e : mz_F3 Lg xs many (r + 1) i (N, d, sz) = (N, d + 1, sz) := if_pos h0
      rw [e] at ex
      exact mz_sub (L' := [(0, .ref 130), (1, .int x9), (2, .int (nI many))]) (by simp) (ex k n (by omega) (by omega) ⟨v1, ⟨by show 3 ≤ sz 5; omega, by show sz 5 ≤ 5; omega⟩, v3 6 (by decide), fun j hj => v3 j (by omega), by show d + 1 ≤ 160; omega⟩)
    · have h0 : ¬ 3 + mz_dv Lg xs d 3 ≤ i := fun z => h ((nI_leI (by omega) (by omega)).mpr z)
      have e : mz_F3 Lg xs many (r + 1) i (N, d, sz) = mz_F3 Lg xs many r (i + 1) (mz_S3 Lg xs many (N, d + 1, sz)) := if_neg h0
      rw [e] at ex
      refine mz_Topen (fun ρ h => by simp [mz_L, mz_e, h]) (fun ρ h => by simp [mz_e, h]) (fun ρ M hF => ?_)
      refine mz_goP (lay := (mz_TL Lg sz)) (M := M) (cA := cA) (D := D) (cl := vwCl) (fun _ h => h.2) FLX10 KLX10 C [(160, .aload_n 0), (161, .getfield 25)] (by decide +kernel) (pc' := 164) (L' := [(0, .ref 130), (1, .int x9), (2, .int (nI many)), (3, .int (nI i))]) (st' := [.ref 134]) rfl ?_
      refine mz_aalen (fun _ h => h.2) C (id := 134) (g := mz_rwi 5 (sz 5)) rfl (by decide +kernel) ?_
      refine mz_Tback hF (fun ρ h => by simp [mz_L, mz_e, h]) (fun ρ h => by simp [mz_e, h]) ?_
      refine mz_goP (lay := (fun _ => none)) (M := mz_Z) (cA := cA) (D := D) (cl := vwCl) (fun _ _ => mz_Hno) FLX10 KLX10 C [(165, .iconst 5)] (by decide +kernel) (pc' := 166) (L' := [(0, .ref 130), (1, .int x9), (2, .int (nI many)), (3, .int (nI i))]) (st' := [.int 5, .int (Int32.ofNat (sz 5))]) rfl ?_
      refine mz_ige (off := 17) (tgt := 183) C (by decide +kernel) (by decide) (fun h5 => absurd h5 (by rw [v2]; exact nI_ge (a := i) (b := 5) (by omega) (by decide))) (fun _ => ?_)
      have b1 := (mz_dv_ok Lg xs (d + 1) (n := many) (by omega) (by omega)).1
      refine mz_goP (lay := (fun _ => none)) (M := mz_Z) (cA := cA) (D := D) (cl := vwCl) (fun _ _ => mz_Hno) FLX10 KLX10 C [(169, .aload_n 0), (170, .aload_n 0), (171, .iload_n 2)] (by decide +kernel) (pc' := 172) (L' := [(0, .ref 130), (1, .int x9), (2, .int (nI many)), (3, .int (nI i))]) (st' := [.int (nI many), .ref 130, .ref 130]) rfl ?_
      refine fw_draw X (n0 := many) (d := d + 1) (by omega) (by omega) hLg (by omega) (by omega) (by omega) (Nat.le_of_ble_eq_true rfl) (by decide +kernel) ?_
      refine fw_track X hκ (a := mz_dv Lg xs (d + 1) many) (by omega) (by omega) (by omega) (by omega) (Nat.le_of_ble_eq_true rfl) (by decide +kernel) ?_
      refine mz_zne (off := 5) (tgt := 183) C (by decide +kernel) (by decide) (fun _ => ?_) (fun h => absurd h (by decide))
      refine mz_goP (lay := (fun _ => none)) (M := mz_Z) (cA := cA) (D := D) (cl := vwCl) (fun _ _ => mz_Hno) FLX10 KLX10 C [(183, .iinc 3 1), (186, .goto (-37))] (by decide +kernel) (pc' := 149) (L' := [(3, .int ((nI i) + 1)), (0, .ref 130), (1, .int x9), (2, .int (nI many))]) (st' := []) rfl ?_
      rw [nI_1]
      exact mz_sub (L' := [(0, .ref 130), (1, .int x9), (2, .int (nI many)), (3, .int (nI (i + 1)))]) (by simp) (ih (i + 1) _ _ _ (by omega) ⟨v1, by show sz 5 + 1 = i + 1; omega, fun j hj => (mz_sz1_ne (by omega)).trans (v3 j hj), by show d + 1 + 1 ≤ 140 + 2 * (i + 1); omega⟩ (by omega) (by omega) ex)
end MZFL
