/-! the law's two times, and the claim -/
theorem mz_31 : ∀ tt, tt ≤ 1 → (31 : Int32) * nI tt = nI (31 * tt) := by decide
theorem mz_c0_130 {Lg k : Nat} {sh : mz_Sh} (h : mz_c0 Lg k = some sh) : k = 130 ∧ sh = mz_o 10 mz_TO0 := by
  unfold mz_c0 at h
  by_cases h0 : k = 130
  · rw [if_pos h0] at h; cases h; exact ⟨h0, rfl⟩
  · rw [if_neg h0] at h; cases h
theorem mz_DL_130 {Lg k : Nat} {sh : mz_Sh} (h : mz_DL Lg k = some sh) : k = 130 ∧ sh = mz_o 10 mz_TO := by
  unfold mz_DL at h
  by_cases h0 : k = 130
  · rw [if_pos h0] at h; cases h; exact ⟨h0, rfl⟩
  · rw [if_neg h0] at h; cases h
theorem mz_sX.lt {cA : Nat → ClassId} {b Lg : Nat} {xs : Nat → Int32} {H : Heap} (h : mz_sX cA b Lg xs H) : b < H.size := by
  obtain ⟨scr, h1, -⟩ := h
  exact (Array.getElem?_eq_some_iff.mp h1).1
theorem mz_sX_of {cA : Nat → ClassId} {a b x u v Lg : Nat} {xs : Nat → Int32} {H : Heap} (h : mz_scr cA (mz_κ a b x u v Lg xs) H) : mz_sX cA b Lg xs H := by
  obtain ⟨scr, h1, h2, h3, h4, h5, h6⟩ := h
  exact ⟨scr, h1, h2, h3, h4, h5, fun j hj => by have := h6 j hj; rw [mz_κ_xs] at this; exact this⟩
theorem mz_TA_v {a b x u v Lg lo q : Nat} {xs : Nat → Int32} (h : mz_TA (mz_κ a b x u v Lg xs) lo q) : q = a ∨ (x ≤ q ∧ q < x + 126) ∨ lo ≤ q := by
  rcases h with h | h | h
  · exact Or.inl h
  · exact Or.inr (Or.inl (mz_κ_A h))
  · exact Or.inr (Or.inr h)
theorem mz_TAB {a b x u v Lg lo q B : Nat} {xs : Nat → Int32} (h : mz_TA (mz_κ a b x u v Lg xs) lo q) (ha : B ≤ a) (hx : B ≤ x) (hl : B ≤ lo) : B ≤ q := by
  rcases mz_TA_v h with h | h | h <;> omega
theorem mz_TN_lt {D : va_G} {cA : Nat → ClassId} {a b x Lg d : Nat} {xs : Nat → Int32} {H : Heap} (h : mz_TN D cA a b x Lg xs d H) : ∀ q, (q = a ∨ (x ≤ q ∧ q < x + 132)) → q < H.size := by
  have h1 : a < H.size := (h.2 130 _ rfl).lt
  have h2 : x + 131 < H.size := by
    have h3 : mz_TL Lg (fun _ => 0) 137 = some (mz_r 1 0 (mz_rwi 8 0)) := rfl
    exact (h.2 137 _ h3).lt
  intro q hq
  omega
section MZMN
variable {Γ : mz_G} {l : Launch} {D : va_G} {cA : Nat → ClassId} {b B Lg : Nat} {xs : Nat → Int32} {k n : Nat} {ρ : Nat → Nat} {P : Heap → Prop} {pc : Nat} {L : List (Nat × Value)} {st : List Value}
/-- the heap's size has a name, and is not less than at the start -/
theorem lw_named (X : mz_LX Γ l D cA b B) (kk : ∀ z, B ≤ z → mz_W Γ ρ 16 k n (fun H => P H ∧ H.size = z) pc L st) : mz_W Γ ρ 16 k n P pc L st := by
  obtain ⟨p, l', e, R, s, m, args, below, meth, c, H0, A, Q⟩ := Γ
  obtain ⟨-, -, -, rfl, hB, -⟩ := X
  intro H ls locs hP hS hl
  exact kk H.size (by rw [← hB]; exact hS.1) H ls locs ⟨hP, rfl⟩ hS hl
theorem lw_open {z lo lo2 many : Nat} {σ : mz_FS} {tt : Nat} (X : mz_LX Γ l D cA b B) (hBz : B ≤ z) (hbB : b < B)
    (kk : ∀ ρ Mb, mz_LF (mz_κ z b (z + 1) (z + 146) (z + 292) Lg xs) (mz_κ (z + 146) b (z + 147) 0 0 Lg xs) ρ (mz_LL (σ.2.2 5) (σ.2.2 8)) B Lg xs → ρ 131 = b → mz_FI σ.1 (σ.2.2 5) (σ.2.2 7) (σ.2.2 8) 0 → σ.2.1 ≤ 268 → mz_W Γ ρ 16 k n (mz_LP D cA (mz_κ z b (z + 1) (z + 146) (z + 292) Lg xs) (mz_κ (z + 146) b (z + 147) 0 0 Lg xs) ρ (mz_LL (σ.2.2 5) (σ.2.2 8)) Mb σ.1 σ.1 σ.2.1) 65 [(0, .ref 131), (1, .int (nI tt)), (2, .ref 130), (3, .ref 1130), (4, .ref 0)] []) :
    mz_W Γ (mz_l0 b z) 16 k n (fun H => mz_V6 many 6 σ ∧ mz_T D cA (mz_κ z b (z + 1) (z + 146) (z + 292) Lg xs) lo Lg xs σ.1 σ.2.1 σ.2.2 H ∧ mz_T D cA (mz_κ (z + 146) b (z + 147) 0 0 Lg xs) lo2 Lg xs σ.1 σ.2.1 σ.2.2 H) 65 [(0, .ref 131), (1, .int (nI tt)), (2, .ref 130), (3, .ref 1130), (4, .ref 0)] [] := by
  obtain ⟨p, l', e, R, s, m, args, below, meth, c, H0, A, Q⟩ := Γ
  intro H ls locs hP hS hl
  obtain ⟨ρ, Mb, hF, ⟨r0, r1, r2, r3⟩, hLP⟩ := mz_two hbB hBz hP.2.1 hP.2.2
  have e0 : mz_l0 b z 0 = z + 1 := rfl
  have e1 : mz_l0 b z 130 = z := rfl
  have e2 : mz_l0 b z 131 = b := rfl
  have e3 : mz_l0 b z 1130 = z + 146 := rfl
  refine kk ρ Mb hF r2 (mz_T_FI (d := σ.2.1) hP.1 hP.2.1) (by have := hP.1.2.2.2; omega) H ls locs hLP hS ?_
  have eL : mz_L ρ [(0, .ref 131), (1, .int (nI tt)), (2, .ref 130), (3, .ref 1130), (4, .ref 0)] = mz_L (mz_l0 b z) [(0, .ref 131), (1, .int (nI tt)), (2, .ref 130), (3, .ref 1130), (4, .ref 0)] := by
    simp only [mz_L, List.map_cons, List.map_nil, mz_e, r0, r1, r2, r3, e0, e1, e2, e3]
  rw [eL]
  exact hl
set_option maxHeartbeats 8000000 in
theorem lw_time (X : mz_LX Γ l D cA b B) (hLg : Lg < 2 ^ 31) (hbB : b < B) {tt : Nat} (htt : tt ≤ 1) (hρ : ρ 131 = b) (hkn : k ≤ 100000 ∧ n ≤ 1000000)
    (kk : ∀ ρ2 k2 n2, ρ2 131 = b → k2 ≤ k + 600 → n2 ≤ n + 6000 → mz_W Γ ρ2 16 k2 n2 (mz_sX cA b Lg xs) 2 [(0, .ref 131), (1, .int (nI (tt + 1)))] []) : mz_W Γ ρ 16 k n (mz_sX cA b Lg xs) 2 [(0, .ref 131), (1, .int (nI tt))] [] := by
  refine lw_named X (fun z hBz => ?_)
  refine mz_ren (ρ' := (mz_l0 b z)) (L' := [(0, .ref 131), (1, .int (nI tt))]) (st' := []) (by simp [mz_L, mz_e, mz_lρ, mz_cρ, hρ]) rfl ?_
  have C := X.1
  refine mz_goP (lay := (fun _ => none)) (M := mz_Z) (cA := cA) (D := D) (cl := vwCl) (fun _ _ => mz_Hno) FLW KLW C [(2, .iload_n 1), (3, .iconst 2)] (by decide +kernel) (pc' := 4) (L' := [(0, .ref 131), (1, .int (nI tt))]) (st' := [.int 2, .int (nI tt)]) rfl ?_
  refine mz_ige (off := 620) (tgt := 624) C (by decide +kernel) (by decide) (fun h => absurd h (nI_ge (a := tt) (b := 2) (by omega) (by decide))) (fun _ => ?_)
  refine mz_newP (cA := cA) (lay := fun _ => none) (M := mz_Z) (index := 9) (fun _ _ => mz_Hno) (nn := 130) (ci := 10) (N := 12) (T := TX10) (fs := mz_TO0) (fun H h => h.2) (P' := fun H => (mz_sX cA b Lg xs H ∧ mz_H D vwCl cA (mz_cρ z b (z + 1)) (mz_c0 Lg) (mz_c0M xs) H) ∧ H.size = z + 1) (fun H H1 hp h zz hk => ⟨⟨hp.1.kept (hk _ hp.1.lt), fun q sh hq => by rcases mz_c0_130 hq with ⟨rfl, rfl⟩; exact h 130 _ (mz_ls_eq _ _ _)⟩, by rw [zz, hp.2]⟩) C rfl iu_X10 tyX10 tyX10_ok wc_W_9 wi_W_12 wn_W (fun j hj => by have : j < 12 := hj; rcases (show j = 0 ∨ j = 1 ∨ j = 2 ∨ j = 3 ∨ j = 4 ∨ j = 5 ∨ j = 6 ∨ j = 7 ∨ j = 8 ∨ j = 9 ∨ j = 10 ∨ j = 11 by omega) with rfl | rfl | rfl | rfl | rfl | rfl | rfl | rfl | rfl | rfl | rfl | rfl <;> rfl) (by show _ ≤ 797112; omega) (by show _ ≤ 6710362; omega) (by decide +kernel) ?_
  refine mz_goP (lay := (fun _ => none)) (M := mz_Z) (cA := cA) (D := D) (cl := vwCl) (fun _ _ => mz_Hno) FLW KLW C [(10, .dup), (11, .aload_n 0), (12, .bipush 31), (14, .iload_n 1), (15, .imul), (16, .bipush 7)] (by decide +kernel) (pc' := 18) (L' := [(0, .ref 131), (1, .int (nI tt))]) (st' := [.int 7, .int (31 * (nI tt)), .ref 131, .ref 130, .ref 130]) rfl ?_
  rw [show (31 : Int32) * nI tt = nI (31 * tt) from mz_31 tt (by omega)]
  refine mz_goP (lay := (fun _ => none)) (M := mz_Z) (cA := cA) (D := D) (cl := vwCl) (fun _ _ => mz_Hno) FLW KLW C [(18, .iadd)] (by decide +kernel) (pc' := 19) (L' := [(0, .ref 131), (1, .int (nI tt))]) (st' := [.int ((nI (31 * tt)) + 7), .ref 131, .ref 130, .ref 130]) rfl ?_
  rw [show nI (31 * tt) + 7 = nI (31 * tt + 7) from nI_add (31 * tt) 7]
  refine mz_callGI (b := z) (As := [.ref b, .int (nI (31 * tt + 7))]) (rest := [.ref 130]) (index := 11) (P' := fun H => (mz_sX cA b Lg xs H ∧ mz_TN D cA z b (z + 1) Lg xs (31 * tt + 7) H) ∧ H.size = z + 146) C X.2.1 X.2.2.1 (t_init l D cA (z) b (z + 1) Lg xs (31 * tt + 7) (by omega) (by omega) (by omega)) (fun q hq => by show B ≤ q; omega) (fun H h => ⟨h.1.2, h.2⟩) (fun H H1 hp h zz hk => ⟨⟨hp.1.1.kept (hk _ hp.1.1.lt (by omega)), h.1⟩, by rw [h.2]⟩) wl_W_11 hn_X10_init rfl rfl ⟨Nat.le_of_ble_eq_true rfl, Nat.le_of_ble_eq_true rfl⟩ ⟨by show _ ≤ 797112; omega, by show _ ≤ 6710362; omega⟩ (Nat.le_of_ble_eq_true rfl) (by decide +kernel) ?_ rfl
  refine mz_goP (lay := (fun _ => none)) (M := mz_Z) (cA := cA) (D := D) (cl := vwCl) (fun _ _ => mz_Hno) FLW KLW C [(22, .astore_n 2)] (by decide +kernel) (pc' := 23) (L' := [(2, .ref 130), (0, .ref 131), (1, .int (nI tt))]) (st' := []) rfl ?_
  refine mz_newP (cA := cA) (lay := fun _ => none) (M := mz_Z) (index := 9) (fun _ _ => mz_Hno) (nn := 1130) (ci := 10) (N := 12) (T := TX10) (fs := mz_TO0) (fun H h => h.2) (P' := fun H => (mz_sX cA b Lg xs H ∧ mz_TN D cA z b (z + 1) Lg xs (31 * tt + 7) H ∧ mz_H D vwCl cA (mz_cρ (z + 146) b (z + 147)) (mz_c0 Lg) (mz_c0M xs) H) ∧ H.size = z + 147) (fun H H1 hp h zz hk => ⟨⟨hp.1.1.kept (hk _ hp.1.1.lt), hp.1.2.kept (fun q hq => hk q (by rw [hp.2]; omega)), fun q sh hq => by rcases mz_c0_130 hq with ⟨rfl, rfl⟩; exact h 1130 _ (mz_ls_eq _ _ _)⟩, by rw [zz, hp.2]⟩) C rfl iu_X10 tyX10 tyX10_ok wc_W_9 wi_W_12 wn_W (fun j hj => by have : j < 12 := hj; rcases (show j = 0 ∨ j = 1 ∨ j = 2 ∨ j = 3 ∨ j = 4 ∨ j = 5 ∨ j = 6 ∨ j = 7 ∨ j = 8 ∨ j = 9 ∨ j = 10 ∨ j = 11 by omega) with rfl | rfl | rfl | rfl | rfl | rfl | rfl | rfl | rfl | rfl | rfl | rfl <;> rfl) (by show _ ≤ 797112; omega) (by show _ ≤ 6710362; omega) (by decide +kernel) ?_
  refine mz_goP (lay := (fun _ => none)) (M := mz_Z) (cA := cA) (D := D) (cl := vwCl) (fun _ _ => mz_Hno) FLW KLW C [(26, .dup), (27, .aload_n 0), (28, .bipush 31), (30, .iload_n 1), (31, .imul), (32, .bipush 7)] (by decide +kernel) (pc' := 34) (L' := [(2, .ref 130), (0, .ref 131), (1, .int (nI tt))]) (st' := [.int 7, .int (31 * (nI tt)), .ref 131, .ref 1130, .ref 1130]) rfl ?_
  rw [show (31 : Int32) * nI tt = nI (31 * tt) from mz_31 tt (by omega)]
  refine mz_goP (lay := (fun _ => none)) (M := mz_Z) (cA := cA) (D := D) (cl := vwCl) (fun _ _ => mz_Hno) FLW KLW C [(34, .iadd)] (by decide +kernel) (pc' := 35) (L' := [(2, .ref 130), (0, .ref 131), (1, .int (nI tt))]) (st' := [.int ((nI (31 * tt)) + 7), .ref 131, .ref 1130, .ref 1130]) rfl ?_
  rw [show nI (31 * tt) + 7 = nI (31 * tt + 7) from nI_add (31 * tt) 7]
  refine mz_callGI (b := z + 146) (As := [.ref b, .int (nI (31 * tt + 7))]) (rest := [.ref 1130]) (index := 11) (P' := fun H => (mz_sX cA b Lg xs H ∧ mz_TN D cA z b (z + 1) Lg xs (31 * tt + 7) H ∧ mz_TN D cA (z + 146) b (z + 147) Lg xs (31 * tt + 7) H) ∧ H.size = z + 292) C X.2.1 X.2.2.1 (t_init l D cA (z + 146) b (z + 147) Lg xs (31 * tt + 7) (by omega) (by omega) (by omega)) (fun q hq => by show B ≤ q; omega) (fun H h => ⟨h.1.2.2, h.2⟩) (fun H H1 hp h zz hk => ⟨⟨hp.1.1.kept (hk _ hp.1.1.lt (by omega)), hp.1.2.1.kept (fun q hq => hk q (by rw [hp.2]; omega) (by omega)), h.1⟩, by rw [h.2]⟩) wl_W_11 hn_X10_init rfl rfl ⟨Nat.le_of_ble_eq_true rfl, Nat.le_of_ble_eq_true rfl⟩ ⟨by show _ ≤ 797112; omega, by show _ ≤ 6710362; omega⟩ (Nat.le_of_ble_eq_true rfl) (by decide +kernel) ?_ rfl
  refine mz_goP (lay := (mz_DL Lg)) (M := (mz_s (mz_c0M xs) 130 (upd (mz_c0M xs 130) 2 (nI (31 * tt + 7))))) (cA := cA) (D := D) (cl := vwCl) (fun H h q sh hq => by rcases mz_DL_130 hq with ⟨rfl, rfl⟩; exact h.1.2.1.2 130 _ rfl) FLW KLW C [(38, .astore_n 3), (39, .aload_n 2), (40, .getfield 14), (43, .astore 4), (45, .aload_n 2), (46, .bipush 9)] (by decide +kernel) (pc' := 48) (L' := [(4, .ref 0), (3, .ref 1130), (2, .ref 130), (0, .ref 131), (1, .int (nI tt))]) (st' := [.int 9, .ref 130]) rfl ?_
  refine mz_mono (P' := fun H => mz_T D cA (mz_κ z b (z + 1) (z + 146) (z + 292) Lg xs) (z + 292) Lg xs mz_m7 (31 * tt + 7) (fun _ => 0) H ∧ mz_TN D cA (z + 146) b (z + 147) Lg xs (31 * tt + 7) H) (fun H h => ⟨mz_TN_T h.1.2.1 h.1.1 (by omega) (by omega) (by omega) (by rw [h.2]; exact Nat.le_refl _) (Nat.le_refl _) (by omega) (fun q hq => by omega), h.1.2.2⟩) ?_
  obtain ⟨many, σ, F⟩ := t_found Lg xs mz_m7 (31 * tt + 7) (fun _ => 0) hLg (by omega) (fun _ _ => rfl) (fun _ _ _ _ => mz_m7_8 _)
  refine mz_callG (ci := 10) (T := TX10) (N := 12) (b := (mz_κ z b (z + 1) (z + 146) (z + 292) Lg xs) 130) (As := [.int 9]) (rest := []) (index := 18) (P' := fun H => (mz_V6 many 6 σ ∧ mz_T D cA (mz_κ z b (z + 1) (z + 146) (z + 292) Lg xs) (z + 292) Lg xs σ.1 σ.2.1 σ.2.2 H) ∧ mz_TN D cA (z + 146) b (z + 147) Lg xs (31 * tt + 7) H) C X.2.1 X.2.2.1 (F l D cA (mz_κ z b (z + 1) (z + 146) (z + 292) Lg xs) mz_κ_I (z + 292)) (fun q hq => mz_TAB hq (by omega) (by omega) (by omega)) (fun _ h => h.1) (fun _ h => mz_T.at h.1) (fun H H1 hp h zz hk => ⟨h, hp.2.kept (fun q hq => hk q (mz_TN_lt hp.2 q hq) (fun hA => by rcases mz_TA_v hA with h1 | h1 | h1 <;> omega))⟩) hy_X10_found wl_W_18 rfl rfl ⟨Nat.le_of_ble_eq_true rfl, Nat.le_of_ble_eq_true rfl⟩ ⟨by show _ ≤ 797112; omega, by show _ ≤ 6710362; omega⟩ (Nat.le_of_ble_eq_true rfl) (by decide +kernel) (st' := [.int 1]) ?_ rfl rfl
  refine mz_zeq (off := 12) (tgt := 63) C (by decide +kernel) (by decide) (fun h => absurd h (by decide)) (fun _ => ?_)
  refine mz_goP (lay := (fun _ => none)) (M := mz_Z) (cA := cA) (D := D) (cl := vwCl) (fun _ _ => mz_Hno) FLW KLW C [(54, .aload_n 3), (55, .bipush 9)] (by decide +kernel) (pc' := 57) (L' := [(4, .ref 0), (3, .ref 1130), (2, .ref 130), (0, .ref 131), (1, .int (nI tt))]) (st' := [.int 9, .ref 1130]) rfl ?_
  refine lw_named X (fun z2 hBz2 => ?_)
  refine mz_mono (P' := fun H => ((mz_V6 many 6 σ ∧ mz_T D cA (mz_κ z b (z + 1) (z + 146) (z + 292) Lg xs) (z + 292) Lg xs σ.1 σ.2.1 σ.2.2 H) ∧ mz_T D cA (mz_κ (z + 146) b (z + 147) 0 0 Lg xs) z2 Lg xs mz_m7 (31 * tt + 7) (fun _ => 0) H) ∧ H.size = z2) (fun H h => ⟨⟨h.1.1, mz_TN_T h.1.2 (mz_sX_of h.1.1.2.1.2.2.1) (by omega) (by omega) (by omega) (by rw [h.2]; exact Nat.le_refl _) (Nat.zero_le _) (by omega) (fun q hq => by omega)⟩, h.2⟩) ?_
  refine mz_callG (ci := 10) (T := TX10) (N := 12) (b := (mz_κ (z + 146) b (z + 147) 0 0 Lg xs) 130) (As := [.int 9]) (rest := []) (index := 18) (P' := fun H => mz_V6 many 6 σ ∧ mz_T D cA (mz_κ z b (z + 1) (z + 146) (z + 292) Lg xs) (z + 292) Lg xs σ.1 σ.2.1 σ.2.2 H ∧ mz_T D cA (mz_κ (z + 146) b (z + 147) 0 0 Lg xs) z2 Lg xs σ.1 σ.2.1 σ.2.2 H) C X.2.1 X.2.2.1 (F l D cA (mz_κ (z + 146) b (z + 147) 0 0 Lg xs) mz_κ_I z2) (fun q hq => mz_TAB hq (by omega) (by omega) (by omega)) (fun _ h => h.1.2) (fun _ h => mz_T.at h.1.2) (fun H H1 hp h zz hk => ⟨h.1, hp.1.1.2.kept zz (fun q hq hr => hk q hq (fun hA => by rcases mz_TA_v hA with h1 | h1 | h1 <;> first | exact hr (by show z + 146 ≤ q ∧ q < z + 292; omega) | (rw [hp.2] at hq; omega))) (fun q hq hr => by have := mz_κ_A hq; have hr : z + 146 ≤ q ∧ q < z + 292 := hr; omega) (fun hr => by have hr : z + 146 ≤ b ∧ b < z + 292 := hr; omega), h.2⟩) hy_X10_found wl_W_18 rfl rfl ⟨Nat.le_of_ble_eq_true rfl, Nat.le_of_ble_eq_true rfl⟩ ⟨by show _ ≤ 797112; omega, by show _ ≤ 6710362; omega⟩ (Nat.le_of_ble_eq_true rfl) (by decide +kernel) (st' := [.int 1]) ?_ rfl rfl
  refine mz_zne (off := 5) (tgt := 65) C (by decide +kernel) (by decide) (fun _ => ?_) (fun h => absurd h (by decide))
  refine mz_sub (L' := [(0, .ref 131), (1, .int (nI tt)), (2, .ref 130), (3, .ref 1130), (4, .ref 0)]) (by simp) ?_
  refine lw_open X hBz hbB (many := many) (σ := σ) (lo := z + 292) (lo2 := z2) (fun ρ Mb hF hρ2 hFI hd => ?_)
  refine mz_goP (lay := (mz_LL (σ.2.2 5) (σ.2.2 8))) (M := (mz_MD Mb σ.2.1)) (cA := cA) (D := D) (cl := vwCl) (fun _ h => h.2.2.2) FLW KLW C [(65, .iconst 0), (66, .istore 5)] (by decide +kernel) (pc' := 68) (L' := [(5, .int 0), (0, .ref 131), (1, .int (nI tt)), (2, .ref 130), (3, .ref 1130), (4, .ref 0)]) (st' := []) rfl ?_
  refine mz_sub (L' := [(0, .ref 131), (1, .int (nI tt)), (2, .ref 130), (3, .ref 1130), (4, .ref 0), (5, .int (nI 0))]) (by simp [nI_0]) ?_
  refine lw_rounds (k := k + 492) (n := n + 4624) X hF hLg ⟨by omega, by omega⟩ (fun N now e2 k2 n2 hN he2 hk2 hn2 => ?_) 5 0 σ.1 0 σ.2.1 _ _ rfl hFI (by omega) (by omega) (by omega) (by omega)
  refine mz_goP (lay := (mz_LL (σ.2.2 5) (σ.2.2 8))) (M := (mz_MD Mb e2)) (cA := cA) (D := D) (cl := vwCl) (fun _ h => h.2.2.2) FLW KLW C [(618, .iinc 1 1), (621, .goto (-619))] (by decide +kernel) (pc' := 2) (L' := [(1, .int ((nI tt) + 1)), (0, .ref 131), (2, .ref 130), (3, .ref 1130), (4, .ref 0)]) (st' := []) rfl ?_
  rw [nI_1]
  refine mz_sub (L' := [(0, .ref 131), (1, .int (nI (tt + 1)))]) (by simp) ?_
  exact mz_mono (fun H h => mz_sX_of h.2.2.1) (kk ρ k2 n2 hρ2 (by omega) (by omega))
theorem law_main (X : mz_LX Γ l D cA b B) (hLg : Lg < 2 ^ 31) (hbB : b < B) (hρ : ρ 131 = b) : mz_W Γ ρ 16 0 0 (mz_sX cA b Lg xs) 0 [(0, .ref 131)] [] := by
  have C := X.1
  refine mz_goP (lay := (fun _ => none)) (M := mz_Z) (cA := cA) (D := D) (cl := vwCl) (fun _ _ => mz_Hno) FLW KLW C [(0, .iconst 0), (1, .istore_n 1)] (by decide +kernel) (pc' := 2) (L' := [(1, .int 0), (0, .ref 131)]) (st' := []) rfl ?_
  refine mz_sub (L' := [(0, .ref 131), (1, .int (nI 0))]) (by simp [nI_0]) ?_
  refine lw_time X hLg hbB (tt := 0) (by omega) hρ ⟨by omega, by omega⟩ (fun ρ1 k1 n1 h1 hk1 hn1 => ?_)
  refine lw_time X hLg hbB (tt := 1) (by omega) h1 ⟨by omega, by omega⟩ (fun ρ2 k2 n2 h2 hk2 hn2 => ?_)
  refine mz_goP (lay := (fun _ => none)) (M := mz_Z) (cA := cA) (D := D) (cl := vwCl) (fun _ _ => mz_Hno) FLW KLW C [(2, .iload_n 1), (3, .iconst 2)] (by decide +kernel) (pc' := 4) (L' := [(0, .ref 131), (1, .int (nI 2))]) (st' := [.int 2, .int (nI 2)]) rfl ?_
  refine mz_ige (off := 620) (tgt := 624) C (by decide +kernel) (by decide) (fun _ => ?_) (fun h => absurd (show (2 : Int32) ≤ nI 2 by decide) h)
  refine mz_goP (lay := (fun _ => none)) (M := mz_Z) (cA := cA) (D := D) (cl := vwCl) (fun _ _ => mz_Hno) FLW KLW C [(624, .iconst 1)] (by decide +kernel) (pc' := 625) (L' := [(0, .ref 131), (1, .int (nI 2))]) (st' := [.int 1]) rfl ?_
  exact mz_lend X (by omega) (by omega) (by decide +kernel)
end MZMN
