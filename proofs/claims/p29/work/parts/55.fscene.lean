/-! a scene that is found: its row while it is made -/
def mz_MD (M : mz_Mem) (e : Nat) : mz_Mem := mz_s M 130 (upd (M 130) 2 (nI e))
theorem mz_MD_id {M : mz_Mem} {e : Nat} (h : M 130 2 = nI e) : mz_MD M e = M := by
  unfold mz_MD
  rw [← h, mz_upd_self]
  exact mz_s_id M 130
theorem mz_MD_s (M : mz_Mem) (e e' : Nat) (f : Nat → Int32) : mz_s (mz_s (mz_MD M e) 700 f) 130 (upd ((mz_s (mz_MD M e) 700 f) 130) 2 (nI e')) = mz_s (mz_MD M e') 700 f := by
  rw [mz_s_ne (show (130 : Nat) ≠ 700 by decide), mz_s_c _ f _ (show (700 : Nat) ≠ 130 by decide)]
  unfold mz_MD
  rw [mz_s_s, mz_s_eq, mz_upd_2]
theorem mz_LK.eq7 {N M M' : mz_Mem} {sz : Nat → Nat} (h : mz_LK N M sz) (e : ∀ k, 132 ≤ k ∧ k < 700 → M' k = M k) : mz_LK N M' sz := by
  obtain ⟨h1, h2, h3, h4, h5, h6, h7, h8⟩ := h
  have h14 := h1
  refine ⟨h1, h2, fun i hi => by rw [e 132 (by omega)]; exact h3 i hi, fun i hi => ?_, fun a b ha hb => ?_, fun i hi => ?_, fun g hg => ?_, h8⟩
  · rw [e (200 + i) (by omega)]; exact h4 i hi
  · rcases h5 a b ha hb with h | ⟨i, hi, h, h'⟩
    · exact Or.inl h
    · exact Or.inr ⟨i, hi, h, by rw [e (200 + i) (by omega)]; exact h'⟩
  · rw [e (500 + i) (by omega)]; exact h6 i hi
  · rw [e (600 + g) (by omega)]; exact h7 g hg
theorem mz_fd_none {P : Int32 → Bool} : ∀ (r j : Nat), (∀ k, j ≤ k → k < j + r → P (nI k) = false) → mz_fd P j r = none
  | 0, _, _ => rfl
  | r + 1, j, h => by
    unfold mz_fd
    rw [if_neg (by rw [h j (Nat.le_refl _) (by omega)]; decide)]
    exact mz_fd_none r (j + 1) (fun k h1 h2 => h k (by omega) (by omega))
theorem mz_find_none {P : Int32 → Bool} {n : Nat} (hn : n < 2 ^ 31) (h : ∀ k, k < n → P (nI k) = false) : mz_find (nI n) P = none := by
  unfold mz_find mz_n
  rw [nI_toInt hn]
  exact mz_fd_none _ _ (fun k _ h2 => h k (by omega))
theorem mz_and_pos (a : Int32) {q : Nat} (hq : q < 2 ^ 31) : 0 ≤ a &&& nI q := by
  have e : a &&& nI q = nI ((a.toBitVec &&& (nI q).toBitVec).toNat) := by
    apply Int32.toBitVec_inj.mp
    rw [Int32.toBitVec_and]
    show a.toBitVec &&& (nI q).toBitVec = BitVec.ofNat 32 _
    rw [BitVec.ofNat_toNat, BitVec.setWidth_eq]
  rw [e]
  have e2 : (nI q).toBitVec.toNat = q := by
    show (BitVec.ofNat 32 q).toNat = q
    rw [BitVec.toNat_ofNat]
    omega
  refine nI_pos' ?_
  rw [BitVec.toNat_and]
  refine Nat.lt_of_le_of_lt Nat.and_le_right ?_
  rw [e2]; exact hq
theorem mz_2v : ∀ v, v < 5 → (1 : Int32) <<< (nI v &&& 31) = nI (2 ^ v) := by decide
theorem mz_2T : ∀ T, T ≤ 5 → (1 : Int32) <<< (nI T &&& 31) - 1 = nI (2 ^ T - 1) := by decide
theorem mz_arT {T s : Nat} (hT : T ≤ 5) (h0 : 0 < s) (hs : s < 2 ^ T) : ¬ nI s ≤ 0 ∧ ¬ ((1 : Int32) <<< (nI T &&& 31)) ≤ nI s := by
  have q : ∀ T, T ≤ 5 → (1 : Int32) <<< (nI T &&& 31) = nI (2 ^ T) ∧ 2 ^ T ≤ 32 := by decide
  obtain ⟨q1, q2⟩ := q T hT
  rw [q1]
  exact ⟨nI_nle h0 (by omega), nI_ge hs (by omega)⟩
theorem mz_pw (T : Nat) (h : T ≤ 5) : 2 ^ T ≤ 32 := by
  have : ∀ n, n ≤ 5 → 2 ^ n ≤ 32 := by decide
  exact this T h
theorem mz_s5q_ok (Lg : Nat) (xs : Nat → Int32) (d : Nat) {T : Nat} (h1 : 1 ≤ T) (h5 : T ≤ 5) : ∃ s, 0 < s ∧ s < 2 ^ T ∧ mz_s5q Lg xs d T = nI s := by
  have hp : 2 ≤ 2 ^ T := by
    have : ∀ n, n ≤ 5 → 1 ≤ n → 2 ≤ 2 ^ n := by decide
    exact this T h5 h1
  have hp2 := mz_pw T h5
  unfold mz_s5q
  split
  · have := (mz_dv_ok Lg xs (d + 3) (n := 2 ^ T - 1) (by omega) (by omega)).1
    exact ⟨_, by omega, by omega, rfl⟩
  · have := (mz_dv_ok Lg xs (d + 6) (n := T) (by omega) (by omega)).1
    exact ⟨2 ^ mz_dv Lg xs (d + 6) T, Nat.two_pow_pos _, Nat.pow_lt_pow_right (by decide) this, mz_2v _ (by omega)⟩
theorem mz_s5p_ok (Lg : Nat) (xs : Nat → Int32) (d : Nat) : (¬ mz_s5p Lg xs d = -1 → ¬ mz_s5p Lg xs d < 0) ∧ (¬ mz_s5p Lg xs d = -1 → mz_s5p Lg xs d < nI 2) := by
  unfold mz_s5p
  split
  · exact ⟨fun h => absurd rfl h, fun h => absurd rfl h⟩
  · have h := (mz_dv_ok Lg xs (d + 4) (n := 3) (by decide) (by decide)).1
    have q : ∀ v, v < 3 → (¬ nI v - 1 = -1 → ¬ nI v - 1 < 0) ∧ (¬ nI v - 1 = -1 → nI v - 1 < nI 2) := by decide
    exact q _ h
theorem mz_noPlay {N M : mz_Mem} {sz : Nat → Nat} (h : mz_LK N M sz) (hN : mz_NI N sz) : g_X1_anyIsPlayed N = 0 := by
  unfold g_X1_anyIsPlayed
  have h5 := h.1.2.2.1
  rw [h.2.1.2.2.1, mz_find_none (n := sz 5) (by omega) (fun k hk => by
    unfold g_X1_anyIsPlayed_1
    rw [mz_rg_n (show k < 5 by omega) (by decide), hN.2.2.1 k hk]
    rfl)]
theorem mz_noOver {N M : mz_Mem} {sz : Nat → Nat} (h : mz_LK N M sz) {q s d : Nat} (hq : q < 32) (hs : s ≤ 12) (hd : d ≤ 6) (hc : mz_cs N (nI q) s d (sz 7)) : g_X7_overlapsSceneOf N (nI q) (nI s) (nI d) = 0 := by
  unfold g_X7_overlapsSceneOf
  have h7 := h.1.2.2.2.2.1
  rw [h.2.1.2.2.2.2.1, mz_find_none (n := sz 7) (by omega) (fun k hk => by
    obtain ⟨-, -, -, x, y, hx, hy1, hy, w4, w5⟩ := h.2.2.2.2.2.1 k hk
    unfold g_X7_overlapsSceneOf_1
    rw [mz_rg_n (show k < 12 by omega) (by decide), mz_rg_n (show k < 12 by omega) (by decide), mz_rg_n (show k < 12 by omega) (by decide), w4, w5, nI_add, nI_add]
    by_cases h1 : nI (x + y) ≤ nI s
    · rw [if_pos h1]
    · rw [if_neg h1]
      by_cases h2 : nI (s + d) ≤ nI x
      · rw [if_pos h2]
      · rw [if_neg h2]
        by_cases h3 : (N 27 k) &&& (nI q) = 0
        · rw [if_pos h3]
        · exfalso
          have hp : 0 < N 27 k &&& nI q := by
            have := mz_and_pos (N 27 k) (q := q) (by omega)
            rw [Int32.lt_iff_toInt_lt]
            rw [Int32.le_iff_toInt_le] at this
            have ne : ¬ (N 27 k &&& nI q).toInt = (0 : Int32).toInt := fun e => h3 (Int32.toInt_inj.mp e)
            omega
          have := hc k hk hp
          rw [w4, w5, nI_toInt (by omega), nI_toInt (by omega)] at this
          unfold mz_ov at this
          have g1 : ¬ x + y ≤ s := fun z => h1 (nI_le z (by omega))
          have g2 : ¬ s + d ≤ x := fun z => h2 (nI_le z (by omega))
          rw [if_pos ⟨by show x < s + d; omega, by show s < x + y; omega⟩] at this
          exact absurd this (by decide))]
section MZFC5
variable {Γ : mz_G} {l : Launch} {D : va_G} {cA : Nat → ClassId} {κ ρ : Nat → Nat} {lo Lg d z : Nat} {xs : Nat → Int32} {N M : mz_Mem} {sz : Nat → Nat} {k n pc : Nat} {L : List (Nat × Value)} {st : List Value}
theorem fw_grow {nL : Nat} (hL : ∀ ρ : Nat → Nat, ρ 130 = κ 130 → mz_L ρ L = mz_L κ L) (hs : ∀ ρ : Nat → Nat, ρ 130 = κ 130 → st.map (mz_e ρ) = st.map (mz_e κ))
    (kk : ∀ (ρ : Nat → Nat) (M : mz_Mem) (z : Nat), mz_TF κ lo Lg xs N d ρ M sz → (∀ k sh, mz_TL Lg sz k = some sh → ρ k < z) → (∀ q, mz_B κ q → q < z) → lo ≤ z → mz_W Γ (mz_r1 ρ z) nL k n (mz_TQ D cA κ lo (mz_r1 ρ z) (mz_TL Lg sz) N M z) pc L st) : mz_W Γ κ nL k n (mz_T D cA κ lo Lg xs N d sz) pc L st := by
  obtain ⟨p, l', e, R, s, m, args, below, meth, c, H0, A, Q⟩ := Γ
  intro H ls locs hP hS hl
  obtain ⟨hC, ρ, M, hF, hH⟩ := hP
  have e : mz_r1 ρ H.size 130 = κ 130 := hF.1.2.1
  have h := kk ρ M H.size hF (fun k sh hk => (hH k sh hk).lt) (hC.2.B fun q hq => hC.1.lt hq) hC.2.1 H ls locs ⟨⟨hC, mz_H_r1 (mz_LK_sz hF.2.2.2.2.2.1) hH⟩, rfl⟩ hS (by rw [hL _ e]; exact hl)
  rw [hs _ e] at h
  exact h
theorem mz_TF_MD (hF : mz_TF κ lo Lg xs N d ρ M sz) {e : Nat} (he : e < 2 ^ 20) : mz_TF κ lo Lg xs N e ρ (mz_MD M e) sz :=
  ⟨hF.1, hF.2.1, hF.2.2.1, hF.2.2.2.1, ⟨by unfold mz_MD; rw [mz_s_eq, mz_upd_eq], he, hF.2.2.2.2.1.2.2⟩, hF.2.2.2.2.2.1.eq (fun k hk => mz_s_ne (by omega)), hF.2.2.2.2.2.2⟩
theorem mz_TF_r1 (hF : mz_TF κ lo Lg xs N d ρ M sz) (hlt : ∀ k sh, mz_TL Lg sz k = some sh → ρ k < z) (hcl : ∀ q, mz_B κ q → q < z) : mz_TF κ lo Lg xs N d (mz_r1 ρ z) M sz :=
  ⟨⟨hF.1.1, hF.1.2.1, hF.1.2.2.1, hF.1.2.2.2.1, fun k sh hk => by
    have := mz_TL_lt hk
    rw [mz_r1_ne (by omega) (by omega)]
    exact hF.1.2.2.2.2 k sh hk⟩, fun k sh hk h2 => by
    have := mz_TL_lt hk
    rw [mz_r1_ne (by omega) (by omega)]
    exact hF.2.1 k sh hk h2, mz_I_r1 hF.2.2.1 hlt mz_LQ0, mz_nA hF.2.2.2.1 hcl mz_LQ0, hF.2.2.2.2⟩
/-- the row is left -/
theorem mz_Tdrop {e w K : Nat} {f : Nat → Int32} (hF : mz_TF κ lo Lg xs N d ρ M sz) (hlt : ∀ k sh, mz_TL Lg sz k = some sh → ρ k < z) (hcl : ∀ q, mz_B κ q → q < z) (he : e < 2 ^ 20) : ∀ H, mz_TQ D cA κ lo (mz_r1 ρ z) (mz_ls (mz_TL Lg sz) 700 (mz_a K)) N (mz_s (mz_MD M e) 700 f) w H → mz_T D cA κ lo Lg xs N e sz H := by
  intro H h
  refine ⟨h.1.1, mz_r1 ρ z, mz_MD M e, mz_TF_r1 (mz_TF_MD hF he) hlt hcl, fun k sh hk => ?_⟩
  have hl := mz_TL_lt hk
  have h2 := h.1.2 k sh (by rw [mz_ls_ne (by omega)]; exact hk)
  have e2 : mz_ent cA (mz_r1 ρ z) (mz_s (mz_MD M e) 700 f) k sh = mz_ent cA (mz_r1 ρ z) (mz_MD M e) k sh := by
    rcases sh with n | o | g | f <;> simp only [mz_ent, mz_s_ne (show k ≠ 700 by omega)]
  rw [e2] at h2
  exact h2
theorem fw_drawR (X : mz_FC Γ l D cA κ lo) (hF : mz_TF κ lo Lg xs N d ρ M sz) (hlt : ∀ k sh, mz_TL Lg sz k = some sh → ρ k < z) (hcl : ∀ q, mz_B κ q → q < z) {n0 : Nat} {e : Nat} {f : Nat → Int32} (h0 : 0 < n0) (hn : n0 < 2 ^ 31) (hLg : Lg < 2 ^ 31) (hd1 : e + 1 < 2 ^ 20) (hk : k ≤ 100) (hn2 : n ≤ 1000) (hst : (st.map fun v => v.category).sum ≤ 8) (hd : decode cX10_found pc = .ok (.invokevirtual 152, 3))
    (kk : mz_W Γ (mz_r1 ρ z) 6 k n (mz_TQ D cA κ lo (mz_r1 ρ z) (mz_ls (mz_TL Lg sz) 700 (mz_a 10)) N (mz_s (mz_MD M (e + 1)) 700 f) (z + 1)) (pc + 3) L (.int (nI (mz_dv Lg xs e n0)) :: st)) :
    mz_W Γ (mz_r1 ρ z) 6 k n (mz_TQ D cA κ lo (mz_r1 ρ z) (mz_ls (mz_TL Lg sz) 700 (mz_a 10)) N (mz_s (mz_MD M e) 700 f) (z + 1)) pc L (.int (nI n0) :: .ref 130 :: st) := by
  obtain ⟨C, hO, E⟩ := X
  rw [← (mz_dv_ok Lg xs e h0 hn).2] at kk
  have hLQ : mz_LQ Lg sz (mz_ls (mz_TL Lg sz) 700 (mz_a 10)) := mz_LQ0.s (Or.inl rfl)
  refine mz_callJ (ci := 10) (T := TX10) (N := 12) (b := (mz_r1 ρ z) 130) (As := [.int (nI n0)]) (rest := st) (index := 152) (fry := 1) (loy := 21) (mcy := 0) (msy := 0) (Pre := mz_TQ D cA κ lo (mz_r1 ρ z) (mz_ls (mz_TL Lg sz) 700 (mz_a 10)) N (mz_s (mz_MD M e) 700 f) (z + 1)) (Post := mz_TQ D cA κ lo (mz_r1 ρ z) (mz_ls (mz_TL Lg sz) 700 (mz_a 10)) N (mz_s (mz_MD M (e + 1)) 700 f) (z + 1)) (A1 := mz_TA κ lo) (r := some (.int (mz_dr Lg xs e n0))) C hO E
    (t_drawG l D cA κ (mz_r1 ρ z) Lg xs (mz_s (mz_MD M e) 700 f) e n0 _ _ (mz_TA κ lo) (Or.inl hF.1.2.1) hF.1.2.2.1 (fun H h => h.1.1.2.2.1) (mz_I_r1 hF.2.2.1 hlt (fun k sh h => Or.inr (Or.inr ⟨sh, mz_DL_sub Lg sz k sh h⟩))) (fun H h => mz_H_TL (fun k sh h => ?_) h.1.2) (fun H H1 h h1 h2 h3 => ?_) ?_ hF.2.2.2.2.1.2.2 hLg hd1 h0 hn)
    (fun _ h => h) (fun _ h => h) (fun H h => ⟨_, h.1.2 130 _ rfl⟩) (fun _ _ _ h _ _ => h) hy_X10_draw wl_X10_152 rfl rfl ⟨Nat.le_of_ble_eq_true rfl, Nat.le_of_ble_eq_true rfl⟩ ⟨hk, hn2⟩ hst hd kk rfl rfl
  · have h := mz_DL_sub Lg sz k sh h
    have hl := mz_TL_lt h
    rw [mz_ls_ne (by omega)]
    exact h
  · rw [← mz_MD_s M e (e + 1) f]
    exact mz_TQ.put (a := (mz_r1 ρ z) 130) (hF.2.2.2.1 130 _ rfl) h (mz_H_put (mz_I_r1 hF.2.2.1 hlt hLQ) h.1.2 rfl (h1 130 _ rfl) h3) h2 h3
  · rw [mz_s_ne (by decide)]
    unfold mz_MD
    rw [mz_s_eq, mz_upd_eq]
end MZFC5
