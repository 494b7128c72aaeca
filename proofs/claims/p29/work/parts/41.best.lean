/-! habits told twice; what is known, counted; the law's comparisons -/
theorem mz_rs_2 (n : Nat) (f : Nat → Int32) (i v w : Int32) : mz_rs n (mz_rs n f i v) i w = mz_rs n f i w := by
  unfold mz_rs
  by_cases h1 : i < 0
  · rw [if_pos h1, if_pos h1, if_pos h1]
  · rw [if_neg h1, if_neg h1, if_neg h1]
    by_cases h2 : Int32.ofNat n ≤ i
    · rw [if_pos h2, if_pos h2, if_pos h2]
    · rw [if_neg h2, if_neg h2, if_neg h2]; exact mz_upd_2 _ _ _ _
theorem mz_ch (N : mz_Mem) (g a t : Int32) : g_X0_changeHabit N g a t = mz_s (mz_s N 64 (mz_rs 12 (N 64) g a)) 66 (mz_rs 12 (N 66) g (if a = 1 then t else -1)) := by
  unfold g_X0_changeHabit
  by_cases h : a = 1
  · rw [if_pos h, if_pos h]; rfl
  · rw [if_neg h, if_neg h]; rfl
theorem mz_ch_2 (N : mz_Mem) (g a s b t : Int32) : g_X0_changeHabit (g_X0_changeHabit N g a s) g b t = g_X0_changeHabit N g b t := by
  rw [mz_ch, mz_ch N g b t, mz_ch N g a s]
  funext k
  by_cases h6 : k = 66
  · subst h6
    rw [mz_s_eq, mz_s_eq, mz_s_eq, mz_rs_2]
  · rw [mz_s_ne h6, mz_s_ne h6]
    by_cases h4 : k = 64
    · subst h4
      rw [mz_s_eq, mz_s_eq, mz_s_ne (by decide), mz_s_eq, mz_rs_2]
    · rw [mz_s_ne h4, mz_s_ne h4, mz_s_ne h6, mz_s_ne h4]
theorem mz_ch_t (N : mz_Mem) (g a s t : Int32) (h : a = 1 → s = t) : g_X0_changeHabit N g a s = g_X0_changeHabit N g a t := by
  rw [mz_ch, mz_ch]
  by_cases h1 : a = 1
  · rw [h h1]
  · rw [if_neg h1, if_neg h1]
/-- every guest goes by a habit, and follows a track just where it follows -/
def mz_HV (N : mz_Mem) (nT nG : Nat) : Prop := ∀ g, g < nG → (N 64 g = 1 ∧ ∃ t, t < nT ∧ N 66 g = nI t) ∨ ((N 64 g = 0 ∨ N 64 g = 2 ∨ N 64 g = 3) ∧ N 66 g = -1)
/-- by the answer c -/
def mz_by (N : mz_Mem) (g c : Int32) : mz_Mem := g_X0_changeHabit N g (if c < 10 then c else 1) (c - 10)
theorem mz_upd_at {f : Nat → Int32} {i j : Nat} {x : Int32} (h : j ≠ i) : upd f i x j = f j := by simp [upd, h]
theorem mz_ch_self {N : mz_Mem} {g : Nat} {a t : Int32} (hg : g < 12) (h1 : N 64 g = a) (h2 : N 66 g = if a = 1 then t else -1) : g_X0_changeHabit N (nI g) a t = N := by
  rw [mz_ch, mz_rs_n hg (by decide), mz_rs_n hg (by decide), ← h2, ← h1, mz_upd_self, mz_upd_self, mz_s_id]
  exact mz_s_id N 66
theorem mz_cd {N : mz_Mem} {nT nG g : Nat} (h : mz_HV N nT nG) (hT : nT ≤ 5) (hG : nG ≤ 12) (hg : g < nG) : ∃ c, c < 10 + nT ∧ ¬ mz_stc (nI c) = 0 ∧ mz_by N (nI g) (nI c) = N := by
  rcases h g hg with ⟨h1, t, ht, h2⟩ | ⟨h1, h2⟩
  · have q : ∀ t, t < 5 → ¬ mz_stc (nI (10 + t)) = 0 ∧ ¬ nI (10 + t) < 10 ∧ nI (10 + t) - 10 = nI t := by decide
    obtain ⟨q1, q2, q3⟩ := q t (by omega)
    refine ⟨10 + t, by omega, q1, ?_⟩
    unfold mz_by
    rw [if_neg q2, q3]
    exact mz_ch_self (by omega) h1 (by rw [if_pos rfl, h2])
  · have key : ∀ c, c < 10 → ¬ mz_stc (nI c) = 0 → ¬ nI c = 1 → N 64 g = nI c → ∃ c, c < 10 + nT ∧ ¬ mz_stc (nI c) = 0 ∧ mz_by N (nI g) (nI c) = N := by
      intro c hc q1 q2 q3
      refine ⟨c, by omega, q1, ?_⟩
      unfold mz_by
      rw [if_pos (by
        have : ∀ c, c < 10 → nI c < 10 := by decide
        exact this c hc)]
      exact mz_ch_self (by omega) q3 (by rw [if_neg q2, h2])
    rcases h1 with h1 | h1 | h1
    · exact key 0 (by decide) (by decide) (by decide) h1
    · exact key 2 (by decide) (by decide) (by decide) h1
    · exact key 3 (by decide) (by decide) (by decide) h1
/-- a habit that is told is one -/
theorem mz_HV_by {N : mz_Mem} {nT nG g c : Nat} (h : mz_HV N nT nG) (hT : nT ≤ 5) (hG : nG ≤ 12) (hg : g < nG) (hc : c < 10 + nT) (hs : ¬ mz_stc (nI c) = 0) : mz_HV (mz_by N (nI g) (nI c)) nT nG := by
  intro j hj
  unfold mz_by
  rw [mz_ch, mz_rs_n (show g < 12 by omega) (by decide), mz_rs_n (show g < 12 by omega) (by decide)]
  rw [mz_s_ne (show (64 : Nat) ≠ 66 by decide), mz_s_eq, mz_s_eq]
  by_cases e : j = g
  · subst e
    rw [mz_upd_eq, mz_upd_eq]
    have q : ∀ c, c < 15 → ¬ mz_stc (nI c) = 0 → (10 ≤ c ∧ ¬ nI c < 10 ∧ nI c - 10 = nI (c - 10)) ∨ (nI c < 10 ∧ (nI c = 0 ∨ nI c = 2 ∨ nI c = 3) ∧ ¬ nI c = 1) := by decide
    rcases q c (by omega) hs with ⟨q1, q2, q3⟩ | ⟨q1, q2, q3⟩
    · rw [if_neg q2, if_pos rfl]
      exact Or.inl ⟨rfl, c - 10, by omega, q3⟩
    · rw [if_pos q1, if_neg q3]
      exact Or.inr ⟨q2, rfl⟩
  · rw [mz_upd_at e, mz_upd_at e]
    exact h j hj
theorem mz_by_hs (N : mz_Mem) (g c : Int32) : mz_hs N (mz_by N g c) := g_X0_changeHabit_hs _ _ _ _
theorem mz_by_68 (N : mz_Mem) (g c : Int32) : mz_by N g c 68 = N 68 := g_X0_changeHabit_hv _ _ _ _ 68 rfl
theorem mz_by_30 (N : mz_Mem) (g c : Int32) : mz_by N g c 30 = N 30 := g_X0_changeHabit_ht _ _ _ _ 30 rfl
theorem mz_by_2 (N : mz_Mem) (g c d : Int32) : mz_by (mz_by N g c) g d = mz_by N g d := mz_ch_2 _ _ _ _ _ _
theorem mz_kn_by (N : mz_Mem) (g m c : Int32) : mz_kn N g m c = mz_bitc (mz_rg 12 (g_X2_run (mz_by N g c) m 68) g) := rfl
/-! counted -/
theorem mz_4096 {p : Nat → Prop} (q : ∀ a, a < 64 → ∀ b, b < 64 → p (a * 64 + b)) : ∀ j, j < 4096 → p j := fun j hj => by
  have := q (j / 64) (by omega) (j % 64) (by omega)
  rw [show j / 64 * 64 + j % 64 = j by omega] at this
  exact this
theorem mz_bitc_pos : ∀ j, j < 4096 → -1 < mz_bitc (nI j) := mz_4096 (p := fun j => -1 < mz_bitc (nI j)) (by decide +kernel)
theorem mz_nI_of {x : Int32} (h : 0 ≤ x ∧ x < 4096) : ∃ j, j < 4096 ∧ x = nI j := by
  rw [Int32.le_iff_toInt_le, Int32.lt_iff_toInt_lt] at h
  have e2 : (4096 : Int32).toInt = 4096 := by decide
  have e3 : (0 : Int32).toInt = 0 := by decide
  rw [e2, e3] at h
  refine ⟨x.toInt.toNat, by omega, Int32.toInt_inj.mp ?_⟩
  rw [nI_toInt (by omega)]
  omega
theorem mz_bitc_rg {f : Nat → Int32} (h : ∀ j, 0 ≤ f j ∧ f j < 4096) (g : Int32) : -1 < mz_bitc (mz_rg 12 f g) := by
  unfold mz_rg
  split
  · decide +kernel
  · split
    · decide +kernel
    · obtain ⟨j, hj, e⟩ := mz_nI_of (h g.toNatClampNeg)
      rw [e]
      exact mz_bitc_pos j hj
theorem mz_run_kb {N : mz_Mem} (m : Int32) (hn : mz_n (N 15 2) ≤ 12) (h : mz_kb N) : mz_kb (g_X2_run N m) := by
  rw [g_X2_run_its]
  exact mz_its_kb _ _ hn h
theorem mz_kn_pos {N : mz_Mem} (hn : mz_n (N 15 2) ≤ 12) (h : mz_kb N) (g m c : Int32) : -1 < mz_kn N g m c := by
  rw [mz_kn_by]
  refine mz_bitc_rg (mz_run_kb m ?_ (h.eq (mz_by_68 N g c))) g
  rw [mz_by_hs N g c 15 (by decide)]
  exact hn
theorem mz_HV_run {N : mz_Mem} {nT nG : Nat} (m : Int32) (h : mz_HV N nT nG) : mz_HV (g_X2_run N m) nT nG := by
  intro g hg
  rw [g_X2_run_hr N m 64 (by decide), g_X2_run_hr N m 66 (by decide)]
  exact h g hg
/-! minutes one by one -/
theorem mz_run_1 (N : mz_Mem) : g_X2_run N 1 = mz_st1 N := by rw [g_X2_run_its]; rfl
theorem mz_its_s (N : mz_Mem) (x : Nat) : mz_its (x + 1) N = mz_st1 (mz_its x N) := by rw [mz_its_add]; rfl
theorem mz_run_n (N : mz_Mem) {x : Nat} (h : x < 2 ^ 31) : g_X2_run N (nI x) = mz_its x N := by
  rw [g_X2_run_its]
  unfold mz_n
  rw [nI_toInt h]
  rfl
