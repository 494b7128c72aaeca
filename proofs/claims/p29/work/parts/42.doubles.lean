/-! sets of doubles -/
def mz_bs (b : Nat → Bool) : Nat → Nat
  | 0 => 0
  | n + 1 => mz_bs b n + (if b n = true then 2 ^ n else 0)
theorem mz_bs_lt (b : Nat → Bool) : ∀ n, mz_bs b n < 2 ^ n
  | 0 => by show 0 < 1; omega
  | n + 1 => by
    have := mz_bs_lt b n
    show mz_bs b n + (if b n = true then 2 ^ n else 0) < 2 ^ (n + 1)
    rw [Nat.pow_succ]
    split <;> omega
theorem mz_bs_bit (b : Nat → Bool) : ∀ n k, k < n → mz_bs b n / 2 ^ k % 2 = if b k = true then 1 else 0
  | 0, k, h => by omega
  | n + 1, k, h => by
    show (mz_bs b n + (if b n = true then 2 ^ n else 0)) / 2 ^ k % 2 = _
    by_cases e : k = n
    · subst e
      have h1 := mz_bs_lt b k
      by_cases hb : b k = true
      · rw [if_pos hb, if_pos hb, Nat.add_div_right _ (Nat.two_pow_pos k), Nat.div_eq_of_lt h1]
      · rw [if_neg hb, if_neg hb, Nat.add_zero, Nat.div_eq_of_lt h1]
    · rw [← mz_bs_bit b n k (by omega)]
      by_cases hb : b n = true
      · rw [if_pos hb]
        obtain ⟨d, hd⟩ : ∃ d, n = k + (d + 1) := ⟨n - k - 1, by omega⟩
        have e2 : 2 ^ n = 2 ^ k * (2 * 2 ^ d) := by rw [hd, Nat.pow_add, Nat.pow_succ, Nat.mul_comm (2 ^ d) 2]
        rw [e2, Nat.add_mul_div_left _ _ (Nat.two_pow_pos k)]
        omega
      · rw [if_neg hb, Nat.add_zero]
/-- whether by can play t -/
def mz_cb (N : mz_Mem) (t : Int32) (by_ : Nat) : Bool := decide (¬ nI by_ = t) && decide (¬ g_X2_canDouble N t (nI by_) = 0)
theorem mz_doubles {N : mz_Mem} {nT : Nat} (t : Int32) (h : N 15 0 = nI nT) (hT : nT ≤ 5) : g_X9_doubles N t = nI (mz_bs (mz_cb N t) nT) := by
  have key := mz_lp_ix (g_X9_doubles_1 N t) (fun j a => a = nI (mz_bs (mz_cb N t) j)) nT (fun j a hj ha => ?_) nT 0 0 (by omega) (by show (0 : Int32) = nI 0; decide)
  · rw [Nat.zero_add] at key
    unfold g_X9_doubles mz_fr mz_n
    rw [h, nI_toInt (by omega)]
    exact key
  · subst ha
    unfold g_X9_doubles_1
    show _ = nI (mz_bs (mz_cb N t) j + (if mz_cb N t j = true then 2 ^ j else 0))
    have q : ∀ j, j < 5 → ∀ s, s < 2 ^ j → nI s ||| (1 <<< (nI j &&& 31)) = nI (s + 2 ^ j) := by decide
    by_cases h1 : nI j = t
    · have e : mz_cb N t j = false := by unfold mz_cb; rw [decide_eq_false (fun z => z h1)]; rfl
      rw [if_pos h1, e, if_neg (by decide), Nat.add_zero]
    · rw [if_neg h1]
      by_cases h2 : g_X2_canDouble N t (nI j) = 0
      · have e : mz_cb N t j = false := by unfold mz_cb; rw [decide_eq_false (p := ¬ g_X2_canDouble N t (nI j) = 0) (fun z => z h2), Bool.and_false]
        rw [if_pos h2, e, if_neg (by decide), Nat.add_zero]
      · have e : mz_cb N t j = true := by unfold mz_cb; rw [decide_eq_true h1, decide_eq_true h2]; rfl
        rw [if_neg h2, e, if_pos rfl]
        exact q j (by omega) _ (mz_bs_lt _ _)
/-- the law's question whether a set has a place -/
def mz_hf (s k : Int32) : Int32 := if (s >>> (k &&& 31)) - (s >>> (k &&& 31)) / 2 * 2 = 1 then 1 else 0
theorem mz_hf_n : ∀ s, s < 32 → ∀ k, k < 5 → mz_hf (nI s) (nI k) = if s / 2 ^ k % 2 = 1 then 1 else 0 := by decide +kernel
theorem mz_bs_32 (b : Nat → Bool) {nT : Nat} (hT : nT ≤ 5) : mz_bs b nT < 32 := Nat.lt_of_lt_of_le (mz_bs_lt b nT) (by
  have : ∀ n, n ≤ 5 → 2 ^ n ≤ 32 := by decide
  exact this nT hT)
theorem mz_hf_doubles {N : mz_Mem} {nT k : Nat} (t : Int32) (h : N 15 0 = nI nT) (hT : nT ≤ 5) (hk : k < nT) : mz_hf (g_X9_doubles N t) (nI k) = if mz_cb N t k = true then 1 else 0 := by
  rw [mz_doubles t h hT, mz_hf_n _ (mz_bs_32 _ hT) k (by omega), mz_bs_bit _ _ _ hk]
  by_cases e : mz_cb N t k = true
  · rw [if_pos e, if_pos e]; rfl
  · rw [if_neg e, if_neg e]; rfl
theorem mz_cb_self (N : mz_Mem) (k : Nat) : mz_cb N (nI k) k = false := by unfold mz_cb; rw [decide_eq_false (fun z => z rfl)]; rfl
theorem mz_cb_other {N : mz_Mem} {k j : Nat} (hk : k < 5) (hj : j < 5) (h : j ≠ k) : mz_cb N (nI k) j = true ↔ ¬ g_X2_canDouble N (nI k) (nI j) = 0 := by
  unfold mz_cb
  rw [decide_eq_true (p := ¬ nI j = nI k) (fun e => h ((nI_eq (by omega) (by omega)).mp e)), Bool.true_and]
  exact decide_eq_true_iff
theorem mz_doubles_lt {N : mz_Mem} {nT : Nat} (t : Int32) (h : N 15 0 = nI nT) (hT : nT ≤ 5) : g_X9_doubles N t < 1 <<< (nI nT &&& 31) := by
  rw [mz_doubles t h hT]
  have q : ∀ n, n ≤ 5 → ∀ s, s < 2 ^ n → nI s < 1 <<< (nI n &&& 31) := by decide
  exact q nT hT _ (mz_bs_lt _ _)
/-! played -/
theorem mz_count_pos {N : mz_Mem} {nS : Nat} (s : Int32) (h : N 15 2 = nI nS) (hS : nS ≤ 12) : 0 ≤ g_X7_countScenesOf N s := by
  have key := mz_lp_ix (g_X7_countScenesOf_1 N s) (fun j a => ∃ c, c ≤ j ∧ a = nI c) nS (fun j a hj ha => ?_) nS 0 0 (by omega) ⟨0, by omega, by decide⟩
  · rw [Nat.zero_add] at key
    obtain ⟨c, hc, e⟩ := key
    unfold g_X7_countScenesOf mz_fr mz_n
    rw [h, nI_toInt (by omega), show ((nS : Int)).toNat = nS from rfl, e]
    exact nI_pos' (by omega)
  · obtain ⟨c, hc, rfl⟩ := ha
    unfold g_X7_countScenesOf_1
    by_cases h1 : (g_X7_has N (nI j) s) = 0
    · rw [if_pos h1]; exact ⟨c, by omega, rfl⟩
    · rw [if_neg h1, nI_1]; exact ⟨c + 1, by omega, rfl⟩
theorem mz_can_free {N : mz_Mem} {t b : Int32} (h : ¬ g_X2_canDouble N t b = 0) : ((g_X8_busyTracks N) &&& ((1 <<< (t &&& 31)) ||| (1 <<< (b &&& 31)))) = 0 := by
  unfold g_X2_canDouble at h
  by_cases h1 : ((g_X8_busyTracks N) &&& ((1 <<< (t &&& 31)) ||| (1 <<< (b &&& 31)))) = 0
  · exact h1
  · exact absurd (if_neg h1) h
theorem mz_busy_start (N : mz_Mem) (t b : Int32) : g_X8_busyTracks (g_X1_startDouble N t b) = g_X8_busyTracks N := rfl
theorem mz_player_start {N : mz_Mem} {t : Nat} (b : Int32) (ht : t < 5) : mz_rg 5 (g_X1_startDouble N (nI t) b 37) (nI t) = b := by
  show mz_rg 5 (mz_rs 5 (N 37) (nI t) b) (nI t) = b
  rw [mz_rs_n ht (by decide), mz_rg_n ht (by decide), mz_upd_eq]
