/-! the law's state: what both houses have in common -/
abbrev mz_TO2 : List (Option (Option Nat)) := [some (some 1000), some (some 1131), none, some (some 1132), some (some 1133), some (some 1134), some (some 1135), some (some 1136), some (some 1137), some (some 1138), none, none]
def mz_LL (nT nG : Nat) : mz_Lay := fun k => if k = 130 then some (mz_o 10 mz_TO) else if k = 134 then some (mz_r 1 nT (mz_rwi 5 nT)) else if k = 137 then some (mz_r 1 nG (mz_rwi 8 nG)) else if k = 1130 then some (mz_o 10 mz_TO2) else none
def mz_FI (N : mz_Mem) (nT nS nG now : Nat) : Prop :=
  (3 ≤ nT ∧ nT ≤ 5) ∧ nS ≤ 12 ∧ nG ≤ 12 ∧ N 15 0 = nI nT ∧ N 15 2 = nI nS ∧ N 60 0 = nI nG ∧ N 30 7 = nI now ∧ mz_kb N ∧ mz_HV N nT nG
section MZFI
variable {N : mz_Mem} {nT nS nG now : Nat}
theorem mz_FI.n2 (h : mz_FI N nT nS nG now) : mz_n (N 15 2) ≤ 12 := by
  rw [h.2.2.2.2.1]
  unfold mz_n
  have := h.2.1
  rw [nI_toInt (by omega)]
  omega
theorem mz_n_nI {m : Nat} (h : m < 2 ^ 31) : mz_n (nI m) = m := by
  unfold mz_n
  rw [nI_toInt h]
  rfl
theorem mz_FI.to {M : mz_Mem} (h : mz_FI N nT nS nG now) (hs : mz_hs N M) (h68 : M 68 = N 68) (h30 : M 30 = N 30) (hv : mz_HV M nT nG) : mz_FI M nT nS nG now := by
  obtain ⟨a1, a2, a3, a4, a5, a6, a7, a8, a9⟩ := h
  exact ⟨a1, a2, a3, by rw [hs 15 (by decide)]; exact a4, by rw [hs 15 (by decide)]; exact a5, by rw [hs 60 (by decide)]; exact a6, by rw [h30]; exact a7, a8.eq h68, hv⟩
theorem mz_HV.eq {M : mz_Mem} (h : mz_HV N nT nG) (h64 : M 64 = N 64) (h66 : M 66 = N 66) : mz_HV M nT nG := fun g hg => by
  rw [h64, h66]
  exact h g hg
theorem mz_FI.by {g c : Nat} (h : mz_FI N nT nS nG now) (hg : g < nG) (hc : c < 10 + nT) (hs : ¬ mz_stc (nI c) = 0) : mz_FI (mz_by N (nI g) (nI c)) nT nS nG now :=
  h.to (mz_by_hs _ _ _) (mz_by_68 _ _ _) (mz_by_30 _ _ _) (mz_HV_by h.2.2.2.2.2.2.2.2 h.1.2 h.2.2.1 hg hc hs)
theorem mz_FI.its {x : Nat} (h : mz_FI N nT nS nG now) (hx : x < 2 ^ 31) : mz_FI (mz_its x N) nT nS nG (now + x) := by
  have hv := mz_HV_run (nI x) h.2.2.2.2.2.2.2.2
  rw [mz_run_n N hx] at hv
  have hn2 := h.n2
  obtain ⟨a1, a2, a3, a4, a5, a6, a7, a8, a9⟩ := h
  have hs := mz_its_hs x N
  refine ⟨a1, a2, a3, by rw [hs 15 (by decide)]; exact a4, by rw [hs 15 (by decide)]; exact a5, by rw [hs 60 (by decide)]; exact a6, ?_, mz_its_kb x N hn2 a8, hv⟩
  rw [mz_its_30, a7]
  exact nI_add now x
theorem mz_FI.start (t b : Int32) (h : mz_FI N nT nS nG now) : mz_FI (g_X1_startDouble N t b) nT nS nG now :=
  h.to (g_X1_startDouble_hs N t b) (g_X1_startDouble_hv N t b 68 rfl) (g_X1_startDouble_ht N t b 30 rfl) (h.2.2.2.2.2.2.2.2.eq rfl rfl)
theorem mz_FI.endD (t : Int32) (h : mz_FI N nT nS nG now) : mz_FI (g_X1_endDouble N t) nT nS nG now :=
  h.to (g_X1_endDouble_hs N t) (g_X1_endDouble_hv N t 68 rfl) (g_X1_endDouble_ht N t 30 rfl) (h.2.2.2.2.2.2.2.2.eq rfl rfl)
theorem mz_FI.kn (h : mz_FI N nT nS nG now) (g m c : Int32) : -1 < mz_kn N g m c := mz_kn_pos h.n2 h.2.2.2.2.2.2.2.1 g m c
theorem mz_FI.nb (h : mz_FI N nT nS nG now) : mz_n (10 + N 15 0) = 10 + nT := by
  rw [h.2.2.2.1, show (10 : Int32) + nI nT = nI (10 + nT) from nI_add 10 nT]
  have := h.1.2
  exact mz_n_nI (by omega)
/-- the best habit -/
theorem mz_FI.best {g m : Int32} (h : mz_FI N nT nS nG now) (hm : 0 < mz_n m) : ∃ b, b < 10 + nT ∧ mz_bst N g m = nI b ∧ ¬ mz_stc (nI b) = 0 ∧ ∀ c, c < 10 + nT → ¬ mz_stc (nI c) = 0 → mz_kn N g m (nI c) ≤ mz_kn N g m (nI b) ∧ (mz_kn N g m (nI c) = mz_kn N g m (nI b) → b ≤ c) := by
  obtain ⟨-, b, h1, h2, h3, h4⟩ := mz_sp_best (mz_bst_EQ N) hm (fun c => h.kn g m c) (g := g) (by rw [h.nb]; omega)
  rw [h.nb] at h1 h4
  exact ⟨b, h1, h2, h3, h4⟩
theorem mz_FI.was {g : Nat} (h : mz_FI N nT nS nG now) (hg : g < nG) (m : Int32) : ∃ c, c < 10 + nT ∧ ¬ mz_stc (nI c) = 0 ∧ mz_bitc (mz_rg 12 (g_X2_run N m 68) (nI g)) = mz_kn N (nI g) m (nI c) := by
  obtain ⟨c, h1, h2, h3⟩ := mz_cd h.2.2.2.2.2.2.2.2 h.1.2 h.2.2.1 hg
  exact ⟨c, h1, h2, by rw [mz_kn_by, h3]⟩
theorem mz_bk (g m c d : Int32) : mz_bitc (mz_rg 12 (g_X2_run (mz_by (mz_by N g c) g d) m 68) g) = mz_kn N g m d := by rw [mz_by_2]; rfl
end MZFI
theorem mz_m9 (N : mz_Mem) : g_X9_many N 9 = mz_sum 12 (N 50) := rfl
theorem mz_og4 (N : mz_Mem) (g : Int32) : g_X9_ofGuest N g 4 = mz_rg 12 (N 68) g := rfl
theorem mz_sss (a b c : Int32) : (a - b) - (c - b) = a - c := by
  rw [Int32.sub_eq_add_neg a b, Int32.sub_eq_add_neg _ (c - b), Int32.neg_sub, Int32.sub_eq_add_neg b c, Int32.add_assoc, ← Int32.add_assoc (-b), Int32.add_left_neg, Int32.zero_add, ← Int32.sub_eq_add_neg]
theorem mz_asub (a b : Int32) : a + (b - a) = b := by
  rw [Int32.add_comm, Int32.sub_add_cancel]
/-- the other habit that is told -/
def mz_oc (o t : Nat) : Nat := if o = 1 then 10 + t else o
theorem mz_oc_ok {o t nT : Nat} (ho : o < 4) (ht : t < nT) (hT : nT ≤ 5) : mz_oc o t < 10 + nT ∧ ¬ mz_stc (nI (mz_oc o t)) = 0 := by
  have h1 : ∀ q, q < 5 → ¬ mz_stc (nI (10 + q)) = 0 := by decide
  have h2 : ∀ o, o < 4 → o ≠ 1 → ¬ mz_stc (nI o) = 0 := by decide
  unfold mz_oc
  by_cases h : o = 1
  · rw [if_pos h]; exact ⟨by omega, h1 t (by omega)⟩
  · rw [if_neg h]; exact ⟨by omega, h2 o ho h⟩
theorem mz_rg_kb {N : mz_Mem} {g : Nat} (h : mz_kb N) (hg : g < 12) : 0 ≤ mz_rg 12 (N 68) (nI g) ∧ mz_rg 12 (N 68) (nI g) < 4096 := by
  rw [mz_rg_n hg (by decide)]
  exact h _
theorem mz_mm {mm : Nat} (h : 1 ≤ mm ∧ mm ≤ 20) : 0 < mz_n (nI mm) ∧ ¬ nI mm < 1 ∧ nI mm ≤ 40 ∧ nI mm ≤ 60 := by
  refine ⟨by rw [mz_n_nI (by omega)]; omega, nI_nlt (a := mm) (b := 1) h.1 (by omega), nI_le (b := 40) (by omega) (by omega), nI_le (b := 60) (by omega) (by omega)⟩
theorem mz_in0i {nT j : Nat} (h : j < nT) (hT : nT ≤ 12) : ¬ nI j < 0 ∧ nI j < nI nT := ⟨nI_pos (by omega), nI_lt h (by omega)⟩
