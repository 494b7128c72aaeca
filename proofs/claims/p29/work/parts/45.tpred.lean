/-! a house that is told: its object, its arrays, their rows; and what ties them to the class's own -/
def mz_wd (j : Nat) : Nat := if j = 4 then 4 else if j = 5 then 4 else if j = 6 then 5 else if j = 7 then 10 else 7
def mz_rwi (j n : Nat) : Nat → Option Nat := fun i => if i < n then some (100 * (j - 2) + i) else none
abbrev mz_TO : List (Option (Option Nat)) := [some (some 0), some (some 131), none, some (some 132), some (some 133), some (some 134), some (some 135), some (some 136), some (some 137), some (some 138), none, none]
def mz_TL (Lg : Nat) (sz : Nat → Nat) : mz_Lay := fun k =>
  if k = 130 then some (mz_o 10 mz_TO) else if k = 131 then some (mz_a Lg) else if k = 132 then some (mz_a (sz 3))
  else if k = 133 then some (mz_r 1 (sz 4) (mz_rwi 4 (sz 4))) else if k = 134 then some (mz_r 1 (sz 5) (mz_rwi 5 (sz 5))) else if k = 135 then some (mz_r 1 (sz 6) (mz_rwi 6 (sz 6)))
  else if k = 136 then some (mz_r 1 (sz 7) (mz_rwi 7 (sz 7))) else if k = 137 then some (mz_r 1 (sz 8) (mz_rwi 8 (sz 8)))
  else if 200 ≤ k ∧ k < 700 ∧ k % 100 < sz (k / 100 + 2) then some (mz_a (mz_wd (k / 100 + 2))) else none
theorem mz_TL_row {Lg j i : Nat} {sz : Nat → Nat} (hj : 4 ≤ j ∧ j ≤ 8) (hi : i < sz j) (h100 : sz j ≤ 100) : mz_TL Lg sz (100 * (j - 2) + i) = some (mz_a (mz_wd j)) := by
  unfold mz_TL
  have e : (100 * (j - 2) + i) / 100 + 2 = j := by omega
  have e2 : (100 * (j - 2) + i) % 100 = i := by omega
  rw [if_neg (by omega), if_neg (by omega), if_neg (by omega), if_neg (by omega), if_neg (by omega), if_neg (by omega), if_neg (by omega), if_neg (by omega), e, e2]
  exact if_pos ⟨by omega, by omega, hi⟩
theorem mz_TL_cases {Lg k : Nat} {sz : Nat → Nat} {sh : mz_Sh} (h : mz_TL Lg sz k = some sh) : (k = 130 ∧ sh = mz_o 10 mz_TO) ∨ (k = 131 ∧ sh = mz_a Lg) ∨ (k = 132 ∧ sh = mz_a (sz 3)) ∨ (∃ j, 4 ≤ j ∧ j ≤ 8 ∧ k = 129 + j ∧ sh = mz_r 1 (sz j) (mz_rwi j (sz j))) ∨ ∃ j i, 4 ≤ j ∧ j ≤ 8 ∧ i < sz j ∧ i < 100 ∧ k = 100 * (j - 2) + i ∧ sh = mz_a (mz_wd j) := by
  unfold mz_TL at h
  by_cases h0 : k = 130
  · rw [if_pos h0] at h; cases h; exact Or.inl ⟨h0, rfl⟩
  rw [if_neg h0] at h
  by_cases h1 : k = 131
  · rw [if_pos h1] at h; cases h; exact Or.inr (Or.inl ⟨h1, rfl⟩)
  rw [if_neg h1] at h
  by_cases h2 : k = 132
  · rw [if_pos h2] at h; cases h; exact Or.inr (Or.inr (Or.inl ⟨h2, rfl⟩))
  rw [if_neg h2] at h
  refine Or.inr (Or.inr (Or.inr ?_))
  by_cases h3 : k = 133
  · rw [if_pos h3] at h; cases h; exact Or.inl ⟨4, by omega, by omega, h3, rfl⟩
  rw [if_neg h3] at h
  by_cases h4 : k = 134
  · rw [if_pos h4] at h; cases h; exact Or.inl ⟨5, by omega, by omega, h4, rfl⟩
  rw [if_neg h4] at h
  by_cases h5 : k = 135
  · rw [if_pos h5] at h; cases h; exact Or.inl ⟨6, by omega, by omega, h5, rfl⟩
  rw [if_neg h5] at h
  by_cases h6 : k = 136
  · rw [if_pos h6] at h; cases h; exact Or.inl ⟨7, by omega, by omega, h6, rfl⟩
  rw [if_neg h6] at h
  by_cases h7 : k = 137
  · rw [if_pos h7] at h; cases h; exact Or.inl ⟨8, by omega, by omega, h7, rfl⟩
  rw [if_neg h7] at h
  by_cases h8 : 200 ≤ k ∧ k < 700 ∧ k % 100 < sz (k / 100 + 2)
  · rw [if_pos h8] at h; cases h
    exact Or.inr ⟨k / 100 + 2, k % 100, by omega, by omega, h8.2.2, by omega, by omega, rfl⟩
  · rw [if_neg h8] at h; cases h
/-- how many of the first n are r -/
def mz_cnt (f : Nat → Int32) (r : Int32) : Nat → Nat
  | 0 => 0
  | n + 1 => mz_cnt f r n + (if f n = r then 1 else 0)
/-- what is told is what the class has -/
def mz_LK (N M : mz_Mem) (sz : Nat → Nat) : Prop :=
  (sz 3 ≤ 8 ∧ sz 4 ≤ 14 ∧ sz 5 ≤ 5 ∧ sz 6 ≤ 4 ∧ sz 7 ≤ 12 ∧ sz 8 ≤ 12) ∧
  (N 1 0 = nI (sz 3) ∧ N 1 1 = nI (sz 4) ∧ N 15 0 = nI (sz 5) ∧ N 15 1 = nI (sz 6) ∧ N 15 2 = nI (sz 7) ∧ N 60 0 = nI (sz 8)) ∧
  (∀ i, i < sz 3 → M 132 i = N 3 i) ∧
  (∀ i, i < sz 4 → ∃ a b, a < sz 3 ∧ b < sz 3 ∧ M (200 + i) 0 = nI a ∧ M (200 + i) 1 = nI b ∧ N 8 (a * 8 + b) = nI i ∧ N 8 (b * 8 + a) = nI i) ∧
  (∀ a b, a < 8 → b < 8 → N 8 (a * 8 + b) = -1 ∨ ∃ i, i < sz 4 ∧ N 8 (a * 8 + b) = nI i ∧ ((M (200 + i) 0 = nI a ∧ M (200 + i) 1 = nI b) ∨ (M (200 + i) 0 = nI b ∧ M (200 + i) 1 = nI a))) ∧
  (∀ i, i < sz 7 → M (500 + i) 1 = N 23 i ∧ M (500 + i) 2 = N 25 i ∧ M (500 + i) 3 = N 27 i ∧ ∃ s d, s ≤ 12 ∧ 1 ≤ d ∧ d ≤ 6 ∧ N 23 i = nI s ∧ N 25 i = nI d) ∧
  (∀ g, g < sz 8 → M (600 + g) 0 = N 62 g ∧ M (600 + g) 1 = N 64 g) ∧
  (∀ r, r < sz 3 → N 77 r = nI (mz_cnt (N 62) (nI r) (sz 8)))
/-- what the class's own has while it is told -/
def mz_NI (N : mz_Mem) (sz : Nat → Nat) : Prop :=
  N 6 0 = 8 ∧ N 30 7 = 0 ∧ (∀ t, t < sz 5 → N 37 t = -1) ∧ mz_HV N (sz 5) (sz 8) ∧ mz_kb N
def mz_TF (κ : Nat → Nat) (lo Lg : Nat) (xs : Nat → Int32) (N : mz_Mem) (d : Nat) (ρ : Nat → Nat) (M : mz_Mem) (sz : Nat → Nat) : Prop :=
  (ρ 0 = κ 0 ∧ ρ 130 = κ 130 ∧ ρ 131 = κ 131) ∧
  (∀ k sh, mz_TL Lg sz k = some sh → 200 ≤ k → lo ≤ ρ k) ∧
  mz_I ρ (mz_TL Lg sz) ∧ (∀ k sh, mz_TL Lg sz k = some sh → ¬ mz_A κ mz_lay2 (ρ k)) ∧
  (M 130 2 = nI d ∧ d < 2 ^ 20 ∧ M 131 = xs) ∧ mz_LK N M sz ∧ mz_NI N sz
/-- the told house, with the class's object that it tells -/
def mz_T (D : va_G) (cA : Nat → ClassId) (κ : Nat → Nat) (lo Lg : Nat) (xs : Nat → Int32) (N : mz_Mem) (d : Nat) (sz : Nat → Nat) (H : Heap) : Prop :=
  mz_CP D cA κ N H ∧ ∃ (ρ : Nat → Nat) (M : mz_Mem), mz_TF κ lo Lg xs N d ρ M sz ∧ mz_H D vwCl cA ρ (mz_TL Lg sz) M H
/-- what a told house's methods may change -/
def mz_TA (κ : Nat → Nat) (lo : Nat) : Nat → Prop := fun q => q = κ 130 ∨ mz_A κ mz_lay2 q ∨ lo ≤ q
/-- a memory in another numbering -/
theorem mz_H_ren {D : va_G} {cl : List vw_C} {cA : Nat → ClassId} {ρ θ : Nat → Nat} {lay lay' : mz_Lay} {M : mz_Mem} {H : Heap} (h : mz_H D cl cA ρ lay M H) (hs : ∀ k sh, lay' k = some sh → lay (θ k) = some (mz_shm θ sh)) : mz_H D cl cA (fun k => ρ (θ k)) lay' (fun k => M (θ k)) H := by
  intro k sh hk
  rw [mz_ent_lift cA ρ θ (M := M) sh rfl]
  exact h _ _ (hs k sh hk)
