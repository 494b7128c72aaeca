/-! a house that is told: its object, its arrays, their rows; and what ties them to the class's own -/
def mz_wd (j : Nat) : Nat := if j = 4 then 4 else if j = 5 then 4 else if j = 6 then 5 else if j = 7 then 10 else 7
def mz_rwi (j n : Nat) : Nat → Option Nat := fun i => if i < n then some (100 * (j - 2) + i) else none
abbrev mz_TO : List (Option (Option Nat)) := [some (some 0), some (some 131), none, some (some 132), some (some 133), some (some 134), some (some 135), some (some 136), some (some 137), some (some 138), none, none]
def mz_TL (Lg : Nat) (sz : Nat → Nat) : mz_Lay := fun k =>
  if k = 130 then some (mz_o 10 mz_TO) else if k = 132 then some (mz_a (sz 3))
  else if k = 133 then some (mz_r 1 (sz 4) (mz_rwi 4 (sz 4))) else if k = 134 then some (mz_r 1 (sz 5) (mz_rwi 5 (sz 5))) else if k = 135 then some (mz_r 1 (sz 6) (mz_rwi 6 (sz 6)))
  else if k = 136 then some (mz_r 1 (sz 7) (mz_rwi 7 (sz 7))) else if k = 137 then some (mz_r 1 (sz 8) (mz_rwi 8 (sz 8)))
  else if 200 ≤ k ∧ k < 700 ∧ k % 100 < sz (k / 100 + 2) then some (mz_a (mz_wd (k / 100 + 2))) else none
theorem mz_TL_row {Lg j i : Nat} {sz : Nat → Nat} (hj : 4 ≤ j ∧ j ≤ 8) (hi : i < sz j) (h100 : sz j ≤ 100) : mz_TL Lg sz (100 * (j - 2) + i) = some (mz_a (mz_wd j)) := by
  unfold mz_TL
  have e : (100 * (j - 2) + i) / 100 + 2 = j := by omega
  have e2 : (100 * (j - 2) + i) % 100 = i := by omega
  rw [if_neg (by omega), if_neg (by omega), if_neg (by omega), if_neg (by omega), if_neg (by omega), if_neg (by omega), if_neg (by omega), e, e2]
  exact if_pos ⟨by omega, by omega, hi⟩
theorem mz_TL_cases {Lg k : Nat} {sz : Nat → Nat} {sh : mz_Sh} (h : mz_TL Lg sz k = some sh) : (k = 130 ∧ sh = mz_o 10 mz_TO) ∨ (k = 132 ∧ sh = mz_a (sz 3)) ∨ (∃ j, 4 ≤ j ∧ j ≤ 8 ∧ k = 129 + j ∧ sh = mz_r 1 (sz j) (mz_rwi j (sz j))) ∨ ∃ j i, 4 ≤ j ∧ j ≤ 8 ∧ i < sz j ∧ i < 100 ∧ k = 100 * (j - 2) + i ∧ sh = mz_a (mz_wd j) := by
  unfold mz_TL at h
  by_cases h0 : k = 130
  · rw [if_pos h0] at h; cases h; exact Or.inl ⟨h0, rfl⟩
  rw [if_neg h0] at h
  by_cases h2 : k = 132
  · rw [if_pos h2] at h; cases h; exact Or.inr (Or.inl ⟨h2, rfl⟩)
  rw [if_neg h2] at h
  refine Or.inr (Or.inr ?_)
  by_cases h3 : k = 133
  · rw [if_pos h3] at h; cases h; exact Or.inl ⟨4, by omega, by omega, h3, rfl⟩
  rw [if_neg h3] at h
  by_cases h4 : k = 134
  · rw [if_pos h4] at h; cases h; exact Or.inl ⟨5, by omega, by omega, h4, rfl⟩
  rw [if_neg h4] at h
  by_cases h5 : k = 135
  · rw [if_pos h5] at h; cases h; exact Or.inl ⟨6, by omega, by omega, h5, rfl⟩
  rw [if_neg h5] at h
  by_cases h6 : k = 136
  · rw [if_pos h6] at h; cases h; exact Or.inl ⟨7, by omega, by omega, h6, rfl⟩
  rw [if_neg h6] at h
  by_cases h7 : k = 137
  · rw [if_pos h7] at h; cases h; exact Or.inl ⟨8, by omega, by omega, h7, rfl⟩
  rw [if_neg h7] at h
  by_cases h8 : 200 ≤ k ∧ k < 700 ∧ k % 100 < sz (k / 100 + 2)
  · rw [if_pos h8] at h; cases h
    exact Or.inr ⟨k / 100 + 2, k % 100, by omega, by omega, h8.2.2, by omega, by omega, rfl⟩
  · rw [if_neg h8] at h; cases h
/-- how many of the first n are r -/
def mz_cnt (f : Nat → Int32) (r : Int32) : Nat → Nat
  | 0 => 0
  | n + 1 => mz_cnt f r n + (if f n = r then 1 else 0)
/-- what is told is what the class has -/
def mz_LK (N M : mz_Mem) (sz : Nat → Nat) : Prop :=
  (sz 3 ≤ 8 ∧ sz 4 ≤ 14 ∧ sz 5 ≤ 5 ∧ sz 6 ≤ 4 ∧ sz 7 ≤ 12 ∧ sz 8 ≤ 12) ∧
  (N 1 0 = nI (sz 3) ∧ N 1 1 = nI (sz 4) ∧ N 15 0 = nI (sz 5) ∧ N 15 1 = nI (sz 6) ∧ N 15 2 = nI (sz 7) ∧ N 60 0 = nI (sz 8)) ∧
  (∀ i, i < sz 3 → M 132 i = N 3 i) ∧
  (∀ i, i < sz 4 → ∃ a b, a < sz 3 ∧ b < sz 3 ∧ M (200 + i) 0 = nI a ∧ M (200 + i) 1 = nI b ∧ N 8 (a * 8 + b) = nI i ∧ N 8 (b * 8 + a) = nI i) ∧
  (∀ a b, a < 8 → b < 8 → N 8 (a * 8 + b) = -1 ∨ ∃ i, i < sz 4 ∧ N 8 (a * 8 + b) = nI i ∧ ((M (200 + i) 0 = nI a ∧ M (200 + i) 1 = nI b) ∨ (M (200 + i) 0 = nI b ∧ M (200 + i) 1 = nI a))) ∧
  (∀ i, i < sz 7 → M (500 + i) 1 = N 23 i ∧ M (500 + i) 2 = N 25 i ∧ M (500 + i) 3 = N 27 i ∧ ∃ s d, s ≤ 12 ∧ 1 ≤ d ∧ d ≤ 6 ∧ N 23 i = nI s ∧ N 25 i = nI d) ∧
  (∀ g, g < sz 8 → M (600 + g) 0 = N 62 g ∧ M (600 + g) 1 = N 64 g) ∧
  (∀ r, r < 8 → N 77 r = nI (mz_cnt (N 62) (nI r) (sz 8)))
/-- what the class's own has while it is told -/
def mz_NI (N : mz_Mem) (sz : Nat → Nat) : Prop :=
  N 6 0 = 8 ∧ N 30 7 = 0 ∧ (∀ t, t < sz 5 → N 37 t = -1) ∧ mz_HV N (sz 5) (sz 8) ∧ mz_kb N
/-- what stays: the class's own cells and the script -/
def mz_B (κ : Nat → Nat) (q : Nat) : Prop := mz_A κ mz_lay2 q ∨ q = κ 131
def mz_LS (cA : Nat → ClassId) (κ : Nat → Nat) (lo : Nat) (H : Heap) : Prop := lo ≤ H.size ∧ mz_scr cA κ H ∧ ¬ mz_A κ mz_lay2 (κ 131)
theorem mz_LS.to {cA : Nat → ClassId} {κ : Nat → Nat} {lo : Nat} {H H1 : Heap} (h : mz_LS cA κ lo H) (hz : H.size ≤ H1.size) (hq : H1[κ 131]? = H[κ 131]?) : mz_LS cA κ lo H1 := ⟨Nat.le_trans h.1 hz, h.2.1.kept hq, h.2.2⟩
theorem mz_LS.new {cA : Nat → ClassId} {κ : Nat → Nat} {lo : Nat} {H H1 : Heap} (h : mz_LS cA κ lo H) (hz : H.size ≤ H1.size) (hq : ∀ q, q < H.size → H1[q]? = H[q]?) : mz_LS cA κ lo H1 := h.to hz (hq _ h.2.1.lt)
theorem mz_LS.put {cA : Nat → ClassId} {κ : Nat → Nat} {lo a : Nat} {H H1 : Heap} (h : mz_LS cA κ lo H) (ha : ¬ mz_B κ a) (hz : H1.size = H.size) (hq : ∀ q : Nat, q ≠ a → H1[q]? = H[q]?) : mz_LS cA κ lo H1 := h.to (Nat.le_of_eq hz.symm) (hq _ fun e => ha (Or.inr e.symm))
theorem mz_LS.cls {cA : Nat → ClassId} {κ : Nat → Nat} {lo : Nat} {H H1 : Heap} (h : mz_LS cA κ lo H) (hz : H.size ≤ H1.size) (hq : ∀ q, q < H.size → ¬ mz_A κ mz_lay2 q → H1[q]? = H[q]?) : mz_LS cA κ lo H1 := h.to hz (hq _ h.2.1.lt h.2.2)
theorem mz_LS.B {cA : Nat → ClassId} {κ : Nat → Nat} {lo : Nat} {H : Heap} (h : mz_LS cA κ lo H) (hA : ∀ q, mz_A κ mz_lay2 q → q < H.size) : ∀ q, mz_B κ q → q < H.size := fun q hq => by
  rcases hq with hq | rfl
  · exact hA q hq
  · exact h.2.1.lt
def mz_TF (κ : Nat → Nat) (lo Lg : Nat) (xs : Nat → Int32) (N : mz_Mem) (d : Nat) (ρ : Nat → Nat) (M : mz_Mem) (sz : Nat → Nat) : Prop :=
  (ρ 0 = κ 0 ∧ ρ 130 = κ 130 ∧ ρ 131 = κ 131 ∧ κ 141 ≤ lo ∧ ∀ k sh, mz_TL Lg sz k = some sh → ¬ (κ 140 ≤ ρ k ∧ ρ k < κ 141)) ∧
  (∀ k sh, mz_TL Lg sz k = some sh → 200 ≤ k → lo ≤ ρ k) ∧
  mz_I ρ (mz_TL Lg sz) ∧ (∀ k sh, mz_TL Lg sz k = some sh → ¬ mz_B κ (ρ k)) ∧
  (M 130 2 = nI d ∧ d < 2 ^ 20 ∧ κ 150 = Lg ∧ ∀ j, Int32.ofNat (κ (151 + j)) = xs j) ∧ mz_LK N M sz ∧ mz_NI N sz
/-- the told house, with the class's object that it tells -/
def mz_T (D : va_G) (cA : Nat → ClassId) (κ : Nat → Nat) (lo Lg : Nat) (xs : Nat → Int32) (N : mz_Mem) (d : Nat) (sz : Nat → Nat) (H : Heap) : Prop :=
  (mz_CP D cA κ N H ∧ mz_LS cA κ lo H) ∧ ∃ (ρ : Nat → Nat) (M : mz_Mem), mz_TF κ lo Lg xs N d ρ M sz ∧ mz_H D vwCl cA ρ (mz_TL Lg sz) M H
/-- what a told house's methods may change -/
def mz_TA (κ : Nat → Nat) (lo : Nat) : Nat → Prop := fun q => q = κ 130 ∨ mz_A κ mz_lay2 q ∨ lo ≤ q
/-- a memory in another numbering -/
theorem mz_H_ren {D : va_G} {cl : List vw_C} {cA : Nat → ClassId} {ρ θ : Nat → Nat} {lay lay' : mz_Lay} {M : mz_Mem} {H : Heap} (h : mz_H D cl cA ρ lay M H) (hs : ∀ k sh, lay' k = some sh → lay (θ k) = some (mz_shm θ sh)) : mz_H D cl cA (fun k => ρ (θ k)) lay' (fun k => M (θ k)) H := by
  intro k sh hk
  rw [mz_ent_lift cA ρ θ (M := M) sh rfl]
  exact h _ _ (hs k sh hk)
/-- one row more: which cell a number was before -/
def mz_th (j n : Nat) : Nat → Nat := fun k => if k = 129 + j then 701 else if k = 100 * (j - 2) + n then 700 else k
def mz_sz1 (sz : Nat → Nat) (j : Nat) : Nat → Nat := fun q => if q = j then sz j + 1 else sz q
/-- the layout with a row and an array in the making -/
def mz_L3 (Lg : Nat) (sz : Nat → Nat) (j : Nat) : mz_Lay := mz_ls (mz_ls (mz_ls (mz_TL Lg sz) 700 (mz_a (mz_wd j))) 701 (mz_r 1 (sz j + 1) (mz_pl (mz_rwi j (sz j)) (sz j) 700))) 130 (mz_o 10 (mz_TO.set j (some (some 701))))
theorem mz_th_fix {j n k : Nat} (h1 : k ≠ 129 + j) (h2 : k ≠ 100 * (j - 2) + n) : mz_th j n k = k := by
  unfold mz_th
  rw [if_neg h1, if_neg h2]
theorem mz_L3_ne {Lg j k : Nat} {sz : Nat → Nat} (h : k ≠ 130) (h1 : k ≠ 700) (h2 : k ≠ 701) : mz_L3 Lg sz j k = mz_TL Lg sz k := by
  unfold mz_L3
  rw [mz_ls_ne h, mz_ls_ne h2, mz_ls_ne h1]
theorem mz_TL_arr {Lg j : Nat} {sz : Nat → Nat} (hj : 4 ≤ j ∧ j ≤ 8) : mz_TL Lg sz (129 + j) = some (mz_r 1 (sz j) (mz_rwi j (sz j))) := by
  rcases (show j = 4 ∨ j = 5 ∨ j = 6 ∨ j = 7 ∨ j = 8 by omega) with rfl | rfl | rfl | rfl | rfl <;> rfl
theorem mz_grow_sub {Lg j : Nat} {sz : Nat → Nat} (hj : 4 ≤ j ∧ j ≤ 8) (hsz : ∀ i, 4 ≤ i → i ≤ 8 → sz i ≤ 50) (k : Nat) (sh : mz_Sh) (hk : mz_TL Lg (mz_sz1 sz j) k = some sh) : mz_L3 Lg sz j (mz_th j (sz j) k) = some (mz_shm (mz_th j (sz j)) sh) := by
  have h50 := hsz j hj.1 hj.2
  have e3 : mz_sz1 sz j 3 = sz 3 := if_neg (by omega)
  rcases mz_TL_cases hk with ⟨rfl, rfl⟩ | ⟨rfl, rfl⟩ | ⟨i, i1, i2, rfl, rfl⟩ | ⟨i, q, i1, i2, i3, i4, rfl, rfl⟩
  · rw [mz_th_fix (by omega) (by omega)]
    show mz_ls _ 130 _ 130 = _
    rw [mz_ls_eq]
    have f : ∀ q, q < 139 → q ≠ 129 + j → mz_th j (sz j) q = q := fun q hq hn => mz_th_fix hn (by omega)
    have g : mz_th j (sz j) (129 + j) = 701 := if_pos rfl
    rcases (show j = 4 ∨ j = 5 ∨ j = 6 ∨ j = 7 ∨ j = 8 by omega) with rfl | rfl | rfl | rfl | rfl
    all_goals
      simp only [mz_shm, List.map_cons, List.map_nil, Option.map_some, Option.map_none, List.set_cons_succ, List.set_cons_zero]
      first
        | rw [f 0 (by omega) (by omega), f 131 (by omega) (by omega), f 132 (by omega) (by omega), g, f 134 (by omega) (by omega), f 135 (by omega) (by omega), f 136 (by omega) (by omega), f 137 (by omega) (by omega), f 138 (by omega) (by omega)]
        | rw [f 0 (by omega) (by omega), f 131 (by omega) (by omega), f 132 (by omega) (by omega), f 133 (by omega) (by omega), g, f 135 (by omega) (by omega), f 136 (by omega) (by omega), f 137 (by omega) (by omega), f 138 (by omega) (by omega)]
        | rw [f 0 (by omega) (by omega), f 131 (by omega) (by omega), f 132 (by omega) (by omega), f 133 (by omega) (by omega), f 134 (by omega) (by omega), g, f 136 (by omega) (by omega), f 137 (by omega) (by omega), f 138 (by omega) (by omega)]
        | rw [f 0 (by omega) (by omega), f 131 (by omega) (by omega), f 132 (by omega) (by omega), f 133 (by omega) (by omega), f 134 (by omega) (by omega), f 135 (by omega) (by omega), g, f 137 (by omega) (by omega), f 138 (by omega) (by omega)]
        | rw [f 0 (by omega) (by omega), f 131 (by omega) (by omega), f 132 (by omega) (by omega), f 133 (by omega) (by omega), f 134 (by omega) (by omega), f 135 (by omega) (by omega), f 136 (by omega) (by omega), g, f 138 (by omega) (by omega)]
  · rw [mz_th_fix (by omega) (by omega), mz_L3_ne (by decide) (by decide) (by decide), e3]
    rfl
  · by_cases hij : i = j
    · subst hij
      rw [show mz_th i (sz i) (129 + i) = 701 from if_pos rfl]
      show mz_ls (mz_ls _ 701 _) 130 _ 701 = _
      rw [mz_ls_ne (by decide), mz_ls_eq, show mz_sz1 sz i i = sz i + 1 from if_pos rfl]
      show some (mz_r 1 (sz i + 1) _) = some (mz_r 1 (sz i + 1) (fun q => (mz_rwi i (sz i + 1) q).map (mz_th i (sz i))))
      congr 5
      funext q
      unfold mz_pl mz_rwi
      by_cases h1 : q < sz i
      · rw [if_pos h1, if_pos h1, if_pos (by omega)]
        show some (100 * (i - 2) + q) = some (mz_th i (sz i) (100 * (i - 2) + q))
        rw [mz_th_fix (by omega) (by omega)]
      · rw [if_neg h1]
        by_cases h2 : q = sz i
        · rw [if_pos h2, if_pos (by omega), h2]
          show some 700 = some (mz_th i (sz i) (100 * (i - 2) + sz i))
          unfold mz_th
          rw [if_neg (by omega), if_pos rfl]
        · rw [if_neg h2, if_neg (by omega)]
          rfl
    · rw [mz_th_fix (by omega) (by omega), mz_L3_ne (by omega) (by omega) (by omega), mz_TL_arr ⟨i1, i2⟩, show mz_sz1 sz j i = sz i from if_neg hij]
      show some (mz_r 1 (sz i) _) = some (mz_r 1 (sz i) (fun q => (mz_rwi i (sz i) q).map (mz_th j (sz j))))
      congr 5
      funext q
      unfold mz_rwi
      have := hsz i i1 i2
      by_cases h1 : q < sz i
      · rw [if_pos h1]
        show some (100 * (i - 2) + q) = some (mz_th j (sz j) (100 * (i - 2) + q))
        rw [mz_th_fix (by omega) (by omega)]
      · rw [if_neg h1]; rfl
  · by_cases hij : i = j ∧ q = sz j
    · obtain ⟨rfl, rfl⟩ := hij
      rw [show mz_th i (sz i) (100 * (i - 2) + sz i) = 700 from by unfold mz_th; rw [if_neg (by omega), if_pos rfl]]
      show mz_ls (mz_ls (mz_ls _ 700 _) 701 _) 130 _ 700 = _
      rw [mz_ls_ne (by decide), mz_ls_ne (by decide), mz_ls_eq]
      rfl
    · have hq : q < sz i := by
        unfold mz_sz1 at i3
        by_cases h1 : i = j
        · subst h1
          rw [if_pos rfl] at i3
          have : ¬ q = sz i := fun e => hij ⟨rfl, e⟩
          omega
        · rw [if_neg h1] at i3; exact i3
      have := hsz i i1 i2
      rw [mz_th_fix (by omega) (fun e => hij (by constructor <;> omega)), mz_L3_ne (by omega) (by omega) (by omega), mz_TL_row ⟨i1, i2⟩ hq (by omega)]
      rfl
