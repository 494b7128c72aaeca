/-! a row more, told -/
def mz_TQ (D : va_G) (cA : Nat → ClassId) (κ : Nat → Nat) (lo : Nat) (ρ : Nat → Nat) (lay : mz_Lay) (N M : mz_Mem) (z : Nat) (H : Heap) : Prop := mz_TP D cA κ lo ρ lay N M H ∧ H.size = z
/-- the numbering with two fresh cells -/
def mz_r1 (ρ : Nat → Nat) (z : Nat) : Nat → Nat := fun k => if k = 700 then z else if k = 701 then z + 1 else ρ k
theorem mz_r1_ne {ρ : Nat → Nat} {z k : Nat} (h : k ≠ 700) (h1 : k ≠ 701) : mz_r1 ρ z k = ρ k := by unfold mz_r1; rw [if_neg h, if_neg h1]
theorem mz_TL_lt {Lg k : Nat} {sz : Nat → Nat} {sh : mz_Sh} (h : mz_TL Lg sz k = some sh) : 130 ≤ k ∧ k < 700 := by
  rcases mz_TL_cases h with ⟨rfl, -⟩ | ⟨rfl, -⟩ | ⟨i, i1, i2, rfl, -⟩ | ⟨i, q, i1, i2, i3, i4, rfl, -⟩ <;> omega
theorem mz_th_cases {Lg j k : Nat} {sz : Nat → Nat} {sh : mz_Sh} (hj : 4 ≤ j ∧ j ≤ 8) (hsz : ∀ i, 4 ≤ i → i ≤ 8 → sz i ≤ 50) (h : mz_TL Lg (mz_sz1 sz j) k = some sh) : (k = 129 + j ∧ mz_th j (sz j) k = 701) ∨ (k = 100 * (j - 2) + sz j ∧ mz_th j (sz j) k = 700) ∨ (mz_th j (sz j) k = k ∧ k ≠ 129 + j ∧ ∃ sh0, mz_TL Lg sz k = some sh0) := by
  by_cases h1 : k = 129 + j
  · exact Or.inl ⟨h1, by rw [h1]; exact if_pos rfl⟩
  by_cases h2 : k = 100 * (j - 2) + sz j
  · exact Or.inr (Or.inl ⟨h2, by unfold mz_th; rw [if_neg h1, if_pos h2]⟩)
  refine Or.inr (Or.inr ⟨mz_th_fix h1 h2, h1, ?_⟩)
  by_cases h3 : k = 130
  · exact ⟨_, by rw [h3]; rfl⟩
  · have hs := mz_grow_sub hj hsz k sh h
    have hl := mz_TL_lt h
    rw [mz_th_fix h1 h2, mz_L3_ne h3 (by omega) (by omega)] at hs
    exact ⟨_, hs⟩
theorem mz_TF_grow {κ : Nat → Nat} {lo Lg : Nat} {xs : Nat → Int32} {N N' : mz_Mem} {d : Nat} {ρ : Nat → Nat} {M M3 : mz_Mem} {sz : Nat → Nat} {j z : Nat} (hF : mz_TF κ lo Lg xs N d ρ M sz) (hj : 4 ≤ j ∧ j ≤ 8) (hlt : ∀ k sh, mz_TL Lg sz k = some sh → ρ k < z) (hcl : ∀ q, mz_B κ q → q < z) (hlo : lo ≤ z)
    (hM3 : ∀ k, k ≠ 700 → k ≠ 701 → M3 k = M k) (hLK : mz_LK N' (fun k => M3 (mz_th j (sz j) k)) (mz_sz1 sz j)) (hNI : mz_NI N' (mz_sz1 sz j)) : mz_TF κ lo Lg xs N' d (fun k => mz_r1 ρ z (mz_th j (sz j) k)) (fun k => M3 (mz_th j (sz j) k)) (mz_sz1 sz j) := by
  obtain ⟨⟨f0, f1, f2, f2a, f2b⟩, f3, f4, f5, ⟨f6, f7, f8⟩, f9, f10⟩ := hF
  have hsz : ∀ i, 4 ≤ i → i ≤ 8 → sz i ≤ 50 := by
    obtain ⟨⟨a1, a2, a3, a4, a5, a6⟩, -⟩ := f9
    intro i i1 i2
    rcases (show i = 4 ∨ i = 5 ∨ i = 6 ∨ i = 7 ∨ i = 8 by omega) with rfl | rfl | rfl | rfl | rfl <;> omega
  have e : ∀ k, k < 132 → mz_th j (sz j) k = k := fun k hk => mz_th_fix (by omega) (by omega)
  have er : ∀ k, k < 132 → mz_r1 ρ z (mz_th j (sz j) k) = ρ k := fun k hk => by rw [e k hk]; exact mz_r1_ne (by omega) (by omega)
  refine ⟨⟨(er 0 (by omega)).trans f0, (er 130 (by omega)).trans f1, (er 131 (by omega)).trans f2, f2a, fun k sh hk hq => ?_⟩, fun k sh hk h200 => ?_, fun a b x y hx hy he => ?_, fun k sh hk => ?_, ⟨?_, f7, f8⟩, hLK, hNI⟩
  · have hq : κ 140 ≤ mz_r1 ρ z (mz_th j (sz j) k) ∧ mz_r1 ρ z (mz_th j (sz j) k) < κ 141 := hq
    rcases mz_th_cases hj hsz hk with ⟨h1, h2⟩ | ⟨h1, h2⟩ | ⟨h1, h2, sh0, h3⟩
    · rw [h2, show mz_r1 ρ z 701 = z + 1 from rfl] at hq; omega
    · rw [h2, show mz_r1 ρ z 700 = z from rfl] at hq; omega
    · have := mz_TL_lt hk
      rw [h1, mz_r1_ne (by omega) (by omega)] at hq
      exact f2b k sh0 h3 hq
  · rcases mz_th_cases hj hsz hk with ⟨h1, h2⟩ | ⟨h1, h2⟩ | ⟨h1, h2, sh0, h3⟩
    · omega
    · show lo ≤ mz_r1 ρ z (mz_th j (sz j) k)
      rw [h2]; exact hlo
    · have := mz_TL_lt hk
      show lo ≤ mz_r1 ρ z (mz_th j (sz j) k)
      rw [h1, mz_r1_ne (by omega) (by omega)]
      exact f3 k sh0 h3 h200
  · have v : ∀ k sh, mz_TL Lg (mz_sz1 sz j) k = some sh → (k = 129 + j ∧ mz_r1 ρ z (mz_th j (sz j) k) = z + 1) ∨ (k = 100 * (j - 2) + sz j ∧ mz_r1 ρ z (mz_th j (sz j) k) = z) ∨ (mz_r1 ρ z (mz_th j (sz j) k) = ρ k ∧ ∃ sh0, mz_TL Lg sz k = some sh0) := by
      intro k sh hk
      rcases mz_th_cases hj hsz hk with ⟨h1, h2⟩ | ⟨h1, h2⟩ | ⟨h1, h2, h3⟩
      · exact Or.inl ⟨h1, by rw [h2]; rfl⟩
      · exact Or.inr (Or.inl ⟨h1, by rw [h2]; rfl⟩)
      · have := mz_TL_lt hk
        exact Or.inr (Or.inr ⟨by rw [h1]; exact mz_r1_ne (by omega) (by omega), h3⟩)
    have he : mz_r1 ρ z (mz_th j (sz j) a) = mz_r1 ρ z (mz_th j (sz j) b) := he
    rcases v a x hx with ⟨a1, a2⟩ | ⟨a1, a2⟩ | ⟨a2, sa, a3⟩ <;> rcases v b y hy with ⟨b1, b2⟩ | ⟨b1, b2⟩ | ⟨b2, sb, b3⟩
    · omega
    · omega
    · have := hlt b sb b3; omega
    · omega
    · omega
    · have := hlt b sb b3; omega
    · have := hlt a sa a3; omega
    · have := hlt a sa a3; omega
    · exact f4 _ _ _ _ a3 b3 (by rw [← a2, ← b2]; exact he)
  · intro hA
    rcases mz_th_cases hj hsz hk with ⟨h1, h2⟩ | ⟨h1, h2⟩ | ⟨h1, h2, sh0, h3⟩
    · have hA2 : mz_B κ (mz_r1 ρ z (mz_th j (sz j) k)) := hA
      rw [h2] at hA2
      exact absurd (hcl _ hA2) (by show ¬ z + 1 < z; omega)
    · have hA2 : mz_B κ (mz_r1 ρ z (mz_th j (sz j) k)) := hA
      rw [h2] at hA2
      exact absurd (hcl _ hA2) (by show ¬ z < z; omega)
    · have hA2 : mz_B κ (mz_r1 ρ z (mz_th j (sz j) k)) := hA
      have := mz_TL_lt hk
      rw [h1, mz_r1_ne (by omega) (by omega)] at hA2
      exact f5 k sh0 h3 hA2
  · show M3 (mz_th j (sz j) 130) 2 = nI d
    rw [e 130 (by omega), hM3 130 (by decide) (by decide)]; exact f6
