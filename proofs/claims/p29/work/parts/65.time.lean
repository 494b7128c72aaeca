/-! one time of the law: two houses are told, five rounds -/
theorem mz_T.kept {D : va_G} {cA : Nat → ClassId} {κ : Nat → Nat} {lo Lg d : Nat} {xs : Nat → Int32} {N : mz_Mem} {sz : Nat → Nat} {H H1 : Heap} (h : mz_T D cA κ lo Lg xs N d sz H) (hz : H.size ≤ H1.size) (hk : ∀ q, q < H.size → ¬ (κ 140 ≤ q ∧ q < κ 141) → H1[q]? = H[q]?)
    (hA : ∀ q, mz_A κ mz_lay2 q → ¬ (κ 140 ≤ q ∧ q < κ 141)) (hb : ¬ (κ 140 ≤ κ 131 ∧ κ 131 < κ 141)) : mz_T D cA κ lo Lg xs N d sz H1 := by
  obtain ⟨⟨hC, hL⟩, ρ, M, hF, hH⟩ := h
  exact ⟨⟨hC.kept fun q hq => hk q (hC.lt hq) (hA q hq), hL.to hz (hk _ hL.2.1.lt hb)⟩, ρ, M, hF, fun k sh hs => (hH k sh hs).kept (hk _ (hH k sh hs).lt (hF.1.2.2.2.2 k sh hs))⟩
/-- the law's numbers while the houses are told, and afterwards -/
def mz_lρ (ρt ρo : Nat → Nat) : Nat → Nat := fun k => if k < 1000 then ρt k else ρo (k - 1000)
abbrev mz_l0 (b z : Nat) : Nat → Nat := mz_lρ (mz_cρ z b (z + 1)) (mz_cρ (z + 146) b (z + 147))
theorem mz_ent_rwi {cA : Nat → ClassId} {ρ ρ' : Nat → Nat} {M M' : mz_Mem} {k j n : Nat} (h : ∀ i, i < n → ρ (100 * (j - 2) + i) = ρ' (100 * (j - 2) + i)) : mz_ent cA ρ M k (mz_r 1 n (mz_rwi j n)) = mz_ent cA ρ' M' k (mz_r 1 n (mz_rwi j n)) := by
  simp only [mz_ent]
  congr 7
  funext q
  unfold mz_rwi
  by_cases h1 : q < n
  · rw [if_pos h1]
    show some (ρ (100 * (j - 2) + q)) = some (ρ' (100 * (j - 2) + q))
    rw [h q h1]
  · rw [if_neg h1]; rfl
theorem mz_T_FI {D : va_G} {cA : Nat → ClassId} {κ : Nat → Nat} {lo Lg d many i : Nat} {xs : Nat → Int32} {N : mz_Mem} {sz : Nat → Nat} {H : Heap} (hV : mz_V6 many i (N, d, sz)) (h : mz_T D cA κ lo Lg xs N d sz H) : mz_FI N (sz 5) (sz 7) (sz 8) 0 := by
  obtain ⟨-, ρ, M, hF, -⟩ := h
  obtain ⟨-, -, -, -, -, hL, hN⟩ := hF
  exact ⟨hV.2.1, hL.1.2.2.2.2.1, hL.1.2.2.2.2.2, hL.2.1.2.2.1, hL.2.1.2.2.2.2.1, hL.2.1.2.2.2.2.2, hN.2.1, hN.2.2.2.2, hN.2.2.2.1⟩
/-- both told: the law's numbers -/
theorem mz_two {D : va_G} {cA : Nat → ClassId} {b B z lo lo' Lg d : Nat} {xs : Nat → Int32} {N : mz_Mem} {sz : Nat → Nat} {H : Heap} (hbB : b < B) (hBz : B ≤ z)
    (ht : mz_T D cA (mz_κ z b (z + 1) (z + 146) (z + 292) Lg xs) lo Lg xs N d sz H) (ho : mz_T D cA (mz_κ (z + 146) b (z + 147) 0 0 Lg xs) lo' Lg xs N d sz H) :
    ∃ ρ Mb, mz_LF (mz_κ z b (z + 1) (z + 146) (z + 292) Lg xs) (mz_κ (z + 146) b (z + 147) 0 0 Lg xs) ρ (mz_LL (sz 5) (sz 8)) B Lg xs ∧ (ρ 0 = z + 1 ∧ ρ 130 = z ∧ ρ 131 = b ∧ ρ 1130 = z + 146) ∧ mz_LP D cA (mz_κ z b (z + 1) (z + 146) (z + 292) Lg xs) (mz_κ (z + 146) b (z + 147) 0 0 Lg xs) ρ (mz_LL (sz 5) (sz 8)) Mb N N d H := by
  obtain ⟨⟨hCt, hLt⟩, ρt, Mt, hFt, hHt⟩ := ht
  obtain ⟨⟨hCo, hLo⟩, ρo, Mo, hFo, hHo⟩ := ho
  have t0 : ρt 0 = z + 1 := hFt.1.1
  have t130 : ρt 130 = z := hFt.1.2.1
  have t131 : ρt 131 = b := hFt.1.2.2.1
  have o0 : ρo 0 = z + 147 := hFo.1.1
  have o130 : ρo 130 = z + 146 := hFo.1.2.1
  have h58 := hFt.2.2.2.2.2.1.1
  have r130 : mz_lρ ρt ρo 130 = ρt 130 := rfl
  have r134 : mz_lρ ρt ρo 134 = ρt 134 := rfl
  have r137 : mz_lρ ρt ρo 137 = ρt 137 := rfl
  have r1130 : mz_lρ ρt ρo 1130 = ρo 130 := rfl
  have l130 : mz_TL Lg sz 130 = some (mz_o 10 mz_TO) := rfl
  have l134 : mz_TL Lg sz 134 = some (mz_r 1 (sz 5) (mz_rwi 5 (sz 5))) := rfl
  have l137 : mz_TL Lg sz 137 = some (mz_r 1 (sz 8) (mz_rwi 8 (sz 8))) := rfl
  have cases4 : ∀ k sh, mz_LL (sz 5) (sz 8) k = some sh → (∃ sh', mz_TL Lg sz k = some sh' ∧ mz_lρ ρt ρo k = ρt k ∧ (k = 130 ∨ k = 134 ∨ k = 137)) ∨ (k = 1130 ∧ mz_lρ ρt ρo k = z + 146) := by
    intro k sh hk
    unfold mz_LL at hk
    by_cases h1 : k = 130
    · subst h1; exact Or.inl ⟨_, l130, rfl, Or.inl rfl⟩
    rw [if_neg h1] at hk
    by_cases h2 : k = 134
    · subst h2; exact Or.inl ⟨_, l134, rfl, Or.inr (Or.inl rfl)⟩
    rw [if_neg h2] at hk
    by_cases h3 : k = 137
    · subst h3; exact Or.inl ⟨_, l137, rfl, Or.inr (Or.inr rfl)⟩
    rw [if_neg h3] at hk
    by_cases h4 : k = 1130
    · subst h4; exact Or.inr ⟨rfl, by rw [r1130, o130]⟩
    rw [if_neg h4] at hk
    cases hk
  have reg : ∀ k sh, mz_TL Lg sz k = some sh → ¬ (z + 146 ≤ ρt k ∧ ρt k < z + 292) := hFt.1.2.2.2.2
  refine ⟨mz_lρ ρt ρo, fun k => if k < 1000 then Mt k else Mo (k - 1000), ⟨⟨mz_κ_I, mz_κ_I⟩, ⟨t0, o0, t131⟩, ?_, ?_, ?_, ?_, rfl, mz_κ_xs⟩, ⟨t0, t130, t131, o130⟩, hCt, hCo, hLt.2.1, ?_⟩
  · intro i j x y hi hj he
    rcases cases4 i x hi with ⟨si, a1, a2, -⟩ | ⟨a1, a2⟩ <;> rcases cases4 j y hj with ⟨sj, b1, b2, -⟩ | ⟨b1, b2⟩
    · exact hFt.2.2.1 i j si sj a1 b1 (by rw [← a2, ← b2]; exact he)
    · exfalso
      have := reg i si a1
      rw [a2, b2] at he
      omega
    · exfalso
      have := reg j sj b1
      rw [a2, b2] at he
      omega
    · rw [a1, b1]
  · intro k sh hk
    rcases cases4 k sh hk with ⟨sk, a1, a2, a3⟩ | ⟨a1, a2⟩
    · have hB := hFt.2.2.2.1 k sk a1
      rw [a2]
      refine ⟨fun e => by rw [e, t130]; exact hBz, fun hA => hB (Or.inl hA), fun hA => ?_, fun e => hB (Or.inr e)⟩
      have := mz_κ_A hA
      have := reg k sk a1
      omega
    · rw [a2]
      refine ⟨fun e => by omega, fun hA => ?_, fun hA => ?_, fun e => ?_⟩
      · have := mz_κ_A hA; omega
      · have := mz_κ_A hA; omega
      · have e : z + 146 = b := e
        omega
  · intro q hq
    have h1 := mz_κ_A hq
    refine ⟨by omega, fun hA => ?_, fun e => ?_⟩
    · have := mz_κ_A hA; omega
    · have e : q = b := e
      omega
  · intro q hq
    have h1 := mz_κ_A hq
    refine ⟨by omega, fun e => ?_⟩
    have e : q = b := e
    omega
  · rw [mz_MD_id (M := fun k => if k < 1000 then Mt k else Mo (k - 1000)) (e := d) hFt.2.2.2.2.1.1]
    intro k sh hk
    unfold mz_LL at hk
    by_cases h1 : k = 130
    · subst h1; rw [if_pos rfl] at hk; cases hk; exact hHt 130 _ l130
    rw [if_neg h1] at hk
    by_cases h2 : k = 134
    · subst h2
      rw [if_pos rfl] at hk; cases hk
      rw [mz_ent_rwi (ρ' := ρt) (M' := Mt) (fun i hi => if_pos (by omega))]
      exact hHt 134 _ l134
    rw [if_neg h2] at hk
    by_cases h3 : k = 137
    · subst h3
      rw [if_pos rfl] at hk; cases hk
      rw [mz_ent_rwi (ρ' := ρt) (M' := Mt) (fun i hi => if_pos (by omega))]
      exact hHt 137 _ l137
    rw [if_neg h3] at hk
    by_cases h4 : k = 1130
    · subst h4; rw [if_pos rfl] at hk; cases hk; exact hHo 130 _ rfl
    rw [if_neg h4] at hk
    cases hk
