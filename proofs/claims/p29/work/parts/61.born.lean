/-! the told house as it is made is one that is told -/
def mz_κ (a b x u v Lg : Nat) (xs : Nat → Int32) : Nat → Nat := fun k => if k = 140 then u else if k = 141 then v else if k = 150 then Lg else if 151 ≤ k then (xs (k - 151)).toBitVec.toNat else mz_cρ a b x k
/-- the script at b -/
def mz_sX (cA : Nat → ClassId) (b Lg : Nat) (xs : Nat → Int32) (H : Heap) : Prop := ∃ scr : Cell, H[b]? = some scr ∧ scr.cls = cA 2 ∧ scr.vm ≠ .unknown ∧ (∀ k, scr.vm ≠ .statics k) ∧ scr.slots.size = Lg ∧ ∀ j : Nat, j < Lg → scr.slots[j]? = some (.int (xs j))
theorem mz_sX.kept {cA : Nat → ClassId} {b Lg : Nat} {xs : Nat → Int32} {H H1 : Heap} (h : mz_sX cA b Lg xs H) (hq : H1[b]? = H[b]?) : mz_sX cA b Lg xs H1 := by
  obtain ⟨scr, h1, h2⟩ := h
  exact ⟨scr, by rw [hq]; exact h1, h2⟩
theorem mz_κ_xs {a b x u v Lg : Nat} {xs : Nat → Int32} (j : Nat) : Int32.ofNat (mz_κ a b x u v Lg xs (151 + j)) = xs j := by
  unfold mz_κ
  rw [if_neg (by omega), if_neg (by omega), if_neg (by omega), if_pos (by omega), show 151 + j - 151 = j by omega]
  apply Int32.toBitVec_inj.mp
  show BitVec.ofNat 32 _ = _
  rw [BitVec.ofNat_toNat, BitVec.setWidth_eq]
theorem mz_sX.scr {cA : Nat → ClassId} {a b x u v Lg : Nat} {xs : Nat → Int32} {H : Heap} (h : mz_sX cA b Lg xs H) : mz_scr cA (mz_κ a b x u v Lg xs) H := by
  obtain ⟨scr, h1, h2, h3, h4, h5, h6⟩ := h
  exact ⟨scr, h1, h2, h3, h4, h5, fun j hj => by rw [mz_κ_xs]; exact h6 j hj⟩
def mz_rfB (n : Nat) : mz_Sh → Bool
  | .inl _ => true
  | .inr (.inl o) => o.2.all (fun f => match f with
    | some (some r) => decide (r < n)
    | _ => true)
  | _ => false
theorem mz_rfB_ent {cA : Nat → ClassId} {ρ ρ' : Nat → Nat} {M : mz_Mem} {k n : Nat} {sh : mz_Sh} (h : mz_rfB n sh = true) (e : ∀ r, r < n → ρ r = ρ' r) : mz_ent cA ρ M k sh = mz_ent cA ρ' M k sh := by
  rcases sh with m | o | g | f
  · rfl
  · simp only [mz_ent]
    congr 2
    apply List.ext_getElem?
    intro i
    rw [List.getElem?_map, List.getElem?_map, mz_fs_at]
    cases hf : o.2[i]? with
    | none => rfl
    | some f =>
      have hm := List.all_eq_true.mp h f (List.mem_of_getElem? hf)
      cases f with
      | none => rfl
      | some f =>
        cases f with
        | none => rfl
        | some r =>
          have hr : r < n := of_decide_eq_true hm
          show some (Value.ref (ρ r)) = some (Value.ref (ρ' r))
          rw [e r hr]
  · exact (Bool.false_ne_true h).elim
  · exact (Bool.false_ne_true h).elim
theorem mz_lay2_rf {k : Nat} {sh : mz_Sh} (h : mz_lay2 k = some sh) : k < 126 ∧ mz_rfB 126 sh = true := by
  have hk : k < 126 := mz_lf_lt h
  have all : ((List.range 126).all fun k => match mz_lay2 k with
    | some sh => mz_rfB 126 sh
    | none => true) = true := by decide +kernel
  have := List.all_eq_true.mp all k (List.mem_range.mpr hk)
  rw [h] at this
  exact ⟨hk, this⟩
theorem mz_κ_lo {a b x u v Lg k : Nat} {xs : Nat → Int32} (h : k < 126) : mz_κ a b x u v Lg xs k = x + k := by
  unfold mz_κ
  rw [if_neg (by omega), if_neg (by omega), if_neg (by omega), if_neg (by omega)]
  exact mz_cρ_lo h
theorem mz_κ_I {a b x u v Lg : Nat} {xs : Nat → Int32} : mz_I (mz_κ a b x u v Lg xs) mz_lay2 := fun i j p q hi hj e => by
  rw [mz_κ_lo (mz_lay2_rf hi).1, mz_κ_lo (mz_lay2_rf hj).1] at e
  omega
theorem mz_κ_A {a b x u v Lg q : Nat} {xs : Nat → Int32} (h : mz_A (mz_κ a b x u v Lg xs) mz_lay2 q) : x ≤ q ∧ q < x + 126 := by
  obtain ⟨k, sh, hk, rfl⟩ := h
  have := (mz_lay2_rf hk).1
  rw [mz_κ_lo this]
  omega
theorem mz_TN_CP {D : va_G} {cA : Nat → ClassId} {a b x u v Lg d : Nat} {xs : Nat → Int32} {H : Heap} (h : mz_TN D cA a b x Lg xs d H) : mz_CP D cA (mz_κ a b x u v Lg xs) mz_m7 H := by
  refine ⟨mz_m7, ⟨mz_md_ext (fun _ _ => rfl) rfl rfl rfl rfl, by decide +kernel⟩, fun k sh hk => ?_⟩
  obtain ⟨h1, h2⟩ := mz_lay2_rf hk
  rw [mz_κ_lo h1, mz_rfB_ent (ρ' := fun k => x + k) h2 (fun r hr => mz_κ_lo hr)]
  exact h.1 k sh hk
theorem mz_TL0_v {a b x Lg k : Nat} {sh : mz_Sh} (h : mz_TL Lg (fun _ => 0) k = some sh) : (k = 130 ∧ mz_cρ a b x k = a) ∨ ((132 ≤ k ∧ k ≤ 137) ∧ mz_cρ a b x k = x + (k - 6)) := by
  rcases mz_TL_cases h with ⟨rfl, -⟩ | ⟨rfl, -⟩ | ⟨i, i1, i2, rfl, -⟩ | ⟨i, q, i1, i2, i3, i4, -, -⟩
  · exact Or.inl ⟨rfl, rfl⟩
  · exact Or.inr ⟨by omega, mz_cρ_hi (by omega)⟩
  · exact Or.inr ⟨by omega, mz_cρ_hi (by omega)⟩
  · exact absurd i3 (Nat.not_lt_zero _)
theorem mz_m7_8 (q : Nat) : mz_m7 8 q = -1 := rfl
theorem mz_born_LK (M : mz_Mem) : mz_LK mz_m7 M (fun _ => 0) := by
  refine ⟨⟨by decide, by decide, by decide, by decide, by decide, by decide⟩, ⟨rfl, rfl, rfl, rfl, rfl, rfl⟩, fun i hi => absurd hi (Nat.not_lt_zero _), fun i hi => absurd hi (Nat.not_lt_zero _), fun a b _ _ => Or.inl (mz_m7_8 _), fun i hi => absurd hi (Nat.not_lt_zero _), fun i hi => absurd hi (Nat.not_lt_zero _), fun r _ => rfl⟩
theorem mz_born_NI : mz_NI mz_m7 (fun _ => 0) := by
  refine ⟨rfl, rfl, fun t ht => absurd ht (Nat.not_lt_zero _), fun g hg => absurd hg (Nat.not_lt_zero _), fun j => ?_⟩
  have e : mz_m7 68 j = 0 := rfl
  rw [e]
  decide
theorem mz_TN_T {D : va_G} {cA : Nat → ClassId} {a b x u v lo Lg d : Nat} {xs : Nat → Int32} {H : Heap} (h : mz_TN D cA a b x Lg xs d H) (hX : mz_sX cA b Lg xs H) (hab : a ≠ b) (ha : a < x) (hb : b < x) (hlo : lo ≤ H.size) (hv : v ≤ lo) (hd : d < 2 ^ 20)
    (hu : ∀ q, (q = a ∨ (x + 126 ≤ q ∧ q < x + 132)) → ¬ (u ≤ q ∧ q < v)) : mz_T D cA (mz_κ a b x u v Lg xs) lo Lg xs mz_m7 d (fun _ => 0) H := by
  refine ⟨⟨mz_TN_CP h, hlo, hX.scr, fun z => by have := (mz_κ_A z).1; exact absurd (show x ≤ b from this) (by omega)⟩, mz_cρ a b x, mz_s (mz_c0M xs) 130 (upd (mz_c0M xs 130) 2 (nI d)), ⟨⟨rfl, rfl, rfl, hv, fun k sh hk hq => ?_⟩, fun k sh hk h2 => ?_, fun i j p q hi hj e => ?_, fun k sh hk hA => ?_, ⟨?_, hd, rfl, mz_κ_xs⟩, mz_born_LK _, mz_born_NI⟩, h.2⟩
  · refine hu _ ?_ hq
    rcases mz_TL0_v (a := a) (b := b) (x := x) hk with ⟨-, e⟩ | ⟨e1, e⟩
    · exact Or.inl e
    · exact Or.inr (by rw [e]; omega)
  · rcases mz_TL0_v (a := a) (b := b) (x := x) hk with ⟨e, -⟩ | ⟨e, -⟩ <;> omega
  · rcases mz_TL0_v (a := a) (b := b) (x := x) hi with ⟨i1, i2⟩ | ⟨i1, i2⟩ <;> rcases mz_TL0_v (a := a) (b := b) (x := x) hj with ⟨j1, j2⟩ | ⟨j1, j2⟩ <;> rw [i2, j2] at e <;> omega
  · rcases hA with hA | hA
    · have hA2 := mz_κ_A hA
      rcases mz_TL0_v (a := a) (b := b) (x := x) hk with ⟨i1, i2⟩ | ⟨i1, i2⟩ <;> rw [i2] at hA2 <;> omega
    · have hA : mz_cρ a b x k = b := hA
      rcases mz_TL0_v (a := a) (b := b) (x := x) hk with ⟨i1, i2⟩ | ⟨i1, i2⟩ <;> rw [i2] at hA <;> omega
  · rw [mz_s_eq, mz_upd_eq]
/-- kept, if nothing of it is written -/
theorem mz_TN.kept {D : va_G} {cA : Nat → ClassId} {a b x Lg d : Nat} {xs : Nat → Int32} {H H1 : Heap} (h : mz_TN D cA a b x Lg xs d H) (hk : ∀ q, (q = a ∨ (x ≤ q ∧ q < x + 132)) → H1[q]? = H[q]?) : mz_TN D cA a b x Lg xs d H1 := by
  refine ⟨fun k sh hs => (h.1 k sh hs).kept (hk _ (Or.inr ?_)), fun k sh hs => (h.2 k sh hs).kept (hk _ ?_)⟩
  · have := (mz_lay2_rf hs).1
    show x ≤ x + k ∧ x + k < x + 132
    omega
  · show mz_cρ a b x k = a ∨ _
    rcases mz_TL0_v (a := a) (b := b) (x := x) hs with ⟨-, e⟩ | ⟨e1, e⟩
    · exact Or.inl e
    · exact Or.inr ((by show x ≤ mz_cρ a b x k ∧ mz_cρ a b x k < x + 132; rw [e]; omega))
