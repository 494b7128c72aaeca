/-! the links, kept by what is told -/
theorem mz_sz1_eq (sz : Nat → Nat) (j : Nat) : mz_sz1 sz j j = sz j + 1 := if_pos rfl
theorem mz_sz1_ne {sz : Nat → Nat} {j q : Nat} (h : q ≠ j) : mz_sz1 sz j q = sz q := if_neg h
theorem mz_LK_track {N M M' : mz_Mem} {sz : Nat → Nat} {a : Nat} (h : mz_LK N M sz) (hN : mz_NI N sz) (hful : sz 5 < 5) (e : ∀ k, 132 ≤ k ∧ k < 700 → k < 134 ∨ (200 ≤ k ∧ k < 300) ∨ 400 ≤ k → M' k = M k) :
    mz_LK (g_X1_enter (g_X7_addTrack N (nI a)).2 (N 15 0) (nI a)) M' (mz_sz1 sz 5) ∧ mz_NI (g_X1_enter (g_X7_addTrack N (nI a)).2 (N 15 0) (nI a)) (mz_sz1 sz 5) := by
  obtain ⟨⟨a3, a4, a5, a6, a7, a8⟩, ⟨b3, b4, b5, b6, b7, b8⟩, h3, h4, h5, h6, h7, h8⟩ := h
  obtain ⟨n1, n2, n3, n4, n5⟩ := hN
  have s3 : mz_sz1 sz 5 3 = sz 3 := rfl
  have s4 : mz_sz1 sz 5 4 = sz 4 := rfl
  have s5 : mz_sz1 sz 5 5 = sz 5 + 1 := rfl
  have s6 : mz_sz1 sz 5 6 = sz 6 := rfl
  have s7 : mz_sz1 sz 5 7 = sz 7 := rfl
  have s8 : mz_sz1 sz 5 8 = sz 8 := rfl
  have e37 : g_X1_enter (g_X7_addTrack N (nI a)).2 (N 15 0) (nI a) 37 = upd (N 37) (sz 5) (-1) := by
    show mz_rs 5 (N 37) (N 15 0) (-1) = _
    rw [b5]; exact mz_rs_n (by omega) (by decide)
  constructor
  · refine ⟨by rw [s3, s4, s5, s6, s7, s8]; exact ⟨a3, a4, by omega, a6, a7, a8⟩, ?_, ?_, ?_, ?_, ?_, ?_, ?_⟩
    · rw [s3, s4, s5, s6, s7, s8]
      refine ⟨b3, b4, ?_, ?_, ?_, b8⟩
      · show upd (N 15) 0 (N 15 0 + 1) 0 = _
        rw [mz_upd_eq, b5, nI_1]
      · show upd (N 15) 0 (N 15 0 + 1) 1 = _
        rw [mz_upd_at (by decide)]; exact b6
      · show upd (N 15) 0 (N 15 0 + 1) 2 = _
        rw [mz_upd_at (by decide)]; exact b7
    · intro i hi; rw [e 132 (by omega) (by omega)]; exact h3 i hi
    · intro i hi; rw [s4] at hi; rw [e (200 + i) (by omega) (by omega)]; exact h4 i hi
    · intro x y hx hy
      rcases h5 x y hx hy with h | ⟨i, hi, g⟩
      · exact Or.inl h
      · exact Or.inr ⟨i, hi, by rw [e (200 + i) (by omega) (by omega)]; exact g⟩
    · intro i hi; rw [s7] at hi; rw [e (500 + i) (by omega) (by omega)]; exact h6 i hi
    · intro g hg; rw [s8] at hg; rw [e (600 + g) (by omega) (by omega)]; exact h7 g hg
    · intro r hr; exact h8 r hr
  · refine ⟨n1, n2, fun t ht => ?_, fun g hg => ?_, n5⟩
    · rw [e37]
      rw [s5] at ht
      by_cases q : t = sz 5
      · rw [q, mz_upd_eq]
      · rw [mz_upd_at q]; exact n3 t (by omega)
    · rcases n4 g hg with ⟨q1, t, q2, q3⟩ | q
      · exact Or.inl ⟨q1, t, by rw [s5]; omega, q3⟩
      · exact Or.inr q
theorem mz_LK_prop {N M M' : mz_Mem} {sz : Nat → Nat} {a : Nat} (h : mz_LK N M sz) (hN : mz_NI N sz) (hful : sz 6 < 4) (e : ∀ k, 132 ≤ k ∧ k < 700 → k < 135 ∨ (200 ≤ k ∧ k < 400) ∨ 500 ≤ k → M' k = M k) :
    mz_LK (g_X5_lay (g_X7_addProp N (nI a)).2 (N 15 1) (nI a)) M' (mz_sz1 sz 6) ∧ mz_NI (g_X5_lay (g_X7_addProp N (nI a)).2 (N 15 1) (nI a)) (mz_sz1 sz 6) := by
  obtain ⟨⟨a3, a4, a5, a6, a7, a8⟩, ⟨b3, b4, b5, b6, b7, b8⟩, h3, h4, h5, h6, h7, h8⟩ := h
  obtain ⟨n1, n2, n3, n4, n5⟩ := hN
  have s3 : mz_sz1 sz 6 3 = sz 3 := rfl
  have s4 : mz_sz1 sz 6 4 = sz 4 := rfl
  have s5 : mz_sz1 sz 6 5 = sz 5 := rfl
  have s6 : mz_sz1 sz 6 6 = sz 6 + 1 := rfl
  have s7 : mz_sz1 sz 6 7 = sz 7 := rfl
  have s8 : mz_sz1 sz 6 8 = sz 8 := rfl
  constructor
  · refine ⟨by rw [s3, s4, s5, s6, s7, s8]; exact ⟨a3, a4, a5, by omega, a7, a8⟩, ?_, ?_, ?_, ?_, ?_, ?_, ?_⟩
    · rw [s3, s4, s5, s6, s7, s8]
      refine ⟨b3, b4, ?_, ?_, ?_, b8⟩
      · show upd (N 15) 1 (N 15 1 + 1) 0 = _
        rw [mz_upd_at (by decide)]; exact b5
      · show upd (N 15) 1 (N 15 1 + 1) 1 = _
        rw [mz_upd_eq, b6, nI_1]
      · show upd (N 15) 1 (N 15 1 + 1) 2 = _
        rw [mz_upd_at (by decide)]; exact b7
    · intro i hi; rw [e 132 (by omega) (by omega)]; exact h3 i hi
    · intro i hi; rw [s4] at hi; rw [e (200 + i) (by omega) (by omega)]; exact h4 i hi
    · intro x y hx hy
      rcases h5 x y hx hy with h | ⟨i, hi, g⟩
      · exact Or.inl h
      · exact Or.inr ⟨i, hi, by rw [e (200 + i) (by omega) (by omega)]; exact g⟩
    · intro i hi; rw [s7] at hi; rw [e (500 + i) (by omega) (by omega)]; exact h6 i hi
    · intro g hg; rw [s8] at hg; rw [e (600 + g) (by omega) (by omega)]; exact h7 g hg
    · intro r hr; exact h8 r hr
  · exact ⟨n1, n2, n3, n4, n5⟩
