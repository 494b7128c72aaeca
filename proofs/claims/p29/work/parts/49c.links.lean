/-! the links, kept by a door, a scene, a guest, a habit, a room -/
theorem mz_nI1 {i : Nat} (h : i < 2 ^ 31) : ¬ nI i = -1 := fun e => nI_pos h (by rw [e]; decide)
theorem mz_upd_i (f : Nat → Int32) (i : Nat) (v : Int32) (j : Nat) : upd f i v j = if j = i then v else f j := by
  by_cases h : j = i
  · rw [if_pos h, h, mz_upd_eq]
  · rw [if_neg h, mz_upd_at h]
theorem mz_cnt_ext {f g : Nat → Int32} {r : Int32} : ∀ {n : Nat}, (∀ i, i < n → f i = g i) → mz_cnt f r n = mz_cnt g r n
  | 0, _ => rfl
  | n + 1, h => by
    show mz_cnt f r n + _ = mz_cnt g r n + _
    rw [mz_cnt_ext (n := n) (fun i hi => h i (by omega)), h n (by omega)]
theorem mz_cnt_le (f : Nat → Int32) (r : Int32) : ∀ n : Nat, mz_cnt f r n ≤ n
  | 0 => Nat.le_refl _
  | n + 1 => by
    have := mz_cnt_le f r n
    show mz_cnt f r n + (if f n = r then 1 else 0) ≤ n + 1
    split <;> omega
theorem mz_door_8 {N : mz_Mem} {sz : Nat → Nat} {a b : Nat} {w : Int32} (n1 : N 6 0 = 8) (b4 : N 1 1 = nI (sz 4)) (ha : a < 8) (hb : b < 8) : (g_X4_addDoor N (nI a) (nI b) w).2 8 = upd (upd (N 8) (a * 8 + b) (nI (sz 4))) (b * 8 + a) (nI (sz 4)) := by
  rw [mz_bd_hw N _ _ _ 8 (by decide) (by decide)]
  show mz_gs 64 (N 6 0) (mz_gs 64 (N 6 0) (N 8) (nI a) (nI b) (N 1 1)) (nI b) (nI a) (N 1 1) = _
  rw [n1, b4, mz_gs_n (i := a) (j := b) ha hb, mz_gs_n (i := b) (j := a) hb ha]
theorem mz_door_k {N : mz_Mem} {a b w : Int32} {k : Nat} (k1 : k ≠ 1) (k5 : k ≠ 5) (k8 : k ≠ 8) (k11 : k ≠ 11) (k14 : k ≠ 14) : (g_X4_addDoor N a b w).2 k = N k := by
  rw [mz_bd_hw N _ _ _ k k11 k14]
  unfold mz_bd
  rw [mz_s_ne k8, mz_s_ne k5, mz_s_ne k1]
theorem mz_door_1 (N : mz_Mem) (a b w : Int32) : (g_X4_addDoor N a b w).2 1 = upd (N 1) 1 (N 1 1 + 1) := by
  rw [mz_bd_hw N _ _ _ 1 (by decide) (by decide)]
  rfl
/-- no door one way, none the other -/
theorem mz_LK_sym {N M : mz_Mem} {sz : Nat → Nat} {a b : Nat} (h : mz_LK N M sz) (ha : a < 8) (hb : b < 8) (h8 : N 8 (a * 8 + b) = -1) : N 8 (b * 8 + a) = -1 := by
  obtain ⟨⟨a3, a4, -⟩, -, -, h4, h5, -⟩ := h
  rcases h5 b a hb ha with h | ⟨i, hi, h1, h2⟩
  · exact h
  · exfalso
    obtain ⟨x, y, hx, hy, g1, g2, g3, g4⟩ := h4 i hi
    have ne : ¬ nI i = -1 := mz_nI1 (by omega)
    rcases h2 with ⟨p, q⟩ | ⟨p, q⟩
    · have e1 : x = b := (nI_eq (by omega) (by omega)).mp (g1.symm.trans p)
      have e2 : y = a := (nI_eq (by omega) (by omega)).mp (g2.symm.trans q)
      subst e1; subst e2
      exact ne (g4.symm.trans h8)
    · have e1 : x = a := (nI_eq (by omega) (by omega)).mp (g1.symm.trans p)
      have e2 : y = b := (nI_eq (by omega) (by omega)).mp (g2.symm.trans q)
      subst e1; subst e2
      exact ne (g3.symm.trans h8)
theorem mz_LK_door {N M M' : mz_Mem} {sz : Nat → Nat} {a b : Nat} {w : Int32} (h : mz_LK N M sz) (hN : mz_NI N sz) (hful : sz 4 < 14) (ha : a < sz 3) (hb : b < sz 3) (h8 : N 8 (a * 8 + b) = -1)
    (r0 : M' (200 + sz 4) 0 = nI a) (r1 : M' (200 + sz 4) 1 = nI b) (e : ∀ k, k = 132 ∨ (200 ≤ k ∧ k < 700 ∧ k ≠ 200 + sz 4) → M' k = M k) :
    mz_LK (g_X4_addDoor N (nI a) (nI b) w).2 M' (mz_sz1 sz 4) ∧ mz_NI (g_X4_addDoor N (nI a) (nI b) w).2 (mz_sz1 sz 4) := by
  have hs8 := mz_LK_sym h (by have := h.1.1; omega) (by have := h.1.1; omega) h8
  obtain ⟨⟨a3, a4, a5, a6, a7, a8⟩, ⟨b3, b4, b5, b6, b7, b8⟩, h3, h4, h5, h6, h7, h8c⟩ := h
  obtain ⟨n1, n2, n3, n4, n5⟩ := hN
  have s3 : mz_sz1 sz 4 3 = sz 3 := rfl
  have s4 : mz_sz1 sz 4 4 = sz 4 + 1 := rfl
  have s5 : mz_sz1 sz 4 5 = sz 5 := rfl
  have s6 : mz_sz1 sz 4 6 = sz 6 := rfl
  have s7 : mz_sz1 sz 4 7 = sz 7 := rfl
  have s8 : mz_sz1 sz 4 8 = sz 8 := rfl
  have e8 := mz_door_8 (w := w) (sz := sz) n1 b4 (show a < 8 by omega) (show b < 8 by omega)
  have e1 := mz_door_1 N (nI a) (nI b) w
  have ek : ∀ k, k ≠ 1 → k ≠ 5 → k ≠ 8 → k ≠ 11 → k ≠ 14 → (g_X4_addDoor N (nI a) (nI b) w).2 k = N k := fun k q1 q2 q3 q4 q5 => mz_door_k q1 q2 q3 q4 q5
  generalize (g_X4_addDoor N (nI a) (nI b) w).2 = N' at e8 e1 ek
  constructor
  · refine ⟨by rw [s3, s4, s5, s6, s7, s8]; exact ⟨a3, by omega, a5, a6, a7, a8⟩, ?_, ?_, ?_, ?_, ?_, ?_, ?_⟩
    · rw [s3, s4, s5, s6, s7, s8, e1, ek 15 (by decide) (by decide) (by decide) (by decide) (by decide), ek 60 (by decide) (by decide) (by decide) (by decide) (by decide)]
      exact ⟨by rw [mz_upd_at (by decide)]; exact b3, by rw [mz_upd_eq, b4, nI_1], b5, b6, b7, b8⟩
    · intro i hi
      rw [e 132 (Or.inl rfl), ek 3 (by decide) (by decide) (by decide) (by decide) (by decide)]
      exact h3 i hi
    · intro i hi
      rw [s4] at hi
      by_cases q : i = sz 4
      · subst q
        refine ⟨a, b, by rw [s3]; exact ha, by rw [s3]; exact hb, r0, r1, ?_, ?_⟩
        · rw [e8, mz_upd_i, mz_upd_i]
          by_cases z : a * 8 + b = b * 8 + a
          · rw [if_pos z]
          · rw [if_neg z, if_pos rfl]
        · rw [e8, mz_upd_eq]
      · obtain ⟨x, y, hx, hy, g1, g2, g3, g4⟩ := h4 i (by omega)
        have ne : ¬ nI i = -1 := mz_nI1 (by omega)
        have nn : ∀ p, N 8 p = nI i → (upd (upd (N 8) (a * 8 + b) (nI (sz 4))) (b * 8 + a) (nI (sz 4))) p = nI i := by
          intro p hp
          rw [mz_upd_at (fun z => ne (by rw [← hp, z]; exact hs8)), mz_upd_at (fun z => ne (by rw [← hp, z]; exact h8))]
          exact hp
        refine ⟨x, y, by rw [s3]; exact hx, by rw [s3]; exact hy, ?_, ?_, by rw [e8]; exact nn _ g3, by rw [e8]; exact nn _ g4⟩
        · rw [e (200 + i) (Or.inr (by omega))]; exact g1
        · rw [e (200 + i) (Or.inr (by omega))]; exact g2
    · intro x y hx hy
      rw [e8]
      by_cases q1 : x * 8 + y = b * 8 + a
      · have e1 : x = b := by omega
        have e2 : y = a := by omega
        subst e1; subst e2
        exact Or.inr ⟨sz 4, by rw [s4]; omega, by rw [mz_upd_eq], Or.inr ⟨r0, r1⟩⟩
      · by_cases q2 : x * 8 + y = a * 8 + b
        · have e1 : x = a := by omega
          have e2 : y = b := by omega
          subst e1; subst e2
          exact Or.inr ⟨sz 4, by rw [s4]; omega, by rw [mz_upd_at q1, mz_upd_eq], Or.inl ⟨r0, r1⟩⟩
        · rw [mz_upd_at q1, mz_upd_at q2]
          rcases h5 x y hx hy with h | ⟨i, hi, g, g'⟩
          · exact Or.inl h
          · exact Or.inr ⟨i, by rw [s4]; omega, g, by rw [e (200 + i) (Or.inr (by omega))]; exact g'⟩
    · intro i hi
      rw [s7] at hi
      rw [e (500 + i) (Or.inr (by omega)), ek 23 (by decide) (by decide) (by decide) (by decide) (by decide), ek 25 (by decide) (by decide) (by decide) (by decide) (by decide), ek 27 (by decide) (by decide) (by decide) (by decide) (by decide)]
      exact h6 i hi
    · intro g hg
      rw [s8] at hg
      rw [e (600 + g) (Or.inr (by omega)), ek 62 (by decide) (by decide) (by decide) (by decide) (by decide), ek 64 (by decide) (by decide) (by decide) (by decide) (by decide)]
      exact h7 g hg
    · intro r hr
      rw [s8, ek 77 (by decide) (by decide) (by decide) (by decide) (by decide), ek 62 (by decide) (by decide) (by decide) (by decide) (by decide)]
      exact h8c r hr
  · refine ⟨by rw [ek 6 (by decide) (by decide) (by decide) (by decide) (by decide)]; exact n1, by rw [ek 30 (by decide) (by decide) (by decide) (by decide) (by decide)]; exact n2, fun t ht => by rw [ek 37 (by decide) (by decide) (by decide) (by decide) (by decide)]; exact n3 t ht, fun g hg => ?_, n5.eq (ek 68 (by decide) (by decide) (by decide) (by decide) (by decide))⟩
    rw [ek 64 (by decide) (by decide) (by decide) (by decide) (by decide), ek 66 (by decide) (by decide) (by decide) (by decide) (by decide)]
    exact n4 g hg
theorem mz_LK_scene {N M M' : mz_Mem} {sz : Nat → Nat} {s d : Nat} {r q p : Int32} (h : mz_LK N M sz) (hN : mz_NI N sz) (hful : sz 7 < 12) (hs : s ≤ 12) (hd1 : 1 ≤ d) (hd : d ≤ 6)
    (r1 : M' (500 + sz 7) 1 = nI s) (r2 : M' (500 + sz 7) 2 = nI d) (r3 : M' (500 + sz 7) 3 = q) (e : ∀ k, k = 132 ∨ (200 ≤ k ∧ k < 700 ∧ k ≠ 500 + sz 7) → M' k = M k) :
    mz_LK (g_X7_addScene N r (nI s) (nI d) q p).2 M' (mz_sz1 sz 7) ∧ mz_NI (g_X7_addScene N r (nI s) (nI d) q p).2 (mz_sz1 sz 7) := by
  obtain ⟨⟨a3, a4, a5, a6, a7, a8⟩, ⟨b3, b4, b5, b6, b7, b8⟩, h3, h4, h5, h6, h7, h8c⟩ := h
  obtain ⟨n1, n2, n3, n4, n5⟩ := hN
  have s3 : mz_sz1 sz 7 3 = sz 3 := rfl
  have s4 : mz_sz1 sz 7 4 = sz 4 := rfl
  have s5 : mz_sz1 sz 7 5 = sz 5 := rfl
  have s6 : mz_sz1 sz 7 6 = sz 6 := rfl
  have s7 : mz_sz1 sz 7 7 = sz 7 + 1 := rfl
  have s8 : mz_sz1 sz 7 8 = sz 8 := rfl
  have e15 : (g_X7_addScene N r (nI s) (nI d) q p).2 15 = upd (N 15) 2 (N 15 2 + 1) := rfl
  have e23 : (g_X7_addScene N r (nI s) (nI d) q p).2 23 = upd (N 23) (sz 7) (nI s) := by
    show mz_rs 12 (N 23) (N 15 2) (nI s) = _
    rw [b7]; exact mz_rs_n hful (by decide)
  have e25 : (g_X7_addScene N r (nI s) (nI d) q p).2 25 = upd (N 25) (sz 7) (nI d) := by
    show mz_rs 12 (N 25) (N 15 2) (nI d) = _
    rw [b7]; exact mz_rs_n hful (by decide)
  have e27 : (g_X7_addScene N r (nI s) (nI d) q p).2 27 = upd (N 27) (sz 7) q := by
    show mz_rs 12 (N 27) (N 15 2) q = _
    rw [b7]; exact mz_rs_n hful (by decide)
  constructor
  · refine ⟨by rw [s3, s4, s5, s6, s7, s8]; exact ⟨a3, a4, a5, a6, by omega, a8⟩, ?_, ?_, ?_, ?_, ?_, ?_, ?_⟩
    · rw [s3, s4, s5, s6, s7, s8, e15]
      exact ⟨b3, b4, by rw [mz_upd_at (by decide)]; exact b5, by rw [mz_upd_at (by decide)]; exact b6, by rw [mz_upd_eq, b7, nI_1], b8⟩
    · intro i hi
      rw [e 132 (Or.inl rfl)]
      exact h3 i hi
    · intro i hi
      rw [s4] at hi
      rw [e (200 + i) (Or.inr (by omega))]
      exact h4 i hi
    · intro x y hx hy
      rcases h5 x y hx hy with h | ⟨i, hi, g, g'⟩
      · exact Or.inl h
      · exact Or.inr ⟨i, hi, g, by rw [e (200 + i) (Or.inr (by omega))]; exact g'⟩
    · intro i hi
      rw [s7] at hi
      rw [e23, e25, e27]
      by_cases z : i = sz 7
      · rw [z, mz_upd_eq, mz_upd_eq, mz_upd_eq]
        exact ⟨r1, r2, r3, s, d, hs, hd1, hd, rfl, rfl⟩
      · rw [mz_upd_at z, mz_upd_at z, mz_upd_at z, e (500 + i) (Or.inr (by omega))]
        exact h6 i (by omega)
    · intro g hg
      rw [s8] at hg
      rw [e (600 + g) (Or.inr (by omega))]
      exact h7 g hg
    · intro r hr; exact h8c r hr
  · exact ⟨n1, n2, n3, n4, n5⟩
theorem mz_enter_e (N : mz_Mem) {n : Nat} {r : Nat} (b8 : N 60 0 = nI n) (hn : n < 12) (hr : r < 8) :
    (g_X0_enter N (nI r)).2 60 = upd (N 60) 0 (nI (n + 1)) ∧ (g_X0_enter N (nI r)).2 62 = upd (N 62) n (nI r) ∧ (g_X0_enter N (nI r)).2 77 = upd (N 77) r (N 77 r + 1) ∧ (g_X0_enter N (nI r)).2 64 = upd (N 64) n 0 ∧ (g_X0_enter N (nI r)).2 66 = upd (N 66) n (-1) := by
  refine ⟨?_, ?_, ?_, ?_, ?_⟩
  · show upd (N 60) 0 (N 60 0 + 1) = _
    rw [b8, nI_1]
  · show mz_rs 12 (N 62) (N 60 0) (nI r) = _
    rw [b8]; exact mz_rs_n hn (by decide)
  · show mz_ra 8 (N 77) (nI r) 1 = _
    exact mz_ra_n hr (by decide)
  · show mz_rs 12 (N 64) (N 60 0) 0 = _
    rw [b8]; exact mz_rs_n hn (by decide)
  · show mz_rs 12 (N 66) (N 60 0) (-1) = _
    rw [b8]; exact mz_rs_n hn (by decide)
theorem mz_enter_k {N : mz_Mem} {r : Int32} {k : Nat} (k0 : k ≠ 60) (k2 : k ≠ 62) (k7 : k ≠ 77) (k4 : k ≠ 64) (k6 : k ≠ 66) : (g_X0_enter N r).2 k = N k := by
  unfold g_X0_enter
  show g_X0_changeHabit _ _ 0 (-1) k = _
  rw [mz_ch, mz_s_ne k6, mz_s_ne k4, mz_s_ne k7, mz_s_ne k2, mz_s_ne k0]
theorem mz_LK_guest {N M M' : mz_Mem} {sz : Nat → Nat} {r : Nat} (h : mz_LK N M sz) (hN : mz_NI N sz) (hful : sz 8 < 12) (hr0 : r < sz 3)
    (r0 : M' (600 + sz 8) 0 = nI r) (r1 : M' (600 + sz 8) 1 = 0) (e : ∀ k, k = 132 ∨ (200 ≤ k ∧ k < 700 ∧ k ≠ 600 + sz 8) → M' k = M k) :
    mz_LK (g_X0_enter N (nI r)).2 M' (mz_sz1 sz 8) ∧ mz_NI (g_X0_enter N (nI r)).2 (mz_sz1 sz 8) := by
  obtain ⟨⟨a3, a4, a5, a6, a7, a8⟩, ⟨b3, b4, b5, b6, b7, b8⟩, h3, h4, h5, h6, h7, h8c⟩ := h
  obtain ⟨n1, n2, n3, n4, n5⟩ := hN
  have s3 : mz_sz1 sz 8 3 = sz 3 := rfl
  have s4 : mz_sz1 sz 8 4 = sz 4 := rfl
  have s5 : mz_sz1 sz 8 5 = sz 5 := rfl
  have s6 : mz_sz1 sz 8 6 = sz 6 := rfl
  have s7 : mz_sz1 sz 8 7 = sz 7 := rfl
  have s8 : mz_sz1 sz 8 8 = sz 8 + 1 := rfl
  obtain ⟨e60, e62, e77, e64, e66⟩ := mz_enter_e N b8 hful (show r < 8 by omega)
  have ek : ∀ k, k ≠ 60 → k ≠ 62 → k ≠ 77 → k ≠ 64 → k ≠ 66 → (g_X0_enter N (nI r)).2 k = N k := fun k q1 q2 q3 q4 q5 => mz_enter_k q1 q2 q3 q4 q5
  generalize (g_X0_enter N (nI r)).2 = N' at e60 e62 e77 e64 e66 ek
  have kk : ∀ k, k < 60 → N' k = N k := fun k hk => ek k (by omega) (by omega) (by omega) (by omega) (by omega)
  constructor
  · refine ⟨by rw [s3, s4, s5, s6, s7, s8]; exact ⟨a3, a4, a5, a6, a7, by omega⟩, ?_, ?_, ?_, ?_, ?_, ?_, ?_⟩
    · rw [s3, s4, s5, s6, s7, s8, e60, kk 1 (by decide), kk 15 (by decide)]
      exact ⟨b3, b4, b5, b6, b7, mz_upd_eq _ _ _⟩
    · intro i hi
      rw [e 132 (Or.inl rfl), kk 3 (by decide)]
      exact h3 i hi
    · intro i hi
      rw [s4] at hi
      rw [e (200 + i) (Or.inr (by omega)), kk 8 (by decide)]
      exact h4 i hi
    · intro x y hx hy
      rw [kk 8 (by decide)]
      rcases h5 x y hx hy with h | ⟨i, hi, g, g'⟩
      · exact Or.inl h
      · exact Or.inr ⟨i, hi, g, by rw [e (200 + i) (Or.inr (by omega))]; exact g'⟩
    · intro i hi
      rw [s7] at hi
      rw [e (500 + i) (Or.inr (by omega)), kk 23 (by decide), kk 25 (by decide), kk 27 (by decide)]
      exact h6 i hi
    · intro g hg
      rw [s8] at hg
      rw [e62, e64]
      by_cases z : g = sz 8
      · rw [z, mz_upd_eq, mz_upd_eq]; exact ⟨r0, r1⟩
      · rw [mz_upd_at z, mz_upd_at z, e (600 + g) (Or.inr (by omega))]
        exact h7 g (by omega)
    · intro x hx
      rw [s8, e77, e62]
      have ec : mz_cnt (upd (N 62) (sz 8) (nI r)) (nI x) (sz 8) = mz_cnt (N 62) (nI x) (sz 8) := mz_cnt_ext (fun i hi => mz_upd_at (by omega))
      show _ = nI (mz_cnt (upd (N 62) (sz 8) (nI r)) (nI x) (sz 8) + (if upd (N 62) (sz 8) (nI r) (sz 8) = nI x then 1 else 0))
      rw [ec, mz_upd_eq]
      by_cases z : x = r
      · rw [z, mz_upd_eq, if_pos rfl, h8c r (by omega), nI_1]
      · rw [mz_upd_at z, if_neg (fun w => z ((nI_eq (by omega) (by omega)).mp w).symm), h8c x hx, Nat.add_zero]
  · refine ⟨by rw [kk 6 (by decide)]; exact n1, by rw [kk 30 (by decide)]; exact n2, fun t ht => by rw [kk 37 (by decide)]; exact n3 t ht, fun g hg => ?_, n5.eq (ek 68 (by decide) (by decide) (by decide) (by decide) (by decide))⟩
    rw [s8] at hg
    rw [e64, e66]
    by_cases z : g = sz 8
    · rw [z, mz_upd_eq, mz_upd_eq]; exact Or.inr ⟨Or.inl rfl, rfl⟩
    · rw [mz_upd_at z, mz_upd_at z]; exact n4 g (by omega)
theorem mz_LK_habit {N M M' : mz_Mem} {sz : Nat → Nat} {g h0 t : Nat} (h : mz_LK N M sz) (hN : mz_NI N sz) (hg : g < sz 8) (hh : h0 ≤ 3) (ht : t < sz 5)
    (r0 : M' (600 + g) 0 = M (600 + g) 0) (r1 : M' (600 + g) 1 = nI h0) (e : ∀ k, k = 132 ∨ (200 ≤ k ∧ k < 700 ∧ k ≠ 600 + g) → M' k = M k) :
    mz_LK (g_X0_changeHabit N (nI g) (nI h0) (nI t)) M' sz ∧ mz_NI (g_X0_changeHabit N (nI g) (nI h0) (nI t)) sz := by
  obtain ⟨⟨a3, a4, a5, a6, a7, a8⟩, ⟨b3, b4, b5, b6, b7, b8⟩, h3, h4, h5, h6, h7, h8c⟩ := h
  obtain ⟨n1, n2, n3, n4, n5⟩ := hN
  have hg12 : g < 12 := by omega
  have e64 : g_X0_changeHabit N (nI g) (nI h0) (nI t) 64 = upd (N 64) g (nI h0) := by
    rw [mz_ch, mz_s_ne (by decide), mz_s_eq]; exact mz_rs_n hg12 (by decide)
  have e66 : g_X0_changeHabit N (nI g) (nI h0) (nI t) 66 = upd (N 66) g (if nI h0 = 1 then nI t else -1) := by
    rw [mz_ch, mz_s_eq]; exact mz_rs_n hg12 (by decide)
  have ek : ∀ k, k ≠ 64 → k ≠ 66 → g_X0_changeHabit N (nI g) (nI h0) (nI t) k = N k := fun k q1 q2 => by rw [mz_ch, mz_s_ne q2, mz_s_ne q1]
  generalize g_X0_changeHabit N (nI g) (nI h0) (nI t) = N' at e64 e66 ek
  have kk : ∀ k, k < 64 → N' k = N k := fun k hk => ek k (by omega) (by omega)
  constructor
  · refine ⟨⟨a3, a4, a5, a6, a7, a8⟩, ?_, ?_, ?_, ?_, ?_, ?_, ?_⟩
    · rw [kk 1 (by decide), kk 15 (by decide), kk 60 (by decide)]
      exact ⟨b3, b4, b5, b6, b7, b8⟩
    · intro i hi
      rw [e 132 (Or.inl rfl), kk 3 (by decide)]
      exact h3 i hi
    · intro i hi
      rw [e (200 + i) (Or.inr (by omega)), kk 8 (by decide)]
      exact h4 i hi
    · intro x y hx hy
      rw [kk 8 (by decide)]
      rcases h5 x y hx hy with h | ⟨i, hi, g1, g'⟩
      · exact Or.inl h
      · exact Or.inr ⟨i, hi, g1, by rw [e (200 + i) (Or.inr (by omega))]; exact g'⟩
    · intro i hi
      rw [e (500 + i) (Or.inr (by omega)), kk 23 (by decide), kk 25 (by decide), kk 27 (by decide)]
      exact h6 i hi
    · intro j hj
      rw [kk 62 (by decide), e64]
      by_cases z : j = g
      · rw [z, mz_upd_eq]; exact ⟨r0.trans (h7 g hg).1, r1⟩
      · rw [mz_upd_at z, e (600 + j) (Or.inr (by omega))]
        exact h7 j hj
    · intro x hx
      rw [ek 77 (by decide) (by decide), kk 62 (by decide)]
      exact h8c x hx
  · refine ⟨by rw [kk 6 (by decide)]; exact n1, by rw [kk 30 (by decide)]; exact n2, fun t ht => by rw [kk 37 (by decide)]; exact n3 t ht, fun j hj => ?_, n5.eq (ek 68 (by decide) (by decide))⟩
    rw [e64, e66]
    by_cases z : j = g
    · rw [z, mz_upd_eq, mz_upd_eq]
      have q : ∀ x, x ≤ 3 → (nI x = 1) ∨ (¬ nI x = 1 ∧ (nI x = 0 ∨ nI x = 2 ∨ nI x = 3)) := by decide
      rcases q h0 hh with w | ⟨w, w2⟩
      · rw [if_pos w]; exact Or.inl ⟨w, t, ht, rfl⟩
      · rw [if_neg w]; exact Or.inr ⟨w2, rfl⟩
    · rw [mz_upd_at z, mz_upd_at z]; exact n4 j hj
theorem mz_LK_room {N M M' : mz_Mem} {sz : Nat → Nat} {q : Int32} (h : mz_LK N M sz) (hN : mz_NI N sz) (hful : sz 3 < 8)
    (r0 : ∀ i, i < sz 3 → M' 132 i = M 132 i) (r1 : M' 132 (sz 3) = q) (e : ∀ k, 200 ≤ k ∧ k < 700 → M' k = M k) :
    mz_LK (g_X4_addRoom N q).2 M' (mz_sz1 sz 3) ∧ mz_NI (g_X4_addRoom N q).2 (mz_sz1 sz 3) := by
  obtain ⟨⟨a3, a4, a5, a6, a7, a8⟩, ⟨b3, b4, b5, b6, b7, b8⟩, h3, h4, h5, h6, h7, h8c⟩ := h
  obtain ⟨n1, n2, n3, n4, n5⟩ := hN
  have s3 : mz_sz1 sz 3 3 = sz 3 + 1 := rfl
  have s4 : mz_sz1 sz 3 4 = sz 4 := rfl
  have s5 : mz_sz1 sz 3 5 = sz 5 := rfl
  have s6 : mz_sz1 sz 3 6 = sz 6 := rfl
  have s7 : mz_sz1 sz 3 7 = sz 7 := rfl
  have s8 : mz_sz1 sz 3 8 = sz 8 := rfl
  have e1 : (g_X4_addRoom N q).2 1 = upd (N 1) 0 (N 1 0 + 1) := rfl
  have e3 : (g_X4_addRoom N q).2 3 = upd (N 3) (sz 3) q := by
    show mz_rs 8 (N 3) (N 1 0) q = _
    rw [b3]; exact mz_rs_n hful (by decide)
  constructor
  · refine ⟨by rw [s3, s4, s5, s6, s7, s8]; exact ⟨by omega, a4, a5, a6, a7, a8⟩, ?_, ?_, ?_, ?_, ?_, ?_, ?_⟩
    · rw [s3, s4, s5, s6, s7, s8, e1]
      exact ⟨by rw [mz_upd_eq, b3, nI_1], by rw [mz_upd_at (by decide)]; exact b4, b5, b6, b7, b8⟩
    · intro i hi
      rw [s3] at hi
      rw [e3]
      by_cases z : i = sz 3
      · rw [z, mz_upd_eq]; exact r1
      · rw [mz_upd_at z, r0 i (by omega)]; exact h3 i (by omega)
    · intro i hi
      rw [s4] at hi
      rw [e (200 + i) (by omega)]
      obtain ⟨x, y, hx, hy, g⟩ := h4 i hi
      exact ⟨x, y, by rw [s3]; omega, by rw [s3]; omega, g⟩
    · intro x y hx hy
      rcases h5 x y hx hy with h | ⟨i, hi, g, g'⟩
      · exact Or.inl h
      · exact Or.inr ⟨i, hi, g, by rw [e (200 + i) (by omega)]; exact g'⟩
    · intro i hi
      rw [s7] at hi
      rw [e (500 + i) (by omega)]
      exact h6 i hi
    · intro g hg
      rw [s8] at hg
      rw [e (600 + g) (by omega)]
      exact h7 g hg
    · intro r hr; exact h8c r hr
  · exact ⟨n1, n2, n3, n4, n5⟩
