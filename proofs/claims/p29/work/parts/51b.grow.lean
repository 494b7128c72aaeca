/-! a told house grows: its cells and two fresh ones -/
theorem mz_th_new {j n : Nat} (h : 100 * (j - 2) + n ≠ 129 + j) : mz_th j n (100 * (j - 2) + n) = 700 := by
  unfold mz_th
  rw [if_neg h, if_pos rfl]
theorem mz_LK_sz {N M : mz_Mem} {sz : Nat → Nat} (h : mz_LK N M sz) : ∀ i, 3 ≤ i → i ≤ 8 → sz i ≤ 14 := by
  obtain ⟨⟨a1, a2, a3, a4, a5, a6⟩, -⟩ := h
  intro i i1 i2
  rcases (show i = 3 ∨ i = 4 ∨ i = 5 ∨ i = 6 ∨ i = 7 ∨ i = 8 by omega) with rfl | rfl | rfl | rfl | rfl | rfl <;> omega
/-- layouts over the told house's cells and the fresh ones -/
def mz_LQ (Lg : Nat) (sz : Nat → Nat) (lay : mz_Lay) : Prop := ∀ k sh, lay k = some sh → k = 700 ∨ k = 701 ∨ ∃ sh0, mz_TL Lg sz k = some sh0
theorem mz_LQ0 {Lg : Nat} {sz : Nat → Nat} : mz_LQ Lg sz (mz_TL Lg sz) := fun _ sh h => Or.inr (Or.inr ⟨sh, h⟩)
theorem mz_LQ.s {Lg : Nat} {sz : Nat → Nat} {lay : mz_Lay} (h : mz_LQ Lg sz lay) {k : Nat} {sh : mz_Sh} (hk : k = 700 ∨ k = 701 ∨ ∃ sh0, mz_TL Lg sz k = some sh0) : mz_LQ Lg sz (mz_ls lay k sh) := by
  intro a x ha
  by_cases e : a = k
  · rw [e]; exact hk
  · rw [mz_ls_ne e] at ha; exact h a x ha
section MZGW
variable {l : Launch} {D : va_G} {cA : Nat → ClassId} {κ ρ : Nat → Nat} {lo Lg d z : Nat} {xs : Nat → Int32} {N N' M : mz_Mem} {sz : Nat → Nat} {lay lay' : mz_Lay}
theorem mz_I_r1 (hI : mz_I ρ (mz_TL Lg sz)) (hlt : ∀ k sh, mz_TL Lg sz k = some sh → ρ k < z) (hl : mz_LQ Lg sz lay) : mz_I (mz_r1 ρ z) lay := by
  have v : ∀ k sh, lay k = some sh → (k = 700 ∧ mz_r1 ρ z k = z) ∨ (k = 701 ∧ mz_r1 ρ z k = z + 1) ∨ (mz_r1 ρ z k = ρ k ∧ ∃ sh0, mz_TL Lg sz k = some sh0) := by
    intro k sh hk
    rcases hl k sh hk with h | h | ⟨s, h⟩
    · exact Or.inl ⟨h, by rw [h]; rfl⟩
    · exact Or.inr (Or.inl ⟨h, by rw [h]; rfl⟩)
    · have := mz_TL_lt h
      exact Or.inr (Or.inr ⟨mz_r1_ne (by omega) (by omega), s, h⟩)
  intro a b x y hx hy he
  rcases v a x hx with ⟨a1, a2⟩ | ⟨a1, a2⟩ | ⟨a2, sa, a3⟩ <;> rcases v b y hy with ⟨b1, b2⟩ | ⟨b1, b2⟩ | ⟨b2, sb, b3⟩
  · omega
  · omega
  · have := hlt b sb b3; omega
  · omega
  · omega
  · have := hlt b sb b3; omega
  · have := hlt a sa a3; omega
  · have := hlt a sa a3; omega
  · exact hI _ _ _ _ a3 b3 (by rw [← a2, ← b2]; exact he)
theorem mz_nA (hnA : ∀ k sh, mz_TL Lg sz k = some sh → ¬ mz_B κ (ρ k)) (hcl : ∀ q, mz_B κ q → q < z) (hl : mz_LQ Lg sz lay) : ∀ k sh, lay k = some sh → ¬ mz_B κ (mz_r1 ρ z k) := by
  intro k sh hk hA
  rcases hl k sh hk with h | h | ⟨s, h⟩
  · have := hcl _ hA
    rw [h] at this
    exact absurd this (by show ¬ z < z; omega)
  · have := hcl _ hA
    rw [h] at this
    exact absurd this (by show ¬ z + 1 < z; omega)
  · have := mz_TL_lt h
    rw [mz_r1_ne (by omega) (by omega)] at hA
    exact hnA k s h hA
theorem mz_H_r1 {H : Heap} (hsz : ∀ i, 3 ≤ i → i ≤ 8 → sz i ≤ 14) (h : mz_H D vwCl cA ρ (mz_TL Lg sz) M H) : mz_H D vwCl cA (mz_r1 ρ z) (mz_TL Lg sz) M H := by
  intro k sh hk
  have e : mz_r1 ρ z k = ρ k := by have := mz_TL_lt hk; exact mz_r1_ne (by omega) (by omega)
  rw [e]
  have e2 : mz_ent cA (mz_r1 ρ z) M k sh = mz_ent cA ρ M k sh := by
    rcases mz_TL_cases hk with ⟨-, rfl⟩ | ⟨-, rfl⟩ | ⟨i, i1, i2, -, rfl⟩ | ⟨i, q, i1, i2, i3, i4, -, rfl⟩
    · rfl
    · rfl
    · simp only [mz_ent]
      congr 7
      funext q
      unfold mz_rwi
      have := hsz i (by omega) i2
      by_cases h1 : q < sz i
      · rw [if_pos h1]
        show some (mz_r1 ρ z (100 * (i - 2) + q)) = some (ρ (100 * (i - 2) + q))
        rw [mz_r1_ne (by omega) (by omega)]
      · rw [if_neg h1]; rfl
    · rfl
  rw [e2]
  exact h k sh hk
/-- a contract of what grows, out of one over the cells and the heap's size -/
theorem mz_JG {y : MethodName} {cc : ByteArray} {nL fr lo' mc ms : Nat} {ret : Option FieldType} {As : List Value} {Post : Heap → Prop} {r : Option Value} {A : Nat → Prop}
    (F : ∀ ρ M z, mz_TF κ lo Lg xs N d ρ M sz → (∀ k sh, mz_TL Lg sz k = some sh → ρ k < z) → (∀ q, mz_B κ q → q < z) → lo ≤ z → mz_J l D vwCl cA y cc nL ret fr lo' mc ms As (mz_TQ D cA κ lo (mz_r1 ρ z) (mz_TL Lg sz) N M z) r Post A) :
    mz_J l D vwCl cA y cc nL ret fr lo' mc ms As (mz_T D cA κ lo Lg xs N d sz) r Post A := by
  refine mz_JT fun ρ M hF => ?_
  intro p e ha hc hk s m args below hf happ hv ht
  obtain ⟨hA, hP, hK⟩ := hv
  exact F ρ M s.heap.size hF (fun k sh hk => (hP.2 k sh hk).lt) (hP.1.2.B fun q hq => hP.1.1.lt hq) hP.1.2.1 p e ha hc hk s m args below hf happ ⟨hA, ⟨⟨hP.1, mz_H_r1 (mz_LK_sz hF.2.2.2.2.2.1) hP.2⟩, rfl⟩, hK⟩ ht
theorem mz_TQ.new {H H1 : Heap} {M' : mz_Mem} {w : Nat} (h : mz_TQ D cA κ lo ρ lay N M w H) (h1 : mz_H D vwCl cA ρ lay' M' H1) (h2 : H1.size = H.size + 1) (h3 : ∀ q, q < H.size → H1[q]? = H[q]?) : mz_TQ D cA κ lo ρ lay' N M' (w + 1) H1 :=
  ⟨⟨⟨h.1.1.1.kept fun q hq => h3 q (h.1.1.1.lt hq), h.1.1.2.new (by omega) h3⟩, h1⟩, by rw [h2, h.2]⟩
theorem mz_TQ.put {H H1 : Heap} {M' : mz_Mem} {w a : Nat} (ha : ¬ mz_B κ a) (h : mz_TQ D cA κ lo ρ lay N M w H) (h1 : mz_H D vwCl cA ρ lay' M' H1) (h2 : H1.size = H.size) (h3 : ∀ q : Nat, q ≠ a → H1[q]? = H[q]?) : mz_TQ D cA κ lo ρ lay' N M' w H1 :=
  ⟨⟨⟨h.1.1.1.kept fun q hq => h3 q (fun e => ha (Or.inl (e ▸ hq))), h.1.1.2.put ha h2 h3⟩, h1⟩, by rw [h2, h.2]⟩
theorem mz_TQ.row {H H1 : Heap} {w i a : Nat} {f : Nat → Int32} {v : Int32} (ha : ¬ mz_B κ a) (h : mz_TQ D cA κ lo ρ lay N (mz_s M 700 f) w H) (h1 : mz_H D vwCl cA ρ lay' (mz_s (mz_s M 700 f) 700 (upd ((mz_s M 700 f) 700) i v)) H1) (h2 : H1.size = H.size) (h3 : ∀ q : Nat, q ≠ a → H1[q]? = H[q]?) : mz_TQ D cA κ lo ρ lay' N (mz_s M 700 (upd f i v)) w H1 := by
  rw [mz_s_s, mz_s_eq] at h1
  exact mz_TQ.put ha h h1 h2 h3
theorem mz_TQ.fresh {H H1 : Heap} {M' : mz_Mem} {w w' : Nat} (h : mz_TQ D cA κ lo ρ lay N M w H) (hw : w ≤ w') (h1 : mz_H D vwCl cA ρ lay' M' H1 ∧ H1.size = w') (h3 : ∀ q, q < H.size → ¬ w ≤ q → H1[q]? = H[q]?) : mz_TQ D cA κ lo ρ lay' N M' w' H1 :=
  ⟨⟨⟨h.1.1.1.kept fun q hq => h3 q (h.1.1.1.lt hq) (by have := h.1.1.1.lt hq; rw [h.2] at this; omega), h.1.1.2.to (by rw [h1.2, h.2]; exact hw) (h3 _ h.1.1.2.2.1.lt (by have := h.1.1.2.2.1.lt; rw [h.2] at this; omega))⟩, h1.1⟩, h1.2⟩
/-- behind a call of the class -/
theorem mz_TQ.cls {H H1 : Heap} {w : Nat} (hnA : ∀ k sh, lay k = some sh → ¬ mz_B κ (ρ k)) (h : mz_TQ D cA κ lo ρ lay N M w H) (h1 : mz_CP D cA κ N' H1) (h2 : H.size ≤ H1.size) (h3 : ∀ q, q < H.size → ¬ mz_A κ mz_lay2 q → H1[q]? = H[q]?) : mz_TP D cA κ lo ρ lay N' M H1 :=
  ⟨⟨h1, h.1.1.2.cls h2 h3⟩, fun k sh hk => (h.1.2 k sh hk).kept (h3 _ (h.1.2 k sh hk).lt (fun z => hnA k sh hk (Or.inl z)))⟩
theorem mz_TP.cls {H H1 : Heap} (hnA : ∀ k sh, lay k = some sh → ¬ mz_B κ (ρ k)) (h : mz_TP D cA κ lo ρ lay N M H) (h1 : mz_CP D cA κ N' H1) (h2 : H.size ≤ H1.size) (h3 : ∀ q, q < H.size → ¬ mz_A κ mz_lay2 q → H1[q]? = H[q]?) : mz_TP D cA κ lo ρ lay N' M H1 :=
  ⟨⟨h1, h.1.2.cls h2 h3⟩, fun k sh hk => (h.2 k sh hk).kept (h3 _ (h.2 k sh hk).lt (fun z => hnA k sh hk (Or.inl z)))⟩
theorem mz_T_grow {M3 : mz_Mem} {j : Nat} (hF : mz_TF κ lo Lg xs N d ρ M sz) (hj : 4 ≤ j ∧ j ≤ 8) (hlt : ∀ k sh, mz_TL Lg sz k = some sh → ρ k < z) (hcl : ∀ q, mz_B κ q → q < z) (hlo : lo ≤ z)
    (hM3 : ∀ k, k ≠ 700 → k ≠ 701 → M3 k = M k) (hL : mz_LK N' (fun k => M3 (mz_th j (sz j) k)) (mz_sz1 sz j) ∧ mz_NI N' (mz_sz1 sz j)) : ∀ H, mz_TP D cA κ lo (mz_r1 ρ z) (mz_L3 Lg sz j) N' M3 H → mz_T D cA κ lo Lg xs N' d (mz_sz1 sz j) H := fun H h =>
  ⟨h.1, _, _, mz_TF_grow hF hj hlt hcl hlo hM3 hL.1 hL.2, mz_H_ren h.2 (mz_grow_sub hj (fun i i1 i2 => by have := mz_LK_sz hF.2.2.2.2.2.1 i (by omega) i2; omega))⟩
/-- the rows of an array, one cell more -/
theorem mz_L1_row {j K : Nat} (hj : 4 ≤ j ∧ j ≤ 8) (hn : sz j ≤ 14) : ∀ i, i < sz j → ∀ q, mz_rwi j (sz j) i = some q → ∃ K', mz_ls (mz_TL Lg sz) 700 (mz_a K) q = some (mz_a K') := by
  intro i hi q hq
  unfold mz_rwi at hq
  rw [if_pos hi] at hq
  cases hq
  exact ⟨_, by rw [mz_ls_ne (by omega)]; exact mz_TL_row hj hi (by omega)⟩
/-- the ways from the told house's cells to the fresh rooms -/
def mz_th3 : Nat → Nat := fun k => if k = 132 then 700 else k
def mz_L3r (Lg : Nat) (sz : Nat → Nat) : mz_Lay := mz_ls (mz_ls (mz_TL Lg sz) 700 (mz_a (sz 3 + 1))) 130 (mz_o 10 (mz_TO.set 3 (some (some 700))))
theorem mz_th3_ne {k : Nat} (h : k ≠ 132) : mz_th3 k = k := if_neg h
theorem mz_L3r_ne {k : Nat} (h : k ≠ 130) (h1 : k ≠ 700) : mz_L3r Lg sz k = mz_TL Lg sz k := by
  unfold mz_L3r
  rw [mz_ls_ne h, mz_ls_ne h1]
theorem mz_grow3_sub (hsz : ∀ i, 3 ≤ i → i ≤ 8 → sz i ≤ 14) (k : Nat) (sh : mz_Sh) (hk : mz_TL Lg (mz_sz1 sz 3) k = some sh) : mz_L3r Lg sz (mz_th3 k) = some (mz_shm mz_th3 sh) := by
  have e3 : ∀ i, 4 ≤ i → mz_sz1 sz 3 i = sz i := fun i hi => if_neg (by omega)
  rcases mz_TL_cases hk with ⟨rfl, rfl⟩ | ⟨rfl, rfl⟩ | ⟨i, i1, i2, rfl, rfl⟩ | ⟨i, q, i1, i2, i3, i4, rfl, rfl⟩
  · rfl
  · rfl
  · rw [mz_th3_ne (by omega), mz_L3r_ne (by omega) (by omega), mz_TL_arr ⟨i1, i2⟩, e3 i i1]
    show some (mz_r 1 (sz i) _) = some (mz_r 1 (sz i) (fun q => (mz_rwi i (sz i) q).map mz_th3))
    congr 5
    funext q
    unfold mz_rwi
    by_cases h1 : q < sz i
    · rw [if_pos h1]
      show some (100 * (i - 2) + q) = some (mz_th3 (100 * (i - 2) + q))
      rw [mz_th3_ne (by omega)]
    · rw [if_neg h1]; rfl
  · rw [e3 i i1] at i3
    have := hsz i (by omega) i2
    rw [mz_th3_ne (by omega), mz_L3r_ne (by omega) (by omega), mz_TL_row ⟨i1, i2⟩ i3 (by omega)]
    rfl
theorem mz_th3_cases {k : Nat} {sh : mz_Sh} (hsz : ∀ i, 3 ≤ i → i ≤ 8 → sz i ≤ 14) (h : mz_TL Lg (mz_sz1 sz 3) k = some sh) : (k = 132 ∧ mz_th3 k = 700) ∨ (mz_th3 k = k ∧ ∃ sh0, mz_TL Lg sz k = some sh0) := by
  by_cases h1 : k = 132
  · exact Or.inl ⟨h1, by rw [h1]; rfl⟩
  · refine Or.inr ⟨mz_th3_ne h1, ?_⟩
    by_cases h3 : k = 130
    · exact ⟨_, by rw [h3]; rfl⟩
    · have hs := mz_grow3_sub hsz k sh h
      have hl := mz_TL_lt h
      rw [mz_th3_ne h1, mz_L3r_ne h3 (by omega)] at hs
      exact ⟨_, hs⟩
theorem mz_T_grow3 {M3 : mz_Mem} (hF : mz_TF κ lo Lg xs N d ρ M sz) (hlt : ∀ k sh, mz_TL Lg sz k = some sh → ρ k < z) (hcl : ∀ q, mz_B κ q → q < z) (hlo : lo ≤ z)
    (hM3 : ∀ k, k ≠ 700 → M3 k = M k) (hL : mz_LK N' (fun k => M3 (mz_th3 k)) (mz_sz1 sz 3) ∧ mz_NI N' (mz_sz1 sz 3)) : ∀ H, mz_TP D cA κ lo (mz_r1 ρ z) (mz_L3r Lg sz) N' M3 H → mz_T D cA κ lo Lg xs N' d (mz_sz1 sz 3) H := by
  intro H h
  obtain ⟨⟨f0, f1, f2, f2a, f2b⟩, f3, f4, f5, ⟨f6, f7, f8⟩, f9, f10⟩ := hF
  have hsz := mz_LK_sz f9
  have er : ∀ k, k < 132 → mz_r1 ρ z (mz_th3 k) = ρ k := fun k hk => by rw [mz_th3_ne (by omega)]; exact mz_r1_ne (by omega) (by omega)
  have v : ∀ k sh, mz_TL Lg (mz_sz1 sz 3) k = some sh → (k = 132 ∧ mz_r1 ρ z (mz_th3 k) = z) ∨ (mz_r1 ρ z (mz_th3 k) = ρ k ∧ ∃ sh0, mz_TL Lg sz k = some sh0) := by
    intro k sh hk
    rcases mz_th3_cases hsz hk with ⟨h1, h2⟩ | ⟨h1, h2⟩
    · exact Or.inl ⟨h1, by rw [h2]; rfl⟩
    · have := mz_TL_lt hk
      exact Or.inr ⟨by rw [h1]; exact mz_r1_ne (by omega) (by omega), h2⟩
  refine ⟨h.1, fun k => mz_r1 ρ z (mz_th3 k), fun k => M3 (mz_th3 k), ⟨⟨(er 0 (by omega)).trans f0, (er 130 (by omega)).trans f1, (er 131 (by omega)).trans f2, f2a, fun k sh hk hq => ?_⟩, fun k sh hk h200 => ?_, fun a b x y hx hy he => ?_, fun k sh hk hA => ?_, ⟨?_, f7, f8⟩, hL⟩, mz_H_ren h.2 (mz_grow3_sub hsz)⟩
  · have hq : κ 140 ≤ mz_r1 ρ z (mz_th3 k) ∧ mz_r1 ρ z (mz_th3 k) < κ 141 := hq
    rcases v k sh hk with ⟨h1, h2⟩ | ⟨h1, sh0, h2⟩
    · rw [h2] at hq; omega
    · rw [h1] at hq; exact f2b k sh0 h2 hq
  · rcases v k sh hk with ⟨h1, h2⟩ | ⟨h1, sh0, h2⟩
    · omega
    · show lo ≤ mz_r1 ρ z (mz_th3 k)
      rw [h1]; exact f3 k sh0 h2 h200
  · have he : mz_r1 ρ z (mz_th3 a) = mz_r1 ρ z (mz_th3 b) := he
    rcases v a x hx with ⟨a1, a2⟩ | ⟨a2, sa, a3⟩ <;> rcases v b y hy with ⟨b1, b2⟩ | ⟨b2, sb, b3⟩
    · omega
    · have := hlt b sb b3; omega
    · have := hlt a sa a3; omega
    · exact f4 _ _ _ _ a3 b3 (by rw [← a2, ← b2]; exact he)
  · have hA : mz_B κ (mz_r1 ρ z (mz_th3 k)) := hA
    rcases v k sh hk with ⟨h1, h2⟩ | ⟨h1, sh0, h2⟩
    · rw [h2] at hA
      have := hcl _ hA
      omega
    · rw [h1] at hA
      exact f5 k sh0 h2 hA
  · show M3 (mz_th3 130) 2 = nI d
    rw [mz_th3_ne (by decide), hM3 130 (by decide)]; exact f6
end MZGW
