def mz_two (n x z : Nat) : Nat → Nat := fun k => if k < n then x + k else z + (k - n)
/-- the references of a shape are below b -/
def mz_okS (b : Nat) : mz_Sh → Prop
  | .inl _ => True
  | .inr (.inl o) => ∀ q ∈ o.2, ∀ r : Nat, q = some (some r) → r < b
  | .inr (.inr (.inl g)) => ∀ j r : Nat, g.2.2 j = some r → r < b
  | .inr (.inr (.inr _)) => True
theorem mz_ent_rho (cA : Nat → ClassId) {ρ ρ' : Nat → Nat} {b : Nat} {M M' : mz_Mem} {k : Nat} {sh : mz_Sh} (h : mz_okS b sh) (hr : ∀ r, r < b → ρ r = ρ' r) (hM : M k = M' k) : mz_ent cA ρ M k sh = mz_ent cA ρ' M' k sh := by
  rcases sh with n | o | g | f
  · simp [mz_ent, hM]
  · simp only [mz_ent, hM]
    congr 2
    apply List.map_congr_left
    intro v hv
    obtain ⟨i, hi⟩ := List.getElem?_of_mem hv
    rw [mz_fs_at] at hi
    cases h1 : o.2[i]? with
    | none => rw [h1] at hi; cases hi
    | some q =>
      rw [h1] at hi
      cases hi
      rcases q with _ | _ | r
      · rfl
      · rfl
      · show Value.ref (ρ r) = Value.ref (ρ' r)
        rw [hr r (h _ (List.mem_of_getElem? h1) r rfl)]
  · simp only [mz_ent]
    congr 7
    funext j
    cases h1 : g.2.2 j with
    | none => rfl
    | some r => simp only [Option.map_some]; rw [hr r (h j r h1)]
  · rfl
theorem mz_layH_ok {k : Nat} {sh : mz_Sh} (h : mz_layH k = some sh) : mz_okS 70 sh := by
  have obj : ∀ (fs : List (Option (Option Nat))), fs.all (fun q => match q with | some (some r) => decide (r < 70) | _ => true) = true → mz_okS 70 (mz_o 10 fs) := by
    intro fs hf q hq r e
    subst e
    simpa using List.all_eq_true.mp hf _ hq
  have st : ∀ (lay : mz_Lay) (fs : List (Option (Option Nat))), fs.all (fun q => match q with | some (some r) => decide (r < 70) | _ => true) = true → (∀ k sh, lay k = some sh → mz_okS 70 sh) → ∀ k sh, mz_ls lay 0 (mz_o 10 fs) k = some sh → mz_okS 70 sh := by
    intro lay fs hf hl k sh hk
    by_cases e : k = 0
    · subst e; rw [mz_ls_eq] at hk; cases hk; exact obj fs hf
    · rw [mz_ls_ne e] at hk; exact hl k sh hk
  have sa : ∀ (lay : mz_Lay) (na n : Nat), (∀ k sh, lay k = some sh → mz_okS 70 sh) → ∀ k sh, mz_ls lay na (mz_a n) k = some sh → mz_okS 70 sh := by
    intro lay na n hl k sh hk
    by_cases e : k = na
    · subst e; rw [mz_ls_eq] at hk; cases hk; trivial
    · rw [mz_ls_ne e] at hk; exact hl k sh hk
  have sr : ∀ (lay : mz_Lay) (na N K : Nat), na + N < 70 → (∀ k sh, lay k = some sh → mz_okS 70 sh) → ∀ k sh, mz_lr lay na N K k = some sh → mz_okS 70 sh := by
    intro lay na N K hn hl k sh hk
    unfold mz_lr at hk
    by_cases e : k = na
    · rw [if_pos e] at hk
      cases hk
      intro j r hj
      have hj : (if j < N then some (na + 1 + j) else none) = some r := hj
      by_cases hj2 : j < N
      · rw [if_pos hj2] at hj; cases hj; omega
      · rw [if_neg hj2] at hj; cases hj
    · rw [if_neg e] at hk
      by_cases e2 : na < k ∧ k ≤ na + N
      · rw [if_pos e2] at hk; cases hk; trivial
      · rw [if_neg e2] at hk; exact hl k sh hk
  have k0 : ∀ k sh, mz_h0 k = some sh → mz_okS 70 sh := st _ _ (by decide) (fun _ _ h => by cases h)
  have k1 : ∀ k sh, mz_h1 k = some sh → mz_okS 70 sh := sa _ _ _ k0
  have k2 : ∀ k sh, mz_h2 k = some sh → mz_okS 70 sh := st _ _ (by decide) k1
  have k3 : ∀ k sh, mz_h3 k = some sh → mz_okS 70 sh := sr _ _ _ _ (by decide) k2
  have k4 : ∀ k sh, mz_h4 k = some sh → mz_okS 70 sh := st _ _ (by decide) k3
  have k5 : ∀ k sh, mz_h5 k = some sh → mz_okS 70 sh := sr _ _ _ _ (by decide) k4
  have k6 : ∀ k sh, mz_h6 k = some sh → mz_okS 70 sh := st _ _ (by decide) k5
  have k7 : ∀ k sh, mz_h7 k = some sh → mz_okS 70 sh := sr _ _ _ _ (by decide) k6
  have k8 : ∀ k sh, mz_h8 k = some sh → mz_okS 70 sh := st _ _ (by decide) k7
  have k9 : ∀ k sh, mz_h9 k = some sh → mz_okS 70 sh := sr _ _ _ _ (by decide) k8
  have k10 : ∀ k sh, mz_h10 k = some sh → mz_okS 70 sh := st _ _ (by decide) k9
  have k11 : ∀ k sh, mz_h11 k = some sh → mz_okS 70 sh := sr _ _ _ _ (by decide) k10
  have k12 : ∀ k sh, mz_h12 k = some sh → mz_okS 70 sh := st _ _ (by decide) k11
  have k13 : ∀ k sh, mz_h13 k = some sh → mz_okS 70 sh := sr _ _ _ _ (by decide) k12
  have k14 : ∀ k sh, mz_h14 k = some sh → mz_okS 70 sh := st _ _ (by decide) k13
  have k15 : ∀ k sh, mz_h15 k = some sh → mz_okS 70 sh := sr _ _ _ _ (by decide) k14
  have k16 : ∀ k sh, mz_h16 k = some sh → mz_okS 70 sh := st _ _ (by decide) k15
  exact k16 _ _ h
def mz_layHH : mz_Lay := fun k => if k < 70 then mz_layH k else (mz_layH (k - 70)).map (mz_shm (fun j => j + 70))
theorem mz_layHH_lt {k : Nat} {sh : mz_Sh} (h : mz_layHH k = some sh) : k < 140 := by
  unfold mz_layHH at h
  by_cases e : k < 70
  · omega
  · rw [if_neg e] at h
    obtain ⟨s0, h0, -⟩ := Option.map_eq_some_iff.mp h
    have := mz_layH_lt h0
    omega
theorem mz_HH {D : va_G} {cA : Nat → ClassId} {x z : Nat} {M : mz_Mem} {H : Heap} : mz_H D vwCl cA (mz_two 70 x z) mz_layHH M H ↔ (mz_H D vwCl cA (fun k => x + k) mz_layH M H ∧ mz_H D vwCl cA (fun k => z + k) mz_layH (fun k => M (k + 70)) H) := by
  have k1 : ∀ (k : Nat) (sh : mz_Sh), mz_layH k = some sh → mz_ent cA (mz_two 70 x z) M k sh = mz_ent cA (fun k => x + k) M k sh := fun k sh h => mz_ent_rho cA (mz_layH_ok h) (fun r hr => if_pos hr) rfl
  have k2 : ∀ (k : Nat) (sh : mz_Sh), mz_ent cA (fun k => z + k) (fun k => M (k + 70)) k sh = mz_ent cA (mz_two 70 x z) M (k + 70) (mz_shm (fun j => j + 70) sh) := fun k sh => by
    have e : (fun k => z + k) = (fun k => mz_two 70 x z ((fun j => j + 70) k)) := by
      funext k
      show z + k = mz_two 70 x z (k + 70)
      unfold mz_two
      rw [if_neg (by omega)]
      omega
    rw [e]
    exact mz_ent_lift cA (mz_two 70 x z) (fun j => j + 70) sh rfl
  have e1 : ∀ k, k < 70 → mz_two 70 x z k = x + k := fun k hk => if_pos hk
  have e2 : ∀ k, mz_two 70 x z (k + 70) = z + k := fun k => by unfold mz_two; rw [if_neg (by omega)]; omega
  constructor
  · intro h
    refine ⟨fun k sh hk => ?_, fun k sh hk => ?_⟩
    · have hl := mz_layH_lt hk
      have := h k sh (by unfold mz_layHH; rw [if_pos hl]; exact hk)
      rw [k1 k sh hk, e1 k hl] at this
      exact this
    · have := h (k + 70) (mz_shm (fun j => j + 70) sh) (by unfold mz_layHH; rw [if_neg (by omega), show k + 70 - 70 = k by omega, hk]; rfl)
      rw [k2]
      rw [e2] at this
      exact this
  · rintro ⟨h1, h2⟩ k sh hk
    unfold mz_layHH at hk
    by_cases hl : k < 70
    · rw [if_pos hl] at hk
      rw [k1 k sh hk, e1 k hl]
      exact h1 k sh hk
    · rw [if_neg hl] at hk
      obtain ⟨s0, h0, rfl⟩ := Option.map_eq_some_iff.mp hk
      have := h2 _ s0 h0
      rw [k2, show k - 70 + 70 = k by omega] at this
      rw [show mz_two 70 x z k = z + (k - 70) by unfold mz_two; rw [if_neg hl]]
      exact this
theorem mz_IHH {x z : Nat} (hz : x + 70 ≤ z) : mz_I (mz_two 70 x z) mz_layHH := by
  intro i j a b hi hj e
  have := mz_layHH_lt hi
  have := mz_layHH_lt hj
  unfold mz_two at e
  split at e <;> split at e <;> omega
def mz_rowB (lay : mz_Lay) (a N K : Nat) : Bool := (List.range N).all fun j => match lay (a + 1 + j) with
  | some sh => mz_shB sh (mz_a K)
  | none => false
theorem mz_row_of {lay : mz_Lay} {a N K : Nat} (h : mz_rowB lay a N K = true) : ∀ j, j < N → lay (a + 1 + j) = some (mz_a K) := by
  intro j hj
  have h1 := List.all_eq_true.mp h j (List.mem_range.mpr hj)
  try simp only at h1
  split at h1
  · rename_i s2 h2
    rw [h2, mz_shB_eq h1]
  · cases h1
def mz_N2 (v : Int32) : mz_Mem := fun k j => if (k = 0 ∨ k = 70) ∧ j = 8 then v else 0
theorem mz_N2_up (v : Int32) : mz_s (mz_Nv v) 70 (upd (mz_Nv v 70) 8 v) = mz_N2 v := by
  funext k j
  by_cases hk : k = 70
  · subst hk
    rw [mz_s_eq]
    by_cases hj : j = 8
    · subst hj; simp [upd, mz_N2]
    · simp [upd, mz_N2, mz_Nv, hj]
  · rw [mz_s_ne hk]; simp [mz_N2, mz_Nv, hk]
theorem mz_N2_z (v : Int32) (j : Nat) (hj : j ≠ 8) : mz_s (mz_N2 v) 70 (upd (mz_N2 v 70) j 0) = mz_N2 v := by
  funext k i
  by_cases hk : k = 70
  · subst hk
    rw [mz_s_eq]
    by_cases hi : i = j
    · subst hi; simp [upd, mz_N2, hj]
    · simp [upd, hi]
  · rw [mz_s_ne hk]
theorem mz_N2_1 (v : Int32) : (fun k => mz_N2 v (k + 70)) = mz_Nv v := by
  funext k j
  show (if (k + 70 = 0 ∨ k + 70 = 70) ∧ j = 8 then v else 0) = (if k = 0 ∧ j = 8 then v else 0)
  split <;> split <;> first | rfl | (exfalso; omega)
theorem mz_N2_0 {D : va_G} {cA : Nat → ClassId} {x : Nat} {v : Int32} {H : Heap} (h : mz_H D vwCl cA (fun k => x + k) mz_layH (mz_N2 v) H) : mz_H D vwCl cA (fun k => x + k) mz_layH (mz_Nv v) H := by
  intro k sh hk
  have hl := mz_layH_lt hk
  have e : mz_ent cA (fun k => x + k) (mz_Nv v) k sh = mz_ent cA (fun k => x + k) (mz_N2 v) k sh := mz_ent_rho cA (mz_layH_ok hk) (fun _ _ => rfl) (by
    funext j
    have : k ≠ 70 := by omega
    simp [mz_N2, mz_Nv, this])
  rw [e]
  exact h k sh hk
theorem mz_HtoT {D : va_G} {cA : Nat → ClassId} {x z : Nat} {M : mz_Mem} {H : Heap} (h : mz_H D vwCl cA (fun k => x + k) mz_layH M H) : mz_H D vwCl cA (mz_two 70 x z) mz_layH M H := by
  intro k sh hk
  rw [mz_ent_rho cA (ρ := mz_two 70 x z) (ρ' := fun k => x + k) (M := M) (M' := M) (mz_layH_ok hk) (fun r hr => if_pos hr) rfl, show mz_two 70 x z k = x + k from if_pos (mz_layH_lt hk)]
  exact h k sh hk
theorem mz_TtoH {D : va_G} {cA : Nat → ClassId} {x z : Nat} {M : mz_Mem} {H : Heap} (h : mz_H D vwCl cA (mz_two 70 x z) mz_layH M H) : mz_H D vwCl cA (fun k => x + k) mz_layH M H := by
  intro k sh hk
  have := h k sh hk
  rw [mz_ent_rho cA (ρ := mz_two 70 x z) (ρ' := fun k => x + k) (M := M) (M' := M) (mz_layH_ok hk) (fun r hr => if_pos hr) rfl, show mz_two 70 x z k = x + k from if_pos (mz_layH_lt hk)] at this
  exact this
set_option maxHeartbeats 8000000 in
theorem r_copy (l : Launch) (D : va_G) (cA : Nat → ClassId) (x z : Nat) (v : Int32) (hz : x + 70 ≤ z) : mz_J l D vwCl cA yX10_copy cX10_copy 2 (some (.object "ManorLoopsModel$House")) 2 100 70 601 [.ref x] (fun H => mz_H D vwCl cA (fun k => x + k) mz_layH (mz_Nv v) H ∧ H.size = z) (some (.ref z)) (fun H => mz_H D vwCl cA (fun k => x + k) mz_layH (mz_Nv v) H ∧ mz_H D vwCl cA (fun k => z + k) mz_layH (mz_Nv v) H) (fun q => z ≤ q) := by
  refine mz_introJ (ρ := mz_two 70 x z) (As0 := [.ref 0]) (by decide +kernel) (Nat.le_of_ble_eq_true rfl) rfl (fun Γ C hO E hN => ?_)
  have E' := (⟨_, _, _, E⟩ : ∃ Qc mc ms, mz_E Γ Qc mc ms (fun q => z ≤ q))
  refine mz_mono (P' := fun H => mz_H D vwCl cA (mz_two 70 x z) mz_layH (mz_Nv v) H ∧ H.size = z) (fun H h => ⟨mz_HtoT h.1, h.2⟩) ?_
  refine mz_newP (index := 10) (fun H h => h.1) (nn := 70) (ci := 10) (N := 16) (T := TX10) (fs := [some none, some none, some none, some none, some none, some none, some none, some none, none, none, none, none, none, none, none, none]) (fun H h => h.2) (P' := fun H => mz_H D vwCl cA (mz_two 70 x z) mz_layH (mz_Nv v) H ∧ mz_S D vwCl cA z mz_h0 1 mz_Z H) (fun H H1 hp h e hk => ⟨fun k sh hk2 => (hp.1 k sh hk2).kept (hk _ (hp.1 k sh hk2).lt), fun k sh hk2 => ?_, by rw [e, hp.2]⟩) C rfl iu_X10 tyX10 tyX10_ok (mz_in 1546 (by decide +kernel) (by decide +kernel)) (mz_in 1195 (by decide +kernel) (by decide +kernel)) (mz_in 71 (by decide +kernel) (by decide +kernel)) (fun j hj => by have : j < 16 := hj; rcases (show j = 0 ∨ j = 1 ∨ j = 2 ∨ j = 3 ∨ j = 4 ∨ j = 5 ∨ j = 6 ∨ j = 7 ∨ j = 8 ∨ j = 9 ∨ j = 10 ∨ j = 11 ∨ j = 12 ∨ j = 13 ∨ j = 14 ∨ j = 15 by omega) with rfl | rfl | rfl | rfl | rfl | rfl | rfl | rfl | rfl | rfl | rfl | rfl | rfl | rfl | rfl | rfl <;> rfl) (Nat.le_of_ble_eq_true rfl) (Nat.le_of_ble_eq_true rfl) (by decide +kernel) ?_
  · by_cases e0 : k = 0
    · subst e0
      rw [show mz_h0 0 = some (mz_o 10 [some none, some none, some none, some none, some none, some none, some none, some none, none, none, none, none, none, none, none, none]) from rfl] at hk2
      cases hk2
      exact h 70 _ (mz_ls_eq _ _ _)
    · rw [show mz_h0 k = none by unfold mz_h0; rw [mz_ls_ne e0]] at hk2
      cases hk2
  refine mz_goP (lay := mz_layH) (M := (mz_Nv v)) (cA := cA) (D := D) (cl := vwCl) (fun H h => h.1) FLX10 KLX10 C [(3, .dup)] (by decide +kernel) (pc' := 4) (L' := [(0, .ref 0)]) (st' := [.ref 70, .ref 70]) rfl ?_
  refine mz_callJI (index := 38) (As := []) (rest := [.ref 70]) (b := z) C hO E' (r_House l D cA z) (fun q h => h) (fun H h => h.2) (P' := mz_H D vwCl cA (mz_two 70 x z) mz_layHH (mz_Nv v)) (fun H H' hp hq hz2 hk => mz_HH.mpr ⟨mz_TtoH (fun k sh hk2 => (hp.1 k sh hk2).kept (hk _ (hp.1 k sh hk2).lt (fun q => ?_))), hq.1⟩) (Or.inl (mz_in 1547 (by decide +kernel) (by decide +kernel))) hn_X10_init rfl rfl ⟨Nat.le_of_ble_eq_true rfl, Nat.le_of_ble_eq_true rfl⟩ ⟨Nat.le_of_ble_eq_true rfl, Nat.le_of_ble_eq_true rfl⟩ (Nat.le_of_ble_eq_true rfl) (by decide +kernel) ?_ rfl
  · have e9 : mz_two 70 x z k = x + k := if_pos (mz_layH_lt hk2)
    have h9 := mz_layH_lt hk2
    rw [e9] at q
    omega
  refine mz_goP (lay := mz_layHH) (M := (mz_Nv v)) (cA := cA) (D := D) (cl := vwCl) (fun H h => h) FLX10 KLX10 C [(7, .astore_n 1), (8, .aload_n 0), (9, .getfield 9), (12, .iconst 0), (13, .aload_n 1), (14, .getfield 9), (17, .iconst 0), (18, .bipush 8)] (by decide +kernel) (pc' := 20) (L' := [(1, .ref 70), (0, .ref 0)]) (st' := [.int 8, .int 0, .ref 71, .int 0, .ref 1]) rfl ?_
  refine mz_acpy (index := 39) (src := 1) (dst := 71) (n0 := 8) (n1 := 8) (t0 := 0) (fun H h => h) (P' := (mz_H D vwCl cA (mz_two 70 x z) mz_layHH (mz_Nv v))) (fun H H1 hp h e hq => ?_) C E' (Nat.le_add_right _ _) (mz_IHH hz) rfl rfl rfl (mz_in 1548 (by decide +kernel) (by decide +kernel)) (mz_in 711 (by decide +kernel) (by decide +kernel)) (mz_in 710 (by decide +kernel) (by decide +kernel)) (mz_in 79 (by decide +kernel) (by decide +kernel)) (by decide) (by decide) (by decide) (by decide) (by decide) (Nat.le_of_ble_eq_true rfl) (Nat.le_of_ble_eq_true rfl) (by decide +kernel) ?_
  · rw [show mz_Nv v 1 = (fun _ => 0) by funext j; exact if_neg (fun q => absurd q.1 (by decide)), show mz_Nv v 71 = (fun _ => 0) by funext j; exact if_neg (fun q => absurd q.1 (by decide)), mz_cpz, mz_s_z (by funext j; exact if_neg (by omega))] at h
    exact h
  refine mz_goP (lay := mz_layHH) (M := (mz_Nv v)) (cA := cA) (D := D) (cl := vwCl) (fun H h => h) FLX10 KLX10 C [(23, .aload_n 0), (24, .getfield 17), (27, .aload_n 1), (28, .getfield 17)] (by decide +kernel) (pc' := 31) (L' := [(1, .ref 70), (0, .ref 0)]) (st' := [.ref 72, .ref 2]) rfl ?_
  refine mz_callJS (index := 45) (As := [.ref ((mz_two 70 x z) 2), .ref ((mz_two 70 x z) 72)]) (rest := []) C hO E' (r_rows l D cA (mz_two 70 x z) mz_layHH (mz_Nv v) (mz_H D vwCl cA (mz_two 70 x z) mz_layHH (mz_Nv v)) (fun q => z ≤ q) 2 72 8 8 (mz_rw 2 8) (fun j => (mz_rw 2 8 j).map (fun j => j + 70)) (fun j => 2 + 1 + j) (fun j => 72 + 1 + j) (by decide) (by decide) (fun H h => h) (mz_IHH hz) rfl rfl (fun j hj => ⟨if_pos hj, mz_row_of (a := 2) (by decide +kernel) j hj⟩) (fun j hj => ⟨by rw [mz_rw, if_pos hj]; show some (2 + 1 + j + 70) = _; congr 1; omega, mz_row_of (a := 72) (by decide +kernel) j hj⟩) (fun j hj => ⟨by funext i; exact if_neg (by omega), by funext i; exact if_neg (by omega)⟩) (fun j hj => by unfold mz_two; rw [if_neg (by omega)]; omega) (fun H H1 _ h _ _ => h)) (fun q h => h) (fun H h => h) (P' := (mz_H D vwCl cA (mz_two 70 x z) mz_layHH (mz_Nv v))) (fun H H' _ h _ _ => h) hs_X10_rows wl_X10_45 rfl ⟨Nat.le_of_ble_eq_true rfl, Nat.le_of_ble_eq_true rfl⟩ ⟨Nat.le_of_ble_eq_true rfl, Nat.le_of_ble_eq_true rfl⟩ (Nat.le_of_ble_eq_true rfl) (by decide +kernel) (st' := []) ?_ rfl rfl
  refine mz_goP (lay := mz_layHH) (M := (mz_Nv v)) (cA := cA) (D := D) (cl := vwCl) (fun H h => h) FLX10 KLX10 C [(34, .aload_n 0), (35, .getfield 20), (38, .aload_n 1), (39, .getfield 20)] (by decide +kernel) (pc' := 42) (L' := [(1, .ref 70), (0, .ref 0)]) (st' := [.ref 81, .ref 11]) rfl ?_
  refine mz_callJS (index := 45) (As := [.ref ((mz_two 70 x z) 11), .ref ((mz_two 70 x z) 81)]) (rest := []) C hO E' (r_rows l D cA (mz_two 70 x z) mz_layHH (mz_Nv v) (mz_H D vwCl cA (mz_two 70 x z) mz_layHH (mz_Nv v)) (fun q => z ≤ q) 11 81 8 8 (mz_rw 11 8) (fun j => (mz_rw 11 8 j).map (fun j => j + 70)) (fun j => 11 + 1 + j) (fun j => 81 + 1 + j) (by decide) (by decide) (fun H h => h) (mz_IHH hz) rfl rfl (fun j hj => ⟨if_pos hj, mz_row_of (a := 11) (by decide +kernel) j hj⟩) (fun j hj => ⟨by rw [mz_rw, if_pos hj]; show some (11 + 1 + j + 70) = _; congr 1; omega, mz_row_of (a := 81) (by decide +kernel) j hj⟩) (fun j hj => ⟨by funext i; exact if_neg (by omega), by funext i; exact if_neg (by omega)⟩) (fun j hj => by unfold mz_two; rw [if_neg (by omega)]; omega) (fun H H1 _ h _ _ => h)) (fun q h => h) (fun H h => h) (P' := (mz_H D vwCl cA (mz_two 70 x z) mz_layHH (mz_Nv v))) (fun H H' _ h _ _ => h) hs_X10_rows wl_X10_45 rfl ⟨Nat.le_of_ble_eq_true rfl, Nat.le_of_ble_eq_true rfl⟩ ⟨Nat.le_of_ble_eq_true rfl, Nat.le_of_ble_eq_true rfl⟩ (Nat.le_of_ble_eq_true rfl) (by decide +kernel) (st' := []) ?_ rfl rfl
  refine mz_goP (lay := mz_layHH) (M := (mz_Nv v)) (cA := cA) (D := D) (cl := vwCl) (fun H h => h) FLX10 KLX10 C [(45, .aload_n 0), (46, .getfield 23), (49, .aload_n 1), (50, .getfield 23)] (by decide +kernel) (pc' := 53) (L' := [(1, .ref 70), (0, .ref 0)]) (st' := [.ref 90, .ref 20]) rfl ?_
  refine mz_callJS (index := 45) (As := [.ref ((mz_two 70 x z) 20), .ref ((mz_two 70 x z) 90)]) (rest := []) C hO E' (r_rows l D cA (mz_two 70 x z) mz_layHH (mz_Nv v) (mz_H D vwCl cA (mz_two 70 x z) mz_layHH (mz_Nv v)) (fun q => z ≤ q) 20 90 5 4 (mz_rw 20 5) (fun j => (mz_rw 20 5 j).map (fun j => j + 70)) (fun j => 20 + 1 + j) (fun j => 90 + 1 + j) (by decide) (by decide) (fun H h => h) (mz_IHH hz) rfl rfl (fun j hj => ⟨if_pos hj, mz_row_of (a := 20) (by decide +kernel) j hj⟩) (fun j hj => ⟨by rw [mz_rw, if_pos hj]; show some (20 + 1 + j + 70) = _; congr 1; omega, mz_row_of (a := 90) (by decide +kernel) j hj⟩) (fun j hj => ⟨by funext i; exact if_neg (by omega), by funext i; exact if_neg (by omega)⟩) (fun j hj => by unfold mz_two; rw [if_neg (by omega)]; omega) (fun H H1 _ h _ _ => h)) (fun q h => h) (fun H h => h) (P' := (mz_H D vwCl cA (mz_two 70 x z) mz_layHH (mz_Nv v))) (fun H H' _ h _ _ => h) hs_X10_rows wl_X10_45 rfl ⟨Nat.le_of_ble_eq_true rfl, Nat.le_of_ble_eq_true rfl⟩ ⟨Nat.le_of_ble_eq_true rfl, Nat.le_of_ble_eq_true rfl⟩ (Nat.le_of_ble_eq_true rfl) (by decide +kernel) (st' := []) ?_ rfl rfl
  refine mz_goP (lay := mz_layHH) (M := (mz_Nv v)) (cA := cA) (D := D) (cl := vwCl) (fun H h => h) FLX10 KLX10 C [(56, .aload_n 0), (57, .getfield 26), (60, .aload_n 1), (61, .getfield 26)] (by decide +kernel) (pc' := 64) (L' := [(1, .ref 70), (0, .ref 0)]) (st' := [.ref 96, .ref 26]) rfl ?_
  refine mz_callJS (index := 45) (As := [.ref ((mz_two 70 x z) 26), .ref ((mz_two 70 x z) 96)]) (rest := []) C hO E' (r_rows l D cA (mz_two 70 x z) mz_layHH (mz_Nv v) (mz_H D vwCl cA (mz_two 70 x z) mz_layHH (mz_Nv v)) (fun q => z ≤ q) 26 96 4 5 (mz_rw 26 4) (fun j => (mz_rw 26 4 j).map (fun j => j + 70)) (fun j => 26 + 1 + j) (fun j => 96 + 1 + j) (by decide) (by decide) (fun H h => h) (mz_IHH hz) rfl rfl (fun j hj => ⟨if_pos hj, mz_row_of (a := 26) (by decide +kernel) j hj⟩) (fun j hj => ⟨by rw [mz_rw, if_pos hj]; show some (26 + 1 + j + 70) = _; congr 1; omega, mz_row_of (a := 96) (by decide +kernel) j hj⟩) (fun j hj => ⟨by funext i; exact if_neg (by omega), by funext i; exact if_neg (by omega)⟩) (fun j hj => by unfold mz_two; rw [if_neg (by omega)]; omega) (fun H H1 _ h _ _ => h)) (fun q h => h) (fun H h => h) (P' := (mz_H D vwCl cA (mz_two 70 x z) mz_layHH (mz_Nv v))) (fun H H' _ h _ _ => h) hs_X10_rows wl_X10_45 rfl ⟨Nat.le_of_ble_eq_true rfl, Nat.le_of_ble_eq_true rfl⟩ ⟨Nat.le_of_ble_eq_true rfl, Nat.le_of_ble_eq_true rfl⟩ (Nat.le_of_ble_eq_true rfl) (by decide +kernel) (st' := []) ?_ rfl rfl
  refine mz_goP (lay := mz_layHH) (M := (mz_Nv v)) (cA := cA) (D := D) (cl := vwCl) (fun H h => h) FLX10 KLX10 C [(67, .aload_n 0), (68, .getfield 29), (71, .aload_n 1), (72, .getfield 29)] (by decide +kernel) (pc' := 75) (L' := [(1, .ref 70), (0, .ref 0)]) (st' := [.ref 101, .ref 31]) rfl ?_
  refine mz_callJS (index := 45) (As := [.ref ((mz_two 70 x z) 31), .ref ((mz_two 70 x z) 101)]) (rest := []) C hO E' (r_rows l D cA (mz_two 70 x z) mz_layHH (mz_Nv v) (mz_H D vwCl cA (mz_two 70 x z) mz_layHH (mz_Nv v)) (fun q => z ≤ q) 31 101 12 10 (mz_rw 31 12) (fun j => (mz_rw 31 12 j).map (fun j => j + 70)) (fun j => 31 + 1 + j) (fun j => 101 + 1 + j) (by decide) (by decide) (fun H h => h) (mz_IHH hz) rfl rfl (fun j hj => ⟨if_pos hj, mz_row_of (a := 31) (by decide +kernel) j hj⟩) (fun j hj => ⟨by rw [mz_rw, if_pos hj]; show some (31 + 1 + j + 70) = _; congr 1; omega, mz_row_of (a := 101) (by decide +kernel) j hj⟩) (fun j hj => ⟨by funext i; exact if_neg (by omega), by funext i; exact if_neg (by omega)⟩) (fun j hj => by unfold mz_two; rw [if_neg (by omega)]; omega) (fun H H1 _ h _ _ => h)) (fun q h => h) (fun H h => h) (P' := (mz_H D vwCl cA (mz_two 70 x z) mz_layHH (mz_Nv v))) (fun H H' _ h _ _ => h) hs_X10_rows wl_X10_45 rfl ⟨Nat.le_of_ble_eq_true rfl, Nat.le_of_ble_eq_true rfl⟩ ⟨Nat.le_of_ble_eq_true rfl, Nat.le_of_ble_eq_true rfl⟩ (Nat.le_of_ble_eq_true rfl) (by decide +kernel) (st' := []) ?_ rfl rfl
  refine mz_goP (lay := mz_layHH) (M := (mz_Nv v)) (cA := cA) (D := D) (cl := vwCl) (fun H h => h) FLX10 KLX10 C [(78, .aload_n 0), (79, .getfield 32), (82, .aload_n 1), (83, .getfield 32)] (by decide +kernel) (pc' := 86) (L' := [(1, .ref 70), (0, .ref 0)]) (st' := [.ref 114, .ref 44]) rfl ?_
  refine mz_callJS (index := 45) (As := [.ref ((mz_two 70 x z) 44), .ref ((mz_two 70 x z) 114)]) (rest := []) C hO E' (r_rows l D cA (mz_two 70 x z) mz_layHH (mz_Nv v) (mz_H D vwCl cA (mz_two 70 x z) mz_layHH (mz_Nv v)) (fun q => z ≤ q) 44 114 12 7 (mz_rw 44 12) (fun j => (mz_rw 44 12 j).map (fun j => j + 70)) (fun j => 44 + 1 + j) (fun j => 114 + 1 + j) (by decide) (by decide) (fun H h => h) (mz_IHH hz) rfl rfl (fun j hj => ⟨if_pos hj, mz_row_of (a := 44) (by decide +kernel) j hj⟩) (fun j hj => ⟨by rw [mz_rw, if_pos hj]; show some (44 + 1 + j + 70) = _; congr 1; omega, mz_row_of (a := 114) (by decide +kernel) j hj⟩) (fun j hj => ⟨by funext i; exact if_neg (by omega), by funext i; exact if_neg (by omega)⟩) (fun j hj => by unfold mz_two; rw [if_neg (by omega)]; omega) (fun H H1 _ h _ _ => h)) (fun q h => h) (fun H h => h) (P' := (mz_H D vwCl cA (mz_two 70 x z) mz_layHH (mz_Nv v))) (fun H H' _ h _ _ => h) hs_X10_rows wl_X10_45 rfl ⟨Nat.le_of_ble_eq_true rfl, Nat.le_of_ble_eq_true rfl⟩ ⟨Nat.le_of_ble_eq_true rfl, Nat.le_of_ble_eq_true rfl⟩ (Nat.le_of_ble_eq_true rfl) (by decide +kernel) (st' := []) ?_ rfl rfl
  refine mz_goP (lay := mz_layHH) (M := (mz_Nv v)) (cA := cA) (D := D) (cl := vwCl) (fun H h => h) FLX10 KLX10 C [(89, .aload_n 0), (90, .getfield 35), (93, .aload_n 1), (94, .getfield 35)] (by decide +kernel) (pc' := 97) (L' := [(1, .ref 70), (0, .ref 0)]) (st' := [.ref 127, .ref 57]) rfl ?_
  refine mz_callJS (index := 45) (As := [.ref ((mz_two 70 x z) 57), .ref ((mz_two 70 x z) 127)]) (rest := []) C hO E' (r_rows l D cA (mz_two 70 x z) mz_layHH (mz_Nv v) (mz_H D vwCl cA (mz_two 70 x z) mz_layHH (mz_Nv v)) (fun q => z ≤ q) 57 127 12 12 (mz_rw 57 12) (fun j => (mz_rw 57 12 j).map (fun j => j + 70)) (fun j => 57 + 1 + j) (fun j => 127 + 1 + j) (by decide) (by decide) (fun H h => h) (mz_IHH hz) rfl rfl (fun j hj => ⟨if_pos hj, mz_row_of (a := 57) (by decide +kernel) j hj⟩) (fun j hj => ⟨by rw [mz_rw, if_pos hj]; show some (57 + 1 + j + 70) = _; congr 1; omega, mz_row_of (a := 127) (by decide +kernel) j hj⟩) (fun j hj => ⟨by funext i; exact if_neg (by omega), by funext i; exact if_neg (by omega)⟩) (fun j hj => by unfold mz_two; rw [if_neg (by omega)]; omega) (fun H H1 _ h _ _ => h)) (fun q h => h) (fun H h => h) (P' := (mz_H D vwCl cA (mz_two 70 x z) mz_layHH (mz_Nv v))) (fun H H' _ h _ _ => h) hs_X10_rows wl_X10_45 rfl ⟨Nat.le_of_ble_eq_true rfl, Nat.le_of_ble_eq_true rfl⟩ ⟨Nat.le_of_ble_eq_true rfl, Nat.le_of_ble_eq_true rfl⟩ (Nat.le_of_ble_eq_true rfl) (by decide +kernel) (st' := []) ?_ rfl rfl
  refine mz_goP (lay := mz_layHH) (M := (mz_Nv v)) (cA := cA) (D := D) (cl := vwCl) (fun H h => h) FLX10 KLX10 C [(100, .aload_n 1), (101, .aload_n 0), (102, .getfield 49)] (by decide +kernel) (pc' := 105) (L' := [(1, .ref 70), (0, .ref 0)]) (st' := [.int v, .ref 70]) rfl ?_
  refine mz_putP (fun H h => h) (lay := mz_layHH) (M := (mz_Nv v)) (id := 70) (ci := 10) (j := 8) (N := 16) (T := TX10) (fs := [some (some 71), some (some 72), some (some 81), some (some 90), some (some 96), some (some 101), some (some 114), some (some 127), none, none, none, none, none, none, none, none]) (P' := mz_H D vwCl cA (mz_two 70 x z) mz_layHH (mz_N2 v)) (fun H H1 hp h e _ => by rw [mz_N2_up] at h; exact h) C E' (Nat.le_add_right _ _) (mz_IHH hz) rfl rfl rfl (by decide) iu_X10 tyX10 tyX10_ok nmX10 wf_X10_49 rfl rfl (by decide +kernel) ?_
  refine mz_goP (lay := mz_layHH) (M := (mz_N2 v)) (cA := cA) (D := D) (cl := vwCl) (fun H h => h) FLX10 KLX10 C [(108, .aload_n 1), (109, .aload_n 0), (110, .getfield 53)] (by decide +kernel) (pc' := 113) (L' := [(1, .ref 70), (0, .ref 0)]) (st' := [.int 0, .ref 70]) rfl ?_
  refine mz_putP (fun H h => h) (lay := mz_layHH) (M := (mz_N2 v)) (id := 70) (ci := 10) (j := 9) (N := 16) (T := TX10) (fs := [some (some 71), some (some 72), some (some 81), some (some 90), some (some 96), some (some 101), some (some 114), some (some 127), none, none, none, none, none, none, none, none]) (P' := mz_H D vwCl cA (mz_two 70 x z) mz_layHH (mz_N2 v)) (fun H H1 hp h e _ => by rw [mz_N2_z _ _ (by decide)] at h; exact h) C E' (Nat.le_add_right _ _) (mz_IHH hz) rfl rfl rfl (by decide) iu_X10 tyX10 tyX10_ok nmX10 wf_X10_53 rfl rfl (by decide +kernel) ?_
  refine mz_goP (lay := mz_layHH) (M := (mz_N2 v)) (cA := cA) (D := D) (cl := vwCl) (fun H h => h) FLX10 KLX10 C [(116, .aload_n 1), (117, .aload_n 0), (118, .getfield 56)] (by decide +kernel) (pc' := 121) (L' := [(1, .ref 70), (0, .ref 0)]) (st' := [.int 0, .ref 70]) rfl ?_
  refine mz_putP (fun H h => h) (lay := mz_layHH) (M := (mz_N2 v)) (id := 70) (ci := 10) (j := 10) (N := 16) (T := TX10) (fs := [some (some 71), some (some 72), some (some 81), some (some 90), some (some 96), some (some 101), some (some 114), some (some 127), none, none, none, none, none, none, none, none]) (P' := mz_H D vwCl cA (mz_two 70 x z) mz_layHH (mz_N2 v)) (fun H H1 hp h e _ => by rw [mz_N2_z _ _ (by decide)] at h; exact h) C E' (Nat.le_add_right _ _) (mz_IHH hz) rfl rfl rfl (by decide) iu_X10 tyX10 tyX10_ok nmX10 wf_X10_56 rfl rfl (by decide +kernel) ?_
  refine mz_goP (lay := mz_layHH) (M := (mz_N2 v)) (cA := cA) (D := D) (cl := vwCl) (fun H h => h) FLX10 KLX10 C [(124, .aload_n 1), (125, .aload_n 0), (126, .getfield 59)] (by decide +kernel) (pc' := 129) (L' := [(1, .ref 70), (0, .ref 0)]) (st' := [.int 0, .ref 70]) rfl ?_
  refine mz_putP (fun H h => h) (lay := mz_layHH) (M := (mz_N2 v)) (id := 70) (ci := 10) (j := 11) (N := 16) (T := TX10) (fs := [some (some 71), some (some 72), some (some 81), some (some 90), some (some 96), some (some 101), some (some 114), some (some 127), none, none, none, none, none, none, none, none]) (P' := mz_H D vwCl cA (mz_two 70 x z) mz_layHH (mz_N2 v)) (fun H H1 hp h e _ => by rw [mz_N2_z _ _ (by decide)] at h; exact h) C E' (Nat.le_add_right _ _) (mz_IHH hz) rfl rfl rfl (by decide) iu_X10 tyX10 tyX10_ok nmX10 wf_X10_59 rfl rfl (by decide +kernel) ?_
  refine mz_goP (lay := mz_layHH) (M := (mz_N2 v)) (cA := cA) (D := D) (cl := vwCl) (fun H h => h) FLX10 KLX10 C [(132, .aload_n 1), (133, .aload_n 0), (134, .getfield 62)] (by decide +kernel) (pc' := 137) (L' := [(1, .ref 70), (0, .ref 0)]) (st' := [.int 0, .ref 70]) rfl ?_
  refine mz_putP (fun H h => h) (lay := mz_layHH) (M := (mz_N2 v)) (id := 70) (ci := 10) (j := 12) (N := 16) (T := TX10) (fs := [some (some 71), some (some 72), some (some 81), some (some 90), some (some 96), some (some 101), some (some 114), some (some 127), none, none, none, none, none, none, none, none]) (P' := mz_H D vwCl cA (mz_two 70 x z) mz_layHH (mz_N2 v)) (fun H H1 hp h e _ => by rw [mz_N2_z _ _ (by decide)] at h; exact h) C E' (Nat.le_add_right _ _) (mz_IHH hz) rfl rfl rfl (by decide) iu_X10 tyX10 tyX10_ok nmX10 wf_X10_62 rfl rfl (by decide +kernel) ?_
  refine mz_goP (lay := mz_layHH) (M := (mz_N2 v)) (cA := cA) (D := D) (cl := vwCl) (fun H h => h) FLX10 KLX10 C [(140, .aload_n 1), (141, .aload_n 0), (142, .getfield 65)] (by decide +kernel) (pc' := 145) (L' := [(1, .ref 70), (0, .ref 0)]) (st' := [.int 0, .ref 70]) rfl ?_
  refine mz_putP (fun H h => h) (lay := mz_layHH) (M := (mz_N2 v)) (id := 70) (ci := 10) (j := 13) (N := 16) (T := TX10) (fs := [some (some 71), some (some 72), some (some 81), some (some 90), some (some 96), some (some 101), some (some 114), some (some 127), none, none, none, none, none, none, none, none]) (P' := mz_H D vwCl cA (mz_two 70 x z) mz_layHH (mz_N2 v)) (fun H H1 hp h e _ => by rw [mz_N2_z _ _ (by decide)] at h; exact h) C E' (Nat.le_add_right _ _) (mz_IHH hz) rfl rfl rfl (by decide) iu_X10 tyX10 tyX10_ok nmX10 wf_X10_65 rfl rfl (by decide +kernel) ?_
  refine mz_goP (lay := mz_layHH) (M := (mz_N2 v)) (cA := cA) (D := D) (cl := vwCl) (fun H h => h) FLX10 KLX10 C [(148, .aload_n 1), (149, .aload_n 0), (150, .getfield 68)] (by decide +kernel) (pc' := 153) (L' := [(1, .ref 70), (0, .ref 0)]) (st' := [.int 0, .ref 70]) rfl ?_
  refine mz_putP (fun H h => h) (lay := mz_layHH) (M := (mz_N2 v)) (id := 70) (ci := 10) (j := 14) (N := 16) (T := TX10) (fs := [some (some 71), some (some 72), some (some 81), some (some 90), some (some 96), some (some 101), some (some 114), some (some 127), none, none, none, none, none, none, none, none]) (P' := mz_H D vwCl cA (mz_two 70 x z) mz_layHH (mz_N2 v)) (fun H H1 hp h e _ => by rw [mz_N2_z _ _ (by decide)] at h; exact h) C E' (Nat.le_add_right _ _) (mz_IHH hz) rfl rfl rfl (by decide) iu_X10 tyX10 tyX10_ok nmX10 wf_X10_68 rfl rfl (by decide +kernel) ?_
  refine mz_goP (lay := mz_layHH) (M := (mz_N2 v)) (cA := cA) (D := D) (cl := vwCl) (fun H h => h) FLX10 KLX10 C [(156, .aload_n 1), (157, .aload_n 0), (158, .getfield 71)] (by decide +kernel) (pc' := 161) (L' := [(1, .ref 70), (0, .ref 0)]) (st' := [.int 0, .ref 70]) rfl ?_
  refine mz_putP (fun H h => h) (lay := mz_layHH) (M := (mz_N2 v)) (id := 70) (ci := 10) (j := 15) (N := 16) (T := TX10) (fs := [some (some 71), some (some 72), some (some 81), some (some 90), some (some 96), some (some 101), some (some 114), some (some 127), none, none, none, none, none, none, none, none]) (P' := mz_H D vwCl cA (mz_two 70 x z) mz_layHH (mz_N2 v)) (fun H H1 hp h e _ => by rw [mz_N2_z _ _ (by decide)] at h; exact h) C E' (Nat.le_add_right _ _) (mz_IHH hz) rfl rfl rfl (by decide) iu_X10 tyX10 tyX10_ok nmX10 wf_X10_71 rfl rfl (by decide +kernel) ?_
  refine mz_goP (lay := mz_layHH) (M := (mz_N2 v)) (cA := cA) (D := D) (cl := vwCl) (fun H h => h) FLX10 KLX10 C [(164, .aload_n 1)] (by decide +kernel) (pc' := 165) (L' := [(1, .ref 70), (0, .ref 0)]) (st' := [.ref 70]) rfl ?_
  refine mz_widen (k' := 70) (n' := 601) (by decide) (by decide) ?_
  exact mz_jaret C ⟨_, rfl⟩ E (by decide +kernel) (show mz_two 70 x z 70 = z from rfl) (fun H h => ⟨mz_N2_0 (mz_HH.mp h).1, by have h2 := (mz_HH.mp h).2; rw [mz_N2_1] at h2; exact h2⟩)
