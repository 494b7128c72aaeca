/-! M is N where it matters for the evening that is real; the trial's evening may hold anything -/
theorem mz_upd_self (f : Nat → Int32) (i : Nat) : upd f i (f i) = f := by
  funext j; by_cases h : j = i <;> simp [upd, h]
theorem mz_fu_of {z : Bool} {k : Nat} (h : mz_fu z k = true) : (1 ≤ k ∧ k ≤ 29) ∨ k ∈ mz_fa ∨ (k = 32 ∧ z = false) := by
  unfold mz_fu at h
  rcases (Bool.or_eq_true _ _).mp h with h | h
  · obtain ⟨h1, h2⟩ := (Bool.and_eq_true _ _).mp h
    exact Or.inl ⟨Nat.le_of_ble_eq_true h1, Nat.le_of_ble_eq_true h2⟩
  · rcases (Bool.or_eq_true _ _).mp h with h | h
    · obtain ⟨x, hx, e⟩ := List.any_eq_true.mp h
      have e2 : k = x := Nat.eq_of_beq_eq_true e
      exact Or.inr (Or.inl (e2 ▸ hx))
    · obtain ⟨h1, h2⟩ := (Bool.and_eq_true _ _).mp h
      exact Or.inr (Or.inr ⟨Nat.eq_of_beq_eq_true h1, by cases z <;> simp_all⟩)
theorem mz_fa_lt {k : Nat} (h : k ∈ mz_fa) : k < 78 := by
  have : ∀ x, x ∈ mz_fa → x < 78 := by decide
  exact this k h
theorem mz_fu_lt {z : Bool} {k : Nat} (h : mz_fu z k = true) : k < 78 := by
  rcases mz_fu_of h with h | h | h
  · omega
  · exact mz_fa_lt h
  · omega
theorem mz_md_ext {z : Bool} {M N : mz_Mem} (h1 : ∀ k, mz_fu z k = true → M k = N k) (h2 : M 30 7 = N 30 7) (h3 : M 40 6 = N 40 6) (h4 : M 60 0 = N 60 0) (h5 : M 73 0 = N 73 0) : M = mz_md z M N := by
  funext k
  unfold mz_md
  cases e : mz_fu z k with
  | true => exact h1 k e
  | false =>
    show M k = cond (Nat.beq k 30) (upd (M k) 7 (N k 7)) (cond (Nat.beq k 40) (upd (M k) 6 (N k 6)) (cond (Nat.beq k 60 || Nat.beq k 73) (upd (M k) 0 (N k 0)) (M k)))
    cases e30 : Nat.beq k 30 with
    | true =>
      have hk : k = 30 := Nat.eq_of_beq_eq_true e30
      subst hk
      show M 30 = upd (M 30) 7 (N 30 7)
      rw [← h2]; exact (mz_upd_self _ _).symm
    | false =>
      cases e40 : Nat.beq k 40 with
      | true =>
        have hk : k = 40 := Nat.eq_of_beq_eq_true e40
        subst hk
        show M 40 = upd (M 40) 6 (N 40 6)
        rw [← h3]; exact (mz_upd_self _ _).symm
      | false =>
        cases e60 : Nat.beq k 60 with
        | true =>
          have hk : k = 60 := Nat.eq_of_beq_eq_true e60
          subst hk
          show M 60 = upd (M 60) 0 (N 60 0)
          rw [← h4]; exact (mz_upd_self _ _).symm
        | false =>
          cases e73 : Nat.beq k 73 with
          | true =>
            have hk : k = 73 := Nat.eq_of_beq_eq_true e73
            subst hk
            show M 73 = upd (M 73) 0 (N 73 0)
            rw [← h5]; exact (mz_upd_self _ _).symm
          | false => rfl
section MZSP
variable {z : Bool} {M N : mz_Mem}
theorem mz_md_r (h : M = mz_md z M N) {k : Nat} (hk : mz_fu z k = true) : M k = N k := (congrFun h k).trans (mz_md_k hk)
theorem mz_md_r30 (h : M = mz_md z M N) : M 30 7 = N 30 7 := (congrFun (congrFun h 30) 7).trans mz_md_30
theorem mz_md_r40 (h : M = mz_md z M N) : M 40 6 = N 40 6 := (congrFun (congrFun h 40) 6).trans mz_md_40
theorem mz_md_r60 (h : M = mz_md z M N) : M 60 0 = N 60 0 := (congrFun (congrFun h 60) 0).trans mz_md_60
theorem mz_md_r73 (h : M = mz_md z M N) : M 73 0 = N 73 0 := (congrFun (congrFun h 73) 0).trans mz_md_73
theorem mz_fu_true {k : Nat} (h : mz_fu true k = true) : mz_fu z k = true := by
  cases z with
  | true => exact h
  | false =>
    rcases mz_fu_of h with h1 | h1 | h1
    · unfold mz_fu; rw [Nat.ble_eq_true_of_le h1.1, Nat.ble_eq_true_of_le h1.2]; rfl
    · unfold mz_fu
      rw [List.any_eq_true.mpr ⟨k, h1, Nat.beq_refl k⟩, Bool.true_or, Bool.or_true]
    · exact absurd h1.2 (by decide)
def mz_EQ (M N : mz_Mem) : Prop := M = mz_md true M N ∧ M 121 0 = N 73 0
theorem mz_EQ.of {F : mz_Mem} (h : M = mz_md z F N) (h2 : M 121 0 = N 73 0) : mz_EQ M N :=
  ⟨mz_md_ext (fun k hk => (congrFun h k).trans (mz_md_k (mz_fu_true hk))) ((congrFun (congrFun h 30) 7).trans mz_md_30) ((congrFun (congrFun h 40) 6).trans mz_md_40) ((congrFun (congrFun h 60) 0).trans mz_md_60) ((congrFun (congrFun h 73) 0).trans mz_md_73), h2⟩
/-- cells below 78 stay -/
def mz_lo (M N : mz_Mem) : Prop := ∀ k, k < 78 ∨ k = 121 → N k = M k
theorem mz_lo_rf {M : mz_Mem} : mz_lo M M := fun _ _ => rfl
theorem mz_lo_s {A B : mz_Mem} {k : Nat} {f : Nat → Int32} (h : 78 ≤ k ∧ k ≠ 121) (g : mz_lo A B) : mz_lo A (mz_s B k f) := fun j hj => (mz_s_ne (by omega)).trans (g j hj)
theorem mz_lo_X3 {A B : mz_Mem} (g : mz_lo A B) : mz_lo A (g_X3_copyFrom B) := by
  unfold g_X3_copyFrom
  repeat (first | exact g | refine mz_lo_s (by decide) ?_)
theorem mz_lo_X1 {A B : mz_Mem} (g : mz_lo A B) : mz_lo A (g_X1_copyFrom B) := by
  unfold g_X1_copyFrom
  repeat (first | exact g | refine mz_lo_s (by decide) ?_)
theorem mz_lo_X8 {A B : mz_Mem} (g : mz_lo A B) : mz_lo A (g_X8_copyFrom B) := by
  unfold g_X8_copyFrom
  repeat (first | exact g | refine mz_lo_s (by decide) ?_)
theorem mz_lo_X5 {A B : mz_Mem} (g : mz_lo A B) : mz_lo A (g_X5_copyFrom B) := by
  unfold g_X5_copyFrom
  repeat (first | exact g | refine mz_lo_s (by decide) ?_)
theorem mz_lo_X0 {A B : mz_Mem} (g : mz_lo A B) : mz_lo A (g_X0_copyFrom B) := by
  unfold g_X0_copyFrom
  repeat (first | exact g | refine mz_lo_s (by decide) ?_ | refine mz_lo_X3 ?_)
theorem mz_lo_copy (M : mz_Mem) : mz_lo M (g_X2_copyFrom M) := by
  unfold g_X2_copyFrom
  exact mz_lo_X0 (mz_lo_X5 (mz_lo_X8 (mz_lo_X1 (mz_lo_s (by decide) mz_lo_rf))))
theorem mz_tv_copy (M : mz_Mem) : ∀ x, x ∈ mz_fa → mz_tv (g_X2_copyFrom M) x = M x := by
  intro x hx
  simp only [mz_fa, List.mem_cons, List.not_mem_nil, or_false] at hx
  rcases hx with rfl | rfl | rfl | rfl | rfl | rfl | rfl | rfl | rfl | rfl | rfl | rfl | rfl | rfl | rfl | rfl | rfl | rfl | rfl | rfl <;> rfl
/-- what is tried begins as what is real -/
theorem mz_EQ.trial (h : mz_EQ M N) : mz_tv (g_X2_copyFrom M) = mz_md true (mz_tv (g_X2_copyFrom M)) N := by
  refine mz_md_ext (fun k hk => ?_) ?_ ?_ ?_ ?_
  · rcases mz_fu_of hk with h1 | h1 | h1
    · refine Eq.trans ?_ (mz_md_r h.1 hk)
      unfold mz_tv mz_it
      rw [if_pos (by omega)]
      exact mz_lo_copy M k (Or.inl (by omega))
    · exact (mz_tv_copy M k h1).trans (mz_md_r h.1 hk)
    · exact absurd h1.2 (by decide)
  · exact Eq.trans (show g_X2_copyFrom M 78 7 = M 30 7 from rfl) (mz_md_r30 h.1)
  · exact Eq.trans (show g_X2_copyFrom M 88 6 = M 40 6 from rfl) (mz_md_r40 h.1)
  · exact Eq.trans (show g_X2_copyFrom M 108 0 = M 60 0 from rfl) (mz_md_r60 h.1)
  · exact Eq.trans (show g_X2_copyFrom M 121 0 = M 121 0 from rfl) h.2
theorem mz_EQ.lo {X : mz_Mem} (h : mz_EQ M N) (hX : mz_lo M X) : mz_EQ X N :=
  ⟨mz_md_ext (fun k hk => (hX k (Or.inl (mz_fu_lt hk))).trans (mz_md_r h.1 hk)) ((congrFun (hX 30 (by decide)) 7).trans (mz_md_r30 h.1)) ((congrFun (hX 40 (by decide)) 6).trans (mz_md_r40 h.1)) ((congrFun (hX 60 (by decide)) 0).trans (mz_md_r60 h.1)) ((congrFun (hX 73 (by decide)) 0).trans (mz_md_r73 h.1)), (congrFun (hX 121 (by decide)) 0).trans h.2⟩
theorem mz_EQ.copy (h : mz_EQ M N) : mz_EQ (g_X2_copyFrom M) N := h.lo (mz_lo_copy M)
theorem mz_EQ.tri {Y : mz_Mem} (h : mz_EQ M N) (hY : Y 73 0 = N 73 0) : mz_EQ (mz_tri M Y) N :=
  ⟨mz_md_ext (fun k hk => (mz_tri_lo (mz_fu_lt hk)).trans (mz_md_r h.1 hk)) ((congrFun (mz_tri_lo (a := 30) (by decide)) 7).trans (mz_md_r30 h.1)) ((congrFun (mz_tri_lo (a := 40) (by decide)) 6).trans (mz_md_r40 h.1)) ((congrFun (mz_tri_lo (a := 60) (by decide)) 0).trans (mz_md_r60 h.1)) ((congrFun (mz_tri_lo (a := 73) (by decide)) 0).trans (mz_md_r73 h.1)), hY⟩
theorem mz_tv_md {A Y F : mz_Mem} (hY : Y = mz_md z F N) (hh : mz_hs (mz_tv A) Y) : mz_tv (mz_tri A Y) = mz_md z (mz_tv (mz_tri A Y)) N :=
  mz_md_ext (fun k hk => (mz_tv_tri hh (mz_fu_lt hk)).trans ((congrFun hY k).trans (mz_md_k hk)))
    ((congrFun (mz_tv_tri hh (by decide)) 7).trans ((congrFun (congrFun hY 30) 7).trans mz_md_30))
    ((congrFun (mz_tv_tri hh (by decide)) 6).trans ((congrFun (congrFun hY 40) 6).trans mz_md_40))
    ((congrFun (mz_tv_tri hh (by decide)) 0).trans ((congrFun (congrFun hY 60) 0).trans mz_md_60))
    ((congrFun (mz_tv_tri hh (by decide)) 0).trans ((congrFun (congrFun hY 73) 0).trans mz_md_73))
theorem mz_run_md {W : mz_Mem} {m : Int32} (e : W = mz_md z W N) (hm : 0 < mz_n m) : g_X2_run W m = mz_md false W (g_X2_run N m) :=
  (congrArg (fun x => g_X2_run x m) e).trans (g_X2_run_md hm)
theorem g_X2_run_73 (N : mz_Mem) (m : Int32) : g_X2_run N m 73 = N 73 := g_X2_run_hs N m 73 (by decide)
/-! the looks ahead -/
theorem mz_sp_wouldKnow (h : mz_EQ M N) {g m : Int32} (hm : 0 < mz_n m) : (g_X9_wouldKnow M g m).1 = mz_bitc (mz_rg 12 (g_X2_run N m 68) g) ∧ mz_EQ (g_X9_wouldKnow M g m).2 N := by
  have e := mz_run_md h.trial hm
  unfold g_X9_wouldKnow
  constructor
  · show mz_bitc (mz_rg 12 (g_X2_run (mz_tv (g_X2_copyFrom M)) m 68) g) = _
    rw [e, mz_mdk_68]
  · exact h.copy.tri (by rw [e, mz_md_73, g_X2_run_73])
theorem mz_sp_wouldCut (h : mz_EQ M N) {m : Int32} (hm : 0 < mz_n m) : (g_X9_wouldCut M m).1 = mz_sum 12 (g_X2_run N m 50) - mz_sum 12 (N 50) ∧ mz_EQ (g_X9_wouldCut M m).2 N := by
  have e := mz_run_md h.trial hm
  unfold g_X9_wouldCut
  constructor
  · show mz_sum 12 (g_X2_run (mz_tv (g_X2_copyFrom M)) m 50) - mz_sum 12 (g_X2_copyFrom M 50) = _
    rw [e, mz_mdk_50, mz_lo_copy M 50 (by decide), mz_md_r h.1 rfl]
  · exact h.copy.tri (by rw [e, mz_md_73, g_X2_run_73])
theorem mz_foldGuests_eq {A B : mz_Mem} (ha : A = mz_md true A N) (hb : B = mz_md true B N) (ht : mz_tv A 68 = mz_tv B 68) (d : Int64) : g_X9_foldGuests A d = g_X9_foldGuests B d := by
  have k1 : ∀ C : mz_Mem, C = mz_md true C N → g_X9_foldGuests_1 C d = fun i a => if (N 15 2) ≤ 0 then g_X9_fold N (mz_fr 7 (g_X9_foldGuests_2 N d i a) a) ((g_X0_countKnownBy (mz_tv C) i).toInt64) else g_X9_fold N (g_X9_fold N (mz_fr 7 (g_X9_foldGuests_2 N d i a) a) ((g_X0_countKnownBy (mz_tv C) i).toInt64)) ((g_X9_seen N i 0).toInt64) := by
    intro C hc
    funext i a
    unfold g_X9_foldGuests_1
    have e1 : C 15 2 = N 15 2 := congrFun (mz_md_r hc rfl) 2
    have e2 : g_X9_foldGuests_2 C d i a = g_X9_foldGuests_2 N d i a := (congrArg (fun x => g_X9_foldGuests_2 x d i a) hc).trans (g_X9_foldGuests_2_md d i a)
    have e3 : g_X9_seen C i 0 = g_X9_seen N i 0 := (congrArg (fun x => g_X9_seen x i 0) hc).trans (g_X9_seen_md i 0)
    rw [e1, e2, e3]
    rfl
  unfold g_X9_foldGuests
  rw [k1 A ha, k1 B hb, mz_md_r60 ha, mz_md_r60 hb]
  unfold g_X0_countKnownBy
  rw [ht]
/-- the digest, as a function of what is real -/
def mz_dig (N : mz_Mem) : Int64 := g_X9_fold N (g_X9_foldGuests (mz_tri N (g_X2_run N 5)) (g_X9_foldProps N (g_X9_foldScenes N (g_X9_foldTracks N (g_X9_foldRooms N (mz_fr 13 (g_X9_digest_1 N) 9103)))))) ((mz_sum 12 (g_X2_run (g_X2_run N 5) 4 50) - mz_sum 12 (N 50)).toInt64)
theorem mz_tv_68 (A Y : mz_Mem) : mz_tv (mz_tri A Y) 68 = Y 68 := rfl
theorem mz_tri_98 (A Y : mz_Mem) : mz_tri A Y 98 = Y 50 := rfl
theorem mz_EQ_N0 (N Y : mz_Mem) : mz_tri N Y = mz_md true (mz_tri N Y) N :=
  mz_md_ext (fun k hk => mz_tri_lo (mz_fu_lt hk)) (congrFun (mz_tri_lo (a := 30) (by decide)) 7) (congrFun (mz_tri_lo (a := 40) (by decide)) 6) (congrFun (mz_tri_lo (a := 60) (by decide)) 0) (congrFun (mz_tri_lo (a := 73) (by decide)) 0)
theorem mz_dig_eq {X W : mz_Mem} (h : mz_EQ M N) (hX : mz_EQ X N) (hW : mz_EQ W N) (x68 : mz_tv X 68 = g_X2_run N 5 68) (w98 : W 98 = g_X2_run (g_X2_run N 5) 4 50) :
    g_X9_fold W (g_X9_foldGuests X (g_X9_foldProps M (g_X9_foldScenes M (g_X9_foldTracks M (g_X9_foldRooms M (mz_fr 13 (g_X9_digest_1 M) 9103)))))) ((g_X9_countCutsOfTrial W).toInt64) = mz_dig N := by
  have f1 : ∀ d, g_X9_foldRooms M d = g_X9_foldRooms N d := fun d => (congrArg (fun x => g_X9_foldRooms x d) h.1).trans (g_X9_foldRooms_md d)
  have f2 : ∀ d, g_X9_foldTracks M d = g_X9_foldTracks N d := fun d => (congrArg (fun x => g_X9_foldTracks x d) h.1).trans (g_X9_foldTracks_md d)
  have f3 : ∀ d, g_X9_foldScenes M d = g_X9_foldScenes N d := fun d => (congrArg (fun x => g_X9_foldScenes x d) h.1).trans (g_X9_foldScenes_md d)
  have f4 : ∀ d, g_X9_foldProps M d = g_X9_foldProps N d := fun d => (congrArg (fun x => g_X9_foldProps x d) h.1).trans (g_X9_foldProps_md d)
  have f5 : g_X9_digest_1 M = g_X9_digest_1 N := (congrArg g_X9_digest_1 h.1).trans g_X9_digest_1_md
  have f6 : ∀ d, g_X9_foldGuests X d = g_X9_foldGuests (mz_tri N (g_X2_run N 5)) d := fun d => mz_foldGuests_eq (N := N) hX.1 (mz_EQ_N0 N _) (x68.trans (mz_tv_68 N _).symm) d
  have f7 : g_X9_countCutsOfTrial W = mz_sum 12 (g_X2_run (g_X2_run N 5) 4 50) - mz_sum 12 (N 50) := by
    unfold g_X9_countCutsOfTrial
    rw [w98, mz_md_r hW.1 (k := 50) rfl]
  unfold mz_dig
  rw [f1, f2, f3, f4, f5, f6, f7]
  rfl
theorem mz_sp_digest (h : mz_EQ M N) : (g_X9_digest M).1 = mz_dig N ∧ mz_EQ (g_X9_digest M).2 N := by
  have h5 : 0 < mz_n 5 := by decide
  have h4 : 0 < mz_n 4 := by decide
  have e := mz_run_md h.trial h5
  have hX := h.copy.tri (Y := g_X2_run (mz_tv (g_X2_copyFrom M)) 5) (by rw [e, mz_md_73, g_X2_run_73])
  have eW := mz_tv_md (A := g_X2_copyFrom M) e (g_X2_run_hs _ _)
  have e4 := mz_run_md eW h4
  have hZ := hX.tri (Y := g_X2_run (mz_tv (mz_tri (g_X2_copyFrom M) (g_X2_run (mz_tv (g_X2_copyFrom M)) 5))) 4) (by rw [e4, mz_md_73, g_X2_run_73, g_X2_run_73])
  exact ⟨mz_dig_eq h hX hZ ((mz_tv_68 _ _).trans ((congrFun e 68).trans mz_mdk_68)) ((mz_tri_98 _ _).trans ((congrFun e4 50).trans mz_mdk_50)), hZ⟩
/-! the best habit -/
/-- what a guest would know by the habit behind an answer -/
def mz_kn (N : mz_Mem) (g m c : Int32) : Int32 := mz_bitc (mz_rg 12 (g_X2_run (g_X0_changeHabit N g (if c < 10 then c else 1) (c - 10)) m 68) g)
theorem mz_lp_ix {α : Type} (F : Int32 → α → α) (I : Nat → α → Prop) (n : Nat) (h : ∀ j a, j < n → I j a → I (j + 1) (F (nI j) a)) : ∀ (r j : Nat) (a : α), j + r ≤ n → I j a → I (j + r) (mz_lp F j r a)
  | 0, _, _, _, ha => ha
  | r + 1, j, a, hj, ha => by
    have := mz_lp_ix F I n h r (j + 1) _ (by omega) (h j a (by omega) ha)
    rw [show j + (r + 1) = j + 1 + r by omega]
    exact this
def mz_stc (a : Int32) : Int32 := if a = 0 then 1 else if a = 2 then 1 else if a = 3 then 1 else if a < 10 then 0 else 1
/-- the best of the answers below j -/
def mz_bI (N : mz_Mem) (g m : Int32) (j : Nat) (a : Int32 × Int32 × mz_Mem) : Prop :=
  mz_EQ a.2.2 N ∧ ((j = 0 ∧ a.1 = -1 ∧ a.2.1 = -1) ∨ ∃ b, b < j ∧ a.1 = nI b ∧ ¬ mz_stc (nI b) = 0 ∧ a.2.1 = mz_kn N g m (nI b) ∧ ∀ c, c < j → ¬ mz_stc (nI c) = 0 → mz_kn N g m (nI c) ≤ a.2.1 ∧ (mz_kn N g m (nI c) = a.2.1 → b ≤ c))
theorem mz_bI_step {g m : Int32} (A : mz_Mem) (hm : 0 < mz_n m) (hp : ∀ c, -1 < mz_kn N g m c) (j : Nat) (a : Int32 × Int32 × mz_Mem) (ha : mz_bI N g m j a) : mz_bI N g m (j + 1) (g_X9_bestHabit_1 A g m (nI j) a) := by
  obtain ⟨hE, hb⟩ := ha
  obtain ⟨a1, a2, X⟩ := a
  replace hE : mz_EQ X N := hE
  unfold g_X9_bestHabit_1
  by_cases hs : (g_X9_standsForHabit X (nI j)) = 0
  · rw [if_pos hs]
    refine ⟨hE, Or.inr ?_⟩
    rcases hb with ⟨h0, -, -⟩ | ⟨b, h1, h2, h3, h4, h5⟩
    · subst h0; exact absurd hs (by show ¬ (if nI 0 = 0 then (1 : Int32) else _) = 0; rw [if_pos (by decide)]; decide)
    · refine ⟨b, by omega, h2, h3, h4, fun c hc hcs => ?_⟩
      rcases Nat.lt_or_ge c j with h | h
      · exact h5 c h hcs
      · have : c = j := by omega
        subst this
        exact absurd hs hcs
  · rw [if_neg hs]
    have e1 : g_X0_changeHabit (mz_tv (g_X2_copyFrom X)) g (g_X9_habitBehind (g_X2_copyFrom X) (nI j)) (nI j - 10) = mz_md true (mz_tv (g_X2_copyFrom X)) (g_X0_changeHabit N g (if nI j < 10 then nI j else 1) (nI j - 10)) :=
      (congrArg (fun x => g_X0_changeHabit x g (if nI j < 10 then nI j else 1) (nI j - 10)) hE.trial).trans (g_X0_changeHabit_md _ _ _)
    have eW := mz_tv_md (A := g_X2_copyFrom X) e1 (g_X0_changeHabit_hs _ _ _ _)
    have e2 := mz_run_md eW hm
    have ek : g_X0_countKnownBy (mz_tv (mz_tri (mz_tri (g_X2_copyFrom X) (g_X0_changeHabit (mz_tv (g_X2_copyFrom X)) g (g_X9_habitBehind (g_X2_copyFrom X) (nI j)) (nI j - 10))) (g_X2_run (mz_tv (mz_tri (g_X2_copyFrom X) (g_X0_changeHabit (mz_tv (g_X2_copyFrom X)) g (g_X9_habitBehind (g_X2_copyFrom X) (nI j)) (nI j - 10)))) m))) g = mz_kn N g m (nI j) := by
      show mz_bitc (mz_rg 12 (g_X2_run (mz_tv (mz_tri (g_X2_copyFrom X) (g_X0_changeHabit (mz_tv (g_X2_copyFrom X)) g (g_X9_habitBehind (g_X2_copyFrom X) (nI j)) (nI j - 10)))) m 68) g) = _
      rw [e2, mz_mdk_68]
      rfl
    have h73 : g_X0_changeHabit N g (if nI j < 10 then nI j else 1) (nI j - 10) 73 = N 73 := g_X0_changeHabit_hs N _ _ _ 73 (by decide)
    have hZ := (hE.copy.tri (Y := g_X0_changeHabit (mz_tv (g_X2_copyFrom X)) g (g_X9_habitBehind (g_X2_copyFrom X) (nI j)) (nI j - 10)) (by rw [e1, mz_md_73, h73])).tri (Y := g_X2_run (mz_tv (mz_tri (g_X2_copyFrom X) (g_X0_changeHabit (mz_tv (g_X2_copyFrom X)) g (g_X9_habitBehind (g_X2_copyFrom X) (nI j)) (nI j - 10)))) m) (by rw [e2, mz_md_73, g_X2_run_73, h73])
    show mz_bI N g m (j + 1) (if _ ≤ a2 then _ else _)
    rw [ek]
    have hb' : (j = 0 ∧ a1 = -1 ∧ a2 = -1) ∨ ∃ b, b < j ∧ a1 = nI b ∧ ¬ mz_stc (nI b) = 0 ∧ a2 = mz_kn N g m (nI b) ∧ ∀ c, c < j → ¬ mz_stc (nI c) = 0 → mz_kn N g m (nI c) ≤ a2 ∧ (mz_kn N g m (nI c) = a2 → b ≤ c) := hb
    by_cases hc : mz_kn N g m (nI j) ≤ a2
    · rw [if_pos hc]
      refine ⟨hZ, Or.inr ?_⟩
      rcases hb' with ⟨h0, -, h2⟩ | ⟨b, h1, h2, h3, h4, h5⟩
      · exact absurd hc (Int32.not_le.mpr (by rw [h2]; exact hp _))
      · refine ⟨b, by omega, h2, h3, h4, fun c hc2 hcs => ?_⟩
        rcases Nat.lt_or_ge c j with h | h
        · exact h5 c h hcs
        · have : c = j := by omega
          subst this
          exact ⟨hc, fun _ => by omega⟩
    · rw [if_neg hc]
      refine ⟨hZ, Or.inr ⟨j, by omega, rfl, hs, rfl, fun c hc2 hcs => ?_⟩⟩
      rcases Nat.lt_or_ge c j with h | h
      · rcases hb' with ⟨h0, -, -⟩ | ⟨b, h1, h2, h3, h4, h5⟩
        · omega
        · have h6 := (h5 c h hcs).1
          have h7 := Int32.not_le.mp hc
          show mz_kn N g m (nI c) ≤ mz_kn N g m (nI j) ∧ _
          rw [Int32.le_iff_toInt_le] at h6 ⊢
          rw [Int32.lt_iff_toInt_lt] at h7
          exact ⟨by omega, fun e => absurd (congrArg Int32.toInt e) (by show ¬ (mz_kn N g m (nI c)).toInt = (mz_kn N g m (nI j)).toInt; omega)⟩
      · have : c = j := by omega
        subst this
        exact ⟨Int32.le_refl _, fun _ => Nat.le_refl _⟩
theorem mz_sp_best (h : mz_EQ M N) {g m : Int32} (hm : 0 < mz_n m) (hp : ∀ c, -1 < mz_kn N g m c) (hn : 0 < mz_n (10 + N 15 0)) : mz_EQ (g_X9_bestHabit M g m).2 N ∧ ∃ b, b < mz_n (10 + N 15 0) ∧ (g_X9_bestHabit M g m).1 = nI b ∧ ¬ mz_stc (nI b) = 0 ∧ ∀ c, c < mz_n (10 + N 15 0) → ¬ mz_stc (nI c) = 0 → mz_kn N g m (nI c) ≤ mz_kn N g m (nI b) ∧ (mz_kn N g m (nI c) = mz_kn N g m (nI b) → b ≤ c) := by
  have key := mz_lp_ix (g_X9_bestHabit_1 M g m) (mz_bI N g m) (mz_n (10 + N 15 0)) (fun j a _ ha => mz_bI_step M hm hp j a ha) (mz_n (10 + N 15 0)) 0 (-1, -1, M) (by omega) ⟨h, Or.inl ⟨rfl, rfl, rfl⟩⟩
  rw [Nat.zero_add] at key
  have e : mz_fr (10 + (M 15 0)) (g_X9_bestHabit_1 M g m) (-1, -1, M) = mz_lp (g_X9_bestHabit_1 M g m) 0 (mz_n (10 + N 15 0)) (-1, -1, M) := by
    rw [show M 15 0 = N 15 0 from congrFun (mz_md_r h.1 rfl) 0]
    rfl
  unfold g_X9_bestHabit
  rw [e]
  obtain ⟨k1, k2⟩ := key
  refine ⟨k1, ?_⟩
  rcases k2 with ⟨h0, -, -⟩ | ⟨b, h1, h2, h3, h4, h5⟩
  · omega
  · refine ⟨b, h1, h2, h3, ?_⟩
    rw [h4] at h5
    exact h5
end MZSP
