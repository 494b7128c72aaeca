theorem mz_row_ne {lay : mz_Lay} {r a n : Nat} (hr : lay r = some (mz_o 6 [some (some a)])) (ha : lay a = some (mz_a n)) : r ≠ a := fun e => by subst e; rw [hr] at ha; cases ha
/-- a row's contract that reads, over any cells -/
theorem mz_rowR {l : Launch} {D : va_G} {cA : Nat → ClassId} {ρ : Nat → Nat} {lay : mz_Lay} {r a n nL fr lo : Nat} {y : MethodName} {cc : ByteArray} {ret : Option FieldType} {As : List Value} {v : Option Value} {M : mz_Mem} (hI : mz_I ρ lay) (hr : lay r = some (mz_o 6 [some (some a)])) (ha : lay a = some (mz_a n))
    (F : mz_M l D vwCl cA (fun k => ρ (if k = 0 then r else a)) (mz_row n) y cc nL ret fr lo As (fun k => M (if k = 0 then r else a)) v (fun k => M (if k = 0 then r else a))) {As' : List Value} {v' : Option Value} (hA : As' = As.map (mz_e (fun k => if k = 0 then r else a))) (hv : v' = v.map (mz_e (fun k => if k = 0 then r else a))) : mz_M l D vwCl cA ρ lay y cc nL ret fr lo As' M v' M :=
  mz_lift F (mz_row_sub hr ha) hI (fun _ _ _ => rfl) (fun _ _ _ => rfl) (fun _ _ => rfl) hA hv
/-- a row's contract that writes -/
theorem mz_rowW {l : Launch} {D : va_G} {cA : Nat → ClassId} {ρ : Nat → Nat} {lay : mz_Lay} {r a n nL fr lo : Nat} {y : MethodName} {cc : ByteArray} {ret : Option FieldType} {As : List Value} {v : Option Value} {M : mz_Mem} {g : Nat → Int32} (hI : mz_I ρ lay) (hr : lay r = some (mz_o 6 [some (some a)])) (ha : lay a = some (mz_a n))
    (F : mz_M l D vwCl cA (fun k => ρ (if k = 0 then r else a)) (mz_row n) y cc nL ret fr lo As (fun k => M (if k = 0 then r else a)) v (mz_s (fun k => M (if k = 0 then r else a)) 1 g)) {As' : List Value} {v' : Option Value} (hA : As' = As.map (mz_e (fun k => if k = 0 then r else a))) (hv : v' = v.map (mz_e (fun k => if k = 0 then r else a))) : mz_M l D vwCl cA ρ lay y cc nL ret fr lo As' M v' (mz_s M a g) := by
  refine mz_lift F (mz_row_sub hr ha) hI (fun _ _ _ => rfl) (fun k sh hk => ?_) (fun b hb => ?_) hA hv
  · have hk2 : k < 2 := mz_lf_lt hk
    rcases (show k = 0 ∨ k = 1 by omega) with rfl | rfl
    · rw [mz_s_ne (by decide)]
      show M r = mz_s M a g r
      rw [mz_s_ne (mz_row_ne hr ha)]
    · rw [mz_s_eq]
      show g = mz_s M a g a
      rw [mz_s_eq]
  · exact mz_s_ne (fun e => hb 1 (mz_a n) rfl (by rw [e]; rfl))
theorem f_Row_get (l : Launch) (D : va_G) (cA : Nat → ClassId) (ρ : Nat → Nat) {lay : mz_Lay} (hI : mz_I ρ lay) {r a n : Nat} (hr : lay r = some (mz_o 6 [some (some a)])) (ha : lay a = some (mz_a n)) (hn : n < 2 ^ 31) (M : mz_Mem) (i : Int32) :
    mz_M l D vwCl cA ρ lay yX6_get cX6_get 2 (some .int) 0 0 [.ref r, .int i] M (some (.int (mz_rg n (M a) i))) M :=
  mz_rowR hI hr ha (f_Row_get_0 l D cA _ n hn _ i) rfl rfl
theorem f_Row_sum (l : Launch) (D : va_G) (cA : Nat → ClassId) (ρ : Nat → Nat) {lay : mz_Lay} (hI : mz_I ρ lay) {r a n : Nat} (hr : lay r = some (mz_o 6 [some (some a)])) (ha : lay a = some (mz_a n)) (hn : n < 2 ^ 31) (M : mz_Mem) :
    mz_M l D vwCl cA ρ lay yX6_sum cX6_sum 3 (some .int) 0 0 [.ref r] M (some (.int (mz_sum n (M a)))) M :=
  mz_rowR hI hr ha (f_Row_sum_0 l D cA _ n hn _) rfl rfl
theorem f_Row_set (l : Launch) (D : va_G) (cA : Nat → ClassId) (ρ : Nat → Nat) {lay : mz_Lay} (hI : mz_I ρ lay) {r a n : Nat} (hr : lay r = some (mz_o 6 [some (some a)])) (ha : lay a = some (mz_a n)) (hn : n < 2 ^ 31) (M : mz_Mem) (i v : Int32) :
    mz_M l D vwCl cA ρ lay yX6_set cX6_set 3 none 0 0 [.ref r, .int i, .int v] M none (mz_s M a (mz_rs n (M a) i v)) :=
  mz_rowW hI hr ha (f_Row_set_0 l D cA _ n hn (mz_I_row hI hr ha) _ i v) rfl rfl
theorem f_Row_add (l : Launch) (D : va_G) (cA : Nat → ClassId) (ρ : Nat → Nat) {lay : mz_Lay} (hI : mz_I ρ lay) {r a n : Nat} (hr : lay r = some (mz_o 6 [some (some a)])) (ha : lay a = some (mz_a n)) (hn : n < 2 ^ 31) (M : mz_Mem) (i v : Int32) :
    mz_M l D vwCl cA ρ lay yX6_add cX6_add 3 none 0 0 [.ref r, .int i, .int v] M none (mz_s M a (mz_ra n (M a) i v)) :=
  mz_rowW hI hr ha (f_Row_add_0 l D cA _ n hn (mz_I_row hI hr ha) _ i v) rfl rfl
theorem mz_I_arr {ρ : Nat → Nat} {n : Nat} : mz_I ρ (mz_arr n) := by
  intro i j a b hi hj _
  have h1 : i < 1 := mz_lf_lt hi
  have h2 : j < 1 := mz_lf_lt hj
  omega
theorem f_fill (l : Launch) (D : va_G) (cA : Nat → ClassId) (ρ : Nat → Nat) {lay : mz_Lay} (hI : mz_I ρ lay) {a n : Nat} (ha : lay a = some (mz_a n)) (hn : n < 2 ^ 31) (M : mz_Mem) (v : Int32) :
    mz_M l D vwCl cA ρ lay yJ7_fill_53178 cJ7_fill_53178 4 none 0 0 [.ref a, .int v] M none (mz_s M a (mz_fil (M a) n v)) := by
  have one : ∀ (k : Nat) (sh : mz_Sh), mz_arr n k = some sh → k = 0 ∧ sh = mz_a n := by
    intro k sh hk
    have h1 : k < 1 := mz_lf_lt hk
    have h0 : k = 0 := by omega
    subst h0
    cases hk
    exact ⟨rfl, rfl⟩
  refine mz_lift (ι := fun _ => a) (f_fill_0 l D cA _ n hn mz_I_arr (fun _ => M a) v) (fun k sh hk => ?_) hI (fun _ _ _ => rfl) (fun k sh hk => ?_) (fun b hb => ?_) rfl rfl
  · obtain ⟨-, rfl⟩ := one k sh hk
    exact ha
  · obtain ⟨rfl, -⟩ := one k sh hk
    rw [mz_s_eq, mz_s_eq]
  · exact mz_s_ne (fun e => hb 0 (mz_a n) rfl e)
def mz_min (x y : Int32) : Int32 := if y < x then y else x
theorem mz_mmin {Γ : mz_G} {l : Launch} {own : String} {cc : ByteArray} {nL k n : Nat} {ret : Option FieldType} {D : va_G} {cl : List vw_C} {tys : List (ClassId × FieldType)} {rm : Room} {ρ : Nat → Nat} {P : Heap → Prop} {pc index : Nat} {L : List (Nat × Value)} {st : List Value} {x y : Int32} (C : mz_C Γ l own cc nL ret D cl tys rm)
    (wl : Cond.methodLink own index Lib.Math.min.name ∈ mz_ws) (ws : Cond.static Lib.Math.min.name ∈ mz_ws) (wi : Cond.initialized "java/lang/Math" ∈ mz_ws) (wc : Cond.code Lib.Math.min.name Lib.Math.min.code 2 (some .int) ∈ mz_ws)
    (hf : 1 ≤ rm.frames) (hlo : (st.map fun v => v.category).sum + 13 ≤ rm.locals) (hk : k ≤ rm.cells ∧ n ≤ rm.slots) (hd : decode cc pc = .ok (.invokestatic index, 3))
    (kk : mz_W Γ ρ nL k n P (pc + 3) L (.int (mz_min x y) :: st)) : mz_W Γ ρ nL k n P pc L (.int y :: .int x :: st) := by
  obtain ⟨p, l', e, R, s, m, args, below, meth, c, H0, A, Q⟩ := Γ
  obtain ⟨-, hx, hb, hml, hown, hts, hK, -, -, rfl⟩ := C
  exact fun H ls locs hP hS hl => va_mmin hx hb (by rw [hml, hl.1]) hown (hts _ wl) (hts _ ws) (hts _ wi) (hts _ wc) hf (by rw [mz_sumcat]; exact hlo) hk.1 hk.2 hd (kk H ls locs hP hS hl)
set_option maxHeartbeats 4000000 in
theorem f_Row_fill_0 (l : Launch) (D : va_G) (cA : Nat → ClassId) (ρ : Nat → Nat) (n : Nat) (hn : n < 2 ^ 31) (hI : mz_I ρ (mz_row n)) (M : mz_Mem) (v : Int32) : mz_M l D vwCl cA ρ (mz_row n) yX6_fill cX6_fill 2 none 1 23 [.ref 0, .int v] M none (mz_s M 1 (fun _ => v)) := by
  refine mz_in0 (by decide +kernel) (Nat.le_of_ble_eq_true rfl) (fun Γ C E => ?_)
  have E' := (⟨_, _, _, E⟩ : ∃ Qc mc ms, mz_E Γ Qc mc ms (mz_A ρ (mz_row n)))
  refine mz_go FLX6 KLX6 C [(0, .aload_n 0), (1, .getfield 9), (4, .iload_n 1)] (by decide +kernel) (pc' := 5) (L' := [(0, .ref 0), (1, .int v)]) (st' := [.int v, .ref 1]) rfl ?_
  refine mz_callS (As := [.ref 1, .int v]) (rest := []) C E' (f_fill l D cA ρ hI (a := 1) rfl hn M v) hs_J7_fill_53178 wl_X6_15 rfl ⟨Nat.le_of_ble_eq_true rfl, Nat.le_of_ble_eq_true rfl⟩ ⟨Nat.le_refl _, Nat.le_refl _⟩ (Nat.le_of_ble_eq_true rfl) (by decide +kernel) ?_ rfl
  refine mz_mono (fun H h => mz_H_ext (M' := mz_s M 1 (fun _ => v)) (fun k n2 hk j hj => ?_) (fun k ci fs hk j hj => ?_) h) ?_
  · by_cases e : k = 1
    · subst e; cases hk; rw [mz_s_eq, mz_s_eq]; simp [mz_fil, hj]
    · rw [mz_s_ne e, mz_s_ne e]
  · have e : k ≠ 1 := fun e => by subst e; cases hk
    rw [mz_s_ne e, mz_s_ne e]
  exact mz_vret C E (by decide +kernel) rfl
theorem f_Row_fill (l : Launch) (D : va_G) (cA : Nat → ClassId) (ρ : Nat → Nat) {lay : mz_Lay} (hI : mz_I ρ lay) {r a n : Nat} (hr : lay r = some (mz_o 6 [some (some a)])) (ha : lay a = some (mz_a n)) (hn : n < 2 ^ 31) (M : mz_Mem) (v : Int32) :
    mz_M l D vwCl cA ρ lay yX6_fill cX6_fill 2 none 1 23 [.ref r, .int v] M none (mz_s M a (fun _ => v)) :=
  mz_rowW hI hr ha (f_Row_fill_0 l D cA _ n hn (mz_I_row hI hr ha) _ v) rfl rfl
def mz_row2 (n : Nat) : mz_Lay := mz_lf [some (mz_o 6 [some (some 1)]), some (mz_a n), some (mz_o 6 [some (some 3)]), some (mz_a n)]
set_option maxHeartbeats 4000000 in
theorem f_Row_copyFrom_0 (l : Launch) (D : va_G) (cA : Nat → ClassId) (ρ : Nat → Nat) (n : Nat) (hn : n < 2 ^ 31) (hI : mz_I ρ (mz_row2 n)) (M : mz_Mem) : mz_M l D vwCl cA ρ (mz_row2 n) yX6_copyFrom cX6_copyFrom 2 none 1 30 [.ref 0, .ref 2] M none (mz_s M 1 (M 3)) := by
  refine mz_in0 (by decide +kernel) (Nat.le_of_ble_eq_true rfl) (fun Γ C E => ?_)
  have E' := (⟨_, _, _, E⟩ : ∃ Qc mc ms, mz_E Γ Qc mc ms (mz_A ρ (mz_row2 n)))
  refine mz_go FLX6 KLX6 C [(0, .aload_n 1), (1, .getfield 9), (4, .iconst 0), (5, .aload_n 0), (6, .getfield 9), (9, .iconst 0), (10, .aload_n 1), (11, .getfield 9)] (by decide +kernel) (pc' := 14) (L' := [(0, .ref 0), (1, .ref 2)]) (st' := [.ref 3, .int 0, .ref 1, .int 0, .ref 3]) rfl ?_
  refine mz_alen (id := 3) (N := n) C rfl (by decide +kernel) ?_
  refine mz_go FLX6 KLX6 C [(15, .aload_n 0), (16, .getfield 9)] (by decide +kernel) (pc' := 19) (L' := [(0, .ref 0), (1, .ref 2)]) (st' := [.ref 1, .int (Int32.ofNat n), .int 0, .ref 1, .int 0, .ref 3]) rfl ?_
  refine mz_alen (id := 1) (N := n) C rfl (by decide +kernel) ?_
  refine mz_mmin (index := 21) C (mz_in 437 (by decide +kernel) (by decide +kernel)) (mz_in 438 (by decide +kernel) (by decide +kernel)) (mz_in 52 (by decide +kernel) (by decide +kernel)) (mz_in 439 (by decide +kernel) (by decide +kernel)) (Nat.le_of_ble_eq_true rfl) (Nat.le_of_ble_eq_true rfl) ⟨Nat.le_refl _, Nat.le_refl _⟩ (by decide +kernel) ?_
  refine mz_copy (src := 3) (dst := 1) (N := n) C E' hI rfl rfl (by unfold mz_min; split <;> rfl) hn (index := 27) (mz_in 440 (by decide +kernel) (by decide +kernel)) (mz_in 442 (by decide +kernel) (by decide +kernel)) (mz_in 441 (by decide +kernel) (by decide +kernel)) (mz_in 44 (by decide +kernel) (by decide +kernel)) (Nat.le_of_ble_eq_true rfl) (Nat.le_of_ble_eq_true (by decide +kernel)) (by decide +kernel) ?_
  exact mz_vret C E (by decide +kernel) rfl
theorem f_Row_copyFrom (l : Launch) (D : va_G) (cA : Nat → ClassId) (ρ : Nat → Nat) {lay : mz_Lay} (hI : mz_I ρ lay) {r a r2 a2 n : Nat} (hr : lay r = some (mz_o 6 [some (some a)])) (ha : lay a = some (mz_a n)) (hr2 : lay r2 = some (mz_o 6 [some (some a2)])) (ha2 : lay a2 = some (mz_a n)) (hne : r ≠ r2) (hne2 : a ≠ a2) (hn : n < 2 ^ 31) (M : mz_Mem) :
    mz_M l D vwCl cA ρ lay yX6_copyFrom cX6_copyFrom 2 none 1 30 [.ref r, .ref r2] M none (mz_s M a (M a2)) := by
  have all : ∀ (k : Nat) (sh : mz_Sh), mz_row2 n k = some sh → (k = 0 ∧ sh = mz_o 6 [some (some 1)]) ∨ (k = 1 ∧ sh = mz_a n) ∨ (k = 2 ∧ sh = mz_o 6 [some (some 3)]) ∨ (k = 3 ∧ sh = mz_a n) := by
    intro k sh hk
    have h1 : k < 4 := mz_lf_lt hk
    rcases (show k = 0 ∨ k = 1 ∨ k = 2 ∨ k = 3 by omega) with rfl | rfl | rfl | rfl <;> cases hk <;> simp
  have ι0 : ∃ ι : Nat → Nat, ι 0 = r ∧ ι 1 = a ∧ ι 2 = r2 ∧ ι 3 = a2 := ⟨fun k => if k = 0 then r else if k = 1 then a else if k = 2 then r2 else a2, rfl, rfl, rfl, rfl⟩
  obtain ⟨ι, i0, i1, i2, i3⟩ := ι0
  have hsub : ∀ (k : Nat) (sh : mz_Sh), mz_row2 n k = some sh → lay (ι k) = some ((mz_shm ι sh)) := by
    intro k sh hk
    rcases all k sh hk with ⟨rfl, rfl⟩ | ⟨rfl, rfl⟩ | ⟨rfl, rfl⟩ | ⟨rfl, rfl⟩
    · rw [i0, hr]; simp [mz_shm, i1]
    · rw [i1, ha]; rfl
    · rw [i2, hr2]; simp [mz_shm, i3]
    · rw [i3, ha2]; rfl
  have n1 := mz_row_ne hr ha
  have n2 := mz_row_ne hr2 ha2
  have n3 : r ≠ a2 := fun e => by subst e; rw [hr] at ha2; cases ha2
  have n4 : r2 ≠ a := fun e => by subst e; rw [hr2] at ha; cases ha
  have hI2 : mz_I (fun k => ρ (ι k)) (mz_row2 n) := by
    intro i j x y hi hj e
    have e2 := hI _ _ _ _ (hsub i x hi) (hsub j y hj) e
    rcases all i x hi with ⟨rfl, -⟩ | ⟨rfl, -⟩ | ⟨rfl, -⟩ | ⟨rfl, -⟩ <;> rcases all j y hj with ⟨rfl, -⟩ | ⟨rfl, -⟩ | ⟨rfl, -⟩ | ⟨rfl, -⟩ <;> simp only [i0, i1, i2, i3] at e2 <;> first | rfl | exact absurd e2 n1 | exact absurd e2.symm n1 | exact absurd e2 n2 | exact absurd e2.symm n2 | exact absurd e2 n3 | exact absurd e2.symm n3 | exact absurd e2 n4 | exact absurd e2.symm n4 | exact absurd e2 hne | exact absurd e2.symm hne | exact absurd e2 hne2 | exact absurd e2.symm hne2
  refine mz_lift (ι := ι) (f_Row_copyFrom_0 l D cA _ n hn hI2 (fun k => M (ι k))) hsub hI (fun _ _ _ => rfl) (fun k sh hk => ?_) (fun b hb => ?_) (by simp [mz_e, i0, i2]) rfl
  · rcases all k sh hk with ⟨rfl, -⟩ | ⟨rfl, -⟩ | ⟨rfl, -⟩ | ⟨rfl, -⟩
    · rw [mz_s_ne (by decide), i0, mz_s_ne n1]
    · rw [mz_s_eq, i1, mz_s_eq, i3]
    · rw [mz_s_ne (by decide), i2, mz_s_ne n4]
    · rw [mz_s_ne (by decide), i3, mz_s_ne (Ne.symm hne2)]
  · exact mz_s_ne (fun e => hb 1 (mz_a n) rfl (by rw [e, i1]))
