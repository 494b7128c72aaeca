theorem mz_dup2 {Γ : mz_G} {l : Launch} {own : String} {cc : ByteArray} {nL k n : Nat} {ret : Option FieldType} {D : va_G} {cl : List vw_C} {tys : List (ClassId × FieldType)} {rm : Room} {ρ : Nat → Nat} {P : Heap → Prop} {pc : Nat} {L : List (Nat × Value)} {st : List Value} {a b : Value} (C : mz_C Γ l own cc nL ret D cl tys rm) (hd : decode cc pc = .ok (.dup2, 1)) (ha : a.category = 1) (hb2 : b.category = 1)
    (kk : mz_W Γ ρ nL k n P (pc + 1) L (a :: b :: a :: b :: st)) : mz_W Γ ρ nL k n P pc L (a :: b :: st) := by
  obtain ⟨p, l', e, R, s, m, args, below, meth, c, H0, A, Q⟩ := Γ
  obtain ⟨-, hx, hb, -⟩ := C
  exact fun H ls locs hP hS hl => lv_dup2_11 hx hb hd (by rw [mz_e_cat]; exact ha) (by rw [mz_e_cat]; exact hb2) (kk H ls locs hP hS hl)
theorem mz_I_row {ρ : Nat → Nat} {lay : mz_Lay} {r a n : Nat} (hI : mz_I ρ lay) (hr : lay r = some (mz_o 6 [some (some a)])) (ha : lay a = some (mz_a n)) : mz_I (fun k => ρ (if k = 0 then r else a)) (mz_row n) := by
  have hne : r ≠ a := fun e => by subst e; rw [hr] at ha; cases ha
  intro i j x y hi hj e
  have hi2 : i < 2 := mz_lf_lt hi
  have hj2 : j < 2 := mz_lf_lt hj
  rcases (show i = 0 ∨ i = 1 by omega) with rfl | rfl <;> rcases (show j = 0 ∨ j = 1 by omega) with rfl | rfl
  · rfl
  · exact absurd (hI _ _ _ _ hr ha e) hne
  · exact absurd (hI _ _ _ _ ha hr e).symm hne
  · rfl
theorem mz_row_sub {lay : mz_Lay} {r a n : Nat} (hr : lay r = some (mz_o 6 [some (some a)])) (ha : lay a = some (mz_a n)) : ∀ (k : Nat) (sh : mz_Sh), mz_row n k = some sh → lay (if k = 0 then r else a) = some ((mz_shm (fun k => if k = 0 then r else a) sh)) := by
  intro k sh hk
  have hk2 : k < 2 := mz_lf_lt hk
  rcases (show k = 0 ∨ k = 1 by omega) with rfl | rfl
  · cases hk; exact hr
  · cases hk; exact ha
theorem FLJ7 : mz_FL RJ7 vwCl [] := fun _ _ _ h => by cases h
theorem KLJ7 : mz_KL RJ7 [] := fun _ _ h => by cases h
set_option maxHeartbeats 4000000 in
theorem f_Row_get_0 (l : Launch) (D : va_G) (cA : Nat → ClassId) (ρ : Nat → Nat) (n : Nat) (hn : n < 2 ^ 31) (M : mz_Mem) (i : Int32) : mz_M l D vwCl cA ρ (mz_row n) yX6_get cX6_get 2 (some .int) 0 0 [.ref 0, .int i] M (some (.int (mz_rg n (M 1) i))) M := by
  refine mz_in0 (by decide +kernel) (Nat.le_of_ble_eq_true rfl) (fun Γ C E => ?_)
  have E' := (⟨_, _, _, E⟩ : ∃ Qc mc ms, mz_E Γ Qc mc ms (mz_A ρ (mz_row n)))
  refine mz_go FLX6 KLX6 C [(0, .iload_n 1)] (by decide +kernel) (pc' := 1) (L' := [(0, .ref 0), (1, .int i)]) (st' := [.int i]) rfl ?_
  refine mz_zlt (off := 21) (tgt := 22) C (by decide +kernel) (by decide) (fun h1 => ?_) (fun h1 => ?_)
  · refine mz_go FLX6 KLX6 C [(22, .iconst (-1))] (by decide +kernel) (pc' := 23) (L' := [(0, .ref 0), (1, .int i)]) (st' := [.int (-1)]) rfl ?_
    exact mz_iret C E (by decide +kernel) (by unfold mz_rg; rw [if_pos h1]) rfl
  · refine mz_go FLX6 KLX6 C [(4, .iload_n 1), (5, .aload_n 0), (6, .getfield 9)] (by decide +kernel) (pc' := 9) (L' := [(0, .ref 0), (1, .int i)]) (st' := [.ref 1, .int i]) rfl ?_
    refine mz_alen (id := 1) (N := n) C rfl (by decide +kernel) ?_
    refine mz_ige (off := 12) (tgt := 22) C (by decide +kernel) (by decide) (fun h2 => ?_) (fun h2 => ?_)
    · refine mz_go FLX6 KLX6 C [(22, .iconst (-1))] (by decide +kernel) (pc' := 23) (L' := [(0, .ref 0), (1, .int i)]) (st' := [.int (-1)]) rfl ?_
      exact mz_iret C E (by decide +kernel) (by unfold mz_rg; rw [if_neg h1, if_pos h2]) rfl
    · refine mz_go FLX6 KLX6 C [(13, .aload_n 0), (14, .getfield 9), (17, .iload_n 1)] (by decide +kernel) (pc' := 18) (L' := [(0, .ref 0), (1, .int i)]) (st' := [.int i, .ref 1]) rfl ?_
      refine mz_ild (id := 1) (N := n) C rfl (mz_vin hn h1 h2) (by decide +kernel) ?_
      refine mz_go FLX6 KLX6 C [(19, .goto 4)] (by decide +kernel) (pc' := 23) (L' := [(0, .ref 0), (1, .int i)]) (st' := [.int (M 1 (i.toNatClampNeg))]) rfl ?_
      exact mz_iret C E (by decide +kernel) (by unfold mz_rg; rw [if_neg h1, if_neg h2]) rfl
set_option maxHeartbeats 4000000 in
theorem f_Row_set_0 (l : Launch) (D : va_G) (cA : Nat → ClassId) (ρ : Nat → Nat) (n : Nat) (hn : n < 2 ^ 31) (hI : mz_I ρ (mz_row n)) (M : mz_Mem) (i v : Int32) : mz_M l D vwCl cA ρ (mz_row n) yX6_set cX6_set 3 none 0 0 [.ref 0, .int i, .int v] M none (mz_s M 1 (mz_rs n (M 1) i v)) := by
  refine mz_in0 (by decide +kernel) (Nat.le_of_ble_eq_true rfl) (fun Γ C E => ?_)
  have E' := (⟨_, _, _, E⟩ : ∃ Qc mc ms, mz_E Γ Qc mc ms (mz_A ρ (mz_row n)))
  refine mz_go FLX6 KLX6 C [(0, .iload_n 1)] (by decide +kernel) (pc' := 1) (L' := [(0, .ref 0), (1, .int i), (2, .int v)]) (st' := [.int i]) rfl ?_
  refine mz_zlt (off := 19) (tgt := 20) C (by decide +kernel) (by decide) (fun h1 => ?_) (fun h1 => ?_)
  · exact mz_vret C E (by decide +kernel) (by unfold mz_rs; rw [if_pos h1, mz_s_id])
  · refine mz_go FLX6 KLX6 C [(4, .iload_n 1), (5, .aload_n 0), (6, .getfield 9)] (by decide +kernel) (pc' := 9) (L' := [(0, .ref 0), (1, .int i), (2, .int v)]) (st' := [.ref 1, .int i]) rfl ?_
    refine mz_alen (id := 1) (N := n) C rfl (by decide +kernel) ?_
    refine mz_ige (off := 10) (tgt := 20) C (by decide +kernel) (by decide) (fun h2 => ?_) (fun h2 => ?_)
    · exact mz_vret C E (by decide +kernel) (by unfold mz_rs; rw [if_neg h1, if_pos h2, mz_s_id])
    · refine mz_go FLX6 KLX6 C [(13, .aload_n 0), (14, .getfield 9), (17, .iload_n 1), (18, .iload_n 2)] (by decide +kernel) (pc' := 19) (L' := [(0, .ref 0), (1, .int i), (2, .int v)]) (st' := [.int v, .int i, .ref 1]) rfl ?_
      refine mz_ist (id := 1) (N := n) C E' hI rfl (mz_vin hn h1 h2) (by decide +kernel) ?_
      exact mz_vret C E (by decide +kernel) (by unfold mz_rs; rw [if_neg h1, if_neg h2])
set_option maxHeartbeats 4000000 in
theorem f_Row_add_0 (l : Launch) (D : va_G) (cA : Nat → ClassId) (ρ : Nat → Nat) (n : Nat) (hn : n < 2 ^ 31) (hI : mz_I ρ (mz_row n)) (M : mz_Mem) (i v : Int32) : mz_M l D vwCl cA ρ (mz_row n) yX6_add cX6_add 3 none 0 0 [.ref 0, .int i, .int v] M none (mz_s M 1 (mz_ra n (M 1) i v)) := by
  refine mz_in0 (by decide +kernel) (Nat.le_of_ble_eq_true rfl) (fun Γ C E => ?_)
  have E' := (⟨_, _, _, E⟩ : ∃ Qc mc ms, mz_E Γ Qc mc ms (mz_A ρ (mz_row n)))
  refine mz_go FLX6 KLX6 C [(0, .iload_n 1)] (by decide +kernel) (pc' := 1) (L' := [(0, .ref 0), (1, .int i), (2, .int v)]) (st' := [.int i]) rfl ?_
  refine mz_zlt (off := 22) (tgt := 23) C (by decide +kernel) (by decide) (fun h1 => ?_) (fun h1 => ?_)
  · exact mz_vret C E (by decide +kernel) (by unfold mz_ra; rw [if_pos h1, mz_s_id])
  · refine mz_go FLX6 KLX6 C [(4, .iload_n 1), (5, .aload_n 0), (6, .getfield 9)] (by decide +kernel) (pc' := 9) (L' := [(0, .ref 0), (1, .int i), (2, .int v)]) (st' := [.ref 1, .int i]) rfl ?_
    refine mz_alen (id := 1) (N := n) C rfl (by decide +kernel) ?_
    refine mz_ige (off := 13) (tgt := 23) C (by decide +kernel) (by decide) (fun h2 => ?_) (fun h2 => ?_)
    · exact mz_vret C E (by decide +kernel) (by unfold mz_ra; rw [if_neg h1, if_pos h2, mz_s_id])
    · refine mz_go FLX6 KLX6 C [(13, .aload_n 0), (14, .getfield 9), (17, .iload_n 1)] (by decide +kernel) (pc' := 18) (L' := [(0, .ref 0), (1, .int i), (2, .int v)]) (st' := [.int i, .ref 1]) rfl ?_
      refine mz_dup2 C (by decide +kernel) rfl rfl ?_
      refine mz_ild (id := 1) (N := n) C rfl (mz_vin hn h1 h2) (by decide +kernel) ?_
      refine mz_go FLX6 KLX6 C [(20, .iload_n 2), (21, .iadd)] (by decide +kernel) (pc' := 22) (L' := [(0, .ref 0), (1, .int i), (2, .int v)]) (st' := [.int ((M 1 (i.toNatClampNeg)) + v), .int i, .ref 1]) rfl ?_
      refine mz_ist (id := 1) (N := n) C E' hI rfl (mz_vin hn h1 h2) (by decide +kernel) ?_
      exact mz_vret C E (by decide +kernel) (by unfold mz_ra; rw [if_neg h1, if_neg h2])
set_option maxHeartbeats 4000000 in
theorem f_Row_sum_0 (l : Launch) (D : va_G) (cA : Nat → ClassId) (ρ : Nat → Nat) (n : Nat) (hn : n < 2 ^ 31) (M : mz_Mem) : mz_M l D vwCl cA ρ (mz_row n) yX6_sum cX6_sum 3 (some .int) 0 0 [.ref 0] M (some (.int (mz_sum n (M 1)))) M := by
  refine mz_in0 (by decide +kernel) (Nat.le_of_ble_eq_true rfl) (fun Γ C E => ?_)
  have E' := (⟨_, _, _, E⟩ : ∃ Qc mc ms, mz_E Γ Qc mc ms (mz_A ρ (mz_row n)))
  refine mz_go FLX6 KLX6 C [(0, .iconst 0), (1, .istore_n 1), (2, .iconst 0), (3, .istore_n 2)] (by decide +kernel) (pc' := 4) (L' := [(2, .int 0), (1, .int 0), (0, .ref 0)]) (st' := []) rfl ?_
  refine mz_sub (L' := [(0, .ref 0), (1, .int 0), (2, .int 0)]) (by simp) ?_
  refine mz_loop (Int32.ofNat n) (fun i a => a + M 1 i.toNatClampNeg) (fun i a => mz_W Γ ρ 3 0 0 (mz_H D vwCl cA ρ (mz_row n) M) 4 [(0, .ref 0), (1, .int a), (2, .int i)] []) 0 (fun i a hi hx hb => ?_)
  refine mz_go FLX6 KLX6 C [(4, .iload_n 2), (5, .aload_n 0), (6, .getfield 9)] (by decide +kernel) (pc' := 9) (L' := [(0, .ref 0), (1, .int a), (2, .int i)]) (st' := [.ref 1, .int i]) rfl ?_
  refine mz_alen (id := 1) (N := n) C rfl (by decide +kernel) ?_
  refine mz_ige (off := 18) (tgt := 28) C (by decide +kernel) (by decide) (fun h1 => ?_) (fun h1 => ?_)
  · refine mz_go FLX6 KLX6 C [(28, .iload_n 1)] (by decide +kernel) (pc' := 29) (L' := [(0, .ref 0), (1, .int a), (2, .int i)]) (st' := [.int a]) rfl ?_
    exact mz_iret C E (by decide +kernel) (hx h1) rfl
  · refine mz_go FLX6 KLX6 C [(13, .iload_n 1), (14, .aload_n 0), (15, .getfield 9), (18, .iload_n 2)] (by decide +kernel) (pc' := 19) (L' := [(0, .ref 0), (1, .int a), (2, .int i)]) (st' := [.int i, .ref 1, .int a]) rfl ?_
    refine mz_ild (id := 1) (N := n) C rfl (mz_vin' hn hi h1) (by decide +kernel) ?_
    refine mz_go FLX6 KLX6 C [(20, .iadd), (21, .istore_n 1), (22, .iinc 2 1), (25, .goto (-21))] (by decide +kernel) (pc' := 4) (L' := [(2, .int (i + 1)), (1, .int (a + (M 1 (i.toNatClampNeg)))), (0, .ref 0)]) (st' := []) rfl ?_
    exact mz_sub (by simp) (hb h1)

def mz_arr (n : Nat) : mz_Lay := mz_lf [some (mz_a n)]
def mz_FLn : List (Nat × Nat × Nat) := []
def mz_fil (f : Nat → Int32) (k : Nat) (v : Int32) : Nat → Int32 := fun j => if j < k then v else f j
theorem mz_fil_upd (f : Nat → Int32) (k : Nat) (v : Int32) : upd (mz_fil f k v) k v = mz_fil f (k + 1) v := by
  funext j
  unfold upd mz_fil
  by_cases h : j = k
  · subst h; simp
  · rw [if_neg h]
    by_cases h2 : j < k
    · rw [if_pos h2, if_pos (by omega)]
    · rw [if_neg h2, if_neg (by omega)]
def flJ7 : List (Nat × Nat × Nat) := []
def klJ7 : List (Nat × Int64) := []
set_option maxHeartbeats 4000000 in
theorem f_fill_0 (l : Launch) (D : va_G) (cA : Nat → ClassId) (ρ : Nat → Nat) (n : Nat) (hn : n < 2 ^ 31) (hI : mz_I ρ (mz_arr n)) (M : mz_Mem) (v : Int32) : mz_M l D vwCl cA ρ (mz_arr n) yJ7_fill_53178 cJ7_fill_53178 4 none 0 0 [.ref 0, .int v] M none (mz_s M 0 (mz_fil (M 0) n v)) := by
  refine mz_in0 (by decide +kernel) (Nat.le_of_ble_eq_true rfl) (fun Γ C E => ?_)
  have E' := (⟨_, _, _, E⟩ : ∃ Qc mc ms, mz_E Γ Qc mc ms (mz_A ρ (mz_arr n)))
  refine mz_go FLJ7 KLJ7 C [(0, .iconst 0), (1, .istore_n 2), (2, .aload_n 0)] (by decide +kernel) (pc' := 3) (L' := [(2, .int 0), (0, .ref 0), (1, .int v)]) (st' := [.ref 0]) rfl ?_
  refine mz_alen (id := 0) (N := n) C rfl (by decide +kernel) ?_
  refine mz_go FLJ7 KLJ7 C [(4, .istore_n 3)] (by decide +kernel) (pc' := 5) (L' := [(3, .int (Int32.ofNat n)), (2, .int 0), (0, .ref 0), (1, .int v)]) (st' := []) rfl ?_
  refine mz_sub (L' := [(0, .ref 0), (1, .int v), (2, .int (nI 0)), (3, .int (Int32.ofNat n))]) (by simp [nI]) ?_
  have key : ∀ r j : Nat, j + r = n → mz_W Γ ρ 4 0 0 (mz_H D vwCl cA ρ (mz_arr n) (mz_s M 0 (mz_fil (M 0) j v))) 5 [(0, .ref 0), (1, .int v), (2, .int (nI j)), (3, .int (Int32.ofNat n))] [] := by
    intro r
    induction r with
    | zero =>
      intro j hj
      refine mz_go FLJ7 KLJ7 C [(5, .iload_n 2), (6, .iload_n 3)] (by decide +kernel) (pc' := 7) (L' := [(0, .ref 0), (1, .int v), (2, .int (nI j)), (3, .int (Int32.ofNat n))]) (st' := [.int (Int32.ofNat n), .int (nI j)]) rfl ?_
      refine mz_ige (off := 13) (tgt := 20) C (by decide +kernel) (by decide) (fun h1 => ?_) (fun h1 => absurd (show Int32.ofNat n ≤ nI j from nI_le (by omega) (by omega)) h1)
      exact mz_vret C E (by decide +kernel) (by rw [show j = n by omega])
    | succ r ih =>
      intro j hj
      refine mz_go FLJ7 KLJ7 C [(5, .iload_n 2), (6, .iload_n 3)] (by decide +kernel) (pc' := 7) (L' := [(0, .ref 0), (1, .int v), (2, .int (nI j)), (3, .int (Int32.ofNat n))]) (st' := [.int (Int32.ofNat n), .int (nI j)]) rfl ?_
      refine mz_ige (off := 13) (tgt := 20) C (by decide +kernel) (by decide) (fun h1 => absurd h1 (nI_ge (by omega) (by omega))) (fun h1 => ?_)
      refine mz_go FLJ7 KLJ7 C [(10, .aload_n 0), (11, .iload_n 2), (12, .iload_n 1)] (by decide +kernel) (pc' := 13) (L' := [(0, .ref 0), (1, .int v), (2, .int (nI j)), (3, .int (Int32.ofNat n))]) (st' := [.int v, .int (nI j), .ref 0]) rfl ?_
      refine mz_ist (id := 0) (N := n) C E' hI rfl (vp_in_nI (by omega) hn) (by decide +kernel) ?_
      refine mz_go FLJ7 KLJ7 C [(14, .iinc 2 1), (17, .goto (-12))] (by decide +kernel) (pc' := 5) (L' := [(2, .int ((nI j) + 1)), (0, .ref 0), (1, .int v), (3, .int (Int32.ofNat n))]) (st' := []) rfl ?_
      have ih := ih (j + 1) (by omega)
      rw [mz_s_s, mz_s_eq, nI_clamp (by omega), mz_fil_upd]
      rw [← nI_1] at ih
      exact mz_sub (by simp) ih
  have h0 : mz_s M 0 (mz_fil (M 0) 0 v) = M := by
    have : mz_fil (M 0) 0 v = M 0 := by funext j; simp [mz_fil]
    rw [this, mz_s_id]
  have k0 := key n 0 (by omega)
  rw [h0] at k0
  exact k0
