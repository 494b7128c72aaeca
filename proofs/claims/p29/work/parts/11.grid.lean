def mz_grid (n : Nat) : mz_Lay := mz_lf [some (mz_o 3 [none, some (some 1)]), some (mz_o 6 [some (some 2)]), some (mz_a n)]
def mz_gg (n : Nat) (w : Int32) (f : Nat → Int32) (l c : Int32) : Int32 := if c < 0 then -1 else if w ≤ c then -1 else mz_rg n f (l * w + c)
def mz_gs (n : Nat) (w : Int32) (f : Nat → Int32) (l c v : Int32) : Nat → Int32 := if c < 0 then f else if w ≤ c then f else mz_rs n f (l * w + c) v
theorem mz_grid_all {n k : Nat} {sh : mz_Sh} (hk : mz_grid n k = some sh) : (k = 0 ∧ sh = mz_o 3 [none, some (some 1)]) ∨ (k = 1 ∧ sh = mz_o 6 [some (some 2)]) ∨ (k = 2 ∧ sh = mz_a n) := by
  have h1 : k < 3 := mz_lf_lt hk
  rcases (show k = 0 ∨ k = 1 ∨ k = 2 by omega) with rfl | rfl | rfl <;> cases hk <;> simp
theorem mz_grid_sub {lay : mz_Lay} {g r a n : Nat} (hg : lay g = some (mz_o 3 [none, some (some r)])) (hr : lay r = some (mz_o 6 [some (some a)])) (ha : lay a = some (mz_a n)) : ∀ (k : Nat) (sh : mz_Sh), mz_grid n k = some sh → lay ((fun k => if k = 0 then g else if k = 1 then r else a) k) = some ((mz_shm (fun k => if k = 0 then g else if k = 1 then r else a) sh)) := by
  intro k sh hk
  rcases mz_grid_all hk with ⟨rfl, rfl⟩ | ⟨rfl, rfl⟩ | ⟨rfl, rfl⟩
  · exact hg
  · exact hr
  · exact ha
theorem mz_grid_I {ρ : Nat → Nat} {lay : mz_Lay} {g r a n : Nat} (hI : mz_I ρ lay) (hg : lay g = some (mz_o 3 [none, some (some r)])) (hr : lay r = some (mz_o 6 [some (some a)])) (ha : lay a = some (mz_a n)) : mz_I (fun k => ρ ((fun k => if k = 0 then g else if k = 1 then r else a) k)) (mz_grid n) := by
  have n1 : g ≠ r := fun e => by subst e; rw [hg] at hr; cases hr
  have n2 : g ≠ a := fun e => by subst e; rw [hg] at ha; cases ha
  have n3 : r ≠ a := mz_row_ne hr ha
  intro i j x y hi hj e
  have e2 := hI _ _ _ _ (mz_grid_sub hg hr ha i x hi) (mz_grid_sub hg hr ha j y hj) e
  rcases mz_grid_all hi with ⟨rfl, -⟩ | ⟨rfl, -⟩ | ⟨rfl, -⟩ <;> rcases mz_grid_all hj with ⟨rfl, -⟩ | ⟨rfl, -⟩ | ⟨rfl, -⟩ <;> first | rfl | exact absurd e2 n1 | exact absurd e2.symm n1 | exact absurd e2 n2 | exact absurd e2.symm n2 | exact absurd e2 n3 | exact absurd e2.symm n3
theorem mz_gridR {l : Launch} {D : va_G} {cA : Nat → ClassId} {ρ : Nat → Nat} {lay : mz_Lay} {g r a n nL fr lo : Nat} {y : MethodName} {cc : ByteArray} {ret : Option FieldType} {As : List Value} {v : Option Value} {M : mz_Mem} (hI : mz_I ρ lay) (hg : lay g = some (mz_o 3 [none, some (some r)])) (hr : lay r = some (mz_o 6 [some (some a)])) (ha : lay a = some (mz_a n))
    (F : mz_M l D vwCl cA (fun k => ρ ((fun k => if k = 0 then g else if k = 1 then r else a) k)) (mz_grid n) y cc nL ret fr lo As (fun k => M ((fun k => if k = 0 then g else if k = 1 then r else a) k)) v (fun k => M ((fun k => if k = 0 then g else if k = 1 then r else a) k))) {As' : List Value} {v' : Option Value} (hA : As' = As.map (mz_e (fun k => if k = 0 then g else if k = 1 then r else a))) (hv : v' = v.map (mz_e (fun k => if k = 0 then g else if k = 1 then r else a))) : mz_M l D vwCl cA ρ lay y cc nL ret fr lo As' M v' M :=
  mz_lift F (mz_grid_sub hg hr ha) hI (fun _ _ _ => rfl) (fun _ _ _ => rfl) (fun _ _ => rfl) hA hv
theorem mz_gridW {l : Launch} {D : va_G} {cA : Nat → ClassId} {ρ : Nat → Nat} {lay : mz_Lay} {g r a n nL fr lo : Nat} {y : MethodName} {cc : ByteArray} {ret : Option FieldType} {As : List Value} {v : Option Value} {M : mz_Mem} {f : Nat → Int32} (hI : mz_I ρ lay) (hg : lay g = some (mz_o 3 [none, some (some r)])) (hr : lay r = some (mz_o 6 [some (some a)])) (ha : lay a = some (mz_a n))
    (F : mz_M l D vwCl cA (fun k => ρ ((fun k => if k = 0 then g else if k = 1 then r else a) k)) (mz_grid n) y cc nL ret fr lo As (fun k => M ((fun k => if k = 0 then g else if k = 1 then r else a) k)) v (mz_s (fun k => M ((fun k => if k = 0 then g else if k = 1 then r else a) k)) 2 f)) {As' : List Value} {v' : Option Value} (hA : As' = As.map (mz_e (fun k => if k = 0 then g else if k = 1 then r else a))) (hv : v' = v.map (mz_e (fun k => if k = 0 then g else if k = 1 then r else a))) : mz_M l D vwCl cA ρ lay y cc nL ret fr lo As' M v' (mz_s M a f) := by
  have n2 : g ≠ a := fun e => by subst e; rw [hg] at ha; cases ha
  have n3 : r ≠ a := mz_row_ne hr ha
  refine mz_lift F (mz_grid_sub hg hr ha) hI (fun _ _ _ => rfl) (fun k sh hk => ?_) (fun b hb => ?_) hA hv
  · rcases mz_grid_all hk with ⟨rfl, -⟩ | ⟨rfl, -⟩ | ⟨rfl, -⟩
    · rw [mz_s_ne (by decide)]
      show M g = mz_s M a f g
      rw [mz_s_ne n2]
    · rw [mz_s_ne (by decide)]
      show M r = mz_s M a f r
      rw [mz_s_ne n3]
    · rw [mz_s_eq]
      show f = mz_s M a f a
      rw [mz_s_eq]
  · exact mz_s_ne (fun e => hb 2 (mz_a n) rfl (by rw [e]; rfl))
set_option maxHeartbeats 4000000 in
theorem f_Grid_get_0 (l : Launch) (D : va_G) (cA : Nat → ClassId) (ρ : Nat → Nat) (n : Nat) (hn : n < 2 ^ 31) (hI : mz_I ρ (mz_grid n)) (M : mz_Mem) (l0 c0 : Int32) : mz_M l D vwCl cA ρ (mz_grid n) yX3_get cX3_get 3 (some .int) 1 21 [.ref 0, .int l0, .int c0] M (some (.int (mz_gg n (M 0 0) (M 2) l0 c0))) M := by
  refine mz_in0 (by decide +kernel) (Nat.le_of_ble_eq_true rfl) (fun Γ C E => ?_)
  have E' := (⟨_, _, _, E⟩ : ∃ Qc mc ms, mz_E Γ Qc mc ms (mz_A ρ (mz_grid n)))
  refine mz_go FLX3 KLX3 C [(0, .iload_n 2)] (by decide +kernel) (pc' := 1) (L' := [(0, .ref 0), (1, .int l0), (2, .int c0)]) (st' := [.int c0]) rfl ?_
  refine mz_zlt (off := 29) (tgt := 30) C (by decide +kernel) (by decide) (fun h1 => ?_) (fun h1 => ?_)
  · refine mz_go FLX3 KLX3 C [(30, .iconst (-1))] (by decide +kernel) (pc' := 31) (L' := [(0, .ref 0), (1, .int l0), (2, .int c0)]) (st' := [.int (-1)]) rfl ?_
    exact mz_iret C E (by decide +kernel) (by unfold mz_gg; rw [if_pos h1]) rfl
  · refine mz_go FLX3 KLX3 C [(4, .iload_n 2), (5, .aload_n 0), (6, .getfield 9)] (by decide +kernel) (pc' := 9) (L' := [(0, .ref 0), (1, .int l0), (2, .int c0)]) (st' := [.int (M 0 0), .int c0]) rfl ?_
    refine mz_ige (off := 21) (tgt := 30) C (by decide +kernel) (by decide) (fun h2 => ?_) (fun h2 => ?_)
    · refine mz_go FLX3 KLX3 C [(30, .iconst (-1))] (by decide +kernel) (pc' := 31) (L' := [(0, .ref 0), (1, .int l0), (2, .int c0)]) (st' := [.int (-1)]) rfl ?_
      exact mz_iret C E (by decide +kernel) (by unfold mz_gg; rw [if_neg h1, if_pos h2]) rfl
    · refine mz_go FLX3 KLX3 C [(12, .aload_n 0), (13, .getfield 20), (16, .iload_n 1), (17, .aload_n 0), (18, .getfield 9), (21, .imul), (22, .iload_n 2), (23, .iadd)] (by decide +kernel) (pc' := 24) (L' := [(0, .ref 0), (1, .int l0), (2, .int c0)]) (st' := [.int ((l0 * (M 0 0)) + c0), .ref 1]) rfl ?_
      refine mz_callV (As := [.int ((l0 * (M 0 0)) + c0)]) (rest := []) C E' (f_Row_get l D cA ρ hI (r := 1) (a := 2) rfl rfl hn M ((l0 * (M 0 0)) + c0)) hy_X6_get wl_X3_24 rfl rfl rfl ⟨Nat.le_of_ble_eq_true rfl, Nat.le_of_ble_eq_true rfl⟩ ⟨Nat.le_refl _, Nat.le_refl _⟩ (Nat.le_of_ble_eq_true rfl) (by decide +kernel) ?_ rfl
      refine mz_go FLX3 KLX3 C [(27, .goto 4)] (by decide +kernel) (pc' := 31) (L' := [(0, .ref 0), (1, .int l0), (2, .int c0)]) (st' := [.int (mz_rg n (M 2) ((l0 * (M 0 0)) + c0))]) rfl ?_
      exact mz_iret C E (by decide +kernel) (by unfold mz_gg; rw [if_neg h1, if_neg h2]) rfl
set_option maxHeartbeats 4000000 in
theorem f_Grid_set_0 (l : Launch) (D : va_G) (cA : Nat → ClassId) (ρ : Nat → Nat) (n : Nat) (hn : n < 2 ^ 31) (hI : mz_I ρ (mz_grid n)) (M : mz_Mem) (l0 c0 v : Int32) : mz_M l D vwCl cA ρ (mz_grid n) yX3_set cX3_set 4 none 1 22 [.ref 0, .int l0, .int c0, .int v] M none (mz_s M 2 (mz_gs n (M 0 0) (M 2) l0 c0 v)) := by
  refine mz_in0 (by decide +kernel) (Nat.le_of_ble_eq_true rfl) (fun Γ C E => ?_)
  have E' := (⟨_, _, _, E⟩ : ∃ Qc mc ms, mz_E Γ Qc mc ms (mz_A ρ (mz_grid n)))
  refine mz_go FLX3 KLX3 C [(0, .iload_n 2)] (by decide +kernel) (pc' := 1) (L' := [(0, .ref 0), (1, .int l0), (2, .int c0), (3, .int v)]) (st' := [.int c0]) rfl ?_
  refine mz_zlt (off := 27) (tgt := 28) C (by decide +kernel) (by decide) (fun h1 => ?_) (fun h1 => ?_)
  · exact mz_vret C E (by decide +kernel) (by unfold mz_gs; rw [if_pos h1, mz_s_id])
  · refine mz_go FLX3 KLX3 C [(4, .iload_n 2), (5, .aload_n 0), (6, .getfield 9)] (by decide +kernel) (pc' := 9) (L' := [(0, .ref 0), (1, .int l0), (2, .int c0), (3, .int v)]) (st' := [.int (M 0 0), .int c0]) rfl ?_
    refine mz_ige (off := 19) (tgt := 28) C (by decide +kernel) (by decide) (fun h2 => ?_) (fun h2 => ?_)
    · exact mz_vret C E (by decide +kernel) (by unfold mz_gs; rw [if_neg h1, if_pos h2, mz_s_id])
    · refine mz_go FLX3 KLX3 C [(12, .aload_n 0), (13, .getfield 20), (16, .iload_n 1), (17, .aload_n 0), (18, .getfield 9), (21, .imul), (22, .iload_n 2), (23, .iadd), (24, .iload_n 3)] (by decide +kernel) (pc' := 25) (L' := [(0, .ref 0), (1, .int l0), (2, .int c0), (3, .int v)]) (st' := [.int v, .int ((l0 * (M 0 0)) + c0), .ref 1]) rfl ?_
      refine mz_callV (As := [.int ((l0 * (M 0 0)) + c0), .int v]) (rest := []) C E' (f_Row_set l D cA ρ hI (r := 1) (a := 2) rfl rfl hn M ((l0 * (M 0 0)) + c0) v) hy_X6_set wl_X3_28 rfl rfl rfl ⟨Nat.le_of_ble_eq_true rfl, Nat.le_of_ble_eq_true rfl⟩ ⟨Nat.le_refl _, Nat.le_refl _⟩ (Nat.le_of_ble_eq_true rfl) (by decide +kernel) ?_ rfl
      exact mz_vret C E (by decide +kernel) (by unfold mz_gs; rw [if_neg h1, if_neg h2])
set_option maxHeartbeats 4000000 in
theorem f_Grid_fill_0 (l : Launch) (D : va_G) (cA : Nat → ClassId) (ρ : Nat → Nat) (n : Nat) (hn : n < 2 ^ 31) (hI : mz_I ρ (mz_grid n)) (M : mz_Mem) (v : Int32) : mz_M l D vwCl cA ρ (mz_grid n) yX3_fill cX3_fill 2 none 2 44 [.ref 0, .int v] M none (mz_s M 2 (fun _ => v)) := by
  refine mz_in0 (by decide +kernel) (Nat.le_of_ble_eq_true rfl) (fun Γ C E => ?_)
  have E' := (⟨_, _, _, E⟩ : ∃ Qc mc ms, mz_E Γ Qc mc ms (mz_A ρ (mz_grid n)))
  refine mz_go FLX3 KLX3 C [(0, .aload_n 0), (1, .getfield 20), (4, .iload_n 1)] (by decide +kernel) (pc' := 5) (L' := [(0, .ref 0), (1, .int v)]) (st' := [.int v, .ref 1]) rfl ?_
  refine mz_callV (As := [.int v]) (rest := []) C E' (f_Row_fill l D cA ρ hI (r := 1) (a := 2) rfl rfl hn M v) hy_X6_fill wl_X3_32 rfl rfl rfl ⟨Nat.le_of_ble_eq_true rfl, Nat.le_of_ble_eq_true rfl⟩ ⟨Nat.le_refl _, Nat.le_refl _⟩ (Nat.le_of_ble_eq_true rfl) (by decide +kernel) ?_ rfl
  exact mz_vret C E (by decide +kernel) rfl
theorem f_Grid_get (l : Launch) (D : va_G) (cA : Nat → ClassId) (ρ : Nat → Nat) {lay : mz_Lay} (hI : mz_I ρ lay) {g r a n : Nat} (hg : lay g = some (mz_o 3 [none, some (some r)])) (hr : lay r = some (mz_o 6 [some (some a)])) (ha : lay a = some (mz_a n)) (hn : n < 2 ^ 31) (M : mz_Mem) (l0 c0 : Int32) :
    mz_M l D vwCl cA ρ lay yX3_get cX3_get 3 (some .int) 1 21 [.ref g, .int l0, .int c0] M (some (.int (mz_gg n (M g 0) (M a) l0 c0))) M :=
  mz_gridR hI hg hr ha (f_Grid_get_0 l D cA _ n hn (mz_grid_I hI hg hr ha) _ l0 c0) rfl rfl
theorem f_Grid_set (l : Launch) (D : va_G) (cA : Nat → ClassId) (ρ : Nat → Nat) {lay : mz_Lay} (hI : mz_I ρ lay) {g r a n : Nat} (hg : lay g = some (mz_o 3 [none, some (some r)])) (hr : lay r = some (mz_o 6 [some (some a)])) (ha : lay a = some (mz_a n)) (hn : n < 2 ^ 31) (M : mz_Mem) (l0 c0 v : Int32) :
    mz_M l D vwCl cA ρ lay yX3_set cX3_set 4 none 1 22 [.ref g, .int l0, .int c0, .int v] M none (mz_s M a (mz_gs n (M g 0) (M a) l0 c0 v)) :=
  mz_gridW hI hg hr ha (f_Grid_set_0 l D cA _ n hn (mz_grid_I hI hg hr ha) _ l0 c0 v) rfl rfl
theorem f_Grid_fill (l : Launch) (D : va_G) (cA : Nat → ClassId) (ρ : Nat → Nat) {lay : mz_Lay} (hI : mz_I ρ lay) {g r a n : Nat} (hg : lay g = some (mz_o 3 [none, some (some r)])) (hr : lay r = some (mz_o 6 [some (some a)])) (ha : lay a = some (mz_a n)) (hn : n < 2 ^ 31) (M : mz_Mem) (v : Int32) :
    mz_M l D vwCl cA ρ lay yX3_fill cX3_fill 2 none 2 44 [.ref g, .int v] M none (mz_s M a (fun _ => v)) :=
  mz_gridW hI hg hr ha (f_Grid_fill_0 l D cA _ n hn (mz_grid_I hI hg hr ha) _ v) rfl rfl
