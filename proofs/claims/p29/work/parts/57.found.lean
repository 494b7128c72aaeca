/-! found -/
set_option maxHeartbeats 4000000 in
theorem t_found (Lg : Nat) (xs : Nat → Int32) (N : mz_Mem) (d : Nat) (sz : Nat → Nat) (hLg : Lg < 2 ^ 31) (hd : d ≤ 99) (hz : ∀ j, 3 ≤ j → sz j = 0) (h8 : ∀ a b, a < 8 → b < 8 → N 8 (a * 8 + b) = -1) :
    ∃ (many : Nat) (σ : mz_FS), ∀ (l : Launch) (D : va_G) (cA : Nat → ClassId) (κ : Nat → Nat) (hκ : mz_I κ mz_lay2) (lo : Nat),
      mz_J l D vwCl cA yX10_found cX10_found 6 (some .boolean) 7 190 100 1000 [.ref (κ 130), .int 9] (mz_T D cA κ lo Lg xs N d sz) (some (.int 1)) (fun H => mz_V6 many 6 σ ∧ mz_T D cA κ lo Lg xs σ.1 σ.2.1 σ.2.2 H) (mz_TA κ lo) := by
  have b5 := (mz_dv_ok Lg xs d (n := 5) (by decide) (by decide)).1
  obtain ⟨many, em⟩ : ∃ m, m = 3 + mz_dv Lg xs d 5 := ⟨_, rfl⟩
  obtain ⟨c2, e2⟩ : ∃ c, c = 3 := ⟨_, rfl⟩
  obtain ⟨c3, e3⟩ : ∃ c, c = 5 := ⟨_, rfl⟩
  obtain ⟨c4, e4⟩ : ∃ c, c = 2 := ⟨_, rfl⟩
  obtain ⟨c5, e5⟩ : ∃ c, c = 9 := ⟨_, rfl⟩
  obtain ⟨c6, e6⟩ : ∃ c, c = 6 := ⟨_, rfl⟩
  refine ⟨many, mz_F6 Lg xs many c6 (mz_F5 Lg xs many c5 (mz_F4 Lg xs many c4 (mz_F3 Lg xs many c3 0 (mz_F2 Lg xs many c2 (mz_F1 Lg xs many (N, d + 1, sz)))))), fun l D cA κ hκ lo => ?_⟩
  refine mz_introJ (ρ := κ) (As0 := [.ref 130, .int 9]) (by decide +kernel) (Nat.le_of_ble_eq_true rfl) rfl (fun Γ C hO E _ => ?_)
  have X : mz_FC Γ l D cA κ lo := ⟨C, hO, ⟨_, _, _, E⟩⟩
  refine mz_goP (lay := (fun _ => none)) (M := mz_Z) (cA := cA) (D := D) (cl := vwCl) (fun _ _ => mz_Hno) FLX10 KLX10 C [(0, .iconst 3), (1, .aload_n 0), (2, .iconst 5)] (by decide +kernel) (pc' := 3) (L' := [(0, .ref 130), (1, .int 9)]) (st' := [.int 5, .ref 130, .int 3]) rfl ?_
  refine fw_draw X (n0 := 5) (d := d) (by decide) (by decide) hLg (by omega) (by omega) (by omega) (Nat.le_of_ble_eq_true rfl) (by decide +kernel) ?_
  refine mz_goP (lay := (fun _ => none)) (M := mz_Z) (cA := cA) (D := D) (cl := vwCl) (fun _ _ => mz_Hno) FLX10 KLX10 C [(6, .iadd), (7, .istore_n 2), (8, .iconst 0), (9, .istore_n 3)] (by decide +kernel) (pc' := 10) (L' := [(3, .int 0), (2, .int (3 + (nI (mz_dv Lg xs d 5)))), (0, .ref 130), (1, .int 9)]) (st' := []) rfl ?_
  rw [show (3 : Int32) + nI (mz_dv Lg xs d 5) = nI many from (nI_add 3 _).trans (by rw [em])]
  refine mz_sub (L' := [(0, .ref 130), (1, .int 9), (2, .int (nI many)), (3, .int (nI 0))]) (by simp [nI_0]) ?_
  refine fw_loop1 X hκ hLg many (by omega) (by omega) 9 many 0 (N, d + 1, sz) 0 0 (by omega) ⟨hz 3 (by decide), Nat.le_of_eq (hz 4 (by decide)), fun j hj => hz j (by omega), by show d + 1 ≤ 100 + 4 * 0; omega, fun a b ha hb _ => h8 a b ha hb⟩ (by omega) (by omega) (fun k1 n1 hk1 hn1 w => ?_)
  refine mz_goP (lay := (fun _ => none)) (M := mz_Z) (cA := cA) (D := D) (cl := vwCl) (fun _ _ => mz_Hno) FLX10 KLX10 C [(81, .iconst 0), (82, .istore_n 3)] (by decide +kernel) (pc' := 83) (L' := [(3, .int 0), (0, .ref 130), (1, .int 9), (2, .int (nI many))]) (st' := []) rfl ?_
  refine mz_sub (L' := [(0, .ref 130), (1, .int 9), (2, .int (nI many)), (3, .int (nI 0))]) (by simp [nI_0]) ?_
  obtain ⟨w1, w2, w3, w4, -⟩ := w
  refine fw_loop2 X hκ hLg many (by omega) (by omega) 9 c2 0 (mz_F1 Lg xs many (N, d + 1, sz)) k1 n1 (by omega) ⟨w1, by omega, w3, by omega⟩ (by omega) (by omega) (fun k2 n2 hk2 hn2 w => ?_)
  refine mz_goP (lay := (fun _ => none)) (M := mz_Z) (cA := cA) (D := D) (cl := vwCl) (fun _ _ => mz_Hno) FLX10 KLX10 C [(147, .iconst 0), (148, .istore_n 3)] (by decide +kernel) (pc' := 149) (L' := [(3, .int 0), (0, .ref 130), (1, .int 9), (2, .int (nI many))]) (st' := []) rfl ?_
  refine mz_sub (L' := [(0, .ref 130), (1, .int 9), (2, .int (nI many)), (3, .int (nI 0))]) (by simp [nI_0]) ?_
  obtain ⟨w1, w2, w3, w4⟩ := w
  refine fw_loop3 X hκ hLg many (by omega) (by omega) 9 c3 0 (mz_F2 Lg xs many c2 (mz_F1 Lg xs many (N, d + 1, sz))) k2 n2 (by omega) ⟨w1, w3 5 (by decide), fun j hj => w3 j (by omega), by omega⟩ (by omega) (by omega) (fun k3 n3 hk3 hn3 w => ?_)
  refine mz_goP (lay := (fun _ => none)) (M := mz_Z) (cA := cA) (D := D) (cl := vwCl) (fun _ _ => mz_Hno) FLX10 KLX10 C [(189, .iconst 0), (190, .istore_n 3)] (by decide +kernel) (pc' := 191) (L' := [(3, .int 0), (0, .ref 130), (1, .int 9), (2, .int (nI many))]) (st' := []) rfl ?_
  refine mz_sub (L' := [(0, .ref 130), (1, .int 9), (2, .int (nI many)), (3, .int (nI 0))]) (by simp [nI_0]) ?_
  refine fw_loop4 X hκ hLg many (by omega) (by omega) 9 c4 0 (mz_F3 Lg xs many c3 0 (mz_F2 Lg xs many c2 (mz_F1 Lg xs many (N, d + 1, sz)))) k3 n3 (by omega) w (by omega) (by omega) (fun k4 n4 hk4 hn4 w => ?_)
  refine mz_goP (lay := (fun _ => none)) (M := mz_Z) (cA := cA) (D := D) (cl := vwCl) (fun _ _ => mz_Hno) FLX10 KLX10 C [(216, .iconst 0), (217, .istore_n 3)] (by decide +kernel) (pc' := 218) (L' := [(3, .int 0), (0, .ref 130), (1, .int 9), (2, .int (nI many))]) (st' := []) rfl ?_
  refine mz_sub (L' := [(0, .ref 130), (1, .int 9), (2, .int (nI many)), (3, .int (nI 0))]) (by simp [nI_0]) ?_
  obtain ⟨w1, w2, w3, w4, w5⟩ := w
  refine fw_loop5 X hκ hLg many (by omega) (by omega) 9 c5 0 (mz_F4 Lg xs many c4 (mz_F3 Lg xs many c3 0 (mz_F2 Lg xs many c2 (mz_F1 Lg xs many (N, d + 1, sz))))) k4 n4 (by omega) ⟨w1, w2, w3, Nat.le_of_eq (w4 7 (by decide)), w4 8 (by decide), by omega⟩ (by omega) (by omega) (fun k5 n5 hk5 hn5 w => ?_)
  refine mz_goP (lay := (fun _ => none)) (M := mz_Z) (cA := cA) (D := D) (cl := vwCl) (fun _ _ => mz_Hno) FLX10 KLX10 C [(419, .iconst 0), (420, .istore_n 3)] (by decide +kernel) (pc' := 421) (L' := [(3, .int 0), (0, .ref 130), (1, .int 9), (2, .int (nI many))]) (st' := []) rfl ?_
  refine mz_sub (L' := [(0, .ref 130), (1, .int 9), (2, .int (nI many)), (3, .int (nI 0))]) (by simp [nI_0]) ?_
  obtain ⟨w1, w2, w3, w4, w5, w6⟩ := w
  refine fw_loop6 X hκ hLg many (by omega) (by omega) 9 c6 0 (mz_F5 Lg xs many c5 (mz_F4 Lg xs many c4 (mz_F3 Lg xs many c3 0 (mz_F2 Lg xs many c2 (mz_F1 Lg xs many (N, d + 1, sz)))))) k5 n5 (by omega) ⟨w1, w2, Nat.le_of_eq w5, by omega⟩ (by omega) (by omega) (fun k6 n6 hk6 hn6 w => ?_)
  refine mz_goP (lay := (fun _ => none)) (M := mz_Z) (cA := cA) (D := D) (cl := vwCl) (fun _ _ => mz_Hno) FLX10 KLX10 C [(495, .iconst 1)] (by decide +kernel) (pc' := 496) (L' := [(0, .ref 130), (1, .int 9), (2, .int (nI many))]) (st' := [.int 1]) rfl ?_
  refine mz_wid (k' := 100) (n' := 1000) (by omega) (by omega) ?_
  exact mz_jzret C E (by decide +kernel) (Or.inr rfl) rfl (fun H h => ⟨w, h⟩)
