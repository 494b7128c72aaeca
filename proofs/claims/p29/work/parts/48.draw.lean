/-! drawing -/
theorem mz_mask (v : Int32) : ∃ q, q < 2 ^ 31 ∧ v &&& 2147483647 = nI q := by
  refine ⟨(v.toBitVec &&& 2147483647#32).toNat, ?_, ?_⟩
  · rw [BitVec.toNat_and]
    exact Nat.lt_of_le_of_lt Nat.and_le_right (by decide)
  · apply Int32.toBitVec_inj.mp
    rw [Int32.toBitVec_and]
    show v.toBitVec &&& 2147483647#32 = BitVec.ofNat 32 (v.toBitVec &&& 2147483647#32).toNat
    rw [BitVec.ofNat_toNat, BitVec.setWidth_eq]
theorem mz_bw_n (v : Int32) {n : Nat} (h0 : 0 < n) (hn : n < 2 ^ 31) : ∃ q, q < n ∧ mz_bw v (nI n) = nI q := by
  obtain ⟨q, hq, e⟩ := mz_mask v
  unfold mz_bw
  rw [e, pk_rem hq h0 hn]
  exact ⟨q % n, Nat.mod_lt _ h0, rfl⟩
/-- the value that is drawn -/
def mz_dr (Lg : Nat) (xs : Nat → Int32) (d n : Nat) : Int32 := mz_bw ((mz_cl Lg xs (nI (d % 24)) >>> (nI (d / 24 % 8) &&& 31)) + 359 * nI d) (nI n)
def mz_dv (Lg : Nat) (xs : Nat → Int32) (d n : Nat) : Nat := (mz_dr Lg xs d n).toInt.toNat
theorem mz_dv_ok (Lg : Nat) (xs : Nat → Int32) (d : Nat) {n : Nat} (h0 : 0 < n) (hn : n < 2 ^ 31) : mz_dv Lg xs d n < n ∧ mz_dr Lg xs d n = nI (mz_dv Lg xs d n) := by
  obtain ⟨q, hq, e⟩ := mz_bw_n ((mz_cl Lg xs (nI (d % 24)) >>> (nI (d / 24 % 8) &&& 31)) + 359 * nI d) h0 hn
  unfold mz_dv mz_dr
  rw [e, nI_toInt (by omega)]
  exact ⟨hq, rfl⟩
theorem mz_LK.eq {N M M' : mz_Mem} {sz : Nat → Nat} (h : mz_LK N M sz) (e : ∀ k, 132 ≤ k → M' k = M k) : mz_LK N M' sz := by
  obtain ⟨h1, h2, h3, h4, h5, h6, h7, h8⟩ := h
  refine ⟨h1, h2, fun i hi => by rw [e 132 (by omega)]; exact h3 i hi, fun i hi => ?_, fun a b ha hb => ?_, fun i hi => ?_, fun g hg => ?_, h8⟩
  · rw [e (200 + i) (by omega)]; exact h4 i hi
  · rcases h5 a b ha hb with h | ⟨i, hi, h, h'⟩
    · exact Or.inl h
    · exact Or.inr ⟨i, hi, h, by rw [e (200 + i) (by omega)]; exact h'⟩
  · rw [e (500 + i) (by omega)]; exact h6 i hi
  · rw [e (600 + g) (by omega)]; exact h7 g hg
/-- the class's object beside numbered cells -/
def mz_TP (D : va_G) (cA : Nat → ClassId) (κ : Nat → Nat) (lo : Nat) (ρ : Nat → Nat) (lay : mz_Lay) (N M : mz_Mem) (H : Heap) : Prop := (mz_CP D cA κ N H ∧ lo ≤ H.size) ∧ mz_H D vwCl cA ρ lay M H
section MZTO
variable {Γ : mz_G} {l : Launch} {nL k n : Nat} {D : va_G} {cA : Nat → ClassId} {κ : Nat → Nat} {lo Lg d : Nat} {xs : Nat → Int32} {N : mz_Mem} {sz : Nat → Nat} {pc : Nat} {L : List (Nat × Value)} {st : List Value}
/-- into a told house -/
theorem mz_Topen (hL : ∀ ρ : Nat → Nat, ρ 130 = κ 130 → mz_L ρ L = mz_L κ L) (hs : ∀ ρ : Nat → Nat, ρ 130 = κ 130 → st.map (mz_e ρ) = st.map (mz_e κ))
    (kk : ∀ (ρ : Nat → Nat) (M : mz_Mem), mz_TF κ lo Lg xs N d ρ M sz → mz_W Γ ρ nL k n (mz_TP D cA κ lo ρ (mz_TL Lg sz) N M) pc L st) : mz_W Γ κ nL k n (mz_T D cA κ lo Lg xs N d sz) pc L st := by
  obtain ⟨p, l', e, R, s, m, args, below, meth, c, H0, A, Q⟩ := Γ
  intro H ls locs hP hS hl
  obtain ⟨hC, ρ, M, hF, hH⟩ := hP
  have h := kk ρ M hF H ls locs ⟨hC, hH⟩ hS (by rw [hL ρ hF.1.2.1]; exact hl)
  rw [hs ρ hF.1.2.1] at h
  exact h
/-- out of it -/
theorem mz_Tclose {ρ : Nat → Nat} {M : mz_Mem} (hF : mz_TF κ lo Lg xs N d ρ M sz) : ∀ H, mz_TP D cA κ lo ρ (mz_TL Lg sz) N M H → mz_T D cA κ lo Lg xs N d sz H := fun _ h => ⟨h.1, ρ, M, hF, h.2⟩
end MZTO
theorem hs_L_cell : mz_YS yL_cell cL_cell 2 (some .int) 2 := ⟨mz_in 987 (by decide +kernel) (by decide +kernel), mz_in 31 (by decide +kernel) (by decide +kernel), mz_in 988 (by decide +kernel) (by decide +kernel), by decide +kernel, by decide +kernel, by decide +kernel⟩
theorem hs_L_below : mz_YS yL_below cL_below 2 (some .int) 2 := ⟨mz_in 991 (by decide +kernel) (by decide +kernel), mz_in 31 (by decide +kernel) (by decide +kernel), mz_in 992 (by decide +kernel) (by decide +kernel), by decide +kernel, by decide +kernel, by decide +kernel⟩
set_option maxHeartbeats 4000000 in
theorem t_draw (l : Launch) (D : va_G) (cA : Nat → ClassId) (κ : Nat → Nat) (lo Lg : Nat) (xs : Nat → Int32) (N : mz_Mem) (d : Nat) (sz : Nat → Nat) (n : Nat) (hLg : Lg < 2 ^ 31) (hd1 : d + 1 < 2 ^ 20) (h0 : 0 < n) (hn : n < 2 ^ 31) :
    mz_J l D vwCl cA yX10_draw cX10_draw 3 (some .int) 1 21 0 0 [.ref (κ 130), .int (nI n)] (mz_T D cA κ lo Lg xs N d sz) (some (.int (mz_dr Lg xs d n))) (mz_T D cA κ lo Lg xs N (d + 1) sz) (mz_TA κ lo) := by
  refine mz_introJ (ρ := κ) (As0 := [.ref 130, .int (nI n)]) (by decide +kernel) (Nat.le_of_ble_eq_true rfl) rfl (fun Γ C hO E _ => ?_)
  have E' := (⟨_, _, _, E⟩ : ∃ Qc mc ms, mz_E Γ Qc mc ms (mz_TA κ lo))
  refine mz_Topen (fun ρ h => by simp [mz_L, lv_args, mz_e, h]) (fun _ _ => rfl) (fun ρ M hF => ?_)
  have hd0 : M 130 2 = nI d := hF.2.2.2.2.1.1
  have hxs : M 131 = xs := hF.2.2.2.2.1.2.2
  have hPH : ∀ H, mz_TP D cA κ lo ρ (mz_TL Lg sz) N M H → mz_H D vwCl cA ρ (mz_TL Lg sz) M H := fun _ h => h.2
  refine mz_goP (lay := (mz_TL Lg sz)) (M := M) (cA := cA) (D := D) (cl := vwCl) (fun _ h => h.2) FLX10 KLX10 C [(0, .aload_n 0), (1, .getfield 41), (4, .aload_n 0), (5, .getfield 44), (8, .bipush 24)] (by decide +kernel) (pc' := 10) (L' := [(0, .ref 130), (1, .int (nI n))]) (st' := [.int 24, .int (M 130 2), .ref 131]) rfl ?_
  refine mz_irem C (by decide) (by decide +kernel) ?_
  rw [hd0, show nI d - nI d / 24 * 24 = nI (d % 24) from pk_rem (d := 24) (by omega) (by decide) (by decide)]
  refine mz_callJSN (index := 48) (As := [.ref (ρ 131), .int (nI (d % 24))]) (rest := []) C hO E' (t_cell l D cA ρ (mz_TL Lg sz) M (mz_TP D cA κ lo ρ (mz_TL Lg sz) N M) (fun _ h => h.2) Lg hLg xs rfl hxs (nI (d % 24)) (nI_pos (by omega))) (fun _ h => h.elim) (fun _ h => h) (fun _ _ _ h _ _ => h) hs_L_cell wn_X10_48 rfl ⟨Nat.le_of_ble_eq_true rfl, Nat.le_of_ble_eq_true rfl⟩ ⟨Nat.le_refl _, Nat.le_refl _⟩ (Nat.le_of_ble_eq_true rfl) (by decide +kernel) ?_ rfl rfl
  refine mz_goP (lay := (mz_TL Lg sz)) (M := M) (cA := cA) (D := D) (cl := vwCl) (fun _ h => h.2) FLX10 KLX10 C [(14, .aload_n 0), (15, .getfield 44), (18, .bipush 24)] (by decide +kernel) (pc' := 20) (L' := [(0, .ref 130), (1, .int (nI n))]) (st' := [.int 24, .int (M 130 2), .int (mz_cl Lg xs (nI (d % 24)))]) rfl ?_
  refine mz_idiv C (by decide) (by decide +kernel) ?_
  rw [hd0, show nI d / 24 = nI (d / 24) from pk_div (d := 24) (by omega) (by decide) (by decide)]
  refine mz_goP (lay := (mz_TL Lg sz)) (M := M) (cA := cA) (D := D) (cl := vwCl) (fun _ h => h.2) FLX10 KLX10 C [(21, .bipush 8)] (by decide +kernel) (pc' := 23) (L' := [(0, .ref 130), (1, .int (nI n))]) (st' := [.int 8, .int (nI (d / 24)), .int (mz_cl Lg xs (nI (d % 24)))]) rfl ?_
  refine mz_irem C (by decide) (by decide +kernel) ?_
  rw [show nI (d / 24) - nI (d / 24) / 8 * 8 = nI (d / 24 % 8) from pk_rem (d := 8) (by omega) (by decide) (by decide)]
  refine mz_goP (lay := (mz_TL Lg sz)) (M := M) (cA := cA) (D := D) (cl := vwCl) (fun _ h => h.2) FLX10 KLX10 C [(24, .ishr), (25, .sipush 359), (28, .aload_n 0), (29, .getfield 44), (32, .imul), (33, .iadd), (34, .iload_n 1)] (by decide +kernel) (pc' := 35) (L' := [(0, .ref 130), (1, .int (nI n))]) (st' := [.int (nI n), .int (((mz_cl Lg xs (nI (d % 24))) >>> ((nI (d / 24 % 8)) &&& 31)) + (359 * (M 130 2)))]) rfl ?_
  rw [hd0]
  refine mz_callJSN (index := 54) (As := [.int ((mz_cl Lg xs (nI (d % 24)) >>> (nI (d / 24 % 8) &&& 31)) + 359 * nI d), .int (nI n)]) (rest := []) C hO E' (t_below l D cA (mz_TP D cA κ lo ρ (mz_TL Lg sz) N M) ((mz_cl Lg xs (nI (d % 24)) >>> (nI (d / 24 % 8) &&& 31)) + 359 * nI d) (nI n) (nI_ne0 h0 hn)) (fun _ h => h.elim) (fun _ h => h) (fun _ _ _ h _ _ => h) hs_L_below wn_X10_54 rfl ⟨Nat.le_of_ble_eq_true rfl, Nat.le_of_ble_eq_true rfl⟩ ⟨Nat.le_refl _, Nat.le_refl _⟩ (Nat.le_of_ble_eq_true rfl) (by decide +kernel) ?_ rfl rfl
  refine mz_goP (lay := (mz_TL Lg sz)) (M := M) (cA := cA) (D := D) (cl := vwCl) (fun _ h => h.2) FLX10 KLX10 C [(38, .istore_n 2), (39, .aload_n 0), (40, .dup), (41, .getfield 44), (44, .iconst 1), (45, .iadd)] (by decide +kernel) (pc' := 46) (L' := [(2, .int (mz_dr Lg xs d n)), (0, .ref 130), (1, .int (nI n))]) (st' := [.int ((M 130 2) + 1), .ref 130]) rfl ?_
  rw [hd0, nI_1]
  have hF2 : mz_TF κ lo Lg xs N (d + 1) ρ (mz_s M 130 (upd (M 130) 2 (nI (d + 1)))) sz := ⟨hF.1, hF.2.1, hF.2.2.1, hF.2.2.2.1, ⟨by rw [mz_s_eq, mz_upd_eq], hd1, by rw [mz_s_ne (by decide)]; exact hxs⟩, hF.2.2.2.2.2.1.eq (fun k hk => mz_s_ne (by omega)), hF.2.2.2.2.2.2⟩
  refine mz_putP (P' := mz_TP D cA κ lo ρ (mz_TL Lg sz) N (mz_s M 130 (upd (M 130) 2 (nI (d + 1))))) (fun _ h => h.2) (id := 130) (ci := 10) (j := 2) (T := TX10) (N := 12) (fun H H1 h h1 h2 h3 => ⟨⟨h.1.1.kept (fun q hq => h3 q (fun e => hF.2.2.2.1 130 _ rfl (e ▸ hq))), by rw [h2]; exact h.1.2⟩, h1⟩) C E' (Or.inl hF.1.2.1) hF.2.2.1 rfl rfl rfl (by decide) iu_X10 tyX10 tyX10_ok nmX10 wf_X10_44 rfl (by decide +kernel) (by decide +kernel) ?_
  refine mz_goP (lay := (mz_TL Lg sz)) (M := (mz_s M 130 (upd (M 130) 2 (nI (d + 1))))) (cA := cA) (D := D) (cl := vwCl) (fun _ h => h.2) FLX10 KLX10 C [(49, .iload_n 2)] (by decide +kernel) (pc' := 50) (L' := [(2, .int (mz_dr Lg xs d n)), (0, .ref 130), (1, .int (nI n))]) (st' := [.int (mz_dr Lg xs d n)]) rfl ?_
  exact mz_jiret C E (by decide +kernel) rfl (mz_Tclose hF2)
