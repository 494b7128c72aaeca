/-! drawing -/
theorem mz_mask (v : Int32) : ∃ q, q < 2 ^ 31 ∧ v &&& 2147483647 = nI q := by
  refine ⟨(v.toBitVec &&& 2147483647#32).toNat, ?_, ?_⟩
  · rw [BitVec.toNat_and]
    exact Nat.lt_of_le_of_lt Nat.and_le_right (by decide)
  · apply Int32.toBitVec_inj.mp
    rw [Int32.toBitVec_and]
    show v.toBitVec &&& 2147483647#32 = BitVec.ofNat 32 (v.toBitVec &&& 2147483647#32).toNat
    rw [BitVec.ofNat_toNat, BitVec.setWidth_eq]
theorem mz_bw_n (v : Int32) {n : Nat} (h0 : 0 < n) (hn : n < 2 ^ 31) : ∃ q, q < n ∧ mz_bw v (nI n) = nI q := by
  obtain ⟨q, hq, e⟩ := mz_mask v
  unfold mz_bw
  rw [e, pk_rem hq h0 hn]
  exact ⟨q % n, Nat.mod_lt _ h0, rfl⟩
/-- the value that is drawn -/
def mz_dr (Lg : Nat) (xs : Nat → Int32) (d n : Nat) : Int32 := mz_bw ((mz_cl Lg xs (nI (d % 24)) >>> (nI (d / 24 % 8) &&& 31)) + 359 * nI d) (nI n)
def mz_dv (Lg : Nat) (xs : Nat → Int32) (d n : Nat) : Nat := (mz_dr Lg xs d n).toInt.toNat
theorem mz_dv_ok (Lg : Nat) (xs : Nat → Int32) (d : Nat) {n : Nat} (h0 : 0 < n) (hn : n < 2 ^ 31) : mz_dv Lg xs d n < n ∧ mz_dr Lg xs d n = nI (mz_dv Lg xs d n) := by
  obtain ⟨q, hq, e⟩ := mz_bw_n ((mz_cl Lg xs (nI (d % 24)) >>> (nI (d / 24 % 8) &&& 31)) + 359 * nI d) h0 hn
  unfold mz_dv mz_dr
  rw [e, nI_toInt (by omega)]
  exact ⟨hq, rfl⟩
theorem mz_LK.eq {N M M' : mz_Mem} {sz : Nat → Nat} (h : mz_LK N M sz) (e : ∀ k, 132 ≤ k → M' k = M k) : mz_LK N M' sz := by
  obtain ⟨h1, h2, h3, h4, h5, h6, h7, h8⟩ := h
  refine ⟨h1, h2, fun i hi => by rw [e 132 (by omega)]; exact h3 i hi, fun i hi => ?_, fun a b ha hb => ?_, fun i hi => ?_, fun g hg => ?_, h8⟩
  · rw [e (200 + i) (by omega)]; exact h4 i hi
  · rcases h5 a b ha hb with h | ⟨i, hi, h, h'⟩
    · exact Or.inl h
    · exact Or.inr ⟨i, hi, h, by rw [e (200 + i) (by omega)]; exact h'⟩
  · rw [e (500 + i) (by omega)]; exact h6 i hi
  · rw [e (600 + g) (by omega)]; exact h7 g hg
/-- the class's object beside numbered cells -/
def mz_TP (D : va_G) (cA : Nat → ClassId) (κ : Nat → Nat) (lo : Nat) (ρ : Nat → Nat) (lay : mz_Lay) (N M : mz_Mem) (H : Heap) : Prop := (mz_CP D cA κ N H ∧ mz_LS cA κ lo H) ∧ mz_H D vwCl cA ρ lay M H
section MZTO
variable {Γ : mz_G} {l : Launch} {nL k n : Nat} {D : va_G} {cA : Nat → ClassId} {κ : Nat → Nat} {lo Lg d : Nat} {xs : Nat → Int32} {N : mz_Mem} {sz : Nat → Nat} {pc : Nat} {L : List (Nat × Value)} {st : List Value}
/-- into a told house -/
theorem mz_Topen (hL : ∀ ρ : Nat → Nat, ρ 130 = κ 130 → mz_L ρ L = mz_L κ L) (hs : ∀ ρ : Nat → Nat, ρ 130 = κ 130 → st.map (mz_e ρ) = st.map (mz_e κ))
    (kk : ∀ (ρ : Nat → Nat) (M : mz_Mem), mz_TF κ lo Lg xs N d ρ M sz → mz_W Γ ρ nL k n (mz_TP D cA κ lo ρ (mz_TL Lg sz) N M) pc L st) : mz_W Γ κ nL k n (mz_T D cA κ lo Lg xs N d sz) pc L st := by
  obtain ⟨p, l', e, R, s, m, args, below, meth, c, H0, A, Q⟩ := Γ
  intro H ls locs hP hS hl
  obtain ⟨hC, ρ, M, hF, hH⟩ := hP
  have h := kk ρ M hF H ls locs ⟨hC, hH⟩ hS (by rw [hL ρ hF.1.2.1]; exact hl)
  rw [hs ρ hF.1.2.1] at h
  exact h
/-- out of it -/
theorem mz_Tclose {ρ : Nat → Nat} {M : mz_Mem} (hF : mz_TF κ lo Lg xs N d ρ M sz) : ∀ H, mz_TP D cA κ lo ρ (mz_TL Lg sz) N M H → mz_T D cA κ lo Lg xs N d sz H := fun _ h => ⟨h.1, ρ, M, hF, h.2⟩
end MZTO
section MZT0
variable {l : Launch} {D : va_G} {cA : Nat → ClassId} {κ : Nat → Nat} {lo Lg d : Nat} {xs : Nat → Int32} {N : mz_Mem} {sz : Nat → Nat}
/-- a contract over the told house, out of one over its cells -/
theorem mz_JT {y : MethodName} {cc : ByteArray} {nL fr lo' mc ms : Nat} {ret : Option FieldType} {As : List Value} {Post : Heap → Prop} {r : Option Value} {A : Nat → Prop} (F : ∀ ρ M, mz_TF κ lo Lg xs N d ρ M sz → mz_J l D vwCl cA y cc nL ret fr lo' mc ms As (mz_TP D cA κ lo ρ (mz_TL Lg sz) N M) r Post A) :
    mz_J l D vwCl cA y cc nL ret fr lo' mc ms As (mz_T D cA κ lo Lg xs N d sz) r Post A := by
  intro p e ha hc hk s m args below hf happ hv ht
  obtain ⟨hA, ⟨hC, ρ, M, hF, hH⟩, hK⟩ := hv
  exact F ρ M hF p e ha hc hk s m args below hf happ ⟨hA, ⟨hC, hH⟩, hK⟩ ht
theorem mz_J.free {cl : List vw_C} {y : MethodName} {cc : ByteArray} {nL fr lo' mc ms : Nat} {ret : Option FieldType} {As : List Value} {Pre Post : Heap → Prop} {r : Option Value} {A B : Nat → Prop} (F : mz_J l D cl cA y cc nL ret fr lo' mc ms As Pre r Post A) (h : ∀ q, A q → B q) : mz_J l D cl cA y cc nL ret fr lo' mc ms As Pre r Post B := by
  intro p e ha hc hk s m args below hf happ hv ht
  obtain ⟨n, o, g1, g2, g3, ⟨ho, hp, hF⟩, Lc, g4, g5⟩ := F p e ha hc hk s m args below hf happ hv ht
  exact ⟨n, o, g1, g2, g3, ⟨ho, hp, hF.1, fun q hq hn => hF.2 q hq fun z => hn (h q z)⟩, Lc, g4, fun q hq => h _ (g5 q hq)⟩
end MZT0
theorem mz_H_TL {D : va_G} {cl : List vw_C} {cA : Nat → ClassId} {ρ : Nat → Nat} {M : mz_Mem} {H : Heap} {lay lay' : mz_Lay} (h : ∀ k sh, lay' k = some sh → lay k = some sh) (hP : mz_H D cl cA ρ lay M H) : mz_H D cl cA ρ lay' M H := fun k sh hk => hP k sh (h k sh hk)
/-- the told object alone -/
def mz_DL (Lg : Nat) : mz_Lay := fun k => if k = 130 then some (mz_o 10 mz_TO) else none
theorem mz_DL_sub (Lg : Nat) (sz : Nat → Nat) : ∀ k sh, mz_DL Lg k = some sh → mz_TL Lg sz k = some sh := by
  intro k sh h
  unfold mz_DL at h
  by_cases h0 : k = 130
  · subst h0; exact h
  · rw [if_neg h0] at h; cases h
theorem hs_L_cell : mz_YS yL_cell cL_cell 2 (some .int) 2 := ⟨mz_in 987 (by decide +kernel) (by decide +kernel), mz_in 31 (by decide +kernel) (by decide +kernel), mz_in 988 (by decide +kernel) (by decide +kernel), by decide +kernel, by decide +kernel, by decide +kernel⟩
theorem hs_L_below : mz_YS yL_below cL_below 2 (some .int) 2 := ⟨mz_in 991 (by decide +kernel) (by decide +kernel), mz_in 31 (by decide +kernel) (by decide +kernel), mz_in 992 (by decide +kernel) (by decide +kernel), by decide +kernel, by decide +kernel, by decide +kernel⟩
set_option maxHeartbeats 4000000 in
theorem t_drawG (l : Launch) (D : va_G) (cA : Nat → ClassId) (κ ρ : Nat → Nat) (Lg : Nat) (xs : Nat → Int32) (M : mz_Mem) (d n : Nat) (P0 P1 : Heap → Prop) (A : Nat → Prop) (hA : A (ρ 130)) (h131 : ρ 131 = κ 131) (hSC : ∀ H, P0 H → mz_scr cA κ H) (hI : mz_I ρ (mz_DL Lg)) (hPH : ∀ H, P0 H → mz_H D vwCl cA ρ (mz_DL Lg) M H)
    (hP' : ∀ H H1, P0 H → mz_H D vwCl cA ρ (mz_DL Lg) (mz_s M 130 (upd (M 130) 2 (nI (d + 1)))) H1 → H1.size = H.size → (∀ q : Nat, q ≠ ρ 130 → H1[q]? = H[q]?) → P1 H1) (hd0 : M 130 2 = nI d) (hq : κ 150 = Lg ∧ ∀ j, Int32.ofNat (κ (151 + j)) = xs j) (hLg : Lg < 2 ^ 31) (hd1 : d + 1 < 2 ^ 20) (h0 : 0 < n) (hn : n < 2 ^ 31) :
    mz_J l D vwCl cA yX10_draw cX10_draw 3 (some .int) 1 21 0 0 [.ref (ρ 130), .int (nI n)] P0 (some (.int (mz_dr Lg xs d n))) P1 A := by
  refine mz_introJ (ρ := ρ) (As0 := [.ref 130, .int (nI n)]) (by decide +kernel) (Nat.le_of_ble_eq_true rfl) rfl (fun Γ C hO E _ => ?_)
  have E' := (⟨_, _, _, E⟩ : ∃ Qc mc ms, mz_E Γ Qc mc ms A)
  refine mz_goP (lay := (mz_DL Lg)) (M := M) (cA := cA) (D := D) (cl := vwCl) (hPH) FLX10 KLX10 C [(0, .aload_n 0), (1, .getfield 41), (4, .aload_n 0), (5, .getfield 44), (8, .bipush 24)] (by decide +kernel) (pc' := 10) (L' := [(0, .ref 130), (1, .int (nI n))]) (st' := [.int 24, .int (M 130 2), .ref 131]) rfl ?_
  refine mz_irem C (by decide) (by decide +kernel) ?_
  rw [hd0, show nI d - nI d / 24 * 24 = nI (d % 24) from pk_rem (d := 24) (by omega) (by decide) (by decide)]
  refine mz_callJSN (index := 48) (As := [.ref (κ 131), .int (nI (d % 24))]) (rest := []) C hO E' (t_cell l D cA κ P0 hSC Lg hLg xs hq (nI (d % 24)) (nI_pos (by omega))) (fun _ h => h.elim) (fun _ h => h) (fun _ _ _ h _ _ => h) hs_L_cell wn_X10_48 rfl ⟨Nat.le_of_ble_eq_true rfl, Nat.le_of_ble_eq_true rfl⟩ ⟨Nat.le_refl _, Nat.le_refl _⟩ (Nat.le_of_ble_eq_true rfl) (by decide +kernel) (st' := [.int (mz_cl Lg xs (nI (d % 24)))]) ?_ rfl (by rw [← h131]; rfl)
  refine mz_goP (lay := (mz_DL Lg)) (M := M) (cA := cA) (D := D) (cl := vwCl) (hPH) FLX10 KLX10 C [(14, .aload_n 0), (15, .getfield 44), (18, .bipush 24)] (by decide +kernel) (pc' := 20) (L' := [(0, .ref 130), (1, .int (nI n))]) (st' := [.int 24, .int (M 130 2), .int (mz_cl Lg xs (nI (d % 24)))]) rfl ?_
  refine mz_idiv C (by decide) (by decide +kernel) ?_
  rw [hd0, show nI d / 24 = nI (d / 24) from pk_div (d := 24) (by omega) (by decide) (by decide)]
  refine mz_goP (lay := (mz_DL Lg)) (M := M) (cA := cA) (D := D) (cl := vwCl) (hPH) FLX10 KLX10 C [(21, .bipush 8)] (by decide +kernel) (pc' := 23) (L' := [(0, .ref 130), (1, .int (nI n))]) (st' := [.int 8, .int (nI (d / 24)), .int (mz_cl Lg xs (nI (d % 24)))]) rfl ?_
  refine mz_irem C (by decide) (by decide +kernel) ?_
  rw [show nI (d / 24) - nI (d / 24) / 8 * 8 = nI (d / 24 % 8) from pk_rem (d := 8) (by omega) (by decide) (by decide)]
  refine mz_goP (lay := (mz_DL Lg)) (M := M) (cA := cA) (D := D) (cl := vwCl) (hPH) FLX10 KLX10 C [(24, .ishr), (25, .sipush 359), (28, .aload_n 0), (29, .getfield 44), (32, .imul), (33, .iadd), (34, .iload_n 1)] (by decide +kernel) (pc' := 35) (L' := [(0, .ref 130), (1, .int (nI n))]) (st' := [.int (nI n), .int (((mz_cl Lg xs (nI (d % 24))) >>> ((nI (d / 24 % 8)) &&& 31)) + (359 * (M 130 2)))]) rfl ?_
  rw [hd0]
  refine mz_callJSN (index := 54) (As := [.int ((mz_cl Lg xs (nI (d % 24)) >>> (nI (d / 24 % 8) &&& 31)) + 359 * nI d), .int (nI n)]) (rest := []) C hO E' (t_below l D cA P0 ((mz_cl Lg xs (nI (d % 24)) >>> (nI (d / 24 % 8) &&& 31)) + 359 * nI d) (nI n) (nI_ne0 h0 hn)) (fun _ h => h.elim) (fun _ h => h) (fun _ _ _ h _ _ => h) hs_L_below wn_X10_54 rfl ⟨Nat.le_of_ble_eq_true rfl, Nat.le_of_ble_eq_true rfl⟩ ⟨Nat.le_refl _, Nat.le_refl _⟩ (Nat.le_of_ble_eq_true rfl) (by decide +kernel) (st' := [.int (mz_dr Lg xs d n)]) ?_ rfl rfl
  refine mz_goP (lay := (mz_DL Lg)) (M := M) (cA := cA) (D := D) (cl := vwCl) (hPH) FLX10 KLX10 C [(38, .istore_n 2), (39, .aload_n 0), (40, .dup), (41, .getfield 44), (44, .iconst 1), (45, .iadd)] (by decide +kernel) (pc' := 46) (L' := [(2, .int (mz_dr Lg xs d n)), (0, .ref 130), (1, .int (nI n))]) (st' := [.int ((M 130 2) + 1), .ref 130]) rfl ?_
  rw [hd0, nI_1]
  refine mz_putP (P' := fun H1 => P1 H1 ∧ mz_H D vwCl cA ρ (mz_DL Lg) (mz_s M 130 (upd (M 130) 2 (nI (d + 1)))) H1) hPH (id := 130) (ci := 10) (j := 2) (T := TX10) (N := 12) (fun H H1 h h1 h2 h3 => ⟨hP' H H1 h h1 h2 h3, h1⟩) C E' hA hI rfl rfl rfl (by decide) iu_X10 tyX10 tyX10_ok nmX10 wf_X10_44 rfl (by decide +kernel) (by decide +kernel) ?_
  refine mz_goP (lay := (mz_DL Lg)) (M := (mz_s M 130 (upd (M 130) 2 (nI (d + 1))))) (cA := cA) (D := D) (cl := vwCl) (fun _ h => h.2) FLX10 KLX10 C [(49, .iload_n 2)] (by decide +kernel) (pc' := 50) (L' := [(2, .int (mz_dr Lg xs d n)), (0, .ref 130), (1, .int (nI n))]) (st' := [.int (mz_dr Lg xs d n)]) rfl ?_
  exact mz_jiret C E (by decide +kernel) rfl (fun _ h => h.1)
theorem t_draw (l : Launch) (D : va_G) (cA : Nat → ClassId) (κ : Nat → Nat) (lo Lg : Nat) (xs : Nat → Int32) (N : mz_Mem) (d : Nat) (sz : Nat → Nat) (n : Nat) (hLg : Lg < 2 ^ 31) (hd1 : d + 1 < 2 ^ 20) (h0 : 0 < n) (hn : n < 2 ^ 31) :
    mz_J l D vwCl cA yX10_draw cX10_draw 3 (some .int) 1 21 0 0 [.ref (κ 130), .int (nI n)] (mz_T D cA κ lo Lg xs N d sz) (some (.int (mz_dr Lg xs d n))) (mz_T D cA κ lo Lg xs N (d + 1) sz) (mz_TA κ lo) := by
  refine mz_JT fun ρ M hF => ?_
  have hF2 : mz_TF κ lo Lg xs N (d + 1) ρ (mz_s M 130 (upd (M 130) 2 (nI (d + 1)))) sz := ⟨hF.1, hF.2.1, hF.2.2.1, hF.2.2.2.1, ⟨by rw [mz_s_eq, mz_upd_eq], hd1, hF.2.2.2.2.1.2.2⟩, hF.2.2.2.2.2.1.eq (fun k hk => mz_s_ne (by omega)), hF.2.2.2.2.2.2⟩
  have e130 : Value.ref (κ 130) = .ref (ρ 130) := by rw [hF.1.2.1]
  rw [e130]
  have hsub := mz_DL_sub Lg sz
  refine t_drawG l D cA κ ρ Lg xs M d n (mz_TP D cA κ lo ρ (mz_TL Lg sz) N M) (mz_T D cA κ lo Lg xs N (d + 1) sz) (mz_TA κ lo) (Or.inl hF.1.2.1) hF.1.2.2.1 (fun H h => h.1.2.2.1) (fun i j a b ha hb e => hF.2.2.1 i j a b (hsub i a ha) (hsub j b hb) e) (fun H h => mz_H_TL hsub h.2) (fun H H1 h h1 h2 h3 => ?_) hF.2.2.2.2.1.1 hF.2.2.2.2.1.2.2 hLg hd1 h0 hn
  exact mz_Tclose hF2 _ ⟨⟨h.1.1.kept (fun q hq => h3 q (fun e => hF.2.2.2.1 130 _ rfl (Or.inl (e ▸ hq)))), h.1.2.put (hF.2.2.2.1 130 _ rfl) h2 h3⟩, mz_H_put hF.2.2.1 h.2 rfl (h1 130 _ rfl) h3⟩
