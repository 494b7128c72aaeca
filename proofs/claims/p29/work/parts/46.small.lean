/-! small ones: no cells, or such as are handed over -/
theorem mz_Hno {D : va_G} {cl : List vw_C} {cA : Nat → ClassId} {ρ : Nat → Nat} {M : mz_Mem} {H : Heap} : mz_H D cl cA ρ (fun _ => none) M H := fun _ _ h => by cases h
def flL : List (Nat × Nat × Nat) := []
theorem FLL : mz_FL RL vwCl flL := fun _ _ _ h => by cases h
def klL : List (Nat × Int64) := []
theorem KLL : mz_KL RL klL := fun _ _ h => by cases h
theorem mz_ldci {Γ : mz_G} {l : Launch} {own : String} {cc : ByteArray} {nL k n : Nat} {ret : Option FieldType} {D : va_G} {cl : List vw_C} {tys : List (ClassId × FieldType)} {rm : Room} {ρ : Nat → Nat} {P : Heap → Prop} {pc index : Nat} {L : List (Nat × Value)} {st : List Value} {v : Int32} (C : mz_C Γ l own cc nL ret D cl tys rm) (hw : Cond.constant own index v ∈ mz_ws) (hd : decode cc pc = .ok (.ldc index, 2)) (kk : mz_W Γ ρ nL k n P (pc + 2) L (.int v :: st)) : mz_W Γ ρ nL k n P pc L st := by
  obtain ⟨p, l', e, R, s, m, args, below, meth, c, H0, A, Q⟩ := Γ
  obtain ⟨-, hx, hb, -, hown, hts, -⟩ := C
  exact fun H ls locs hP hS hl => lv_ldc hx hb hown (hts _ hw) hd (kk H ls locs hP hS hl)
/-- a static method of a nest mate -/
theorem mz_callJSN {Γ : mz_G} {l : Launch} {own host : String} {cc : ByteArray} {nL k n : Nat} {ret : Option FieldType} {D : va_G} {cl : List vw_C} {cA : Nat → ClassId} {rm : Room} {ρ : Nat → Nat} {P P' Pre Post : Heap → Prop} {A0 A1 : Nat → Prop} {pc : Nat} {L : List (Nat × Value)} {st st' : List Value} {r : Option Value} {y : MethodName} {ccy : ByteArray} {nLy fry loy mcy msy ny index : Nat} {rety : Option FieldType} {As rest : List Value}
    (C : mz_C Γ l own cc nL ret D cl (mz_ty cA) rm) (hO : mz_AQ cA Γ.2.2.2.2.1) (E : ∃ Qc mc ms, mz_E Γ Qc mc ms A0) (F : mz_J l D cl cA y ccy nLy rety fry loy mcy msy As Pre r Post A1) (hA : ∀ q, A1 q → A0 q)
    (hPre : ∀ H, P H → Pre H) (hP' : ∀ H H', P H → Post H' → H.size ≤ H'.size → (∀ q, q < H.size → ¬ A1 q → H'[q]? = H[q]?) → P' H')
    (hY : mz_YS y ccy nLy rety ny) (wl : Cond.methodLinkNest own index y host ∈ mz_wn) (hn : As.length = ny)
    (hR : fry + 1 ≤ rm.frames ∧ 8 + (nLy + 11) + loy ≤ rm.locals) (hk : k + mcy ≤ rm.cells ∧ n + msy ≤ rm.slots) (hst : (rest.map fun v => v.category).sum ≤ 8) (hd : decode cc pc = .ok (.invokestatic index, 3))
    (kk : mz_W Γ ρ nL (k + mcy) (n + msy) P' (pc + 3) L st') (hs' : st'.map (mz_e ρ) = r.toList ++ rest.map (mz_e ρ)) (hs : st.map (mz_e ρ) = As.reverse ++ rest.map (mz_e ρ)) : mz_W Γ ρ nL k n P pc L st := by
  obtain ⟨p, l', e, R, s, m, args, below, meth, c, H0, A, Q⟩ := Γ
  obtain ⟨rfl, hx, hb, hml, hown, hts, hK, -, -, rfl⟩ := C
  obtain ⟨Qc, mc, ms, -, -, rfl⟩ := E
  obtain ⟨y1, y3, y4, y5⟩ := hY
  intro H ls locs hPq hS hl
  have hrun := va_runSN (locs := locs) (cells := k) (slots := n) (meth := meth) (e := e) (below := below) (g := F0 m pc ls (st.map (mz_e ρ))) (rest := rest.map (mz_e ρ)) (As := As) (H := H) (host := host) ⟨hx, hb, hml, hown, hts⟩ F ⟨va_cnB ny hts (mz_good y4) rfl rfl rfl (hK.2 _ wl) (hts _ y3) y5 hR, hts _ y1, trivial⟩
    ⟨mz_blindR, fun U hU hW => ⟨rfl, by rw [hU]; exact hPre H hPq, mz_KR.warm hW ⟨hK, hO⟩⟩⟩ rfl hn hl.1 hs (lv_room (by rw [mz_sumcat]; exact hst)) hd hk
  refine mz_runJ hrun hS hA fun H1 locs1 hp hz hkk hS1 => ?_
  rw [← hs']
  exact kk H1 ls locs1 (hP' H H1 hPq hp hz hkk) hS1 hl
/-- what below answers -/
def mz_bw (v n : Int32) : Int32 := (v &&& 2147483647) - (v &&& 2147483647) / n * n
/-- a place of the script, or what stands for it -/
def mz_cl (Lg : Nat) (xs : Nat → Int32) (k : Int32) : Int32 := if Int32.ofNat Lg ≤ k then 790386105 * (k + 3) else xs k.toNatClampNeg
/-- the places of a set of twelve, counted by halving -/
def mz_pc : Nat → Nat → Nat
  | 0, _ => 0
  | f + 1, j => if j = 0 then 0 else j % 2 + mz_pc f (j / 2)
/-- the script, as the law was given it: its cell at 131, its length at 150, its places from 151 on -/
def mz_scr (cA : Nat → ClassId) (κ : Nat → Nat) (H : Heap) : Prop := ∃ scr : Cell, H[κ 131]? = some scr ∧ scr.cls = cA 2 ∧ scr.vm ≠ .unknown ∧ (∀ k, scr.vm ≠ .statics k) ∧ scr.slots.size = κ 150 ∧ ∀ j : Nat, j < κ 150 → scr.slots[j]? = some (.int (Int32.ofNat (κ (151 + j))))
theorem mz_scr.kept {cA : Nat → ClassId} {κ : Nat → Nat} {H H1 : Heap} (h : mz_scr cA κ H) (hq : H1[κ 131]? = H[κ 131]?) : mz_scr cA κ H1 := by
  obtain ⟨scr, h1, h2⟩ := h
  exact ⟨scr, by rw [hq]; exact h1, h2⟩
theorem mz_scr.lt {cA : Nat → ClassId} {κ : Nat → Nat} {H : Heap} (h : mz_scr cA κ H) : κ 131 < H.size := by
  obtain ⟨scr, h1, h2⟩ := h
  exact (Array.getElem?_eq_some_iff.mp h1).1
section MZSC
variable {Γ : mz_G} {l : Launch} {own : String} {cc : ByteArray} {nL k n : Nat} {ret : Option FieldType} {D : va_G} {cl : List vw_C} {cA : Nat → ClassId} {rm : Room} {ρ : Nat → Nat} {P : Heap → Prop} {pc : Nat} {L : List (Nat × Value)} {st : List Value}
theorem mz_slenP {v : Int32} (hSC : ∀ H, P H → mz_scr cA ρ H) (C : mz_C Γ l own cc nL ret D cl (mz_ty cA) rm) (hO : mz_AQ cA Γ.2.2.2.2.1) (hv : Int32.ofNat (ρ 150) = v) (hd : decode cc pc = .ok (.arraylength, 1)) (kk : mz_W Γ ρ nL k n P (pc + 1) L (.int v :: st)) : mz_W Γ ρ nL k n P pc L (.ref 131 :: st) := by
  obtain ⟨p, l', e, R, s, m, args, below, meth, c, H0, A, Q⟩ := Γ
  obtain ⟨-, hx, hb, -⟩ := C
  subst hv
  intro H ls locs hP hS hl
  obtain ⟨scr, h1, h2, h3, h3', h4, h5⟩ := hSC H hP
  obtain ⟨kc, comp, q1, q2⟩ := hO.2
  exact W.alen (n := Int32.ofNat (ρ 150)) hx hb h1 ⟨h3', kc, by rw [h2]; exact q1, comp, q2⟩ (by rw [h4] <;> rfl) rfl rfl hd (kk H ls locs hP hS hl)
theorem mz_sldP {i v : Int32} (hSC : ∀ H, P H → mz_scr cA ρ H) (C : mz_C Γ l own cc nL ret D cl (mz_ty cA) rm) (hO : mz_AQ cA Γ.2.2.2.2.1) (hin : vp_in i (ρ 150)) (hv : Int32.ofNat (ρ (151 + i.toNatClampNeg)) = v) (hd : decode cc pc = .ok (.iaload, 1)) (kk : mz_W Γ ρ nL k n P (pc + 1) L (.int v :: st)) : mz_W Γ ρ nL k n P pc L (.int i :: .ref 131 :: st) := by
  obtain ⟨p, l', e, R, s, m, args, below, meth, c, H0, A, Q⟩ := Γ
  obtain ⟨-, hx, hb, -⟩ := C
  subst hv
  intro H ls locs hP hS hl
  obtain ⟨scr, h1, h2, h3, h3', h4, h5⟩ := hSC H hP
  obtain ⟨kc, comp, q1, q2⟩ := hO.2
  have hlt : i.toNatClampNeg < ρ 150 := Nat.not_le.mp fun q => hin (Or.inr q)
  exact W.iald (v := .int (Int32.ofNat (ρ (151 + i.toNatClampNeg)))) hx hb h1 ⟨h3', kc, by rw [h2]; exact q1, comp, q2⟩ h3 (by rw [h4]; exact hin) (h5 _ hlt) rfl rfl hd (kk H ls locs hP hS hl)
end MZSC
set_option maxHeartbeats 4000000 in
theorem t_below (l : Launch) (D : va_G) (cA : Nat → ClassId) (Pr : Heap → Prop) (v n : Int32) (hn : ¬ n = 0) : mz_J l D vwCl cA yL_below cL_below 2 (some .int) 0 0 0 0 [.int v, .int n] Pr (some (.int (mz_bw v n))) Pr (fun _ => False) := by
  refine mz_introJ (ρ := (fun k => k)) (As0 := [.int v, .int n]) (by decide +kernel) (Nat.le_of_ble_eq_true rfl) rfl (fun Γ C hO E _ => ?_)
  have E' := (⟨_, _, _, E⟩ : ∃ Qc mc ms, mz_E Γ Qc mc ms (fun _ => False))
  refine mz_goP (lay := (fun _ => none)) (M := mz_Z) (cA := cA) (D := D) (cl := vwCl) (fun _ _ => mz_Hno) FLL KLL C [(0, .iload_n 0)] (by decide +kernel) (pc' := 1) (L' := [(0, .int v), (1, .int n)]) (st' := [.int v]) rfl ?_
  refine mz_ldci (index := 7) (v := 2147483647) C (mz_in 993 (by decide +kernel) (by decide +kernel)) (by decide +kernel) ?_
  refine mz_goP (lay := (fun _ => none)) (M := mz_Z) (cA := cA) (D := D) (cl := vwCl) (fun _ _ => mz_Hno) FLL KLL C [(3, .iand), (4, .iload_n 1)] (by decide +kernel) (pc' := 5) (L' := [(0, .int v), (1, .int n)]) (st' := [.int n, .int (v &&& 2147483647)]) rfl ?_
  refine mz_irem C hn (by decide +kernel) ?_
  exact mz_jiret C E (by decide +kernel) rfl (fun _ h => h)
set_option maxHeartbeats 4000000 in
theorem t_cell (l : Launch) (D : va_G) (cA : Nat → ClassId) (κ : Nat → Nat) (Pr : Heap → Prop) (hSC : ∀ H, Pr H → mz_scr cA κ H) (Lg : Nat) (hL : Lg < 2 ^ 31) (xs : Nat → Int32) (hx : κ 150 = Lg ∧ ∀ j, Int32.ofNat (κ (151 + j)) = xs j) (k : Int32) (hk : ¬ k < 0) : mz_J l D vwCl cA yL_cell cL_cell 2 (some .int) 0 0 0 0 [.ref (κ 131), .int k] Pr (some (.int (mz_cl Lg xs k))) Pr (fun _ => False) := by
  refine mz_introJ (ρ := κ) (As0 := [.ref 131, .int k]) (by decide +kernel) (Nat.le_of_ble_eq_true rfl) rfl (fun Γ C hO E _ => ?_)
  have E' := (⟨_, _, _, E⟩ : ∃ Qc mc ms, mz_E Γ Qc mc ms (fun _ => False))
  refine mz_goP (lay := (fun _ => none)) (M := mz_Z) (cA := cA) (D := D) (cl := vwCl) (fun _ _ => mz_Hno) FLL KLL C [(0, .iload_n 1), (1, .aload_n 0)] (by decide +kernel) (pc' := 2) (L' := [(0, .ref 131), (1, .int k)]) (st' := [.ref 131, .int k]) rfl ?_
  refine mz_slenP hSC C hO (v := Int32.ofNat Lg) (by rw [hx.1]) (by decide +kernel) ?_
  refine mz_ige (off := 9) (tgt := 12) C (by decide +kernel) (by decide) (fun h => ?_) (fun h => ?_)
  · refine mz_ldci (index := 8) (v := 790386105) C (mz_in 989 (by decide +kernel) (by decide +kernel)) (by decide +kernel) ?_
    refine mz_goP (lay := (fun _ => none)) (M := mz_Z) (cA := cA) (D := D) (cl := vwCl) (fun _ _ => mz_Hno) FLL KLL C [(14, .iload_n 1), (15, .iconst 3), (16, .iadd), (17, .imul)] (by decide +kernel) (pc' := 18) (L' := [(0, .ref 131), (1, .int k)]) (st' := [.int (790386105 * (k + 3))]) rfl ?_
    exact mz_jiret C E (by decide +kernel) (by unfold mz_cl; rw [if_pos h]) (fun _ h => h)
  · refine mz_goP (lay := (fun _ => none)) (M := mz_Z) (cA := cA) (D := D) (cl := vwCl) (fun _ _ => mz_Hno) FLL KLL C [(6, .aload_n 0), (7, .iload_n 1)] (by decide +kernel) (pc' := 8) (L' := [(0, .ref 131), (1, .int k)]) (st' := [.int k, .ref 131]) rfl ?_
    refine mz_sldP hSC C hO (by rw [hx.1]; exact mz_vin hL hk h) (hx.2 _) (by decide +kernel) ?_
    refine mz_goP (lay := (fun _ => none)) (M := mz_Z) (cA := cA) (D := D) (cl := vwCl) (fun _ _ => mz_Hno) FLL KLL C [(9, .goto 9)] (by decide +kernel) (pc' := 18) (L' := [(0, .ref 131), (1, .int k)]) (st' := [.int (xs k.toNatClampNeg)]) rfl ?_
    exact mz_jiret C E (by decide +kernel) (by unfold mz_cl; rw [if_neg h]) (fun _ h => h)
set_option maxHeartbeats 4000000 in
theorem t_has (l : Launch) (D : va_G) (cA : Nat → ClassId) (Pr : Heap → Prop) (s k : Int32) : mz_J l D vwCl cA yX10_has cX10_has 2 (some .boolean) 0 0 0 0 [.int s, .int k] Pr (some (.int (mz_hf s k))) Pr (fun _ => False) := by
  refine mz_introJ (ρ := (fun k => k)) (As0 := [.int s, .int k]) (by decide +kernel) (Nat.le_of_ble_eq_true rfl) rfl (fun Γ C hO E _ => ?_)
  have E' := (⟨_, _, _, E⟩ : ∃ Qc mc ms, mz_E Γ Qc mc ms (fun _ => False))
  refine mz_goP (lay := (fun _ => none)) (M := mz_Z) (cA := cA) (D := D) (cl := vwCl) (fun _ _ => mz_Hno) FLX10 KLX10 C [(0, .iload_n 0), (1, .iload_n 1), (2, .ishr), (3, .iconst 2)] (by decide +kernel) (pc' := 4) (L' := [(0, .int s), (1, .int k)]) (st' := [.int 2, .int (s >>> (k &&& 31))]) rfl ?_
  refine mz_irem C (by decide) (by decide +kernel) ?_
  refine mz_goP (lay := (fun _ => none)) (M := mz_Z) (cA := cA) (D := D) (cl := vwCl) (fun _ _ => mz_Hno) FLX10 KLX10 C [(5, .iconst 1)] (by decide +kernel) (pc' := 6) (L' := [(0, .int s), (1, .int k)]) (st' := [.int 1, .int ((s >>> (k &&& 31)) - (s >>> (k &&& 31)) / 2 * 2)]) rfl ?_
  refine mz_ine (off := 7) (tgt := 13) C (by decide +kernel) (by decide) (fun h => ?_) (fun h => ?_)
  · refine mz_goP (lay := (fun _ => none)) (M := mz_Z) (cA := cA) (D := D) (cl := vwCl) (fun _ _ => mz_Hno) FLX10 KLX10 C [(13, .iconst 0)] (by decide +kernel) (pc' := 14) (L' := [(0, .int s), (1, .int k)]) (st' := [.int 0]) rfl ?_
    exact mz_jzret C E (by decide +kernel) (by first | exact Or.inl rfl | exact Or.inr rfl) (by unfold mz_hf; rw [if_neg h]) (fun _ h => h)
  · refine mz_goP (lay := (fun _ => none)) (M := mz_Z) (cA := cA) (D := D) (cl := vwCl) (fun _ _ => mz_Hno) FLX10 KLX10 C [(9, .iconst 1), (10, .goto 4)] (by decide +kernel) (pc' := 14) (L' := [(0, .int s), (1, .int k)]) (st' := [.int 1]) rfl ?_
    exact mz_jzret C E (by decide +kernel) (by first | exact Or.inl rfl | exact Or.inr rfl) (by unfold mz_hf; rw [if_pos h]) (fun _ h => h)
theorem mz_half : ∀ q, q < 4096 → nI q - nI q / 2 * 2 = nI (q % 2) ∧ nI q / 2 = nI (q / 2) := mz_4096 (p := fun q => nI q - nI q / 2 * 2 = nI (q % 2) ∧ nI q / 2 = nI (q / 2)) (by decide +kernel)
theorem mz_pc_bitc : ∀ j, j < 4096 → nI (mz_pc 12 j) = mz_bitc (nI j) := mz_4096 (p := fun j => nI (mz_pc 12 j) = mz_bitc (nI j)) (by decide +kernel)
set_option maxHeartbeats 4000000 in
theorem t_size (l : Launch) (D : va_G) (cA : Nat → ClassId) (Pr : Heap → Prop) (j : Nat) (hj : j < 4096) : mz_J l D vwCl cA yX10_size cX10_size 3 (some .int) 0 0 0 0 [.int (nI j)] Pr (some (.int (nI (mz_pc 12 j)))) Pr (fun _ => False) := by
  refine mz_introJ (ρ := (fun k => k)) (As0 := [.int (nI j)]) (by decide +kernel) (Nat.le_of_ble_eq_true rfl) rfl (fun Γ C hO E _ => ?_)
  have E' := (⟨_, _, _, E⟩ : ∃ Qc mc ms, mz_E Γ Qc mc ms (fun _ => False))
  refine mz_goP (lay := (fun _ => none)) (M := mz_Z) (cA := cA) (D := D) (cl := vwCl) (fun _ _ => mz_Hno) FLX10 KLX10 C [(0, .iconst 0), (1, .istore_n 1), (2, .iload_n 0), (3, .istore_n 2)] (by decide +kernel) (pc' := 4) (L' := [(2, .int (nI j)), (1, .int 0), (0, .int (nI j))]) (st' := []) rfl ?_
  refine mz_sub (L' := [(1, .int (nI 0)), (2, .int (nI j))]) (by simp [nI_0]) ?_
  have key : ∀ (f a q : Nat), q < 2 ^ f → a + f < 4096 → f ≤ 12 → a + mz_pc f q = mz_pc 12 j → mz_W Γ (fun k => k) 3 0 0 Pr 4 [(1, .int (nI a)), (2, .int (nI q))] [] := by
    intro f
    induction f with
    | zero =>
      intro a q hq ha hf he
      have h0 : q = 0 := by omega
      subst h0
      refine mz_goP (lay := (fun _ => none)) (M := mz_Z) (cA := cA) (D := D) (cl := vwCl) (fun _ _ => mz_Hno) FLX10 KLX10 C [(4, .iload_n 2)] (by decide +kernel) (pc' := 5) (L' := [(1, .int (nI a)), (2, .int (nI 0))]) (st' := [.int (nI 0)]) rfl ?_
      refine mz_zle (off := 16) (tgt := 21) C (by decide +kernel) (by decide) (fun h => ?_) (fun h => absurd (show nI 0 ≤ 0 by decide) h)
      refine mz_goP (lay := (fun _ => none)) (M := mz_Z) (cA := cA) (D := D) (cl := vwCl) (fun _ _ => mz_Hno) FLX10 KLX10 C [(21, .iload_n 1)] (by decide +kernel) (pc' := 22) (L' := [(1, .int (nI a)), (2, .int (nI 0))]) (st' := [.int (nI a)]) rfl ?_
      exact mz_jiret C E (by decide +kernel) (by rw [← he]; rfl) (fun _ h => h)
    | succ f ih =>
      intro a q hq ha hf he
      refine mz_goP (lay := (fun _ => none)) (M := mz_Z) (cA := cA) (D := D) (cl := vwCl) (fun _ _ => mz_Hno) FLX10 KLX10 C [(4, .iload_n 2)] (by decide +kernel) (pc' := 5) (L' := [(1, .int (nI a)), (2, .int (nI q))]) (st' := [.int (nI q)]) rfl ?_
      refine mz_zle (off := 16) (tgt := 21) C (by decide +kernel) (by decide) (fun h => ?_) (fun h => ?_)
      · refine mz_goP (lay := (fun _ => none)) (M := mz_Z) (cA := cA) (D := D) (cl := vwCl) (fun _ _ => mz_Hno) FLX10 KLX10 C [(21, .iload_n 1)] (by decide +kernel) (pc' := 22) (L' := [(1, .int (nI a)), (2, .int (nI q))]) (st' := [.int (nI a)]) rfl ?_
        have h0 : q = 0 := Classical.byContradiction fun hn => nI_nle (n := q) (by omega) (by have := Nat.pow_le_pow_right (n := 2) (by decide) hf; omega) h
        exact mz_jiret C E (by decide +kernel) (by rw [← he, h0]; rfl) (fun _ h => h)
      · refine mz_goP (lay := (fun _ => none)) (M := mz_Z) (cA := cA) (D := D) (cl := vwCl) (fun _ _ => mz_Hno) FLX10 KLX10 C [(8, .iload_n 1), (9, .iload_n 2), (10, .iconst 2)] (by decide +kernel) (pc' := 11) (L' := [(1, .int (nI a)), (2, .int (nI q))]) (st' := [.int 2, .int (nI q), .int (nI a)]) rfl ?_
        refine mz_irem C (by decide) (by decide +kernel) ?_
        refine mz_goP (lay := (fun _ => none)) (M := mz_Z) (cA := cA) (D := D) (cl := vwCl) (fun _ _ => mz_Hno) FLX10 KLX10 C [(12, .iadd), (13, .istore_n 1), (14, .iload_n 2), (15, .iconst 2)] (by decide +kernel) (pc' := 16) (L' := [(1, .int ((nI a) + (nI q - nI q / 2 * 2))), (2, .int (nI q))]) (st' := [.int 2, .int (nI q)]) rfl ?_
        refine mz_idiv C (by decide) (by decide +kernel) ?_
        refine mz_goP (lay := (fun _ => none)) (M := mz_Z) (cA := cA) (D := D) (cl := vwCl) (fun _ _ => mz_Hno) FLX10 KLX10 C [(17, .istore_n 2), (18, .goto (-14))] (by decide +kernel) (pc' := 4) (L' := [(2, .int (nI q / 2)), (1, .int ((nI a) + (nI q - nI q / 2 * 2)))]) (st' := []) rfl ?_
        have hq12 : q < 4096 := by have := Nat.pow_le_pow_right (n := 2) (by decide) hf; omega
        obtain ⟨e1, e2⟩ := mz_half q hq12
        have h0 : ¬ q = 0 := fun e => h (by rw [e]; decide)
        rw [e1, e2, nI_add]
        refine mz_sub (L' := [(1, .int (nI (a + q % 2))), (2, .int (nI (q / 2)))]) (by simp) ?_
        refine ih (a + q % 2) (q / 2) (by rw [Nat.pow_succ] at hq; omega) (by omega) (by omega) ?_
        rw [← he]
        show _ = a + (if q = 0 then 0 else q % 2 + mz_pc f (q / 2))
        rw [if_neg h0]; omega
  exact key 12 0 j (by simpa using hj) (by omega) (by omega) (by omega)
