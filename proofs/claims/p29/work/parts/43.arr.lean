/-! arrays of arrays of ints: made empty, written, copied; another numbering -/
def mz_uo (g : Nat → Option Nat) (i : Nat) (o : Option Nat) : Nat → Option Nat := fun j => if j = i then o else g j
theorem mz_AO_c0 {D : va_G} {cl : List vw_C} {cA : Nat → ClassId} {U : State} (hK : mz_K D cl (mz_ty cA) U) (hO : mz_AO U) : ∃ (k k0 : Class), U.vm.classes[cA 1]? = some k ∧ k.kind = .array (cA 0) (.array .int) ∧ U.vm.classes[cA 0]? = some k0 := by
  obtain ⟨comp, c, k, h1, h2, h3, h4, h5⟩ := mz_AO_at hO
  have e1 : U.vm.findClass ("[" ++ (FieldType.array .int).toString) = some (cA 1) := (hK.1.2 1 _ rfl).2
  have e0 : U.vm.findClass (FieldType.array .int).toString = some (cA 0) := (hK.1.2 0 _ rfl).2
  cases Option.some.inj (h5.symm.trans e1)
  cases Option.some.inj (h1.symm.trans e0)
  obtain ⟨k0, z1, -⟩ := Vm.findClass_spec h1
  exact ⟨k, k0, h3, h4, z1⟩
section MZAA
variable {Γ : mz_G} {l : Launch} {own : String} {cc : ByteArray} {nL k n : Nat} {ret : Option FieldType} {D : va_G} {cl : List vw_C} {cA : Nat → ClassId} {rm : Room} {ρ : Nat → Nat} {lay : mz_Lay} {M : mz_Mem} {P P' : Heap → Prop} {A0 : Nat → Prop}
variable {pc : Nat} {L : List (Nat × Value)} {st : List Value} {index : Nat}
/-- new int[n][] -/
theorem mz_newA {na N : Nat} {a : Int32} (hPH : ∀ H, P H → mz_H D cl cA ρ lay M H) (hnn : ∀ H, P H → H.size = ρ na) (hfree : ∀ j sh, lay j = some sh → j ≠ na)
    (hP' : ∀ H H1, P H → mz_H D cl cA ρ (mz_ls lay na (mz_r 1 N (fun _ => none))) M H1 → H1.size = H.size + 1 → (∀ q, q < H.size → H1[q]? = H[q]?) → P' H1)
    (C : mz_C Γ l own cc nL ret D cl (mz_ty cA) rm) (hO : mz_AQ cA Γ.2.2.2.2.1) (wc : Cond.classLink own index (FieldType.array .int).toString ∈ mz_ws) (hv : ¬ a < 0) (hN : a.toNatClampNeg = N) (hb1 : N * 4 ≤ 536870912)
    (hcells : k + 1 ≤ rm.cells) (hslots : n + N ≤ rm.slots) (hd : decode cc pc = .ok (.anewarray index, 3))
    (kk : mz_W Γ ρ nL (k + 1) (n + N) P' (pc + 3) L (.ref na :: st)) : mz_W Γ ρ nL k n P pc L (.int a :: st) := by
  obtain ⟨p, l', e, R, s, m, args, below, meth, c, H0, A, Q⟩ := Γ
  obtain ⟨-, hx, hb, -, hown, hts, hK, -, -, rfl⟩ := C
  subst hN
  intro H ls locs hPq hS hl T hT X
  have hz := hnn H hPq
  obtain ⟨vm₁, cO, kA, comp, -, fA, -, -, -, X', step⟩ := Jvm.Stand.anewarrayArrK (ty := .int) X hx hown (hts _ wc) hO.1.use (g := F0 m pc ls ((.int a :: st).map (mz_e ρ))) rfl (by rw [hb]; exact hd) (rest := st.map (mz_e ρ)) rfl hv hb1 hcells hslots
  have hO1 : cO = cA 1 := Option.some.inj (fA.symm.trans (hK.1.2 1 _ rfl).2)
  subst hO1
  have hheap : ((T.setVm vm₁).pushCell { cls := cA 1, slots := Array.replicate a.toNatClampNeg .null, vm := .none }).heap = H.push (arrV (cA 1) a.toNatClampNeg (fun _ => .null)) := by
    rw [← hT, ← arrV_new]; rfl
  have e1 : (H.push (arrV (cA 1) a.toNatClampNeg (fun _ => .null)))[H.size]? = some (arrV (cA 1) a.toNatClampNeg (fun _ => .null)) := Array.getElem?_push_size
  have o1 : ∀ q, q < H.size → (H.push (arrV (cA 1) a.toNatClampNeg (fun _ => .null)))[q]? = H[q]? := fun q hq => by
    rw [Array.getElem?_push]; exact if_neg (by omega)
  have z1 : (H.push (arrV (cA 1) a.toNatClampNeg (fun _ => .null))).size = H.size + 1 := Array.size_push _
  generalize H.push (arrV (cA 1) a.toNatClampNeg (fun _ => .null)) = H1 at hheap e1 o1 z1
  rw [hT] at step
  have hst : Value.ref H.size :: st.map (mz_e ρ) = (Value.ref na :: st).map (mz_e ρ) := by
    show _ = Value.ref (ρ na) :: _
    rw [hz]
  rw [hst] at step
  have hnew : mz_H D cl cA ρ (mz_ls lay na (mz_r 1 a.toNatClampNeg (fun _ => none))) M H1 := by
    intro j sh hj
    by_cases h1 : j = na
    · subst h1
      rw [mz_ls_eq] at hj
      cases hj
      show H1[ρ j]? = some (vp_cell (cA 1) (a.toNatClampNeg, .inr (.inr (.inr (.inr (fun _ => none))))))
      rw [← hz, e1]
      rfl
    · rw [mz_ls_ne h1] at hj
      have h3 := hPH H hPq j sh hj
      exact h3.kept (o1 _ h3.lt)
  obtain ⟨t, a1, b1⟩ := kk H1 ls locs (hP' H H1 hPq hnew z1 o1) ⟨Nat.le_trans hS.1 (by rw [z1]; omega), fun x h1 h2 => (o1 x (Nat.lt_of_lt_of_le h1 hS.1)).trans (hS.2.1 x h1 h2), hS.2.2⟩ hl _ hheap X'
  exact ⟨t, step t a1, b1⟩
/-- a row into an array of rows -/
theorem mz_aast {id N q K : Nat} {i : Int32} {g : Nat → Option Nat} (hPH : ∀ H, P H → mz_H D cl cA ρ lay M H)
    (hP' : ∀ H H1, P H → mz_H D cl cA ρ (mz_ls lay id (mz_r 1 N (mz_uo g i.toNatClampNeg (some q)))) M H1 → H1.size = H.size → (∀ x : Nat, x ≠ ρ id → H1[x]? = H[x]?) → P' H1)
    (C : mz_C Γ l own cc nL ret D cl (mz_ty cA) rm) (hO : mz_AQ cA Γ.2.2.2.2.1) (E : ∃ Qc mc ms, mz_E Γ Qc mc ms A0) (hA : A0 (ρ id)) (hI : mz_I ρ lay) (hid : lay id = some (mz_r 1 N g)) (hq : lay q = some (mz_a K)) (hin : vp_in i N) (hd : decode cc pc = .ok (.aastore, 1))
    (kk : mz_W Γ ρ nL k n P' (pc + 1) L st) : mz_W Γ ρ nL k n P pc L (.ref q :: .int i :: .ref id :: st) := by
  obtain ⟨p, l', e, R, s, m, args, below, meth, c, H0, A, Q⟩ := Γ
  obtain ⟨-, hx, hb, -, hown, hts, hK, -, -, rfl⟩ := C
  obtain ⟨Qc, mc, ms, -, -, rfl⟩ := E
  intro H ls locs hPq hS hl T hT X
  have hP := hPH H hPq
  have hc : H[ρ id]? = some (vp_cell (cA 1) (N, .inr (.inr (.inr (.inr (fun j => (g j).map ρ)))))) := hP id _ hid
  have hcv : H[ρ q]? = some (vp_cell (cA 0) (K, .inl (M q))) := hP q _ hq
  obtain ⟨k1, k0, c1, c2, c3⟩ := mz_AO_c0 hK hO.1
  have hlt : ¬ i < 0 ∧ i.toNatClampNeg < N := ⟨fun z => hin (Or.inl z), Nat.not_le.mp fun z => hin (Or.inr z)⟩
  obtain ⟨X', step⟩ := X.aastoreRefTK hx (a := ρ id) (v := ρ q) (cell := vp_cell (cA 1) (N, .inr (.inr (.inr (.inr (fun j => (g j).map ρ)))))) (cv := vp_cell (cA 0) (K, .inl (M q))) (by rw [hT]; exact hc) (fun _ h => by cases h) (fun h => by cases h) c1 c2 rfl c3
    ⟨hlt.1, by show _ < (arrV _ _ _).slots.size; rw [arrV_size]; exact hlt.2⟩ (by rw [hT]; exact hcv) (fun _ h => by cases h) c3 (Jvm.Free.SB.assignable_self _ _) (g := F0 m pc ls ((.ref q :: .int i :: .ref id :: st).map (mz_e ρ))) rfl (rest := st.map (mz_e ρ)) rfl (by rw [hb]; exact hd)
  have e1 : (vp_cell (cA 1) (N, .inr (.inr (.inr (.inr (fun j => (g j).map ρ)))))).setSlot i.toNatClampNeg (.ref (ρ q)) = vp_cell (cA 1) (N, .inr (.inr (.inr (.inr (fun j => ((mz_uo g i.toNatClampNeg (some q)) j).map ρ))))) := by
    show (arrV (cA 1) N (fun j => va_rf ((g j).map ρ))).setSlot i.toNatClampNeg (.ref (ρ q)) = arrV (cA 1) N (fun j => va_rf (((mz_uo g i.toNatClampNeg (some q)) j).map ρ))
    rw [arrV_store]
    refine congrArg (arrV (cA 1) N) (funext fun j => ?_)
    unfold mz_uo updV
    by_cases h : j = i.toNatClampNeg
    · rw [if_pos h, if_pos h]; rfl
    · rw [if_neg h, if_neg h]
  rw [e1] at X' step
  have hlt2 : ρ id < H.size := (Array.getElem?_eq_some_iff.mp hc).1
  generalize hg2 : vp_cell (cA 1) (N, .inr (.inr (.inr (.inr (fun j => ((mz_uo g i.toNatClampNeg (some q)) j).map ρ))))) = cell2 at X' step
  have hheap : (T.setCell (ρ id) cell2).heap = H.setIfInBounds (ρ id) cell2 := by rw [← hT]; rfl
  have oq : ∀ x : Nat, x ≠ ρ id → (H.setIfInBounds (ρ id) cell2)[x]? = H[x]? := fun x hx => by simp [Array.getElem?_setIfInBounds, Ne.symm hx]
  have hsz : (H.setIfInBounds (ρ id) cell2).size = H.size := by simp
  have hself : (H.setIfInBounds (ρ id) cell2)[ρ id]? = some cell2 := by simp [Array.getElem?_setIfInBounds, hlt2]
  generalize H.setIfInBounds (ρ id) cell2 = H1 at hheap oq hsz hself
  have hnew : mz_H D cl cA ρ (mz_ls lay id (mz_r 1 N (mz_uo g i.toNatClampNeg (some q)))) M H1 := by
    intro j sh hj
    by_cases h1 : j = id
    · subst h1
      rw [mz_ls_eq] at hj
      cases hj
      show H1[ρ j]? = _
      rw [hself, ← hg2]
    · rw [mz_ls_ne h1] at hj
      have h3 := hP j sh hj
      exact h3.kept (oq _ fun e => h1 (hI _ _ _ _ hj hid e))
  obtain ⟨t, a1, b1⟩ := kk H1 ls _ (hP' H H1 hPq hnew hsz oq) ⟨by rw [hsz]; exact hS.1, fun x g1 g2 => by
      rw [oq x (fun e => g2 (by rw [e]; exact hA))]
      exact hS.2.1 x g1 g2, fun x hx => by
      rcases List.mem_append.mp hx with h | h
      · exact hS.2.2 x h
      · rw [List.mem_singleton.mp h]; exact hA⟩ hl _ hheap X'
  exact ⟨t, step t a1, b1⟩
/-- System.arraycopy of rows -/
theorem mz_acpR {src dst n0 n1 : Nat} {g0 g1 : Nat → Option Nat} {sp dp len : Int32} (hPH : ∀ H, P H → mz_H D cl cA ρ lay M H)
    (hP' : ∀ H H1, P H → mz_H D cl cA ρ (mz_ls lay dst (mz_r 1 n1 (va_cpy g0 g1 sp.toNatClampNeg dp.toNatClampNeg len.toNatClampNeg))) M H1 → H1.size = H.size → (∀ q : Nat, q ≠ ρ dst → H1[q]? = H[q]?) → P' H1)
    (C : mz_C Γ l own cc nL ret D cl (mz_ty cA) rm) (hO : mz_AQ cA Γ.2.2.2.2.1) (E : ∃ Qc mc ms, mz_E Γ Qc mc ms A0) (hA : A0 (ρ dst)) (hI : mz_I ρ lay) (hs : lay src = some (mz_r 1 n0 g0)) (hdst : lay dst = some (mz_r 1 n1 g1))
    (hrow : ∀ j, j < n0 → ∀ q, g0 j = some q → ∃ K, lay q = some (mz_a K))
    (wl : Cond.methodLink own index arraycopyName ∈ mz_ws) (wn : Cond.native arraycopyName ∈ mz_ws) (ws : Cond.static arraycopyName ∈ mz_ws) (wi : Cond.initialized "java/lang/System" ∈ mz_ws)
    (h1 : ¬ sp < 0) (h2 : ¬ dp < 0) (h3 : ¬ len < 0) (h4 : sp.toNatClampNeg + len.toNatClampNeg ≤ n0) (h5 : dp.toNatClampNeg + len.toNatClampNeg ≤ n1) (hf : 1 ≤ rm.frames) (hlo : (st.map fun v => v.category).sum + (nativeFrameWords "java/lang/System" "arraycopy" 5 + 11) ≤ rm.locals) (hd : decode cc pc = .ok (.invokestatic index, 3))
    (kk : mz_W Γ ρ nL k n P' (pc + 3) L st) : mz_W Γ ρ nL k n P pc L (.int len :: .int dp :: .ref dst :: .int sp :: .ref src :: st) := by
  obtain ⟨p, l', e, R, s, m, args, below, meth, c, H0, A, Q⟩ := Γ
  obtain ⟨-, hx, hb, hml, hown, hts, hK, -, -, rfl⟩ := C
  obtain ⟨Qc, mc, ms, -, -, rfl⟩ := E
  intro H ls locs hPq hS hl T hT X
  have hP := hPH H hPq
  have nn : ∀ z : Int32, ¬ z < 0 → z.toInt = (z.toNatClampNeg : Int) := by
    intro z hz
    have hz0 : (0 : Int) ≤ z.toInt := by
      have := Int32.not_lt.mp hz
      simpa using Int32.le_iff_toInt_le.mp this
    show z.toInt = ((z.toInt.toNat : Nat) : Int)
    omega
  have hc0 : H[ρ src]? = some (vp_cell (cA 1) (n0, .inr (.inr (.inr (.inr (fun j => (g0 j).map ρ)))))) := hP src _ hs
  have hc1 : H[ρ dst]? = some (vp_cell (cA 1) (n1, .inr (.inr (.inr (.inr (fun j => (g1 j).map ρ)))))) := hP dst _ hdst
  obtain ⟨k1, k0, c1, c2, c3⟩ := mz_AO_c0 hK hO.1
  obtain ⟨vm', X', step⟩ := X.arraycopy hx hown (hts _ wl) (hts _ wn) (hts _ ws) (hts _ wi) (src := ρ src) (dst := ρ dst) (cs := vp_cell (cA 1) (n0, .inr (.inr (.inr (.inr (fun j => (g0 j).map ρ)))))) (cd := vp_cell (cA 1) (n1, .inr (.inr (.inr (.inr (fun j => (g1 j).map ρ)))))) (srcPos := sp) (destPos := dp) (n := len) (by rw [hT]; exact hc0) (by rw [hT]; exact hc1)
    (fun _ h => by cases h) (fun _ h => by cases h) (fun h => by cases h) (fun h => by cases h) c1 c1 c2 c2 (by simp [refKind]) h1 h2 h3
    (by rw [nn sp h1, nn len h3]; show ¬ _ > ((arrV (cA 1) n0 (fun j => va_rf ((g0 j).map ρ))).slots.size : Int); rw [arrV_size]; omega)
    (by rw [nn dp h2, nn len h3]; show ¬ _ > ((arrV (cA 1) n1 (fun j => va_rf ((g1 j).map ρ))).slots.size : Int); rw [arrV_size]; omega)
    (fun vm₁ hal i hi => by
      have e : (vp_cell (cA 1) (n0, .inr (.inr (.inr (.inr (fun j => (g0 j).map ρ)))))).slots.getD (sp.toNatClampNeg + i) .null = va_rf ((g0 (sp.toNatClampNeg + i)).map ρ) := by
        show (arrV (cA 1) n0 (fun j => va_rf ((g0 j).map ρ))).slots.getD _ _ = _
        rw [Array.getD_eq_getD_getElem?, arrV_read _ _ (by omega)]
        rfl
      rw [e]
      cases hg : g0 (sp.toNatClampNeg + i) with
      | none => exact ⟨rfl, trivial⟩
      | some q =>
        obtain ⟨K, hq⟩ := hrow _ (by omega) q hg
        have hcq : H[ρ q]? = some (vp_cell (cA 0) (K, .inl (M q))) := hP q _ hq
        obtain ⟨k0', hk0', -⟩ := hal.2.2 _ _ c3
        exact ⟨rfl, vp_cell (cA 0) (K, .inl (M q)), by rw [← hT] at hcq; exact hcq, (fun _ h => by cases h), ⟨k0', hk0'⟩, ⟨k0', hk0'⟩, Jvm.Free.SB.assignable_self _ _⟩)
    (g := F0 m pc ls ((.int len :: .int dp :: .ref dst :: .int sp :: .ref src :: st).map (mz_e ρ))) rfl (by rw [hml]; exact hl.1) (rest := st.map (mz_e ρ)) rfl (by rw [hb]; exact hd) hf (by rw [mz_sumcat]; show 2 * 0 + _ + _ ≤ _; omega)
  have e0 : copied (vp_cell (cA 1) (n0, .inr (.inr (.inr (.inr (fun j => (g0 j).map ρ)))))) (vp_cell (cA 1) (n1, .inr (.inr (.inr (.inr (fun j => (g1 j).map ρ)))))) sp dp len = vp_cell (cA 1) (n1, .inr (.inr (.inr (.inr (fun j => ((va_cpy g0 g1 sp.toNatClampNeg dp.toNatClampNeg len.toNatClampNeg) j).map ρ))))) :=
    va_copied (fun o : Option Nat => va_rf (o.map ρ)) (cA 1) (cA 1) g0 g1 h4
  rw [e0] at X' step
  have hlt : ρ dst < H.size := (Array.getElem?_eq_some_iff.mp hc1).1
  generalize hg2 : vp_cell (cA 1) (n1, .inr (.inr (.inr (.inr (fun j => ((va_cpy g0 g1 sp.toNatClampNeg dp.toNatClampNeg len.toNatClampNeg) j).map ρ))))) = cell2 at X' step
  have hheap : ((T.setVm vm').setCell (ρ dst) cell2).heap = H.setIfInBounds (ρ dst) cell2 := by rw [← hT]; rfl
  have oq : ∀ q : Nat, q ≠ ρ dst → (H.setIfInBounds (ρ dst) cell2)[q]? = H[q]? := fun q hq => by simp [Array.getElem?_setIfInBounds, Ne.symm hq]
  have hsz : (H.setIfInBounds (ρ dst) cell2).size = H.size := by simp
  have hself : (H.setIfInBounds (ρ dst) cell2)[ρ dst]? = some cell2 := by simp [Array.getElem?_setIfInBounds, hlt]
  generalize H.setIfInBounds (ρ dst) cell2 = H1 at hheap oq hsz hself
  have hnew : mz_H D cl cA ρ (mz_ls lay dst (mz_r 1 n1 (va_cpy g0 g1 sp.toNatClampNeg dp.toNatClampNeg len.toNatClampNeg))) M H1 := by
    intro j sh hj
    by_cases h1 : j = dst
    · subst h1
      rw [mz_ls_eq] at hj
      cases hj
      show H1[ρ j]? = _
      rw [hself, ← hg2]
    · rw [mz_ls_ne h1] at hj
      have h3 := hP j sh hj
      exact h3.kept (oq _ fun e => h1 (hI _ _ _ _ hj hdst e))
  obtain ⟨t, a1, b1⟩ := kk H1 ls _ (hP' H H1 hPq hnew hsz oq) ⟨by rw [hsz]; exact hS.1, fun q g1 g2 => by
      rw [oq q (fun e => g2 (by rw [e]; exact hA))]
      exact hS.2.1 q g1 g2, fun q hq => by
      rcases List.mem_append.mp hq with h | h
      · exact hS.2.2 q h
      · obtain ⟨z, -, hz⟩ := List.mem_map.mp h
        rw [← hz]
        exact hA⟩ hl _ hheap X'
  exact ⟨t, step t a1, b1⟩
/-- another numbering -/
theorem mz_ren {ρ' : Nat → Nat} {L' : List (Nat × Value)} {st' : List Value} (hL : mz_L ρ' L' = mz_L ρ L) (hs : st'.map (mz_e ρ') = st.map (mz_e ρ)) (kk : mz_W Γ ρ' nL k n P pc L' st') : mz_W Γ ρ nL k n P pc L st := by
  obtain ⟨p, l', e, R, s, m, args, below, meth, c, H0, A, Q⟩ := Γ
  intro H ls locs hP hS hl
  rw [← hs]
  exact kk H ls locs hP hS (by rw [hL]; exact hl)
theorem mz_pre (h : ∀ H, P H → P' H) (kk : mz_W Γ ρ nL k n P' pc L st) : mz_W Γ ρ nL k n P pc L st := by
  obtain ⟨p, l', e, R, s, m, args, below, meth, c, H0, A, Q⟩ := Γ
  exact fun H ls locs hP hS hl => kk H ls locs (h H hP) hS hl
theorem mz_wid {k' n' : Nat} (hk : k ≤ k') (hn : n ≤ n') (kk : mz_W Γ ρ nL k' n' P pc L st) : mz_W Γ ρ nL k n P pc L st := by
  obtain ⟨p, l', e, R, s, m, args, below, meth, c, H0, A, Q⟩ := Γ
  exact fun H ls locs hP hS hl => W.widen hk hn (kk H ls locs hP hS hl)
end MZAA
