theorem mz_arrV_ext (cI : ClassId) (N : Nat) {f g : Nat → Value} (h : ∀ j, j < N → f j = g j) : arrV cI N f = arrV cI N g := by
  unfold arrV
  congr 2
  funext j
  exact h j.val j.isLt
theorem mz_H_ext {D : va_G} {cl : List vw_C} {cA : Nat → ClassId} {ρ : Nat → Nat} {lay : mz_Lay} {M M' : mz_Mem} {H : Heap} (h1 : ∀ k n : Nat, lay k = some (mz_a n) → ∀ j, j < n → M k j = M' k j) (h2 : ∀ (k ci : Nat) (fs : List (Option (Option Nat))), lay k = some (mz_o ci fs) → ∀ j, j < fs.length → M k j = M' k j) (h : mz_H D cl cA ρ lay M H) : mz_H D cl cA ρ lay M' H := by
  intro k sh hk
  have h0 := h k sh hk
  rcases sh with n | x | g | f
  · show H[ρ k]? = some (vp_cell (cA 0) (n, .inl (M' k)))
    have h3 : H[ρ k]? = some (vp_cell (cA 0) (n, .inl (M k))) := h0
    rw [h3, vp_cell_i, vp_cell_i, mz_arrV_ext (cA 0) n (fun j hj => by rw [h1 k n hk j hj])]
  · have e : mz_ent cA ρ M' k (.inr (.inl x)) = mz_ent cA ρ M k (.inr (.inl x)) := by
      simp only [mz_ent]
      congr 3
      apply List.ext_getElem?
      intro i
      rw [mz_fs_at, mz_fs_at]
      cases hi : x.2[i]? with
      | none => rfl
      | some q =>
        have hl := (List.getElem?_eq_some_iff.mp hi).1
        cases q with
        | none => simp [mz_fv, h2 k x.1 x.2 hk i hl]
        | some q => cases q <;> rfl
    rw [e]
    exact h0
  · exact h0
  · exact h0
/-- System.arraycopy over numbered cells, whole rows -/
theorem mz_copy {Γ : mz_G} {l : Launch} {own : String} {cc : ByteArray} {nL k n : Nat} {ret : Option FieldType} {D : va_G} {cl : List vw_C} {cA : Nat → ClassId} {rm : Room} {ρ : Nat → Nat} {lay : mz_Lay} {M : mz_Mem} {pc : Nat} {L : List (Nat × Value)} {st : List Value} {src dst N index : Nat} {nn : Int32}
    (C : mz_C Γ l own cc nL ret D cl [(cA 0, .int)] rm) (E : ∃ Qc mc ms, mz_E Γ Qc mc ms (mz_A ρ lay)) (hI : mz_I ρ lay) (hs : lay src = some (mz_a N)) (hdst : lay dst = some (mz_a N)) (hnn : nn = nI N) (hN : N < 2 ^ 31)
    (wl : Cond.methodLink own index arraycopyName ∈ mz_ws) (wn : Cond.native arraycopyName ∈ mz_ws) (wst : Cond.static arraycopyName ∈ mz_ws) (wi : Cond.initialized "java/lang/System" ∈ mz_ws)
    (hf : 1 ≤ rm.frames) (hlo : (st.map fun v => v.category).sum + (nativeFrameWords "java/lang/System" "arraycopy" 5 + 11) ≤ rm.locals) (hd : decode cc pc = .ok (.invokestatic index, 3))
    (kk : mz_W Γ ρ nL k n (mz_H D cl cA ρ lay (mz_s M dst (M src))) (pc + 3) L st) : mz_W Γ ρ nL k n (mz_H D cl cA ρ lay M) pc L (.int nn :: .int 0 :: .ref dst :: .int 0 :: .ref src :: st) := by
  obtain ⟨p, l', e, R, s, m, args, below, meth, c, H0, A, Q⟩ := Γ
  obtain ⟨-, hx, hb, hml, hown, hts, hK, -, -, rfl⟩ := C
  obtain ⟨Qc, mc, ms, -, -, rfl⟩ := E
  subst hnn
  refine fun H ls locs hP hS hl => ?_
  intro T hT X
  have hc0 : H[ρ src]? = some (vp_cell (cA 0) (N, .inl (M src))) := hP src _ hs
  have hc1 : H[ρ dst]? = some (vp_cell (cA 0) (N, .inl (M dst))) := hP dst _ hdst
  have hcl : (nI N).toNatClampNeg = N := nI_clamp hN
  have hNi : (nI N).toInt = (N : Int) := nI_toInt hN
  obtain ⟨-, k0, hk0, cm0, hkk0⟩ := (hK.1.2 0 _ rfl).1 N (fun j => .int (M src j))
  obtain ⟨-, k1, hk1, cm1, hkk1⟩ := (hK.1.2 0 _ rfl).1 N (fun j => .int (M dst j))
  obtain ⟨vm', X', step⟩ := X.arraycopy hx hown (hts _ wl) (hts _ wn) (hts _ wst) (hts _ wi) (src := ρ src) (dst := ρ dst) (cs := vp_cell (cA 0) (N, .inl (M src))) (cd := vp_cell (cA 0) (N, .inl (M dst))) (srcPos := 0) (destPos := 0) (n := nI N) (by rw [hT]; exact hc0) (by rw [hT]; exact hc1)
    (fun _ h => by cases h) (fun _ h => by cases h) (fun h => by cases h) (fun h => by cases h) hk0 hk1 hkk0 hkk1 (by simp [refKind]) (by decide) (by decide) (nI_pos hN)
    (by rw [hNi]; show ¬ _ > ((arrV (cA 0) N (fun j => .int (M src j))).slots.size : Int); rw [arrV_size]; simp)
    (by rw [hNi]; show ¬ _ > ((arrV (cA 0) N (fun j => .int (M dst j))).slots.size : Int); rw [arrV_size]; simp)
    (fun vm₁ _ i hi => by
      rw [hcl] at hi
      have e : (vp_cell (cA 0) (N, .inl (M src))).slots.getD ((0 : Int32).toNatClampNeg + i) .null = .int (M src ((0 : Int32).toNatClampNeg + i)) := by
        show (arrV (cA 0) N (fun j => .int (M src j))).slots.getD _ _ = _
        rw [Array.getD_eq_getD_getElem?, arrV_read _ _ (by show 0 + i < N; omega)]
        rfl
      refine ⟨?_, ?_⟩
      · rw [e]; rfl
      · rw [e]; exact trivial)
    (g := F0 m pc ls ((Value.int (nI N) :: .int 0 :: .ref dst :: .int 0 :: .ref src :: st).map (mz_e ρ))) rfl (by rw [hml]; exact hl.1) (rest := st.map (mz_e ρ)) rfl (by rw [hb]; exact hd) hf (by show 2 * 0 + _ + _ ≤ _; rw [mz_sumcat]; omega)
  have e1 : copied (vp_cell (cA 0) (N, .inl (M src))) (vp_cell (cA 0) (N, .inl (M dst))) 0 0 (nI N) = vp_cell (cA 0) (N, .inl (va_cpy (M src) (M dst) 0 0 N)) := by
    have := va_copied (fun z => Value.int z) (cA 0) (cA 0) (n0 := N) (n1 := N) (sp := 0) (dp := 0) (n := N) (M src) (M dst) (by omega)
    unfold copied
    rw [hcl]
    exact this
  have e2 : vp_cell (cA 0) (N, .inl (va_cpy (M src) (M dst) 0 0 N)) = vp_cell (cA 0) (N, .inl (M src)) := by
    rw [vp_cell_i, vp_cell_i]
    exact mz_arrV_ext (cA 0) N (fun j hj => by simp [va_cpy, hj])
  rw [e1, e2] at X' step
  have hlt : ρ dst < H.size := (Array.getElem?_eq_some_iff.mp hc1).1
  have hheap : ((T.setVm vm').setCell (ρ dst) (vp_cell (cA 0) (N, .inl (M src)))).heap = H.setIfInBounds (ρ dst) (vp_cell (cA 0) (N, .inl (M src))) := by rw [← hT]; rfl
  have oq : ∀ q : Nat, q ≠ ρ dst → (H.setIfInBounds (ρ dst) (vp_cell (cA 0) (N, .inl (M src))))[q]? = H[q]? := fun q hq => by simp [Array.getElem?_setIfInBounds, Ne.symm hq]
  obtain ⟨t, a1, b1⟩ := kk _ ls _ (mz_H_put hI hP hdst (by
      show (H.setIfInBounds (ρ dst) _)[ρ dst]? = some (vp_cell (cA 0) (N, .inl (mz_s M dst (M src) dst)))
      rw [mz_s_eq]
      simp [Array.getElem?_setIfInBounds, hlt]) oq) ⟨by simp; exact hS.1, fun q g1 g2 => by
        rw [oq q (fun e => g2 (by rw [e]; exact ⟨dst, _, hdst, rfl⟩))]
        exact hS.2.1 q g1 g2, fun q hq => by
        rcases List.mem_append.mp hq with h | h
        · exact hS.2.2 q h
        · obtain ⟨z, -, hz⟩ := List.mem_map.mp h
          rw [← hz]
          exact ⟨dst, _, hdst, rfl⟩⟩ hl _ hheap X'
  exact ⟨t, step t a1, b1⟩
