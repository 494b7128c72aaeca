section MZS
variable {Γ : mz_G} {l : Launch} {own : String} {cc : ByteArray} {nL k n fr lo : Nat} {ret : Option FieldType} {D : va_G} {cl : List vw_C} {tys : List (ClassId × FieldType)} {rm : Room} {ρ : Nat → Nat} {P : Heap → Prop}
variable {pc : Nat} {L : List (Nat × Value)} {st : List Value} {pc' : Nat} {L' : List (Nat × Value)} {st' : List Value}
theorem mz_s_ldI {ins : Instr} {i len : Nat} (hr : mz_ldI (pc + len) L i st = some (pc', L', st')) (C : mz_C Γ l own cc nL ret D cl tys rm) (hd : decode cc pc = .ok (ins, len)) (hi : (ins = .iload i ∧ len = 2) ∨ (∃ k : Fin 4, ins = .iload_n k ∧ (k : Nat) = i ∧ len = 1)) (kk : mz_W Γ ρ nL k n P pc' L' st') : mz_W Γ ρ nL k n P pc L st := by
  obtain ⟨p, l', e, R, s, m, args, below, meth, c, H0, A, Q⟩ := Γ
  obtain ⟨-, hx, hb, -⟩ := C
  intro H ls locs hP hS hl
  unfold mz_ldI at hr
  split at hr
  · rename_i x hg
    cases hr
    have h1 := hl.2.2 _ (mz_L_mem (ρ := ρ) (mz_get_mem hg))
    rcases hi with ⟨rfl, rfl⟩ | ⟨k, rfl, hk, rfl⟩
    · exact lv_iload hx hb hd h1 (kk H ls locs hP hS hl)
    · exact lv_iload_n hx hb hd hk h1 (kk H ls locs hP hS hl)
  · cases hr
theorem mz_s_ldA {ins : Instr} {i len : Nat} (hr : mz_ldA (pc + len) L i st = some (pc', L', st')) (C : mz_C Γ l own cc nL ret D cl tys rm) (hd : decode cc pc = .ok (ins, len)) (hi : (ins = .aload i ∧ len = 2) ∨ (∃ k : Fin 4, ins = .aload_n k ∧ (k : Nat) = i ∧ len = 1)) (kk : mz_W Γ ρ nL k n P pc' L' st') : mz_W Γ ρ nL k n P pc L st := by
  obtain ⟨p, l', e, R, s, m, args, below, meth, c, H0, A, Q⟩ := Γ
  obtain ⟨-, hx, hb, -⟩ := C
  intro H ls locs hP hS hl
  unfold mz_ldA at hr
  split at hr
  · rename_i x hg
    cases hr
    have h1 := hl.2.2 _ (mz_L_mem (ρ := ρ) (mz_get_mem hg))
    rcases hi with ⟨rfl, rfl⟩ | ⟨k, rfl, hk, rfl⟩
    · exact lv_aload hx hb hd h1 (kk H ls locs hP hS hl)
    · exact lv_aload_n hx hb hd hk h1 (kk H ls locs hP hS hl)
  · cases hr
theorem mz_s_ldL {ins : Instr} {i len : Nat} (hr : mz_ldL (pc + len) L i st = some (pc', L', st')) (C : mz_C Γ l own cc nL ret D cl tys rm) (hd : decode cc pc = .ok (ins, len)) (hi : (ins = .lload i ∧ len = 2) ∨ (∃ k : Fin 4, ins = .lload_n k ∧ (k : Nat) = i ∧ len = 1)) (kk : mz_W Γ ρ nL k n P pc' L' st') : mz_W Γ ρ nL k n P pc L st := by
  obtain ⟨p, l', e, R, s, m, args, below, meth, c, H0, A, Q⟩ := Γ
  obtain ⟨-, hx, hb, -⟩ := C
  intro H ls locs hP hS hl
  unfold mz_ldL at hr
  split at hr
  · rename_i x hg
    cases hr
    have h1 := hl.2.2 _ (mz_L_mem (ρ := ρ) (mz_get_mem hg))
    rcases hi with ⟨rfl, rfl⟩ | ⟨k, rfl, hk, rfl⟩
    · exact lv_lload hx hb hd h1 (kk H ls locs hP hS hl)
    · exact lv_lload_n hx hb hd hk h1 (kk H ls locs hP hS hl)
  · cases hr
theorem mz_s_stI {ins : Instr} {i len : Nat} (hr : mz_stI nL (pc + len) L i st = some (pc', L', st')) (C : mz_C Γ l own cc nL ret D cl tys rm) (hd : decode cc pc = .ok (ins, len)) (hi : (ins = .istore i ∧ len = 2) ∨ (∃ k : Fin 4, ins = .istore_n k ∧ (k : Nat) = i ∧ len = 1)) (kk : mz_W Γ ρ nL k n P pc' L' st') : mz_W Γ ρ nL k n P pc L st := by
  obtain ⟨p, l', e, R, s, m, args, below, meth, c, H0, A, Q⟩ := Γ
  obtain ⟨-, hx, hb, -⟩ := C
  intro H ls locs hP hS hl
  unfold mz_stI at hr
  split at hr
  · rename_i x r
    by_cases hn : i < nL
    · rw [if_pos hn] at hr
      cases hr
      rcases hi with ⟨rfl, rfl⟩ | ⟨k, rfl, hk, rfl⟩
      · exact lv_istore hx hb hd hl hn (mz_set1_map ρ L i (.int x)) (fun ls' hl' => kk H ls' locs hP hS hl')
      · exact lv_istore_n hx hb hd hk hl hn (mz_set1_map ρ L i (.int x)) (fun ls' hl' => kk H ls' locs hP hS hl')
    · rw [if_neg hn] at hr; cases hr
  · cases hr
theorem mz_s_stA {ins : Instr} {i len : Nat} (hr : mz_stA nL (pc + len) L i st = some (pc', L', st')) (C : mz_C Γ l own cc nL ret D cl tys rm) (hd : decode cc pc = .ok (ins, len)) (hi : (ins = .astore i ∧ len = 2) ∨ (∃ k : Fin 4, ins = .astore_n k ∧ (k : Nat) = i ∧ len = 1)) (kk : mz_W Γ ρ nL k n P pc' L' st') : mz_W Γ ρ nL k n P pc L st := by
  obtain ⟨p, l', e, R, s, m, args, below, meth, c, H0, A, Q⟩ := Γ
  obtain ⟨-, hx, hb, -⟩ := C
  intro H ls locs hP hS hl
  unfold mz_stA at hr
  split at hr
  · rename_i x r
    by_cases hn : i < nL
    · rw [if_pos hn] at hr
      cases hr
      rcases hi with ⟨rfl, rfl⟩ | ⟨k, rfl, hk, rfl⟩
      · exact lv_astore hx hb hd hl hn (mz_set1_map ρ L i (.ref x)) (fun ls' hl' => kk H ls' locs hP hS hl')
      · exact lv_astore_n hx hb hd hk hl hn (mz_set1_map ρ L i (.ref x)) (fun ls' hl' => kk H ls' locs hP hS hl')
    · rw [if_neg hn] at hr; cases hr
  · cases hr
theorem mz_s_stL {ins : Instr} {i len : Nat} (hr : mz_stL nL (pc + len) L i st = some (pc', L', st')) (C : mz_C Γ l own cc nL ret D cl tys rm) (hd : decode cc pc = .ok (ins, len)) (hi : (ins = .lstore i ∧ len = 2) ∨ (∃ k : Fin 4, ins = .lstore_n k ∧ (k : Nat) = i ∧ len = 1)) (kk : mz_W Γ ρ nL k n P pc' L' st') : mz_W Γ ρ nL k n P pc L st := by
  obtain ⟨p, l', e, R, s, m, args, below, meth, c, H0, A, Q⟩ := Γ
  obtain ⟨-, hx, hb, -⟩ := C
  intro H ls locs hP hS hl
  unfold mz_stL at hr
  split at hr
  · rename_i x r
    by_cases hn : i + 1 < nL
    · rw [if_pos hn] at hr
      cases hr
      rcases hi with ⟨rfl, rfl⟩ | ⟨k, rfl, hk, rfl⟩
      · exact lv_lstore hx hb hd hl hn (mz_set2_map ρ L i (.long x)) (fun ls' hl' => kk H ls' locs hP hS hl')
      · exact lv_lstore_n hx hb hd hk hl hn (mz_set2_map ρ L i (.long x)) (fun ls' hl' => kk H ls' locs hP hS hl')
    · rw [if_neg hn] at hr; cases hr
  · cases hr
theorem mz_s_inc {i : Nat} {v : Int} (hr : mz_inc nL (pc + 3) L i v st = some (pc', L', st')) (C : mz_C Γ l own cc nL ret D cl tys rm) (hd : decode cc pc = .ok (.iinc i v, 3)) (kk : mz_W Γ ρ nL k n P pc' L' st') : mz_W Γ ρ nL k n P pc L st := by
  obtain ⟨p, l', e, R, s, m, args, below, meth, c, H0, A, Q⟩ := Γ
  obtain ⟨-, hx, hb, -⟩ := C
  intro H ls locs hP hS hl
  unfold mz_inc at hr
  split at hr
  · rename_i x hg
    by_cases hn : i < nL
    · rw [if_pos hn] at hr
      cases hr
      obtain ⟨j, hj⟩ := List.getElem?_of_mem (mz_L_mem (ρ := ρ) (mz_get_mem hg))
      exact lv_iinc hx hb hd hl hj rfl hn (mz_set1_map ρ L i (.int (x + Int32.ofInt v))) (fun ls' hl' => kk H ls' locs hP hS hl')
    · rw [if_neg hn] at hr; cases hr
  · cases hr
theorem mz_s_goto {off : Int} (hr : mz_gt pc off L st = some (pc', L', st')) (C : mz_C Γ l own cc nL ret D cl tys rm) (hd : decode cc pc = .ok (.goto off, 3)) (kk : mz_W Γ ρ nL k n P pc' L' st') : mz_W Γ ρ nL k n P pc L st := by
  obtain ⟨p, l', e, R, s, m, args, below, meth, c, H0, A, Q⟩ := Γ
  obtain ⟨-, hx, hb, -⟩ := C
  intro H ls locs hP hS hl
  unfold mz_gt at hr
  split at hr
  · rename_i t ht
    cases hr
    exact lv_goto hx hb hd ht (kk H ls locs hP hS hl)
  · cases hr
theorem mz_s_bi {f : Int32 → Int32 → Int32} (hr : mz_bi f pc L st = some (pc', L', st'))
    (row : ∀ (x y : Int32) (r : List Value), mz_W Γ ρ nL k n P (pc + 1) L (.int (f x y) :: r) → mz_W Γ ρ nL k n P pc L (.int y :: .int x :: r)) (kk : mz_W Γ ρ nL k n P pc' L' st') : mz_W Γ ρ nL k n P pc L st := by
  unfold mz_bi at hr
  split at hr
  · cases hr; exact row _ _ _ kk
  · cases hr
theorem mz_s_bl {f : Int64 → Int64 → Int64} (hr : mz_bl f pc L st = some (pc', L', st'))
    (row : ∀ (x y : Int64) (r : List Value), mz_W Γ ρ nL k n P (pc + 1) L (.long (f x y) :: r) → mz_W Γ ρ nL k n P pc L (.long y :: .long x :: r)) (kk : mz_W Γ ρ nL k n P pc' L' st') : mz_W Γ ρ nL k n P pc L st := by
  unfold mz_bl at hr
  split at hr
  · cases hr; exact row _ _ _ kk
  · cases hr
end MZS
section MZT
variable {Γ : mz_G} {l : Launch} {own : String} {cc : ByteArray} {nL k n : Nat} {ret : Option FieldType} {D : va_G} {cl : List vw_C} {cA : Nat → ClassId} {rm : Room} {ρ : Nat → Nat} {lay : mz_Lay} {M : mz_Mem}
variable {pc : Nat} {L : List (Nat × Value)} {st : List Value} {pc' : Nat} {L' : List (Nat × Value)} {st' : List Value} {fl : List (Nat × Nat × Nat)} {kl : List (Nat × Int64)}
theorem mz_one {q : Nat × va_E} {H : Heap} (h : va_at D cl q H) : va_P D cl [q] H := by
  intro j x hx
  have hz : j < 1 := (List.getElem?_eq_some_iff.mp hx).1
  rw [show j = 0 by omega] at hx
  cases hx
  exact h
theorem mz_s_getf {tys : List (ClassId × FieldType)} {P : Heap → Prop} (hPH : ∀ H, P H → mz_H D cl cA ρ lay M H) {idx : Nat} (hF : mz_FL own cl fl) (hr : mz_fg fl lay M pc idx L st = some (pc', L', st')) (C : mz_C Γ l own cc nL ret D cl tys rm) (hd : decode cc pc = .ok (.getfield idx, 3)) (kk : mz_W Γ ρ nL k n P pc' L' st') : mz_W Γ ρ nL k n P pc L st := by
  obtain ⟨p, l', e, R, s, m, args, below, meth, c, H0, A, Q⟩ := Γ
  obtain ⟨-, hx, hb, -, hown, hts, hK, -⟩ := C
  intro H ls locs hP hS hl
  unfold mz_fg at hr
  split at hr
  · rename_i id r
    split at hr
    · rename_i v hv
      cases hr
      unfold mz_gf at hv
      split at hv
      · rename_i ci j hlk
        split at hv
        · rename_i cj fs hsh
          by_cases hc : ci = cj
          · rw [if_pos hc] at hv
            subst hc
            obtain ⟨o, ho, rfl⟩ := Option.map_eq_some_iff.mp hv
            obtain ⟨C, T, N, hcl, hj, hin, hlink⟩ := hF idx ci j hlk
            have hat := mz_one (hPH H hP id _ hsh)
            have hfs : ((mz_fs (M id) fs).map (mz_e ρ))[j]? = some (mz_e ρ (mz_fv (M id) j o)) := by
              rw [List.getElem?_map, mz_fs_at, ho]; rfl
            have hsame : ∀ x, s.fieldFound? (T j).1 (T j).2.1 (T j).2.2.1 = some x → s.fieldFound? (T j).1 (T j).2.1 (T j).2.2.1 = some x := fun x h => h
            rcases hlink with hlink | ⟨host, hlink⟩
            · exact va_get hx hb hts hin hown hK.1 hat 0 rfl hcl j hj (hts _ hlink) hsame hfs hd (kk H ls locs hP hS hl)
            · exact va_getN hx hb hts hin hown hK.1 hat 0 rfl hcl j hj (va_Nw.use rfl (hK.2 _ hlink)) hsame hfs hd (kk H ls locs hP hS hl)
          · rw [if_neg hc] at hv; cases hv
        · cases hv
      · cases hv
    · cases hr
  · cases hr
theorem mz_s_kl {P : Heap → Prop} {tys : List (ClassId × FieldType)} {idx : Nat} (hk : mz_KL own kl) (hr : mz_kl kl pc idx L st = some (pc', L', st')) (C : mz_C Γ l own cc nL ret D cl tys rm) (hd : decode cc pc = .ok (.ldc2_w idx, 3)) (kk : mz_W Γ ρ nL k n P pc' L' st') : mz_W Γ ρ nL k n P pc L st := by
  obtain ⟨p, l', e, R, s, m, args, below, meth, c, H0, A, Q⟩ := Γ
  obtain ⟨-, hx, hb, -, hown, hts, hK, -⟩ := C
  intro H ls locs hP hS hl
  unfold mz_kl at hr
  split at hr
  · rename_i v hv
    cases hr
    exact lv_ldc2 hx hb hown (hts _ (hk idx v hv)) hd (kk H ls locs hP hS hl)
  · cases hr
theorem mz_step {tys : List (ClassId × FieldType)} {P : Heap → Prop} (hPH : ∀ H, P H → mz_H D cl cA ρ lay M H) (hF : mz_FL own cl fl) (hk : mz_KL own kl) (C : mz_C Γ l own cc nL ret D cl tys rm) {ins : Instr} (hd : decode cc pc = .ok (ins, mz_len ins)) (hr : mz_st nL fl kl lay M pc ins L st = some (pc', L', st')) (kk : mz_W Γ ρ nL k n P pc' L' st') : mz_W Γ ρ nL k n P pc L st := by
  have row : ∀ (ins2 : Instr) (f : Int32 → Int32 → Int32), decode cc pc = .ok (ins2, 1) → (∀ (p : Program) (l : Launch) (e : Env) (R : Room) (s : State) (m : MethodId) (args : Array Value) (below : List Frame) (meth : Method) (c : Code) (H : Heap) (ls : Array Slot) (locs : List Loc) (Q : State → Prop) (x y : Int32) (r : List Value), p.tables.exec = Jvm.exec → c.code = cc →
      W p l e R s m args below meth c H locs k n Q (F0 m (pc + 1) ls (.int (f x y) :: r)) → W p l e R s m args below meth c H locs k n Q (F0 m pc ls (.int y :: .int x :: r))) →
      mz_bi f pc L st = some (pc', L', st') → mz_W Γ ρ nL k n P pc L st := by
    intro ins2 f _ hrow hr
    refine mz_s_bi hr (fun x y r kk => ?_) kk
    obtain ⟨p, l', e, R, s, m, args, below, meth, c, H0, A, Q⟩ := Γ
    obtain ⟨-, hx, hb, -⟩ := C
    exact fun H ls locs hP hS hl => hrow p l' e R s m args below meth c H ls locs Q x y (r.map (mz_e ρ)) hx hb (kk H ls locs hP hS hl)
  have rowL : ∀ (ins2 : Instr) (f : Int64 → Int64 → Int64), decode cc pc = .ok (ins2, 1) → (∀ (p : Program) (l : Launch) (e : Env) (R : Room) (s : State) (m : MethodId) (args : Array Value) (below : List Frame) (meth : Method) (c : Code) (H : Heap) (ls : Array Slot) (locs : List Loc) (Q : State → Prop) (x y : Int64) (r : List Value), p.tables.exec = Jvm.exec → c.code = cc →
      W p l e R s m args below meth c H locs k n Q (F0 m (pc + 1) ls (.long (f x y) :: r)) → W p l e R s m args below meth c H locs k n Q (F0 m pc ls (.long y :: .long x :: r))) →
      mz_bl f pc L st = some (pc', L', st') → mz_W Γ ρ nL k n P pc L st := by
    intro ins2 f _ hrow hr
    refine mz_s_bl hr (fun x y r kk => ?_) kk
    obtain ⟨p, l', e, R, s, m, args, below, meth, c, H0, A, Q⟩ := Γ
    obtain ⟨-, hx, hb, -⟩ := C
    exact fun H ls locs hP hS hl => hrow p l' e R s m args below meth c H ls locs Q x y (r.map (mz_e ρ)) hx hb (kk H ls locs hP hS hl)
  unfold mz_st at hr
  split at hr
  case h_1 v =>
    cases hr
    obtain ⟨p, l', e, R, s, m, args, below, meth, c, H0, A, Q⟩ := Γ
    obtain ⟨-, hx, hb, -⟩ := C
    exact fun H ls locs hP hS hl => lv_iconst hx hb hd rfl (kk H ls locs hP hS hl)
  case h_2 v =>
    cases hr
    obtain ⟨p, l', e, R, s, m, args, below, meth, c, H0, A, Q⟩ := Γ
    obtain ⟨-, hx, hb, -⟩ := C
    exact fun H ls locs hP hS hl => lv_bipush hx hb hd rfl (kk H ls locs hP hS hl)
  case h_3 v =>
    cases hr
    obtain ⟨p, l', e, R, s, m, args, below, meth, c, H0, A, Q⟩ := Γ
    obtain ⟨-, hx, hb, -⟩ := C
    exact fun H ls locs hP hS hl => lv_sipush hx hb hd rfl (kk H ls locs hP hS hl)
  case h_4 i => exact mz_s_ldI hr C hd (Or.inl ⟨rfl, rfl⟩) kk
  case h_5 i => exact mz_s_ldI hr C hd (Or.inr ⟨i, rfl, rfl, rfl⟩) kk
  case h_6 i => exact mz_s_ldA hr C hd (Or.inl ⟨rfl, rfl⟩) kk
  case h_7 i => exact mz_s_ldA hr C hd (Or.inr ⟨i, rfl, rfl, rfl⟩) kk
  case h_8 i => exact mz_s_ldL hr C hd (Or.inl ⟨rfl, rfl⟩) kk
  case h_9 i => exact mz_s_ldL hr C hd (Or.inr ⟨i, rfl, rfl, rfl⟩) kk
  case h_10 i => exact mz_s_stI hr C hd (Or.inl ⟨rfl, rfl⟩) kk
  case h_11 i => exact mz_s_stI hr C hd (Or.inr ⟨i, rfl, rfl, rfl⟩) kk
  case h_12 i => exact mz_s_stA hr C hd (Or.inl ⟨rfl, rfl⟩) kk
  case h_13 i => exact mz_s_stA hr C hd (Or.inr ⟨i, rfl, rfl, rfl⟩) kk
  case h_14 i => exact mz_s_stL hr C hd (Or.inl ⟨rfl, rfl⟩) kk
  case h_15 i => exact mz_s_stL hr C hd (Or.inr ⟨i, rfl, rfl, rfl⟩) kk
  case h_16 i v => exact mz_s_inc hr C hd kk
  case h_17 => exact row .iadd _ hd (fun p l e R s m args below meth c H ls locs Q x y r hx hb kk => lv_iadd hx hb hd kk) hr
  case h_18 => exact row .isub _ hd (fun p l e R s m args below meth c H ls locs Q x y r hx hb kk => lv_isub hx hb hd kk) hr
  case h_19 => exact row .imul _ hd (fun p l e R s m args below meth c H ls locs Q x y r hx hb kk => lv_imul hx hb hd kk) hr
  case h_20 => exact row .iand _ hd (fun p l e R s m args below meth c H ls locs Q x y r hx hb kk => lv_iand hx hb hd kk) hr
  case h_21 => exact row .ior _ hd (fun p l e R s m args below meth c H ls locs Q x y r hx hb kk => lv_ior hx hb hd kk) hr
  case h_22 => exact row .ixor _ hd (fun p l e R s m args below meth c H ls locs Q x y r hx hb kk => lv_ixor hx hb hd kk) hr
  case h_23 => exact row .ishl _ hd (fun p l e R s m args below meth c H ls locs Q x y r hx hb kk => lv_ishl hx hb hd kk) hr
  case h_24 => exact row .ishr _ hd (fun p l e R s m args below meth c H ls locs Q x y r hx hb kk => lv_ishr hx hb hd kk) hr
  case h_25 => exact rowL .ladd _ hd (fun p l e R s m args below meth c H ls locs Q x y r hx hb kk => lv_ladd hx hb hd kk) hr
  case h_26 => exact rowL .lmul _ hd (fun p l e R s m args below meth c H ls locs Q x y r hx hb kk => lv_lmul hx hb hd kk) hr
  case h_27 =>
    unfold mz_il at hr
    split at hr
    · cases hr
      obtain ⟨p, l', e, R, s, m, args, below, meth, c, H0, A, Q⟩ := Γ
      obtain ⟨-, hx, hb, -⟩ := C
      exact fun H ls locs hP hS hl => lv_i2l hx hb hd rfl (kk H ls locs hP hS hl)
    · cases hr
  case h_28 =>
    obtain ⟨p, l', e, R, s, m, args, below, meth, c, H0, A, Q⟩ := Γ
    obtain ⟨-, hx, hb, -⟩ := C
    unfold mz_du at hr
    split at hr
    · cases hr
      exact fun H ls locs hP hS hl => lv_dup hx hb hd rfl (kk H ls locs hP hS hl)
    · cases hr
      exact fun H ls locs hP hS hl => lv_dup hx hb hd rfl (kk H ls locs hP hS hl)
    · cases hr
  case h_29 =>
    obtain ⟨p, l', e, R, s, m, args, below, meth, c, H0, A, Q⟩ := Γ
    obtain ⟨-, hx, hb, -⟩ := C
    unfold mz_pp at hr
    split at hr
    · cases hr
      exact fun H ls locs hP hS hl => lv_pop hx hb hd rfl (kk H ls locs hP hS hl)
    · cases hr
      exact fun H ls locs hP hS hl => lv_pop hx hb hd rfl (kk H ls locs hP hS hl)
    · cases hr
  case h_30 off => exact mz_s_goto hr C hd kk
  case h_31 idx => exact mz_s_getf hPH hF hr C hd kk
  case h_32 idx => exact mz_s_kl hk hr C hd kk
  case h_33 =>
    obtain ⟨p, l', e, R, s, m, args, below, meth, c, H0, A, Q⟩ := Γ
    obtain ⟨-, hx, hb, -⟩ := C
    unfold mz_d2 at hr
    split at hr
    · cases hr
      exact fun H ls locs hP hS hl => lv_dup2_11 hx hb hd rfl rfl (kk H ls locs hP hS hl)
    · cases hr
  case h_34 =>
    obtain ⟨p, l', e, R, s, m, args, below, meth, c, H0, A, Q⟩ := Γ
    obtain ⟨-, hx, hb, -⟩ := C
    unfold mz_x1 at hr
    split at hr
    · cases hr
      exact fun H ls locs hP hS hl => lv_dup_x1 hx hb hd rfl rfl (kk H ls locs hP hS hl)
    · cases hr
  case h_35 =>
    obtain ⟨p, l', e, R, s, m, args, below, meth, c, H0, A, Q⟩ := Γ
    obtain ⟨-, hx, hb, -⟩ := C
    unfold mz_x2 at hr
    split at hr
    · cases hr
      exact fun H ls locs hP hS hl => lv_dup_x2 hx hb hd rfl rfl rfl (kk H ls locs hP hS hl)
    · cases hr
  case h_36 => cases hr
/-- A STRETCH: the instructions as decode has them, run by the program -/
theorem mz_goP {tys : List (ClassId × FieldType)} {P : Heap → Prop} (hPH : ∀ H, P H → mz_H D cl cA ρ lay M H) (hF : mz_FL own cl fl) (hk : mz_KL own kl) (C : mz_C Γ l own cc nL ret D cl tys rm) : ∀ (b : List (Nat × Instr)) {pc : Nat} {L : List (Nat × Value)} {st : List Value} {pc' : Nat} {L' : List (Nat × Value)} {st' : List Value}, b.all (fun q => decide (decode cc q.1 = .ok (q.2, mz_len q.2))) = true → mz_run nL fl kl lay M b pc L st = some (pc', L', st') →
    mz_W Γ ρ nL k n P pc' L' st' → mz_W Γ ρ nL k n P pc L st
  | [], _, _, _, _, _, _, _, hr, kk => by cases hr; exact kk
  | q :: t, pc, L, st, pc', L', st', hT, hr, kk => by
    rw [List.all_cons, Bool.and_eq_true, decide_eq_true_eq] at hT
    unfold mz_run at hr
    by_cases hq : q.1 = pc
    · rw [if_pos hq] at hr
      split at hr
      · rename_i a b2 c2 hst
        exact mz_step hPH hF hk C (by rw [← hq]; exact hT.1) hst (mz_goP hPH hF hk C t hT.2 hr kk)
      · cases hr
    · rw [if_neg hq] at hr; cases hr
theorem mz_go (hF : mz_FL own cl fl) (hk : mz_KL own kl) {tys : List (ClassId × FieldType)} (C : mz_C Γ l own cc nL ret D cl tys rm) (b : List (Nat × Instr)) (hT : b.all (fun q => decide (decode cc q.1 = .ok (q.2, mz_len q.2))) = true) (hr : mz_run nL fl kl lay M b pc L st = some (pc', L', st'))
    (kk : mz_W Γ ρ nL k n (mz_H D cl cA ρ lay M) pc' L' st') : mz_W Γ ρ nL k n (mz_H D cl cA ρ lay M) pc L st := mz_goP (fun _ h => h) hF hk C b hT hr kk
end MZT
