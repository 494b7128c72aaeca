section MZM
variable {Γ : mz_G} {l : Launch} {own : String} {cc : ByteArray} {nL k n : Nat} {ret : Option FieldType} {D : va_G} {cl : List vw_C} {cA : Nat → ClassId} {rm : Room} {ρ : Nat → Nat} {lay : mz_Lay} {M : mz_Mem}
variable {pc : Nat} {L : List (Nat × Value)} {st : List Value}
theorem mz_ildP {tys : List (ClassId × FieldType)} {P : Heap → Prop} (hPH : ∀ H, P H → mz_H D cl cA ρ lay M H) {id N t0 : Nat} {i : Int32} (C : mz_C Γ l own cc nL ret D cl tys rm) (hty : tys[t0]? = some (cA 0, .int)) (hid : lay id = some (mz_a N)) (hin : vp_in i N) (hd : decode cc pc = .ok (.iaload, 1)) (kk : mz_W Γ ρ nL k n P (pc + 1) L (.int (M id i.toNatClampNeg) :: st)) : mz_W Γ ρ nL k n P pc L (.int i :: .ref id :: st) := by
  obtain ⟨p, l', e, R, s, m, args, below, meth, c, H0, A, Q⟩ := Γ
  obtain ⟨-, hx, hb, -, -, -, hK, -⟩ := C
  exact fun H ls locs hP hS hl => va_iald hx hb hK.1 (mz_one (hPH H hP id _ hid)) 0 t0 rfl hty hin hd (kk H ls locs hP hS hl)
theorem mz_ild {id N : Nat} {i : Int32} (C : mz_C Γ l own cc nL ret D cl [(cA 0, .int)] rm) (hid : lay id = some (mz_a N)) (hin : vp_in i N) (hd : decode cc pc = .ok (.iaload, 1)) (kk : mz_W Γ ρ nL k n (mz_H D cl cA ρ lay M) (pc + 1) L (.int (M id i.toNatClampNeg) :: st)) : mz_W Γ ρ nL k n (mz_H D cl cA ρ lay M) pc L (.int i :: .ref id :: st) :=
  mz_ildP (fun _ h => h) (t0 := 0) C rfl hid hin hd kk
theorem mz_alenP {tys : List (ClassId × FieldType)} {P : Heap → Prop} (hPH : ∀ H, P H → mz_H D cl cA ρ lay M H) {id N t0 : Nat} (C : mz_C Γ l own cc nL ret D cl tys rm) (hty : tys[t0]? = some (cA 0, .int)) (hid : lay id = some (mz_a N)) (hd : decode cc pc = .ok (.arraylength, 1)) (kk : mz_W Γ ρ nL k n P (pc + 1) L (.int (Int32.ofNat N) :: st)) : mz_W Γ ρ nL k n P pc L (.ref id :: st) := by
  obtain ⟨p, l', e, R, s, m, args, below, meth, c, H0, A, Q⟩ := Γ
  obtain ⟨-, hx, hb, -, -, -, hK, -⟩ := C
  exact fun H ls locs hP hS hl => va_alen hx hb hK.1 (mz_one (hPH H hP id _ hid)) 0 t0 rfl hty rfl hd (kk H ls locs hP hS hl)
theorem mz_alen {id N : Nat} (C : mz_C Γ l own cc nL ret D cl [(cA 0, .int)] rm) (hid : lay id = some (mz_a N)) (hd : decode cc pc = .ok (.arraylength, 1)) (kk : mz_W Γ ρ nL k n (mz_H D cl cA ρ lay M) (pc + 1) L (.int (Int32.ofNat N) :: st)) : mz_W Γ ρ nL k n (mz_H D cl cA ρ lay M) pc L (.ref id :: st) :=
  mz_alenP (fun _ h => h) (t0 := 0) C rfl hid hd kk
/-- cells that stay -/
theorem mz_H_put {H H1 : Heap} {id : Nat} {sh : mz_Sh} {f : Nat → Int32} (hI : mz_I ρ lay) (hP : mz_H D cl cA ρ lay M H) (hid : lay id = some sh) (he : va_at D cl (ρ id, mz_ent cA ρ (mz_s M id f) id sh) H1) (oq : ∀ q : Nat, q ≠ ρ id → H1[q]? = H[q]?) : mz_H D cl cA ρ lay (mz_s M id f) H1 := by
  intro j sh2 hj
  by_cases h : j = id
  · subst h
    rw [hid] at hj
    cases hj
    exact he
  · have h2 : mz_ent cA ρ (mz_s M id f) j sh2 = mz_ent cA ρ M j sh2 := by
      rcases sh2 with n | o | g | f <;> simp only [mz_ent, mz_s_ne h]
    rw [h2]
    exact (hP j sh2 hj).kept (oq _ fun e => h (hI _ _ _ _ hj hid e))
theorem mz_upd_updV (f : Nat → Int32) (i : Nat) (x : Int32) : updV (fun j => Value.int (f j)) i (Value.int x) = fun j => Value.int (upd f i x j) := by
  funext q
  by_cases hq : q = i
  · subst hq; simp [updV, upd]
  · simp [updV, upd, hq]
theorem mz_istP {tys : List (ClassId × FieldType)} {A0 : Nat → Prop} {P P' : Heap → Prop} (hPH : ∀ H, P H → mz_H D cl cA ρ lay M H) {id N t0 : Nat} {i x : Int32} (hP' : ∀ H H1, P H → mz_H D cl cA ρ lay (mz_s M id (upd (M id) i.toNatClampNeg x)) H1 → H1.size = H.size → (∀ q : Nat, q ≠ ρ id → H1[q]? = H[q]?) → P' H1)
    (C : mz_C Γ l own cc nL ret D cl tys rm) (E : ∃ Qc mc ms, mz_E Γ Qc mc ms A0) (hA : A0 (ρ id)) (hI : mz_I ρ lay) (hty : tys[t0]? = some (cA 0, .int)) (hid : lay id = some (mz_a N)) (hin : vp_in i N) (hd : decode cc pc = .ok (.iastore, 1))
    (kk : mz_W Γ ρ nL k n P' (pc + 1) L st) : mz_W Γ ρ nL k n P pc L (.int x :: .int i :: .ref id :: st) := by
  obtain ⟨p, l', e, R, s, m, args, below, meth, c, H0, A, Q⟩ := Γ
  obtain ⟨-, hx, hb, -, -, -, hK, -⟩ := C
  obtain ⟨Qc, mc, ms, -, -, rfl⟩ := E
  refine fun H ls locs hPq hS hl => ?_
  have hP := hPH H hPq
  have hat : H[ρ id]? = some (vp_cell (cA 0) (N, .inl (M id))) := hP id _ hid
  refine W.iast hx hb hat ((hK.1.2 t0 _ hty).1 N (fun j => .int (M id j))) (fun q => by cases q) (by show ¬ (i < 0 ∨ (arrV _ _ _).slots.size ≤ _); rw [arrV_size]; exact hin) rfl rfl hd fun H1 e1 z oq => ?_
  refine kk H1 ls _ (hP' H H1 hPq (mz_H_put hI hP hid ?_ oq) z oq) (hS.put z oq hA) hl
  show H1[ρ id]? = some (vp_cell (cA 0) (N, .inl (mz_s M id _ id)))
  rw [e1, mz_s_eq, vp_cell_i, vp_cell_i, arrV_store, mz_upd_updV]
theorem mz_ist {id N : Nat} {i x : Int32} (C : mz_C Γ l own cc nL ret D cl [(cA 0, .int)] rm) (E : ∃ Qc mc ms, mz_E Γ Qc mc ms (mz_A ρ lay)) (hI : mz_I ρ lay) (hid : lay id = some (mz_a N)) (hin : vp_in i N) (hd : decode cc pc = .ok (.iastore, 1))
    (kk : mz_W Γ ρ nL k n (mz_H D cl cA ρ lay (mz_s M id (upd (M id) i.toNatClampNeg x))) (pc + 1) L st) : mz_W Γ ρ nL k n (mz_H D cl cA ρ lay M) pc L (.int x :: .int i :: .ref id :: st) :=
  mz_istP (fun _ h => h) (t0 := 0) (fun _ _ _ h _ _ => h) C E ⟨id, _, hid, rfl⟩ hI rfl hid hin hd kk
theorem mz_fs_set (f : Nat → Int32) (l : List (Option (Option Nat))) (j : Nat) (x : Int32) (h : l[j]? = some none) : mz_fs (upd f j x) l = (mz_fs f l).set j (.int x) := by
  apply List.ext_getElem?
  intro i
  rw [mz_fs_at]
  by_cases hij : i = j
  · subst hij
    have hl : i < (mz_fs f l).length := by
      have := (List.getElem?_eq_some_iff.mp h).1
      simpa [mz_fs] using this
    rw [List.getElem?_set_self hl, h]
    simp [mz_fv, upd]
  · rw [List.getElem?_set_ne (Ne.symm hij), mz_fs_at]
    cases hl : l[i]? with
    | none => rfl
    | some o =>
      simp only [Option.map_some]
      cases o with
      | none => simp [mz_fv, upd, hij]
      | some o => cases o <;> rfl
/-- an int field of an object is written -/
theorem mz_putP {tys : List (ClassId × FieldType)} {A0 : Nat → Prop} {P P' : Heap → Prop} (hPH : ∀ H, P H → mz_H D cl cA ρ lay M H) {id ci j index : Nat} {x : Int32} {fs : List (Option (Option Nat))} {T : u_T} {N : Nat} {Cn : String} (hP' : ∀ H H1, P H → mz_H D cl cA ρ lay (mz_s M id (upd (M id) j x)) H1 → H1.size = H.size → (∀ q : Nat, q ≠ ρ id → H1[q]? = H[q]?) → P' H1) (C : mz_C Γ l own cc nL ret D cl tys rm) (E : ∃ Qc mc ms, mz_E Γ Qc mc ms A0) (hA : A0 (ρ id)) (hI : mz_I ρ lay) (hid : lay id = some (mz_o ci fs)) (hfs : fs[j]? = some none)
    (hcl : cl[ci]? = some (Cn, T, N)) (hj : j < N) (hin : ∀ w ∈ u_ws Cn T N, w ∈ mz_ws) (ty0 : Nat → FieldType) (hty : ∀ k, k < N → parseFieldDescriptor (T k).2.2.1 = some (ty0 k)) (hnm : ∀ a, a < N → ∀ b, b < N → a ≠ b → (T a).2.1 ≠ (T b).2.1)
    (hlink : Cond.fieldLink own index (T j).1 (T j).2.1 (T j).2.2.1 ∈ mz_ws) (hfin : (T j).2.2.2 = false) (hd0 : parseFieldDescriptor (T j).2.2.1 = some .int) (hd : decode cc pc = .ok (.putfield index, 3))
    (kk : mz_W Γ ρ nL k n P' (pc + 3) L st) : mz_W Γ ρ nL k n P pc L (.int x :: .ref id :: st) := by
  obtain ⟨p, l', e, R, s, m, args, below, meth, c, H0, A, Q⟩ := Γ
  obtain ⟨-, hx, hb, -, hown, hts, hK, -⟩ := C
  obtain ⟨Qc, mc, ms, -, -, rfl⟩ := E
  refine fun H ls locs hPq hS hl => ?_
  have hP := hPH H hPq
  have hap := va_apart (own := own) hts hin ty0 hty hnm hK.1 hcl
  obtain ⟨r, h1, cell, q1, q2, q3, q4⟩ := hP id _ hid
  have hr : r = (Cn, T, N) := Option.some.inj (h1.symm.trans hcl)
  subst hr
  obtain ⟨hSl, hfc, kC, hkC, hkind⟩ := hK.1.1 ci _ hcl
  obtain ⟨cf, kf, fi, f, hi, hsl⟩ := hSl j hj
  have hlay := hts _ (hin _ (u_in_lay hj))
  unfold u_lay at hlay
  rw [if_neg (by rw [hfin]; decide)] at hlay
  have hst := (u_facts hfc hkC (u_lays hts hin hj) hi).1
  have h6 := u_store hfc hkC hkind hlay hi hd0 (v := .int x) rfl rfl
  refine W.putK hx hb (f := f) ⟨hown, hts _ hlink, ⟨_, _, _, hi⟩, hst⟩ (by rw [q2]; exact h6) q1 q3 (by rw [hsl]; exact k2_hasslot (q4 j hj)) rfl rfl hd fun H' e1 e2 e3 => ?_
  rw [hsl] at e1 ⊢
  refine kk H' ls _ (hP' H H' hPq (mz_H_put hI hP hid ?_ e3) e2 e3) (hS.put e2 e3 hA) hl
  have hlen : j < ((mz_fs (M id) fs).map (mz_e ρ)).length := by
    have := (List.getElem?_eq_some_iff.mp hfs).1
    simpa [mz_fs] using this
  have hent : mz_ent cA ρ (mz_s M id (upd (M id) j x)) id (mz_o ci fs) = .inr (ci, ((mz_fs (M id) fs).map (mz_e ρ)).set j (.int x)) := by
    simp only [mz_ent, mz_s_eq]
    rw [mz_fs_set _ _ _ _ hfs, List.map_set]
    rfl
  rw [hent]
  exact ⟨_, hcl, t_OB.to (V := updV (vp_V _) j (.int x)) ⟨_, e1, q2, q3, t_set q4 hap hj (.int x)⟩ (fun q _ => vp_updV_set hlen (.int x) q)⟩
theorem mz_put {id ci j index : Nat} {x : Int32} {fs : List (Option (Option Nat))} {T : u_T} {N : Nat} {Cn : String} (C : mz_C Γ l own cc nL ret D cl [(cA 0, .int)] rm) (E : ∃ Qc mc ms, mz_E Γ Qc mc ms (mz_A ρ lay)) (hI : mz_I ρ lay) (hid : lay id = some (mz_o ci fs)) (hfs : fs[j]? = some none)
    (hcl : cl[ci]? = some (Cn, T, N)) (hj : j < N) (hin : ∀ w ∈ u_ws Cn T N, w ∈ mz_ws) (ty0 : Nat → FieldType) (hty : ∀ k, k < N → parseFieldDescriptor (T k).2.2.1 = some (ty0 k)) (hnm : ∀ a, a < N → ∀ b, b < N → a ≠ b → (T a).2.1 ≠ (T b).2.1)
    (hlink : Cond.fieldLink own index (T j).1 (T j).2.1 (T j).2.2.1 ∈ mz_ws) (hfin : (T j).2.2.2 = false) (hd0 : parseFieldDescriptor (T j).2.2.1 = some .int) (hd : decode cc pc = .ok (.putfield index, 3))
    (kk : mz_W Γ ρ nL k n (mz_H D cl cA ρ lay (mz_s M id (upd (M id) j x))) (pc + 3) L st) : mz_W Γ ρ nL k n (mz_H D cl cA ρ lay M) pc L (.int x :: .ref id :: st) :=
  mz_putP (fun _ h => h) (fun _ _ _ h _ _ => h) C E ⟨id, _, hid, rfl⟩ hI hid hfs hcl hj hin ty0 hty hnm hlink hfin hd0 hd kk
end MZM
/-! a contract over few cells, lifted to more -/
def mz_shm (ι : Nat → Nat) : mz_Sh → mz_Sh
  | .inl n => .inl n
  | .inr (.inl o) => .inr (.inl (o.1, o.2.map (Option.map (Option.map ι))))
  | .inr (.inr (.inl g)) => .inr (.inr (.inl (g.1, g.2.1, fun j => (g.2.2 j).map ι)))
  | .inr (.inr (.inr f)) => .inr (.inr (.inr f))
theorem mz_e_e (ρ ι : Nat → Nat) (v : Value) : mz_e ρ (mz_e ι v) = mz_e (fun k => ρ (ι k)) v := by cases v <;> rfl
theorem mz_ent_lift (cA : Nat → ClassId) (ρ ι : Nat → Nat) {M0 M : mz_Mem} {k : Nat} (sh : mz_Sh) (h : M0 k = M (ι k)) : mz_ent cA (fun k => ρ (ι k)) M0 k sh = mz_ent cA ρ M (ι k) (mz_shm ι sh) := by
  rcases sh with n | o | g | f
  · simp [mz_ent, mz_shm, h]
  · simp only [mz_ent, mz_shm, h]
    congr 2
    apply List.ext_getElem?
    intro i
    rw [List.getElem?_map, List.getElem?_map, mz_fs_at, mz_fs_at, List.getElem?_map]
    cases o.2[i]? with
    | none => rfl
    | some f =>
      cases f with
      | none => rfl
      | some f => cases f <;> rfl
  · simp only [mz_ent, mz_shm]
    congr 7
    funext j
    cases g.2.2 j <;> rfl
  · rfl
theorem mz_lift {l : Launch} {D : va_G} {cl : List vw_C} {cA : Nat → ClassId} {ρ ι : Nat → Nat} {lay0 lay : mz_Lay} {y : MethodName} {cc : ByteArray} {nL fr lo : Nat} {ret : Option FieldType} {As0 As : List Value} {M0 M0' M M' : mz_Mem} {r0 r : Option Value}
    (F : mz_M l D cl cA (fun k => ρ (ι k)) lay0 y cc nL ret fr lo As0 M0 r0 M0')
    (hsub : ∀ k sh, lay0 k = some sh → lay (ι k) = some (mz_shm ι sh)) (hI : mz_I ρ lay)
    (hM : ∀ k sh, lay0 k = some sh → M0 k = M (ι k)) (hM1 : ∀ k sh, lay0 k = some sh → M0' k = M' (ι k))
    (hM2 : ∀ a, (∀ k sh, lay0 k = some sh → a ≠ ι k) → M' a = M a) (hA : As = As0.map (mz_e ι)) (hr : r = r0.map (mz_e ι)) :
    mz_M l D cl cA ρ lay y cc nL ret fr lo As M r M' := by
  subst hA; subst hr
  intro p e ha hc hk s m args below hf happ hv _
  obtain ⟨rfl, hH, hK⟩ := hv
  have hA1 : ∀ q, mz_A (fun k => ρ (ι k)) lay0 q → mz_A ρ lay q := by
    rintro q ⟨k, sh, h1, rfl⟩
    exact ⟨ι k, _, hsub k sh h1, rfl⟩
  obtain ⟨n, o, h1, h2, h3, ⟨ho, hH', hF⟩, Lc, h4, h5⟩ := F p e ha hc hk s m _ below hf happ ⟨by simp only [List.map_map]; congr 2; funext v; exact mz_e_e ρ ι v, fun k sh hk2 => by rw [mz_ent_lift cA ρ ι sh (hM k sh hk2)]; exact hH _ _ (hsub k sh hk2), hK⟩ trivial
  refine ⟨n, o, h1, h2, h3, ⟨?_, ?_, hF.1, fun q hq hn => hF.2 q hq fun h => hn (hA1 q h)⟩, Lc, h4, fun q hq => hA1 _ (h5 q hq)⟩
  · rw [ho]
    congr 1
    cases r0 with
    | none => rfl
    | some v => simp only [Option.map_some]; rw [mz_e_e]
  · intro a sh ha2
    by_cases hex : ∃ k sh0, lay0 k = some sh0 ∧ a = ι k
    · obtain ⟨k, sh0, hk0, rfl⟩ := hex
      have h6 := hsub k sh0 hk0
      rw [h6] at ha2
      cases ha2
      rw [← mz_ent_lift cA ρ ι sh0 (hM1 k sh0 hk0)]
      exact hH' k sh0 hk0
    · have hne : ∀ k sh0, lay0 k = some sh0 → a ≠ ι k := fun k sh0 h7 e7 => hex ⟨k, sh0, h7, e7⟩
      have hat := hH a sh ha2
      have hent : mz_ent cA ρ M' a sh = mz_ent cA ρ M a sh := by
        rcases sh with n | o | g | f <;> simp only [mz_ent, hM2 a hne]
      rw [hent]
      refine hat.kept (hF.2 _ hat.lt ?_)
      rintro ⟨k, sh0, h7, h8⟩
      exact hne k sh0 h7 (hI a (ι k) _ _ ha2 (hsub k sh0 h7) h8)
