/-! cells that are made -/
def mz_ls (lay : mz_Lay) (k : Nat) (sh : mz_Sh) : mz_Lay := fun a => if a = k then some sh else lay a
theorem mz_ls_eq (lay : mz_Lay) (k : Nat) (sh : mz_Sh) : mz_ls lay k sh k = some sh := if_pos rfl
theorem mz_ls_ne {lay : mz_Lay} {k a : Nat} {sh : mz_Sh} (h : a ≠ k) : mz_ls lay k sh a = lay a := if_neg h
theorem mz_fs_ref (f : Nat → Int32) (l : List (Option (Option Nat))) (j r : Nat) (h : j < l.length) : mz_fs f (l.set j (some (some r))) = (mz_fs f l).set j (.ref r) := by
  apply List.ext_getElem?
  intro i
  rw [mz_fs_at]
  have hl : j < (mz_fs f l).length := by simpa [mz_fs] using h
  by_cases hij : i = j
  · subst hij
    rw [List.getElem?_set_self h, List.getElem?_set_self hl]
    rfl
  · rw [List.getElem?_set_ne (Ne.symm hij), List.getElem?_set_ne (Ne.symm hij), mz_fs_at]
section MZGR
variable {Γ : mz_G} {l : Launch} {own : String} {cc : ByteArray} {nL k n : Nat} {ret : Option FieldType} {D : va_G} {cl : List vw_C} {cA : Nat → ClassId} {rm : Room} {ρ : Nat → Nat} {lay : mz_Lay} {M : mz_Mem} {tys : List (ClassId × FieldType)} {A0 : Nat → Prop} {P P' : Heap → Prop}
variable {pc : Nat} {L : List (Nat × Value)} {st : List Value}
theorem mz_H_new {H H1 : Heap} {nn : Nat} {sh : mz_Sh} (hP : mz_H D cl cA ρ lay M H) (he : va_at D cl (ρ nn, mz_ent cA ρ (mz_s M nn (fun _ => 0)) nn sh) H1) (ho : ∀ q, q < H.size → H1[q]? = H[q]?) : mz_H D cl cA ρ (mz_ls lay nn sh) (mz_s M nn (fun _ => 0)) H1 := by
  intro j sh2 hj
  by_cases h : j = nn
  · subst h
    rw [mz_ls_eq] at hj
    cases hj
    exact he
  · rw [mz_ls_ne h] at hj
    have h2 : mz_ent cA ρ (mz_s M nn (fun _ => 0)) j sh2 = mz_ent cA ρ M j sh2 := by
      rcases sh2 with n | o | g | f <;> simp only [mz_ent, mz_s_ne h]
    rw [h2]
    have h3 := hP j sh2 hj
    exact h3.kept (ho _ h3.lt)
theorem mz_newP (hPH : ∀ H, P H → mz_H D cl cA ρ lay M H) {nn ci N index : Nat} {Cn : String} {T : u_T} {fs : List (Option (Option Nat))} (hnn : ∀ H, P H → H.size = ρ nn) (hP' : ∀ H H1, P H → mz_H D cl cA ρ (mz_ls lay nn (mz_o ci fs)) (mz_s M nn (fun _ => 0)) H1 → H1.size = H.size + 1 → (∀ q, q < H.size → H1[q]? = H[q]?) → P' H1)
    (C : mz_C Γ l own cc nL ret D cl tys rm) (hcl : cl[ci]? = some (Cn, T, N)) (hin : ∀ w ∈ u_ws Cn T N, w ∈ mz_ws) (ty : Nat → FieldType) (hty : ∀ k, k < N → parseFieldDescriptor (T k).2.2.1 = some (ty k)) (wc : Cond.classLink own index Cn ∈ mz_ws) (wi : Cond.instantiable Cn N ∈ mz_ws) (wn : Cond.initialized Cn ∈ mz_ws)
    (hfs : ∀ j, j < N → defaultValue (ty j) = vp_V ((mz_fs (fun _ => 0) fs).map (mz_e ρ)) j) (hcells : k + 1 ≤ rm.cells) (hslots : n + N ≤ rm.slots) (hd : decode cc pc = .ok (.new index, 3))
    (kk : mz_W Γ ρ nL (k + 1) (n + N) P' (pc + 3) L (.ref nn :: st)) : mz_W Γ ρ nL k n P pc L st := by
  obtain ⟨p, l', e, R, s, m, args, below, meth, c, H0, A, Q⟩ := Γ
  obtain ⟨-, hx, hb, -, hown, hts, hK, -, -, rfl⟩ := C
  refine fun H ls locs hPq hS hl => ?_
  have hKn := hK.1.1 ci _ hcl
  refine W.newcK hx hb hown (hts _ wc) (hts _ wi) (hts _ wn) rfl hd hcells hslots hKn.2.1 rfl fun H1 kC hkC e1 z1 o1 => ?_
  have hat : va_at D cl (ρ nn, mz_ent cA ρ (mz_s M nn (fun _ => 0)) nn (mz_o ci fs)) H1 := by
    rw [← hnn H hPq]
    refine ⟨_, hcl, ?_⟩
    have h2 := (u_born ty hts hin hKn hkC e1 hty).to hfs
    simp only [mz_s_eq]
    exact h2
  have := kk H1 ls locs (hP' H H1 hPq (mz_H_new (hPH H hPq) hat o1) z1 o1) ⟨Nat.le_trans hS.1 (by omega), fun x h1 h2 => (o1 x (Nat.lt_of_lt_of_le h1 hS.1)).trans (hS.2.1 x h1 h2), hS.2.2⟩ hl
  rw [hnn H hPq]
  exact this
/-- new int[n] -/
theorem mz_newaP (hPH : ∀ H, P H → mz_H D cl cA ρ lay M H) {nn N t0 : Nat} {v : Int32} (hnn : ∀ H, P H → H.size = ρ nn) (hP' : ∀ H H1, P H → mz_H D cl cA ρ (mz_ls lay nn (mz_a N)) (mz_s M nn (fun _ => 0)) H1 → H1.size = H.size + 1 → (∀ q, q < H.size → H1[q]? = H[q]?) → P' H1)
    (C : mz_C Γ l own cc nL ret D cl tys rm) (hty : tys[t0]? = some (cA 0, .int)) (wa : Cond.arrayClass .int ∈ mz_ws) (hv : ¬ v < 0) (hN : v.toNatClampNeg = N) (hbytes : N * 4 ≤ 536870912) (hcells : k + 1 ≤ rm.cells) (hslots : n + N ≤ rm.slots) (hd : decode cc pc = .ok (.newarray .int, 2))
    (kk : mz_W Γ ρ nL (k + 1) (n + N) P' (pc + 2) L (.ref nn :: st)) : mz_W Γ ρ nL k n P pc L (.int v :: st) := by
  obtain ⟨p, l', e, R, s, m, args, below, meth, c, H0, A, Q⟩ := Γ
  obtain ⟨-, hx, hb, -, hown, hts, hK, -, -, rfl⟩ := C
  refine fun H ls locs hPq hS hl => ?_
  refine va_newaK hx hb (atype := .int) (hts _ wa) rfl hd rfl hv hN hbytes hcells hslots rfl fun H1 cB e1 z1 o1 hAr hNm => ?_
  have hc : cB = cA 0 := by
    have h1 : s.vm.findClass ("[" ++ FieldType.int.toString) = some (cA 0) := (hK.1.2 t0 _ hty).2
    exact Option.some.inj (hNm.symm.trans h1)
  subst hc
  have hat : va_at D cl (ρ nn, mz_ent cA ρ (mz_s M nn (fun _ => 0)) nn (mz_a N)) H1 := by
    rw [← hnn H hPq]
    show H1[H.size]? = some (vp_cell (cA 0) (N, .inl (mz_s M nn (fun _ => 0) nn)))
    rw [e1, mz_s_eq]
    rfl
  have := kk H1 ls locs (hP' H H1 hPq (mz_H_new (hPH H hPq) hat o1) z1 o1) ⟨Nat.le_trans hS.1 (by omega), fun x h1 h2 => (o1 x (Nat.lt_of_lt_of_le h1 hS.1)).trans (hS.2.1 x h1 h2), hS.2.2⟩ hl
  rw [hnn H hPq]
  exact this
theorem mz_H_ref {H H1 : Heap} {id ci : Nat} {fs fs2 : List (Option (Option Nat))} (hI : mz_I ρ lay) (hP : mz_H D cl cA ρ lay M H) (hid : lay id = some (mz_o ci fs)) (he : va_at D cl (ρ id, mz_ent cA ρ M id (mz_o ci fs2)) H1) (oq : ∀ q : Nat, q ≠ ρ id → H1[q]? = H[q]?) : mz_H D cl cA ρ (mz_ls lay id (mz_o ci fs2)) M H1 := by
  intro j sh2 hj
  by_cases h : j = id
  · subst h
    rw [mz_ls_eq] at hj
    cases hj
    exact he
  · rw [mz_ls_ne h] at hj
    exact (hP j sh2 hj).kept (oq _ fun e => h (hI _ _ _ _ hj hid e))
/-- a reference is written into a field: final, in a constructor; or not final -/
theorem mz_putrP (hPH : ∀ H, P H → mz_H D cl cA ρ lay M H) {id ci j r index N : Nat} {Cn : String} {T : u_T} {fs : List (Option (Option Nat))} {ty : FieldType} (hP' : ∀ H H1, P H → mz_H D cl cA ρ (mz_ls lay id (mz_o ci (fs.set j (some (some r))))) M H1 → H1.size = H.size → (∀ q : Nat, q ≠ ρ id → H1[q]? = H[q]?) → P' H1)
    (C : mz_C Γ l own cc nL ret D cl tys rm) (E : ∃ Qc mc ms, mz_E Γ Qc mc ms A0) (hA : A0 (ρ id)) (hI : mz_I ρ lay) (hid : lay id = some (mz_o ci fs)) (hl : j < fs.length)
    (hcl : cl[ci]? = some (Cn, T, N)) (hj : j < N) (hin : ∀ w ∈ u_ws Cn T N, w ∈ mz_ws) (ty0 : Nat → FieldType) (hty : ∀ k, k < N → parseFieldDescriptor (T k).2.2.1 = some (ty0 k)) (hnm : ∀ a, a < N → ∀ b, b < N → a ≠ b → (T a).2.1 ≠ (T b).2.1)
    (hlink : Cond.fieldLink own index (T j).1 (T j).2.1 (T j).2.2.1 ∈ mz_ws) (hfin : (T j).2.2.2 = false ∨ ((T j).2.2.2 = true ∧ (∃ d, Γ.2.2.2.2.2.2.2.2.1.name = d ∧ d = "<init>") ∧ (T j).1 = own)) (hd0 : parseFieldDescriptor (T j).2.2.1 = some ty) (hnar : ∀ q : Nat, narrow ty (.ref q) = .ref q) (hfit : ∀ q : Nat, fits ty (.ref q) = true) (hd : decode cc pc = .ok (.putfield index, 3))
    (kk : mz_W Γ ρ nL k n P' (pc + 3) L st) : mz_W Γ ρ nL k n P pc L (.ref r :: .ref id :: st) := by
  obtain ⟨p, l', e, R, s, m, args, below, meth, c, H0, A, Q⟩ := Γ
  obtain ⟨-, hx, hb, -, hown, hts, hK, -⟩ := C
  obtain ⟨Qc, mc, ms, -, -, rfl⟩ := E
  refine fun H ls locs hPq hS hls => ?_
  have hP := hPH H hPq
  have hap := va_apart (own := own) hts hin ty0 hty hnm hK.1 hcl
  obtain ⟨rr, h1, cell, q1, q2, q3, q4⟩ := hP id _ hid
  have hr : rr = (Cn, T, N) := Option.some.inj (h1.symm.trans hcl)
  subst hr
  obtain ⟨hSl, hfc, kC, hkC, hkind⟩ := hK.1.1 ci _ hcl
  obtain ⟨cf, kf, fi, f, hi, hsl⟩ := hSl j hj
  have hlay := hts _ (hin _ (u_in_lay hj))
  unfold u_lay at hlay
  have hst := (u_facts hfc hkC (u_lays hts hin hj) hi).1
  have hlen : j < ((mz_fs (M id) fs).map (mz_e ρ)).length := by simpa [mz_fs] using hl
  have hent : mz_ent cA ρ M id (mz_o ci (fs.set j (some (some r)))) = .inr (ci, ((mz_fs (M id) fs).map (mz_e ρ)).set j (.ref (ρ r))) := by
    simp only [mz_ent]
    rw [mz_fs_ref _ _ _ _ hl, List.map_set]
    rfl
  have fin : ∀ H', H'[ρ id]? = some (cell.setSlot (D.2 ci j) (.ref (ρ r))) → va_at D cl (ρ id, mz_ent cA ρ M id (mz_o ci (fs.set j (some (some r))))) H' := by
    intro H' e1
    rw [hent]
    exact ⟨_, hcl, t_OB.to (V := updV (vp_V _) j (.ref (ρ r))) ⟨_, e1, q2, q3, t_set q4 hap hj (.ref (ρ r))⟩ (fun q _ => vp_updV_set hlen (.ref (ρ r)) q)⟩
  rcases hfin with hfin | ⟨hfin, ⟨d, hd1, hd2⟩, hdecl⟩
  · rw [if_neg (by rw [hfin]; decide)] at hlay
    have h6 := u_store hfc hkC hkind hlay hi hd0 (v := .ref (ρ r)) (hnar _) (hfit _)
    refine W.putK hx hb (f := f) ⟨hown, hts _ hlink, ⟨_, _, _, hi⟩, hst⟩ (by rw [q2]; exact h6) q1 q3 (by rw [hsl]; exact k2_hasslot (q4 j hj)) rfl rfl hd fun H' e1 e2 e3 => ?_
    rw [hsl] at e1 ⊢
    exact kk H' ls _ (hP' H H' hPq (mz_H_ref hI hP hid (fin H' e1) e3) e2 e3) (hS.put e2 e3 hA) hls
  · rw [if_pos hfin] at hlay
    have hcf : m.cls = cf := by
      obtain ⟨_, _, c', _, _, _, -, -, hf', -, -, -, hown2, -⟩ := Cond.laysFinal_spec hlay
      have e1 : c' = cf := by have := hi.symm.trans hf'; simp at this; exact this.1.symm
      rw [hdecl] at hown2
      rw [← e1]; exact Option.some.inj (hown.symm.trans hown2)
    have h6 := u_fits hfc hkC hkind (Or.inr hlay) hi hd0 (v := .ref (ρ r)) (hnar _) (hfit _)
    refine W.putFinK hx hb hown (hts _ hlink) hi hst hcf (hd1.trans hd2) (by rw [q2]; exact h6) q1 q3 (by rw [hsl]; exact k2_hasslot (q4 j hj)) rfl rfl hd fun H' e1 e2 e3 => ?_
    rw [hsl] at e1 ⊢
    exact kk H' ls _ (hP' H H' hPq (mz_H_ref hI hP hid (fin H' e1) e3) e2 e3) (hS.put e2 e3 hA) hls
/-- a final int field, in a constructor -/
theorem mz_putfP (hPH : ∀ H, P H → mz_H D cl cA ρ lay M H) {id ci j index N : Nat} {x : Int32} {Cn : String} {T : u_T} {fs : List (Option (Option Nat))} (hP' : ∀ H H1, P H → mz_H D cl cA ρ lay (mz_s M id (upd (M id) j x)) H1 → H1.size = H.size → (∀ q : Nat, q ≠ ρ id → H1[q]? = H[q]?) → P' H1)
    (C : mz_C Γ l own cc nL ret D cl tys rm) (E : ∃ Qc mc ms, mz_E Γ Qc mc ms A0) (hA : A0 (ρ id)) (hI : mz_I ρ lay) (hid : lay id = some (mz_o ci fs)) (hfs : fs[j]? = some none)
    (hcl : cl[ci]? = some (Cn, T, N)) (hj : j < N) (hin : ∀ w ∈ u_ws Cn T N, w ∈ mz_ws) (ty0 : Nat → FieldType) (hty : ∀ k, k < N → parseFieldDescriptor (T k).2.2.1 = some (ty0 k)) (hnm : ∀ a, a < N → ∀ b, b < N → a ≠ b → (T a).2.1 ≠ (T b).2.1)
    (hlink : Cond.fieldLink own index (T j).1 (T j).2.1 (T j).2.2.1 ∈ mz_ws) (hfin : (T j).2.2.2 = true) (hd2 : Γ.2.2.2.2.2.2.2.2.1.name = "<init>") (hdecl : (T j).1 = own) (hd0 : parseFieldDescriptor (T j).2.2.1 = some .int) (hd : decode cc pc = .ok (.putfield index, 3))
    (kk : mz_W Γ ρ nL k n P' (pc + 3) L st) : mz_W Γ ρ nL k n P pc L (.int x :: .ref id :: st) := by
  obtain ⟨p, l', e, R, s, m, args, below, meth, c, H0, A, Q⟩ := Γ
  obtain ⟨-, hx, hb, -, hown, hts, hK, -⟩ := C
  obtain ⟨Qc, mc, ms, -, -, rfl⟩ := E
  refine fun H ls locs hPq hS hl => ?_
  have hP := hPH H hPq
  have hap := va_apart (own := own) hts hin ty0 hty hnm hK.1 hcl
  obtain ⟨r, h1, cell, q1, q2, q3, q4⟩ := hP id _ hid
  have hr : r = (Cn, T, N) := Option.some.inj (h1.symm.trans hcl)
  subst hr
  obtain ⟨hSl, hfc, kC, hkC, hkind⟩ := hK.1.1 ci _ hcl
  obtain ⟨cf, kf, fi, f, hi, hsl⟩ := hSl j hj
  have hlay := hts _ (hin _ (u_in_lay hj))
  unfold u_lay at hlay
  have hst := (u_facts hfc hkC (u_lays hts hin hj) hi).1
  rw [if_pos hfin] at hlay
  have hcf : m.cls = cf := by
    obtain ⟨_, _, c', _, _, _, -, -, hf', -, -, -, hown2, -⟩ := Cond.laysFinal_spec hlay
    have e1 : c' = cf := by have := hi.symm.trans hf'; simp at this; exact this.1.symm
    rw [hdecl] at hown2
    rw [← e1]; exact Option.some.inj (hown.symm.trans hown2)
  have h6 := u_fits hfc hkC hkind (Or.inr hlay) hi hd0 (v := .int x) rfl rfl
  refine W.putFinK hx hb hown (hts _ hlink) hi hst hcf hd2 (by rw [q2]; exact h6) q1 q3 (by rw [hsl]; exact k2_hasslot (q4 j hj)) rfl rfl hd fun H' e1 e2 e3 => ?_
  rw [hsl] at e1 ⊢
  refine kk H' ls _ (hP' H H' hPq (mz_H_put hI hP hid ?_ e3) e2 e3) (hS.put e2 e3 hA) hl
  have hlen : j < ((mz_fs (M id) fs).map (mz_e ρ)).length := by
    have := (List.getElem?_eq_some_iff.mp hfs).1
    simpa [mz_fs] using this
  have hent : mz_ent cA ρ (mz_s M id (upd (M id) j x)) id (mz_o ci fs) = .inr (ci, ((mz_fs (M id) fs).map (mz_e ρ)).set j (.int x)) := by
    simp only [mz_ent, mz_s_eq]
    rw [mz_fs_set _ _ _ _ hfs, List.map_set]
    rfl
  rw [hent]
  exact ⟨_, hcl, t_OB.to (V := updV (vp_V _) j (.int x)) ⟨_, e1, q2, q3, t_set q4 hap hj (.int x)⟩ (fun q _ => vp_updV_set hlen (.int x) q)⟩
/-- Object's constructor -/
theorem mz_objI {index : Nat} (C : mz_C Γ l own cc nL ret D cl tys rm) {id : Nat} (wl : Cond.methodLink own index Lib.objectInit ∈ mz_ws) (wi : Cond.instanceMethod Lib.objectInit ∈ mz_ws) (wc : Cond.code Lib.objectInit ⟨#[0xb1]⟩ 1 none ∈ mz_ws) (hd : decode cc pc = .ok (.invokespecial index, 3)) (hf : 1 ≤ rm.frames) (hlo : (st.map fun v => v.category).sum + 12 ≤ rm.locals)
    (kk : mz_W Γ ρ nL k n P (pc + 3) L st) : mz_W Γ ρ nL k n P pc L (.ref id :: st) := by
  obtain ⟨p, l', e, R, s, m, args, below, meth, c, H0, A, Q⟩ := Γ
  obtain ⟨-, hx, hb, hml, hown, hts, hK, -, -, rfl⟩ := C
  exact fun H ls locs hP hS hl => W.objInit hx hb hown (hts _ wl) (hts _ wi) (hts _ wc) rfl (by rw [hml]; exact hl.1) (a := ρ id) rfl hd hf (by show 2 * 0 + _ + 12 ≤ _; rw [mz_sumcat]; omega) (kk H ls locs hP hS hl)
end MZGR
/-! makers: the cells from x on, n of them before and n' behind -/
def mz_S (D : va_G) (cl : List vw_C) (cA : Nat → ClassId) (x : Nat) (lay : mz_Lay) (n : Nat) (M : mz_Mem) (H : Heap) : Prop := mz_H D cl cA (fun k => x + k) lay M H ∧ H.size = x + n
def mz_NQ (D : va_G) (cl : List vw_C) (cA : Nat → ClassId) (x : Nat) (lay : mz_Lay) (n : Nat) (M : mz_Mem) : Array Value → State → Outcome → State → Prop :=
  fun _ st o t => o = .returned none ∧ mz_S D cl cA x lay n M t.heap ∧ va_F (fun q => x ≤ q) st t
/-- A CONSTRUCTOR'S CONTRACT -/
def mz_N (l : Launch) (D : va_G) (cl : List vw_C) (cA : Nat → ClassId) (x : Nat) (y : MethodName) (cc : ByteArray) (nL fr lo mc ms : Nat) (As : List Value) (la : mz_Lay) (na : Nat) (M : mz_Mem) (lb : mz_Lay) (nb : Nat) (M' : mz_Mem) : Prop :=
  Met l y (Cond.code y cc nL none :: mz_ws) { frames := fr, cells := mc, slots := ms, locals := lo } (va_Pc (As.map (mz_e (fun k => x + k))) (fun U => mz_S D cl cA x la na M U.heap ∧ mz_K D cl [(cA 0, .int)] U)) (mz_NQ D cl cA x lb nb M') mc ms (fun q => x ≤ q)
theorem mz_introN {l : Launch} {D : va_G} {cl : List vw_C} {tys : List (ClassId × FieldType)} {ρ : Nat → Nat} {y : MethodName} {cc : ByteArray} {nL fr lo mc ms : Nat} {ret : Option FieldType} {As : List Value} {P : Heap → Prop} {Qc : Array Value → State → Outcome → State → Prop} {A : Nat → Prop}
    (hy : plainName y.cls = true) (hlen : (lg_sl As).length ≤ nL)
    (body : ∀ Γ : mz_G, mz_C Γ l y.cls cc nL ret D cl tys { frames := fr, cells := mc, slots := ms, locals := lo } → mz_E Γ Qc mc ms A → Γ.2.2.2.2.2.2.2.2.1.name = y.name → mz_W Γ ρ nL 0 0 P 0 (lv_args 0 As) []) :
    Met l y (Cond.code y cc nL ret :: mz_ws) { frames := fr, cells := mc, slots := ms, locals := lo } (va_Pc (As.map (mz_e ρ)) (fun U => P U.heap ∧ mz_K D cl tys U)) Qc mc ms A := by
  refine Met.ofW (cc := cc) (maxL := nL) (ret := ret) hy rfl ?_
  intro p e s m args below meth c s₁ B hml hv
  obtain ⟨rfl, hP, hK⟩ := hv
  have hts := atoms_spec (ws := Cond.code y cc nL ret :: mz_ws) B.pre
  rw [lg_entry_eq]
  have hl := lv_entry (As.map (mz_e ρ)) (n := nL) (by rw [mz_sl_len]; exact hlen)
  rw [mz_args_map] at hl
  exact body (p, l, e, { frames := fr, cells := mc, slots := ms, locals := lo }, s, m, (As.map (mz_e ρ)).toArray, below, meth, c, s.heap, A, MQ below Qc (As.map (mz_e ρ)).toArray s mc ms A)
    ⟨rfl, B.exec, B.bytes, hml, findClass_of_methodNamed B.named, fun w hw => hts w (List.mem_cons_of_mem _ hw), hK, B.notSynchronized, B.returns, rfl⟩ ⟨rfl, rfl, rfl⟩ (name_of_methodNamed B.named B.method).1
    s.heap _ [] hP va_S.rf hl
section MZN
variable {Γ : mz_G} {l : Launch} {own : String} {cc : ByteArray} {nL k n : Nat} {ret : Option FieldType} {D : va_G} {cl : List vw_C} {cA : Nat → ClassId} {rm : Room} {tys : List (ClassId × FieldType)}
variable {pc : Nat} {L : List (Nat × Value)} {st : List Value}
theorem mz_nret {x na mc ms : Nat} {lay lb : mz_Lay} {M M' : mz_Mem} {n2 : Nat} (C : mz_C Γ l own cc nL none D cl tys rm) (E : mz_E Γ (mz_NQ D cl cA x lb n2 M') mc ms (fun q => x ≤ q)) (hd : decode cc pc = .ok (.return_, 1)) (hw : ∀ H, mz_S D cl cA x lay na M H → mz_S D cl cA x lb n2 M' H) : mz_W Γ (fun k => x + k) nL mc ms (mz_S D cl cA x lay na M) pc L [] := by
  obtain ⟨p, l', e, R, s, m, args, below, meth, c, H0, A, Q⟩ := Γ
  obtain ⟨-, hx, hb, -, -, -, -, hlocks, hr, -⟩ := C
  obtain ⟨rfl, rfl, rfl⟩ := E
  exact fun H ls locs hP hS hl => W.vret hx hb hr (fun t ht _ => ⟨rfl, by rw [ht]; exact hw H hP, hS.F ht⟩) (fun q hq => hS.2.2 q hq) hd hlocks
/-- a constructor's call (the new cell is number id) -/
theorem mz_callN {A0 : Nat → Prop} {P P' : Heap → Prop} {ρ : Nat → Nat} {y : MethodName} {ccy : ByteArray} {nLy fry loy ny index id mc ms x na nb : Nat} {As As' rest : List Value} {la lb : mz_Lay} {M M' : mz_Mem} (hP : ∀ H, P H → mz_S D cl cA x la na M H) (hP' : ∀ H H', P H → mz_S D cl cA x lb nb M' H' → H.size ≤ H'.size → (∀ q, q < H.size → ¬ x ≤ q → H'[q]? = H[q]?) → P' H')
    (C : mz_C Γ l own cc nL ret D cl tys rm) (hty : tys[0]? = some (cA 0, .int)) (E : ∃ Qc mc ms, mz_E Γ Qc mc ms A0) (hA : ∀ q, x ≤ q → A0 q) (F : mz_N l D cl cA x y ccy nLy fry loy mc ms (.ref id :: As) la na M lb nb M')
    (wl : Cond.methodLink own index y ∈ mz_ws ∨ ∃ host, Cond.methodLinkNest own index y host ∈ mz_wn) (hY : Cond.instanceMethod y ∈ mz_ws ∧ Cond.initialized y.cls ∈ mz_ws ∧ Cond.code y ccy nLy none ∈ mz_ws ∧ (y.cls ≠ "java/lang/invoke/MethodHandle" ∧ y.cls ≠ "java/lang/invoke/VarHandle" ∧ (parseMethodDescriptor y.desc).map (fun d => d.parameters.length) = some ny)) (hy1 : y.name = "<init>") (hn : As.length = ny)
    (hR : fry + 1 ≤ rm.frames ∧ 8 + (nLy + 11) + loy ≤ rm.locals) (hk : k + mc ≤ rm.cells ∧ n + ms ≤ rm.slots) (hst : (rest.map fun v => v.category).sum ≤ 8) (hd : decode cc pc = .ok (.invokespecial index, 3))
    (kk : mz_W Γ ρ nL (k + mc) (n + ms) P' (pc + 3) L rest) (hAs : As'.map (mz_e ρ) = (.ref id :: As).map (mz_e (fun k => x + k))) {st : List Value} (hs : st = As'.reverse ++ rest) : mz_W Γ ρ nL k n P pc L st := by
  obtain ⟨p, l', e, R, s, m, args, below, meth, c, H0, A, Q⟩ := Γ
  obtain ⟨rfl, hx, hb, hml, hown, hts, hK, -, -, rfl⟩ := C
  obtain ⟨Qc, mc0, ms0, -, -, rfl⟩ := E
  obtain ⟨y1, y3, y4, y5⟩ := hY
  subst hs
  have hK1 : mz_K D cl [(cA 0, .int)] s := ⟨⟨hK.1.1, fun q z hq => by
    have hz : q < 1 := (List.getElem?_eq_some_iff.mp hq).1
    rw [show q = 0 by omega] at hq
    cases hq
    exact hK.1.2 0 _ hty⟩, hK.2⟩
  intro H ls locs hPq hS hl
  have hsa := hP H hPq
  have hp : PreS s H (va_Pc ((.ref id :: As).map (mz_e (fun k => x + k))) (fun U => mz_S D cl cA x la na M U.heap ∧ mz_K D cl [(cA 0, .int)] U)) (.ref (x + id) :: As.map (mz_e (fun k => x + k))) :=
    ⟨mz_blind, fun U hU hW => ⟨rfl, by rw [hU]; exact hsa, mz_K.warm hW hK1⟩⟩
  have hstk : ((As'.reverse ++ rest).map (mz_e ρ)) = (As.map (mz_e (fun k => x + k))).reverse ++ .ref (x + id) :: rest.map (mz_e ρ) := by
    rw [List.map_append, List.map_reverse, hAs]
    simp [mz_e]
  have hrun : va_Run p l' e R s m args below meth c H locs k n mc ms (F0 m pc ls ((As'.reverse ++ rest).map (mz_e ρ))) (rest.map (mz_e ρ)) (mz_NQ D cl cA x lb nb M' (Value.ref (x + id) :: As.map (mz_e (fun k => x + k))).toArray) (fun q => x ≤ q) := by
    rcases wl with wl | ⟨host, wl⟩
    · exact va_runI ⟨hx, hb, hml, hown, hts⟩ F ⟨callB_of ny hts (mz_good y4) rfl rfl rfl (hts _ y3) (hts _ wl) y5 hR, hy1, hts _ y1⟩ hp rfl (by rw [List.length_map]; exact hn) hl.1 hstk (lv_room (by rw [mz_sumcat]; exact hst)) hd hk
    · exact va_runIN (host := host) ⟨hx, hb, hml, hown, hts⟩ F ⟨va_cnB ny hts (mz_good y4) rfl rfl rfl (hK.2 _ wl) (hts _ y3) y5 hR, hy1, hts _ y1⟩ hp rfl (by rw [List.length_map]; exact hn) hl.1 hstk (lv_room (by rw [mz_sumcat]; exact hst)) hd hk
  intro T0 hT X
  obtain ⟨v, st₀, t, T', L1, h0, X', hL, e1, e2, ⟨hv, hM', hz, hkk⟩, stp⟩ := hrun T0 hT X
  cases hv
  rw [h0] at hz hkk
  have hS' : va_S A H0 T'.heap (locs ++ L1) := by
    refine ⟨Nat.le_trans hS.1 (by rw [e1]; exact hz), fun q h1 h2 => ?_, fun q hq => ?_⟩
    · rw [e1, hkk q (Nat.lt_of_lt_of_le h1 hS.1) (fun h => h2 (hA q h))]; exact hS.2.1 q h1 h2
    · rcases List.mem_append.mp hq with h | h
      · exact hS.2.2 q h
      · exact hA _ (hL q h)
  obtain ⟨t2, a1, b1⟩ := kk T'.heap ls (locs ++ L1) (by rw [e1]; exact hP' H t.heap hPq hM' hz hkk) hS' hl T' rfl X'
  exact ⟨t2, stp t2 a1, b1⟩
end MZN
