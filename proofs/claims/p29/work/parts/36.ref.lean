/-! contracts that make cells, over one predicate of the heap -/
abbrev mz_ty (cA : Nat → ClassId) : List (ClassId × FieldType) := [(cA 0, .int), (cA 1, .array .int)]
/-- the script's class -/
def mz_SK (c : ClassId) (U : State) : Prop := ∃ (k : Class) (comp : ClassId), U.vm.classes[c]? = some k ∧ k.kind = .array comp .int
theorem mz_SK.moved {c : ClassId} {u U : State} (hvm : u.vm.Alike U.vm) (h : mz_SK c u) : mz_SK c U := by
  obtain ⟨k, comp, h1, h2⟩ := h
  obtain ⟨k', a1, a2⟩ := hvm.2.2 c k h1
  exact ⟨k', comp, a1, by rw [a2]; exact h2⟩
def mz_AQ (cA : Nat → ClassId) (U : State) : Prop := mz_AO U ∧ mz_SK (cA 2) U
theorem mz_AQ.moved {cA : Nat → ClassId} {u U : State} (hvm : u.vm.Alike U.vm) (h : mz_AQ cA u) : mz_AQ cA U := ⟨h.1.moved hvm, h.2.moved hvm⟩
def mz_KR (D : va_G) (cl : List vw_C) (cA : Nat → ClassId) (U : State) : Prop := mz_K D cl (mz_ty cA) U ∧ mz_AQ cA U
theorem mz_KR.warm {D : va_G} {cl : List vw_C} {cA : Nat → ClassId} {s U : State} (hW : s.WarmedH U.vm) (h : mz_KR D cl cA s) : mz_KR D cl cA U := ⟨mz_K.warm hW h.1, h.2.moved hW.alike⟩
theorem mz_KR.same {D : va_G} {cl : List vw_C} {cA : Nat → ClassId} {s U : State} (hv : s.vm = U.vm) (h : mz_KR D cl cA s) : mz_KR D cl cA U := ⟨mz_K.same hv h.1, h.2.moved (by rw [hv]; exact Vm.Alike.refl U.vm)⟩
theorem mz_K1 {D : va_G} {cl : List vw_C} {cA : Nat → ClassId} {tys : List (ClassId × FieldType)} {U : State} (hty : tys[0]? = some (cA 0, .int)) (h : mz_K D cl tys U) : mz_K D cl [(cA 0, .int)] U := ⟨⟨h.1.1, fun q x hq => by
    have hz : q < 1 := (List.getElem?_eq_some_iff.mp hq).1
    rw [show q = 0 by omega] at hq
    cases hq
    exact h.1.2 0 _ hty⟩, h.2⟩
def mz_JQ (r : Option Value) (Post : Heap → Prop) (A : Nat → Prop) : Array Value → State → Outcome → State → Prop := fun _ st o t => o = .returned r ∧ Post t.heap ∧ va_F A st t
/-- A CONTRACT: from heaps with Pre the method answers r, the heap has Post, nothing outside A has changed -/
def mz_J (l : Launch) (D : va_G) (cl : List vw_C) (cA : Nat → ClassId) (y : MethodName) (cc : ByteArray) (nL : Nat) (ret : Option FieldType) (fr lo mc ms : Nat) (As : List Value) (Pre : Heap → Prop) (r : Option Value) (Post : Heap → Prop) (A : Nat → Prop) : Prop :=
  Met l y (Cond.code y cc nL ret :: mz_ws) { frames := fr, cells := mc, slots := ms, locals := lo } (va_Pc As (fun U => Pre U.heap ∧ mz_KR D cl cA U)) (mz_JQ r Post A) mc ms A
theorem mz_blindR {D : va_G} {cl : List vw_C} {cA : Nat → ClassId} {As : List Value} {B : Heap → Prop} : FrameBlind (va_Pc As (fun U => B U.heap ∧ mz_KR D cl cA U)) := by
  intro a U g mk h
  exact ⟨h.1, h.2.1, mz_KR.same (s := U) (U := U.calling g mk a) rfl h.2.2⟩
theorem mz_introJ {l : Launch} {D : va_G} {cl : List vw_C} {cA : Nat → ClassId} {ρ : Nat → Nat} {y : MethodName} {cc : ByteArray} {nL fr lo mc ms : Nat} {ret : Option FieldType} {As As0 : List Value} {Pre Post : Heap → Prop} {r : Option Value} {A : Nat → Prop}
    (hy : plainName y.cls = true) (hlen : (lg_sl As0).length ≤ nL) (hAs : As = As0.map (mz_e ρ))
    (body : ∀ Γ : mz_G, mz_C Γ l y.cls cc nL ret D cl (mz_ty cA) { frames := fr, cells := mc, slots := ms, locals := lo } → mz_AQ cA Γ.2.2.2.2.1 → mz_E Γ (mz_JQ r Post A) mc ms A → Γ.2.2.2.2.2.2.2.2.1.name = y.name → mz_W Γ ρ nL 0 0 Pre 0 (lv_args 0 As0) []) :
    mz_J l D cl cA y cc nL ret fr lo mc ms As Pre r Post A := by
  subst hAs
  refine Met.ofW (cc := cc) (maxL := nL) (ret := ret) hy rfl ?_
  intro p e s m args below meth c s₁ B hml hv
  obtain ⟨rfl, hP, hK⟩ := hv
  have hts := atoms_spec (ws := Cond.code y cc nL ret :: mz_ws) B.pre
  rw [lg_entry_eq]
  have hl := lv_entry (As0.map (mz_e ρ)) (n := nL) (by rw [mz_sl_len]; exact hlen)
  rw [mz_args_map] at hl
  exact body (p, l, e, { frames := fr, cells := mc, slots := ms, locals := lo }, s, m, (As0.map (mz_e ρ)).toArray, below, meth, c, s.heap, A, MQ below (mz_JQ r Post A) (As0.map (mz_e ρ)).toArray s mc ms A)
    ⟨rfl, B.exec, B.bytes, hml, findClass_of_methodNamed B.named, fun w hw => hts w (List.mem_cons_of_mem _ hw), hK.1, B.notSynchronized, B.returns, rfl⟩ hK.2 ⟨rfl, rfl, rfl⟩ (name_of_methodNamed B.named B.method).1
    s.heap _ [] hP va_S.rf hl
theorem mz_J.weaken {l : Launch} {D : va_G} {cl : List vw_C} {cA : Nat → ClassId} {y : MethodName} {cc : ByteArray} {nL fr lo mc ms : Nat} {ret : Option FieldType} {As : List Value} {Pre Pre' Post Post' : Heap → Prop} {r : Option Value} {A : Nat → Prop}
    (F : mz_J l D cl cA y cc nL ret fr lo mc ms As Pre r Post A) (h1 : ∀ H, Pre' H → Pre H) (h2 : ∀ H H', Pre' H → Post H' → H.size ≤ H'.size → (∀ q, q < H.size → ¬ A q → H'[q]? = H[q]?) → Post' H') : mz_J l D cl cA y cc nL ret fr lo mc ms As Pre' r Post' A := by
  intro p e ha hc hk s m args below hf happ hv _
  obtain ⟨hA, hP, hK⟩ := hv
  obtain ⟨n, o, g1, g2, g3, ⟨ho, hp, hF⟩, Lc, g4, g5⟩ := F p e ha hc hk s m args below hf happ ⟨hA, h1 _ hP, hK⟩ trivial
  exact ⟨n, o, g1, g2, g3, ⟨ho, h2 _ _ hP hp hF.1 hF.2, hF⟩, Lc, g4, g5⟩
/-- a contract over numbered cells, as one of these -/
theorem mz_J.of {l : Launch} {D : va_G} {cl : List vw_C} {cA : Nat → ClassId} {ρ : Nat → Nat} {lay : mz_Lay} {y : MethodName} {cc : ByteArray} {nL fr lo : Nat} {ret : Option FieldType} {As : List Value} {M M' : mz_Mem} {r : Option Value} (F : mz_M l D cl cA ρ lay y cc nL ret fr lo As M r M') :
    mz_J l D cl cA y cc nL ret fr lo 0 0 (As.map (mz_e ρ)) (mz_H D cl cA ρ lay M) (r.map (mz_e ρ)) (mz_H D cl cA ρ lay M') (mz_A ρ lay) := by
  intro p e ha hc hk s m args below hf happ hv _
  obtain ⟨hA, hP, hK⟩ := hv
  exact F p e ha hc hk s m args below hf happ ⟨hA, hP, mz_K1 rfl hK.1⟩ trivial
theorem mz_runJ {p : Program} {l : Launch} {e : Env} {R : Room} {s : State} {m : MethodId} {args : Array Value} {below : List Frame} {meth : Method} {c : Code} {H : Heap} {locs : List Loc} {k n mcy msy pc : Nat} {Q : State → Prop} {A0 A1 : Nat → Prop} {H0 : Heap} {ls : Array Slot} {stk rest : List Value} {r : Option Value} {Post : Heap → Prop} {a : Array Value}
    (hrun : va_Run p l e R s m args below meth c H locs k n mcy msy (F0 m pc ls stk) rest (mz_JQ r Post A1 a) A1) (hS : va_S A0 H0 H locs) (hA : ∀ q, A1 q → A0 q)
    (kk : ∀ (H1 : Heap) (locs1 : List Loc), Post H1 → H.size ≤ H1.size → (∀ q, q < H.size → ¬ A1 q → H1[q]? = H[q]?) → va_S A0 H0 H1 locs1 → W p l e R s m args below meth c H1 locs1 (k + mcy) (n + msy) Q (F0 m (pc + 3) ls (r.toList ++ rest))) : W p l e R s m args below meth c H locs k n Q (F0 m pc ls stk) := by
  intro T0 hT X
  obtain ⟨v, st₀, t, T', L1, h0, X', hL, e1, e2, ⟨hv, hM', hz, hkk⟩, stp⟩ := hrun T0 hT X
  have hv : v = r := by cases hv; rfl
  subst hv
  rw [h0] at hz hkk
  have hS' : va_S A0 H0 T'.heap (locs ++ L1) := by
    refine ⟨Nat.le_trans hS.1 (by rw [e1]; exact hz), fun q h1 h2 => ?_, fun q hq => ?_⟩
    · rw [e1, hkk q (Nat.lt_of_lt_of_le h1 hS.1) (fun h => h2 (hA q h))]; exact hS.2.1 q h1 h2
    · rcases List.mem_append.mp hq with h | h
      · exact hS.2.2 q h
      · exact hA _ (hL q h)
  obtain ⟨t2, a1, b1⟩ := kk T'.heap (locs ++ L1) (by rw [e1]; exact hM') (by rw [e1]; exact hz) (by rw [e1]; exact hkk) hS' T' rfl X'
  exact ⟨t2, stp t2 a1, b1⟩
section MZJ
variable {Γ : mz_G} {l : Launch} {own : String} {cc : ByteArray} {nL k n : Nat} {ret : Option FieldType} {D : va_G} {cl : List vw_C} {cA : Nat → ClassId} {tys : List (ClassId × FieldType)} {rm : Room} {ρ : Nat → Nat} {lay : mz_Lay} {M : mz_Mem} {P P' Pre Post : Heap → Prop} {A A0 A1 : Nat → Prop}
variable {pc mc ms : Nat} {L : List (Nat × Value)} {st st' : List Value} {r : Option Value} {y : MethodName} {ccy : ByteArray} {nLy fry loy mcy msy ny index : Nat} {rety : Option FieldType} {As rest : List Value}
/-! the ends -/
theorem mz_jiret {v w : Int32} (C : mz_C Γ l own cc nL (some .int) D cl tys rm) (E : mz_E Γ (mz_JQ (some (.int w)) Post A) mc ms A) (hd : decode cc pc = .ok (.ireturn, 1)) (hv : v = w) (hP : ∀ H, P H → Post H) : mz_W Γ ρ nL mc ms P pc L [.int v] := by
  obtain ⟨p, l', e, R, s, m, args, below, meth, c, H0, A, Q⟩ := Γ
  obtain ⟨-, hx, hb, -, -, -, -, hlocks, hr, -⟩ := C
  obtain ⟨rfl, rfl, rfl⟩ := E
  subst hv
  exact fun H ls locs hp hS hl => W.iret hx hb hr (fun t ht _ => ⟨rfl, by rw [ht]; exact hP H hp, hS.F ht⟩) (fun q hq => hS.2.2 q hq) hd hlocks
theorem mz_jzret {v w : Int32} (C : mz_C Γ l own cc nL (some .boolean) D cl tys rm) (E : mz_E Γ (mz_JQ (some (.int w)) Post A) mc ms A) (hd : decode cc pc = .ok (.ireturn, 1)) (hz : v = 0 ∨ v = 1) (hv : v = w) (hP : ∀ H, P H → Post H) : mz_W Γ ρ nL mc ms P pc L [.int v] := by
  obtain ⟨p, l', e, R, s, m, args, below, meth, c, H0, A, Q⟩ := Γ
  obtain ⟨-, hx, hb, -, -, -, -, hlocks, hr, -⟩ := C
  obtain ⟨rfl, rfl, rfl⟩ := E
  subst hv
  exact fun H ls locs hp hS hl => W.zret hx hb hr (by rcases hz with rfl | rfl <;> rfl) (fun t ht _ => ⟨rfl, by rw [ht]; exact hP H hp, hS.F ht⟩) (fun q hq => hS.2.2 q hq) hd hlocks
theorem mz_jlret {v w : Int64} (C : mz_C Γ l own cc nL (some .long) D cl tys rm) (E : mz_E Γ (mz_JQ (some (.long w)) Post A) mc ms A) (hd : decode cc pc = .ok (.lreturn, 1)) (hv : v = w) (hP : ∀ H, P H → Post H) : mz_W Γ ρ nL mc ms P pc L [.long v] := by
  obtain ⟨p, l', e, R, s, m, args, below, meth, c, H0, A, Q⟩ := Γ
  obtain ⟨-, hx, hb, -, -, -, -, hlocks, hr, -⟩ := C
  obtain ⟨rfl, rfl, rfl⟩ := E
  subst hv
  exact fun H ls locs hp hS hl => W.lret hx hb hr (fun t ht _ => ⟨rfl, by rw [ht]; exact hP H hp, hS.F ht⟩) (fun q hq => hS.2.2 q hq) hd hlocks
theorem mz_jdret {v w : UInt64} (C : mz_C Γ l own cc nL (some .double) D cl tys rm) (E : mz_E Γ (mz_JQ (some (.double w)) Post A) mc ms A) (hd : decode cc pc = .ok (.dreturn, 1)) (hv : v = w) (hP : ∀ H, P H → Post H) : mz_W Γ ρ nL mc ms P pc L [.double v] := by
  obtain ⟨p, l', e, R, s, m, args, below, meth, c, H0, A, Q⟩ := Γ
  obtain ⟨-, hx, hb, -, -, -, -, hlocks, hr, -⟩ := C
  obtain ⟨rfl, rfl, rfl⟩ := E
  subst hv
  exact fun H ls locs hp hS hl => W.dret hx hb hr (fun t ht _ => ⟨rfl, by rw [ht]; exact hP H hp, hS.F ht⟩) (fun q hq => hS.2.2 q hq) hd hlocks
theorem mz_jvret (C : mz_C Γ l own cc nL none D cl tys rm) (E : mz_E Γ (mz_JQ none Post A) mc ms A) (hd : decode cc pc = .ok (.return_, 1)) (hP : ∀ H, P H → Post H) : mz_W Γ ρ nL mc ms P pc L [] := by
  obtain ⟨p, l', e, R, s, m, args, below, meth, c, H0, A, Q⟩ := Γ
  obtain ⟨-, hx, hb, -, -, -, -, hlocks, hr, -⟩ := C
  obtain ⟨rfl, rfl, rfl⟩ := E
  exact fun H ls locs hp hS hl => W.vret hx hb hr (fun t ht _ => ⟨rfl, by rw [ht]; exact hP H hp, hS.F ht⟩) (fun q hq => hS.2.2 q hq) hd hlocks
theorem mz_jaret {v w : Nat} {rt : FieldType} (C : mz_C Γ l own cc nL (some rt) D cl tys rm) (hrt : ∃ n, rt = .object n) (E : mz_E Γ (mz_JQ (some (.ref w)) Post A) mc ms A) (hd : decode cc pc = .ok (.areturn, 1)) (hv : ρ v = w) (hP : ∀ H, P H → Post H) : mz_W Γ ρ nL mc ms P pc L [.ref v] := by
  obtain ⟨p, l', e, R, s, m, args, below, meth, c, H0, A, Q⟩ := Γ
  obtain ⟨-, hx, hb, -, -, -, -, hlocks, hr, -⟩ := C
  obtain ⟨rfl, rfl, rfl⟩ := E
  subst hv
  exact fun H ls locs hp hS hl => W.aret (v := .ref (ρ v)) hx hb hr (Or.inl hrt) (Or.inr ⟨_, rfl⟩) (fun t ht _ => ⟨rfl, by rw [ht]; exact hP H hp, hS.F ht⟩) (fun q hq => hS.2.2 q hq) hd hlocks
/-- the heap's size has a name -/
theorem mz_fix (kk : ∀ z : Nat, mz_W Γ ρ nL k n (fun H => P H ∧ H.size = z) pc L st) : mz_W Γ ρ nL k n P pc L st := by
  obtain ⟨p, l', e, R, s, m, args, below, meth, c, H0, A, Q⟩ := Γ
  exact fun H ls locs hP hS hl => kk H.size H ls locs ⟨hP, rfl⟩ hS hl
theorem mz_all {α : Type} {Pf : α → Heap → Prop} (kk : ∀ a : α, mz_W Γ ρ nL k n (Pf a) pc L st) : mz_W Γ ρ nL k n (fun H => ∃ a, Pf a H) pc L st := by
  obtain ⟨p, l', e, R, s, m, args, below, meth, c, H0, A, Q⟩ := Γ
  exact fun H ls locs hP hS hl => by
    obtain ⟨a, ha⟩ := hP
    exact kk a H ls locs ha hS hl
theorem mz_and {q : Prop} (hq : ∀ H, P H → q) (kk : q → mz_W Γ ρ nL k n P pc L st) : mz_W Γ ρ nL k n P pc L st := by
  obtain ⟨p, l', e, R, s, m, args, below, meth, c, H0, A, Q⟩ := Γ
  exact fun H ls locs hP hS hl => kk (hq H hP) H ls locs hP hS hl
/-! calls -/
theorem mz_callJ {ci b N : Nat} {T : u_T} (C : mz_C Γ l own cc nL ret D cl (mz_ty cA) rm) (hO : mz_AQ cA Γ.2.2.2.2.1) (E : ∃ Qc mc ms, mz_E Γ Qc mc ms A0) (F : mz_J l D cl cA y ccy nLy rety fry loy mcy msy (.ref b :: As) Pre r Post A1) (hA : ∀ q, A1 q → A0 q)
    (hPre : ∀ H, P H → Pre H) (hat : ∀ H, P H → ∃ fs, va_at D cl (b, .inr (ci, fs)) H) (hP' : ∀ H H', P H → Post H' → H.size ≤ H'.size → (∀ q, q < H.size → ¬ A1 q → H'[q]? = H[q]?) → P' H')
    (hY : mz_Y y ccy nLy rety ny) (wl : Cond.methodLink own index y ∈ mz_ws) (hcl : cl[ci]? = some (y.cls, T, N)) (hn : As.length = ny)
    (hR : fry + 1 ≤ rm.frames ∧ 8 + (nLy + 11) + loy ≤ rm.locals) (hk : k + mcy ≤ rm.cells ∧ n + msy ≤ rm.slots) (hst : (rest.map fun v => v.category).sum ≤ 8) (hd : decode cc pc = .ok (.invokevirtual index, 3))
    (kk : mz_W Γ ρ nL (k + mcy) (n + msy) P' (pc + 3) L st') (hs' : st'.map (mz_e ρ) = r.toList ++ rest.map (mz_e ρ)) (hs : st.map (mz_e ρ) = As.reverse ++ .ref b :: rest.map (mz_e ρ)) : mz_W Γ ρ nL k n P pc L st := by
  obtain ⟨p, l', e, R, s, m, args, below, meth, c, H0, A, Q⟩ := Γ
  obtain ⟨rfl, hx, hb, hml, hown, hts, hK, -, -, rfl⟩ := C
  obtain ⟨Qc, mc, ms, -, -, rfl⟩ := E
  obtain ⟨y1, y2, y3, y4, y5⟩ := hY
  intro H ls locs hPq hS hl
  obtain ⟨fs, hat⟩ := hat H hPq
  have cw : CallW R s args own y.cls index y ccy nLy rety (Cond.code y ccy nLy rety :: mz_ws) { frames := fry, cells := mcy, slots := msy, locals := loy } mcy msy ny :=
    ⟨callB_of ny hts (mz_good y4) rfl rfl rfl (hts _ y3) (hts _ wl) y5 hR, hts _ y1, hts _ y2⟩
  have hrun := va_runV (locs := locs) (cells := k) (slots := n) (meth := meth) (e := e) (below := below) (g := F0 m pc ls (st.map (mz_e ρ))) (rest := rest.map (mz_e ρ)) (As := As) (b := b) (H := H) ⟨hx, hb, hml, hown, hts⟩ F cw
    ⟨mz_blindR, va_recv hK.1 (mz_one hat) hcl (q0 := 0) rfl, fun U hU hW => ⟨rfl, by rw [hU]; exact hPre H hPq, mz_KR.warm hW ⟨hK, hO⟩⟩⟩ rfl hn hl.1 hs (lv_room (by rw [mz_sumcat]; exact hst)) hd hk
  refine mz_runJ hrun hS hA fun H1 locs1 hp hz hkk hS1 => ?_
  rw [← hs']
  exact kk H1 ls locs1 (hP' H H1 hPq hp hz hkk) hS1 hl
theorem mz_callJS (C : mz_C Γ l own cc nL ret D cl (mz_ty cA) rm) (hO : mz_AQ cA Γ.2.2.2.2.1) (E : ∃ Qc mc ms, mz_E Γ Qc mc ms A0) (F : mz_J l D cl cA y ccy nLy rety fry loy mcy msy As Pre r Post A1) (hA : ∀ q, A1 q → A0 q)
    (hPre : ∀ H, P H → Pre H) (hP' : ∀ H H', P H → Post H' → H.size ≤ H'.size → (∀ q, q < H.size → ¬ A1 q → H'[q]? = H[q]?) → P' H')
    (hY : mz_YS y ccy nLy rety ny) (wl : Cond.methodLink own index y ∈ mz_ws) (hn : As.length = ny)
    (hR : fry + 1 ≤ rm.frames ∧ 8 + (nLy + 11) + loy ≤ rm.locals) (hk : k + mcy ≤ rm.cells ∧ n + msy ≤ rm.slots) (hst : (rest.map fun v => v.category).sum ≤ 8) (hd : decode cc pc = .ok (.invokestatic index, 3))
    (kk : mz_W Γ ρ nL (k + mcy) (n + msy) P' (pc + 3) L st') (hs' : st'.map (mz_e ρ) = r.toList ++ rest.map (mz_e ρ)) (hs : st.map (mz_e ρ) = As.reverse ++ rest.map (mz_e ρ)) : mz_W Γ ρ nL k n P pc L st := by
  obtain ⟨p, l', e, R, s, m, args, below, meth, c, H0, A, Q⟩ := Γ
  obtain ⟨rfl, hx, hb, hml, hown, hts, hK, -, -, rfl⟩ := C
  obtain ⟨Qc, mc, ms, -, -, rfl⟩ := E
  obtain ⟨y1, y3, y4, y5⟩ := hY
  intro H ls locs hPq hS hl
  have cw : CallB R s args own index y ccy nLy rety (Cond.code y ccy nLy rety :: mz_ws) { frames := fry, cells := mcy, slots := msy, locals := loy } mcy msy ny ∧ (Cond.static y).before args s = true :=
    ⟨callB_of ny hts (mz_good y4) rfl rfl rfl (hts _ y3) (hts _ wl) y5 hR, hts _ y1⟩
  have hrun := va_runS (locs := locs) (cells := k) (slots := n) (meth := meth) (e := e) (below := below) (g := F0 m pc ls (st.map (mz_e ρ))) (rest := rest.map (mz_e ρ)) (As := As) (H := H) ⟨hx, hb, hml, hown, hts⟩ F cw
    ⟨mz_blindR, fun U hU hW => ⟨rfl, by rw [hU]; exact hPre H hPq, mz_KR.warm hW ⟨hK, hO⟩⟩⟩ rfl hn hl.1 hs (lv_room (by rw [mz_sumcat]; exact hst)) hd hk
  refine mz_runJ hrun hS hA fun H1 locs1 hp hz hkk hS1 => ?_
  rw [← hs']
  exact kk H1 ls locs1 (hP' H H1 hPq hp hz hkk) hS1 hl
theorem mz_callJI {b : Nat} (C : mz_C Γ l own cc nL ret D cl (mz_ty cA) rm) (hO : mz_AQ cA Γ.2.2.2.2.1) (E : ∃ Qc mc ms, mz_E Γ Qc mc ms A0) (F : mz_J l D cl cA y ccy nLy none fry loy mcy msy (.ref b :: As) Pre none Post A1) (hA : ∀ q, A1 q → A0 q)
    (hPre : ∀ H, P H → Pre H) (hP' : ∀ H H', P H → Post H' → H.size ≤ H'.size → (∀ q, q < H.size → ¬ A1 q → H'[q]? = H[q]?) → P' H')
    (wl : Cond.methodLink own index y ∈ mz_ws ∨ ∃ host, Cond.methodLinkNest own index y host ∈ mz_wn) (hY : Cond.instanceMethod y ∈ mz_ws ∧ Cond.initialized y.cls ∈ mz_ws ∧ Cond.code y ccy nLy none ∈ mz_ws ∧ (y.cls ≠ "java/lang/invoke/MethodHandle" ∧ y.cls ≠ "java/lang/invoke/VarHandle" ∧ (parseMethodDescriptor y.desc).map (fun d => d.parameters.length) = some ny)) (hy1 : y.name = "<init>") (hn : As.length = ny)
    (hR : fry + 1 ≤ rm.frames ∧ 8 + (nLy + 11) + loy ≤ rm.locals) (hk : k + mcy ≤ rm.cells ∧ n + msy ≤ rm.slots) (hst : (rest.map fun v => v.category).sum ≤ 8) (hd : decode cc pc = .ok (.invokespecial index, 3))
    (kk : mz_W Γ ρ nL (k + mcy) (n + msy) P' (pc + 3) L rest) (hs : st.map (mz_e ρ) = As.reverse ++ .ref b :: rest.map (mz_e ρ)) : mz_W Γ ρ nL k n P pc L st := by
  obtain ⟨p, l', e, R, s, m, args, below, meth, c, H0, A, Q⟩ := Γ
  obtain ⟨rfl, hx, hb, hml, hown, hts, hK, -, -, rfl⟩ := C
  obtain ⟨Qc, mc, ms, -, -, rfl⟩ := E
  obtain ⟨y1, y3, y4, y5⟩ := hY
  intro H ls locs hPq hS hl
  have hp : PreS s H (va_Pc (.ref b :: As) (fun U => Pre U.heap ∧ mz_KR D cl cA U)) (.ref b :: As) :=
    ⟨mz_blindR, fun U hU hW => ⟨rfl, by rw [hU]; exact hPre H hPq, mz_KR.warm hW ⟨hK, hO⟩⟩⟩
  have hrun : va_Run p l' e R s m args below meth c H locs k n mcy msy (F0 m pc ls (st.map (mz_e ρ))) (rest.map (mz_e ρ)) (mz_JQ none Post A1 (Value.ref b :: As).toArray) A1 := by
    rcases wl with wl | ⟨host, wl⟩
    · exact va_runI ⟨hx, hb, hml, hown, hts⟩ F ⟨callB_of ny hts (mz_good y4) rfl rfl rfl (hts _ y3) (hts _ wl) y5 hR, hy1, hts _ y1⟩ hp rfl hn hl.1 hs (lv_room (by rw [mz_sumcat]; exact hst)) hd hk
    · exact va_runIN (host := host) ⟨hx, hb, hml, hown, hts⟩ F ⟨va_cnB ny hts (mz_good y4) rfl rfl rfl (hK.2 _ wl) (hts _ y3) y5 hR, hy1, hts _ y1⟩ hp rfl hn hl.1 hs (lv_room (by rw [mz_sumcat]; exact hst)) hd hk
  refine mz_runJ hrun hS hA fun H1 locs1 hp hz hkk hS1 => ?_
  exact kk H1 ls locs1 (hP' H H1 hPq hp hz hkk) hS1 hl
/-! arrays of arrays -/
theorem mz_aald {id N q : Nat} {i : Int32} {g : Nat → Option Nat} (hPH : ∀ H, P H → mz_H D cl cA ρ lay M H) (C : mz_C Γ l own cc nL ret D cl (mz_ty cA) rm) (hid : lay id = some (mz_r 1 N g)) (hin : vp_in i N) (hg : g i.toNatClampNeg = some q) (hd : decode cc pc = .ok (.aaload, 1)) (kk : mz_W Γ ρ nL k n P (pc + 1) L (.ref q :: st)) : mz_W Γ ρ nL k n P pc L (.int i :: .ref id :: st) := by
  obtain ⟨p, l', e, R, s, m, args, below, meth, c, H0, A, Q⟩ := Γ
  obtain ⟨-, hx, hb, -, -, -, hK, -⟩ := C
  have hlt : i.toNatClampNeg < N := Nat.not_le.mp fun z => hin (Or.inr z)
  refine fun H ls locs hP hS hl => ?_
  refine W.aald (v := .ref (ρ q)) (ty := .array .int) hx hb (hPH H hP id _ hid) ((hK.1.2 1 _ rfl).1 N (fun j => va_rf ((g j).map ρ))) rfl (fun z => by cases z) (by show ¬ (i < 0 ∨ (arrV _ _ _).slots.size ≤ _); rw [arrV_size]; exact hin) ?_ rfl rfl hd (kk H ls locs hP hS hl)
  show (arrV _ _ _).slots[_]? = _
  rw [arrV_read _ _ hlt]
  show some (va_rf ((g i.toNatClampNeg).map ρ)) = _
  rw [hg]
  rfl
theorem mz_aalen {id N : Nat} {g : Nat → Option Nat} (hPH : ∀ H, P H → mz_H D cl cA ρ lay M H) (C : mz_C Γ l own cc nL ret D cl (mz_ty cA) rm) (hid : lay id = some (mz_r 1 N g)) (hd : decode cc pc = .ok (.arraylength, 1)) (kk : mz_W Γ ρ nL k n P (pc + 1) L (.int (Int32.ofNat N) :: st)) : mz_W Γ ρ nL k n P pc L (.ref id :: st) := by
  obtain ⟨p, l', e, R, s, m, args, below, meth, c, H0, A, Q⟩ := Γ
  obtain ⟨-, hx, hb, -, -, -, hK, -⟩ := C
  exact fun H ls locs hP hS hl => va_alen hx hb hK.1 (mz_one (hPH H hP id _ hid)) 0 1 rfl rfl rfl hd (kk H ls locs hP hS hl)
/-- the rows of an array of arrays that was made at the number na -/
def mz_rw (na N : Nat) : Nat → Option Nat := fun i => if i < N then some (na + 1 + i) else none
def mz_lr (lay : mz_Lay) (na N K : Nat) : mz_Lay := fun a => if a = na then some (mz_r 1 N (mz_rw na N)) else if na < a ∧ a ≤ na + N then some (mz_a K) else lay a
theorem mz_newr {na N K : Nat} {a b : Int32} (hPH : ∀ H, P H → mz_H D cl cA ρ lay M H) (hnn : ∀ H, P H → H.size = ρ na) (hρ : ∀ i, i ≤ N → ρ (na + i) = ρ na + i) (hM : ∀ q, na < q → q ≤ na + N → M q = fun _ => 0)
    (hP' : ∀ H H1, P H → mz_H D cl cA ρ (mz_lr lay na N K) M H1 → H1.size = H.size + 1 + N → (∀ q, q < H.size → H1[q]? = H[q]?) → P' H1)
    (C : mz_C Γ l own cc nL ret D cl (mz_ty cA) rm) (hO : mz_AQ cA Γ.2.2.2.2.1) (wc : Cond.classLink own index ("[" ++ (FieldType.array .int).toString) ∈ mz_ws) (wa : Cond.arrayClass .int ∈ mz_ws) (hv : ¬ a < 0) (hw : ¬ b < 0) (hN : a.toNatClampNeg = N) (hK2 : b.toNatClampNeg = K) (hb1 : N * 4 ≤ 536870912) (hb2 : K * 4 ≤ 536870912)
    (hcells : k + (1 + N) ≤ rm.cells) (hslots : n + (N + N * K) ≤ rm.slots) (hd : decode cc pc = .ok (.multianewarray index 2, 4))
    (kk : mz_W Γ ρ nL (k + 1 + N) (n + N + N * K) P' (pc + 4) L (.ref na :: st)) : mz_W Γ ρ nL k n P pc L (.int b :: .int a :: st) := by
  obtain ⟨p, l', e, R, s, m, args, below, meth, c, H0, A, Q⟩ := Γ
  obtain ⟨-, hx, hb, -, hown, hts, hK, -, -, rfl⟩ := C
  refine fun H ls locs hPq hS hl => ?_
  refine mz_mna hx hb hown (hts _ wc) hO.1 (hts _ wa) hv hw hN hK2 hb1 hb2 hcells hslots hd (hnn H hPq) fun H1 cO cI fO fI e1 e2 z1 o1 => ?_
  have hO1 : cO = cA 1 := Option.some.inj (fO.symm.trans (hK.1.2 1 _ rfl).2)
  have hI1 : cI = cA 0 := Option.some.inj (fI.symm.trans (hK.1.2 0 _ rfl).2)
  subst hO1; subst hI1
  have hz := hnn H hPq
  refine kk H1 ls locs (hP' H H1 hPq (fun j sh hj => ?_) (by rw [z1, hz]) (by rw [hz]; exact o1)) ⟨Nat.le_trans hS.1 (by rw [z1, hz]; omega), fun x h1 h2 => (o1 x (by rw [← hz]; exact Nat.lt_of_lt_of_le h1 hS.1)).trans (hS.2.1 x h1 h2), hS.2.2⟩ hl
  unfold mz_lr at hj
  by_cases h1 : j = na
  · rw [if_pos h1] at hj
    cases hj
    subst h1
    show H1[ρ j]? = some (vp_cell (cA 1) (N, .inr (.inr (.inr (.inr (fun i => (mz_rw j N i).map ρ))))))
    rw [e1]
    congr 7
    funext i
    unfold mz_rw
    by_cases hi : i < N
    · rw [if_pos hi, if_pos hi, Option.map_some, show j + 1 + i = j + (1 + i) by omega, hρ (1 + i) (by omega)]
      congr 1
      omega
    · rw [if_neg hi, if_neg hi]; rfl
  · rw [if_neg h1] at hj
    by_cases h2 : na < j ∧ j ≤ na + N
    · rw [if_pos h2] at hj
      cases hj
      show H1[ρ j]? = some (vp_cell (cA 0) (K, .inl (M j)))
      rw [hM j h2.1 h2.2, show j = na + (1 + (j - na - 1)) by omega, hρ _ (by omega), show ρ na + (1 + (j - na - 1)) = ρ na + 1 + (j - na - 1) by omega]
      exact e2 _ (by omega)
    · rw [if_neg h2] at hj
      have h3 := hPH H hPq j sh hj
      exact h3.kept (o1 _ (by rw [← hz]; exact h3.lt))
/-- System.arraycopy of ints -/
theorem mz_acpy {src dst n0 n1 : Nat} {sp dp len : Int32} (hPH : ∀ H, P H → mz_H D cl cA ρ lay M H) (hP' : ∀ H H1, P H → mz_H D cl cA ρ lay (mz_s M dst (va_cpy (M src) (M dst) sp.toNatClampNeg dp.toNatClampNeg len.toNatClampNeg)) H1 → H1.size = H.size → (∀ q : Nat, q ≠ ρ dst → H1[q]? = H[q]?) → P' H1)
    (C : mz_C Γ l own cc nL ret D cl tys rm) (E : ∃ Qc mc ms, mz_E Γ Qc mc ms A0) (hA : A0 (ρ dst)) (hI : mz_I ρ lay) {t0 : Nat} (hty : tys[t0]? = some (cA 0, .int)) (hs : lay src = some (mz_a n0)) (hdst : lay dst = some (mz_a n1))
    (wl : Cond.methodLink own index arraycopyName ∈ mz_ws) (wn : Cond.native arraycopyName ∈ mz_ws) (ws : Cond.static arraycopyName ∈ mz_ws) (wi : Cond.initialized "java/lang/System" ∈ mz_ws)
    (h1 : ¬ sp < 0) (h2 : ¬ dp < 0) (h3 : ¬ len < 0) (h4 : sp.toNatClampNeg + len.toNatClampNeg ≤ n0) (h5 : dp.toNatClampNeg + len.toNatClampNeg ≤ n1) (hf : 1 ≤ rm.frames) (hlo : (st.map fun v => v.category).sum + (nativeFrameWords "java/lang/System" "arraycopy" 5 + 11) ≤ rm.locals) (hd : decode cc pc = .ok (.invokestatic index, 3))
    (kk : mz_W Γ ρ nL k n P' (pc + 3) L st) : mz_W Γ ρ nL k n P pc L (.int len :: .int dp :: .ref dst :: .int sp :: .ref src :: st) := by
  obtain ⟨p, l', e, R, s, m, args, below, meth, c, H0, A, Q⟩ := Γ
  obtain ⟨-, hx, hb, hml, hown, hts, hK, -, -, rfl⟩ := C
  obtain ⟨Qc, mc, ms, -, -, rfl⟩ := E
  intro H ls locs hPq hS hl T hT X
  have hP := hPH H hPq
  have nn : ∀ z : Int32, ¬ z < 0 → z.toInt = (z.toNatClampNeg : Int) := by
    intro z hz
    have hz0 : (0 : Int) ≤ z.toInt := by
      have := Int32.not_lt.mp hz
      simpa using Int32.le_iff_toInt_le.mp this
    show z.toInt = ((z.toInt.toNat : Nat) : Int)
    omega
  have hc0 : H[ρ src]? = some (vp_cell (cA 0) (n0, .inl (M src))) := hP src _ hs
  have hc1 : H[ρ dst]? = some (vp_cell (cA 0) (n1, .inl (M dst))) := hP dst _ hdst
  obtain ⟨-, k0, hk0, cm0, hkk0⟩ := (hK.1.2 t0 _ hty).1 n0 (fun j => .int (M src j))
  obtain ⟨-, k1, hk1, cm1, hkk1⟩ := (hK.1.2 t0 _ hty).1 n1 (fun j => .int (M dst j))
  obtain ⟨vm', X', step⟩ := X.arraycopy hx hown (hts _ wl) (hts _ wn) (hts _ ws) (hts _ wi) (src := ρ src) (dst := ρ dst) (cs := vp_cell (cA 0) (n0, .inl (M src))) (cd := vp_cell (cA 0) (n1, .inl (M dst))) (srcPos := sp) (destPos := dp) (n := len) (by rw [hT]; exact hc0) (by rw [hT]; exact hc1)
    (fun _ h => by cases h) (fun _ h => by cases h) (fun h => by cases h) (fun h => by cases h) hk0 hk1 hkk0 hkk1 (by simp [refKind]) h1 h2 h3
    (by rw [nn sp h1, nn len h3]; show ¬ _ > ((arrV (cA 0) n0 (fun j => .int (M src j))).slots.size : Int); rw [arrV_size]; omega)
    (by rw [nn dp h2, nn len h3]; show ¬ _ > ((arrV (cA 0) n1 (fun j => .int (M dst j))).slots.size : Int); rw [arrV_size]; omega)
    (fun vm₁ _ i hi => by
      have e : (vp_cell (cA 0) (n0, .inl (M src))).slots.getD (sp.toNatClampNeg + i) .null = .int (M src (sp.toNatClampNeg + i)) := by
        show (arrV (cA 0) n0 (fun j => .int (M src j))).slots.getD _ _ = _
        rw [Array.getD_eq_getD_getElem?, arrV_read _ _ (by omega)]
        rfl
      refine ⟨?_, ?_⟩
      · rw [e]
        rfl
      · rw [e]
        exact trivial)
    (g := F0 m pc ls ((.int len :: .int dp :: .ref dst :: .int sp :: .ref src :: st).map (mz_e ρ))) rfl (by rw [hml]; exact hl.1) (rest := st.map (mz_e ρ)) rfl (by rw [hb]; exact hd) hf (by rw [mz_sumcat]; show 2 * 0 + _ + _ ≤ _; omega)
  have e1 : copied (vp_cell (cA 0) (n0, .inl (M src))) (vp_cell (cA 0) (n1, .inl (M dst))) sp dp len = vp_cell (cA 0) (n1, .inl (va_cpy (M src) (M dst) sp.toNatClampNeg dp.toNatClampNeg len.toNatClampNeg)) := va_copied (fun z => .int z) (cA 0) (cA 0) (M src) (M dst) h4
  rw [e1] at X' step
  generalize va_cpy (M src) (M dst) sp.toNatClampNeg dp.toNatClampNeg len.toNatClampNeg = fz at hP' X' step
  have hlt : ρ dst < H.size := (Array.getElem?_eq_some_iff.mp hc1).1
  have hheap : ((T.setVm vm').setCell (ρ dst) (vp_cell (cA 0) (n1, .inl fz))).heap = H.setIfInBounds (ρ dst) (vp_cell (cA 0) (n1, .inl fz)) := by rw [← hT]; rfl
  have oq : ∀ q : Nat, q ≠ ρ dst → (H.setIfInBounds (ρ dst) (vp_cell (cA 0) (n1, .inl fz)))[q]? = H[q]? := fun q hq => by simp [Array.getElem?_setIfInBounds, Ne.symm hq]
  have hsz : (H.setIfInBounds (ρ dst) (vp_cell (cA 0) (n1, .inl fz))).size = H.size := by simp
  have hself : (H.setIfInBounds (ρ dst) (vp_cell (cA 0) (n1, .inl fz)))[ρ dst]? = some (vp_cell (cA 0) (n1, .inl fz)) := by simp [Array.getElem?_setIfInBounds, hlt]
  generalize H.setIfInBounds (ρ dst) (vp_cell (cA 0) (n1, .inl fz)) = H1 at hheap oq hsz hself
  obtain ⟨t, a1, b1⟩ := kk H1 ls _ (hP' H H1 hPq (mz_H_put (f := fz) hI hP hdst (by
    show H1[ρ dst]? = some (vp_cell (cA 0) (n1, .inl (mz_s M dst fz dst)))
    rw [mz_s_eq]; exact hself) oq) hsz oq) ⟨by rw [hsz]; exact hS.1, fun q g1 g2 => by
      rw [oq q (fun e => g2 (by rw [e]; exact hA))]
      exact hS.2.1 q g1 g2, fun q hq => by
      rcases List.mem_append.mp hq with h | h
      · exact hS.2.2 q h
      · obtain ⟨z, -, hz⟩ := List.mem_map.mp h
        rw [← hz]
        exact hA⟩ hl _ hheap X'
  exact ⟨t, step t a1, b1⟩
/-- Math.min -/
theorem mz_minW {x y2 : Int32} (C : mz_C Γ l own cc nL ret D cl tys rm) (wl : Cond.methodLink own index Lib.Math.min.name ∈ mz_ws) (ws : Cond.static Lib.Math.min.name ∈ mz_ws) (wi : Cond.initialized "java/lang/Math" ∈ mz_ws) (wc : Cond.code Lib.Math.min.name Lib.Math.min.code 2 (some .int) ∈ mz_ws)
    (hf : 1 ≤ rm.frames) (hlo : (st.map fun v => v.category).sum + 13 ≤ rm.locals) (hk : k ≤ rm.cells) (hn : n ≤ rm.slots) (hd : decode cc pc = .ok (.invokestatic index, 3)) (kk : mz_W Γ ρ nL k n P (pc + 3) L (.int (if y2 < x then y2 else x) :: st)) : mz_W Γ ρ nL k n P pc L (.int y2 :: .int x :: st) := by
  obtain ⟨p, l', e, R, s, m, args, below, meth, c, H0, A, Q⟩ := Γ
  obtain ⟨-, hx, hb, hml, hown, hts, hK, -, -, rfl⟩ := C
  exact fun H ls locs hP hS hl => va_mmin hx hb (by rw [hml]; exact hl.1.symm) hown (hts _ wl) (hts _ ws) (hts _ wi) (hts _ wc) hf (by rw [mz_sumcat]; exact hlo) hk hn hd (kk H ls locs hP hS hl)
end MZJ
