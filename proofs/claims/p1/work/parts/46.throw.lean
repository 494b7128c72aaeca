/-! what is thrown: contracts of methods that end with an exception, nothing changed -/
def mz_xN : List String := ["java/lang/RuntimeException", "java/lang/Exception"]
def mz_IO : String := "java/lang/IndexOutOfBoundsException"
def mz_IA : String := "java/lang/IllegalArgumentException"
def mz_strs : List (Nat × String) := [(37, "a CAPACITY is 1 to 30"), (426, "no such ROOM"), (429, "no such TRACK"), (431, "no such PROP"), (433, "no such SCENE"), (435, "no such GUEST"), (437, "nothing has this number to be asked by"), (439, "too few or too many minutes")]
/-- the statics and texts that a new exception reads -/
def mz_X (A : Nat → Prop) (U : State) (H : Heap) : Prop := vx_Zq Bundle.tN "UNASSIGNED_STACK" Bundle.steD A U H ∧ vx_Zq Bundle.tN "SUPPRESSED_SENTINEL" Bundle.listD A U H ∧ ∀ q ∈ mz_strs, ∃ sa : Nat, vk_R RX9 q.1 q.2 sa U
theorem mz_X.to {A B : Nat → Prop} {s U : State} {H : Heap} (hW : s.WarmedH U.vm) (hS : ∀ a : Nat, a < s.heap.size → ¬ A a → H[a]? = s.heap[a]?) (hAB : ∀ q, B q → A q) (h : mz_X A s s.heap) : mz_X B U H :=
  ⟨vx_Zq.moved hW.alike ((h.1.kept hS).narrow hAB), vx_Zq.moved hW.alike ((h.2.1.kept hS).narrow hAB), fun q hq => by
    obtain ⟨sa, h1⟩ := h.2.2 q hq
    exact ⟨sa, vk_R.warm hW h1⟩⟩
def mz_Ao : Nat → Prop := fun _ => False
def mz_PT (D : va_G) (cl : List vw_C) (cA : Nat → ClassId) (As : List Value) (Pre : Heap → Prop) : Array Value → State → Prop := va_Pc As (fun U => Pre U.heap ∧ mz_KR D cl cA U ∧ mz_X mz_Ao U U.heap)
def mz_XC (E0 : String) : String → State → State → Prop := fun E st t => E = E0 ∧ va_F mz_Ao st t
def mz_QF : Array Value → State → Outcome → State → Prop := fun _ _ _ _ => False
/-- A CONTRACT: from heaps with Pre the method throws E0, one new cell, nothing changed -/
def mz_TC (l : Launch) (D : va_G) (cl : List vw_C) (cA : Nat → ClassId) (y : MethodName) (cc : ByteArray) (nL : Nat) (ret : Option FieldType) (fr lo : Nat) (As : List Value) (Pre : Heap → Prop) (E0 : String) : Prop :=
  vx_Met l y (Cond.code y cc nL ret :: mz_ws) { frames := fr, cells := 1, slots := 6, locals := lo } (mz_PT D cl cA As Pre) mz_QF (mz_XC E0) 1 6 mz_Ao
theorem mz_blindT {D : va_G} {cl : List vw_C} {cA : Nat → ClassId} {As : List Value} {B : Heap → Prop} : FrameBlind (mz_PT D cl cA As B) := by
  intro a U g mk h
  obtain ⟨h1, h2, h3, h4⟩ := h
  refine ⟨h1, h2, mz_KR.same (s := U) (U := U.calling g mk a) rfl h3, ?_, ?_, fun q hq => ?_⟩
  · exact vx_Zq.moved (u := U) (U := U.calling g mk a) (Vm.Alike.refl U.vm) h4.1
  · exact vx_Zq.moved (u := U) (U := U.calling g mk a) (Vm.Alike.refl U.vm) h4.2.1
  · obtain ⟨sa, h5⟩ := h4.2.2 q hq
    exact ⟨sa, vk_R.same (u := U) (U := U.calling g mk a) rfl h5⟩
/-- what is wanted of a body that throws -/
def mz_EX (Γ : mz_G) (E0 : String) : Prop :=
  match Γ with
  | (_, l, _, _, s, _, args, below, _, c, H0, A, Q) => Q = vx_MQ below mz_QF (mz_XC E0) args s 1 6 mz_Ao ∧ H0 = s.heap ∧ A = mz_Ao ∧ (∀ x ∈ c.exceptionTable.toList, False) ∧ mz_X mz_Ao s s.heap ∧ l.stackTraces = false
theorem mz_introT {l : Launch} (hl0 : l.stackTraces = false) {D : va_G} {cl : List vw_C} {cA : Nat → ClassId} {ρ : Nat → Nat} {y : MethodName} {cc : ByteArray} {nL fr lo : Nat} {ret : Option FieldType} {As As0 : List Value} {Pre : Heap → Prop} {E0 : String}
    (hy : plainName y.cls = true) (hlen : (lg_sl As0).length ≤ nL) (hAs : As = As0.map (mz_e ρ))
    (body : ∀ Γ : mz_G, mz_C Γ l y.cls cc nL ret D cl (mz_ty cA) { frames := fr, cells := 1, slots := 6, locals := lo } → mz_AO Γ.2.2.2.2.1 → mz_EX Γ E0 → mz_W Γ ρ nL 0 0 Pre 0 (lv_args 0 As0) []) :
    mz_TC l D cl cA y cc nL ret fr lo As Pre E0 := by
  subst hAs
  refine vx_ofW (cc := cc) (maxL := nL) (ret := ret) hy rfl ?_
  intro p e s m args below meth c s₁ B hml hout hv
  obtain ⟨rfl, hP, hK, hX⟩ := hv
  have hts := atoms_spec (ws := Cond.code y cc nL ret :: mz_ws) B.pre
  rw [lg_entry_eq]
  have hl := lv_entry (As0.map (mz_e ρ)) (n := nL) (by rw [mz_sl_len]; exact hlen)
  rw [mz_args_map] at hl
  exact body (p, l, e, { frames := fr, cells := 1, slots := 6, locals := lo }, s, m, (As0.map (mz_e ρ)).toArray, below, meth, c, s.heap, mz_Ao, vx_MQ below mz_QF (mz_XC E0) (As0.map (mz_e ρ)).toArray s 1 6 mz_Ao)
    ⟨rfl, B.exec, B.bytes, hml, findClass_of_methodNamed B.named, fun w hw => hts w (List.mem_cons_of_mem _ hw), hK.1, B.notSynchronized, B.returns, rfl⟩ hK.2 ⟨rfl, rfl, rfl, hout, hX, hl0⟩
    s.heap _ [] hP va_S.rf hl
/-- the words of a throw -/
def mz_xw (own : String) (ik ic : Nat) (cls : String) : Bool := (Cond.classLink own ik cls :: Cond.initialized cls :: vx_atS own ic cls mz_xN).all (fun w => vx_ot w) && (vx_atS own ic cls mz_xN).all (fun w => decide (w ∈ lw_tbl) && (goodWord w || mz_nest w))
theorem mz_hat {own cls : String} {ik ic : Nat} {args : Array Value} {s : State} (h : mz_xw own ik ic cls = true) (hts : ∀ w ∈ mz_ws, w.before args s = true) (hn : ∀ w ∈ mz_wn, va_Nw w s) : (∀ w ∈ vx_atS own ic cls mz_xN, w.before args s = true) ∧ ∀ w ∈ Cond.classLink own ik cls :: Cond.initialized cls :: vx_atS own ic cls mz_xN, vx_ot w = true := by
  unfold mz_xw at h
  rw [Bool.and_eq_true] at h
  refine ⟨fun w hw => ?_, fun w hw => List.all_eq_true.mp h.1 w hw⟩
  have h2 := List.all_eq_true.mp h.2 w hw
  rw [Bool.and_eq_true, decide_eq_true_eq, Bool.or_eq_true] at h2
  rcases h2.2 with g | g
  · exact hts w (List.mem_filter.mpr ⟨h2.1, g⟩)
  · have := hn w (List.mem_filter.mpr ⟨h2.1, g⟩)
    exact va_tabs (A := #[]) (A' := args) (mz_nest_tabs g) (rfl : s.vm = s.vm) this
section MZT2
variable {Γ : mz_G} {l : Launch} {own : String} {cc : ByteArray} {nL k n : Nat} {ret : Option FieldType} {D : va_G} {cl : List vw_C} {cA : Nat → ClassId} {tys : List (ClassId × FieldType)} {rm : Room} {ρ : Nat → Nat} {P Pre : Heap → Prop}
variable {pc : Nat} {L : List (Nat × Value)} {st : List Value} {E0 : String}
theorem mz_throwS {ik is ic : Nat} {text : String} (C : mz_C Γ l RX9 cc nL ret D cl tys rm) (E : mz_EX Γ E0) (hw : mz_xw RX9 ik ic E0 = true) (hfit : Bundle.fit E0 = true) (hnames : ∀ n ∈ mz_xN, Bundle.fit n = true) (hk : Cond.classLink RX9 ik E0 ∈ mz_ws) (hini : Cond.initialized E0 ∈ mz_ws) (hs : (is, text) ∈ mz_strs)
    (d0 : decode cc pc = .ok (.new ik, 3)) (d3 : decode cc (pc + 3) = .ok (.dup, 1)) (d4 : decode cc (pc + 4) = .ok (.ldc is, 2)) (d6 : decode cc (pc + 6) = .ok (.invokespecial ic, 3)) (d9 : decode cc (pc + 9) = .ok (.athrow, 1))
    (hf : 5 < rm.frames) (hlo : (st.map fun v => v.category).sum + 82 ≤ rm.locals) (hc : rm.cells = 1 ∧ rm.slots = 6) : mz_W Γ ρ nL 0 0 P pc L st := by
  obtain ⟨p, l', e, R, s, m, args, below, meth, c, H0, A, Q⟩ := Γ
  obtain ⟨rfl, hx, hb, hml, hown, hts, hK, hlk, -, rfl⟩ := C
  obtain ⟨rfl, rfl, rfl, hout, hX, hl0⟩ := E
  obtain ⟨sa, hsa⟩ := hX.2.2 _ hs
  obtain ⟨hat, hgood⟩ := mz_hat hw hts hK.2
  intro H ls locs hP hS hl
  exact vx_throwS (sa := sa) hx hb hl0 hown hfit hnames (hts _ hk) (hts _ hini) hsa hat hgood hX.1 hX.2.1 hS (hl.1.trans hml.symm) d0 d3 d4 d6 d9 (fun x hx => (hout x hx).elim)
    hf (by rw [mz_sumcat]; exact hlo) (by rw [hc.1]; decide) (by rw [hc.2]; decide) hlk (fun t _ h1 h2 => ⟨rfl, Nat.le_trans hS.1 h1, fun q hq hA => (h2 q (Nat.lt_of_lt_of_le hq hS.1)).trans (hS.2.1 q hq hA)⟩) (fun q hq => hS.2.2 q hq) (by decide) (by decide)
theorem mz_throwSW {ik is ic : Nat} {text : String} (C : mz_C Γ l RX9 cc nL ret D cl tys rm) (E : mz_EX Γ E0) (hw : mz_xw RX9 ik ic E0 = true) (hfit : Bundle.fit E0 = true) (hnames : ∀ n ∈ mz_xN, Bundle.fit n = true) (hk : Cond.classLink RX9 ik E0 ∈ mz_ws) (hini : Cond.initialized E0 ∈ mz_ws) (hs : (is, text) ∈ mz_strs)
    (d0 : decode cc pc = .ok (.new ik, 3)) (d3 : decode cc (pc + 3) = .ok (.dup, 1)) (d4 : decode cc (pc + 4) = .ok (.ldc_w is, 3)) (d7 : decode cc (pc + 7) = .ok (.invokespecial ic, 3)) (d10 : decode cc (pc + 10) = .ok (.athrow, 1))
    (hf : 5 < rm.frames) (hlo : (st.map fun v => v.category).sum + 82 ≤ rm.locals) (hc : rm.cells = 1 ∧ rm.slots = 6) : mz_W Γ ρ nL 0 0 P pc L st := by
  obtain ⟨p, l', e, R, s, m, args, below, meth, c, H0, A, Q⟩ := Γ
  obtain ⟨rfl, hx, hb, hml, hown, hts, hK, hlk, -, rfl⟩ := C
  obtain ⟨rfl, rfl, rfl, hout, hX, hl0⟩ := E
  obtain ⟨sa, hsa⟩ := hX.2.2 _ hs
  obtain ⟨hat, hgood⟩ := mz_hat hw hts hK.2
  intro H ls locs hP hS hl
  exact vx_throwSW (sa := sa) hx hb hl0 hown hfit hnames (hts _ hk) (hts _ hini) hsa hat hgood hX.1 hX.2.1 hS (hl.1.trans hml.symm) d0 d3 d4 d7 d10 (fun x hx => (hout x hx).elim)
    hf (by rw [mz_sumcat]; exact hlo) (by rw [hc.1]; decide) (by rw [hc.2]; decide) hlk (fun t _ h1 h2 => ⟨rfl, Nat.le_trans hS.1 h1, fun q hq hA => (h2 q (Nat.lt_of_lt_of_le hq hS.1)).trans (hS.2.1 q hq hA)⟩) (fun q hq => hS.2.2 q hq) (by decide) (by decide)
theorem mz_runT {p : Program} {l : Launch} {e : Env} {R : Room} {s : State} {m : MethodId} {args : Array Value} {below : List Frame} {meth : Method} {c : Code} {H : Heap} {locs : List Loc} {ls : Array Slot} {stk rest : List Value} {a : Array Value} (hlk : meth.locks = false) (hout : ∀ x ∈ c.exceptionTable.toList, False) (hS : va_S mz_Ao s.heap H locs)
    (hrun : vx_Run p l e R s m args below meth c H locs 0 0 1 6 (F0 m pc ls stk) rest (mz_QF a) (mz_XC E0) mz_Ao) : W p l e R s m args below meth c H locs 0 0 (vx_MQ below mz_QF (mz_XC E0) args s 1 6 mz_Ao) (F0 m pc ls stk) := by
  intro T hT X
  rcases hrun T hT X with ⟨v, st₀, t, T', L1, h0, X', hL, e1, e2, hq, stp⟩ | ⟨q, st₀, t, T', L1, E, ce, h0, X', hL, e1, e2, hx, hce, hcv, hcl, stp⟩
  · exact hq.elim
  · obtain ⟨rfl, hz, hkk⟩ := hx
    rw [h0] at hz hkk
    obtain ⟨t2, a1, b1⟩ := vx_out (pc := pc) (rest := rest) (ls := ls) (Qc := mz_QF) (XC := mz_XC E) (free := mz_Ao) (mc := 1) (ms := 6) (cells := 0 + 1) (slots := 0 + 6) (H := T'.heap) (locs := locs ++ L1) (fun x hx => (hout x hx).elim) hlk (by rw [e1]; exact hce) hcv hcl
      (fun t9 h9 _ => ⟨rfl, by rw [h9, e1]; exact Nat.le_trans hS.1 hz, fun q hq hA => by rw [h9, e1, hkk q (Nat.lt_of_lt_of_le hq hS.1) hA]; exact hS.2.1 q hq hA⟩)
      (fun q hq => by
        rcases List.mem_append.mp hq with h | h
        · exact hS.2.2 q h
        · exact hL q h) (by decide) (by decide) T' rfl X'
    exact ⟨t2, stp.trans a1, b1⟩
/-- a callee that throws, called on an object -/
theorem mz_callT {y : MethodName} {ccy : ByteArray} {nLy fry loy ny index ci b N : Nat} {T : u_T} {rety : Option FieldType} {As rest : List Value} (C : mz_C Γ l own cc nL ret D cl (mz_ty cA) rm) (hO : mz_AO Γ.2.2.2.2.1) (E : mz_EX Γ E0) (F : mz_TC l D cl cA y ccy nLy rety fry loy (.ref b :: As) Pre E0)
    (hPre : ∀ H, P H → Pre H) (hat : ∀ H, P H → ∃ fs, va_at D cl (b, .inr (ci, fs)) H) (hY : mz_Y y ccy nLy rety ny) (wl : Cond.methodLink own index y ∈ mz_ws) (hcl : cl[ci]? = some (y.cls, T, N)) (hn : As.length = ny)
    (hR : fry + 1 ≤ rm.frames ∧ 8 + (nLy + 11) + loy ≤ rm.locals) (hk : rm.cells = 1 ∧ rm.slots = 6) (hst : (rest.map fun v => v.category).sum ≤ 8) (hd : decode cc pc = .ok (.invokevirtual index, 3)) (hs : st.map (mz_e ρ) = As.reverse ++ .ref b :: rest.map (mz_e ρ)) : mz_W Γ ρ nL 0 0 P pc L st := by
  obtain ⟨p, l', e, R, s, m, args, below, meth, c, H0, A, Q⟩ := Γ
  obtain ⟨rfl, hx, hb, hml, hown, hts, hK, hlk, -, rfl⟩ := C
  obtain ⟨rfl, rfl, rfl, hout, hX, hl0⟩ := E
  obtain ⟨y1, y2, y3, y4, y5⟩ := hY
  intro H ls locs hPq hS hl
  obtain ⟨fs, hat⟩ := hat H hPq
  have cw : CallW R s args own y.cls index y ccy nLy rety (Cond.code y ccy nLy rety :: mz_ws) { frames := fry, cells := 1, slots := 6, locals := loy } 1 6 ny :=
    ⟨callB_of ny hts (mz_good y4) rfl rfl rfl (hts _ y3) (hts _ wl) y5 hR, hts _ y1, hts _ y2⟩
  refine mz_runT hlk hout hS (vx_runV (locs := locs) (cells := 0) (slots := 0) (meth := meth) (e := e) (below := below) (g := F0 m pc ls (st.map (mz_e ρ))) (rest := rest.map (mz_e ρ)) (As := As) (b := b) (H := H) ⟨hx, hb, hml, hown, hts⟩ F cw
    ⟨mz_blindT, va_recv hK.1 (mz_one hat) hcl (q0 := 0) rfl, fun U hU hW => ⟨rfl, by rw [hU]; exact hPre H hPq, mz_KR.warm hW ⟨hK, hO⟩, by rw [hU]; exact mz_X.to hW hS.2.1 (fun _ h => h) hX⟩⟩ rfl hn hl.1 hs (lv_room (by rw [mz_sumcat]; exact hst)) hd ⟨by rw [hk.1]; decide, by rw [hk.2]; decide⟩)
/-- a static callee that throws -/
theorem mz_callTS {y : MethodName} {ccy : ByteArray} {nLy fry loy ny index : Nat} {rety : Option FieldType} {As rest : List Value} (C : mz_C Γ l own cc nL ret D cl (mz_ty cA) rm) (hO : mz_AO Γ.2.2.2.2.1) (E : mz_EX Γ E0) (F : mz_TC l D cl cA y ccy nLy rety fry loy As Pre E0)
    (hPre : ∀ H, P H → Pre H) (hY : mz_YS y ccy nLy rety ny) (wl : Cond.methodLink own index y ∈ mz_ws) (hn : As.length = ny)
    (hR : fry + 1 ≤ rm.frames ∧ 8 + (nLy + 11) + loy ≤ rm.locals) (hk : rm.cells = 1 ∧ rm.slots = 6) (hst : (rest.map fun v => v.category).sum ≤ 8) (hd : decode cc pc = .ok (.invokestatic index, 3)) (hs : st.map (mz_e ρ) = As.reverse ++ rest.map (mz_e ρ)) : mz_W Γ ρ nL 0 0 P pc L st := by
  obtain ⟨p, l', e, R, s, m, args, below, meth, c, H0, A, Q⟩ := Γ
  obtain ⟨rfl, hx, hb, hml, hown, hts, hK, hlk, -, rfl⟩ := C
  obtain ⟨rfl, rfl, rfl, hout, hX, hl0⟩ := E
  obtain ⟨y1, y3, y4, y5⟩ := hY
  intro H ls locs hPq hS hl
  have cw : CallB R s args own index y ccy nLy rety (Cond.code y ccy nLy rety :: mz_ws) { frames := fry, cells := 1, slots := 6, locals := loy } 1 6 ny ∧ (Cond.static y).before args s = true :=
    ⟨callB_of ny hts (mz_good y4) rfl rfl rfl (hts _ y3) (hts _ wl) y5 hR, hts _ y1⟩
  refine mz_runT hlk hout hS (vx_runS (locs := locs) (cells := 0) (slots := 0) (meth := meth) (e := e) (below := below) (g := F0 m pc ls (st.map (mz_e ρ))) (rest := rest.map (mz_e ρ)) (As := As) (H := H) ⟨hx, hb, hml, hown, hts⟩ F cw
    ⟨mz_blindT, fun U hU hW => ⟨rfl, by rw [hU]; exact hPre H hPq, mz_KR.warm hW ⟨hK, hO⟩, by rw [hU]; exact mz_X.to hW hS.2.1 (fun _ h => h) hX⟩⟩ rfl hn hl.1 hs (lv_room (by rw [mz_sumcat]; exact hst)) hd ⟨by rw [hk.1]; decide, by rw [hk.2]; decide⟩)
end MZT2
theorem mz_fitN : ∀ n ∈ mz_xN, Bundle.fit n = true := by decide +kernel
theorem mz_xw_io : mz_xw RX9 424 428 mz_IO = true := by decide +kernel
theorem mz_xw_ia : mz_xw RX9 35 39 mz_IA = true := by decide +kernel
