/-! what is thrown: contracts of methods that end with an exception, in a world of its own; calls, whatever is wanted at the end -/
def mz_xN : List String := ["java/lang/RuntimeException", "java/lang/Exception"]
def mz_IS : String := "java/lang/IllegalStateException"
def mz_strs : List (Nat × String) := [(233, "the TRACK can not be PLAYED by the other one")]
/-- the statics and texts that a new exception reads -/
def mz_X (A : Nat → Prop) (U : State) (H : Heap) : Prop := vx_Zq Bundle.tN "UNASSIGNED_STACK" Bundle.steD A U H ∧ vx_Zq Bundle.tN "SUPPRESSED_SENTINEL" Bundle.listD A U H ∧ ∀ q ∈ mz_strs, ∃ sa : Nat, vk_R RX9 q.1 q.2 sa U
theorem mz_X.to {A B : Nat → Prop} {s U : State} {H : Heap} (hW : s.WarmedH U.vm) (hS : ∀ a : Nat, a < s.heap.size → ¬ A a → H[a]? = s.heap[a]?) (hAB : ∀ q, B q → A q) (h : mz_X A s s.heap) : mz_X B U H :=
  ⟨vx_Zq.moved hW.alike ((h.1.kept hS).narrow hAB), vx_Zq.moved hW.alike ((h.2.1.kept hS).narrow hAB), fun q hq => by
    obtain ⟨sa, h1⟩ := h.2.2 q hq
    exact ⟨sa, vk_R.warm hW h1⟩⟩
def mz_PTA (A : Nat → Prop) (D : va_G) (cl : List vw_C) (cA : Nat → ClassId) (As : List Value) (Pre : Heap → Prop) : Array Value → State → Prop := va_Pc As (fun U => Pre U.heap ∧ mz_KR D cl cA U ∧ mz_X A U U.heap)
def mz_XCA (E0 : String) (Post : Heap → Prop) (A : Nat → Prop) : String → State → State → Prop := fun E st t => E = E0 ∧ Post t.heap ∧ va_F A st t
def mz_QF : Array Value → State → Outcome → State → Prop := fun _ _ _ _ => False
def mz_XF : String → State → State → Prop := fun _ _ _ => False
/-- A CONTRACT: from heaps with Pre the method throws E0, one new cell, the heap has Post, nothing outside A has changed -/
def mz_TJ (l : Launch) (D : va_G) (cl : List vw_C) (cA : Nat → ClassId) (y : MethodName) (cc : ByteArray) (nL : Nat) (ret : Option FieldType) (fr lo : Nat) (As : List Value) (Pre : Heap → Prop) (E0 : String) (Post : Heap → Prop) (A : Nat → Prop) : Prop :=
  vx_Met l y (Cond.code y cc nL ret :: mz_ws) { frames := fr, cells := 1, slots := 6, locals := lo } (mz_PTA A D cl cA As Pre) mz_QF (mz_XCA E0 Post A) 1 6 A
theorem mz_blindA {A : Nat → Prop} {D : va_G} {cl : List vw_C} {cA : Nat → ClassId} {As : List Value} {B : Heap → Prop} : FrameBlind (mz_PTA A D cl cA As B) := by
  intro a U g mk h
  obtain ⟨h1, h2, h3, h4⟩ := h
  refine ⟨h1, h2, mz_KR.same (s := U) (U := U.calling g mk a) rfl h3, ?_, ?_, fun q hq => ?_⟩
  · exact vx_Zq.moved (u := U) (U := U.calling g mk a) (Vm.Alike.refl U.vm) h4.1
  · exact vx_Zq.moved (u := U) (U := U.calling g mk a) (Vm.Alike.refl U.vm) h4.2.1
  · obtain ⟨sa, h5⟩ := h4.2.2 q hq
    exact ⟨sa, vk_R.same (u := U) (U := U.calling g mk a) rfl h5⟩
/-- what may be changed by a body -/
def mz_gA (Γ : mz_G) : Nat → Prop := Γ.2.2.2.2.2.2.2.2.2.2.2.1
/-- what is wanted of a body that throws -/
def mz_EXA (Γ : mz_G) (E0 : String) (Post : Heap → Prop) (A0 : Nat → Prop) : Prop :=
  match Γ with
  | (_, l, _, _, s, _, args, below, _, c, H0, A, Q) => Q = vx_MQ below mz_QF (mz_XCA E0 Post A0) args s 1 6 A0 ∧ H0 = s.heap ∧ A = A0 ∧ (∀ x ∈ c.exceptionTable.toList, False) ∧ mz_X A0 s s.heap ∧ l.stackTraces = false
theorem mz_introTA {l : Launch} (hl0 : l.stackTraces = false) {D : va_G} {cl : List vw_C} {cA : Nat → ClassId} {ρ : Nat → Nat} {y : MethodName} {cc : ByteArray} {nL fr lo : Nat} {ret : Option FieldType} {As As0 : List Value} {Pre Post : Heap → Prop} {E0 : String} {A : Nat → Prop}
    (hy : plainName y.cls = true) (hlen : (lg_sl As0).length ≤ nL) (hAs : As = As0.map (mz_e ρ))
    (body : ∀ Γ : mz_G, mz_C Γ l y.cls cc nL ret D cl (mz_ty cA) { frames := fr, cells := 1, slots := 6, locals := lo } → mz_AQ cA Γ.2.2.2.2.1 → mz_EXA Γ E0 Post A → mz_W Γ ρ nL 0 0 Pre 0 (lv_args 0 As0) []) :
    mz_TJ l D cl cA y cc nL ret fr lo As Pre E0 Post A := by
  subst hAs
  refine vx_ofW (cc := cc) (maxL := nL) (ret := ret) hy rfl ?_
  intro p e s m args below meth c s₁ B hml hout hv
  obtain ⟨rfl, hP, hK, hX⟩ := hv
  have hts := atoms_spec (ws := Cond.code y cc nL ret :: mz_ws) B.pre
  rw [lg_entry_eq]
  have hl := lv_entry (As0.map (mz_e ρ)) (n := nL) (by rw [mz_sl_len]; exact hlen)
  rw [mz_args_map] at hl
  exact body (p, l, e, { frames := fr, cells := 1, slots := 6, locals := lo }, s, m, (As0.map (mz_e ρ)).toArray, below, meth, c, s.heap, A, vx_MQ below mz_QF (mz_XCA E0 Post A) (As0.map (mz_e ρ)).toArray s 1 6 A)
    ⟨rfl, B.exec, B.bytes, hml, findClass_of_methodNamed B.named, fun w hw => hts w (List.mem_cons_of_mem _ hw), hK.1, B.notSynchronized, B.returns, rfl⟩ hK.2 ⟨rfl, rfl, rfl, hout, hX, hl0⟩
    s.heap _ [] hP va_S.rf hl
/-- the words of a throw -/
def mz_xw (own : String) (ik ic : Nat) (cls : String) : Bool := (Cond.classLink own ik cls :: Cond.initialized cls :: vx_atS own ic cls mz_xN).all (fun w => vx_ot w) && (vx_atS own ic cls mz_xN).all (fun w => decide (w ∈ lw_tbl) && (goodWord w || mz_nest w))
theorem mz_hat {own cls : String} {ik ic : Nat} {args : Array Value} {s : State} (h : mz_xw own ik ic cls = true) (hts : ∀ w ∈ mz_ws, w.before args s = true) (hn : ∀ w ∈ mz_wn, va_Nw w s) : (∀ w ∈ vx_atS own ic cls mz_xN, w.before args s = true) ∧ ∀ w ∈ Cond.classLink own ik cls :: Cond.initialized cls :: vx_atS own ic cls mz_xN, vx_ot w = true := by
  unfold mz_xw at h
  rw [Bool.and_eq_true] at h
  refine ⟨fun w hw => ?_, fun w hw => List.all_eq_true.mp h.1 w hw⟩
  have h2 := List.all_eq_true.mp h.2 w hw
  rw [Bool.and_eq_true, decide_eq_true_eq, Bool.or_eq_true] at h2
  rcases h2.2 with g | g
  · exact hts w (List.mem_filter.mpr ⟨h2.1, g⟩)
  · have := hn w (List.mem_filter.mpr ⟨h2.1, g⟩)
    exact va_tabs (A := #[]) (A' := args) (mz_nest_tabs g) (rfl : s.vm = s.vm) this
section MZGC
variable {Γ : mz_G} {l : Launch} {own : String} {cc : ByteArray} {nL k n : Nat} {ret : Option FieldType} {D : va_G} {cl : List vw_C} {cA : Nat → ClassId} {rm : Room} {ρ : Nat → Nat} {P P' Pre Post : Heap → Prop} {A0 A1 : Nat → Prop}
variable {pc : Nat} {L : List (Nat × Value)} {st st' : List Value} {r : Option Value} {y : MethodName} {ccy : ByteArray} {nLy fry loy mcy msy ny index : Nat} {rety : Option FieldType} {As rest : List Value}
theorem mz_callG {ci b N : Nat} {T : u_T} (C : mz_C Γ l own cc nL ret D cl (mz_ty cA) rm) (hO : mz_AQ cA Γ.2.2.2.2.1) (EA : mz_gA Γ = A0) (F : mz_J l D cl cA y ccy nLy rety fry loy mcy msy (.ref b :: As) Pre r Post A1) (hA : ∀ q, A1 q → A0 q)
    (hPre : ∀ H, P H → Pre H) (hat : ∀ H, P H → ∃ fs, va_at D cl (b, .inr (ci, fs)) H) (hP' : ∀ H H', P H → Post H' → H.size ≤ H'.size → (∀ q, q < H.size → ¬ A1 q → H'[q]? = H[q]?) → P' H')
    (hY : mz_Y y ccy nLy rety ny) (wl : Cond.methodLink own index y ∈ mz_ws) (hcl : cl[ci]? = some (y.cls, T, N)) (hn : As.length = ny)
    (hR : fry + 1 ≤ rm.frames ∧ 8 + (nLy + 11) + loy ≤ rm.locals) (hk : k + mcy ≤ rm.cells ∧ n + msy ≤ rm.slots) (hst : (rest.map fun v => v.category).sum ≤ 8) (hd : decode cc pc = .ok (.invokevirtual index, 3))
    (kk : mz_W Γ ρ nL (k + mcy) (n + msy) P' (pc + 3) L st') (hs' : st'.map (mz_e ρ) = r.toList ++ rest.map (mz_e ρ)) (hs : st.map (mz_e ρ) = As.reverse ++ .ref b :: rest.map (mz_e ρ)) : mz_W Γ ρ nL k n P pc L st := by
  obtain ⟨p, l', e, R, s, m, args, below, meth, c, H0, A, Q⟩ := Γ
  obtain ⟨rfl, hx, hb, hml, hown, hts, hK, -, -, rfl⟩ := C
  replace EA : A = A0 := EA
  subst EA
  obtain ⟨y1, y2, y3, y4, y5⟩ := hY
  intro H ls locs hPq hS hl
  obtain ⟨fs, hat⟩ := hat H hPq
  have cw : CallW R s args own y.cls index y ccy nLy rety (Cond.code y ccy nLy rety :: mz_ws) { frames := fry, cells := mcy, slots := msy, locals := loy } mcy msy ny :=
    ⟨callB_of ny hts (mz_good y4) rfl rfl rfl (hts _ y3) (hts _ wl) y5 hR, hts _ y1, hts _ y2⟩
  have hrun := va_runV (locs := locs) (cells := k) (slots := n) (meth := meth) (e := e) (below := below) (g := F0 m pc ls (st.map (mz_e ρ))) (rest := rest.map (mz_e ρ)) (As := As) (b := b) (H := H) ⟨hx, hb, hml, hown, hts⟩ F cw
    ⟨mz_blindR, va_recv hK.1 (mz_one hat) hcl (q0 := 0) rfl, fun U hU hW => ⟨rfl, by rw [hU]; exact hPre H hPq, mz_KR.warm hW ⟨hK, hO⟩⟩⟩ rfl hn hl.1 hs (lv_room (by rw [mz_sumcat]; exact hst)) hd hk
  refine mz_runJ hrun hS hA fun H1 locs1 hp hz hkk hS1 => ?_
  rw [← hs']
  exact kk H1 ls locs1 (hP' H H1 hPq hp hz hkk) hS1 hl
theorem mz_callGS (C : mz_C Γ l own cc nL ret D cl (mz_ty cA) rm) (hO : mz_AQ cA Γ.2.2.2.2.1) (EA : mz_gA Γ = A0) (F : mz_J l D cl cA y ccy nLy rety fry loy mcy msy As Pre r Post A1) (hA : ∀ q, A1 q → A0 q)
    (hPre : ∀ H, P H → Pre H) (hP' : ∀ H H', P H → Post H' → H.size ≤ H'.size → (∀ q, q < H.size → ¬ A1 q → H'[q]? = H[q]?) → P' H')
    (hY : mz_YS y ccy nLy rety ny) (wl : Cond.methodLink own index y ∈ mz_ws) (hn : As.length = ny)
    (hR : fry + 1 ≤ rm.frames ∧ 8 + (nLy + 11) + loy ≤ rm.locals) (hk : k + mcy ≤ rm.cells ∧ n + msy ≤ rm.slots) (hst : (rest.map fun v => v.category).sum ≤ 8) (hd : decode cc pc = .ok (.invokestatic index, 3))
    (kk : mz_W Γ ρ nL (k + mcy) (n + msy) P' (pc + 3) L st') (hs' : st'.map (mz_e ρ) = r.toList ++ rest.map (mz_e ρ)) (hs : st.map (mz_e ρ) = As.reverse ++ rest.map (mz_e ρ)) : mz_W Γ ρ nL k n P pc L st := by
  obtain ⟨p, l', e, R, s, m, args, below, meth, c, H0, A, Q⟩ := Γ
  obtain ⟨rfl, hx, hb, hml, hown, hts, hK, -, -, rfl⟩ := C
  replace EA : A = A0 := EA
  subst EA
  obtain ⟨y1, y3, y4, y5⟩ := hY
  intro H ls locs hPq hS hl
  have cw : CallB R s args own index y ccy nLy rety (Cond.code y ccy nLy rety :: mz_ws) { frames := fry, cells := mcy, slots := msy, locals := loy } mcy msy ny ∧ (Cond.static y).before args s = true :=
    ⟨callB_of ny hts (mz_good y4) rfl rfl rfl (hts _ y3) (hts _ wl) y5 hR, hts _ y1⟩
  have hrun := va_runS (locs := locs) (cells := k) (slots := n) (meth := meth) (e := e) (below := below) (g := F0 m pc ls (st.map (mz_e ρ))) (rest := rest.map (mz_e ρ)) (As := As) (H := H) ⟨hx, hb, hml, hown, hts⟩ F cw
    ⟨mz_blindR, fun U hU hW => ⟨rfl, by rw [hU]; exact hPre H hPq, mz_KR.warm hW ⟨hK, hO⟩⟩⟩ rfl hn hl.1 hs (lv_room (by rw [mz_sumcat]; exact hst)) hd hk
  refine mz_runJ hrun hS hA fun H1 locs1 hp hz hkk hS1 => ?_
  rw [← hs']
  exact kk H1 ls locs1 (hP' H H1 hPq hp hz hkk) hS1 hl
theorem mz_callGI {b : Nat} (C : mz_C Γ l own cc nL ret D cl (mz_ty cA) rm) (hO : mz_AQ cA Γ.2.2.2.2.1) (EA : mz_gA Γ = A0) (F : mz_J l D cl cA y ccy nLy none fry loy mcy msy (.ref b :: As) Pre none Post A1) (hA : ∀ q, A1 q → A0 q)
    (hPre : ∀ H, P H → Pre H) (hP' : ∀ H H', P H → Post H' → H.size ≤ H'.size → (∀ q, q < H.size → ¬ A1 q → H'[q]? = H[q]?) → P' H')
    (wl : Cond.methodLink own index y ∈ mz_ws) (hY : Cond.instanceMethod y ∈ mz_ws ∧ Cond.initialized y.cls ∈ mz_ws ∧ Cond.code y ccy nLy none ∈ mz_ws ∧ (y.cls ≠ "java/lang/invoke/MethodHandle" ∧ y.cls ≠ "java/lang/invoke/VarHandle" ∧ (parseMethodDescriptor y.desc).map (fun d => d.parameters.length) = some ny)) (hy1 : y.name = "<init>") (hn : As.length = ny)
    (hR : fry + 1 ≤ rm.frames ∧ 8 + (nLy + 11) + loy ≤ rm.locals) (hk : k + mcy ≤ rm.cells ∧ n + msy ≤ rm.slots) (hst : (rest.map fun v => v.category).sum ≤ 8) (hd : decode cc pc = .ok (.invokespecial index, 3))
    (kk : mz_W Γ ρ nL (k + mcy) (n + msy) P' (pc + 3) L rest) (hs : st.map (mz_e ρ) = As.reverse ++ .ref b :: rest.map (mz_e ρ)) : mz_W Γ ρ nL k n P pc L st := by
  obtain ⟨p, l', e, R, s, m, args, below, meth, c, H0, A, Q⟩ := Γ
  obtain ⟨rfl, hx, hb, hml, hown, hts, hK, -, -, rfl⟩ := C
  replace EA : A = A0 := EA
  subst EA
  obtain ⟨y1, y3, y4, y5⟩ := hY
  intro H ls locs hPq hS hl
  have hrun := va_runI (locs := locs) (cells := k) (slots := n) (meth := meth) (e := e) (below := below) (g := F0 m pc ls (st.map (mz_e ρ))) (rest := rest.map (mz_e ρ)) (As := As) (b := b) (H := H) ⟨hx, hb, hml, hown, hts⟩ F ⟨callB_of ny hts (mz_good y4) rfl rfl rfl (hts _ y3) (hts _ wl) y5 hR, hy1, hts _ y1⟩
    ⟨mz_blindR, fun U hU hW => ⟨rfl, by rw [hU]; exact hPre H hPq, mz_KR.warm hW ⟨hK, hO⟩⟩⟩ rfl hn hl.1 hs (lv_room (by rw [mz_sumcat]; exact hst)) hd hk
  refine mz_runJ hrun hS hA fun H1 locs1 hp hz hkk hS1 => ?_
  exact kk H1 ls locs1 (hP' H H1 hPq hp hz hkk) hS1 hl
theorem mz_throwA {E0 : String} {ik is ic : Nat} {text : String} {tys : List (ClassId × FieldType)} (C : mz_C Γ l RX9 cc nL ret D cl tys rm) (E : mz_EXA Γ E0 Post A0) (hw : mz_xw RX9 ik ic E0 = true) (hfit : Bundle.fit E0 = true) (hnames : ∀ n ∈ mz_xN, Bundle.fit n = true) (hk : Cond.classLink RX9 ik E0 ∈ mz_ws) (hini : Cond.initialized E0 ∈ mz_ws) (hs : (is, text) ∈ mz_strs)
    (hP' : ∀ H H' : Heap, P H → H.size ≤ H'.size → (∀ q : Nat, q < H.size → H'[q]? = H[q]?) → Post H')
    (d0 : decode cc pc = .ok (.new ik, 3)) (d3 : decode cc (pc + 3) = .ok (.dup, 1)) (d4 : decode cc (pc + 4) = .ok (.ldc is, 2)) (d6 : decode cc (pc + 6) = .ok (.invokespecial ic, 3)) (d9 : decode cc (pc + 9) = .ok (.athrow, 1))
    (hf : 5 < rm.frames) (hlo : (st.map fun v => v.category).sum + 82 ≤ rm.locals) (hc : rm.cells = 1 ∧ rm.slots = 6) : mz_W Γ ρ nL 0 0 P pc L st := by
  obtain ⟨p, l', e, R, s, m, args, below, meth, c, H0, A, Q⟩ := Γ
  obtain ⟨rfl, hx, hb, hml, hown, hts, hK, hlk, -, rfl⟩ := C
  obtain ⟨rfl, rfl, rfl, hout, hX, hl0⟩ := E
  obtain ⟨sa, hsa⟩ := hX.2.2 _ hs
  obtain ⟨hat, hgood⟩ := mz_hat hw hts hK.2
  intro H ls locs hP hS hl
  exact vx_throwS (sa := sa) hx hb hl0 hown hfit hnames (hts _ hk) (hts _ hini) hsa hat hgood hX.1 hX.2.1 hS (hl.1.trans hml.symm) d0 d3 d4 d6 d9 (fun x hx => (hout x hx).elim)
    hf (by rw [mz_sumcat]; exact hlo) (by rw [hc.1]; decide) (by rw [hc.2]; decide) hlk (fun t _ h1 h2 => ⟨rfl, hP' H t.heap hP h1 h2, Nat.le_trans hS.1 h1, fun q hq hA => (h2 q (Nat.lt_of_lt_of_le hq hS.1)).trans (hS.2.1 q hq hA)⟩) (fun q hq => hS.2.2 q hq) (by decide) (by decide)
end MZGC
theorem mz_EXA.gA {Γ : mz_G} {E0 : String} {Post : Heap → Prop} {A0 : Nat → Prop} (E : mz_EXA Γ E0 Post A0) : mz_gA Γ = A0 := by
  obtain ⟨p, l', e, R, s, m, args, below, meth, c, H0, A, Q⟩ := Γ
  exact E.2.2.1
theorem mz_E.gA {Γ : mz_G} {Qc : Array Value → State → Outcome → State → Prop} {mc ms : Nat} {A0 : Nat → Prop} (E : mz_E Γ Qc mc ms A0) : mz_gA Γ = A0 := by
  obtain ⟨p, l', e, R, s, m, args, below, meth, c, H0, A, Q⟩ := Γ
  exact E.2.2
theorem mz_fitN : ∀ n ∈ mz_xN, Bundle.fit n = true := by decide +kernel
theorem mz_xw_is : mz_xw RX9 46 50 mz_IS = true := by decide +kernel
set_option maxHeartbeats 4000000 in
theorem t_play_no (l : Launch) (hl0 : l.stackTraces = false) (D : va_G) (cA : Nat → ClassId) (κ : Nat → Nat) (hκ : mz_I κ mz_lay2) (N : mz_Mem) (t b : Int32) (w1 : ¬ t < 0) (w2 : t < N 15 0) (w3 : ¬ b < 0) (w4 : b < N 15 0) (w5 : ¬ t = b) (w6 : g_X2_canDouble N t b = 0) :
    mz_TJ l D vwCl cA yX9_play cX9_play 3 (some .int) 6 115 [.ref (κ 0), .int t, .int b] (mz_CP D cA κ N) mz_IS (mz_CP D cA κ N) (mz_A κ mz_lay2) := by
  refine mz_introTA (ρ := κ) (As0 := [.ref 0, .int t, .int b]) hl0 (by decide +kernel) (Nat.le_of_ble_eq_true rfl) rfl (fun Γ C hO E => ?_)
  refine mz_all (fun M => mz_and (q := mz_EQ M N) (fun H h => h.1) (fun hE => mz_mono (P' := mz_H D vwCl cA κ mz_lay2 M) (fun H h => h.2) ?_))
  have t0 : M 15 0 = N 15 0 := congrFun (mz_md_r hE.1 rfl) 0
  refine mz_goP (lay := mz_lay2) (M := M) (cA := cA) (D := D) (cl := vwCl) (fun _ h => h) FLX9 KLX9 C [(0, .aload_n 0), (1, .iload_n 1)] (by decide +kernel) (pc' := 2) (L' := [(0, .ref 0), (1, .int t), (2, .int b)]) (st' := [.int t, .ref 0]) rfl ?_
  refine mz_callG (ci := 9) (T := TX9) (N := 4) (b := κ 0) (As := [.int t]) (rest := []) (index := 165) (P' := mz_H D vwCl cA κ mz_lay2 M) C hO E.gA (mz_J.of (f_X9_checkTrack l D cA κ hκ M t w1 (by rw [t0]; exact w2))) (fun _ h => h) (fun _ h => h) (fun H h => ⟨_, h 0 _ rfl⟩) (fun _ _ _ h _ _ => h) hy_X9_checkTrack wl_X9_165 rfl rfl ⟨Nat.le_of_ble_eq_true rfl, Nat.le_of_ble_eq_true rfl⟩ ⟨Nat.le_of_ble_eq_true rfl, Nat.le_of_ble_eq_true rfl⟩ (Nat.le_of_ble_eq_true rfl) (by decide +kernel) (st' := []) ?_ rfl rfl
  refine mz_goP (lay := mz_lay2) (M := M) (cA := cA) (D := D) (cl := vwCl) (fun _ h => h) FLX9 KLX9 C [(5, .aload_n 0), (6, .iload_n 2)] (by decide +kernel) (pc' := 7) (L' := [(0, .ref 0), (1, .int t), (2, .int b)]) (st' := [.int b, .ref 0]) rfl ?_
  refine mz_callG (ci := 9) (T := TX9) (N := 4) (b := κ 0) (As := [.int b]) (rest := []) (index := 165) (P' := mz_H D vwCl cA κ mz_lay2 M) C hO E.gA (mz_J.of (f_X9_checkTrack l D cA κ hκ M b w3 (by rw [t0]; exact w4))) (fun _ h => h) (fun _ h => h) (fun H h => ⟨_, h 0 _ rfl⟩) (fun _ _ _ h _ _ => h) hy_X9_checkTrack wl_X9_165 rfl rfl ⟨Nat.le_of_ble_eq_true rfl, Nat.le_of_ble_eq_true rfl⟩ ⟨Nat.le_of_ble_eq_true rfl, Nat.le_of_ble_eq_true rfl⟩ (Nat.le_of_ble_eq_true rfl) (by decide +kernel) (st' := []) ?_ rfl rfl
  refine mz_goP (lay := mz_lay2) (M := M) (cA := cA) (D := D) (cl := vwCl) (fun _ h => h) FLX9 KLX9 C [(10, .iload_n 1), (11, .iload_n 2)] (by decide +kernel) (pc' := 12) (L' := [(0, .ref 0), (1, .int t), (2, .int b)]) (st' := [.int b, .int t]) rfl ?_
  refine mz_ine (off := 13) (tgt := 25) C (by decide +kernel) (by decide) (fun _ => ?_) (fun h => absurd h w5)
  refine mz_goP (lay := mz_lay2) (M := M) (cA := cA) (D := D) (cl := vwCl) (fun _ h => h) FLX9 KLX9 C [(25, .aload_n 0), (26, .getfield 28), (29, .iload_n 1), (30, .iload_n 2)] (by decide +kernel) (pc' := 31) (L' := [(0, .ref 0), (1, .int t), (2, .int b)]) (st' := [.int b, .int t, .ref 30]) rfl ?_
  refine mz_callG (ci := 2) (T := TX2) (N := 8) (b := κ 30) (As := [.int t, .int b]) (rest := []) (index := 230) (P' := mz_H D vwCl cA κ mz_lay2 M) C hO E.gA (mz_J.of (mz_liftAR hκ (f_X2_canDouble l D cA κ (mz_I1 hκ) M t b))) (fun _ h => h) (fun _ h => h) (fun H h => ⟨_, h 30 _ rfl⟩) (fun _ _ _ h _ _ => h) hy_X2_canDouble wl_X9_230 rfl rfl ⟨Nat.le_of_ble_eq_true rfl, Nat.le_of_ble_eq_true rfl⟩ ⟨Nat.le_of_ble_eq_true rfl, Nat.le_of_ble_eq_true rfl⟩ (Nat.le_of_ble_eq_true rfl) (by decide +kernel) (st' := [.int (g_X2_canDouble M t b)]) ?_ rfl rfl
  refine mz_zne (off := 13) (tgt := 47) C (by decide +kernel) (by decide) (fun h => absurd ((mz_sp_canDouble hE t b).trans w6) h) (fun _ => ?_)
  exact mz_throwA (ik := 46) (is := 233) (ic := 50) (text := "the TRACK can not be PLAYED by the other one") C E mz_xw_is (by decide +kernel) mz_fitN (mz_in 130 (by decide +kernel) (by decide +kernel)) (mz_in 49 (by decide +kernel) (by decide +kernel)) (by decide +kernel) (fun H H' h _ hk => ⟨M, hE, fun k sh hsh => (h k sh hsh).kept (hk _ (h k sh hsh).lt)⟩) (by decide +kernel) (by decide +kernel) (by decide +kernel) (by decide +kernel) (by decide +kernel) (Nat.le_of_ble_eq_true rfl) (Nat.le_of_ble_eq_true rfl) ⟨rfl, rfl⟩
