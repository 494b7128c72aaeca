/-! THE CLAIM OUT OF ONE WALK OF THE LAW'S BODY. Your part is whole_start (and what it stands on); all else here is the same for every law, but numbers. -/
def R_law : String := "ManorLoopsLaw"
def lw_P (b : Addr) (xs : List Int32) (args : Array Value) (s : State) : Prop := args = #[.ref b] ∧ s.IntsAt b xs ∧ xs.length ≤ 6 ∧ (Jvm.Cond.and given_1 narrow_1).before args s = true
/-- what a walk over the start with the record d0 says of its end, said of the start itself -/
theorem lw_closed {s t : State} {o : Outcome} {d0 : Drawn} {L : List Loc} {k n : Nat} (hd0 : s.drawn.sameBut d0 lw_cs) (hv : ∃ v, o = .returned v) (hW : (s.setDrawn d0).WarmedH t.vm) (hs : (s.setDrawn d0).sameButNew ({ t with vm := s.vm } : State) L k n) : State.butDraws s t lw_cs (fun t1 => Framed s o t1 L k n) := by
  have h2 : t.drawn = d0 := congrArg State.drawn hs.1
  refine ⟨⟨hv, hW, State.sameButNew.setDrawn hs s.drawn⟩, ?_, by decide⟩
  rw [h2]
  exact hd0
def lw_Q (_ : Array Value) (s : State) (o : Outcome) (t : State) : Prop := o = .returned (some (.int 1)) ∧ State.butDraws s t lw_cs (fun t1 => Framed s o t1 [] 600002 7302232)
def lw_Z (below : List Frame) (a : Array Value) (s : State) : State → Prop := fun t => ∃ o, t.status = .running ∧ Ended t below o ∧ lw_Q a s o t
/-- the law's own end, with 1 on the stack, nothing written that was there before, its room as the claim has it; d0: the record of draws at this point (at the entry s.drawn: begin with 'refine W.base ?_' and 'have hd0 := Drawn.sameBut.refl s.drawn lw_cs') -/
theorem lw_ret {p : Program} {l : Launch} {e : Env} {s : State} {m : MethodId} {below : List Frame} {meth : Method} {c : Code} {b : Nat} {d0 : Drawn} (hd0 : s.drawn.sameBut d0 lw_cs) (hx : p.tables.exec = Jvm.exec) (hb : c.code = code) (hr : meth.sig.returnType = ret) (hlocks : meth.locks = false) {pc : Nat} {H : Heap} {ls : Array Slot} (hdg : decode code pc = .ok (.ireturn, 1)) : W p l e room_1 (s.setDrawn d0) m #[Value.ref b] below meth c H [] 600002 7302232 (lw_Z below #[Value.ref b] s) (F0 m pc ls [.int 1]) := by
  intro T hT X
  obtain ⟨fs, hret, hrun, hended, hW, hframe⟩ := X.leave (v := some (.int 1)) (hlocks := hlocks) (fun h => by rw [hr] at h; cases h)
  have hmeth' : T.vm.method? m = some meth := X.method'
  refine ⟨T.setFrames fs, ?_, .returned (some (.int 1)), hrun, hended, rfl, lw_closed hd0 ⟨_, rfl⟩ hW hframe⟩
  jvm_step X.here [X.here.top, hx, hb, hdg, hmeth', hr, ret, narrow_b1]
  (try refine ⟨rfl, ?_⟩); (try refine ⟨rfl, ?_⟩)
  first | (intro acts; rw [hret _ acts rfl rfl rfl]) | rw [hret _ _ rfl rfl rfl]
  exact Steps.refl _
/-- what holds at the law's entry: the machine, the code, the tables' words (any of lw_tbl by 'hts w (by decide +kernel)'), the script of L ints xs at the cell b, what the Statement gives of the start (any of its parts by flat_of_before) -/
def lw_At (p : Program) (s : State) (m : MethodId) (meth : Method) (c : Code) (b L : Nat) (xs : Nat → Int32) : Prop :=
  p.tables.exec = Jvm.exec ∧ c.code = code ∧ meth.sig.returnType = ret ∧ c.maxLocals = 9 ∧ s.vm.findClass R_law = some m.cls ∧ (∀ w ∈ lw_tbl, w.before #[Value.ref b] s = true) ∧ va_X b L xs s s.heap ∧ b < s.heap.size ∧ meth.locks = false ∧ (Jvm.Cond.and given_1 narrow_1).before #[Value.ref b] s = true
/-! the law: what holds all along, its calls, its end -/
def mz_LX (Γ : mz_G) (l : Launch) (D : va_G) (cA : Nat → ClassId) (cL : ClassId) (b B Lg : Nat) (xs : Nat → Int32) : Prop :=
  mz_C Γ l RL code 9 ret D vwCl (mz_ty cA) room_1 ∧
  match Γ with
  | (_, l', _, _, s, _, args, below, _, _, H0, A, Q) => mz_AO s ∧ A = (fun q => B ≤ q) ∧ H0 = s.heap ∧ s.heap.size = B ∧ va_X b Lg xs s s.heap ∧ b < B ∧ mz_X (fun q => B ≤ q) s s.heap ∧ ArrOfT s cL .long ∧ l'.stackTraces = false ∧ Q = lw_Z below #[Value.ref b] s ∧ args = #[Value.ref b]
def mz_lr0 (b B : Nat) : Nat → Nat := fun k => if k = 1000 then b else B + k
theorem mz_goodX {y : MethodName} {cc : ByteArray} {nL : Nat} {ret : Option FieldType} {hh : List (Nat × Nat × Nat × Nat)} (h : Cond.codeWith y cc nL ret hh ∈ mz_ws) : GoodIn mz_ws (Cond.codeWith y cc nL ret hh :: mz_ws) := by
  intro w hw
  have h2 : w ∈ mz_ws := by
    rcases List.mem_cons.mp hw with rfl | hw
    · exact h
    · exact hw
  exact ⟨h2, good_of_word (mz_ws_good h2)⟩
section MZLW
variable {Γ : mz_G} {l : Launch} {D : va_G} {cA : Nat → ClassId} {cL : ClassId} {b B Lg : Nat} {xs : Nat → Int32} {k n pc : Nat} {P P' Pre Post : Heap → Prop} {A1 : Nat → Prop}
variable {L : List (Nat × Value)} {st st' : List Value} {r : Option Value} {y : MethodName} {ccy : ByteArray} {nLy fry loy mcy msy ny index : Nat} {rety : Option FieldType} {As rest : List Value} {ρ : Nat → Nat}
theorem mz_lcall {ci x N : Nat} {T : u_T} (X : mz_LX Γ l D cA cL b B Lg xs) (F : mz_J l D vwCl cA y ccy nLy rety fry loy mcy msy (.ref x :: As) Pre r Post A1) (hA : ∀ q, A1 q → B ≤ q)
    (hPre : ∀ H, P H → Pre H) (hat : ∀ H, P H → ∃ fs, va_at D vwCl (x, .inr (ci, fs)) H) (hP' : ∀ H H', P H → Post H' → H.size ≤ H'.size → (∀ q, q < H.size → ¬ A1 q → H'[q]? = H[q]?) → P' H')
    (hY : mz_Y y ccy nLy rety ny) (wl : Cond.methodLink RL index y ∈ mz_ws) (hcl : vwCl[ci]? = some (y.cls, T, N)) (hn : As.length = ny)
    (hR : fry + 1 ≤ room_1.frames ∧ 8 + (nLy + 11) + loy ≤ room_1.locals) (hk : k + mcy ≤ room_1.cells ∧ n + msy ≤ room_1.slots) (hst : (rest.map fun v => v.category).sum ≤ 8) (hd : decode code pc = .ok (.invokevirtual index, 3))
    (kk : mz_W Γ ρ 9 (k + mcy) (n + msy) P' (pc + 3) L st') (hs' : st'.map (mz_e ρ) = r.toList ++ rest.map (mz_e ρ)) (hs : st.map (mz_e ρ) = As.reverse ++ .ref x :: rest.map (mz_e ρ)) : mz_W Γ ρ 9 k n P pc L st := by
  obtain ⟨p, l', e, R, s, m, args, below, meth, c, H0, A, Q⟩ := Γ
  obtain ⟨⟨rfl, hx, hb, hml, hown, hts, hK, -, -, rfl⟩, hO, rfl, -⟩ := X
  obtain ⟨y1, y2, y3, y4, y5⟩ := hY
  intro H ls locs hPq hS hl
  obtain ⟨fs, hat⟩ := hat H hPq
  have cw : CallW room_1 s args RL y.cls index y ccy nLy rety (Cond.code y ccy nLy rety :: mz_ws) { frames := fry, cells := mcy, slots := msy, locals := loy } mcy msy ny :=
    ⟨callB_of ny hts (mz_good y4) rfl rfl rfl (hts _ y3) (hts _ wl) y5 hR, hts _ y1, hts _ y2⟩
  have hrun := va_runV (locs := locs) (cells := k) (slots := n) (meth := meth) (e := e) (below := below) (g := F0 m pc ls (st.map (mz_e ρ))) (rest := rest.map (mz_e ρ)) (As := As) (b := x) (H := H) ⟨hx, hb, hml, hown, hts⟩ F cw
    ⟨mz_blindR, va_recv hK.1 (mz_one hat) hcl (q0 := 0) rfl, fun U hU hW => ⟨rfl, by rw [hU]; exact hPre H hPq, mz_KR.warm hW ⟨hK, hO⟩⟩⟩ rfl hn hl.1 hs (lv_room (by rw [mz_sumcat]; exact hst)) hd hk
  refine mz_runJ hrun hS hA fun H1 locs1 hp hz hkk hS1 => ?_
  rw [← hs']
  exact kk H1 ls locs1 (hP' H H1 hPq hp hz hkk) hS1 hl
theorem mz_lnew {x : Nat} (X : mz_LX Γ l D cA cL b B Lg xs) (F : mz_J l D vwCl cA y ccy nLy none fry loy mcy msy (.ref x :: As) Pre none Post A1) (hA : ∀ q, A1 q → B ≤ q)
    (hPre : ∀ H, P H → Pre H) (hP' : ∀ H H', P H → Post H' → H.size ≤ H'.size → (∀ q, q < H.size → ¬ A1 q → H'[q]? = H[q]?) → P' H')
    (wl : Cond.methodLink RL index y ∈ mz_ws) (hY : Cond.instanceMethod y ∈ mz_ws ∧ Cond.initialized y.cls ∈ mz_ws ∧ Cond.code y ccy nLy none ∈ mz_ws ∧ (y.cls ≠ "java/lang/invoke/MethodHandle" ∧ y.cls ≠ "java/lang/invoke/VarHandle" ∧ (parseMethodDescriptor y.desc).map (fun d => d.parameters.length) = some ny)) (hy1 : y.name = "<init>") (hn : As.length = ny)
    (hR : fry + 1 ≤ room_1.frames ∧ 8 + (nLy + 11) + loy ≤ room_1.locals) (hk : k + mcy ≤ room_1.cells ∧ n + msy ≤ room_1.slots) (hst : (rest.map fun v => v.category).sum ≤ 8) (hd : decode code pc = .ok (.invokespecial index, 3))
    (kk : mz_W Γ ρ 9 (k + mcy) (n + msy) P' (pc + 3) L rest) (hs : st.map (mz_e ρ) = As.reverse ++ .ref x :: rest.map (mz_e ρ)) : mz_W Γ ρ 9 k n P pc L st := by
  obtain ⟨p, l', e, R, s, m, args, below, meth, c, H0, A, Q⟩ := Γ
  obtain ⟨⟨rfl, hx, hb, hml, hown, hts, hK, -, -, rfl⟩, hO, rfl, -⟩ := X
  obtain ⟨y1, y3, y4, y5⟩ := hY
  intro H ls locs hPq hS hl
  have hrun := va_runI (locs := locs) (cells := k) (slots := n) (meth := meth) (e := e) (below := below) (g := F0 m pc ls (st.map (mz_e ρ))) (rest := rest.map (mz_e ρ)) (As := As) (b := x) (H := H) ⟨hx, hb, hml, hown, hts⟩ F ⟨callB_of ny hts (mz_good y4) rfl rfl rfl (hts _ y3) (hts _ wl) y5 hR, hy1, hts _ y1⟩
    ⟨mz_blindR, fun U hU hW => ⟨rfl, by rw [hU]; exact hPre H hPq, mz_KR.warm hW ⟨hK, hO⟩⟩⟩ rfl hn hl.1 hs (lv_room (by rw [mz_sumcat]; exact hst)) hd hk
  refine mz_runJ hrun hS hA fun H1 locs1 hp hz hkk hS1 => ?_
  exact kk H1 ls locs1 (hP' H H1 hPq hp hz hkk) hS1 hl
theorem mz_lhelp {hh : List (Nat × Nat × Nat × Nat)} (X : mz_LX Γ l D cA cL b B Lg xs) (F : mz_HJ l D vwCl cA cL y ccy nLy hh fry loy As Pre r Post A1) (hA : ∀ q, A1 q → B ≤ q)
    (hPre : ∀ H, P H → Pre H) (hP' : ∀ H H', P H → Post H' → H.size ≤ H'.size → (∀ q, q < H.size → ¬ A1 q → H'[q]? = H[q]?) → P' H')
    (hY : Cond.static y ∈ mz_ws ∧ Cond.initialized y.cls ∈ mz_ws ∧ Cond.codeWith y ccy nLy (some .int) hh ∈ mz_ws ∧ (y.cls ≠ "java/lang/invoke/MethodHandle" ∧ y.cls ≠ "java/lang/invoke/VarHandle" ∧ (parseMethodDescriptor y.desc).map (fun d => d.parameters.length) = some ny)) (wl : Cond.methodLink RL index y ∈ mz_ws) (hn : As.length = ny)
    (hR : fry + 1 ≤ room_1.frames ∧ 8 + (nLy + 11) + loy ≤ room_1.locals) (hk : k + 1 ≤ room_1.cells ∧ n + 6 ≤ room_1.slots) (hst : (rest.map fun v => v.category).sum ≤ 8) (hd : decode code pc = .ok (.invokestatic index, 3))
    (kk : mz_W Γ ρ 9 (k + 1) (n + 6) P' (pc + 3) L st') (hs' : st'.map (mz_e ρ) = r.toList ++ rest.map (mz_e ρ)) (hs : st.map (mz_e ρ) = As.reverse ++ rest.map (mz_e ρ)) : mz_W Γ ρ 9 k n P pc L st := by
  obtain ⟨p, l', e, R, s, m, args, below, meth, c, H0, A, Q⟩ := Γ
  obtain ⟨⟨rfl, hx, hb, hml, hown, hts, hK, -, -, rfl⟩, hO, rfl, rfl, hB, -, -, hX, hAr, -⟩ := X
  obtain ⟨y1, y3, y4, y5⟩ := hY
  intro H ls locs hPq hS hl
  have hrun := vx_runSX (locs := locs) (cells := k) (slots := n) (meth := meth) (e := e) (below := below) (g := F0 m pc ls (st.map (mz_e ρ))) (rest := rest.map (mz_e ρ)) (As := As) (H := H) (hh := hh) ⟨hx, hb, hml, hown, hts⟩ F
    ⟨⟨rfl, rfl, hR.1, hR.2, pay_in hts (mz_goodX y4), List.mem_cons_self⟩, hts _ y4, hts _ y3, ⟨y5.1, y5.2.1⟩, fun sig h => by
      have h2 := y5.2.2
      rw [h] at h2
      exact (Option.some.inj h2).symm, hts _ wl, hts _ y1⟩
    ⟨mz_blindH, fun U hU hW => ⟨rfl, by rw [hU]; exact hPre H hPq, mz_KR.warm hW ⟨hK, hO⟩, by rw [hU]; exact mz_X.to hW hS.2.1 hA hX, arrOfT_moved hW.alike hAr⟩⟩ rfl hn hl.1 hs (lv_room (by rw [mz_sumcat]; exact hst)) hd hk
  have hrun2 : va_Run p l' e room_1 s m args below meth c H locs k n 1 6 (F0 m pc ls (st.map (mz_e ρ))) (rest.map (mz_e ρ)) (mz_JQ r Post A1 As.toArray) A1 := by
    intro T0 hT X0
    rcases hrun T0 hT X0 with h | ⟨q, st₀, t, T', L1, E, ce, h0, X', hL, e1, e2, hx2, -⟩
    · exact h
    · exact hx2.elim
  refine mz_runJ hrun2 hS hA fun H1 locs1 hp hz hkk hS1 => ?_
  rw [← hs']
  exact kk H1 ls locs1 (hP' H H1 hPq hp hz hkk) hS1 hl
/-- a place of the script -/
theorem mz_sld {i : Int32} {j : Nat} (X : mz_LX Γ l D cA cL b B 6 xs) (hρ : ρ 1000 = b) (hj : i.toNatClampNeg = j) (hin : vp_in i 6) (hd : decode code pc = .ok (.iaload, 1)) (kk : mz_W Γ ρ 9 k n P (pc + 1) L (.int (xs j) :: st)) : mz_W Γ ρ 9 k n P pc L (.int i :: .ref 1000 :: st) := by
  obtain ⟨p, l', e, R, s, m, args, below, meth, c, H0, A, Q⟩ := Γ
  obtain ⟨⟨rfl, hx, hb, -⟩, -, rfl, rfl, hB, hXs, hbl, -⟩ := X
  subst hj
  intro H ls locs hP hS hl
  have h1 : mz_e ρ (.ref 1000) = .ref b := by show Value.ref (ρ 1000) = Value.ref b; rw [hρ]
  show W _ _ _ _ _ _ _ _ _ _ _ _ _ _ _ (F0 m pc ls (.int i :: mz_e ρ (.ref 1000) :: st.map (mz_e ρ)))
  rw [h1]
  exact va_sld hx hb hXs (by rw [hB]; exact hbl) (Nat.not_le.mpr hbl) hS hin hd (kk H ls locs hP hS hl)
theorem mz_slenG (X : mz_LX Γ l D cA cL b B Lg xs) (hρ : ρ 1000 = b) (hd : decode code pc = .ok (.arraylength, 1)) (kk : mz_W Γ ρ 9 k n P (pc + 1) L (.int (Int32.ofNat Lg) :: st)) : mz_W Γ ρ 9 k n P pc L (.ref 1000 :: st) := by
  obtain ⟨p, l', e, R, s, m, args, below, meth, c, H0, A, Q⟩ := Γ
  obtain ⟨⟨rfl, hx, hb, -⟩, -, rfl, rfl, hB, hXs, hbl, -⟩ := X
  intro H ls locs hP hS hl
  have h1 : mz_e ρ (.ref 1000) = .ref b := by show Value.ref (ρ 1000) = Value.ref b; rw [hρ]
  show W _ _ _ _ _ _ _ _ _ _ _ _ _ _ _ (F0 m pc ls (mz_e ρ (.ref 1000) :: st.map (mz_e ρ)))
  rw [h1]
  exact va_slen hx hb hXs (by rw [hB]; exact hbl) (Nat.not_le.mpr hbl) hS hd (kk H ls locs hP hS hl)
theorem mz_slen (X : mz_LX Γ l D cA cL b B 6 xs) (hρ : ρ 1000 = b) (hd : decode code pc = .ok (.arraylength, 1)) (kk : mz_W Γ ρ 9 k n P (pc + 1) L (.int 6 :: st)) : mz_W Γ ρ 9 k n P pc L (.ref 1000 :: st) := mz_slenG X hρ hd kk
/-- the law's end -/
theorem mz_lend (X : mz_LX Γ l D cA cL b B Lg xs) (hk : k ≤ 600002) (hn : n ≤ 7302232) (hd : decode code pc = .ok (.ireturn, 1)) : mz_W Γ ρ 9 k n P pc L [.int 1] := by
  obtain ⟨p, l', e, R, s, m, args, below, meth, c, H0, A, Q⟩ := Γ
  obtain ⟨⟨rfl, hx, hb, hml, hown, hts, hK, hlk, hr, rfl⟩, -, rfl, rfl, hB, -, -, -, -, -, rfl, rfl⟩ := X
  intro H ls locs hP hS hl
  refine va_forget (fun q hq => by rw [hB]; exact hS.2.2 q hq) ?_
  refine W.widen hk hn ?_
  refine W.base ?_
  exact lw_ret (d0 := s.drawn) (Drawn.sameBut.refl s.drawn lw_cs) hx hb hr hlk hd
/-- the first place of the array of answers -/
theorem mz_llald {w : Nat} (X : mz_LX Γ l D cA cL b B Lg xs) (hcell : ∀ H, P H → mz_out cL (ρ w) H) (hd : decode code pc = .ok (.laload, 1)) (kk : mz_W Γ ρ 9 k n P (pc + 1) L (.long 0 :: st)) : mz_W Γ ρ 9 k n P pc L (.int 0 :: .ref w :: st) := by
  obtain ⟨p, l', e, R, s, m, args, below, meth, c, H0, A, Q⟩ := Γ
  obtain ⟨⟨rfl, hx, hb, -⟩, -, rfl, rfl, hB, -, -, -, hAr, -⟩ := X
  intro H ls locs hP hS hl
  exact W.lald (v := .long 0) hx hb (hcell H hP) (hAr 1 (fun _ => .long 0)) (fun q => by cases q) (by show ¬ ((0 : Int32) < 0 ∨ (arrV _ _ _).slots.size ≤ _); rw [arrV_size]; exact (by decide : ¬ ((0 : Int32) < 0 ∨ 1 ≤ (0 : Int32).toNatClampNeg))) (by show (arrV _ _ _).slots[_]? = _; rw [arrV_read _ _ (by decide)]) rfl rfl hd (kk H ls locs hP hS hl)
theorem mz_lcmpr {x y2 : Int64} {v : Int32} (X : mz_LX Γ l D cA cL b B Lg xs) (hv : lg_cmp x y2 = v) (hd : decode code pc = .ok (.lcmp, 1)) (kk : mz_W Γ ρ 9 k n P (pc + 1) L (.int v :: st)) : mz_W Γ ρ 9 k n P pc L (.long y2 :: .long x :: st) := by
  obtain ⟨p, l', e, R, s, m, args, below, meth, c, H0, A, Q⟩ := Γ
  obtain ⟨⟨rfl, hx, hb, -⟩, -⟩ := X
  subst hv
  exact fun H ls locs hP hS hl => W.lcmp hx hb hd (kk H ls locs hP hS hl)
theorem mz_dcmpr {x y2 : UInt64} {v : Int32} {op : CmpOp} (X : mz_LX Γ l D cA cL b B Lg xs) (hv : Op.cmpValue (FP.dcmp x y2) op = v) (hd : decode code pc = .ok (.dcmp op, 1)) (kk : mz_W Γ ρ 9 k n P (pc + 1) L (.int v :: st)) : mz_W Γ ρ 9 k n P pc L (.double y2 :: .double x :: st) := by
  obtain ⟨p, l', e, R, s, m, args, below, meth, c, H0, A, Q⟩ := Γ
  obtain ⟨⟨rfl, hx, hb, -⟩, -⟩ := X
  subst hv
  exact fun H ls locs hP hS hl => lv_dcmp hx hb hd (kk H ls locs hP hS hl)
theorem mz_dst {i : Nat} {x : UInt64} (X : mz_LX Γ l D cA cL b B Lg xs) (hi : i + 1 < 9) (hd : decode code pc = .ok (.dstore i, 2)) (kk : mz_W Γ ρ 9 k n P (pc + 2) (mz_set2 L i (.double x)) st) : mz_W Γ ρ 9 k n P pc L (.double x :: st) := by
  obtain ⟨p, l', e, R, s, m, args, below, meth, c, H0, A, Q⟩ := Γ
  obtain ⟨⟨rfl, hx, hb, -⟩, -⟩ := X
  exact fun H ls locs hP hS hl => lv_dstore hx hb hd hl hi (mz_set2_map ρ L i (.double x)) (fun ls' hl' => kk H ls' locs hP hS hl')
theorem mz_dld {i : Nat} {x : UInt64} (X : mz_LX Γ l D cA cL b B Lg xs) (hg : mz_get L i = some (.double x)) (hd : decode code pc = .ok (.dload i, 2)) (kk : mz_W Γ ρ 9 k n P (pc + 2) L (.double x :: st)) : mz_W Γ ρ 9 k n P pc L st := by
  obtain ⟨p, l', e, R, s, m, args, below, meth, c, H0, A, Q⟩ := Γ
  obtain ⟨⟨rfl, hx, hb, -⟩, -⟩ := X
  exact fun H ls locs hP hS hl => lv_dload hx hb hd (hl.2.2 _ (mz_L_mem (ρ := ρ) (mz_get_mem hg))) (kk H ls locs hP hS hl)
end MZLW
theorem mz_lg (x : Int64) : lg_cmp x x = 0 := by
  unfold lg_cmp
  rw [if_neg (by show ¬ x < x; rw [Int64.lt_iff_toInt_lt]; omega), if_pos rfl]
theorem mz_dcm : Op.cmpValue (FP.dcmp FP.dconst0 FP.dconst0) .l = 0 := by decide +kernel
