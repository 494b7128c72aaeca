/-! THE CLAIM OUT OF ONE WALK OF THE LAW'S BODY. Your part is whole_start (and what it stands on); all else here is the same for every law, but numbers. -/
def R_law : String := "ManorLoopsLaw"
def lw_P (b : Addr) (xs : List Int32) (args : Array Value) (s : State) : Prop := args = #[.ref b] ∧ s.IntsAt b xs ∧ xs.length ≤ 260 ∧ (Jvm.Cond.and given_1 narrow_1).before args s = true
def lw_Q (_ : Array Value) (s : State) (o : Outcome) (t : State) : Prop := o = .returned (some (.int 1)) ∧ Framed s o t [] 797112 6710362
def lw_Z (below : List Frame) (a : Array Value) (s : State) : State → Prop := fun t => ∃ o, t.status = .running ∧ Ended t below o ∧ lw_Q a s o t
/-- the law's own end, with 1 on the stack, nothing written that was there before, its room as the claim has it -/
theorem lw_ret {p : Program} {l : Launch} {e : Env} {s : State} {m : MethodId} {below : List Frame} {meth : Method} {c : Code} {b : Nat} (hx : p.tables.exec = Jvm.exec) (hb : c.code = code) (hr : meth.sig.returnType = ret) (hlocks : meth.locks = false) {pc : Nat} {H : Heap} {ls : Array Slot} (hdg : decode code pc = .ok (.ireturn, 1)) : W p l e room_1 s m #[Value.ref b] below meth c H [] 797112 6710362 (lw_Z below #[Value.ref b] s) (F0 m pc ls [.int 1]) := by
  intro T hT X
  obtain ⟨fs, hret, hrun, hended, hW, hframe⟩ := X.leave (v := some (.int 1)) (hlocks := hlocks) (fun h => by rw [hr] at h; cases h)
  have hmeth' : T.vm.method? m = some meth := X.method'
  refine ⟨T.setFrames fs, ?_, .returned (some (.int 1)), hrun, hended, rfl, ⟨_, rfl⟩, hW, hframe⟩
  jvm_step X.here [X.here.top, hx, hb, hdg, hmeth', hr, ret, narrow_b1]
  (try refine ⟨rfl, ?_⟩); (try refine ⟨rfl, ?_⟩)
  first | (intro acts; rw [hret _ acts rfl rfl rfl]) | rw [hret _ _ rfl rfl rfl]
  exact Steps.refl _
/-- what holds at the law's entry: the machine, the code, the tables' words (any of lw_tbl by 'hts w (by decide +kernel)'), the script of L ints xs at the cell b, what the Statement gives of the start (any of its parts by flat_of_before) -/
def lw_At (p : Program) (s : State) (m : MethodId) (meth : Method) (c : Code) (b L : Nat) (xs : Nat → Int32) : Prop :=
  p.tables.exec = Jvm.exec ∧ c.code = code ∧ meth.sig.returnType = ret ∧ c.maxLocals = 16 ∧ s.vm.findClass R_law = some m.cls ∧ (∀ w ∈ lw_tbl, w.before #[Value.ref b] s = true) ∧ va_X b L xs s s.heap ∧ b < s.heap.size ∧ meth.locks = false ∧ (Jvm.Cond.and given_1 narrow_1).before #[Value.ref b] s = true
/-! the law: what holds all along, its calls, its end -/
def flW : List (Nat × Nat × Nat) := [(14, 10, 0), (40, 10, 5), (32, 10, 8)]
theorem FLW : mz_FL RL vwCl flW := mz_FL_of (List.forall_mem_cons.mpr ⟨⟨RX10, TX10, 12, rfl, by decide, iu_X10, Or.inl (mz_in 945 (by decide +kernel) (by decide +kernel))⟩,
  List.forall_mem_cons.mpr ⟨⟨RX10, TX10, 12, rfl, by decide, iu_X10, Or.inl (mz_in 951 (by decide +kernel) (by decide +kernel))⟩,
  List.forall_mem_cons.mpr ⟨⟨RX10, TX10, 12, rfl, by decide, iu_X10, Or.inl (mz_in 955 (by decide +kernel) (by decide +kernel))⟩,
  fun _ h => absurd h List.not_mem_nil⟩⟩⟩)
def klW : List (Nat × Int64) := []
theorem KLW : mz_KL RL klW := fun _ _ h => by cases h
theorem wl_W_65 : Cond.methodLink RL 65 yX9_pass ∈ mz_ws := mz_in 53 (by decide +kernel) (by decide +kernel)
theorem wl_W_78 : Cond.methodLink RL 78 yX9_part ∈ mz_ws := mz_in 354 (by decide +kernel) (by decide +kernel)
theorem wl_W_68 : Cond.methodLink RL 68 yX9_ofGuest ∈ mz_ws := mz_in 386 (by decide +kernel) (by decide +kernel)
theorem wl_W_52 : Cond.methodLink RL 52 yX9_many ∈ mz_ws := mz_in 403 (by decide +kernel) (by decide +kernel)
theorem wl_W_43 : Cond.methodLink RL 43 yX9_wouldKnow ∈ mz_ws := mz_in 421 (by decide +kernel) (by decide +kernel)
theorem wl_W_36 : Cond.methodLink RL 36 yX9_bestHabit ∈ mz_ws := mz_in 468 (by decide +kernel) (by decide +kernel)
theorem wl_W_55 : Cond.methodLink RL 55 yX9_wouldCut ∈ mz_ws := mz_in 482 (by decide +kernel) (by decide +kernel)
theorem wl_W_58 : Cond.methodLink RL 58 yX9_doubles ∈ mz_ws := mz_in 490 (by decide +kernel) (by decide +kernel)
theorem wl_W_26 : Cond.methodLink RL 26 yX9_digest ∈ mz_ws := mz_in 511 (by decide +kernel) (by decide +kernel)
theorem wc_W_9 : Cond.classLink RL 9 RX10 ∈ mz_ws := mz_in 604 (by decide +kernel) (by decide +kernel)
theorem wi_W_12 : Cond.instantiable RX10 12 ∈ mz_ws := mz_in 605 (by decide +kernel) (by decide +kernel)
theorem wn_W : Cond.initialized RX10 ∈ mz_ws := mz_in 32 (by decide +kernel) (by decide +kernel)
theorem wl_W_11 : Cond.methodLink RL 11 yX10_init ∈ mz_ws := mz_in 606 (by decide +kernel) (by decide +kernel)
theorem wl_W_22 : Cond.methodLink RL 22 yX10_draw ∈ mz_ws := mz_in 982 (by decide +kernel) (by decide +kernel)
theorem wl_W_61 : Cond.methodLink RL 61 yX10_has ∈ mz_ws := mz_in 994 (by decide +kernel) (by decide +kernel)
theorem wl_W_71 : Cond.methodLink RL 71 yX10_size ∈ mz_ws := mz_in 997 (by decide +kernel) (by decide +kernel)
theorem wl_W_18 : Cond.methodLink RL 18 yX10_found ∈ mz_ws := mz_in 1000 (by decide +kernel) (by decide +kernel)
theorem wl_W_46 : Cond.methodLink RL 46 yL_tell ∈ mz_ws := mz_in 1146 (by decide +kernel) (by decide +kernel)
theorem wl_W_74 : Cond.methodLink RL 74 yL_isLet ∈ mz_ws := mz_in 1150 (by decide +kernel) (by decide +kernel)
theorem hs_W_tell : mz_YS yL_tell cL_tell 3 none 3 := ⟨mz_in 1147 (by decide +kernel) (by decide +kernel), mz_in 31 (by decide +kernel) (by decide +kernel), mz_in 1148 (by decide +kernel) (by decide +kernel), by decide +kernel, by decide +kernel, by decide +kernel⟩
def mz_LX (Γ : mz_G) (l : Launch) (D : va_G) (cA : Nat → ClassId) (b B : Nat) : Prop :=
  mz_C Γ l RL code 16 ret D vwCl (mz_ty cA) room_1 ∧ mz_AQ cA Γ.2.2.2.2.1 ∧ mz_gA Γ = (fun q => B ≤ q) ∧
  match Γ with
  | (_, l', _, _, s, _, args, below, _, _, H0, _, Q) => H0 = s.heap ∧ s.heap.size = B ∧ mz_X (fun q => B ≤ q) s s.heap ∧ l'.stackTraces = false ∧ Q = lw_Z below #[Value.ref b] s ∧ args = #[Value.ref b]
theorem mz_goodX {y : MethodName} {cc : ByteArray} {nL : Nat} {ret : Option FieldType} {hh : List (Nat × Nat × Nat × Nat)} (h : Cond.codeWith y cc nL ret hh ∈ mz_ws) : GoodIn mz_ws (Cond.codeWith y cc nL ret hh :: mz_ws) := by
  intro w hw
  have h2 : w ∈ mz_ws := by
    rcases List.mem_cons.mp hw with rfl | hw
    · exact h
    · exact hw
  exact ⟨h2, good_of_word (mz_ws_good h2)⟩
theorem mz_blindH {A : Nat → Prop} {D : va_G} {cl : List vw_C} {cA : Nat → ClassId} {As : List Value} {B : Heap → Prop} : FrameBlind (mz_PTA A D cl cA As B) := mz_blindA
/-- the two houses: what ties their numbers -/
def mz_LF (κt κo ρ : Nat → Nat) (lay : mz_Lay) (B Lg : Nat) (xs : Nat → Int32) : Prop :=
  (mz_I κt mz_lay2 ∧ mz_I κo mz_lay2) ∧ (ρ 0 = κt 0 ∧ ρ 1000 = κo 0 ∧ ρ 131 = κt 131) ∧ mz_I ρ lay ∧
  (∀ k sh, lay k = some sh → (k = 130 → B ≤ ρ k) ∧ ¬ mz_A κt mz_lay2 (ρ k) ∧ ¬ mz_A κo mz_lay2 (ρ k) ∧ ρ k ≠ κt 131) ∧
  (∀ q, mz_A κt mz_lay2 q → B ≤ q ∧ ¬ mz_A κo mz_lay2 q ∧ q ≠ κt 131) ∧ (∀ q, mz_A κo mz_lay2 q → B ≤ q ∧ q ≠ κt 131) ∧
  κt 150 = Lg ∧ ∀ j, Int32.ofNat (κt (151 + j)) = xs j
/-- the two houses in the heap -/
def mz_LP (D : va_G) (cA : Nat → ClassId) (κt κo ρ : Nat → Nat) (lay : mz_Lay) (Mb Nt No : mz_Mem) (e : Nat) (H : Heap) : Prop :=
  mz_CP D cA κt Nt H ∧ mz_CP D cA κo No H ∧ mz_scr cA κt H ∧ mz_H D vwCl cA ρ lay (mz_MD Mb e) H
section MZLW
variable {Γ : mz_G} {l : Launch} {D : va_G} {cA : Nat → ClassId} {b B Lg : Nat} {xs : Nat → Int32} {k n pc : Nat} {κt κo ρ : Nat → Nat} {lay : mz_Lay} {Mb Nt No N' : mz_Mem} {e : Nat} {P : Heap → Prop}
variable {L : List (Nat × Value)} {st st' : List Value} {r : Option Value} {y : MethodName} {ccy : ByteArray} {nLy fry loy ny index : Nat} {rety : Option FieldType} {As rest : List Value}
theorem mz_LP.t (hF : mz_LF κt κo ρ lay B Lg xs) {H H1 : Heap} (h : mz_LP D cA κt κo ρ lay Mb Nt No e H) (h1 : mz_CP D cA κt N' H1) (hk : ∀ q, q < H.size → ¬ mz_A κt mz_lay2 q → H1[q]? = H[q]?) : mz_LP D cA κt κo ρ lay Mb N' No e H1 :=
  ⟨h1, h.2.1.kept (fun q hq => hk q (h.2.1.lt hq) (fun z => (hF.2.2.2.2.1 q z).2.1 hq)), h.2.2.1.kept (hk _ h.2.2.1.lt (fun z => (hF.2.2.2.2.1 _ z).2.2 rfl)), fun k sh hs => (h.2.2.2 k sh hs).kept (hk _ (h.2.2.2 k sh hs).lt (hF.2.2.2.1 k sh hs).2.1)⟩
theorem mz_LP.o (hF : mz_LF κt κo ρ lay B Lg xs) {H H1 : Heap} (h : mz_LP D cA κt κo ρ lay Mb Nt No e H) (h1 : mz_CP D cA κo N' H1) (hk : ∀ q, q < H.size → ¬ mz_A κo mz_lay2 q → H1[q]? = H[q]?) : mz_LP D cA κt κo ρ lay Mb Nt N' e H1 :=
  ⟨h.1.kept (fun q hq => hk q (h.1.lt hq) (fun z => (hF.2.2.2.2.1 q hq).2.1 z)), h1, h.2.2.1.kept (hk _ h.2.2.1.lt (fun z => (hF.2.2.2.2.2.1 _ z).2 rfl)), fun k sh hs => (h.2.2.2 k sh hs).kept (hk _ (h.2.2.2 k sh hs).lt (hF.2.2.2.1 k sh hs).2.2.1)⟩
/-- a method of the one house's class -/
theorem lw_t (X : mz_LX Γ l D cA b B) (hF : mz_LF κt κo ρ lay B Lg xs) (As rest : List Value) (F : mz_J l D vwCl cA y ccy nLy rety fry loy 0 0 (.ref (κt 0) :: As) (mz_CP D cA κt Nt) r (mz_CP D cA κt N') (mz_A κt mz_lay2))
    (hY : mz_Y y ccy nLy rety ny) (wl : Cond.methodLink RL index y ∈ mz_ws) (hcl : vwCl[9]? = some (y.cls, TX9, 4)) (hn : As.length = ny) (hAs : As.map (mz_e ρ) = As)
    (hR : fry + 1 ≤ 12 ∧ 8 + (nLy + 11) + loy ≤ 438) (hk : k ≤ 797112 ∧ n ≤ 6710362) (hst : (rest.map fun v => v.category).sum ≤ 8) (hd : decode code pc = .ok (.invokevirtual index, 3))
    (kk : mz_W Γ ρ 16 k n (mz_LP D cA κt κo ρ lay Mb N' No e) (pc + 3) L st') (hs' : st'.map (mz_e ρ) = r.toList ++ rest.map (mz_e ρ)) (hs : st = As.reverse ++ .ref 0 :: rest) : mz_W Γ ρ 16 k n (mz_LP D cA κt κo ρ lay Mb Nt No e) pc L st := by
  subst hs
  exact mz_callG (ci := 9) (T := TX9) (N := 4) X.1 X.2.1 X.2.2.1 F (fun q hq => (hF.2.2.2.2.1 q hq).1) (fun _ h => h.1) (fun _ h => h.1.at) (fun H H' h h1 _ h3 => h.t hF h1 h3) hY wl hcl hn hR hk hst hd kk hs' (by
    rw [List.map_append, List.map_reverse, hAs, List.map_cons]
    show _ ++ Value.ref (ρ 0) :: _ = _
    rw [hF.2.1.1])
/-- a method of the other house's class -/
theorem lw_o (X : mz_LX Γ l D cA b B) (hF : mz_LF κt κo ρ lay B Lg xs) (As rest : List Value) (F : mz_J l D vwCl cA y ccy nLy rety fry loy 0 0 (.ref (κo 0) :: As) (mz_CP D cA κo No) r (mz_CP D cA κo N') (mz_A κo mz_lay2))
    (hY : mz_Y y ccy nLy rety ny) (wl : Cond.methodLink RL index y ∈ mz_ws) (hcl : vwCl[9]? = some (y.cls, TX9, 4)) (hn : As.length = ny) (hAs : As.map (mz_e ρ) = As)
    (hR : fry + 1 ≤ 12 ∧ 8 + (nLy + 11) + loy ≤ 438) (hk : k ≤ 797112 ∧ n ≤ 6710362) (hst : (rest.map fun v => v.category).sum ≤ 8) (hd : decode code pc = .ok (.invokevirtual index, 3))
    (kk : mz_W Γ ρ 16 k n (mz_LP D cA κt κo ρ lay Mb Nt N' e) (pc + 3) L st') (hs' : st'.map (mz_e ρ) = r.toList ++ rest.map (mz_e ρ)) (hs : st = As.reverse ++ .ref 1000 :: rest) : mz_W Γ ρ 16 k n (mz_LP D cA κt κo ρ lay Mb Nt No e) pc L st := by
  subst hs
  exact mz_callG (ci := 9) (T := TX9) (N := 4) X.1 X.2.1 X.2.2.1 F (fun q hq => (hF.2.2.2.2.2.1 q hq).1) (fun _ h => h.2.1) (fun _ h => h.2.1.at) (fun H H' h h1 _ h3 => h.o hF h1 h3) hY wl hcl hn hR hk hst hd kk hs' (by
    rw [List.map_append, List.map_reverse, hAs, List.map_cons]
    show _ ++ Value.ref (ρ 1000) :: _ = _
    rw [hF.2.1.2.1])
/-- tell, of the one and of the other -/
theorem lw_tellt (X : mz_LX Γ l D cA b B) (hF : mz_LF κt κo ρ lay B Lg xs) {g : Int32} {c nT : Nat} (w1 : ¬ g < 0) (w2 : g < Nt 60 0) (hT : Nt 15 0 = nI nT) (hT5 : nT ≤ 5) (hc : c < 10 + nT) (hs : ¬ mz_stc (nI c) = 0)
    (hk : k ≤ 797112 ∧ n ≤ 6710362) (hst : (rest.map fun v => v.category).sum ≤ 8) (hd : decode code pc = .ok (.invokestatic 46, 3))
    (kk : mz_W Γ ρ 16 k n (mz_LP D cA κt κo ρ lay Mb (mz_by Nt g (nI c)) No e) (pc + 3) L rest) : mz_W Γ ρ 16 k n (mz_LP D cA κt κo ρ lay Mb Nt No e) pc L (.int (nI c) :: .int g :: .ref 0 :: rest) :=
  mz_callGS (As := [.ref (κt 0), .int g, .int (nI c)]) (rest := rest) (r := none) X.1 X.2.1 X.2.2.1 (t_tell l D cA κt hF.1.1 Nt g c nT w1 w2 hT hT5 hc hs) (fun q hq => (hF.2.2.2.2.1 q hq).1) (fun _ h => h.1) (fun H H' h h1 _ h3 => h.t hF h1 h3) hs_W_tell wl_W_46 rfl ⟨by decide, by decide⟩ hk hst hd kk rfl (by
    show Value.int (nI c) :: .int g :: .ref (ρ 0) :: _ = _
    rw [hF.2.1.1]; rfl)
theorem lw_tello (X : mz_LX Γ l D cA b B) (hF : mz_LF κt κo ρ lay B Lg xs) {g : Int32} {c nT : Nat} (w1 : ¬ g < 0) (w2 : g < No 60 0) (hT : No 15 0 = nI nT) (hT5 : nT ≤ 5) (hc : c < 10 + nT) (hs : ¬ mz_stc (nI c) = 0)
    (hk : k ≤ 797112 ∧ n ≤ 6710362) (hst : (rest.map fun v => v.category).sum ≤ 8) (hd : decode code pc = .ok (.invokestatic 46, 3))
    (kk : mz_W Γ ρ 16 k n (mz_LP D cA κt κo ρ lay Mb Nt (mz_by No g (nI c)) e) (pc + 3) L rest) : mz_W Γ ρ 16 k n (mz_LP D cA κt κo ρ lay Mb Nt No e) pc L (.int (nI c) :: .int g :: .ref 1000 :: rest) :=
  mz_callGS (As := [.ref (κo 0), .int g, .int (nI c)]) (rest := rest) (r := none) X.1 X.2.1 X.2.2.1 (t_tell l D cA κo hF.1.2 No g c nT w1 w2 hT hT5 hc hs) (fun q hq => (hF.2.2.2.2.2.1 q hq).1) (fun _ h => h.2.1) (fun H H' h h1 _ h3 => h.o hF h1 h3) hs_W_tell wl_W_46 rfl ⟨by decide, by decide⟩ hk hst hd kk rfl (by
    show Value.int (nI c) :: .int g :: .ref (ρ 1000) :: _ = _
    rw [hF.2.1.2.1]; rfl)
/-- has and size -/
theorem lw_has (X : mz_LX Γ l D cA b B) {s q : Int32} (hk : k ≤ 797112 ∧ n ≤ 6710362) (hst : (rest.map fun v => v.category).sum ≤ 8) (hd : decode code pc = .ok (.invokestatic 61, 3))
    (kk : mz_W Γ ρ 16 k n P (pc + 3) L (.int (mz_hf s q) :: rest)) : mz_W Γ ρ 16 k n P pc L (.int q :: .int s :: rest) :=
  mz_callGS (As := [.int s, .int q]) (rest := rest) X.1 X.2.1 X.2.2.1 (t_has l D cA P s q) (fun q hq => hq.elim) (fun _ h => h) (fun H H' _ h1 _ _ => h1) hs_X10_has wl_W_61 rfl ⟨by decide, by decide⟩ hk hst hd kk rfl rfl
theorem lw_size (X : mz_LX Γ l D cA b B) {j : Nat} (hj : j < 4096) (hk : k ≤ 797112 ∧ n ≤ 6710362) (hst : (rest.map fun v => v.category).sum ≤ 8) (hd : decode code pc = .ok (.invokestatic 71, 3))
    (kk : mz_W Γ ρ 16 k n P (pc + 3) L (.int (nI (mz_pc 12 j)) :: rest)) : mz_W Γ ρ 16 k n P pc L (.int (nI j) :: rest) :=
  mz_callGS (As := [.int (nI j)]) (rest := rest) X.1 X.2.1 X.2.2.1 (t_size l D cA P j hj) (fun q hq => hq.elim) (fun _ h => h) (fun H H' _ h1 _ _ => h1) hs_X10_size wl_W_71 rfl ⟨by decide, by decide⟩ hk hst hd kk rfl rfl
theorem mz_MD_up (M : mz_Mem) (e e' : Nat) : mz_s (mz_MD M e) 130 (upd ((mz_MD M e) 130) 2 (nI e')) = mz_MD M e' := by
  unfold mz_MD
  rw [mz_s_s, mz_s_eq, mz_upd_2]
/-- a draw -/
theorem lw_draw (X : mz_LX Γ l D cA b B) (hF : mz_LF κt κo ρ lay B Lg xs) (h130 : lay 130 = some (mz_o 10 mz_TO)) {n0 : Nat} (hLg : Lg < 2 ^ 31) (hd1 : e + 1 < 2 ^ 20) (h0 : 0 < n0) (hn : n0 < 2 ^ 31)
    (hk : k ≤ 797112 ∧ n ≤ 6710362) (hst : (rest.map fun v => v.category).sum ≤ 8) (hd : decode code pc = .ok (.invokevirtual 22, 3))
    (kk : mz_W Γ ρ 16 k n (mz_LP D cA κt κo ρ lay Mb Nt No (e + 1)) (pc + 3) L (.int (nI (mz_dv Lg xs e n0)) :: rest)) : mz_W Γ ρ 16 k n (mz_LP D cA κt κo ρ lay Mb Nt No e) pc L (.int (nI n0) :: .ref 130 :: rest) := by
  rw [← (mz_dv_ok Lg xs e h0 hn).2] at kk
  have hsub : ∀ j sh, mz_DL Lg j = some sh → lay j = some sh := fun j sh h => by
    unfold mz_DL at h
    by_cases h0 : j = 130
    · subst h0; rw [h130]; exact h
    · rw [if_neg h0] at h; cases h
  have f130 := hF.2.2.2.1 130 _ h130
  refine mz_callG (ci := 10) (T := TX10) (N := 12) (b := ρ 130) (As := [.int (nI n0)]) (rest := rest) (mcy := 0) (msy := 0) X.1 X.2.1 X.2.2.1
    (t_drawG l D cA κt ρ Lg xs (mz_MD Mb e) e n0 (mz_LP D cA κt κo ρ lay Mb Nt No e) (mz_LP D cA κt κo ρ lay Mb Nt No (e + 1)) (fun q => B ≤ q) (f130.1 rfl) hF.2.1.2.2 (fun H h => h.2.2.1) (fun i j a b2 ha hb he => hF.2.2.1 i j a b2 (hsub i a ha) (hsub j b2 hb) he) (fun H h => mz_H_TL hsub h.2.2.2) (fun H H1 h h1 h2 h3 => ?_) (by unfold mz_MD; rw [mz_s_eq, mz_upd_eq]) hF.2.2.2.2.2.2 hLg hd1 h0 hn)
    (fun _ h => h) (fun _ h => h) (fun H h => ⟨_, h.2.2.2 130 _ h130⟩) (fun _ _ _ h _ _ => h) hy_X10_draw wl_W_22 rfl rfl ⟨by decide, by decide⟩ hk hst hd kk rfl rfl
  have hput := mz_H_put hF.2.2.1 h.2.2.2 h130 (h1 130 _ rfl) h3
  rw [mz_MD_up] at hput
  exact ⟨h.1.kept (fun q hq => h3 q (fun z => f130.2.1 (z ▸ hq))), h.2.1.kept (fun q hq => h3 q (fun z => f130.2.2.1 (z ▸ hq))), h.2.2.1.kept (h3 _ (fun z => f130.2.2.2 z.symm)), hput⟩
/-- isLet, over any helper's contract -/
theorem lw_help {hh : List (Nat × Nat × Nat × Nat)} {Pre Post P' : Heap → Prop} {A1 : Nat → Prop} (X : mz_LX Γ l D cA b B) (F : mz_HJ l D vwCl cA y ccy nLy hh fry loy As Pre r Post A1) (hA : ∀ q, A1 q → B ≤ q)
    (hPre : ∀ H, P H → Pre H) (hP' : ∀ H H', P H → Post H' → H.size ≤ H'.size → (∀ q, q < H.size → ¬ A1 q → H'[q]? = H[q]?) → P' H')
    (hY : Cond.static y ∈ mz_ws ∧ Cond.initialized y.cls ∈ mz_ws ∧ Cond.codeWith y ccy nLy (some .boolean) hh ∈ mz_ws ∧ (y.cls ≠ "java/lang/invoke/MethodHandle" ∧ y.cls ≠ "java/lang/invoke/VarHandle" ∧ (parseMethodDescriptor y.desc).map (fun d => d.parameters.length) = some ny)) (wl : Cond.methodLink RL index y ∈ mz_ws) (hn : As.length = ny)
    (hR : fry + 1 ≤ room_1.frames ∧ 8 + (nLy + 11) + loy ≤ room_1.locals) (hk : k + 1 ≤ room_1.cells ∧ n + 6 ≤ room_1.slots) (hst : (rest.map fun v => v.category).sum ≤ 8) (hd : decode code pc = .ok (.invokestatic index, 3))
    (kk : mz_W Γ ρ 16 (k + 1) (n + 6) P' (pc + 3) L st') (hs' : st'.map (mz_e ρ) = r.toList ++ rest.map (mz_e ρ)) (hs : st.map (mz_e ρ) = As.reverse ++ rest.map (mz_e ρ)) : mz_W Γ ρ 16 k n P pc L st := by
  obtain ⟨p, l', e, R, s, m, args, below, meth, c, H0, A, Q⟩ := Γ
  obtain ⟨⟨rfl, hx, hb, hml, hown, hts, hK, -, -, rfl⟩, hO, hAA, rfl, hB, hX, -⟩ := X
  replace hAA : A = (fun q => B ≤ q) := hAA
  subst hAA
  obtain ⟨y1, y3, y4, y5⟩ := hY
  intro H ls locs hPq hS hl
  have hrun := vx_runSX (locs := locs) (cells := k) (slots := n) (meth := meth) (e := e) (below := below) (g := F0 m pc ls (st.map (mz_e ρ))) (rest := rest.map (mz_e ρ)) (As := As) (H := H) (hh := hh) ⟨hx, hb, hml, hown, hts⟩ F
    ⟨⟨rfl, rfl, hR.1, hR.2, pay_in hts (mz_goodX y4), List.mem_cons_self⟩, hts _ y4, hts _ y3, ⟨y5.1, y5.2.1⟩, fun sig h => by
      have h2 := y5.2.2
      rw [h] at h2
      exact (Option.some.inj h2).symm, hts _ wl, hts _ y1⟩
    ⟨mz_blindH, fun U hU hW => ⟨rfl, by rw [hU]; exact hPre H hPq, mz_KR.warm hW ⟨hK, hO⟩, by rw [hU]; exact mz_X.to hW hS.2.1 hA hX⟩⟩ rfl hn hl.1 hs (lv_room (by rw [mz_sumcat]; exact hst)) hd hk
  have hrun2 : va_Run p l' e room_1 s m args below meth c H locs k n 1 6 (F0 m pc ls (st.map (mz_e ρ))) (rest.map (mz_e ρ)) (mz_JQ r Post A1 As.toArray) A1 := by
    intro T0 hT X0
    rcases hrun T0 hT X0 with h | ⟨q, st₀, t, T', L1, E, ce, h0, X', hL, e1, e2, hx2, -⟩
    · exact h
    · exact hx2.elim
  refine mz_runJ hrun2 hS hA fun H1 locs1 hp hz hkk hS1 => ?_
  rw [← hs']
  exact kk H1 ls locs1 (hP' H H1 hPq hp hz hkk) hS1 hl
/-- the law's end -/
theorem mz_lend (X : mz_LX Γ l D cA b B) (hk : k ≤ 797112) (hn : n ≤ 6710362) (hd : decode code pc = .ok (.ireturn, 1)) : mz_W Γ ρ 16 k n P pc L [.int 1] := by
  obtain ⟨p, l', e, R, s, m, args, below, meth, c, H0, A, Q⟩ := Γ
  obtain ⟨⟨rfl, hx, hb, hml, hown, hts, hK, hlk, hr, rfl⟩, -, hAA, rfl, hB, -, -, rfl, rfl⟩ := X
  replace hAA : A = (fun q => B ≤ q) := hAA
  subst hAA
  intro H ls locs hP hS hl
  refine va_forget (fun q hq => by rw [hB]; exact hS.2.2 q hq) ?_
  refine W.widen hk hn ?_
  exact lw_ret hx hb hr hlk hd
theorem mz_lcmpr {x y2 : Int64} {v : Int32} (X : mz_LX Γ l D cA b B) (hv : lg_cmp x y2 = v) (hd : decode code pc = .ok (.lcmp, 1)) (kk : mz_W Γ ρ 16 k n P (pc + 1) L (.int v :: st)) : mz_W Γ ρ 16 k n P pc L (.long y2 :: .long x :: st) := by
  obtain ⟨p, l', e, R, s, m, args, below, meth, c, H0, A, Q⟩ := Γ
  obtain ⟨⟨rfl, hx, hb, -⟩, -⟩ := X
  subst hv
  exact fun H ls locs hP hS hl => W.lcmp hx hb hd (kk H ls locs hP hS hl)
end MZLW
theorem mz_lg (x : Int64) : lg_cmp x x = 0 := by
  unfold lg_cmp
  rw [if_neg (by show ¬ x < x; rw [Int64.lt_iff_toInt_lt]; omega), if_pos rfl]
