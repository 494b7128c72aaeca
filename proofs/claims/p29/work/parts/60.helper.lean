/-! the law's helpers: isLet, tell -/
def tb_isLet : List (Nat × Nat × Nat × Nat) := [(0, 14, 15, 88)]
theorem hx_isLet : Cond.static yL_isLet ∈ mz_ws ∧ Cond.initialized yL_isLet.cls ∈ mz_ws ∧ Cond.codeWith yL_isLet cL_isLet 4 (some .boolean) tb_isLet ∈ mz_ws ∧ (yL_isLet.cls ≠ "java/lang/invoke/MethodHandle" ∧ yL_isLet.cls ≠ "java/lang/invoke/VarHandle" ∧ (parseMethodDescriptor yL_isLet.desc).map (fun d => d.parameters.length) = some 3) := ⟨mz_in 1151 (by decide +kernel) (by decide +kernel), mz_in 31 (by decide +kernel) (by decide +kernel), mz_in 1152 (by decide +kernel) (by decide +kernel), by decide +kernel, by decide +kernel, by decide +kernel⟩
theorem mz_ca_is : Cond.castable mz_IS mz_IS ∈ mz_wn := mz_inn 132 (by decide +kernel) (by decide +kernel)
theorem wl_L_85 : Cond.methodLink RL 85 yX9_play ∈ mz_ws := mz_in 1154 (by decide +kernel) (by decide +kernel)
theorem wl_L_81 : Cond.methodLink RL 81 yX9_habit ∈ mz_ws := mz_in 1149 (by decide +kernel) (by decide +kernel)
theorem wc_L_88 : Cond.classLink RL 88 mz_IS ∈ mz_ws := mz_in 1153 (by decide +kernel) (by decide +kernel)
def mz_HJ (l : Launch) (D : va_G) (cl : List vw_C) (cA : Nat → ClassId) (y : MethodName) (cc : ByteArray) (nL : Nat) (hh : List (Nat × Nat × Nat × Nat)) (fr lo : Nat) (As : List Value) (Pre : Heap → Prop) (r : Option Value) (Post : Heap → Prop) (A : Nat → Prop) : Prop :=
  vx_Met l y (Cond.codeWith y cc nL (some .boolean) hh :: mz_ws) { frames := fr, cells := 1, slots := 6, locals := lo } (mz_PTA A D cl cA As Pre) (mz_JQ r Post A) mz_XF 1 6 A
/-- what else holds in a helper's body -/
def mz_HX (Γ : mz_G) (hh : List (Nat × Nat × Nat × Nat)) : Prop :=
  match Γ with
  | (_, _, _, _, s, _, _, _, _, c, H0, A, _) => c.exceptionTable.toList = tableOf hh ∧ mz_X A s s.heap ∧ H0 = s.heap
theorem mz_introH {l : Launch} {D : va_G} {cl : List vw_C} {cA : Nat → ClassId} {y : MethodName} {cc : ByteArray} {nL fr lo : Nat} {hh : List (Nat × Nat × Nat × Nat)} {As : List Value} {Pre Post : Heap → Prop} {r : Option Value} {A : Nat → Prop}
    (hy : plainName y.cls = true) (hlen : (lg_sl As).length ≤ nL)
    (body : ∀ Γ : mz_G, mz_C Γ l y.cls cc nL (some .boolean) D cl (mz_ty cA) { frames := fr, cells := 1, slots := 6, locals := lo } → mz_AQ cA Γ.2.2.2.2.1 → mz_E Γ (mz_JQ r Post A) 1 6 A → mz_HX Γ hh → mz_W Γ (fun k => k) nL 0 0 Pre 0 (lv_args 0 As) []) :
    mz_HJ l D cl cA y cc nL hh fr lo As Pre r Post A := by
  refine vx_ofWH (cc := cc) (maxL := nL) (ret := some .boolean) (hh := hh) hy rfl ?_
  intro p e s m args below meth c s₁ B hml hv
  obtain ⟨rfl, hP, hK, hX⟩ := hv
  refine vx_ret ?_
  have hts := atoms_spec (ws := Cond.codeWith y cc nL (some .boolean) hh :: mz_ws) B.pre
  rw [lg_entry_eq]
  have hl := lv_entry As (n := nL) hlen
  have eid : ∀ v : Value, mz_e (fun k => k) v = v := mz_e_id
  have eL : mz_L (fun k => k) (lv_args 0 As) = lv_args 0 As := by
    unfold mz_L
    conv => rhs; rw [← List.map_id (lv_args 0 As)]
    exact List.map_congr_left fun q _ => by show (q.1, mz_e (fun k => k) q.2) = q; rw [eid]
  have body2 := body (p, l, e, { frames := fr, cells := 1, slots := 6, locals := lo }, s, m, As.toArray, below, meth, c, s.heap, A, MQ below (mz_JQ r Post A) As.toArray s 1 6 A)
    ⟨rfl, B.exec, B.bytes, hml, findClass_of_methodNamed B.named, fun w hw => hts w (List.mem_cons_of_mem _ hw), hK.1, B.notSynchronized, B.returns, rfl⟩ hK.2 ⟨rfl, rfl, rfl⟩
    ⟨vx_table (x := y) B (hts _ List.mem_cons_self), hX, rfl⟩
  exact body2 s.heap _ [] hP va_S.rf (by rw [eL]; exact hl)
section MZH2
variable {Γ : mz_G} {l : Launch} {own : String} {cc : ByteArray} {nL k n : Nat} {ret : Option FieldType} {D : va_G} {cl : List vw_C} {cA : Nat → ClassId} {rm : Room} {P P' Pre Post : Heap → Prop} {A0 A1 : Nat → Prop}
variable {pc : Nat} {L : List (Nat × Value)} {st : List Value} {E0 : String} {hh suf : List (Nat × Nat × Nat × Nat)}
theorem mz_callCatch {y : MethodName} {ccy : ByteArray} {nLy fry loy ny index ci b N f0 t0 hnd ty : Nat} {T : u_T} {rety : Option FieldType} {As rest : List Value} (C : mz_C Γ l own cc nL ret D cl (mz_ty cA) rm) (hO : mz_AQ cA Γ.2.2.2.2.1) (EA : mz_gA Γ = A0) (X : mz_HX Γ hh) (F : mz_TJ l D cl cA y ccy nLy rety fry loy (.ref b :: As) Pre E0 Post A1) (hA : ∀ q, A1 q → A0 q)
    (hPre : ∀ H, P H → Pre H) (hat : ∀ H, P H → ∃ fs, va_at D cl (b, .inr (ci, fs)) H) (hP' : ∀ H H' : Heap, P H → Post H' → P' H')
    (hY : mz_Y y ccy nLy rety ny) (wl : Cond.methodLink own index y ∈ mz_ws) (hcl : cl[ci]? = some (y.cls, T, N)) (hn : As.length = ny)
    (hR : fry + 1 ≤ rm.frames ∧ 8 + (nLy + 11) + loy ≤ rm.locals) (hk : k + 1 ≤ rm.cells ∧ n + 6 ≤ rm.slots) (hst : (rest.map fun v => v.category).sum ≤ 8) (hd : decode cc pc = .ok (.invokevirtual index, 3)) (hs : st = As.reverse ++ .ref b :: rest)
    (hhh : tableOf hh = ⟨f0, t0, hnd, ty⟩ :: tableOf suf) (hcov : covers ⟨f0, t0, hnd, ty⟩ pc = true) (hty : ty ≠ 0) (hlink : Cond.classLink own ty E0 ∈ mz_ws) (hcast : Cond.castable E0 E0 ∈ mz_wn)
    (kk : ∀ q : Nat, mz_W Γ (fun k => k) nL (k + 1) (n + 6) P' hnd L [.ref q]) : mz_W Γ (fun k => k) nL k n P pc L st := by
  obtain ⟨p, l', e, R, s, m, args, below, meth, c, H0, A, Q⟩ := Γ
  obtain ⟨rfl, hx, hb, hml, hown, hts, hK, hlk, -, rfl⟩ := C
  replace EA : A = A0 := EA
  subst EA
  obtain ⟨htab, hX, rfl⟩ := X
  obtain ⟨y1, y2, y3, y4, y5⟩ := hY
  intro H ls locs hPq hS hl
  obtain ⟨fs, hat⟩ := hat H hPq
  have cw : CallW R s args own y.cls index y ccy nLy rety (Cond.code y ccy nLy rety :: mz_ws) { frames := fry, cells := 1, slots := 6, locals := loy } 1 6 ny :=
    ⟨callB_of ny hts (mz_good y4) rfl rfl rfl (hts _ y3) (hts _ wl) y5 hR, hts _ y1, hts _ y2⟩
  have hs2 : st.map (mz_e (fun k => k)) = As.reverse ++ .ref b :: rest := by rw [mz_eid_map]; exact hs
  have hrun := vx_runV (locs := locs) (cells := k) (slots := n) (meth := meth) (e := e) (below := below) (g := F0 m pc ls (st.map (mz_e (fun k => k)))) (rest := rest) (As := As) (b := b) (H := H) ⟨hx, hb, hml, hown, hts⟩ F cw
    ⟨mz_blindA, va_recv hK.1 (mz_one hat) hcl (q0 := 0) rfl, fun U hU hW => ⟨rfl, by rw [hU]; exact hPre H hPq, mz_KR.warm hW ⟨hK, hO⟩, by rw [hU]; exact mz_X.to hW hS.2.1 hA hX⟩⟩ rfl hn hl.1 hs2 (lv_room hst) hd hk
  intro T0 hT X0
  rcases hrun T0 hT X0 with ⟨v, st₀, t, T', L1, h0, X', hL, e1, e2, hq, stp⟩ | ⟨q, st₀, t, T', L1, E, ce, h0, X', hL, e1, e2, hx2, hce, hcv, hcl2, stp⟩
  · exact hq.elim
  · obtain ⟨rfl, hp, hz, hkk⟩ := hx2
    rw [h0] at hz hkk
    have hz2 : H.size ≤ T'.heap.size := by rw [e1]; exact hz
    have hS' : va_S A s.heap T'.heap (locs ++ L1) := by
      refine ⟨Nat.le_trans hS.1 hz2, fun q h1 h2 => ?_, fun q hq => ?_⟩
      · rw [e1, hkk q (Nat.lt_of_lt_of_le h1 hS.1) (fun h => h2 (hA q h))]; exact hS.2.1 q h1 h2
      · rcases List.mem_append.mp hq with h | h
        · exact hS.2.2 q h
        · exact hA _ (hL q h)
    have hcast2 : (Cond.castable E E).before args s = true := va_tabs (A := #[]) (A' := args) rfl (rfl : s.vm = s.vm) (hK.2 _ hcast)
    have k9 : vx_W p l' e R s m args below meth c T'.heap (locs ++ L1) (k + 1) (n + 6) Q (F0 m pc ls rest) q :=
      vx_catch hown [] ⟨f0, t0, hnd, ty⟩ (tableOf suf) (by rw [htab, hhh]; rfl) (fun z hz => by cases hz) hcov hty (hts _ hlink) hcast2 (by rw [e1]; exact hce) hcv hcl2
        (kk q T'.heap ls (locs ++ L1) (hP' H T'.heap hPq (by rw [e1]; exact hp)) hS' hl)
    obtain ⟨t2, a1, b1⟩ := k9 T' rfl X'
    exact ⟨t2, stp.trans a1, b1⟩
end MZH2
set_option maxHeartbeats 4000000 in
theorem h_isLet_no (l : Launch) (hl0 : l.stackTraces = false) (D : va_G) (cA : Nat → ClassId) (κ : Nat → Nat) (hκ : mz_I κ mz_lay2) (N : mz_Mem) (t b : Int32) (w1 : ¬ t < 0) (w2 : t < N 15 0) (w3 : ¬ b < 0) (w4 : b < N 15 0) (w5 : ¬ t = b) (w6 :  g_X2_canDouble N t b = 0) :
    mz_HJ l D vwCl cA yL_isLet cL_isLet 4 tb_isLet 7 140 [.ref (κ 0), .int t, .int b] (mz_CP D cA κ N) (some (.int 0)) (mz_CP D cA κ N) (mz_A κ mz_lay2) := by
  refine mz_introH (by decide +kernel) (Nat.le_of_ble_eq_true rfl) (fun Γ C hO E X => ?_)
  refine mz_goP (lay := (fun _ => none)) (M := mz_Z) (cA := cA) (D := D) (cl := vwCl) (fun _ _ => mz_Hno) FLL KLL C [(0, .aload_n 0), (1, .iload_n 1), (2, .iload_n 2)] (by decide +kernel) (pc' := 3) (L' := [(0, .ref (κ 0)), (1, .int t), (2, .int b)]) (st' := [.int b, .int t, .ref (κ 0)]) rfl ?_
  refine mz_callCatch (As := [.int t, .int b]) (rest := []) (ci := 9) (index := 85) (T := TX9) (N := 4) (b := κ 0) (f0 := 0) (t0 := 14) (hnd := 15) (ty := 88) (suf := []) (P' := mz_CP D cA κ N) C hO E.gA X (t_play_no l hl0 D cA κ hκ N t b w1 w2 w3 w4 w5 w6) (fun _ h => h) (fun _ h => h) (fun _ h => h.at) (fun _ _ _ h => h) hy_X9_play wl_L_85 rfl rfl ⟨Nat.le_of_ble_eq_true rfl, Nat.le_of_ble_eq_true rfl⟩ ⟨Nat.le_of_ble_eq_true rfl, Nat.le_of_ble_eq_true rfl⟩ (Nat.le_of_ble_eq_true rfl) (by decide +kernel) rfl rfl (by decide) (by decide) wc_L_88 mz_ca_is (fun q => ?_)
  refine mz_goP (lay := (fun _ => none)) (M := mz_Z) (cA := cA) (D := D) (cl := vwCl) (fun _ _ => mz_Hno) FLL KLL C [(15, .astore_n 3), (16, .iconst 0)] (by decide +kernel) (pc' := 17) (L' := [(3, .ref q), (0, .ref (κ 0)), (1, .int t), (2, .int b)]) (st' := [.int 0]) rfl ?_
  exact mz_jzret C E (by decide +kernel) (Or.inl rfl) rfl (fun _ h => h)
set_option maxHeartbeats 4000000 in
theorem h_isLet_ok (l : Launch) (hl0 : l.stackTraces = false) (D : va_G) (cA : Nat → ClassId) (κ : Nat → Nat) (hκ : mz_I κ mz_lay2) (N : mz_Mem) (t b : Int32) (w1 : ¬ t < 0) (w2 : t < N 15 0) (w3 : ¬ b < 0) (w4 : b < N 15 0) (w5 : ¬ t = b) (w6 : ¬ g_X2_canDouble N t b = 0) (hc : 0 ≤ g_X7_countScenesOf N (((1 : Int32) <<< (t &&& 31)) ||| ((1 : Int32) <<< (b &&& 31)))) :
    mz_HJ l D vwCl cA yL_isLet cL_isLet 4 tb_isLet 7 140 [.ref (κ 0), .int t, .int b] (mz_CP D cA κ N) (some (.int 1)) (mz_CP D cA κ (g_X1_startDouble N t b)) (mz_A κ mz_lay2) := by
  refine mz_introH (by decide +kernel) (Nat.le_of_ble_eq_true rfl) (fun Γ C hO E X => ?_)
  refine mz_goP (lay := (fun _ => none)) (M := mz_Z) (cA := cA) (D := D) (cl := vwCl) (fun _ _ => mz_Hno) FLL KLL C [(0, .aload_n 0), (1, .iload_n 1), (2, .iload_n 2)] (by decide +kernel) (pc' := 3) (L' := [(0, .ref (κ 0)), (1, .int t), (2, .int b)]) (st' := [.int b, .int t, .ref (κ 0)]) rfl ?_
  refine mz_callG (As := [.int t, .int b]) (rest := []) (ci := 9) (index := 85) (T := TX9) (N := 4) (b := κ 0) (P' := mz_CP D cA κ (g_X1_startDouble N t b)) C hO E.gA (c_play hκ t b w1 w2 w3 w4 w5 w6) (fun _ h => h) (fun _ h => h) (fun _ h => h.at) (fun _ _ _ h _ _ => h) hy_X9_play wl_L_85 rfl rfl ⟨Nat.le_of_ble_eq_true rfl, Nat.le_of_ble_eq_true rfl⟩ ⟨Nat.le_of_ble_eq_true rfl, Nat.le_of_ble_eq_true rfl⟩ (Nat.le_of_ble_eq_true rfl) (by decide +kernel) (st' := [.int (g_X7_countScenesOf N ((1 <<< (t &&& 31)) ||| (1 <<< (b &&& 31))))]) ?_ rfl rfl
  refine mz_zlt (off := 7) (tgt := 13) C (by decide +kernel) (by decide) (fun h => absurd hc (Int32.not_le.mpr h)) (fun _ => ?_)
  refine mz_goP (lay := (fun _ => none)) (M := mz_Z) (cA := cA) (D := D) (cl := vwCl) (fun _ _ => mz_Hno) FLL KLL C [(9, .iconst 1), (10, .goto 4)] (by decide +kernel) (pc' := 14) (L' := [(0, .ref (κ 0)), (1, .int t), (2, .int b)]) (st' := [.int 1]) rfl ?_
  refine mz_wid (k' := 1) (n' := 6) (by decide) (by decide) ?_
  exact mz_jzret C E (by decide +kernel) (Or.inr rfl) rfl (fun _ h => h)
theorem mz_cs9 : ∀ c, c ≤ 9 → ¬ mz_stc (nI c) = 0 → ¬ nI c < 0 ∧ nI c ≤ 3 ∧ ¬ nI c = 1 ∧ nI c < 10 := by decide
set_option maxHeartbeats 4000000 in
theorem t_tell (l : Launch) (D : va_G) (cA : Nat → ClassId) (κ : Nat → Nat) (hκ : mz_I κ mz_lay2) (N : mz_Mem) (g : Int32) (c nT : Nat) (w1 : ¬ g < 0) (w2 : g < N 60 0) (hT : N 15 0 = nI nT) (hT5 : nT ≤ 5) (hc : c < 10 + nT) (hs : ¬ mz_stc (nI c) = 0) :
    mz_J l D vwCl cA yL_tell cL_tell 3 none 3 80 0 0 [.ref (κ 0), .int g, .int (nI c)] (mz_CP D cA κ N) none (mz_CP D cA κ (mz_by N g (nI c))) (mz_A κ mz_lay2) := by
  refine mz_introJ (ρ := (fun k => k)) (As0 := [.ref (κ 0), .int g, .int (nI c)]) (by decide +kernel) (Nat.le_of_ble_eq_true rfl) rfl (fun Γ C hO E _ => ?_)
  have fin : ∀ a s : Int32, ¬ a < 0 → a ≤ 3 → (a = 1 → ¬ s < 0) → (a = 1 → s < N 15 0) → g_X0_changeHabit N g a s = mz_by N g (nI c) → mz_W Γ (fun k => k) 3 0 0 (mz_CP D cA κ N) 27 [(0, .ref (κ 0)), (1, .int g), (2, .int (nI c))] [.int s, .int a, .int g, .ref (κ 0)] := by
    intro a s q1 q2 q3 q4 q5
    refine mz_callG (As := [.int g, .int a, .int s]) (rest := []) (ci := 9) (index := 81) (T := TX9) (N := 4) (b := κ 0) (P' := mz_CP D cA κ (mz_by N g (nI c))) C hO E.gA (c_habit hκ g a s w1 w2 q1 q2 q3 q4) (fun _ h => h) (fun _ h => h) (fun _ h => h.at) (fun _ _ _ h _ _ => by rw [q5] at h; exact h) hy_X9_habit wl_L_81 rfl rfl ⟨Nat.le_of_ble_eq_true rfl, Nat.le_of_ble_eq_true rfl⟩ ⟨Nat.le_refl _, Nat.le_refl _⟩ (Nat.le_of_ble_eq_true rfl) (by decide +kernel) (st' := [.int (mz_rg 12 (N 64) g)]) ?_ rfl rfl
    refine mz_goP (lay := (fun _ => none)) (M := mz_Z) (cA := cA) (D := D) (cl := vwCl) (fun _ _ => mz_Hno) FLL KLL C [(30, .pop)] (by decide +kernel) (pc' := 31) (L' := [(0, .ref (κ 0)), (1, .int g), (2, .int (nI c))]) (st' := []) rfl ?_
    exact mz_jvret C E (by decide +kernel) (fun _ h => h)
  refine mz_goP (lay := (fun _ => none)) (M := mz_Z) (cA := cA) (D := D) (cl := vwCl) (fun _ _ => mz_Hno) FLL KLL C [(0, .aload_n 0), (1, .iload_n 1), (2, .iload_n 2), (3, .bipush 9)] (by decide +kernel) (pc' := 5) (L' := [(0, .ref (κ 0)), (1, .int g), (2, .int (nI c))]) (st' := [.int 9, .int (nI c), .int g, .ref (κ 0)]) rfl ?_
  refine mz_ile (off := 7) (tgt := 12) C (by decide +kernel) (by decide) (fun h => ?_) (fun h => ?_)
  · refine mz_goP (lay := (fun _ => none)) (M := mz_Z) (cA := cA) (D := D) (cl := vwCl) (fun _ _ => mz_Hno) FLL KLL C [(12, .iload_n 2), (13, .iload_n 2), (14, .bipush 9)] (by decide +kernel) (pc' := 16) (L' := [(0, .ref (κ 0)), (1, .int g), (2, .int (nI c))]) (st' := [.int 9, .int (nI c), .int (nI c), .int g, .ref (κ 0)]) rfl ?_
    refine mz_ile (off := 10) (tgt := 26) C (by decide +kernel) (by decide) (fun _ => ?_) (fun h2 => absurd h h2)
    refine mz_goP (lay := (fun _ => none)) (M := mz_Z) (cA := cA) (D := D) (cl := vwCl) (fun _ _ => mz_Hno) FLL KLL C [(26, .iconst 0)] (by decide +kernel) (pc' := 27) (L' := [(0, .ref (κ 0)), (1, .int g), (2, .int (nI c))]) (st' := [.int 0, .int (nI c), .int g, .ref (κ 0)]) rfl ?_
    have hc9 : c ≤ 9 := (nI_leI (b := 9) (by omega) (by decide)).mp h
    obtain ⟨z1, z2, z3, z4⟩ := mz_cs9 c hc9 hs
    refine fin (nI c) 0 z1 z2 (fun e => absurd e z3) (fun e => absurd e z3) ?_
    unfold mz_by
    rw [if_pos z4]
    exact mz_ch_t N g (nI c) 0 _ (fun e => absurd e z3)
  · refine mz_goP (lay := (fun _ => none)) (M := mz_Z) (cA := cA) (D := D) (cl := vwCl) (fun _ _ => mz_Hno) FLL KLL C [(8, .iconst 1), (9, .goto 4), (13, .iload_n 2), (14, .bipush 9)] (by decide +kernel) (pc' := 16) (L' := [(0, .ref (κ 0)), (1, .int g), (2, .int (nI c))]) (st' := [.int 9, .int (nI c), .int 1, .int g, .ref (κ 0)]) rfl ?_
    refine mz_ile (off := 10) (tgt := 26) C (by decide +kernel) (by decide) (fun h2 => absurd h2 h) (fun _ => ?_)
    refine mz_goP (lay := (fun _ => none)) (M := mz_Z) (cA := cA) (D := D) (cl := vwCl) (fun _ _ => mz_Hno) FLL KLL C [(19, .iload_n 2), (20, .bipush 10), (22, .isub), (23, .goto 4)] (by decide +kernel) (pc' := 27) (L' := [(0, .ref (κ 0)), (1, .int g), (2, .int (nI c))]) (st' := [.int ((nI c) - 10), .int 1, .int g, .ref (κ 0)]) rfl ?_
    have hc9 : ¬ c ≤ 9 := fun z => h (nI_le (b := 9) z (by decide))
    obtain ⟨q, rfl⟩ : ∃ q, c = q + 10 := ⟨c - 10, by omega⟩
    have e10 : nI (q + 10) - 10 = nI q := (by decide : ∀ q, q < 5 → nI (q + 10) - 10 = nI q) q (by omega)
    refine fin 1 (nI (q + 10) - 10) (by decide) (by decide) (fun _ => by rw [e10]; exact nI_pos (by omega)) (fun _ => by rw [e10, hT]; exact nI_lt (by omega) (by omega)) ?_
    unfold mz_by
    rw [if_neg (show ¬ nI (q + 10) < 10 from nI_nlt (b := 10) (by omega) (by omega))]
