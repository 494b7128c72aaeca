/-! the law's helpers: they call the class, and catch -/
def mz_out (cL : ClassId) (w : Nat) (H : Heap) : Prop := H[w]? = some (vp_cell cL (1, .inr (.inl (fun _ => 0))))
def mz_PH (D : va_G) (cl : List vw_C) (cA : Nat → ClassId) (cL : ClassId) (A : Nat → Prop) (As : List Value) (Pre : Heap → Prop) : Array Value → State → Prop := va_Pc As (fun U => Pre U.heap ∧ mz_KR D cl cA U ∧ mz_X A U U.heap ∧ ArrOfT U cL .long)
def mz_XF : String → State → State → Prop := fun _ _ _ => False
def mz_HJ (l : Launch) (D : va_G) (cl : List vw_C) (cA : Nat → ClassId) (cL : ClassId) (y : MethodName) (cc : ByteArray) (nL : Nat) (hh : List (Nat × Nat × Nat × Nat)) (fr lo : Nat) (As : List Value) (Pre : Heap → Prop) (r : Option Value) (Post : Heap → Prop) (A : Nat → Prop) : Prop :=
  vx_Met l y (Cond.codeWith y cc nL (some .int) hh :: mz_ws) { frames := fr, cells := 1, slots := 6, locals := lo } (mz_PH D cl cA cL A As Pre) (mz_JQ r Post A) mz_XF 1 6 A
theorem mz_blindH {D : va_G} {cl : List vw_C} {cA : Nat → ClassId} {cL : ClassId} {A : Nat → Prop} {As : List Value} {B : Heap → Prop} : FrameBlind (mz_PH D cl cA cL A As B) := by
  intro a U g mk h
  obtain ⟨h1, h2, h3, h4, h6⟩ := h
  refine ⟨h1, h2, mz_KR.same (s := U) (U := U.calling g mk a) rfl h3, ⟨?_, ?_, fun q hq => ?_⟩, arrOfT_moved (u := U) (E := U.calling g mk a) (Vm.Alike.refl U.vm) h6⟩
  · exact vx_Zq.moved (u := U) (U := U.calling g mk a) (Vm.Alike.refl U.vm) h4.1
  · exact vx_Zq.moved (u := U) (U := U.calling g mk a) (Vm.Alike.refl U.vm) h4.2.1
  · obtain ⟨sa, h5⟩ := h4.2.2 q hq
    exact ⟨sa, vk_R.same (u := U) (U := U.calling g mk a) rfl h5⟩
/-- what else holds in a helper's body -/
def mz_HX (Γ : mz_G) (hh : List (Nat × Nat × Nat × Nat)) (cL : ClassId) : Prop :=
  match Γ with
  | (_, _, _, _, s, _, _, _, _, c, H0, A, _) => c.exceptionTable.toList = tableOf hh ∧ mz_X A s s.heap ∧ ArrOfT s cL .long ∧ H0 = s.heap
theorem mz_introH {l : Launch} {D : va_G} {cl : List vw_C} {cA : Nat → ClassId} {cL : ClassId} {y : MethodName} {cc : ByteArray} {nL fr lo : Nat} {hh : List (Nat × Nat × Nat × Nat)} {As : List Value} {Pre Post : Heap → Prop} {r : Option Value} {A : Nat → Prop}
    (hy : plainName y.cls = true) (hlen : (lg_sl As).length ≤ nL)
    (body : ∀ Γ : mz_G, mz_C Γ l y.cls cc nL (some .int) D cl (mz_ty cA) { frames := fr, cells := 1, slots := 6, locals := lo } → mz_AO Γ.2.2.2.2.1 → mz_E Γ (mz_JQ r Post A) 1 6 A → mz_HX Γ hh cL → mz_W Γ (fun k => k) nL 0 0 Pre 0 (lv_args 0 As) []) :
    mz_HJ l D cl cA cL y cc nL hh fr lo As Pre r Post A := by
  refine vx_ofWH (cc := cc) (maxL := nL) (ret := some .int) (hh := hh) hy rfl ?_
  intro p e s m args below meth c s₁ B hml hv
  obtain ⟨rfl, hP, hK, hX, hL⟩ := hv
  refine vx_ret ?_
  have hts := atoms_spec (ws := Cond.codeWith y cc nL (some .int) hh :: mz_ws) B.pre
  rw [lg_entry_eq]
  have hl := lv_entry As (n := nL) hlen
  have eid : ∀ v : Value, mz_e (fun k => k) v = v := mz_e_id
  have eL : mz_L (fun k => k) (lv_args 0 As) = lv_args 0 As := by
    unfold mz_L
    conv => rhs; rw [← List.map_id (lv_args 0 As)]
    exact List.map_congr_left fun q _ => by show (q.1, mz_e (fun k => k) q.2) = q; rw [eid]
  have body2 := body (p, l, e, { frames := fr, cells := 1, slots := 6, locals := lo }, s, m, As.toArray, below, meth, c, s.heap, A, MQ below (mz_JQ r Post A) As.toArray s 1 6 A)
    ⟨rfl, B.exec, B.bytes, hml, findClass_of_methodNamed B.named, fun w hw => hts w (List.mem_cons_of_mem _ hw), hK.1, B.notSynchronized, B.returns, rfl⟩ hK.2 ⟨rfl, rfl, rfl⟩
    ⟨vx_table (x := y) B (hts _ List.mem_cons_self), hX, hL, rfl⟩
  exact body2 s.heap _ [] hP va_S.rf (by rw [eL]; exact hl)
section MZH2
variable {Γ : mz_G} {l : Launch} {own : String} {cc : ByteArray} {nL k n : Nat} {ret : Option FieldType} {D : va_G} {cl : List vw_C} {cA : Nat → ClassId} {cL : ClassId} {tys : List (ClassId × FieldType)} {rm : Room} {ρ : Nat → Nat} {P P' Pre : Heap → Prop} {A0 : Nat → Prop}
variable {pc : Nat} {L : List (Nat × Value)} {st : List Value} {E0 : String} {hh suf : List (Nat × Nat × Nat × Nat)}
theorem mz_callCatch {y : MethodName} {ccy : ByteArray} {nLy fry loy ny index ci b N f0 t0 hnd ty : Nat} {T : u_T} {rety : Option FieldType} {As rest : List Value} (C : mz_C Γ l own cc nL ret D cl (mz_ty cA) rm) (hO : mz_AO Γ.2.2.2.2.1) (E : ∃ Qc mc ms, mz_E Γ Qc mc ms A0) (X : mz_HX Γ hh cL) (F : mz_TC l D cl cA y ccy nLy rety fry loy (.ref b :: As) Pre E0)
    (hPre : ∀ H, P H → Pre H) (hat : ∀ H, P H → ∃ fs, va_at D cl (b, .inr (ci, fs)) H) (hP' : ∀ H H' : Heap, P H → H.size ≤ H'.size → (∀ q : Nat, q < H.size → H'[q]? = H[q]?) → P' H')
    (hY : mz_Y y ccy nLy rety ny) (wl : Cond.methodLink own index y ∈ mz_ws) (hcl : cl[ci]? = some (y.cls, T, N)) (hn : As.length = ny)
    (hR : fry + 1 ≤ rm.frames ∧ 8 + (nLy + 11) + loy ≤ rm.locals) (hk : k + 1 ≤ rm.cells ∧ n + 6 ≤ rm.slots) (hst : (rest.map fun v => v.category).sum ≤ 8) (hd : decode cc pc = .ok (.invokevirtual index, 3)) (hs : st = As.reverse ++ .ref b :: rest)
    (hhh : tableOf hh = ⟨f0, t0, hnd, ty⟩ :: tableOf suf) (hcov : covers ⟨f0, t0, hnd, ty⟩ pc = true) (hty : ty ≠ 0) (hlink : Cond.classLink own ty E0 ∈ mz_ws) (hcast : Cond.castable E0 E0 ∈ mz_wn)
    (kk : ∀ q : Nat, mz_W Γ (fun k => k) nL (k + 1) (n + 6) P' hnd L [.ref q]) : mz_W Γ (fun k => k) nL k n P pc L st := by
  obtain ⟨p, l', e, R, s, m, args, below, meth, c, H0, A, Q⟩ := Γ
  obtain ⟨rfl, hx, hb, hml, hown, hts, hK, hlk, -, rfl⟩ := C
  obtain ⟨Qc, mc, ms, -, -, rfl⟩ := E
  obtain ⟨htab, hX, -, rfl⟩ := X
  obtain ⟨y1, y2, y3, y4, y5⟩ := hY
  intro H ls locs hPq hS hl
  obtain ⟨fs, hat⟩ := hat H hPq
  have cw : CallW R s args own y.cls index y ccy nLy rety (Cond.code y ccy nLy rety :: mz_ws) { frames := fry, cells := 1, slots := 6, locals := loy } 1 6 ny :=
    ⟨callB_of ny hts (mz_good y4) rfl rfl rfl (hts _ y3) (hts _ wl) y5 hR, hts _ y1, hts _ y2⟩
  have hs2 : st.map (mz_e (fun k => k)) = As.reverse ++ .ref b :: rest := by rw [mz_eid_map]; exact hs
  have hrun := vx_runV (locs := locs) (cells := k) (slots := n) (meth := meth) (e := e) (below := below) (g := F0 m pc ls (st.map (mz_e (fun k => k)))) (rest := rest) (As := As) (b := b) (H := H) ⟨hx, hb, hml, hown, hts⟩ F cw
    ⟨mz_blindT, va_recv hK.1 (mz_one hat) hcl (q0 := 0) rfl, fun U hU hW => ⟨rfl, by rw [hU]; exact hPre H hPq, mz_KR.warm hW ⟨hK, hO⟩, by rw [hU]; exact mz_X.to hW hS.2.1 (fun _ h => h.elim) hX⟩⟩ rfl hn hl.1 hs2 (lv_room hst) hd hk
  intro T0 hT X0
  rcases hrun T0 hT X0 with ⟨v, st₀, t, T', L1, h0, X', hL, e1, e2, hq, stp⟩ | ⟨q, st₀, t, T', L1, E, ce, h0, X', hL, e1, e2, hx2, hce, hcv, hcl2, stp⟩
  · exact hq.elim
  · obtain ⟨rfl, hz, hkk⟩ := hx2
    rw [h0] at hz hkk
    have hkk2 : ∀ q : Nat, q < H.size → T'.heap[q]? = H[q]? := fun q hq => by rw [e1]; exact hkk q hq (fun h => h)
    have hz2 : H.size ≤ T'.heap.size := by rw [e1]; exact hz
    have hS' : va_S A s.heap T'.heap (locs ++ L1) := by
      refine ⟨Nat.le_trans hS.1 hz2, fun q h1 h2 => (hkk2 q (Nat.lt_of_lt_of_le h1 hS.1)).trans (hS.2.1 q h1 h2), fun q hq => ?_⟩
      rcases List.mem_append.mp hq with h | h
      · exact hS.2.2 q h
      · exact (hL q h).elim
    have hcast2 : (Cond.castable E E).before args s = true := va_tabs (A := #[]) (A' := args) rfl (rfl : s.vm = s.vm) (hK.2 _ hcast)
    have k9 : vx_W p l' e R s m args below meth c T'.heap (locs ++ L1) (k + 1) (n + 6) Q (F0 m pc ls rest) q :=
      vx_catch hown [] ⟨f0, t0, hnd, ty⟩ (tableOf suf) (by rw [htab, hhh]; rfl) (fun z hz => by cases hz) hcov hty (hts _ hlink) hcast2 (by rw [e1]; exact hce) hcv hcl2
        (kk q T'.heap ls (locs ++ L1) (hP' H T'.heap hPq hz2 hkk2) hS' hl)
    obtain ⟨t2, a1, b1⟩ := k9 T' rfl X'
    exact ⟨t2, stp.trans a1, b1⟩
/-- a long into the one place of an array -/
theorem mz_last {id : Nat} {x : Int64} {f g : Nat → Int64} (C : mz_C Γ l own cc nL ret D cl tys rm) (E : ∃ Qc mc ms, mz_E Γ Qc mc ms A0) (hA : A0 (ρ id)) (hAr : ArrOfT Γ.2.2.2.2.1 cL .long) (hcell : ∀ H : Heap, P H → H[ρ id]? = some (vp_cell cL (1, .inr (.inl f)))) (hg : ∀ j, updV (fun j => Value.long (f j)) 0 (.long x) j = .long (g j))
    (hP' : ∀ H H1 : Heap, P H → H1[ρ id]? = some (vp_cell cL (1, .inr (.inl g))) → H1.size = H.size → (∀ q : Nat, q ≠ ρ id → H1[q]? = H[q]?) → P' H1) (hd : decode cc pc = .ok (.lastore, 1))
    (kk : mz_W Γ ρ nL k n P' (pc + 1) L st) : mz_W Γ ρ nL k n P pc L (.long x :: .int 0 :: .ref id :: st) := by
  obtain ⟨p, l', e, R, s, m, args, below, meth, c, H0, A, Q⟩ := Γ
  obtain ⟨-, hx, hb, -⟩ := C
  obtain ⟨Qc, mc, ms, -, -, rfl⟩ := E
  intro H ls locs hPq hS hl
  refine W.last hx hb (hcell H hPq) (hAr 1 (fun j => .long (f j))) (fun q => by cases q) (by show ¬ ((0 : Int32) < 0 ∨ (arrV _ _ _).slots.size ≤ _); rw [arrV_size]; exact (by decide : ¬ ((0 : Int32) < 0 ∨ 1 ≤ (0 : Int32).toNatClampNeg))) rfl rfl hd fun H1 e1 z oq => ?_
  refine kk H1 ls _ (hP' H H1 hPq ?_ z oq) (hS.put z oq hA) hl
  rw [e1]
  show some ((arrV cL 1 (fun j => Value.long (f j))).setSlot 0 (.long x)) = some (arrV cL 1 (fun j => Value.long (g j)))
  rw [arrV_store]
  congr 2
  funext j
  exact hg j
end MZH2
def mz_AH (x w : Nat) : Nat → Prop := fun q => (x ≤ q ∧ q < x + 126) ∨ q = w
def flL : List (Nat × Nat × Nat) := []
theorem FLL : mz_FL RL vwCl flL := fun _ _ _ h => by cases h
def klL : List (Nat × Int64) := []
theorem KLL : mz_KL RL klL := fun _ _ h => by cases h
theorem mz_ca_io : Cond.castable mz_IO mz_IO ∈ mz_wn := mz_inn 561 (by decide +kernel) (by decide +kernel)
theorem mz_ca_ia : Cond.castable mz_IA mz_IA ∈ mz_wn := mz_inn 463 (by decide +kernel) (by decide +kernel)
set_option maxHeartbeats 4000000 in
theorem h_room (l : Launch) (hl0 : l.stackTraces = false) (D : va_G) (cA : Nat → ClassId) (cL : ClassId) (x w : Nat) (hw : x + 126 ≤ w) (a : Int32) (h : ¬ (1 ≤ a ∧ a ≤ 30)) : mz_HJ l D vwCl cA cL yL_room cL_room 4 tb_L_room 7 111 [.ref x, .int a, .ref w] (fun H => mz_H D vwCl cA (fun k => x + k) mz_lay2 mz_m7 H ∧ mz_out cL w H) (some (.int 1)) (mz_out cL w) (mz_AH x w) := by
  refine mz_introH (by decide +kernel) (Nat.le_of_ble_eq_true rfl) (fun Γ C hO E X => ?_)
  have E' := (⟨_, _, _, E⟩ : ∃ Qc mc ms, mz_E Γ Qc mc ms (mz_AH x w))
  refine mz_goP (lay := (fun _ => none)) (M := mz_Z) (cA := cA) (D := D) (cl := vwCl) (fun H h => mz_Hnone) FLL KLL C [(0, .aload_n 2), (1, .iconst 0), (2, .aload_n 0), (3, .iload_n 1)] (by decide +kernel) (pc' := 4) (L' := [(0, .ref x), (1, .int a), (2, .ref w)]) (st' := [.int a, .ref x, .int 0, .ref w]) rfl ?_
  refine mz_callCatch (As := [.int a]) (rest := [.int 0, .ref w]) (ci := 9) (index := 7) (T := TX9) (N := 4) (b := x) (f0 := 0) (t0 := 9) (hnd := 12) (ty := 13) (suf := [(0, 9, 15, 15)]) C hO E' X (t_room l hl0 D cA x a h) (fun H h => h.1) (fun H h => ⟨_, h.1 0 _ rfl⟩) (P' := mz_out cL w) (fun H H' hp _ hk => (hk w (Array.getElem?_eq_some_iff.mp hp.2).1).trans hp.2) hy_X9_room wl_L_7 rfl rfl ⟨Nat.le_of_ble_eq_true rfl, Nat.le_of_ble_eq_true rfl⟩ ⟨Nat.le_of_ble_eq_true rfl, Nat.le_of_ble_eq_true rfl⟩ (Nat.le_of_ble_eq_true rfl) (by decide +kernel) rfl rfl (by decide) (by decide) wc_L_13 mz_ca_ia (fun q => ?_)
  refine mz_goP (lay := (fun _ => none)) (M := mz_Z) (cA := cA) (D := D) (cl := vwCl) (fun H h => mz_Hnone) FLL KLL C [(12, .astore_n 3), (13, .iconst 1)] (by decide +kernel) (pc' := 14) (L' := [(3, .ref q), (0, .ref x), (1, .int a), (2, .ref w)]) (st' := [.int 1]) rfl ?_
  exact mz_jiret C E (by decide +kernel) rfl (fun H h => h)
set_option maxHeartbeats 4000000 in
theorem h_room_ok (l : Launch) (hl0 : l.stackTraces = false) (D : va_G) (cA : Nat → ClassId) (cL : ClassId) (x w : Nat) (hw : x + 126 ≤ w) (a : Int32) (h : 1 ≤ a ∧ a ≤ 30) : mz_HJ l D vwCl cA cL yL_room cL_room 4 tb_L_room 4 88 [.ref x, .int a, .ref w] (fun H => mz_H D vwCl cA (fun k => x + k) mz_lay2 mz_m7 H ∧ mz_out cL w H) (some (.int 0)) (mz_out cL w) (mz_AH x w) := by
  refine mz_introH (by decide +kernel) (Nat.le_of_ble_eq_true rfl) (fun Γ C hO E X => ?_)
  have E' := (⟨_, _, _, E⟩ : ∃ Qc mc ms, mz_E Γ Qc mc ms (mz_AH x w))
  refine mz_goP (lay := (fun _ => none)) (M := mz_Z) (cA := cA) (D := D) (cl := vwCl) (fun H h => mz_Hnone) FLL KLL C [(0, .aload_n 2), (1, .iconst 0), (2, .aload_n 0), (3, .iload_n 1)] (by decide +kernel) (pc' := 4) (L' := [(0, .ref x), (1, .int a), (2, .ref w)]) (st' := [.int a, .ref x, .int 0, .ref w]) rfl ?_
  refine mz_callJ (As := [.int a]) (rest := [.int 0, .ref w]) (ci := 9) (index := 7) (T := TX9) (N := 4) C hO E' (c_room l D cA x a h) (fun q h => Or.inl h) (fun H h => h.1) (fun H h => ⟨_, h.1 0 _ rfl⟩) (P' := mz_out cL w) (fun H H' hp _ _ hk => (hk w (Array.getElem?_eq_some_iff.mp hp.2).1 (by omega)).trans hp.2) hy_X9_room wl_L_7 rfl rfl ⟨Nat.le_of_ble_eq_true rfl, Nat.le_of_ble_eq_true rfl⟩ ⟨Nat.le_of_ble_eq_true rfl, Nat.le_of_ble_eq_true rfl⟩ (Nat.le_of_ble_eq_true rfl) (by decide +kernel) (st' := [.int 0, .int 0, .ref w]) ?_ rfl rfl
  refine mz_goP (lay := (fun _ => none)) (M := mz_Z) (cA := cA) (D := D) (cl := vwCl) (fun H h => mz_Hnone) FLL KLL C [(7, .i2l)] (by decide +kernel) (pc' := 8) (L' := [(0, .ref x), (1, .int a), (2, .ref w)]) (st' := [.long ((0 : Int32).toInt64), .int 0, .ref w]) rfl ?_
  refine mz_last (cL := cL) (f := fun _ => 0) (g := fun _ => 0) C E' (Or.inr rfl) X.2.2.1 (fun H h => h) (fun j => by unfold updV; split <;> rfl) (P' := mz_out cL w) (fun H H1 _ h _ _ => h) (by decide +kernel) ?_
  refine mz_goP (lay := (fun _ => none)) (M := mz_Z) (cA := cA) (D := D) (cl := vwCl) (fun H h => mz_Hnone) FLL KLL C [(9, .goto 9), (18, .iconst 0)] (by decide +kernel) (pc' := 19) (L' := [(0, .ref x), (1, .int a), (2, .ref w)]) (st' := [.int 0]) rfl ?_
  refine mz_widen (k' := 1) (n' := 6) (by decide) (by decide) ?_
  exact mz_jiret C E (by decide +kernel) rfl (fun H h => h)
set_option maxHeartbeats 4000000 in
theorem h_door (l : Launch) (hl0 : l.stackTraces = false) (D : va_G) (cA : Nat → ClassId) (cL : ClassId) (x w : Nat) (hw : x + 126 ≤ w) (a b e : Int32) : mz_HJ l D vwCl cA cL yL_door cL_door 6 tb_L_door 8 134 [.ref x, .int a, .int b, .int e, .ref w] (fun H => mz_H D vwCl cA (fun k => x + k) mz_lay2 mz_m7 H ∧ mz_out cL w H) (some (.int 1)) (mz_out cL w) (mz_AH x w) := by
  refine mz_introH (by decide +kernel) (Nat.le_of_ble_eq_true rfl) (fun Γ C hO E X => ?_)
  have E' := (⟨_, _, _, E⟩ : ∃ Qc mc ms, mz_E Γ Qc mc ms (mz_AH x w))
  refine mz_goP (lay := (fun _ => none)) (M := mz_Z) (cA := cA) (D := D) (cl := vwCl) (fun H h => mz_Hnone) FLL KLL C [(0, .aload 4), (2, .iconst 0), (3, .aload_n 0), (4, .iload_n 1), (5, .iload_n 2), (6, .iload_n 3)] (by decide +kernel) (pc' := 7) (L' := [(0, .ref x), (1, .int a), (2, .int b), (3, .int e), (4, .ref w)]) (st' := [.int e, .int b, .int a, .ref x, .int 0, .ref w]) rfl ?_
  refine mz_callCatch (As := [.int a, .int b, .int e]) (rest := [.int 0, .ref w]) (ci := 9) (index := 17) (T := TX9) (N := 4) (b := x) (f0 := 0) (t0 := 12) (hnd := 15) (ty := 21) (suf := [(0, 12, 19, 13), (0, 12, 23, 15)]) C hO E' X (t_door l hl0 D cA x a b e) (fun H h => h.1) (fun H h => ⟨_, h.1 0 _ rfl⟩) (P' := mz_out cL w) (fun H H' hp _ hk => (hk w (Array.getElem?_eq_some_iff.mp hp.2).1).trans hp.2) hy_X9_door wl_L_17 rfl rfl ⟨Nat.le_of_ble_eq_true rfl, Nat.le_of_ble_eq_true rfl⟩ ⟨Nat.le_of_ble_eq_true rfl, Nat.le_of_ble_eq_true rfl⟩ (Nat.le_of_ble_eq_true rfl) (by decide +kernel) rfl rfl (by decide) (by decide) wc_L_21 mz_ca_io (fun q => ?_)
  refine mz_goP (lay := (fun _ => none)) (M := mz_Z) (cA := cA) (D := D) (cl := vwCl) (fun H h => mz_Hnone) FLL KLL C [(15, .astore 5), (17, .iconst 1)] (by decide +kernel) (pc' := 18) (L' := [(5, .ref q), (0, .ref x), (1, .int a), (2, .int b), (3, .int e), (4, .ref w)]) (st' := [.int 1]) rfl ?_
  exact mz_jiret C E (by decide +kernel) rfl (fun H h => h)
set_option maxHeartbeats 4000000 in
theorem h_track (l : Launch) (hl0 : l.stackTraces = false) (D : va_G) (cA : Nat → ClassId) (cL : ClassId) (x w : Nat) (hw : x + 126 ≤ w) (a : Int32) : mz_HJ l D vwCl cA cL yL_track cL_track 4 tb_L_track 8 133 [.ref x, .int a, .ref w] (fun H => mz_H D vwCl cA (fun k => x + k) mz_lay2 mz_m7 H ∧ mz_out cL w H) (some (.int 1)) (mz_out cL w) (mz_AH x w) := by
  refine mz_introH (by decide +kernel) (Nat.le_of_ble_eq_true rfl) (fun Γ C hO E X => ?_)
  have E' := (⟨_, _, _, E⟩ : ∃ Qc mc ms, mz_E Γ Qc mc ms (mz_AH x w))
  refine mz_goP (lay := (fun _ => none)) (M := mz_Z) (cA := cA) (D := D) (cl := vwCl) (fun H h => mz_Hnone) FLL KLL C [(0, .aload_n 2), (1, .iconst 0), (2, .aload_n 0), (3, .iload_n 1)] (by decide +kernel) (pc' := 4) (L' := [(0, .ref x), (1, .int a), (2, .ref w)]) (st' := [.int a, .ref x, .int 0, .ref w]) rfl ?_
  refine mz_callCatch (As := [.int a]) (rest := [.int 0, .ref w]) (ci := 9) (index := 23) (T := TX9) (N := 4) (b := x) (f0 := 0) (t0 := 9) (hnd := 12) (ty := 21) (suf := [(0, 9, 15, 15)]) C hO E' X (t_track l hl0 D cA x a) (fun H h => h.1) (fun H h => ⟨_, h.1 0 _ rfl⟩) (P' := mz_out cL w) (fun H H' hp _ hk => (hk w (Array.getElem?_eq_some_iff.mp hp.2).1).trans hp.2) hy_X9_track wl_L_23 rfl rfl ⟨Nat.le_of_ble_eq_true rfl, Nat.le_of_ble_eq_true rfl⟩ ⟨Nat.le_of_ble_eq_true rfl, Nat.le_of_ble_eq_true rfl⟩ (Nat.le_of_ble_eq_true rfl) (by decide +kernel) rfl rfl (by decide) (by decide) wc_L_21 mz_ca_io (fun q => ?_)
  refine mz_goP (lay := (fun _ => none)) (M := mz_Z) (cA := cA) (D := D) (cl := vwCl) (fun H h => mz_Hnone) FLL KLL C [(12, .astore_n 3), (13, .iconst 1)] (by decide +kernel) (pc' := 14) (L' := [(3, .ref q), (0, .ref x), (1, .int a), (2, .ref w)]) (st' := [.int 1]) rfl ?_
  exact mz_jiret C E (by decide +kernel) rfl (fun H h => h)
set_option maxHeartbeats 4000000 in
theorem h_prop (l : Launch) (hl0 : l.stackTraces = false) (D : va_G) (cA : Nat → ClassId) (cL : ClassId) (x w : Nat) (hw : x + 126 ≤ w) (a : Int32) : mz_HJ l D vwCl cA cL yL_prop cL_prop 4 tb_L_prop 8 133 [.ref x, .int a, .ref w] (fun H => mz_H D vwCl cA (fun k => x + k) mz_lay2 mz_m7 H ∧ mz_out cL w H) (some (.int 1)) (mz_out cL w) (mz_AH x w) := by
  refine mz_introH (by decide +kernel) (Nat.le_of_ble_eq_true rfl) (fun Γ C hO E X => ?_)
  have E' := (⟨_, _, _, E⟩ : ∃ Qc mc ms, mz_E Γ Qc mc ms (mz_AH x w))
  refine mz_goP (lay := (fun _ => none)) (M := mz_Z) (cA := cA) (D := D) (cl := vwCl) (fun H h => mz_Hnone) FLL KLL C [(0, .aload_n 2), (1, .iconst 0), (2, .aload_n 0), (3, .iload_n 1)] (by decide +kernel) (pc' := 4) (L' := [(0, .ref x), (1, .int a), (2, .ref w)]) (st' := [.int a, .ref x, .int 0, .ref w]) rfl ?_
  refine mz_callCatch (As := [.int a]) (rest := [.int 0, .ref w]) (ci := 9) (index := 26) (T := TX9) (N := 4) (b := x) (f0 := 0) (t0 := 9) (hnd := 12) (ty := 21) (suf := [(0, 9, 15, 15)]) C hO E' X (t_prop l hl0 D cA x a) (fun H h => h.1) (fun H h => ⟨_, h.1 0 _ rfl⟩) (P' := mz_out cL w) (fun H H' hp _ hk => (hk w (Array.getElem?_eq_some_iff.mp hp.2).1).trans hp.2) hy_X9_prop wl_L_26 rfl rfl ⟨Nat.le_of_ble_eq_true rfl, Nat.le_of_ble_eq_true rfl⟩ ⟨Nat.le_of_ble_eq_true rfl, Nat.le_of_ble_eq_true rfl⟩ (Nat.le_of_ble_eq_true rfl) (by decide +kernel) rfl rfl (by decide) (by decide) wc_L_21 mz_ca_io (fun q => ?_)
  refine mz_goP (lay := (fun _ => none)) (M := mz_Z) (cA := cA) (D := D) (cl := vwCl) (fun H h => mz_Hnone) FLL KLL C [(12, .astore_n 3), (13, .iconst 1)] (by decide +kernel) (pc' := 14) (L' := [(3, .ref q), (0, .ref x), (1, .int a), (2, .ref w)]) (st' := [.int 1]) rfl ?_
  exact mz_jiret C E (by decide +kernel) rfl (fun H h => h)
set_option maxHeartbeats 4000000 in
theorem h_scene (l : Launch) (hl0 : l.stackTraces = false) (D : va_G) (cA : Nat → ClassId) (cL : ClassId) (x w : Nat) (hw : x + 126 ≤ w) (a b e f g : Int32) : mz_HJ l D vwCl cA cL yL_scene cL_scene 8 tb_L_scene 8 136 [.ref x, .int a, .int b, .int e, .int f, .int g, .ref w] (fun H => mz_H D vwCl cA (fun k => x + k) mz_lay2 mz_m7 H ∧ mz_out cL w H) (some (.int 1)) (mz_out cL w) (mz_AH x w) := by
  refine mz_introH (by decide +kernel) (Nat.le_of_ble_eq_true rfl) (fun Γ C hO E X => ?_)
  have E' := (⟨_, _, _, E⟩ : ∃ Qc mc ms, mz_E Γ Qc mc ms (mz_AH x w))
  refine mz_goP (lay := (fun _ => none)) (M := mz_Z) (cA := cA) (D := D) (cl := vwCl) (fun H h => mz_Hnone) FLL KLL C [(0, .aload 6), (2, .iconst 0), (3, .aload_n 0), (4, .iload_n 1), (5, .iload_n 2), (6, .iload_n 3), (7, .iload 4), (9, .iload 5)] (by decide +kernel) (pc' := 11) (L' := [(0, .ref x), (1, .int a), (2, .int b), (3, .int e), (4, .int f), (5, .int g), (6, .ref w)]) (st' := [.int g, .int f, .int e, .int b, .int a, .ref x, .int 0, .ref w]) rfl ?_
  refine mz_callCatch (As := [.int a, .int b, .int e, .int f, .int g]) (rest := [.int 0, .ref w]) (ci := 9) (index := 29) (T := TX9) (N := 4) (b := x) (f0 := 0) (t0 := 16) (hnd := 19) (ty := 21) (suf := [(0, 16, 23, 13), (0, 16, 27, 15)]) C hO E' X (t_scene l hl0 D cA x a b e f g) (fun H h => h.1) (fun H h => ⟨_, h.1 0 _ rfl⟩) (P' := mz_out cL w) (fun H H' hp _ hk => (hk w (Array.getElem?_eq_some_iff.mp hp.2).1).trans hp.2) hy_X9_scene wl_L_29 rfl rfl ⟨Nat.le_of_ble_eq_true rfl, Nat.le_of_ble_eq_true rfl⟩ ⟨Nat.le_of_ble_eq_true rfl, Nat.le_of_ble_eq_true rfl⟩ (Nat.le_of_ble_eq_true rfl) (by decide +kernel) rfl rfl (by decide) (by decide) wc_L_21 mz_ca_io (fun q => ?_)
  refine mz_goP (lay := (fun _ => none)) (M := mz_Z) (cA := cA) (D := D) (cl := vwCl) (fun H h => mz_Hnone) FLL KLL C [(19, .astore 7), (21, .iconst 1)] (by decide +kernel) (pc' := 22) (L' := [(7, .ref q), (0, .ref x), (1, .int a), (2, .int b), (3, .int e), (4, .int f), (5, .int g), (6, .ref w)]) (st' := [.int 1]) rfl ?_
  exact mz_jiret C E (by decide +kernel) rfl (fun H h => h)
set_option maxHeartbeats 4000000 in
theorem h_guest (l : Launch) (hl0 : l.stackTraces = false) (D : va_G) (cA : Nat → ClassId) (cL : ClassId) (x w : Nat) (hw : x + 126 ≤ w) (a : Int32) : mz_HJ l D vwCl cA cL yL_guest cL_guest 4 tb_L_guest 8 132 [.ref x, .int a, .ref w] (fun H => mz_H D vwCl cA (fun k => x + k) mz_lay2 mz_m7 H ∧ mz_out cL w H) (some (.int 1)) (mz_out cL w) (mz_AH x w) := by
  refine mz_introH (by decide +kernel) (Nat.le_of_ble_eq_true rfl) (fun Γ C hO E X => ?_)
  have E' := (⟨_, _, _, E⟩ : ∃ Qc mc ms, mz_E Γ Qc mc ms (mz_AH x w))
  refine mz_goP (lay := (fun _ => none)) (M := mz_Z) (cA := cA) (D := D) (cl := vwCl) (fun H h => mz_Hnone) FLL KLL C [(0, .aload_n 2), (1, .iconst 0), (2, .aload_n 0), (3, .iload_n 1)] (by decide +kernel) (pc' := 4) (L' := [(0, .ref x), (1, .int a), (2, .ref w)]) (st' := [.int a, .ref x, .int 0, .ref w]) rfl ?_
  refine mz_callCatch (As := [.int a]) (rest := [.int 0, .ref w]) (ci := 9) (index := 33) (T := TX9) (N := 4) (b := x) (f0 := 0) (t0 := 9) (hnd := 12) (ty := 21) (suf := [(0, 9, 15, 15)]) C hO E' X (t_guest l hl0 D cA x a) (fun H h => h.1) (fun H h => ⟨_, h.1 0 _ rfl⟩) (P' := mz_out cL w) (fun H H' hp _ hk => (hk w (Array.getElem?_eq_some_iff.mp hp.2).1).trans hp.2) hy_X9_guest wl_L_33 rfl rfl ⟨Nat.le_of_ble_eq_true rfl, Nat.le_of_ble_eq_true rfl⟩ ⟨Nat.le_of_ble_eq_true rfl, Nat.le_of_ble_eq_true rfl⟩ (Nat.le_of_ble_eq_true rfl) (by decide +kernel) rfl rfl (by decide) (by decide) wc_L_21 mz_ca_io (fun q => ?_)
  refine mz_goP (lay := (fun _ => none)) (M := mz_Z) (cA := cA) (D := D) (cl := vwCl) (fun H h => mz_Hnone) FLL KLL C [(12, .astore_n 3), (13, .iconst 1)] (by decide +kernel) (pc' := 14) (L' := [(3, .ref q), (0, .ref x), (1, .int a), (2, .ref w)]) (st' := [.int 1]) rfl ?_
  exact mz_jiret C E (by decide +kernel) rfl (fun H h => h)
set_option maxHeartbeats 4000000 in
theorem h_habit (l : Launch) (hl0 : l.stackTraces = false) (D : va_G) (cA : Nat → ClassId) (cL : ClassId) (x w : Nat) (hw : x + 126 ≤ w) (a b e : Int32) : mz_HJ l D vwCl cA cL yL_habit cL_habit 6 tb_L_habit 8 135 [.ref x, .int a, .int b, .int e, .ref w] (fun H => mz_H D vwCl cA (fun k => x + k) mz_lay2 mz_m7 H ∧ mz_out cL w H) (some (.int 1)) (mz_out cL w) (mz_AH x w) := by
  refine mz_introH (by decide +kernel) (Nat.le_of_ble_eq_true rfl) (fun Γ C hO E X => ?_)
  have E' := (⟨_, _, _, E⟩ : ∃ Qc mc ms, mz_E Γ Qc mc ms (mz_AH x w))
  refine mz_goP (lay := (fun _ => none)) (M := mz_Z) (cA := cA) (D := D) (cl := vwCl) (fun H h => mz_Hnone) FLL KLL C [(0, .aload 4), (2, .iconst 0), (3, .aload_n 0), (4, .iload_n 1), (5, .iload_n 2), (6, .iload_n 3)] (by decide +kernel) (pc' := 7) (L' := [(0, .ref x), (1, .int a), (2, .int b), (3, .int e), (4, .ref w)]) (st' := [.int e, .int b, .int a, .ref x, .int 0, .ref w]) rfl ?_
  refine mz_callCatch (As := [.int a, .int b, .int e]) (rest := [.int 0, .ref w]) (ci := 9) (index := 36) (T := TX9) (N := 4) (b := x) (f0 := 0) (t0 := 12) (hnd := 15) (ty := 21) (suf := [(0, 12, 19, 13)]) C hO E' X (t_habit l hl0 D cA x a b e) (fun H h => h.1) (fun H h => ⟨_, h.1 0 _ rfl⟩) (P' := mz_out cL w) (fun H H' hp _ hk => (hk w (Array.getElem?_eq_some_iff.mp hp.2).1).trans hp.2) hy_X9_habit wl_L_36 rfl rfl ⟨Nat.le_of_ble_eq_true rfl, Nat.le_of_ble_eq_true rfl⟩ ⟨Nat.le_of_ble_eq_true rfl, Nat.le_of_ble_eq_true rfl⟩ (Nat.le_of_ble_eq_true rfl) (by decide +kernel) rfl rfl (by decide) (by decide) wc_L_21 mz_ca_io (fun q => ?_)
  refine mz_goP (lay := (fun _ => none)) (M := mz_Z) (cA := cA) (D := D) (cl := vwCl) (fun H h => mz_Hnone) FLL KLL C [(15, .astore 5), (17, .iconst 1)] (by decide +kernel) (pc' := 18) (L' := [(5, .ref q), (0, .ref x), (1, .int a), (2, .int b), (3, .int e), (4, .ref w)]) (st' := [.int 1]) rfl ?_
  exact mz_jiret C E (by decide +kernel) rfl (fun H h => h)
set_option maxHeartbeats 4000000 in
theorem h_take (l : Launch) (hl0 : l.stackTraces = false) (D : va_G) (cA : Nat → ClassId) (cL : ClassId) (x w : Nat) (hw : x + 126 ≤ w) (a b : Int32) : mz_HJ l D vwCl cA cL yL_take cL_take 5 tb_L_take 8 133 [.ref x, .int a, .int b, .ref w] (fun H => mz_H D vwCl cA (fun k => x + k) mz_lay2 mz_m7 H ∧ mz_out cL w H) (some (.int 1)) (mz_out cL w) (mz_AH x w) := by
  refine mz_introH (by decide +kernel) (Nat.le_of_ble_eq_true rfl) (fun Γ C hO E X => ?_)
  have E' := (⟨_, _, _, E⟩ : ∃ Qc mc ms, mz_E Γ Qc mc ms (mz_AH x w))
  refine mz_goP (lay := (fun _ => none)) (M := mz_Z) (cA := cA) (D := D) (cl := vwCl) (fun H h => mz_Hnone) FLL KLL C [(0, .aload_n 3), (1, .iconst 0), (2, .aload_n 0), (3, .iload_n 1), (4, .iload_n 2)] (by decide +kernel) (pc' := 5) (L' := [(0, .ref x), (1, .int a), (2, .int b), (3, .ref w)]) (st' := [.int b, .int a, .ref x, .int 0, .ref w]) rfl ?_
  refine mz_callCatch (As := [.int a, .int b]) (rest := [.int 0, .ref w]) (ci := 9) (index := 42) (T := TX9) (N := 4) (b := x) (f0 := 0) (t0 := 10) (hnd := 13) (ty := 21) (suf := [(0, 10, 17, 15)]) C hO E' X (t_take l hl0 D cA x a b) (fun H h => h.1) (fun H h => ⟨_, h.1 0 _ rfl⟩) (P' := mz_out cL w) (fun H H' hp _ hk => (hk w (Array.getElem?_eq_some_iff.mp hp.2).1).trans hp.2) hy_X9_take wl_L_42 rfl rfl ⟨Nat.le_of_ble_eq_true rfl, Nat.le_of_ble_eq_true rfl⟩ ⟨Nat.le_of_ble_eq_true rfl, Nat.le_of_ble_eq_true rfl⟩ (Nat.le_of_ble_eq_true rfl) (by decide +kernel) rfl rfl (by decide) (by decide) wc_L_21 mz_ca_io (fun q => ?_)
  refine mz_goP (lay := (fun _ => none)) (M := mz_Z) (cA := cA) (D := D) (cl := vwCl) (fun H h => mz_Hnone) FLL KLL C [(13, .astore 4), (15, .iconst 1)] (by decide +kernel) (pc' := 16) (L' := [(4, .ref q), (0, .ref x), (1, .int a), (2, .int b), (3, .ref w)]) (st' := [.int 1]) rfl ?_
  exact mz_jiret C E (by decide +kernel) rfl (fun H h => h)
set_option maxHeartbeats 4000000 in
theorem h_leave (l : Launch) (hl0 : l.stackTraces = false) (D : va_G) (cA : Nat → ClassId) (cL : ClassId) (x w : Nat) (hw : x + 126 ≤ w) (a : Int32) : mz_HJ l D vwCl cA cL yL_leave cL_leave 4 tb_L_leave 8 133 [.ref x, .int a, .ref w] (fun H => mz_H D vwCl cA (fun k => x + k) mz_lay2 mz_m7 H ∧ mz_out cL w H) (some (.int 1)) (mz_out cL w) (mz_AH x w) := by
  refine mz_introH (by decide +kernel) (Nat.le_of_ble_eq_true rfl) (fun Γ C hO E X => ?_)
  have E' := (⟨_, _, _, E⟩ : ∃ Qc mc ms, mz_E Γ Qc mc ms (mz_AH x w))
  refine mz_goP (lay := (fun _ => none)) (M := mz_Z) (cA := cA) (D := D) (cl := vwCl) (fun H h => mz_Hnone) FLL KLL C [(0, .aload_n 2), (1, .iconst 0), (2, .aload_n 0), (3, .iload_n 1)] (by decide +kernel) (pc' := 4) (L' := [(0, .ref x), (1, .int a), (2, .ref w)]) (st' := [.int a, .ref x, .int 0, .ref w]) rfl ?_
  refine mz_callCatch (As := [.int a]) (rest := [.int 0, .ref w]) (ci := 9) (index := 46) (T := TX9) (N := 4) (b := x) (f0 := 0) (t0 := 9) (hnd := 12) (ty := 21) (suf := [(0, 9, 15, 15)]) C hO E' X (t_leave l hl0 D cA x a) (fun H h => h.1) (fun H h => ⟨_, h.1 0 _ rfl⟩) (P' := mz_out cL w) (fun H H' hp _ hk => (hk w (Array.getElem?_eq_some_iff.mp hp.2).1).trans hp.2) hy_X9_leave wl_L_46 rfl rfl ⟨Nat.le_of_ble_eq_true rfl, Nat.le_of_ble_eq_true rfl⟩ ⟨Nat.le_of_ble_eq_true rfl, Nat.le_of_ble_eq_true rfl⟩ (Nat.le_of_ble_eq_true rfl) (by decide +kernel) rfl rfl (by decide) (by decide) wc_L_21 mz_ca_io (fun q => ?_)
  refine mz_goP (lay := (fun _ => none)) (M := mz_Z) (cA := cA) (D := D) (cl := vwCl) (fun H h => mz_Hnone) FLL KLL C [(12, .astore_n 3), (13, .iconst 1)] (by decide +kernel) (pc' := 14) (L' := [(3, .ref q), (0, .ref x), (1, .int a), (2, .ref w)]) (st' := [.int 1]) rfl ?_
  exact mz_jiret C E (by decide +kernel) rfl (fun H h => h)
set_option maxHeartbeats 4000000 in
theorem h_play (l : Launch) (hl0 : l.stackTraces = false) (D : va_G) (cA : Nat → ClassId) (cL : ClassId) (x w : Nat) (hw : x + 126 ≤ w) (a b : Int32) : mz_HJ l D vwCl cA cL yL_play cL_play 5 tb_L_play 8 133 [.ref x, .int a, .int b, .ref w] (fun H => mz_H D vwCl cA (fun k => x + k) mz_lay2 mz_m7 H ∧ mz_out cL w H) (some (.int 1)) (mz_out cL w) (mz_AH x w) := by
  refine mz_introH (by decide +kernel) (Nat.le_of_ble_eq_true rfl) (fun Γ C hO E X => ?_)
  have E' := (⟨_, _, _, E⟩ : ∃ Qc mc ms, mz_E Γ Qc mc ms (mz_AH x w))
  refine mz_goP (lay := (fun _ => none)) (M := mz_Z) (cA := cA) (D := D) (cl := vwCl) (fun H h => mz_Hnone) FLL KLL C [(0, .aload_n 3), (1, .iconst 0), (2, .aload_n 0), (3, .iload_n 1), (4, .iload_n 2)] (by decide +kernel) (pc' := 5) (L' := [(0, .ref x), (1, .int a), (2, .int b), (3, .ref w)]) (st' := [.int b, .int a, .ref x, .int 0, .ref w]) rfl ?_
  refine mz_callCatch (As := [.int a, .int b]) (rest := [.int 0, .ref w]) (ci := 9) (index := 49) (T := TX9) (N := 4) (b := x) (f0 := 0) (t0 := 10) (hnd := 13) (ty := 21) (suf := [(0, 10, 17, 13), (0, 10, 21, 15)]) C hO E' X (t_play l hl0 D cA x a b) (fun H h => h.1) (fun H h => ⟨_, h.1 0 _ rfl⟩) (P' := mz_out cL w) (fun H H' hp _ hk => (hk w (Array.getElem?_eq_some_iff.mp hp.2).1).trans hp.2) hy_X9_play wl_L_49 rfl rfl ⟨Nat.le_of_ble_eq_true rfl, Nat.le_of_ble_eq_true rfl⟩ ⟨Nat.le_of_ble_eq_true rfl, Nat.le_of_ble_eq_true rfl⟩ (Nat.le_of_ble_eq_true rfl) (by decide +kernel) rfl rfl (by decide) (by decide) wc_L_21 mz_ca_io (fun q => ?_)
  refine mz_goP (lay := (fun _ => none)) (M := mz_Z) (cA := cA) (D := D) (cl := vwCl) (fun H h => mz_Hnone) FLL KLL C [(13, .astore 4), (15, .iconst 1)] (by decide +kernel) (pc' := 16) (L' := [(4, .ref q), (0, .ref x), (1, .int a), (2, .int b), (3, .ref w)]) (st' := [.int 1]) rfl ?_
  exact mz_jiret C E (by decide +kernel) rfl (fun H h => h)
set_option maxHeartbeats 4000000 in
theorem h_part (l : Launch) (hl0 : l.stackTraces = false) (D : va_G) (cA : Nat → ClassId) (cL : ClassId) (x w : Nat) (hw : x + 126 ≤ w) (a : Int32) : mz_HJ l D vwCl cA cL yL_part cL_part 4 tb_L_part 8 133 [.ref x, .int a, .ref w] (fun H => mz_H D vwCl cA (fun k => x + k) mz_lay2 mz_m7 H ∧ mz_out cL w H) (some (.int 1)) (mz_out cL w) (mz_AH x w) := by
  refine mz_introH (by decide +kernel) (Nat.le_of_ble_eq_true rfl) (fun Γ C hO E X => ?_)
  have E' := (⟨_, _, _, E⟩ : ∃ Qc mc ms, mz_E Γ Qc mc ms (mz_AH x w))
  refine mz_goP (lay := (fun _ => none)) (M := mz_Z) (cA := cA) (D := D) (cl := vwCl) (fun H h => mz_Hnone) FLL KLL C [(0, .aload_n 2), (1, .iconst 0), (2, .aload_n 0), (3, .iload_n 1)] (by decide +kernel) (pc' := 4) (L' := [(0, .ref x), (1, .int a), (2, .ref w)]) (st' := [.int a, .ref x, .int 0, .ref w]) rfl ?_
  refine mz_callCatch (As := [.int a]) (rest := [.int 0, .ref w]) (ci := 9) (index := 52) (T := TX9) (N := 4) (b := x) (f0 := 0) (t0 := 9) (hnd := 12) (ty := 21) (suf := [(0, 9, 15, 15)]) C hO E' X (t_part l hl0 D cA x a) (fun H h => h.1) (fun H h => ⟨_, h.1 0 _ rfl⟩) (P' := mz_out cL w) (fun H H' hp _ hk => (hk w (Array.getElem?_eq_some_iff.mp hp.2).1).trans hp.2) hy_X9_part wl_L_52 rfl rfl ⟨Nat.le_of_ble_eq_true rfl, Nat.le_of_ble_eq_true rfl⟩ ⟨Nat.le_of_ble_eq_true rfl, Nat.le_of_ble_eq_true rfl⟩ (Nat.le_of_ble_eq_true rfl) (by decide +kernel) rfl rfl (by decide) (by decide) wc_L_21 mz_ca_io (fun q => ?_)
  refine mz_goP (lay := (fun _ => none)) (M := mz_Z) (cA := cA) (D := D) (cl := vwCl) (fun H h => mz_Hnone) FLL KLL C [(12, .astore_n 3), (13, .iconst 1)] (by decide +kernel) (pc' := 14) (L' := [(3, .ref q), (0, .ref x), (1, .int a), (2, .ref w)]) (st' := [.int 1]) rfl ?_
  exact mz_jiret C E (by decide +kernel) rfl (fun H h => h)
set_option maxHeartbeats 4000000 in
theorem h_ofRoom (l : Launch) (hl0 : l.stackTraces = false) (D : va_G) (cA : Nat → ClassId) (cL : ClassId) (x w : Nat) (hw : x + 126 ≤ w) (a b : Int32) : mz_HJ l D vwCl cA cL yL_ofRoom cL_ofRoom 5 tb_L_ofRoom 8 133 [.ref x, .int a, .int b, .ref w] (fun H => mz_H D vwCl cA (fun k => x + k) mz_lay2 mz_m7 H ∧ mz_out cL w H) (some (.int 1)) (mz_out cL w) (mz_AH x w) := by
  refine mz_introH (by decide +kernel) (Nat.le_of_ble_eq_true rfl) (fun Γ C hO E X => ?_)
  have E' := (⟨_, _, _, E⟩ : ∃ Qc mc ms, mz_E Γ Qc mc ms (mz_AH x w))
  refine mz_goP (lay := (fun _ => none)) (M := mz_Z) (cA := cA) (D := D) (cl := vwCl) (fun H h => mz_Hnone) FLL KLL C [(0, .aload_n 3), (1, .iconst 0), (2, .aload_n 0), (3, .iload_n 1), (4, .iload_n 2)] (by decide +kernel) (pc' := 5) (L' := [(0, .ref x), (1, .int a), (2, .int b), (3, .ref w)]) (st' := [.int b, .int a, .ref x, .int 0, .ref w]) rfl ?_
  refine mz_callCatch (As := [.int a, .int b]) (rest := [.int 0, .ref w]) (ci := 9) (index := 55) (T := TX9) (N := 4) (b := x) (f0 := 0) (t0 := 10) (hnd := 13) (ty := 21) (suf := [(0, 10, 17, 13)]) C hO E' X (t_ofRoom l hl0 D cA x a b) (fun H h => h.1) (fun H h => ⟨_, h.1 0 _ rfl⟩) (P' := mz_out cL w) (fun H H' hp _ hk => (hk w (Array.getElem?_eq_some_iff.mp hp.2).1).trans hp.2) hy_X9_ofRoom wl_L_55 rfl rfl ⟨Nat.le_of_ble_eq_true rfl, Nat.le_of_ble_eq_true rfl⟩ ⟨Nat.le_of_ble_eq_true rfl, Nat.le_of_ble_eq_true rfl⟩ (Nat.le_of_ble_eq_true rfl) (by decide +kernel) rfl rfl (by decide) (by decide) wc_L_21 mz_ca_io (fun q => ?_)
  refine mz_goP (lay := (fun _ => none)) (M := mz_Z) (cA := cA) (D := D) (cl := vwCl) (fun H h => mz_Hnone) FLL KLL C [(13, .astore 4), (15, .iconst 1)] (by decide +kernel) (pc' := 16) (L' := [(4, .ref q), (0, .ref x), (1, .int a), (2, .int b), (3, .ref w)]) (st' := [.int 1]) rfl ?_
  exact mz_jiret C E (by decide +kernel) rfl (fun H h => h)
set_option maxHeartbeats 4000000 in
theorem h_way (l : Launch) (hl0 : l.stackTraces = false) (D : va_G) (cA : Nat → ClassId) (cL : ClassId) (x w : Nat) (hw : x + 126 ≤ w) (a b e : Int32) : mz_HJ l D vwCl cA cL yL_way cL_way 6 tb_L_way 8 134 [.ref x, .int a, .int b, .int e, .ref w] (fun H => mz_H D vwCl cA (fun k => x + k) mz_lay2 mz_m7 H ∧ mz_out cL w H) (some (.int 1)) (mz_out cL w) (mz_AH x w) := by
  refine mz_introH (by decide +kernel) (Nat.le_of_ble_eq_true rfl) (fun Γ C hO E X => ?_)
  have E' := (⟨_, _, _, E⟩ : ∃ Qc mc ms, mz_E Γ Qc mc ms (mz_AH x w))
  refine mz_goP (lay := (fun _ => none)) (M := mz_Z) (cA := cA) (D := D) (cl := vwCl) (fun H h => mz_Hnone) FLL KLL C [(0, .aload 4), (2, .iconst 0), (3, .aload_n 0), (4, .iload_n 1), (5, .iload_n 2), (6, .iload_n 3)] (by decide +kernel) (pc' := 7) (L' := [(0, .ref x), (1, .int a), (2, .int b), (3, .int e), (4, .ref w)]) (st' := [.int e, .int b, .int a, .ref x, .int 0, .ref w]) rfl ?_
  refine mz_callCatch (As := [.int a, .int b, .int e]) (rest := [.int 0, .ref w]) (ci := 9) (index := 58) (T := TX9) (N := 4) (b := x) (f0 := 0) (t0 := 12) (hnd := 15) (ty := 21) (suf := [(0, 12, 19, 13)]) C hO E' X (t_way l hl0 D cA x a b e) (fun H h => h.1) (fun H h => ⟨_, h.1 0 _ rfl⟩) (P' := mz_out cL w) (fun H H' hp _ hk => (hk w (Array.getElem?_eq_some_iff.mp hp.2).1).trans hp.2) hy_X9_way wl_L_58 rfl rfl ⟨Nat.le_of_ble_eq_true rfl, Nat.le_of_ble_eq_true rfl⟩ ⟨Nat.le_of_ble_eq_true rfl, Nat.le_of_ble_eq_true rfl⟩ (Nat.le_of_ble_eq_true rfl) (by decide +kernel) rfl rfl (by decide) (by decide) wc_L_21 mz_ca_io (fun q => ?_)
  refine mz_goP (lay := (fun _ => none)) (M := mz_Z) (cA := cA) (D := D) (cl := vwCl) (fun H h => mz_Hnone) FLL KLL C [(15, .astore 5), (17, .iconst 1)] (by decide +kernel) (pc' := 18) (L' := [(5, .ref q), (0, .ref x), (1, .int a), (2, .int b), (3, .int e), (4, .ref w)]) (st' := [.int 1]) rfl ?_
  exact mz_jiret C E (by decide +kernel) rfl (fun H h => h)
set_option maxHeartbeats 4000000 in
theorem h_ofTrack (l : Launch) (hl0 : l.stackTraces = false) (D : va_G) (cA : Nat → ClassId) (cL : ClassId) (x w : Nat) (hw : x + 126 ≤ w) (a b : Int32) : mz_HJ l D vwCl cA cL yL_ofTrack cL_ofTrack 5 tb_L_ofTrack 8 134 [.ref x, .int a, .int b, .ref w] (fun H => mz_H D vwCl cA (fun k => x + k) mz_lay2 mz_m7 H ∧ mz_out cL w H) (some (.int 1)) (mz_out cL w) (mz_AH x w) := by
  refine mz_introH (by decide +kernel) (Nat.le_of_ble_eq_true rfl) (fun Γ C hO E X => ?_)
  have E' := (⟨_, _, _, E⟩ : ∃ Qc mc ms, mz_E Γ Qc mc ms (mz_AH x w))
  refine mz_goP (lay := (fun _ => none)) (M := mz_Z) (cA := cA) (D := D) (cl := vwCl) (fun H h => mz_Hnone) FLL KLL C [(0, .aload_n 3), (1, .iconst 0), (2, .aload_n 0), (3, .iload_n 1), (4, .iload_n 2)] (by decide +kernel) (pc' := 5) (L' := [(0, .ref x), (1, .int a), (2, .int b), (3, .ref w)]) (st' := [.int b, .int a, .ref x, .int 0, .ref w]) rfl ?_
  refine mz_callCatch (As := [.int a, .int b]) (rest := [.int 0, .ref w]) (ci := 9) (index := 61) (T := TX9) (N := 4) (b := x) (f0 := 0) (t0 := 10) (hnd := 13) (ty := 21) (suf := [(0, 10, 17, 13)]) C hO E' X (t_ofTrack l hl0 D cA x a b) (fun H h => h.1) (fun H h => ⟨_, h.1 0 _ rfl⟩) (P' := mz_out cL w) (fun H H' hp _ hk => (hk w (Array.getElem?_eq_some_iff.mp hp.2).1).trans hp.2) hy_X9_ofTrack wl_L_61 rfl rfl ⟨Nat.le_of_ble_eq_true rfl, Nat.le_of_ble_eq_true rfl⟩ ⟨Nat.le_of_ble_eq_true rfl, Nat.le_of_ble_eq_true rfl⟩ (Nat.le_of_ble_eq_true rfl) (by decide +kernel) rfl rfl (by decide) (by decide) wc_L_21 mz_ca_io (fun q => ?_)
  refine mz_goP (lay := (fun _ => none)) (M := mz_Z) (cA := cA) (D := D) (cl := vwCl) (fun H h => mz_Hnone) FLL KLL C [(13, .astore 4), (15, .iconst 1)] (by decide +kernel) (pc' := 16) (L' := [(4, .ref q), (0, .ref x), (1, .int a), (2, .int b), (3, .ref w)]) (st' := [.int 1]) rfl ?_
  exact mz_jiret C E (by decide +kernel) rfl (fun H h => h)
set_option maxHeartbeats 4000000 in
theorem h_ofScene (l : Launch) (hl0 : l.stackTraces = false) (D : va_G) (cA : Nat → ClassId) (cL : ClassId) (x w : Nat) (hw : x + 126 ≤ w) (a b : Int32) : mz_HJ l D vwCl cA cL yL_ofScene cL_ofScene 5 tb_L_ofScene 8 134 [.ref x, .int a, .int b, .ref w] (fun H => mz_H D vwCl cA (fun k => x + k) mz_lay2 mz_m7 H ∧ mz_out cL w H) (some (.int 1)) (mz_out cL w) (mz_AH x w) := by
  refine mz_introH (by decide +kernel) (Nat.le_of_ble_eq_true rfl) (fun Γ C hO E X => ?_)
  have E' := (⟨_, _, _, E⟩ : ∃ Qc mc ms, mz_E Γ Qc mc ms (mz_AH x w))
  refine mz_goP (lay := (fun _ => none)) (M := mz_Z) (cA := cA) (D := D) (cl := vwCl) (fun H h => mz_Hnone) FLL KLL C [(0, .aload_n 3), (1, .iconst 0), (2, .aload_n 0), (3, .iload_n 1), (4, .iload_n 2)] (by decide +kernel) (pc' := 5) (L' := [(0, .ref x), (1, .int a), (2, .int b), (3, .ref w)]) (st' := [.int b, .int a, .ref x, .int 0, .ref w]) rfl ?_
  refine mz_callCatch (As := [.int a, .int b]) (rest := [.int 0, .ref w]) (ci := 9) (index := 64) (T := TX9) (N := 4) (b := x) (f0 := 0) (t0 := 10) (hnd := 13) (ty := 21) (suf := [(0, 10, 17, 13)]) C hO E' X (t_ofScene l hl0 D cA x a b) (fun H h => h.1) (fun H h => ⟨_, h.1 0 _ rfl⟩) (P' := mz_out cL w) (fun H H' hp _ hk => (hk w (Array.getElem?_eq_some_iff.mp hp.2).1).trans hp.2) hy_X9_ofScene wl_L_64 rfl rfl ⟨Nat.le_of_ble_eq_true rfl, Nat.le_of_ble_eq_true rfl⟩ ⟨Nat.le_of_ble_eq_true rfl, Nat.le_of_ble_eq_true rfl⟩ (Nat.le_of_ble_eq_true rfl) (by decide +kernel) rfl rfl (by decide) (by decide) wc_L_21 mz_ca_io (fun q => ?_)
  refine mz_goP (lay := (fun _ => none)) (M := mz_Z) (cA := cA) (D := D) (cl := vwCl) (fun H h => mz_Hnone) FLL KLL C [(13, .astore 4), (15, .iconst 1)] (by decide +kernel) (pc' := 16) (L' := [(4, .ref q), (0, .ref x), (1, .int a), (2, .int b), (3, .ref w)]) (st' := [.int 1]) rfl ?_
  exact mz_jiret C E (by decide +kernel) rfl (fun H h => h)
set_option maxHeartbeats 4000000 in
theorem h_ofGuest (l : Launch) (hl0 : l.stackTraces = false) (D : va_G) (cA : Nat → ClassId) (cL : ClassId) (x w : Nat) (hw : x + 126 ≤ w) (a b : Int32) : mz_HJ l D vwCl cA cL yL_ofGuest cL_ofGuest 5 tb_L_ofGuest 8 134 [.ref x, .int a, .int b, .ref w] (fun H => mz_H D vwCl cA (fun k => x + k) mz_lay2 mz_m7 H ∧ mz_out cL w H) (some (.int 1)) (mz_out cL w) (mz_AH x w) := by
  refine mz_introH (by decide +kernel) (Nat.le_of_ble_eq_true rfl) (fun Γ C hO E X => ?_)
  have E' := (⟨_, _, _, E⟩ : ∃ Qc mc ms, mz_E Γ Qc mc ms (mz_AH x w))
  refine mz_goP (lay := (fun _ => none)) (M := mz_Z) (cA := cA) (D := D) (cl := vwCl) (fun H h => mz_Hnone) FLL KLL C [(0, .aload_n 3), (1, .iconst 0), (2, .aload_n 0), (3, .iload_n 1), (4, .iload_n 2)] (by decide +kernel) (pc' := 5) (L' := [(0, .ref x), (1, .int a), (2, .int b), (3, .ref w)]) (st' := [.int b, .int a, .ref x, .int 0, .ref w]) rfl ?_
  refine mz_callCatch (As := [.int a, .int b]) (rest := [.int 0, .ref w]) (ci := 9) (index := 67) (T := TX9) (N := 4) (b := x) (f0 := 0) (t0 := 10) (hnd := 13) (ty := 21) (suf := [(0, 10, 17, 13)]) C hO E' X (t_ofGuest l hl0 D cA x a b) (fun H h => h.1) (fun H h => ⟨_, h.1 0 _ rfl⟩) (P' := mz_out cL w) (fun H H' hp _ hk => (hk w (Array.getElem?_eq_some_iff.mp hp.2).1).trans hp.2) hy_X9_ofGuest wl_L_67 rfl rfl ⟨Nat.le_of_ble_eq_true rfl, Nat.le_of_ble_eq_true rfl⟩ ⟨Nat.le_of_ble_eq_true rfl, Nat.le_of_ble_eq_true rfl⟩ (Nat.le_of_ble_eq_true rfl) (by decide +kernel) rfl rfl (by decide) (by decide) wc_L_21 mz_ca_io (fun q => ?_)
  refine mz_goP (lay := (fun _ => none)) (M := mz_Z) (cA := cA) (D := D) (cl := vwCl) (fun H h => mz_Hnone) FLL KLL C [(13, .astore 4), (15, .iconst 1)] (by decide +kernel) (pc' := 16) (L' := [(4, .ref q), (0, .ref x), (1, .int a), (2, .int b), (3, .ref w)]) (st' := [.int 1]) rfl ?_
  exact mz_jiret C E (by decide +kernel) rfl (fun H h => h)
set_option maxHeartbeats 4000000 in
theorem h_ofProp (l : Launch) (hl0 : l.stackTraces = false) (D : va_G) (cA : Nat → ClassId) (cL : ClassId) (x w : Nat) (hw : x + 126 ≤ w) (a b : Int32) : mz_HJ l D vwCl cA cL yL_ofProp cL_ofProp 5 tb_L_ofProp 8 133 [.ref x, .int a, .int b, .ref w] (fun H => mz_H D vwCl cA (fun k => x + k) mz_lay2 mz_m7 H ∧ mz_out cL w H) (some (.int 1)) (mz_out cL w) (mz_AH x w) := by
  refine mz_introH (by decide +kernel) (Nat.le_of_ble_eq_true rfl) (fun Γ C hO E X => ?_)
  have E' := (⟨_, _, _, E⟩ : ∃ Qc mc ms, mz_E Γ Qc mc ms (mz_AH x w))
  refine mz_goP (lay := (fun _ => none)) (M := mz_Z) (cA := cA) (D := D) (cl := vwCl) (fun H h => mz_Hnone) FLL KLL C [(0, .aload_n 3), (1, .iconst 0), (2, .aload_n 0), (3, .iload_n 1), (4, .iload_n 2)] (by decide +kernel) (pc' := 5) (L' := [(0, .ref x), (1, .int a), (2, .int b), (3, .ref w)]) (st' := [.int b, .int a, .ref x, .int 0, .ref w]) rfl ?_
  refine mz_callCatch (As := [.int a, .int b]) (rest := [.int 0, .ref w]) (ci := 9) (index := 70) (T := TX9) (N := 4) (b := x) (f0 := 0) (t0 := 10) (hnd := 13) (ty := 21) (suf := [(0, 10, 17, 13)]) C hO E' X (t_ofProp l hl0 D cA x a b) (fun H h => h.1) (fun H h => ⟨_, h.1 0 _ rfl⟩) (P' := mz_out cL w) (fun H H' hp _ hk => (hk w (Array.getElem?_eq_some_iff.mp hp.2).1).trans hp.2) hy_X9_ofProp wl_L_70 rfl rfl ⟨Nat.le_of_ble_eq_true rfl, Nat.le_of_ble_eq_true rfl⟩ ⟨Nat.le_of_ble_eq_true rfl, Nat.le_of_ble_eq_true rfl⟩ (Nat.le_of_ble_eq_true rfl) (by decide +kernel) rfl rfl (by decide) (by decide) wc_L_21 mz_ca_io (fun q => ?_)
  refine mz_goP (lay := (fun _ => none)) (M := mz_Z) (cA := cA) (D := D) (cl := vwCl) (fun H h => mz_Hnone) FLL KLL C [(13, .astore 4), (15, .iconst 1)] (by decide +kernel) (pc' := 16) (L' := [(4, .ref q), (0, .ref x), (1, .int a), (2, .int b), (3, .ref w)]) (st' := [.int 1]) rfl ?_
  exact mz_jiret C E (by decide +kernel) rfl (fun H h => h)
set_option maxHeartbeats 4000000 in
theorem h_seen (l : Launch) (hl0 : l.stackTraces = false) (D : va_G) (cA : Nat → ClassId) (cL : ClassId) (x w : Nat) (hw : x + 126 ≤ w) (a b : Int32) : mz_HJ l D vwCl cA cL yL_seen cL_seen 5 tb_L_seen 8 133 [.ref x, .int a, .int b, .ref w] (fun H => mz_H D vwCl cA (fun k => x + k) mz_lay2 mz_m7 H ∧ mz_out cL w H) (some (.int 1)) (mz_out cL w) (mz_AH x w) := by
  refine mz_introH (by decide +kernel) (Nat.le_of_ble_eq_true rfl) (fun Γ C hO E X => ?_)
  have E' := (⟨_, _, _, E⟩ : ∃ Qc mc ms, mz_E Γ Qc mc ms (mz_AH x w))
  refine mz_goP (lay := (fun _ => none)) (M := mz_Z) (cA := cA) (D := D) (cl := vwCl) (fun H h => mz_Hnone) FLL KLL C [(0, .aload_n 3), (1, .iconst 0), (2, .aload_n 0), (3, .iload_n 1), (4, .iload_n 2)] (by decide +kernel) (pc' := 5) (L' := [(0, .ref x), (1, .int a), (2, .int b), (3, .ref w)]) (st' := [.int b, .int a, .ref x, .int 0, .ref w]) rfl ?_
  refine mz_callCatch (As := [.int a, .int b]) (rest := [.int 0, .ref w]) (ci := 9) (index := 73) (T := TX9) (N := 4) (b := x) (f0 := 0) (t0 := 10) (hnd := 13) (ty := 21) (suf := []) C hO E' X (t_seen l hl0 D cA x a b) (fun H h => h.1) (fun H h => ⟨_, h.1 0 _ rfl⟩) (P' := mz_out cL w) (fun H H' hp _ hk => (hk w (Array.getElem?_eq_some_iff.mp hp.2).1).trans hp.2) hy_X9_seen wl_L_73 rfl rfl ⟨Nat.le_of_ble_eq_true rfl, Nat.le_of_ble_eq_true rfl⟩ ⟨Nat.le_of_ble_eq_true rfl, Nat.le_of_ble_eq_true rfl⟩ (Nat.le_of_ble_eq_true rfl) (by decide +kernel) rfl rfl (by decide) (by decide) wc_L_21 mz_ca_io (fun q => ?_)
  refine mz_goP (lay := (fun _ => none)) (M := mz_Z) (cA := cA) (D := D) (cl := vwCl) (fun H h => mz_Hnone) FLL KLL C [(13, .astore 4), (15, .iconst 1)] (by decide +kernel) (pc' := 16) (L' := [(4, .ref q), (0, .ref x), (1, .int a), (2, .int b), (3, .ref w)]) (st' := [.int 1]) rfl ?_
  exact mz_jiret C E (by decide +kernel) rfl (fun H h => h)
set_option maxHeartbeats 4000000 in
theorem h_wouldKnow (l : Launch) (hl0 : l.stackTraces = false) (D : va_G) (cA : Nat → ClassId) (cL : ClassId) (x w : Nat) (hw : x + 126 ≤ w) (a b : Int32) : mz_HJ l D vwCl cA cL yL_wouldKnow cL_wouldKnow 5 tb_L_wouldKnow 8 133 [.ref x, .int a, .int b, .ref w] (fun H => mz_H D vwCl cA (fun k => x + k) mz_lay2 mz_m7 H ∧ mz_out cL w H) (some (.int 1)) (mz_out cL w) (mz_AH x w) := by
  refine mz_introH (by decide +kernel) (Nat.le_of_ble_eq_true rfl) (fun Γ C hO E X => ?_)
  have E' := (⟨_, _, _, E⟩ : ∃ Qc mc ms, mz_E Γ Qc mc ms (mz_AH x w))
  refine mz_goP (lay := (fun _ => none)) (M := mz_Z) (cA := cA) (D := D) (cl := vwCl) (fun H h => mz_Hnone) FLL KLL C [(0, .aload_n 3), (1, .iconst 0), (2, .aload_n 0), (3, .iload_n 1), (4, .iload_n 2)] (by decide +kernel) (pc' := 5) (L' := [(0, .ref x), (1, .int a), (2, .int b), (3, .ref w)]) (st' := [.int b, .int a, .ref x, .int 0, .ref w]) rfl ?_
  refine mz_callCatch (As := [.int a, .int b]) (rest := [.int 0, .ref w]) (ci := 9) (index := 79) (T := TX9) (N := 4) (b := x) (f0 := 0) (t0 := 10) (hnd := 13) (ty := 21) (suf := [(0, 10, 17, 13)]) C hO E' X (t_wouldKnow l hl0 D cA x a b) (fun H h => h.1) (fun H h => ⟨_, h.1 0 _ rfl⟩) (P' := mz_out cL w) (fun H H' hp _ hk => (hk w (Array.getElem?_eq_some_iff.mp hp.2).1).trans hp.2) hy_X9_wouldKnow wl_L_79 rfl rfl ⟨Nat.le_of_ble_eq_true rfl, Nat.le_of_ble_eq_true rfl⟩ ⟨Nat.le_of_ble_eq_true rfl, Nat.le_of_ble_eq_true rfl⟩ (Nat.le_of_ble_eq_true rfl) (by decide +kernel) rfl rfl (by decide) (by decide) wc_L_21 mz_ca_io (fun q => ?_)
  refine mz_goP (lay := (fun _ => none)) (M := mz_Z) (cA := cA) (D := D) (cl := vwCl) (fun H h => mz_Hnone) FLL KLL C [(13, .astore 4), (15, .iconst 1)] (by decide +kernel) (pc' := 16) (L' := [(4, .ref q), (0, .ref x), (1, .int a), (2, .int b), (3, .ref w)]) (st' := [.int 1]) rfl ?_
  exact mz_jiret C E (by decide +kernel) rfl (fun H h => h)
set_option maxHeartbeats 4000000 in
theorem h_bestHabit (l : Launch) (hl0 : l.stackTraces = false) (D : va_G) (cA : Nat → ClassId) (cL : ClassId) (x w : Nat) (hw : x + 126 ≤ w) (a b : Int32) : mz_HJ l D vwCl cA cL yL_bestHabit cL_bestHabit 5 tb_L_bestHabit 8 137 [.ref x, .int a, .int b, .ref w] (fun H => mz_H D vwCl cA (fun k => x + k) mz_lay2 mz_m7 H ∧ mz_out cL w H) (some (.int 1)) (mz_out cL w) (mz_AH x w) := by
  refine mz_introH (by decide +kernel) (Nat.le_of_ble_eq_true rfl) (fun Γ C hO E X => ?_)
  have E' := (⟨_, _, _, E⟩ : ∃ Qc mc ms, mz_E Γ Qc mc ms (mz_AH x w))
  refine mz_goP (lay := (fun _ => none)) (M := mz_Z) (cA := cA) (D := D) (cl := vwCl) (fun H h => mz_Hnone) FLL KLL C [(0, .aload_n 3), (1, .iconst 0), (2, .aload_n 0), (3, .iload_n 1), (4, .iload_n 2)] (by decide +kernel) (pc' := 5) (L' := [(0, .ref x), (1, .int a), (2, .int b), (3, .ref w)]) (st' := [.int b, .int a, .ref x, .int 0, .ref w]) rfl ?_
  refine mz_callCatch (As := [.int a, .int b]) (rest := [.int 0, .ref w]) (ci := 9) (index := 82) (T := TX9) (N := 4) (b := x) (f0 := 0) (t0 := 10) (hnd := 13) (ty := 21) (suf := [(0, 10, 17, 13)]) C hO E' X (t_bestHabit l hl0 D cA x a b) (fun H h => h.1) (fun H h => ⟨_, h.1 0 _ rfl⟩) (P' := mz_out cL w) (fun H H' hp _ hk => (hk w (Array.getElem?_eq_some_iff.mp hp.2).1).trans hp.2) hy_X9_bestHabit wl_L_82 rfl rfl ⟨Nat.le_of_ble_eq_true rfl, Nat.le_of_ble_eq_true rfl⟩ ⟨Nat.le_of_ble_eq_true rfl, Nat.le_of_ble_eq_true rfl⟩ (Nat.le_of_ble_eq_true rfl) (by decide +kernel) rfl rfl (by decide) (by decide) wc_L_21 mz_ca_io (fun q => ?_)
  refine mz_goP (lay := (fun _ => none)) (M := mz_Z) (cA := cA) (D := D) (cl := vwCl) (fun H h => mz_Hnone) FLL KLL C [(13, .astore 4), (15, .iconst 1)] (by decide +kernel) (pc' := 16) (L' := [(4, .ref q), (0, .ref x), (1, .int a), (2, .int b), (3, .ref w)]) (st' := [.int 1]) rfl ?_
  exact mz_jiret C E (by decide +kernel) rfl (fun H h => h)
set_option maxHeartbeats 4000000 in
theorem h_doubles (l : Launch) (hl0 : l.stackTraces = false) (D : va_G) (cA : Nat → ClassId) (cL : ClassId) (x w : Nat) (hw : x + 126 ≤ w) (a : Int32) : mz_HJ l D vwCl cA cL yL_doubles cL_doubles 4 tb_L_doubles 8 134 [.ref x, .int a, .ref w] (fun H => mz_H D vwCl cA (fun k => x + k) mz_lay2 mz_m7 H ∧ mz_out cL w H) (some (.int 1)) (mz_out cL w) (mz_AH x w) := by
  refine mz_introH (by decide +kernel) (Nat.le_of_ble_eq_true rfl) (fun Γ C hO E X => ?_)
  have E' := (⟨_, _, _, E⟩ : ∃ Qc mc ms, mz_E Γ Qc mc ms (mz_AH x w))
  refine mz_goP (lay := (fun _ => none)) (M := mz_Z) (cA := cA) (D := D) (cl := vwCl) (fun H h => mz_Hnone) FLL KLL C [(0, .aload_n 2), (1, .iconst 0), (2, .aload_n 0), (3, .iload_n 1)] (by decide +kernel) (pc' := 4) (L' := [(0, .ref x), (1, .int a), (2, .ref w)]) (st' := [.int a, .ref x, .int 0, .ref w]) rfl ?_
  refine mz_callCatch (As := [.int a]) (rest := [.int 0, .ref w]) (ci := 9) (index := 88) (T := TX9) (N := 4) (b := x) (f0 := 0) (t0 := 9) (hnd := 12) (ty := 21) (suf := []) C hO E' X (t_doubles l hl0 D cA x a) (fun H h => h.1) (fun H h => ⟨_, h.1 0 _ rfl⟩) (P' := mz_out cL w) (fun H H' hp _ hk => (hk w (Array.getElem?_eq_some_iff.mp hp.2).1).trans hp.2) hy_X9_doubles wl_L_88 rfl rfl ⟨Nat.le_of_ble_eq_true rfl, Nat.le_of_ble_eq_true rfl⟩ ⟨Nat.le_of_ble_eq_true rfl, Nat.le_of_ble_eq_true rfl⟩ (Nat.le_of_ble_eq_true rfl) (by decide +kernel) rfl rfl (by decide) (by decide) wc_L_21 mz_ca_io (fun q => ?_)
  refine mz_goP (lay := (fun _ => none)) (M := mz_Z) (cA := cA) (D := D) (cl := vwCl) (fun H h => mz_Hnone) FLL KLL C [(12, .astore_n 3), (13, .iconst 1)] (by decide +kernel) (pc' := 14) (L' := [(3, .ref q), (0, .ref x), (1, .int a), (2, .ref w)]) (st' := [.int 1]) rfl ?_
  exact mz_jiret C E (by decide +kernel) rfl (fun H h => h)
set_option maxHeartbeats 4000000 in
theorem h_pass (l : Launch) (hl0 : l.stackTraces = false) (D : va_G) (cA : Nat → ClassId) (cL : ClassId) (x w : Nat) (hw : x + 126 ≤ w) (a : Int32) (h : ¬ (1 ≤ a ∧ a ≤ 60)) : mz_HJ l D vwCl cA cL yL_pass cL_pass 4 tb_L_pass 8 133 [.ref x, .int a, .ref w] (fun H => mz_H D vwCl cA (fun k => x + k) mz_lay2 mz_m7 H ∧ mz_out cL w H) (some (.int 1)) (mz_out cL w) (mz_AH x w) := by
  refine mz_introH (by decide +kernel) (Nat.le_of_ble_eq_true rfl) (fun Γ C hO E X => ?_)
  have E' := (⟨_, _, _, E⟩ : ∃ Qc mc ms, mz_E Γ Qc mc ms (mz_AH x w))
  refine mz_goP (lay := (fun _ => none)) (M := mz_Z) (cA := cA) (D := D) (cl := vwCl) (fun H h => mz_Hnone) FLL KLL C [(0, .aload_n 2), (1, .iconst 0), (2, .aload_n 0), (3, .iload_n 1)] (by decide +kernel) (pc' := 4) (L' := [(0, .ref x), (1, .int a), (2, .ref w)]) (st' := [.int a, .ref x, .int 0, .ref w]) rfl ?_
  refine mz_callCatch (As := [.int a]) (rest := [.int 0, .ref w]) (ci := 9) (index := 39) (T := TX9) (N := 4) (b := x) (f0 := 0) (t0 := 9) (hnd := 12) (ty := 13) (suf := [(0, 9, 15, 15)]) C hO E' X (t_pass l hl0 D cA x a h) (fun H h => h.1) (fun H h => ⟨_, h.1 0 _ rfl⟩) (P' := mz_out cL w) (fun H H' hp _ hk => (hk w (Array.getElem?_eq_some_iff.mp hp.2).1).trans hp.2) hy_X9_pass wl_L_39 rfl rfl ⟨Nat.le_of_ble_eq_true rfl, Nat.le_of_ble_eq_true rfl⟩ ⟨Nat.le_of_ble_eq_true rfl, Nat.le_of_ble_eq_true rfl⟩ (Nat.le_of_ble_eq_true rfl) (by decide +kernel) rfl rfl (by decide) (by decide) wc_L_13 mz_ca_ia (fun q => ?_)
  refine mz_goP (lay := (fun _ => none)) (M := mz_Z) (cA := cA) (D := D) (cl := vwCl) (fun H h => mz_Hnone) FLL KLL C [(12, .astore_n 3), (13, .iconst 1)] (by decide +kernel) (pc' := 14) (L' := [(3, .ref q), (0, .ref x), (1, .int a), (2, .ref w)]) (st' := [.int 1]) rfl ?_
  exact mz_jiret C E (by decide +kernel) rfl (fun H h => h)
set_option maxHeartbeats 4000000 in
theorem h_pass_ok (l : Launch) (hl0 : l.stackTraces = false) (D : va_G) (cA : Nat → ClassId) (cL : ClassId) (x w : Nat) (hw : x + 126 ≤ w) (a : Int32) (h : 1 ≤ a ∧ a ≤ 60) : mz_HJ l D vwCl cA cL yL_pass cL_pass 4 tb_L_pass 7 160 [.ref x, .int a, .ref w] (fun H => mz_H D vwCl cA (fun k => x + k) mz_lay2 mz_m7 H ∧ mz_out cL w H) (some (.int 0)) (mz_out cL w) (mz_AH x w) := by
  refine mz_introH (by decide +kernel) (Nat.le_of_ble_eq_true rfl) (fun Γ C hO E X => ?_)
  have E' := (⟨_, _, _, E⟩ : ∃ Qc mc ms, mz_E Γ Qc mc ms (mz_AH x w))
  refine mz_goP (lay := (fun _ => none)) (M := mz_Z) (cA := cA) (D := D) (cl := vwCl) (fun H h => mz_Hnone) FLL KLL C [(0, .aload_n 2), (1, .iconst 0), (2, .aload_n 0), (3, .iload_n 1)] (by decide +kernel) (pc' := 4) (L' := [(0, .ref x), (1, .int a), (2, .ref w)]) (st' := [.int a, .ref x, .int 0, .ref w]) rfl ?_
  refine mz_callJ (As := [.int a]) (rest := [.int 0, .ref w]) (ci := 9) (index := 39) (T := TX9) (N := 4) C hO E' (c_pass l D cA x a h) (fun q h => Or.inl h) (fun H h => h.1) (fun H h => ⟨_, h.1 0 _ rfl⟩) (P' := mz_out cL w) (fun H H' hp _ _ hk => (hk w (Array.getElem?_eq_some_iff.mp hp.2).1 (by omega)).trans hp.2) hy_X9_pass wl_L_39 rfl rfl ⟨Nat.le_of_ble_eq_true rfl, Nat.le_of_ble_eq_true rfl⟩ ⟨Nat.le_of_ble_eq_true rfl, Nat.le_of_ble_eq_true rfl⟩ (Nat.le_of_ble_eq_true rfl) (by decide +kernel) (st' := [.int 0, .int 0, .ref w]) ?_ rfl rfl
  refine mz_goP (lay := (fun _ => none)) (M := mz_Z) (cA := cA) (D := D) (cl := vwCl) (fun H h => mz_Hnone) FLL KLL C [(7, .i2l)] (by decide +kernel) (pc' := 8) (L' := [(0, .ref x), (1, .int a), (2, .ref w)]) (st' := [.long ((0 : Int32).toInt64), .int 0, .ref w]) rfl ?_
  refine mz_last (cL := cL) (f := fun _ => 0) (g := fun _ => 0) C E' (Or.inr rfl) X.2.2.1 (fun H h => h) (fun j => by unfold updV; split <;> rfl) (P' := mz_out cL w) (fun H H1 _ h _ _ => h) (by decide +kernel) ?_
  refine mz_goP (lay := (fun _ => none)) (M := mz_Z) (cA := cA) (D := D) (cl := vwCl) (fun H h => mz_Hnone) FLL KLL C [(9, .goto 9), (18, .iconst 0)] (by decide +kernel) (pc' := 19) (L' := [(0, .ref x), (1, .int a), (2, .ref w)]) (st' := [.int 0]) rfl ?_
  refine mz_widen (k' := 1) (n' := 6) (by decide) (by decide) ?_
  exact mz_jiret C E (by decide +kernel) rfl (fun H h => h)
set_option maxHeartbeats 4000000 in
theorem h_many (l : Launch) (hl0 : l.stackTraces = false) (D : va_G) (cA : Nat → ClassId) (cL : ClassId) (x w : Nat) (hw : x + 126 ≤ w) (a : Int32) (h : ¬ (0 ≤ a ∧ a ≤ 12)) : mz_HJ l D vwCl cA cL yL_many cL_many 4 tb_L_many 8 132 [.ref x, .int a, .ref w] (fun H => mz_H D vwCl cA (fun k => x + k) mz_lay2 mz_m7 H ∧ mz_out cL w H) (some (.int 1)) (mz_out cL w) (mz_AH x w) := by
  refine mz_introH (by decide +kernel) (Nat.le_of_ble_eq_true rfl) (fun Γ C hO E X => ?_)
  have E' := (⟨_, _, _, E⟩ : ∃ Qc mc ms, mz_E Γ Qc mc ms (mz_AH x w))
  refine mz_goP (lay := (fun _ => none)) (M := mz_Z) (cA := cA) (D := D) (cl := vwCl) (fun H h => mz_Hnone) FLL KLL C [(0, .aload_n 2), (1, .iconst 0), (2, .aload_n 0), (3, .iload_n 1)] (by decide +kernel) (pc' := 4) (L' := [(0, .ref x), (1, .int a), (2, .ref w)]) (st' := [.int a, .ref x, .int 0, .ref w]) rfl ?_
  refine mz_callCatch (As := [.int a]) (rest := [.int 0, .ref w]) (ci := 9) (index := 76) (T := TX9) (N := 4) (b := x) (f0 := 0) (t0 := 9) (hnd := 12) (ty := 13) (suf := []) C hO E' X (t_many l hl0 D cA x a h) (fun H h => h.1) (fun H h => ⟨_, h.1 0 _ rfl⟩) (P' := mz_out cL w) (fun H H' hp _ hk => (hk w (Array.getElem?_eq_some_iff.mp hp.2).1).trans hp.2) hy_X9_many wl_L_76 rfl rfl ⟨Nat.le_of_ble_eq_true rfl, Nat.le_of_ble_eq_true rfl⟩ ⟨Nat.le_of_ble_eq_true rfl, Nat.le_of_ble_eq_true rfl⟩ (Nat.le_of_ble_eq_true rfl) (by decide +kernel) rfl rfl (by decide) (by decide) wc_L_13 mz_ca_ia (fun q => ?_)
  refine mz_goP (lay := (fun _ => none)) (M := mz_Z) (cA := cA) (D := D) (cl := vwCl) (fun H h => mz_Hnone) FLL KLL C [(12, .astore_n 3), (13, .iconst 1)] (by decide +kernel) (pc' := 14) (L' := [(3, .ref q), (0, .ref x), (1, .int a), (2, .ref w)]) (st' := [.int 1]) rfl ?_
  exact mz_jiret C E (by decide +kernel) rfl (fun H h => h)
set_option maxHeartbeats 4000000 in
theorem h_many_ok (l : Launch) (hl0 : l.stackTraces = false) (D : va_G) (cA : Nat → ClassId) (cL : ClassId) (x w : Nat) (hw : x + 126 ≤ w) (a : Int32) (h : 0 ≤ a ∧ a ≤ 12) : mz_HJ l D vwCl cA cL yL_many cL_many 4 tb_L_many 3 64 [.ref x, .int a, .ref w] (fun H => mz_H D vwCl cA (fun k => x + k) mz_lay2 mz_m7 H ∧ mz_out cL w H) (some (.int 0)) (mz_out cL w) (mz_AH x w) := by
  refine mz_introH (by decide +kernel) (Nat.le_of_ble_eq_true rfl) (fun Γ C hO E X => ?_)
  have E' := (⟨_, _, _, E⟩ : ∃ Qc mc ms, mz_E Γ Qc mc ms (mz_AH x w))
  refine mz_goP (lay := (fun _ => none)) (M := mz_Z) (cA := cA) (D := D) (cl := vwCl) (fun H h => mz_Hnone) FLL KLL C [(0, .aload_n 2), (1, .iconst 0), (2, .aload_n 0), (3, .iload_n 1)] (by decide +kernel) (pc' := 4) (L' := [(0, .ref x), (1, .int a), (2, .ref w)]) (st' := [.int a, .ref x, .int 0, .ref w]) rfl ?_
  refine mz_callJ (As := [.int a]) (rest := [.int 0, .ref w]) (ci := 9) (index := 76) (T := TX9) (N := 4) C hO E' (c_many l D cA x a h) (fun q h => Or.inl h) (fun H h => h.1) (fun H h => ⟨_, h.1 0 _ rfl⟩) (P' := mz_out cL w) (fun H H' hp _ _ hk => (hk w (Array.getElem?_eq_some_iff.mp hp.2).1 (by omega)).trans hp.2) hy_X9_many wl_L_76 rfl rfl ⟨Nat.le_of_ble_eq_true rfl, Nat.le_of_ble_eq_true rfl⟩ ⟨Nat.le_of_ble_eq_true rfl, Nat.le_of_ble_eq_true rfl⟩ (Nat.le_of_ble_eq_true rfl) (by decide +kernel) (st' := [.int 0, .int 0, .ref w]) ?_ rfl rfl
  refine mz_goP (lay := (fun _ => none)) (M := mz_Z) (cA := cA) (D := D) (cl := vwCl) (fun H h => mz_Hnone) FLL KLL C [(7, .i2l)] (by decide +kernel) (pc' := 8) (L' := [(0, .ref x), (1, .int a), (2, .ref w)]) (st' := [.long ((0 : Int32).toInt64), .int 0, .ref w]) rfl ?_
  refine mz_last (cL := cL) (f := fun _ => 0) (g := fun _ => 0) C E' (Or.inr rfl) X.2.2.1 (fun H h => h) (fun j => by unfold updV; split <;> rfl) (P' := mz_out cL w) (fun H H1 _ h _ _ => h) (by decide +kernel) ?_
  refine mz_goP (lay := (fun _ => none)) (M := mz_Z) (cA := cA) (D := D) (cl := vwCl) (fun H h => mz_Hnone) FLL KLL C [(9, .goto 6), (15, .iconst 0)] (by decide +kernel) (pc' := 16) (L' := [(0, .ref x), (1, .int a), (2, .ref w)]) (st' := [.int 0]) rfl ?_
  refine mz_widen (k' := 1) (n' := 6) (by decide) (by decide) ?_
  exact mz_jiret C E (by decide +kernel) rfl (fun H h => h)
set_option maxHeartbeats 4000000 in
theorem h_wouldCut (l : Launch) (hl0 : l.stackTraces = false) (D : va_G) (cA : Nat → ClassId) (cL : ClassId) (x w : Nat) (hw : x + 126 ≤ w) (a : Int32) (h : ¬ (1 ≤ a ∧ a ≤ 40)) : mz_HJ l D vwCl cA cL yL_wouldCut cL_wouldCut 4 tb_L_wouldCut 8 132 [.ref x, .int a, .ref w] (fun H => mz_H D vwCl cA (fun k => x + k) mz_lay2 mz_m7 H ∧ mz_out cL w H) (some (.int 1)) (mz_out cL w) (mz_AH x w) := by
  refine mz_introH (by decide +kernel) (Nat.le_of_ble_eq_true rfl) (fun Γ C hO E X => ?_)
  have E' := (⟨_, _, _, E⟩ : ∃ Qc mc ms, mz_E Γ Qc mc ms (mz_AH x w))
  refine mz_goP (lay := (fun _ => none)) (M := mz_Z) (cA := cA) (D := D) (cl := vwCl) (fun H h => mz_Hnone) FLL KLL C [(0, .aload_n 2), (1, .iconst 0), (2, .aload_n 0), (3, .iload_n 1)] (by decide +kernel) (pc' := 4) (L' := [(0, .ref x), (1, .int a), (2, .ref w)]) (st' := [.int a, .ref x, .int 0, .ref w]) rfl ?_
  refine mz_callCatch (As := [.int a]) (rest := [.int 0, .ref w]) (ci := 9) (index := 85) (T := TX9) (N := 4) (b := x) (f0 := 0) (t0 := 9) (hnd := 12) (ty := 13) (suf := []) C hO E' X (t_wouldCut l hl0 D cA x a h) (fun H h => h.1) (fun H h => ⟨_, h.1 0 _ rfl⟩) (P' := mz_out cL w) (fun H H' hp _ hk => (hk w (Array.getElem?_eq_some_iff.mp hp.2).1).trans hp.2) hy_X9_wouldCut wl_L_85 rfl rfl ⟨Nat.le_of_ble_eq_true rfl, Nat.le_of_ble_eq_true rfl⟩ ⟨Nat.le_of_ble_eq_true rfl, Nat.le_of_ble_eq_true rfl⟩ (Nat.le_of_ble_eq_true rfl) (by decide +kernel) rfl rfl (by decide) (by decide) wc_L_13 mz_ca_ia (fun q => ?_)
  refine mz_goP (lay := (fun _ => none)) (M := mz_Z) (cA := cA) (D := D) (cl := vwCl) (fun H h => mz_Hnone) FLL KLL C [(12, .astore_n 3), (13, .iconst 1)] (by decide +kernel) (pc' := 14) (L' := [(3, .ref q), (0, .ref x), (1, .int a), (2, .ref w)]) (st' := [.int 1]) rfl ?_
  exact mz_jiret C E (by decide +kernel) rfl (fun H h => h)
set_option maxHeartbeats 4000000 in
theorem h_wouldCut_ok (l : Launch) (hl0 : l.stackTraces = false) (D : va_G) (cA : Nat → ClassId) (cL : ClassId) (x w : Nat) (hw : x + 126 ≤ w) (a : Int32) (h : 1 ≤ a ∧ a ≤ 40) : mz_HJ l D vwCl cA cL yL_wouldCut cL_wouldCut 4 tb_L_wouldCut 7 159 [.ref x, .int a, .ref w] (fun H => mz_H D vwCl cA (fun k => x + k) mz_lay2 mz_m7 H ∧ mz_out cL w H) (some (.int 0)) (mz_out cL w) (mz_AH x w) := by
  refine mz_introH (by decide +kernel) (Nat.le_of_ble_eq_true rfl) (fun Γ C hO E X => ?_)
  have E' := (⟨_, _, _, E⟩ : ∃ Qc mc ms, mz_E Γ Qc mc ms (mz_AH x w))
  refine mz_goP (lay := (fun _ => none)) (M := mz_Z) (cA := cA) (D := D) (cl := vwCl) (fun H h => mz_Hnone) FLL KLL C [(0, .aload_n 2), (1, .iconst 0), (2, .aload_n 0), (3, .iload_n 1)] (by decide +kernel) (pc' := 4) (L' := [(0, .ref x), (1, .int a), (2, .ref w)]) (st' := [.int a, .ref x, .int 0, .ref w]) rfl ?_
  refine mz_callJ (As := [.int a]) (rest := [.int 0, .ref w]) (ci := 9) (index := 85) (T := TX9) (N := 4) C hO E' (c_wouldCut l D cA x a h) (fun q h => Or.inl h) (fun H h => h.1) (fun H h => ⟨_, h.1 0 _ rfl⟩) (P' := mz_out cL w) (fun H H' hp _ _ hk => (hk w (Array.getElem?_eq_some_iff.mp hp.2).1 (by omega)).trans hp.2) hy_X9_wouldCut wl_L_85 rfl rfl ⟨Nat.le_of_ble_eq_true rfl, Nat.le_of_ble_eq_true rfl⟩ ⟨Nat.le_of_ble_eq_true rfl, Nat.le_of_ble_eq_true rfl⟩ (Nat.le_of_ble_eq_true rfl) (by decide +kernel) (st' := [.int 0, .int 0, .ref w]) ?_ rfl rfl
  refine mz_goP (lay := (fun _ => none)) (M := mz_Z) (cA := cA) (D := D) (cl := vwCl) (fun H h => mz_Hnone) FLL KLL C [(7, .i2l)] (by decide +kernel) (pc' := 8) (L' := [(0, .ref x), (1, .int a), (2, .ref w)]) (st' := [.long ((0 : Int32).toInt64), .int 0, .ref w]) rfl ?_
  refine mz_last (cL := cL) (f := fun _ => 0) (g := fun _ => 0) C E' (Or.inr rfl) X.2.2.1 (fun H h => h) (fun j => by unfold updV; split <;> rfl) (P' := mz_out cL w) (fun H H1 _ h _ _ => h) (by decide +kernel) ?_
  refine mz_goP (lay := (fun _ => none)) (M := mz_Z) (cA := cA) (D := D) (cl := vwCl) (fun H h => mz_Hnone) FLL KLL C [(9, .goto 6), (15, .iconst 0)] (by decide +kernel) (pc' := 16) (L' := [(0, .ref x), (1, .int a), (2, .ref w)]) (st' := [.int 0]) rfl ?_
  refine mz_widen (k' := 1) (n' := 6) (by decide) (by decide) ?_
  exact mz_jiret C E (by decide +kernel) rfl (fun H h => h)
