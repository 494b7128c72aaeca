section MZB
variable {Γ : mz_G} {l : Launch} {own : String} {cc : ByteArray} {nL k n : Nat} {ret : Option FieldType} {D : va_G} {cl : List vw_C} {tys : List (ClassId × FieldType)} {rm : Room} {ρ : Nat → Nat} {P : Heap → Prop}
variable {pc tgt : Nat} {L : List (Nat × Value)} {st : List Value} {off : Int} {x y : Int32}
/-! branches: on the left what holds where it jumps, on the right where it goes on -/
theorem mz_ieq (C : mz_C Γ l own cc nL ret D cl tys rm) (hd : decode cc pc = .ok (.if_icmp .eq off, 3)) (ht : (pc : Int) + off = (tgt : Int)) (kt : x = y → mz_W Γ ρ nL k n P tgt L st) (kf : ¬ x = y → mz_W Γ ρ nL k n P (pc + 3) L st) : mz_W Γ ρ nL k n P pc L (.int y :: .int x :: st) := by
  obtain ⟨p, l', e, R, s, m, args, below, meth, c, H0, A, Q⟩ := Γ
  obtain ⟨-, hx, hb, -⟩ := C
  exact fun H ls locs hP hS hl => lv_icmp_eq hx hb hd ht (fun h => kt h H ls locs hP hS hl) (fun h => kf h H ls locs hP hS hl)
theorem mz_ine (C : mz_C Γ l own cc nL ret D cl tys rm) (hd : decode cc pc = .ok (.if_icmp .ne off, 3)) (ht : (pc : Int) + off = (tgt : Int)) (kt : ¬ x = y → mz_W Γ ρ nL k n P tgt L st) (kf : x = y → mz_W Γ ρ nL k n P (pc + 3) L st) : mz_W Γ ρ nL k n P pc L (.int y :: .int x :: st) := by
  obtain ⟨p, l', e, R, s, m, args, below, meth, c, H0, A, Q⟩ := Γ
  obtain ⟨-, hx, hb, -⟩ := C
  exact fun H ls locs hP hS hl => lv_icmp_ne hx hb hd ht (fun h => kt h H ls locs hP hS hl) (fun h => kf h H ls locs hP hS hl)
theorem mz_ilt (C : mz_C Γ l own cc nL ret D cl tys rm) (hd : decode cc pc = .ok (.if_icmp .lt off, 3)) (ht : (pc : Int) + off = (tgt : Int)) (kt : x < y → mz_W Γ ρ nL k n P tgt L st) (kf : ¬ x < y → mz_W Γ ρ nL k n P (pc + 3) L st) : mz_W Γ ρ nL k n P pc L (.int y :: .int x :: st) := by
  obtain ⟨p, l', e, R, s, m, args, below, meth, c, H0, A, Q⟩ := Γ
  obtain ⟨-, hx, hb, -⟩ := C
  exact fun H ls locs hP hS hl => lv_icmp_lt hx hb hd ht (fun h => kt h H ls locs hP hS hl) (fun h => kf h H ls locs hP hS hl)
theorem mz_ige (C : mz_C Γ l own cc nL ret D cl tys rm) (hd : decode cc pc = .ok (.if_icmp .ge off, 3)) (ht : (pc : Int) + off = (tgt : Int)) (kt : y ≤ x → mz_W Γ ρ nL k n P tgt L st) (kf : ¬ y ≤ x → mz_W Γ ρ nL k n P (pc + 3) L st) : mz_W Γ ρ nL k n P pc L (.int y :: .int x :: st) := by
  obtain ⟨p, l', e, R, s, m, args, below, meth, c, H0, A, Q⟩ := Γ
  obtain ⟨-, hx, hb, -⟩ := C
  exact fun H ls locs hP hS hl => lv_icmp_ge hx hb hd ht (fun h => kt h H ls locs hP hS hl) (fun h => kf h H ls locs hP hS hl)
theorem mz_igt (C : mz_C Γ l own cc nL ret D cl tys rm) (hd : decode cc pc = .ok (.if_icmp .gt off, 3)) (ht : (pc : Int) + off = (tgt : Int)) (kt : y < x → mz_W Γ ρ nL k n P tgt L st) (kf : ¬ y < x → mz_W Γ ρ nL k n P (pc + 3) L st) : mz_W Γ ρ nL k n P pc L (.int y :: .int x :: st) := by
  obtain ⟨p, l', e, R, s, m, args, below, meth, c, H0, A, Q⟩ := Γ
  obtain ⟨-, hx, hb, -⟩ := C
  exact fun H ls locs hP hS hl => lv_icmp_gt hx hb hd ht (fun h => kt h H ls locs hP hS hl) (fun h => kf h H ls locs hP hS hl)
theorem mz_ile (C : mz_C Γ l own cc nL ret D cl tys rm) (hd : decode cc pc = .ok (.if_icmp .le off, 3)) (ht : (pc : Int) + off = (tgt : Int)) (kt : x ≤ y → mz_W Γ ρ nL k n P tgt L st) (kf : ¬ x ≤ y → mz_W Γ ρ nL k n P (pc + 3) L st) : mz_W Γ ρ nL k n P pc L (.int y :: .int x :: st) := by
  obtain ⟨p, l', e, R, s, m, args, below, meth, c, H0, A, Q⟩ := Γ
  obtain ⟨-, hx, hb, -⟩ := C
  exact fun H ls locs hP hS hl => lv_icmp_le hx hb hd ht (fun h => kt h H ls locs hP hS hl) (fun h => kf h H ls locs hP hS hl)
theorem mz_zeq (C : mz_C Γ l own cc nL ret D cl tys rm) (hd : decode cc pc = .ok (.ifCond .eq off, 3)) (ht : (pc : Int) + off = (tgt : Int)) (kt : x = 0 → mz_W Γ ρ nL k n P tgt L st) (kf : ¬ x = 0 → mz_W Γ ρ nL k n P (pc + 3) L st) : mz_W Γ ρ nL k n P pc L (.int x :: st) := by
  obtain ⟨p, l', e, R, s, m, args, below, meth, c, H0, A, Q⟩ := Γ
  obtain ⟨-, hx, hb, -⟩ := C
  exact fun H ls locs hP hS hl => lv_if_eq hx hb hd ht (fun h => kt h H ls locs hP hS hl) (fun h => kf h H ls locs hP hS hl)
theorem mz_zne (C : mz_C Γ l own cc nL ret D cl tys rm) (hd : decode cc pc = .ok (.ifCond .ne off, 3)) (ht : (pc : Int) + off = (tgt : Int)) (kt : ¬ x = 0 → mz_W Γ ρ nL k n P tgt L st) (kf : x = 0 → mz_W Γ ρ nL k n P (pc + 3) L st) : mz_W Γ ρ nL k n P pc L (.int x :: st) := by
  obtain ⟨p, l', e, R, s, m, args, below, meth, c, H0, A, Q⟩ := Γ
  obtain ⟨-, hx, hb, -⟩ := C
  exact fun H ls locs hP hS hl => lv_if_ne hx hb hd ht (fun h => kt h H ls locs hP hS hl) (fun h => kf h H ls locs hP hS hl)
theorem mz_zlt (C : mz_C Γ l own cc nL ret D cl tys rm) (hd : decode cc pc = .ok (.ifCond .lt off, 3)) (ht : (pc : Int) + off = (tgt : Int)) (kt : x < 0 → mz_W Γ ρ nL k n P tgt L st) (kf : ¬ x < 0 → mz_W Γ ρ nL k n P (pc + 3) L st) : mz_W Γ ρ nL k n P pc L (.int x :: st) := by
  obtain ⟨p, l', e, R, s, m, args, below, meth, c, H0, A, Q⟩ := Γ
  obtain ⟨-, hx, hb, -⟩ := C
  exact fun H ls locs hP hS hl => lv_if_lt hx hb hd ht (fun h => kt h H ls locs hP hS hl) (fun h => kf h H ls locs hP hS hl)
theorem mz_zge (C : mz_C Γ l own cc nL ret D cl tys rm) (hd : decode cc pc = .ok (.ifCond .ge off, 3)) (ht : (pc : Int) + off = (tgt : Int)) (kt : 0 ≤ x → mz_W Γ ρ nL k n P tgt L st) (kf : ¬ 0 ≤ x → mz_W Γ ρ nL k n P (pc + 3) L st) : mz_W Γ ρ nL k n P pc L (.int x :: st) := by
  obtain ⟨p, l', e, R, s, m, args, below, meth, c, H0, A, Q⟩ := Γ
  obtain ⟨-, hx, hb, -⟩ := C
  exact fun H ls locs hP hS hl => lv_if_ge hx hb hd ht (fun h => kt h H ls locs hP hS hl) (fun h => kf h H ls locs hP hS hl)
theorem mz_zgt (C : mz_C Γ l own cc nL ret D cl tys rm) (hd : decode cc pc = .ok (.ifCond .gt off, 3)) (ht : (pc : Int) + off = (tgt : Int)) (kt : 0 < x → mz_W Γ ρ nL k n P tgt L st) (kf : ¬ 0 < x → mz_W Γ ρ nL k n P (pc + 3) L st) : mz_W Γ ρ nL k n P pc L (.int x :: st) := by
  obtain ⟨p, l', e, R, s, m, args, below, meth, c, H0, A, Q⟩ := Γ
  obtain ⟨-, hx, hb, -⟩ := C
  exact fun H ls locs hP hS hl => lv_if_gt hx hb hd ht (fun h => kt h H ls locs hP hS hl) (fun h => kf h H ls locs hP hS hl)
theorem mz_zle (C : mz_C Γ l own cc nL ret D cl tys rm) (hd : decode cc pc = .ok (.ifCond .le off, 3)) (ht : (pc : Int) + off = (tgt : Int)) (kt : x ≤ 0 → mz_W Γ ρ nL k n P tgt L st) (kf : ¬ x ≤ 0 → mz_W Γ ρ nL k n P (pc + 3) L st) : mz_W Γ ρ nL k n P pc L (.int x :: st) := by
  obtain ⟨p, l', e, R, s, m, args, below, meth, c, H0, A, Q⟩ := Γ
  obtain ⟨-, hx, hb, -⟩ := C
  exact fun H ls locs hP hS hl => lv_if_le hx hb hd ht (fun h => kt h H ls locs hP hS hl) (fun h => kf h H ls locs hP hS hl)
/-- fewer locals, in any order -/
theorem mz_sub {L' : List (Nat × Value)} (h : ∀ q ∈ L', q ∈ L) (kk : mz_W Γ ρ nL k n P pc L' st) : mz_W Γ ρ nL k n P pc L st := by
  obtain ⟨p, l', e, R, s, m, args, below, meth, c, H0, A, Q⟩ := Γ
  refine fun H ls locs hP hS hl => kk H ls locs hP hS ⟨hl.1, hl.2.1, fun q hq => ?_⟩
  obtain ⟨q0, h0, rfl⟩ := List.mem_map.mp hq
  exact hl.2.2 _ (List.mem_map.mpr ⟨q0, h q0 h0, rfl⟩)
theorem mz_mono {P' : Heap → Prop} (h : ∀ H, P H → P' H) (kk : mz_W Γ ρ nL k n P' pc L st) : mz_W Γ ρ nL k n P pc L st := by
  obtain ⟨p, l', e, R, s, m, args, below, meth, c, H0, A, Q⟩ := Γ
  exact fun H ls locs hP hS hl => kk H ls locs (h H hP) hS hl
theorem mz_widen {k' n' : Nat} (h1 : k ≤ k') (h2 : n ≤ n') (kk : mz_W Γ ρ nL k' n' P pc L st) : mz_W Γ ρ nL k n P pc L st := by
  obtain ⟨p, l', e, R, s, m, args, below, meth, c, H0, A, Q⟩ := Γ
  exact fun H ls locs hP hS hl => W.widen h1 h2 (kk H ls locs hP hS hl)
end MZB
section MZR
variable {Γ : mz_G} {l : Launch} {own : String} {cc : ByteArray} {nL : Nat} {ret : Option FieldType} {D : va_G} {cl : List vw_C} {cA : Nat → ClassId} {tys : List (ClassId × FieldType)} {rm : Room} {ρ : Nat → Nat} {lay : mz_Lay} {M M' : mz_Mem}
variable {pc : Nat} {L : List (Nat × Value)} {st : List Value} {r : Option Value} {v w : Int32}
/-! the ends -/
theorem mz_iret (C : mz_C Γ l own cc nL (some .int) D cl tys rm) (E : mz_E Γ (mz_Q D cl cA ρ lay (some (.int w)) M') 0 0 (mz_A ρ lay)) (hd : decode cc pc = .ok (.ireturn, 1)) (hv : v = w) (hM : M = M') : mz_W Γ ρ nL 0 0 (mz_H D cl cA ρ lay M) pc L [.int v] := by
  obtain ⟨p, l', e, R, s, m, args, below, meth, c, H0, A, Q⟩ := Γ
  obtain ⟨-, hx, hb, -, -, -, -, hlocks, hr, -⟩ := C
  obtain ⟨rfl, rfl, rfl⟩ := E
  subst hv; subst hM
  exact fun H ls locs hP hS hl => W.iret hx hb hr (fun t ht _ => ⟨rfl, by rw [ht]; exact hP, hS.F ht⟩) (fun q hq => hS.2.2 q hq) hd hlocks
theorem mz_zret (C : mz_C Γ l own cc nL (some .boolean) D cl tys rm) (E : mz_E Γ (mz_Q D cl cA ρ lay (some (.int w)) M') 0 0 (mz_A ρ lay)) (hd : decode cc pc = .ok (.ireturn, 1)) (hz : v = 0 ∨ v = 1) (hv : v = w) (hM : M = M') : mz_W Γ ρ nL 0 0 (mz_H D cl cA ρ lay M) pc L [.int v] := by
  obtain ⟨p, l', e, R, s, m, args, below, meth, c, H0, A, Q⟩ := Γ
  obtain ⟨-, hx, hb, -, -, -, -, hlocks, hr, -⟩ := C
  obtain ⟨rfl, rfl, rfl⟩ := E
  subst hv; subst hM
  exact fun H ls locs hP hS hl => W.zret hx hb hr (by rcases hz with rfl | rfl <;> rfl) (fun t ht _ => ⟨rfl, by rw [ht]; exact hP, hS.F ht⟩) (fun q hq => hS.2.2 q hq) hd hlocks
theorem mz_lret {v w : Int64} (C : mz_C Γ l own cc nL (some .long) D cl tys rm) (E : mz_E Γ (mz_Q D cl cA ρ lay (some (.long w)) M') 0 0 (mz_A ρ lay)) (hd : decode cc pc = .ok (.lreturn, 1)) (hv : v = w) (hM : M = M') : mz_W Γ ρ nL 0 0 (mz_H D cl cA ρ lay M) pc L [.long v] := by
  obtain ⟨p, l', e, R, s, m, args, below, meth, c, H0, A, Q⟩ := Γ
  obtain ⟨-, hx, hb, -, -, -, -, hlocks, hr, -⟩ := C
  obtain ⟨rfl, rfl, rfl⟩ := E
  subst hv; subst hM
  exact fun H ls locs hP hS hl => W.lret hx hb hr (fun t ht _ => ⟨rfl, by rw [ht]; exact hP, hS.F ht⟩) (fun q hq => hS.2.2 q hq) hd hlocks
theorem mz_vret (C : mz_C Γ l own cc nL none D cl tys rm) (E : mz_E Γ (mz_Q D cl cA ρ lay none M') 0 0 (mz_A ρ lay)) (hd : decode cc pc = .ok (.return_, 1)) (hM : M = M') : mz_W Γ ρ nL 0 0 (mz_H D cl cA ρ lay M) pc L [] := by
  obtain ⟨p, l', e, R, s, m, args, below, meth, c, H0, A, Q⟩ := Γ
  obtain ⟨-, hx, hb, -, -, -, -, hlocks, hr, -⟩ := C
  obtain ⟨rfl, rfl, rfl⟩ := E
  subst hM
  exact fun H ls locs hP hS hl => W.vret hx hb hr (fun t ht _ => ⟨rfl, by rw [ht]; exact hP, hS.F ht⟩) (fun q hq => hS.2.2 q hq) hd hlocks
/-- into a body, over numbered cells -/
theorem mz_in0 {y : MethodName} {fr lo : Nat} {As : List Value} (hy : plainName y.cls = true) (hlen : (lg_sl As).length ≤ nL)
    (body : ∀ Γ : mz_G, mz_C Γ l y.cls cc nL ret D cl [(cA 0, .int)] { frames := fr, cells := 0, slots := 0, locals := lo } → mz_E Γ (mz_Q D cl cA ρ lay (r.map (mz_e ρ)) M') 0 0 (mz_A ρ lay) → mz_W Γ ρ nL 0 0 (mz_H D cl cA ρ lay M) 0 (lv_args 0 As) []) :
    mz_M l D cl cA ρ lay y cc nL ret fr lo As M r M' := mz_intro (P := mz_H D cl cA ρ lay M) hy hlen body
/-- what a callee's words give: found, chosen, its class there, its code -/
def mz_Y (y : MethodName) (cc : ByteArray) (nL : Nat) (ret : Option FieldType) (n : Nat) : Prop :=
  Cond.instanceMethod y ∈ mz_ws ∧ Cond.selects y.cls y y ∈ mz_ws ∧ Cond.initialized y.cls ∈ mz_ws ∧ Cond.code y cc nL ret ∈ mz_ws ∧ (y.cls ≠ "java/lang/invoke/MethodHandle" ∧ y.cls ≠ "java/lang/invoke/VarHandle" ∧ (parseMethodDescriptor y.desc).map (fun d => d.parameters.length) = some n)
def mz_YS (y : MethodName) (cc : ByteArray) (nL : Nat) (ret : Option FieldType) (n : Nat) : Prop :=
  Cond.static y ∈ mz_ws ∧ Cond.initialized y.cls ∈ mz_ws ∧ Cond.code y cc nL ret ∈ mz_ws ∧ (y.cls ≠ "java/lang/invoke/MethodHandle" ∧ y.cls ≠ "java/lang/invoke/VarHandle" ∧ (parseMethodDescriptor y.desc).map (fun d => d.parameters.length) = some n)
theorem mz_e_id (v : Value) : mz_e (fun k => k) v = v := by cases v <;> rfl
theorem mz_eid_map (As : List Value) : As.map (mz_e (fun k => k)) = As := by
  induction As with
  | nil => rfl
  | cons v t ih => rw [List.map_cons, mz_e_id, ih]
theorem mz_blind {As : List Value} {B : Heap → Prop} : FrameBlind (va_Pc As (fun U => B U.heap ∧ mz_K D cl tys U)) := by
  intro a U g mk h
  exact ⟨h.1, h.2.1, mz_K.same (s := U) (U := U.calling g mk a) rfl h.2.2⟩
theorem mz_sumcat (ρ : Nat → Nat) (st : List Value) : ((st.map (mz_e ρ)).map fun v => v.category).sum = (st.map fun v => v.category).sum := by
  congr 1
  rw [List.map_map]
  exact List.map_congr_left fun v _ => mz_e_cat ρ v
/-- a contract says of the heap's size too: nothing is made -/
theorem mz_sz {y : MethodName} {ws : List Cond} {rm : Room} {Pc : Array Value → State → Prop} {Qc : Array Value → State → Outcome → State → Prop} {ms : Nat} {free : Addr → Prop} (F : Met l y ws rm Pc Qc 0 ms free) : Met l y ws rm Pc (fun a st o t => Qc a st o t ∧ t.heap.size = st.heap.size) 0 ms free := by
  intro p e h1 h2 h3 s m args below h4 h5 h6 h7
  obtain ⟨n, o, a1, a2, a3, a4, L, a5, a6⟩ := F p e h1 h2 h3 s m args below h4 h5 h6 h7
  refine ⟨n, o, a1, a2, a3, ⟨a4, ?_⟩, L, a5, a6⟩
  have h := a5.2.2
  have g1 := h.2.1
  have g2 := h.2.2.1
  simp only [State.setVm] at g1 g2
  omega
/-- a call over some of the cells, with whatever else is known of the heap -/
theorem mz_callVP {tys : List (ClassId × FieldType)} {A0 : Nat → Prop} {P P' : Heap → Prop} {y : MethodName} {ccy : ByteArray} {nLy fry loy ny index id ci : Nat} {rety : Option FieldType} {As rest : List Value} {fs : List (Option (Option Nat))} {T : u_T} {N : Nat}
    (C : mz_C Γ l own cc nL ret D cl tys rm) (hty : tys[0]? = some (cA 0, .int)) {k n : Nat} (E : ∃ Qc mc ms, mz_E Γ Qc mc ms A0) {ι : Nat → Nat} (hA : ∀ q, mz_A (fun k => ρ (ι k)) lay q → A0 q) (hPH : ∀ H, P H → mz_H D cl cA (fun k => ρ (ι k)) lay M H) (hP' : ∀ H H', P H → mz_H D cl cA (fun k => ρ (ι k)) lay M' H' → H'.size = H.size → (∀ q, q < H.size → ¬ mz_A (fun k => ρ (ι k)) lay q → H'[q]? = H[q]?) → P' H')
    (F : mz_M l D cl cA (fun k => ρ (ι k)) lay y ccy nLy rety fry loy (.ref id :: As) M r M') (hY : mz_Y y ccy nLy rety ny)
    (wl : Cond.methodLink own index y ∈ mz_ws) (hid : lay id = some (mz_o ci fs)) (hcl : cl[ci]? = some (y.cls, T, N)) (hn : As.length = ny)
    (hR : fry + 1 ≤ rm.frames ∧ 8 + (nLy + 11) + loy ≤ rm.locals) (hk : k ≤ rm.cells ∧ n ≤ rm.slots) (hst : (rest.map fun v => v.category).sum ≤ 8) (hd : decode cc pc = .ok (.invokevirtual index, 3))
    {st' : List Value} (kk : mz_W Γ ρ nL k n P' (pc + 3) L st') (hs' : st' = (r.map (mz_e ι)).toList ++ rest) {st : List Value} (hs : st = (As.map (mz_e ι)).reverse ++ .ref (ι id) :: rest) : mz_W Γ ρ nL k n P pc L st := by
  obtain ⟨p, l', e, R, s, m, args, below, meth, c, H0, A, Q⟩ := Γ
  obtain ⟨rfl, hx, hb, hml, hown, hts, hK, -, -, rfl⟩ := C
  obtain ⟨Qc, mc, ms, -, -, rfl⟩ := E
  obtain ⟨y1, y2, y3, y4, y5⟩ := hY
  subst hs; subst hs'
  have hK1 : mz_K D cl [(cA 0, .int)] s := ⟨⟨hK.1.1, fun q x hq => by
    have hz : q < 1 := (List.getElem?_eq_some_iff.mp hq).1
    rw [show q = 0 by omega] at hq
    cases hq
    exact hK.1.2 0 _ hty⟩, hK.2⟩
  intro H ls locs hPq hS hl
  have hP := hPH H hPq
  have cw : CallW R s args own y.cls index y ccy nLy rety (Cond.code y ccy nLy rety :: mz_ws) { frames := fry, cells := 0, slots := 0, locals := loy } 0 0 ny :=
    ⟨callB_of ny hts (mz_good y4) rfl rfl rfl (hts _ y3) (hts _ wl) y5 hR, hts _ y1, hts _ y2⟩
  have eAs : (As.map (mz_e ι)).map (mz_e ρ) = As.map (mz_e (fun k => ρ (ι k))) := by
    rw [List.map_map]
    exact List.map_congr_left fun v _ => by cases v <;> rfl
  have hrun := va_runV (locs := locs) (cells := k) (slots := n) (meth := meth) (e := e) (below := below) (g := F0 m pc ls (((As.map (mz_e ι)).reverse ++ .ref (ι id) :: rest).map (mz_e ρ))) (rest := rest.map (mz_e ρ)) (As := As.map (mz_e (fun k => ρ (ι k)))) (b := ρ (ι id)) (H := H) ⟨hx, hb, hml, hown, hts⟩ (mz_sz F) cw
    ⟨mz_blind, va_recv hK.1 (mz_one (hP id _ hid)) hcl (q0 := 0) rfl, fun U hU hW => ⟨rfl, by rw [hU]; exact hP, mz_K.warm hW hK1⟩⟩ rfl (by rw [List.length_map]; exact hn) hl.1 (by rw [← eAs]; simp [mz_e]) (lv_room (by rw [mz_sumcat]; exact hst)) hd ⟨by simpa using hk.1, by simpa using hk.2⟩
  intro T0 hT X
  obtain ⟨v, st₀, t, T', L1, h0, X', hL, e1, e2, ⟨⟨hv, hM', hz, hkk⟩, hsz⟩, stp⟩ := hrun T0 hT X
  have hv : v = r.map (mz_e (fun k => ρ (ι k))) := by cases hv; rfl
  subst hv
  rw [h0] at hz hkk hsz
  have hS' : va_S A H0 T'.heap (locs ++ L1) := by
    refine ⟨Nat.le_trans hS.1 (by rw [e1]; exact hz), fun q h1 h2 => ?_, fun q hq => ?_⟩
    · rw [e1, hkk q (Nat.lt_of_lt_of_le h1 hS.1) (fun h => h2 (hA q h))]; exact hS.2.1 q h1 h2
    · rcases List.mem_append.mp hq with h | h
      · exact hS.2.2 q h
      · exact hA _ (hL q h)
  obtain ⟨t2, a1, b1⟩ := kk T'.heap ls (locs ++ L1) (by rw [e1]; exact hP' H t.heap hPq hM' hsz hkk) hS' hl T' rfl X'
  refine ⟨t2, stp t2 ?_, b1⟩
  have : (r.map (mz_e (fun k => ρ (ι k)))).toList ++ rest.map (mz_e ρ) = ((r.map (mz_e ι)).toList ++ rest).map (mz_e ρ) := by
    cases r with
    | none => simp
    | some v => simp only [Option.map_some, Option.toList_some, List.map_append, List.map_cons, List.map_nil]; congr 2; cases v <;> rfl
  rw [this]
  exact a1
/-- an instance method's call, over the same cells -/
theorem mz_callV {y : MethodName} {ccy : ByteArray} {nLy fry loy ny index id ci : Nat} {rety : Option FieldType} {As rest : List Value} {fs : List (Option (Option Nat))} {T : u_T} {N : Nat}
    (C : mz_C Γ l own cc nL ret D cl [(cA 0, .int)] rm) {k n : Nat} (E : ∃ Qc mc ms, mz_E Γ Qc mc ms (mz_A ρ lay)) (F : mz_M l D cl cA ρ lay y ccy nLy rety fry loy (.ref id :: As) M r M') (hY : mz_Y y ccy nLy rety ny)
    (wl : Cond.methodLink own index y ∈ mz_ws) (hid : lay id = some (mz_o ci fs)) (hcl : cl[ci]? = some (y.cls, T, N)) (hn : As.length = ny)
    (hR : fry + 1 ≤ rm.frames ∧ 8 + (nLy + 11) + loy ≤ rm.locals) (hk : k ≤ rm.cells ∧ n ≤ rm.slots) (hst : (rest.map fun v => v.category).sum ≤ 8) (hd : decode cc pc = .ok (.invokevirtual index, 3))
    (kk : mz_W Γ ρ nL k n (mz_H D cl cA ρ lay M') (pc + 3) L (r.toList ++ rest)) {st : List Value} (hs : st = As.reverse ++ .ref id :: rest) : mz_W Γ ρ nL k n (mz_H D cl cA ρ lay M) pc L st :=
  mz_callVP (ι := fun k => k) C rfl E (fun _ h => h) (fun _ h => h) (fun _ _ _ h _ _ => h) F hY wl hid hcl hn hR hk hst hd kk (by cases r <;> simp [mz_e_id]) (by rw [mz_eid_map]; exact hs)
/-- a static method's call -/
theorem mz_callS {y : MethodName} {ccy : ByteArray} {nLy fry loy ny index : Nat} {rety : Option FieldType} {As rest : List Value}
    (C : mz_C Γ l own cc nL ret D cl [(cA 0, .int)] rm) {k n : Nat} (E : ∃ Qc mc ms, mz_E Γ Qc mc ms (mz_A ρ lay)) (F : mz_M l D cl cA ρ lay y ccy nLy rety fry loy As M r M') (hY : mz_YS y ccy nLy rety ny)
    (wl : Cond.methodLink own index y ∈ mz_ws) (hn : As.length = ny)
    (hR : fry + 1 ≤ rm.frames ∧ 8 + (nLy + 11) + loy ≤ rm.locals) (hk : k ≤ rm.cells ∧ n ≤ rm.slots) (hst : (rest.map fun v => v.category).sum ≤ 8) (hd : decode cc pc = .ok (.invokestatic index, 3))
    (kk : mz_W Γ ρ nL k n (mz_H D cl cA ρ lay M') (pc + 3) L (r.toList ++ rest)) {st : List Value} (hs : st = As.reverse ++ rest) : mz_W Γ ρ nL k n (mz_H D cl cA ρ lay M) pc L st := by
  obtain ⟨p, l', e, R, s, m, args, below, meth, c, H0, A, Q⟩ := Γ
  obtain ⟨rfl, hx, hb, hml, hown, hts, hK, -, -, rfl⟩ := C
  obtain ⟨Qc, mc, ms, -, -, rfl⟩ := E
  obtain ⟨y1, y3, y4, y5⟩ := hY
  subst hs
  intro H ls locs hP hS hl
  have cw : CallB R s args own index y ccy nLy rety (Cond.code y ccy nLy rety :: mz_ws) { frames := fry, cells := 0, slots := 0, locals := loy } 0 0 ny ∧ (Cond.static y).before args s = true :=
    ⟨callB_of ny hts (mz_good y4) rfl rfl rfl (hts _ y3) (hts _ wl) y5 hR, hts _ y1⟩
  have hrun := va_runS (locs := locs) (cells := k) (slots := n) (meth := meth) (e := e) (below := below) (g := F0 m pc ls ((As.reverse ++ rest).map (mz_e ρ))) (rest := rest.map (mz_e ρ)) (As := As.map (mz_e ρ)) (H := H) ⟨hx, hb, hml, hown, hts⟩ F cw
    ⟨mz_blind, fun U hU hW => ⟨rfl, by rw [hU]; exact hP, mz_K.warm hW hK⟩⟩ rfl (by rw [List.length_map]; exact hn) hl.1 (by simp) (lv_room (by rw [mz_sumcat]; exact hst)) hd ⟨by simpa using hk.1, by simpa using hk.2⟩
  intro T0 hT X
  obtain ⟨v, st₀, t, T', L1, h0, X', hL, e1, e2, ⟨hv, hM', hz, hkk⟩, stp⟩ := hrun T0 hT X
  have hv : v = r.map (mz_e ρ) := by cases hv; rfl
  subst hv
  rw [h0] at hz hkk
  have hS' : va_S (mz_A ρ lay) H0 T'.heap (locs ++ L1) := by
    refine ⟨Nat.le_trans hS.1 (by rw [e1]; exact hz), fun q h1 h2 => ?_, fun q hq => ?_⟩
    · rw [e1, hkk q (Nat.lt_of_lt_of_le h1 hS.1) h2]; exact hS.2.1 q h1 h2
    · rcases List.mem_append.mp hq with h | h
      · exact hS.2.2 q h
      · exact hL q h
  obtain ⟨t2, a1, b1⟩ := kk T'.heap ls (locs ++ L1) (by rw [e1]; exact hM') hS' hl T' rfl X'
  refine ⟨t2, stp t2 ?_, b1⟩
  have : (r.map (mz_e ρ)).toList ++ rest.map (mz_e ρ) = (r.toList ++ rest).map (mz_e ρ) := by cases r <;> simp
  rw [this]
  exact a1
end MZR
