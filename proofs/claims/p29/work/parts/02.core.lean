/-! MZ: the machine over a memory of numbered cells. One list of words serves every method. -/
/-- the words that every method may use -/
def mz_ws : List Cond := lw_tbl.filter goodWord
theorem mz_ws_tbl {w : Cond} (h : w ∈ mz_ws) : w ∈ lw_tbl := (List.mem_filter.mp h).1
theorem mz_ws_good {w : Cond} (h : w ∈ mz_ws) : goodWord w = true := (List.mem_filter.mp h).2
theorem mz_in {w : Cond} (i : Nat) (h : lw_tbl[i]? = some w) (g : goodWord w = true) : w ∈ mz_ws := List.mem_filter.mpr ⟨List.mem_of_getElem? h, g⟩
theorem mz_good {y : MethodName} {cc : ByteArray} {nL : Nat} {ret : Option FieldType} (h : Cond.code y cc nL ret ∈ mz_ws) : GoodIn mz_ws (Cond.code y cc nL ret :: mz_ws) := by
  intro w hw
  have h2 : w ∈ mz_ws := by
    rcases List.mem_cons.mp hw with rfl | hw
    · exact h
    · exact hw
  exact ⟨h2, good_of_word (mz_ws_good h2)⟩
/-- words of nest mates: the tables keep them, warm or cold -/
def mz_nest : Cond → Bool
  | .fieldLinkNest _ _ _ _ _ _ => true
  | .methodLinkNest _ _ _ _ => true
  | .castable _ _ => true
  | .declares _ => true
  | _ => false
def mz_wn : List Cond := lw_tbl.filter mz_nest
theorem mz_inn {w : Cond} (i : Nat) (h : lw_tbl[i]? = some w) (g : mz_nest w = true) : w ∈ mz_wn := List.mem_filter.mpr ⟨List.mem_of_getElem? h, g⟩
theorem mz_nest_tabs {w : Cond} (h : mz_nest w = true) : w.onTables = true := by cases w <;> first | rfl | cases h
theorem mz_nest_warm {w : Cond} (h : mz_nest w = true) {s U : State} (hW : s.WarmedH U.vm) (hZ : va_Nw w s) : va_Nw w U := by
  cases w <;> first | exact va_Nw.warmF hW hZ | exact va_Nw.warmM hW hZ | exact va_Nw.warmC hW hZ | exact va_Nw.warmD hW hZ | cases h
def mz_K (D : va_G) (cl : List vw_C) (tys : List (ClassId × FieldType)) (U : State) : Prop := va_K D cl tys U ∧ ∀ w ∈ mz_wn, va_Nw w U
theorem mz_K.warm {D : va_G} {cl : List vw_C} {tys : List (ClassId × FieldType)} {s U : State} (hW : s.WarmedH U.vm) (h : mz_K D cl tys s) : mz_K D cl tys U :=
  ⟨va_K.moved hW.alike h.1, fun w hw => mz_nest_warm (List.mem_filter.mp hw).2 hW (h.2 w hw)⟩
theorem mz_K.same {D : va_G} {cl : List vw_C} {tys : List (ClassId × FieldType)} {s U : State} (hv : s.vm = U.vm) (h : mz_K D cl tys s) : mz_K D cl tys U :=
  ⟨va_K.moved (by rw [hv]; exact Vm.Alike.refl U.vm) h.1, fun w hw => va_Nw.same (mz_nest_tabs (List.mem_filter.mp hw).2) hv (h.2 w hw)⟩
/-- a cell's shape: an array of n ints; an object of a kind, its fields: an int, null, or the cell of a number; an array of references; an array of longs -/
abbrev mz_Sh : Type := Nat ⊕ ((Nat × List (Option (Option Nat))) ⊕ ((Nat × Nat × (Nat → Option Nat)) ⊕ (Nat × Nat × (Nat → Int64))))
abbrev mz_a (n : Nat) : mz_Sh := .inl n
abbrev mz_o (ci : Nat) (fs : List (Option (Option Nat))) : mz_Sh := .inr (.inl (ci, fs))
abbrev mz_r (ti n : Nat) (g : Nat → Option Nat) : mz_Sh := .inr (.inr (.inl (ti, n, g)))
abbrev mz_l (ti n : Nat) (f : Nat → Int64) : mz_Sh := .inr (.inr (.inr (ti, n, f)))
/-- which cells there are -/
abbrev mz_Lay : Type := Nat → Option mz_Sh
def mz_lf (L : List (Option mz_Sh)) : mz_Lay := fun k => match L[k]? with
  | some (some sh) => some sh
  | _ => none
theorem mz_lf_at {L : List (Option mz_Sh)} {k : Nat} {sh : mz_Sh} (h : mz_lf L k = some sh) : L[k]? = some (some sh) := by
  unfold mz_lf at h
  split at h
  · cases h; assumption
  · cases h
theorem mz_lf_lt {L : List (Option mz_Sh)} {k : Nat} {sh : mz_Sh} (h : mz_lf L k = some sh) : k < L.length := (List.getElem?_eq_some_iff.mp (mz_lf_at h)).1
abbrev mz_Mem : Type := Nat → Nat → Int32
/-- a value of numbered cells, at their addresses -/
def mz_e (ρ : Nat → Nat) : Value → Value
  | .ref k => .ref (ρ k)
  | v => v
theorem mz_e_cat (ρ : Nat → Nat) (v : Value) : (mz_e ρ v).category = v.category := by cases v <;> rfl
def mz_L (ρ : Nat → Nat) (L : List (Nat × Value)) : List (Nat × Value) := L.map (fun q => (q.1, mz_e ρ q.2))
theorem mz_L_mem {ρ : Nat → Nat} {L : List (Nat × Value)} {i : Nat} {v : Value} (h : (i, v) ∈ L) : (i, mz_e ρ v) ∈ mz_L ρ L := List.mem_map.mpr ⟨(i, v), h, rfl⟩
def mz_fv (f : Nat → Int32) (j : Nat) : Option (Option Nat) → Value
  | none => .int (f j)
  | some none => .null
  | some (some r) => .ref r
def mz_fs (f : Nat → Int32) (l : List (Option (Option Nat))) : List Value := l.mapIdx (fun j o => mz_fv f j o)
theorem mz_fs_at (f : Nat → Int32) (l : List (Option (Option Nat))) (j : Nat) : (mz_fs f l)[j]? = (l[j]?).map (mz_fv f j) := by
  simp [mz_fs, List.getElem?_mapIdx]
def mz_ent (cA : Nat → ClassId) (ρ : Nat → Nat) (M : mz_Mem) (k : Nat) : mz_Sh → va_E
  | .inl n => .inl (cA 0, n, .inl (M k))
  | .inr (.inl o) => .inr (o.1, (mz_fs (M k) o.2).map (mz_e ρ))
  | .inr (.inr (.inl g)) => .inl (cA g.1, g.2.1, .inr (.inr (.inr (.inr (fun j => (g.2.2 j).map ρ)))))
  | .inr (.inr (.inr f)) => .inl (cA f.1, f.2.1, .inr (.inl f.2.2))
def mz_H (D : va_G) (cl : List vw_C) (cA : Nat → ClassId) (ρ : Nat → Nat) (lay : mz_Lay) (M : mz_Mem) (H : Heap) : Prop :=
  ∀ (k : Nat) (sh : mz_Sh), lay k = some sh → va_at D cl (ρ k, mz_ent cA ρ M k sh) H
/-- no two cells at one address -/
def mz_I (ρ : Nat → Nat) (lay : mz_Lay) : Prop := ∀ (i j : Nat) (a b : mz_Sh), lay i = some a → lay j = some b → ρ i = ρ j → i = j
/-- the addresses of a memory -/
def mz_A (ρ : Nat → Nat) (lay : mz_Lay) : Nat → Prop := fun q => ∃ (k : Nat) (sh : mz_Sh), lay k = some sh ∧ q = ρ k
/-- one cell anew -/
def mz_s (M : mz_Mem) (k : Nat) (f : Nat → Int32) : mz_Mem := fun a => if a = k then f else M a
theorem mz_s_eq (M : mz_Mem) (k : Nat) (f : Nat → Int32) : mz_s M k f k = f := if_pos rfl
theorem mz_s_ne {M : mz_Mem} {k a : Nat} {f : Nat → Int32} (h : a ≠ k) : mz_s M k f a = M a := if_neg h
theorem mz_s_id (M : mz_Mem) (k : Nat) : mz_s M k (M k) = M := by
  funext a
  by_cases h : a = k
  · subst h; exact mz_s_eq _ _ _
  · exact mz_s_ne h
theorem mz_s_s (M : mz_Mem) (k : Nat) (f g : Nat → Int32) : mz_s (mz_s M k f) k g = mz_s M k g := by
  funext a
  by_cases h : a = k
  · subst h; rw [mz_s_eq, mz_s_eq]
  · rw [mz_s_ne h, mz_s_ne h, mz_s_ne h]
theorem mz_s_c (M : mz_Mem) {k j : Nat} (f g : Nat → Int32) (h : k ≠ j) : mz_s (mz_s M k f) j g = mz_s (mz_s M j g) k f := by
  funext a
  by_cases h1 : a = k
  · subst h1; rw [mz_s_ne h, mz_s_eq, mz_s_eq]
  · by_cases h2 : a = j
    · subst h2; rw [mz_s_eq, mz_s_ne h1, mz_s_eq]
    · rw [mz_s_ne h2, mz_s_ne h1, mz_s_ne h1, mz_s_ne h2]
/-- where a body stands -/
abbrev mz_G : Type := Program × Launch × Env × Room × State × MethodId × Array Value × List Frame × Method × Code × Heap × (Nat → Prop) × (State → Prop)
/-- what holds all along a body: the launch, the method's class, its code, its locals' number, what it answers, its room, the tables -/
def mz_C (Γ : mz_G) (l : Launch) (own : String) (cc : ByteArray) (nL : Nat) (ret : Option FieldType) (D : va_G) (cl : List vw_C) (tys : List (ClassId × FieldType)) (rm : Room) : Prop :=
  match Γ with
  | (p, l', _, R, s, m, args, _, meth, c, _, _, _) => l' = l ∧ p.tables.exec = Jvm.exec ∧ c.code = cc ∧ c.maxLocals = nL ∧ s.vm.findClass own = some m.cls ∧ (∀ w ∈ mz_ws, w.before args s = true) ∧ mz_K D cl tys s ∧ meth.locks = false ∧ meth.sig.returnType = ret ∧ R = rm
/-- from here the machine comes to what is wanted -/
def mz_W (Γ : mz_G) (ρ : Nat → Nat) (nL k n : Nat) (P : Heap → Prop) (pc : Nat) (L : List (Nat × Value)) (st : List Value) : Prop :=
  match Γ with
  | (p, l, e, R, s, m, args, below, meth, c, H0, A, Q) => ∀ (H : Heap) (ls : Array Slot) (locs : List Loc), P H → va_S A H0 H locs → lv_has ls nL (mz_L ρ L) → W p l e R s m args below meth c H locs k n Q (F0 m pc ls (st.map (mz_e ρ)))
/-- what is wanted of a method's body: its end, and what may have changed -/
def mz_E (Γ : mz_G) (Qc : Array Value → State → Outcome → State → Prop) (mc ms : Nat) (A0 : Nat → Prop) : Prop :=
  match Γ with
  | (_, _, _, _, s, _, args, below, _, _, H0, A, Q) => Q = MQ below Qc args s mc ms A ∧ H0 = s.heap ∧ A = A0
/-- the end of a method over numbered cells: the answer, the cells as they are then, nothing else changed -/
def mz_Q (D : va_G) (cl : List vw_C) (cA : Nat → ClassId) (ρ : Nat → Nat) (lay : mz_Lay) (r : Option Value) (M' : mz_Mem) : Array Value → State → Outcome → State → Prop :=
  fun _ st o t => o = .returned r ∧ mz_H D cl cA ρ lay M' t.heap ∧ va_F (mz_A ρ lay) st t
/-- A METHOD'S CONTRACT: with these arguments over these cells it answers r, and the cells hold M' -/
def mz_M (l : Launch) (D : va_G) (cl : List vw_C) (cA : Nat → ClassId) (ρ : Nat → Nat) (lay : mz_Lay) (y : MethodName) (cc : ByteArray) (nL : Nat) (ret : Option FieldType) (fr lo : Nat) (As : List Value) (M : mz_Mem) (r : Option Value) (M' : mz_Mem) : Prop :=
  Met l y (Cond.code y cc nL ret :: mz_ws) { frames := fr, cells := 0, slots := 0, locals := lo } (va_Pc (As.map (mz_e ρ)) (fun U => mz_H D cl cA ρ lay M U.heap ∧ mz_K D cl [(cA 0, .int)] U)) (mz_Q D cl cA ρ lay (r.map (mz_e ρ)) M') 0 0 (mz_A ρ lay)
theorem mz_sl_len (ρ : Nat → Nat) : ∀ As : List Value, (lg_sl (As.map (mz_e ρ))).length = (lg_sl As).length
  | [] => rfl
  | v :: t => by
    have h := mz_sl_len ρ t
    unfold lg_sl at h ⊢
    simp only [List.map_cons, List.flatMap_cons, List.length_append, mz_e_cat, h]
    by_cases c : v.category = 2 <;> simp [c]
theorem mz_args_map (ρ : Nat → Nat) : ∀ (As : List Value) (i : Nat), lv_args i (As.map (mz_e ρ)) = mz_L ρ (lv_args i As)
  | [], _ => rfl
  | v :: t, i => by
    show (i, mz_e ρ v) :: lv_args (if (mz_e ρ v).category = 2 then i + 2 else i + 1) (t.map (mz_e ρ)) = (i, mz_e ρ v) :: mz_L ρ (lv_args (if v.category = 2 then i + 2 else i + 1) t)
    rw [mz_e_cat, mz_args_map ρ t]
/-- into a body -/
theorem mz_intro {l : Launch} {D : va_G} {cl : List vw_C} {tys : List (ClassId × FieldType)} {ρ : Nat → Nat} {y : MethodName} {cc : ByteArray} {nL fr lo mc ms : Nat} {ret : Option FieldType} {As : List Value} {P : Heap → Prop} {Qc : Array Value → State → Outcome → State → Prop} {A : Nat → Prop}
    (hy : plainName y.cls = true) (hlen : (lg_sl As).length ≤ nL)
    (body : ∀ Γ : mz_G, mz_C Γ l y.cls cc nL ret D cl tys { frames := fr, cells := mc, slots := ms, locals := lo } → mz_E Γ Qc mc ms A → mz_W Γ ρ nL 0 0 P 0 (lv_args 0 As) []) :
    Met l y (Cond.code y cc nL ret :: mz_ws) { frames := fr, cells := mc, slots := ms, locals := lo } (va_Pc (As.map (mz_e ρ)) (fun U => P U.heap ∧ mz_K D cl tys U)) Qc mc ms A := by
  refine Met.ofW (cc := cc) (maxL := nL) (ret := ret) hy rfl ?_
  intro p e s m args below meth c s₁ B hml hv
  obtain ⟨rfl, hP, hK⟩ := hv
  have hts := atoms_spec (ws := Cond.code y cc nL ret :: mz_ws) B.pre
  rw [lg_entry_eq]
  have hl := lv_entry (As.map (mz_e ρ)) (n := nL) (by rw [mz_sl_len]; exact hlen)
  rw [mz_args_map] at hl
  exact body (p, l, e, { frames := fr, cells := mc, slots := ms, locals := lo }, s, m, (As.map (mz_e ρ)).toArray, below, meth, c, s.heap, A, MQ below Qc (As.map (mz_e ρ)).toArray s mc ms A)
    ⟨rfl, B.exec, B.bytes, hml, findClass_of_methodNamed B.named, fun w hw => hts w (List.mem_cons_of_mem _ hw), hK, B.notSynchronized, B.returns, rfl⟩ ⟨rfl, rfl, rfl⟩
    s.heap _ [] hP va_S.rf hl
/-! a stretch without branches or calls, run by a program -/
abbrev mz_O : Type := Option (Nat × List (Nat × Value) × List Value)
def mz_set1 (L : List (Nat × Value)) (i : Nat) (v : Value) : List (Nat × Value) := (i, v) :: L.filter (fun q => !(q.1 == i) && !(q.1 + 1 == i && q.2.category == 2))
def mz_set2 (L : List (Nat × Value)) (i : Nat) (v : Value) : List (Nat × Value) := (i, v) :: L.filter (fun q => !(q.1 == i) && (!(q.1 == i + 1) && !(q.1 + 1 == i && q.2.category == 2)))
theorem mz_set1_map (ρ : Nat → Nat) (L : List (Nat × Value)) (i : Nat) (v : Value) : (i, mz_e ρ v) :: (mz_L ρ L).filter (fun q => !(q.1 == i) && !(q.1 + 1 == i && q.2.category == 2)) = mz_L ρ (mz_set1 L i v) := by
  simp [mz_L, mz_set1, List.filter_map, Function.comp_def, mz_e_cat]
theorem mz_set2_map (ρ : Nat → Nat) (L : List (Nat × Value)) (i : Nat) (v : Value) : (i, mz_e ρ v) :: (mz_L ρ L).filter (fun q => !(q.1 == i) && (!(q.1 == i + 1) && !(q.1 + 1 == i && q.2.category == 2))) = mz_L ρ (mz_set2 L i v) := by
  simp [mz_L, mz_set2, List.filter_map, Function.comp_def, mz_e_cat]
def mz_get (L : List (Nat × Value)) (i : Nat) : Option Value := match L with
  | [] => none
  | q :: t => if q.1 = i then some q.2 else mz_get t i
theorem mz_get_mem {i : Nat} {v : Value} : ∀ {L : List (Nat × Value)}, mz_get L i = some v → (i, v) ∈ L
  | [], h => by cases h
  | q :: t, h => by
    unfold mz_get at h
    by_cases c : q.1 = i
    · rw [if_pos c] at h
      cases h
      rw [← c]
      exact List.mem_cons_self
    · rw [if_neg c] at h
      exact List.mem_cons_of_mem _ (mz_get_mem h)
def mz_ldI (pc : Nat) (L : List (Nat × Value)) (i : Nat) (st : List Value) : mz_O := match mz_get L i with
  | some (.int x) => some (pc, L, .int x :: st)
  | _ => none
def mz_ldA (pc : Nat) (L : List (Nat × Value)) (i : Nat) (st : List Value) : mz_O := match mz_get L i with
  | some (.ref x) => some (pc, L, .ref x :: st)
  | _ => none
def mz_ldL (pc : Nat) (L : List (Nat × Value)) (i : Nat) (st : List Value) : mz_O := match mz_get L i with
  | some (.long x) => some (pc, L, .long x :: st)
  | _ => none
def mz_stI (nL pc : Nat) (L : List (Nat × Value)) (i : Nat) (st : List Value) : mz_O := match st with
  | .int x :: r => if i < nL then some (pc, mz_set1 L i (.int x), r) else none
  | _ => none
def mz_stA (nL pc : Nat) (L : List (Nat × Value)) (i : Nat) (st : List Value) : mz_O := match st with
  | .ref x :: r => if i < nL then some (pc, mz_set1 L i (.ref x), r) else none
  | _ => none
def mz_stL (nL pc : Nat) (L : List (Nat × Value)) (i : Nat) (st : List Value) : mz_O := match st with
  | .long x :: r => if i + 1 < nL then some (pc, mz_set2 L i (.long x), r) else none
  | _ => none
def mz_inc (nL pc : Nat) (L : List (Nat × Value)) (i : Nat) (n : Int) (st : List Value) : mz_O := match mz_get L i with
  | some (.int x) => if i < nL then some (pc, mz_set1 L i (.int (x + Int32.ofInt n)), st) else none
  | _ => none
def mz_bi (f : Int32 → Int32 → Int32) (pc : Nat) (L : List (Nat × Value)) (st : List Value) : mz_O := match st with
  | .int y :: .int x :: r => some (pc + 1, L, .int (f x y) :: r)
  | _ => none
def mz_bl (f : Int64 → Int64 → Int64) (pc : Nat) (L : List (Nat × Value)) (st : List Value) : mz_O := match st with
  | .long y :: .long x :: r => some (pc + 1, L, .long (f x y) :: r)
  | _ => none
def mz_il (pc : Nat) (L : List (Nat × Value)) (st : List Value) : mz_O := match st with
  | .int x :: r => some (pc + 1, L, .long x.toInt64 :: r)
  | _ => none
def mz_d2 (pc : Nat) (L : List (Nat × Value)) (st : List Value) : mz_O := match st with
  | .int y :: .ref x :: r => some (pc + 1, L, .int y :: .ref x :: .int y :: .ref x :: r)
  | _ => none
def mz_x1 (pc : Nat) (L : List (Nat × Value)) (st : List Value) : mz_O := match st with
  | .int y :: .ref x :: r => some (pc + 1, L, .int y :: .ref x :: .int y :: r)
  | _ => none
def mz_x2 (pc : Nat) (L : List (Nat × Value)) (st : List Value) : mz_O := match st with
  | .int y :: .int z :: .ref x :: r => some (pc + 1, L, .int y :: .int z :: .ref x :: .int y :: r)
  | _ => none
def mz_du (pc : Nat) (L : List (Nat × Value)) (st : List Value) : mz_O := match st with
  | .int x :: r => some (pc + 1, L, .int x :: .int x :: r)
  | .ref x :: r => some (pc + 1, L, .ref x :: .ref x :: r)
  | _ => none
def mz_pp (pc : Nat) (L : List (Nat × Value)) (st : List Value) : mz_O := match st with
  | .int _ :: r => some (pc + 1, L, r)
  | .ref _ :: r => some (pc + 1, L, r)
  | _ => none
/-- what a program says of fields, lengths, long constants -/
def mz_gf (fl : List (Nat × Nat × Nat)) (lay : mz_Lay) (M : mz_Mem) (idx : Nat) (id : Nat) : Option Value := match fl.lookup idx with
  | some (ci, j) => match lay id with
    | some (.inr (.inl (cj, fs))) => if ci = cj then (fs[j]?).map (mz_fv (M id) j) else none
    | _ => none
  | none => none
def mz_fg (fl : List (Nat × Nat × Nat)) (lay : mz_Lay) (M : mz_Mem) (pc idx : Nat) (L : List (Nat × Value)) (st : List Value) : mz_O := match st with
  | .ref id :: r => match mz_gf fl lay M idx id with
    | some v => some (pc + 3, L, v :: r)
    | none => none
  | _ => none
def mz_kl (kl : List (Nat × Int64)) (pc idx : Nat) (L : List (Nat × Value)) (st : List Value) : mz_O := match kl.lookup idx with
  | some v => some (pc + 3, L, .long v :: st)
  | none => none
def mz_gt (pc : Nat) (off : Int) (L : List (Nat × Value)) (st : List Value) : mz_O := match (pc : Int) + off with
  | .ofNat t => some (t, L, st)
  | _ => none
def mz_len : Instr → Nat
  | .bipush _ => 2 | .sipush _ => 3 | .iload _ => 2 | .aload _ => 2 | .lload _ => 2 | .istore _ => 2 | .astore _ => 2 | .lstore _ => 2
  | .iinc _ _ => 3 | .goto _ => 3 | .getfield _ => 3 | .ldc2_w _ => 3
  | _ => 1
def mz_st (nL : Nat) (fl : List (Nat × Nat × Nat)) (kl : List (Nat × Int64)) (lay : mz_Lay) (M : mz_Mem) (pc : Nat) (ins : Instr) (L : List (Nat × Value)) (st : List Value) : mz_O := match ins with
  | .iconst n => some (pc + 1, L, .int (Int32.ofInt n) :: st)
  | .bipush n => some (pc + 2, L, .int (Int8.ofInt n).toInt32 :: st)
  | .sipush n => some (pc + 3, L, .int (Int16.ofInt n).toInt32 :: st)
  | .iload i => mz_ldI (pc + 2) L i st
  | .iload_n i => mz_ldI (pc + 1) L i st
  | .aload i => mz_ldA (pc + 2) L i st
  | .aload_n i => mz_ldA (pc + 1) L i st
  | .lload i => mz_ldL (pc + 2) L i st
  | .lload_n i => mz_ldL (pc + 1) L i st
  | .istore i => mz_stI nL (pc + 2) L i st
  | .istore_n i => mz_stI nL (pc + 1) L i st
  | .astore i => mz_stA nL (pc + 2) L i st
  | .astore_n i => mz_stA nL (pc + 1) L i st
  | .lstore i => mz_stL nL (pc + 2) L i st
  | .lstore_n i => mz_stL nL (pc + 1) L i st
  | .iinc i n => mz_inc nL (pc + 3) L i n st
  | .iadd => mz_bi (fun x y => x + y) pc L st
  | .isub => mz_bi (fun x y => x - y) pc L st
  | .imul => mz_bi (fun x y => x * y) pc L st
  | .iand => mz_bi (fun x y => x &&& y) pc L st
  | .ior => mz_bi (fun x y => x ||| y) pc L st
  | .ixor => mz_bi (fun x y => x ^^^ y) pc L st
  | .ishl => mz_bi (fun x y => x <<< (y &&& 31)) pc L st
  | .ishr => mz_bi (fun x y => x >>> (y &&& 31)) pc L st
  | .ladd => mz_bl (fun x y => x + y) pc L st
  | .lmul => mz_bl (fun x y => x * y) pc L st
  | .i2l => mz_il pc L st
  | .dup => mz_du pc L st
  | .pop => mz_pp pc L st
  | .goto off => mz_gt pc off L st
  | .getfield idx => mz_fg fl lay M pc idx L st
  | .ldc2_w idx => mz_kl kl pc idx L st
  | .dup2 => mz_d2 pc L st
  | .dup_x1 => mz_x1 pc L st
  | .dup_x2 => mz_x2 pc L st
  | _ => none
def mz_run (nL : Nat) (fl : List (Nat × Nat × Nat)) (kl : List (Nat × Int64)) (lay : mz_Lay) (M : mz_Mem) : List (Nat × Instr) → Nat → List (Nat × Value) → List Value → mz_O
  | [], pc, L, st => some (pc, L, st)
  | q :: t, pc, L, st => if q.1 = pc then (match mz_st nL fl kl lay M pc q.2 L st with
    | some (pc', L', st') => mz_run nL fl kl lay M t pc' L' st'
    | none => none) else none
/-- the fields that a class's instructions name -/
def mz_FL (own : String) (cl : List vw_C) (fl : List (Nat × Nat × Nat)) : Prop := ∀ idx ci j : Nat, fl.lookup idx = some (ci, j) → ∃ (C : String) (T : u_T) (N : Nat), cl[ci]? = some (C, T, N) ∧ j < N ∧ (∀ w ∈ u_ws C T N, w ∈ mz_ws) ∧
  (Cond.fieldLink own idx (T j).1 (T j).2.1 (T j).2.2.1 ∈ mz_ws ∨ ∃ host : String, Cond.fieldLinkNest own idx (T j).1 (T j).2.1 (T j).2.2.1 host ∈ mz_wn)
def mz_KL (own : String) (kl : List (Nat × Int64)) : Prop := ∀ (idx : Nat) (v : Int64), kl.lookup idx = some v → Cond.constantLong own idx v ∈ mz_ws
