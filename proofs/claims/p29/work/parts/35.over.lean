/-! arrays of arrays of ints: made, told from the tables -/
def mz_AO (U : State) : Prop := (Cond.arrayOver (.array .int)).before #[] U = true
theorem mz_AO.of {A : Array Value} {U : State} (h : (Cond.arrayOver (.array .int)).before A U = true) : mz_AO U := h
theorem mz_AO.use {A : Array Value} {U : State} (h : mz_AO U) : (Cond.arrayOver (.array .int)).before A U = true := h
theorem mz_AO_at {U : State} (h : mz_AO U) : ∃ (comp c : ClassId) (k : Class), U.vm.findClass (FieldType.array .int).toString = some comp ∧ (U.vm.classes.findIdx? fun (x : Class) => match x.kind with | .array component _ => component == comp | _ => false) = some c ∧ U.vm.classes[c]? = some k ∧ k.kind = .array comp (.array .int) ∧ U.vm.findClass ("[" ++ (FieldType.array .int).toString) = some c := by
  unfold mz_AO Cond.before Cond.holds at h
  simp only [Cond.value, beq_iff_eq] at h
  cases hc : U.vm.findClass (FieldType.array .int).toString with
  | none => simp [hc] at h
  | some comp =>
    simp only [hc, Option.bind_some, Option.bind_eq_some_iff, Option.map_eq_some_iff] at h
    obtain ⟨c, hi, k, hk, hb⟩ := h
    obtain ⟨hlt, hp, -⟩ := Array.findIdx?_eq_some_iff_getElem.mp hi
    have hkk : U.vm.classes[c] = k := (Array.getElem?_eq_some_iff.mp hk).2
    rw [hkk] at hp
    cases hkind : k.kind with
    | array component ty =>
      rw [hkind] at hb hp
      simp at hb hp
      exact ⟨comp, c, k, rfl, hi, hk, by rw [hkind, hp, hb.1], hb.2⟩
    | _ => rw [hkind] at hb; simp at hb
theorem mz_idx_bare (vm : Vm) (comp : ClassId) : (vm.bare.classes.findIdx? fun (x : Class) => match x.kind with | .array component _ => component == comp | _ => false) = (vm.classes.findIdx? fun (x : Class) => match x.kind with | .array component _ => component == comp | _ => false) := by
  simp only [Vm.bare, Array.findIdx?_map]
  rfl
theorem mz_AO.moved {u U : State} (hvm : u.vm.Alike U.vm) (h : mz_AO u) : mz_AO U := by
  obtain ⟨comp, c, k, h1, h2, h3, h4, h5⟩ := mz_AO_at h
  obtain ⟨k', hk', he⟩ := hvm.2.2 _ _ h3
  have hi : (U.vm.classes.findIdx? fun (x : Class) => match x.kind with | .array component _ => component == comp | _ => false) = some c := by
    rw [← mz_idx_bare]
    first | rw [hvm.bare_eq] | rw [← hvm.bare_eq]
    rw [mz_idx_bare]
    exact h2
  have hkind : k'.kind = .array comp (.array .int) := by rw [he]; exact h4
  have f1 : U.vm.findClass (FieldType.array .int).toString = some comp := by rw [hvm.findClass]; exact h1
  have f2 : U.vm.findClass ("[" ++ (FieldType.array .int).toString) = some c := by rw [hvm.findClass]; exact h5
  unfold mz_AO Cond.before Cond.holds
  simp only [Cond.value]
  rw [f1, Option.bind_some]
  refine (congrArg (fun o : Option Nat => (o.bind (fun c => (U.vm.classes[c]?).map fun (k : Class) => match k.kind with | .array _ ty => decide (ty = FieldType.array .int) && decide (U.vm.findClass ("[" ++ (FieldType.array .int).toString) = some c) | _ => false) == some true)) hi).trans ?_
  simp [hk', hkind, f2]
theorem mz_outer (c : ClassId) (N h0 : Nat) : ∀ i : Nat, Jvm.Free.Multi.outerC c N h0 i = arrV c N (fun j => va_rf (if j < i then some (h0 + 1 + j) else none))
  | 0 => by
    show ({ cls := c, slots := Array.replicate N .null, vm := .none } : Cell) = _
    rw [arrV_new]
    refine congrArg (arrV c N) (funext fun j => ?_)
    simp [va_rf]
  | i + 1 => by
    show (Jvm.Free.Multi.outerC c N h0 i).setSlot i (.ref (h0 + 1 + i)) = _
    rw [mz_outer c N h0 i, arrV_store]
    refine congrArg (arrV c N) (funext fun j => ?_)
    by_cases e : j = i
    · subst e
      simp [updV, va_rf]
    · by_cases h : j < i
      · simp [updV, e, h, Nat.lt_succ_of_lt h]
      · simp [updV, e, h, show ¬ j < i + 1 by omega]
section MZ2
variable {p : Program} {l : Launch} {e : Env} {R : Room} {s : State} {m : MethodId} {args : Array Value} {below : List Frame} {meth : Method} {c : Code} {H : Heap} {locs : List Loc} {cells slots : Nat} {Q : State → Prop}
variable {cc : ByteArray} {pc : Nat} {ls : Array Slot} {rest : List Value}
/-- new int[n][k] -/
theorem mz_mna (hexec : p.tables.exec = Jvm.exec) (hb : c.code = cc) {own : String} {index : Nat} (hown : s.vm.findClass own = some m.cls) (hclink : (Cond.classLink own index ("[" ++ (FieldType.array .int).toString)).before args s = true) (hover : mz_AO s) (harr : (Cond.arrayClass .int).before args s = true)
    {n k : Int32} {N K : Nat} (hn : ¬ n < 0) (hk : ¬ k < 0) (hN : n.toNatClampNeg = N) (hM : k.toNatClampNeg = K) (hb1 : N * 4 ≤ 536870912) (hb2 : K * 4 ≤ 536870912) (hcells : cells + (1 + N) ≤ R.cells) (hslots : slots + (N + N * K) ≤ R.slots) (hdg : decode cc pc = .ok (.multianewarray index 2, 4)) {h : Nat} (hh : H.size = h)
    (kk : ∀ (H1 : Heap) (cO cI : ClassId), s.vm.findClass ("[" ++ (FieldType.array .int).toString) = some cO → s.vm.findClass (FieldType.array .int).toString = some cI → H1[h]? = some (vp_cell cO (N, .inr (.inr (.inr (.inr (fun i => if i < N then some (h + 1 + i) else none)))))) →
      (∀ j, j < N → H1[h + 1 + j]? = some (vp_cell cI (K, .inl (fun _ => 0)))) → H1.size = h + 1 + N → (∀ q, q < h → H1[q]? = H[q]?) → W p l e R s m args below meth c H1 locs (cells + 1 + N) (slots + N + N * K) Q (F0 m (pc + 4) ls (.ref h :: rest))) :
    W p l e R s m args below meth c H locs cells slots Q (F0 m pc ls (.int k :: .int n :: rest)) := by
  subst hN
  subst hM
  subst hh
  intro T hT Xs
  obtain ⟨vm₁, cO, cI, -, fA, fC, hO, -, X', step⟩ := Xs.multianewarray2F hexec hown hclink hover.use harr (g := F0 m pc ls (.int k :: .int n :: rest)) rfl (by rw [hb]; exact hdg) rfl hn hk hb1 hb2 (by omega) rfl rfl hcells hslots
  have hTh : (T.setVm vm₁).heap = H := hT
  have f0 := Jvm.Free.Multi.fill_facts (T.setVm vm₁) cO cI n.toNatClampNeg k.toNatClampNeg (defaultValue .int) n.toNatClampNeg
  have hold := fun (x : Nat) (hx : x < (T.setVm vm₁).heap.size) => Jvm.Free.Multi.fill_old (T.setVm vm₁) cO cI n.toNatClampNeg k.toNatClampNeg (defaultValue .int) (a := x) hx n.toNatClampNeg
  have hrow := fun (j : Nat) (hj : j < n.toNatClampNeg) => Jvm.Free.Multi.fill_inner (T.setVm vm₁) cO cI n.toNatClampNeg k.toNatClampNeg (defaultValue .int) n.toNatClampNeg j hj
  generalize Jvm.Free.Multi.fill (T.setVm vm₁) cO cI n.toNatClampNeg k.toNatClampNeg (defaultValue .int) n.toNatClampNeg = F at X' step f0 hold hrow
  obtain ⟨f1, f2, -, -⟩ := f0
  rw [hTh] at f1 f2 hold hrow
  rw [hT] at step
  obtain ⟨t, a1, b1⟩ := kk F.heap cO cI fA fC (by rw [f2, mz_outer]; rfl) (fun j hj => by
    rw [hrow j hj]
    show some ({ cls := cI, slots := Array.replicate k.toNatClampNeg (.int 0), vm := .none } : Cell) = _
    rw [arrV_new]
    rfl) f1 hold F rfl X'
  exact ⟨t, step t a1, b1⟩
end MZ2
/-- an array of arrays of ints is one, by its class's name -/
theorem mz_arrA {U : State} (h : mz_AO U) {c : ClassId} (hc : U.vm.findClass ("[" ++ (FieldType.array .int).toString) = some c) : ArrOfT U c (.array .int) ∧ va_RA U c (.array .int) := by
  obtain ⟨comp, c', k, h1, h2, h3, h4, h5⟩ := mz_AO_at h
  cases Option.some.inj (hc.symm.trans h5)
  exact ⟨fun n z => ⟨fun x => by simp [arrV], k, h3, comp, h4⟩, hc⟩
