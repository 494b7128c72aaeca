/-! from one evening to the whole object -/
def mz_it (k : Nat) : Nat := if k < 30 then k else k + 48
/-- the trial's evening, as if it stood in the actual one's place -/
def mz_tv (M : mz_Mem) : mz_Mem := fun k => M (mz_it k)
def mz_act (M N : mz_Mem) : mz_Mem := fun a => if a < 78 ∧ a ≠ 0 then N a else M a
def mz_tri (M N : mz_Mem) : mz_Mem := fun a => if 78 ≤ a ∧ a < 126 then N (a - 48) else M a
theorem mz_act_self (M : mz_Mem) : mz_act M M = M := by funext a; unfold mz_act; split <;> rfl
theorem mz_act_lo {M N : mz_Mem} {a : Nat} (h : a < 78) (h0 : a ≠ 0) : mz_act M N a = N a := if_pos ⟨h, h0⟩
theorem mz_act_hi {M N : mz_Mem} {a : Nat} (h : ¬ (a < 78 ∧ a ≠ 0)) : mz_act M N a = M a := if_neg h
theorem mz_tri_lo {M N : mz_Mem} {a : Nat} (h : a < 78) : mz_tri M N a = M a := if_neg (by omega)
theorem mz_hs_tri {M N : mz_Mem} : mz_hs M (mz_tri M N) := fun k hk => mz_tri_lo (by omega)
theorem mz_hs_act {M N : mz_Mem} (h : mz_hs M N) : mz_hs M (mz_act M N) := fun k hk => by
  by_cases h0 : k = 0
  · exact mz_act_hi (by omega)
  · exact (mz_act_lo (by omega) h0).trans (h k hk)
theorem mz_tv_tri {M N : mz_Mem} (h : mz_hs (mz_tv M) N) {k : Nat} (hk : k < 78) : mz_tv (mz_tri M N) k = N k := by
  unfold mz_tv mz_it mz_tri
  by_cases c : k < 30
  · rw [if_pos c, if_neg (by omega)]
    have := h k (Or.inl c)
    rw [this]
    unfold mz_tv mz_it
    rw [if_pos c]
  · rw [if_neg c, if_pos (by omega)]
    congr 1
def mz_shB : mz_Sh → mz_Sh → Bool
  | .inl a, .inl b => decide (a = b)
  | .inr (.inl a), .inr (.inl b) => decide (a = b)
  | _, _ => false
theorem mz_shB_eq {a b : mz_Sh} (h : mz_shB a b = true) : a = b := by
  rcases a with a | a | a | a <;> rcases b with b | b | b | b <;> first | (rw [of_decide_eq_true h]) | cases h
def mz_subB (ι : Nat → Nat) (n : Nat) (a b : mz_Lay) : Bool := (List.range n).all fun k => match a k with
  | some sh => match b (ι k) with
    | some sh2 => mz_shB sh2 (mz_shm ι sh)
    | none => false
  | none => true
theorem mz_sub_of {ι : Nat → Nat} {n : Nat} {a b : mz_Lay} (hn : ∀ k sh, a k = some sh → k < n) (h : mz_subB ι n a b = true) : ∀ (k : Nat) (sh : mz_Sh), a k = some sh → b (ι k) = some (mz_shm ι sh) := by
  intro k sh hk
  have h1 := List.all_eq_true.mp h k (List.mem_range.mpr (hn k sh hk))
  rw [hk] at h1
  simp only at h1
  split at h1
  · rename_i sh2 h2
    rw [h2, mz_shB_eq h1]
  · cases h1
theorem mz_lay1_lt {k : Nat} {sh : mz_Sh} (h : mz_lay1 k = some sh) : k < 78 := mz_lf_lt h
theorem mz_sub1 : mz_subB (fun k => k) 78 mz_lay1 mz_lay2 = true := by decide +kernel
theorem mz_subT : mz_subB mz_it 78 mz_lay1 mz_lay2 = true := by decide +kernel
theorem mz_I_of {ρ ι : Nat → Nat} {n : Nat} {a b : mz_Lay} (hI : mz_I ρ b) (hn : ∀ k sh, a k = some sh → k < n) (hs : mz_subB ι n a b = true) (hi : ∀ i j, i < n → j < n → ι i = ι j → i = j) : mz_I (fun k => ρ (ι k)) a :=
  fun i j x y hx hy e => hi i j (hn i x hx) (hn j y hy) (hI _ _ _ _ (mz_sub_of hn hs i x hx) (mz_sub_of hn hs j y hy) e)
theorem mz_I1 {ρ : Nat → Nat} (hI : mz_I ρ mz_lay2) : mz_I ρ mz_lay1 := mz_I_of (ι := fun k => k) hI (fun _ _ => mz_lay1_lt) mz_sub1 (fun _ _ _ _ h => h)
theorem mz_IT {ρ : Nat → Nat} (hI : mz_I ρ mz_lay2) : mz_I (fun k => ρ (mz_it k)) mz_lay1 := mz_I_of hI (fun _ _ => mz_lay1_lt) mz_subT (fun i j _ _ h => by
  unfold mz_it at h
  split at h <;> split at h <;> omega)
theorem mz_lay1_in {a : Nat} (h : a < 78) (h0 : a ≠ 0) : ∃ sh, mz_lay1 a = some sh := by
  have hall : (List.range 78).all (fun k => decide (k = 0) || (match mz_lay1 k with | some _ => true | none => false)) = true := by decide +kernel
  have h1 := List.all_eq_true.mp hall a (List.mem_range.mpr h)
  rcases (Bool.or_eq_true _ _).mp h1 with h2 | h2
  · exact absurd (of_decide_eq_true h2) h0
  · split at h2
    · rename_i sh hsh; exact ⟨sh, hsh⟩
    · cases h2
theorem mz_lay1_ne {a : Nat} {sh : mz_Sh} (h : mz_lay1 a = some sh) : a ≠ 0 := fun e => by subst e; cases h
section MZU
variable {l : Launch} {D : va_G} {cA : Nat → ClassId} {ρ : Nat → Nat} {y : MethodName} {cc : ByteArray} {nL fr lo : Nat} {ret : Option FieldType} {As : List Value} {M N : mz_Mem} {r : Option Value}
theorem mz_liftA (hI : mz_I ρ mz_lay2) (F : mz_M l D vwCl cA ρ mz_lay1 y cc nL ret fr lo As M r N) : mz_M l D vwCl cA ρ mz_lay2 y cc nL ret fr lo As M r (mz_act M N) := by
  refine mz_lift (ι := fun k => k) F (mz_sub_of (fun _ _ => mz_lay1_lt) mz_sub1) hI (fun _ _ _ => rfl) (fun k sh hk => (mz_act_lo (mz_lay1_lt hk) (mz_lay1_ne hk)).symm) (fun a ha => ?_) (mz_eid_map As).symm (by cases r with | none => rfl | some v => simp [mz_e_id])
  by_cases h : a < 78 ∧ a ≠ 0
  · obtain ⟨sh, h0⟩ := mz_lay1_in h.1 h.2
    exact absurd rfl (ha a sh h0)
  · exact mz_act_hi h
theorem mz_liftAR (hI : mz_I ρ mz_lay2) (F : mz_M l D vwCl cA ρ mz_lay1 y cc nL ret fr lo As M r M) : mz_M l D vwCl cA ρ mz_lay2 y cc nL ret fr lo As M r M := by
  have h := mz_liftA hI F
  rw [mz_act_self] at h
  exact h
theorem mz_liftT (hI : mz_I ρ mz_lay2) (F : mz_M l D vwCl cA (fun k => ρ (mz_it k)) mz_lay1 y cc nL ret fr lo As (mz_tv M) r N) (hN : mz_hs (mz_tv M) N) {As' : List Value} {r' : Option Value} (hA : As' = As.map (mz_e mz_it)) (hr : r' = r.map (mz_e mz_it)) : mz_M l D vwCl cA ρ mz_lay2 y cc nL ret fr lo As' M r' (mz_tri M N) := by
  refine mz_lift (ι := mz_it) F (mz_sub_of (fun _ _ => mz_lay1_lt) mz_subT) hI (fun _ _ _ => rfl) (fun k sh hk => ?_) (fun a ha => ?_) hA hr
  · exact (mz_tv_tri hN (mz_lay1_lt hk)).symm
  · unfold mz_tri
    by_cases h : 78 ≤ a ∧ a < 126
    · obtain ⟨sh, h0⟩ := mz_lay1_in (a := a - 48) (by omega) (by omega)
      refine absurd ?_ (ha (a - 48) sh h0)
      unfold mz_it
      rw [if_neg (by omega)]
      omega
    · rw [if_neg h]
theorem mz_liftTR (hI : mz_I ρ mz_lay2) (F : mz_M l D vwCl cA (fun k => ρ (mz_it k)) mz_lay1 y cc nL ret fr lo As (mz_tv M) r (mz_tv M)) {As' : List Value} {r' : Option Value} (hA : As' = As.map (mz_e mz_it)) (hr : r' = r.map (mz_e mz_it)) : mz_M l D vwCl cA ρ mz_lay2 y cc nL ret fr lo As' M r' M := by
  have h := mz_liftT hI F mz_hs_rf hA hr
  have e : mz_tri M (mz_tv M) = M := by
    funext a
    unfold mz_tri mz_tv mz_it
    by_cases c : 78 ≤ a ∧ a < 126
    · rw [if_pos c, if_neg (by omega)]
      congr 1
      omega
    · rw [if_neg c]
  rw [e] at h
  exact h
end MZU
theorem mz_ltle {c d i : Int32} (h : c.toInt + 1 = d.toInt) : c < i ↔ d ≤ i := by
  rw [Int32.lt_iff_toInt_lt, Int32.le_iff_toInt_le]
  omega
theorem mz_lt0 {i n : Int32} (h : 0 ≤ i) (g : ¬ n ≤ i) : 0 < n := by
  rw [Int32.lt_iff_toInt_lt]
  rw [Int32.le_iff_toInt_le] at h g
  omega
theorem mz_lec {c d i : Int32} (h : c.toInt + 1 = d.toInt) (g : ¬ d ≤ i) : i ≤ c := Int32.not_lt.mp fun z => g ((mz_ltle h).mp z)
