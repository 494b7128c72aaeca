/-! what stays: house and script (cells below 30), the number of guests (60); the house's own objects -/
def mz_hs (M M' : mz_Mem) : Prop := ∀ k, k < 30 ∨ k = 60 ∨ k = 73 → M' k = M k
theorem mz_hs_rf {M : mz_Mem} : mz_hs M M := fun _ _ => rfl
theorem mz_hs.trans {A B C : mz_Mem} (h : mz_hs A B) (g : mz_hs B C) : mz_hs A C := fun k hk => (g k hk).trans (h k hk)
theorem mz_hs_s {M : mz_Mem} {k : Nat} {f : Nat → Int32} (h : 30 ≤ k ∧ k ≠ 60 ∧ k ≠ 73) : mz_hs M (mz_s M k f) := fun j hj => mz_s_ne (by omega)
theorem mz_lp_ind {α : Type} (F : Int32 → α → α) (R : α → α → Prop) (hr : ∀ a, R a a) (ht : ∀ a b c, R a b → R b c → R a c) (h : ∀ i a, R a (F i a)) : ∀ (r j : Nat) (a : α), R a (mz_lp F j r a)
  | 0, _, a => hr a
  | r + 1, j, a => ht _ _ _ (h (nI j) a) (mz_lp_ind F R hr ht h r (j + 1) _)
theorem mz_hs_frp {α : Type} (π : α → mz_Mem) {n : Int32} {F : Int32 → α → α} {a : α} (h : ∀ i a, mz_hs (π a) (π (F i a))) : mz_hs (π a) (π (mz_fr n F a)) :=
  mz_lp_ind F (fun x y => mz_hs (π x) (π y)) (fun _ => mz_hs_rf) (fun _ _ _ => mz_hs.trans) h _ _ _
def mz_hh (M M' : mz_Mem) : Prop := ∀ k, k ∈ [1, 6, 9, 12] → M' k = M k
theorem mz_hh_rf {M : mz_Mem} : mz_hh M M := fun _ _ => rfl
theorem mz_hh.trans {A B C : mz_Mem} (h : mz_hh A B) (g : mz_hh B C) : mz_hh A C := fun k hk => (g k hk).trans (h k hk)
theorem mz_hh_s {M : mz_Mem} {k : Nat} {f : Nat → Int32} (h : k ∉ [1, 6, 9, 12]) : mz_hh M (mz_s M k f) := fun j hj => mz_s_ne (fun e => h (by rw [← e]; exact hj))
theorem mz_hh_frp {α : Type} (π : α → mz_Mem) {n : Int32} {F : Int32 → α → α} {a : α} (h : ∀ i a, mz_hh (π a) (π (F i a))) : mz_hh (π a) (π (mz_fr n F a)) :=
  mz_lp_ind F (fun x y => mz_hh (π x) (π y)) (fun _ => mz_hh_rf) (fun _ _ _ => mz_hh.trans) h _ _ _
theorem mz_loopI {α : Type} (n : Int32) (F : Int32 → α → α) (K : Int32 → α → Prop) (I : α → Prop) (a : α) (h0 : I a) (hp : ∀ i a, I a → I (F i a))
    (h : ∀ (i : Int32) (a' : α), 0 ≤ i → I a' → (n ≤ i → a' = mz_fr n F a) → (¬ n ≤ i → K (i + 1) (F i a')) → K i a') : K 0 a := by
  have key : ∀ (r j : Nat) (a' : α), j + r = mz_n n → I a' → mz_lp F j r a' = mz_fr n F a → K (nI j) a' := by
    intro r
    induction r with
    | zero =>
      intro j a' hj hi he
      have hb := mz_n_lt n
      refine h (nI j) a' (nI_pos' (by omega)) hi (fun _ => he) (fun hn => ?_)
      exact absurd ((mz_n_le (by omega)).mpr (by omega)) hn
    | succ r ih =>
      intro j a' hj hi he
      have hb := mz_n_lt n
      refine h (nI j) a' (nI_pos' (by omega)) hi (fun hn => ?_) (fun _ => ?_)
      · have := (mz_n_le (by omega)).mp hn
        omega
      · rw [nI_1]
        exact ih (j + 1) _ (by omega) (hp _ _ hi) he
  exact key (mz_n n) 0 a (by omega) h0 rfl
/-- a loop that a condition on what it has reached may end before its count -/
theorem mz_loopB {α : Type} (n : Int32) (F : Int32 → α → α) (K : Int32 → α → Prop) (I B : α → Prop) (a : α) (h0 : I a) (hp : ∀ i a, I a → I (F i a)) (hB : ∀ i a, B a → F i a = a)
    (h : ∀ (i : Int32) (a' : α), 0 ≤ i → I a' → (n ≤ i → a' = mz_fr n F a) → (¬ n ≤ i → B a' → a' = mz_fr n F a) → (¬ n ≤ i → K (i + 1) (F i a')) → K i a') : K 0 a := by
  have stay : ∀ (r j : Nat) (a' : α), B a' → mz_lp F j r a' = a' := by
    intro r
    induction r with
    | zero => intro j a' _; rfl
    | succ r ih =>
      intro j a' hb
      show mz_lp F (j + 1) r (F (nI j) a') = a'
      rw [hB _ _ hb]
      exact ih _ _ hb
  have key : ∀ (r j : Nat) (a' : α), j + r = mz_n n → I a' → mz_lp F j r a' = mz_fr n F a → K (nI j) a' := by
    intro r
    induction r with
    | zero =>
      intro j a' hj hi he
      have hb := mz_n_lt n
      refine h (nI j) a' (nI_pos' (by omega)) hi (fun _ => he) (fun hn => ?_) (fun hn => ?_)
      · exact absurd ((mz_n_le (by omega)).mpr (by omega)) hn
      · exact absurd ((mz_n_le (by omega)).mpr (by omega)) hn
    | succ r ih =>
      intro j a' hj hi he
      have hb := mz_n_lt n
      refine h (nI j) a' (nI_pos' (by omega)) hi (fun hn => ?_) (fun _ hk => ?_) (fun _ => ?_)
      · have := (mz_n_le (by omega)).mp hn
        omega
      · rw [← he]; exact (stay _ _ _ hk).symm
      · rw [nI_1]
        exact ih (j + 1) _ (by omega) (hp _ _ hi) he
  exact key (mz_n n) 0 a (by omega) h0 rfl
theorem mz_ne_toInt {x k : Int32} {v : Int} (hk : k.toInt = v) (h : ¬ x = k) : ¬ x.toInt = v := fun e => h (Int32.toInt_inj.mp (e.trans hk.symm))
section MZX
variable {Γ : mz_G} {l : Launch} {own : String} {cc : ByteArray} {nL k n : Nat} {ret : Option FieldType} {D : va_G} {cl : List vw_C} {tys : List (ClassId × FieldType)} {rm : Room} {ρ : Nat → Nat} {P : Heap → Prop}
variable {pc tgt : Nat} {L : List (Nat × Value)} {st : List Value} {x y : Int32}
theorem mz_tin {dflt lo hi : Int} {offs : Array Int} {len : Nat} {q : Int32} {v off : Int} (C : mz_C Γ l own cc nL ret D cl tys rm) (hd : decode cc pc = .ok (.tableswitch dflt lo hi offs, len)) (hx0 : x = q) (hq : q.toInt = v) (h12 : lo ≤ v ∧ v ≤ hi) (ho : offs[(v - lo).toNat]? = some off) (ht : (pc : Int) + off = (tgt : Int))
    (kk : mz_W Γ ρ nL k n P tgt L st) : mz_W Γ ρ nL k n P pc L (.int x :: st) := by
  obtain ⟨p, l', e, R, s, m, args, below, meth, c, H0, A, Q⟩ := Γ
  obtain ⟨-, hx, hb, -⟩ := C
  subst hx0
  exact fun H ls locs hP hS hl => lv_tableIn hx hb hd (by rw [hq]; omega) (by rw [hq]; omega) (by rw [hq]; exact ho) ht (kk H ls locs hP hS hl)
theorem mz_tout {dflt lo hi : Int} {offs : Array Int} {len : Nat} (C : mz_C Γ l own cc nL ret D cl tys rm) (hd : decode cc pc = .ok (.tableswitch dflt lo hi offs, len)) (h : x.toInt < lo ∨ hi < x.toInt) (ht : (pc : Int) + dflt = (tgt : Int))
    (kk : mz_W Γ ρ nL k n P tgt L st) : mz_W Γ ρ nL k n P pc L (.int x :: st) := by
  obtain ⟨p, l', e, R, s, m, args, below, meth, c, H0, A, Q⟩ := Γ
  obtain ⟨-, hx, hb, -⟩ := C
  exact fun H ls locs hP hS hl => lv_tableOut hx hb hd h ht (kk H ls locs hP hS hl)
theorem mz_irem (C : mz_C Γ l own cc nL ret D cl tys rm) (h0 : ¬ y = 0) (hd : decode cc pc = .ok (.irem, 1)) (kk : mz_W Γ ρ nL k n P (pc + 1) L (.int (x - x / y * y) :: st)) : mz_W Γ ρ nL k n P pc L (.int y :: .int x :: st) := by
  obtain ⟨p, l', e, R, s, m, args, below, meth, c, H0, A, Q⟩ := Γ
  obtain ⟨-, hx, hb, -⟩ := C
  exact fun H ls locs hP hS hl => lv_irem hx hb hd h0 (kk H ls locs hP hS hl)
theorem mz_idiv (C : mz_C Γ l own cc nL ret D cl tys rm) (h0 : ¬ y = 0) (hd : decode cc pc = .ok (.idiv, 1)) (kk : mz_W Γ ρ nL k n P (pc + 1) L (.int (x / y) :: st)) : mz_W Γ ρ nL k n P pc L (.int y :: .int x :: st) := by
  obtain ⟨p, l', e, R, s, m, args, below, meth, c, H0, A, Q⟩ := Γ
  obtain ⟨-, hx, hb, -⟩ := C
  exact fun H ls locs hP hS hl => lv_idiv hx hb hd h0 (kk H ls locs hP hS hl)
end MZX
