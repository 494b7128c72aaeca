/-! loops, as programs and as walks -/
def mz_n (n : Int32) : Nat := n.toInt.toNat
def mz_lp {α : Type} (F : Int32 → α → α) : Nat → Nat → α → α
  | _, 0, a => a
  | j, r + 1, a => mz_lp F (j + 1) r (F (nI j) a)
/-- for (i = 0; i < n; i++) a = F(i, a) -/
def mz_fr {α : Type} (n : Int32) (F : Int32 → α → α) (a : α) : α := mz_lp F 0 (mz_n n) a
theorem mz_n_lt (n : Int32) : mz_n n < 2 ^ 31 := by
  have := Int32.toInt_lt n
  unfold mz_n
  omega
theorem mz_n_le {n : Int32} {j : Nat} (hj : j < 2 ^ 31) : n ≤ nI j ↔ mz_n n ≤ j := by
  rw [Int32.le_iff_toInt_le, nI_toInt hj]
  unfold mz_n
  omega
theorem mz_loop {α : Type} (n : Int32) (F : Int32 → α → α) (K : Int32 → α → Prop) (a : α)
    (h : ∀ (i : Int32) (a' : α), 0 ≤ i → (n ≤ i → a' = mz_fr n F a) → (¬ n ≤ i → K (i + 1) (F i a')) → K i a') : K 0 a := by
  have key : ∀ (r j : Nat) (a' : α), j + r = mz_n n → mz_lp F j r a' = mz_fr n F a → K (nI j) a' := by
    intro r
    induction r with
    | zero =>
      intro j a' hj he
      have hb := mz_n_lt n
      refine h (nI j) a' (nI_pos' (by omega)) (fun _ => he) (fun hn => ?_)
      exact absurd ((mz_n_le (by omega)).mpr (by omega)) hn
    | succ r ih =>
      intro j a' hj he
      have hb := mz_n_lt n
      refine h (nI j) a' (nI_pos' (by omega)) (fun hn => ?_) (fun _ => ?_)
      · have := (mz_n_le (by omega)).mp hn
        omega
      · rw [nI_1]
        exact ih (j + 1) _ (by omega) he
  exact key (mz_n n) 0 a (by omega) rfl
/-- the first i below n with P, from j on -/
def mz_fd (P : Int32 → Bool) : Nat → Nat → Option Int32
  | _, 0 => none
  | j, r + 1 => if P (nI j) = true then some (nI j) else mz_fd P (j + 1) r
def mz_find (n : Int32) (P : Int32 → Bool) : Option Int32 := mz_fd P 0 (mz_n n)
theorem mz_loopf (n : Int32) (P : Int32 → Bool) (K : Int32 → Prop)
    (h : ∀ i : Int32, 0 ≤ i → (n ≤ i → mz_find n P = none) → (¬ n ≤ i → P i = true → mz_find n P = some i) → (¬ n ≤ i → P i = false → K (i + 1)) → K i) : K 0 := by
  have key : ∀ (r j : Nat), j + r = mz_n n → mz_fd P j r = mz_find n P → K (nI j) := by
    intro r
    induction r with
    | zero =>
      intro j hj he
      have hb := mz_n_lt n
      refine h (nI j) (nI_pos' (by omega)) (fun _ => he.symm) (fun hn => ?_) (fun hn => ?_)
      · exact absurd ((mz_n_le (by omega)).mpr (by omega)) hn
      · exact absurd ((mz_n_le (by omega)).mpr (by omega)) hn
    | succ r ih =>
      intro j hj he
      have hb := mz_n_lt n
      unfold mz_fd at he
      refine h (nI j) (nI_pos' (by omega)) (fun hn => ?_) (fun _ hp => ?_) (fun _ hp => ?_)
      · have := (mz_n_le (by omega)).mp hn
        omega
      · rw [if_pos hp] at he; exact he.symm
      · rw [if_neg (by rw [hp]; decide)] at he
        rw [nI_1]
        exact ih (j + 1) (by omega) he
  exact key (mz_n n) 0 (by omega) rfl
/-! rows of numbers -/
def mz_rg (n : Nat) (f : Nat → Int32) (i : Int32) : Int32 := if i < 0 then -1 else if Int32.ofNat n ≤ i then -1 else f i.toNatClampNeg
def mz_rs (n : Nat) (f : Nat → Int32) (i v : Int32) : Nat → Int32 := if i < 0 then f else if Int32.ofNat n ≤ i then f else upd f i.toNatClampNeg v
def mz_ra (n : Nat) (f : Nat → Int32) (i v : Int32) : Nat → Int32 := if i < 0 then f else if Int32.ofNat n ≤ i then f else upd f i.toNatClampNeg (f i.toNatClampNeg + v)
def mz_sum (n : Nat) (f : Nat → Int32) : Int32 := mz_fr (Int32.ofNat n) (fun i a => a + f i.toNatClampNeg) 0
theorem mz_vin {n : Nat} {i : Int32} (hn : n < 2 ^ 31) (h1 : ¬ i < 0) (h2 : ¬ Int32.ofNat n ≤ i) : vp_in i n := by
  rcases pk_ix i hn with h | h | ⟨j, hj, rfl⟩
  · exact absurd h h1
  · exact absurd h h2
  · exact vp_in_nI hj hn
theorem mz_vin' {n : Nat} {i : Int32} (hn : n < 2 ^ 31) (h1 : 0 ≤ i) (h2 : ¬ Int32.ofNat n ≤ i) : vp_in i n := mz_vin hn (Int32.not_lt.mpr h1) h2
def mz_row (n : Nat) : mz_Lay := mz_lf [some (mz_o 6 [some (some 1)]), some (mz_a n)]
