/-! rows joined; minutes in common -/
theorem mz_jrret {Γ : mz_G} {l : Launch} {own : String} {cc : ByteArray} {nL : Nat} {D : va_G} {cl : List vw_C} {tys : List (ClassId × FieldType)} {rm : Room} {ρ : Nat → Nat} {P Post : Heap → Prop} {A : Nat → Prop} {pc mc ms : Nat} {L : List (Nat × Value)} {v w : Nat} {t : FieldType} (C : mz_C Γ l own cc nL (some (.array t)) D cl tys rm) (E : mz_E Γ (mz_JQ (some (.ref w)) Post A) mc ms A) (hd : decode cc pc = .ok (.areturn, 1)) (hv : ρ v = w) (hP : ∀ H, P H → Post H) : mz_W Γ ρ nL mc ms P pc L [.ref v] := by
  obtain ⟨p, l', e, R, s, m, args, below, meth, c, H0, A, Q⟩ := Γ
  obtain ⟨-, hx, hb, -, -, -, -, hlocks, hr, -⟩ := C
  obtain ⟨rfl, rfl, rfl⟩ := E
  subst hv
  exact fun H ls locs hp hS hl => W.aret (v := .ref (ρ v)) hx hb hr (Or.inr ⟨_, rfl⟩) (Or.inr ⟨_, rfl⟩) (fun t ht _ => ⟨rfl, by rw [ht]; exact hP H hp, hS.F ht⟩) (fun q hq => hS.2.2 q hq) hd hlocks
theorem mz_ls_ls (lay : mz_Lay) (k : Nat) (a b : mz_Sh) : mz_ls (mz_ls lay k a) k b = mz_ls lay k b := by
  funext j
  by_cases h : j = k
  · subst h; rw [mz_ls_eq, mz_ls_eq]
  · rw [mz_ls_ne h, mz_ls_ne h, mz_ls_ne h]
theorem mz_I_ls {ρ : Nat → Nat} {lay : mz_Lay} {k : Nat} {sh : mz_Sh} (hI : mz_I ρ lay) (hk : ∀ j x, lay j = some x → ρ j ≠ ρ k) : mz_I ρ (mz_ls lay k sh) := by
  intro i j a b hi hj e
  by_cases h1 : i = k
  · by_cases h2 : j = k
    · rw [h1, h2]
    · rw [mz_ls_ne h2] at hj
      exact absurd (by rw [← e, h1]) (hk j b hj)
  · rw [mz_ls_ne h1] at hi
    by_cases h2 : j = k
    · exact absurd (by rw [e, h2]) (hk i a hi)
    · rw [mz_ls_ne h2] at hj
      exact hI _ _ _ _ hi hj e
/-- the rows with one more -/
def mz_pl (g : Nat → Option Nat) (n b : Nat) : Nat → Option Nat := fun j => if j < n then g j else if j = n then some b else none
theorem hs_X10_plus : mz_YS yX10_plus cX10_plus 3 (some (.array (.array .int))) 2 := ⟨mz_in 1027 (by decide +kernel) (by decide +kernel), mz_in 32 (by decide +kernel) (by decide +kernel), mz_in 1028 (by decide +kernel) (by decide +kernel), by decide +kernel, by decide +kernel, by decide +kernel⟩
set_option maxHeartbeats 4000000 in
theorem t_plus (l : Launch) (D : va_G) (cA : Nat → ClassId) (ρ : Nat → Nat) (lay : mz_Lay) (M : mz_Mem) (x b c n K z : Nat) (g : Nat → Option Nat) (hI : mz_I ρ lay) (hx : lay x = some (mz_r 1 n g)) (hb : lay b = some (mz_a K)) (hc : lay c = none) (hz : ρ c = z) (hn : n ≤ 15) (hrow : ∀ j, j < n → ∀ q, g j = some q → ∃ K, lay q = some (mz_a K)) :
    mz_J l D vwCl cA yX10_plus cX10_plus 3 (some (.array (.array .int))) 1 74 1 16 [.ref (ρ x), .ref (ρ b)] (fun H => mz_H D vwCl cA ρ lay M H ∧ H.size = z) (some (.ref z)) (fun H => mz_H D vwCl cA ρ (mz_ls lay c (mz_r 1 (n + 1) (mz_pl g n b))) M H ∧ H.size = z + 1) (fun q => z ≤ q) := by
  refine mz_introJ (ρ := ρ) (As0 := [.ref x, .ref b]) (by decide +kernel) (Nat.le_of_ble_eq_true rfl) rfl (fun Γ C hO E _ => ?_)
  have E' := (⟨_, _, _, E⟩ : ∃ Qc mc ms, mz_E Γ Qc mc ms (fun q => z ≤ q))
  have eN : Int32.ofNat n + 1 = nI (n + 1) := nI_1 n
  have cN : (Int32.ofNat n).toNatClampNeg = n := nI_clamp (n := n) (by omega)
  refine mz_and (q := ∀ j sh, lay j = some sh → ρ j < z) (fun H hP j sh hj => by rw [← hP.2]; exact (hP.1 j sh hj).lt) (fun hlt => ?_)
  have hcne : ∀ j sh, lay j = some sh → j ≠ c := fun j sh hj e => by rw [e, hc] at hj; cases hj
  have hI1 : ∀ sh, mz_I ρ (mz_ls lay c sh) := fun sh => mz_I_ls hI (fun j y hj => by have := hlt j y hj; omega)
  have hPH0 : ∀ H : Heap, (mz_H D vwCl cA ρ lay M H ∧ H.size = z) → mz_H D vwCl cA ρ lay M H := fun H h => h.1
  refine mz_goP (lay := lay) (M := M) (cA := cA) (D := D) (cl := vwCl) hPH0 FLX10 KLX10 C [(0, .aload_n 0)] (by decide +kernel) (pc' := 1) (L' := [(0, .ref x), (1, .ref b)]) (st' := [.ref x]) rfl ?_
  refine mz_aalen hPH0 C hx (by decide +kernel) ?_
  refine mz_goP (lay := lay) (M := M) (cA := cA) (D := D) (cl := vwCl) hPH0 FLX10 KLX10 C [(2, .iconst 1), (3, .iadd)] (by decide +kernel) (pc' := 4) (L' := [(0, .ref x), (1, .ref b)]) (st' := [.int (Int32.ofNat n + 1)]) rfl ?_
  refine mz_newA (index := 20) (na := c) (N := n + 1) (P' := fun H => mz_H D vwCl cA ρ (mz_ls lay c (mz_r 1 (n + 1) (fun _ => none))) M H ∧ H.size = z + 1) hPH0 (fun H h => by rw [h.2, hz]) hcne (fun H H1 h h1 h2 _ => ⟨h1, by rw [h2, h.2]⟩) C hO (mz_in 941 (by decide +kernel) (by decide +kernel)) (by rw [eN]; exact nI_pos (by omega)) (by rw [eN]; exact nI_clamp (by omega)) (by omega) (Nat.le_refl _) (show 0 + (n + 1) ≤ 16 by omega) (by decide +kernel) ?_
  have hPH1 : ∀ H : Heap, (mz_H D vwCl cA ρ (mz_ls lay c (mz_r 1 (n + 1) (fun _ => none))) M H ∧ H.size = z + 1) → mz_H D vwCl cA ρ (mz_ls lay c (mz_r 1 (n + 1) (fun _ => none))) M H := fun H h => h.1
  have hxc : x ≠ c := hcne _ _ hx
  have hbc : b ≠ c := hcne _ _ hb
  refine mz_goP (lay := lay) (M := M) (cA := cA) (D := D) (cl := vwCl) (P := fun H => mz_H D vwCl cA ρ (mz_ls lay c (mz_r 1 (n + 1) (fun _ => none))) M H ∧ H.size = z + 1) (fun H h j sh hj => h.1 j sh (by rw [mz_ls_ne (hcne j sh hj)]; exact hj)) FLX10 KLX10 C [(7, .astore_n 2), (8, .aload_n 0), (9, .iconst 0), (10, .aload_n 2), (11, .iconst 0), (12, .aload_n 0)] (by decide +kernel) (pc' := 13) (L' := [(2, .ref c), (0, .ref x), (1, .ref b)]) (st' := [.ref x, .int 0, .ref c, .int 0, .ref x]) rfl ?_
  refine mz_aalen (g := g) (N := n) hPH1 C (by rw [mz_ls_ne hxc]; exact hx) (by decide +kernel) ?_
  refine mz_acpR (index := 58) (src := x) (dst := c) (n0 := n) (n1 := n + 1) (g0 := g) (g1 := fun _ => none) (P' := fun H => mz_H D vwCl cA ρ (mz_ls lay c (mz_r 1 (n + 1) (va_cpy g (fun _ => none) 0 0 n))) M H ∧ H.size = z + 1) hPH1 (fun H H1 h h1 h2 _ => ⟨by rw [mz_ls_ls, cN] at h1; exact h1, by rw [h2]; exact h.2⟩) C hO E' (by show z ≤ ρ c; omega) (hI1 _) (by rw [mz_ls_ne hxc]; exact hx) (mz_ls_eq _ _ _)
    (fun j hj q hq => by
      obtain ⟨K2, h2⟩ := hrow j hj q hq
      exact ⟨K2, by rw [mz_ls_ne (hcne _ _ h2)]; exact h2⟩)
    (mz_in 1009 (by decide +kernel) (by decide +kernel)) (mz_in 442 (by decide +kernel) (by decide +kernel)) (mz_in 441 (by decide +kernel) (by decide +kernel)) (mz_in 44 (by decide +kernel) (by decide +kernel)) (by decide) (by decide) (nI_pos (n := n) (by omega)) (by rw [cN]; show 0 + n ≤ n; omega) (by rw [cN]; show 0 + n ≤ n + 1; omega) (Nat.le_refl _) (Nat.le_of_ble_eq_true rfl) (by decide +kernel) ?_
  have hPH2 : ∀ H : Heap, (mz_H D vwCl cA ρ (mz_ls lay c (mz_r 1 (n + 1) (va_cpy g (fun _ => none) 0 0 n))) M H ∧ H.size = z + 1) → mz_H D vwCl cA ρ (mz_ls lay c (mz_r 1 (n + 1) (va_cpy g (fun _ => none) 0 0 n))) M H := fun H h => h.1
  refine mz_goP (lay := lay) (M := M) (cA := cA) (D := D) (cl := vwCl) (P := fun H => mz_H D vwCl cA ρ (mz_ls lay c (mz_r 1 (n + 1) (va_cpy g (fun _ => none) 0 0 n))) M H ∧ H.size = z + 1) (fun H h j sh hj => h.1 j sh (by rw [mz_ls_ne (hcne j sh hj)]; exact hj)) FLX10 KLX10 C [(17, .aload_n 2), (18, .aload_n 0)] (by decide +kernel) (pc' := 19) (L' := [(2, .ref c), (0, .ref x), (1, .ref b)]) (st' := [.ref x, .ref c]) rfl ?_
  refine mz_aalen (g := g) (N := n) hPH2 C (by rw [mz_ls_ne hxc]; exact hx) (by decide +kernel) ?_
  refine mz_goP (lay := lay) (M := M) (cA := cA) (D := D) (cl := vwCl) (P := fun H => mz_H D vwCl cA ρ (mz_ls lay c (mz_r 1 (n + 1) (va_cpy g (fun _ => none) 0 0 n))) M H ∧ H.size = z + 1) (fun H h j sh hj => h.1 j sh (by rw [mz_ls_ne (hcne j sh hj)]; exact hj)) FLX10 KLX10 C [(20, .aload_n 1)] (by decide +kernel) (pc' := 21) (L' := [(2, .ref c), (0, .ref x), (1, .ref b)]) (st' := [.ref b, .int (Int32.ofNat n), .ref c]) rfl ?_
  have epl : mz_uo (va_cpy g (fun _ => none) 0 0 n) n (some b) = mz_pl g n b := by
    funext j
    unfold mz_uo mz_pl va_cpy
    by_cases h1 : j = n
    · rw [if_pos h1, if_neg (by omega), if_pos h1]
    · rw [if_neg h1]
      by_cases h2 : j < n
      · rw [if_pos h2, if_pos ⟨Nat.zero_le _, by omega⟩]
        congr 1
        omega
      · rw [if_neg h2, if_neg h1, if_neg (by omega)]
  refine mz_aast (id := c) (N := n + 1) (q := b) (K := K) (g := va_cpy g (fun _ => none) 0 0 n) (P' := fun H => mz_H D vwCl cA ρ (mz_ls lay c (mz_r 1 (n + 1) (mz_pl g n b))) M H ∧ H.size = z + 1) hPH2 (fun H H1 h h1 h2 _ => ⟨by rw [mz_ls_ls, cN, epl] at h1; exact h1, by rw [h2]; exact h.2⟩) C hO E' (by show z ≤ ρ c; omega) (hI1 _) (mz_ls_eq _ _ _) (by rw [mz_ls_ne hbc]; exact hb) (vp_in_nI (n := n) (by omega) (by omega)) (by decide +kernel) ?_
  refine mz_goP (lay := lay) (M := M) (cA := cA) (D := D) (cl := vwCl) (P := fun H => mz_H D vwCl cA ρ (mz_ls lay c (mz_r 1 (n + 1) (mz_pl g n b))) M H ∧ H.size = z + 1) (fun H h j sh hj => h.1 j sh (by rw [mz_ls_ne (hcne j sh hj)]; exact hj)) FLX10 KLX10 C [(22, .aload_n 2)] (by decide +kernel) (pc' := 23) (L' := [(2, .ref c), (0, .ref x), (1, .ref b)]) (st' := [.ref c]) rfl ?_
  refine mz_wid (k' := 1) (n' := 16) (Nat.le_refl _) (by omega) ?_
  exact mz_jrret C E (by decide +kernel) hz (fun H h => h)
/-- have minutes from a, b of them, one in common with those from c, d of them? -/
def mz_ov (a b c d : Nat) : Int32 := if a < c + d ∧ c < a + b then 1 else 0
set_option maxHeartbeats 4000000 in
theorem t_overlap (l : Launch) (D : va_G) (cA : Nat → ClassId) (ρ : Nat → Nat) (lay : mz_Lay) (M : mz_Mem) (Pr : Heap → Prop) (hPr : ∀ H, Pr H → mz_H D vwCl cA ρ lay M H) (x y a b c d : Nat) (hx : lay x = some (mz_a 10)) (hy : lay y = some (mz_a 10)) (va : M x 1 = nI a) (vb : M x 2 = nI b) (vc : M y 1 = nI c) (vd : M y 2 = nI d) (ha : a < 2 ^ 20) (hb : b < 2 ^ 20) (hc : c < 2 ^ 20) (hd : d < 2 ^ 20) (hb1 : 1 ≤ b) (hd1 : 1 ≤ d) :
    mz_J l D vwCl cA yX10_overlap cX10_overlap 3 (some .boolean) 0 0 0 0 [.ref (ρ x), .ref (ρ y)] Pr (some (.int (mz_ov a b c d))) Pr (fun _ => False) := by
  refine mz_introJ (ρ := ρ) (As0 := [.ref x, .ref y]) (by decide +kernel) (Nat.le_of_ble_eq_true rfl) rfl (fun Γ C hO E _ => ?_)
  refine mz_goP (lay := lay) (M := M) (cA := cA) (D := D) (cl := vwCl) (hPr) FLX10 KLX10 C [(0, .aload_n 0), (1, .iconst 1)] (by decide +kernel) (pc' := 2) (L' := [(0, .ref x), (1, .ref y)]) (st' := [.int 1, .ref x]) rfl ?_
  refine mz_ildP hPr (t0 := 0) C rfl (N := 10) hx (by unfold vp_in; decide) (by decide +kernel) ?_
  rw [show M x ((1 : Int32)).toNatClampNeg = nI a from va]
  refine mz_goP (lay := lay) (M := M) (cA := cA) (D := D) (cl := vwCl) (hPr) FLX10 KLX10 C [(3, .istore_n 2)] (by decide +kernel) (pc' := 4) (L' := [(2, .int (nI a)), (0, .ref x), (1, .ref y)]) (st' := []) rfl ?_
  have key : ∀ (r k : Nat), k + r = a + b → a ≤ k → (∀ q, a ≤ q → q < k → ¬ (c ≤ q ∧ q < c + d)) → mz_W Γ ρ 3 0 0 Pr 4 [(0, .ref x), (1, .ref y), (2, .int (nI k))] [] := by
    intro r
    induction r with
    | zero =>
      intro k hk hak hno
      refine mz_goP (lay := lay) (M := M) (cA := cA) (D := D) (cl := vwCl) (hPr) FLX10 KLX10 C [(4, .iload_n 2), (5, .aload_n 0), (6, .iconst 1)] (by decide +kernel) (pc' := 7) (L' := [(0, .ref x), (1, .ref y), (2, .int (nI k))]) (st' := [.int 1, .ref x, .int (nI k)]) rfl ?_
      refine mz_ildP hPr (t0 := 0) C rfl (N := 10) hx (by unfold vp_in; decide) (by decide +kernel) ?_
      rw [show M x ((1 : Int32)).toNatClampNeg = nI a from va]
      refine mz_goP (lay := lay) (M := M) (cA := cA) (D := D) (cl := vwCl) (hPr) FLX10 KLX10 C [(8, .aload_n 0), (9, .iconst 2)] (by decide +kernel) (pc' := 10) (L' := [(0, .ref x), (1, .ref y), (2, .int (nI k))]) (st' := [.int 2, .ref x, .int (nI a), .int (nI k)]) rfl ?_
      refine mz_ildP hPr (t0 := 0) C rfl (N := 10) hx (by unfold vp_in; decide) (by decide +kernel) ?_
      rw [show M x ((2 : Int32)).toNatClampNeg = nI b from vb]
      refine mz_goP (lay := lay) (M := M) (cA := cA) (D := D) (cl := vwCl) (hPr) FLX10 KLX10 C [(11, .iadd)] (by decide +kernel) (pc' := 12) (L' := [(0, .ref x), (1, .ref y), (2, .int (nI k))]) (st' := [.int ((nI a) + (nI b)), .int (nI k)]) rfl ?_
      rw [nI_add]
      refine mz_ige (off := 29) (tgt := 41) C (by decide +kernel) (by decide) (fun h => ?_) (fun h => absurd (nI_le (a := a + b) (b := k) (by omega) (by omega)) h)
      refine mz_goP (lay := lay) (M := M) (cA := cA) (D := D) (cl := vwCl) (hPr) FLX10 KLX10 C [(41, .iconst 0)] (by decide +kernel) (pc' := 42) (L' := [(0, .ref x), (1, .ref y), (2, .int (nI k))]) (st' := [.int 0]) rfl ?_
      refine mz_jzret C E (by decide +kernel) (Or.inl rfl) ?_ (fun _ h => h)
      unfold mz_ov
      rw [if_neg]
      intro hh
      by_cases hac : a ≤ c
      · exact hno c hac (by omega) ⟨by omega, by omega⟩
      · exact hno a (by omega) (by omega) ⟨by omega, by omega⟩
    | succ r ih =>
      intro k hk hak hno
      refine mz_goP (lay := lay) (M := M) (cA := cA) (D := D) (cl := vwCl) (hPr) FLX10 KLX10 C [(4, .iload_n 2), (5, .aload_n 0), (6, .iconst 1)] (by decide +kernel) (pc' := 7) (L' := [(0, .ref x), (1, .ref y), (2, .int (nI k))]) (st' := [.int 1, .ref x, .int (nI k)]) rfl ?_
      refine mz_ildP hPr (t0 := 0) C rfl (N := 10) hx (by unfold vp_in; decide) (by decide +kernel) ?_
      rw [show M x ((1 : Int32)).toNatClampNeg = nI a from va]
      refine mz_goP (lay := lay) (M := M) (cA := cA) (D := D) (cl := vwCl) (hPr) FLX10 KLX10 C [(8, .aload_n 0), (9, .iconst 2)] (by decide +kernel) (pc' := 10) (L' := [(0, .ref x), (1, .ref y), (2, .int (nI k))]) (st' := [.int 2, .ref x, .int (nI a), .int (nI k)]) rfl ?_
      refine mz_ildP hPr (t0 := 0) C rfl (N := 10) hx (by unfold vp_in; decide) (by decide +kernel) ?_
      rw [show M x ((2 : Int32)).toNatClampNeg = nI b from vb]
      refine mz_goP (lay := lay) (M := M) (cA := cA) (D := D) (cl := vwCl) (hPr) FLX10 KLX10 C [(11, .iadd)] (by decide +kernel) (pc' := 12) (L' := [(0, .ref x), (1, .ref y), (2, .int (nI k))]) (st' := [.int ((nI a) + (nI b)), .int (nI k)]) rfl ?_
      rw [nI_add]
      refine mz_ige (off := 29) (tgt := 41) C (by decide +kernel) (by decide) (fun h => absurd h (nI_ge (a := k) (b := a + b) (by omega) (by omega))) (fun h => ?_)
      refine mz_goP (lay := lay) (M := M) (cA := cA) (D := D) (cl := vwCl) (hPr) FLX10 KLX10 C [(15, .iload_n 2), (16, .aload_n 1), (17, .iconst 1)] (by decide +kernel) (pc' := 18) (L' := [(0, .ref x), (1, .ref y), (2, .int (nI k))]) (st' := [.int 1, .ref y, .int (nI k)]) rfl ?_
      refine mz_ildP hPr (t0 := 0) C rfl (N := 10) hy (by unfold vp_in; decide) (by decide +kernel) ?_
      rw [show M y ((1 : Int32)).toNatClampNeg = nI c from vc]
      refine mz_ilt (off := 16) (tgt := 35) C (by decide +kernel) (by decide) (fun h1 => ?_) (fun h1 => ?_)
      · refine mz_goP (lay := lay) (M := M) (cA := cA) (D := D) (cl := vwCl) (hPr) FLX10 KLX10 C [(35, .iinc 2 1), (38, .goto (-34))] (by decide +kernel) (pc' := 4) (L' := [(2, .int ((nI k) + 1)), (0, .ref x), (1, .ref y)]) (st' := []) rfl ?_
        rw [nI_1]
        refine mz_sub (L' := [(0, .ref x), (1, .ref y), (2, .int (nI (k + 1)))]) (by simp) (ih (k + 1) (by omega) (by omega) (fun q h2 h3 => ?_))
        by_cases hq : q = k
        · subst hq; exact fun hh => absurd h1 (nI_nlt (by omega) (by omega))
        · exact hno q h2 (by omega)
      · refine mz_goP (lay := lay) (M := M) (cA := cA) (D := D) (cl := vwCl) (hPr) FLX10 KLX10 C [(22, .iload_n 2), (23, .aload_n 1), (24, .iconst 1)] (by decide +kernel) (pc' := 25) (L' := [(0, .ref x), (1, .ref y), (2, .int (nI k))]) (st' := [.int 1, .ref y, .int (nI k)]) rfl ?_
        refine mz_ildP hPr (t0 := 0) C rfl (N := 10) hy (by unfold vp_in; decide) (by decide +kernel) ?_
        rw [show M y ((1 : Int32)).toNatClampNeg = nI c from vc]
        refine mz_goP (lay := lay) (M := M) (cA := cA) (D := D) (cl := vwCl) (hPr) FLX10 KLX10 C [(26, .aload_n 1), (27, .iconst 2)] (by decide +kernel) (pc' := 28) (L' := [(0, .ref x), (1, .ref y), (2, .int (nI k))]) (st' := [.int 2, .ref y, .int (nI c), .int (nI k)]) rfl ?_
        refine mz_ildP hPr (t0 := 0) C rfl (N := 10) hy (by unfold vp_in; decide) (by decide +kernel) ?_
        rw [show M y ((2 : Int32)).toNatClampNeg = nI d from vd]
        refine mz_goP (lay := lay) (M := M) (cA := cA) (D := D) (cl := vwCl) (hPr) FLX10 KLX10 C [(29, .iadd)] (by decide +kernel) (pc' := 30) (L' := [(0, .ref x), (1, .ref y), (2, .int (nI k))]) (st' := [.int ((nI c) + (nI d)), .int (nI k)]) rfl ?_
        rw [nI_add]
        refine mz_ige (off := 5) (tgt := 35) C (by decide +kernel) (by decide) (fun h2 => ?_) (fun h2 => ?_)
        · refine mz_goP (lay := lay) (M := M) (cA := cA) (D := D) (cl := vwCl) (hPr) FLX10 KLX10 C [(35, .iinc 2 1), (38, .goto (-34))] (by decide +kernel) (pc' := 4) (L' := [(2, .int ((nI k) + 1)), (0, .ref x), (1, .ref y)]) (st' := []) rfl ?_
          rw [nI_1]
          refine mz_sub (L' := [(0, .ref x), (1, .ref y), (2, .int (nI (k + 1)))]) (by simp) (ih (k + 1) (by omega) (by omega) (fun q h2 h3 => ?_))
          by_cases hq : q = k
          · subst hq; exact fun hh => absurd h2 (nI_ge (by omega) (by omega))
          · exact hno q h2 (by omega)
        · refine mz_goP (lay := lay) (M := M) (cA := cA) (D := D) (cl := vwCl) (hPr) FLX10 KLX10 C [(33, .iconst 1)] (by decide +kernel) (pc' := 34) (L' := [(0, .ref x), (1, .ref y), (2, .int (nI k))]) (st' := [.int 1]) rfl ?_
          have h3 : c ≤ k := Nat.le_of_not_lt fun z => h1 (nI_lt (by omega) (by omega))
          have h4 : k < c + d := Nat.lt_of_not_le fun z => h2 (nI_le (by omega) (by omega))
          exact mz_jzret C E (by decide +kernel) (Or.inr rfl) (by unfold mz_ov; rw [if_pos ⟨by omega, by omega⟩]) (fun _ h => h)
  refine mz_sub (L' := [(0, .ref x), (1, .ref y), (2, .int (nI a))]) (by simp) (key b a rfl (Nat.le_refl _) (fun q h1 h2 => by omega))
