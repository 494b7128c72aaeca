/-! found: what its rounds do to what is told; its calls -/
abbrev mz_FS : Type := mz_Mem × Nat × (Nat → Nat)
section MZFS
variable (Lg : Nat) (xs : Nat → Int32)
/-- a room, and perhaps a door to the one before -/
def mz_S1 (σ : mz_FS) : mz_FS :=
  if σ.2.2 3 = 0 then ((g_X4_addRoom σ.1 (nI (1 + mz_dv Lg xs (σ.2.1 + 1) (if mz_dv Lg xs σ.2.1 2 = 0 then 4 else 15)))).2, σ.2.1 + 2, mz_sz1 σ.2.2 3)
  else if mz_dv Lg xs (σ.2.1 + 2) 9 = 0 then ((g_X4_addRoom σ.1 (nI (1 + mz_dv Lg xs (σ.2.1 + 1) (if mz_dv Lg xs σ.2.1 2 = 0 then 4 else 15)))).2, σ.2.1 + 3, mz_sz1 σ.2.2 3)
  else ((g_X4_addDoor (g_X4_addRoom σ.1 (nI (1 + mz_dv Lg xs (σ.2.1 + 1) (if mz_dv Lg xs σ.2.1 2 = 0 then 4 else 15)))).2 (nI (σ.2.2 3 - 1)) (nI (σ.2.2 3)) (nI (1 + mz_dv Lg xs (σ.2.1 + 3) 3))).2, σ.2.1 + 4, mz_sz1 (mz_sz1 σ.2.2 3) 4)
/-- perhaps another door -/
def mz_S2 (many : Nat) (σ : mz_FS) : mz_FS :=
  if mz_dv Lg xs σ.2.1 many = mz_dv Lg xs (σ.2.1 + 1) many then (σ.1, σ.2.1 + 2, σ.2.2)
  else if σ.1 8 (mz_dv Lg xs σ.2.1 many * 8 + mz_dv Lg xs (σ.2.1 + 1) many) = -1 then ((g_X4_addDoor σ.1 (nI (mz_dv Lg xs σ.2.1 many)) (nI (mz_dv Lg xs (σ.2.1 + 1) many)) (nI (1 + mz_dv Lg xs (σ.2.1 + 2) 6))).2, σ.2.1 + 3, mz_sz1 σ.2.2 4)
  else (σ.1, σ.2.1 + 2, σ.2.2)
def mz_S3 (many : Nat) (σ : mz_FS) : mz_FS := (g_X1_enter (g_X7_addTrack σ.1 (nI (mz_dv Lg xs σ.2.1 many))).2 (σ.1 15 0) (nI (mz_dv Lg xs σ.2.1 many)), σ.2.1 + 1, mz_sz1 σ.2.2 5)
def mz_S4 (many : Nat) (σ : mz_FS) : mz_FS := (g_X5_lay (g_X7_addProp σ.1 (nI (mz_dv Lg xs σ.2.1 many))).2 (σ.1 15 1) (nI (mz_dv Lg xs σ.2.1 many)), σ.2.1 + 1, mz_sz1 σ.2.2 6)
/-- a scene's tracks, the draws by then, its prop -/
def mz_s5q (d nT : Nat) : Int32 := if mz_dv Lg xs (d + 5) 3 = 0 then nI (1 + mz_dv Lg xs (d + 3) (2 ^ nT - 1)) else 1 <<< (nI (mz_dv Lg xs (d + 6) nT) &&& 31)
def mz_s5d (d : Nat) : Nat := if mz_dv Lg xs (d + 5) 3 = 0 then d + 6 else d + 7
def mz_s5p (d : Nat) : Int32 := if mz_dv Lg xs (mz_s5d Lg xs d) 2 = 0 then -1 else nI (mz_dv Lg xs (d + 4) 3) - 1
noncomputable def mz_S5 (many : Nat) (σ : mz_FS) : mz_FS :=
  if mz_csI σ.1 (mz_s5q Lg xs σ.2.1 (σ.2.2 5)) (mz_dv Lg xs σ.2.1 13) (1 + mz_dv Lg xs (σ.2.1 + 2) 6) (σ.2.2 7) = 0 then (σ.1, mz_s5d Lg xs σ.2.1 + 1, σ.2.2)
  else ((g_X7_addScene σ.1 (nI (mz_dv Lg xs (σ.2.1 + 1) many)) (nI (mz_dv Lg xs σ.2.1 13)) (nI (1 + mz_dv Lg xs (σ.2.1 + 2) 6)) (mz_s5q Lg xs σ.2.1 (σ.2.2 5)) (mz_s5p Lg xs σ.2.1)).2, mz_s5d Lg xs σ.2.1 + 1, mz_sz1 σ.2.2 7)
/-- perhaps a guest, and its habit -/
def mz_S6 (many : Nat) (σ : mz_FS) : mz_FS :=
  if nI (mz_cnt (σ.1 62) (nI (mz_dv Lg xs σ.2.1 many)) (σ.2.2 8)) < σ.1 3 (mz_dv Lg xs σ.2.1 many) then
    (g_X0_changeHabit (g_X0_enter σ.1 (nI (mz_dv Lg xs σ.2.1 many))).2 (nI (σ.2.2 8)) (nI (mz_dv Lg xs (σ.2.1 + 1) 4)) (nI (mz_dv Lg xs (σ.2.1 + 2) (σ.2.2 5))), σ.2.1 + 3, mz_sz1 σ.2.2 8)
  else (σ.1, σ.2.1 + 1, σ.2.2)
def mz_F1 : Nat → mz_FS → mz_FS
  | 0, σ => σ
  | r + 1, σ => mz_F1 r (mz_S1 Lg xs σ)
def mz_F2 (many : Nat) : Nat → mz_FS → mz_FS
  | 0, σ => σ
  | r + 1, σ => mz_F2 many r (mz_S2 Lg xs many σ)
def mz_F3 (many : Nat) : Nat → Nat → mz_FS → mz_FS
  | 0, _, σ => (σ.1, σ.2.1 + 1, σ.2.2)
  | r + 1, i, σ => if 3 + mz_dv Lg xs σ.2.1 3 ≤ i then (σ.1, σ.2.1 + 1, σ.2.2) else mz_F3 many r (i + 1) (mz_S3 Lg xs many (σ.1, σ.2.1 + 1, σ.2.2))
def mz_F4 (many : Nat) : Nat → mz_FS → mz_FS
  | 0, σ => σ
  | r + 1, σ => mz_F4 many r (mz_S4 Lg xs many σ)
noncomputable def mz_F5 (many : Nat) : Nat → mz_FS → mz_FS
  | 0, σ => σ
  | r + 1, σ => mz_F5 many r (mz_S5 Lg xs many σ)
def mz_F6 (many : Nat) : Nat → mz_FS → mz_FS
  | 0, σ => σ
  | r + 1, σ => mz_F6 many r (mz_S6 Lg xs many σ)
/-- all that found tells -/
noncomputable def mz_fnd (σ : mz_FS) : mz_FS :=
  mz_F6 Lg xs (3 + mz_dv Lg xs σ.2.1 5) 6 (mz_F5 Lg xs (3 + mz_dv Lg xs σ.2.1 5) 9 (mz_F4 Lg xs (3 + mz_dv Lg xs σ.2.1 5) 2 (mz_F3 Lg xs (3 + mz_dv Lg xs σ.2.1 5) 5 0 (mz_F2 Lg xs (3 + mz_dv Lg xs σ.2.1 5) 3 (mz_F1 Lg xs (3 + mz_dv Lg xs σ.2.1 5) (σ.1, σ.2.1 + 1, σ.2.2))))))
end MZFS
/-- what a round of found knows of what is told -/
def mz_V1 (i : Nat) (σ : mz_FS) : Prop := σ.2.2 3 = i ∧ σ.2.2 4 ≤ i ∧ (∀ j, 5 ≤ j → σ.2.2 j = 0) ∧ σ.2.1 ≤ 100 + 4 * i ∧ ∀ a b, a < 8 → b < 8 → (i ≤ a ∨ i ≤ b) → σ.1 8 (a * 8 + b) = -1
def mz_V2 (many i : Nat) (σ : mz_FS) : Prop := σ.2.2 3 = many ∧ σ.2.2 4 ≤ 7 + i ∧ (∀ j, 5 ≤ j → σ.2.2 j = 0) ∧ σ.2.1 ≤ 128 + 3 * i
def mz_V3 (many i : Nat) (σ : mz_FS) : Prop := σ.2.2 3 = many ∧ σ.2.2 5 = i ∧ (∀ j, 6 ≤ j → σ.2.2 j = 0) ∧ σ.2.1 ≤ 140 + 2 * i
def mz_V4 (many i : Nat) (σ : mz_FS) : Prop := σ.2.2 3 = many ∧ (3 ≤ σ.2.2 5 ∧ σ.2.2 5 ≤ 5) ∧ σ.2.2 6 = i ∧ (∀ j, 7 ≤ j → σ.2.2 j = 0) ∧ σ.2.1 ≤ 160 + i
def mz_V5 (many i : Nat) (σ : mz_FS) : Prop := σ.2.2 3 = many ∧ (3 ≤ σ.2.2 5 ∧ σ.2.2 5 ≤ 5) ∧ σ.2.2 6 = 2 ∧ σ.2.2 7 ≤ i ∧ σ.2.2 8 = 0 ∧ σ.2.1 ≤ 170 + 8 * i
def mz_V6 (many i : Nat) (σ : mz_FS) : Prop := σ.2.2 3 = many ∧ (3 ≤ σ.2.2 5 ∧ σ.2.2 5 ≤ 5) ∧ σ.2.2 8 ≤ i ∧ σ.2.1 ≤ 250 + 3 * i
/-- where found stands -/
abbrev mz_FR : Room := { frames := 7, cells := 100, slots := 1000, locals := 190 }
def mz_FC (Γ : mz_G) (l : Launch) (D : va_G) (cA : Nat → ClassId) (κ : Nat → Nat) (lo : Nat) : Prop :=
  mz_C Γ l RX10 cX10_found 6 (some .boolean) D vwCl (mz_ty cA) mz_FR ∧ mz_AQ cA Γ.2.2.2.2.1 ∧ ∃ Qc mc ms, mz_E Γ Qc mc ms (mz_TA κ lo)
section MZFW
variable {Γ : mz_G} {l : Launch} {D : va_G} {cA : Nat → ClassId} {κ : Nat → Nat} {lo Lg d : Nat} {xs : Nat → Int32} {N : mz_Mem} {sz : Nat → Nat} {k n pc : Nat} {L : List (Nat × Value)} {st : List Value}
theorem mz_T.at {H : Heap} (h : mz_T D cA κ lo Lg xs N d sz H) : ∃ fs, va_at D vwCl (κ 130, .inr (10, fs)) H := by
  obtain ⟨-, ρ, M, hF, hH⟩ := h
  rw [← hF.1.2.1]
  exact ⟨_, hH 130 _ rfl⟩
theorem mz_T.lk {H : Heap} (h : mz_T D cA κ lo Lg xs N d sz H) : ∃ M, mz_LK N M sz ∧ mz_NI N sz := by
  obtain ⟨-, ρ, M, hF, -⟩ := h
  exact ⟨M, hF.2.2.2.2.2⟩
theorem mz_Tback {ρ : Nat → Nat} {M : mz_Mem} {nL : Nat} (hF : mz_TF κ lo Lg xs N d ρ M sz) (hL : ∀ ρ : Nat → Nat, ρ 130 = κ 130 → mz_L κ L = mz_L ρ L) (hs : ∀ ρ : Nat → Nat, ρ 130 = κ 130 → st.map (mz_e κ) = st.map (mz_e ρ)) (kk : mz_W Γ κ nL k n (mz_T D cA κ lo Lg xs N d sz) pc L st) : mz_W Γ ρ nL k n (mz_TP D cA κ lo ρ (mz_TL Lg sz) N M) pc L st :=
  mz_ren (hL ρ hF.1.2.1) (hs ρ hF.1.2.1) (mz_mono (mz_Tclose hF) kk)
theorem fw_draw (X : mz_FC Γ l D cA κ lo) {n0 : Nat} (h0 : 0 < n0) (hn : n0 < 2 ^ 31) (hLg : Lg < 2 ^ 31) (hd1 : d + 1 < 2 ^ 20) (hk : k ≤ 100) (hn2 : n ≤ 1000) (hst : (st.map fun v => v.category).sum ≤ 8) (hd : decode cX10_found pc = .ok (.invokevirtual 152, 3))
    (kk : mz_W Γ κ 6 k n (mz_T D cA κ lo Lg xs N (d + 1) sz) (pc + 3) L (.int (nI (mz_dv Lg xs d n0)) :: st)) : mz_W Γ κ 6 k n (mz_T D cA κ lo Lg xs N d sz) pc L (.int (nI n0) :: .ref 130 :: st) := by
  obtain ⟨C, hO, E⟩ := X
  rw [← (mz_dv_ok Lg xs d h0 hn).2] at kk
  exact mz_callJ (ci := 10) (T := TX10) (N := 12) (As := [.int (nI n0)]) (rest := st) (index := 152) C hO E (t_draw l D cA κ lo Lg xs N d sz n0 hLg hd1 h0 hn) (fun _ h => h) (fun _ h => h) (fun _ h => h.at) (fun _ _ _ h _ _ => h) hy_X10_draw wl_X10_152 rfl rfl ⟨Nat.le_of_ble_eq_true rfl, Nat.le_of_ble_eq_true rfl⟩ ⟨hk, hn2⟩ hst hd kk rfl rfl
theorem fw_room (X : mz_FC Γ l D cA κ lo) (hκ : mz_I κ mz_lay2) {a : Nat} (ha : 1 ≤ a ∧ a ≤ 30) (hful : sz 3 < 8) (hk : k + 1 ≤ 100) (hn2 : n + 16 ≤ 1000) (hst : (st.map fun v => v.category).sum ≤ 8) (hd : decode cX10_found pc = .ok (.invokevirtual 155, 3))
    (kk : mz_W Γ κ 6 (k + 1) (n + 16) (mz_T D cA κ lo Lg xs (g_X4_addRoom N (nI a)).2 d (mz_sz1 sz 3)) (pc + 3) L (.int 1 :: st)) : mz_W Γ κ 6 k n (mz_T D cA κ lo Lg xs N d sz) pc L (.int (nI a) :: .ref 130 :: st) := by
  obtain ⟨C, hO, E⟩ := X
  exact mz_callJ (ci := 10) (T := TX10) (N := 12) (As := [.int (nI a)]) (rest := st) (index := 155) C hO E (t_room l D cA κ hκ lo Lg xs N d sz a ha hful) (fun _ h => h) (fun _ h => h) (fun _ h => h.at) (fun _ _ _ h _ _ => h) hy_X10_room wl_X10_155 rfl rfl ⟨Nat.le_of_ble_eq_true rfl, Nat.le_of_ble_eq_true rfl⟩ ⟨hk, hn2⟩ hst hd kk rfl rfl
theorem fw_door (X : mz_FC Γ l D cA κ lo) (hκ : mz_I κ mz_lay2) {a b w : Nat} (ha : a < sz 3) (hb : b < sz 3) (hab : a ≠ b) (hw : 1 ≤ w ∧ w ≤ 6) (hful : sz 4 < 14) (h8 : N 8 (a * 8 + b) = -1) (hk : k + 2 ≤ 100) (hn2 : n + 20 ≤ 1000) (hst : (st.map fun v => v.category).sum ≤ 8) (hd : decode cX10_found pc = .ok (.invokevirtual 157, 3))
    (kk : mz_W Γ κ 6 (k + 2) (n + 20) (mz_T D cA κ lo Lg xs (g_X4_addDoor N (nI a) (nI b) (nI w)).2 d (mz_sz1 sz 4)) (pc + 3) L (.int 1 :: st)) : mz_W Γ κ 6 k n (mz_T D cA κ lo Lg xs N d sz) pc L (.int (nI w) :: .int (nI b) :: .int (nI a) :: .ref 130 :: st) := by
  obtain ⟨C, hO, E⟩ := X
  exact mz_callJ (ci := 10) (T := TX10) (N := 12) (As := [.int (nI a), .int (nI b), .int (nI w)]) (rest := st) (index := 157) C hO E (t_door l D cA κ hκ lo Lg xs N d sz a b w ha hb hab hw hful h8) (fun _ h => h) (fun _ h => h) (fun _ h => h.at) (fun _ _ _ h _ _ => h) hy_X10_door wl_X10_157 rfl rfl ⟨Nat.le_of_ble_eq_true rfl, Nat.le_of_ble_eq_true rfl⟩ ⟨hk, hn2⟩ hst hd kk rfl rfl
theorem fw_track (X : mz_FC Γ l D cA κ lo) (hκ : mz_I κ mz_lay2) {a : Nat} (ha : a < sz 3) (hful : sz 5 < 5) (hk : k + 2 ≤ 100) (hn2 : n + 20 ≤ 1000) (hst : (st.map fun v => v.category).sum ≤ 8) (hd : decode cX10_found pc = .ok (.invokevirtual 160, 3))
    (kk : mz_W Γ κ 6 (k + 2) (n + 20) (mz_T D cA κ lo Lg xs (g_X1_enter (g_X7_addTrack N (nI a)).2 (N 15 0) (nI a)) d (mz_sz1 sz 5)) (pc + 3) L (.int 1 :: st)) : mz_W Γ κ 6 k n (mz_T D cA κ lo Lg xs N d sz) pc L (.int (nI a) :: .ref 130 :: st) := by
  obtain ⟨C, hO, E⟩ := X
  exact mz_callJ (ci := 10) (T := TX10) (N := 12) (As := [.int (nI a)]) (rest := st) (index := 160) C hO E (t_track l D cA κ hκ lo Lg xs N d sz a ha hful) (fun _ h => h) (fun _ h => h) (fun _ h => h.at) (fun _ _ _ h _ _ => h) hy_X10_track wl_X10_160 rfl rfl ⟨Nat.le_of_ble_eq_true rfl, Nat.le_of_ble_eq_true rfl⟩ ⟨hk, hn2⟩ hst hd kk rfl rfl
theorem fw_prop (X : mz_FC Γ l D cA κ lo) (hκ : mz_I κ mz_lay2) {a : Nat} (ha : a < sz 3) (hful : sz 6 < 4) (hk : k + 2 ≤ 100) (hn2 : n + 21 ≤ 1000) (hst : (st.map fun v => v.category).sum ≤ 8) (hd : decode cX10_found pc = .ok (.invokevirtual 162, 3))
    (kk : mz_W Γ κ 6 (k + 2) (n + 21) (mz_T D cA κ lo Lg xs (g_X5_lay (g_X7_addProp N (nI a)).2 (N 15 1) (nI a)) d (mz_sz1 sz 6)) (pc + 3) L (.int 1 :: st)) : mz_W Γ κ 6 k n (mz_T D cA κ lo Lg xs N d sz) pc L (.int (nI a) :: .ref 130 :: st) := by
  obtain ⟨C, hO, E⟩ := X
  exact mz_callJ (ci := 10) (T := TX10) (N := 12) (As := [.int (nI a)]) (rest := st) (index := 162) C hO E (t_prop l D cA κ hκ lo Lg xs N d sz a ha hful) (fun _ h => h) (fun _ h => h) (fun _ h => h.at) (fun _ _ _ h _ _ => h) hy_X10_prop wl_X10_162 rfl rfl ⟨Nat.le_of_ble_eq_true rfl, Nat.le_of_ble_eq_true rfl⟩ ⟨hk, hn2⟩ hst hd kk rfl rfl
theorem fw_guest (X : mz_FC Γ l D cA κ lo) (hκ : mz_I κ mz_lay2) {a : Nat} (ha : a < sz 3) (hful : sz 8 < 12) (hroom : nI (mz_cnt (N 62) (nI a) (sz 8)) < N 3 a) (hk : k + 2 ≤ 100) (hn2 : n + 23 ≤ 1000) (hst : (st.map fun v => v.category).sum ≤ 8) (hd : decode cX10_found pc = .ok (.invokevirtual 172, 3))
    (kk : mz_W Γ κ 6 (k + 2) (n + 23) (mz_T D cA κ lo Lg xs (g_X0_enter N (nI a)).2 d (mz_sz1 sz 8)) (pc + 3) L (.int 1 :: st)) : mz_W Γ κ 6 k n (mz_T D cA κ lo Lg xs N d sz) pc L (.int (nI a) :: .ref 130 :: st) := by
  obtain ⟨C, hO, E⟩ := X
  exact mz_callJ (ci := 10) (T := TX10) (N := 12) (As := [.int (nI a)]) (rest := st) (index := 172) C hO E (t_guest l D cA κ hκ lo Lg xs N d sz a ha hful hroom) (fun _ h => h) (fun _ h => h) (fun _ h => h.at) (fun _ _ _ h _ _ => h) hy_X10_guest wl_X10_172 rfl rfl ⟨Nat.le_of_ble_eq_true rfl, Nat.le_of_ble_eq_true rfl⟩ ⟨hk, hn2⟩ hst hd kk rfl rfl
theorem fw_habit (X : mz_FC Γ l D cA κ lo) (hκ : mz_I κ mz_lay2) {g h0 t : Nat} (hg : g < sz 8) (hh : h0 ≤ 3) (ht : t < sz 5) (hk : k ≤ 100) (hn2 : n ≤ 1000) (hst : (st.map fun v => v.category).sum ≤ 8) (hd : decode cX10_found pc = .ok (.invokevirtual 174, 3))
    (kk : mz_W Γ κ 6 k n (mz_T D cA κ lo Lg xs (g_X0_changeHabit N (nI g) (nI h0) (nI t)) d sz) (pc + 3) L (.int 1 :: st)) : mz_W Γ κ 6 k n (mz_T D cA κ lo Lg xs N d sz) pc L (.int (nI t) :: .int (nI h0) :: .int (nI g) :: .ref 130 :: st) := by
  obtain ⟨C, hO, E⟩ := X
  exact mz_callJ (ci := 10) (T := TX10) (N := 12) (As := [.int (nI g), .int (nI h0), .int (nI t)]) (rest := st) (index := 174) C hO E (t_habit l D cA κ hκ lo Lg xs N d sz g h0 t hg hh ht) (fun _ h => h) (fun _ h => h) (fun _ h => h.at) (fun _ _ _ h _ _ => h) hy_X10_habit wl_X10_174 rfl rfl ⟨Nat.le_of_ble_eq_true rfl, Nat.le_of_ble_eq_true rfl⟩ ⟨hk, hn2⟩ hst hd kk rfl rfl
theorem fw_doorOf (X : mz_FC Γ l D cA κ lo) {a b : Nat} (ha : a < 8) (hb : b < 8) (hk : k ≤ 100) (hn2 : n ≤ 1000) (hst : (st.map fun v => v.category).sum ≤ 8) (hd : decode cX10_found pc = .ok (.invokevirtual 96, 3))
    (kk : mz_W Γ κ 6 k n (mz_T D cA κ lo Lg xs N d sz) (pc + 3) L (.int (N 8 (a * 8 + b)) :: st)) : mz_W Γ κ 6 k n (mz_T D cA κ lo Lg xs N d sz) pc L (.int (nI b) :: .int (nI a) :: .ref 130 :: st) := by
  obtain ⟨C, hO, E⟩ := X
  refine mz_callJ (ci := 10) (T := TX10) (N := 12) (b := κ 130) (As := [.int (nI a), .int (nI b)]) (rest := st) (index := 96) (Pre := mz_T D cA κ lo Lg xs N d sz) (Post := mz_T D cA κ lo Lg xs N d sz) (A1 := fun _ => False) (fry := 0) (loy := 0) (mcy := 0) (msy := 0) (r := some (.int (N 8 (a * 8 + b)))) C hO E (mz_JT fun ρ M hF => ?_) (fun _ h => h.elim) (fun _ h => h) (fun _ h => h.at) (fun _ _ _ h _ _ => h) hy_X10_doorOf wl_X10_96 rfl rfl ⟨Nat.le_of_ble_eq_true rfl, Nat.le_of_ble_eq_true rfl⟩ ⟨hk, hn2⟩ hst hd kk rfl rfl
  rw [← hF.1.2.1]
  exact (t_doorOf l D cA ρ Lg sz N M (mz_TP D cA κ lo ρ (mz_TL Lg sz) N M) (fun _ h => h.2) hF.2.2.2.2.2.1 a b ha hb).weaken (fun _ h => h) (fun _ _ _ hp _ _ => mz_Tclose hF _ hp)
theorem fw_guestsIn (X : mz_FC Γ l D cA κ lo) {r : Nat} (hk : k ≤ 100) (hn2 : n ≤ 1000) (hst : (st.map fun v => v.category).sum ≤ 8) (hd : decode cX10_found pc = .ok (.invokevirtual 125, 3))
    (kk : mz_W Γ κ 6 k n (mz_T D cA κ lo Lg xs N d sz) (pc + 3) L (.int (nI (mz_cnt (N 62) (nI r) (sz 8))) :: st)) : mz_W Γ κ 6 k n (mz_T D cA κ lo Lg xs N d sz) pc L (.int (nI r) :: .ref 130 :: st) := by
  obtain ⟨C, hO, E⟩ := X
  refine mz_callJ (ci := 10) (T := TX10) (N := 12) (b := κ 130) (As := [.int (nI r)]) (rest := st) (index := 125) (Pre := mz_T D cA κ lo Lg xs N d sz) (Post := mz_T D cA κ lo Lg xs N d sz) (A1 := fun _ => False) (fry := 0) (loy := 0) (mcy := 0) (msy := 0) (r := some (.int (nI (mz_cnt (N 62) (nI r) (sz 8))))) C hO E (mz_JT fun ρ M hF => ?_) (fun _ h => h.elim) (fun _ h => h) (fun _ h => h.at) (fun _ _ _ h _ _ => h) hy_X10_guestsIn wl_X10_125 rfl rfl ⟨Nat.le_of_ble_eq_true rfl, Nat.le_of_ble_eq_true rfl⟩ ⟨hk, hn2⟩ hst hd kk rfl rfl
  rw [← hF.1.2.1]
  exact (t_guestsIn l D cA ρ Lg sz N M (mz_TP D cA κ lo ρ (mz_TL Lg sz) N M) (fun _ h => h.2) hF.2.2.2.2.2.1 r).weaken (fun _ h => h) (fun _ _ _ hp _ _ => mz_Tclose hF _ hp)
end MZFW
