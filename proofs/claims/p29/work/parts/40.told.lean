/-! what is told, played and passed, as functions of what is real -/
section MZTD
variable {z : Bool} {M N : mz_Mem}
theorem mz_fu_0 {z : Bool} {k : Nat} (h : mz_fu z k = true) : k ≠ 0 := by
  intro e
  subst e
  cases z <;> exact absurd h (by decide)
theorem mz_EQ.act {Y F N1 : mz_Mem} (h : mz_EQ M N) (hY : Y = mz_md z F N1) (h73 : N1 73 0 = N 73 0) : mz_EQ (mz_act M Y) N1 :=
  ⟨mz_md_ext (fun k hk => (mz_act_lo (mz_fu_lt hk) (mz_fu_0 hk)).trans ((congrFun hY k).trans (mz_md_k (mz_fu_true hk))))
    ((congrFun (mz_act_lo (a := 30) (by decide) (by decide)) 7).trans ((congrFun (congrFun hY 30) 7).trans mz_md_30))
    ((congrFun (mz_act_lo (a := 40) (by decide) (by decide)) 6).trans ((congrFun (congrFun hY 40) 6).trans mz_md_40))
    ((congrFun (mz_act_lo (a := 60) (by decide) (by decide)) 0).trans ((congrFun (congrFun hY 60) 0).trans mz_md_60))
    ((congrFun (mz_act_lo (a := 73) (by decide) (by decide)) 0).trans ((congrFun (congrFun hY 73) 0).trans mz_md_73)),
    (congrFun (mz_act_hi (a := 121) (by decide)) 0).trans (h.2.trans h73.symm)⟩
theorem mz_sp_room (h : mz_EQ M N) (c : Int32) : (g_X9_room M c).1 = N 1 0 ∧ mz_EQ (g_X9_room M c).2 (g_X4_addRoom N c).2 := by
  have e : g_X4_addRoom M c = _ := (congrArg (fun x => g_X4_addRoom x c) h.1).trans (g_X4_addRoom_md c)
  exact ⟨congrArg Prod.fst e, h.act (congrArg Prod.snd e) rfl⟩
/-- the house with a door more, but for its ways -/
def mz_bd (N : mz_Mem) (a b w : Int32) : mz_Mem := mz_s (mz_s (mz_s N 1 (upd (N 1) 1 (N 1 1 + 1))) 5 (mz_rs 14 (N 5) (N 1 1) w)) 8 (mz_gs 64 (N 6 0) (mz_gs 64 (N 6 0) (N 8) a b (N 1 1)) b a (N 1 1))
theorem mz_bd_hw (N : mz_Mem) (a b w : Int32) : mz_hw (mz_bd N a b w) (g_X4_addDoor N a b w).2 := by
  have e : ∀ X : mz_Mem, mz_hw X (mz_fr ((g_X4_shortenWays X a b) 1 0) (g_X4_addDoor_1 N a b w) (g_X4_shortenWays X a b)) := fun X =>
    (g_X4_shortenWays_hw X a b).trans (mz_hw_frp (fun x => x) (fun i x => g_X4_addDoor_1_hw N a b w i x))
  have e2 := e (mz_s (mz_s (mz_s (mz_s N 1 (upd (N 1) 1 ((N 1 1) + 1))) 5 (mz_rs 14 (N 5) (N 1 1) w)) 8 (mz_gs 64 (N 6 0) (N 8) a b (N 1 1))) 8 (mz_gs 64 (N 6 0) (mz_gs 64 (N 6 0) (N 8) a b (N 1 1)) b a (N 1 1)))
  rw [mz_s_s] at e2
  intro k h1 h2
  exact Eq.trans (by unfold g_X4_addDoor; rw [← mz_s_s (mz_s (mz_s N 1 (upd (N 1) 1 ((N 1 1) + 1))) 5 (mz_rs 14 (N 5) (N 1 1) w)) 8 (mz_gs 64 (N 6 0) (N 8) a b (N 1 1))]; rfl) (e2 k h1 h2)
theorem g_X4_addDoor_1st (N : mz_Mem) (a b w : Int32) : (g_X4_addDoor N a b w).1 = (g_X4_addDoor N a b w).2 1 1 := rfl
theorem mz_sp_door (h : mz_EQ M N) (a b w : Int32) : (g_X9_door M a b w).1 = N 1 1 + 1 ∧ mz_EQ (g_X9_door M a b w).2 (g_X4_addDoor N a b w).2 := by
  have e : g_X4_addDoor M a b w = _ := (congrArg (fun x => g_X4_addDoor x a b w) h.1).trans (g_X4_addDoor_md a b w)
  have hw := mz_bd_hw N a b w
  refine ⟨(congrArg Prod.fst e).trans ?_, h.act (congrArg Prod.snd e) (congrFun (hw 73 (by decide) (by decide)) 0)⟩
  show (g_X4_addDoor N a b w).1 = _
  rw [g_X4_addDoor_1st, hw 1 (by decide) (by decide)]
  exact mz_upd_eq (N 1) 1 (N 1 1 + 1)
theorem mz_sp_track (h : mz_EQ M N) (a : Int32) : (g_X9_track M a).1 = N 15 0 ∧ mz_EQ (g_X9_track M a).2 (g_X1_enter (g_X7_addTrack N a).2 (N 15 0) a) := by
  have e : g_X7_addTrack M a = _ := (congrArg (fun x => g_X7_addTrack x a) h.1).trans (g_X7_addTrack_md a)
  have e1 : (g_X7_addTrack M a).1 = N 15 0 := congrArg Prod.fst e
  have h1 := h.act (congrArg Prod.snd e) rfl
  refine ⟨e1, ?_⟩
  unfold g_X9_track
  rw [e1]
  exact h1.act ((congrArg (fun x => g_X1_enter x (N 15 0) a) h1.1).trans (g_X1_enter_md (N 15 0) a)) rfl
theorem mz_sp_prop (h : mz_EQ M N) (a : Int32) : (g_X9_prop M a).1 = N 15 1 ∧ mz_EQ (g_X9_prop M a).2 (g_X5_lay (g_X7_addProp N a).2 (N 15 1) a) := by
  have e : g_X7_addProp M a = _ := (congrArg (fun x => g_X7_addProp x a) h.1).trans (g_X7_addProp_md a)
  have e1 : (g_X7_addProp M a).1 = N 15 1 := congrArg Prod.fst e
  have h1 := h.act (congrArg Prod.snd e) rfl
  refine ⟨e1, ?_⟩
  unfold g_X9_prop
  rw [e1]
  exact h1.act ((congrArg (fun x => g_X5_lay x (N 15 1) a) h1.1).trans (g_X5_lay_md (N 15 1) a)) rfl
theorem mz_sp_scene (h : mz_EQ M N) (r s d q p : Int32) : (g_X9_scene M r s d q p).1 = N 15 2 ∧ mz_EQ (g_X9_scene M r s d q p).2 (g_X7_addScene N r s d q p).2 := by
  have e : g_X7_addScene M r s d q p = _ := (congrArg (fun x => g_X7_addScene x r s d q p) h.1).trans (g_X7_addScene_md r s d q p)
  unfold g_X9_scene
  rw [ite_self]
  exact ⟨congrArg Prod.fst e, h.act (congrArg Prod.snd e) rfl⟩
theorem mz_sp_guest (h : mz_EQ M N) (r : Int32) : (g_X9_guest M r).1 = N 60 0 ∧ mz_EQ (g_X9_guest M r).2 (g_X0_enter N r).2 := by
  have e : g_X0_enter M r = _ := (congrArg (fun x => g_X0_enter x r) h.1).trans (g_X0_enter_md r)
  exact ⟨congrArg Prod.fst e, h.act (congrArg Prod.snd e) rfl⟩
theorem mz_sp_habit (h : mz_EQ M N) (g a t : Int32) : (g_X9_habit M g a t).1 = mz_rg 12 (N 64) g ∧ mz_EQ (g_X9_habit M g a t).2 (g_X0_changeHabit N g a t) := by
  have e : g_X0_changeHabit M g a t = _ := (congrArg (fun x => g_X0_changeHabit x g a t) h.1).trans (g_X0_changeHabit_md g a t)
  unfold g_X9_habit
  rw [ite_self]
  exact ⟨by rw [mz_md_r h.1 (k := 64) rfl], h.act e (congrFun (g_X0_changeHabit_hs N g a t 73 (by decide)) 0)⟩
theorem mz_sp_pass (h : mz_EQ M N) {m : Int32} (hm : 0 < mz_n m) : (g_X9_pass M m).1 = mz_sum 12 (g_X2_run N m 48) - mz_sum 12 (N 48) ∧ mz_EQ (g_X9_pass M m).2 (g_X2_run N m) := by
  have e := mz_run_md h.1 hm
  have hA := h.act e (congrFun (g_X2_run_73 N m) 0)
  unfold g_X9_pass
  exact ⟨by rw [mz_md_r hA.1 (k := 48) rfl, mz_md_r h.1 (k := 48) rfl], hA⟩
theorem mz_sp_doubles (h : mz_EQ M N) (t : Int32) : g_X9_doubles M t = g_X9_doubles N t := (congrArg (fun x => g_X9_doubles x t) h.1).trans (g_X9_doubles_md t)
theorem mz_sp_canDouble (h : mz_EQ M N) (t b : Int32) : g_X2_canDouble M t b = g_X2_canDouble N t b := (congrArg (fun x => g_X2_canDouble x t b) h.1).trans (g_X2_canDouble_md t b)
theorem mz_sp_many (h : mz_EQ M N) (w : Int32) : g_X9_many M w = g_X9_many N w := (congrArg (fun x => g_X9_many x w) h.1).trans (g_X9_many_md w)
theorem mz_sp_ofGuest (h : mz_EQ M N) (g w : Int32) : g_X9_ofGuest M g w = g_X9_ofGuest N g w := (congrArg (fun x => g_X9_ofGuest x g w) h.1).trans (g_X9_ofGuest_md g w)
theorem mz_sp_play (h : mz_EQ M N) (t b : Int32) : (g_X9_play M t b).1 = g_X7_countScenesOf N ((1 <<< (t &&& 31)) ||| (1 <<< (b &&& 31))) ∧ mz_EQ (g_X9_play M t b).2 (g_X1_startDouble N t b) := by
  have e : g_X1_startDouble M t b = _ := (congrArg (fun x => g_X1_startDouble x t b) h.1).trans (g_X1_startDouble_md t b)
  have hA := h.act e (show (g_X1_startDouble N t b) 73 0 = N 73 0 from rfl)
  refine ⟨(congrArg (fun x => g_X7_countScenesOf x ((1 <<< (t &&& 31)) ||| (1 <<< (b &&& 31)))) hA.1).trans ((g_X7_countScenesOf_md _).trans ?_), hA⟩
  rfl
theorem mz_sp_part (h : mz_EQ M N) (t : Int32) : (g_X9_part M t).1 = mz_rg 5 (N 37) t ∧ mz_EQ (g_X9_part M t).2 (g_X1_endDouble N t) := by
  have e : g_X1_endDouble M t = _ := (congrArg (fun x => g_X1_endDouble x t) h.1).trans (g_X1_endDouble_md t)
  unfold g_X9_part
  exact ⟨by rw [mz_md_r h.1 (k := 37) rfl], h.act e rfl⟩
theorem mz_sp_busy (h : mz_EQ M N) : g_X8_busyTracks M = g_X8_busyTracks N := (congrArg g_X8_busyTracks h.1).trans g_X8_busyTracks_md
end MZTD
/-! rows and grids at places in bounds -/
theorem mz_nI0 {i n : Nat} (h : i < n) (hn : n < 2 ^ 31) : ¬ nI i < 0 ∧ ¬ Int32.ofNat n ≤ nI i ∧ (nI i).toNatClampNeg = i :=
  ⟨nI_pos (by omega), nI_ge (a := i) (b := n) h hn, nI_clamp (by omega)⟩
theorem mz_rg_n {i n : Nat} {f : Nat → Int32} (h : i < n) (hn : n < 2 ^ 31) : mz_rg n f (nI i) = f i := by
  obtain ⟨a, b, c⟩ := mz_nI0 h hn
  unfold mz_rg
  rw [if_neg a, if_neg b, c]
theorem mz_rs_n {i n : Nat} {f : Nat → Int32} {v : Int32} (h : i < n) (hn : n < 2 ^ 31) : mz_rs n f (nI i) v = upd f i v := by
  obtain ⟨a, b, c⟩ := mz_nI0 h hn
  unfold mz_rs
  rw [if_neg a, if_neg b, c]
theorem mz_ra_n {i n : Nat} {f : Nat → Int32} {v : Int32} (h : i < n) (hn : n < 2 ^ 31) : mz_ra n f (nI i) v = upd f i (f i + v) := by
  obtain ⟨a, b, c⟩ := mz_nI0 h hn
  unfold mz_ra
  rw [if_neg a, if_neg b, c]
theorem mz_gg_n {i j : Nat} {f : Nat → Int32} (hi : i < 8) (hj : j < 8) : mz_gg 64 8 f (nI i) (nI j) = f (i * 8 + j) := by
  have e : nI i * 8 + nI j = nI (i * 8 + j) := by
    have : ∀ i, i < 8 → ∀ j, j < 8 → nI i * 8 + nI j = nI (i * 8 + j) := by decide
    exact this i hi j hj
  obtain ⟨a, b, -⟩ := mz_nI0 hj (by decide)
  unfold mz_gg
  rw [if_neg a, if_neg (show ¬ (8 : Int32) ≤ nI j from b), e]
  exact mz_rg_n (by omega) (by decide)
theorem mz_gs_n {i j : Nat} {f : Nat → Int32} {v : Int32} (hi : i < 8) (hj : j < 8) : mz_gs 64 8 f (nI i) (nI j) v = upd f (i * 8 + j) v := by
  have e : nI i * 8 + nI j = nI (i * 8 + j) := by
    have : ∀ i, i < 8 → ∀ j, j < 8 → nI i * 8 + nI j = nI (i * 8 + j) := by decide
    exact this i hi j hj
  obtain ⟨a, b, -⟩ := mz_nI0 hj (by decide)
  unfold mz_gs
  rw [if_neg a, if_neg (show ¬ (8 : Int32) ≤ nI j from b), e]
  exact mz_rs_n (by omega) (by decide)
