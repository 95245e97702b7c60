/-! READINGS and points of the model -/
def n_off (R D : Nat → Int64) (vol : Int64) (i : Nat) : Int64 := s_fl (vol * D i) 1000 - R (5 * i + 2)
def n_est (R V : Nat → Int64) (off : Int64) (i : Nat) : Int64 := n_mx (R (5 * i + 2) + s_fl (n_wt R V i * off) 1000)
def n_acc (R V : Nat → Int64) (off : Int64) (i : Nat) : Nat → Int64 := n_ent (r_u (r_u R (5 * i + 2) (n_est R V off i)) (5 * i + 3) (s_fl (R (5 * i + 3) * (1000 - n_wt R V i)) 1000)) 2 (nI i) (n_est R V off i - R (5 * i + 2))
def n_rd (R D V : Nat → Int64) (g : Int32) (vol : Int64) (i : Nat) : Int32 × (Nat → Int64) := if n_off R D vol i * n_off R D vol i ≤ g.toInt64 * (R (5 * i + 3) + V i) then (1, n_acc R V (n_off R D vol i) i) else (2, n_ent R 3 (nI i) (n_off R D vol i))
def n_pnt (I : Nat → Nat → Int32) (t p : Nat) (x v : Int32) : Nat → Nat → Int32 := m_ui (m_ui (m_ui I 85 (8 * t + p) x) 86 (8 * t + p) v) 84 t (nI p + 1)

set_option maxRecDepth 100000 in
theorem n_volume_y (I : Nat → Nat → Int32) (J : Nat → Nat → Int64) (n : Nat) (hn : I 77 2 = nI n) (hn4 : n ≤ 4) (t p : Nat) (htn : t < n) (hp : p ≤ 8) (hp1 : 1 ≤ p) (h84 : I 84 t = nI p) (hr : ∀ i, i < p → i_rh (n_lv I t i) 0 10000 ∧ i_rh (n_vo I t i) 0 1000000000) (hi : ∀ i, i + 1 < p → n_lv I t i < n_lv I t (i + 1)) (x : Int32) (gx : 0 ≤ x ∧ x ≤ 10000)  : m_W 107 0 (lv_args 0 [.ref 77, .int (nI t), .int x]) [] (I, J) (m_E (some (.long (s_vol (n_lv I t) (n_vo I t) p x))) (I, J)) := by
  show m_W 107 0 [(0, .ref 77), (1, .int (nI t)), (2, .int x)] [] (I, J) _
  refine c_run 2 (pc' := 2) (ls' := [(0, .ref 77), (1, .int (nI t)), (2, .int x)]) (st' := [.int (nI t), .ref 77]) (μ' := (I, J)) (Nat.le_of_ble_eq_true rfl) rfl ?_
  refine c_cv 98 [.int (nI t)] (b := 77) (r := []) (Nat.le_of_ble_eq_true rfl) rfl rfl rfl rfl rfl rfl (n_isT I J (nI t) n hn hn4) ?_
  rintro _ _ ⟨rfl, rfl⟩
  show m_W 107 5 [(0, .ref 77), (1, .int (nI t)), (2, .int x)] [.int (s01 (0 ≤ (nI t) ∧ (nI t) < nI n))] (I, J) _
  refine c_ifeq 20 (Nat.le_of_ble_eq_true rfl) rfl rfl (fun h1 => absurd h1 (s01_1.mpr (k_ixr htn (by omega)))) (fun h1 => ?_)
  refine c_run 4 (pc' := 14) (ls' := [(0, .ref 77), (1, .int (nI t)), (2, .int x)]) (st' := [.long 10000, .long 0, .long ((x : Int32).toInt64)]) (μ' := (I, J)) (Nat.le_of_ble_eq_true rfl) rfl ?_
  refine c_cs 95 [.long ((x : Int32).toInt64), .long 0, .long 10000] (r := []) (Nat.le_of_ble_eq_true rfl) rfl (Or.inl rfl) rfl rfl rfl (t_in32 I J x 0 10000) ?_
  rintro _ _ ⟨rfl, rfl⟩
  show m_W 107 17 [(0, .ref 77), (1, .int (nI t)), (2, .int x)] [.int (s01 (0 ≤ x ∧ x ≤ 10000))] (I, J) _
  refine c_ifne 24 (Nat.le_of_ble_eq_true rfl) rfl rfl (fun h2 => ?_) (fun h2 => absurd h2 (s01_1.mpr gx))
  refine c_run 3 (pc' := 29) (ls' := [(0, .ref 77), (1, .int (nI t)), (2, .int x)]) (st' := [.int (nI t), .ref 84]) (μ' := (I, J)) (Nat.le_of_ble_eq_true rfl) rfl ?_
  refine c_ial t 4 (Nat.le_of_ble_eq_true rfl) rfl rfl rfl rfl rfl (by omega) ?_
  show m_W 107 30 [(0, .ref 77), (1, .int (nI t)), (2, .int x)] [.int (I 84 t)] (I, J) _
  refine c_ifne 39 (Nat.le_of_ble_eq_true rfl) rfl rfl (fun h3 => ?_) (fun h3 => absurd h3 (by rw [h84]; exact nI_ne0 (by omega) (by omega)))
  refine c_run 3 (pc' := 42) (ls' := [(0, .ref 77), (1, .int (nI t)), (2, .int x)]) (st' := [.int x, .int (nI t), .ref 77]) (μ' := (I, J)) (Nat.le_of_ble_eq_true rfl) rfl ?_
  refine c_cv 106 [.int (nI t), .int x] (b := 77) (r := []) (Nat.le_of_ble_eq_true rfl) rfl rfl rfl rfl rfl rfl (n_volOf I J t p (by omega) hp hp1 h84 hr hi x) ?_
  rintro _ _ ⟨rfl, rfl⟩
  show m_W 107 45 [(0, .ref 77), (1, .int (nI t)), (2, .int x)] [.long (s_vol (n_lv I t) (n_vo I t) p x)] (I, J) _
  refine c_lret (Nat.le_of_ble_eq_true rfl) rfl rfl ?_
  exact ⟨rfl, rfl⟩

set_option maxRecDepth 100000 in
theorem n_volume_0 (I : Nat → Nat → Int32) (J : Nat → Nat → Int64) (n : Nat) (hn : I 77 2 = nI n) (hn4 : n ≤ 4) (t : Nat) (htn : t < n) (h84 : I 84 t = 0) (x : Int32) (gx : 0 ≤ x ∧ x ≤ 10000)  : m_W 107 0 (lv_args 0 [.ref 77, .int (nI t), .int x]) [] (I, J) (m_E (some (.long (-4))) (I, J)) := by
  show m_W 107 0 [(0, .ref 77), (1, .int (nI t)), (2, .int x)] [] (I, J) _
  refine c_run 2 (pc' := 2) (ls' := [(0, .ref 77), (1, .int (nI t)), (2, .int x)]) (st' := [.int (nI t), .ref 77]) (μ' := (I, J)) (Nat.le_of_ble_eq_true rfl) rfl ?_
  refine c_cv 98 [.int (nI t)] (b := 77) (r := []) (Nat.le_of_ble_eq_true rfl) rfl rfl rfl rfl rfl rfl (n_isT I J (nI t) n hn hn4) ?_
  rintro _ _ ⟨rfl, rfl⟩
  show m_W 107 5 [(0, .ref 77), (1, .int (nI t)), (2, .int x)] [.int (s01 (0 ≤ (nI t) ∧ (nI t) < nI n))] (I, J) _
  refine c_ifeq 20 (Nat.le_of_ble_eq_true rfl) rfl rfl (fun h1 => absurd h1 (s01_1.mpr (k_ixr htn (by omega)))) (fun h1 => ?_)
  refine c_run 4 (pc' := 14) (ls' := [(0, .ref 77), (1, .int (nI t)), (2, .int x)]) (st' := [.long 10000, .long 0, .long ((x : Int32).toInt64)]) (μ' := (I, J)) (Nat.le_of_ble_eq_true rfl) rfl ?_
  refine c_cs 95 [.long ((x : Int32).toInt64), .long 0, .long 10000] (r := []) (Nat.le_of_ble_eq_true rfl) rfl (Or.inl rfl) rfl rfl rfl (t_in32 I J x 0 10000) ?_
  rintro _ _ ⟨rfl, rfl⟩
  show m_W 107 17 [(0, .ref 77), (1, .int (nI t)), (2, .int x)] [.int (s01 (0 ≤ x ∧ x ≤ 10000))] (I, J) _
  refine c_ifne 24 (Nat.le_of_ble_eq_true rfl) rfl rfl (fun h2 => ?_) (fun h2 => absurd h2 (s01_1.mpr gx))
  refine c_run 3 (pc' := 29) (ls' := [(0, .ref 77), (1, .int (nI t)), (2, .int x)]) (st' := [.int (nI t), .ref 84]) (μ' := (I, J)) (Nat.le_of_ble_eq_true rfl) rfl ?_
  refine c_ial t 4 (Nat.le_of_ble_eq_true rfl) rfl rfl rfl rfl rfl (by omega) ?_
  show m_W 107 30 [(0, .ref 77), (1, .int (nI t)), (2, .int x)] [.int (I 84 t)] (I, J) _
  refine c_ifne 39 (Nat.le_of_ble_eq_true rfl) rfl rfl (fun h3 => absurd h84 h3) (fun h3 => ?_)
  refine c_run 2 (pc' := 45) (ls' := [(0, .ref 77), (1, .int (nI t)), (2, .int x)]) (st' := [.long (-4)]) (μ' := (I, J)) (Nat.le_of_ble_eq_true rfl) rfl ?_
  refine c_lret (Nat.le_of_ble_eq_true rfl) rfl rfl ?_
  exact ⟨rfl, rfl⟩

set_option maxRecDepth 100000 in
theorem n_volume_o (I : Nat → Nat → Int32) (J : Nat → Nat → Int64) (n : Nat) (hn : I 77 2 = nI n) (hn4 : n ≤ 4) (t x : Int32) (hh : ¬ ((0 ≤ t ∧ t < nI n) ∧ (0 ≤ x ∧ x ≤ 10000))) : m_W 107 0 (lv_args 0 [.ref 77, .int t, .int x]) [] (I, J) (m_E (some (.long (-1))) (I, J)) := by
  show m_W 107 0 [(0, .ref 77), (1, .int t), (2, .int x)] [] (I, J) _
  refine c_run 2 (pc' := 2) (ls' := [(0, .ref 77), (1, .int t), (2, .int x)]) (st' := [.int t, .ref 77]) (μ' := (I, J)) (Nat.le_of_ble_eq_true rfl) rfl ?_
  refine c_cv 98 [.int t] (b := 77) (r := []) (Nat.le_of_ble_eq_true rfl) rfl rfl rfl rfl rfl rfl (n_isT I J t n hn hn4) ?_
  rintro _ _ ⟨rfl, rfl⟩
  show m_W 107 5 [(0, .ref 77), (1, .int t), (2, .int x)] [.int (s01 (0 ≤ t ∧ t < nI n))] (I, J) _
  refine c_ifeq 20 (Nat.le_of_ble_eq_true rfl) rfl rfl (fun h1 => ?_) (fun h1 => ?_)
  · replace h1 := s01_0.mp h1
    refine c_run 1 (pc' := 23) (ls' := [(0, .ref 77), (1, .int t), (2, .int x)]) (st' := [.long (-1)]) (μ' := (I, J)) (Nat.le_of_ble_eq_true rfl) rfl ?_
    refine c_lret (Nat.le_of_ble_eq_true rfl) rfl rfl ?_
    exact ⟨rfl, rfl⟩
  · replace h1 := s01_1.mp h1
    refine c_run 4 (pc' := 14) (ls' := [(0, .ref 77), (1, .int t), (2, .int x)]) (st' := [.long 10000, .long 0, .long ((x : Int32).toInt64)]) (μ' := (I, J)) (Nat.le_of_ble_eq_true rfl) rfl ?_
    refine c_cs 95 [.long ((x : Int32).toInt64), .long 0, .long 10000] (r := []) (Nat.le_of_ble_eq_true rfl) rfl (Or.inl rfl) rfl rfl rfl (t_in32 I J x 0 10000) ?_
    rintro _ _ ⟨rfl, rfl⟩
    show m_W 107 17 [(0, .ref 77), (1, .int t), (2, .int x)] [.int (s01 (0 ≤ x ∧ x ≤ 10000))] (I, J) _
    refine c_ifne 24 (Nat.le_of_ble_eq_true rfl) rfl rfl (fun h2 => absurd (And.intro (by assumption) (s01_1.mp h2)) hh) (fun h2 => ?_)
    refine c_run 1 (pc' := 23) (ls' := [(0, .ref 77), (1, .int t), (2, .int x)]) (st' := [.long (-1)]) (μ' := (I, J)) (Nat.le_of_ble_eq_true rfl) rfl ?_
    refine c_lret (Nat.le_of_ble_eq_true rfl) rfl rfl ?_
    exact ⟨rfl, rfl⟩

set_option maxRecDepth 100000 in
theorem n_read_o (I : Nat → Nat → Int32) (J : Nat → Nat → Int64) (R G : Nat → Int64) (n : Nat) (hn : I 77 2 = nI n) (hn4 : n ≤ 4) (t x : Int32) (hh : ¬ ((0 ≤ t ∧ t < nI n) ∧ (0 ≤ x ∧ x ≤ 10000))) : m_W 133 0 (lv_args 0 [.ref 77, .int t, .int x]) [] (I, (n_J J R G)) (m_E (some (.int (-1))) (I, n_J J R G)) := by
  show m_W 133 0 [(0, .ref 77), (1, .int t), (2, .int x)] [] (I, (n_J J R G)) _
  refine c_run 2 (pc' := 2) (ls' := [(0, .ref 77), (1, .int t), (2, .int x)]) (st' := [.int t, .ref 77]) (μ' := (I, (n_J J R G))) (Nat.le_of_ble_eq_true rfl) rfl ?_
  refine c_cv 98 [.int t] (b := 77) (r := []) (Nat.le_of_ble_eq_true rfl) rfl rfl rfl rfl rfl rfl (n_isT I (n_J J R G) t n hn hn4) ?_
  rintro _ _ ⟨rfl, rfl⟩
  show m_W 133 5 [(0, .ref 77), (1, .int t), (2, .int x)] [.int (s01 (0 ≤ t ∧ t < nI n))] (I, (n_J J R G)) _
  refine c_ifeq 20 (Nat.le_of_ble_eq_true rfl) rfl rfl (fun h1 => ?_) (fun h1 => ?_)
  · replace h1 := s01_0.mp h1
    refine c_run 1 (pc' := 21) (ls' := [(0, .ref 77), (1, .int t), (2, .int x)]) (st' := [.int (-1)]) (μ' := (I, (n_J J R G))) (Nat.le_of_ble_eq_true rfl) rfl ?_
    refine c_ret (Nat.le_of_ble_eq_true rfl) rfl rfl ⟨by decide, rfl⟩ ?_
    exact ⟨rfl, rfl⟩
  · replace h1 := s01_1.mp h1
    refine c_run 4 (pc' := 14) (ls' := [(0, .ref 77), (1, .int t), (2, .int x)]) (st' := [.long 10000, .long 0, .long ((x : Int32).toInt64)]) (μ' := (I, (n_J J R G))) (Nat.le_of_ble_eq_true rfl) rfl ?_
    refine c_cs 95 [.long ((x : Int32).toInt64), .long 0, .long 10000] (r := []) (Nat.le_of_ble_eq_true rfl) rfl (Or.inl rfl) rfl rfl rfl (t_in32 I (n_J J R G) x 0 10000) ?_
    rintro _ _ ⟨rfl, rfl⟩
    show m_W 133 17 [(0, .ref 77), (1, .int t), (2, .int x)] [.int (s01 (0 ≤ x ∧ x ≤ 10000))] (I, (n_J J R G)) _
    refine c_ifne 22 (Nat.le_of_ble_eq_true rfl) rfl rfl (fun h2 => absurd (And.intro (by assumption) (s01_1.mp h2)) hh) (fun h2 => ?_)
    refine c_run 1 (pc' := 21) (ls' := [(0, .ref 77), (1, .int t), (2, .int x)]) (st' := [.int (-1)]) (μ' := (I, (n_J J R G))) (Nat.le_of_ble_eq_true rfl) rfl ?_
    refine c_ret (Nat.le_of_ble_eq_true rfl) rfl rfl ⟨by decide, rfl⟩ ?_
    exact ⟨rfl, rfl⟩

set_option maxRecDepth 100000 in
theorem n_read_0 (I : Nat → Nat → Int32) (J : Nat → Nat → Int64) (R G : Nat → Int64) (n : Nat) (hn : I 77 2 = nI n) (hn4 : n ≤ 4) (t : Nat) (htn : t < n) (h84 : I 84 t = 0) (x : Int32) (gx : 0 ≤ x ∧ x ≤ 10000)  : m_W 133 0 (lv_args 0 [.ref 77, .int (nI t), .int x]) [] (I, (n_J J R G)) (m_E (some (.int (-2))) (I, n_J J R G)) := by
  show m_W 133 0 [(0, .ref 77), (1, .int (nI t)), (2, .int x)] [] (I, (n_J J R G)) _
  refine c_run 2 (pc' := 2) (ls' := [(0, .ref 77), (1, .int (nI t)), (2, .int x)]) (st' := [.int (nI t), .ref 77]) (μ' := (I, (n_J J R G))) (Nat.le_of_ble_eq_true rfl) rfl ?_
  refine c_cv 98 [.int (nI t)] (b := 77) (r := []) (Nat.le_of_ble_eq_true rfl) rfl rfl rfl rfl rfl rfl (n_isT I (n_J J R G) (nI t) n hn hn4) ?_
  rintro _ _ ⟨rfl, rfl⟩
  show m_W 133 5 [(0, .ref 77), (1, .int (nI t)), (2, .int x)] [.int (s01 (0 ≤ (nI t) ∧ (nI t) < nI n))] (I, (n_J J R G)) _
  refine c_ifeq 20 (Nat.le_of_ble_eq_true rfl) rfl rfl (fun h1 => absurd h1 (s01_1.mpr (k_ixr htn (by omega)))) (fun h1 => ?_)
  refine c_run 4 (pc' := 14) (ls' := [(0, .ref 77), (1, .int (nI t)), (2, .int x)]) (st' := [.long 10000, .long 0, .long ((x : Int32).toInt64)]) (μ' := (I, (n_J J R G))) (Nat.le_of_ble_eq_true rfl) rfl ?_
  refine c_cs 95 [.long ((x : Int32).toInt64), .long 0, .long 10000] (r := []) (Nat.le_of_ble_eq_true rfl) rfl (Or.inl rfl) rfl rfl rfl (t_in32 I (n_J J R G) x 0 10000) ?_
  rintro _ _ ⟨rfl, rfl⟩
  show m_W 133 17 [(0, .ref 77), (1, .int (nI t)), (2, .int x)] [.int (s01 (0 ≤ x ∧ x ≤ 10000))] (I, (n_J J R G)) _
  refine c_ifne 22 (Nat.le_of_ble_eq_true rfl) rfl rfl (fun h2 => ?_) (fun h2 => absurd h2 (s01_1.mpr gx))
  refine c_run 3 (pc' := 27) (ls' := [(0, .ref 77), (1, .int (nI t)), (2, .int x)]) (st' := [.int (nI t), .ref 84]) (μ' := (I, (n_J J R G))) (Nat.le_of_ble_eq_true rfl) rfl ?_
  refine c_ial t 4 (Nat.le_of_ble_eq_true rfl) rfl rfl rfl rfl rfl (by omega) ?_
  show m_W 133 28 [(0, .ref 77), (1, .int (nI t)), (2, .int x)] [.int (I 84 t)] (I, (n_J J R G)) _
  refine c_ifne 34 (Nat.le_of_ble_eq_true rfl) rfl rfl (fun h3 => absurd h84 h3) (fun h3 => ?_)
  refine c_run 1 (pc' := 33) (ls' := [(0, .ref 77), (1, .int (nI t)), (2, .int x)]) (st' := [.int (-2)]) (μ' := (I, (n_J J R G))) (Nat.le_of_ble_eq_true rfl) rfl ?_
  refine c_ret (Nat.le_of_ble_eq_true rfl) rfl rfl ⟨by decide, rfl⟩ ?_
  exact ⟨rfl, rfl⟩

set_option maxRecDepth 100000 in
theorem n_read_3 (I : Nat → Nat → Int32) (J : Nat → Nat → Int64) (R G : Nat → Int64) (n : Nat) (hn : I 77 2 = nI n) (hn4 : n ≤ 4) (t : Nat) (htn : t < n) (h84 : ¬ I 84 t = 0) (x : Int32) (gs : ¬ n_set R (I 91 0)) (gx : 0 ≤ x ∧ x ≤ 10000)  : m_W 133 0 (lv_args 0 [.ref 77, .int (nI t), .int x]) [] (I, (n_J J R G)) (m_E (some (.int 3)) (I, n_J J R G)) := by
  show m_W 133 0 [(0, .ref 77), (1, .int (nI t)), (2, .int x)] [] (I, (n_J J R G)) _
  refine c_run 2 (pc' := 2) (ls' := [(0, .ref 77), (1, .int (nI t)), (2, .int x)]) (st' := [.int (nI t), .ref 77]) (μ' := (I, (n_J J R G))) (Nat.le_of_ble_eq_true rfl) rfl ?_
  refine c_cv 98 [.int (nI t)] (b := 77) (r := []) (Nat.le_of_ble_eq_true rfl) rfl rfl rfl rfl rfl rfl (n_isT I (n_J J R G) (nI t) n hn hn4) ?_
  rintro _ _ ⟨rfl, rfl⟩
  show m_W 133 5 [(0, .ref 77), (1, .int (nI t)), (2, .int x)] [.int (s01 (0 ≤ (nI t) ∧ (nI t) < nI n))] (I, (n_J J R G)) _
  refine c_ifeq 20 (Nat.le_of_ble_eq_true rfl) rfl rfl (fun h1 => absurd h1 (s01_1.mpr (k_ixr htn (by omega)))) (fun h1 => ?_)
  refine c_run 4 (pc' := 14) (ls' := [(0, .ref 77), (1, .int (nI t)), (2, .int x)]) (st' := [.long 10000, .long 0, .long ((x : Int32).toInt64)]) (μ' := (I, (n_J J R G))) (Nat.le_of_ble_eq_true rfl) rfl ?_
  refine c_cs 95 [.long ((x : Int32).toInt64), .long 0, .long 10000] (r := []) (Nat.le_of_ble_eq_true rfl) rfl (Or.inl rfl) rfl rfl rfl (t_in32 I (n_J J R G) x 0 10000) ?_
  rintro _ _ ⟨rfl, rfl⟩
  show m_W 133 17 [(0, .ref 77), (1, .int (nI t)), (2, .int x)] [.int (s01 (0 ≤ x ∧ x ≤ 10000))] (I, (n_J J R G)) _
  refine c_ifne 22 (Nat.le_of_ble_eq_true rfl) rfl rfl (fun h2 => ?_) (fun h2 => absurd h2 (s01_1.mpr gx))
  refine c_run 3 (pc' := 27) (ls' := [(0, .ref 77), (1, .int (nI t)), (2, .int x)]) (st' := [.int (nI t), .ref 84]) (μ' := (I, (n_J J R G))) (Nat.le_of_ble_eq_true rfl) rfl ?_
  refine c_ial t 4 (Nat.le_of_ble_eq_true rfl) rfl rfl rfl rfl rfl (by omega) ?_
  show m_W 133 28 [(0, .ref 77), (1, .int (nI t)), (2, .int x)] [.int (I 84 t)] (I, (n_J J R G)) _
  refine c_ifne 34 (Nat.le_of_ble_eq_true rfl) rfl rfl (fun h3 => ?_) (fun h3 => absurd h3 h84)
  refine c_run 1 (pc' := 35) (ls' := [(0, .ref 77), (1, .int (nI t)), (2, .int x)]) (st' := [.ref 77]) (μ' := (I, (n_J J R G))) (Nat.le_of_ble_eq_true rfl) rfl ?_
  refine c_cv 130 [] (b := 77) (r := []) (Nat.le_of_ble_eq_true rfl) rfl rfl rfl rfl rfl rfl (n_isSettled I J R G) ?_
  rintro _ _ ⟨rfl, rfl⟩
  show m_W 133 38 [(0, .ref 77), (1, .int (nI t)), (2, .int x)] [.int (s01 (n_set R (I 91 0)))] (I, (n_J J R G)) _
  refine c_ifne 43 (Nat.le_of_ble_eq_true rfl) rfl rfl (fun h4 => absurd (s01_1.mp h4) gs) (fun h4 => ?_)
  refine c_run 1 (pc' := 42) (ls' := [(0, .ref 77), (1, .int (nI t)), (2, .int x)]) (st' := [.int 3]) (μ' := (I, (n_J J R G))) (Nat.le_of_ble_eq_true rfl) rfl ?_
  refine c_ret (Nat.le_of_ble_eq_true rfl) rfl rfl ⟨by decide, rfl⟩ ?_
  exact ⟨rfl, rfl⟩

set_option maxRecDepth 100000 in
theorem n_read_y (I : Nat → Nat → Int32) (J : Nat → Nat → Int64) (R G : Nat → Int64) (n : Nat) (hn : I 77 2 = nI n) (hn4 : n ≤ 4) (t p : Nat) (htn : t < n) (hp : p ≤ 8) (hp1 : 1 ≤ p) (h84 : I 84 t = nI p) (hr : ∀ i, i < p → i_rh (n_lv I t i) 0 10000 ∧ i_rh (n_vo I t i) 0 1000000000) (hi : ∀ i, i + 1 < p → n_lv I t i < n_lv I t (i + 1)) (x : Int32) (gs : n_set R (I 91 0)) (gx : 0 ≤ x ∧ x ≤ 10000) (hz : ¬ R (5 * t + 3) + J 82 t = 0)  : m_W 133 0 (lv_args 0 [.ref 77, .int (nI t), .int x]) [] (I, (n_J J R G)) (m_E (some (.int (n_rd R (J 80) (J 82) (I 91 1) (s_vol (n_lv I t) (n_vo I t) p x) t).1)) (I, n_J J (n_rd R (J 80) (J 82) (I 91 1) (s_vol (n_lv I t) (n_vo I t) p x) t).2 G)) := by
  show m_W 133 0 [(0, .ref 77), (1, .int (nI t)), (2, .int x)] [] (I, (n_J J R G)) _
  refine c_run 2 (pc' := 2) (ls' := [(0, .ref 77), (1, .int (nI t)), (2, .int x)]) (st' := [.int (nI t), .ref 77]) (μ' := (I, (n_J J R G))) (Nat.le_of_ble_eq_true rfl) rfl ?_
  refine c_cv 98 [.int (nI t)] (b := 77) (r := []) (Nat.le_of_ble_eq_true rfl) rfl rfl rfl rfl rfl rfl (n_isT I (n_J J R G) (nI t) n hn hn4) ?_
  rintro _ _ ⟨rfl, rfl⟩
  show m_W 133 5 [(0, .ref 77), (1, .int (nI t)), (2, .int x)] [.int (s01 (0 ≤ (nI t) ∧ (nI t) < nI n))] (I, (n_J J R G)) _
  refine c_ifeq 20 (Nat.le_of_ble_eq_true rfl) rfl rfl (fun h1 => absurd h1 (s01_1.mpr (k_ixr htn (by omega)))) (fun h1 => ?_)
  refine c_run 4 (pc' := 14) (ls' := [(0, .ref 77), (1, .int (nI t)), (2, .int x)]) (st' := [.long 10000, .long 0, .long ((x : Int32).toInt64)]) (μ' := (I, (n_J J R G))) (Nat.le_of_ble_eq_true rfl) rfl ?_
  refine c_cs 95 [.long ((x : Int32).toInt64), .long 0, .long 10000] (r := []) (Nat.le_of_ble_eq_true rfl) rfl (Or.inl rfl) rfl rfl rfl (t_in32 I (n_J J R G) x 0 10000) ?_
  rintro _ _ ⟨rfl, rfl⟩
  show m_W 133 17 [(0, .ref 77), (1, .int (nI t)), (2, .int x)] [.int (s01 (0 ≤ x ∧ x ≤ 10000))] (I, (n_J J R G)) _
  refine c_ifne 22 (Nat.le_of_ble_eq_true rfl) rfl rfl (fun h2 => ?_) (fun h2 => absurd h2 (s01_1.mpr gx))
  refine c_run 3 (pc' := 27) (ls' := [(0, .ref 77), (1, .int (nI t)), (2, .int x)]) (st' := [.int (nI t), .ref 84]) (μ' := (I, (n_J J R G))) (Nat.le_of_ble_eq_true rfl) rfl ?_
  refine c_ial t 4 (Nat.le_of_ble_eq_true rfl) rfl rfl rfl rfl rfl (by omega) ?_
  show m_W 133 28 [(0, .ref 77), (1, .int (nI t)), (2, .int x)] [.int (I 84 t)] (I, (n_J J R G)) _
  refine c_ifne 34 (Nat.le_of_ble_eq_true rfl) rfl rfl (fun h3 => ?_) (fun h3 => absurd h3 (by rw [h84]; exact nI_ne0 (by omega) (by omega)))
  refine c_run 1 (pc' := 35) (ls' := [(0, .ref 77), (1, .int (nI t)), (2, .int x)]) (st' := [.ref 77]) (μ' := (I, (n_J J R G))) (Nat.le_of_ble_eq_true rfl) rfl ?_
  refine c_cv 130 [] (b := 77) (r := []) (Nat.le_of_ble_eq_true rfl) rfl rfl rfl rfl rfl rfl (n_isSettled I J R G) ?_
  rintro _ _ ⟨rfl, rfl⟩
  show m_W 133 38 [(0, .ref 77), (1, .int (nI t)), (2, .int x)] [.int (s01 (n_set R (I 91 0)))] (I, (n_J J R G)) _
  refine c_ifne 43 (Nat.le_of_ble_eq_true rfl) rfl rfl (fun h4 => ?_) (fun h4 => absurd h4 (s01_1.mpr gs))
  refine c_run 3 (pc' := 46) (ls' := [(0, .ref 77), (1, .int (nI t)), (2, .int x)]) (st' := [.int x, .int (nI t), .ref 77]) (μ' := (I, (n_J J R G))) (Nat.le_of_ble_eq_true rfl) rfl ?_
  refine c_cv 106 [.int (nI t), .int x] (b := 77) (r := []) (Nat.le_of_ble_eq_true rfl) rfl rfl rfl rfl rfl rfl (n_volOf I (n_J J R G) t p (by omega) hp hp1 h84 hr hi x) ?_
  rintro _ _ ⟨rfl, rfl⟩
  show m_W 133 49 [(0, .ref 77), (1, .int (nI t)), (2, .int x)] [.long (s_vol (n_lv I t) (n_vo I t) p x)] (I, (n_J J R G)) _
  refine c_run 3 (pc' := 54) (ls' := [(0, .ref 77), (1, .int (nI t)), (2, .int x)]) (st' := [.int (nI t), .ref 80, .long (s_vol (n_lv I t) (n_vo I t) p x)]) (μ' := (I, (n_J J R G))) (Nat.le_of_ble_eq_true rfl) rfl ?_
  refine c_lal t 4 (Nat.le_of_ble_eq_true rfl) rfl rfl rfl rfl rfl (by omega) ?_
  show m_W 133 55 [(0, .ref 77), (1, .int (nI t)), (2, .int x)] [.long (J 80 t), .long (s_vol (n_lv I t) (n_vo I t) p x)] (I, (n_J J R G)) _
  refine c_run 2 (pc' := 59) (ls' := [(0, .ref 77), (1, .int (nI t)), (2, .int x)]) (st' := [.long 1000, .long ((s_vol (n_lv I t) (n_vo I t) p x) * (J 80 t))]) (μ' := (I, (n_J J R G))) (Nat.le_of_ble_eq_true rfl) rfl ?_
  refine c_cs 96 [.long ((s_vol (n_lv I t) (n_vo I t) p x) * (J 80 t)), .long 1000] (r := []) (Nat.le_of_ble_eq_true rfl) rfl (Or.inl rfl) rfl rfl rfl (t_floor I (n_J J R G) ((s_vol (n_lv I t) (n_vo I t) p x) * (J 80 t)) (1000 : Int64) (by decide)) ?_
  rintro _ _ ⟨rfl, rfl⟩
  show m_W 133 62 [(0, .ref 77), (1, .int (nI t)), (2, .int x)] [.long (s_fl ((s_vol (n_lv I t) (n_vo I t) p x) * (J 80 t)) (1000 : Int64))] (I, (n_J J R G)) _
  refine c_run 3 (pc' := 65) (ls' := [(0, .ref 77), (1, .int (nI t)), (2, .int x)]) (st' := [.int 2, .int (nI t), .ref 77, .long (s_fl ((s_vol (n_lv I t) (n_vo I t) p x) * (J 80 t)) (1000 : Int64))]) (μ' := (I, (n_J J R G))) (Nat.le_of_ble_eq_true rfl) rfl ?_
  refine c_cv 101 [.int (nI t), .int 2] (b := 77) (r := [.long (s_fl ((s_vol (n_lv I t) (n_vo I t) p x) * (J 80 t)) (1000 : Int64))]) (Nat.le_of_ble_eq_true rfl) rfl rfl rfl rfl rfl rfl (n_of I (n_J J R G) t 2 (by omega)) ?_
  rintro _ _ ⟨rfl, rfl⟩
  show m_W 133 68 [(0, .ref 77), (1, .int (nI t)), (2, .int x)] [.long (R (5 * t + 2)), .long (s_fl ((s_vol (n_lv I t) (n_vo I t) p x) * (J 80 t)) (1000 : Int64))] (I, (n_J J R G)) _
  refine c_run 8 (pc' := 78) (ls' := [(3, .long ((s_fl ((s_vol (n_lv I t) (n_vo I t) p x) * (J 80 t)) (1000 : Int64)) - (R (5 * t + 2)))), (0, .ref 77), (1, .int (nI t)), (2, .int x)]) (st' := [.int 1, .ref 91, .long (((s_fl ((s_vol (n_lv I t) (n_vo I t) p x) * (J 80 t)) (1000 : Int64)) - (R (5 * t + 2))) * ((s_fl ((s_vol (n_lv I t) (n_vo I t) p x) * (J 80 t)) (1000 : Int64)) - (R (5 * t + 2))))]) (μ' := (I, (n_J J R G))) (Nat.le_of_ble_eq_true rfl) rfl ?_
  refine c_ial 1 3 (Nat.le_of_ble_eq_true rfl) rfl rfl rfl rfl rfl (by decide) ?_
  show m_W 133 79 [(3, .long ((s_fl ((s_vol (n_lv I t) (n_vo I t) p x) * (J 80 t)) (1000 : Int64)) - (R (5 * t + 2)))), (0, .ref 77), (1, .int (nI t)), (2, .int x)] [.int (I 91 1), .long (((s_fl ((s_vol (n_lv I t) (n_vo I t) p x) * (J 80 t)) (1000 : Int64)) - (R (5 * t + 2))) * ((s_fl ((s_vol (n_lv I t) (n_vo I t) p x) * (J 80 t)) (1000 : Int64)) - (R (5 * t + 2))))] (I, (n_J J R G)) _
  refine c_run 4 (pc' := 83) (ls' := [(3, .long ((s_fl ((s_vol (n_lv I t) (n_vo I t) p x) * (J 80 t)) (1000 : Int64)) - (R (5 * t + 2)))), (0, .ref 77), (1, .int (nI t)), (2, .int x)]) (st' := [.int 3, .int (nI t), .ref 77, .long (((I 91 1) : Int32).toInt64), .long (((s_fl ((s_vol (n_lv I t) (n_vo I t) p x) * (J 80 t)) (1000 : Int64)) - (R (5 * t + 2))) * ((s_fl ((s_vol (n_lv I t) (n_vo I t) p x) * (J 80 t)) (1000 : Int64)) - (R (5 * t + 2))))]) (μ' := (I, (n_J J R G))) (Nat.le_of_ble_eq_true rfl) rfl ?_
  refine c_cv 101 [.int (nI t), .int 3] (b := 77) (r := [.long (((I 91 1) : Int32).toInt64), .long (((s_fl ((s_vol (n_lv I t) (n_vo I t) p x) * (J 80 t)) (1000 : Int64)) - (R (5 * t + 2))) * ((s_fl ((s_vol (n_lv I t) (n_vo I t) p x) * (J 80 t)) (1000 : Int64)) - (R (5 * t + 2))))]) (Nat.le_of_ble_eq_true rfl) rfl rfl rfl rfl rfl rfl (n_of I (n_J J R G) t 3 (by omega)) ?_
  rintro _ _ ⟨rfl, rfl⟩
  show m_W 133 86 [(3, .long ((s_fl ((s_vol (n_lv I t) (n_vo I t) p x) * (J 80 t)) (1000 : Int64)) - (R (5 * t + 2)))), (0, .ref 77), (1, .int (nI t)), (2, .int x)] [.long (R (5 * t + 3)), .long (((I 91 1) : Int32).toInt64), .long (((s_fl ((s_vol (n_lv I t) (n_vo I t) p x) * (J 80 t)) (1000 : Int64)) - (R (5 * t + 2))) * ((s_fl ((s_vol (n_lv I t) (n_vo I t) p x) * (J 80 t)) (1000 : Int64)) - (R (5 * t + 2))))] (I, (n_J J R G)) _
  refine c_run 3 (pc' := 91) (ls' := [(3, .long ((s_fl ((s_vol (n_lv I t) (n_vo I t) p x) * (J 80 t)) (1000 : Int64)) - (R (5 * t + 2)))), (0, .ref 77), (1, .int (nI t)), (2, .int x)]) (st' := [.int (nI t), .ref 82, .long (R (5 * t + 3)), .long (((I 91 1) : Int32).toInt64), .long (((s_fl ((s_vol (n_lv I t) (n_vo I t) p x) * (J 80 t)) (1000 : Int64)) - (R (5 * t + 2))) * ((s_fl ((s_vol (n_lv I t) (n_vo I t) p x) * (J 80 t)) (1000 : Int64)) - (R (5 * t + 2))))]) (μ' := (I, (n_J J R G))) (Nat.le_of_ble_eq_true rfl) rfl ?_
  refine c_lal t 4 (Nat.le_of_ble_eq_true rfl) rfl rfl rfl rfl rfl (by omega) ?_
  show m_W 133 92 [(3, .long ((s_fl ((s_vol (n_lv I t) (n_vo I t) p x) * (J 80 t)) (1000 : Int64)) - (R (5 * t + 2)))), (0, .ref 77), (1, .int (nI t)), (2, .int x)] [.long (J 82 t), .long (R (5 * t + 3)), .long (((I 91 1) : Int32).toInt64), .long (((s_fl ((s_vol (n_lv I t) (n_vo I t) p x) * (J 80 t)) (1000 : Int64)) - (R (5 * t + 2))) * ((s_fl ((s_vol (n_lv I t) (n_vo I t) p x) * (J 80 t)) (1000 : Int64)) - (R (5 * t + 2))))] (I, (n_J J R G)) _
  refine c_run 3 (pc' := 95) (ls' := [(3, .long ((s_fl ((s_vol (n_lv I t) (n_vo I t) p x) * (J 80 t)) (1000 : Int64)) - (R (5 * t + 2)))), (0, .ref 77), (1, .int (nI t)), (2, .int x)]) (st' := [.int (lg_cmp (((s_fl ((s_vol (n_lv I t) (n_vo I t) p x) * (J 80 t)) (1000 : Int64)) - (R (5 * t + 2))) * ((s_fl ((s_vol (n_lv I t) (n_vo I t) p x) * (J 80 t)) (1000 : Int64)) - (R (5 * t + 2)))) ((((I 91 1) : Int32).toInt64) * ((R (5 * t + 3)) + (J 82 t))))]) (μ' := (I, (n_J J R G))) (Nat.le_of_ble_eq_true rfl) rfl ?_
  refine c_ifle 107 (Nat.le_of_ble_eq_true rfl) rfl rfl (fun h5 => ?_) (fun h5 => ?_)
  · replace h5 := lc_le.mp h5
    refine c_run 2 (pc' := 109) (ls' := [(3, .long ((s_fl ((s_vol (n_lv I t) (n_vo I t) p x) * (J 80 t)) (1000 : Int64)) - (R (5 * t + 2)))), (0, .ref 77), (1, .int (nI t)), (2, .int x)]) (st' := [.int (nI t), .ref 77]) (μ' := (I, (n_J J R G))) (Nat.le_of_ble_eq_true rfl) rfl ?_
    refine c_cv 132 [.int (nI t)] (b := 77) (r := []) (Nat.le_of_ble_eq_true rfl) rfl rfl rfl rfl rfl rfl (n_weightOf I J R G t (by omega) hz) ?_
    rintro _ _ ⟨rfl, rfl⟩
    show m_W 133 112 [(3, .long ((s_fl ((s_vol (n_lv I t) (n_vo I t) p x) * (J 80 t)) (1000 : Int64)) - (R (5 * t + 2)))), (0, .ref 77), (1, .int (nI t)), (2, .int x)] [.long (n_wt R (J 82) t)] (I, (n_J J R G)) _
    refine c_run 4 (pc' := 117) (ls' := [(5, .long (n_wt R (J 82) t)), (3, .long ((s_fl ((s_vol (n_lv I t) (n_vo I t) p x) * (J 80 t)) (1000 : Int64)) - (R (5 * t + 2)))), (0, .ref 77), (1, .int (nI t)), (2, .int x)]) (st' := [.int 2, .int (nI t), .ref 77]) (μ' := (I, (n_J J R G))) (Nat.le_of_ble_eq_true rfl) rfl ?_
    refine c_cv 101 [.int (nI t), .int 2] (b := 77) (r := []) (Nat.le_of_ble_eq_true rfl) rfl rfl rfl rfl rfl rfl (n_of I (n_J J R G) t 2 (by omega)) ?_
    rintro _ _ ⟨rfl, rfl⟩
    show m_W 133 120 [(5, .long (n_wt R (J 82) t)), (3, .long ((s_fl ((s_vol (n_lv I t) (n_vo I t) p x) * (J 80 t)) (1000 : Int64)) - (R (5 * t + 2)))), (0, .ref 77), (1, .int (nI t)), (2, .int x)] [.long (R (5 * t + 2))] (I, (n_J J R G)) _
    refine c_run 6 (pc' := 131) (ls' := [(7, .long (R (5 * t + 2))), (5, .long (n_wt R (J 82) t)), (3, .long ((s_fl ((s_vol (n_lv I t) (n_vo I t) p x) * (J 80 t)) (1000 : Int64)) - (R (5 * t + 2)))), (0, .ref 77), (1, .int (nI t)), (2, .int x)]) (st' := [.long 1000, .long ((n_wt R (J 82) t) * ((s_fl ((s_vol (n_lv I t) (n_vo I t) p x) * (J 80 t)) (1000 : Int64)) - (R (5 * t + 2)))), .long (R (5 * t + 2))]) (μ' := (I, (n_J J R G))) (Nat.le_of_ble_eq_true rfl) rfl ?_
    refine c_cs 96 [.long ((n_wt R (J 82) t) * ((s_fl ((s_vol (n_lv I t) (n_vo I t) p x) * (J 80 t)) (1000 : Int64)) - (R (5 * t + 2)))), .long 1000] (r := [.long (R (5 * t + 2))]) (Nat.le_of_ble_eq_true rfl) rfl (Or.inl rfl) rfl rfl rfl (t_floor I (n_J J R G) ((n_wt R (J 82) t) * ((s_fl ((s_vol (n_lv I t) (n_vo I t) p x) * (J 80 t)) (1000 : Int64)) - (R (5 * t + 2)))) (1000 : Int64) (by decide)) ?_
    rintro _ _ ⟨rfl, rfl⟩
    show m_W 133 134 [(7, .long (R (5 * t + 2))), (5, .long (n_wt R (J 82) t)), (3, .long ((s_fl ((s_vol (n_lv I t) (n_vo I t) p x) * (J 80 t)) (1000 : Int64)) - (R (5 * t + 2)))), (0, .ref 77), (1, .int (nI t)), (2, .int x)] [.long (s_fl ((n_wt R (J 82) t) * ((s_fl ((s_vol (n_lv I t) (n_vo I t) p x) * (J 80 t)) (1000 : Int64)) - (R (5 * t + 2)))) (1000 : Int64)), .long (R (5 * t + 2))] (I, (n_J J R G)) _
    refine c_run 12 (pc' := 150) (ls' := [(9, .long ((R (5 * t + 2)) + (s_fl ((n_wt R (J 82) t) * ((s_fl ((s_vol (n_lv I t) (n_vo I t) p x) * (J 80 t)) (1000 : Int64)) - (R (5 * t + 2)))) (1000 : Int64)))), (7, .long (R (5 * t + 2))), (5, .long (n_wt R (J 82) t)), (3, .long ((s_fl ((s_vol (n_lv I t) (n_vo I t) p x) * (J 80 t)) (1000 : Int64)) - (R (5 * t + 2)))), (0, .ref 77), (1, .int (nI t)), (2, .int x)]) (st' := [.int (lg_cmp ((R (5 * t + 2)) + (s_fl ((n_wt R (J 82) t) * ((s_fl ((s_vol (n_lv I t) (n_vo I t) p x) * (J 80 t)) (1000 : Int64)) - (R (5 * t + 2)))) (1000 : Int64))) 0), .int (((5 : Int32) * (nI t)) + (2 : Int32)), .ref 78]) (μ' := (I, (n_J J R G))) (Nat.le_of_ble_eq_true rfl) rfl ?_
    refine c_ifge 157 (Nat.le_of_ble_eq_true rfl) rfl rfl (fun h6 => ?_) (fun h6 => ?_)
    · replace h6 := lc_ge.mp h6
      refine c_run 1 (pc' := 159) (ls' := [(9, .long ((R (5 * t + 2)) + (s_fl ((n_wt R (J 82) t) * ((s_fl ((s_vol (n_lv I t) (n_vo I t) p x) * (J 80 t)) (1000 : Int64)) - (R (5 * t + 2)))) (1000 : Int64)))), (7, .long (R (5 * t + 2))), (5, .long (n_wt R (J 82) t)), (3, .long ((s_fl ((s_vol (n_lv I t) (n_vo I t) p x) * (J 80 t)) (1000 : Int64)) - (R (5 * t + 2)))), (0, .ref 77), (1, .int (nI t)), (2, .int x)]) (st' := [.long ((R (5 * t + 2)) + (s_fl ((n_wt R (J 82) t) * ((s_fl ((s_vol (n_lv I t) (n_vo I t) p x) * (J 80 t)) (1000 : Int64)) - (R (5 * t + 2)))) (1000 : Int64))), .int (((5 : Int32) * (nI t)) + (2 : Int32)), .ref 78]) (μ' := (I, (n_J J R G))) (Nat.le_of_ble_eq_true rfl) rfl ?_
      refine c_las (5 * t + 2) 140 (Nat.le_of_ble_eq_true rfl) rfl rfl rfl rfl (n_5w t 2) (by omega) ?_
      show m_W 133 160 [(9, .long ((R (5 * t + 2)) + (s_fl ((n_wt R (J 82) t) * ((s_fl ((s_vol (n_lv I t) (n_vo I t) p x) * (J 80 t)) (1000 : Int64)) - (R (5 * t + 2)))) (1000 : Int64)))), (7, .long (R (5 * t + 2))), (5, .long (n_wt R (J 82) t)), (3, .long ((s_fl ((s_vol (n_lv I t) (n_vo I t) p x) * (J 80 t)) (1000 : Int64)) - (R (5 * t + 2)))), (0, .ref 77), (1, .int (nI t)), (2, .int x)] [] (I, m_uj (n_J J R G) 78 (5 * t + 2) ((R (5 * t + 2)) + (s_fl ((n_wt R (J 82) t) * ((s_fl ((s_vol (n_lv I t) (n_vo I t) p x) * (J 80 t)) (1000 : Int64)) - (R (5 * t + 2)))) (1000 : Int64)))) _
      rw [n_JR]
      show m_W 133 160 [(9, .long ((R (5 * t + 2)) + (s_fl ((n_wt R (J 82) t) * ((s_fl ((s_vol (n_lv I t) (n_vo I t) p x) * (J 80 t)) (1000 : Int64)) - (R (5 * t + 2)))) (1000 : Int64)))), (7, .long (R (5 * t + 2))), (5, .long (n_wt R (J 82) t)), (3, .long ((s_fl ((s_vol (n_lv I t) (n_vo I t) p x) * (J 80 t)) (1000 : Int64)) - (R (5 * t + 2)))), (0, .ref 77), (1, .int (nI t)), (2, .int x)] [] (I, (n_J J (r_u R (5 * t + 2) ((R (5 * t + 2)) + (s_fl ((n_wt R (J 82) t) * ((s_fl ((s_vol (n_lv I t) (n_vo I t) p x) * (J 80 t)) (1000 : Int64)) - (R (5 * t + 2)))) (1000 : Int64)))) G)) _
      refine c_run 10 (pc' := 172) (ls' := [(9, .long ((R (5 * t + 2)) + (s_fl ((n_wt R (J 82) t) * ((s_fl ((s_vol (n_lv I t) (n_vo I t) p x) * (J 80 t)) (1000 : Int64)) - (R (5 * t + 2)))) (1000 : Int64)))), (7, .long (R (5 * t + 2))), (5, .long (n_wt R (J 82) t)), (3, .long ((s_fl ((s_vol (n_lv I t) (n_vo I t) p x) * (J 80 t)) (1000 : Int64)) - (R (5 * t + 2)))), (0, .ref 77), (1, .int (nI t)), (2, .int x)]) (st' := [.int 3, .int (nI t), .ref 77, .int (((5 : Int32) * (nI t)) + (3 : Int32)), .ref 78]) (μ' := (I, (n_J J (r_u R (5 * t + 2) ((R (5 * t + 2)) + (s_fl ((n_wt R (J 82) t) * ((s_fl ((s_vol (n_lv I t) (n_vo I t) p x) * (J 80 t)) (1000 : Int64)) - (R (5 * t + 2)))) (1000 : Int64)))) G))) (Nat.le_of_ble_eq_true rfl) rfl ?_
      refine c_cv 101 [.int (nI t), .int 3] (b := 77) (r := [.int (((5 : Int32) * (nI t)) + (3 : Int32)), .ref 78]) (Nat.le_of_ble_eq_true rfl) rfl rfl rfl rfl rfl rfl (n_of I (n_J J (r_u R (5 * t + 2) ((R (5 * t + 2)) + (s_fl ((n_wt R (J 82) t) * ((s_fl ((s_vol (n_lv I t) (n_vo I t) p x) * (J 80 t)) (1000 : Int64)) - (R (5 * t + 2)))) (1000 : Int64)))) G) t 3 (by omega)) ?_
      rintro _ _ ⟨rfl, rfl⟩
      rw [show (n_J J (r_u R (5 * t + 2) ((R (5 * t + 2)) + (s_fl ((n_wt R (J 82) t) * ((s_fl ((s_vol (n_lv I t) (n_vo I t) p x) * (J 80 t)) (1000 : Int64)) - (R (5 * t + 2)))) (1000 : Int64)))) G) 78 (5 * t + 3) = (R (5 * t + 3)) from show (r_u R (5 * t + 2) ((R (5 * t + 2)) + (s_fl ((n_wt R (J 82) t) * ((s_fl ((s_vol (n_lv I t) (n_vo I t) p x) * (J 80 t)) (1000 : Int64)) - (R (5 * t + 2)))) (1000 : Int64)))) (5 * t + 3) = (R (5 * t + 3)) from by rw [r_un (by omega)]]
      show m_W 133 175 [(9, .long ((R (5 * t + 2)) + (s_fl ((n_wt R (J 82) t) * ((s_fl ((s_vol (n_lv I t) (n_vo I t) p x) * (J 80 t)) (1000 : Int64)) - (R (5 * t + 2)))) (1000 : Int64)))), (7, .long (R (5 * t + 2))), (5, .long (n_wt R (J 82) t)), (3, .long ((s_fl ((s_vol (n_lv I t) (n_vo I t) p x) * (J 80 t)) (1000 : Int64)) - (R (5 * t + 2)))), (0, .ref 77), (1, .int (nI t)), (2, .int x)] [.long (R (5 * t + 3)), .int (((5 : Int32) * (nI t)) + (3 : Int32)), .ref 78] (I, (n_J J (r_u R (5 * t + 2) ((R (5 * t + 2)) + (s_fl ((n_wt R (J 82) t) * ((s_fl ((s_vol (n_lv I t) (n_vo I t) p x) * (J 80 t)) (1000 : Int64)) - (R (5 * t + 2)))) (1000 : Int64)))) G)) _
      refine c_run 5 (pc' := 185) (ls' := [(9, .long ((R (5 * t + 2)) + (s_fl ((n_wt R (J 82) t) * ((s_fl ((s_vol (n_lv I t) (n_vo I t) p x) * (J 80 t)) (1000 : Int64)) - (R (5 * t + 2)))) (1000 : Int64)))), (7, .long (R (5 * t + 2))), (5, .long (n_wt R (J 82) t)), (3, .long ((s_fl ((s_vol (n_lv I t) (n_vo I t) p x) * (J 80 t)) (1000 : Int64)) - (R (5 * t + 2)))), (0, .ref 77), (1, .int (nI t)), (2, .int x)]) (st' := [.long 1000, .long ((R (5 * t + 3)) * ((1000 : Int64) - (n_wt R (J 82) t))), .int (((5 : Int32) * (nI t)) + (3 : Int32)), .ref 78]) (μ' := (I, (n_J J (r_u R (5 * t + 2) ((R (5 * t + 2)) + (s_fl ((n_wt R (J 82) t) * ((s_fl ((s_vol (n_lv I t) (n_vo I t) p x) * (J 80 t)) (1000 : Int64)) - (R (5 * t + 2)))) (1000 : Int64)))) G))) (Nat.le_of_ble_eq_true rfl) rfl ?_
      refine c_cs 96 [.long ((R (5 * t + 3)) * ((1000 : Int64) - (n_wt R (J 82) t))), .long 1000] (r := [.int (((5 : Int32) * (nI t)) + (3 : Int32)), .ref 78]) (Nat.le_of_ble_eq_true rfl) rfl (Or.inl rfl) rfl rfl rfl (t_floor I (n_J J (r_u R (5 * t + 2) ((R (5 * t + 2)) + (s_fl ((n_wt R (J 82) t) * ((s_fl ((s_vol (n_lv I t) (n_vo I t) p x) * (J 80 t)) (1000 : Int64)) - (R (5 * t + 2)))) (1000 : Int64)))) G) ((R (5 * t + 3)) * ((1000 : Int64) - (n_wt R (J 82) t))) (1000 : Int64) (by decide)) ?_
      rintro _ _ ⟨rfl, rfl⟩
      show m_W 133 188 [(9, .long ((R (5 * t + 2)) + (s_fl ((n_wt R (J 82) t) * ((s_fl ((s_vol (n_lv I t) (n_vo I t) p x) * (J 80 t)) (1000 : Int64)) - (R (5 * t + 2)))) (1000 : Int64)))), (7, .long (R (5 * t + 2))), (5, .long (n_wt R (J 82) t)), (3, .long ((s_fl ((s_vol (n_lv I t) (n_vo I t) p x) * (J 80 t)) (1000 : Int64)) - (R (5 * t + 2)))), (0, .ref 77), (1, .int (nI t)), (2, .int x)] [.long (s_fl ((R (5 * t + 3)) * ((1000 : Int64) - (n_wt R (J 82) t))) (1000 : Int64)), .int (((5 : Int32) * (nI t)) + (3 : Int32)), .ref 78] (I, (n_J J (r_u R (5 * t + 2) ((R (5 * t + 2)) + (s_fl ((n_wt R (J 82) t) * ((s_fl ((s_vol (n_lv I t) (n_vo I t) p x) * (J 80 t)) (1000 : Int64)) - (R (5 * t + 2)))) (1000 : Int64)))) G)) _
      refine c_las (5 * t + 3) 140 (Nat.le_of_ble_eq_true rfl) rfl rfl rfl rfl (n_5w t 3) (by omega) ?_
      show m_W 133 189 [(9, .long ((R (5 * t + 2)) + (s_fl ((n_wt R (J 82) t) * ((s_fl ((s_vol (n_lv I t) (n_vo I t) p x) * (J 80 t)) (1000 : Int64)) - (R (5 * t + 2)))) (1000 : Int64)))), (7, .long (R (5 * t + 2))), (5, .long (n_wt R (J 82) t)), (3, .long ((s_fl ((s_vol (n_lv I t) (n_vo I t) p x) * (J 80 t)) (1000 : Int64)) - (R (5 * t + 2)))), (0, .ref 77), (1, .int (nI t)), (2, .int x)] [] (I, m_uj (n_J J (r_u R (5 * t + 2) ((R (5 * t + 2)) + (s_fl ((n_wt R (J 82) t) * ((s_fl ((s_vol (n_lv I t) (n_vo I t) p x) * (J 80 t)) (1000 : Int64)) - (R (5 * t + 2)))) (1000 : Int64)))) G) 78 (5 * t + 3) (s_fl ((R (5 * t + 3)) * ((1000 : Int64) - (n_wt R (J 82) t))) (1000 : Int64))) _
      rw [n_JR]
      show m_W 133 189 [(9, .long ((R (5 * t + 2)) + (s_fl ((n_wt R (J 82) t) * ((s_fl ((s_vol (n_lv I t) (n_vo I t) p x) * (J 80 t)) (1000 : Int64)) - (R (5 * t + 2)))) (1000 : Int64)))), (7, .long (R (5 * t + 2))), (5, .long (n_wt R (J 82) t)), (3, .long ((s_fl ((s_vol (n_lv I t) (n_vo I t) p x) * (J 80 t)) (1000 : Int64)) - (R (5 * t + 2)))), (0, .ref 77), (1, .int (nI t)), (2, .int x)] [] (I, (n_J J (r_u (r_u R (5 * t + 2) ((R (5 * t + 2)) + (s_fl ((n_wt R (J 82) t) * ((s_fl ((s_vol (n_lv I t) (n_vo I t) p x) * (J 80 t)) (1000 : Int64)) - (R (5 * t + 2)))) (1000 : Int64)))) (5 * t + 3) (s_fl ((R (5 * t + 3)) * ((1000 : Int64) - (n_wt R (J 82) t))) (1000 : Int64))) G)) _
      refine c_run 6 (pc' := 195) (ls' := [(9, .long ((R (5 * t + 2)) + (s_fl ((n_wt R (J 82) t) * ((s_fl ((s_vol (n_lv I t) (n_vo I t) p x) * (J 80 t)) (1000 : Int64)) - (R (5 * t + 2)))) (1000 : Int64)))), (7, .long (R (5 * t + 2))), (5, .long (n_wt R (J 82) t)), (3, .long ((s_fl ((s_vol (n_lv I t) (n_vo I t) p x) * (J 80 t)) (1000 : Int64)) - (R (5 * t + 2)))), (0, .ref 77), (1, .int (nI t)), (2, .int x)]) (st' := [.int 2, .int (nI t), .ref 77, .int (nI t), .int 2, .ref 77]) (μ' := (I, (n_J J (r_u (r_u R (5 * t + 2) ((R (5 * t + 2)) + (s_fl ((n_wt R (J 82) t) * ((s_fl ((s_vol (n_lv I t) (n_vo I t) p x) * (J 80 t)) (1000 : Int64)) - (R (5 * t + 2)))) (1000 : Int64)))) (5 * t + 3) (s_fl ((R (5 * t + 3)) * ((1000 : Int64) - (n_wt R (J 82) t))) (1000 : Int64))) G))) (Nat.le_of_ble_eq_true rfl) rfl ?_
      refine c_cv 101 [.int (nI t), .int 2] (b := 77) (r := [.int (nI t), .int 2, .ref 77]) (Nat.le_of_ble_eq_true rfl) rfl rfl rfl rfl rfl rfl (n_of I (n_J J (r_u (r_u R (5 * t + 2) ((R (5 * t + 2)) + (s_fl ((n_wt R (J 82) t) * ((s_fl ((s_vol (n_lv I t) (n_vo I t) p x) * (J 80 t)) (1000 : Int64)) - (R (5 * t + 2)))) (1000 : Int64)))) (5 * t + 3) (s_fl ((R (5 * t + 3)) * ((1000 : Int64) - (n_wt R (J 82) t))) (1000 : Int64))) G) t 2 (by omega)) ?_
      rintro _ _ ⟨rfl, rfl⟩
      rw [show (n_J J (r_u (r_u R (5 * t + 2) ((R (5 * t + 2)) + (s_fl ((n_wt R (J 82) t) * ((s_fl ((s_vol (n_lv I t) (n_vo I t) p x) * (J 80 t)) (1000 : Int64)) - (R (5 * t + 2)))) (1000 : Int64)))) (5 * t + 3) (s_fl ((R (5 * t + 3)) * ((1000 : Int64) - (n_wt R (J 82) t))) (1000 : Int64))) G) 78 (5 * t + 2) = ((R (5 * t + 2)) + (s_fl ((n_wt R (J 82) t) * ((s_fl ((s_vol (n_lv I t) (n_vo I t) p x) * (J 80 t)) (1000 : Int64)) - (R (5 * t + 2)))) (1000 : Int64))) from show (r_u (r_u R (5 * t + 2) ((R (5 * t + 2)) + (s_fl ((n_wt R (J 82) t) * ((s_fl ((s_vol (n_lv I t) (n_vo I t) p x) * (J 80 t)) (1000 : Int64)) - (R (5 * t + 2)))) (1000 : Int64)))) (5 * t + 3) (s_fl ((R (5 * t + 3)) * ((1000 : Int64) - (n_wt R (J 82) t))) (1000 : Int64))) (5 * t + 2) = ((R (5 * t + 2)) + (s_fl ((n_wt R (J 82) t) * ((s_fl ((s_vol (n_lv I t) (n_vo I t) p x) * (J 80 t)) (1000 : Int64)) - (R (5 * t + 2)))) (1000 : Int64))) from by rw [r_un (by omega), r_us]]
      show m_W 133 198 [(9, .long ((R (5 * t + 2)) + (s_fl ((n_wt R (J 82) t) * ((s_fl ((s_vol (n_lv I t) (n_vo I t) p x) * (J 80 t)) (1000 : Int64)) - (R (5 * t + 2)))) (1000 : Int64)))), (7, .long (R (5 * t + 2))), (5, .long (n_wt R (J 82) t)), (3, .long ((s_fl ((s_vol (n_lv I t) (n_vo I t) p x) * (J 80 t)) (1000 : Int64)) - (R (5 * t + 2)))), (0, .ref 77), (1, .int (nI t)), (2, .int x)] [.long ((R (5 * t + 2)) + (s_fl ((n_wt R (J 82) t) * ((s_fl ((s_vol (n_lv I t) (n_vo I t) p x) * (J 80 t)) (1000 : Int64)) - (R (5 * t + 2)))) (1000 : Int64))), .int (nI t), .int 2, .ref 77] (I, (n_J J (r_u (r_u R (5 * t + 2) ((R (5 * t + 2)) + (s_fl ((n_wt R (J 82) t) * ((s_fl ((s_vol (n_lv I t) (n_vo I t) p x) * (J 80 t)) (1000 : Int64)) - (R (5 * t + 2)))) (1000 : Int64)))) (5 * t + 3) (s_fl ((R (5 * t + 3)) * ((1000 : Int64) - (n_wt R (J 82) t))) (1000 : Int64))) G)) _
      refine c_run 2 (pc' := 201) (ls' := [(9, .long ((R (5 * t + 2)) + (s_fl ((n_wt R (J 82) t) * ((s_fl ((s_vol (n_lv I t) (n_vo I t) p x) * (J 80 t)) (1000 : Int64)) - (R (5 * t + 2)))) (1000 : Int64)))), (7, .long (R (5 * t + 2))), (5, .long (n_wt R (J 82) t)), (3, .long ((s_fl ((s_vol (n_lv I t) (n_vo I t) p x) * (J 80 t)) (1000 : Int64)) - (R (5 * t + 2)))), (0, .ref 77), (1, .int (nI t)), (2, .int x)]) (st' := [.long (((R (5 * t + 2)) + (s_fl ((n_wt R (J 82) t) * ((s_fl ((s_vol (n_lv I t) (n_vo I t) p x) * (J 80 t)) (1000 : Int64)) - (R (5 * t + 2)))) (1000 : Int64))) - (R (5 * t + 2))), .int (nI t), .int 2, .ref 77]) (μ' := (I, (n_J J (r_u (r_u R (5 * t + 2) ((R (5 * t + 2)) + (s_fl ((n_wt R (J 82) t) * ((s_fl ((s_vol (n_lv I t) (n_vo I t) p x) * (J 80 t)) (1000 : Int64)) - (R (5 * t + 2)))) (1000 : Int64)))) (5 * t + 3) (s_fl ((R (5 * t + 3)) * ((1000 : Int64) - (n_wt R (J 82) t))) (1000 : Int64))) G))) (Nat.le_of_ble_eq_true rfl) rfl ?_
      refine c_cv 103 [.int 2, .int (nI t), .long (((R (5 * t + 2)) + (s_fl ((n_wt R (J 82) t) * ((s_fl ((s_vol (n_lv I t) (n_vo I t) p x) * (J 80 t)) (1000 : Int64)) - (R (5 * t + 2)))) (1000 : Int64))) - (R (5 * t + 2)))] (b := 77) (r := []) (Nat.le_of_ble_eq_true rfl) rfl rfl rfl rfl rfl rfl (n_enters I J (r_u (r_u R (5 * t + 2) ((R (5 * t + 2)) + (s_fl ((n_wt R (J 82) t) * ((s_fl ((s_vol (n_lv I t) (n_vo I t) p x) * (J 80 t)) (1000 : Int64)) - (R (5 * t + 2)))) (1000 : Int64)))) (5 * t + 3) (s_fl ((R (5 * t + 3)) * ((1000 : Int64) - (n_wt R (J 82) t))) (1000 : Int64))) G 2 (nI t) (((R (5 * t + 2)) + (s_fl ((n_wt R (J 82) t) * ((s_fl ((s_vol (n_lv I t) (n_vo I t) p x) * (J 80 t)) (1000 : Int64)) - (R (5 * t + 2)))) (1000 : Int64))) - (R (5 * t + 2)))) ?_
      rintro _ _ ⟨rfl, rfl⟩
      show m_W 133 204 [(9, .long ((R (5 * t + 2)) + (s_fl ((n_wt R (J 82) t) * ((s_fl ((s_vol (n_lv I t) (n_vo I t) p x) * (J 80 t)) (1000 : Int64)) - (R (5 * t + 2)))) (1000 : Int64)))), (7, .long (R (5 * t + 2))), (5, .long (n_wt R (J 82) t)), (3, .long ((s_fl ((s_vol (n_lv I t) (n_vo I t) p x) * (J 80 t)) (1000 : Int64)) - (R (5 * t + 2)))), (0, .ref 77), (1, .int (nI t)), (2, .int x)] [] (I, (n_J J (n_ent (r_u (r_u R (5 * t + 2) ((R (5 * t + 2)) + (s_fl ((n_wt R (J 82) t) * ((s_fl ((s_vol (n_lv I t) (n_vo I t) p x) * (J 80 t)) (1000 : Int64)) - (R (5 * t + 2)))) (1000 : Int64)))) (5 * t + 3) (s_fl ((R (5 * t + 3)) * ((1000 : Int64) - (n_wt R (J 82) t))) (1000 : Int64))) 2 (nI t) (((R (5 * t + 2)) + (s_fl ((n_wt R (J 82) t) * ((s_fl ((s_vol (n_lv I t) (n_vo I t) p x) * (J 80 t)) (1000 : Int64)) - (R (5 * t + 2)))) (1000 : Int64))) - (R (5 * t + 2)))) G)) _
      refine c_run 1 (pc' := 205) (ls' := [(9, .long ((R (5 * t + 2)) + (s_fl ((n_wt R (J 82) t) * ((s_fl ((s_vol (n_lv I t) (n_vo I t) p x) * (J 80 t)) (1000 : Int64)) - (R (5 * t + 2)))) (1000 : Int64)))), (7, .long (R (5 * t + 2))), (5, .long (n_wt R (J 82) t)), (3, .long ((s_fl ((s_vol (n_lv I t) (n_vo I t) p x) * (J 80 t)) (1000 : Int64)) - (R (5 * t + 2)))), (0, .ref 77), (1, .int (nI t)), (2, .int x)]) (st' := [.int 1]) (μ' := (I, (n_J J (n_ent (r_u (r_u R (5 * t + 2) ((R (5 * t + 2)) + (s_fl ((n_wt R (J 82) t) * ((s_fl ((s_vol (n_lv I t) (n_vo I t) p x) * (J 80 t)) (1000 : Int64)) - (R (5 * t + 2)))) (1000 : Int64)))) (5 * t + 3) (s_fl ((R (5 * t + 3)) * ((1000 : Int64) - (n_wt R (J 82) t))) (1000 : Int64))) 2 (nI t) (((R (5 * t + 2)) + (s_fl ((n_wt R (J 82) t) * ((s_fl ((s_vol (n_lv I t) (n_vo I t) p x) * (J 80 t)) (1000 : Int64)) - (R (5 * t + 2)))) (1000 : Int64))) - (R (5 * t + 2)))) G))) (Nat.le_of_ble_eq_true rfl) rfl ?_
      refine c_ret (Nat.le_of_ble_eq_true rfl) rfl rfl ⟨by decide, rfl⟩ ?_
      unfold n_rd n_acc n_est n_mx n_off
      rw [if_pos (by assumption)]
      first | rw [if_pos h6] | rw [if_neg h6] | rw [if_pos (by assumption)] | rw [if_neg (by assumption)]
      exact ⟨rfl, rfl⟩
    · replace h6 := mt lc_ge.mpr h6
      refine c_run 2 (pc' := 159) (ls' := [(9, .long ((R (5 * t + 2)) + (s_fl ((n_wt R (J 82) t) * ((s_fl ((s_vol (n_lv I t) (n_vo I t) p x) * (J 80 t)) (1000 : Int64)) - (R (5 * t + 2)))) (1000 : Int64)))), (7, .long (R (5 * t + 2))), (5, .long (n_wt R (J 82) t)), (3, .long ((s_fl ((s_vol (n_lv I t) (n_vo I t) p x) * (J 80 t)) (1000 : Int64)) - (R (5 * t + 2)))), (0, .ref 77), (1, .int (nI t)), (2, .int x)]) (st' := [.long 0, .int (((5 : Int32) * (nI t)) + (2 : Int32)), .ref 78]) (μ' := (I, (n_J J R G))) (Nat.le_of_ble_eq_true rfl) rfl ?_
      refine c_las (5 * t + 2) 140 (Nat.le_of_ble_eq_true rfl) rfl rfl rfl rfl (n_5w t 2) (by omega) ?_
      show m_W 133 160 [(9, .long ((R (5 * t + 2)) + (s_fl ((n_wt R (J 82) t) * ((s_fl ((s_vol (n_lv I t) (n_vo I t) p x) * (J 80 t)) (1000 : Int64)) - (R (5 * t + 2)))) (1000 : Int64)))), (7, .long (R (5 * t + 2))), (5, .long (n_wt R (J 82) t)), (3, .long ((s_fl ((s_vol (n_lv I t) (n_vo I t) p x) * (J 80 t)) (1000 : Int64)) - (R (5 * t + 2)))), (0, .ref 77), (1, .int (nI t)), (2, .int x)] [] (I, m_uj (n_J J R G) 78 (5 * t + 2) 0) _
      rw [n_JR]
      show m_W 133 160 [(9, .long ((R (5 * t + 2)) + (s_fl ((n_wt R (J 82) t) * ((s_fl ((s_vol (n_lv I t) (n_vo I t) p x) * (J 80 t)) (1000 : Int64)) - (R (5 * t + 2)))) (1000 : Int64)))), (7, .long (R (5 * t + 2))), (5, .long (n_wt R (J 82) t)), (3, .long ((s_fl ((s_vol (n_lv I t) (n_vo I t) p x) * (J 80 t)) (1000 : Int64)) - (R (5 * t + 2)))), (0, .ref 77), (1, .int (nI t)), (2, .int x)] [] (I, (n_J J (r_u R (5 * t + 2) 0) G)) _
      refine c_run 10 (pc' := 172) (ls' := [(9, .long ((R (5 * t + 2)) + (s_fl ((n_wt R (J 82) t) * ((s_fl ((s_vol (n_lv I t) (n_vo I t) p x) * (J 80 t)) (1000 : Int64)) - (R (5 * t + 2)))) (1000 : Int64)))), (7, .long (R (5 * t + 2))), (5, .long (n_wt R (J 82) t)), (3, .long ((s_fl ((s_vol (n_lv I t) (n_vo I t) p x) * (J 80 t)) (1000 : Int64)) - (R (5 * t + 2)))), (0, .ref 77), (1, .int (nI t)), (2, .int x)]) (st' := [.int 3, .int (nI t), .ref 77, .int (((5 : Int32) * (nI t)) + (3 : Int32)), .ref 78]) (μ' := (I, (n_J J (r_u R (5 * t + 2) 0) G))) (Nat.le_of_ble_eq_true rfl) rfl ?_
      refine c_cv 101 [.int (nI t), .int 3] (b := 77) (r := [.int (((5 : Int32) * (nI t)) + (3 : Int32)), .ref 78]) (Nat.le_of_ble_eq_true rfl) rfl rfl rfl rfl rfl rfl (n_of I (n_J J (r_u R (5 * t + 2) 0) G) t 3 (by omega)) ?_
      rintro _ _ ⟨rfl, rfl⟩
      rw [show (n_J J (r_u R (5 * t + 2) 0) G) 78 (5 * t + 3) = (R (5 * t + 3)) from show (r_u R (5 * t + 2) 0) (5 * t + 3) = (R (5 * t + 3)) from by rw [r_un (by omega)]]
      show m_W 133 175 [(9, .long ((R (5 * t + 2)) + (s_fl ((n_wt R (J 82) t) * ((s_fl ((s_vol (n_lv I t) (n_vo I t) p x) * (J 80 t)) (1000 : Int64)) - (R (5 * t + 2)))) (1000 : Int64)))), (7, .long (R (5 * t + 2))), (5, .long (n_wt R (J 82) t)), (3, .long ((s_fl ((s_vol (n_lv I t) (n_vo I t) p x) * (J 80 t)) (1000 : Int64)) - (R (5 * t + 2)))), (0, .ref 77), (1, .int (nI t)), (2, .int x)] [.long (R (5 * t + 3)), .int (((5 : Int32) * (nI t)) + (3 : Int32)), .ref 78] (I, (n_J J (r_u R (5 * t + 2) 0) G)) _
      refine c_run 5 (pc' := 185) (ls' := [(9, .long ((R (5 * t + 2)) + (s_fl ((n_wt R (J 82) t) * ((s_fl ((s_vol (n_lv I t) (n_vo I t) p x) * (J 80 t)) (1000 : Int64)) - (R (5 * t + 2)))) (1000 : Int64)))), (7, .long (R (5 * t + 2))), (5, .long (n_wt R (J 82) t)), (3, .long ((s_fl ((s_vol (n_lv I t) (n_vo I t) p x) * (J 80 t)) (1000 : Int64)) - (R (5 * t + 2)))), (0, .ref 77), (1, .int (nI t)), (2, .int x)]) (st' := [.long 1000, .long ((R (5 * t + 3)) * ((1000 : Int64) - (n_wt R (J 82) t))), .int (((5 : Int32) * (nI t)) + (3 : Int32)), .ref 78]) (μ' := (I, (n_J J (r_u R (5 * t + 2) 0) G))) (Nat.le_of_ble_eq_true rfl) rfl ?_
      refine c_cs 96 [.long ((R (5 * t + 3)) * ((1000 : Int64) - (n_wt R (J 82) t))), .long 1000] (r := [.int (((5 : Int32) * (nI t)) + (3 : Int32)), .ref 78]) (Nat.le_of_ble_eq_true rfl) rfl (Or.inl rfl) rfl rfl rfl (t_floor I (n_J J (r_u R (5 * t + 2) 0) G) ((R (5 * t + 3)) * ((1000 : Int64) - (n_wt R (J 82) t))) (1000 : Int64) (by decide)) ?_
      rintro _ _ ⟨rfl, rfl⟩
      show m_W 133 188 [(9, .long ((R (5 * t + 2)) + (s_fl ((n_wt R (J 82) t) * ((s_fl ((s_vol (n_lv I t) (n_vo I t) p x) * (J 80 t)) (1000 : Int64)) - (R (5 * t + 2)))) (1000 : Int64)))), (7, .long (R (5 * t + 2))), (5, .long (n_wt R (J 82) t)), (3, .long ((s_fl ((s_vol (n_lv I t) (n_vo I t) p x) * (J 80 t)) (1000 : Int64)) - (R (5 * t + 2)))), (0, .ref 77), (1, .int (nI t)), (2, .int x)] [.long (s_fl ((R (5 * t + 3)) * ((1000 : Int64) - (n_wt R (J 82) t))) (1000 : Int64)), .int (((5 : Int32) * (nI t)) + (3 : Int32)), .ref 78] (I, (n_J J (r_u R (5 * t + 2) 0) G)) _
      refine c_las (5 * t + 3) 140 (Nat.le_of_ble_eq_true rfl) rfl rfl rfl rfl (n_5w t 3) (by omega) ?_
      show m_W 133 189 [(9, .long ((R (5 * t + 2)) + (s_fl ((n_wt R (J 82) t) * ((s_fl ((s_vol (n_lv I t) (n_vo I t) p x) * (J 80 t)) (1000 : Int64)) - (R (5 * t + 2)))) (1000 : Int64)))), (7, .long (R (5 * t + 2))), (5, .long (n_wt R (J 82) t)), (3, .long ((s_fl ((s_vol (n_lv I t) (n_vo I t) p x) * (J 80 t)) (1000 : Int64)) - (R (5 * t + 2)))), (0, .ref 77), (1, .int (nI t)), (2, .int x)] [] (I, m_uj (n_J J (r_u R (5 * t + 2) 0) G) 78 (5 * t + 3) (s_fl ((R (5 * t + 3)) * ((1000 : Int64) - (n_wt R (J 82) t))) (1000 : Int64))) _
      rw [n_JR]
      show m_W 133 189 [(9, .long ((R (5 * t + 2)) + (s_fl ((n_wt R (J 82) t) * ((s_fl ((s_vol (n_lv I t) (n_vo I t) p x) * (J 80 t)) (1000 : Int64)) - (R (5 * t + 2)))) (1000 : Int64)))), (7, .long (R (5 * t + 2))), (5, .long (n_wt R (J 82) t)), (3, .long ((s_fl ((s_vol (n_lv I t) (n_vo I t) p x) * (J 80 t)) (1000 : Int64)) - (R (5 * t + 2)))), (0, .ref 77), (1, .int (nI t)), (2, .int x)] [] (I, (n_J J (r_u (r_u R (5 * t + 2) 0) (5 * t + 3) (s_fl ((R (5 * t + 3)) * ((1000 : Int64) - (n_wt R (J 82) t))) (1000 : Int64))) G)) _
      refine c_run 6 (pc' := 195) (ls' := [(9, .long ((R (5 * t + 2)) + (s_fl ((n_wt R (J 82) t) * ((s_fl ((s_vol (n_lv I t) (n_vo I t) p x) * (J 80 t)) (1000 : Int64)) - (R (5 * t + 2)))) (1000 : Int64)))), (7, .long (R (5 * t + 2))), (5, .long (n_wt R (J 82) t)), (3, .long ((s_fl ((s_vol (n_lv I t) (n_vo I t) p x) * (J 80 t)) (1000 : Int64)) - (R (5 * t + 2)))), (0, .ref 77), (1, .int (nI t)), (2, .int x)]) (st' := [.int 2, .int (nI t), .ref 77, .int (nI t), .int 2, .ref 77]) (μ' := (I, (n_J J (r_u (r_u R (5 * t + 2) 0) (5 * t + 3) (s_fl ((R (5 * t + 3)) * ((1000 : Int64) - (n_wt R (J 82) t))) (1000 : Int64))) G))) (Nat.le_of_ble_eq_true rfl) rfl ?_
      refine c_cv 101 [.int (nI t), .int 2] (b := 77) (r := [.int (nI t), .int 2, .ref 77]) (Nat.le_of_ble_eq_true rfl) rfl rfl rfl rfl rfl rfl (n_of I (n_J J (r_u (r_u R (5 * t + 2) 0) (5 * t + 3) (s_fl ((R (5 * t + 3)) * ((1000 : Int64) - (n_wt R (J 82) t))) (1000 : Int64))) G) t 2 (by omega)) ?_
      rintro _ _ ⟨rfl, rfl⟩
      rw [show (n_J J (r_u (r_u R (5 * t + 2) 0) (5 * t + 3) (s_fl ((R (5 * t + 3)) * ((1000 : Int64) - (n_wt R (J 82) t))) (1000 : Int64))) G) 78 (5 * t + 2) = 0 from show (r_u (r_u R (5 * t + 2) 0) (5 * t + 3) (s_fl ((R (5 * t + 3)) * ((1000 : Int64) - (n_wt R (J 82) t))) (1000 : Int64))) (5 * t + 2) = 0 from by rw [r_un (by omega), r_us]]
      show m_W 133 198 [(9, .long ((R (5 * t + 2)) + (s_fl ((n_wt R (J 82) t) * ((s_fl ((s_vol (n_lv I t) (n_vo I t) p x) * (J 80 t)) (1000 : Int64)) - (R (5 * t + 2)))) (1000 : Int64)))), (7, .long (R (5 * t + 2))), (5, .long (n_wt R (J 82) t)), (3, .long ((s_fl ((s_vol (n_lv I t) (n_vo I t) p x) * (J 80 t)) (1000 : Int64)) - (R (5 * t + 2)))), (0, .ref 77), (1, .int (nI t)), (2, .int x)] [.long 0, .int (nI t), .int 2, .ref 77] (I, (n_J J (r_u (r_u R (5 * t + 2) 0) (5 * t + 3) (s_fl ((R (5 * t + 3)) * ((1000 : Int64) - (n_wt R (J 82) t))) (1000 : Int64))) G)) _
      refine c_run 2 (pc' := 201) (ls' := [(9, .long ((R (5 * t + 2)) + (s_fl ((n_wt R (J 82) t) * ((s_fl ((s_vol (n_lv I t) (n_vo I t) p x) * (J 80 t)) (1000 : Int64)) - (R (5 * t + 2)))) (1000 : Int64)))), (7, .long (R (5 * t + 2))), (5, .long (n_wt R (J 82) t)), (3, .long ((s_fl ((s_vol (n_lv I t) (n_vo I t) p x) * (J 80 t)) (1000 : Int64)) - (R (5 * t + 2)))), (0, .ref 77), (1, .int (nI t)), (2, .int x)]) (st' := [.long ((0 : Int64) - (R (5 * t + 2))), .int (nI t), .int 2, .ref 77]) (μ' := (I, (n_J J (r_u (r_u R (5 * t + 2) 0) (5 * t + 3) (s_fl ((R (5 * t + 3)) * ((1000 : Int64) - (n_wt R (J 82) t))) (1000 : Int64))) G))) (Nat.le_of_ble_eq_true rfl) rfl ?_
      refine c_cv 103 [.int 2, .int (nI t), .long ((0 : Int64) - (R (5 * t + 2)))] (b := 77) (r := []) (Nat.le_of_ble_eq_true rfl) rfl rfl rfl rfl rfl rfl (n_enters I J (r_u (r_u R (5 * t + 2) 0) (5 * t + 3) (s_fl ((R (5 * t + 3)) * ((1000 : Int64) - (n_wt R (J 82) t))) (1000 : Int64))) G 2 (nI t) ((0 : Int64) - (R (5 * t + 2)))) ?_
      rintro _ _ ⟨rfl, rfl⟩
      show m_W 133 204 [(9, .long ((R (5 * t + 2)) + (s_fl ((n_wt R (J 82) t) * ((s_fl ((s_vol (n_lv I t) (n_vo I t) p x) * (J 80 t)) (1000 : Int64)) - (R (5 * t + 2)))) (1000 : Int64)))), (7, .long (R (5 * t + 2))), (5, .long (n_wt R (J 82) t)), (3, .long ((s_fl ((s_vol (n_lv I t) (n_vo I t) p x) * (J 80 t)) (1000 : Int64)) - (R (5 * t + 2)))), (0, .ref 77), (1, .int (nI t)), (2, .int x)] [] (I, (n_J J (n_ent (r_u (r_u R (5 * t + 2) 0) (5 * t + 3) (s_fl ((R (5 * t + 3)) * ((1000 : Int64) - (n_wt R (J 82) t))) (1000 : Int64))) 2 (nI t) ((0 : Int64) - (R (5 * t + 2)))) G)) _
      refine c_run 1 (pc' := 205) (ls' := [(9, .long ((R (5 * t + 2)) + (s_fl ((n_wt R (J 82) t) * ((s_fl ((s_vol (n_lv I t) (n_vo I t) p x) * (J 80 t)) (1000 : Int64)) - (R (5 * t + 2)))) (1000 : Int64)))), (7, .long (R (5 * t + 2))), (5, .long (n_wt R (J 82) t)), (3, .long ((s_fl ((s_vol (n_lv I t) (n_vo I t) p x) * (J 80 t)) (1000 : Int64)) - (R (5 * t + 2)))), (0, .ref 77), (1, .int (nI t)), (2, .int x)]) (st' := [.int 1]) (μ' := (I, (n_J J (n_ent (r_u (r_u R (5 * t + 2) 0) (5 * t + 3) (s_fl ((R (5 * t + 3)) * ((1000 : Int64) - (n_wt R (J 82) t))) (1000 : Int64))) 2 (nI t) ((0 : Int64) - (R (5 * t + 2)))) G))) (Nat.le_of_ble_eq_true rfl) rfl ?_
      refine c_ret (Nat.le_of_ble_eq_true rfl) rfl rfl ⟨by decide, rfl⟩ ?_
      unfold n_rd n_acc n_est n_mx n_off
      rw [if_pos (by assumption)]
      first | rw [if_pos h6] | rw [if_neg h6] | rw [if_pos (by assumption)] | rw [if_neg (by assumption)]
      exact ⟨rfl, rfl⟩
  · replace h5 := mt lc_le.mpr h5
    refine c_run 4 (pc' := 102) (ls' := [(3, .long ((s_fl ((s_vol (n_lv I t) (n_vo I t) p x) * (J 80 t)) (1000 : Int64)) - (R (5 * t + 2)))), (0, .ref 77), (1, .int (nI t)), (2, .int x)]) (st' := [.long ((s_fl ((s_vol (n_lv I t) (n_vo I t) p x) * (J 80 t)) (1000 : Int64)) - (R (5 * t + 2))), .int (nI t), .int 3, .ref 77]) (μ' := (I, (n_J J R G))) (Nat.le_of_ble_eq_true rfl) rfl ?_
    refine c_cv 103 [.int 3, .int (nI t), .long ((s_fl ((s_vol (n_lv I t) (n_vo I t) p x) * (J 80 t)) (1000 : Int64)) - (R (5 * t + 2)))] (b := 77) (r := []) (Nat.le_of_ble_eq_true rfl) rfl rfl rfl rfl rfl rfl (n_enters I J R G 3 (nI t) ((s_fl ((s_vol (n_lv I t) (n_vo I t) p x) * (J 80 t)) (1000 : Int64)) - (R (5 * t + 2)))) ?_
    rintro _ _ ⟨rfl, rfl⟩
    show m_W 133 105 [(3, .long ((s_fl ((s_vol (n_lv I t) (n_vo I t) p x) * (J 80 t)) (1000 : Int64)) - (R (5 * t + 2)))), (0, .ref 77), (1, .int (nI t)), (2, .int x)] [] (I, (n_J J (n_ent R 3 (nI t) ((s_fl ((s_vol (n_lv I t) (n_vo I t) p x) * (J 80 t)) (1000 : Int64)) - (R (5 * t + 2)))) G)) _
    refine c_run 1 (pc' := 106) (ls' := [(3, .long ((s_fl ((s_vol (n_lv I t) (n_vo I t) p x) * (J 80 t)) (1000 : Int64)) - (R (5 * t + 2)))), (0, .ref 77), (1, .int (nI t)), (2, .int x)]) (st' := [.int 2]) (μ' := (I, (n_J J (n_ent R 3 (nI t) ((s_fl ((s_vol (n_lv I t) (n_vo I t) p x) * (J 80 t)) (1000 : Int64)) - (R (5 * t + 2)))) G))) (Nat.le_of_ble_eq_true rfl) rfl ?_
    refine c_ret (Nat.le_of_ble_eq_true rfl) rfl rfl ⟨by decide, rfl⟩ ?_
    unfold n_rd n_off
    rw [if_neg (by assumption)]
    exact ⟨rfl, rfl⟩

set_option maxRecDepth 100000 in
theorem n_addP_o (I : Nat → Nat → Int32) (J : Nat → Nat → Int64) (n : Nat) (hn : I 77 2 = nI n) (hn4 : n ≤ 4) (t x v : Int32) (hh : ¬ ((0 ≤ t ∧ t < nI n) ∧ (0 ≤ x ∧ x ≤ 10000) ∧ (0 ≤ v ∧ v ≤ 1000000000))) : m_W 105 0 (lv_args 0 [.ref 77, .int t, .int x, .int v]) [] (I, J) (m_E (some (.int (-1))) (I, J)) := by
  show m_W 105 0 [(0, .ref 77), (1, .int t), (2, .int x), (3, .int v)] [] (I, J) _
  refine c_run 2 (pc' := 2) (ls' := [(0, .ref 77), (1, .int t), (2, .int x), (3, .int v)]) (st' := [.int t, .ref 77]) (μ' := (I, J)) (Nat.le_of_ble_eq_true rfl) rfl ?_
  refine c_cv 98 [.int t] (b := 77) (r := []) (Nat.le_of_ble_eq_true rfl) rfl rfl rfl rfl rfl rfl (n_isT I J t n hn hn4) ?_
  rintro _ _ ⟨rfl, rfl⟩
  show m_W 105 5 [(0, .ref 77), (1, .int t), (2, .int x), (3, .int v)] [.int (s01 (0 ≤ t ∧ t < nI n))] (I, J) _
  refine c_ifeq 32 (Nat.le_of_ble_eq_true rfl) rfl rfl (fun h1 => ?_) (fun h1 => ?_)
  · replace h1 := s01_0.mp h1
    refine c_run 1 (pc' := 33) (ls' := [(0, .ref 77), (1, .int t), (2, .int x), (3, .int v)]) (st' := [.int (-1)]) (μ' := (I, J)) (Nat.le_of_ble_eq_true rfl) rfl ?_
    refine c_ret (Nat.le_of_ble_eq_true rfl) rfl rfl ⟨by decide, rfl⟩ ?_
    exact ⟨rfl, rfl⟩
  · replace h1 := s01_1.mp h1
    refine c_run 4 (pc' := 14) (ls' := [(0, .ref 77), (1, .int t), (2, .int x), (3, .int v)]) (st' := [.long 10000, .long 0, .long ((x : Int32).toInt64)]) (μ' := (I, J)) (Nat.le_of_ble_eq_true rfl) rfl ?_
    refine c_cs 95 [.long ((x : Int32).toInt64), .long 0, .long 10000] (r := []) (Nat.le_of_ble_eq_true rfl) rfl (Or.inl rfl) rfl rfl rfl (t_in32 I J x 0 10000) ?_
    rintro _ _ ⟨rfl, rfl⟩
    show m_W 105 17 [(0, .ref 77), (1, .int t), (2, .int x), (3, .int v)] [.int (s01 (0 ≤ x ∧ x ≤ 10000))] (I, J) _
    refine c_ifeq 32 (Nat.le_of_ble_eq_true rfl) rfl rfl (fun h2 => ?_) (fun h2 => ?_)
    · replace h2 := s01_0.mp h2
      refine c_run 1 (pc' := 33) (ls' := [(0, .ref 77), (1, .int t), (2, .int x), (3, .int v)]) (st' := [.int (-1)]) (μ' := (I, J)) (Nat.le_of_ble_eq_true rfl) rfl ?_
      refine c_ret (Nat.le_of_ble_eq_true rfl) rfl rfl ⟨by decide, rfl⟩ ?_
      exact ⟨rfl, rfl⟩
    · replace h2 := s01_1.mp h2
      refine c_run 4 (pc' := 26) (ls' := [(0, .ref 77), (1, .int t), (2, .int x), (3, .int v)]) (st' := [.long 1000000000, .long 0, .long ((v : Int32).toInt64)]) (μ' := (I, J)) (Nat.le_of_ble_eq_true rfl) rfl ?_
      refine c_cs 95 [.long ((v : Int32).toInt64), .long 0, .long 1000000000] (r := []) (Nat.le_of_ble_eq_true rfl) rfl (Or.inl rfl) rfl rfl rfl (t_in32 I J v 0 1000000000) ?_
      rintro _ _ ⟨rfl, rfl⟩
      show m_W 105 29 [(0, .ref 77), (1, .int t), (2, .int x), (3, .int v)] [.int (s01 (0 ≤ v ∧ v ≤ 1000000000))] (I, J) _
      refine c_ifne 34 (Nat.le_of_ble_eq_true rfl) rfl rfl (fun h3 => absurd (And.intro (by assumption) (And.intro (by assumption) (s01_1.mp h3))) hh) (fun h3 => ?_)
      refine c_run 1 (pc' := 33) (ls' := [(0, .ref 77), (1, .int t), (2, .int x), (3, .int v)]) (st' := [.int (-1)]) (μ' := (I, J)) (Nat.le_of_ble_eq_true rfl) rfl ?_
      refine c_ret (Nat.le_of_ble_eq_true rfl) rfl rfl ⟨by decide, rfl⟩ ?_
      exact ⟨rfl, rfl⟩

def w_addP (I : Nat → Nat → Int32) (t p : Nat) (x v : Int32) : Int32 × (Nat → Nat → Int32) := if nI p ≤ 0 then (if nI p = 8 then (-3, I) else (nI p + 1, n_pnt I t p x v)) else (if x ≤ I 85 (8 * t + (p - 1)) then (-1, I) else (if I 86 (8 * t + (p - 1)) ≤ v then (if nI p = 8 then (-3, I) else (nI p + 1, n_pnt I t p x v)) else (-1, I)))
theorem n_8q {t p : Nat} {x : Int32} (hx : x = nI p) : (8 : Int32) * nI t + x - 1 + 1 = nI (8 * t + p) := by
  rw [hx, n_8t, nI_add, Int32.sub_add_cancel]
  congr 1
set_option maxRecDepth 100000 in
theorem n_addP_i (I : Nat → Nat → Int32) (J : Nat → Nat → Int64) (n : Nat) (hn : I 77 2 = nI n) (hn4 : n ≤ 4) (t p : Nat) (htn : t < n) (hp : p ≤ 8) (h84 : I 84 t = nI p) (x v : Int32) (gx : 0 ≤ x ∧ x ≤ 10000) (gv : 0 ≤ v ∧ v ≤ 1000000000)  : m_W 105 0 (lv_args 0 [.ref 77, .int (nI t), .int x, .int v]) [] (I, J) (m_E (some (.int (w_addP I t p x v).1)) ((w_addP I t p x v).2, J)) := by
  show m_W 105 0 [(0, .ref 77), (1, .int (nI t)), (2, .int x), (3, .int v)] [] (I, J) _
  refine c_run 2 (pc' := 2) (ls' := [(0, .ref 77), (1, .int (nI t)), (2, .int x), (3, .int v)]) (st' := [.int (nI t), .ref 77]) (μ' := (I, J)) (Nat.le_of_ble_eq_true rfl) rfl ?_
  refine c_cv 98 [.int (nI t)] (b := 77) (r := []) (Nat.le_of_ble_eq_true rfl) rfl rfl rfl rfl rfl rfl (n_isT I J (nI t) n hn hn4) ?_
  rintro _ _ ⟨rfl, rfl⟩
  show m_W 105 5 [(0, .ref 77), (1, .int (nI t)), (2, .int x), (3, .int v)] [.int (s01 (0 ≤ (nI t) ∧ (nI t) < nI n))] (I, J) _
  refine c_ifeq 32 (Nat.le_of_ble_eq_true rfl) rfl rfl (fun h1 => absurd h1 (s01_1.mpr (k_ixr htn (by omega)))) (fun h1 => ?_)
  refine c_run 4 (pc' := 14) (ls' := [(0, .ref 77), (1, .int (nI t)), (2, .int x), (3, .int v)]) (st' := [.long 10000, .long 0, .long ((x : Int32).toInt64)]) (μ' := (I, J)) (Nat.le_of_ble_eq_true rfl) rfl ?_
  refine c_cs 95 [.long ((x : Int32).toInt64), .long 0, .long 10000] (r := []) (Nat.le_of_ble_eq_true rfl) rfl (Or.inl rfl) rfl rfl rfl (t_in32 I J x 0 10000) ?_
  rintro _ _ ⟨rfl, rfl⟩
  show m_W 105 17 [(0, .ref 77), (1, .int (nI t)), (2, .int x), (3, .int v)] [.int (s01 (0 ≤ x ∧ x ≤ 10000))] (I, J) _
  refine c_ifeq 32 (Nat.le_of_ble_eq_true rfl) rfl rfl (fun h2 => absurd h2 (s01_1.mpr gx)) (fun h2 => ?_)
  refine c_run 4 (pc' := 26) (ls' := [(0, .ref 77), (1, .int (nI t)), (2, .int x), (3, .int v)]) (st' := [.long 1000000000, .long 0, .long ((v : Int32).toInt64)]) (μ' := (I, J)) (Nat.le_of_ble_eq_true rfl) rfl ?_
  refine c_cs 95 [.long ((v : Int32).toInt64), .long 0, .long 1000000000] (r := []) (Nat.le_of_ble_eq_true rfl) rfl (Or.inl rfl) rfl rfl rfl (t_in32 I J v 0 1000000000) ?_
  rintro _ _ ⟨rfl, rfl⟩
  show m_W 105 29 [(0, .ref 77), (1, .int (nI t)), (2, .int x), (3, .int v)] [.int (s01 (0 ≤ v ∧ v ≤ 1000000000))] (I, J) _
  refine c_ifne 34 (Nat.le_of_ble_eq_true rfl) rfl rfl (fun h3 => ?_) (fun h3 => absurd h3 (s01_1.mpr gv))
  refine c_run 3 (pc' := 39) (ls' := [(0, .ref 77), (1, .int (nI t)), (2, .int x), (3, .int v)]) (st' := [.int (nI t), .ref 84]) (μ' := (I, J)) (Nat.le_of_ble_eq_true rfl) rfl ?_
  refine c_ial t 4 (Nat.le_of_ble_eq_true rfl) rfl rfl rfl rfl rfl (by omega) ?_
  show m_W 105 40 [(0, .ref 77), (1, .int (nI t)), (2, .int x), (3, .int v)] [.int (I 84 t)] (I, J) _
  refine c_run 10 (pc' := 55) (ls' := [(5, .int ((((8 : Int32) * (nI t)) + (I 84 t)) - (1 : Int32))), (4, .int (I 84 t)), (0, .ref 77), (1, .int (nI t)), (2, .int x), (3, .int v)]) (st' := [.int (I 84 t)]) (μ' := (I, J)) (Nat.le_of_ble_eq_true rfl) rfl ?_
  refine c_ifle 82 (Nat.le_of_ble_eq_true rfl) rfl rfl (fun h4 => ?_) (fun h4 => ?_)
  · skip
    refine c_run 2 (pc' := 86) (ls' := [(5, .int ((((8 : Int32) * (nI t)) + (I 84 t)) - (1 : Int32))), (4, .int (I 84 t)), (0, .ref 77), (1, .int (nI t)), (2, .int x), (3, .int v)]) (st' := [.int 8, .int (I 84 t)]) (μ' := (I, J)) (Nat.le_of_ble_eq_true rfl) rfl ?_
    refine c_icne 92 (Nat.le_of_ble_eq_true rfl) rfl rfl (fun h5 => ?_) (fun h5 => ?_)
    · skip
      refine c_run 6 (pc' := 101) (ls' := [(5, .int ((((8 : Int32) * (nI t)) + (I 84 t)) - (1 : Int32))), (4, .int (I 84 t)), (0, .ref 77), (1, .int (nI t)), (2, .int x), (3, .int v)]) (st' := [.int x, .int (((((8 : Int32) * (nI t)) + (I 84 t)) - (1 : Int32)) + (1 : Int32)), .ref 85]) (μ' := (I, J)) (Nat.le_of_ble_eq_true rfl) rfl ?_
      refine c_ias (8 * t + p) 32 (Nat.le_of_ble_eq_true rfl) rfl rfl rfl rfl (n_8q h84) (by have : p < 8 := Nat.lt_of_le_of_ne hp (fun q => absurd (by rw [h84, q]; rfl) (show ¬ I 84 t = 8 by assumption)); omega) ?_
      show m_W 105 102 [(5, .int ((((8 : Int32) * (nI t)) + (I 84 t)) - (1 : Int32))), (4, .int (I 84 t)), (0, .ref 77), (1, .int (nI t)), (2, .int x), (3, .int v)] [] ((m_ui I 85 (8 * t + p) x), J) _
      refine c_run 6 (pc' := 111) (ls' := [(5, .int ((((8 : Int32) * (nI t)) + (I 84 t)) - (1 : Int32))), (4, .int (I 84 t)), (0, .ref 77), (1, .int (nI t)), (2, .int x), (3, .int v)]) (st' := [.int v, .int (((((8 : Int32) * (nI t)) + (I 84 t)) - (1 : Int32)) + (1 : Int32)), .ref 86]) (μ' := ((m_ui I 85 (8 * t + p) x), J)) (Nat.le_of_ble_eq_true rfl) rfl ?_
      refine c_ias (8 * t + p) 32 (Nat.le_of_ble_eq_true rfl) rfl rfl rfl rfl (n_8q h84) (by have : p < 8 := Nat.lt_of_le_of_ne hp (fun q => absurd (by rw [h84, q]; rfl) (show ¬ I 84 t = 8 by assumption)); omega) ?_
      show m_W 105 112 [(5, .int ((((8 : Int32) * (nI t)) + (I 84 t)) - (1 : Int32))), (4, .int (I 84 t)), (0, .ref 77), (1, .int (nI t)), (2, .int x), (3, .int v)] [] ((m_ui (m_ui I 85 (8 * t + p) x) 86 (8 * t + p) v), J) _
      refine c_run 4 (pc' := 118) (ls' := [(5, .int ((((8 : Int32) * (nI t)) + (I 84 t)) - (1 : Int32))), (4, .int (I 84 t)), (0, .ref 77), (1, .int (nI t)), (2, .int x), (3, .int v)]) (st' := [.int (nI t), .ref 84, .int (nI t), .ref 84]) (μ' := ((m_ui (m_ui I 85 (8 * t + p) x) 86 (8 * t + p) v), J)) (Nat.le_of_ble_eq_true rfl) rfl ?_
      refine c_ial t 4 (Nat.le_of_ble_eq_true rfl) rfl rfl rfl rfl rfl (by omega) ?_
      show m_W 105 119 [(5, .int ((((8 : Int32) * (nI t)) + (I 84 t)) - (1 : Int32))), (4, .int (I 84 t)), (0, .ref 77), (1, .int (nI t)), (2, .int x), (3, .int v)] [.int (I 84 t), .int (nI t), .ref 84] ((m_ui (m_ui I 85 (8 * t + p) x) 86 (8 * t + p) v), J) _
      refine c_run 2 (pc' := 121) (ls' := [(5, .int ((((8 : Int32) * (nI t)) + (I 84 t)) - (1 : Int32))), (4, .int (I 84 t)), (0, .ref 77), (1, .int (nI t)), (2, .int x), (3, .int v)]) (st' := [.int ((I 84 t) + (1 : Int32)), .int (nI t), .ref 84]) (μ' := ((m_ui (m_ui I 85 (8 * t + p) x) 86 (8 * t + p) v), J)) (Nat.le_of_ble_eq_true rfl) rfl ?_
      refine c_ias t 4 (Nat.le_of_ble_eq_true rfl) rfl rfl rfl rfl rfl (by omega) ?_
      show m_W 105 122 [(5, .int ((((8 : Int32) * (nI t)) + (I 84 t)) - (1 : Int32))), (4, .int (I 84 t)), (0, .ref 77), (1, .int (nI t)), (2, .int x), (3, .int v)] [] ((m_ui (m_ui (m_ui I 85 (8 * t + p) x) 86 (8 * t + p) v) 84 t ((I 84 t) + (1 : Int32))), J) _
      refine c_run 3 (pc' := 126) (ls' := [(5, .int ((((8 : Int32) * (nI t)) + (I 84 t)) - (1 : Int32))), (4, .int (I 84 t)), (0, .ref 77), (1, .int (nI t)), (2, .int x), (3, .int v)]) (st' := [.int ((I 84 t) + (1 : Int32))]) (μ' := ((m_ui (m_ui (m_ui I 85 (8 * t + p) x) 86 (8 * t + p) v) 84 t ((I 84 t) + (1 : Int32))), J)) (Nat.le_of_ble_eq_true rfl) rfl ?_
      refine c_ret (Nat.le_of_ble_eq_true rfl) rfl rfl ⟨by decide, rfl⟩ ?_
      unfold w_addP; rw [← h84]; (try unfold n_pnt); (try rw [← h84]); rw [if_pos h4, if_neg h5]
      exact ⟨rfl, rfl⟩
    · skip
      refine c_run 1 (pc' := 91) (ls' := [(5, .int ((((8 : Int32) * (nI t)) + (I 84 t)) - (1 : Int32))), (4, .int (I 84 t)), (0, .ref 77), (1, .int (nI t)), (2, .int x), (3, .int v)]) (st' := [.int (-3)]) (μ' := (I, J)) (Nat.le_of_ble_eq_true rfl) rfl ?_
      refine c_ret (Nat.le_of_ble_eq_true rfl) rfl rfl ⟨by decide, rfl⟩ ?_
      unfold w_addP; rw [← h84]; (try unfold n_pnt); (try rw [← h84]); rw [if_pos h4, if_pos h5]
      exact ⟨rfl, rfl⟩
  · skip
    refine c_run 4 (pc' := 65) (ls' := [(5, .int ((((8 : Int32) * (nI t)) + (I 84 t)) - (1 : Int32))), (4, .int (I 84 t)), (0, .ref 77), (1, .int (nI t)), (2, .int x), (3, .int v)]) (st' := [.int ((((8 : Int32) * (nI t)) + (I 84 t)) - (1 : Int32)), .ref 85, .int x]) (μ' := (I, J)) (Nat.le_of_ble_eq_true rfl) rfl ?_
    refine c_ial (8 * t + (p - 1)) 32 (Nat.le_of_ble_eq_true rfl) rfl rfl rfl rfl (n_8p h84 (k_ge1 h84 (by assumption))) (by omega) ?_
    show m_W 105 66 [(5, .int ((((8 : Int32) * (nI t)) + (I 84 t)) - (1 : Int32))), (4, .int (I 84 t)), (0, .ref 77), (1, .int (nI t)), (2, .int x), (3, .int v)] [.int (I 85 (8 * t + (p - 1))), .int x] (I, J) _
    refine c_icle 80 (Nat.le_of_ble_eq_true rfl) rfl rfl (fun h6 => ?_) (fun h6 => ?_)
    · skip
      refine c_run 1 (pc' := 81) (ls' := [(5, .int ((((8 : Int32) * (nI t)) + (I 84 t)) - (1 : Int32))), (4, .int (I 84 t)), (0, .ref 77), (1, .int (nI t)), (2, .int x), (3, .int v)]) (st' := [.int (-1)]) (μ' := (I, J)) (Nat.le_of_ble_eq_true rfl) rfl ?_
      refine c_ret (Nat.le_of_ble_eq_true rfl) rfl rfl ⟨by decide, rfl⟩ ?_
      unfold w_addP; rw [← h84]; (try unfold n_pnt); (try rw [← h84]); rw [if_neg h4, if_pos h6]
      exact ⟨rfl, rfl⟩
    · skip
      refine c_run 4 (pc' := 76) (ls' := [(5, .int ((((8 : Int32) * (nI t)) + (I 84 t)) - (1 : Int32))), (4, .int (I 84 t)), (0, .ref 77), (1, .int (nI t)), (2, .int x), (3, .int v)]) (st' := [.int ((((8 : Int32) * (nI t)) + (I 84 t)) - (1 : Int32)), .ref 86, .int v]) (μ' := (I, J)) (Nat.le_of_ble_eq_true rfl) rfl ?_
      refine c_ial (8 * t + (p - 1)) 32 (Nat.le_of_ble_eq_true rfl) rfl rfl rfl rfl (n_8p h84 (k_ge1 h84 (by assumption))) (by omega) ?_
      show m_W 105 77 [(5, .int ((((8 : Int32) * (nI t)) + (I 84 t)) - (1 : Int32))), (4, .int (I 84 t)), (0, .ref 77), (1, .int (nI t)), (2, .int x), (3, .int v)] [.int (I 86 (8 * t + (p - 1))), .int v] (I, J) _
      refine c_icge 82 (Nat.le_of_ble_eq_true rfl) rfl rfl (fun h7 => ?_) (fun h7 => ?_)
      · skip
        refine c_run 2 (pc' := 86) (ls' := [(5, .int ((((8 : Int32) * (nI t)) + (I 84 t)) - (1 : Int32))), (4, .int (I 84 t)), (0, .ref 77), (1, .int (nI t)), (2, .int x), (3, .int v)]) (st' := [.int 8, .int (I 84 t)]) (μ' := (I, J)) (Nat.le_of_ble_eq_true rfl) rfl ?_
        refine c_icne 92 (Nat.le_of_ble_eq_true rfl) rfl rfl (fun h8 => ?_) (fun h8 => ?_)
        · skip
          refine c_run 6 (pc' := 101) (ls' := [(5, .int ((((8 : Int32) * (nI t)) + (I 84 t)) - (1 : Int32))), (4, .int (I 84 t)), (0, .ref 77), (1, .int (nI t)), (2, .int x), (3, .int v)]) (st' := [.int x, .int (((((8 : Int32) * (nI t)) + (I 84 t)) - (1 : Int32)) + (1 : Int32)), .ref 85]) (μ' := (I, J)) (Nat.le_of_ble_eq_true rfl) rfl ?_
          refine c_ias (8 * t + p) 32 (Nat.le_of_ble_eq_true rfl) rfl rfl rfl rfl (n_8q h84) (by have : p < 8 := Nat.lt_of_le_of_ne hp (fun q => absurd (by rw [h84, q]; rfl) (show ¬ I 84 t = 8 by assumption)); omega) ?_
          show m_W 105 102 [(5, .int ((((8 : Int32) * (nI t)) + (I 84 t)) - (1 : Int32))), (4, .int (I 84 t)), (0, .ref 77), (1, .int (nI t)), (2, .int x), (3, .int v)] [] ((m_ui I 85 (8 * t + p) x), J) _
          refine c_run 6 (pc' := 111) (ls' := [(5, .int ((((8 : Int32) * (nI t)) + (I 84 t)) - (1 : Int32))), (4, .int (I 84 t)), (0, .ref 77), (1, .int (nI t)), (2, .int x), (3, .int v)]) (st' := [.int v, .int (((((8 : Int32) * (nI t)) + (I 84 t)) - (1 : Int32)) + (1 : Int32)), .ref 86]) (μ' := ((m_ui I 85 (8 * t + p) x), J)) (Nat.le_of_ble_eq_true rfl) rfl ?_
          refine c_ias (8 * t + p) 32 (Nat.le_of_ble_eq_true rfl) rfl rfl rfl rfl (n_8q h84) (by have : p < 8 := Nat.lt_of_le_of_ne hp (fun q => absurd (by rw [h84, q]; rfl) (show ¬ I 84 t = 8 by assumption)); omega) ?_
          show m_W 105 112 [(5, .int ((((8 : Int32) * (nI t)) + (I 84 t)) - (1 : Int32))), (4, .int (I 84 t)), (0, .ref 77), (1, .int (nI t)), (2, .int x), (3, .int v)] [] ((m_ui (m_ui I 85 (8 * t + p) x) 86 (8 * t + p) v), J) _
          refine c_run 4 (pc' := 118) (ls' := [(5, .int ((((8 : Int32) * (nI t)) + (I 84 t)) - (1 : Int32))), (4, .int (I 84 t)), (0, .ref 77), (1, .int (nI t)), (2, .int x), (3, .int v)]) (st' := [.int (nI t), .ref 84, .int (nI t), .ref 84]) (μ' := ((m_ui (m_ui I 85 (8 * t + p) x) 86 (8 * t + p) v), J)) (Nat.le_of_ble_eq_true rfl) rfl ?_
          refine c_ial t 4 (Nat.le_of_ble_eq_true rfl) rfl rfl rfl rfl rfl (by omega) ?_
          show m_W 105 119 [(5, .int ((((8 : Int32) * (nI t)) + (I 84 t)) - (1 : Int32))), (4, .int (I 84 t)), (0, .ref 77), (1, .int (nI t)), (2, .int x), (3, .int v)] [.int (I 84 t), .int (nI t), .ref 84] ((m_ui (m_ui I 85 (8 * t + p) x) 86 (8 * t + p) v), J) _
          refine c_run 2 (pc' := 121) (ls' := [(5, .int ((((8 : Int32) * (nI t)) + (I 84 t)) - (1 : Int32))), (4, .int (I 84 t)), (0, .ref 77), (1, .int (nI t)), (2, .int x), (3, .int v)]) (st' := [.int ((I 84 t) + (1 : Int32)), .int (nI t), .ref 84]) (μ' := ((m_ui (m_ui I 85 (8 * t + p) x) 86 (8 * t + p) v), J)) (Nat.le_of_ble_eq_true rfl) rfl ?_
          refine c_ias t 4 (Nat.le_of_ble_eq_true rfl) rfl rfl rfl rfl rfl (by omega) ?_
          show m_W 105 122 [(5, .int ((((8 : Int32) * (nI t)) + (I 84 t)) - (1 : Int32))), (4, .int (I 84 t)), (0, .ref 77), (1, .int (nI t)), (2, .int x), (3, .int v)] [] ((m_ui (m_ui (m_ui I 85 (8 * t + p) x) 86 (8 * t + p) v) 84 t ((I 84 t) + (1 : Int32))), J) _
          refine c_run 3 (pc' := 126) (ls' := [(5, .int ((((8 : Int32) * (nI t)) + (I 84 t)) - (1 : Int32))), (4, .int (I 84 t)), (0, .ref 77), (1, .int (nI t)), (2, .int x), (3, .int v)]) (st' := [.int ((I 84 t) + (1 : Int32))]) (μ' := ((m_ui (m_ui (m_ui I 85 (8 * t + p) x) 86 (8 * t + p) v) 84 t ((I 84 t) + (1 : Int32))), J)) (Nat.le_of_ble_eq_true rfl) rfl ?_
          refine c_ret (Nat.le_of_ble_eq_true rfl) rfl rfl ⟨by decide, rfl⟩ ?_
          unfold w_addP; rw [← h84]; (try unfold n_pnt); (try rw [← h84]); rw [if_neg h4, if_neg h6, if_pos h7, if_neg h8]
          exact ⟨rfl, rfl⟩
        · skip
          refine c_run 1 (pc' := 91) (ls' := [(5, .int ((((8 : Int32) * (nI t)) + (I 84 t)) - (1 : Int32))), (4, .int (I 84 t)), (0, .ref 77), (1, .int (nI t)), (2, .int x), (3, .int v)]) (st' := [.int (-3)]) (μ' := (I, J)) (Nat.le_of_ble_eq_true rfl) rfl ?_
          refine c_ret (Nat.le_of_ble_eq_true rfl) rfl rfl ⟨by decide, rfl⟩ ?_
          unfold w_addP; rw [← h84]; (try unfold n_pnt); (try rw [← h84]); rw [if_neg h4, if_neg h6, if_pos h7, if_pos h8]
          exact ⟨rfl, rfl⟩
      · skip
        refine c_run 1 (pc' := 81) (ls' := [(5, .int ((((8 : Int32) * (nI t)) + (I 84 t)) - (1 : Int32))), (4, .int (I 84 t)), (0, .ref 77), (1, .int (nI t)), (2, .int x), (3, .int v)]) (st' := [.int (-1)]) (μ' := (I, J)) (Nat.le_of_ble_eq_true rfl) rfl ?_
        refine c_ret (Nat.le_of_ble_eq_true rfl) rfl rfl ⟨by decide, rfl⟩ ?_
        unfold w_addP; rw [← h84]; (try unfold n_pnt); (try rw [← h84]); rw [if_neg h4, if_neg h6, if_neg h7]
        exact ⟨rfl, rfl⟩

