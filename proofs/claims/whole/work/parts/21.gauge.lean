/-! THE GAUGE'S OWN METHODS over its craft (those without texts) -/
def x_addTank (κ : k_M) (n : Nat) (d r : Int32) : Int32 × k_M := if 1 ≤ d ∧ d ≤ 3000 then (if 0 ≤ r ∧ r ≤ 1000000000 then (if k_isB κ then (-2, κ) else k_addT κ n d r) else (-1, κ)) else (-1, κ)
def x_load (κ : k_M) (t m u : Int32) : Int64 × k_M := if k_hasT κ t then (if 0 ≤ m ∧ m ≤ 1000000000 then (if 0 ≤ u ∧ u ≤ 1000000 then (if k_isB κ then (-2, κ) else (κ.2 5 t.toNatClampNeg, k_app (k_fill κ t.toNatClampNeg m u) (kl κ) (kc κ) (κ.1 0 3) 5 t m.toInt64)) else (-1, κ)) else (-1, κ)) else (-1, κ)
def x_setLeak (κ : k_M) (t r : Int32) : Int32 × k_M := if k_hasT κ t then (if 0 ≤ r ∧ r ≤ 1000 then (κ.1 4 t.toNatClampNeg, (m_ui κ.1 4 t.toNatClampNeg r, κ.2)) else (-1, κ)) else (-1, κ)
def x_setGV (κ : k_M) (t : Int32) (v : Int64) : Int64 × k_M := if k_hasT κ t then (if v < 1 then (-1, κ) else (if v ≤ 1000000000000 then (κ.2 9 t.toNatClampNeg, (κ.1, m_uj κ.2 9 t.toNatClampNeg v)) else (-1, κ))) else (-1, κ)
def x_mass (κ : k_M) (t w : Int32) : Int64 := if k_hasT κ t then (if w = 0 then κ.2 5 t.toNatClampNeg else (if w = 1 then κ.2 6 t.toNatClampNeg else (if w = 2 then κ.2 7 t.toNatClampNeg else (if w = 3 then k_us κ t.toNatClampNeg (κ.1 0 6) else (if w = 4 then (κ.1 3 t.toNatClampNeg).toInt64 else (if w = 5 then κ.2 8 t.toNatClampNeg else -1)))))) else -1
def x_set (κ : k_M) (w v : Int32) : Int32 × k_M := if w = 0 then (if 0 ≤ v ∧ v ≤ 5000 then (κ.1 0 4, (m_ui κ.1 0 4 v, κ.2)) else (-1, κ)) else (if w = 1 then (if 1 ≤ v ∧ v ≤ 100 then (κ.1 0 5, (m_ui κ.1 0 5 v, κ.2)) else (-1, κ)) else (if w = 2 then (if 0 ≤ v ∧ v ≤ 100 then (κ.1 0 6, (m_ui κ.1 0 6 v, κ.2)) else (-1, κ)) else (-1, κ)))
def x_used (κ : k_M) (c : Nat) (e : Int32) : Int64 := if k_hasE κ e then κ.2 c e.toNatClampNeg else -1
def x_weight (κ : k_M) (t : Int32) : Int32 := if k_hasT κ t then k_wt κ t.toNatClampNeg else -1
def x_drift (κ : k_M) (t : Int32) : Int64 := if k_hasT κ t then k_dr κ t.toNatClampNeg else -1000000000000000000

set_option maxRecDepth 100000 in
theorem t_addTank (I : Nat → Nat → Int32) (J : Nat → Nat → Int64) (d r : Int32) (n : Nat) (hn : (k_sh 1 (I, J)).1 1 0 = nI n) (hn4 : n ≤ 4) : m_W 1 0 (lv_args 0 [.ref 0, .int d, .int r]) [] (I, J) (k_E 1 (I, J) (some (.int (x_addTank (k_sh 1 (I, J)) n d r).1)) (x_addTank (k_sh 1 (I, J)) n d r).2) := by
  show m_W 1 0 [(0, .ref 0), (1, .int d), (2, .int r)] [] (I, J) _
  refine c_run 3 (pc' := 5) (ls' := [(0, .ref 0), (1, .int d), (2, .int r)]) (st' := [.int 3000, .int 1, .int d]) (μ' := (I, J)) (Nat.le_of_ble_eq_true rfl) rfl ?_
  refine c_cs 35 [.int d, .int 1, .int 3000] (r := []) (Nat.le_of_ble_eq_true rfl) rfl (Or.inl rfl) rfl rfl rfl (t_isWithin I J d 1 3000) ?_
  rintro _ _ ⟨rfl, rfl⟩
  show m_W 1 8 [(0, .ref 0), (1, .int d), (2, .int r)] [.int (s01 ((1 : Int32) ≤ d ∧ d ≤ (3000 : Int32)))] (I, J) _
  refine c_ifeq 21 (Nat.le_of_ble_eq_true rfl) rfl rfl (fun h1 => ?_) (fun h1 => ?_)
  · replace h1 := s01_0.mp h1
    refine c_run 1 (pc' := 22) (ls' := [(0, .ref 0), (1, .int d), (2, .int r)]) (st' := [.int (-1)]) (μ' := (I, J)) (Nat.le_of_ble_eq_true rfl) rfl ?_
    refine c_ret (Nat.le_of_ble_eq_true rfl) rfl rfl ⟨by decide, rfl⟩ ?_
    refine ⟨?_, ?_, ?_⟩
    · first | rfl | (simp only [x_addTank, if_neg h1]; done) | (simp only [x_addTank, if_neg h1]; rfl) | (unfold x_addTank; rw [if_neg h1]; done) | (unfold x_addTank; rw [if_neg h1]; rfl)
    · skip
      first | rfl | (simp only [x_addTank, if_neg h1]; done) | (simp only [x_addTank, if_neg h1]; rfl) | (unfold x_addTank; rw [if_neg h1]; done) | (unfold x_addTank; rw [if_neg h1]; rfl)
    · exact (m_fr.rf)
  · replace h1 := s01_1.mp h1
    refine c_run 3 (pc' := 15) (ls' := [(0, .ref 0), (1, .int d), (2, .int r)]) (st' := [.int 1000000000, .int 0, .int r]) (μ' := (I, J)) (Nat.le_of_ble_eq_true rfl) rfl ?_
    refine c_cs 35 [.int r, .int 0, .int 1000000000] (r := []) (Nat.le_of_ble_eq_true rfl) rfl (Or.inl rfl) rfl rfl rfl (t_isWithin I J r 0 1000000000) ?_
    rintro _ _ ⟨rfl, rfl⟩
    show m_W 1 18 [(0, .ref 0), (1, .int d), (2, .int r)] [.int (s01 ((0 : Int32) ≤ r ∧ r ≤ (1000000000 : Int32)))] (I, J) _
    refine c_ifne 23 (Nat.le_of_ble_eq_true rfl) rfl rfl (fun h2 => ?_) (fun h2 => ?_)
    · replace h2 := s01_1.mp h2
      refine c_run 2 (pc' := 27) (ls' := [(0, .ref 0), (1, .int d), (2, .int r)]) (st' := [.ref 1]) (μ' := (I, J)) (Nat.le_of_ble_eq_true rfl) rfl ?_
      refine c_cv 49 [] (b := 1) (r := []) (Nat.le_of_ble_eq_true rfl) rfl rfl rfl rfl rfl rfl (t1_isB I J) ?_
      rintro _ _ ⟨rfl, rfl⟩
      show m_W 1 30 [(0, .ref 0), (1, .int d), (2, .int r)] [.int (s01 (k_isB (k_sh 1 (I, J))))] (I, J) _
      refine c_ifeq 36 (Nat.le_of_ble_eq_true rfl) rfl rfl (fun h3 => ?_) (fun h3 => ?_)
      · replace h3 := s01_0.mp h3
        refine c_run 5 (pc' := 45) (ls' := [(0, .ref 0), (1, .int d), (2, .int r)]) (st' := [.int r, .int d, .ref 2]) (μ' := (I, J)) (Nat.le_of_ble_eq_true rfl) rfl ?_
        refine c_cv 82 [.int d, .int r] (b := 2) (r := []) (Nat.le_of_ble_eq_true rfl) rfl rfl rfl rfl rfl rfl (t1_addT I J d r n hn hn4) ?_
        rintro _ ⟨I1, J1⟩ ⟨rfl, hs1, hf1⟩
        show m_W 1 48 [(0, .ref 0), (1, .int d), (2, .int r)] [.int ((k_addT (k_sh 1 (I, J)) n d r).1)] (I1, J1) _
        refine c_ret (Nat.le_of_ble_eq_true rfl) rfl rfl ⟨by decide, rfl⟩ ?_
        refine ⟨?_, ?_, ?_⟩
        · first | rfl | (simp only [x_addTank, if_pos h1, if_pos h2, if_neg h3]; done) | (simp only [x_addTank, if_pos h1, if_pos h2, if_neg h3]; rfl) | (unfold x_addTank; rw [if_pos h1, if_pos h2, if_neg h3]; done) | (unfold x_addTank; rw [if_pos h1, if_pos h2, if_neg h3]; rfl) | (rw [hs1]; rfl) | (rw [hs1]; simp only [x_addTank, if_pos h1, if_pos h2, if_neg h3]; done) | (rw [hs1]; simp only [x_addTank, if_pos h1, if_pos h2, if_neg h3]; rfl) | (rw [hs1]; unfold x_addTank; rw [if_pos h1, if_pos h2, if_neg h3]; done) | (rw [hs1]; unfold x_addTank; rw [if_pos h1, if_pos h2, if_neg h3]; rfl) | (rw [hs1]; rfl) | (rw [hs1]; simp only [x_addTank, if_pos h1, if_pos h2, if_neg h3]; done) | (rw [hs1]; simp only [x_addTank, if_pos h1, if_pos h2, if_neg h3]; rfl) | (rw [hs1]; unfold x_addTank; rw [if_pos h1, if_pos h2, if_neg h3]; done) | (rw [hs1]; unfold x_addTank; rw [if_pos h1, if_pos h2, if_neg h3]; rfl)
        · rw [hs1]
          first | rfl | (simp only [x_addTank, if_pos h1, if_pos h2, if_neg h3]; done) | (simp only [x_addTank, if_pos h1, if_pos h2, if_neg h3]; rfl) | (unfold x_addTank; rw [if_pos h1, if_pos h2, if_neg h3]; done) | (unfold x_addTank; rw [if_pos h1, if_pos h2, if_neg h3]; rfl)
        · exact ((m_fr.rf).tr hf1)
      · replace h3 := s01_1.mp h3
        refine c_run 1 (pc' := 35) (ls' := [(0, .ref 0), (1, .int d), (2, .int r)]) (st' := [.int (-2)]) (μ' := (I, J)) (Nat.le_of_ble_eq_true rfl) rfl ?_
        refine c_ret (Nat.le_of_ble_eq_true rfl) rfl rfl ⟨by decide, rfl⟩ ?_
        refine ⟨?_, ?_, ?_⟩
        · first | rfl | (simp only [x_addTank, if_pos h1, if_pos h2, if_pos h3]; done) | (simp only [x_addTank, if_pos h1, if_pos h2, if_pos h3]; rfl) | (unfold x_addTank; rw [if_pos h1, if_pos h2, if_pos h3]; done) | (unfold x_addTank; rw [if_pos h1, if_pos h2, if_pos h3]; rfl)
        · skip
          first | rfl | (simp only [x_addTank, if_pos h1, if_pos h2, if_pos h3]; done) | (simp only [x_addTank, if_pos h1, if_pos h2, if_pos h3]; rfl) | (unfold x_addTank; rw [if_pos h1, if_pos h2, if_pos h3]; done) | (unfold x_addTank; rw [if_pos h1, if_pos h2, if_pos h3]; rfl)
        · exact (m_fr.rf)
    · replace h2 := s01_0.mp h2
      refine c_run 1 (pc' := 22) (ls' := [(0, .ref 0), (1, .int d), (2, .int r)]) (st' := [.int (-1)]) (μ' := (I, J)) (Nat.le_of_ble_eq_true rfl) rfl ?_
      refine c_ret (Nat.le_of_ble_eq_true rfl) rfl rfl ⟨by decide, rfl⟩ ?_
      refine ⟨?_, ?_, ?_⟩
      · first | rfl | (simp only [x_addTank, if_pos h1, if_neg h2]; done) | (simp only [x_addTank, if_pos h1, if_neg h2]; rfl) | (unfold x_addTank; rw [if_pos h1, if_neg h2]; done) | (unfold x_addTank; rw [if_pos h1, if_neg h2]; rfl)
      · skip
        first | rfl | (simp only [x_addTank, if_pos h1, if_neg h2]; done) | (simp only [x_addTank, if_pos h1, if_neg h2]; rfl) | (unfold x_addTank; rw [if_pos h1, if_neg h2]; done) | (unfold x_addTank; rw [if_pos h1, if_neg h2]; rfl)
      · exact (m_fr.rf)

set_option maxRecDepth 100000 in
theorem t_load (I : Nat → Nat → Int32) (J : Nat → Nat → Int64) (t m u : Int32) (n : Nat) (hn : (k_sh 1 (I, J)).1 1 0 = nI n) (hn4 : n ≤ 4) (hw : k_lw (k_sh 1 (I, J))) : m_W 4 0 (lv_args 0 [.ref 0, .int t, .int m, .int u]) [] (I, J) (k_E 1 (I, J) (some (.long (x_load (k_sh 1 (I, J)) t m u).1)) (x_load (k_sh 1 (I, J)) t m u).2) := by
  show m_W 4 0 [(0, .ref 0), (1, .int t), (2, .int m), (3, .int u)] [] (I, J) _
  refine c_run 4 (pc' := 8) (ls' := [(0, .ref 0), (1, .int t), (2, .int m), (3, .int u)]) (st' := [.int t, .ref 2]) (μ' := (I, J)) (Nat.le_of_ble_eq_true rfl) rfl ?_
  refine c_cv 80 [.int t] (b := 2) (r := []) (Nat.le_of_ble_eq_true rfl) rfl rfl rfl rfl rfl rfl (t1_hasT I J t) ?_
  rintro _ _ ⟨rfl, rfl⟩
  show m_W 4 11 [(0, .ref 0), (1, .int t), (2, .int m), (3, .int u)] [.int (s01 (k_hasT (k_sh 1 (I, J)) t))] (I, J) _
  refine c_ifeq 34 (Nat.le_of_ble_eq_true rfl) rfl rfl (fun h1 => ?_) (fun h1 => ?_)
  · replace h1 := s01_0.mp h1
    refine c_run 1 (pc' := 37) (ls' := [(0, .ref 0), (1, .int t), (2, .int m), (3, .int u)]) (st' := [.long (-1)]) (μ' := (I, J)) (Nat.le_of_ble_eq_true rfl) rfl ?_
    refine c_lret (Nat.le_of_ble_eq_true rfl) rfl rfl ?_
    refine ⟨?_, ?_, ?_⟩
    · first | rfl | (simp only [x_load, if_neg h1]; done) | (simp only [x_load, if_neg h1]; rfl) | (unfold x_load; rw [if_neg h1]; done) | (unfold x_load; rw [if_neg h1]; rfl)
    · skip
      first | rfl | (simp only [x_load, if_neg h1]; done) | (simp only [x_load, if_neg h1]; rfl) | (unfold x_load; rw [if_neg h1]; done) | (unfold x_load; rw [if_neg h1]; rfl)
    · exact (m_fr.rf)
  · replace h1 := s01_1.mp h1
    refine c_run 3 (pc' := 18) (ls' := [(0, .ref 0), (1, .int t), (2, .int m), (3, .int u)]) (st' := [.int 1000000000, .int 0, .int m]) (μ' := (I, J)) (Nat.le_of_ble_eq_true rfl) rfl ?_
    refine c_cs 35 [.int m, .int 0, .int 1000000000] (r := []) (Nat.le_of_ble_eq_true rfl) rfl (Or.inl rfl) rfl rfl rfl (t_isWithin I J m 0 1000000000) ?_
    rintro _ _ ⟨rfl, rfl⟩
    show m_W 4 21 [(0, .ref 0), (1, .int t), (2, .int m), (3, .int u)] [.int (s01 ((0 : Int32) ≤ m ∧ m ≤ (1000000000 : Int32)))] (I, J) _
    refine c_ifeq 34 (Nat.le_of_ble_eq_true rfl) rfl rfl (fun h2 => ?_) (fun h2 => ?_)
    · replace h2 := s01_0.mp h2
      refine c_run 1 (pc' := 37) (ls' := [(0, .ref 0), (1, .int t), (2, .int m), (3, .int u)]) (st' := [.long (-1)]) (μ' := (I, J)) (Nat.le_of_ble_eq_true rfl) rfl ?_
      refine c_lret (Nat.le_of_ble_eq_true rfl) rfl rfl ?_
      refine ⟨?_, ?_, ?_⟩
      · first | rfl | (simp only [x_load, if_pos h1, if_neg h2]; done) | (simp only [x_load, if_pos h1, if_neg h2]; rfl) | (unfold x_load; rw [if_pos h1, if_neg h2]; done) | (unfold x_load; rw [if_pos h1, if_neg h2]; rfl)
      · skip
        first | rfl | (simp only [x_load, if_pos h1, if_neg h2]; done) | (simp only [x_load, if_pos h1, if_neg h2]; rfl) | (unfold x_load; rw [if_pos h1, if_neg h2]; done) | (unfold x_load; rw [if_pos h1, if_neg h2]; rfl)
      · exact (m_fr.rf)
    · replace h2 := s01_1.mp h2
      refine c_run 3 (pc' := 28) (ls' := [(0, .ref 0), (1, .int t), (2, .int m), (3, .int u)]) (st' := [.int 1000000, .int 0, .int u]) (μ' := (I, J)) (Nat.le_of_ble_eq_true rfl) rfl ?_
      refine c_cs 35 [.int u, .int 0, .int 1000000] (r := []) (Nat.le_of_ble_eq_true rfl) rfl (Or.inl rfl) rfl rfl rfl (t_isWithin I J u 0 1000000) ?_
      rintro _ _ ⟨rfl, rfl⟩
      show m_W 4 31 [(0, .ref 0), (1, .int t), (2, .int m), (3, .int u)] [.int (s01 ((0 : Int32) ≤ u ∧ u ≤ (1000000 : Int32)))] (I, J) _
      obtain ⟨i, hi, rfl⟩ : ∃ i, i < n ∧ t = nI i := k_ix (by rw [← hn]; assumption) (by omega)
      have hcl : (nI i).toNatClampNeg = i := nI_clamp (by omega)
      refine c_ifne 38 (Nat.le_of_ble_eq_true rfl) rfl rfl (fun h3 => ?_) (fun h3 => ?_)
      · replace h3 := s01_1.mp h3
        refine c_run 2 (pc' := 42) (ls' := [(0, .ref 0), (1, .int (nI i)), (2, .int m), (3, .int u)]) (st' := [.ref 1]) (μ' := (I, J)) (Nat.le_of_ble_eq_true rfl) rfl ?_
        refine c_cv 49 [] (b := 1) (r := []) (Nat.le_of_ble_eq_true rfl) rfl rfl rfl rfl rfl rfl (t1_isB I J) ?_
        rintro _ _ ⟨rfl, rfl⟩
        show m_W 4 45 [(0, .ref 0), (1, .int (nI i)), (2, .int m), (3, .int u)] [.int (s01 (k_isB (k_sh 1 (I, J))))] (I, J) _
        refine c_ifeq 52 (Nat.le_of_ble_eq_true rfl) rfl rfl (fun h4 => ?_) (fun h4 => ?_)
        · replace h4 := s01_0.mp h4
          refine c_run 5 (pc' := 63) (ls' := [(0, .ref 0), (1, .int (nI i)), (2, .int m), (3, .int u)]) (st' := [.int (nI i), .ref 6]) (μ' := (I, J)) (Nat.le_of_ble_eq_true rfl) rfl ?_
          refine c_lal i 4 (Nat.le_of_ble_eq_true rfl) rfl rfl rfl rfl rfl (by omega) ?_
          show m_W 4 64 [(0, .ref 0), (1, .int (nI i)), (2, .int m), (3, .int u)] [.long ((k_sh 1 (I, J)).2 5 i)] (I, J) _
          refine c_run 7 (pc' := 76) (ls' := [(4, .long ((k_sh 1 (I, J)).2 5 i)), (0, .ref 0), (1, .int (nI i)), (2, .int m), (3, .int u)]) (st' := [.int u, .int m, .int (nI i), .ref 2]) (μ' := (I, J)) (Nat.le_of_ble_eq_true rfl) rfl ?_
          refine c_cv 83 [.int (nI i), .int m, .int u] (b := 2) (r := []) (Nat.le_of_ble_eq_true rfl) rfl rfl rfl rfl rfl rfl (t1_fill I J i (by omega) m u) ?_
          rintro _ ⟨I1, J1⟩ ⟨rfl, hs1, hf1⟩
          show m_W 4 79 [(4, .long ((k_sh 1 (I, J)).2 5 i)), (0, .ref 0), (1, .int (nI i)), (2, .int m), (3, .int u)] [] (I1, J1) _
          refine c_run 10 (pc' := 97) (ls' := [(4, .long ((k_sh 1 (I, J)).2 5 i)), (0, .ref 0), (1, .int (nI i)), (2, .int m), (3, .int u)]) (st' := [.long ((m : Int32).toInt64), .int (nI i), .int 5, .int ((k_sh 1 (I1, J1)).1 0 3), .ref 31]) (μ' := (I1, J1)) (Nat.le_of_ble_eq_true rfl) rfl ?_
          refine c_cv 72 [.int ((k_sh 1 (I1, J1)).1 0 3), .int 5, .int (nI i), .long ((m : Int32).toInt64)] (b := 31) (r := []) (Nat.le_of_ble_eq_true rfl) rfl rfl rfl rfl rfl rfl (t1_app I1 J1 (kl (k_sh 1 (I, J))) (kc (k_sh 1 (I, J))) ((k_sh 1 (I1, J1)).1 0 3) 5 (nI i) ((m : Int32).toInt64) (by rw [hs1]; exact (k_lw_l hw).1) (k_lw_l hw).2 (by rw [hs1]; exact (k_lw_c hw).1) (k_lw_c hw).2) ?_
          rintro _ ⟨I2, J2⟩ ⟨rfl, hs2, hf2⟩
          show m_W 4 100 [(4, .long ((k_sh 1 (I, J)).2 5 i)), (0, .ref 0), (1, .int (nI i)), (2, .int m), (3, .int u)] [] (I2, J2) _
          refine c_run 1 (pc' := 102) (ls' := [(4, .long ((k_sh 1 (I, J)).2 5 i)), (0, .ref 0), (1, .int (nI i)), (2, .int m), (3, .int u)]) (st' := [.long ((k_sh 1 (I, J)).2 5 i)]) (μ' := (I2, J2)) (Nat.le_of_ble_eq_true rfl) rfl ?_
          refine c_lret (Nat.le_of_ble_eq_true rfl) rfl rfl ?_
          refine ⟨?_, ?_, ?_⟩
          · first | rfl | (simp only [x_load, if_pos h1, if_pos h2, hcl, if_pos h3, if_neg h4]; done) | (simp only [x_load, if_pos h1, if_pos h2, hcl, if_pos h3, if_neg h4]; rfl) | (unfold x_load; rw [if_pos h1, if_pos h2, if_pos h3, if_neg h4]; done) | (unfold x_load; rw [if_pos h1, if_pos h2, if_pos h3, if_neg h4]; rfl) | (rw [hs2, hs1]; rfl) | (rw [hs2, hs1]; simp only [x_load, if_pos h1, if_pos h2, hcl, if_pos h3, if_neg h4]; done) | (rw [hs2, hs1]; simp only [x_load, if_pos h1, if_pos h2, hcl, if_pos h3, if_neg h4]; rfl) | (rw [hs2, hs1]; unfold x_load; rw [if_pos h1, if_pos h2, if_pos h3, if_neg h4]; done) | (rw [hs2, hs1]; unfold x_load; rw [if_pos h1, if_pos h2, if_pos h3, if_neg h4]; rfl) | (rw [hs2, hs1]; rfl) | (rw [hs2, hs1]; simp only [x_load, if_pos h1, if_pos h2, hcl, if_pos h3, if_neg h4]; done) | (rw [hs2, hs1]; simp only [x_load, if_pos h1, if_pos h2, hcl, if_pos h3, if_neg h4]; rfl) | (rw [hs2, hs1]; unfold x_load; rw [if_pos h1, if_pos h2, if_pos h3, if_neg h4]; done) | (rw [hs2, hs1]; unfold x_load; rw [if_pos h1, if_pos h2, if_pos h3, if_neg h4]; rfl)
          · rw [hs2, hs1]
            first | rfl | (simp only [x_load, if_pos h1, if_pos h2, hcl, if_pos h3, if_neg h4]; done) | (simp only [x_load, if_pos h1, if_pos h2, hcl, if_pos h3, if_neg h4]; rfl) | (unfold x_load; rw [if_pos h1, if_pos h2, if_pos h3, if_neg h4]; done) | (unfold x_load; rw [if_pos h1, if_pos h2, if_pos h3, if_neg h4]; rfl)
          · exact (((m_fr.rf).tr hf1).tr hf2)
        · replace h4 := s01_1.mp h4
          refine c_run 1 (pc' := 51) (ls' := [(0, .ref 0), (1, .int (nI i)), (2, .int m), (3, .int u)]) (st' := [.long (-2)]) (μ' := (I, J)) (Nat.le_of_ble_eq_true rfl) rfl ?_
          refine c_lret (Nat.le_of_ble_eq_true rfl) rfl rfl ?_
          refine ⟨?_, ?_, ?_⟩
          · first | rfl | (simp only [x_load, if_pos h1, if_pos h2, hcl, if_pos h3, if_pos h4]; done) | (simp only [x_load, if_pos h1, if_pos h2, hcl, if_pos h3, if_pos h4]; rfl) | (unfold x_load; rw [if_pos h1, if_pos h2, if_pos h3, if_pos h4]; done) | (unfold x_load; rw [if_pos h1, if_pos h2, if_pos h3, if_pos h4]; rfl)
          · skip
            first | rfl | (simp only [x_load, if_pos h1, if_pos h2, hcl, if_pos h3, if_pos h4]; done) | (simp only [x_load, if_pos h1, if_pos h2, hcl, if_pos h3, if_pos h4]; rfl) | (unfold x_load; rw [if_pos h1, if_pos h2, if_pos h3, if_pos h4]; done) | (unfold x_load; rw [if_pos h1, if_pos h2, if_pos h3, if_pos h4]; rfl)
          · exact (m_fr.rf)
      · replace h3 := s01_0.mp h3
        refine c_run 1 (pc' := 37) (ls' := [(0, .ref 0), (1, .int (nI i)), (2, .int m), (3, .int u)]) (st' := [.long (-1)]) (μ' := (I, J)) (Nat.le_of_ble_eq_true rfl) rfl ?_
        refine c_lret (Nat.le_of_ble_eq_true rfl) rfl rfl ?_
        refine ⟨?_, ?_, ?_⟩
        · first | rfl | (simp only [x_load, if_pos h1, if_pos h2, hcl, if_neg h3]; done) | (simp only [x_load, if_pos h1, if_pos h2, hcl, if_neg h3]; rfl) | (unfold x_load; rw [if_pos h1, if_pos h2, if_neg h3]; done) | (unfold x_load; rw [if_pos h1, if_pos h2, if_neg h3]; rfl)
        · skip
          first | rfl | (simp only [x_load, if_pos h1, if_pos h2, hcl, if_neg h3]; done) | (simp only [x_load, if_pos h1, if_pos h2, hcl, if_neg h3]; rfl) | (unfold x_load; rw [if_pos h1, if_pos h2, if_neg h3]; done) | (unfold x_load; rw [if_pos h1, if_pos h2, if_neg h3]; rfl)
        · exact (m_fr.rf)

set_option maxRecDepth 100000 in
theorem t_setLeak (I : Nat → Nat → Int32) (J : Nat → Nat → Int64) (t r : Int32) (n : Nat) (hn : (k_sh 1 (I, J)).1 1 0 = nI n) (hn4 : n ≤ 4) : m_W 5 0 (lv_args 0 [.ref 0, .int t, .int r]) [] (I, J) (k_E 1 (I, J) (some (.int (x_setLeak (k_sh 1 (I, J)) t r).1)) (x_setLeak (k_sh 1 (I, J)) t r).2) := by
  show m_W 5 0 [(0, .ref 0), (1, .int t), (2, .int r)] [] (I, J) _
  refine c_run 4 (pc' := 8) (ls' := [(0, .ref 0), (1, .int t), (2, .int r)]) (st' := [.int t, .ref 2]) (μ' := (I, J)) (Nat.le_of_ble_eq_true rfl) rfl ?_
  refine c_cv 80 [.int t] (b := 2) (r := []) (Nat.le_of_ble_eq_true rfl) rfl rfl rfl rfl rfl rfl (t1_hasT I J t) ?_
  rintro _ _ ⟨rfl, rfl⟩
  show m_W 5 11 [(0, .ref 0), (1, .int t), (2, .int r)] [.int (s01 (k_hasT (k_sh 1 (I, J)) t))] (I, J) _
  refine c_ifeq 25 (Nat.le_of_ble_eq_true rfl) rfl rfl (fun h1 => ?_) (fun h1 => ?_)
  · replace h1 := s01_0.mp h1
    refine c_run 1 (pc' := 26) (ls' := [(0, .ref 0), (1, .int t), (2, .int r)]) (st' := [.int (-1)]) (μ' := (I, J)) (Nat.le_of_ble_eq_true rfl) rfl ?_
    refine c_ret (Nat.le_of_ble_eq_true rfl) rfl rfl ⟨by decide, rfl⟩ ?_
    refine ⟨?_, ?_, ?_⟩
    · first | rfl | (simp only [x_setLeak, if_neg h1]; done) | (simp only [x_setLeak, if_neg h1]; rfl) | (unfold x_setLeak; rw [if_neg h1]; done) | (unfold x_setLeak; rw [if_neg h1]; rfl)
    · skip
      first | rfl | (simp only [x_setLeak, if_neg h1]; done) | (simp only [x_setLeak, if_neg h1]; rfl) | (unfold x_setLeak; rw [if_neg h1]; done) | (unfold x_setLeak; rw [if_neg h1]; rfl)
    · exact (m_fr.rf)
  · replace h1 := s01_1.mp h1
    refine c_run 3 (pc' := 19) (ls' := [(0, .ref 0), (1, .int t), (2, .int r)]) (st' := [.int 1000, .int 0, .int r]) (μ' := (I, J)) (Nat.le_of_ble_eq_true rfl) rfl ?_
    refine c_cs 35 [.int r, .int 0, .int 1000] (r := []) (Nat.le_of_ble_eq_true rfl) rfl (Or.inl rfl) rfl rfl rfl (t_isWithin I J r 0 1000) ?_
    rintro _ _ ⟨rfl, rfl⟩
    show m_W 5 22 [(0, .ref 0), (1, .int t), (2, .int r)] [.int (s01 ((0 : Int32) ≤ r ∧ r ≤ (1000 : Int32)))] (I, J) _
    obtain ⟨i, hi, rfl⟩ : ∃ i, i < n ∧ t = nI i := k_ix (by rw [← hn]; assumption) (by omega)
    have hcl : (nI i).toNatClampNeg = i := nI_clamp (by omega)
    refine c_ifne 27 (Nat.le_of_ble_eq_true rfl) rfl rfl (fun h2 => ?_) (fun h2 => ?_)
    · replace h2 := s01_1.mp h2
      refine c_run 5 (pc' := 38) (ls' := [(0, .ref 0), (1, .int (nI i)), (2, .int r)]) (st' := [.int (nI i), .ref 5]) (μ' := (I, J)) (Nat.le_of_ble_eq_true rfl) rfl ?_
      refine c_ial i 4 (Nat.le_of_ble_eq_true rfl) rfl rfl rfl rfl rfl (by omega) ?_
      show m_W 5 39 [(0, .ref 0), (1, .int (nI i)), (2, .int r)] [.int ((k_sh 1 (I, J)).1 4 i)] (I, J) _
      refine c_run 7 (pc' := 52) (ls' := [(3, .int ((k_sh 1 (I, J)).1 4 i)), (0, .ref 0), (1, .int (nI i)), (2, .int r)]) (st' := [.int r, .int (nI i), .ref 5]) (μ' := (I, J)) (Nat.le_of_ble_eq_true rfl) rfl ?_
      refine c_ias i 4 (Nat.le_of_ble_eq_true rfl) rfl rfl rfl rfl rfl (by omega) ?_
      show m_W 5 53 [(3, .int ((k_sh 1 (I, J)).1 4 i)), (0, .ref 0), (1, .int (nI i)), (2, .int r)] [] ((m_ui I 5 i r), J) _
      refine c_run 1 (pc' := 54) (ls' := [(3, .int ((k_sh 1 (I, J)).1 4 i)), (0, .ref 0), (1, .int (nI i)), (2, .int r)]) (st' := [.int ((k_sh 1 (I, J)).1 4 i)]) (μ' := ((m_ui I 5 i r), J)) (Nat.le_of_ble_eq_true rfl) rfl ?_
      refine c_ret (Nat.le_of_ble_eq_true rfl) rfl rfl ⟨by decide, rfl⟩ ?_
      refine ⟨?_, ?_, ?_⟩
      · first | rfl | (simp only [x_setLeak, if_pos h1, hcl, if_pos h2]; done) | (simp only [x_setLeak, if_pos h1, hcl, if_pos h2]; rfl) | (unfold x_setLeak; rw [if_pos h1, if_pos h2]; done) | (unfold x_setLeak; rw [if_pos h1, if_pos h2]; rfl) | (rw [k_ui 4 rfl rfl]; rfl) | (rw [k_ui 4 rfl rfl]; simp only [x_setLeak, if_pos h1, hcl, if_pos h2]; done) | (rw [k_ui 4 rfl rfl]; simp only [x_setLeak, if_pos h1, hcl, if_pos h2]; rfl) | (rw [k_ui 4 rfl rfl]; unfold x_setLeak; rw [if_pos h1, if_pos h2]; done) | (rw [k_ui 4 rfl rfl]; unfold x_setLeak; rw [if_pos h1, if_pos h2]; rfl)
      · rw [k_ui 4 rfl rfl]
        first | rfl | (simp only [x_setLeak, if_pos h1, hcl, if_pos h2]; done) | (simp only [x_setLeak, if_pos h1, hcl, if_pos h2]; rfl) | (unfold x_setLeak; rw [if_pos h1, if_pos h2]; done) | (unfold x_setLeak; rw [if_pos h1, if_pos h2]; rfl)
      · exact ((m_fr.rf).ui rfl rfl)
    · replace h2 := s01_0.mp h2
      refine c_run 1 (pc' := 26) (ls' := [(0, .ref 0), (1, .int (nI i)), (2, .int r)]) (st' := [.int (-1)]) (μ' := (I, J)) (Nat.le_of_ble_eq_true rfl) rfl ?_
      refine c_ret (Nat.le_of_ble_eq_true rfl) rfl rfl ⟨by decide, rfl⟩ ?_
      refine ⟨?_, ?_, ?_⟩
      · first | rfl | (simp only [x_setLeak, if_pos h1, hcl, if_neg h2]; done) | (simp only [x_setLeak, if_pos h1, hcl, if_neg h2]; rfl) | (unfold x_setLeak; rw [if_pos h1, if_neg h2]; done) | (unfold x_setLeak; rw [if_pos h1, if_neg h2]; rfl)
      · skip
        first | rfl | (simp only [x_setLeak, if_pos h1, hcl, if_neg h2]; done) | (simp only [x_setLeak, if_pos h1, hcl, if_neg h2]; rfl) | (unfold x_setLeak; rw [if_pos h1, if_neg h2]; done) | (unfold x_setLeak; rw [if_pos h1, if_neg h2]; rfl)
      · exact (m_fr.rf)

set_option maxRecDepth 100000 in
theorem t_setGV (I : Nat → Nat → Int32) (J : Nat → Nat → Int64) (t : Int32) (v : Int64) (n : Nat) (hn : (k_sh 1 (I, J)).1 1 0 = nI n) (hn4 : n ≤ 4) : m_W 6 0 (lv_args 0 [.ref 0, .int t, .long v]) [] (I, J) (k_E 1 (I, J) (some (.long (x_setGV (k_sh 1 (I, J)) t v).1)) (x_setGV (k_sh 1 (I, J)) t v).2) := by
  show m_W 6 0 [(0, .ref 0), (1, .int t), (2, .long v)] [] (I, J) _
  refine c_run 4 (pc' := 8) (ls' := [(0, .ref 0), (1, .int t), (2, .long v)]) (st' := [.int t, .ref 2]) (μ' := (I, J)) (Nat.le_of_ble_eq_true rfl) rfl ?_
  refine c_cv 80 [.int t] (b := 2) (r := []) (Nat.le_of_ble_eq_true rfl) rfl rfl rfl rfl rfl rfl (t1_hasT I J t) ?_
  rintro _ _ ⟨rfl, rfl⟩
  show m_W 6 11 [(0, .ref 0), (1, .int t), (2, .long v)] [.int (s01 (k_hasT (k_sh 1 (I, J)) t))] (I, J) _
  refine c_ifeq 28 (Nat.le_of_ble_eq_true rfl) rfl rfl (fun h1 => ?_) (fun h1 => ?_)
  · replace h1 := s01_0.mp h1
    refine c_run 1 (pc' := 31) (ls' := [(0, .ref 0), (1, .int t), (2, .long v)]) (st' := [.long (-1)]) (μ' := (I, J)) (Nat.le_of_ble_eq_true rfl) rfl ?_
    refine c_lret (Nat.le_of_ble_eq_true rfl) rfl rfl ?_
    refine ⟨?_, ?_, ?_⟩
    · first | rfl | (simp only [x_setGV, if_neg h1]; done) | (simp only [x_setGV, if_neg h1]; rfl) | (unfold x_setGV; rw [if_neg h1]; done) | (unfold x_setGV; rw [if_neg h1]; rfl)
    · skip
      first | rfl | (simp only [x_setGV, if_neg h1]; done) | (simp only [x_setGV, if_neg h1]; rfl) | (unfold x_setGV; rw [if_neg h1]; done) | (unfold x_setGV; rw [if_neg h1]; rfl)
    · exact (m_fr.rf)
  · replace h1 := s01_1.mp h1
    refine c_run 3 (pc' := 17) (ls' := [(0, .ref 0), (1, .int t), (2, .long v)]) (st' := [.int (lg_cmp v 1)]) (μ' := (I, J)) (Nat.le_of_ble_eq_true rfl) rfl ?_
    obtain ⟨i, hi, rfl⟩ : ∃ i, i < n ∧ t = nI i := k_ix (by rw [← hn]; assumption) (by omega)
    have hcl : (nI i).toNatClampNeg = i := nI_clamp (by omega)
    refine c_iflt 28 (Nat.le_of_ble_eq_true rfl) rfl rfl (fun h2 => ?_) (fun h2 => ?_)
    · replace h2 := lc_lt.mp h2
      refine c_run 1 (pc' := 31) (ls' := [(0, .ref 0), (1, .int (nI i)), (2, .long v)]) (st' := [.long (-1)]) (μ' := (I, J)) (Nat.le_of_ble_eq_true rfl) rfl ?_
      refine c_lret (Nat.le_of_ble_eq_true rfl) rfl rfl ?_
      refine ⟨?_, ?_, ?_⟩
      · first | rfl | (simp only [x_setGV, if_pos h1, hcl, if_pos h2]; done) | (simp only [x_setGV, if_pos h1, hcl, if_pos h2]; rfl) | (unfold x_setGV; rw [if_pos h1, if_pos h2]; done) | (unfold x_setGV; rw [if_pos h1, if_pos h2]; rfl)
      · skip
        first | rfl | (simp only [x_setGV, if_pos h1, hcl, if_pos h2]; done) | (simp only [x_setGV, if_pos h1, hcl, if_pos h2]; rfl) | (unfold x_setGV; rw [if_pos h1, if_pos h2]; done) | (unfold x_setGV; rw [if_pos h1, if_pos h2]; rfl)
      · exact (m_fr.rf)
    · replace h2 := mt lc_lt.mpr h2
      refine c_run 3 (pc' := 25) (ls' := [(0, .ref 0), (1, .int (nI i)), (2, .long v)]) (st' := [.int (lg_cmp v 1000000000000)]) (μ' := (I, J)) (Nat.le_of_ble_eq_true rfl) rfl ?_
      refine c_ifle 32 (Nat.le_of_ble_eq_true rfl) rfl rfl (fun h3 => ?_) (fun h3 => ?_)
      · replace h3 := lc_le.mp h3
        refine c_run 5 (pc' := 43) (ls' := [(0, .ref 0), (1, .int (nI i)), (2, .long v)]) (st' := [.int (nI i), .ref 10]) (μ' := (I, J)) (Nat.le_of_ble_eq_true rfl) rfl ?_
        refine c_lal i 4 (Nat.le_of_ble_eq_true rfl) rfl rfl rfl rfl rfl (by omega) ?_
        show m_W 6 44 [(0, .ref 0), (1, .int (nI i)), (2, .long v)] [.long ((k_sh 1 (I, J)).2 9 i)] (I, J) _
        refine c_run 7 (pc' := 58) (ls' := [(4, .long ((k_sh 1 (I, J)).2 9 i)), (0, .ref 0), (1, .int (nI i)), (2, .long v)]) (st' := [.long v, .int (nI i), .ref 10]) (μ' := (I, J)) (Nat.le_of_ble_eq_true rfl) rfl ?_
        refine c_las i 4 (Nat.le_of_ble_eq_true rfl) rfl rfl rfl rfl rfl (by omega) ?_
        show m_W 6 59 [(4, .long ((k_sh 1 (I, J)).2 9 i)), (0, .ref 0), (1, .int (nI i)), (2, .long v)] [] (I, (m_uj J 10 i v)) _
        refine c_run 1 (pc' := 61) (ls' := [(4, .long ((k_sh 1 (I, J)).2 9 i)), (0, .ref 0), (1, .int (nI i)), (2, .long v)]) (st' := [.long ((k_sh 1 (I, J)).2 9 i)]) (μ' := (I, (m_uj J 10 i v))) (Nat.le_of_ble_eq_true rfl) rfl ?_
        refine c_lret (Nat.le_of_ble_eq_true rfl) rfl rfl ?_
        refine ⟨?_, ?_, ?_⟩
        · first | rfl | (simp only [x_setGV, if_pos h1, hcl, if_neg h2, if_pos h3]; done) | (simp only [x_setGV, if_pos h1, hcl, if_neg h2, if_pos h3]; rfl) | (unfold x_setGV; rw [if_pos h1, if_neg h2, if_pos h3]; done) | (unfold x_setGV; rw [if_pos h1, if_neg h2, if_pos h3]; rfl) | (rw [k_uj 9 rfl rfl]; rfl) | (rw [k_uj 9 rfl rfl]; simp only [x_setGV, if_pos h1, hcl, if_neg h2, if_pos h3]; done) | (rw [k_uj 9 rfl rfl]; simp only [x_setGV, if_pos h1, hcl, if_neg h2, if_pos h3]; rfl) | (rw [k_uj 9 rfl rfl]; unfold x_setGV; rw [if_pos h1, if_neg h2, if_pos h3]; done) | (rw [k_uj 9 rfl rfl]; unfold x_setGV; rw [if_pos h1, if_neg h2, if_pos h3]; rfl)
        · rw [k_uj 9 rfl rfl]
          first | rfl | (simp only [x_setGV, if_pos h1, hcl, if_neg h2, if_pos h3]; done) | (simp only [x_setGV, if_pos h1, hcl, if_neg h2, if_pos h3]; rfl) | (unfold x_setGV; rw [if_pos h1, if_neg h2, if_pos h3]; done) | (unfold x_setGV; rw [if_pos h1, if_neg h2, if_pos h3]; rfl)
        · exact ((m_fr.rf).uj rfl rfl)
      · replace h3 := mt lc_le.mpr h3
        refine c_run 1 (pc' := 31) (ls' := [(0, .ref 0), (1, .int (nI i)), (2, .long v)]) (st' := [.long (-1)]) (μ' := (I, J)) (Nat.le_of_ble_eq_true rfl) rfl ?_
        refine c_lret (Nat.le_of_ble_eq_true rfl) rfl rfl ?_
        refine ⟨?_, ?_, ?_⟩
        · first | rfl | (simp only [x_setGV, if_pos h1, hcl, if_neg h2, if_neg h3]; done) | (simp only [x_setGV, if_pos h1, hcl, if_neg h2, if_neg h3]; rfl) | (unfold x_setGV; rw [if_pos h1, if_neg h2, if_neg h3]; done) | (unfold x_setGV; rw [if_pos h1, if_neg h2, if_neg h3]; rfl)
        · skip
          first | rfl | (simp only [x_setGV, if_pos h1, hcl, if_neg h2, if_neg h3]; done) | (simp only [x_setGV, if_pos h1, hcl, if_neg h2, if_neg h3]; rfl) | (unfold x_setGV; rw [if_pos h1, if_neg h2, if_neg h3]; done) | (unfold x_setGV; rw [if_pos h1, if_neg h2, if_neg h3]; rfl)
        · exact (m_fr.rf)

set_option maxRecDepth 100000 in
theorem t_tankCount (I : Nat → Nat → Int32) (J : Nat → Nat → Int64)  : m_W 7 0 (lv_args 0 [.ref 0]) [] (I, J) (m_E (some (.int ((k_sh 1 (I, J)).1 1 0))) (I, J)) := by
  show m_W 7 0 [(0, .ref 0)] [] (I, J) _
  refine c_run 4 (pc' := 10) (ls' := [(0, .ref 0)]) (st' := [.int ((k_sh 1 (I, J)).1 1 0)]) (μ' := (I, J)) (Nat.le_of_ble_eq_true rfl) rfl ?_
  refine c_ret (Nat.le_of_ble_eq_true rfl) rfl rfl ⟨by decide, rfl⟩ ?_
  exact ⟨rfl, rfl⟩

set_option maxRecDepth 100000 in
theorem t_time (I : Nat → Nat → Int32) (J : Nat → Nat → Int64)  : m_W 19 0 (lv_args 0 [.ref 0]) [] (I, J) (m_E (some (.int ((k_sh 1 (I, J)).1 0 3))) (I, J)) := by
  show m_W 19 0 [(0, .ref 0)] [] (I, J) _
  refine c_run 3 (pc' := 7) (ls' := [(0, .ref 0)]) (st' := [.int ((k_sh 1 (I, J)).1 0 3)]) (μ' := (I, J)) (Nat.le_of_ble_eq_true rfl) rfl ?_
  refine c_ret (Nat.le_of_ble_eq_true rfl) rfl rfl ⟨by decide, rfl⟩ ?_
  exact ⟨rfl, rfl⟩

set_option maxRecDepth 100000 in
theorem t_entryCount (I : Nat → Nat → Int32) (J : Nat → Nat → Int64)  : m_W 23 0 (lv_args 0 [.ref 0]) [] (I, J) (m_E (some (.int ((k_sh 1 (I, J)).1 30 0))) (I, J)) := by
  show m_W 23 0 [(0, .ref 0)] [] (I, J) _
  refine c_run 4 (pc' := 10) (ls' := [(0, .ref 0)]) (st' := [.int ((k_sh 1 (I, J)).1 30 0)]) (μ' := (I, J)) (Nat.le_of_ble_eq_true rfl) rfl ?_
  refine c_ret (Nat.le_of_ble_eq_true rfl) rfl rfl ⟨by decide, rfl⟩ ?_
  exact ⟨rfl, rfl⟩

set_option maxRecDepth 100000 in
theorem t_xset (I : Nat → Nat → Int32) (J : Nat → Nat → Int64) (w v : Int32) : m_W 9 0 (lv_args 0 [.ref 0, .int w, .int v]) [] (I, J) (k_E 1 (I, J) (some (.int (x_set (k_sh 1 (I, J)) w v).1)) (x_set (k_sh 1 (I, J)) w v).2) := by
  show m_W 9 0 [(0, .ref 0), (1, .int w), (2, .int v)] [] (I, J) _
  refine c_run 1 (pc' := 1) (ls' := [(0, .ref 0), (1, .int w), (2, .int v)]) (st' := [.int w]) (μ' := (I, J)) (Nat.le_of_ble_eq_true rfl) rfl ?_
  refine c_ifne 33 (Nat.le_of_ble_eq_true rfl) rfl rfl (fun h1 => ?_) (fun h1 => ?_)
  · skip
    refine c_run 2 (pc' := 35) (ls' := [(0, .ref 0), (1, .int w), (2, .int v)]) (st' := [.int 1, .int w]) (μ' := (I, J)) (Nat.le_of_ble_eq_true rfl) rfl ?_
    refine c_icne 66 (Nat.le_of_ble_eq_true rfl) rfl rfl (fun h2 => ?_) (fun h2 => ?_)
    · skip
      refine c_run 2 (pc' := 68) (ls' := [(0, .ref 0), (1, .int w), (2, .int v)]) (st' := [.int 2, .int w]) (μ' := (I, J)) (Nat.le_of_ble_eq_true rfl) rfl ?_
      refine c_icne 99 (Nat.le_of_ble_eq_true rfl) rfl rfl (fun h3 => ?_) (fun h3 => ?_)
      · skip
        refine c_run 1 (pc' := 100) (ls' := [(0, .ref 0), (1, .int w), (2, .int v)]) (st' := [.int (-1)]) (μ' := (I, J)) (Nat.le_of_ble_eq_true rfl) rfl ?_
        refine c_ret (Nat.le_of_ble_eq_true rfl) rfl rfl ⟨by decide, rfl⟩ ?_
        refine ⟨?_, ?_, ?_⟩
        · unfold x_set; (try subst_vars); repeat' split
          all_goals first | rfl | contradiction | (simp_all; done)
        · skip
          unfold x_set; (try subst_vars); repeat' split
          all_goals first | rfl | contradiction | (simp_all; done)
        · exact (m_fr.rf)
      · skip
        refine c_run 3 (pc' := 75) (ls' := [(0, .ref 0), (1, .int w), (2, .int v)]) (st' := [.int 100, .int 0, .int v]) (μ' := (I, J)) (Nat.le_of_ble_eq_true rfl) rfl ?_
        refine c_cs 35 [.int v, .int 0, .int 100] (r := []) (Nat.le_of_ble_eq_true rfl) rfl (Or.inl rfl) rfl rfl rfl (t_isWithin I J v 0 100) ?_
        rintro _ _ ⟨rfl, rfl⟩
        show m_W 9 78 [(0, .ref 0), (1, .int w), (2, .int v)] [.int (s01 ((0 : Int32) ≤ v ∧ v ≤ (100 : Int32)))] (I, J) _
        refine c_ifeq 99 (Nat.le_of_ble_eq_true rfl) rfl rfl (fun h4 => ?_) (fun h4 => ?_)
        · replace h4 := s01_0.mp h4
          refine c_run 1 (pc' := 100) (ls' := [(0, .ref 0), (1, .int w), (2, .int v)]) (st' := [.int (-1)]) (μ' := (I, J)) (Nat.le_of_ble_eq_true rfl) rfl ?_
          refine c_ret (Nat.le_of_ble_eq_true rfl) rfl rfl ⟨by decide, rfl⟩ ?_
          refine ⟨?_, ?_, ?_⟩
          · unfold x_set; (try subst_vars); repeat' split
            all_goals first | rfl | contradiction | (simp_all; done)
          · skip
            unfold x_set; (try subst_vars); repeat' split
            all_goals first | rfl | contradiction | (simp_all; done)
          · exact (m_fr.rf)
        · replace h4 := s01_1.mp h4
          refine c_run 9 (pc' := 98) (ls' := [(3, .int ((k_sh 1 (I, J)).1 0 6)), (0, .ref 0), (1, .int w), (2, .int v)]) (st' := [.int ((k_sh 1 (I, J)).1 0 6)]) (μ' := ((m_ui I 1 6 v), J)) (Nat.le_of_ble_eq_true rfl) rfl ?_
          refine c_ret (Nat.le_of_ble_eq_true rfl) rfl rfl ⟨by decide, rfl⟩ ?_
          refine ⟨?_, ?_, ?_⟩
          · unfold x_set; (try subst_vars); repeat' split
            all_goals first | rfl | contradiction | (simp_all; done)
          · rw [k_ui 0 rfl rfl]
            unfold x_set; (try subst_vars); repeat' split
            all_goals first | rfl | contradiction | (simp_all; done)
          · exact ((m_fr.rf).ui rfl rfl)
    · skip
      refine c_run 3 (pc' := 42) (ls' := [(0, .ref 0), (1, .int w), (2, .int v)]) (st' := [.int 100, .int 1, .int v]) (μ' := (I, J)) (Nat.le_of_ble_eq_true rfl) rfl ?_
      refine c_cs 35 [.int v, .int 1, .int 100] (r := []) (Nat.le_of_ble_eq_true rfl) rfl (Or.inl rfl) rfl rfl rfl (t_isWithin I J v 1 100) ?_
      rintro _ _ ⟨rfl, rfl⟩
      show m_W 9 45 [(0, .ref 0), (1, .int w), (2, .int v)] [.int (s01 ((1 : Int32) ≤ v ∧ v ≤ (100 : Int32)))] (I, J) _
      refine c_ifeq 66 (Nat.le_of_ble_eq_true rfl) rfl rfl (fun h5 => ?_) (fun h5 => ?_)
      · replace h5 := s01_0.mp h5
        refine c_run 2 (pc' := 68) (ls' := [(0, .ref 0), (1, .int w), (2, .int v)]) (st' := [.int 2, .int w]) (μ' := (I, J)) (Nat.le_of_ble_eq_true rfl) rfl ?_
        refine c_icne 99 (Nat.le_of_ble_eq_true rfl) rfl rfl (fun h6 => ?_) (fun h6 => ?_)
        · skip
          refine c_run 1 (pc' := 100) (ls' := [(0, .ref 0), (1, .int w), (2, .int v)]) (st' := [.int (-1)]) (μ' := (I, J)) (Nat.le_of_ble_eq_true rfl) rfl ?_
          refine c_ret (Nat.le_of_ble_eq_true rfl) rfl rfl ⟨by decide, rfl⟩ ?_
          refine ⟨?_, ?_, ?_⟩
          · unfold x_set; (try subst_vars); repeat' split
            all_goals first | rfl | contradiction | (simp_all; done)
          · skip
            unfold x_set; (try subst_vars); repeat' split
            all_goals first | rfl | contradiction | (simp_all; done)
          · exact (m_fr.rf)
        · skip
          refine c_run 3 (pc' := 75) (ls' := [(0, .ref 0), (1, .int w), (2, .int v)]) (st' := [.int 100, .int 0, .int v]) (μ' := (I, J)) (Nat.le_of_ble_eq_true rfl) rfl ?_
          refine c_cs 35 [.int v, .int 0, .int 100] (r := []) (Nat.le_of_ble_eq_true rfl) rfl (Or.inl rfl) rfl rfl rfl (t_isWithin I J v 0 100) ?_
          rintro _ _ ⟨rfl, rfl⟩
          show m_W 9 78 [(0, .ref 0), (1, .int w), (2, .int v)] [.int (s01 ((0 : Int32) ≤ v ∧ v ≤ (100 : Int32)))] (I, J) _
          refine c_ifeq 99 (Nat.le_of_ble_eq_true rfl) rfl rfl (fun h7 => ?_) (fun h7 => ?_)
          · replace h7 := s01_0.mp h7
            refine c_run 1 (pc' := 100) (ls' := [(0, .ref 0), (1, .int w), (2, .int v)]) (st' := [.int (-1)]) (μ' := (I, J)) (Nat.le_of_ble_eq_true rfl) rfl ?_
            refine c_ret (Nat.le_of_ble_eq_true rfl) rfl rfl ⟨by decide, rfl⟩ ?_
            refine ⟨?_, ?_, ?_⟩
            · unfold x_set; (try subst_vars); repeat' split
              all_goals first | rfl | contradiction | (simp_all; done)
            · skip
              unfold x_set; (try subst_vars); repeat' split
              all_goals first | rfl | contradiction | (simp_all; done)
            · exact (m_fr.rf)
          · replace h7 := s01_1.mp h7
            refine c_run 9 (pc' := 98) (ls' := [(3, .int ((k_sh 1 (I, J)).1 0 6)), (0, .ref 0), (1, .int w), (2, .int v)]) (st' := [.int ((k_sh 1 (I, J)).1 0 6)]) (μ' := ((m_ui I 1 6 v), J)) (Nat.le_of_ble_eq_true rfl) rfl ?_
            refine c_ret (Nat.le_of_ble_eq_true rfl) rfl rfl ⟨by decide, rfl⟩ ?_
            refine ⟨?_, ?_, ?_⟩
            · unfold x_set; (try subst_vars); repeat' split
              all_goals first | rfl | contradiction | (simp_all; done)
            · rw [k_ui 0 rfl rfl]
              unfold x_set; (try subst_vars); repeat' split
              all_goals first | rfl | contradiction | (simp_all; done)
            · exact ((m_fr.rf).ui rfl rfl)
      · replace h5 := s01_1.mp h5
        refine c_run 9 (pc' := 65) (ls' := [(3, .int ((k_sh 1 (I, J)).1 0 5)), (0, .ref 0), (1, .int w), (2, .int v)]) (st' := [.int ((k_sh 1 (I, J)).1 0 5)]) (μ' := ((m_ui I 1 5 v), J)) (Nat.le_of_ble_eq_true rfl) rfl ?_
        refine c_ret (Nat.le_of_ble_eq_true rfl) rfl rfl ⟨by decide, rfl⟩ ?_
        refine ⟨?_, ?_, ?_⟩
        · unfold x_set; (try subst_vars); repeat' split
          all_goals first | rfl | contradiction | (simp_all; done)
        · rw [k_ui 0 rfl rfl]
          unfold x_set; (try subst_vars); repeat' split
          all_goals first | rfl | contradiction | (simp_all; done)
        · exact ((m_fr.rf).ui rfl rfl)
  · skip
    refine c_run 3 (pc' := 9) (ls' := [(0, .ref 0), (1, .int w), (2, .int v)]) (st' := [.int 5000, .int 0, .int v]) (μ' := (I, J)) (Nat.le_of_ble_eq_true rfl) rfl ?_
    refine c_cs 35 [.int v, .int 0, .int 5000] (r := []) (Nat.le_of_ble_eq_true rfl) rfl (Or.inl rfl) rfl rfl rfl (t_isWithin I J v 0 5000) ?_
    rintro _ _ ⟨rfl, rfl⟩
    show m_W 9 12 [(0, .ref 0), (1, .int w), (2, .int v)] [.int (s01 ((0 : Int32) ≤ v ∧ v ≤ (5000 : Int32)))] (I, J) _
    refine c_ifeq 33 (Nat.le_of_ble_eq_true rfl) rfl rfl (fun h8 => ?_) (fun h8 => ?_)
    · replace h8 := s01_0.mp h8
      refine c_run 2 (pc' := 35) (ls' := [(0, .ref 0), (1, .int w), (2, .int v)]) (st' := [.int 1, .int w]) (μ' := (I, J)) (Nat.le_of_ble_eq_true rfl) rfl ?_
      refine c_icne 66 (Nat.le_of_ble_eq_true rfl) rfl rfl (fun h9 => ?_) (fun h9 => ?_)
      · skip
        refine c_run 2 (pc' := 68) (ls' := [(0, .ref 0), (1, .int w), (2, .int v)]) (st' := [.int 2, .int w]) (μ' := (I, J)) (Nat.le_of_ble_eq_true rfl) rfl ?_
        refine c_icne 99 (Nat.le_of_ble_eq_true rfl) rfl rfl (fun h10 => ?_) (fun h10 => ?_)
        · skip
          refine c_run 1 (pc' := 100) (ls' := [(0, .ref 0), (1, .int w), (2, .int v)]) (st' := [.int (-1)]) (μ' := (I, J)) (Nat.le_of_ble_eq_true rfl) rfl ?_
          refine c_ret (Nat.le_of_ble_eq_true rfl) rfl rfl ⟨by decide, rfl⟩ ?_
          refine ⟨?_, ?_, ?_⟩
          · unfold x_set; (try subst_vars); repeat' split
            all_goals first | rfl | contradiction | (simp_all; done)
          · skip
            unfold x_set; (try subst_vars); repeat' split
            all_goals first | rfl | contradiction | (simp_all; done)
          · exact (m_fr.rf)
        · skip
          refine c_run 3 (pc' := 75) (ls' := [(0, .ref 0), (1, .int w), (2, .int v)]) (st' := [.int 100, .int 0, .int v]) (μ' := (I, J)) (Nat.le_of_ble_eq_true rfl) rfl ?_
          refine c_cs 35 [.int v, .int 0, .int 100] (r := []) (Nat.le_of_ble_eq_true rfl) rfl (Or.inl rfl) rfl rfl rfl (t_isWithin I J v 0 100) ?_
          rintro _ _ ⟨rfl, rfl⟩
          show m_W 9 78 [(0, .ref 0), (1, .int w), (2, .int v)] [.int (s01 ((0 : Int32) ≤ v ∧ v ≤ (100 : Int32)))] (I, J) _
          refine c_ifeq 99 (Nat.le_of_ble_eq_true rfl) rfl rfl (fun h11 => ?_) (fun h11 => ?_)
          · replace h11 := s01_0.mp h11
            refine c_run 1 (pc' := 100) (ls' := [(0, .ref 0), (1, .int w), (2, .int v)]) (st' := [.int (-1)]) (μ' := (I, J)) (Nat.le_of_ble_eq_true rfl) rfl ?_
            refine c_ret (Nat.le_of_ble_eq_true rfl) rfl rfl ⟨by decide, rfl⟩ ?_
            refine ⟨?_, ?_, ?_⟩
            · unfold x_set; (try subst_vars); repeat' split
              all_goals first | rfl | contradiction | (simp_all; done)
            · skip
              unfold x_set; (try subst_vars); repeat' split
              all_goals first | rfl | contradiction | (simp_all; done)
            · exact (m_fr.rf)
          · replace h11 := s01_1.mp h11
            refine c_run 9 (pc' := 98) (ls' := [(3, .int ((k_sh 1 (I, J)).1 0 6)), (0, .ref 0), (1, .int w), (2, .int v)]) (st' := [.int ((k_sh 1 (I, J)).1 0 6)]) (μ' := ((m_ui I 1 6 v), J)) (Nat.le_of_ble_eq_true rfl) rfl ?_
            refine c_ret (Nat.le_of_ble_eq_true rfl) rfl rfl ⟨by decide, rfl⟩ ?_
            refine ⟨?_, ?_, ?_⟩
            · unfold x_set; (try subst_vars); repeat' split
              all_goals first | rfl | contradiction | (simp_all; done)
            · rw [k_ui 0 rfl rfl]
              unfold x_set; (try subst_vars); repeat' split
              all_goals first | rfl | contradiction | (simp_all; done)
            · exact ((m_fr.rf).ui rfl rfl)
      · skip
        refine c_run 3 (pc' := 42) (ls' := [(0, .ref 0), (1, .int w), (2, .int v)]) (st' := [.int 100, .int 1, .int v]) (μ' := (I, J)) (Nat.le_of_ble_eq_true rfl) rfl ?_
        refine c_cs 35 [.int v, .int 1, .int 100] (r := []) (Nat.le_of_ble_eq_true rfl) rfl (Or.inl rfl) rfl rfl rfl (t_isWithin I J v 1 100) ?_
        rintro _ _ ⟨rfl, rfl⟩
        show m_W 9 45 [(0, .ref 0), (1, .int w), (2, .int v)] [.int (s01 ((1 : Int32) ≤ v ∧ v ≤ (100 : Int32)))] (I, J) _
        refine c_ifeq 66 (Nat.le_of_ble_eq_true rfl) rfl rfl (fun h12 => ?_) (fun h12 => ?_)
        · replace h12 := s01_0.mp h12
          refine c_run 2 (pc' := 68) (ls' := [(0, .ref 0), (1, .int w), (2, .int v)]) (st' := [.int 2, .int w]) (μ' := (I, J)) (Nat.le_of_ble_eq_true rfl) rfl ?_
          refine c_icne 99 (Nat.le_of_ble_eq_true rfl) rfl rfl (fun h13 => ?_) (fun h13 => ?_)
          · skip
            refine c_run 1 (pc' := 100) (ls' := [(0, .ref 0), (1, .int w), (2, .int v)]) (st' := [.int (-1)]) (μ' := (I, J)) (Nat.le_of_ble_eq_true rfl) rfl ?_
            refine c_ret (Nat.le_of_ble_eq_true rfl) rfl rfl ⟨by decide, rfl⟩ ?_
            refine ⟨?_, ?_, ?_⟩
            · unfold x_set; (try subst_vars); repeat' split
              all_goals first | rfl | contradiction | (simp_all; done)
            · skip
              unfold x_set; (try subst_vars); repeat' split
              all_goals first | rfl | contradiction | (simp_all; done)
            · exact (m_fr.rf)
          · skip
            refine c_run 3 (pc' := 75) (ls' := [(0, .ref 0), (1, .int w), (2, .int v)]) (st' := [.int 100, .int 0, .int v]) (μ' := (I, J)) (Nat.le_of_ble_eq_true rfl) rfl ?_
            refine c_cs 35 [.int v, .int 0, .int 100] (r := []) (Nat.le_of_ble_eq_true rfl) rfl (Or.inl rfl) rfl rfl rfl (t_isWithin I J v 0 100) ?_
            rintro _ _ ⟨rfl, rfl⟩
            show m_W 9 78 [(0, .ref 0), (1, .int w), (2, .int v)] [.int (s01 ((0 : Int32) ≤ v ∧ v ≤ (100 : Int32)))] (I, J) _
            refine c_ifeq 99 (Nat.le_of_ble_eq_true rfl) rfl rfl (fun h14 => ?_) (fun h14 => ?_)
            · replace h14 := s01_0.mp h14
              refine c_run 1 (pc' := 100) (ls' := [(0, .ref 0), (1, .int w), (2, .int v)]) (st' := [.int (-1)]) (μ' := (I, J)) (Nat.le_of_ble_eq_true rfl) rfl ?_
              refine c_ret (Nat.le_of_ble_eq_true rfl) rfl rfl ⟨by decide, rfl⟩ ?_
              refine ⟨?_, ?_, ?_⟩
              · unfold x_set; (try subst_vars); repeat' split
                all_goals first | rfl | contradiction | (simp_all; done)
              · skip
                unfold x_set; (try subst_vars); repeat' split
                all_goals first | rfl | contradiction | (simp_all; done)
              · exact (m_fr.rf)
            · replace h14 := s01_1.mp h14
              refine c_run 9 (pc' := 98) (ls' := [(3, .int ((k_sh 1 (I, J)).1 0 6)), (0, .ref 0), (1, .int w), (2, .int v)]) (st' := [.int ((k_sh 1 (I, J)).1 0 6)]) (μ' := ((m_ui I 1 6 v), J)) (Nat.le_of_ble_eq_true rfl) rfl ?_
              refine c_ret (Nat.le_of_ble_eq_true rfl) rfl rfl ⟨by decide, rfl⟩ ?_
              refine ⟨?_, ?_, ?_⟩
              · unfold x_set; (try subst_vars); repeat' split
                all_goals first | rfl | contradiction | (simp_all; done)
              · rw [k_ui 0 rfl rfl]
                unfold x_set; (try subst_vars); repeat' split
                all_goals first | rfl | contradiction | (simp_all; done)
              · exact ((m_fr.rf).ui rfl rfl)
        · replace h12 := s01_1.mp h12
          refine c_run 9 (pc' := 65) (ls' := [(3, .int ((k_sh 1 (I, J)).1 0 5)), (0, .ref 0), (1, .int w), (2, .int v)]) (st' := [.int ((k_sh 1 (I, J)).1 0 5)]) (μ' := ((m_ui I 1 5 v), J)) (Nat.le_of_ble_eq_true rfl) rfl ?_
          refine c_ret (Nat.le_of_ble_eq_true rfl) rfl rfl ⟨by decide, rfl⟩ ?_
          refine ⟨?_, ?_, ?_⟩
          · unfold x_set; (try subst_vars); repeat' split
            all_goals first | rfl | contradiction | (simp_all; done)
          · rw [k_ui 0 rfl rfl]
            unfold x_set; (try subst_vars); repeat' split
            all_goals first | rfl | contradiction | (simp_all; done)
          · exact ((m_fr.rf).ui rfl rfl)
    · replace h8 := s01_1.mp h8
      refine c_run 9 (pc' := 32) (ls' := [(3, .int ((k_sh 1 (I, J)).1 0 4)), (0, .ref 0), (1, .int w), (2, .int v)]) (st' := [.int ((k_sh 1 (I, J)).1 0 4)]) (μ' := ((m_ui I 1 4 v), J)) (Nat.le_of_ble_eq_true rfl) rfl ?_
      refine c_ret (Nat.le_of_ble_eq_true rfl) rfl rfl ⟨by decide, rfl⟩ ?_
      refine ⟨?_, ?_, ?_⟩
      · unfold x_set; (try subst_vars); repeat' split
        all_goals first | rfl | contradiction | (simp_all; done)
      · rw [k_ui 0 rfl rfl]
        unfold x_set; (try subst_vars); repeat' split
        all_goals first | rfl | contradiction | (simp_all; done)
      · exact ((m_fr.rf).ui rfl rfl)

set_option maxRecDepth 100000 in
theorem t_used (I : Nat → Nat → Int32) (J : Nat → Nat → Int64) (e : Int32) (m : Nat) (hm : (k_sh 1 (I, J)).1 23 0 = nI m) (hm6 : m ≤ 6) : m_W 14 0 (lv_args 0 [.ref 0, .int e]) [] (I, J) (m_E (some (.long (x_used (k_sh 1 (I, J)) 28 e))) (I, J)) := by
  show m_W 14 0 [(0, .ref 0), (1, .int e)] [] (I, J) _
  refine c_run 4 (pc' := 8) (ls' := [(0, .ref 0), (1, .int e)]) (st' := [.int e, .ref 24]) (μ' := (I, J)) (Nat.le_of_ble_eq_true rfl) rfl ?_
  refine c_cv 66 [.int e] (b := 24) (r := []) (Nat.le_of_ble_eq_true rfl) rfl rfl rfl rfl rfl rfl (t1_hasE I J e) ?_
  rintro _ _ ⟨rfl, rfl⟩
  show m_W 14 11 [(0, .ref 0), (1, .int e)] [.int (s01 (k_hasE (k_sh 1 (I, J)) e))] (I, J) _
  refine c_ifeq 29 (Nat.le_of_ble_eq_true rfl) rfl rfl (fun h1 => ?_) (fun h1 => ?_)
  · replace h1 := s01_0.mp h1
    refine c_run 1 (pc' := 32) (ls' := [(0, .ref 0), (1, .int e)]) (st' := [.long (-1)]) (μ' := (I, J)) (Nat.le_of_ble_eq_true rfl) rfl ?_
    refine c_lret (Nat.le_of_ble_eq_true rfl) rfl rfl ?_
    refine ⟨?_, rfl⟩
    first | rfl | (simp only [x_used, if_neg h1]; done) | (simp only [x_used, if_neg h1]; rfl)
  · replace h1 := s01_1.mp h1
    refine c_run 5 (pc' := 25) (ls' := [(0, .ref 0), (1, .int e)]) (st' := [.int e, .ref 29]) (μ' := (I, J)) (Nat.le_of_ble_eq_true rfl) rfl ?_
    obtain ⟨i, hi, rfl⟩ : ∃ i, i < m ∧ e = nI i := k_ix (by rw [← hm]; assumption) (by omega)
    have hcl : (nI i).toNatClampNeg = i := nI_clamp (by omega)
    refine c_lal i 6 (Nat.le_of_ble_eq_true rfl) rfl rfl rfl rfl rfl (by omega) ?_
    show m_W 14 26 [(0, .ref 0), (1, .int (nI i))] [.long ((k_sh 1 (I, J)).2 28 i)] (I, J) _
    refine c_run 1 (pc' := 32) (ls' := [(0, .ref 0), (1, .int (nI i))]) (st' := [.long ((k_sh 1 (I, J)).2 28 i)]) (μ' := (I, J)) (Nat.le_of_ble_eq_true rfl) rfl ?_
    refine c_lret (Nat.le_of_ble_eq_true rfl) rfl rfl ?_
    refine ⟨?_, rfl⟩
    first | rfl | (simp only [x_used, if_pos h1, hcl]; done) | (simp only [x_used, if_pos h1, hcl]; rfl)

set_option maxRecDepth 100000 in
theorem t_delivered (I : Nat → Nat → Int32) (J : Nat → Nat → Int64) (e : Int32) (m : Nat) (hm : (k_sh 1 (I, J)).1 23 0 = nI m) (hm6 : m ≤ 6) : m_W 15 0 (lv_args 0 [.ref 0, .int e]) [] (I, J) (m_E (some (.long (x_used (k_sh 1 (I, J)) 29 e))) (I, J)) := by
  show m_W 15 0 [(0, .ref 0), (1, .int e)] [] (I, J) _
  refine c_run 4 (pc' := 8) (ls' := [(0, .ref 0), (1, .int e)]) (st' := [.int e, .ref 24]) (μ' := (I, J)) (Nat.le_of_ble_eq_true rfl) rfl ?_
  refine c_cv 66 [.int e] (b := 24) (r := []) (Nat.le_of_ble_eq_true rfl) rfl rfl rfl rfl rfl rfl (t1_hasE I J e) ?_
  rintro _ _ ⟨rfl, rfl⟩
  show m_W 15 11 [(0, .ref 0), (1, .int e)] [.int (s01 (k_hasE (k_sh 1 (I, J)) e))] (I, J) _
  refine c_ifeq 29 (Nat.le_of_ble_eq_true rfl) rfl rfl (fun h1 => ?_) (fun h1 => ?_)
  · replace h1 := s01_0.mp h1
    refine c_run 1 (pc' := 32) (ls' := [(0, .ref 0), (1, .int e)]) (st' := [.long (-1)]) (μ' := (I, J)) (Nat.le_of_ble_eq_true rfl) rfl ?_
    refine c_lret (Nat.le_of_ble_eq_true rfl) rfl rfl ?_
    refine ⟨?_, rfl⟩
    first | rfl | (simp only [x_used, if_neg h1]; done) | (simp only [x_used, if_neg h1]; rfl)
  · replace h1 := s01_1.mp h1
    refine c_run 5 (pc' := 25) (ls' := [(0, .ref 0), (1, .int e)]) (st' := [.int e, .ref 30]) (μ' := (I, J)) (Nat.le_of_ble_eq_true rfl) rfl ?_
    obtain ⟨i, hi, rfl⟩ : ∃ i, i < m ∧ e = nI i := k_ix (by rw [← hm]; assumption) (by omega)
    have hcl : (nI i).toNatClampNeg = i := nI_clamp (by omega)
    refine c_lal i 6 (Nat.le_of_ble_eq_true rfl) rfl rfl rfl rfl rfl (by omega) ?_
    show m_W 15 26 [(0, .ref 0), (1, .int (nI i))] [.long ((k_sh 1 (I, J)).2 29 i)] (I, J) _
    refine c_run 1 (pc' := 32) (ls' := [(0, .ref 0), (1, .int (nI i))]) (st' := [.long ((k_sh 1 (I, J)).2 29 i)]) (μ' := (I, J)) (Nat.le_of_ble_eq_true rfl) rfl ?_
    refine c_lret (Nat.le_of_ble_eq_true rfl) rfl rfl ?_
    refine ⟨?_, rfl⟩
    first | rfl | (simp only [x_used, if_pos h1, hcl]; done) | (simp only [x_used, if_pos h1, hcl]; rfl)

set_option maxRecDepth 100000 in
theorem t_weight (I : Nat → Nat → Int32) (J : Nat → Nat → Int64) (t : Int32) (n : Nat) (hn : (k_sh 1 (I, J)).1 1 0 = nI n) (hn4 : n ≤ 4) : m_W 22 0 (lv_args 0 [.ref 0, .int t]) [] (I, J) (m_E (some (.int (x_weight (k_sh 1 (I, J)) t))) (I, J)) := by
  show m_W 22 0 [(0, .ref 0), (1, .int t)] [] (I, J) _
  refine c_run 4 (pc' := 8) (ls' := [(0, .ref 0), (1, .int t)]) (st' := [.int t, .ref 2]) (μ' := (I, J)) (Nat.le_of_ble_eq_true rfl) rfl ?_
  refine c_cv 80 [.int t] (b := 2) (r := []) (Nat.le_of_ble_eq_true rfl) rfl rfl rfl rfl rfl rfl (t1_hasT I J t) ?_
  rintro _ _ ⟨rfl, rfl⟩
  show m_W 22 11 [(0, .ref 0), (1, .int t)] [.int (s01 (k_hasT (k_sh 1 (I, J)) t))] (I, J) _
  refine c_ifeq 28 (Nat.le_of_ble_eq_true rfl) rfl rfl (fun h1 => ?_) (fun h1 => ?_)
  · replace h1 := s01_0.mp h1
    refine c_run 1 (pc' := 29) (ls' := [(0, .ref 0), (1, .int t)]) (st' := [.int (-1)]) (μ' := (I, J)) (Nat.le_of_ble_eq_true rfl) rfl ?_
    refine c_ret (Nat.le_of_ble_eq_true rfl) rfl rfl ⟨by decide, rfl⟩ ?_
    refine ⟨?_, rfl⟩
    first | rfl | (simp only [x_weight, if_neg h1]; done) | (simp only [x_weight, if_neg h1]; rfl)
  · replace h1 := s01_1.mp h1
    refine c_run 4 (pc' := 22) (ls' := [(0, .ref 0), (1, .int t)]) (st' := [.int t, .ref 2]) (μ' := (I, J)) (Nat.le_of_ble_eq_true rfl) rfl ?_
    obtain ⟨i, hi, rfl⟩ : ∃ i, i < n ∧ t = nI i := k_ix (by rw [← hn]; assumption) (by omega)
    have hcl : (nI i).toNatClampNeg = i := nI_clamp (by omega)
    refine c_cv 88 [.int (nI i)] (b := 2) (r := []) (Nat.le_of_ble_eq_true rfl) rfl rfl rfl rfl rfl rfl (t1_wt I J i (by omega)) ?_
    rintro _ _ ⟨rfl, rfl⟩
    show m_W 22 25 [(0, .ref 0), (1, .int (nI i))] [.int (k_wt (k_sh 1 (I, J)) i)] (I, J) _
    refine c_run 1 (pc' := 29) (ls' := [(0, .ref 0), (1, .int (nI i))]) (st' := [.int (k_wt (k_sh 1 (I, J)) i)]) (μ' := (I, J)) (Nat.le_of_ble_eq_true rfl) rfl ?_
    refine c_ret (Nat.le_of_ble_eq_true rfl) rfl rfl ⟨by decide, rfl⟩ ?_
    refine ⟨?_, rfl⟩
    first | rfl | (simp only [x_weight, if_pos h1, hcl]; done) | (simp only [x_weight, if_pos h1, hcl]; rfl)

set_option maxRecDepth 100000 in
theorem t_drift (I : Nat → Nat → Int32) (J : Nat → Nat → Int64) (t : Int32) (n : Nat) (hn : (k_sh 1 (I, J)).1 1 0 = nI n) (hn4 : n ≤ 4) (hv : ∀ t, t < n → ∃ v, v ≤ 1000000000000000 ∧ (k_sh 1 (I, J)).2 8 t = lN v) : m_W 31 0 (lv_args 0 [.ref 0, .int t]) [] (I, J) (m_E (some (.long (x_drift (k_sh 1 (I, J)) t))) (I, J)) := by
  show m_W 31 0 [(0, .ref 0), (1, .int t)] [] (I, J) _
  refine c_run 4 (pc' := 8) (ls' := [(0, .ref 0), (1, .int t)]) (st' := [.int t, .ref 2]) (μ' := (I, J)) (Nat.le_of_ble_eq_true rfl) rfl ?_
  refine c_cv 80 [.int t] (b := 2) (r := []) (Nat.le_of_ble_eq_true rfl) rfl rfl rfl rfl rfl rfl (t1_hasT I J t) ?_
  rintro _ _ ⟨rfl, rfl⟩
  show m_W 31 11 [(0, .ref 0), (1, .int t)] [.int (s01 (k_hasT (k_sh 1 (I, J)) t))] (I, J) _
  refine c_ifeq 28 (Nat.le_of_ble_eq_true rfl) rfl rfl (fun h1 => ?_) (fun h1 => ?_)
  · replace h1 := s01_0.mp h1
    refine c_run 1 (pc' := 31) (ls' := [(0, .ref 0), (1, .int t)]) (st' := [.long (-1000000000000000000)]) (μ' := (I, J)) (Nat.le_of_ble_eq_true rfl) rfl ?_
    refine c_lret (Nat.le_of_ble_eq_true rfl) rfl rfl ?_
    refine ⟨?_, rfl⟩
    first | rfl | (simp only [x_drift, if_neg h1]; done) | (simp only [x_drift, if_neg h1]; rfl)
  · replace h1 := s01_1.mp h1
    refine c_run 4 (pc' := 22) (ls' := [(0, .ref 0), (1, .int t)]) (st' := [.int t, .ref 2]) (μ' := (I, J)) (Nat.le_of_ble_eq_true rfl) rfl ?_
    obtain ⟨i, hi, rfl⟩ : ∃ i, i < n ∧ t = nI i := k_ix (by rw [← hn]; assumption) (by omega)
    have hcl : (nI i).toNatClampNeg = i := nI_clamp (by omega)
    obtain ⟨v, hv2, hvv⟩ := hv i hi
    refine c_cv 90 [.int (nI i)] (b := 2) (r := []) (Nat.le_of_ble_eq_true rfl) rfl rfl rfl rfl rfl rfl (t1_dr I J i (by omega) v hvv hv2) ?_
    rintro _ _ ⟨rfl, rfl⟩
    show m_W 31 25 [(0, .ref 0), (1, .int (nI i))] [.long (k_dr (k_sh 1 (I, J)) i)] (I, J) _
    refine c_run 1 (pc' := 31) (ls' := [(0, .ref 0), (1, .int (nI i))]) (st' := [.long (k_dr (k_sh 1 (I, J)) i)]) (μ' := (I, J)) (Nat.le_of_ble_eq_true rfl) rfl ?_
    refine c_lret (Nat.le_of_ble_eq_true rfl) rfl rfl ?_
    refine ⟨?_, rfl⟩
    first | rfl | (simp only [x_drift, if_pos h1, hcl]; done) | (simp only [x_drift, if_pos h1, hcl]; rfl)

set_option maxRecDepth 100000 in
theorem t_setValve (I : Nat → Nat → Int32) (J : Nat → Nat → Int64) (e t o : Int32) (m : Nat) (hm : (k_sh 1 (I, J)).1 23 0 = nI m) (hm6 : m ≤ 6) : m_W 13 0 (lv_args 0 [.ref 0, .int e, .int t, .int o]) [] (I, J) (k_E 1 (I, J) (some (.int (k_valve (k_sh 1 (I, J)) e t o).1)) (k_valve (k_sh 1 (I, J)) e t o).2) := by
  show m_W 13 0 [(0, .ref 0), (1, .int e), (2, .int t), (3, .int o)] [] (I, J) _
  refine c_run 5 (pc' := 7) (ls' := [(0, .ref 0), (1, .int e), (2, .int t), (3, .int o)]) (st' := [.int o, .int t, .int e, .ref 1]) (μ' := (I, J)) (Nat.le_of_ble_eq_true rfl) rfl ?_
  refine c_cv 53 [.int e, .int t, .int o] (b := 1) (r := []) (Nat.le_of_ble_eq_true rfl) rfl rfl rfl rfl rfl rfl (t1_valve I J e t o m hm hm6) ?_
  rintro _ ⟨I1, J1⟩ ⟨rfl, hs1, hf1⟩
  show m_W 13 10 [(0, .ref 0), (1, .int e), (2, .int t), (3, .int o)] [.int ((k_valve (k_sh 1 (I, J)) e t o).1)] (I1, J1) _
  refine c_ret (Nat.le_of_ble_eq_true rfl) rfl rfl ⟨by decide, rfl⟩ ?_
  refine ⟨?_, ?_, ?_⟩
  · exact rfl
  · rw [hs1]
    all_goals rfl
  · exact ((m_fr.rf).tr hf1)

set_option maxRecDepth 100000 in
theorem t_ignite (I : Nat → Nat → Int32) (J : Nat → Nat → Int64) (e : Int32) (m : Nat) (hm : (k_sh 1 (I, J)).1 23 0 = nI m) (hm6 : m ≤ 6) : m_W 16 0 (lv_args 0 [.ref 0, .int e]) [] (I, J) (k_E 1 (I, J) (some (.int (k_begin (k_sh 1 (I, J)) e).1)) (k_begin (k_sh 1 (I, J)) e).2) := by
  show m_W 16 0 [(0, .ref 0), (1, .int e)] [] (I, J) _
  refine c_run 3 (pc' := 5) (ls' := [(0, .ref 0), (1, .int e)]) (st' := [.int e, .ref 1]) (μ' := (I, J)) (Nat.le_of_ble_eq_true rfl) rfl ?_
  refine c_cv 54 [.int e] (b := 1) (r := []) (Nat.le_of_ble_eq_true rfl) rfl rfl rfl rfl rfl rfl (t1_begin I J e m hm hm6) ?_
  rintro _ ⟨I1, J1⟩ ⟨rfl, hs1, hf1⟩
  show m_W 16 8 [(0, .ref 0), (1, .int e)] [.int ((k_begin (k_sh 1 (I, J)) e).1)] (I1, J1) _
  refine c_ret (Nat.le_of_ble_eq_true rfl) rfl rfl ⟨by decide, rfl⟩ ?_
  refine ⟨?_, ?_, ?_⟩
  · exact rfl
  · rw [hs1]
    all_goals rfl
  · exact ((m_fr.rf).tr hf1)

set_option maxRecDepth 100000 in
theorem t_cutoff (I : Nat → Nat → Int32) (J : Nat → Nat → Int64)  (m : Nat) (hm : (k_sh 1 (I, J)).1 23 0 = nI m) (hm6 : m ≤ 6) (n : Nat) (hn : (k_sh 1 (I, J)).1 1 0 = nI n) (hn4 : n ≤ 4) (hw : k_lw (k_sh 1 (I, J))) : m_W 17 0 (lv_args 0 [.ref 0]) [] (I, J) (k_E 1 (I, J) (some (.int (k_end (k_sh 1 (I, J)) (ke (k_sh 1 (I, J))) n (kl (k_sh 1 (I, J))) (kc (k_sh 1 (I, J)))).1)) (k_end (k_sh 1 (I, J)) (ke (k_sh 1 (I, J))) n (kl (k_sh 1 (I, J))) (kc (k_sh 1 (I, J)))).2) := by
  show m_W 17 0 [(0, .ref 0)] [] (I, J) _
  refine c_run 2 (pc' := 4) (ls' := [(0, .ref 0)]) (st' := [.ref 1]) (μ' := (I, J)) (Nat.le_of_ble_eq_true rfl) rfl ?_
  refine c_cv 55 [] (b := 1) (r := []) (Nat.le_of_ble_eq_true rfl) rfl rfl rfl rfl rfl rfl (t1_end I J m hm hm6 n hn hn4 hw) ?_
  rintro _ ⟨I1, J1⟩ ⟨rfl, hs1, hf1⟩
  show m_W 17 7 [(0, .ref 0)] [.int ((k_end (k_sh 1 (I, J)) (ke (k_sh 1 (I, J))) n (kl (k_sh 1 (I, J))) (kc (k_sh 1 (I, J)))).1)] (I1, J1) _
  refine c_ret (Nat.le_of_ble_eq_true rfl) rfl rfl ⟨by decide, rfl⟩ ?_
  refine ⟨?_, ?_, ?_⟩
  · exact rfl
  · rw [hs1]
    all_goals rfl
  · exact ((m_fr.rf).tr hf1)

set_option maxRecDepth 100000 in
theorem t_pass (I : Nat → Nat → Int32) (J : Nat → Nat → Int64) (x : Int32) (m : Nat) (hm : (k_sh 1 (I, J)).1 23 0 = nI m) (hm6 : m ≤ 6) (n : Nat) (hn : (k_sh 1 (I, J)).1 1 0 = nI n) (hn4 : n ≤ 4) (hw : k_lw (k_sh 1 (I, J))) : m_W 18 0 (lv_args 0 [.ref 0, .int x]) [] (I, J) (k_E 1 (I, J) (some (.int (k_pass (k_sh 1 (I, J)) (ke (k_sh 1 (I, J))) n x).1)) (k_pass (k_sh 1 (I, J)) (ke (k_sh 1 (I, J))) n x).2) := by
  show m_W 18 0 [(0, .ref 0), (1, .int x)] [] (I, J) _
  refine c_run 3 (pc' := 5) (ls' := [(0, .ref 0), (1, .int x)]) (st' := [.int x, .ref 1]) (μ' := (I, J)) (Nat.le_of_ble_eq_true rfl) rfl ?_
  refine c_cv 58 [.int x] (b := 1) (r := []) (Nat.le_of_ble_eq_true rfl) rfl rfl rfl rfl rfl rfl (t1_pass I J x m hm hm6 n hn hn4 hw) ?_
  rintro _ ⟨I1, J1⟩ ⟨rfl, hs1, hf1⟩
  show m_W 18 8 [(0, .ref 0), (1, .int x)] [.int ((k_pass (k_sh 1 (I, J)) (ke (k_sh 1 (I, J))) n x).1)] (I1, J1) _
  refine c_ret (Nat.le_of_ble_eq_true rfl) rfl rfl ⟨by decide, rfl⟩ ?_
  refine ⟨?_, ?_, ?_⟩
  · exact rfl
  · rw [hs1]
    all_goals rfl
  · exact ((m_fr.rf).tr hf1)

