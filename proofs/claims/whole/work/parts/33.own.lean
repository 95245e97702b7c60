/-! THE MODEL: tanks, settings, burns' beginning and end, small answers -/
abbrev n_A32 : Type := Int32 × m_M
abbrev n_A64 : Type := Int64 × m_M
def n_opn (R : Nat → Int64) (n : Nat) : Nat → Nat → Int64
  | 0 => R
  | e + 1 => r_u (n_opn R n e) (20 + 3 * e + 0) (n_opn R n e (20 + 3 * e + 0) ||| (1 : Int64) <<< ((nI n : Int32).toInt64 &&& 63))
def w_addT (I : Nat → Nat → Int32) (J : Nat → Nat → Int64) (R G : Nat → Int64) (n m : Nat) (d r : Int32) : n_A32 := if 1 ≤ d ∧ d ≤ 3000 then (if 0 ≤ r ∧ r ≤ 1000000000 then (if 0 ≤ R 39 then (-2, (I, n_J J R G)) else (if nI n = 4 then (-3, (I, n_J J R G)) else (nI n + 1 - 1, (m_ui I 77 2 (nI n + 1), n_J (m_uj (m_uj (m_uj J 80 n d.toInt64) 81 n r.toInt64) 82 n 1000000) (n_opn R n m) G)))) else (-1, (I, n_J J R G))) else (-1, (I, n_J J R G))
def n_ld (R : Nat → Int64) (i : Nat) (m u : Int32) : Nat → Int64 := r_u (r_u (r_u (r_u R (5 * i + 0) m.toInt64) (5 * i + 1) m.toInt64) (5 * i + 2) m.toInt64) (5 * i + 3) (u.toInt64 * u.toInt64)
def w_load (R : Nat → Int64) (n : Nat) (t m u : Int32) : Int64 × (Nat → Int64) := if 0 ≤ t ∧ t < nI n then (if 0 ≤ m ∧ m ≤ 1000000000 then (if 0 ≤ u ∧ u ≤ 1000000 then (if 0 ≤ R 39 then (-2, R) else (R (5 * t.toNatClampNeg + 0), n_ent (n_ld R t.toNatClampNeg m u) 5 t m.toInt64)) else (-1, R)) else (-1, R)) else (-1, R)
def w_leak (I : Nat → Nat → Int32) (n : Nat) (t r : Int32) : Int32 × (Nat → Nat → Int32) := if 0 ≤ t ∧ t < nI n then (if 0 ≤ r ∧ r ≤ 1000 then (I 83 t.toNatClampNeg, m_ui I 83 t.toNatClampNeg r) else (-1, I)) else (-1, I)
def w_gv (J : Nat → Nat → Int64) (n : Nat) (t : Int32) (v : Int64) : Int64 × (Nat → Nat → Int64) := if 0 ≤ t ∧ t < nI n then (if 1 ≤ v ∧ v ≤ 1000000000000 then (J 82 t.toNatClampNeg, m_uj J 82 t.toNatClampNeg v) else (-1, J)) else (-1, J)
def n_us (R D : Nat → Int64) (mg : Int32) (t : Nat) : Int64 := n_mx (R (5 * t + 2) - D t - s_fl (mg.toInt64 * s_rt (R (5 * t + 3))) 10)
def w_used (R : Nat → Int64) (m : Nat) (w : Nat) (e : Int32) : Int64 := if 0 ≤ e ∧ e < nI m then R (20 + 3 * e.toNatClampNeg + w) else -1
def n_ig (R : Nat → Int64) (e : Int32) : Nat → Int64 := r_u (r_u (r_u (r_u (r_u (r_u (r_u R 39 e.toInt64) 40 0) 41 0) 4 0) 9 0) 14 0) 19 0
def w_ign (R : Nat → Int64) (m : Nat) (e : Int32) : Int32 × (Nat → Int64) := if 0 ≤ e ∧ e < nI m then (if 0 ≤ R 39 then (-2, R) else (if R (20 + 3 * e.toNatClampNeg + 0) = 0 then (-2, R) else ((R 38).toInt32, n_ig R e))) else (-1, R)
def n_vv (o : Int32) (x : Int64) (t : Int32) : Int64 := if o = 1 then x ||| (1 : Int64) <<< ((t : Int32).toInt64 &&& 63) else x &&& ((1 : Int64) <<< ((t : Int32).toInt64 &&& 63) ^^^ -1)
def w_valve (R : Nat → Int64) (n m : Nat) (e t o : Int32) : Int32 × (Nat → Int64) := if 0 ≤ e ∧ e < nI m then (if 0 ≤ t ∧ t < nI n then (if 0 ≤ o ∧ o ≤ 1 then (if R 39 = e.toInt64 then (-2, R) else ((n_vv o (R (20 + 3 * e.toNatClampNeg + 0)) t).toInt32, r_u R (20 + 3 * e.toNatClampNeg + 0) (n_vv o (R (20 + 3 * e.toNatClampNeg + 0)) t))) else (-1, R)) else (-1, R)) else (-1, R)
def n_wd : Int64 := 1000000000000000
def n_cap (y : Int64) : Int64 := if y ≤ n_wd then y else n_wd
def n_of1 (R : Nat → Int64) (D : Int32) (t : Nat) : Int64 := s_fl (R (5 * t + 4) * D.toInt64) 1000
def n_cut (R : Nat → Int64) (D : Int32) : Nat → Nat → Int64
  | 0 => R
  | i + 1 => r_u (n_cut R D i) (5 * i + 3) (n_cap (n_cut R D i (5 * i + 3) + n_of1 R D i * n_of1 R D i))
theorem n_cut_o {R : Nat → Int64} {D : Int32} {k : Nat} : ∀ {i : Nat}, i ≤ 4 → 20 ≤ k ∨ k % 5 ≠ 3 → n_cut R D i k = R k
  | 0, _, _ => rfl
  | i + 1, hi, hk => by rw [n_cut, r_un (by omega)]; exact n_cut_o (by omega) hk
def n_cs (R : Nat → Int64) : Nat → Int64
  | 0 => 0
  | i + 1 => n_cs R i + R (5 * i + 4)
def n_fin (R : Nat → Int64) (D : Int32) (n : Nat) : Nat → Int64 := r_u (r_u (n_ent (r_u (n_cut R D n) 39 (-1)) 1 (-1) (n_cs R n)) 40 0) 41 0
abbrev n_set (R : Nat → Int64) (s : Int32) : Prop := 0 ≤ R 39 ∧ R 41 = 0 ∧ ¬ R 40 < s.toInt64
def n_wt (R V : Nat → Int64) (t : Nat) : Int64 := 1000 * R (5 * t + 3) / (R (5 * t + 3) + V t)
theorem n_4w (i w : Nat) : (43 : Int32) + 4 * nI i + nI w = nI (43 + 4 * i + w) := by
  rw [show (43 : Int32) = nI 43 from rfl, show (4 : Int32) = nI 4 from rfl, pk_mul, nI_add, nI_add]

theorem k_ixr {i n : Nat} (h : i < n) (hn : n < 2147483648) : 0 ≤ nI i ∧ nI i < nI n := ⟨nI_pos' (by omega), nI_lt h hn⟩
theorem n_i1 {c : Nat} (hc : c ≤ 100) : (nI c).toInt64 - 1 = (nI c - 1).toInt64 := by
  apply Int64.toInt_inj.mp
  rw [Int32.toInt_toInt64, show nI c - (1 : Int32) = nI c - nI 1 from rfl, pk_sub_toInt (by omega) (by omega), q_sub, Int32.toInt_toInt64, nI_toInt (by omega)]
  · rfl
  · rw [Int32.toInt_toInt64, nI_toInt (by omega), show (1 : Int64).toInt = 1 from rfl]; omega
  · rw [Int32.toInt_toInt64, nI_toInt (by omega), show (1 : Int64).toInt = 1 from rfl]; omega
theorem n_in4 {i c : Nat} (h : i < c) (hc : c ≤ 100) : (0 : Int64) ≤ (nI i : Int32).toInt64 ∧ (nI i : Int32).toInt64 ≤ (nI c).toInt64 - 1 := by
  rw [n_i1 hc]
  exact (n_pr hc).mpr (k_ixr h (by omega))
theorem n_in4' {x : Int32} {c : Nat} (hc : c ≤ 24) (h : (0 : Int64) ≤ x.toInt64 ∧ x.toInt64 ≤ (nI c).toInt64 - 1) : 0 ≤ x ∧ x < nI c := by
  rw [n_i1 (by omega)] at h
  exact (n_pr (by omega)).mp h
theorem n_in3 {w : Nat} (h : w < 4) : 0 ≤ nI w ∧ nI w ≤ 3 := by
  rcases (show w = 0 ∨ w = 1 ∨ w = 2 ∨ w = 3 by omega) with rfl | rfl | rfl | rfl <;> decide

set_option maxRecDepth 100000 in
theorem n_aT_l (I : Nat → Nat → Int32) (J : Nat → Nat → Int64) (R G : Nat → Int64) (n : Nat) (hn : I 77 2 = nI n) (hn4 : n ≤ 4) (m : Nat) (hm : I 77 10 = nI m) (hm6 : m ≤ 6) (d z : Int32)  : ∀ (r i : Nat), i + r = m → m_W 104 83 [(0, .ref 77), (1, .int d), (2, .int z), (3, .int (nI i))] [] (I, (n_J J (n_opn R n i) G)) (m_E (some (.int (nI n + 1 - 1))) (m_ui I 77 2 (nI n + 1), n_J J (n_opn R n m) G)) := by
  intro r
  induction r with
  | zero =>
    intro i hir
    have hin : m = i := by omega
    subst hin
    refine c_run 3 (pc' := 88) (ls' := [(0, .ref 77), (1, .int d), (2, .int z), (3, .int (nI m))]) (st' := [.int (I 77 10), .int (nI m)]) (μ' := (I, (n_J J (n_opn R n m) G))) (Nat.le_of_ble_eq_true rfl) rfl ?_
    refine c_icge 116 (Nat.le_of_ble_eq_true rfl) rfl rfl (fun h1 => ?_) (fun h1 => absurd (by rw [hm]; exact nI_le (by omega) (by omega)) h1)
    refine c_run 10 (pc' := 132) (ls' := [(0, .ref 77), (1, .int d), (2, .int z), (3, .int (nI m))]) (st' := [.int (((I 77 2) + (1 : Int32)) - (1 : Int32))]) (μ' := ((m_ui I 77 2 ((I 77 2) + (1 : Int32))), (n_J J (n_opn R n m) G))) (Nat.le_of_ble_eq_true rfl) rfl ?_
    refine c_ret (Nat.le_of_ble_eq_true rfl) rfl rfl ⟨by decide, rfl⟩ ?_
    rw [hn]
    exact ⟨rfl, rfl⟩
  | succ r ih =>
    intro i hir
    refine c_run 3 (pc' := 88) (ls' := [(0, .ref 77), (1, .int d), (2, .int z), (3, .int (nI i))]) (st' := [.int (I 77 10), .int (nI i)]) (μ' := (I, (n_J J (n_opn R n i) G))) (Nat.le_of_ble_eq_true rfl) rfl ?_
    refine c_icge 116 (Nat.le_of_ble_eq_true rfl) rfl rfl (fun h1 => absurd h1 (by rw [hm]; exact nI_ge (by omega) (by omega))) (fun h1 => ?_)
    refine c_run 4 (pc' := 97) (ls' := [(0, .ref 77), (1, .int d), (2, .int z), (3, .int (nI i))]) (st' := [.int 0, .int (nI i), .ref 78]) (μ' := (I, (n_J J (n_opn R n i) G))) (Nat.le_of_ble_eq_true rfl) rfl ?_
    refine c_cs 102 [.int (nI i), .int 0] (r := [.ref 78]) (Nat.le_of_ble_eq_true rfl) rfl (Or.inl rfl) rfl rfl rfl (t_at2 I (n_J J (n_opn R n i) G) i 0) ?_
    rintro _ _ ⟨rfl, rfl⟩
    show m_W 104 100 [(0, .ref 77), (1, .int d), (2, .int z), (3, .int (nI i))] [.int (nI (20 + 3 * i + 0)), .ref 78] (I, (n_J J (n_opn R n i) G)) _
    refine c_run 1 (pc' := 101) (ls' := [(0, .ref 77), (1, .int d), (2, .int z), (3, .int (nI i))]) (st' := [.int (nI (20 + 3 * i + 0)), .ref 78, .int (nI (20 + 3 * i + 0)), .ref 78]) (μ' := (I, (n_J J (n_opn R n i) G))) (Nat.le_of_ble_eq_true rfl) rfl ?_
    refine c_lal (20 + 3 * i + 0) 140 (Nat.le_of_ble_eq_true rfl) rfl rfl rfl rfl rfl (by omega) ?_
    show m_W 104 102 [(0, .ref 77), (1, .int d), (2, .int z), (3, .int (nI i))] [.long ((n_opn R n i) (20 + 3 * i + 0)), .int (nI (20 + 3 * i + 0)), .ref 78] (I, (n_J J (n_opn R n i) G)) _
    refine c_run 5 (pc' := 109) (ls' := [(0, .ref 77), (1, .int d), (2, .int z), (3, .int (nI i))]) (st' := [.long (((n_opn R n i) (20 + 3 * i + 0)) ||| ((1 : Int64) <<< (((I 77 2) : Int32).toInt64 &&& 63))), .int (nI (20 + 3 * i + 0)), .ref 78]) (μ' := (I, (n_J J (n_opn R n i) G))) (Nat.le_of_ble_eq_true rfl) rfl ?_
    refine c_las (20 + 3 * i + 0) 140 (Nat.le_of_ble_eq_true rfl) rfl rfl rfl rfl rfl (by omega) ?_
    show m_W 104 110 [(0, .ref 77), (1, .int d), (2, .int z), (3, .int (nI i))] [] (I, m_uj (n_J J (n_opn R n i) G) 78 (20 + 3 * i + 0) (((n_opn R n i) (20 + 3 * i + 0)) ||| ((1 : Int64) <<< (((I 77 2) : Int32).toInt64 &&& 63)))) _
    rw [n_JR]
    show m_W 104 110 [(0, .ref 77), (1, .int d), (2, .int z), (3, .int (nI i))] [] (I, (n_J J (r_u (n_opn R n i) (20 + 3 * i + 0) (((n_opn R n i) (20 + 3 * i + 0)) ||| ((1 : Int64) <<< (((I 77 2) : Int32).toInt64 &&& 63)))) G)) _
    refine c_run 2 (pc' := 83) (ls' := [(3, .int ((nI i) + (1 : Int32))), (0, .ref 77), (1, .int d), (2, .int z)]) (st' := []) (μ' := (I, (n_J J (r_u (n_opn R n i) (20 + 3 * i + 0) (((n_opn R n i) (20 + 3 * i + 0)) ||| ((1 : Int64) <<< (((I 77 2) : Int32).toInt64 &&& 63)))) G))) (Nat.le_of_ble_eq_true rfl) rfl ?_
    refine c_w [1, 2, 3, 0] (ls' := [(0, .ref 77), (1, .int d), (2, .int z), (3, .int ((nI i) + (1 : Int32)))]) rfl ?_
    rw [nI_1 i, show (r_u (n_opn R n i) (20 + 3 * i + 0) (((n_opn R n i) (20 + 3 * i + 0)) ||| ((1 : Int64) <<< (((I 77 2) : Int32).toInt64 &&& 63)))) = n_opn R n (i + 1) from by rw [hn]; rfl]
    exact ih (i + 1) (by omega)

set_option maxRecDepth 100000 in
theorem n_addTank (I : Nat → Nat → Int32) (J : Nat → Nat → Int64) (R G : Nat → Int64) (d r : Int32) (n : Nat) (hn : I 77 2 = nI n) (hn4 : n ≤ 4) (m : Nat) (hm : I 77 10 = nI m) (hm6 : m ≤ 6)  : m_W 104 0 (lv_args 0 [.ref 77, .int d, .int r]) [] (I, (n_J J R G)) (m_E (some (.int (w_addT I J R G n m d r).1)) (w_addT I J R G n m d r).2) := by
  show m_W 104 0 [(0, .ref 77), (1, .int d), (2, .int r)] [] (I, (n_J J R G)) _
  refine c_run 4 (pc' := 6) (ls' := [(0, .ref 77), (1, .int d), (2, .int r)]) (st' := [.long 3000, .long 1, .long ((d : Int32).toInt64)]) (μ' := (I, (n_J J R G))) (Nat.le_of_ble_eq_true rfl) rfl ?_
  refine c_cs 95 [.long ((d : Int32).toInt64), .long 1, .long 3000] (r := []) (Nat.le_of_ble_eq_true rfl) rfl (Or.inl rfl) rfl rfl rfl (t_in32 I (n_J J R G) d 1 3000) ?_
  rintro _ _ ⟨rfl, rfl⟩
  show m_W 104 9 [(0, .ref 77), (1, .int d), (2, .int r)] [.int (s01 (1 ≤ d ∧ d ≤ 3000))] (I, (n_J J R G)) _
  refine c_ifeq 24 (Nat.le_of_ble_eq_true rfl) rfl rfl (fun h1 => ?_) (fun h1 => ?_)
  · replace h1 := s01_0.mp h1
    refine c_run 1 (pc' := 25) (ls' := [(0, .ref 77), (1, .int d), (2, .int r)]) (st' := [.int (-1)]) (μ' := (I, (n_J J R G))) (Nat.le_of_ble_eq_true rfl) rfl ?_
    refine c_ret (Nat.le_of_ble_eq_true rfl) rfl rfl ⟨by decide, rfl⟩ ?_
    unfold w_addT; rw [if_neg h1]
    first | exact ⟨rfl, rfl⟩ | (refine ⟨?_, ?_⟩ <;> first | rfl | (simp only [r_us]; done))
  · replace h1 := s01_1.mp h1
    refine c_run 4 (pc' := 18) (ls' := [(0, .ref 77), (1, .int d), (2, .int r)]) (st' := [.long 1000000000, .long 0, .long ((r : Int32).toInt64)]) (μ' := (I, (n_J J R G))) (Nat.le_of_ble_eq_true rfl) rfl ?_
    refine c_cs 95 [.long ((r : Int32).toInt64), .long 0, .long 1000000000] (r := []) (Nat.le_of_ble_eq_true rfl) rfl (Or.inl rfl) rfl rfl rfl (t_in32 I (n_J J R G) r 0 1000000000) ?_
    rintro _ _ ⟨rfl, rfl⟩
    show m_W 104 21 [(0, .ref 77), (1, .int d), (2, .int r)] [.int (s01 (0 ≤ r ∧ r ≤ 1000000000))] (I, (n_J J R G)) _
    refine c_ifne 26 (Nat.le_of_ble_eq_true rfl) rfl rfl (fun h2 => ?_) (fun h2 => ?_)
    · replace h2 := s01_1.mp h2
      refine c_run 1 (pc' := 27) (ls' := [(0, .ref 77), (1, .int d), (2, .int r)]) (st' := [.ref 77]) (μ' := (I, (n_J J R G))) (Nat.le_of_ble_eq_true rfl) rfl ?_
      refine c_cv 100 [] (b := 77) (r := []) (Nat.le_of_ble_eq_true rfl) rfl rfl rfl rfl rfl rfl (n_burns I (n_J J R G)) ?_
      rintro _ _ ⟨rfl, rfl⟩
      show m_W 104 30 [(0, .ref 77), (1, .int d), (2, .int r)] [.int (s01 (0 ≤ (R 39)))] (I, (n_J J R G)) _
      refine c_ifeq 36 (Nat.le_of_ble_eq_true rfl) rfl rfl (fun h3 => ?_) (fun h3 => ?_)
      · replace h3 := s01_0.mp h3
        refine c_run 3 (pc' := 41) (ls' := [(0, .ref 77), (1, .int d), (2, .int r)]) (st' := [.int 4, .int (I 77 2)]) (μ' := (I, (n_J J R G))) (Nat.le_of_ble_eq_true rfl) rfl ?_
        rw [hn]
        refine c_icne 47 (Nat.le_of_ble_eq_true rfl) rfl rfl (fun h4 => ?_) (fun h4 => ?_)
        · skip
          refine c_run 6 (pc' := 57) (ls' := [(0, .ref 77), (1, .int d), (2, .int r)]) (st' := [.long ((d : Int32).toInt64), .int (I 77 2), .ref 80]) (μ' := (I, (n_J J R G))) (Nat.le_of_ble_eq_true rfl) rfl ?_
          refine c_las n 4 (Nat.le_of_ble_eq_true rfl) rfl rfl rfl rfl hn (by first | omega | exact Nat.lt_of_le_of_ne hn4 (fun q => absurd (show nI n = 4 by rw [q]; rfl) (by assumption))) ?_
          show m_W 104 58 [(0, .ref 77), (1, .int d), (2, .int r)] [] (I, m_uj (n_J J R G) 80 n ((d : Int32).toInt64)) _
          rw [n_JO (by decide) (by decide)]
          show m_W 104 58 [(0, .ref 77), (1, .int d), (2, .int r)] [] (I, (n_J (m_uj J 80 n ((d : Int32).toInt64)) R G)) _
          refine c_run 6 (pc' := 68) (ls' := [(0, .ref 77), (1, .int d), (2, .int r)]) (st' := [.long ((r : Int32).toInt64), .int (I 77 2), .ref 81]) (μ' := (I, (n_J (m_uj J 80 n ((d : Int32).toInt64)) R G))) (Nat.le_of_ble_eq_true rfl) rfl ?_
          refine c_las n 4 (Nat.le_of_ble_eq_true rfl) rfl rfl rfl rfl hn (by first | omega | exact Nat.lt_of_le_of_ne hn4 (fun q => absurd (show nI n = 4 by rw [q]; rfl) (by assumption))) ?_
          show m_W 104 69 [(0, .ref 77), (1, .int d), (2, .int r)] [] (I, m_uj (n_J (m_uj J 80 n ((d : Int32).toInt64)) R G) 81 n ((r : Int32).toInt64)) _
          rw [n_JO (by decide) (by decide)]
          show m_W 104 69 [(0, .ref 77), (1, .int d), (2, .int r)] [] (I, (n_J (m_uj (m_uj J 80 n ((d : Int32).toInt64)) 81 n ((r : Int32).toInt64)) R G)) _
          refine c_run 5 (pc' := 80) (ls' := [(0, .ref 77), (1, .int d), (2, .int r)]) (st' := [.long 1000000, .int (I 77 2), .ref 82]) (μ' := (I, (n_J (m_uj (m_uj J 80 n ((d : Int32).toInt64)) 81 n ((r : Int32).toInt64)) R G))) (Nat.le_of_ble_eq_true rfl) rfl ?_
          refine c_las n 4 (Nat.le_of_ble_eq_true rfl) rfl rfl rfl rfl hn (by first | omega | exact Nat.lt_of_le_of_ne hn4 (fun q => absurd (show nI n = 4 by rw [q]; rfl) (by assumption))) ?_
          show m_W 104 81 [(0, .ref 77), (1, .int d), (2, .int r)] [] (I, m_uj (n_J (m_uj (m_uj J 80 n ((d : Int32).toInt64)) 81 n ((r : Int32).toInt64)) R G) 82 n 1000000) _
          rw [n_JO (by decide) (by decide)]
          show m_W 104 81 [(0, .ref 77), (1, .int d), (2, .int r)] [] (I, (n_J (m_uj (m_uj (m_uj J 80 n ((d : Int32).toInt64)) 81 n ((r : Int32).toInt64)) 82 n 1000000) R G)) _
          refine c_run 2 (pc' := 83) (ls' := [(3, .int 0), (0, .ref 77), (1, .int d), (2, .int r)]) (st' := []) (μ' := (I, (n_J (m_uj (m_uj (m_uj J 80 n ((d : Int32).toInt64)) 81 n ((r : Int32).toInt64)) 82 n 1000000) R G))) (Nat.le_of_ble_eq_true rfl) rfl ?_
          refine c_w [1, 2, 3, 0] (ls' := [(0, .ref 77), (1, .int d), (2, .int r), (3, .int 0)]) rfl ?_
          unfold w_addT; rw [if_pos h1, if_pos h2, if_neg h3, if_neg h4]
          exact n_aT_l I (m_uj (m_uj (m_uj J 80 n d.toInt64) 81 n r.toInt64) 82 n 1000000) R G n hn hn4 m hm hm6 d r m 0 (by omega)
        · skip
          refine c_run 1 (pc' := 46) (ls' := [(0, .ref 77), (1, .int d), (2, .int r)]) (st' := [.int (-3)]) (μ' := (I, (n_J J R G))) (Nat.le_of_ble_eq_true rfl) rfl ?_
          refine c_ret (Nat.le_of_ble_eq_true rfl) rfl rfl ⟨by decide, rfl⟩ ?_
          unfold w_addT; rw [if_pos h1, if_pos h2, if_neg h3, if_pos h4]
          first | exact ⟨rfl, rfl⟩ | (refine ⟨?_, ?_⟩ <;> first | rfl | (simp only [r_us]; done))
      · replace h3 := s01_1.mp h3
        refine c_run 1 (pc' := 35) (ls' := [(0, .ref 77), (1, .int d), (2, .int r)]) (st' := [.int (-2)]) (μ' := (I, (n_J J R G))) (Nat.le_of_ble_eq_true rfl) rfl ?_
        refine c_ret (Nat.le_of_ble_eq_true rfl) rfl rfl ⟨by decide, rfl⟩ ?_
        unfold w_addT; rw [if_pos h1, if_pos h2, if_pos h3]
        first | exact ⟨rfl, rfl⟩ | (refine ⟨?_, ?_⟩ <;> first | rfl | (simp only [r_us]; done))
    · replace h2 := s01_0.mp h2
      refine c_run 1 (pc' := 25) (ls' := [(0, .ref 77), (1, .int d), (2, .int r)]) (st' := [.int (-1)]) (μ' := (I, (n_J J R G))) (Nat.le_of_ble_eq_true rfl) rfl ?_
      refine c_ret (Nat.le_of_ble_eq_true rfl) rfl rfl ⟨by decide, rfl⟩ ?_
      unfold w_addT; rw [if_pos h1, if_neg h2]
      first | exact ⟨rfl, rfl⟩ | (refine ⟨?_, ?_⟩ <;> first | rfl | (simp only [r_us]; done))

set_option maxRecDepth 100000 in
theorem n_load (I : Nat → Nat → Int32) (J : Nat → Nat → Int64) (R G : Nat → Int64) (t m u : Int32) (n : Nat) (hn : I 77 2 = nI n) (hn4 : n ≤ 4)  : m_W 108 0 (lv_args 0 [.ref 77, .int t, .int m, .int u]) [] (I, (n_J J R G)) (m_E (some (.long (w_load R n t m u).1)) (I, n_J J (w_load R n t m u).2 G)) := by
  show m_W 108 0 [(0, .ref 77), (1, .int t), (2, .int m), (3, .int u)] [] (I, (n_J J R G)) _
  refine c_run 2 (pc' := 2) (ls' := [(0, .ref 77), (1, .int t), (2, .int m), (3, .int u)]) (st' := [.int t, .ref 77]) (μ' := (I, (n_J J R G))) (Nat.le_of_ble_eq_true rfl) rfl ?_
  refine c_cv 98 [.int t] (b := 77) (r := []) (Nat.le_of_ble_eq_true rfl) rfl rfl rfl rfl rfl rfl (n_isT I (n_J J R G) t n hn hn4) ?_
  rintro _ _ ⟨rfl, rfl⟩
  show m_W 108 5 [(0, .ref 77), (1, .int t), (2, .int m), (3, .int u)] [.int (s01 (0 ≤ t ∧ t < nI n))] (I, (n_J J R G)) _
  refine c_ifeq 32 (Nat.le_of_ble_eq_true rfl) rfl rfl (fun h1 => ?_) (fun h1 => ?_)
  · replace h1 := s01_0.mp h1
    refine c_run 1 (pc' := 35) (ls' := [(0, .ref 77), (1, .int t), (2, .int m), (3, .int u)]) (st' := [.long (-1)]) (μ' := (I, (n_J J R G))) (Nat.le_of_ble_eq_true rfl) rfl ?_
    refine c_lret (Nat.le_of_ble_eq_true rfl) rfl rfl ?_
    unfold w_load; rw [if_neg h1]
    try unfold n_ld
    first | exact ⟨rfl, rfl⟩ | (refine ⟨?_, ?_⟩ <;> first | rfl | (simp only [r_us]; done))
  · replace h1 := s01_1.mp h1
    refine c_run 4 (pc' := 14) (ls' := [(0, .ref 77), (1, .int t), (2, .int m), (3, .int u)]) (st' := [.long 1000000000, .long 0, .long ((m : Int32).toInt64)]) (μ' := (I, (n_J J R G))) (Nat.le_of_ble_eq_true rfl) rfl ?_
    refine c_cs 95 [.long ((m : Int32).toInt64), .long 0, .long 1000000000] (r := []) (Nat.le_of_ble_eq_true rfl) rfl (Or.inl rfl) rfl rfl rfl (t_in32 I (n_J J R G) m 0 1000000000) ?_
    rintro _ _ ⟨rfl, rfl⟩
    show m_W 108 17 [(0, .ref 77), (1, .int t), (2, .int m), (3, .int u)] [.int (s01 (0 ≤ m ∧ m ≤ 1000000000))] (I, (n_J J R G)) _
    refine c_ifeq 32 (Nat.le_of_ble_eq_true rfl) rfl rfl (fun h2 => ?_) (fun h2 => ?_)
    · replace h2 := s01_0.mp h2
      refine c_run 1 (pc' := 35) (ls' := [(0, .ref 77), (1, .int t), (2, .int m), (3, .int u)]) (st' := [.long (-1)]) (μ' := (I, (n_J J R G))) (Nat.le_of_ble_eq_true rfl) rfl ?_
      refine c_lret (Nat.le_of_ble_eq_true rfl) rfl rfl ?_
      unfold w_load; rw [if_pos h1, if_neg h2]
      try unfold n_ld
      first | exact ⟨rfl, rfl⟩ | (refine ⟨?_, ?_⟩ <;> first | rfl | (simp only [r_us]; done))
    · replace h2 := s01_1.mp h2
      refine c_run 4 (pc' := 26) (ls' := [(0, .ref 77), (1, .int t), (2, .int m), (3, .int u)]) (st' := [.long 1000000, .long 0, .long ((u : Int32).toInt64)]) (μ' := (I, (n_J J R G))) (Nat.le_of_ble_eq_true rfl) rfl ?_
      refine c_cs 95 [.long ((u : Int32).toInt64), .long 0, .long 1000000] (r := []) (Nat.le_of_ble_eq_true rfl) rfl (Or.inl rfl) rfl rfl rfl (t_in32 I (n_J J R G) u 0 1000000) ?_
      rintro _ _ ⟨rfl, rfl⟩
      show m_W 108 29 [(0, .ref 77), (1, .int t), (2, .int m), (3, .int u)] [.int (s01 (0 ≤ u ∧ u ≤ 1000000))] (I, (n_J J R G)) _
      refine c_ifne 36 (Nat.le_of_ble_eq_true rfl) rfl rfl (fun h3 => ?_) (fun h3 => ?_)
      · replace h3 := s01_1.mp h3
        refine c_run 1 (pc' := 37) (ls' := [(0, .ref 77), (1, .int t), (2, .int m), (3, .int u)]) (st' := [.ref 77]) (μ' := (I, (n_J J R G))) (Nat.le_of_ble_eq_true rfl) rfl ?_
        refine c_cv 100 [] (b := 77) (r := []) (Nat.le_of_ble_eq_true rfl) rfl rfl rfl rfl rfl rfl (n_burns I (n_J J R G)) ?_
        rintro _ _ ⟨rfl, rfl⟩
        show m_W 108 40 [(0, .ref 77), (1, .int t), (2, .int m), (3, .int u)] [.int (s01 (0 ≤ (R 39)))] (I, (n_J J R G)) _
        refine c_ifeq 47 (Nat.le_of_ble_eq_true rfl) rfl rfl (fun h4 => ?_) (fun h4 => ?_)
        · replace h4 := s01_0.mp h4
          refine c_run 3 (pc' := 50) (ls' := [(0, .ref 77), (1, .int t), (2, .int m), (3, .int u)]) (st' := [.int 0, .int t, .ref 77]) (μ' := (I, (n_J J R G))) (Nat.le_of_ble_eq_true rfl) rfl ?_
          obtain ⟨i, hi, rfl⟩ : ∃ i, i < n ∧ t = nI i := k_ix (by assumption) (by omega)
          have hci : (nI i).toNatClampNeg = i := nI_clamp (by omega)
          refine c_cv 101 [.int (nI i), .int 0] (b := 77) (r := []) (Nat.le_of_ble_eq_true rfl) rfl rfl rfl rfl rfl rfl (n_of I (n_J J R G) i 0 (by omega)) ?_
          rintro _ _ ⟨rfl, rfl⟩
          show m_W 108 53 [(0, .ref 77), (1, .int (nI i)), (2, .int m), (3, .int u)] [.long (R (5 * i + 0))] (I, (n_J J R G)) _
          refine c_run 10 (pc' := 66) (ls' := [(4, .long (R (5 * i + 0))), (0, .ref 77), (1, .int (nI i)), (2, .int m), (3, .int u)]) (st' := [.long ((m : Int32).toInt64), .int (((5 : Int32) * (nI i)) + (0 : Int32)), .ref 78]) (μ' := (I, (n_J J R G))) (Nat.le_of_ble_eq_true rfl) rfl ?_
          refine c_las (5 * i + 0) 140 (Nat.le_of_ble_eq_true rfl) rfl rfl rfl rfl (n_5w i 0) (by omega) ?_
          show m_W 108 67 [(4, .long (R (5 * i + 0))), (0, .ref 77), (1, .int (nI i)), (2, .int m), (3, .int u)] [] (I, m_uj (n_J J R G) 78 (5 * i + 0) ((m : Int32).toInt64)) _
          rw [n_JR]
          show m_W 108 67 [(4, .long (R (5 * i + 0))), (0, .ref 77), (1, .int (nI i)), (2, .int m), (3, .int u)] [] (I, (n_J J (r_u R (5 * i + 0) ((m : Int32).toInt64)) G)) _
          refine c_run 9 (pc' := 78) (ls' := [(4, .long (R (5 * i + 0))), (0, .ref 77), (1, .int (nI i)), (2, .int m), (3, .int u)]) (st' := [.long ((m : Int32).toInt64), .int (((5 : Int32) * (nI i)) + (1 : Int32)), .ref 78]) (μ' := (I, (n_J J (r_u R (5 * i + 0) ((m : Int32).toInt64)) G))) (Nat.le_of_ble_eq_true rfl) rfl ?_
          refine c_las (5 * i + 1) 140 (Nat.le_of_ble_eq_true rfl) rfl rfl rfl rfl (n_5w i 1) (by omega) ?_
          show m_W 108 79 [(4, .long (R (5 * i + 0))), (0, .ref 77), (1, .int (nI i)), (2, .int m), (3, .int u)] [] (I, m_uj (n_J J (r_u R (5 * i + 0) ((m : Int32).toInt64)) G) 78 (5 * i + 1) ((m : Int32).toInt64)) _
          rw [n_JR]
          show m_W 108 79 [(4, .long (R (5 * i + 0))), (0, .ref 77), (1, .int (nI i)), (2, .int m), (3, .int u)] [] (I, (n_J J (r_u (r_u R (5 * i + 0) ((m : Int32).toInt64)) (5 * i + 1) ((m : Int32).toInt64)) G)) _
          refine c_run 9 (pc' := 90) (ls' := [(4, .long (R (5 * i + 0))), (0, .ref 77), (1, .int (nI i)), (2, .int m), (3, .int u)]) (st' := [.long ((m : Int32).toInt64), .int (((5 : Int32) * (nI i)) + (2 : Int32)), .ref 78]) (μ' := (I, (n_J J (r_u (r_u R (5 * i + 0) ((m : Int32).toInt64)) (5 * i + 1) ((m : Int32).toInt64)) G))) (Nat.le_of_ble_eq_true rfl) rfl ?_
          refine c_las (5 * i + 2) 140 (Nat.le_of_ble_eq_true rfl) rfl rfl rfl rfl (n_5w i 2) (by omega) ?_
          show m_W 108 91 [(4, .long (R (5 * i + 0))), (0, .ref 77), (1, .int (nI i)), (2, .int m), (3, .int u)] [] (I, m_uj (n_J J (r_u (r_u R (5 * i + 0) ((m : Int32).toInt64)) (5 * i + 1) ((m : Int32).toInt64)) G) 78 (5 * i + 2) ((m : Int32).toInt64)) _
          rw [n_JR]
          show m_W 108 91 [(4, .long (R (5 * i + 0))), (0, .ref 77), (1, .int (nI i)), (2, .int m), (3, .int u)] [] (I, (n_J J (r_u (r_u (r_u R (5 * i + 0) ((m : Int32).toInt64)) (5 * i + 1) ((m : Int32).toInt64)) (5 * i + 2) ((m : Int32).toInt64)) G)) _
          refine c_run 12 (pc' := 105) (ls' := [(4, .long (R (5 * i + 0))), (0, .ref 77), (1, .int (nI i)), (2, .int m), (3, .int u)]) (st' := [.long (((u : Int32).toInt64) * ((u : Int32).toInt64)), .int (((5 : Int32) * (nI i)) + (3 : Int32)), .ref 78]) (μ' := (I, (n_J J (r_u (r_u (r_u R (5 * i + 0) ((m : Int32).toInt64)) (5 * i + 1) ((m : Int32).toInt64)) (5 * i + 2) ((m : Int32).toInt64)) G))) (Nat.le_of_ble_eq_true rfl) rfl ?_
          refine c_las (5 * i + 3) 140 (Nat.le_of_ble_eq_true rfl) rfl rfl rfl rfl (n_5w i 3) (by omega) ?_
          show m_W 108 106 [(4, .long (R (5 * i + 0))), (0, .ref 77), (1, .int (nI i)), (2, .int m), (3, .int u)] [] (I, m_uj (n_J J (r_u (r_u (r_u R (5 * i + 0) ((m : Int32).toInt64)) (5 * i + 1) ((m : Int32).toInt64)) (5 * i + 2) ((m : Int32).toInt64)) G) 78 (5 * i + 3) (((u : Int32).toInt64) * ((u : Int32).toInt64))) _
          rw [n_JR]
          show m_W 108 106 [(4, .long (R (5 * i + 0))), (0, .ref 77), (1, .int (nI i)), (2, .int m), (3, .int u)] [] (I, (n_J J (r_u (r_u (r_u (r_u R (5 * i + 0) ((m : Int32).toInt64)) (5 * i + 1) ((m : Int32).toInt64)) (5 * i + 2) ((m : Int32).toInt64)) (5 * i + 3) (((u : Int32).toInt64) * ((u : Int32).toInt64))) G)) _
          refine c_run 5 (pc' := 111) (ls' := [(4, .long (R (5 * i + 0))), (0, .ref 77), (1, .int (nI i)), (2, .int m), (3, .int u)]) (st' := [.long ((m : Int32).toInt64), .int (nI i), .int 5, .ref 77]) (μ' := (I, (n_J J (r_u (r_u (r_u (r_u R (5 * i + 0) ((m : Int32).toInt64)) (5 * i + 1) ((m : Int32).toInt64)) (5 * i + 2) ((m : Int32).toInt64)) (5 * i + 3) (((u : Int32).toInt64) * ((u : Int32).toInt64))) G))) (Nat.le_of_ble_eq_true rfl) rfl ?_
          refine c_cv 103 [.int 5, .int (nI i), .long ((m : Int32).toInt64)] (b := 77) (r := []) (Nat.le_of_ble_eq_true rfl) rfl rfl rfl rfl rfl rfl (n_enters I J (r_u (r_u (r_u (r_u R (5 * i + 0) ((m : Int32).toInt64)) (5 * i + 1) ((m : Int32).toInt64)) (5 * i + 2) ((m : Int32).toInt64)) (5 * i + 3) (((u : Int32).toInt64) * ((u : Int32).toInt64))) G 5 (nI i) ((m : Int32).toInt64)) ?_
          rintro _ _ ⟨rfl, rfl⟩
          show m_W 108 114 [(4, .long (R (5 * i + 0))), (0, .ref 77), (1, .int (nI i)), (2, .int m), (3, .int u)] [] (I, (n_J J (n_ent (r_u (r_u (r_u (r_u R (5 * i + 0) ((m : Int32).toInt64)) (5 * i + 1) ((m : Int32).toInt64)) (5 * i + 2) ((m : Int32).toInt64)) (5 * i + 3) (((u : Int32).toInt64) * ((u : Int32).toInt64))) 5 (nI i) ((m : Int32).toInt64)) G)) _
          refine c_run 1 (pc' := 116) (ls' := [(4, .long (R (5 * i + 0))), (0, .ref 77), (1, .int (nI i)), (2, .int m), (3, .int u)]) (st' := [.long (R (5 * i + 0))]) (μ' := (I, (n_J J (n_ent (r_u (r_u (r_u (r_u R (5 * i + 0) ((m : Int32).toInt64)) (5 * i + 1) ((m : Int32).toInt64)) (5 * i + 2) ((m : Int32).toInt64)) (5 * i + 3) (((u : Int32).toInt64) * ((u : Int32).toInt64))) 5 (nI i) ((m : Int32).toInt64)) G))) (Nat.le_of_ble_eq_true rfl) rfl ?_
          refine c_lret (Nat.le_of_ble_eq_true rfl) rfl rfl ?_
          unfold w_load; first | rw [if_pos h1, if_pos h2, if_pos h3, if_neg h4, hci] | rw [if_pos h1, if_pos h2, if_pos h3, if_neg h4, hci] | (rw [if_pos h1, if_pos h2, if_pos h3, if_neg h4]; try simp only [hci])
          try unfold n_ld
          first | exact ⟨rfl, rfl⟩ | (refine ⟨?_, ?_⟩ <;> first | rfl | (simp only [r_us]; done))
        · replace h4 := s01_1.mp h4
          refine c_run 1 (pc' := 46) (ls' := [(0, .ref 77), (1, .int t), (2, .int m), (3, .int u)]) (st' := [.long (-2)]) (μ' := (I, (n_J J R G))) (Nat.le_of_ble_eq_true rfl) rfl ?_
          refine c_lret (Nat.le_of_ble_eq_true rfl) rfl rfl ?_
          unfold w_load; rw [if_pos h1, if_pos h2, if_pos h3, if_pos h4]
          try unfold n_ld
          first | exact ⟨rfl, rfl⟩ | (refine ⟨?_, ?_⟩ <;> first | rfl | (simp only [r_us]; done))
      · replace h3 := s01_0.mp h3
        refine c_run 1 (pc' := 35) (ls' := [(0, .ref 77), (1, .int t), (2, .int m), (3, .int u)]) (st' := [.long (-1)]) (μ' := (I, (n_J J R G))) (Nat.le_of_ble_eq_true rfl) rfl ?_
        refine c_lret (Nat.le_of_ble_eq_true rfl) rfl rfl ?_
        unfold w_load; rw [if_pos h1, if_pos h2, if_neg h3]
        try unfold n_ld
        first | exact ⟨rfl, rfl⟩ | (refine ⟨?_, ?_⟩ <;> first | rfl | (simp only [r_us]; done))

set_option maxRecDepth 100000 in
theorem n_setLeak (I : Nat → Nat → Int32) (J : Nat → Nat → Int64) (R G : Nat → Int64) (t r : Int32) (n : Nat) (hn : I 77 2 = nI n) (hn4 : n ≤ 4)  : m_W 109 0 (lv_args 0 [.ref 77, .int t, .int r]) [] (I, (n_J J R G)) (m_E (some (.int (w_leak I n t r).1)) ((w_leak I n t r).2, n_J J R G)) := by
  show m_W 109 0 [(0, .ref 77), (1, .int t), (2, .int r)] [] (I, (n_J J R G)) _
  refine c_run 2 (pc' := 2) (ls' := [(0, .ref 77), (1, .int t), (2, .int r)]) (st' := [.int t, .ref 77]) (μ' := (I, (n_J J R G))) (Nat.le_of_ble_eq_true rfl) rfl ?_
  refine c_cv 98 [.int t] (b := 77) (r := []) (Nat.le_of_ble_eq_true rfl) rfl rfl rfl rfl rfl rfl (n_isT I (n_J J R G) t n hn hn4) ?_
  rintro _ _ ⟨rfl, rfl⟩
  show m_W 109 5 [(0, .ref 77), (1, .int t), (2, .int r)] [.int (s01 (0 ≤ t ∧ t < nI n))] (I, (n_J J R G)) _
  refine c_ifeq 20 (Nat.le_of_ble_eq_true rfl) rfl rfl (fun h1 => ?_) (fun h1 => ?_)
  · replace h1 := s01_0.mp h1
    refine c_run 1 (pc' := 21) (ls' := [(0, .ref 77), (1, .int t), (2, .int r)]) (st' := [.int (-1)]) (μ' := (I, (n_J J R G))) (Nat.le_of_ble_eq_true rfl) rfl ?_
    refine c_ret (Nat.le_of_ble_eq_true rfl) rfl rfl ⟨by decide, rfl⟩ ?_
    unfold w_leak; rw [if_neg h1]
    first | exact ⟨rfl, rfl⟩ | (refine ⟨?_, ?_⟩ <;> first | rfl | (simp only [r_us]; done))
  · replace h1 := s01_1.mp h1
    refine c_run 4 (pc' := 14) (ls' := [(0, .ref 77), (1, .int t), (2, .int r)]) (st' := [.long 1000, .long 0, .long ((r : Int32).toInt64)]) (μ' := (I, (n_J J R G))) (Nat.le_of_ble_eq_true rfl) rfl ?_
    refine c_cs 95 [.long ((r : Int32).toInt64), .long 0, .long 1000] (r := []) (Nat.le_of_ble_eq_true rfl) rfl (Or.inl rfl) rfl rfl rfl (t_in32 I (n_J J R G) r 0 1000) ?_
    rintro _ _ ⟨rfl, rfl⟩
    show m_W 109 17 [(0, .ref 77), (1, .int t), (2, .int r)] [.int (s01 (0 ≤ r ∧ r ≤ 1000))] (I, (n_J J R G)) _
    refine c_ifne 22 (Nat.le_of_ble_eq_true rfl) rfl rfl (fun h2 => ?_) (fun h2 => ?_)
    · replace h2 := s01_1.mp h2
      refine c_run 3 (pc' := 27) (ls' := [(0, .ref 77), (1, .int t), (2, .int r)]) (st' := [.int t, .ref 83]) (μ' := (I, (n_J J R G))) (Nat.le_of_ble_eq_true rfl) rfl ?_
      obtain ⟨i, hi, rfl⟩ : ∃ i, i < n ∧ t = nI i := k_ix (by assumption) (by omega)
      have hci : (nI i).toNatClampNeg = i := nI_clamp (by omega)
      refine c_ial i 4 (Nat.le_of_ble_eq_true rfl) rfl rfl rfl rfl rfl (by omega) ?_
      show m_W 109 28 [(0, .ref 77), (1, .int (nI i)), (2, .int r)] [.int (I 83 i)] (I, (n_J J R G)) _
      refine c_run 5 (pc' := 35) (ls' := [(3, .int (I 83 i)), (0, .ref 77), (1, .int (nI i)), (2, .int r)]) (st' := [.int r, .int (nI i), .ref 83]) (μ' := (I, (n_J J R G))) (Nat.le_of_ble_eq_true rfl) rfl ?_
      refine c_ias i 4 (Nat.le_of_ble_eq_true rfl) rfl rfl rfl rfl rfl (by omega) ?_
      show m_W 109 36 [(3, .int (I 83 i)), (0, .ref 77), (1, .int (nI i)), (2, .int r)] [] ((m_ui I 83 i r), (n_J J R G)) _
      refine c_run 1 (pc' := 37) (ls' := [(3, .int (I 83 i)), (0, .ref 77), (1, .int (nI i)), (2, .int r)]) (st' := [.int (I 83 i)]) (μ' := ((m_ui I 83 i r), (n_J J R G))) (Nat.le_of_ble_eq_true rfl) rfl ?_
      refine c_ret (Nat.le_of_ble_eq_true rfl) rfl rfl ⟨by decide, rfl⟩ ?_
      unfold w_leak; first | rw [if_pos h1, if_pos h2, hci] | rw [if_pos h1, if_pos h2, hci] | (rw [if_pos h1, if_pos h2]; try simp only [hci])
      first | exact ⟨rfl, rfl⟩ | (refine ⟨?_, ?_⟩ <;> first | rfl | (simp only [r_us]; done))
    · replace h2 := s01_0.mp h2
      refine c_run 1 (pc' := 21) (ls' := [(0, .ref 77), (1, .int t), (2, .int r)]) (st' := [.int (-1)]) (μ' := (I, (n_J J R G))) (Nat.le_of_ble_eq_true rfl) rfl ?_
      refine c_ret (Nat.le_of_ble_eq_true rfl) rfl rfl ⟨by decide, rfl⟩ ?_
      unfold w_leak; rw [if_pos h1, if_neg h2]
      first | exact ⟨rfl, rfl⟩ | (refine ⟨?_, ?_⟩ <;> first | rfl | (simp only [r_us]; done))

set_option maxRecDepth 100000 in
theorem n_setGV (I : Nat → Nat → Int32) (J : Nat → Nat → Int64) (R G : Nat → Int64) (t : Int32) (v : Int64) (n : Nat) (hn : I 77 2 = nI n) (hn4 : n ≤ 4)  : m_W 110 0 (lv_args 0 [.ref 77, .int t, .long v]) [] (I, (n_J J R G)) (m_E (some (.long (w_gv J n t v).1)) (I, n_J (w_gv J n t v).2 R G)) := by
  show m_W 110 0 [(0, .ref 77), (1, .int t), (2, .long v)] [] (I, (n_J J R G)) _
  refine c_run 2 (pc' := 2) (ls' := [(0, .ref 77), (1, .int t), (2, .long v)]) (st' := [.int t, .ref 77]) (μ' := (I, (n_J J R G))) (Nat.le_of_ble_eq_true rfl) rfl ?_
  refine c_cv 98 [.int t] (b := 77) (r := []) (Nat.le_of_ble_eq_true rfl) rfl rfl rfl rfl rfl rfl (n_isT I (n_J J R G) t n hn hn4) ?_
  rintro _ _ ⟨rfl, rfl⟩
  show m_W 110 5 [(0, .ref 77), (1, .int t), (2, .long v)] [.int (s01 (0 ≤ t ∧ t < nI n))] (I, (n_J J R G)) _
  refine c_ifeq 19 (Nat.le_of_ble_eq_true rfl) rfl rfl (fun h1 => ?_) (fun h1 => ?_)
  · replace h1 := s01_0.mp h1
    refine c_run 1 (pc' := 22) (ls' := [(0, .ref 77), (1, .int t), (2, .long v)]) (st' := [.long (-1)]) (μ' := (I, (n_J J R G))) (Nat.le_of_ble_eq_true rfl) rfl ?_
    refine c_lret (Nat.le_of_ble_eq_true rfl) rfl rfl ?_
    unfold w_gv; rw [if_neg h1]
    first | exact ⟨rfl, rfl⟩ | (refine ⟨?_, ?_⟩ <;> first | rfl | (simp only [r_us]; done))
  · replace h1 := s01_1.mp h1
    refine c_run 3 (pc' := 13) (ls' := [(0, .ref 77), (1, .int t), (2, .long v)]) (st' := [.long 1000000000000, .long 1, .long v]) (μ' := (I, (n_J J R G))) (Nat.le_of_ble_eq_true rfl) rfl ?_
    refine c_cs 95 [.long v, .long 1, .long 1000000000000] (r := []) (Nat.le_of_ble_eq_true rfl) rfl (Or.inl rfl) rfl rfl rfl (t_in I (n_J J R G) v 1 1000000000000) ?_
    rintro _ _ ⟨rfl, rfl⟩
    show m_W 110 16 [(0, .ref 77), (1, .int t), (2, .long v)] [.int (s01 ((1 : Int64) ≤ v ∧ v ≤ (1000000000000 : Int64)))] (I, (n_J J R G)) _
    refine c_ifne 23 (Nat.le_of_ble_eq_true rfl) rfl rfl (fun h2 => ?_) (fun h2 => ?_)
    · replace h2 := s01_1.mp h2
      refine c_run 3 (pc' := 28) (ls' := [(0, .ref 77), (1, .int t), (2, .long v)]) (st' := [.int t, .ref 82]) (μ' := (I, (n_J J R G))) (Nat.le_of_ble_eq_true rfl) rfl ?_
      obtain ⟨i, hi, rfl⟩ : ∃ i, i < n ∧ t = nI i := k_ix (by assumption) (by omega)
      have hci : (nI i).toNatClampNeg = i := nI_clamp (by omega)
      refine c_lal i 4 (Nat.le_of_ble_eq_true rfl) rfl rfl rfl rfl rfl (by omega) ?_
      show m_W 110 29 [(0, .ref 77), (1, .int (nI i)), (2, .long v)] [.long (J 82 i)] (I, (n_J J R G)) _
      refine c_run 5 (pc' := 37) (ls' := [(4, .long (J 82 i)), (0, .ref 77), (1, .int (nI i)), (2, .long v)]) (st' := [.long v, .int (nI i), .ref 82]) (μ' := (I, (n_J J R G))) (Nat.le_of_ble_eq_true rfl) rfl ?_
      refine c_las i 4 (Nat.le_of_ble_eq_true rfl) rfl rfl rfl rfl rfl (by omega) ?_
      show m_W 110 38 [(4, .long (J 82 i)), (0, .ref 77), (1, .int (nI i)), (2, .long v)] [] (I, m_uj (n_J J R G) 82 i v) _
      rw [n_JO (by decide) (by decide)]
      show m_W 110 38 [(4, .long (J 82 i)), (0, .ref 77), (1, .int (nI i)), (2, .long v)] [] (I, (n_J (m_uj J 82 i v) R G)) _
      refine c_run 1 (pc' := 40) (ls' := [(4, .long (J 82 i)), (0, .ref 77), (1, .int (nI i)), (2, .long v)]) (st' := [.long (J 82 i)]) (μ' := (I, (n_J (m_uj J 82 i v) R G))) (Nat.le_of_ble_eq_true rfl) rfl ?_
      refine c_lret (Nat.le_of_ble_eq_true rfl) rfl rfl ?_
      unfold w_gv; first | rw [if_pos h1, if_pos h2, hci] | rw [if_pos h1, if_pos h2, hci] | (rw [if_pos h1, if_pos h2]; try simp only [hci])
      first | exact ⟨rfl, rfl⟩ | (refine ⟨?_, ?_⟩ <;> first | rfl | (simp only [r_us]; done))
    · replace h2 := s01_0.mp h2
      refine c_run 1 (pc' := 22) (ls' := [(0, .ref 77), (1, .int t), (2, .long v)]) (st' := [.long (-1)]) (μ' := (I, (n_J J R G))) (Nat.le_of_ble_eq_true rfl) rfl ?_
      refine c_lret (Nat.le_of_ble_eq_true rfl) rfl rfl ?_
      unfold w_gv; rw [if_pos h1, if_neg h2]
      first | exact ⟨rfl, rfl⟩ | (refine ⟨?_, ?_⟩ <;> first | rfl | (simp only [r_us]; done))

set_option maxRecDepth 100000 in
theorem n_tankCount (I : Nat → Nat → Int32) (J : Nat → Nat → Int64)  : m_W 111 0 (lv_args 0 [.ref 77]) [] (I, J) (m_E (some (.int (I 77 2))) (I, J)) := by
  show m_W 111 0 [(0, .ref 77)] [] (I, J) _
  refine c_run 2 (pc' := 4) (ls' := [(0, .ref 77)]) (st' := [.int (I 77 2)]) (μ' := (I, J)) (Nat.le_of_ble_eq_true rfl) rfl ?_
  refine c_ret (Nat.le_of_ble_eq_true rfl) rfl rfl ⟨by decide, rfl⟩ ?_
  exact ⟨rfl, rfl⟩

set_option maxRecDepth 100000 in
theorem n_time (I : Nat → Nat → Int32) (J : Nat → Nat → Int64) (R G : Nat → Int64)  : m_W 129 0 (lv_args 0 [.ref 77]) [] (I, (n_J J R G)) (m_E (some (.int (R 38).toInt32)) (I, n_J J R G)) := by
  show m_W 129 0 [(0, .ref 77)] [] (I, (n_J J R G)) _
  refine c_run 3 (pc' := 6) (ls' := [(0, .ref 77)]) (st' := [.int 38, .ref 78]) (μ' := (I, (n_J J R G))) (Nat.le_of_ble_eq_true rfl) rfl ?_
  refine c_lal 38 140 (Nat.le_of_ble_eq_true rfl) rfl rfl rfl rfl rfl (by decide) ?_
  show m_W 129 7 [(0, .ref 77)] [.long (R 38)] (I, (n_J J R G)) _
  refine c_run 1 (pc' := 8) (ls' := [(0, .ref 77)]) (st' := [.int (((R 38) : Int64).toInt32)]) (μ' := (I, (n_J J R G))) (Nat.le_of_ble_eq_true rfl) rfl ?_
  refine c_ret (Nat.le_of_ble_eq_true rfl) rfl rfl ⟨by decide, rfl⟩ ?_
  exact ⟨rfl, rfl⟩

set_option maxRecDepth 100000 in
theorem n_entryCount (I : Nat → Nat → Int32) (J : Nat → Nat → Int64) (R G : Nat → Int64)  : m_W 135 0 (lv_args 0 [.ref 77]) [] (I, (n_J J R G)) (m_E (some (.int (R 42).toInt32)) (I, n_J J R G)) := by
  show m_W 135 0 [(0, .ref 77)] [] (I, (n_J J R G)) _
  refine c_run 3 (pc' := 6) (ls' := [(0, .ref 77)]) (st' := [.int 42, .ref 78]) (μ' := (I, (n_J J R G))) (Nat.le_of_ble_eq_true rfl) rfl ?_
  refine c_lal 42 140 (Nat.le_of_ble_eq_true rfl) rfl rfl rfl rfl rfl (by decide) ?_
  show m_W 135 7 [(0, .ref 77)] [.long (R 42)] (I, (n_J J R G)) _
  refine c_run 1 (pc' := 8) (ls' := [(0, .ref 77)]) (st' := [.int (((R 42) : Int64).toInt32)]) (μ' := (I, (n_J J R G))) (Nat.le_of_ble_eq_true rfl) rfl ?_
  refine c_ret (Nat.le_of_ble_eq_true rfl) rfl rfl ⟨by decide, rfl⟩ ?_
  exact ⟨rfl, rfl⟩

set_option maxRecDepth 100000 in
theorem n_usable (I : Nat → Nat → Int32) (J : Nat → Nat → Int64) (R G : Nat → Int64) (i : Nat) (hi : i < 4) (v : Nat) (hv : R (5 * i + 3) = lN v) (hv2 : v ≤ 1000000000000001)  : m_W 112 0 (lv_args 0 [.ref 77, .int (nI i)]) [] (I, (n_J J R G)) (m_E (some (.long (n_us R (J 81) (I 91 2) i))) (I, n_J J R G)) := by
  show m_W 112 0 [(0, .ref 77), (1, .int (nI i))] [] (I, (n_J J R G)) _
  refine c_run 3 (pc' := 3) (ls' := [(0, .ref 77), (1, .int (nI i))]) (st' := [.int 2, .int (nI i), .ref 77]) (μ' := (I, (n_J J R G))) (Nat.le_of_ble_eq_true rfl) rfl ?_
  refine c_cv 101 [.int (nI i), .int 2] (b := 77) (r := []) (Nat.le_of_ble_eq_true rfl) rfl rfl rfl rfl rfl rfl (n_of I (n_J J R G) i 2 (by omega)) ?_
  rintro _ _ ⟨rfl, rfl⟩
  show m_W 112 6 [(0, .ref 77), (1, .int (nI i))] [.long (R (5 * i + 2))] (I, (n_J J R G)) _
  refine c_run 3 (pc' := 11) (ls' := [(0, .ref 77), (1, .int (nI i))]) (st' := [.int (nI i), .ref 81, .long (R (5 * i + 2))]) (μ' := (I, (n_J J R G))) (Nat.le_of_ble_eq_true rfl) rfl ?_
  refine c_lal i 4 (Nat.le_of_ble_eq_true rfl) rfl rfl rfl rfl rfl (by omega) ?_
  show m_W 112 12 [(0, .ref 77), (1, .int (nI i))] [.long (J 81 i), .long (R (5 * i + 2))] (I, (n_J J R G)) _
  refine c_run 4 (pc' := 18) (ls' := [(0, .ref 77), (1, .int (nI i))]) (st' := [.int 2, .ref 91, .long ((R (5 * i + 2)) - (J 81 i))]) (μ' := (I, (n_J J R G))) (Nat.le_of_ble_eq_true rfl) rfl ?_
  refine c_ial 2 3 (Nat.le_of_ble_eq_true rfl) rfl rfl rfl rfl rfl (by decide) ?_
  show m_W 112 19 [(0, .ref 77), (1, .int (nI i))] [.int (I 91 2), .long ((R (5 * i + 2)) - (J 81 i))] (I, (n_J J R G)) _
  refine c_run 4 (pc' := 23) (ls' := [(0, .ref 77), (1, .int (nI i))]) (st' := [.int 3, .int (nI i), .ref 77, .long (((I 91 2) : Int32).toInt64), .long ((R (5 * i + 2)) - (J 81 i))]) (μ' := (I, (n_J J R G))) (Nat.le_of_ble_eq_true rfl) rfl ?_
  refine c_cv 101 [.int (nI i), .int 3] (b := 77) (r := [.long (((I 91 2) : Int32).toInt64), .long ((R (5 * i + 2)) - (J 81 i))]) (Nat.le_of_ble_eq_true rfl) rfl rfl rfl rfl rfl rfl (n_of I (n_J J R G) i 3 (by omega)) ?_
  rintro _ _ ⟨rfl, rfl⟩
  show m_W 112 26 [(0, .ref 77), (1, .int (nI i))] [.long (R (5 * i + 3)), .long (((I 91 2) : Int32).toInt64), .long ((R (5 * i + 2)) - (J 81 i))] (I, (n_J J R G)) _
  refine c_cs 97 [.long (R (5 * i + 3))] (r := [.long (((I 91 2) : Int32).toInt64), .long ((R (5 * i + 2)) - (J 81 i))]) (Nat.le_of_ble_eq_true rfl) rfl (Or.inl rfl) rfl rfl rfl ((hv ▸ t_rt I (n_J J R G) v (by omega) : m_W 97 0 (lv_args 0 [.long (R (5 * i + 3))]) [] (I, (n_J J R G)) (m_E (some (.long (s_rt (R (5 * i + 3))))) (I, (n_J J R G))))) ?_
  rintro _ _ ⟨rfl, rfl⟩
  show m_W 112 29 [(0, .ref 77), (1, .int (nI i))] [.long (s_rt (R (5 * i + 3))), .long (((I 91 2) : Int32).toInt64), .long ((R (5 * i + 2)) - (J 81 i))] (I, (n_J J R G)) _
  refine c_run 2 (pc' := 33) (ls' := [(0, .ref 77), (1, .int (nI i))]) (st' := [.long 10, .long ((((I 91 2) : Int32).toInt64) * (s_rt (R (5 * i + 3)))), .long ((R (5 * i + 2)) - (J 81 i))]) (μ' := (I, (n_J J R G))) (Nat.le_of_ble_eq_true rfl) rfl ?_
  refine c_cs 96 [.long ((((I 91 2) : Int32).toInt64) * (s_rt (R (5 * i + 3)))), .long 10] (r := [.long ((R (5 * i + 2)) - (J 81 i))]) (Nat.le_of_ble_eq_true rfl) rfl (Or.inl rfl) rfl rfl rfl (t_floor I (n_J J R G) ((((I 91 2) : Int32).toInt64) * (s_rt (R (5 * i + 3)))) (10 : Int64) (by decide)) ?_
  rintro _ _ ⟨rfl, rfl⟩
  show m_W 112 36 [(0, .ref 77), (1, .int (nI i))] [.long (s_fl ((((I 91 2) : Int32).toInt64) * (s_rt (R (5 * i + 3)))) (10 : Int64)), .long ((R (5 * i + 2)) - (J 81 i))] (I, (n_J J R G)) _
  refine c_run 5 (pc' := 41) (ls' := [(2, .long (((R (5 * i + 2)) - (J 81 i)) - (s_fl ((((I 91 2) : Int32).toInt64) * (s_rt (R (5 * i + 3)))) (10 : Int64)))), (0, .ref 77), (1, .int (nI i))]) (st' := [.int (lg_cmp (((R (5 * i + 2)) - (J 81 i)) - (s_fl ((((I 91 2) : Int32).toInt64) * (s_rt (R (5 * i + 3)))) (10 : Int64))) 0)]) (μ' := (I, (n_J J R G))) (Nat.le_of_ble_eq_true rfl) rfl ?_
  refine c_ifge 48 (Nat.le_of_ble_eq_true rfl) rfl rfl (fun h1 => ?_) (fun h1 => ?_)
  · replace h1 := lc_ge.mp h1
    refine c_run 1 (pc' := 49) (ls' := [(2, .long (((R (5 * i + 2)) - (J 81 i)) - (s_fl ((((I 91 2) : Int32).toInt64) * (s_rt (R (5 * i + 3)))) (10 : Int64)))), (0, .ref 77), (1, .int (nI i))]) (st' := [.long (((R (5 * i + 2)) - (J 81 i)) - (s_fl ((((I 91 2) : Int32).toInt64) * (s_rt (R (5 * i + 3)))) (10 : Int64)))]) (μ' := (I, (n_J J R G))) (Nat.le_of_ble_eq_true rfl) rfl ?_
    refine c_lret (Nat.le_of_ble_eq_true rfl) rfl rfl ?_
    unfold n_us n_mx; rw [if_pos h1]
    exact ⟨rfl, rfl⟩
  · replace h1 := mt lc_ge.mpr h1
    refine c_run 2 (pc' := 49) (ls' := [(2, .long (((R (5 * i + 2)) - (J 81 i)) - (s_fl ((((I 91 2) : Int32).toInt64) * (s_rt (R (5 * i + 3)))) (10 : Int64)))), (0, .ref 77), (1, .int (nI i))]) (st' := [.long 0]) (μ' := (I, (n_J J R G))) (Nat.le_of_ble_eq_true rfl) rfl ?_
    refine c_lret (Nat.le_of_ble_eq_true rfl) rfl rfl ?_
    unfold n_us n_mx; rw [if_neg h1]
    exact ⟨rfl, rfl⟩

set_option maxRecDepth 100000 in
theorem n_mass_0 (I : Nat → Nat → Int32) (J : Nat → Nat → Int64) (R G : Nat → Int64) (i : Nat)  (n : Nat) (hn : I 77 2 = nI n) (hn4 : n ≤ 4) (hi : i < n) (v : Nat) (hv : R (5 * i + 3) = lN v) (hv2 : v ≤ 1000000000000001)  : m_W 113 0 (lv_args 0 [.ref 77, .int (nI i), .int 0]) [] (I, (n_J J R G)) (m_E (some (.long (R (5 * i + 0)))) (I, n_J J R G)) := by
  show m_W 113 0 [(0, .ref 77), (1, .int (nI i)), (2, .int 0)] [] (I, (n_J J R G)) _
  refine c_run 2 (pc' := 2) (ls' := [(0, .ref 77), (1, .int (nI i)), (2, .int 0)]) (st' := [.int (nI i), .ref 77]) (μ' := (I, (n_J J R G))) (Nat.le_of_ble_eq_true rfl) rfl ?_
  refine c_cv 98 [.int (nI i)] (b := 77) (r := []) (Nat.le_of_ble_eq_true rfl) rfl rfl rfl rfl rfl rfl (n_isT I (n_J J R G) (nI i) n hn hn4) ?_
  rintro _ _ ⟨rfl, rfl⟩
  show m_W 113 5 [(0, .ref 77), (1, .int (nI i)), (2, .int 0)] [.int (s01 (0 ≤ (nI i) ∧ (nI i) < nI n))] (I, (n_J J R G)) _
  refine c_ifeq 20 (Nat.le_of_ble_eq_true rfl) rfl rfl (fun h1 => absurd h1 (s01_1.mpr (k_ixr hi (by omega)))) (fun h1 => ?_)
  refine c_run 4 (pc' := 14) (ls' := [(0, .ref 77), (1, .int (nI i)), (2, .int 0)]) (st' := [.long 5, .long 0, .long ((0 : Int32).toInt64)]) (μ' := (I, (n_J J R G))) (Nat.le_of_ble_eq_true rfl) rfl ?_
  refine c_cs 95 [.long ((0 : Int32).toInt64), .long 0, .long 5] (r := []) (Nat.le_of_ble_eq_true rfl) rfl (Or.inl rfl) rfl rfl rfl (t_in32 I (n_J J R G) 0 0 5) ?_
  rintro _ _ ⟨rfl, rfl⟩
  show m_W 113 17 [(0, .ref 77), (1, .int (nI i)), (2, .int 0)] [.int (s01 (0 ≤ 0 ∧ 0 ≤ 5))] (I, (n_J J R G)) _
  refine c_ifne 24 (Nat.le_of_ble_eq_true rfl) rfl rfl (fun h2 => ?_) (fun h2 => absurd h2 (by decide))
  refine c_run 2 (pc' := 26) (ls' := [(0, .ref 77), (1, .int (nI i)), (2, .int 0)]) (st' := [.int 3, .int 0]) (μ' := (I, (n_J J R G))) (Nat.le_of_ble_eq_true rfl) rfl ?_
  refine c_icge 38 (Nat.le_of_ble_eq_true rfl) rfl rfl (fun h3 => absurd h3 (by decide)) (fun h3 => ?_)
  refine c_run 3 (pc' := 32) (ls' := [(0, .ref 77), (1, .int (nI i)), (2, .int 0)]) (st' := [.int 0, .int (nI i), .ref 77]) (μ' := (I, (n_J J R G))) (Nat.le_of_ble_eq_true rfl) rfl ?_
  refine c_cv 101 [.int (nI i), .int 0] (b := 77) (r := []) (Nat.le_of_ble_eq_true rfl) rfl rfl rfl rfl rfl rfl (n_of I (n_J J R G) i 0 (by omega)) ?_
  rintro _ _ ⟨rfl, rfl⟩
  show m_W 113 35 [(0, .ref 77), (1, .int (nI i)), (2, .int 0)] [.long (R (5 * i + 0))] (I, (n_J J R G)) _
  refine c_run 1 (pc' := 71) (ls' := [(0, .ref 77), (1, .int (nI i)), (2, .int 0)]) (st' := [.long (R (5 * i + 0))]) (μ' := (I, (n_J J R G))) (Nat.le_of_ble_eq_true rfl) rfl ?_
  refine c_lret (Nat.le_of_ble_eq_true rfl) rfl rfl ?_
  exact ⟨rfl, rfl⟩

set_option maxRecDepth 100000 in
theorem n_mass_1 (I : Nat → Nat → Int32) (J : Nat → Nat → Int64) (R G : Nat → Int64) (i : Nat)  (n : Nat) (hn : I 77 2 = nI n) (hn4 : n ≤ 4) (hi : i < n) (v : Nat) (hv : R (5 * i + 3) = lN v) (hv2 : v ≤ 1000000000000001)  : m_W 113 0 (lv_args 0 [.ref 77, .int (nI i), .int 1]) [] (I, (n_J J R G)) (m_E (some (.long (R (5 * i + 1)))) (I, n_J J R G)) := by
  show m_W 113 0 [(0, .ref 77), (1, .int (nI i)), (2, .int 1)] [] (I, (n_J J R G)) _
  refine c_run 2 (pc' := 2) (ls' := [(0, .ref 77), (1, .int (nI i)), (2, .int 1)]) (st' := [.int (nI i), .ref 77]) (μ' := (I, (n_J J R G))) (Nat.le_of_ble_eq_true rfl) rfl ?_
  refine c_cv 98 [.int (nI i)] (b := 77) (r := []) (Nat.le_of_ble_eq_true rfl) rfl rfl rfl rfl rfl rfl (n_isT I (n_J J R G) (nI i) n hn hn4) ?_
  rintro _ _ ⟨rfl, rfl⟩
  show m_W 113 5 [(0, .ref 77), (1, .int (nI i)), (2, .int 1)] [.int (s01 (0 ≤ (nI i) ∧ (nI i) < nI n))] (I, (n_J J R G)) _
  refine c_ifeq 20 (Nat.le_of_ble_eq_true rfl) rfl rfl (fun h1 => absurd h1 (s01_1.mpr (k_ixr hi (by omega)))) (fun h1 => ?_)
  refine c_run 4 (pc' := 14) (ls' := [(0, .ref 77), (1, .int (nI i)), (2, .int 1)]) (st' := [.long 5, .long 0, .long ((1 : Int32).toInt64)]) (μ' := (I, (n_J J R G))) (Nat.le_of_ble_eq_true rfl) rfl ?_
  refine c_cs 95 [.long ((1 : Int32).toInt64), .long 0, .long 5] (r := []) (Nat.le_of_ble_eq_true rfl) rfl (Or.inl rfl) rfl rfl rfl (t_in32 I (n_J J R G) 1 0 5) ?_
  rintro _ _ ⟨rfl, rfl⟩
  show m_W 113 17 [(0, .ref 77), (1, .int (nI i)), (2, .int 1)] [.int (s01 (0 ≤ 1 ∧ 1 ≤ 5))] (I, (n_J J R G)) _
  refine c_ifne 24 (Nat.le_of_ble_eq_true rfl) rfl rfl (fun h2 => ?_) (fun h2 => absurd h2 (by decide))
  refine c_run 2 (pc' := 26) (ls' := [(0, .ref 77), (1, .int (nI i)), (2, .int 1)]) (st' := [.int 3, .int 1]) (μ' := (I, (n_J J R G))) (Nat.le_of_ble_eq_true rfl) rfl ?_
  refine c_icge 38 (Nat.le_of_ble_eq_true rfl) rfl rfl (fun h3 => absurd h3 (by decide)) (fun h3 => ?_)
  refine c_run 3 (pc' := 32) (ls' := [(0, .ref 77), (1, .int (nI i)), (2, .int 1)]) (st' := [.int 1, .int (nI i), .ref 77]) (μ' := (I, (n_J J R G))) (Nat.le_of_ble_eq_true rfl) rfl ?_
  refine c_cv 101 [.int (nI i), .int 1] (b := 77) (r := []) (Nat.le_of_ble_eq_true rfl) rfl rfl rfl rfl rfl rfl (n_of I (n_J J R G) i 1 (by omega)) ?_
  rintro _ _ ⟨rfl, rfl⟩
  show m_W 113 35 [(0, .ref 77), (1, .int (nI i)), (2, .int 1)] [.long (R (5 * i + 1))] (I, (n_J J R G)) _
  refine c_run 1 (pc' := 71) (ls' := [(0, .ref 77), (1, .int (nI i)), (2, .int 1)]) (st' := [.long (R (5 * i + 1))]) (μ' := (I, (n_J J R G))) (Nat.le_of_ble_eq_true rfl) rfl ?_
  refine c_lret (Nat.le_of_ble_eq_true rfl) rfl rfl ?_
  exact ⟨rfl, rfl⟩

set_option maxRecDepth 100000 in
theorem n_mass_2 (I : Nat → Nat → Int32) (J : Nat → Nat → Int64) (R G : Nat → Int64) (i : Nat)  (n : Nat) (hn : I 77 2 = nI n) (hn4 : n ≤ 4) (hi : i < n) (v : Nat) (hv : R (5 * i + 3) = lN v) (hv2 : v ≤ 1000000000000001)  : m_W 113 0 (lv_args 0 [.ref 77, .int (nI i), .int 2]) [] (I, (n_J J R G)) (m_E (some (.long (R (5 * i + 2)))) (I, n_J J R G)) := by
  show m_W 113 0 [(0, .ref 77), (1, .int (nI i)), (2, .int 2)] [] (I, (n_J J R G)) _
  refine c_run 2 (pc' := 2) (ls' := [(0, .ref 77), (1, .int (nI i)), (2, .int 2)]) (st' := [.int (nI i), .ref 77]) (μ' := (I, (n_J J R G))) (Nat.le_of_ble_eq_true rfl) rfl ?_
  refine c_cv 98 [.int (nI i)] (b := 77) (r := []) (Nat.le_of_ble_eq_true rfl) rfl rfl rfl rfl rfl rfl (n_isT I (n_J J R G) (nI i) n hn hn4) ?_
  rintro _ _ ⟨rfl, rfl⟩
  show m_W 113 5 [(0, .ref 77), (1, .int (nI i)), (2, .int 2)] [.int (s01 (0 ≤ (nI i) ∧ (nI i) < nI n))] (I, (n_J J R G)) _
  refine c_ifeq 20 (Nat.le_of_ble_eq_true rfl) rfl rfl (fun h1 => absurd h1 (s01_1.mpr (k_ixr hi (by omega)))) (fun h1 => ?_)
  refine c_run 4 (pc' := 14) (ls' := [(0, .ref 77), (1, .int (nI i)), (2, .int 2)]) (st' := [.long 5, .long 0, .long ((2 : Int32).toInt64)]) (μ' := (I, (n_J J R G))) (Nat.le_of_ble_eq_true rfl) rfl ?_
  refine c_cs 95 [.long ((2 : Int32).toInt64), .long 0, .long 5] (r := []) (Nat.le_of_ble_eq_true rfl) rfl (Or.inl rfl) rfl rfl rfl (t_in32 I (n_J J R G) 2 0 5) ?_
  rintro _ _ ⟨rfl, rfl⟩
  show m_W 113 17 [(0, .ref 77), (1, .int (nI i)), (2, .int 2)] [.int (s01 (0 ≤ 2 ∧ 2 ≤ 5))] (I, (n_J J R G)) _
  refine c_ifne 24 (Nat.le_of_ble_eq_true rfl) rfl rfl (fun h2 => ?_) (fun h2 => absurd h2 (by decide))
  refine c_run 2 (pc' := 26) (ls' := [(0, .ref 77), (1, .int (nI i)), (2, .int 2)]) (st' := [.int 3, .int 2]) (μ' := (I, (n_J J R G))) (Nat.le_of_ble_eq_true rfl) rfl ?_
  refine c_icge 38 (Nat.le_of_ble_eq_true rfl) rfl rfl (fun h3 => absurd h3 (by decide)) (fun h3 => ?_)
  refine c_run 3 (pc' := 32) (ls' := [(0, .ref 77), (1, .int (nI i)), (2, .int 2)]) (st' := [.int 2, .int (nI i), .ref 77]) (μ' := (I, (n_J J R G))) (Nat.le_of_ble_eq_true rfl) rfl ?_
  refine c_cv 101 [.int (nI i), .int 2] (b := 77) (r := []) (Nat.le_of_ble_eq_true rfl) rfl rfl rfl rfl rfl rfl (n_of I (n_J J R G) i 2 (by omega)) ?_
  rintro _ _ ⟨rfl, rfl⟩
  show m_W 113 35 [(0, .ref 77), (1, .int (nI i)), (2, .int 2)] [.long (R (5 * i + 2))] (I, (n_J J R G)) _
  refine c_run 1 (pc' := 71) (ls' := [(0, .ref 77), (1, .int (nI i)), (2, .int 2)]) (st' := [.long (R (5 * i + 2))]) (μ' := (I, (n_J J R G))) (Nat.le_of_ble_eq_true rfl) rfl ?_
  refine c_lret (Nat.le_of_ble_eq_true rfl) rfl rfl ?_
  exact ⟨rfl, rfl⟩

set_option maxRecDepth 100000 in
theorem n_mass_3 (I : Nat → Nat → Int32) (J : Nat → Nat → Int64) (R G : Nat → Int64) (i : Nat)  (n : Nat) (hn : I 77 2 = nI n) (hn4 : n ≤ 4) (hi : i < n) (v : Nat) (hv : R (5 * i + 3) = lN v) (hv2 : v ≤ 1000000000000001)  : m_W 113 0 (lv_args 0 [.ref 77, .int (nI i), .int 3]) [] (I, (n_J J R G)) (m_E (some (.long (n_us R (J 81) (I 91 2) i))) (I, n_J J R G)) := by
  show m_W 113 0 [(0, .ref 77), (1, .int (nI i)), (2, .int 3)] [] (I, (n_J J R G)) _
  refine c_run 2 (pc' := 2) (ls' := [(0, .ref 77), (1, .int (nI i)), (2, .int 3)]) (st' := [.int (nI i), .ref 77]) (μ' := (I, (n_J J R G))) (Nat.le_of_ble_eq_true rfl) rfl ?_
  refine c_cv 98 [.int (nI i)] (b := 77) (r := []) (Nat.le_of_ble_eq_true rfl) rfl rfl rfl rfl rfl rfl (n_isT I (n_J J R G) (nI i) n hn hn4) ?_
  rintro _ _ ⟨rfl, rfl⟩
  show m_W 113 5 [(0, .ref 77), (1, .int (nI i)), (2, .int 3)] [.int (s01 (0 ≤ (nI i) ∧ (nI i) < nI n))] (I, (n_J J R G)) _
  refine c_ifeq 20 (Nat.le_of_ble_eq_true rfl) rfl rfl (fun h1 => absurd h1 (s01_1.mpr (k_ixr hi (by omega)))) (fun h1 => ?_)
  refine c_run 4 (pc' := 14) (ls' := [(0, .ref 77), (1, .int (nI i)), (2, .int 3)]) (st' := [.long 5, .long 0, .long ((3 : Int32).toInt64)]) (μ' := (I, (n_J J R G))) (Nat.le_of_ble_eq_true rfl) rfl ?_
  refine c_cs 95 [.long ((3 : Int32).toInt64), .long 0, .long 5] (r := []) (Nat.le_of_ble_eq_true rfl) rfl (Or.inl rfl) rfl rfl rfl (t_in32 I (n_J J R G) 3 0 5) ?_
  rintro _ _ ⟨rfl, rfl⟩
  show m_W 113 17 [(0, .ref 77), (1, .int (nI i)), (2, .int 3)] [.int (s01 (0 ≤ 3 ∧ 3 ≤ 5))] (I, (n_J J R G)) _
  refine c_ifne 24 (Nat.le_of_ble_eq_true rfl) rfl rfl (fun h2 => ?_) (fun h2 => absurd h2 (by decide))
  refine c_run 2 (pc' := 26) (ls' := [(0, .ref 77), (1, .int (nI i)), (2, .int 3)]) (st' := [.int 3, .int 3]) (μ' := (I, (n_J J R G))) (Nat.le_of_ble_eq_true rfl) rfl ?_
  refine c_icge 38 (Nat.le_of_ble_eq_true rfl) rfl rfl (fun h3 => ?_) (fun h3 => absurd (by decide) h3)
  refine c_run 2 (pc' := 40) (ls' := [(0, .ref 77), (1, .int (nI i)), (2, .int 3)]) (st' := [.int 3, .int 3]) (μ' := (I, (n_J J R G))) (Nat.le_of_ble_eq_true rfl) rfl ?_
  refine c_icne 51 (Nat.le_of_ble_eq_true rfl) rfl rfl (fun h4 => absurd (by decide) h4) (fun h4 => ?_)
  refine c_run 2 (pc' := 45) (ls' := [(0, .ref 77), (1, .int (nI i)), (2, .int 3)]) (st' := [.int (nI i), .ref 77]) (μ' := (I, (n_J J R G))) (Nat.le_of_ble_eq_true rfl) rfl ?_
  refine c_cv 112 [.int (nI i)] (b := 77) (r := []) (Nat.le_of_ble_eq_true rfl) rfl rfl rfl rfl rfl rfl (n_usable I J R G i (by omega) v hv hv2) ?_
  rintro _ _ ⟨rfl, rfl⟩
  show m_W 113 48 [(0, .ref 77), (1, .int (nI i)), (2, .int 3)] [.long (n_us R (J 81) (I 91 2) i)] (I, (n_J J R G)) _
  refine c_run 1 (pc' := 71) (ls' := [(0, .ref 77), (1, .int (nI i)), (2, .int 3)]) (st' := [.long (n_us R (J 81) (I 91 2) i)]) (μ' := (I, (n_J J R G))) (Nat.le_of_ble_eq_true rfl) rfl ?_
  refine c_lret (Nat.le_of_ble_eq_true rfl) rfl rfl ?_
  exact ⟨rfl, rfl⟩

set_option maxRecDepth 100000 in
theorem n_mass_4 (I : Nat → Nat → Int32) (J : Nat → Nat → Int64) (R G : Nat → Int64) (i : Nat)  (n : Nat) (hn : I 77 2 = nI n) (hn4 : n ≤ 4) (hi : i < n) (v : Nat) (hv : R (5 * i + 3) = lN v) (hv2 : v ≤ 1000000000000001)  : m_W 113 0 (lv_args 0 [.ref 77, .int (nI i), .int 4]) [] (I, (n_J J R G)) (m_E (some (.long (J 81 i))) (I, n_J J R G)) := by
  show m_W 113 0 [(0, .ref 77), (1, .int (nI i)), (2, .int 4)] [] (I, (n_J J R G)) _
  refine c_run 2 (pc' := 2) (ls' := [(0, .ref 77), (1, .int (nI i)), (2, .int 4)]) (st' := [.int (nI i), .ref 77]) (μ' := (I, (n_J J R G))) (Nat.le_of_ble_eq_true rfl) rfl ?_
  refine c_cv 98 [.int (nI i)] (b := 77) (r := []) (Nat.le_of_ble_eq_true rfl) rfl rfl rfl rfl rfl rfl (n_isT I (n_J J R G) (nI i) n hn hn4) ?_
  rintro _ _ ⟨rfl, rfl⟩
  show m_W 113 5 [(0, .ref 77), (1, .int (nI i)), (2, .int 4)] [.int (s01 (0 ≤ (nI i) ∧ (nI i) < nI n))] (I, (n_J J R G)) _
  refine c_ifeq 20 (Nat.le_of_ble_eq_true rfl) rfl rfl (fun h1 => absurd h1 (s01_1.mpr (k_ixr hi (by omega)))) (fun h1 => ?_)
  refine c_run 4 (pc' := 14) (ls' := [(0, .ref 77), (1, .int (nI i)), (2, .int 4)]) (st' := [.long 5, .long 0, .long ((4 : Int32).toInt64)]) (μ' := (I, (n_J J R G))) (Nat.le_of_ble_eq_true rfl) rfl ?_
  refine c_cs 95 [.long ((4 : Int32).toInt64), .long 0, .long 5] (r := []) (Nat.le_of_ble_eq_true rfl) rfl (Or.inl rfl) rfl rfl rfl (t_in32 I (n_J J R G) 4 0 5) ?_
  rintro _ _ ⟨rfl, rfl⟩
  show m_W 113 17 [(0, .ref 77), (1, .int (nI i)), (2, .int 4)] [.int (s01 (0 ≤ 4 ∧ 4 ≤ 5))] (I, (n_J J R G)) _
  refine c_ifne 24 (Nat.le_of_ble_eq_true rfl) rfl rfl (fun h2 => ?_) (fun h2 => absurd h2 (by decide))
  refine c_run 2 (pc' := 26) (ls' := [(0, .ref 77), (1, .int (nI i)), (2, .int 4)]) (st' := [.int 3, .int 4]) (μ' := (I, (n_J J R G))) (Nat.le_of_ble_eq_true rfl) rfl ?_
  refine c_icge 38 (Nat.le_of_ble_eq_true rfl) rfl rfl (fun h3 => ?_) (fun h3 => absurd (by decide) h3)
  refine c_run 2 (pc' := 40) (ls' := [(0, .ref 77), (1, .int (nI i)), (2, .int 4)]) (st' := [.int 3, .int 4]) (μ' := (I, (n_J J R G))) (Nat.le_of_ble_eq_true rfl) rfl ?_
  refine c_icne 51 (Nat.le_of_ble_eq_true rfl) rfl rfl (fun h4 => ?_) (fun h4 => absurd h4 (by decide))
  refine c_run 2 (pc' := 53) (ls' := [(0, .ref 77), (1, .int (nI i)), (2, .int 4)]) (st' := [.int 4, .int 4]) (μ' := (I, (n_J J R G))) (Nat.le_of_ble_eq_true rfl) rfl ?_
  refine c_icne 65 (Nat.le_of_ble_eq_true rfl) rfl rfl (fun h5 => absurd (by decide) h5) (fun h5 => ?_)
  refine c_run 3 (pc' := 61) (ls' := [(0, .ref 77), (1, .int (nI i)), (2, .int 4)]) (st' := [.int (nI i), .ref 81]) (μ' := (I, (n_J J R G))) (Nat.le_of_ble_eq_true rfl) rfl ?_
  refine c_lal i 4 (Nat.le_of_ble_eq_true rfl) rfl rfl rfl rfl rfl (by omega) ?_
  show m_W 113 62 [(0, .ref 77), (1, .int (nI i)), (2, .int 4)] [.long (J 81 i)] (I, (n_J J R G)) _
  refine c_run 1 (pc' := 71) (ls' := [(0, .ref 77), (1, .int (nI i)), (2, .int 4)]) (st' := [.long (J 81 i)]) (μ' := (I, (n_J J R G))) (Nat.le_of_ble_eq_true rfl) rfl ?_
  refine c_lret (Nat.le_of_ble_eq_true rfl) rfl rfl ?_
  exact ⟨rfl, rfl⟩

set_option maxRecDepth 100000 in
theorem n_mass_5 (I : Nat → Nat → Int32) (J : Nat → Nat → Int64) (R G : Nat → Int64) (i : Nat)  (n : Nat) (hn : I 77 2 = nI n) (hn4 : n ≤ 4) (hi : i < n) (v : Nat) (hv : R (5 * i + 3) = lN v) (hv2 : v ≤ 1000000000000001)  : m_W 113 0 (lv_args 0 [.ref 77, .int (nI i), .int 5]) [] (I, (n_J J R G)) (m_E (some (.long (R (5 * i + 3)))) (I, n_J J R G)) := by
  show m_W 113 0 [(0, .ref 77), (1, .int (nI i)), (2, .int 5)] [] (I, (n_J J R G)) _
  refine c_run 2 (pc' := 2) (ls' := [(0, .ref 77), (1, .int (nI i)), (2, .int 5)]) (st' := [.int (nI i), .ref 77]) (μ' := (I, (n_J J R G))) (Nat.le_of_ble_eq_true rfl) rfl ?_
  refine c_cv 98 [.int (nI i)] (b := 77) (r := []) (Nat.le_of_ble_eq_true rfl) rfl rfl rfl rfl rfl rfl (n_isT I (n_J J R G) (nI i) n hn hn4) ?_
  rintro _ _ ⟨rfl, rfl⟩
  show m_W 113 5 [(0, .ref 77), (1, .int (nI i)), (2, .int 5)] [.int (s01 (0 ≤ (nI i) ∧ (nI i) < nI n))] (I, (n_J J R G)) _
  refine c_ifeq 20 (Nat.le_of_ble_eq_true rfl) rfl rfl (fun h1 => absurd h1 (s01_1.mpr (k_ixr hi (by omega)))) (fun h1 => ?_)
  refine c_run 4 (pc' := 14) (ls' := [(0, .ref 77), (1, .int (nI i)), (2, .int 5)]) (st' := [.long 5, .long 0, .long ((5 : Int32).toInt64)]) (μ' := (I, (n_J J R G))) (Nat.le_of_ble_eq_true rfl) rfl ?_
  refine c_cs 95 [.long ((5 : Int32).toInt64), .long 0, .long 5] (r := []) (Nat.le_of_ble_eq_true rfl) rfl (Or.inl rfl) rfl rfl rfl (t_in32 I (n_J J R G) 5 0 5) ?_
  rintro _ _ ⟨rfl, rfl⟩
  show m_W 113 17 [(0, .ref 77), (1, .int (nI i)), (2, .int 5)] [.int (s01 (0 ≤ 5 ∧ 5 ≤ 5))] (I, (n_J J R G)) _
  refine c_ifne 24 (Nat.le_of_ble_eq_true rfl) rfl rfl (fun h2 => ?_) (fun h2 => absurd h2 (by decide))
  refine c_run 2 (pc' := 26) (ls' := [(0, .ref 77), (1, .int (nI i)), (2, .int 5)]) (st' := [.int 3, .int 5]) (μ' := (I, (n_J J R G))) (Nat.le_of_ble_eq_true rfl) rfl ?_
  refine c_icge 38 (Nat.le_of_ble_eq_true rfl) rfl rfl (fun h3 => ?_) (fun h3 => absurd (by decide) h3)
  refine c_run 2 (pc' := 40) (ls' := [(0, .ref 77), (1, .int (nI i)), (2, .int 5)]) (st' := [.int 3, .int 5]) (μ' := (I, (n_J J R G))) (Nat.le_of_ble_eq_true rfl) rfl ?_
  refine c_icne 51 (Nat.le_of_ble_eq_true rfl) rfl rfl (fun h4 => ?_) (fun h4 => absurd h4 (by decide))
  refine c_run 2 (pc' := 53) (ls' := [(0, .ref 77), (1, .int (nI i)), (2, .int 5)]) (st' := [.int 4, .int 5]) (μ' := (I, (n_J J R G))) (Nat.le_of_ble_eq_true rfl) rfl ?_
  refine c_icne 65 (Nat.le_of_ble_eq_true rfl) rfl rfl (fun h5 => ?_) (fun h5 => absurd h5 (by decide))
  refine c_run 3 (pc' := 68) (ls' := [(0, .ref 77), (1, .int (nI i)), (2, .int 5)]) (st' := [.int 3, .int (nI i), .ref 77]) (μ' := (I, (n_J J R G))) (Nat.le_of_ble_eq_true rfl) rfl ?_
  refine c_cv 101 [.int (nI i), .int 3] (b := 77) (r := []) (Nat.le_of_ble_eq_true rfl) rfl rfl rfl rfl rfl rfl (n_of I (n_J J R G) i 3 (by omega)) ?_
  rintro _ _ ⟨rfl, rfl⟩
  show m_W 113 71 [(0, .ref 77), (1, .int (nI i)), (2, .int 5)] [.long (R (5 * i + 3))] (I, (n_J J R G)) _
  refine c_lret (Nat.le_of_ble_eq_true rfl) rfl rfl ?_
  exact ⟨rfl, rfl⟩

set_option maxRecDepth 100000 in
theorem n_mass_o (I : Nat → Nat → Int32) (J : Nat → Nat → Int64) (R G : Nat → Int64) (t w : Int32) (n : Nat) (hn : I 77 2 = nI n) (hn4 : n ≤ 4) (h : ¬ ((0 ≤ t ∧ t < nI n) ∧ (0 ≤ w ∧ w ≤ 5))) : m_W 113 0 (lv_args 0 [.ref 77, .int t, .int w]) [] (I, (n_J J R G)) (m_E (some (.long (-1))) (I, n_J J R G)) := by
  show m_W 113 0 [(0, .ref 77), (1, .int t), (2, .int w)] [] (I, (n_J J R G)) _
  refine c_run 2 (pc' := 2) (ls' := [(0, .ref 77), (1, .int t), (2, .int w)]) (st' := [.int t, .ref 77]) (μ' := (I, (n_J J R G))) (Nat.le_of_ble_eq_true rfl) rfl ?_
  refine c_cv 98 [.int t] (b := 77) (r := []) (Nat.le_of_ble_eq_true rfl) rfl rfl rfl rfl rfl rfl (n_isT I (n_J J R G) t n hn hn4) ?_
  rintro _ _ ⟨rfl, rfl⟩
  show m_W 113 5 [(0, .ref 77), (1, .int t), (2, .int w)] [.int (s01 (0 ≤ t ∧ t < nI n))] (I, (n_J J R G)) _
  refine c_ifeq 20 (Nat.le_of_ble_eq_true rfl) rfl rfl (fun h1 => ?_) (fun h1 => ?_)
  · replace h1 := s01_0.mp h1
    refine c_run 1 (pc' := 23) (ls' := [(0, .ref 77), (1, .int t), (2, .int w)]) (st' := [.long (-1)]) (μ' := (I, (n_J J R G))) (Nat.le_of_ble_eq_true rfl) rfl ?_
    refine c_lret (Nat.le_of_ble_eq_true rfl) rfl rfl ?_
    exact ⟨rfl, rfl⟩
  · replace h1 := s01_1.mp h1
    refine c_run 4 (pc' := 14) (ls' := [(0, .ref 77), (1, .int t), (2, .int w)]) (st' := [.long 5, .long 0, .long ((w : Int32).toInt64)]) (μ' := (I, (n_J J R G))) (Nat.le_of_ble_eq_true rfl) rfl ?_
    refine c_cs 95 [.long ((w : Int32).toInt64), .long 0, .long 5] (r := []) (Nat.le_of_ble_eq_true rfl) rfl (Or.inl rfl) rfl rfl rfl (t_in32 I (n_J J R G) w 0 5) ?_
    rintro _ _ ⟨rfl, rfl⟩
    show m_W 113 17 [(0, .ref 77), (1, .int t), (2, .int w)] [.int (s01 (0 ≤ w ∧ w ≤ 5))] (I, (n_J J R G)) _
    refine c_ifne 24 (Nat.le_of_ble_eq_true rfl) rfl rfl (fun h2 => absurd (And.intro (by assumption) (s01_1.mp h2)) h) (fun h2 => ?_)
    refine c_run 1 (pc' := 23) (ls' := [(0, .ref 77), (1, .int t), (2, .int w)]) (st' := [.long (-1)]) (μ' := (I, (n_J J R G))) (Nat.le_of_ble_eq_true rfl) rfl ?_
    refine c_lret (Nat.le_of_ble_eq_true rfl) rfl rfl ?_
    exact ⟨rfl, rfl⟩

set_option maxRecDepth 100000 in
theorem n_set_0 (I : Nat → Nat → Int32) (J : Nat → Nat → Int64) (v : Int32)  : m_W 114 0 (lv_args 0 [.ref 77, .int 0, .int v]) [] (I, J) (m_E (some (.int (if 0 ≤ v ∧ v ≤ 5000 then I 91 0 else -1))) ((if 0 ≤ v ∧ v ≤ 5000 then m_ui I 91 0 v else I), J)) := by
  show m_W 114 0 [(0, .ref 77), (1, .int 0), (2, .int v)] [] (I, J) _
  refine c_run 4 (pc' := 6) (ls' := [(0, .ref 77), (1, .int 0), (2, .int v)]) (st' := [.long 2, .long 0, .long ((0 : Int32).toInt64)]) (μ' := (I, J)) (Nat.le_of_ble_eq_true rfl) rfl ?_
  refine c_cs 95 [.long ((0 : Int32).toInt64), .long 0, .long 2] (r := []) (Nat.le_of_ble_eq_true rfl) rfl (Or.inl rfl) rfl rfl rfl (t_in32 I J 0 0 2) ?_
  rintro _ _ ⟨rfl, rfl⟩
  show m_W 114 9 [(0, .ref 77), (1, .int 0), (2, .int v)] [.int (s01 (0 ≤ 0 ∧ 0 ≤ 2))] (I, J) _
  refine c_ifeq 43 (Nat.le_of_ble_eq_true rfl) rfl rfl (fun h1 => absurd h1 (by decide)) (fun h1 => ?_)
  refine c_run 4 (pc' := 16) (ls' := [(0, .ref 77), (1, .int 0), (2, .int v)]) (st' := [.int 1, .int 0, .long ((v : Int32).toInt64)]) (μ' := (I, J)) (Nat.le_of_ble_eq_true rfl) rfl ?_
  refine c_icne 23 (Nat.le_of_ble_eq_true rfl) rfl rfl (fun h2 => ?_) (fun h2 => absurd h2 (by decide))
  refine c_run 2 (pc' := 25) (ls' := [(0, .ref 77), (1, .int 0), (2, .int v)]) (st' := [.int 0, .long 0, .long ((v : Int32).toInt64)]) (μ' := (I, J)) (Nat.le_of_ble_eq_true rfl) rfl ?_
  refine c_ifne 34 (Nat.le_of_ble_eq_true rfl) rfl rfl (fun h3 => absurd (by decide) h3) (fun h3 => ?_)
  refine c_run 2 (pc' := 37) (ls' := [(0, .ref 77), (1, .int 0), (2, .int v)]) (st' := [.long 5000, .long 0, .long ((v : Int32).toInt64)]) (μ' := (I, J)) (Nat.le_of_ble_eq_true rfl) rfl ?_
  refine c_cs 95 [.long ((v : Int32).toInt64), .long 0, .long 5000] (r := []) (Nat.le_of_ble_eq_true rfl) rfl (Or.inl rfl) rfl rfl rfl (t_in32 I J v 0 5000) ?_
  rintro _ _ ⟨rfl, rfl⟩
  show m_W 114 40 [(0, .ref 77), (1, .int 0), (2, .int v)] [.int (s01 (0 ≤ v ∧ v ≤ 5000))] (I, J) _
  refine c_ifne 45 (Nat.le_of_ble_eq_true rfl) rfl rfl (fun h4 => ?_) (fun h4 => ?_)
  · replace h4 := s01_1.mp h4
    refine c_run 3 (pc' := 50) (ls' := [(0, .ref 77), (1, .int 0), (2, .int v)]) (st' := [.int 0, .ref 91]) (μ' := (I, J)) (Nat.le_of_ble_eq_true rfl) rfl ?_
    refine c_ial 0 3 (Nat.le_of_ble_eq_true rfl) rfl rfl rfl rfl rfl (by decide) ?_
    show m_W 114 51 [(0, .ref 77), (1, .int 0), (2, .int v)] [.int (I 91 0)] (I, J) _
    refine c_run 5 (pc' := 58) (ls' := [(3, .int (I 91 0)), (0, .ref 77), (1, .int 0), (2, .int v)]) (st' := [.int v, .int 0, .ref 91]) (μ' := (I, J)) (Nat.le_of_ble_eq_true rfl) rfl ?_
    refine c_ias 0 3 (Nat.le_of_ble_eq_true rfl) rfl rfl rfl rfl rfl (by decide) ?_
    show m_W 114 59 [(3, .int (I 91 0)), (0, .ref 77), (1, .int 0), (2, .int v)] [] ((m_ui I 91 0 v), J) _
    refine c_run 1 (pc' := 60) (ls' := [(3, .int (I 91 0)), (0, .ref 77), (1, .int 0), (2, .int v)]) (st' := [.int (I 91 0)]) (μ' := ((m_ui I 91 0 v), J)) (Nat.le_of_ble_eq_true rfl) rfl ?_
    refine c_ret (Nat.le_of_ble_eq_true rfl) rfl rfl ⟨by decide, rfl⟩ ?_
    first | rw [if_pos (by assumption), if_pos (by assumption)] | rw [if_neg (by assumption), if_neg (by assumption)]
    exact ⟨rfl, rfl⟩
  · replace h4 := s01_0.mp h4
    refine c_run 1 (pc' := 44) (ls' := [(0, .ref 77), (1, .int 0), (2, .int v)]) (st' := [.int (-1)]) (μ' := (I, J)) (Nat.le_of_ble_eq_true rfl) rfl ?_
    refine c_ret (Nat.le_of_ble_eq_true rfl) rfl rfl ⟨by decide, rfl⟩ ?_
    first | rw [if_pos (by assumption), if_pos (by assumption)] | rw [if_neg (by assumption), if_neg (by assumption)]
    exact ⟨rfl, rfl⟩

set_option maxRecDepth 100000 in
theorem n_set_1 (I : Nat → Nat → Int32) (J : Nat → Nat → Int64) (v : Int32)  : m_W 114 0 (lv_args 0 [.ref 77, .int 1, .int v]) [] (I, J) (m_E (some (.int (if 1 ≤ v ∧ v ≤ 100 then I 91 1 else -1))) ((if 1 ≤ v ∧ v ≤ 100 then m_ui I 91 1 v else I), J)) := by
  show m_W 114 0 [(0, .ref 77), (1, .int 1), (2, .int v)] [] (I, J) _
  refine c_run 4 (pc' := 6) (ls' := [(0, .ref 77), (1, .int 1), (2, .int v)]) (st' := [.long 2, .long 0, .long ((1 : Int32).toInt64)]) (μ' := (I, J)) (Nat.le_of_ble_eq_true rfl) rfl ?_
  refine c_cs 95 [.long ((1 : Int32).toInt64), .long 0, .long 2] (r := []) (Nat.le_of_ble_eq_true rfl) rfl (Or.inl rfl) rfl rfl rfl (t_in32 I J 1 0 2) ?_
  rintro _ _ ⟨rfl, rfl⟩
  show m_W 114 9 [(0, .ref 77), (1, .int 1), (2, .int v)] [.int (s01 (0 ≤ 1 ∧ 1 ≤ 2))] (I, J) _
  refine c_ifeq 43 (Nat.le_of_ble_eq_true rfl) rfl rfl (fun h1 => absurd h1 (by decide)) (fun h1 => ?_)
  refine c_run 4 (pc' := 16) (ls' := [(0, .ref 77), (1, .int 1), (2, .int v)]) (st' := [.int 1, .int 1, .long ((v : Int32).toInt64)]) (μ' := (I, J)) (Nat.le_of_ble_eq_true rfl) rfl ?_
  refine c_icne 23 (Nat.le_of_ble_eq_true rfl) rfl rfl (fun h2 => absurd (by decide) h2) (fun h2 => ?_)
  refine c_run 3 (pc' := 25) (ls' := [(0, .ref 77), (1, .int 1), (2, .int v)]) (st' := [.int 1, .long 1, .long ((v : Int32).toInt64)]) (μ' := (I, J)) (Nat.le_of_ble_eq_true rfl) rfl ?_
  refine c_ifne 34 (Nat.le_of_ble_eq_true rfl) rfl rfl (fun h3 => ?_) (fun h3 => absurd h3 (by decide))
  refine c_run 1 (pc' := 37) (ls' := [(0, .ref 77), (1, .int 1), (2, .int v)]) (st' := [.long 100, .long 1, .long ((v : Int32).toInt64)]) (μ' := (I, J)) (Nat.le_of_ble_eq_true rfl) rfl ?_
  refine c_cs 95 [.long ((v : Int32).toInt64), .long 1, .long 100] (r := []) (Nat.le_of_ble_eq_true rfl) rfl (Or.inl rfl) rfl rfl rfl (t_in32 I J v 1 100) ?_
  rintro _ _ ⟨rfl, rfl⟩
  show m_W 114 40 [(0, .ref 77), (1, .int 1), (2, .int v)] [.int (s01 (1 ≤ v ∧ v ≤ 100))] (I, J) _
  refine c_ifne 45 (Nat.le_of_ble_eq_true rfl) rfl rfl (fun h4 => ?_) (fun h4 => ?_)
  · replace h4 := s01_1.mp h4
    refine c_run 3 (pc' := 50) (ls' := [(0, .ref 77), (1, .int 1), (2, .int v)]) (st' := [.int 1, .ref 91]) (μ' := (I, J)) (Nat.le_of_ble_eq_true rfl) rfl ?_
    refine c_ial 1 3 (Nat.le_of_ble_eq_true rfl) rfl rfl rfl rfl rfl (by decide) ?_
    show m_W 114 51 [(0, .ref 77), (1, .int 1), (2, .int v)] [.int (I 91 1)] (I, J) _
    refine c_run 5 (pc' := 58) (ls' := [(3, .int (I 91 1)), (0, .ref 77), (1, .int 1), (2, .int v)]) (st' := [.int v, .int 1, .ref 91]) (μ' := (I, J)) (Nat.le_of_ble_eq_true rfl) rfl ?_
    refine c_ias 1 3 (Nat.le_of_ble_eq_true rfl) rfl rfl rfl rfl rfl (by decide) ?_
    show m_W 114 59 [(3, .int (I 91 1)), (0, .ref 77), (1, .int 1), (2, .int v)] [] ((m_ui I 91 1 v), J) _
    refine c_run 1 (pc' := 60) (ls' := [(3, .int (I 91 1)), (0, .ref 77), (1, .int 1), (2, .int v)]) (st' := [.int (I 91 1)]) (μ' := ((m_ui I 91 1 v), J)) (Nat.le_of_ble_eq_true rfl) rfl ?_
    refine c_ret (Nat.le_of_ble_eq_true rfl) rfl rfl ⟨by decide, rfl⟩ ?_
    first | rw [if_pos (by assumption), if_pos (by assumption)] | rw [if_neg (by assumption), if_neg (by assumption)]
    exact ⟨rfl, rfl⟩
  · replace h4 := s01_0.mp h4
    refine c_run 1 (pc' := 44) (ls' := [(0, .ref 77), (1, .int 1), (2, .int v)]) (st' := [.int (-1)]) (μ' := (I, J)) (Nat.le_of_ble_eq_true rfl) rfl ?_
    refine c_ret (Nat.le_of_ble_eq_true rfl) rfl rfl ⟨by decide, rfl⟩ ?_
    first | rw [if_pos (by assumption), if_pos (by assumption)] | rw [if_neg (by assumption), if_neg (by assumption)]
    exact ⟨rfl, rfl⟩

set_option maxRecDepth 100000 in
theorem n_set_2 (I : Nat → Nat → Int32) (J : Nat → Nat → Int64) (v : Int32)  : m_W 114 0 (lv_args 0 [.ref 77, .int 2, .int v]) [] (I, J) (m_E (some (.int (if 0 ≤ v ∧ v ≤ 100 then I 91 2 else -1))) ((if 0 ≤ v ∧ v ≤ 100 then m_ui I 91 2 v else I), J)) := by
  show m_W 114 0 [(0, .ref 77), (1, .int 2), (2, .int v)] [] (I, J) _
  refine c_run 4 (pc' := 6) (ls' := [(0, .ref 77), (1, .int 2), (2, .int v)]) (st' := [.long 2, .long 0, .long ((2 : Int32).toInt64)]) (μ' := (I, J)) (Nat.le_of_ble_eq_true rfl) rfl ?_
  refine c_cs 95 [.long ((2 : Int32).toInt64), .long 0, .long 2] (r := []) (Nat.le_of_ble_eq_true rfl) rfl (Or.inl rfl) rfl rfl rfl (t_in32 I J 2 0 2) ?_
  rintro _ _ ⟨rfl, rfl⟩
  show m_W 114 9 [(0, .ref 77), (1, .int 2), (2, .int v)] [.int (s01 (0 ≤ 2 ∧ 2 ≤ 2))] (I, J) _
  refine c_ifeq 43 (Nat.le_of_ble_eq_true rfl) rfl rfl (fun h1 => absurd h1 (by decide)) (fun h1 => ?_)
  refine c_run 4 (pc' := 16) (ls' := [(0, .ref 77), (1, .int 2), (2, .int v)]) (st' := [.int 1, .int 2, .long ((v : Int32).toInt64)]) (μ' := (I, J)) (Nat.le_of_ble_eq_true rfl) rfl ?_
  refine c_icne 23 (Nat.le_of_ble_eq_true rfl) rfl rfl (fun h2 => ?_) (fun h2 => absurd h2 (by decide))
  refine c_run 2 (pc' := 25) (ls' := [(0, .ref 77), (1, .int 2), (2, .int v)]) (st' := [.int 2, .long 0, .long ((v : Int32).toInt64)]) (μ' := (I, J)) (Nat.le_of_ble_eq_true rfl) rfl ?_
  refine c_ifne 34 (Nat.le_of_ble_eq_true rfl) rfl rfl (fun h3 => ?_) (fun h3 => absurd h3 (by decide))
  refine c_run 1 (pc' := 37) (ls' := [(0, .ref 77), (1, .int 2), (2, .int v)]) (st' := [.long 100, .long 0, .long ((v : Int32).toInt64)]) (μ' := (I, J)) (Nat.le_of_ble_eq_true rfl) rfl ?_
  refine c_cs 95 [.long ((v : Int32).toInt64), .long 0, .long 100] (r := []) (Nat.le_of_ble_eq_true rfl) rfl (Or.inl rfl) rfl rfl rfl (t_in32 I J v 0 100) ?_
  rintro _ _ ⟨rfl, rfl⟩
  show m_W 114 40 [(0, .ref 77), (1, .int 2), (2, .int v)] [.int (s01 (0 ≤ v ∧ v ≤ 100))] (I, J) _
  refine c_ifne 45 (Nat.le_of_ble_eq_true rfl) rfl rfl (fun h4 => ?_) (fun h4 => ?_)
  · replace h4 := s01_1.mp h4
    refine c_run 3 (pc' := 50) (ls' := [(0, .ref 77), (1, .int 2), (2, .int v)]) (st' := [.int 2, .ref 91]) (μ' := (I, J)) (Nat.le_of_ble_eq_true rfl) rfl ?_
    refine c_ial 2 3 (Nat.le_of_ble_eq_true rfl) rfl rfl rfl rfl rfl (by decide) ?_
    show m_W 114 51 [(0, .ref 77), (1, .int 2), (2, .int v)] [.int (I 91 2)] (I, J) _
    refine c_run 5 (pc' := 58) (ls' := [(3, .int (I 91 2)), (0, .ref 77), (1, .int 2), (2, .int v)]) (st' := [.int v, .int 2, .ref 91]) (μ' := (I, J)) (Nat.le_of_ble_eq_true rfl) rfl ?_
    refine c_ias 2 3 (Nat.le_of_ble_eq_true rfl) rfl rfl rfl rfl rfl (by decide) ?_
    show m_W 114 59 [(3, .int (I 91 2)), (0, .ref 77), (1, .int 2), (2, .int v)] [] ((m_ui I 91 2 v), J) _
    refine c_run 1 (pc' := 60) (ls' := [(3, .int (I 91 2)), (0, .ref 77), (1, .int 2), (2, .int v)]) (st' := [.int (I 91 2)]) (μ' := ((m_ui I 91 2 v), J)) (Nat.le_of_ble_eq_true rfl) rfl ?_
    refine c_ret (Nat.le_of_ble_eq_true rfl) rfl rfl ⟨by decide, rfl⟩ ?_
    first | rw [if_pos (by assumption), if_pos (by assumption)] | rw [if_neg (by assumption), if_neg (by assumption)]
    exact ⟨rfl, rfl⟩
  · replace h4 := s01_0.mp h4
    refine c_run 1 (pc' := 44) (ls' := [(0, .ref 77), (1, .int 2), (2, .int v)]) (st' := [.int (-1)]) (μ' := (I, J)) (Nat.le_of_ble_eq_true rfl) rfl ?_
    refine c_ret (Nat.le_of_ble_eq_true rfl) rfl rfl ⟨by decide, rfl⟩ ?_
    first | rw [if_pos (by assumption), if_pos (by assumption)] | rw [if_neg (by assumption), if_neg (by assumption)]
    exact ⟨rfl, rfl⟩

set_option maxRecDepth 100000 in
theorem n_set_o (I : Nat → Nat → Int32) (J : Nat → Nat → Int64) (w v : Int32) (h : ¬ (0 ≤ w ∧ w ≤ 2)) : m_W 114 0 (lv_args 0 [.ref 77, .int w, .int v]) [] (I, J) (m_E (some (.int (-1))) (I, J)) := by
  show m_W 114 0 [(0, .ref 77), (1, .int w), (2, .int v)] [] (I, J) _
  refine c_run 4 (pc' := 6) (ls' := [(0, .ref 77), (1, .int w), (2, .int v)]) (st' := [.long 2, .long 0, .long ((w : Int32).toInt64)]) (μ' := (I, J)) (Nat.le_of_ble_eq_true rfl) rfl ?_
  refine c_cs 95 [.long ((w : Int32).toInt64), .long 0, .long 2] (r := []) (Nat.le_of_ble_eq_true rfl) rfl (Or.inl rfl) rfl rfl rfl (t_in32 I J w 0 2) ?_
  rintro _ _ ⟨rfl, rfl⟩
  show m_W 114 9 [(0, .ref 77), (1, .int w), (2, .int v)] [.int (s01 (0 ≤ w ∧ w ≤ 2))] (I, J) _
  refine c_ifeq 43 (Nat.le_of_ble_eq_true rfl) rfl rfl (fun h1 => ?_) (fun h1 => absurd (s01_0.mpr h) h1)
  refine c_run 1 (pc' := 44) (ls' := [(0, .ref 77), (1, .int w), (2, .int v)]) (st' := [.int (-1)]) (μ' := (I, J)) (Nat.le_of_ble_eq_true rfl) rfl ?_
  refine c_ret (Nat.le_of_ble_eq_true rfl) rfl rfl ⟨by decide, rfl⟩ ?_
  exact ⟨rfl, rfl⟩

def w_letter (I : Nat → Nat → Int32) (l : Nat) (x : Int32) : Int32 × (Nat → Nat → Int32) := (if 97 ≤ x ∧ x ≤ 122 then (if nI l = 6 then (-3, I) else (nI l + 1, m_ui (m_ui I 92 l x) 77 16 (nI l + 1))) else (-1, I) : Int32 × (Nat → Nat → Int32))
set_option maxRecDepth 100000 in
theorem n_letter (I : Nat → Nat → Int32) (J : Nat → Nat → Int64) (x : Int32) (l : Nat) (hl : I 77 16 = nI l) (hl6 : l ≤ 6)  : m_W 115 0 (lv_args 0 [.ref 77, .int x]) [] (I, J) (m_E (some (.int (w_letter I l x).1)) ((w_letter I l x).2, J)) := by
  show m_W 115 0 [(0, .ref 77), (1, .int x)] [] (I, J) _
  refine c_run 4 (pc' := 8) (ls' := [(0, .ref 77), (1, .int x)]) (st' := [.long 122, .long 97, .long ((x : Int32).toInt64)]) (μ' := (I, J)) (Nat.le_of_ble_eq_true rfl) rfl ?_
  refine c_cs 95 [.long ((x : Int32).toInt64), .long 97, .long 122] (r := []) (Nat.le_of_ble_eq_true rfl) rfl (Or.inl rfl) rfl rfl rfl (t_in32 I J x 97 122) ?_
  rintro _ _ ⟨rfl, rfl⟩
  show m_W 115 11 [(0, .ref 77), (1, .int x)] [.int (s01 (97 ≤ x ∧ x ≤ 122))] (I, J) _
  refine c_ifne 16 (Nat.le_of_ble_eq_true rfl) rfl rfl (fun h1 => ?_) (fun h1 => ?_)
  · replace h1 := s01_1.mp h1
    refine c_run 3 (pc' := 22) (ls' := [(0, .ref 77), (1, .int x)]) (st' := [.int 6, .int (I 77 16)]) (μ' := (I, J)) (Nat.le_of_ble_eq_true rfl) rfl ?_
    rw [hl]
    refine c_icne 28 (Nat.le_of_ble_eq_true rfl) rfl rfl (fun h2 => ?_) (fun h2 => ?_)
    · skip
      refine c_run 5 (pc' := 37) (ls' := [(0, .ref 77), (1, .int x)]) (st' := [.int x, .int (I 77 16), .ref 92]) (μ' := (I, J)) (Nat.le_of_ble_eq_true rfl) rfl ?_
      refine c_ias l 6 (Nat.le_of_ble_eq_true rfl) rfl rfl rfl rfl hl (by first | omega | exact Nat.lt_of_le_of_ne hl6 (fun q => absurd (show nI l = 6 by rw [q]; rfl) (by assumption))) ?_
      show m_W 115 38 [(0, .ref 77), (1, .int x)] [] ((m_ui I 92 l x), J) _
      refine c_run 8 (pc' := 52) (ls' := [(0, .ref 77), (1, .int x)]) (st' := [.int ((I 77 16) + (1 : Int32))]) (μ' := ((m_ui (m_ui I 92 l x) 77 16 ((I 77 16) + (1 : Int32))), J)) (Nat.le_of_ble_eq_true rfl) rfl ?_
      refine c_ret (Nat.le_of_ble_eq_true rfl) rfl rfl ⟨by decide, rfl⟩ ?_
      rw [hl]
      unfold w_letter; rw [if_pos h1, if_neg h2]
      first | exact ⟨rfl, rfl⟩ | (refine ⟨?_, ?_⟩ <;> first | rfl | (simp only [r_us]; done))
    · skip
      refine c_run 1 (pc' := 27) (ls' := [(0, .ref 77), (1, .int x)]) (st' := [.int (-3)]) (μ' := (I, J)) (Nat.le_of_ble_eq_true rfl) rfl ?_
      refine c_ret (Nat.le_of_ble_eq_true rfl) rfl rfl ⟨by decide, rfl⟩ ?_
      unfold w_letter; rw [if_pos h1, if_pos h2]
      first | exact ⟨rfl, rfl⟩ | (refine ⟨?_, ?_⟩ <;> first | rfl | (simp only [r_us]; done))
  · replace h1 := s01_0.mp h1
    refine c_run 1 (pc' := 15) (ls' := [(0, .ref 77), (1, .int x)]) (st' := [.int (-1)]) (μ' := (I, J)) (Nat.le_of_ble_eq_true rfl) rfl ?_
    refine c_ret (Nat.le_of_ble_eq_true rfl) rfl rfl ⟨by decide, rfl⟩ ?_
    unfold w_letter; rw [if_neg h1]
    first | exact ⟨rfl, rfl⟩ | (refine ⟨?_, ?_⟩ <;> first | rfl | (simp only [r_us]; done))

def w_type (I : Nat → Nat → Int32) (l : Nat) (x : Int32) : Int32 × (Nat → Nat → Int32) := (if 32 ≤ x ∧ x ≤ 126 then (if nI l = 100 then (-3, I) else (nI l + 1, m_ui (m_ui I 93 l x) 77 18 (nI l + 1))) else (-1, I) : Int32 × (Nat → Nat → Int32))
set_option maxRecDepth 100000 in
theorem n_type (I : Nat → Nat → Int32) (J : Nat → Nat → Int64) (x : Int32) (l : Nat) (hl : I 77 18 = nI l) (hl6 : l ≤ 100)  : m_W 137 0 (lv_args 0 [.ref 77, .int x]) [] (I, J) (m_E (some (.int (w_type I l x).1)) ((w_type I l x).2, J)) := by
  show m_W 137 0 [(0, .ref 77), (1, .int x)] [] (I, J) _
  refine c_run 4 (pc' := 8) (ls' := [(0, .ref 77), (1, .int x)]) (st' := [.long 126, .long 32, .long ((x : Int32).toInt64)]) (μ' := (I, J)) (Nat.le_of_ble_eq_true rfl) rfl ?_
  refine c_cs 95 [.long ((x : Int32).toInt64), .long 32, .long 126] (r := []) (Nat.le_of_ble_eq_true rfl) rfl (Or.inl rfl) rfl rfl rfl (t_in32 I J x 32 126) ?_
  rintro _ _ ⟨rfl, rfl⟩
  show m_W 137 11 [(0, .ref 77), (1, .int x)] [.int (s01 (32 ≤ x ∧ x ≤ 126))] (I, J) _
  refine c_ifne 16 (Nat.le_of_ble_eq_true rfl) rfl rfl (fun h1 => ?_) (fun h1 => ?_)
  · replace h1 := s01_1.mp h1
    refine c_run 3 (pc' := 22) (ls' := [(0, .ref 77), (1, .int x)]) (st' := [.int 100, .int (I 77 18)]) (μ' := (I, J)) (Nat.le_of_ble_eq_true rfl) rfl ?_
    rw [hl]
    refine c_icne 28 (Nat.le_of_ble_eq_true rfl) rfl rfl (fun h2 => ?_) (fun h2 => ?_)
    · skip
      refine c_run 5 (pc' := 37) (ls' := [(0, .ref 77), (1, .int x)]) (st' := [.int x, .int (I 77 18), .ref 93]) (μ' := (I, J)) (Nat.le_of_ble_eq_true rfl) rfl ?_
      refine c_ias l 100 (Nat.le_of_ble_eq_true rfl) rfl rfl rfl rfl hl (by first | omega | exact Nat.lt_of_le_of_ne hl6 (fun q => absurd (show nI l = 100 by rw [q]; rfl) (by assumption))) ?_
      show m_W 137 38 [(0, .ref 77), (1, .int x)] [] ((m_ui I 93 l x), J) _
      refine c_run 8 (pc' := 52) (ls' := [(0, .ref 77), (1, .int x)]) (st' := [.int ((I 77 18) + (1 : Int32))]) (μ' := ((m_ui (m_ui I 93 l x) 77 18 ((I 77 18) + (1 : Int32))), J)) (Nat.le_of_ble_eq_true rfl) rfl ?_
      refine c_ret (Nat.le_of_ble_eq_true rfl) rfl rfl ⟨by decide, rfl⟩ ?_
      rw [hl]
      unfold w_type; rw [if_pos h1, if_neg h2]
      first | exact ⟨rfl, rfl⟩ | (refine ⟨?_, ?_⟩ <;> first | rfl | (simp only [r_us]; done))
    · skip
      refine c_run 1 (pc' := 27) (ls' := [(0, .ref 77), (1, .int x)]) (st' := [.int (-3)]) (μ' := (I, J)) (Nat.le_of_ble_eq_true rfl) rfl ?_
      refine c_ret (Nat.le_of_ble_eq_true rfl) rfl rfl ⟨by decide, rfl⟩ ?_
      unfold w_type; rw [if_pos h1, if_pos h2]
      first | exact ⟨rfl, rfl⟩ | (refine ⟨?_, ?_⟩ <;> first | rfl | (simp only [r_us]; done))
  · replace h1 := s01_0.mp h1
    refine c_run 1 (pc' := 15) (ls' := [(0, .ref 77), (1, .int x)]) (st' := [.int (-1)]) (μ' := (I, J)) (Nat.le_of_ble_eq_true rfl) rfl ?_
    refine c_ret (Nat.le_of_ble_eq_true rfl) rfl rfl ⟨by decide, rfl⟩ ?_
    unfold w_type; rw [if_neg h1]
    first | exact ⟨rfl, rfl⟩ | (refine ⟨?_, ?_⟩ <;> first | rfl | (simp only [r_us]; done))

set_option maxRecDepth 100000 in
theorem n_clear (I : Nat → Nat → Int32) (J : Nat → Nat → Int64)  : m_W 138 0 (lv_args 0 [.ref 77]) [] (I, J) (m_E (some (.int (I 77 18))) (m_ui I 77 18 0, J)) := by
  show m_W 138 0 [(0, .ref 77)] [] (I, J) _
  refine c_run 7 (pc' := 11) (ls' := [(1, .int (I 77 18)), (0, .ref 77)]) (st' := [.int (I 77 18)]) (μ' := ((m_ui I 77 18 0), J)) (Nat.le_of_ble_eq_true rfl) rfl ?_
  refine c_ret (Nat.le_of_ble_eq_true rfl) rfl rfl ⟨by decide, rfl⟩ ?_
  exact ⟨rfl, rfl⟩

set_option maxRecDepth 100000 in
theorem n_used (I : Nat → Nat → Int32) (J : Nat → Nat → Int64) (R G : Nat → Int64) (e : Int32) (m : Nat) (hm : I 77 10 = nI m) (hm6 : m ≤ 6)  : m_W 120 0 (lv_args 0 [.ref 77, .int e]) [] (I, (n_J J R G)) (m_E (some (.long (w_used R m 1 e))) (I, n_J J R G)) := by
  show m_W 120 0 [(0, .ref 77), (1, .int e)] [] (I, (n_J J R G)) _
  refine c_run 2 (pc' := 2) (ls' := [(0, .ref 77), (1, .int e)]) (st' := [.int e, .ref 77]) (μ' := (I, (n_J J R G))) (Nat.le_of_ble_eq_true rfl) rfl ?_
  refine c_cv 99 [.int e] (b := 77) (r := []) (Nat.le_of_ble_eq_true rfl) rfl rfl rfl rfl rfl rfl (n_isE I (n_J J R G) e m hm hm6) ?_
  rintro _ _ ⟨rfl, rfl⟩
  show m_W 120 5 [(0, .ref 77), (1, .int e)] [.int (s01 (0 ≤ e ∧ e < nI m))] (I, (n_J J R G)) _
  refine c_ifeq 21 (Nat.le_of_ble_eq_true rfl) rfl rfl (fun h1 => ?_) (fun h1 => ?_)
  · replace h1 := s01_0.mp h1
    refine c_run 1 (pc' := 24) (ls' := [(0, .ref 77), (1, .int e)]) (st' := [.long (-1)]) (μ' := (I, (n_J J R G))) (Nat.le_of_ble_eq_true rfl) rfl ?_
    refine c_lret (Nat.le_of_ble_eq_true rfl) rfl rfl ?_
    unfold w_used; rw [if_neg h1]
    first | exact ⟨rfl, rfl⟩ | (refine ⟨?_, ?_⟩ <;> first | rfl | (simp only [r_us]; done))
  · replace h1 := s01_1.mp h1
    refine c_run 4 (pc' := 14) (ls' := [(0, .ref 77), (1, .int e)]) (st' := [.int 1, .int e, .ref 78]) (μ' := (I, (n_J J R G))) (Nat.le_of_ble_eq_true rfl) rfl ?_
    obtain ⟨j, hj, rfl⟩ : ∃ j, j < m ∧ e = nI j := k_ix (by assumption) (by omega)
    have hcj : (nI j).toNatClampNeg = j := nI_clamp (by omega)
    refine c_cs 102 [.int (nI j), .int 1] (r := [.ref 78]) (Nat.le_of_ble_eq_true rfl) rfl (Or.inl rfl) rfl rfl rfl (t_at2 I (n_J J R G) j 1) ?_
    rintro _ _ ⟨rfl, rfl⟩
    show m_W 120 17 [(0, .ref 77), (1, .int (nI j))] [.int (nI (20 + 3 * j + 1)), .ref 78] (I, (n_J J R G)) _
    refine c_lal (20 + 3 * j + 1) 140 (Nat.le_of_ble_eq_true rfl) rfl rfl rfl rfl rfl (by omega) ?_
    show m_W 120 18 [(0, .ref 77), (1, .int (nI j))] [.long (R (20 + 3 * j + 1))] (I, (n_J J R G)) _
    refine c_run 1 (pc' := 24) (ls' := [(0, .ref 77), (1, .int (nI j))]) (st' := [.long (R (20 + 3 * j + 1))]) (μ' := (I, (n_J J R G))) (Nat.le_of_ble_eq_true rfl) rfl ?_
    refine c_lret (Nat.le_of_ble_eq_true rfl) rfl rfl ?_
    unfold w_used; first | rw [if_pos h1, hcj] | rw [if_pos h1, hcj] | (rw [if_pos h1]; try simp only [hcj])
    first | exact ⟨rfl, rfl⟩ | (refine ⟨?_, ?_⟩ <;> first | rfl | (simp only [r_us]; done))

set_option maxRecDepth 100000 in
theorem n_delivered (I : Nat → Nat → Int32) (J : Nat → Nat → Int64) (R G : Nat → Int64) (e : Int32) (m : Nat) (hm : I 77 10 = nI m) (hm6 : m ≤ 6)  : m_W 121 0 (lv_args 0 [.ref 77, .int e]) [] (I, (n_J J R G)) (m_E (some (.long (w_used R m 2 e))) (I, n_J J R G)) := by
  show m_W 121 0 [(0, .ref 77), (1, .int e)] [] (I, (n_J J R G)) _
  refine c_run 2 (pc' := 2) (ls' := [(0, .ref 77), (1, .int e)]) (st' := [.int e, .ref 77]) (μ' := (I, (n_J J R G))) (Nat.le_of_ble_eq_true rfl) rfl ?_
  refine c_cv 99 [.int e] (b := 77) (r := []) (Nat.le_of_ble_eq_true rfl) rfl rfl rfl rfl rfl rfl (n_isE I (n_J J R G) e m hm hm6) ?_
  rintro _ _ ⟨rfl, rfl⟩
  show m_W 121 5 [(0, .ref 77), (1, .int e)] [.int (s01 (0 ≤ e ∧ e < nI m))] (I, (n_J J R G)) _
  refine c_ifeq 21 (Nat.le_of_ble_eq_true rfl) rfl rfl (fun h1 => ?_) (fun h1 => ?_)
  · replace h1 := s01_0.mp h1
    refine c_run 1 (pc' := 24) (ls' := [(0, .ref 77), (1, .int e)]) (st' := [.long (-1)]) (μ' := (I, (n_J J R G))) (Nat.le_of_ble_eq_true rfl) rfl ?_
    refine c_lret (Nat.le_of_ble_eq_true rfl) rfl rfl ?_
    unfold w_used; rw [if_neg h1]
    first | exact ⟨rfl, rfl⟩ | (refine ⟨?_, ?_⟩ <;> first | rfl | (simp only [r_us]; done))
  · replace h1 := s01_1.mp h1
    refine c_run 4 (pc' := 14) (ls' := [(0, .ref 77), (1, .int e)]) (st' := [.int 2, .int e, .ref 78]) (μ' := (I, (n_J J R G))) (Nat.le_of_ble_eq_true rfl) rfl ?_
    obtain ⟨j, hj, rfl⟩ : ∃ j, j < m ∧ e = nI j := k_ix (by assumption) (by omega)
    have hcj : (nI j).toNatClampNeg = j := nI_clamp (by omega)
    refine c_cs 102 [.int (nI j), .int 2] (r := [.ref 78]) (Nat.le_of_ble_eq_true rfl) rfl (Or.inl rfl) rfl rfl rfl (t_at2 I (n_J J R G) j 2) ?_
    rintro _ _ ⟨rfl, rfl⟩
    show m_W 121 17 [(0, .ref 77), (1, .int (nI j))] [.int (nI (20 + 3 * j + 2)), .ref 78] (I, (n_J J R G)) _
    refine c_lal (20 + 3 * j + 2) 140 (Nat.le_of_ble_eq_true rfl) rfl rfl rfl rfl rfl (by omega) ?_
    show m_W 121 18 [(0, .ref 77), (1, .int (nI j))] [.long (R (20 + 3 * j + 2))] (I, (n_J J R G)) _
    refine c_run 1 (pc' := 24) (ls' := [(0, .ref 77), (1, .int (nI j))]) (st' := [.long (R (20 + 3 * j + 2))]) (μ' := (I, (n_J J R G))) (Nat.le_of_ble_eq_true rfl) rfl ?_
    refine c_lret (Nat.le_of_ble_eq_true rfl) rfl rfl ?_
    unfold w_used; first | rw [if_pos h1, hcj] | rw [if_pos h1, hcj] | (rw [if_pos h1]; try simp only [hcj])
    first | exact ⟨rfl, rfl⟩ | (refine ⟨?_, ?_⟩ <;> first | rfl | (simp only [r_us]; done))

set_option maxRecDepth 100000 in
theorem n_ignite (I : Nat → Nat → Int32) (J : Nat → Nat → Int64) (R G : Nat → Int64) (e : Int32) (m : Nat) (hm : I 77 10 = nI m) (hm6 : m ≤ 6)  : m_W 122 0 (lv_args 0 [.ref 77, .int e]) [] (I, (n_J J R G)) (m_E (some (.int (w_ign R m e).1)) (I, n_J J (w_ign R m e).2 G)) := by
  show m_W 122 0 [(0, .ref 77), (1, .int e)] [] (I, (n_J J R G)) _
  refine c_run 2 (pc' := 2) (ls' := [(0, .ref 77), (1, .int e)]) (st' := [.int e, .ref 77]) (μ' := (I, (n_J J R G))) (Nat.le_of_ble_eq_true rfl) rfl ?_
  refine c_cv 99 [.int e] (b := 77) (r := []) (Nat.le_of_ble_eq_true rfl) rfl rfl rfl rfl rfl rfl (n_isE I (n_J J R G) e m hm hm6) ?_
  rintro _ _ ⟨rfl, rfl⟩
  show m_W 122 5 [(0, .ref 77), (1, .int e)] [.int (s01 (0 ≤ e ∧ e < nI m))] (I, (n_J J R G)) _
  refine c_ifne 10 (Nat.le_of_ble_eq_true rfl) rfl rfl (fun h1 => ?_) (fun h1 => ?_)
  · replace h1 := s01_1.mp h1
    refine c_run 1 (pc' := 11) (ls' := [(0, .ref 77), (1, .int e)]) (st' := [.ref 77]) (μ' := (I, (n_J J R G))) (Nat.le_of_ble_eq_true rfl) rfl ?_
    refine c_cv 100 [] (b := 77) (r := []) (Nat.le_of_ble_eq_true rfl) rfl rfl rfl rfl rfl rfl (n_burns I (n_J J R G)) ?_
    rintro _ _ ⟨rfl, rfl⟩
    show m_W 122 14 [(0, .ref 77), (1, .int e)] [.int (s01 (0 ≤ (R 39)))] (I, (n_J J R G)) _
    refine c_ifne 32 (Nat.le_of_ble_eq_true rfl) rfl rfl (fun h2 => ?_) (fun h2 => ?_)
    · replace h2 := s01_1.mp h2
      refine c_run 1 (pc' := 34) (ls' := [(0, .ref 77), (1, .int e)]) (st' := [.int (-2)]) (μ' := (I, (n_J J R G))) (Nat.le_of_ble_eq_true rfl) rfl ?_
      refine c_ret (Nat.le_of_ble_eq_true rfl) rfl rfl ⟨by decide, rfl⟩ ?_
      unfold w_ign; rw [if_pos h1, if_pos h2]
      try unfold n_ig
      first | exact ⟨rfl, rfl⟩ | (refine ⟨?_, ?_⟩ <;> first | rfl | (simp only [r_us]; done))
    · replace h2 := s01_0.mp h2
      refine c_run 4 (pc' := 23) (ls' := [(0, .ref 77), (1, .int e)]) (st' := [.int 0, .int e, .ref 78]) (μ' := (I, (n_J J R G))) (Nat.le_of_ble_eq_true rfl) rfl ?_
      obtain ⟨j, hj, rfl⟩ : ∃ j, j < m ∧ e = nI j := k_ix (by assumption) (by omega)
      have hcj : (nI j).toNatClampNeg = j := nI_clamp (by omega)
      refine c_cs 102 [.int (nI j), .int 0] (r := [.ref 78]) (Nat.le_of_ble_eq_true rfl) rfl (Or.inl rfl) rfl rfl rfl (t_at2 I (n_J J R G) j 0) ?_
      rintro _ _ ⟨rfl, rfl⟩
      show m_W 122 26 [(0, .ref 77), (1, .int (nI j))] [.int (nI (20 + 3 * j + 0)), .ref 78] (I, (n_J J R G)) _
      refine c_lal (20 + 3 * j + 0) 140 (Nat.le_of_ble_eq_true rfl) rfl rfl rfl rfl rfl (by omega) ?_
      show m_W 122 27 [(0, .ref 77), (1, .int (nI j))] [.long (R (20 + 3 * j + 0))] (I, (n_J J R G)) _
      refine c_run 2 (pc' := 29) (ls' := [(0, .ref 77), (1, .int (nI j))]) (st' := [.int (lg_cmp (R (20 + 3 * j + 0)) 0)]) (μ' := (I, (n_J J R G))) (Nat.le_of_ble_eq_true rfl) rfl ?_
      refine c_ifne 35 (Nat.le_of_ble_eq_true rfl) rfl rfl (fun h3 => ?_) (fun h3 => ?_)
      · replace h3 := mt lc_eq.mpr h3
        refine c_run 5 (pc' := 43) (ls' := [(0, .ref 77), (1, .int (nI j))]) (st' := [.long (((nI j) : Int32).toInt64), .int 39, .ref 78]) (μ' := (I, (n_J J R G))) (Nat.le_of_ble_eq_true rfl) rfl ?_
        refine c_las 39 140 (Nat.le_of_ble_eq_true rfl) rfl rfl rfl rfl rfl (by decide) ?_
        show m_W 122 44 [(0, .ref 77), (1, .int (nI j))] [] (I, m_uj (n_J J R G) 78 39 (((nI j) : Int32).toInt64)) _
        rw [n_JR]
        show m_W 122 44 [(0, .ref 77), (1, .int (nI j))] [] (I, (n_J J (r_u R 39 (((nI j) : Int32).toInt64)) G)) _
        refine c_run 4 (pc' := 51) (ls' := [(0, .ref 77), (1, .int (nI j))]) (st' := [.long 0, .int 40, .ref 78]) (μ' := (I, (n_J J (r_u R 39 (((nI j) : Int32).toInt64)) G))) (Nat.le_of_ble_eq_true rfl) rfl ?_
        refine c_las 40 140 (Nat.le_of_ble_eq_true rfl) rfl rfl rfl rfl rfl (by decide) ?_
        show m_W 122 52 [(0, .ref 77), (1, .int (nI j))] [] (I, m_uj (n_J J (r_u R 39 (((nI j) : Int32).toInt64)) G) 78 40 0) _
        rw [n_JR]
        show m_W 122 52 [(0, .ref 77), (1, .int (nI j))] [] (I, (n_J J (r_u (r_u R 39 (((nI j) : Int32).toInt64)) 40 0) G)) _
        refine c_run 4 (pc' := 59) (ls' := [(0, .ref 77), (1, .int (nI j))]) (st' := [.long 0, .int 41, .ref 78]) (μ' := (I, (n_J J (r_u (r_u R 39 (((nI j) : Int32).toInt64)) 40 0) G))) (Nat.le_of_ble_eq_true rfl) rfl ?_
        refine c_las 41 140 (Nat.le_of_ble_eq_true rfl) rfl rfl rfl rfl rfl (by decide) ?_
        show m_W 122 60 [(0, .ref 77), (1, .int (nI j))] [] (I, m_uj (n_J J (r_u (r_u R 39 (((nI j) : Int32).toInt64)) 40 0) G) 78 41 0) _
        rw [n_JR]
        show m_W 122 60 [(0, .ref 77), (1, .int (nI j))] [] (I, (n_J J (r_u (r_u (r_u R 39 (((nI j) : Int32).toInt64)) 40 0) 41 0) G)) _
        refine c_run 4 (pc' := 64) (ls' := [(2, .int 0), (0, .ref 77), (1, .int (nI j))]) (st' := [.int 4, .int 0]) (μ' := (I, (n_J J (r_u (r_u (r_u R 39 (((nI j) : Int32).toInt64)) 40 0) 41 0) G))) (Nat.le_of_ble_eq_true rfl) rfl ?_
        refine c_icge 84 (Nat.le_of_ble_eq_true rfl) rfl rfl (fun h4 => absurd h4 (by decide)) (fun h4 => ?_)
        refine c_run 8 (pc' := 77) (ls' := [(2, .int 0), (0, .ref 77), (1, .int (nI j))]) (st' := [.long 0, .int 4, .ref 78]) (μ' := (I, (n_J J (r_u (r_u (r_u R 39 (((nI j) : Int32).toInt64)) 40 0) 41 0) G))) (Nat.le_of_ble_eq_true rfl) rfl ?_
        refine c_las 4 140 (Nat.le_of_ble_eq_true rfl) rfl rfl rfl rfl rfl (by decide) ?_
        show m_W 122 78 [(2, .int 0), (0, .ref 77), (1, .int (nI j))] [] (I, m_uj (n_J J (r_u (r_u (r_u R 39 (((nI j) : Int32).toInt64)) 40 0) 41 0) G) 78 4 0) _
        rw [n_JR]
        show m_W 122 78 [(2, .int 0), (0, .ref 77), (1, .int (nI j))] [] (I, (n_J J (r_u (r_u (r_u (r_u R 39 (((nI j) : Int32).toInt64)) 40 0) 41 0) 4 0) G)) _
        refine c_run 4 (pc' := 64) (ls' := [(2, .int 1), (0, .ref 77), (1, .int (nI j))]) (st' := [.int 4, .int 1]) (μ' := (I, (n_J J (r_u (r_u (r_u (r_u R 39 (((nI j) : Int32).toInt64)) 40 0) 41 0) 4 0) G))) (Nat.le_of_ble_eq_true rfl) rfl ?_
        refine c_icge 84 (Nat.le_of_ble_eq_true rfl) rfl rfl (fun h5 => absurd h5 (by decide)) (fun h5 => ?_)
        refine c_run 8 (pc' := 77) (ls' := [(2, .int 1), (0, .ref 77), (1, .int (nI j))]) (st' := [.long 0, .int 9, .ref 78]) (μ' := (I, (n_J J (r_u (r_u (r_u (r_u R 39 (((nI j) : Int32).toInt64)) 40 0) 41 0) 4 0) G))) (Nat.le_of_ble_eq_true rfl) rfl ?_
        refine c_las 9 140 (Nat.le_of_ble_eq_true rfl) rfl rfl rfl rfl rfl (by decide) ?_
        show m_W 122 78 [(2, .int 1), (0, .ref 77), (1, .int (nI j))] [] (I, m_uj (n_J J (r_u (r_u (r_u (r_u R 39 (((nI j) : Int32).toInt64)) 40 0) 41 0) 4 0) G) 78 9 0) _
        rw [n_JR]
        show m_W 122 78 [(2, .int 1), (0, .ref 77), (1, .int (nI j))] [] (I, (n_J J (r_u (r_u (r_u (r_u (r_u R 39 (((nI j) : Int32).toInt64)) 40 0) 41 0) 4 0) 9 0) G)) _
        refine c_run 4 (pc' := 64) (ls' := [(2, .int 2), (0, .ref 77), (1, .int (nI j))]) (st' := [.int 4, .int 2]) (μ' := (I, (n_J J (r_u (r_u (r_u (r_u (r_u R 39 (((nI j) : Int32).toInt64)) 40 0) 41 0) 4 0) 9 0) G))) (Nat.le_of_ble_eq_true rfl) rfl ?_
        refine c_icge 84 (Nat.le_of_ble_eq_true rfl) rfl rfl (fun h6 => absurd h6 (by decide)) (fun h6 => ?_)
        refine c_run 8 (pc' := 77) (ls' := [(2, .int 2), (0, .ref 77), (1, .int (nI j))]) (st' := [.long 0, .int 14, .ref 78]) (μ' := (I, (n_J J (r_u (r_u (r_u (r_u (r_u R 39 (((nI j) : Int32).toInt64)) 40 0) 41 0) 4 0) 9 0) G))) (Nat.le_of_ble_eq_true rfl) rfl ?_
        refine c_las 14 140 (Nat.le_of_ble_eq_true rfl) rfl rfl rfl rfl rfl (by decide) ?_
        show m_W 122 78 [(2, .int 2), (0, .ref 77), (1, .int (nI j))] [] (I, m_uj (n_J J (r_u (r_u (r_u (r_u (r_u R 39 (((nI j) : Int32).toInt64)) 40 0) 41 0) 4 0) 9 0) G) 78 14 0) _
        rw [n_JR]
        show m_W 122 78 [(2, .int 2), (0, .ref 77), (1, .int (nI j))] [] (I, (n_J J (r_u (r_u (r_u (r_u (r_u (r_u R 39 (((nI j) : Int32).toInt64)) 40 0) 41 0) 4 0) 9 0) 14 0) G)) _
        refine c_run 4 (pc' := 64) (ls' := [(2, .int 3), (0, .ref 77), (1, .int (nI j))]) (st' := [.int 4, .int 3]) (μ' := (I, (n_J J (r_u (r_u (r_u (r_u (r_u (r_u R 39 (((nI j) : Int32).toInt64)) 40 0) 41 0) 4 0) 9 0) 14 0) G))) (Nat.le_of_ble_eq_true rfl) rfl ?_
        refine c_icge 84 (Nat.le_of_ble_eq_true rfl) rfl rfl (fun h7 => absurd h7 (by decide)) (fun h7 => ?_)
        refine c_run 8 (pc' := 77) (ls' := [(2, .int 3), (0, .ref 77), (1, .int (nI j))]) (st' := [.long 0, .int 19, .ref 78]) (μ' := (I, (n_J J (r_u (r_u (r_u (r_u (r_u (r_u R 39 (((nI j) : Int32).toInt64)) 40 0) 41 0) 4 0) 9 0) 14 0) G))) (Nat.le_of_ble_eq_true rfl) rfl ?_
        refine c_las 19 140 (Nat.le_of_ble_eq_true rfl) rfl rfl rfl rfl rfl (by decide) ?_
        show m_W 122 78 [(2, .int 3), (0, .ref 77), (1, .int (nI j))] [] (I, m_uj (n_J J (r_u (r_u (r_u (r_u (r_u (r_u R 39 (((nI j) : Int32).toInt64)) 40 0) 41 0) 4 0) 9 0) 14 0) G) 78 19 0) _
        rw [n_JR]
        show m_W 122 78 [(2, .int 3), (0, .ref 77), (1, .int (nI j))] [] (I, (n_J J (r_u (r_u (r_u (r_u (r_u (r_u (r_u R 39 (((nI j) : Int32).toInt64)) 40 0) 41 0) 4 0) 9 0) 14 0) 19 0) G)) _
        refine c_run 4 (pc' := 64) (ls' := [(2, .int 4), (0, .ref 77), (1, .int (nI j))]) (st' := [.int 4, .int 4]) (μ' := (I, (n_J J (r_u (r_u (r_u (r_u (r_u (r_u (r_u R 39 (((nI j) : Int32).toInt64)) 40 0) 41 0) 4 0) 9 0) 14 0) 19 0) G))) (Nat.le_of_ble_eq_true rfl) rfl ?_
        refine c_icge 84 (Nat.le_of_ble_eq_true rfl) rfl rfl (fun h8 => ?_) (fun h8 => absurd (by decide) h8)
        refine c_run 3 (pc' := 90) (ls' := [(2, .int 4), (0, .ref 77), (1, .int (nI j))]) (st' := [.int 38, .ref 78]) (μ' := (I, (n_J J (r_u (r_u (r_u (r_u (r_u (r_u (r_u R 39 (((nI j) : Int32).toInt64)) 40 0) 41 0) 4 0) 9 0) 14 0) 19 0) G))) (Nat.le_of_ble_eq_true rfl) rfl ?_
        refine c_lal 38 140 (Nat.le_of_ble_eq_true rfl) rfl rfl rfl rfl rfl (by decide) ?_
        show m_W 122 91 [(2, .int 4), (0, .ref 77), (1, .int (nI j))] [.long ((r_u (r_u (r_u (r_u (r_u (r_u (r_u R 39 (((nI j) : Int32).toInt64)) 40 0) 41 0) 4 0) 9 0) 14 0) 19 0) 38)] (I, (n_J J (r_u (r_u (r_u (r_u (r_u (r_u (r_u R 39 (((nI j) : Int32).toInt64)) 40 0) 41 0) 4 0) 9 0) 14 0) 19 0) G)) _
        rw [show (r_u (r_u (r_u (r_u (r_u (r_u (r_u R 39 (((nI j) : Int32).toInt64)) 40 0) 41 0) 4 0) 9 0) 14 0) 19 0) 38 = (R 38) from by rw [r_un (by omega), r_un (by omega), r_un (by omega), r_un (by omega), r_un (by omega), r_un (by omega), r_un (by omega)]]
        show m_W 122 91 [(2, .int 4), (0, .ref 77), (1, .int (nI j))] [.long (R 38)] (I, (n_J J (r_u (r_u (r_u (r_u (r_u (r_u (r_u R 39 (((nI j) : Int32).toInt64)) 40 0) 41 0) 4 0) 9 0) 14 0) 19 0) G)) _
        refine c_run 1 (pc' := 92) (ls' := [(2, .int 4), (0, .ref 77), (1, .int (nI j))]) (st' := [.int (((R 38) : Int64).toInt32)]) (μ' := (I, (n_J J (r_u (r_u (r_u (r_u (r_u (r_u (r_u R 39 (((nI j) : Int32).toInt64)) 40 0) 41 0) 4 0) 9 0) 14 0) 19 0) G))) (Nat.le_of_ble_eq_true rfl) rfl ?_
        refine c_ret (Nat.le_of_ble_eq_true rfl) rfl rfl ⟨by decide, rfl⟩ ?_
        unfold w_ign; first | rw [if_pos h1, if_neg h2, hcj, if_neg h3] | rw [if_pos h1, if_neg h2, if_neg h3, hcj] | (rw [if_pos h1, if_neg h2, if_neg h3]; try simp only [hcj])
        try unfold n_ig
        first | exact ⟨rfl, rfl⟩ | (refine ⟨?_, ?_⟩ <;> first | rfl | (simp only [r_us]; done))
      · replace h3 := lc_eq.mp h3
        refine c_run 1 (pc' := 34) (ls' := [(0, .ref 77), (1, .int (nI j))]) (st' := [.int (-2)]) (μ' := (I, (n_J J R G))) (Nat.le_of_ble_eq_true rfl) rfl ?_
        refine c_ret (Nat.le_of_ble_eq_true rfl) rfl rfl ⟨by decide, rfl⟩ ?_
        unfold w_ign; first | rw [if_pos h1, if_neg h2, hcj, if_pos h3] | rw [if_pos h1, if_neg h2, if_pos h3, hcj] | (rw [if_pos h1, if_neg h2, if_pos h3]; try simp only [hcj])
        try unfold n_ig
        first | exact ⟨rfl, rfl⟩ | (refine ⟨?_, ?_⟩ <;> first | rfl | (simp only [r_us]; done))
  · replace h1 := s01_0.mp h1
    refine c_run 1 (pc' := 9) (ls' := [(0, .ref 77), (1, .int e)]) (st' := [.int (-1)]) (μ' := (I, (n_J J R G))) (Nat.le_of_ble_eq_true rfl) rfl ?_
    refine c_ret (Nat.le_of_ble_eq_true rfl) rfl rfl ⟨by decide, rfl⟩ ?_
    unfold w_ign; rw [if_neg h1]
    try unfold n_ig
    first | exact ⟨rfl, rfl⟩ | (refine ⟨?_, ?_⟩ <;> first | rfl | (simp only [r_us]; done))

set_option maxRecDepth 100000 in
theorem n_valve (I : Nat → Nat → Int32) (J : Nat → Nat → Int64) (R G : Nat → Int64) (e t o : Int32) (n : Nat) (hn : I 77 2 = nI n) (hn4 : n ≤ 4) (m : Nat) (hm : I 77 10 = nI m) (hm6 : m ≤ 6)  : m_W 119 0 (lv_args 0 [.ref 77, .int e, .int t, .int o]) [] (I, (n_J J R G)) (m_E (some (.int (w_valve R n m e t o).1)) (I, n_J J (w_valve R n m e t o).2 G)) := by
  show m_W 119 0 [(0, .ref 77), (1, .int e), (2, .int t), (3, .int o)] [] (I, (n_J J R G)) _
  refine c_run 2 (pc' := 2) (ls' := [(0, .ref 77), (1, .int e), (2, .int t), (3, .int o)]) (st' := [.int e, .ref 77]) (μ' := (I, (n_J J R G))) (Nat.le_of_ble_eq_true rfl) rfl ?_
  refine c_cv 99 [.int e] (b := 77) (r := []) (Nat.le_of_ble_eq_true rfl) rfl rfl rfl rfl rfl rfl (n_isE I (n_J J R G) e m hm hm6) ?_
  rintro _ _ ⟨rfl, rfl⟩
  show m_W 119 5 [(0, .ref 77), (1, .int e), (2, .int t), (3, .int o)] [.int (s01 (0 ≤ e ∧ e < nI m))] (I, (n_J J R G)) _
  refine c_ifeq 26 (Nat.le_of_ble_eq_true rfl) rfl rfl (fun h1 => ?_) (fun h1 => ?_)
  · replace h1 := s01_0.mp h1
    refine c_run 1 (pc' := 27) (ls' := [(0, .ref 77), (1, .int e), (2, .int t), (3, .int o)]) (st' := [.int (-1)]) (μ' := (I, (n_J J R G))) (Nat.le_of_ble_eq_true rfl) rfl ?_
    refine c_ret (Nat.le_of_ble_eq_true rfl) rfl rfl ⟨by decide, rfl⟩ ?_
    unfold w_valve; rw [if_neg h1]
    first | exact ⟨rfl, rfl⟩ | (refine ⟨?_, ?_⟩ <;> first | rfl | (simp only [r_us]; done))
  · replace h1 := s01_1.mp h1
    refine c_run 2 (pc' := 10) (ls' := [(0, .ref 77), (1, .int e), (2, .int t), (3, .int o)]) (st' := [.int t, .ref 77]) (μ' := (I, (n_J J R G))) (Nat.le_of_ble_eq_true rfl) rfl ?_
    refine c_cv 98 [.int t] (b := 77) (r := []) (Nat.le_of_ble_eq_true rfl) rfl rfl rfl rfl rfl rfl (n_isT I (n_J J R G) t n hn hn4) ?_
    rintro _ _ ⟨rfl, rfl⟩
    show m_W 119 13 [(0, .ref 77), (1, .int e), (2, .int t), (3, .int o)] [.int (s01 (0 ≤ t ∧ t < nI n))] (I, (n_J J R G)) _
    refine c_ifeq 26 (Nat.le_of_ble_eq_true rfl) rfl rfl (fun h2 => ?_) (fun h2 => ?_)
    · replace h2 := s01_0.mp h2
      refine c_run 1 (pc' := 27) (ls' := [(0, .ref 77), (1, .int e), (2, .int t), (3, .int o)]) (st' := [.int (-1)]) (μ' := (I, (n_J J R G))) (Nat.le_of_ble_eq_true rfl) rfl ?_
      refine c_ret (Nat.le_of_ble_eq_true rfl) rfl rfl ⟨by decide, rfl⟩ ?_
      unfold w_valve; rw [if_pos h1, if_neg h2]
      first | exact ⟨rfl, rfl⟩ | (refine ⟨?_, ?_⟩ <;> first | rfl | (simp only [r_us]; done))
    · replace h2 := s01_1.mp h2
      refine c_run 4 (pc' := 20) (ls' := [(0, .ref 77), (1, .int e), (2, .int t), (3, .int o)]) (st' := [.long 1, .long 0, .long ((o : Int32).toInt64)]) (μ' := (I, (n_J J R G))) (Nat.le_of_ble_eq_true rfl) rfl ?_
      refine c_cs 95 [.long ((o : Int32).toInt64), .long 0, .long 1] (r := []) (Nat.le_of_ble_eq_true rfl) rfl (Or.inl rfl) rfl rfl rfl (t_in32 I (n_J J R G) o 0 1) ?_
      rintro _ _ ⟨rfl, rfl⟩
      show m_W 119 23 [(0, .ref 77), (1, .int e), (2, .int t), (3, .int o)] [.int (s01 (0 ≤ o ∧ o ≤ 1))] (I, (n_J J R G)) _
      refine c_ifne 28 (Nat.le_of_ble_eq_true rfl) rfl rfl (fun h3 => ?_) (fun h3 => ?_)
      · replace h3 := s01_1.mp h3
        refine c_run 3 (pc' := 34) (ls' := [(0, .ref 77), (1, .int e), (2, .int t), (3, .int o)]) (st' := [.int 39, .ref 78]) (μ' := (I, (n_J J R G))) (Nat.le_of_ble_eq_true rfl) rfl ?_
        refine c_lal 39 140 (Nat.le_of_ble_eq_true rfl) rfl rfl rfl rfl rfl (by decide) ?_
        show m_W 119 35 [(0, .ref 77), (1, .int e), (2, .int t), (3, .int o)] [.long (R 39)] (I, (n_J J R G)) _
        refine c_run 3 (pc' := 38) (ls' := [(0, .ref 77), (1, .int e), (2, .int t), (3, .int o)]) (st' := [.int (lg_cmp (R 39) ((e : Int32).toInt64))]) (μ' := (I, (n_J J R G))) (Nat.le_of_ble_eq_true rfl) rfl ?_
        refine c_ifne 44 (Nat.le_of_ble_eq_true rfl) rfl rfl (fun h4 => ?_) (fun h4 => ?_)
        · replace h4 := mt lc_eq.mpr h4
          refine c_run 4 (pc' := 50) (ls' := [(0, .ref 77), (1, .int e), (2, .int t), (3, .int o)]) (st' := [.int 0, .int e, .ref 78]) (μ' := (I, (n_J J R G))) (Nat.le_of_ble_eq_true rfl) rfl ?_
          obtain ⟨j, hj, rfl⟩ : ∃ j, j < m ∧ e = nI j := k_ix (by assumption) (by omega)
          have hcj : (nI j).toNatClampNeg = j := nI_clamp (by omega)
          refine c_cs 102 [.int (nI j), .int 0] (r := [.ref 78]) (Nat.le_of_ble_eq_true rfl) rfl (Or.inl rfl) rfl rfl rfl (t_at2 I (n_J J R G) j 0) ?_
          rintro _ _ ⟨rfl, rfl⟩
          show m_W 119 53 [(0, .ref 77), (1, .int (nI j)), (2, .int t), (3, .int o)] [.int (nI (20 + 3 * j + 0)), .ref 78] (I, (n_J J R G)) _
          refine c_lal (20 + 3 * j + 0) 140 (Nat.le_of_ble_eq_true rfl) rfl rfl rfl rfl rfl (by omega) ?_
          show m_W 119 54 [(0, .ref 77), (1, .int (nI j)), (2, .int t), (3, .int o)] [.long (R (20 + 3 * j + 0))] (I, (n_J J R G)) _
          refine c_run 5 (pc' := 62) (ls' := [(4, .long (R (20 + 3 * j + 0))), (0, .ref 77), (1, .int (nI j)), (2, .int t), (3, .int o)]) (st' := [.int 0, .int (nI j), .ref 78]) (μ' := (I, (n_J J R G))) (Nat.le_of_ble_eq_true rfl) rfl ?_
          refine c_cs 102 [.int (nI j), .int 0] (r := [.ref 78]) (Nat.le_of_ble_eq_true rfl) rfl (Or.inl rfl) rfl rfl rfl (t_at2 I (n_J J R G) j 0) ?_
          rintro _ _ ⟨rfl, rfl⟩
          show m_W 119 65 [(4, .long (R (20 + 3 * j + 0))), (0, .ref 77), (1, .int (nI j)), (2, .int t), (3, .int o)] [.int (nI (20 + 3 * j + 0)), .ref 78] (I, (n_J J R G)) _
          refine c_run 2 (pc' := 67) (ls' := [(4, .long (R (20 + 3 * j + 0))), (0, .ref 77), (1, .int (nI j)), (2, .int t), (3, .int o)]) (st' := [.int 1, .int o, .int (nI (20 + 3 * j + 0)), .ref 78]) (μ' := (I, (n_J J R G))) (Nat.le_of_ble_eq_true rfl) rfl ?_
          refine c_icne 79 (Nat.le_of_ble_eq_true rfl) rfl rfl (fun h5 => ?_) (fun h5 => ?_)
          · skip
            refine c_run 7 (pc' := 89) (ls' := [(4, .long (R (20 + 3 * j + 0))), (0, .ref 77), (1, .int (nI j)), (2, .int t), (3, .int o)]) (st' := [.long ((R (20 + 3 * j + 0)) &&& (((1 : Int64) <<< ((t : Int32).toInt64 &&& 63)) ^^^ (-1 : Int64))), .int (nI (20 + 3 * j + 0)), .ref 78]) (μ' := (I, (n_J J R G))) (Nat.le_of_ble_eq_true rfl) rfl ?_
            refine c_las (20 + 3 * j + 0) 140 (Nat.le_of_ble_eq_true rfl) rfl rfl rfl rfl rfl (by omega) ?_
            show m_W 119 90 [(4, .long (R (20 + 3 * j + 0))), (0, .ref 77), (1, .int (nI j)), (2, .int t), (3, .int o)] [] (I, m_uj (n_J J R G) 78 (20 + 3 * j + 0) ((R (20 + 3 * j + 0)) &&& (((1 : Int64) <<< ((t : Int32).toInt64 &&& 63)) ^^^ (-1 : Int64)))) _
            rw [n_JR]
            show m_W 119 90 [(4, .long (R (20 + 3 * j + 0))), (0, .ref 77), (1, .int (nI j)), (2, .int t), (3, .int o)] [] (I, (n_J J (r_u R (20 + 3 * j + 0) ((R (20 + 3 * j + 0)) &&& (((1 : Int64) <<< ((t : Int32).toInt64 &&& 63)) ^^^ (-1 : Int64)))) G)) _
            refine c_run 4 (pc' := 96) (ls' := [(4, .long (R (20 + 3 * j + 0))), (0, .ref 77), (1, .int (nI j)), (2, .int t), (3, .int o)]) (st' := [.int 0, .int (nI j), .ref 78]) (μ' := (I, (n_J J (r_u R (20 + 3 * j + 0) ((R (20 + 3 * j + 0)) &&& (((1 : Int64) <<< ((t : Int32).toInt64 &&& 63)) ^^^ (-1 : Int64)))) G))) (Nat.le_of_ble_eq_true rfl) rfl ?_
            refine c_cs 102 [.int (nI j), .int 0] (r := [.ref 78]) (Nat.le_of_ble_eq_true rfl) rfl (Or.inl rfl) rfl rfl rfl (t_at2 I (n_J J (r_u R (20 + 3 * j + 0) ((R (20 + 3 * j + 0)) &&& (((1 : Int64) <<< ((t : Int32).toInt64 &&& 63)) ^^^ (-1 : Int64)))) G) j 0) ?_
            rintro _ _ ⟨rfl, rfl⟩
            show m_W 119 99 [(4, .long (R (20 + 3 * j + 0))), (0, .ref 77), (1, .int (nI j)), (2, .int t), (3, .int o)] [.int (nI (20 + 3 * j + 0)), .ref 78] (I, (n_J J (r_u R (20 + 3 * j + 0) ((R (20 + 3 * j + 0)) &&& (((1 : Int64) <<< ((t : Int32).toInt64 &&& 63)) ^^^ (-1 : Int64)))) G)) _
            refine c_lal (20 + 3 * j + 0) 140 (Nat.le_of_ble_eq_true rfl) rfl rfl rfl rfl rfl (by omega) ?_
            show m_W 119 100 [(4, .long (R (20 + 3 * j + 0))), (0, .ref 77), (1, .int (nI j)), (2, .int t), (3, .int o)] [.long ((r_u R (20 + 3 * j + 0) ((R (20 + 3 * j + 0)) &&& (((1 : Int64) <<< ((t : Int32).toInt64 &&& 63)) ^^^ (-1 : Int64)))) (20 + 3 * j + 0))] (I, (n_J J (r_u R (20 + 3 * j + 0) ((R (20 + 3 * j + 0)) &&& (((1 : Int64) <<< ((t : Int32).toInt64 &&& 63)) ^^^ (-1 : Int64)))) G)) _
            rw [show (r_u R (20 + 3 * j + 0) ((R (20 + 3 * j + 0)) &&& (((1 : Int64) <<< ((t : Int32).toInt64 &&& 63)) ^^^ (-1 : Int64)))) (20 + 3 * j + 0) = ((R (20 + 3 * j + 0)) &&& (((1 : Int64) <<< ((t : Int32).toInt64 &&& 63)) ^^^ (-1 : Int64))) from by rw [r_us]]
            show m_W 119 100 [(4, .long (R (20 + 3 * j + 0))), (0, .ref 77), (1, .int (nI j)), (2, .int t), (3, .int o)] [.long ((R (20 + 3 * j + 0)) &&& (((1 : Int64) <<< ((t : Int32).toInt64 &&& 63)) ^^^ (-1 : Int64)))] (I, (n_J J (r_u R (20 + 3 * j + 0) ((R (20 + 3 * j + 0)) &&& (((1 : Int64) <<< ((t : Int32).toInt64 &&& 63)) ^^^ (-1 : Int64)))) G)) _
            refine c_run 1 (pc' := 101) (ls' := [(4, .long (R (20 + 3 * j + 0))), (0, .ref 77), (1, .int (nI j)), (2, .int t), (3, .int o)]) (st' := [.int ((((R (20 + 3 * j + 0)) &&& (((1 : Int64) <<< ((t : Int32).toInt64 &&& 63)) ^^^ (-1 : Int64))) : Int64).toInt32)]) (μ' := (I, (n_J J (r_u R (20 + 3 * j + 0) ((R (20 + 3 * j + 0)) &&& (((1 : Int64) <<< ((t : Int32).toInt64 &&& 63)) ^^^ (-1 : Int64)))) G))) (Nat.le_of_ble_eq_true rfl) rfl ?_
            refine c_ret (Nat.le_of_ble_eq_true rfl) rfl rfl ⟨by decide, rfl⟩ ?_
            unfold w_valve n_vv; simp only [hcj]; rw [if_pos h1, if_pos h2, if_pos h3, if_neg h4]; rw [if_neg (by assumption)]
            exact ⟨rfl, rfl⟩
          · skip
            refine c_run 6 (pc' := 89) (ls' := [(4, .long (R (20 + 3 * j + 0))), (0, .ref 77), (1, .int (nI j)), (2, .int t), (3, .int o)]) (st' := [.long ((R (20 + 3 * j + 0)) ||| ((1 : Int64) <<< ((t : Int32).toInt64 &&& 63))), .int (nI (20 + 3 * j + 0)), .ref 78]) (μ' := (I, (n_J J R G))) (Nat.le_of_ble_eq_true rfl) rfl ?_
            refine c_las (20 + 3 * j + 0) 140 (Nat.le_of_ble_eq_true rfl) rfl rfl rfl rfl rfl (by omega) ?_
            show m_W 119 90 [(4, .long (R (20 + 3 * j + 0))), (0, .ref 77), (1, .int (nI j)), (2, .int t), (3, .int o)] [] (I, m_uj (n_J J R G) 78 (20 + 3 * j + 0) ((R (20 + 3 * j + 0)) ||| ((1 : Int64) <<< ((t : Int32).toInt64 &&& 63)))) _
            rw [n_JR]
            show m_W 119 90 [(4, .long (R (20 + 3 * j + 0))), (0, .ref 77), (1, .int (nI j)), (2, .int t), (3, .int o)] [] (I, (n_J J (r_u R (20 + 3 * j + 0) ((R (20 + 3 * j + 0)) ||| ((1 : Int64) <<< ((t : Int32).toInt64 &&& 63)))) G)) _
            refine c_run 4 (pc' := 96) (ls' := [(4, .long (R (20 + 3 * j + 0))), (0, .ref 77), (1, .int (nI j)), (2, .int t), (3, .int o)]) (st' := [.int 0, .int (nI j), .ref 78]) (μ' := (I, (n_J J (r_u R (20 + 3 * j + 0) ((R (20 + 3 * j + 0)) ||| ((1 : Int64) <<< ((t : Int32).toInt64 &&& 63)))) G))) (Nat.le_of_ble_eq_true rfl) rfl ?_
            refine c_cs 102 [.int (nI j), .int 0] (r := [.ref 78]) (Nat.le_of_ble_eq_true rfl) rfl (Or.inl rfl) rfl rfl rfl (t_at2 I (n_J J (r_u R (20 + 3 * j + 0) ((R (20 + 3 * j + 0)) ||| ((1 : Int64) <<< ((t : Int32).toInt64 &&& 63)))) G) j 0) ?_
            rintro _ _ ⟨rfl, rfl⟩
            show m_W 119 99 [(4, .long (R (20 + 3 * j + 0))), (0, .ref 77), (1, .int (nI j)), (2, .int t), (3, .int o)] [.int (nI (20 + 3 * j + 0)), .ref 78] (I, (n_J J (r_u R (20 + 3 * j + 0) ((R (20 + 3 * j + 0)) ||| ((1 : Int64) <<< ((t : Int32).toInt64 &&& 63)))) G)) _
            refine c_lal (20 + 3 * j + 0) 140 (Nat.le_of_ble_eq_true rfl) rfl rfl rfl rfl rfl (by omega) ?_
            show m_W 119 100 [(4, .long (R (20 + 3 * j + 0))), (0, .ref 77), (1, .int (nI j)), (2, .int t), (3, .int o)] [.long ((r_u R (20 + 3 * j + 0) ((R (20 + 3 * j + 0)) ||| ((1 : Int64) <<< ((t : Int32).toInt64 &&& 63)))) (20 + 3 * j + 0))] (I, (n_J J (r_u R (20 + 3 * j + 0) ((R (20 + 3 * j + 0)) ||| ((1 : Int64) <<< ((t : Int32).toInt64 &&& 63)))) G)) _
            rw [show (r_u R (20 + 3 * j + 0) ((R (20 + 3 * j + 0)) ||| ((1 : Int64) <<< ((t : Int32).toInt64 &&& 63)))) (20 + 3 * j + 0) = ((R (20 + 3 * j + 0)) ||| ((1 : Int64) <<< ((t : Int32).toInt64 &&& 63))) from by rw [r_us]]
            show m_W 119 100 [(4, .long (R (20 + 3 * j + 0))), (0, .ref 77), (1, .int (nI j)), (2, .int t), (3, .int o)] [.long ((R (20 + 3 * j + 0)) ||| ((1 : Int64) <<< ((t : Int32).toInt64 &&& 63)))] (I, (n_J J (r_u R (20 + 3 * j + 0) ((R (20 + 3 * j + 0)) ||| ((1 : Int64) <<< ((t : Int32).toInt64 &&& 63)))) G)) _
            refine c_run 1 (pc' := 101) (ls' := [(4, .long (R (20 + 3 * j + 0))), (0, .ref 77), (1, .int (nI j)), (2, .int t), (3, .int o)]) (st' := [.int ((((R (20 + 3 * j + 0)) ||| ((1 : Int64) <<< ((t : Int32).toInt64 &&& 63))) : Int64).toInt32)]) (μ' := (I, (n_J J (r_u R (20 + 3 * j + 0) ((R (20 + 3 * j + 0)) ||| ((1 : Int64) <<< ((t : Int32).toInt64 &&& 63)))) G))) (Nat.le_of_ble_eq_true rfl) rfl ?_
            refine c_ret (Nat.le_of_ble_eq_true rfl) rfl rfl ⟨by decide, rfl⟩ ?_
            unfold w_valve n_vv; simp only [hcj]; rw [if_pos h1, if_pos h2, if_pos h3, if_neg h4]; rw [if_pos (by assumption)]
            exact ⟨rfl, rfl⟩
        · replace h4 := lc_eq.mp h4
          refine c_run 1 (pc' := 43) (ls' := [(0, .ref 77), (1, .int e), (2, .int t), (3, .int o)]) (st' := [.int (-2)]) (μ' := (I, (n_J J R G))) (Nat.le_of_ble_eq_true rfl) rfl ?_
          refine c_ret (Nat.le_of_ble_eq_true rfl) rfl rfl ⟨by decide, rfl⟩ ?_
          unfold w_valve; rw [if_pos h1, if_pos h2, if_pos h3, if_pos h4]
          first | exact ⟨rfl, rfl⟩ | (refine ⟨?_, ?_⟩ <;> first | rfl | (simp only [r_us]; done))
      · replace h3 := s01_0.mp h3
        refine c_run 1 (pc' := 27) (ls' := [(0, .ref 77), (1, .int e), (2, .int t), (3, .int o)]) (st' := [.int (-1)]) (μ' := (I, (n_J J R G))) (Nat.le_of_ble_eq_true rfl) rfl ?_
        refine c_ret (Nat.le_of_ble_eq_true rfl) rfl rfl ⟨by decide, rfl⟩ ?_
        unfold w_valve; rw [if_pos h1, if_pos h2, if_neg h3]
        first | exact ⟨rfl, rfl⟩ | (refine ⟨?_, ?_⟩ <;> first | rfl | (simp only [r_us]; done))

set_option maxRecDepth 100000 in
theorem n_cut_l (I : Nat → Nat → Int32) (J : Nat → Nat → Int64) (R G : Nat → Int64) (n : Nat) (hn : I 77 2 = nI n) (hn4 : n ≤ 4) (e : Nat) (he : e < 6) (hb : R 39 = (nI e).toInt64)  : ∀ (r i : Nat), i + r = n → m_W 123 14 [(0, .ref 77), (1, .long (n_cs R i)), (3, .int (nI i))] [] (I, (n_J J (n_cut R (I 90 e) i) G)) (m_E (some (.int (R 40).toInt32)) (I, n_J J (n_fin R (I 90 e) n) G)) := by
  intro r
  induction r with
  | zero =>
    intro i hir
    have hin : n = i := by omega
    subst hin
    refine c_run 3 (pc' := 19) (ls' := [(0, .ref 77), (1, .long (n_cs R n)), (3, .int (nI n))]) (st' := [.int (I 77 2), .int (nI n)]) (μ' := (I, (n_J J (n_cut R (I 90 e) n) G))) (Nat.le_of_ble_eq_true rfl) rfl ?_
    refine c_icge 107 (Nat.le_of_ble_eq_true rfl) rfl rfl (fun h1 => ?_) (fun h1 => absurd (by rw [hn]; exact nI_le (by omega) (by omega)) h1)
    refine c_run 4 (pc' := 116) (ls' := [(0, .ref 77), (1, .long (n_cs R n)), (3, .int (nI n))]) (st' := [.long (-1), .int 39, .ref 78]) (μ' := (I, (n_J J (n_cut R (I 90 e) n) G))) (Nat.le_of_ble_eq_true rfl) rfl ?_
    refine c_las 39 140 (Nat.le_of_ble_eq_true rfl) rfl rfl rfl rfl rfl (by decide) ?_
    show m_W 123 117 [(0, .ref 77), (1, .long (n_cs R n)), (3, .int (nI n))] [] (I, m_uj (n_J J (n_cut R (I 90 e) n) G) 78 39 (-1)) _
    rw [n_JR]
    show m_W 123 117 [(0, .ref 77), (1, .long (n_cs R n)), (3, .int (nI n))] [] (I, (n_J J (r_u (n_cut R (I 90 e) n) 39 (-1)) G)) _
    refine c_run 4 (pc' := 121) (ls' := [(0, .ref 77), (1, .long (n_cs R n)), (3, .int (nI n))]) (st' := [.long (n_cs R n), .int (-1), .int 1, .ref 77]) (μ' := (I, (n_J J (r_u (n_cut R (I 90 e) n) 39 (-1)) G))) (Nat.le_of_ble_eq_true rfl) rfl ?_
    refine c_cv 103 [.int 1, .int (-1), .long (n_cs R n)] (b := 77) (r := []) (Nat.le_of_ble_eq_true rfl) rfl rfl rfl rfl rfl rfl (n_enters I J (r_u (n_cut R (I 90 e) n) 39 (-1)) G 1 (-1) (n_cs R n)) ?_
    rintro _ _ ⟨rfl, rfl⟩
    show m_W 123 124 [(0, .ref 77), (1, .long (n_cs R n)), (3, .int (nI n))] [] (I, (n_J J (n_ent (r_u (n_cut R (I 90 e) n) 39 (-1)) 1 (-1) (n_cs R n)) G)) _
    refine c_run 3 (pc' := 130) (ls' := [(0, .ref 77), (1, .long (n_cs R n)), (3, .int (nI n))]) (st' := [.int 40, .ref 78]) (μ' := (I, (n_J J (n_ent (r_u (n_cut R (I 90 e) n) 39 (-1)) 1 (-1) (n_cs R n)) G))) (Nat.le_of_ble_eq_true rfl) rfl ?_
    refine c_lal 40 140 (Nat.le_of_ble_eq_true rfl) rfl rfl rfl rfl rfl (by decide) ?_
    show m_W 123 131 [(0, .ref 77), (1, .long (n_cs R n)), (3, .int (nI n))] [.long ((n_ent (r_u (n_cut R (I 90 e) n) 39 (-1)) 1 (-1) (n_cs R n)) 40)] (I, (n_J J (n_ent (r_u (n_cut R (I 90 e) n) 39 (-1)) 1 (-1) (n_cs R n)) G)) _
    refine c_run 6 (pc' := 140) (ls' := [(3, .int ((((n_ent (r_u (n_cut R (I 90 e) n) 39 (-1)) 1 (-1) (n_cs R n)) 40) : Int64).toInt32)), (0, .ref 77), (1, .long (n_cs R n))]) (st' := [.long 0, .int 40, .ref 78]) (μ' := (I, (n_J J (n_ent (r_u (n_cut R (I 90 e) n) 39 (-1)) 1 (-1) (n_cs R n)) G))) (Nat.le_of_ble_eq_true rfl) rfl ?_
    refine c_las 40 140 (Nat.le_of_ble_eq_true rfl) rfl rfl rfl rfl rfl (by decide) ?_
    show m_W 123 141 [(3, .int ((((n_ent (r_u (n_cut R (I 90 e) n) 39 (-1)) 1 (-1) (n_cs R n)) 40) : Int64).toInt32)), (0, .ref 77), (1, .long (n_cs R n))] [] (I, m_uj (n_J J (n_ent (r_u (n_cut R (I 90 e) n) 39 (-1)) 1 (-1) (n_cs R n)) G) 78 40 0) _
    rw [n_JR]
    show m_W 123 141 [(3, .int ((((n_ent (r_u (n_cut R (I 90 e) n) 39 (-1)) 1 (-1) (n_cs R n)) 40) : Int64).toInt32)), (0, .ref 77), (1, .long (n_cs R n))] [] (I, (n_J J (r_u (n_ent (r_u (n_cut R (I 90 e) n) 39 (-1)) 1 (-1) (n_cs R n)) 40 0) G)) _
    refine c_run 4 (pc' := 148) (ls' := [(3, .int ((((n_ent (r_u (n_cut R (I 90 e) n) 39 (-1)) 1 (-1) (n_cs R n)) 40) : Int64).toInt32)), (0, .ref 77), (1, .long (n_cs R n))]) (st' := [.long 0, .int 41, .ref 78]) (μ' := (I, (n_J J (r_u (n_ent (r_u (n_cut R (I 90 e) n) 39 (-1)) 1 (-1) (n_cs R n)) 40 0) G))) (Nat.le_of_ble_eq_true rfl) rfl ?_
    refine c_las 41 140 (Nat.le_of_ble_eq_true rfl) rfl rfl rfl rfl rfl (by decide) ?_
    show m_W 123 149 [(3, .int ((((n_ent (r_u (n_cut R (I 90 e) n) 39 (-1)) 1 (-1) (n_cs R n)) 40) : Int64).toInt32)), (0, .ref 77), (1, .long (n_cs R n))] [] (I, m_uj (n_J J (r_u (n_ent (r_u (n_cut R (I 90 e) n) 39 (-1)) 1 (-1) (n_cs R n)) 40 0) G) 78 41 0) _
    rw [n_JR]
    show m_W 123 149 [(3, .int ((((n_ent (r_u (n_cut R (I 90 e) n) 39 (-1)) 1 (-1) (n_cs R n)) 40) : Int64).toInt32)), (0, .ref 77), (1, .long (n_cs R n))] [] (I, (n_J J (r_u (r_u (n_ent (r_u (n_cut R (I 90 e) n) 39 (-1)) 1 (-1) (n_cs R n)) 40 0) 41 0) G)) _
    refine c_run 1 (pc' := 150) (ls' := [(3, .int ((((n_ent (r_u (n_cut R (I 90 e) n) 39 (-1)) 1 (-1) (n_cs R n)) 40) : Int64).toInt32)), (0, .ref 77), (1, .long (n_cs R n))]) (st' := [.int ((((n_ent (r_u (n_cut R (I 90 e) n) 39 (-1)) 1 (-1) (n_cs R n)) 40) : Int64).toInt32)]) (μ' := (I, (n_J J (r_u (r_u (n_ent (r_u (n_cut R (I 90 e) n) 39 (-1)) 1 (-1) (n_cs R n)) 40 0) 41 0) G))) (Nat.le_of_ble_eq_true rfl) rfl ?_
    refine c_ret (Nat.le_of_ble_eq_true rfl) rfl rfl ⟨by decide, rfl⟩ ?_
    rw [show ((n_ent (r_u (n_cut R (I 90 e) n) 39 (-1)) 1 (-1) (n_cs R n)) 40) = R 40 from by rw [n_ent_o (by omega), r_un (by omega)]; exact n_cut_o hn4 (by omega)]
    exact ⟨rfl, rfl⟩
  | succ r ih =>
    intro i hir
    refine c_run 3 (pc' := 19) (ls' := [(0, .ref 77), (1, .long (n_cs R i)), (3, .int (nI i))]) (st' := [.int (I 77 2), .int (nI i)]) (μ' := (I, (n_J J (n_cut R (I 90 e) i) G))) (Nat.le_of_ble_eq_true rfl) rfl ?_
    refine c_icge 107 (Nat.le_of_ble_eq_true rfl) rfl rfl (fun h1 => absurd h1 (by rw [hn]; exact nI_ge (by omega) (by omega))) (fun h1 => ?_)
    refine c_run 3 (pc' := 25) (ls' := [(0, .ref 77), (1, .long (n_cs R i)), (3, .int (nI i))]) (st' := [.int 4, .int (nI i), .ref 77]) (μ' := (I, (n_J J (n_cut R (I 90 e) i) G))) (Nat.le_of_ble_eq_true rfl) rfl ?_
    refine c_cv 101 [.int (nI i), .int 4] (b := 77) (r := []) (Nat.le_of_ble_eq_true rfl) rfl rfl rfl rfl rfl rfl (n_of I (n_J J (n_cut R (I 90 e) i) G) i 4 (by omega)) ?_
    rintro _ _ ⟨rfl, rfl⟩
    rw [show (n_J J (n_cut R (I 90 e) i) G) 78 (5 * i + 4) = R (5 * i + 4) from n_cut_o (by omega) (by omega)]
    show m_W 123 28 [(0, .ref 77), (1, .long (n_cs R i)), (3, .int (nI i))] [.long (R (5 * i + 4))] (I, (n_J J (n_cut R (I 90 e) i) G)) _
    refine c_run 5 (pc' := 38) (ls' := [(0, .ref 77), (1, .long (n_cs R i)), (3, .int (nI i))]) (st' := [.int 39, .ref 78, .ref 90, .long (R (5 * i + 4))]) (μ' := (I, (n_J J (n_cut R (I 90 e) i) G))) (Nat.le_of_ble_eq_true rfl) rfl ?_
    refine c_lal 39 140 (Nat.le_of_ble_eq_true rfl) rfl rfl rfl rfl rfl (by decide) ?_
    show m_W 123 39 [(0, .ref 77), (1, .long (n_cs R i)), (3, .int (nI i))] [.long ((n_cut R (I 90 e) i) 39), .ref 90, .long (R (5 * i + 4))] (I, (n_J J (n_cut R (I 90 e) i) G)) _
    refine c_run 1 (pc' := 40) (ls' := [(0, .ref 77), (1, .long (n_cs R i)), (3, .int (nI i))]) (st' := [.int ((((n_cut R (I 90 e) i) 39) : Int64).toInt32), .ref 90, .long (R (5 * i + 4))]) (μ' := (I, (n_J J (n_cut R (I 90 e) i) G))) (Nat.le_of_ble_eq_true rfl) rfl ?_
    refine c_ial e 6 (Nat.le_of_ble_eq_true rfl) rfl rfl rfl rfl (by rw [show (n_cut R (I 90 e) i) 39 = R 39 from n_cut_o (by omega) (by omega), hb]; exact Int32.toInt32_toInt64 _) (by omega) ?_
    show m_W 123 41 [(0, .ref 77), (1, .long (n_cs R i)), (3, .int (nI i))] [.int (I 90 e), .long (R (5 * i + 4))] (I, (n_J J (n_cut R (I 90 e) i) G)) _
    refine c_run 3 (pc' := 46) (ls' := [(0, .ref 77), (1, .long (n_cs R i)), (3, .int (nI i))]) (st' := [.long 1000, .long ((R (5 * i + 4)) * (((I 90 e) : Int32).toInt64))]) (μ' := (I, (n_J J (n_cut R (I 90 e) i) G))) (Nat.le_of_ble_eq_true rfl) rfl ?_
    refine c_cs 96 [.long ((R (5 * i + 4)) * (((I 90 e) : Int32).toInt64)), .long 1000] (r := []) (Nat.le_of_ble_eq_true rfl) rfl (Or.inl rfl) rfl rfl rfl (t_floor I (n_J J (n_cut R (I 90 e) i) G) ((R (5 * i + 4)) * (((I 90 e) : Int32).toInt64)) (1000 : Int64) (by decide)) ?_
    rintro _ _ ⟨rfl, rfl⟩
    show m_W 123 49 [(0, .ref 77), (1, .long (n_cs R i)), (3, .int (nI i))] [.long (s_fl ((R (5 * i + 4)) * (((I 90 e) : Int32).toInt64)) (1000 : Int64))] (I, (n_J J (n_cut R (I 90 e) i) G)) _
    refine c_run 4 (pc' := 54) (ls' := [(4, .long (s_fl ((R (5 * i + 4)) * (((I 90 e) : Int32).toInt64)) (1000 : Int64))), (0, .ref 77), (1, .long (n_cs R i)), (3, .int (nI i))]) (st' := [.int 3, .int (nI i), .ref 77]) (μ' := (I, (n_J J (n_cut R (I 90 e) i) G))) (Nat.le_of_ble_eq_true rfl) rfl ?_
    refine c_cv 101 [.int (nI i), .int 3] (b := 77) (r := []) (Nat.le_of_ble_eq_true rfl) rfl rfl rfl rfl rfl rfl (n_of I (n_J J (n_cut R (I 90 e) i) G) i 3 (by omega)) ?_
    rintro _ _ ⟨rfl, rfl⟩
    show m_W 123 57 [(4, .long (s_fl ((R (5 * i + 4)) * (((I 90 e) : Int32).toInt64)) (1000 : Int64))), (0, .ref 77), (1, .long (n_cs R i)), (3, .int (nI i))] [.long ((n_cut R (I 90 e) i) (5 * i + 3))] (I, (n_J J (n_cut R (I 90 e) i) G)) _
    refine c_run 15 (pc' := 80) (ls' := [(6, .long (((n_cut R (I 90 e) i) (5 * i + 3)) + ((s_fl ((R (5 * i + 4)) * (((I 90 e) : Int32).toInt64)) (1000 : Int64)) * (s_fl ((R (5 * i + 4)) * (((I 90 e) : Int32).toInt64)) (1000 : Int64))))), (4, .long (s_fl ((R (5 * i + 4)) * (((I 90 e) : Int32).toInt64)) (1000 : Int64))), (0, .ref 77), (1, .long (n_cs R i)), (3, .int (nI i))]) (st' := [.int (lg_cmp (((n_cut R (I 90 e) i) (5 * i + 3)) + ((s_fl ((R (5 * i + 4)) * (((I 90 e) : Int32).toInt64)) (1000 : Int64)) * (s_fl ((R (5 * i + 4)) * (((I 90 e) : Int32).toInt64)) (1000 : Int64)))) 1000000000000000), .int (((5 : Int32) * (nI i)) + (3 : Int32)), .ref 78]) (μ' := (I, (n_J J (n_cut R (I 90 e) i) G))) (Nat.le_of_ble_eq_true rfl) rfl ?_
    refine c_ifle 89 (Nat.le_of_ble_eq_true rfl) rfl rfl (fun h2 => ?_) (fun h2 => ?_)
    · replace h2 := lc_le.mp h2
      refine c_run 1 (pc' := 91) (ls' := [(6, .long (((n_cut R (I 90 e) i) (5 * i + 3)) + ((s_fl ((R (5 * i + 4)) * (((I 90 e) : Int32).toInt64)) (1000 : Int64)) * (s_fl ((R (5 * i + 4)) * (((I 90 e) : Int32).toInt64)) (1000 : Int64))))), (4, .long (s_fl ((R (5 * i + 4)) * (((I 90 e) : Int32).toInt64)) (1000 : Int64))), (0, .ref 77), (1, .long (n_cs R i)), (3, .int (nI i))]) (st' := [.long (((n_cut R (I 90 e) i) (5 * i + 3)) + ((s_fl ((R (5 * i + 4)) * (((I 90 e) : Int32).toInt64)) (1000 : Int64)) * (s_fl ((R (5 * i + 4)) * (((I 90 e) : Int32).toInt64)) (1000 : Int64)))), .int (((5 : Int32) * (nI i)) + (3 : Int32)), .ref 78]) (μ' := (I, (n_J J (n_cut R (I 90 e) i) G))) (Nat.le_of_ble_eq_true rfl) rfl ?_
      refine c_las (5 * i + 3) 140 (Nat.le_of_ble_eq_true rfl) rfl rfl rfl rfl (n_5w i 3) (by omega) ?_
      show m_W 123 92 [(6, .long (((n_cut R (I 90 e) i) (5 * i + 3)) + ((s_fl ((R (5 * i + 4)) * (((I 90 e) : Int32).toInt64)) (1000 : Int64)) * (s_fl ((R (5 * i + 4)) * (((I 90 e) : Int32).toInt64)) (1000 : Int64))))), (4, .long (s_fl ((R (5 * i + 4)) * (((I 90 e) : Int32).toInt64)) (1000 : Int64))), (0, .ref 77), (1, .long (n_cs R i)), (3, .int (nI i))] [] (I, m_uj (n_J J (n_cut R (I 90 e) i) G) 78 (5 * i + 3) (((n_cut R (I 90 e) i) (5 * i + 3)) + ((s_fl ((R (5 * i + 4)) * (((I 90 e) : Int32).toInt64)) (1000 : Int64)) * (s_fl ((R (5 * i + 4)) * (((I 90 e) : Int32).toInt64)) (1000 : Int64))))) _
      rw [n_JR]
      show m_W 123 92 [(6, .long (((n_cut R (I 90 e) i) (5 * i + 3)) + ((s_fl ((R (5 * i + 4)) * (((I 90 e) : Int32).toInt64)) (1000 : Int64)) * (s_fl ((R (5 * i + 4)) * (((I 90 e) : Int32).toInt64)) (1000 : Int64))))), (4, .long (s_fl ((R (5 * i + 4)) * (((I 90 e) : Int32).toInt64)) (1000 : Int64))), (0, .ref 77), (1, .long (n_cs R i)), (3, .int (nI i))] [] (I, (n_J J (r_u (n_cut R (I 90 e) i) (5 * i + 3) (((n_cut R (I 90 e) i) (5 * i + 3)) + ((s_fl ((R (5 * i + 4)) * (((I 90 e) : Int32).toInt64)) (1000 : Int64)) * (s_fl ((R (5 * i + 4)) * (((I 90 e) : Int32).toInt64)) (1000 : Int64))))) G)) _
      refine c_run 4 (pc' := 96) (ls' := [(6, .long (((n_cut R (I 90 e) i) (5 * i + 3)) + ((s_fl ((R (5 * i + 4)) * (((I 90 e) : Int32).toInt64)) (1000 : Int64)) * (s_fl ((R (5 * i + 4)) * (((I 90 e) : Int32).toInt64)) (1000 : Int64))))), (4, .long (s_fl ((R (5 * i + 4)) * (((I 90 e) : Int32).toInt64)) (1000 : Int64))), (0, .ref 77), (1, .long (n_cs R i)), (3, .int (nI i))]) (st' := [.int 4, .int (nI i), .ref 77, .long (n_cs R i)]) (μ' := (I, (n_J J (r_u (n_cut R (I 90 e) i) (5 * i + 3) (((n_cut R (I 90 e) i) (5 * i + 3)) + ((s_fl ((R (5 * i + 4)) * (((I 90 e) : Int32).toInt64)) (1000 : Int64)) * (s_fl ((R (5 * i + 4)) * (((I 90 e) : Int32).toInt64)) (1000 : Int64))))) G))) (Nat.le_of_ble_eq_true rfl) rfl ?_
      refine c_cv 101 [.int (nI i), .int 4] (b := 77) (r := [.long (n_cs R i)]) (Nat.le_of_ble_eq_true rfl) rfl rfl rfl rfl rfl rfl (n_of I (n_J J (r_u (n_cut R (I 90 e) i) (5 * i + 3) (((n_cut R (I 90 e) i) (5 * i + 3)) + ((s_fl ((R (5 * i + 4)) * (((I 90 e) : Int32).toInt64)) (1000 : Int64)) * (s_fl ((R (5 * i + 4)) * (((I 90 e) : Int32).toInt64)) (1000 : Int64))))) G) i 4 (by omega)) ?_
      rintro _ _ ⟨rfl, rfl⟩
      rw [show (n_J J (r_u (n_cut R (I 90 e) i) (5 * i + 3) (((n_cut R (I 90 e) i) (5 * i + 3)) + ((s_fl ((R (5 * i + 4)) * (((I 90 e) : Int32).toInt64)) (1000 : Int64)) * (s_fl ((R (5 * i + 4)) * (((I 90 e) : Int32).toInt64)) (1000 : Int64))))) G) 78 (5 * i + 4) = R (5 * i + 4) from (show (r_u (n_cut R (I 90 e) i) (5 * i + 3) (((n_cut R (I 90 e) i) (5 * i + 3)) + ((s_fl ((R (5 * i + 4)) * (((I 90 e) : Int32).toInt64)) (1000 : Int64)) * (s_fl ((R (5 * i + 4)) * (((I 90 e) : Int32).toInt64)) (1000 : Int64))))) (5 * i + 4) = R (5 * i + 4) by rw [r_un (by omega)]; exact n_cut_o (by omega) (by omega))]
      show m_W 123 99 [(6, .long (((n_cut R (I 90 e) i) (5 * i + 3)) + ((s_fl ((R (5 * i + 4)) * (((I 90 e) : Int32).toInt64)) (1000 : Int64)) * (s_fl ((R (5 * i + 4)) * (((I 90 e) : Int32).toInt64)) (1000 : Int64))))), (4, .long (s_fl ((R (5 * i + 4)) * (((I 90 e) : Int32).toInt64)) (1000 : Int64))), (0, .ref 77), (1, .long (n_cs R i)), (3, .int (nI i))] [.long (R (5 * i + 4)), .long (n_cs R i)] (I, (n_J J (r_u (n_cut R (I 90 e) i) (5 * i + 3) (((n_cut R (I 90 e) i) (5 * i + 3)) + ((s_fl ((R (5 * i + 4)) * (((I 90 e) : Int32).toInt64)) (1000 : Int64)) * (s_fl ((R (5 * i + 4)) * (((I 90 e) : Int32).toInt64)) (1000 : Int64))))) G)) _
      refine c_run 4 (pc' := 14) (ls' := [(3, .int ((nI i) + (1 : Int32))), (1, .long ((n_cs R i) + (R (5 * i + 4)))), (6, .long (((n_cut R (I 90 e) i) (5 * i + 3)) + ((s_fl ((R (5 * i + 4)) * (((I 90 e) : Int32).toInt64)) (1000 : Int64)) * (s_fl ((R (5 * i + 4)) * (((I 90 e) : Int32).toInt64)) (1000 : Int64))))), (4, .long (s_fl ((R (5 * i + 4)) * (((I 90 e) : Int32).toInt64)) (1000 : Int64))), (0, .ref 77)]) (st' := []) (μ' := (I, (n_J J (r_u (n_cut R (I 90 e) i) (5 * i + 3) (((n_cut R (I 90 e) i) (5 * i + 3)) + ((s_fl ((R (5 * i + 4)) * (((I 90 e) : Int32).toInt64)) (1000 : Int64)) * (s_fl ((R (5 * i + 4)) * (((I 90 e) : Int32).toInt64)) (1000 : Int64))))) G))) (Nat.le_of_ble_eq_true rfl) rfl ?_
      refine c_w [4, 1, 0] (ls' := [(0, .ref 77), (1, .long ((n_cs R i) + (R (5 * i + 4)))), (3, .int ((nI i) + (1 : Int32)))]) rfl ?_
      have hrow : (r_u (n_cut R (I 90 e) i) (5 * i + 3) (((n_cut R (I 90 e) i) (5 * i + 3)) + ((s_fl ((R (5 * i + 4)) * (((I 90 e) : Int32).toInt64)) (1000 : Int64)) * (s_fl ((R (5 * i + 4)) * (((I 90 e) : Int32).toInt64)) (1000 : Int64))))) = n_cut R (I 90 e) (i + 1) := by
        rw [n_cut, n_cap, n_of1]
        first | rw [if_pos (by assumption)] | rw [if_neg (by assumption)]
        try rfl
      rw [nI_1 i, hrow, show ((n_cs R i) + (R (5 * i + 4))) = n_cs R (i + 1) from rfl]
      exact ih (i + 1) (by omega)
    · replace h2 := mt lc_le.mpr h2
      refine c_run 2 (pc' := 91) (ls' := [(6, .long (((n_cut R (I 90 e) i) (5 * i + 3)) + ((s_fl ((R (5 * i + 4)) * (((I 90 e) : Int32).toInt64)) (1000 : Int64)) * (s_fl ((R (5 * i + 4)) * (((I 90 e) : Int32).toInt64)) (1000 : Int64))))), (4, .long (s_fl ((R (5 * i + 4)) * (((I 90 e) : Int32).toInt64)) (1000 : Int64))), (0, .ref 77), (1, .long (n_cs R i)), (3, .int (nI i))]) (st' := [.long 1000000000000000, .int (((5 : Int32) * (nI i)) + (3 : Int32)), .ref 78]) (μ' := (I, (n_J J (n_cut R (I 90 e) i) G))) (Nat.le_of_ble_eq_true rfl) rfl ?_
      refine c_las (5 * i + 3) 140 (Nat.le_of_ble_eq_true rfl) rfl rfl rfl rfl (n_5w i 3) (by omega) ?_
      show m_W 123 92 [(6, .long (((n_cut R (I 90 e) i) (5 * i + 3)) + ((s_fl ((R (5 * i + 4)) * (((I 90 e) : Int32).toInt64)) (1000 : Int64)) * (s_fl ((R (5 * i + 4)) * (((I 90 e) : Int32).toInt64)) (1000 : Int64))))), (4, .long (s_fl ((R (5 * i + 4)) * (((I 90 e) : Int32).toInt64)) (1000 : Int64))), (0, .ref 77), (1, .long (n_cs R i)), (3, .int (nI i))] [] (I, m_uj (n_J J (n_cut R (I 90 e) i) G) 78 (5 * i + 3) 1000000000000000) _
      rw [n_JR]
      show m_W 123 92 [(6, .long (((n_cut R (I 90 e) i) (5 * i + 3)) + ((s_fl ((R (5 * i + 4)) * (((I 90 e) : Int32).toInt64)) (1000 : Int64)) * (s_fl ((R (5 * i + 4)) * (((I 90 e) : Int32).toInt64)) (1000 : Int64))))), (4, .long (s_fl ((R (5 * i + 4)) * (((I 90 e) : Int32).toInt64)) (1000 : Int64))), (0, .ref 77), (1, .long (n_cs R i)), (3, .int (nI i))] [] (I, (n_J J (r_u (n_cut R (I 90 e) i) (5 * i + 3) 1000000000000000) G)) _
      refine c_run 4 (pc' := 96) (ls' := [(6, .long (((n_cut R (I 90 e) i) (5 * i + 3)) + ((s_fl ((R (5 * i + 4)) * (((I 90 e) : Int32).toInt64)) (1000 : Int64)) * (s_fl ((R (5 * i + 4)) * (((I 90 e) : Int32).toInt64)) (1000 : Int64))))), (4, .long (s_fl ((R (5 * i + 4)) * (((I 90 e) : Int32).toInt64)) (1000 : Int64))), (0, .ref 77), (1, .long (n_cs R i)), (3, .int (nI i))]) (st' := [.int 4, .int (nI i), .ref 77, .long (n_cs R i)]) (μ' := (I, (n_J J (r_u (n_cut R (I 90 e) i) (5 * i + 3) 1000000000000000) G))) (Nat.le_of_ble_eq_true rfl) rfl ?_
      refine c_cv 101 [.int (nI i), .int 4] (b := 77) (r := [.long (n_cs R i)]) (Nat.le_of_ble_eq_true rfl) rfl rfl rfl rfl rfl rfl (n_of I (n_J J (r_u (n_cut R (I 90 e) i) (5 * i + 3) 1000000000000000) G) i 4 (by omega)) ?_
      rintro _ _ ⟨rfl, rfl⟩
      rw [show (n_J J (r_u (n_cut R (I 90 e) i) (5 * i + 3) 1000000000000000) G) 78 (5 * i + 4) = R (5 * i + 4) from (show (r_u (n_cut R (I 90 e) i) (5 * i + 3) 1000000000000000) (5 * i + 4) = R (5 * i + 4) by rw [r_un (by omega)]; exact n_cut_o (by omega) (by omega))]
      show m_W 123 99 [(6, .long (((n_cut R (I 90 e) i) (5 * i + 3)) + ((s_fl ((R (5 * i + 4)) * (((I 90 e) : Int32).toInt64)) (1000 : Int64)) * (s_fl ((R (5 * i + 4)) * (((I 90 e) : Int32).toInt64)) (1000 : Int64))))), (4, .long (s_fl ((R (5 * i + 4)) * (((I 90 e) : Int32).toInt64)) (1000 : Int64))), (0, .ref 77), (1, .long (n_cs R i)), (3, .int (nI i))] [.long (R (5 * i + 4)), .long (n_cs R i)] (I, (n_J J (r_u (n_cut R (I 90 e) i) (5 * i + 3) 1000000000000000) G)) _
      refine c_run 4 (pc' := 14) (ls' := [(3, .int ((nI i) + (1 : Int32))), (1, .long ((n_cs R i) + (R (5 * i + 4)))), (6, .long (((n_cut R (I 90 e) i) (5 * i + 3)) + ((s_fl ((R (5 * i + 4)) * (((I 90 e) : Int32).toInt64)) (1000 : Int64)) * (s_fl ((R (5 * i + 4)) * (((I 90 e) : Int32).toInt64)) (1000 : Int64))))), (4, .long (s_fl ((R (5 * i + 4)) * (((I 90 e) : Int32).toInt64)) (1000 : Int64))), (0, .ref 77)]) (st' := []) (μ' := (I, (n_J J (r_u (n_cut R (I 90 e) i) (5 * i + 3) 1000000000000000) G))) (Nat.le_of_ble_eq_true rfl) rfl ?_
      refine c_w [4, 1, 0] (ls' := [(0, .ref 77), (1, .long ((n_cs R i) + (R (5 * i + 4)))), (3, .int ((nI i) + (1 : Int32)))]) rfl ?_
      have hrow : (r_u (n_cut R (I 90 e) i) (5 * i + 3) 1000000000000000) = n_cut R (I 90 e) (i + 1) := by
        rw [n_cut, n_cap, n_of1]
        first | rw [if_pos (by assumption)] | rw [if_neg (by assumption)]
        try rfl
      rw [nI_1 i, hrow, show ((n_cs R i) + (R (5 * i + 4))) = n_cs R (i + 1) from rfl]
      exact ih (i + 1) (by omega)

set_option maxRecDepth 100000 in
theorem n_cutoff_n (I : Nat → Nat → Int32) (J : Nat → Nat → Int64) (R G : Nat → Int64) (hb : ¬ 0 ≤ R 39) : m_W 123 0 (lv_args 0 [.ref 77]) [] (I, (n_J J R G)) (m_E (some (.int (-2))) (I, n_J J R G)) := by
  show m_W 123 0 [(0, .ref 77)] [] (I, (n_J J R G)) _
  refine c_run 1 (pc' := 1) (ls' := [(0, .ref 77)]) (st' := [.ref 77]) (μ' := (I, (n_J J R G))) (Nat.le_of_ble_eq_true rfl) rfl ?_
  refine c_cv 100 [] (b := 77) (r := []) (Nat.le_of_ble_eq_true rfl) rfl rfl rfl rfl rfl rfl (n_burns I (n_J J R G)) ?_
  rintro _ _ ⟨rfl, rfl⟩
  show m_W 123 4 [(0, .ref 77)] [.int (s01 (0 ≤ (R 39)))] (I, (n_J J R G)) _
  refine c_ifne 10 (Nat.le_of_ble_eq_true rfl) rfl rfl (fun h1 => absurd (s01_1.mp h1) hb) (fun h1 => ?_)
  refine c_run 1 (pc' := 9) (ls' := [(0, .ref 77)]) (st' := [.int (-2)]) (μ' := (I, (n_J J R G))) (Nat.le_of_ble_eq_true rfl) rfl ?_
  refine c_ret (Nat.le_of_ble_eq_true rfl) rfl rfl ⟨by decide, rfl⟩ ?_
  exact ⟨rfl, rfl⟩

set_option maxRecDepth 100000 in
theorem n_cutoff_b (I : Nat → Nat → Int32) (J : Nat → Nat → Int64) (R G : Nat → Int64) (n : Nat) (hn : I 77 2 = nI n) (hn4 : n ≤ 4) (e : Nat) (he : e < 6) (hb : R 39 = (nI e).toInt64)  : m_W 123 0 (lv_args 0 [.ref 77]) [] (I, (n_J J R G)) (m_E (some (.int (R 40).toInt32)) (I, n_J J (n_fin R (I 90 e) n) G)) := by
  show m_W 123 0 [(0, .ref 77)] [] (I, (n_J J R G)) _
  have hb0 : 0 ≤ R 39 := by rw [hb]; exact n_le64 (x := 0).mpr (nI_pos' (by omega))
  refine c_run 1 (pc' := 1) (ls' := [(0, .ref 77)]) (st' := [.ref 77]) (μ' := (I, (n_J J R G))) (Nat.le_of_ble_eq_true rfl) rfl ?_
  refine c_cv 100 [] (b := 77) (r := []) (Nat.le_of_ble_eq_true rfl) rfl rfl rfl rfl rfl rfl (n_burns I (n_J J R G)) ?_
  rintro _ _ ⟨rfl, rfl⟩
  show m_W 123 4 [(0, .ref 77)] [.int (s01 (0 ≤ (R 39)))] (I, (n_J J R G)) _
  refine c_ifne 10 (Nat.le_of_ble_eq_true rfl) rfl rfl (fun h1 => ?_) (fun h1 => absurd hb0 (s01_0.mp h1))
  refine c_run 4 (pc' := 14) (ls' := [(3, .int 0), (1, .long 0), (0, .ref 77)]) (st' := []) (μ' := (I, (n_J J R G))) (Nat.le_of_ble_eq_true rfl) rfl ?_
  refine c_w [2, 1, 0] (ls' := [(0, .ref 77), (1, .long 0), (3, .int 0)]) rfl ?_
  exact n_cut_l I J R G n hn hn4 e he hb n 0 (by omega)

set_option maxRecDepth 100000 in
theorem n_isSettled (I : Nat → Nat → Int32) (J : Nat → Nat → Int64) (R G : Nat → Int64)  : m_W 130 0 (lv_args 0 [.ref 77]) [] (I, (n_J J R G)) (m_E (some (.int (s01 (n_set R (I 91 0))))) (I, n_J J R G)) := by
  show m_W 130 0 [(0, .ref 77)] [] (I, (n_J J R G)) _
  refine c_run 1 (pc' := 1) (ls' := [(0, .ref 77)]) (st' := [.ref 77]) (μ' := (I, (n_J J R G))) (Nat.le_of_ble_eq_true rfl) rfl ?_
  refine c_cv 100 [] (b := 77) (r := []) (Nat.le_of_ble_eq_true rfl) rfl rfl rfl rfl rfl rfl (n_burns I (n_J J R G)) ?_
  rintro _ _ ⟨rfl, rfl⟩
  show m_W 130 4 [(0, .ref 77)] [.int (s01 (0 ≤ (R 39)))] (I, (n_J J R G)) _
  refine c_ifeq 41 (Nat.le_of_ble_eq_true rfl) rfl rfl (fun h1 => ?_) (fun h1 => ?_)
  · replace h1 := s01_0.mp h1
    refine c_run 1 (pc' := 42) (ls' := [(0, .ref 77)]) (st' := [.int 0]) (μ' := (I, (n_J J R G))) (Nat.le_of_ble_eq_true rfl) rfl ?_
    refine c_ret (Nat.le_of_ble_eq_true rfl) rfl rfl ⟨by decide, rfl⟩ ?_
    refine ⟨?_, rfl⟩
    first
      | exact congrArg (fun z => some (Value.int z)) (s01_t ⟨by assumption, by assumption, by assumption⟩).symm
      | exact congrArg (fun z => some (Value.int z)) (s01_f (fun q => absurd q.1 (by assumption))).symm
      | exact congrArg (fun z => some (Value.int z)) (s01_f (fun q => absurd q.2.1 (by assumption))).symm
      | exact congrArg (fun z => some (Value.int z)) (s01_f (fun q => absurd (by assumption) q.2.2)).symm
  · replace h1 := s01_1.mp h1
    refine c_run 3 (pc' := 13) (ls' := [(0, .ref 77)]) (st' := [.int 41, .ref 78]) (μ' := (I, (n_J J R G))) (Nat.le_of_ble_eq_true rfl) rfl ?_
    refine c_lal 41 140 (Nat.le_of_ble_eq_true rfl) rfl rfl rfl rfl rfl (by decide) ?_
    show m_W 130 14 [(0, .ref 77)] [.long (R 41)] (I, (n_J J R G)) _
    refine c_run 2 (pc' := 16) (ls' := [(0, .ref 77)]) (st' := [.int (lg_cmp (R 41) 0)]) (μ' := (I, (n_J J R G))) (Nat.le_of_ble_eq_true rfl) rfl ?_
    refine c_ifne 41 (Nat.le_of_ble_eq_true rfl) rfl rfl (fun h2 => ?_) (fun h2 => ?_)
    · replace h2 := mt lc_eq.mpr h2
      refine c_run 1 (pc' := 42) (ls' := [(0, .ref 77)]) (st' := [.int 0]) (μ' := (I, (n_J J R G))) (Nat.le_of_ble_eq_true rfl) rfl ?_
      refine c_ret (Nat.le_of_ble_eq_true rfl) rfl rfl ⟨by decide, rfl⟩ ?_
      refine ⟨?_, rfl⟩
      first
        | exact congrArg (fun z => some (Value.int z)) (s01_t ⟨by assumption, by assumption, by assumption⟩).symm
        | exact congrArg (fun z => some (Value.int z)) (s01_f (fun q => absurd q.1 (by assumption))).symm
        | exact congrArg (fun z => some (Value.int z)) (s01_f (fun q => absurd q.2.1 (by assumption))).symm
        | exact congrArg (fun z => some (Value.int z)) (s01_f (fun q => absurd (by assumption) q.2.2)).symm
    · replace h2 := lc_eq.mp h2
      refine c_run 3 (pc' := 25) (ls' := [(0, .ref 77)]) (st' := [.int 40, .ref 78]) (μ' := (I, (n_J J R G))) (Nat.le_of_ble_eq_true rfl) rfl ?_
      refine c_lal 40 140 (Nat.le_of_ble_eq_true rfl) rfl rfl rfl rfl rfl (by decide) ?_
      show m_W 130 26 [(0, .ref 77)] [.long (R 40)] (I, (n_J J R G)) _
      refine c_run 3 (pc' := 31) (ls' := [(0, .ref 77)]) (st' := [.int 0, .ref 91, .long (R 40)]) (μ' := (I, (n_J J R G))) (Nat.le_of_ble_eq_true rfl) rfl ?_
      refine c_ial 0 3 (Nat.le_of_ble_eq_true rfl) rfl rfl rfl rfl rfl (by decide) ?_
      show m_W 130 32 [(0, .ref 77)] [.int (I 91 0), .long (R 40)] (I, (n_J J R G)) _
      refine c_run 2 (pc' := 34) (ls' := [(0, .ref 77)]) (st' := [.int (lg_cmp (R 40) (((I 91 0) : Int32).toInt64))]) (μ' := (I, (n_J J R G))) (Nat.le_of_ble_eq_true rfl) rfl ?_
      refine c_iflt 41 (Nat.le_of_ble_eq_true rfl) rfl rfl (fun h3 => ?_) (fun h3 => ?_)
      · replace h3 := lc_lt.mp h3
        refine c_run 1 (pc' := 42) (ls' := [(0, .ref 77)]) (st' := [.int 0]) (μ' := (I, (n_J J R G))) (Nat.le_of_ble_eq_true rfl) rfl ?_
        refine c_ret (Nat.le_of_ble_eq_true rfl) rfl rfl ⟨by decide, rfl⟩ ?_
        refine ⟨?_, rfl⟩
        first
          | exact congrArg (fun z => some (Value.int z)) (s01_t ⟨by assumption, by assumption, by assumption⟩).symm
          | exact congrArg (fun z => some (Value.int z)) (s01_f (fun q => absurd q.1 (by assumption))).symm
          | exact congrArg (fun z => some (Value.int z)) (s01_f (fun q => absurd q.2.1 (by assumption))).symm
          | exact congrArg (fun z => some (Value.int z)) (s01_f (fun q => absurd (by assumption) q.2.2)).symm
      · replace h3 := mt lc_lt.mpr h3
        refine c_run 2 (pc' := 42) (ls' := [(0, .ref 77)]) (st' := [.int 1]) (μ' := (I, (n_J J R G))) (Nat.le_of_ble_eq_true rfl) rfl ?_
        refine c_ret (Nat.le_of_ble_eq_true rfl) rfl rfl ⟨by decide, rfl⟩ ?_
        refine ⟨?_, rfl⟩
        first
          | exact congrArg (fun z => some (Value.int z)) (s01_t ⟨by assumption, by assumption, by assumption⟩).symm
          | exact congrArg (fun z => some (Value.int z)) (s01_f (fun q => absurd q.1 (by assumption))).symm
          | exact congrArg (fun z => some (Value.int z)) (s01_f (fun q => absurd q.2.1 (by assumption))).symm
          | exact congrArg (fun z => some (Value.int z)) (s01_f (fun q => absurd (by assumption) q.2.2)).symm

def w_burn (R : Nat → Int64) (s w : Int32) : Int32 := if w = 0 then (R 39).toInt32 else (if w = 1 then (R 40).toInt32 else (if w = 2 then (if n_set R s then 1 else 0) else (if w = 3 then (R 41).toInt32 else -1)))
set_option maxRecDepth 100000 in
theorem n_burn (I : Nat → Nat → Int32) (J : Nat → Nat → Int64) (R G : Nat → Int64) (w : Int32)  : m_W 131 0 (lv_args 0 [.ref 77, .int w]) [] (I, (n_J J R G)) (m_E (some (.int (w_burn R (I 91 0) w))) (I, n_J J R G)) := by
  show m_W 131 0 [(0, .ref 77), (1, .int w)] [] (I, (n_J J R G)) _
  refine c_run 1 (pc' := 1) (ls' := [(0, .ref 77), (1, .int w)]) (st' := [.int w]) (μ' := (I, (n_J J R G))) (Nat.le_of_ble_eq_true rfl) rfl ?_
  refine c_sw (Nat.le_of_ble_eq_true rfl) rfl 72 rfl (fun h1 => ?_) (fun j o ho h1 _ => ?_)
  · skip
    refine c_run 1 (pc' := 73) (ls' := [(0, .ref 77), (1, .int w)]) (st' := [.int (-1)]) (μ' := (I, (n_J J R G))) (Nat.le_of_ble_eq_true rfl) rfl ?_
    refine c_ret (Nat.le_of_ble_eq_true rfl) rfl rfl ⟨by decide, rfl⟩ ?_
    have hd : ∀ c : Int32, 0 ≤ c.toInt → c.toInt ≤ 3 → ¬ w = c := fun c h0 h3 q => by rw [q] at h1; omega
    unfold w_burn; rw [if_neg (hd 0 (by decide) (by decide)), if_neg (hd 1 (by decide) (by decide)), if_neg (hd 2 (by decide) (by decide)), if_neg (hd 3 (by decide) (by decide))]
    exact ⟨rfl, rfl⟩
  · have hj : j < 4 := (Array.getElem?_eq_some_iff.mp ho).1
    have h1 : w = Int32.ofInt (0 + (j : Int)) := by rw [← h1, Int32.ofInt_toInt]
    rcases (show j = 0 ∨ j = 1 ∨ j = 2 ∨ j = 3 by omega) with rfl | rfl | rfl | rfl
    · have ho : (31 : Int) = o := by simpa using ho
      subst ho
      have h1 : w = 0 := h1
      show m_W 131 32 [(0, .ref 77), (1, .int w)] [] (I, (n_J J R G)) _
      refine c_run 3 (pc' := 38) (ls' := [(0, .ref 77), (1, .int w)]) (st' := [.int 39, .ref 78]) (μ' := (I, (n_J J R G))) (Nat.le_of_ble_eq_true rfl) rfl ?_
      refine c_lal 39 140 (Nat.le_of_ble_eq_true rfl) rfl rfl rfl rfl rfl (by decide) ?_
      show m_W 131 39 [(0, .ref 77), (1, .int w)] [.long (R 39)] (I, (n_J J R G)) _
      refine c_run 1 (pc' := 40) (ls' := [(0, .ref 77), (1, .int w)]) (st' := [.int (((R 39) : Int64).toInt32)]) (μ' := (I, (n_J J R G))) (Nat.le_of_ble_eq_true rfl) rfl ?_
      refine c_ret (Nat.le_of_ble_eq_true rfl) rfl rfl ⟨by decide, rfl⟩ ?_
      unfold w_burn; rw [if_pos h1]
      exact ⟨rfl, rfl⟩
    · have ho : (40 : Int) = o := by simpa using ho
      subst ho
      have h1 : w = 1 := h1
      show m_W 131 41 [(0, .ref 77), (1, .int w)] [] (I, (n_J J R G)) _
      refine c_run 3 (pc' := 47) (ls' := [(0, .ref 77), (1, .int w)]) (st' := [.int 40, .ref 78]) (μ' := (I, (n_J J R G))) (Nat.le_of_ble_eq_true rfl) rfl ?_
      refine c_lal 40 140 (Nat.le_of_ble_eq_true rfl) rfl rfl rfl rfl rfl (by decide) ?_
      show m_W 131 48 [(0, .ref 77), (1, .int w)] [.long (R 40)] (I, (n_J J R G)) _
      refine c_run 1 (pc' := 49) (ls' := [(0, .ref 77), (1, .int w)]) (st' := [.int (((R 40) : Int64).toInt32)]) (μ' := (I, (n_J J R G))) (Nat.le_of_ble_eq_true rfl) rfl ?_
      refine c_ret (Nat.le_of_ble_eq_true rfl) rfl rfl ⟨by decide, rfl⟩ ?_
      unfold w_burn; rw [if_neg (by rw [h1]; decide), if_pos h1]
      exact ⟨rfl, rfl⟩
    · have ho : (49 : Int) = o := by simpa using ho
      subst ho
      have h1 : w = 2 := h1
      show m_W 131 50 [(0, .ref 77), (1, .int w)] [] (I, (n_J J R G)) _
      refine c_run 1 (pc' := 51) (ls' := [(0, .ref 77), (1, .int w)]) (st' := [.ref 77]) (μ' := (I, (n_J J R G))) (Nat.le_of_ble_eq_true rfl) rfl ?_
      refine c_cv 130 [] (b := 77) (r := []) (Nat.le_of_ble_eq_true rfl) rfl rfl rfl rfl rfl rfl (n_isSettled I J R G) ?_
      rintro _ _ ⟨rfl, rfl⟩
      show m_W 131 54 [(0, .ref 77), (1, .int w)] [.int (s01 (n_set R (I 91 0)))] (I, (n_J J R G)) _
      refine c_ifeq 61 (Nat.le_of_ble_eq_true rfl) rfl rfl (fun h2 => ?_) (fun h2 => ?_)
      · replace h2 := s01_0.mp h2
        refine c_run 1 (pc' := 62) (ls' := [(0, .ref 77), (1, .int w)]) (st' := [.int 0]) (μ' := (I, (n_J J R G))) (Nat.le_of_ble_eq_true rfl) rfl ?_
        refine c_ret (Nat.le_of_ble_eq_true rfl) rfl rfl ⟨by decide, rfl⟩ ?_
        unfold w_burn; rw [if_neg (by rw [h1]; decide), if_neg (by rw [h1]; decide), if_pos h1, if_neg h2]
        exact ⟨rfl, rfl⟩
      · replace h2 := s01_1.mp h2
        refine c_run 2 (pc' := 62) (ls' := [(0, .ref 77), (1, .int w)]) (st' := [.int 1]) (μ' := (I, (n_J J R G))) (Nat.le_of_ble_eq_true rfl) rfl ?_
        refine c_ret (Nat.le_of_ble_eq_true rfl) rfl rfl ⟨by decide, rfl⟩ ?_
        unfold w_burn; rw [if_neg (by rw [h1]; decide), if_neg (by rw [h1]; decide), if_pos h1, if_pos h2]
        exact ⟨rfl, rfl⟩
    · have ho : (62 : Int) = o := by simpa using ho
      subst ho
      have h1 : w = 3 := h1
      show m_W 131 63 [(0, .ref 77), (1, .int w)] [] (I, (n_J J R G)) _
      refine c_run 3 (pc' := 69) (ls' := [(0, .ref 77), (1, .int w)]) (st' := [.int 41, .ref 78]) (μ' := (I, (n_J J R G))) (Nat.le_of_ble_eq_true rfl) rfl ?_
      refine c_lal 41 140 (Nat.le_of_ble_eq_true rfl) rfl rfl rfl rfl rfl (by decide) ?_
      show m_W 131 70 [(0, .ref 77), (1, .int w)] [.long (R 41)] (I, (n_J J R G)) _
      refine c_run 1 (pc' := 71) (ls' := [(0, .ref 77), (1, .int w)]) (st' := [.int (((R 41) : Int64).toInt32)]) (μ' := (I, (n_J J R G))) (Nat.le_of_ble_eq_true rfl) rfl ?_
      refine c_ret (Nat.le_of_ble_eq_true rfl) rfl rfl ⟨by decide, rfl⟩ ?_
      unfold w_burn; rw [if_neg (by rw [h1]; decide), if_neg (by rw [h1]; decide), if_neg (by rw [h1]; decide), if_pos h1]
      exact ⟨rfl, rfl⟩

set_option maxRecDepth 100000 in
theorem n_weightOf (I : Nat → Nat → Int32) (J : Nat → Nat → Int64) (R G : Nat → Int64) (i : Nat) (hi : i < 4) (hz : ¬ R (5 * i + 3) + J 82 i = 0)  : m_W 132 0 (lv_args 0 [.ref 77, .int (nI i)]) [] (I, (n_J J R G)) (m_E (some (.long (n_wt R (J 82) i))) (I, n_J J R G)) := by
  show m_W 132 0 [(0, .ref 77), (1, .int (nI i))] [] (I, (n_J J R G)) _
  refine c_run 4 (pc' := 6) (ls' := [(0, .ref 77), (1, .int (nI i))]) (st' := [.int 3, .int (nI i), .ref 77, .long 1000]) (μ' := (I, (n_J J R G))) (Nat.le_of_ble_eq_true rfl) rfl ?_
  refine c_cv 101 [.int (nI i), .int 3] (b := 77) (r := [.long 1000]) (Nat.le_of_ble_eq_true rfl) rfl rfl rfl rfl rfl rfl (n_of I (n_J J R G) i 3 (by omega)) ?_
  rintro _ _ ⟨rfl, rfl⟩
  show m_W 132 9 [(0, .ref 77), (1, .int (nI i))] [.long (R (5 * i + 3)), .long 1000] (I, (n_J J R G)) _
  refine c_run 4 (pc' := 13) (ls' := [(0, .ref 77), (1, .int (nI i))]) (st' := [.int 3, .int (nI i), .ref 77, .long ((1000 : Int64) * (R (5 * i + 3)))]) (μ' := (I, (n_J J R G))) (Nat.le_of_ble_eq_true rfl) rfl ?_
  refine c_cv 101 [.int (nI i), .int 3] (b := 77) (r := [.long ((1000 : Int64) * (R (5 * i + 3)))]) (Nat.le_of_ble_eq_true rfl) rfl rfl rfl rfl rfl rfl (n_of I (n_J J R G) i 3 (by omega)) ?_
  rintro _ _ ⟨rfl, rfl⟩
  show m_W 132 16 [(0, .ref 77), (1, .int (nI i))] [.long (R (5 * i + 3)), .long ((1000 : Int64) * (R (5 * i + 3)))] (I, (n_J J R G)) _
  refine c_run 3 (pc' := 21) (ls' := [(0, .ref 77), (1, .int (nI i))]) (st' := [.int (nI i), .ref 82, .long (R (5 * i + 3)), .long ((1000 : Int64) * (R (5 * i + 3)))]) (μ' := (I, (n_J J R G))) (Nat.le_of_ble_eq_true rfl) rfl ?_
  refine c_lal i 4 (Nat.le_of_ble_eq_true rfl) rfl rfl rfl rfl rfl (by omega) ?_
  show m_W 132 22 [(0, .ref 77), (1, .int (nI i))] [.long (J 82 i), .long (R (5 * i + 3)), .long ((1000 : Int64) * (R (5 * i + 3)))] (I, (n_J J R G)) _
  refine c_run 1 (pc' := 23) (ls' := [(0, .ref 77), (1, .int (nI i))]) (st' := [.long ((R (5 * i + 3)) + (J 82 i)), .long ((1000 : Int64) * (R (5 * i + 3)))]) (μ' := (I, (n_J J R G))) (Nat.le_of_ble_eq_true rfl) rfl ?_
  refine c_ldiv (Nat.le_of_ble_eq_true rfl) rfl hz ?_
  refine c_lret (Nat.le_of_ble_eq_true rfl) rfl rfl ?_
  exact ⟨rfl, rfl⟩

set_option maxRecDepth 100000 in
theorem n_weight_i (I : Nat → Nat → Int32) (J : Nat → Nat → Int64) (R G : Nat → Int64) (n : Nat) (hn : I 77 2 = nI n) (hn4 : n ≤ 4) (i : Nat) (hi : i < n) (hz : ¬ R (5 * i + 3) + J 82 i = 0)  : m_W 134 0 (lv_args 0 [.ref 77, .int (nI i)]) [] (I, (n_J J R G)) (m_E (some (.int (n_wt R (J 82) i).toInt32)) (I, n_J J R G)) := by
  show m_W 134 0 [(0, .ref 77), (1, .int (nI i))] [] (I, (n_J J R G)) _
  refine c_run 2 (pc' := 2) (ls' := [(0, .ref 77), (1, .int (nI i))]) (st' := [.int (nI i), .ref 77]) (μ' := (I, (n_J J R G))) (Nat.le_of_ble_eq_true rfl) rfl ?_
  refine c_cv 98 [.int (nI i)] (b := 77) (r := []) (Nat.le_of_ble_eq_true rfl) rfl rfl rfl rfl rfl rfl (n_isT I (n_J J R G) (nI i) n hn hn4) ?_
  rintro _ _ ⟨rfl, rfl⟩
  show m_W 134 5 [(0, .ref 77), (1, .int (nI i))] [.int (s01 (0 ≤ (nI i) ∧ (nI i) < nI n))] (I, (n_J J R G)) _
  refine c_ifeq 17 (Nat.le_of_ble_eq_true rfl) rfl rfl (fun h1 => absurd h1 (s01_1.mpr (k_ixr hi (by omega)))) (fun h1 => ?_)
  refine c_run 2 (pc' := 10) (ls' := [(0, .ref 77), (1, .int (nI i))]) (st' := [.int (nI i), .ref 77]) (μ' := (I, (n_J J R G))) (Nat.le_of_ble_eq_true rfl) rfl ?_
  refine c_cv 132 [.int (nI i)] (b := 77) (r := []) (Nat.le_of_ble_eq_true rfl) rfl rfl rfl rfl rfl rfl (n_weightOf I J R G i (by omega) hz) ?_
  rintro _ _ ⟨rfl, rfl⟩
  show m_W 134 13 [(0, .ref 77), (1, .int (nI i))] [.long (n_wt R (J 82) i)] (I, (n_J J R G)) _
  refine c_run 2 (pc' := 18) (ls' := [(0, .ref 77), (1, .int (nI i))]) (st' := [.int (((n_wt R (J 82) i) : Int64).toInt32)]) (μ' := (I, (n_J J R G))) (Nat.le_of_ble_eq_true rfl) rfl ?_
  refine c_ret (Nat.le_of_ble_eq_true rfl) rfl rfl ⟨by decide, rfl⟩ ?_
  exact ⟨rfl, rfl⟩

set_option maxRecDepth 100000 in
theorem n_weight_o (I : Nat → Nat → Int32) (J : Nat → Nat → Int64) (R G : Nat → Int64) (n : Nat) (hn : I 77 2 = nI n) (hn4 : n ≤ 4) (t : Int32) (ht : ¬ (0 ≤ t ∧ t < nI n)) : m_W 134 0 (lv_args 0 [.ref 77, .int t]) [] (I, (n_J J R G)) (m_E (some (.int (-1))) (I, n_J J R G)) := by
  show m_W 134 0 [(0, .ref 77), (1, .int t)] [] (I, (n_J J R G)) _
  refine c_run 2 (pc' := 2) (ls' := [(0, .ref 77), (1, .int t)]) (st' := [.int t, .ref 77]) (μ' := (I, (n_J J R G))) (Nat.le_of_ble_eq_true rfl) rfl ?_
  refine c_cv 98 [.int t] (b := 77) (r := []) (Nat.le_of_ble_eq_true rfl) rfl rfl rfl rfl rfl rfl (n_isT I (n_J J R G) t n hn hn4) ?_
  rintro _ _ ⟨rfl, rfl⟩
  show m_W 134 5 [(0, .ref 77), (1, .int t)] [.int (s01 (0 ≤ t ∧ t < nI n))] (I, (n_J J R G)) _
  refine c_ifeq 17 (Nat.le_of_ble_eq_true rfl) rfl rfl (fun h1 => ?_) (fun h1 => absurd (s01_0.mpr ht) h1)
  refine c_run 1 (pc' := 18) (ls' := [(0, .ref 77), (1, .int t)]) (st' := [.int (-1)]) (μ' := (I, (n_J J R G))) (Nat.le_of_ble_eq_true rfl) rfl ?_
  refine c_ret (Nat.le_of_ble_eq_true rfl) rfl rfl ⟨by decide, rfl⟩ ?_
  exact ⟨rfl, rfl⟩

set_option maxRecDepth 100000 in
theorem n_drift_i (I : Nat → Nat → Int32) (J : Nat → Nat → Int64) (R G : Nat → Int64) (n : Nat) (hn : I 77 2 = nI n) (hn4 : n ≤ 4) (i : Nat) (hi : i < n) (v : Nat) (hv : R (5 * i + 3) + 1 = lN v) (hv2 : v ≤ 1000000000000001) (hp : 0 < (s_rt (R (5 * i + 3) + 1)).toInt)  : m_W 156 0 (lv_args 0 [.ref 77, .int (nI i)]) [] (I, (n_J J R G)) (m_E (some (.long (s_fl (10 * (R (5 * i + 2) - R (5 * i + 1))) (s_rt (R (5 * i + 3) + 1))))) (I, n_J J R G)) := by
  show m_W 156 0 [(0, .ref 77), (1, .int (nI i))] [] (I, (n_J J R G)) _
  refine c_run 2 (pc' := 2) (ls' := [(0, .ref 77), (1, .int (nI i))]) (st' := [.int (nI i), .ref 77]) (μ' := (I, (n_J J R G))) (Nat.le_of_ble_eq_true rfl) rfl ?_
  refine c_cv 98 [.int (nI i)] (b := 77) (r := []) (Nat.le_of_ble_eq_true rfl) rfl rfl rfl rfl rfl rfl (n_isT I (n_J J R G) (nI i) n hn hn4) ?_
  rintro _ _ ⟨rfl, rfl⟩
  show m_W 156 5 [(0, .ref 77), (1, .int (nI i))] [.int (s01 (0 ≤ (nI i) ∧ (nI i) < nI n))] (I, (n_J J R G)) _
  refine c_ifeq 42 (Nat.le_of_ble_eq_true rfl) rfl rfl (fun h1 => absurd h1 (s01_1.mpr (k_ixr hi (by omega)))) (fun h1 => ?_)
  refine c_run 4 (pc' := 14) (ls' := [(0, .ref 77), (1, .int (nI i))]) (st' := [.int 2, .int (nI i), .ref 77, .long 10]) (μ' := (I, (n_J J R G))) (Nat.le_of_ble_eq_true rfl) rfl ?_
  refine c_cv 101 [.int (nI i), .int 2] (b := 77) (r := [.long 10]) (Nat.le_of_ble_eq_true rfl) rfl rfl rfl rfl rfl rfl (n_of I (n_J J R G) i 2 (by omega)) ?_
  rintro _ _ ⟨rfl, rfl⟩
  show m_W 156 17 [(0, .ref 77), (1, .int (nI i))] [.long (R (5 * i + 2)), .long 10] (I, (n_J J R G)) _
  refine c_run 3 (pc' := 20) (ls' := [(0, .ref 77), (1, .int (nI i))]) (st' := [.int 1, .int (nI i), .ref 77, .long (R (5 * i + 2)), .long 10]) (μ' := (I, (n_J J R G))) (Nat.le_of_ble_eq_true rfl) rfl ?_
  refine c_cv 101 [.int (nI i), .int 1] (b := 77) (r := [.long (R (5 * i + 2)), .long 10]) (Nat.le_of_ble_eq_true rfl) rfl rfl rfl rfl rfl rfl (n_of I (n_J J R G) i 1 (by omega)) ?_
  rintro _ _ ⟨rfl, rfl⟩
  show m_W 156 23 [(0, .ref 77), (1, .int (nI i))] [.long (R (5 * i + 1)), .long (R (5 * i + 2)), .long 10] (I, (n_J J R G)) _
  refine c_run 5 (pc' := 28) (ls' := [(0, .ref 77), (1, .int (nI i))]) (st' := [.int 3, .int (nI i), .ref 77, .long ((10 : Int64) * ((R (5 * i + 2)) - (R (5 * i + 1))))]) (μ' := (I, (n_J J R G))) (Nat.le_of_ble_eq_true rfl) rfl ?_
  refine c_cv 101 [.int (nI i), .int 3] (b := 77) (r := [.long ((10 : Int64) * ((R (5 * i + 2)) - (R (5 * i + 1))))]) (Nat.le_of_ble_eq_true rfl) rfl rfl rfl rfl rfl rfl (n_of I (n_J J R G) i 3 (by omega)) ?_
  rintro _ _ ⟨rfl, rfl⟩
  show m_W 156 31 [(0, .ref 77), (1, .int (nI i))] [.long (R (5 * i + 3)), .long ((10 : Int64) * ((R (5 * i + 2)) - (R (5 * i + 1))))] (I, (n_J J R G)) _
  refine c_run 2 (pc' := 33) (ls' := [(0, .ref 77), (1, .int (nI i))]) (st' := [.long ((R (5 * i + 3)) + (1 : Int64)), .long ((10 : Int64) * ((R (5 * i + 2)) - (R (5 * i + 1))))]) (μ' := (I, (n_J J R G))) (Nat.le_of_ble_eq_true rfl) rfl ?_
  refine c_cs 97 [.long ((R (5 * i + 3)) + (1 : Int64))] (r := [.long ((10 : Int64) * ((R (5 * i + 2)) - (R (5 * i + 1))))]) (Nat.le_of_ble_eq_true rfl) rfl (Or.inl rfl) rfl rfl rfl ((hv ▸ t_rt I (n_J J R G) v (by omega) : m_W 97 0 (lv_args 0 [.long (R (5 * i + 3) + 1)]) [] (I, (n_J J R G)) (m_E (some (.long (s_rt (R (5 * i + 3) + 1)))) (I, (n_J J R G))))) ?_
  rintro _ _ ⟨rfl, rfl⟩
  show m_W 156 36 [(0, .ref 77), (1, .int (nI i))] [.long (s_rt (R (5 * i + 3) + 1)), .long ((10 : Int64) * ((R (5 * i + 2)) - (R (5 * i + 1))))] (I, (n_J J R G)) _
  refine c_cs 96 [.long ((10 : Int64) * ((R (5 * i + 2)) - (R (5 * i + 1)))), .long (s_rt (R (5 * i + 3) + 1))] (r := []) (Nat.le_of_ble_eq_true rfl) rfl (Or.inl rfl) rfl rfl rfl (t_floor I (n_J J R G) ((10 : Int64) * ((R (5 * i + 2)) - (R (5 * i + 1)))) (s_rt (R (5 * i + 3) + 1)) hp) ?_
  rintro _ _ ⟨rfl, rfl⟩
  show m_W 156 39 [(0, .ref 77), (1, .int (nI i))] [.long (s_fl ((10 : Int64) * ((R (5 * i + 2)) - (R (5 * i + 1)))) (s_rt (R (5 * i + 3) + 1)))] (I, (n_J J R G)) _
  refine c_run 1 (pc' := 45) (ls' := [(0, .ref 77), (1, .int (nI i))]) (st' := [.long (s_fl ((10 : Int64) * ((R (5 * i + 2)) - (R (5 * i + 1)))) (s_rt (R (5 * i + 3) + 1)))]) (μ' := (I, (n_J J R G))) (Nat.le_of_ble_eq_true rfl) rfl ?_
  refine c_lret (Nat.le_of_ble_eq_true rfl) rfl rfl ?_
  exact ⟨rfl, rfl⟩

set_option maxRecDepth 100000 in
theorem n_drift_o (I : Nat → Nat → Int32) (J : Nat → Nat → Int64) (R G : Nat → Int64) (n : Nat) (hn : I 77 2 = nI n) (hn4 : n ≤ 4) (t : Int32) (ht : ¬ (0 ≤ t ∧ t < nI n)) : m_W 156 0 (lv_args 0 [.ref 77, .int t]) [] (I, (n_J J R G)) (m_E (some (.long (-1000000000000000000))) (I, n_J J R G)) := by
  show m_W 156 0 [(0, .ref 77), (1, .int t)] [] (I, (n_J J R G)) _
  refine c_run 2 (pc' := 2) (ls' := [(0, .ref 77), (1, .int t)]) (st' := [.int t, .ref 77]) (μ' := (I, (n_J J R G))) (Nat.le_of_ble_eq_true rfl) rfl ?_
  refine c_cv 98 [.int t] (b := 77) (r := []) (Nat.le_of_ble_eq_true rfl) rfl rfl rfl rfl rfl rfl (n_isT I (n_J J R G) t n hn hn4) ?_
  rintro _ _ ⟨rfl, rfl⟩
  show m_W 156 5 [(0, .ref 77), (1, .int t)] [.int (s01 (0 ≤ t ∧ t < nI n))] (I, (n_J J R G)) _
  refine c_ifeq 42 (Nat.le_of_ble_eq_true rfl) rfl rfl (fun h1 => ?_) (fun h1 => absurd (s01_0.mpr ht) h1)
  refine c_run 1 (pc' := 45) (ls' := [(0, .ref 77), (1, .int t)]) (st' := [.long (-1000000000000000000)]) (μ' := (I, (n_J J R G))) (Nat.le_of_ble_eq_true rfl) rfl ?_
  refine c_lret (Nat.le_of_ble_eq_true rfl) rfl rfl ?_
  exact ⟨rfl, rfl⟩

set_option maxRecDepth 100000 in
theorem n_entry_i (I : Nat → Nat → Int32) (J : Nat → Nat → Int64) (R G : Nat → Int64) (c i w : Nat) (hc : R 42 = (nI c).toInt64) (hc4 : c ≤ 24) (hi : i < c) (hw : w < 4) : m_W 136 0 (lv_args 0 [.ref 77, .int (nI i), .int (nI w)]) [] (I, (n_J J R G)) (m_E (some (.long (R (43 + 4 * i + w)))) (I, n_J J R G)) := by
  show m_W 136 0 [(0, .ref 77), (1, .int (nI i)), (2, .int (nI w))] [] (I, (n_J J R G)) _
  refine c_run 6 (pc' := 9) (ls' := [(0, .ref 77), (1, .int (nI i)), (2, .int (nI w))]) (st' := [.int 42, .ref 78, .long 0, .long (((nI i) : Int32).toInt64)]) (μ' := (I, (n_J J R G))) (Nat.le_of_ble_eq_true rfl) rfl ?_
  refine c_lal 42 140 (Nat.le_of_ble_eq_true rfl) rfl rfl rfl rfl rfl (by decide) ?_
  show m_W 136 10 [(0, .ref 77), (1, .int (nI i)), (2, .int (nI w))] [.long (R 42), .long 0, .long (((nI i) : Int32).toInt64)] (I, (n_J J R G)) _
  refine c_run 2 (pc' := 12) (ls' := [(0, .ref 77), (1, .int (nI i)), (2, .int (nI w))]) (st' := [.long ((R 42) - (1 : Int64)), .long 0, .long (((nI i) : Int32).toInt64)]) (μ' := (I, (n_J J R G))) (Nat.le_of_ble_eq_true rfl) rfl ?_
  refine c_cs 95 [.long (((nI i) : Int32).toInt64), .long 0, .long ((R 42) - (1 : Int64))] (r := []) (Nat.le_of_ble_eq_true rfl) rfl (Or.inl rfl) rfl rfl rfl (t_in I (n_J J R G) (((nI i) : Int32).toInt64) 0 ((R 42) - (1 : Int64))) ?_
  rintro _ _ ⟨rfl, rfl⟩
  show m_W 136 15 [(0, .ref 77), (1, .int (nI i)), (2, .int (nI w))] [.int (s01 ((0 : Int64) ≤ (((nI i) : Int32).toInt64) ∧ (((nI i) : Int32).toInt64) ≤ ((R 42) - (1 : Int64))))] (I, (n_J J R G)) _
  refine c_ifeq 46 (Nat.le_of_ble_eq_true rfl) rfl rfl (fun h1 => absurd h1 (s01_1.mpr (by rw [hc]; exact (n_in4 hi (by omega))))) (fun h1 => ?_)
  refine c_run 4 (pc' := 24) (ls' := [(0, .ref 77), (1, .int (nI i)), (2, .int (nI w))]) (st' := [.long 3, .long 0, .long (((nI w) : Int32).toInt64)]) (μ' := (I, (n_J J R G))) (Nat.le_of_ble_eq_true rfl) rfl ?_
  refine c_cs 95 [.long (((nI w) : Int32).toInt64), .long 0, .long 3] (r := []) (Nat.le_of_ble_eq_true rfl) rfl (Or.inl rfl) rfl rfl rfl (t_in32 I (n_J J R G) (nI w) 0 3) ?_
  rintro _ _ ⟨rfl, rfl⟩
  show m_W 136 27 [(0, .ref 77), (1, .int (nI i)), (2, .int (nI w))] [.int (s01 (0 ≤ (nI w) ∧ (nI w) ≤ 3))] (I, (n_J J R G)) _
  refine c_ifeq 46 (Nat.le_of_ble_eq_true rfl) rfl rfl (fun h2 => absurd h2 (s01_1.mpr (n_in3 hw))) (fun h2 => ?_)
  refine c_run 9 (pc' := 42) (ls' := [(0, .ref 77), (1, .int (nI i)), (2, .int (nI w))]) (st' := [.int (((43 : Int32) + ((4 : Int32) * (nI i))) + (nI w)), .ref 78]) (μ' := (I, (n_J J R G))) (Nat.le_of_ble_eq_true rfl) rfl ?_
  refine c_lal (43 + 4 * i + w) 140 (Nat.le_of_ble_eq_true rfl) rfl rfl rfl rfl (n_4w i w) (by omega) ?_
  show m_W 136 43 [(0, .ref 77), (1, .int (nI i)), (2, .int (nI w))] [.long (R (43 + 4 * i + w))] (I, (n_J J R G)) _
  refine c_run 1 (pc' := 49) (ls' := [(0, .ref 77), (1, .int (nI i)), (2, .int (nI w))]) (st' := [.long (R (43 + 4 * i + w))]) (μ' := (I, (n_J J R G))) (Nat.le_of_ble_eq_true rfl) rfl ?_
  refine c_lret (Nat.le_of_ble_eq_true rfl) rfl rfl ?_
  exact ⟨rfl, rfl⟩

set_option maxRecDepth 100000 in
theorem n_entry_o (I : Nat → Nat → Int32) (J : Nat → Nat → Int64) (R G : Nat → Int64) (x y : Int32) (c : Nat) (hc : R 42 = (nI c).toInt64) (hc4 : c ≤ 24) (h : ¬ ((0 ≤ x ∧ x < nI c) ∧ (0 ≤ y ∧ y ≤ 3))) : m_W 136 0 (lv_args 0 [.ref 77, .int x, .int y]) [] (I, (n_J J R G)) (m_E (some (.long (-1000000000000000000))) (I, n_J J R G)) := by
  show m_W 136 0 [(0, .ref 77), (1, .int x), (2, .int y)] [] (I, (n_J J R G)) _
  refine c_run 6 (pc' := 9) (ls' := [(0, .ref 77), (1, .int x), (2, .int y)]) (st' := [.int 42, .ref 78, .long 0, .long ((x : Int32).toInt64)]) (μ' := (I, (n_J J R G))) (Nat.le_of_ble_eq_true rfl) rfl ?_
  refine c_lal 42 140 (Nat.le_of_ble_eq_true rfl) rfl rfl rfl rfl rfl (by decide) ?_
  show m_W 136 10 [(0, .ref 77), (1, .int x), (2, .int y)] [.long (R 42), .long 0, .long ((x : Int32).toInt64)] (I, (n_J J R G)) _
  refine c_run 2 (pc' := 12) (ls' := [(0, .ref 77), (1, .int x), (2, .int y)]) (st' := [.long ((R 42) - (1 : Int64)), .long 0, .long ((x : Int32).toInt64)]) (μ' := (I, (n_J J R G))) (Nat.le_of_ble_eq_true rfl) rfl ?_
  refine c_cs 95 [.long ((x : Int32).toInt64), .long 0, .long ((R 42) - (1 : Int64))] (r := []) (Nat.le_of_ble_eq_true rfl) rfl (Or.inl rfl) rfl rfl rfl (t_in I (n_J J R G) ((x : Int32).toInt64) 0 ((R 42) - (1 : Int64))) ?_
  rintro _ _ ⟨rfl, rfl⟩
  show m_W 136 15 [(0, .ref 77), (1, .int x), (2, .int y)] [.int (s01 ((0 : Int64) ≤ ((x : Int32).toInt64) ∧ ((x : Int32).toInt64) ≤ ((R 42) - (1 : Int64))))] (I, (n_J J R G)) _
  refine c_ifeq 46 (Nat.le_of_ble_eq_true rfl) rfl rfl (fun h1 => ?_) (fun h1 => ?_)
  · replace h1 := s01_0.mp h1
    refine c_run 1 (pc' := 49) (ls' := [(0, .ref 77), (1, .int x), (2, .int y)]) (st' := [.long (-1000000000000000000)]) (μ' := (I, (n_J J R G))) (Nat.le_of_ble_eq_true rfl) rfl ?_
    refine c_lret (Nat.le_of_ble_eq_true rfl) rfl rfl ?_
    exact ⟨rfl, rfl⟩
  · replace h1 := s01_1.mp h1
    refine c_run 4 (pc' := 24) (ls' := [(0, .ref 77), (1, .int x), (2, .int y)]) (st' := [.long 3, .long 0, .long ((y : Int32).toInt64)]) (μ' := (I, (n_J J R G))) (Nat.le_of_ble_eq_true rfl) rfl ?_
    refine c_cs 95 [.long ((y : Int32).toInt64), .long 0, .long 3] (r := []) (Nat.le_of_ble_eq_true rfl) rfl (Or.inl rfl) rfl rfl rfl (t_in32 I (n_J J R G) y 0 3) ?_
    rintro _ _ ⟨rfl, rfl⟩
    show m_W 136 27 [(0, .ref 77), (1, .int x), (2, .int y)] [.int (s01 (0 ≤ y ∧ y ≤ 3))] (I, (n_J J R G)) _
    refine c_ifeq 46 (Nat.le_of_ble_eq_true rfl) rfl rfl (fun h2 => ?_) (fun h2 => absurd (s01_0.mpr (fun q => h ⟨n_in4' hc4 (by rw [← hc]; assumption), q⟩)) h2)
    refine c_run 1 (pc' := 49) (ls' := [(0, .ref 77), (1, .int x), (2, .int y)]) (st' := [.long (-1000000000000000000)]) (μ' := (I, (n_J J R G))) (Nat.le_of_ble_eq_true rfl) rfl ?_
    refine c_lret (Nat.le_of_ble_eq_true rfl) rfl rfl ?_
    exact ⟨rfl, rfl⟩

