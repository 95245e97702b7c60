/-! THE MODEL: its rows, its small methods -/
def r_u (R : Nat → Int64) (k : Nat) (v : Int64) : Nat → Int64 := fun j => if j = k then v else R j
theorem r_us {R : Nat → Int64} {k : Nat} {v : Int64} : r_u R k v k = v := if_pos rfl
theorem r_un {R : Nat → Int64} {k j : Nat} {v : Int64} (h : j ≠ k) : r_u R k v j = R j := if_neg h
def n_J (J : Nat → Nat → Int64) (R G : Nat → Int64) : Nat → Nat → Int64 := m_cj (m_cj J 78 R) 94 G
section NJ
variable {J : Nat → Nat → Int64} {R G : Nat → Int64} {k a : Nat} {v : Int64}
theorem n_J_id : n_J J (J 78) (J 94) = J := by
  unfold n_J
  rw [m_cj0 (f := J) (a := 78) (fun _ => rfl), m_cj0 (fun _ => rfl)]
theorem n_JR : m_uj (n_J J R G) 78 k v = n_J J (r_u R k v) G := by
  funext c j
  unfold n_J m_uj m_cj r_u
  by_cases h1 : c = 94
  · subst h1; simp
  · by_cases h2 : c = 78
    · subst h2; simp
    · simp [h1, h2]
theorem n_JG : m_uj (n_J J R G) 94 k v = n_J J R (r_u G k v) := by
  funext c j
  unfold n_J m_uj m_cj r_u
  by_cases h1 : c = 94
  · subst h1; simp
  · simp [h1]
theorem n_JO (h1 : a ≠ 78) (h2 : a ≠ 94) : m_uj (n_J J R G) a k v = n_J (m_uj J a k v) R G := by
  funext c j
  unfold n_J m_uj m_cj
  by_cases h3 : c = 94
  · have : ¬ c = a := by omega
    simp [h3, Ne.symm h2]
  · by_cases h4 : c = 78
    · simp [h4, Ne.symm h1]
    · simp [h3, h4]
theorem n_JJ {R' G' : Nat → Int64} : n_J (n_J J R G) R' G' = n_J J R' G' := by
  funext c j
  unfold n_J m_cj
  by_cases h1 : c = 94
  · simp [h1]
  · by_cases h2 : c = 78
    · simp [h2]
    · simp [h1, h2]
end NJ
theorem n_5w (t w : Nat) : (5 : Int32) * nI t + nI w = nI (5 * t + w) := by
  rw [show (5 : Int32) = nI 5 from rfl, pk_mul, nI_add]
theorem n_atw (e w : Nat) : (20 : Int32) + 3 * nI e + nI w = nI (20 + 3 * e + w) := by
  rw [show (20 : Int32) = nI 20 from rfl, show (3 : Int32) = nI 3 from rfl, pk_mul, nI_add, nI_add]
theorem n_le64 {x y : Int32} : x.toInt64 ≤ y.toInt64 ↔ x ≤ y := by
  rw [Int64.le_iff_toInt_le, Int32.le_iff_toInt_le, Int32.toInt_toInt64, Int32.toInt_toInt64]
theorem n_lt64 {x y : Int32} : x.toInt64 < y.toInt64 ↔ x < y := by
  rw [Int64.lt_iff_toInt_lt, Int32.lt_iff_toInt_lt, Int32.toInt_toInt64, Int32.toInt_toInt64]
theorem n_eq64 {x y : Int32} : x.toInt64 = y.toInt64 ↔ x = y := by
  constructor
  · intro h
    have := congrArg Int64.toInt h
    rw [Int32.toInt_toInt64, Int32.toInt_toInt64] at this
    exact Int32.toInt_inj.mp this
  · intro h; rw [h]
theorem n_pr {n : Nat} (hn : n ≤ 100) {x : Int32} : ((0 : Int64) ≤ x.toInt64 ∧ x.toInt64 ≤ (nI n - 1).toInt64) ↔ (0 ≤ x ∧ x < nI n) := by
  have h1 : ((0 : Int64) ≤ x.toInt64) ↔ 0 ≤ x := n_le64 (x := 0)
  have h2 : (x.toInt64 ≤ (nI n - 1).toInt64) ↔ x < nI n := by
    rw [n_le64, Int32.le_iff_toInt_le, Int32.lt_iff_toInt_lt, show nI n - (1 : Int32) = nI n - nI 1 from rfl, pk_sub_toInt (by omega) (by omega), nI_toInt (by omega)]
    omega
  rw [h1, h2]
theorem s01_c {p q : Prop} [Decidable p] [Decidable q] (h : p ↔ q) : s01 p = s01 q := by
  unfold s01
  by_cases hp : p
  · rw [if_pos hp, if_pos (h.mp hp)]
  · rw [if_neg hp, if_neg (fun q => hp (h.mpr q))]
theorem t_in32 (I : Nat → Nat → Int32) (J : Nat → Nat → Int64) (x a b : Int32) : m_W 95 0 (lv_args 0 [.long x.toInt64, .long a.toInt64, .long b.toInt64]) [] (I, J) (m_E (some (.int (s01 (a ≤ x ∧ x ≤ b)))) (I, J)) := by
  have h := t_in I J x.toInt64 a.toInt64 b.toInt64
  rw [s01_c (show (a.toInt64 ≤ x.toInt64 ∧ x.toInt64 ≤ b.toInt64) ↔ (a ≤ x ∧ x ≤ b) by rw [n_le64, n_le64])] at h
  exact h
theorem t_at2 (I : Nat → Nat → Int32) (J : Nat → Nat → Int64) (e w : Nat) : m_W 102 0 (lv_args 0 [.int (nI e), .int (nI w)]) [] (I, J) (m_E (some (.int (nI (20 + 3 * e + w)))) (I, J)) := by
  have h := t_at I J (nI e) (nI w)
  rw [n_atw] at h
  exact h
abbrev n_op (R : Nat → Int64) (e t : Nat) : Prop := ((R (20 + 3 * e) >>> ((nI t : Int32).toInt64 &&& 63)) &&& (1 : Int64)) = 1
def n_sh4 (R : Nat → Int64) (k : Nat) : Nat → Int64 := fun j => if k < j ∧ j ≤ 138 then R (j - 4) else R j
def n_ent (R : Nat → Int64) (kd t : Int32) (a : Int64) : Nat → Int64 := fun j => if j = 42 then (if R 42 < 24 then R 42 + 1 else 24) else if j = 43 then R 38 else if j = 44 then kd.toInt64 else if j = 45 then t.toInt64 else if j = 46 then a else n_sh4 R 46 j
theorem n_sh4_0 (R : Nat → Int64) : n_sh4 R 138 = R := by
  funext j
  unfold n_sh4
  exact if_neg (by omega)
theorem n_sh4_s {R : Nat → Int64} {k : Nat} (h : 47 ≤ k) (h2 : k ≤ 138) : r_u (n_sh4 R k) k (n_sh4 R k (k - 4)) = n_sh4 R (k - 1) := by
  funext j
  unfold r_u n_sh4
  by_cases hj : j = k
  · subst hj
    rw [if_pos rfl, if_neg (by omega), if_pos (by omega)]
  · rw [if_neg hj]
    by_cases h3 : k < j ∧ j ≤ 138
    · rw [if_pos h3, if_pos (by omega)]
    · rw [if_neg h3, if_neg (by omega)]
theorem n_ent_e {R : Nat → Int64} {kd t : Int32} {a c : Int64} (hc : c = if R 42 < 24 then R 42 + 1 else 24) : r_u (r_u (r_u (r_u (r_u (n_sh4 R 46) 43 (R 38)) 44 kd.toInt64) 45 t.toInt64) 46 a) 42 c = n_ent R kd t a := by
  subst hc
  funext j
  unfold r_u n_ent
  by_cases h1 : j = 42
  · subst h1; simp
  · by_cases h2 : j = 46
    · subst h2; simp
    · by_cases h3 : j = 45
      · subst h3; simp
      · by_cases h4 : j = 44
        · subst h4; simp
        · by_cases h5 : j = 43
          · subst h5; simp
          · simp [h1, h2, h3, h4, h5]

theorem k_m1 {k : Nat} (h : 1 ≤ k) : nI k + (-1 : Int32) = nI (k - 1) := by
  obtain ⟨j, rfl⟩ : ∃ j, k = j + 1 := ⟨k - 1, by omega⟩
  exact pk_m1 j
set_option maxRecDepth 100000 in
theorem n_isT (I : Nat → Nat → Int32) (J : Nat → Nat → Int64) (t : Int32) (n : Nat) (hn : I 77 2 = nI n) (hn4 : n ≤ 4) : m_W 98 0 (lv_args 0 [.ref 77, .int t]) [] (I, J) (m_E (some (.int (s01 (0 ≤ t ∧ t < nI n)))) (I, J)) := by
  show m_W 98 0 [(0, .ref 77), (1, .int t)] [] (I, J) _
  refine c_run 8 (pc' := 10) (ls' := [(0, .ref 77), (1, .int t)]) (st' := [.long ((((I 77 2) - (1 : Int32)) : Int32).toInt64), .long 0, .long ((t : Int32).toInt64)]) (μ' := (I, J)) (Nat.le_of_ble_eq_true rfl) rfl ?_
  refine c_cs 95 [.long ((t : Int32).toInt64), .long 0, .long ((((I 77 2) - (1 : Int32)) : Int32).toInt64)] (r := []) (Nat.le_of_ble_eq_true rfl) rfl (Or.inl rfl) rfl rfl rfl (t_in I J ((t : Int32).toInt64) 0 ((((I 77 2) - (1 : Int32)) : Int32).toInt64)) ?_
  rintro _ _ ⟨rfl, rfl⟩
  rw [hn, s01_c (n_pr (by omega))]
  show m_W 98 13 [(0, .ref 77), (1, .int t)] [.int (s01 (0 ≤ t ∧ t < nI n))] (I, J) _
  refine c_ret (Nat.le_of_ble_eq_true rfl) rfl rfl s01_n ?_
  exact ⟨rfl, rfl⟩

set_option maxRecDepth 100000 in
theorem n_isE (I : Nat → Nat → Int32) (J : Nat → Nat → Int64) (t : Int32) (n : Nat) (hn : I 77 10 = nI n) (hn4 : n ≤ 6) : m_W 99 0 (lv_args 0 [.ref 77, .int t]) [] (I, J) (m_E (some (.int (s01 (0 ≤ t ∧ t < nI n)))) (I, J)) := by
  show m_W 99 0 [(0, .ref 77), (1, .int t)] [] (I, J) _
  refine c_run 8 (pc' := 10) (ls' := [(0, .ref 77), (1, .int t)]) (st' := [.long ((((I 77 10) - (1 : Int32)) : Int32).toInt64), .long 0, .long ((t : Int32).toInt64)]) (μ' := (I, J)) (Nat.le_of_ble_eq_true rfl) rfl ?_
  refine c_cs 95 [.long ((t : Int32).toInt64), .long 0, .long ((((I 77 10) - (1 : Int32)) : Int32).toInt64)] (r := []) (Nat.le_of_ble_eq_true rfl) rfl (Or.inl rfl) rfl rfl rfl (t_in I J ((t : Int32).toInt64) 0 ((((I 77 10) - (1 : Int32)) : Int32).toInt64)) ?_
  rintro _ _ ⟨rfl, rfl⟩
  rw [hn, s01_c (n_pr (by omega))]
  show m_W 99 13 [(0, .ref 77), (1, .int t)] [.int (s01 (0 ≤ t ∧ t < nI n))] (I, J) _
  refine c_ret (Nat.le_of_ble_eq_true rfl) rfl rfl s01_n ?_
  exact ⟨rfl, rfl⟩

set_option maxRecDepth 100000 in
theorem n_burns (I : Nat → Nat → Int32) (J : Nat → Nat → Int64)  : m_W 100 0 (lv_args 0 [.ref 77]) [] (I, J) (m_E (some (.int (s01 (0 ≤ J 78 39)))) (I, J)) := by
  show m_W 100 0 [(0, .ref 77)] [] (I, J) _
  refine c_run 3 (pc' := 6) (ls' := [(0, .ref 77)]) (st' := [.int 39, .ref 78]) (μ' := (I, J)) (Nat.le_of_ble_eq_true rfl) rfl ?_
  refine c_lal 39 140 (Nat.le_of_ble_eq_true rfl) rfl rfl rfl rfl rfl (by decide) ?_
  show m_W 100 7 [(0, .ref 77)] [.long (J 78 39)] (I, J) _
  refine c_run 2 (pc' := 9) (ls' := [(0, .ref 77)]) (st' := [.int (lg_cmp (J 78 39) 0)]) (μ' := (I, J)) (Nat.le_of_ble_eq_true rfl) rfl ?_
  refine c_iflt 16 (Nat.le_of_ble_eq_true rfl) rfl rfl (fun h1 => ?_) (fun h1 => ?_)
  · replace h1 := lc_lt.mp h1
    refine c_run 1 (pc' := 17) (ls' := [(0, .ref 77)]) (st' := [.int 0]) (μ' := (I, J)) (Nat.le_of_ble_eq_true rfl) rfl ?_
    refine c_ret (Nat.le_of_ble_eq_true rfl) rfl rfl ⟨by decide, rfl⟩ ?_
    refine ⟨?_, rfl⟩
    first
      | exact congrArg (fun z => some (Value.int z)) (s01_t (Int64.not_lt.mp (by assumption))).symm
      | exact congrArg (fun z => some (Value.int z)) (s01_f (Int64.not_le.mpr (by assumption))).symm
  · replace h1 := mt lc_lt.mpr h1
    refine c_run 2 (pc' := 17) (ls' := [(0, .ref 77)]) (st' := [.int 1]) (μ' := (I, J)) (Nat.le_of_ble_eq_true rfl) rfl ?_
    refine c_ret (Nat.le_of_ble_eq_true rfl) rfl rfl ⟨by decide, rfl⟩ ?_
    refine ⟨?_, rfl⟩
    first
      | exact congrArg (fun z => some (Value.int z)) (s01_t (Int64.not_lt.mp (by assumption))).symm
      | exact congrArg (fun z => some (Value.int z)) (s01_f (Int64.not_le.mpr (by assumption))).symm

set_option maxRecDepth 100000 in
theorem n_of (I : Nat → Nat → Int32) (J : Nat → Nat → Int64) (t w : Nat) (h : 5 * t + w < 140) : m_W 101 0 (lv_args 0 [.ref 77, .int (nI t), .int (nI w)]) [] (I, J) (m_E (some (.long (J 78 (5 * t + w)))) (I, J)) := by
  show m_W 101 0 [(0, .ref 77), (1, .int (nI t)), (2, .int (nI w))] [] (I, J) _
  refine c_run 7 (pc' := 9) (ls' := [(0, .ref 77), (1, .int (nI t)), (2, .int (nI w))]) (st' := [.int (((5 : Int32) * (nI t)) + (nI w)), .ref 78]) (μ' := (I, J)) (Nat.le_of_ble_eq_true rfl) rfl ?_
  refine c_lal (5 * t + w) 140 (Nat.le_of_ble_eq_true rfl) rfl rfl rfl rfl (n_5w t w) h ?_
  show m_W 101 10 [(0, .ref 77), (1, .int (nI t)), (2, .int (nI w))] [.long (J 78 (5 * t + w))] (I, J) _
  refine c_lret (Nat.le_of_ble_eq_true rfl) rfl rfl ?_
  exact ⟨rfl, rfl⟩

set_option maxRecDepth 100000 in
theorem n_isOpen (I : Nat → Nat → Int32) (J : Nat → Nat → Int64) (R G : Nat → Int64) (e t : Nat) (he : e < 6) : m_W 125 0 (lv_args 0 [.ref 77, .int (nI e), .int (nI t)]) [] (I, (n_J J R G)) (m_E (some (.int (s01 (n_op R e t)))) (I, n_J J R G)) := by
  show m_W 125 0 [(0, .ref 77), (1, .int (nI e)), (2, .int (nI t))] [] (I, (n_J J R G)) _
  refine c_run 4 (pc' := 6) (ls' := [(0, .ref 77), (1, .int (nI e)), (2, .int (nI t))]) (st' := [.int 0, .int (nI e), .ref 78]) (μ' := (I, (n_J J R G))) (Nat.le_of_ble_eq_true rfl) rfl ?_
  refine c_cs 102 [.int (nI e), .int 0] (r := [.ref 78]) (Nat.le_of_ble_eq_true rfl) rfl (Or.inl rfl) rfl rfl rfl (t_at2 I (n_J J R G) e 0) ?_
  rintro _ _ ⟨rfl, rfl⟩
  show m_W 125 9 [(0, .ref 77), (1, .int (nI e)), (2, .int (nI t))] [.int (nI (20 + 3 * e + 0)), .ref 78] (I, (n_J J R G)) _
  refine c_lal (20 + 3 * e + 0) 140 (Nat.le_of_ble_eq_true rfl) rfl rfl rfl rfl rfl (by omega) ?_
  show m_W 125 10 [(0, .ref 77), (1, .int (nI e)), (2, .int (nI t))] [.long (R (20 + 3 * e + 0))] (I, (n_J J R G)) _
  refine c_run 6 (pc' := 16) (ls' := [(0, .ref 77), (1, .int (nI e)), (2, .int (nI t))]) (st' := [.int (lg_cmp (((R (20 + 3 * e + 0)) >>> (((nI t) : Int32).toInt64 &&& 63)) &&& (1 : Int64)) 1)]) (μ' := (I, (n_J J R G))) (Nat.le_of_ble_eq_true rfl) rfl ?_
  refine c_ifne 23 (Nat.le_of_ble_eq_true rfl) rfl rfl (fun h1 => ?_) (fun h1 => ?_)
  · replace h1 := mt lc_eq.mpr h1
    refine c_run 1 (pc' := 24) (ls' := [(0, .ref 77), (1, .int (nI e)), (2, .int (nI t))]) (st' := [.int 0]) (μ' := (I, (n_J J R G))) (Nat.le_of_ble_eq_true rfl) rfl ?_
    refine c_ret (Nat.le_of_ble_eq_true rfl) rfl rfl ⟨by decide, rfl⟩ ?_
    refine ⟨?_, rfl⟩
    first
      | exact congrArg (fun z => some (Value.int z)) (s01_t (by assumption)).symm
      | exact congrArg (fun z => some (Value.int z)) (s01_f (by assumption)).symm
  · replace h1 := lc_eq.mp h1
    refine c_run 2 (pc' := 24) (ls' := [(0, .ref 77), (1, .int (nI e)), (2, .int (nI t))]) (st' := [.int 1]) (μ' := (I, (n_J J R G))) (Nat.le_of_ble_eq_true rfl) rfl ?_
    refine c_ret (Nat.le_of_ble_eq_true rfl) rfl rfl ⟨by decide, rfl⟩ ?_
    refine ⟨?_, rfl⟩
    first
      | exact congrArg (fun z => some (Value.int z)) (s01_t (by assumption)).symm
      | exact congrArg (fun z => some (Value.int z)) (s01_f (by assumption)).symm

set_option maxRecDepth 100000 in
theorem n_ent_l (I : Nat → Nat → Int32) (J : Nat → Nat → Int64) (R G : Nat → Int64) (kd t : Int32) (a : Int64)  : ∀ (r k : Nat), k = 46 + r → r ≤ 92 → m_W 103 5 [(0, .ref 77), (1, .int kd), (2, .int t), (3, .long a), (5, .int (nI k))] [] (I, (n_J J (n_sh4 R k) G)) (m_E none (I, n_J J (n_ent R kd t a) G)) := by
  intro r
  induction r with
  | zero =>
    intro k hk hr
    have hk6 : k = 46 := by omega
    subst hk6
    refine c_run 2 (pc' := 9) (ls' := [(0, .ref 77), (1, .int kd), (2, .int t), (3, .long a), (5, .int (nI 46))]) (st' := [.int 47, .int (nI 46)]) (μ' := (I, (n_J J (n_sh4 R 46) G))) (Nat.le_of_ble_eq_true rfl) rfl ?_
    refine c_iclt 34 (Nat.le_of_ble_eq_true rfl) rfl rfl (fun h1 => ?_) (fun h1 => absurd (show nI 46 < nI 47 from nI_lt (by omega) (by omega)) h1)
    refine c_run 6 (pc' := 46) (ls' := [(0, .ref 77), (1, .int kd), (2, .int t), (3, .long a), (5, .int (nI 46))]) (st' := [.int 38, .ref 78, .int 43, .ref 78]) (μ' := (I, (n_J J (n_sh4 R 46) G))) (Nat.le_of_ble_eq_true rfl) rfl ?_
    refine c_lal 38 140 (Nat.le_of_ble_eq_true rfl) rfl rfl rfl rfl rfl (by decide) ?_
    show m_W 103 47 [(0, .ref 77), (1, .int kd), (2, .int t), (3, .long a), (5, .int (nI 46))] [.long ((n_sh4 R 46) 38), .int 43, .ref 78] (I, (n_J J (n_sh4 R 46) G)) _
    refine c_las 43 140 (Nat.le_of_ble_eq_true rfl) rfl rfl rfl rfl rfl (by decide) ?_
    show m_W 103 48 [(0, .ref 77), (1, .int kd), (2, .int t), (3, .long a), (5, .int (nI 46))] [] (I, m_uj (n_J J (n_sh4 R 46) G) 78 43 ((n_sh4 R 46) 38)) _
    rw [n_JR]
    show m_W 103 48 [(0, .ref 77), (1, .int kd), (2, .int t), (3, .long a), (5, .int (nI 46))] [] (I, (n_J J (r_u (n_sh4 R 46) 43 ((n_sh4 R 46) 38)) G)) _
    refine c_run 5 (pc' := 56) (ls' := [(0, .ref 77), (1, .int kd), (2, .int t), (3, .long a), (5, .int (nI 46))]) (st' := [.long ((kd : Int32).toInt64), .int 44, .ref 78]) (μ' := (I, (n_J J (r_u (n_sh4 R 46) 43 ((n_sh4 R 46) 38)) G))) (Nat.le_of_ble_eq_true rfl) rfl ?_
    refine c_las 44 140 (Nat.le_of_ble_eq_true rfl) rfl rfl rfl rfl rfl (by decide) ?_
    show m_W 103 57 [(0, .ref 77), (1, .int kd), (2, .int t), (3, .long a), (5, .int (nI 46))] [] (I, m_uj (n_J J (r_u (n_sh4 R 46) 43 ((n_sh4 R 46) 38)) G) 78 44 ((kd : Int32).toInt64)) _
    rw [n_JR]
    show m_W 103 57 [(0, .ref 77), (1, .int kd), (2, .int t), (3, .long a), (5, .int (nI 46))] [] (I, (n_J J (r_u (r_u (n_sh4 R 46) 43 ((n_sh4 R 46) 38)) 44 ((kd : Int32).toInt64)) G)) _
    refine c_run 5 (pc' := 65) (ls' := [(0, .ref 77), (1, .int kd), (2, .int t), (3, .long a), (5, .int (nI 46))]) (st' := [.long ((t : Int32).toInt64), .int 45, .ref 78]) (μ' := (I, (n_J J (r_u (r_u (n_sh4 R 46) 43 ((n_sh4 R 46) 38)) 44 ((kd : Int32).toInt64)) G))) (Nat.le_of_ble_eq_true rfl) rfl ?_
    refine c_las 45 140 (Nat.le_of_ble_eq_true rfl) rfl rfl rfl rfl rfl (by decide) ?_
    show m_W 103 66 [(0, .ref 77), (1, .int kd), (2, .int t), (3, .long a), (5, .int (nI 46))] [] (I, m_uj (n_J J (r_u (r_u (n_sh4 R 46) 43 ((n_sh4 R 46) 38)) 44 ((kd : Int32).toInt64)) G) 78 45 ((t : Int32).toInt64)) _
    rw [n_JR]
    show m_W 103 66 [(0, .ref 77), (1, .int kd), (2, .int t), (3, .long a), (5, .int (nI 46))] [] (I, (n_J J (r_u (r_u (r_u (n_sh4 R 46) 43 ((n_sh4 R 46) 38)) 44 ((kd : Int32).toInt64)) 45 ((t : Int32).toInt64)) G)) _
    refine c_run 4 (pc' := 73) (ls' := [(0, .ref 77), (1, .int kd), (2, .int t), (3, .long a), (5, .int (nI 46))]) (st' := [.long a, .int 46, .ref 78]) (μ' := (I, (n_J J (r_u (r_u (r_u (n_sh4 R 46) 43 ((n_sh4 R 46) 38)) 44 ((kd : Int32).toInt64)) 45 ((t : Int32).toInt64)) G))) (Nat.le_of_ble_eq_true rfl) rfl ?_
    refine c_las 46 140 (Nat.le_of_ble_eq_true rfl) rfl rfl rfl rfl rfl (by decide) ?_
    show m_W 103 74 [(0, .ref 77), (1, .int kd), (2, .int t), (3, .long a), (5, .int (nI 46))] [] (I, m_uj (n_J J (r_u (r_u (r_u (n_sh4 R 46) 43 ((n_sh4 R 46) 38)) 44 ((kd : Int32).toInt64)) 45 ((t : Int32).toInt64)) G) 78 46 a) _
    rw [n_JR]
    show m_W 103 74 [(0, .ref 77), (1, .int kd), (2, .int t), (3, .long a), (5, .int (nI 46))] [] (I, (n_J J (r_u (r_u (r_u (r_u (n_sh4 R 46) 43 ((n_sh4 R 46) 38)) 44 ((kd : Int32).toInt64)) 45 ((t : Int32).toInt64)) 46 a) G)) _
    refine c_run 6 (pc' := 86) (ls' := [(0, .ref 77), (1, .int kd), (2, .int t), (3, .long a), (5, .int (nI 46))]) (st' := [.int 42, .ref 78, .int 42, .ref 78]) (μ' := (I, (n_J J (r_u (r_u (r_u (r_u (n_sh4 R 46) 43 ((n_sh4 R 46) 38)) 44 ((kd : Int32).toInt64)) 45 ((t : Int32).toInt64)) 46 a) G))) (Nat.le_of_ble_eq_true rfl) rfl ?_
    refine c_lal 42 140 (Nat.le_of_ble_eq_true rfl) rfl rfl rfl rfl rfl (by decide) ?_
    show m_W 103 87 [(0, .ref 77), (1, .int kd), (2, .int t), (3, .long a), (5, .int (nI 46))] [.long ((r_u (r_u (r_u (r_u (n_sh4 R 46) 43 ((n_sh4 R 46) 38)) 44 ((kd : Int32).toInt64)) 45 ((t : Int32).toInt64)) 46 a) 42), .int 42, .ref 78] (I, (n_J J (r_u (r_u (r_u (r_u (n_sh4 R 46) 43 ((n_sh4 R 46) 38)) 44 ((kd : Int32).toInt64)) 45 ((t : Int32).toInt64)) 46 a) G)) _
    rw [show (r_u (r_u (r_u (r_u (n_sh4 R 46) 43 ((n_sh4 R 46) 38)) 44 ((kd : Int32).toInt64)) 45 ((t : Int32).toInt64)) 46 a) 42 = ((n_sh4 R 46) 42) from by rw [r_un (by omega), r_un (by omega), r_un (by omega), r_un (by omega)]]
    show m_W 103 87 [(0, .ref 77), (1, .int kd), (2, .int t), (3, .long a), (5, .int (nI 46))] [.long ((n_sh4 R 46) 42), .int 42, .ref 78] (I, (n_J J (r_u (r_u (r_u (r_u (n_sh4 R 46) 43 ((n_sh4 R 46) 38)) 44 ((kd : Int32).toInt64)) 45 ((t : Int32).toInt64)) 46 a) G)) _
    refine c_run 2 (pc' := 91) (ls' := [(0, .ref 77), (1, .int kd), (2, .int t), (3, .long a), (5, .int (nI 46))]) (st' := [.int (lg_cmp ((n_sh4 R 46) 42) 24), .int 42, .ref 78]) (μ' := (I, (n_J J (r_u (r_u (r_u (r_u (n_sh4 R 46) 43 ((n_sh4 R 46) 38)) 44 ((kd : Int32).toInt64)) 45 ((t : Int32).toInt64)) 46 a) G))) (Nat.le_of_ble_eq_true rfl) rfl ?_
    refine c_ifge 106 (Nat.le_of_ble_eq_true rfl) rfl rfl (fun h2 => ?_) (fun h2 => ?_)
    · replace h2 := lc_ge.mp h2
      refine c_run 1 (pc' := 109) (ls' := [(0, .ref 77), (1, .int kd), (2, .int t), (3, .long a), (5, .int (nI 46))]) (st' := [.long 24, .int 42, .ref 78]) (μ' := (I, (n_J J (r_u (r_u (r_u (r_u (n_sh4 R 46) 43 ((n_sh4 R 46) 38)) 44 ((kd : Int32).toInt64)) 45 ((t : Int32).toInt64)) 46 a) G))) (Nat.le_of_ble_eq_true rfl) rfl ?_
      refine c_las 42 140 (Nat.le_of_ble_eq_true rfl) rfl rfl rfl rfl rfl (by decide) ?_
      show m_W 103 110 [(0, .ref 77), (1, .int kd), (2, .int t), (3, .long a), (5, .int (nI 46))] [] (I, m_uj (n_J J (r_u (r_u (r_u (r_u (n_sh4 R 46) 43 ((n_sh4 R 46) 38)) 44 ((kd : Int32).toInt64)) 45 ((t : Int32).toInt64)) 46 a) G) 78 42 24) _
      rw [n_JR]
      show m_W 103 110 [(0, .ref 77), (1, .int kd), (2, .int t), (3, .long a), (5, .int (nI 46))] [] (I, (n_J J (r_u (r_u (r_u (r_u (r_u (n_sh4 R 46) 43 ((n_sh4 R 46) 38)) 44 ((kd : Int32).toInt64)) 45 ((t : Int32).toInt64)) 46 a) 42 24) G)) _
      refine c_vret (Nat.le_of_ble_eq_true rfl) rfl rfl ?_
      have e1 : n_sh4 R 46 38 = R 38 := if_neg (by omega)
      have e2 : n_sh4 R 46 42 = R 42 := if_neg (by omega)
      rw [e1]
      rw [n_ent_e (R := R) (kd := kd) (t := t) (a := a) (c := 24) (by first | exact (if_neg (Int64.not_lt.mpr (by rw [← e2]; assumption))).symm | exact (if_pos (Int64.not_le.mp (by rw [← e2]; assumption))).symm)]
      exact ⟨rfl, rfl⟩
    · replace h2 := mt lc_ge.mpr h2
      refine c_run 3 (pc' := 100) (ls' := [(0, .ref 77), (1, .int kd), (2, .int t), (3, .long a), (5, .int (nI 46))]) (st' := [.int 42, .ref 78, .int 42, .ref 78]) (μ' := (I, (n_J J (r_u (r_u (r_u (r_u (n_sh4 R 46) 43 ((n_sh4 R 46) 38)) 44 ((kd : Int32).toInt64)) 45 ((t : Int32).toInt64)) 46 a) G))) (Nat.le_of_ble_eq_true rfl) rfl ?_
      refine c_lal 42 140 (Nat.le_of_ble_eq_true rfl) rfl rfl rfl rfl rfl (by decide) ?_
      show m_W 103 101 [(0, .ref 77), (1, .int kd), (2, .int t), (3, .long a), (5, .int (nI 46))] [.long ((r_u (r_u (r_u (r_u (n_sh4 R 46) 43 ((n_sh4 R 46) 38)) 44 ((kd : Int32).toInt64)) 45 ((t : Int32).toInt64)) 46 a) 42), .int 42, .ref 78] (I, (n_J J (r_u (r_u (r_u (r_u (n_sh4 R 46) 43 ((n_sh4 R 46) 38)) 44 ((kd : Int32).toInt64)) 45 ((t : Int32).toInt64)) 46 a) G)) _
      rw [show (r_u (r_u (r_u (r_u (n_sh4 R 46) 43 ((n_sh4 R 46) 38)) 44 ((kd : Int32).toInt64)) 45 ((t : Int32).toInt64)) 46 a) 42 = ((n_sh4 R 46) 42) from by rw [r_un (by omega), r_un (by omega), r_un (by omega), r_un (by omega)]]
      show m_W 103 101 [(0, .ref 77), (1, .int kd), (2, .int t), (3, .long a), (5, .int (nI 46))] [.long ((n_sh4 R 46) 42), .int 42, .ref 78] (I, (n_J J (r_u (r_u (r_u (r_u (n_sh4 R 46) 43 ((n_sh4 R 46) 38)) 44 ((kd : Int32).toInt64)) 45 ((t : Int32).toInt64)) 46 a) G)) _
      refine c_run 3 (pc' := 109) (ls' := [(0, .ref 77), (1, .int kd), (2, .int t), (3, .long a), (5, .int (nI 46))]) (st' := [.long (((n_sh4 R 46) 42) + (1 : Int64)), .int 42, .ref 78]) (μ' := (I, (n_J J (r_u (r_u (r_u (r_u (n_sh4 R 46) 43 ((n_sh4 R 46) 38)) 44 ((kd : Int32).toInt64)) 45 ((t : Int32).toInt64)) 46 a) G))) (Nat.le_of_ble_eq_true rfl) rfl ?_
      refine c_las 42 140 (Nat.le_of_ble_eq_true rfl) rfl rfl rfl rfl rfl (by decide) ?_
      show m_W 103 110 [(0, .ref 77), (1, .int kd), (2, .int t), (3, .long a), (5, .int (nI 46))] [] (I, m_uj (n_J J (r_u (r_u (r_u (r_u (n_sh4 R 46) 43 ((n_sh4 R 46) 38)) 44 ((kd : Int32).toInt64)) 45 ((t : Int32).toInt64)) 46 a) G) 78 42 (((n_sh4 R 46) 42) + (1 : Int64))) _
      rw [n_JR]
      show m_W 103 110 [(0, .ref 77), (1, .int kd), (2, .int t), (3, .long a), (5, .int (nI 46))] [] (I, (n_J J (r_u (r_u (r_u (r_u (r_u (n_sh4 R 46) 43 ((n_sh4 R 46) 38)) 44 ((kd : Int32).toInt64)) 45 ((t : Int32).toInt64)) 46 a) 42 (((n_sh4 R 46) 42) + (1 : Int64))) G)) _
      refine c_vret (Nat.le_of_ble_eq_true rfl) rfl rfl ?_
      have e1 : n_sh4 R 46 38 = R 38 := if_neg (by omega)
      have e2 : n_sh4 R 46 42 = R 42 := if_neg (by omega)
      rw [e1]
      rw [n_ent_e (R := R) (kd := kd) (t := t) (a := a) (c := (((n_sh4 R 46) 42) + (1 : Int64))) (by first | exact (if_neg (Int64.not_lt.mpr (by rw [← e2]; assumption))).symm | exact (if_pos (Int64.not_le.mp (by rw [← e2]; assumption))).symm)]
      exact ⟨rfl, rfl⟩
  | succ r ih =>
    intro k hk hr
    refine c_run 2 (pc' := 9) (ls' := [(0, .ref 77), (1, .int kd), (2, .int t), (3, .long a), (5, .int (nI k))]) (st' := [.int 47, .int (nI k)]) (μ' := (I, (n_J J (n_sh4 R k) G))) (Nat.le_of_ble_eq_true rfl) rfl ?_
    refine c_iclt 34 (Nat.le_of_ble_eq_true rfl) rfl rfl (fun h1 => absurd h1 (show ¬ nI k < nI 47 from nI_nlt (by omega) (by omega))) (fun h1 => ?_)
    refine c_run 8 (pc' := 26) (ls' := [(0, .ref 77), (1, .int kd), (2, .int t), (3, .long a), (5, .int (nI k))]) (st' := [.int ((nI k) - (4 : Int32)), .ref 78, .int (nI k), .ref 78]) (μ' := (I, (n_J J (n_sh4 R k) G))) (Nat.le_of_ble_eq_true rfl) rfl ?_
    refine c_lal (k - 4) 140 (Nat.le_of_ble_eq_true rfl) rfl rfl rfl rfl (pk_sub (a := k) (b := 4) (by omega)) (by omega) ?_
    show m_W 103 27 [(0, .ref 77), (1, .int kd), (2, .int t), (3, .long a), (5, .int (nI k))] [.long ((n_sh4 R k) (k - 4)), .int (nI k), .ref 78] (I, (n_J J (n_sh4 R k) G)) _
    refine c_las k 140 (Nat.le_of_ble_eq_true rfl) rfl rfl rfl rfl rfl (by omega) ?_
    show m_W 103 28 [(0, .ref 77), (1, .int kd), (2, .int t), (3, .long a), (5, .int (nI k))] [] (I, m_uj (n_J J (n_sh4 R k) G) 78 k ((n_sh4 R k) (k - 4))) _
    rw [n_JR]
    show m_W 103 28 [(0, .ref 77), (1, .int kd), (2, .int t), (3, .long a), (5, .int (nI k))] [] (I, (n_J J (r_u (n_sh4 R k) k ((n_sh4 R k) (k - 4))) G)) _
    refine c_run 2 (pc' := 5) (ls' := [(5, .int ((nI k) + (-1 : Int32))), (0, .ref 77), (1, .int kd), (2, .int t), (3, .long a)]) (st' := []) (μ' := (I, (n_J J (r_u (n_sh4 R k) k ((n_sh4 R k) (k - 4))) G))) (Nat.le_of_ble_eq_true rfl) rfl ?_
    refine c_w [1, 2, 3, 4, 0] (ls' := [(0, .ref 77), (1, .int kd), (2, .int t), (3, .long a), (5, .int ((nI k) + (-1 : Int32)))]) rfl ?_
    rw [n_sh4_s (by omega) (by omega), show nI k + (-1 : Int32) = nI (k - 1) from k_m1 (by omega)]
    exact ih (k - 1) (by omega) (by omega)

set_option maxRecDepth 100000 in
theorem n_enters (I : Nat → Nat → Int32) (J : Nat → Nat → Int64) (R G : Nat → Int64) (kd t : Int32) (a : Int64)  : m_W 103 0 (lv_args 0 [.ref 77, .int kd, .int t, .long a]) [] (I, (n_J J R G)) (m_E none (I, n_J J (n_ent R kd t a) G)) := by
  show m_W 103 0 [(0, .ref 77), (1, .int kd), (2, .int t), (3, .long a)] [] (I, (n_J J R G)) _
  refine c_run 2 (pc' := 5) (ls' := [(5, .int 138), (0, .ref 77), (1, .int kd), (2, .int t), (3, .long a)]) (st' := []) (μ' := (I, (n_J J R G))) (Nat.le_of_ble_eq_true rfl) rfl ?_
  refine c_w [1, 2, 3, 4, 0] (ls' := [(0, .ref 77), (1, .int kd), (2, .int t), (3, .long a), (5, .int 138)]) rfl ?_
  have h := n_ent_l I J R G kd t a 92 138 (by omega) (by omega)
  rw [n_sh4_0] at h
  exact h

