/-! ENGINES of the model -/
def n_cpn (I : Nat → Nat → Int32) (m k : Nat) : Nat → Int32 := fun j => if 6 * m ≤ j ∧ j < 6 * m + k then I 92 (j - 6 * m) else I 87 j
theorem n_cpn_0 {I : Nat → Nat → Int32} {m : Nat} : m_ci I 87 (n_cpn I m 0) = I := by
  funext c j
  unfold m_ci
  by_cases h : c = 87
  · subst h
    rw [if_pos rfl]
    unfold n_cpn
    rw [if_neg (by omega)]
  · rw [if_neg h]
theorem n_cpn_s {I : Nat → Nat → Int32} {m k : Nat} : m_ui (m_ci I 87 (n_cpn I m k)) 87 (6 * m + k) (I 92 k) = m_ci I 87 (n_cpn I m (k + 1)) := by
  funext c j
  unfold m_ui m_ci
  by_cases h : c = 87
  · subst h
    rw [if_pos rfl, if_pos rfl, if_pos rfl]
    unfold n_cpn
    by_cases hj : j = 6 * m + k
    · subst hj
      rw [if_pos rfl, if_pos (by omega), show 6 * m + k - 6 * m = k by omega]
    · rw [if_neg hj]
      by_cases h2 : 6 * m ≤ j ∧ j < 6 * m + k
      · rw [if_pos h2, if_pos (by omega)]
      · rw [if_neg h2, if_neg (by omega)]
  · rw [if_neg h, if_neg h, if_neg h]
def n_eng (I : Nat → Nat → Int32) (m l : Nat) (f u : Int32) : Nat → Nat → Int32 := m_ui (m_ui (m_ui (m_ui (m_ui (m_ci I 87 (n_cpn I m l)) 88 m (nI l)) 89 m f) 90 m u) 77 16 0) 77 10 (nI m + 1)
def n_opv (n : Nat) : Int64 := (1 : Int64) <<< ((nI n : Int32).toInt64 &&& 63) - 1
theorem m_ui_id {f : Nat → Nat → Int32} {a k : Nat} {v : Int32} (h : v = f a k) : m_ui f a k v = f := by
  subst h
  funext c j
  unfold m_ui
  split
  · next h => split
              · next h2 => rw [h, h2]
              · rfl
  · rfl

set_option maxRecDepth 100000 in
theorem n_addE_1 (I : Nat → Nat → Int32) (J : Nat → Nat → Int64) (f u : Int32) (hh : ¬ ((1 ≤ f ∧ f ≤ 100000) ∧ (0 ≤ u ∧ u ≤ 500))) : m_W 117 0 (lv_args 0 [.ref 77, .int f, .int u]) [] (I, J) (m_E (some (.int (-1))) (I, J)) := by
  show m_W 117 0 [(0, .ref 77), (1, .int f), (2, .int u)] [] (I, J) _
  refine c_run 4 (pc' := 6) (ls' := [(0, .ref 77), (1, .int f), (2, .int u)]) (st' := [.long 100000, .long 1, .long ((f : Int32).toInt64)]) (μ' := (I, J)) (Nat.le_of_ble_eq_true rfl) rfl ?_
  refine c_cs 95 [.long ((f : Int32).toInt64), .long 1, .long 100000] (r := []) (Nat.le_of_ble_eq_true rfl) rfl (Or.inl rfl) rfl rfl rfl (t_in32 I J f 1 100000) ?_
  rintro _ _ ⟨rfl, rfl⟩
  show m_W 117 9 [(0, .ref 77), (1, .int f), (2, .int u)] [.int (s01 (1 ≤ f ∧ f ≤ 100000))] (I, J) _
  refine c_ifeq 24 (Nat.le_of_ble_eq_true rfl) rfl rfl (fun h1 => ?_) (fun h1 => ?_)
  · replace h1 := s01_0.mp h1
    refine c_run 1 (pc' := 25) (ls' := [(0, .ref 77), (1, .int f), (2, .int u)]) (st' := [.int (-1)]) (μ' := (I, J)) (Nat.le_of_ble_eq_true rfl) rfl ?_
    refine c_ret (Nat.le_of_ble_eq_true rfl) rfl rfl ⟨by decide, rfl⟩ ?_
    exact ⟨rfl, rfl⟩
  · replace h1 := s01_1.mp h1
    refine c_run 4 (pc' := 18) (ls' := [(0, .ref 77), (1, .int f), (2, .int u)]) (st' := [.long 500, .long 0, .long ((u : Int32).toInt64)]) (μ' := (I, J)) (Nat.le_of_ble_eq_true rfl) rfl ?_
    refine c_cs 95 [.long ((u : Int32).toInt64), .long 0, .long 500] (r := []) (Nat.le_of_ble_eq_true rfl) rfl (Or.inl rfl) rfl rfl rfl (t_in32 I J u 0 500) ?_
    rintro _ _ ⟨rfl, rfl⟩
    show m_W 117 21 [(0, .ref 77), (1, .int f), (2, .int u)] [.int (s01 (0 ≤ u ∧ u ≤ 500))] (I, J) _
    refine c_ifne 26 (Nat.le_of_ble_eq_true rfl) rfl rfl (fun h2 => absurd (And.intro (by assumption) (s01_1.mp h2)) hh) (fun h2 => ?_)
    refine c_run 1 (pc' := 25) (ls' := [(0, .ref 77), (1, .int f), (2, .int u)]) (st' := [.int (-1)]) (μ' := (I, J)) (Nat.le_of_ble_eq_true rfl) rfl ?_
    refine c_ret (Nat.le_of_ble_eq_true rfl) rfl rfl ⟨by decide, rfl⟩ ?_
    exact ⟨rfl, rfl⟩

set_option maxRecDepth 100000 in
theorem n_addE_0 (I : Nat → Nat → Int32) (J : Nat → Nat → Int64) (f u : Int32) (g1 : 1 ≤ f ∧ f ≤ 100000) (g2 : 0 ≤ u ∧ u ≤ 500) (hl : I 77 16 = 0) : m_W 117 0 (lv_args 0 [.ref 77, .int f, .int u]) [] (I, J) (m_E (some (.int (-2))) (I, J)) := by
  show m_W 117 0 [(0, .ref 77), (1, .int f), (2, .int u)] [] (I, J) _
  refine c_run 4 (pc' := 6) (ls' := [(0, .ref 77), (1, .int f), (2, .int u)]) (st' := [.long 100000, .long 1, .long ((f : Int32).toInt64)]) (μ' := (I, J)) (Nat.le_of_ble_eq_true rfl) rfl ?_
  refine c_cs 95 [.long ((f : Int32).toInt64), .long 1, .long 100000] (r := []) (Nat.le_of_ble_eq_true rfl) rfl (Or.inl rfl) rfl rfl rfl (t_in32 I J f 1 100000) ?_
  rintro _ _ ⟨rfl, rfl⟩
  show m_W 117 9 [(0, .ref 77), (1, .int f), (2, .int u)] [.int (s01 (1 ≤ f ∧ f ≤ 100000))] (I, J) _
  refine c_ifeq 24 (Nat.le_of_ble_eq_true rfl) rfl rfl (fun h1 => absurd h1 (s01_1.mpr g1)) (fun h1 => ?_)
  refine c_run 4 (pc' := 18) (ls' := [(0, .ref 77), (1, .int f), (2, .int u)]) (st' := [.long 500, .long 0, .long ((u : Int32).toInt64)]) (μ' := (I, J)) (Nat.le_of_ble_eq_true rfl) rfl ?_
  refine c_cs 95 [.long ((u : Int32).toInt64), .long 0, .long 500] (r := []) (Nat.le_of_ble_eq_true rfl) rfl (Or.inl rfl) rfl rfl rfl (t_in32 I J u 0 500) ?_
  rintro _ _ ⟨rfl, rfl⟩
  show m_W 117 21 [(0, .ref 77), (1, .int f), (2, .int u)] [.int (s01 (0 ≤ u ∧ u ≤ 500))] (I, J) _
  refine c_ifne 26 (Nat.le_of_ble_eq_true rfl) rfl rfl (fun h2 => ?_) (fun h2 => absurd h2 (s01_1.mpr g2))
  refine c_run 2 (pc' := 30) (ls' := [(0, .ref 77), (1, .int f), (2, .int u)]) (st' := [.int (I 77 16)]) (μ' := (I, J)) (Nat.le_of_ble_eq_true rfl) rfl ?_
  refine c_ifeq 49 (Nat.le_of_ble_eq_true rfl) rfl rfl (fun h3 => ?_) (fun h3 => absurd hl h3)
  refine c_run 1 (pc' := 51) (ls' := [(0, .ref 77), (1, .int f), (2, .int u)]) (st' := [.int (-2)]) (μ' := (I, J)) (Nat.le_of_ble_eq_true rfl) rfl ?_
  refine c_ret (Nat.le_of_ble_eq_true rfl) rfl rfl ⟨by decide, rfl⟩ ?_
  exact ⟨rfl, rfl⟩

set_option maxRecDepth 100000 in
theorem n_addE_2 (I : Nat → Nat → Int32) (J : Nat → Nat → Int64) (f u : Int32) (g1 : 1 ≤ f ∧ f ≤ 100000) (g2 : 0 ≤ u ∧ u ≤ 500) (m : Nat) (hm : I 77 10 = nI m) (hm6 : m ≤ 6) (l : Nat) (hl : I 77 16 = nI l) (hl6 : l ≤ 6) (hl1 : 1 ≤ l) (hnd : ¬ (n_nd I (I 92) 0 l 0 m) < 0) : m_W 117 0 (lv_args 0 [.ref 77, .int f, .int u]) [] (I, J) (m_E (some (.int (-2))) (I, J)) := by
  show m_W 117 0 [(0, .ref 77), (1, .int f), (2, .int u)] [] (I, J) _
  refine c_run 4 (pc' := 6) (ls' := [(0, .ref 77), (1, .int f), (2, .int u)]) (st' := [.long 100000, .long 1, .long ((f : Int32).toInt64)]) (μ' := (I, J)) (Nat.le_of_ble_eq_true rfl) rfl ?_
  refine c_cs 95 [.long ((f : Int32).toInt64), .long 1, .long 100000] (r := []) (Nat.le_of_ble_eq_true rfl) rfl (Or.inl rfl) rfl rfl rfl (t_in32 I J f 1 100000) ?_
  rintro _ _ ⟨rfl, rfl⟩
  show m_W 117 9 [(0, .ref 77), (1, .int f), (2, .int u)] [.int (s01 (1 ≤ f ∧ f ≤ 100000))] (I, J) _
  refine c_ifeq 24 (Nat.le_of_ble_eq_true rfl) rfl rfl (fun h1 => absurd h1 (s01_1.mpr g1)) (fun h1 => ?_)
  refine c_run 4 (pc' := 18) (ls' := [(0, .ref 77), (1, .int f), (2, .int u)]) (st' := [.long 500, .long 0, .long ((u : Int32).toInt64)]) (μ' := (I, J)) (Nat.le_of_ble_eq_true rfl) rfl ?_
  refine c_cs 95 [.long ((u : Int32).toInt64), .long 0, .long 500] (r := []) (Nat.le_of_ble_eq_true rfl) rfl (Or.inl rfl) rfl rfl rfl (t_in32 I J u 0 500) ?_
  rintro _ _ ⟨rfl, rfl⟩
  show m_W 117 21 [(0, .ref 77), (1, .int f), (2, .int u)] [.int (s01 (0 ≤ u ∧ u ≤ 500))] (I, J) _
  refine c_ifne 26 (Nat.le_of_ble_eq_true rfl) rfl rfl (fun h2 => ?_) (fun h2 => absurd h2 (s01_1.mpr g2))
  refine c_run 2 (pc' := 30) (ls' := [(0, .ref 77), (1, .int f), (2, .int u)]) (st' := [.int (I 77 16)]) (μ' := (I, J)) (Nat.le_of_ble_eq_true rfl) rfl ?_
  refine c_ifeq 49 (Nat.le_of_ble_eq_true rfl) rfl rfl (fun h3 => absurd h3 (by rw [hl]; exact nI_ne0 (by omega) (by omega))) (fun h3 => ?_)
  refine c_run 6 (pc' := 43) (ls' := [(0, .ref 77), (1, .int f), (2, .int u)]) (st' := [.int (I 77 16), .int 0, .ref 92, .ref 77]) (μ' := (I, J)) (Nat.le_of_ble_eq_true rfl) rfl ?_
  rw [show (I 77 16) = (nI l) from hl]
  refine c_cv 116 [.ref 92, .int 0, .int (nI l)] (b := 77) (r := []) (Nat.le_of_ble_eq_true rfl) rfl rfl rfl rfl rfl rfl (n_named92 I J 0 l (by omega) hl6 m hm hm6) ?_
  rintro _ _ ⟨rfl, rfl⟩
  show m_W 117 46 [(0, .ref 77), (1, .int f), (2, .int u)] [.int (n_nd I (I 92) 0 l 0 m)] (I, J) _
  refine c_iflt 52 (Nat.le_of_ble_eq_true rfl) rfl rfl (fun h4 => absurd h4 hnd) (fun h4 => ?_)
  refine c_run 1 (pc' := 51) (ls' := [(0, .ref 77), (1, .int f), (2, .int u)]) (st' := [.int (-2)]) (μ' := (I, J)) (Nat.le_of_ble_eq_true rfl) rfl ?_
  refine c_ret (Nat.le_of_ble_eq_true rfl) rfl rfl ⟨by decide, rfl⟩ ?_
  exact ⟨rfl, rfl⟩

set_option maxRecDepth 100000 in
theorem n_addE_3 (I : Nat → Nat → Int32) (J : Nat → Nat → Int64) (f u : Int32) (g1 : 1 ≤ f ∧ f ≤ 100000) (g2 : 0 ≤ u ∧ u ≤ 500) (m : Nat) (hm : I 77 10 = nI m) (hm6 : m ≤ 6) (l : Nat) (hl : I 77 16 = nI l) (hl6 : l ≤ 6) (hl1 : 1 ≤ l) (hnd : (n_nd I (I 92) 0 l 0 m) < 0) (h6 : m = 6) : m_W 117 0 (lv_args 0 [.ref 77, .int f, .int u]) [] (I, J) (m_E (some (.int (-3))) (I, J)) := by
  show m_W 117 0 [(0, .ref 77), (1, .int f), (2, .int u)] [] (I, J) _
  refine c_run 4 (pc' := 6) (ls' := [(0, .ref 77), (1, .int f), (2, .int u)]) (st' := [.long 100000, .long 1, .long ((f : Int32).toInt64)]) (μ' := (I, J)) (Nat.le_of_ble_eq_true rfl) rfl ?_
  refine c_cs 95 [.long ((f : Int32).toInt64), .long 1, .long 100000] (r := []) (Nat.le_of_ble_eq_true rfl) rfl (Or.inl rfl) rfl rfl rfl (t_in32 I J f 1 100000) ?_
  rintro _ _ ⟨rfl, rfl⟩
  show m_W 117 9 [(0, .ref 77), (1, .int f), (2, .int u)] [.int (s01 (1 ≤ f ∧ f ≤ 100000))] (I, J) _
  refine c_ifeq 24 (Nat.le_of_ble_eq_true rfl) rfl rfl (fun h1 => absurd h1 (s01_1.mpr g1)) (fun h1 => ?_)
  refine c_run 4 (pc' := 18) (ls' := [(0, .ref 77), (1, .int f), (2, .int u)]) (st' := [.long 500, .long 0, .long ((u : Int32).toInt64)]) (μ' := (I, J)) (Nat.le_of_ble_eq_true rfl) rfl ?_
  refine c_cs 95 [.long ((u : Int32).toInt64), .long 0, .long 500] (r := []) (Nat.le_of_ble_eq_true rfl) rfl (Or.inl rfl) rfl rfl rfl (t_in32 I J u 0 500) ?_
  rintro _ _ ⟨rfl, rfl⟩
  show m_W 117 21 [(0, .ref 77), (1, .int f), (2, .int u)] [.int (s01 (0 ≤ u ∧ u ≤ 500))] (I, J) _
  refine c_ifne 26 (Nat.le_of_ble_eq_true rfl) rfl rfl (fun h2 => ?_) (fun h2 => absurd h2 (s01_1.mpr g2))
  refine c_run 2 (pc' := 30) (ls' := [(0, .ref 77), (1, .int f), (2, .int u)]) (st' := [.int (I 77 16)]) (μ' := (I, J)) (Nat.le_of_ble_eq_true rfl) rfl ?_
  refine c_ifeq 49 (Nat.le_of_ble_eq_true rfl) rfl rfl (fun h3 => absurd h3 (by rw [hl]; exact nI_ne0 (by omega) (by omega))) (fun h3 => ?_)
  refine c_run 6 (pc' := 43) (ls' := [(0, .ref 77), (1, .int f), (2, .int u)]) (st' := [.int (I 77 16), .int 0, .ref 92, .ref 77]) (μ' := (I, J)) (Nat.le_of_ble_eq_true rfl) rfl ?_
  rw [show (I 77 16) = (nI l) from hl]
  refine c_cv 116 [.ref 92, .int 0, .int (nI l)] (b := 77) (r := []) (Nat.le_of_ble_eq_true rfl) rfl rfl rfl rfl rfl rfl (n_named92 I J 0 l (by omega) hl6 m hm hm6) ?_
  rintro _ _ ⟨rfl, rfl⟩
  show m_W 117 46 [(0, .ref 77), (1, .int f), (2, .int u)] [.int (n_nd I (I 92) 0 l 0 m)] (I, J) _
  refine c_iflt 52 (Nat.le_of_ble_eq_true rfl) rfl rfl (fun h4 => ?_) (fun h4 => absurd hnd h4)
  refine c_run 3 (pc' := 58) (ls' := [(0, .ref 77), (1, .int f), (2, .int u)]) (st' := [.int 6, .int (I 77 10)]) (μ' := (I, J)) (Nat.le_of_ble_eq_true rfl) rfl ?_
  refine c_icne 64 (Nat.le_of_ble_eq_true rfl) rfl rfl (fun h5 => absurd (by rw [hm, h6]; rfl) h5) (fun h5 => ?_)
  refine c_run 1 (pc' := 63) (ls' := [(0, .ref 77), (1, .int f), (2, .int u)]) (st' := [.int (-3)]) (μ' := (I, J)) (Nat.le_of_ble_eq_true rfl) rfl ?_
  refine c_ret (Nat.le_of_ble_eq_true rfl) rfl rfl ⟨by decide, rfl⟩ ?_
  exact ⟨rfl, rfl⟩

set_option maxRecDepth 100000 in
theorem n_addE_l (I : Nat → Nat → Int32) (J : Nat → Nat → Int64) (R G : Nat → Int64) (f u : Int32) (n : Nat) (hn : I 77 2 = nI n) (hn4 : n ≤ 4) (m : Nat) (hm : I 77 10 = nI m) (hm6 : m ≤ 6) (l : Nat) (hl : I 77 16 = nI l) (hl6 : l ≤ 6) (hm5 : m < 6)  : ∀ (r k : Nat), k + r = l → m_W 117 72 [(0, .ref 77), (1, .int f), (2, .int u), (3, .int (nI m)), (4, .int (nI k))] [] ((m_ci I 87 (n_cpn I m k)), (n_J J R G)) (m_E (some (.int (nI m))) (n_eng I m l f u, n_J J (r_u R (20 + 3 * m + 0) (n_opv n)) G)) := by
  intro r
  induction r with
  | zero =>
    intro k hkr
    have hkl : l = k := by omega
    subst hkl
    refine c_run 3 (pc' := 78) (ls' := [(0, .ref 77), (1, .int f), (2, .int u), (3, .int (nI m)), (4, .int (nI l))]) (st' := [.int (I 77 16), .int (nI l)]) (μ' := ((m_ci I 87 (n_cpn I m l)), (n_J J R G))) (Nat.le_of_ble_eq_true rfl) rfl ?_
    refine c_icge 106 (Nat.le_of_ble_eq_true rfl) rfl rfl (fun h1 => ?_) (fun h1 => absurd (by rw [hl]; exact nI_le (by omega) (by omega)) h1)
    refine c_run 5 (pc' := 115) (ls' := [(0, .ref 77), (1, .int f), (2, .int u), (3, .int (nI m)), (4, .int (nI l))]) (st' := [.int (I 77 16), .int (nI m), .ref 88]) (μ' := ((m_ci I 87 (n_cpn I m l)), (n_J J R G))) (Nat.le_of_ble_eq_true rfl) rfl ?_
    refine c_ias m 6 (Nat.le_of_ble_eq_true rfl) rfl rfl rfl rfl rfl (by omega) ?_
    show m_W 117 116 [(0, .ref 77), (1, .int f), (2, .int u), (3, .int (nI m)), (4, .int (nI l))] [] ((m_ui (m_ci I 87 (n_cpn I m l)) 88 m (I 77 16)), (n_J J R G)) _
    refine c_run 4 (pc' := 122) (ls' := [(0, .ref 77), (1, .int f), (2, .int u), (3, .int (nI m)), (4, .int (nI l))]) (st' := [.int f, .int (nI m), .ref 89]) (μ' := ((m_ui (m_ci I 87 (n_cpn I m l)) 88 m (I 77 16)), (n_J J R G))) (Nat.le_of_ble_eq_true rfl) rfl ?_
    refine c_ias m 6 (Nat.le_of_ble_eq_true rfl) rfl rfl rfl rfl rfl (by omega) ?_
    show m_W 117 123 [(0, .ref 77), (1, .int f), (2, .int u), (3, .int (nI m)), (4, .int (nI l))] [] ((m_ui (m_ui (m_ci I 87 (n_cpn I m l)) 88 m (I 77 16)) 89 m f), (n_J J R G)) _
    refine c_run 4 (pc' := 129) (ls' := [(0, .ref 77), (1, .int f), (2, .int u), (3, .int (nI m)), (4, .int (nI l))]) (st' := [.int u, .int (nI m), .ref 90]) (μ' := ((m_ui (m_ui (m_ci I 87 (n_cpn I m l)) 88 m (I 77 16)) 89 m f), (n_J J R G))) (Nat.le_of_ble_eq_true rfl) rfl ?_
    refine c_ias m 6 (Nat.le_of_ble_eq_true rfl) rfl rfl rfl rfl rfl (by omega) ?_
    show m_W 117 130 [(0, .ref 77), (1, .int f), (2, .int u), (3, .int (nI m)), (4, .int (nI l))] [] ((m_ui (m_ui (m_ui (m_ci I 87 (n_cpn I m l)) 88 m (I 77 16)) 89 m f) 90 m u), (n_J J R G)) _
    refine c_run 4 (pc' := 136) (ls' := [(0, .ref 77), (1, .int f), (2, .int u), (3, .int (nI m)), (4, .int (nI l))]) (st' := [.int 0, .int (nI m), .ref 78]) (μ' := ((m_ui (m_ui (m_ui (m_ci I 87 (n_cpn I m l)) 88 m (I 77 16)) 89 m f) 90 m u), (n_J J R G))) (Nat.le_of_ble_eq_true rfl) rfl ?_
    refine c_cs 102 [.int (nI m), .int 0] (r := [.ref 78]) (Nat.le_of_ble_eq_true rfl) rfl (Or.inl rfl) rfl rfl rfl (t_at2 (m_ui (m_ui (m_ui (m_ci I 87 (n_cpn I m l)) 88 m (I 77 16)) 89 m f) 90 m u) (n_J J R G) m 0) ?_
    rintro _ _ ⟨rfl, rfl⟩
    show m_W 117 139 [(0, .ref 77), (1, .int f), (2, .int u), (3, .int (nI m)), (4, .int (nI l))] [.int (nI (20 + 3 * m + 0)), .ref 78] ((m_ui (m_ui (m_ui (m_ci I 87 (n_cpn I m l)) 88 m (I 77 16)) 89 m f) 90 m u), (n_J J R G)) _
    refine c_run 6 (pc' := 147) (ls' := [(0, .ref 77), (1, .int f), (2, .int u), (3, .int (nI m)), (4, .int (nI l))]) (st' := [.long (((1 : Int64) <<< (((I 77 2) : Int32).toInt64 &&& 63)) - (1 : Int64)), .int (nI (20 + 3 * m + 0)), .ref 78]) (μ' := ((m_ui (m_ui (m_ui (m_ci I 87 (n_cpn I m l)) 88 m (I 77 16)) 89 m f) 90 m u), (n_J J R G))) (Nat.le_of_ble_eq_true rfl) rfl ?_
    refine c_las (20 + 3 * m + 0) 140 (Nat.le_of_ble_eq_true rfl) rfl rfl rfl rfl rfl (by omega) ?_
    show m_W 117 148 [(0, .ref 77), (1, .int f), (2, .int u), (3, .int (nI m)), (4, .int (nI l))] [] ((m_ui (m_ui (m_ui (m_ci I 87 (n_cpn I m l)) 88 m (I 77 16)) 89 m f) 90 m u), m_uj (n_J J R G) 78 (20 + 3 * m + 0) (((1 : Int64) <<< (((I 77 2) : Int32).toInt64 &&& 63)) - (1 : Int64))) _
    rw [n_JR]
    show m_W 117 148 [(0, .ref 77), (1, .int f), (2, .int u), (3, .int (nI m)), (4, .int (nI l))] [] ((m_ui (m_ui (m_ui (m_ci I 87 (n_cpn I m l)) 88 m (I 77 16)) 89 m f) 90 m u), (n_J J (r_u R (20 + 3 * m + 0) (((1 : Int64) <<< (((I 77 2) : Int32).toInt64 &&& 63)) - (1 : Int64))) G)) _
    refine c_run 10 (pc' := 164) (ls' := [(0, .ref 77), (1, .int f), (2, .int u), (3, .int (nI m)), (4, .int (nI l))]) (st' := [.int (nI m)]) (μ' := ((m_ui (m_ui (m_ui (m_ui (m_ui (m_ci I 87 (n_cpn I m l)) 88 m (I 77 16)) 89 m f) 90 m u) 77 16 0) 77 10 ((I 77 10) + (1 : Int32))), (n_J J (r_u R (20 + 3 * m + 0) (((1 : Int64) <<< (((I 77 2) : Int32).toInt64 &&& 63)) - (1 : Int64))) G))) (Nat.le_of_ble_eq_true rfl) rfl ?_
    refine c_ret (Nat.le_of_ble_eq_true rfl) rfl rfl ⟨by decide, rfl⟩ ?_
    rw [hl, hm, hn]
    exact ⟨rfl, rfl⟩
  | succ r ih =>
    intro k hkr
    refine c_run 3 (pc' := 78) (ls' := [(0, .ref 77), (1, .int f), (2, .int u), (3, .int (nI m)), (4, .int (nI k))]) (st' := [.int (I 77 16), .int (nI k)]) (μ' := ((m_ci I 87 (n_cpn I m k)), (n_J J R G))) (Nat.le_of_ble_eq_true rfl) rfl ?_
    refine c_icge 106 (Nat.le_of_ble_eq_true rfl) rfl rfl (fun h1 => absurd h1 (by rw [hl]; exact nI_ge (by omega) (by omega))) (fun h1 => ?_)
    refine c_run 10 (pc' := 98) (ls' := [(0, .ref 77), (1, .int f), (2, .int u), (3, .int (nI m)), (4, .int (nI k))]) (st' := [.int (nI k), .ref 92, .int (((6 : Int32) * (nI m)) + (nI k)), .ref 87]) (μ' := ((m_ci I 87 (n_cpn I m k)), (n_J J R G))) (Nat.le_of_ble_eq_true rfl) rfl ?_
    refine c_ial k 6 (Nat.le_of_ble_eq_true rfl) rfl rfl rfl rfl rfl (by omega) ?_
    show m_W 117 99 [(0, .ref 77), (1, .int f), (2, .int u), (3, .int (nI m)), (4, .int (nI k))] [.int (I 92 k), .int (((6 : Int32) * (nI m)) + (nI k)), .ref 87] ((m_ci I 87 (n_cpn I m k)), (n_J J R G)) _
    refine c_ias (6 * m + k) 36 (Nat.le_of_ble_eq_true rfl) rfl rfl rfl rfl (n_6k m k) (by omega) ?_
    show m_W 117 100 [(0, .ref 77), (1, .int f), (2, .int u), (3, .int (nI m)), (4, .int (nI k))] [] ((m_ui (m_ci I 87 (n_cpn I m k)) 87 (6 * m + k) (I 92 k)), (n_J J R G)) _
    refine c_run 2 (pc' := 72) (ls' := [(4, .int ((nI k) + (1 : Int32))), (0, .ref 77), (1, .int f), (2, .int u), (3, .int (nI m))]) (st' := []) (μ' := ((m_ui (m_ci I 87 (n_cpn I m k)) 87 (6 * m + k) (I 92 k)), (n_J J R G))) (Nat.le_of_ble_eq_true rfl) rfl ?_
    refine c_w [1, 2, 3, 4, 0] (ls' := [(0, .ref 77), (1, .int f), (2, .int u), (3, .int (nI m)), (4, .int ((nI k) + (1 : Int32)))]) rfl ?_
    rw [nI_1 k, n_cpn_s]
    exact ih (k + 1) (by omega)

set_option maxRecDepth 100000 in
theorem n_addE_y (I : Nat → Nat → Int32) (J : Nat → Nat → Int64) (R G : Nat → Int64) (f u : Int32) (g1 : 1 ≤ f ∧ f ≤ 100000) (g2 : 0 ≤ u ∧ u ≤ 500) (n : Nat) (hn : I 77 2 = nI n) (hn4 : n ≤ 4) (m : Nat) (hm : I 77 10 = nI m) (hm6 : m ≤ 6) (l : Nat) (hl : I 77 16 = nI l) (hl6 : l ≤ 6) (hm5 : m < 6) (hl1 : 1 ≤ l) (hnd : (n_nd I (I 92) 0 l 0 m) < 0) : m_W 117 0 (lv_args 0 [.ref 77, .int f, .int u]) [] (I, (n_J J R G)) (m_E (some (.int (nI m))) (n_eng I m l f u, n_J J (r_u R (20 + 3 * m + 0) (n_opv n)) G)) := by
  show m_W 117 0 [(0, .ref 77), (1, .int f), (2, .int u)] [] (I, (n_J J R G)) _
  refine c_run 4 (pc' := 6) (ls' := [(0, .ref 77), (1, .int f), (2, .int u)]) (st' := [.long 100000, .long 1, .long ((f : Int32).toInt64)]) (μ' := (I, (n_J J R G))) (Nat.le_of_ble_eq_true rfl) rfl ?_
  refine c_cs 95 [.long ((f : Int32).toInt64), .long 1, .long 100000] (r := []) (Nat.le_of_ble_eq_true rfl) rfl (Or.inl rfl) rfl rfl rfl (t_in32 I (n_J J R G) f 1 100000) ?_
  rintro _ _ ⟨rfl, rfl⟩
  show m_W 117 9 [(0, .ref 77), (1, .int f), (2, .int u)] [.int (s01 (1 ≤ f ∧ f ≤ 100000))] (I, (n_J J R G)) _
  refine c_ifeq 24 (Nat.le_of_ble_eq_true rfl) rfl rfl (fun h1 => absurd h1 (s01_1.mpr g1)) (fun h1 => ?_)
  refine c_run 4 (pc' := 18) (ls' := [(0, .ref 77), (1, .int f), (2, .int u)]) (st' := [.long 500, .long 0, .long ((u : Int32).toInt64)]) (μ' := (I, (n_J J R G))) (Nat.le_of_ble_eq_true rfl) rfl ?_
  refine c_cs 95 [.long ((u : Int32).toInt64), .long 0, .long 500] (r := []) (Nat.le_of_ble_eq_true rfl) rfl (Or.inl rfl) rfl rfl rfl (t_in32 I (n_J J R G) u 0 500) ?_
  rintro _ _ ⟨rfl, rfl⟩
  show m_W 117 21 [(0, .ref 77), (1, .int f), (2, .int u)] [.int (s01 (0 ≤ u ∧ u ≤ 500))] (I, (n_J J R G)) _
  refine c_ifne 26 (Nat.le_of_ble_eq_true rfl) rfl rfl (fun h2 => ?_) (fun h2 => absurd h2 (s01_1.mpr g2))
  refine c_run 2 (pc' := 30) (ls' := [(0, .ref 77), (1, .int f), (2, .int u)]) (st' := [.int (I 77 16)]) (μ' := (I, (n_J J R G))) (Nat.le_of_ble_eq_true rfl) rfl ?_
  refine c_ifeq 49 (Nat.le_of_ble_eq_true rfl) rfl rfl (fun h3 => absurd h3 (by rw [hl]; exact nI_ne0 (by omega) (by omega))) (fun h3 => ?_)
  refine c_run 6 (pc' := 43) (ls' := [(0, .ref 77), (1, .int f), (2, .int u)]) (st' := [.int (I 77 16), .int 0, .ref 92, .ref 77]) (μ' := (I, (n_J J R G))) (Nat.le_of_ble_eq_true rfl) rfl ?_
  rw [show (I 77 16) = (nI l) from hl]
  refine c_cv 116 [.ref 92, .int 0, .int (nI l)] (b := 77) (r := []) (Nat.le_of_ble_eq_true rfl) rfl rfl rfl rfl rfl rfl (n_named92 I (n_J J R G) 0 l (by omega) hl6 m hm hm6) ?_
  rintro _ _ ⟨rfl, rfl⟩
  show m_W 117 46 [(0, .ref 77), (1, .int f), (2, .int u)] [.int (n_nd I (I 92) 0 l 0 m)] (I, (n_J J R G)) _
  refine c_iflt 52 (Nat.le_of_ble_eq_true rfl) rfl rfl (fun h4 => ?_) (fun h4 => absurd hnd h4)
  refine c_run 3 (pc' := 58) (ls' := [(0, .ref 77), (1, .int f), (2, .int u)]) (st' := [.int 6, .int (I 77 10)]) (μ' := (I, (n_J J R G))) (Nat.le_of_ble_eq_true rfl) rfl ?_
  refine c_icne 64 (Nat.le_of_ble_eq_true rfl) rfl rfl (fun h5 => ?_) (fun h5 => absurd h5 (fun q => absurd ((nI_eq (by omega) (by omega)).mp (show nI m = nI 6 by rw [← hm]; exact q)) (by omega)))
  refine c_run 5 (pc' := 72) (ls' := [(4, .int 0), (3, .int (I 77 10)), (0, .ref 77), (1, .int f), (2, .int u)]) (st' := []) (μ' := (I, (n_J J R G))) (Nat.le_of_ble_eq_true rfl) rfl ?_
  refine c_w [2, 3, 4, 1, 0] (ls' := [(0, .ref 77), (1, .int f), (2, .int u), (3, .int (I 77 10)), (4, .int 0)]) rfl ?_
  rw [hm]
  have h := n_addE_l I J R G f u n hn hn4 m hm hm6 l hl hl6 hm5 l 0 (by omega)
  rw [n_cpn_0] at h
  exact h

set_option maxRecDepth 100000 in
theorem n_eNamed (I : Nat → Nat → Int32) (J : Nat → Nat → Int64) (m : Nat) (hm : I 77 10 = nI m) (hm6 : m ≤ 6) (l : Nat) (hl : I 77 16 = nI l) (hl6 : l ≤ 6)  : m_W 118 0 (lv_args 0 [.ref 77]) [] (I, J) (m_E (some (.int (if (n_nd I (I 92) 0 l 0 m) < 0 then -4 else (n_nd I (I 92) 0 l 0 m)))) ((if (n_nd I (I 92) 0 l 0 m) < 0 then I else m_ui I 77 16 0), J)) := by
  show m_W 118 0 [(0, .ref 77)] [] (I, J) _
  refine c_run 6 (pc' := 10) (ls' := [(0, .ref 77)]) (st' := [.int (I 77 16), .int 0, .ref 92, .ref 77]) (μ' := (I, J)) (Nat.le_of_ble_eq_true rfl) rfl ?_
  rw [show (I 77 16) = (nI l) from hl]
  refine c_cv 116 [.ref 92, .int 0, .int (nI l)] (b := 77) (r := []) (Nat.le_of_ble_eq_true rfl) rfl rfl rfl rfl rfl rfl (n_named92 I J 0 l (by omega) hl6 m hm hm6) ?_
  rintro _ _ ⟨rfl, rfl⟩
  show m_W 118 13 [(0, .ref 77)] [.int (n_nd I (I 92) 0 l 0 m)] (I, J) _
  refine c_run 3 (pc' := 16) (ls' := [(1, .int (n_nd I (I 92) 0 l 0 m)), (0, .ref 77)]) (st' := [.int (n_nd I (I 92) 0 l 0 m), .ref 77]) (μ' := (I, J)) (Nat.le_of_ble_eq_true rfl) rfl ?_
  refine c_ifge 26 (Nat.le_of_ble_eq_true rfl) rfl rfl (fun h1 => ?_) (fun h1 => ?_)
  · skip
    refine c_run 3 (pc' := 31) (ls' := [(1, .int (n_nd I (I 92) 0 l 0 m)), (0, .ref 77)]) (st' := [.int (n_nd I (I 92) 0 l 0 m)]) (μ' := ((m_ui I 77 16 0), J)) (Nat.le_of_ble_eq_true rfl) rfl ?_
    refine c_ifge 39 (Nat.le_of_ble_eq_true rfl) rfl rfl (fun h2 => ?_) (fun h2 => ?_)
    · skip
      refine c_run 1 (pc' := 40) (ls' := [(1, .int (n_nd I (I 92) 0 l 0 m)), (0, .ref 77)]) (st' := [.int (n_nd I (I 92) 0 l 0 m)]) (μ' := ((m_ui I 77 16 0), J)) (Nat.le_of_ble_eq_true rfl) rfl ?_
      refine c_ret (Nat.le_of_ble_eq_true rfl) rfl rfl ⟨by decide, rfl⟩ ?_
      first | contradiction | (rw [if_pos (Int32.not_le.mp (by assumption)), if_pos (Int32.not_le.mp (by assumption)), m_ui_id rfl]; exact ⟨rfl, rfl⟩) | (rw [if_neg (Int32.not_lt.mpr (by assumption)), if_neg (Int32.not_lt.mpr (by assumption))]; exact ⟨rfl, rfl⟩)
    · skip
      refine c_run 2 (pc' := 40) (ls' := [(1, .int (n_nd I (I 92) 0 l 0 m)), (0, .ref 77)]) (st' := [.int (-4)]) (μ' := ((m_ui I 77 16 0), J)) (Nat.le_of_ble_eq_true rfl) rfl ?_
      refine c_ret (Nat.le_of_ble_eq_true rfl) rfl rfl ⟨by decide, rfl⟩ ?_
      first | contradiction | (rw [if_pos (Int32.not_le.mp (by assumption)), if_pos (Int32.not_le.mp (by assumption)), m_ui_id rfl]; exact ⟨rfl, rfl⟩) | (rw [if_neg (Int32.not_lt.mpr (by assumption)), if_neg (Int32.not_lt.mpr (by assumption))]; exact ⟨rfl, rfl⟩)
  · skip
    refine c_run 5 (pc' := 31) (ls' := [(1, .int (n_nd I (I 92) 0 l 0 m)), (0, .ref 77)]) (st' := [.int (n_nd I (I 92) 0 l 0 m)]) (μ' := ((m_ui I 77 16 (I 77 16)), J)) (Nat.le_of_ble_eq_true rfl) rfl ?_
    refine c_ifge 39 (Nat.le_of_ble_eq_true rfl) rfl rfl (fun h3 => ?_) (fun h3 => ?_)
    · skip
      refine c_run 1 (pc' := 40) (ls' := [(1, .int (n_nd I (I 92) 0 l 0 m)), (0, .ref 77)]) (st' := [.int (n_nd I (I 92) 0 l 0 m)]) (μ' := ((m_ui I 77 16 (I 77 16)), J)) (Nat.le_of_ble_eq_true rfl) rfl ?_
      refine c_ret (Nat.le_of_ble_eq_true rfl) rfl rfl ⟨by decide, rfl⟩ ?_
      first | contradiction | (rw [if_pos (Int32.not_le.mp (by assumption)), if_pos (Int32.not_le.mp (by assumption)), m_ui_id rfl]; exact ⟨rfl, rfl⟩) | (rw [if_neg (Int32.not_lt.mpr (by assumption)), if_neg (Int32.not_lt.mpr (by assumption))]; exact ⟨rfl, rfl⟩)
    · skip
      refine c_run 2 (pc' := 40) (ls' := [(1, .int (n_nd I (I 92) 0 l 0 m)), (0, .ref 77)]) (st' := [.int (-4)]) (μ' := ((m_ui I 77 16 (I 77 16)), J)) (Nat.le_of_ble_eq_true rfl) rfl ?_
      refine c_ret (Nat.le_of_ble_eq_true rfl) rfl rfl ⟨by decide, rfl⟩ ?_
      first | contradiction | (rw [if_pos (Int32.not_le.mp (by assumption)), if_pos (Int32.not_le.mp (by assumption)), m_ui_id rfl]; exact ⟨rfl, rfl⟩) | (rw [if_neg (Int32.not_lt.mpr (by assumption)), if_neg (Int32.not_lt.mpr (by assumption))]; exact ⟨rfl, rfl⟩)

