/-! NAMES of the model -/
theorem n_6k (e k : Nat) : (6 : Int32) * nI e + nI k = nI (6 * e + k) := by
  rw [show (6 : Int32) = nI 6 from rfl, pk_mul, nI_add]
abbrev n_eqn (I : Nat → Nat → Int32) (f : Nat → Int32) (s l e k : Nat) : Prop := I 88 e = nI l ∧ ∀ j, j < k → I 87 (6 * e + j) = f (s + j)
def n_nd (I : Nat → Nat → Int32) (f : Nat → Int32) (s l : Nat) : Nat → Nat → Int32
  | _, 0 => -1
  | e, r + 1 => if n_eqn I f s l e l then nI e else n_nd I f s l (e + 1) r
theorem s01_e {a b : Int32} : (if a = b then (1 : Int32) else 0) = s01 (a = b) := rfl
theorem n_eqs {I : Nat → Nat → Int32} {f : Nat → Int32} {s l e k : Nat} (h : n_eqn I f s l e k) : n_eqn I f s l e (k + 1) ↔ I 87 (6 * e + k) = f (s + k) := by
  refine ⟨fun q => q.2 k (Nat.lt_succ_self k), fun q => ⟨h.1, fun j hj => ?_⟩⟩
  by_cases hjk : j = k
  · subst hjk; exact q
  · exact h.2 j (by omega)

set_option maxRecDepth 100000 in
theorem n_nm92_i (I : Nat → Nat → Int32) (J : Nat → Nat → Int64) (s l : Nat) (hsl : s + l ≤ 6) (hl6 : l ≤ 6) (e : Nat) (he : e < 6) (Q : m_Q) (H : m_W 116 79 [(0, .ref 77), (1, .ref 92), (2, .int (nI s)), (3, .int (nI l)), (4, .int (nI e)), (5, .int (s01 (n_eqn I (I 92) s l e l)))] [] (I, J) Q)  : ∀ (r k : Nat), k + r = l → m_W 116 33 [(0, .ref 77), (1, .ref 92), (2, .int (nI s)), (3, .int (nI l)), (4, .int (nI e)), (5, .int (s01 (n_eqn I (I 92) s l e k))), (6, .int (nI k))] [] (I, J) Q := by
  intro r
  induction r with
  | zero =>
    intro k hkr
    have hkl : l = k := by omega
    subst hkl
    refine c_run 2 (pc' := 36) (ls' := [(0, .ref 77), (1, .ref 92), (2, .int (nI s)), (3, .int (nI l)), (4, .int (nI e)), (5, .int (s01 (n_eqn I (I 92) s l e l))), (6, .int (nI l))]) (st' := [.int (nI l), .int (nI l)]) (μ' := (I, J)) (Nat.le_of_ble_eq_true rfl) rfl ?_
    refine c_icge 79 (Nat.le_of_ble_eq_true rfl) rfl rfl (fun h1 => ?_) (fun h1 => absurd (nI_le (by omega) (by omega)) h1)
    refine c_w [0, 1, 2, 3, 4, 5] (ls' := [(0, .ref 77), (1, .ref 92), (2, .int (nI s)), (3, .int (nI l)), (4, .int (nI e)), (5, .int (s01 (n_eqn I (I 92) s l e l)))]) rfl ?_
    rw [show (s01 (n_eqn I (I 92) s l e l)) = s01 (n_eqn I (I 92) s l e l) from rfl]
    exact H
  | succ r ih =>
    intro k hkr
    refine c_run 2 (pc' := 36) (ls' := [(0, .ref 77), (1, .ref 92), (2, .int (nI s)), (3, .int (nI l)), (4, .int (nI e)), (5, .int (s01 (n_eqn I (I 92) s l e k))), (6, .int (nI k))]) (st' := [.int (nI l), .int (nI k)]) (μ' := (I, J)) (Nat.le_of_ble_eq_true rfl) rfl ?_
    refine c_icge 79 (Nat.le_of_ble_eq_true rfl) rfl rfl (fun h1 => absurd h1 (nI_ge (by omega) (by omega))) (fun h1 => ?_)
    refine c_run 1 (pc' := 41) (ls' := [(0, .ref 77), (1, .ref 92), (2, .int (nI s)), (3, .int (nI l)), (4, .int (nI e)), (5, .int (s01 (n_eqn I (I 92) s l e k))), (6, .int (nI k))]) (st' := [.int (s01 (n_eqn I (I 92) s l e k))]) (μ' := (I, J)) (Nat.le_of_ble_eq_true rfl) rfl ?_
    refine c_ifeq 79 (Nat.le_of_ble_eq_true rfl) rfl rfl (fun h2 => ?_) (fun h2 => ?_)
    · replace h2 := s01_0.mp h2
      refine c_w [0, 1, 2, 3, 4, 5] (ls' := [(0, .ref 77), (1, .ref 92), (2, .int (nI s)), (3, .int (nI l)), (4, .int (nI e)), (5, .int (s01 (n_eqn I (I 92) s l e k)))]) rfl ?_
      rw [show (s01 (n_eqn I (I 92) s l e k)) = s01 (n_eqn I (I 92) s l e l) from (by first | rfl | exact (s01_c ⟨fun q => absurd q (by assumption), fun q => absurd (show n_eqn I (I 92) s l e k from ⟨q.1, fun j hj => q.2 j (by omega)⟩) (by assumption)⟩))]
      exact H
    · replace h2 := s01_1.mp h2
      refine c_run 7 (pc' := 56) (ls' := [(0, .ref 77), (1, .ref 92), (2, .int (nI s)), (3, .int (nI l)), (4, .int (nI e)), (5, .int (s01 (n_eqn I (I 92) s l e k))), (6, .int (nI k))]) (st' := [.int (((6 : Int32) * (nI e)) + (nI k)), .ref 87]) (μ' := (I, J)) (Nat.le_of_ble_eq_true rfl) rfl ?_
      refine c_ial (6 * e + k) 36 (Nat.le_of_ble_eq_true rfl) rfl rfl rfl rfl (n_6k e k) (by omega) ?_
      show m_W 116 57 [(0, .ref 77), (1, .ref 92), (2, .int (nI s)), (3, .int (nI l)), (4, .int (nI e)), (5, .int (s01 (n_eqn I (I 92) s l e k))), (6, .int (nI k))] [.int (I 87 (6 * e + k))] (I, J) _
      refine c_run 4 (pc' := 62) (ls' := [(0, .ref 77), (1, .ref 92), (2, .int (nI s)), (3, .int (nI l)), (4, .int (nI e)), (5, .int (s01 (n_eqn I (I 92) s l e k))), (6, .int (nI k))]) (st' := [.int ((nI s) + (nI k)), .ref 92, .int (I 87 (6 * e + k))]) (μ' := (I, J)) (Nat.le_of_ble_eq_true rfl) rfl ?_
      refine c_ial (s + k) 6 (Nat.le_of_ble_eq_true rfl) rfl rfl rfl rfl (nI_add s k) (by omega) ?_
      show m_W 116 63 [(0, .ref 77), (1, .ref 92), (2, .int (nI s)), (3, .int (nI l)), (4, .int (nI e)), (5, .int (s01 (n_eqn I (I 92) s l e k))), (6, .int (nI k))] [.int (I 92 (s + k)), .int (I 87 (6 * e + k))] (I, J) _
      refine c_icne 70 (Nat.le_of_ble_eq_true rfl) rfl rfl (fun h3 => ?_) (fun h3 => ?_)
      · skip
        refine c_run 4 (pc' := 33) (ls' := [(6, .int ((nI k) + (1 : Int32))), (5, .int 0), (0, .ref 77), (1, .ref 92), (2, .int (nI s)), (3, .int (nI l)), (4, .int (nI e))]) (st' := []) (μ' := (I, J)) (Nat.le_of_ble_eq_true rfl) rfl ?_
        refine c_w [2, 3, 4, 5, 6, 1, 0] (ls' := [(0, .ref 77), (1, .ref 92), (2, .int (nI s)), (3, .int (nI l)), (4, .int (nI e)), (5, .int 0), (6, .int ((nI k) + (1 : Int32)))]) rfl ?_
        rw [nI_1 k, show (0 : Int32) = s01 (n_eqn I (I 92) s l e (k + 1)) from (s01_f (fun q => absurd ((n_eqs (by assumption)).mp q) (by assumption))).symm]
        exact ih (k + 1) (by omega)
      · skip
        refine c_run 5 (pc' := 33) (ls' := [(6, .int ((nI k) + (1 : Int32))), (5, .int 1), (0, .ref 77), (1, .ref 92), (2, .int (nI s)), (3, .int (nI l)), (4, .int (nI e))]) (st' := []) (μ' := (I, J)) (Nat.le_of_ble_eq_true rfl) rfl ?_
        refine c_w [2, 3, 4, 5, 6, 1, 0] (ls' := [(0, .ref 77), (1, .ref 92), (2, .int (nI s)), (3, .int (nI l)), (4, .int (nI e)), (5, .int 1), (6, .int ((nI k) + (1 : Int32)))]) rfl ?_
        rw [nI_1 k, show (1 : Int32) = s01 (n_eqn I (I 92) s l e (k + 1)) from (s01_t ((n_eqs (by assumption)).mpr (by assumption))).symm]
        exact ih (k + 1) (by omega)

set_option maxRecDepth 100000 in
theorem n_nm92_o (I : Nat → Nat → Int32) (J : Nat → Nat → Int64) (s l : Nat) (hsl : s + l ≤ 6) (hl6 : l ≤ 6) (m : Nat) (hm : I 77 10 = nI m) (hm6 : m ≤ 6)  : ∀ (r e : Nat), e + r = m → m_W 116 3 [(0, .ref 77), (1, .ref 92), (2, .int (nI s)), (3, .int (nI l)), (4, .int (nI e))] [] (I, J) (m_E (some (.int (n_nd I (I 92) s l e r))) (I, J)) := by
  intro r
  induction r with
  | zero =>
    intro e hir
    have hin : m = e := by omega
    subst hin
    refine c_run 3 (pc' := 9) (ls' := [(0, .ref 77), (1, .ref 92), (2, .int (nI s)), (3, .int (nI l)), (4, .int (nI m))]) (st' := [.int (I 77 10), .int (nI m)]) (μ' := (I, J)) (Nat.le_of_ble_eq_true rfl) rfl ?_
    refine c_icge 93 (Nat.le_of_ble_eq_true rfl) rfl rfl (fun h1 => ?_) (fun h1 => absurd (by rw [hm]; exact nI_le (by omega) (by omega)) h1)
    refine c_run 1 (pc' := 94) (ls' := [(0, .ref 77), (1, .ref 92), (2, .int (nI s)), (3, .int (nI l)), (4, .int (nI m))]) (st' := [.int (-1)]) (μ' := (I, J)) (Nat.le_of_ble_eq_true rfl) rfl ?_
    refine c_ret (Nat.le_of_ble_eq_true rfl) rfl rfl ⟨by decide, rfl⟩ ?_
    exact ⟨rfl, rfl⟩
  | succ r ih =>
    intro e hir
    refine c_run 3 (pc' := 9) (ls' := [(0, .ref 77), (1, .ref 92), (2, .int (nI s)), (3, .int (nI l)), (4, .int (nI e))]) (st' := [.int (I 77 10), .int (nI e)]) (μ' := (I, J)) (Nat.le_of_ble_eq_true rfl) rfl ?_
    refine c_icge 93 (Nat.le_of_ble_eq_true rfl) rfl rfl (fun h1 => absurd h1 (by rw [hm]; exact nI_ge (by omega) (by omega))) (fun h1 => ?_)
    refine c_run 3 (pc' := 18) (ls' := [(0, .ref 77), (1, .ref 92), (2, .int (nI s)), (3, .int (nI l)), (4, .int (nI e))]) (st' := [.int (nI e), .ref 88]) (μ' := (I, J)) (Nat.le_of_ble_eq_true rfl) rfl ?_
    refine c_ial e 6 (Nat.le_of_ble_eq_true rfl) rfl rfl rfl rfl rfl (by omega) ?_
    show m_W 116 19 [(0, .ref 77), (1, .ref 92), (2, .int (nI s)), (3, .int (nI l)), (4, .int (nI e))] [.int (I 88 e)] (I, J) _
    refine c_run 1 (pc' := 20) (ls' := [(0, .ref 77), (1, .ref 92), (2, .int (nI s)), (3, .int (nI l)), (4, .int (nI e))]) (st' := [.int (nI l), .int (I 88 e)]) (μ' := (I, J)) (Nat.le_of_ble_eq_true rfl) rfl ?_
    refine c_icne 27 (Nat.le_of_ble_eq_true rfl) rfl rfl (fun h2 => ?_) (fun h2 => ?_)
    · skip
      refine c_run 4 (pc' := 33) (ls' := [(6, .int 0), (5, .int 0), (0, .ref 77), (1, .ref 92), (2, .int (nI s)), (3, .int (nI l)), (4, .int (nI e))]) (st' := []) (μ' := (I, J)) (Nat.le_of_ble_eq_true rfl) rfl ?_
      refine c_w [2, 3, 4, 5, 6, 1, 0] (ls' := [(0, .ref 77), (1, .ref 92), (2, .int (nI s)), (3, .int (nI l)), (4, .int (nI e)), (5, .int 0), (6, .int 0)]) rfl ?_
      show m_W 116 33 [(0, .ref 77), (1, .ref 92), (2, .int (nI s)), (3, .int (nI l)), (4, .int (nI e)), (5, .int 0), (6, .int (nI 0))] [] (I, J) _
      rw [show (0 : Int32) = s01 (n_eqn I (I 92) s l e 0) from (s01_f (fun q => absurd q.1 (by assumption))).symm]
      refine n_nm92_i I J s l hsl hl6 e (by omega) _ ?_ l 0 (by omega)
      refine c_run 1 (pc' := 81) (ls' := [(0, .ref 77), (1, .ref 92), (2, .int (nI s)), (3, .int (nI l)), (4, .int (nI e)), (5, .int (s01 (n_eqn I (I 92) s l e l)))]) (st' := [.int (s01 (n_eqn I (I 92) s l e l))]) (μ' := (I, J)) (Nat.le_of_ble_eq_true rfl) rfl ?_
      refine c_ifeq 87 (Nat.le_of_ble_eq_true rfl) rfl rfl (fun h51 => ?_) (fun h51 => ?_)
      · replace h51 := s01_0.mp h51
        refine c_run 2 (pc' := 3) (ls' := [(4, .int ((nI e) + (1 : Int32))), (0, .ref 77), (1, .ref 92), (2, .int (nI s)), (3, .int (nI l)), (5, .int (s01 (n_eqn I (I 92) s l e l)))]) (st' := []) (μ' := (I, J)) (Nat.le_of_ble_eq_true rfl) rfl ?_
        refine c_w [1, 2, 3, 4, 0] (ls' := [(0, .ref 77), (1, .ref 92), (2, .int (nI s)), (3, .int (nI l)), (4, .int ((nI e) + (1 : Int32)))]) rfl ?_
        rw [nI_1 e]
        rw [n_nd, if_neg (by assumption)]
        exact ih (e + 1) (by omega)
      · replace h51 := s01_1.mp h51
        refine c_run 1 (pc' := 86) (ls' := [(0, .ref 77), (1, .ref 92), (2, .int (nI s)), (3, .int (nI l)), (4, .int (nI e)), (5, .int (s01 (n_eqn I (I 92) s l e l)))]) (st' := [.int (nI e)]) (μ' := (I, J)) (Nat.le_of_ble_eq_true rfl) rfl ?_
        refine c_ret (Nat.le_of_ble_eq_true rfl) rfl rfl ⟨by decide, rfl⟩ ?_
        refine ⟨?_, rfl⟩
        rw [n_nd, if_pos (by assumption)]
    · skip
      refine c_run 5 (pc' := 33) (ls' := [(6, .int 0), (5, .int 1), (0, .ref 77), (1, .ref 92), (2, .int (nI s)), (3, .int (nI l)), (4, .int (nI e))]) (st' := []) (μ' := (I, J)) (Nat.le_of_ble_eq_true rfl) rfl ?_
      refine c_w [2, 3, 4, 5, 6, 1, 0] (ls' := [(0, .ref 77), (1, .ref 92), (2, .int (nI s)), (3, .int (nI l)), (4, .int (nI e)), (5, .int 1), (6, .int 0)]) rfl ?_
      show m_W 116 33 [(0, .ref 77), (1, .ref 92), (2, .int (nI s)), (3, .int (nI l)), (4, .int (nI e)), (5, .int 1), (6, .int (nI 0))] [] (I, J) _
      rw [show (1 : Int32) = s01 (n_eqn I (I 92) s l e 0) from (s01_t ⟨by assumption, fun j hj => absurd hj (Nat.not_lt_zero j)⟩).symm]
      refine n_nm92_i I J s l hsl hl6 e (by omega) _ ?_ l 0 (by omega)
      refine c_run 1 (pc' := 81) (ls' := [(0, .ref 77), (1, .ref 92), (2, .int (nI s)), (3, .int (nI l)), (4, .int (nI e)), (5, .int (s01 (n_eqn I (I 92) s l e l)))]) (st' := [.int (s01 (n_eqn I (I 92) s l e l))]) (μ' := (I, J)) (Nat.le_of_ble_eq_true rfl) rfl ?_
      refine c_ifeq 87 (Nat.le_of_ble_eq_true rfl) rfl rfl (fun h51 => ?_) (fun h51 => ?_)
      · replace h51 := s01_0.mp h51
        refine c_run 2 (pc' := 3) (ls' := [(4, .int ((nI e) + (1 : Int32))), (0, .ref 77), (1, .ref 92), (2, .int (nI s)), (3, .int (nI l)), (5, .int (s01 (n_eqn I (I 92) s l e l)))]) (st' := []) (μ' := (I, J)) (Nat.le_of_ble_eq_true rfl) rfl ?_
        refine c_w [1, 2, 3, 4, 0] (ls' := [(0, .ref 77), (1, .ref 92), (2, .int (nI s)), (3, .int (nI l)), (4, .int ((nI e) + (1 : Int32)))]) rfl ?_
        rw [nI_1 e]
        rw [n_nd, if_neg (by assumption)]
        exact ih (e + 1) (by omega)
      · replace h51 := s01_1.mp h51
        refine c_run 1 (pc' := 86) (ls' := [(0, .ref 77), (1, .ref 92), (2, .int (nI s)), (3, .int (nI l)), (4, .int (nI e)), (5, .int (s01 (n_eqn I (I 92) s l e l)))]) (st' := [.int (nI e)]) (μ' := (I, J)) (Nat.le_of_ble_eq_true rfl) rfl ?_
        refine c_ret (Nat.le_of_ble_eq_true rfl) rfl rfl ⟨by decide, rfl⟩ ?_
        refine ⟨?_, rfl⟩
        rw [n_nd, if_pos (by assumption)]

set_option maxRecDepth 100000 in
theorem n_named92 (I : Nat → Nat → Int32) (J : Nat → Nat → Int64) (s l : Nat) (hsl : s + l ≤ 6) (hl6 : l ≤ 6) (m : Nat) (hm : I 77 10 = nI m) (hm6 : m ≤ 6)  : m_W 116 0 (lv_args 0 [.ref 77, .ref 92, .int (nI s), .int (nI l)]) [] (I, J) (m_E (some (.int (n_nd I (I 92) s l 0 m))) (I, J)) := by
  show m_W 116 0 [(0, .ref 77), (1, .ref 92), (2, .int (nI s)), (3, .int (nI l))] [] (I, J) _
  refine c_run 2 (pc' := 3) (ls' := [(4, .int 0), (0, .ref 77), (1, .ref 92), (2, .int (nI s)), (3, .int (nI l))]) (st' := []) (μ' := (I, J)) (Nat.le_of_ble_eq_true rfl) rfl ?_
  refine c_w [1, 2, 3, 4, 0] (ls' := [(0, .ref 77), (1, .ref 92), (2, .int (nI s)), (3, .int (nI l)), (4, .int 0)]) rfl ?_
  exact n_nm92_o I J s l hsl hl6 m hm hm6 m 0 (by omega)

set_option maxRecDepth 100000 in
theorem n_nm93_i (I : Nat → Nat → Int32) (J : Nat → Nat → Int64) (s l : Nat) (hsl : s + l ≤ 100) (hl6 : l ≤ 6) (e : Nat) (he : e < 6) (Q : m_Q) (H : m_W 116 79 [(0, .ref 77), (1, .ref 93), (2, .int (nI s)), (3, .int (nI l)), (4, .int (nI e)), (5, .int (s01 (n_eqn I (I 93) s l e l)))] [] (I, J) Q)  : ∀ (r k : Nat), k + r = l → m_W 116 33 [(0, .ref 77), (1, .ref 93), (2, .int (nI s)), (3, .int (nI l)), (4, .int (nI e)), (5, .int (s01 (n_eqn I (I 93) s l e k))), (6, .int (nI k))] [] (I, J) Q := by
  intro r
  induction r with
  | zero =>
    intro k hkr
    have hkl : l = k := by omega
    subst hkl
    refine c_run 2 (pc' := 36) (ls' := [(0, .ref 77), (1, .ref 93), (2, .int (nI s)), (3, .int (nI l)), (4, .int (nI e)), (5, .int (s01 (n_eqn I (I 93) s l e l))), (6, .int (nI l))]) (st' := [.int (nI l), .int (nI l)]) (μ' := (I, J)) (Nat.le_of_ble_eq_true rfl) rfl ?_
    refine c_icge 79 (Nat.le_of_ble_eq_true rfl) rfl rfl (fun h1 => ?_) (fun h1 => absurd (nI_le (by omega) (by omega)) h1)
    refine c_w [0, 1, 2, 3, 4, 5] (ls' := [(0, .ref 77), (1, .ref 93), (2, .int (nI s)), (3, .int (nI l)), (4, .int (nI e)), (5, .int (s01 (n_eqn I (I 93) s l e l)))]) rfl ?_
    rw [show (s01 (n_eqn I (I 93) s l e l)) = s01 (n_eqn I (I 93) s l e l) from rfl]
    exact H
  | succ r ih =>
    intro k hkr
    refine c_run 2 (pc' := 36) (ls' := [(0, .ref 77), (1, .ref 93), (2, .int (nI s)), (3, .int (nI l)), (4, .int (nI e)), (5, .int (s01 (n_eqn I (I 93) s l e k))), (6, .int (nI k))]) (st' := [.int (nI l), .int (nI k)]) (μ' := (I, J)) (Nat.le_of_ble_eq_true rfl) rfl ?_
    refine c_icge 79 (Nat.le_of_ble_eq_true rfl) rfl rfl (fun h1 => absurd h1 (nI_ge (by omega) (by omega))) (fun h1 => ?_)
    refine c_run 1 (pc' := 41) (ls' := [(0, .ref 77), (1, .ref 93), (2, .int (nI s)), (3, .int (nI l)), (4, .int (nI e)), (5, .int (s01 (n_eqn I (I 93) s l e k))), (6, .int (nI k))]) (st' := [.int (s01 (n_eqn I (I 93) s l e k))]) (μ' := (I, J)) (Nat.le_of_ble_eq_true rfl) rfl ?_
    refine c_ifeq 79 (Nat.le_of_ble_eq_true rfl) rfl rfl (fun h2 => ?_) (fun h2 => ?_)
    · replace h2 := s01_0.mp h2
      refine c_w [0, 1, 2, 3, 4, 5] (ls' := [(0, .ref 77), (1, .ref 93), (2, .int (nI s)), (3, .int (nI l)), (4, .int (nI e)), (5, .int (s01 (n_eqn I (I 93) s l e k)))]) rfl ?_
      rw [show (s01 (n_eqn I (I 93) s l e k)) = s01 (n_eqn I (I 93) s l e l) from (by first | rfl | exact (s01_c ⟨fun q => absurd q (by assumption), fun q => absurd (show n_eqn I (I 93) s l e k from ⟨q.1, fun j hj => q.2 j (by omega)⟩) (by assumption)⟩))]
      exact H
    · replace h2 := s01_1.mp h2
      refine c_run 7 (pc' := 56) (ls' := [(0, .ref 77), (1, .ref 93), (2, .int (nI s)), (3, .int (nI l)), (4, .int (nI e)), (5, .int (s01 (n_eqn I (I 93) s l e k))), (6, .int (nI k))]) (st' := [.int (((6 : Int32) * (nI e)) + (nI k)), .ref 87]) (μ' := (I, J)) (Nat.le_of_ble_eq_true rfl) rfl ?_
      refine c_ial (6 * e + k) 36 (Nat.le_of_ble_eq_true rfl) rfl rfl rfl rfl (n_6k e k) (by omega) ?_
      show m_W 116 57 [(0, .ref 77), (1, .ref 93), (2, .int (nI s)), (3, .int (nI l)), (4, .int (nI e)), (5, .int (s01 (n_eqn I (I 93) s l e k))), (6, .int (nI k))] [.int (I 87 (6 * e + k))] (I, J) _
      refine c_run 4 (pc' := 62) (ls' := [(0, .ref 77), (1, .ref 93), (2, .int (nI s)), (3, .int (nI l)), (4, .int (nI e)), (5, .int (s01 (n_eqn I (I 93) s l e k))), (6, .int (nI k))]) (st' := [.int ((nI s) + (nI k)), .ref 93, .int (I 87 (6 * e + k))]) (μ' := (I, J)) (Nat.le_of_ble_eq_true rfl) rfl ?_
      refine c_ial (s + k) 100 (Nat.le_of_ble_eq_true rfl) rfl rfl rfl rfl (nI_add s k) (by omega) ?_
      show m_W 116 63 [(0, .ref 77), (1, .ref 93), (2, .int (nI s)), (3, .int (nI l)), (4, .int (nI e)), (5, .int (s01 (n_eqn I (I 93) s l e k))), (6, .int (nI k))] [.int (I 93 (s + k)), .int (I 87 (6 * e + k))] (I, J) _
      refine c_icne 70 (Nat.le_of_ble_eq_true rfl) rfl rfl (fun h3 => ?_) (fun h3 => ?_)
      · skip
        refine c_run 4 (pc' := 33) (ls' := [(6, .int ((nI k) + (1 : Int32))), (5, .int 0), (0, .ref 77), (1, .ref 93), (2, .int (nI s)), (3, .int (nI l)), (4, .int (nI e))]) (st' := []) (μ' := (I, J)) (Nat.le_of_ble_eq_true rfl) rfl ?_
        refine c_w [2, 3, 4, 5, 6, 1, 0] (ls' := [(0, .ref 77), (1, .ref 93), (2, .int (nI s)), (3, .int (nI l)), (4, .int (nI e)), (5, .int 0), (6, .int ((nI k) + (1 : Int32)))]) rfl ?_
        rw [nI_1 k, show (0 : Int32) = s01 (n_eqn I (I 93) s l e (k + 1)) from (s01_f (fun q => absurd ((n_eqs (by assumption)).mp q) (by assumption))).symm]
        exact ih (k + 1) (by omega)
      · skip
        refine c_run 5 (pc' := 33) (ls' := [(6, .int ((nI k) + (1 : Int32))), (5, .int 1), (0, .ref 77), (1, .ref 93), (2, .int (nI s)), (3, .int (nI l)), (4, .int (nI e))]) (st' := []) (μ' := (I, J)) (Nat.le_of_ble_eq_true rfl) rfl ?_
        refine c_w [2, 3, 4, 5, 6, 1, 0] (ls' := [(0, .ref 77), (1, .ref 93), (2, .int (nI s)), (3, .int (nI l)), (4, .int (nI e)), (5, .int 1), (6, .int ((nI k) + (1 : Int32)))]) rfl ?_
        rw [nI_1 k, show (1 : Int32) = s01 (n_eqn I (I 93) s l e (k + 1)) from (s01_t ((n_eqs (by assumption)).mpr (by assumption))).symm]
        exact ih (k + 1) (by omega)

set_option maxRecDepth 100000 in
theorem n_nm93_o (I : Nat → Nat → Int32) (J : Nat → Nat → Int64) (s l : Nat) (hsl : s + l ≤ 100) (hl6 : l ≤ 6) (m : Nat) (hm : I 77 10 = nI m) (hm6 : m ≤ 6)  : ∀ (r e : Nat), e + r = m → m_W 116 3 [(0, .ref 77), (1, .ref 93), (2, .int (nI s)), (3, .int (nI l)), (4, .int (nI e))] [] (I, J) (m_E (some (.int (n_nd I (I 93) s l e r))) (I, J)) := by
  intro r
  induction r with
  | zero =>
    intro e hir
    have hin : m = e := by omega
    subst hin
    refine c_run 3 (pc' := 9) (ls' := [(0, .ref 77), (1, .ref 93), (2, .int (nI s)), (3, .int (nI l)), (4, .int (nI m))]) (st' := [.int (I 77 10), .int (nI m)]) (μ' := (I, J)) (Nat.le_of_ble_eq_true rfl) rfl ?_
    refine c_icge 93 (Nat.le_of_ble_eq_true rfl) rfl rfl (fun h1 => ?_) (fun h1 => absurd (by rw [hm]; exact nI_le (by omega) (by omega)) h1)
    refine c_run 1 (pc' := 94) (ls' := [(0, .ref 77), (1, .ref 93), (2, .int (nI s)), (3, .int (nI l)), (4, .int (nI m))]) (st' := [.int (-1)]) (μ' := (I, J)) (Nat.le_of_ble_eq_true rfl) rfl ?_
    refine c_ret (Nat.le_of_ble_eq_true rfl) rfl rfl ⟨by decide, rfl⟩ ?_
    exact ⟨rfl, rfl⟩
  | succ r ih =>
    intro e hir
    refine c_run 3 (pc' := 9) (ls' := [(0, .ref 77), (1, .ref 93), (2, .int (nI s)), (3, .int (nI l)), (4, .int (nI e))]) (st' := [.int (I 77 10), .int (nI e)]) (μ' := (I, J)) (Nat.le_of_ble_eq_true rfl) rfl ?_
    refine c_icge 93 (Nat.le_of_ble_eq_true rfl) rfl rfl (fun h1 => absurd h1 (by rw [hm]; exact nI_ge (by omega) (by omega))) (fun h1 => ?_)
    refine c_run 3 (pc' := 18) (ls' := [(0, .ref 77), (1, .ref 93), (2, .int (nI s)), (3, .int (nI l)), (4, .int (nI e))]) (st' := [.int (nI e), .ref 88]) (μ' := (I, J)) (Nat.le_of_ble_eq_true rfl) rfl ?_
    refine c_ial e 6 (Nat.le_of_ble_eq_true rfl) rfl rfl rfl rfl rfl (by omega) ?_
    show m_W 116 19 [(0, .ref 77), (1, .ref 93), (2, .int (nI s)), (3, .int (nI l)), (4, .int (nI e))] [.int (I 88 e)] (I, J) _
    refine c_run 1 (pc' := 20) (ls' := [(0, .ref 77), (1, .ref 93), (2, .int (nI s)), (3, .int (nI l)), (4, .int (nI e))]) (st' := [.int (nI l), .int (I 88 e)]) (μ' := (I, J)) (Nat.le_of_ble_eq_true rfl) rfl ?_
    refine c_icne 27 (Nat.le_of_ble_eq_true rfl) rfl rfl (fun h2 => ?_) (fun h2 => ?_)
    · skip
      refine c_run 4 (pc' := 33) (ls' := [(6, .int 0), (5, .int 0), (0, .ref 77), (1, .ref 93), (2, .int (nI s)), (3, .int (nI l)), (4, .int (nI e))]) (st' := []) (μ' := (I, J)) (Nat.le_of_ble_eq_true rfl) rfl ?_
      refine c_w [2, 3, 4, 5, 6, 1, 0] (ls' := [(0, .ref 77), (1, .ref 93), (2, .int (nI s)), (3, .int (nI l)), (4, .int (nI e)), (5, .int 0), (6, .int 0)]) rfl ?_
      show m_W 116 33 [(0, .ref 77), (1, .ref 93), (2, .int (nI s)), (3, .int (nI l)), (4, .int (nI e)), (5, .int 0), (6, .int (nI 0))] [] (I, J) _
      rw [show (0 : Int32) = s01 (n_eqn I (I 93) s l e 0) from (s01_f (fun q => absurd q.1 (by assumption))).symm]
      refine n_nm93_i I J s l hsl hl6 e (by omega) _ ?_ l 0 (by omega)
      refine c_run 1 (pc' := 81) (ls' := [(0, .ref 77), (1, .ref 93), (2, .int (nI s)), (3, .int (nI l)), (4, .int (nI e)), (5, .int (s01 (n_eqn I (I 93) s l e l)))]) (st' := [.int (s01 (n_eqn I (I 93) s l e l))]) (μ' := (I, J)) (Nat.le_of_ble_eq_true rfl) rfl ?_
      refine c_ifeq 87 (Nat.le_of_ble_eq_true rfl) rfl rfl (fun h51 => ?_) (fun h51 => ?_)
      · replace h51 := s01_0.mp h51
        refine c_run 2 (pc' := 3) (ls' := [(4, .int ((nI e) + (1 : Int32))), (0, .ref 77), (1, .ref 93), (2, .int (nI s)), (3, .int (nI l)), (5, .int (s01 (n_eqn I (I 93) s l e l)))]) (st' := []) (μ' := (I, J)) (Nat.le_of_ble_eq_true rfl) rfl ?_
        refine c_w [1, 2, 3, 4, 0] (ls' := [(0, .ref 77), (1, .ref 93), (2, .int (nI s)), (3, .int (nI l)), (4, .int ((nI e) + (1 : Int32)))]) rfl ?_
        rw [nI_1 e]
        rw [n_nd, if_neg (by assumption)]
        exact ih (e + 1) (by omega)
      · replace h51 := s01_1.mp h51
        refine c_run 1 (pc' := 86) (ls' := [(0, .ref 77), (1, .ref 93), (2, .int (nI s)), (3, .int (nI l)), (4, .int (nI e)), (5, .int (s01 (n_eqn I (I 93) s l e l)))]) (st' := [.int (nI e)]) (μ' := (I, J)) (Nat.le_of_ble_eq_true rfl) rfl ?_
        refine c_ret (Nat.le_of_ble_eq_true rfl) rfl rfl ⟨by decide, rfl⟩ ?_
        refine ⟨?_, rfl⟩
        rw [n_nd, if_pos (by assumption)]
    · skip
      refine c_run 5 (pc' := 33) (ls' := [(6, .int 0), (5, .int 1), (0, .ref 77), (1, .ref 93), (2, .int (nI s)), (3, .int (nI l)), (4, .int (nI e))]) (st' := []) (μ' := (I, J)) (Nat.le_of_ble_eq_true rfl) rfl ?_
      refine c_w [2, 3, 4, 5, 6, 1, 0] (ls' := [(0, .ref 77), (1, .ref 93), (2, .int (nI s)), (3, .int (nI l)), (4, .int (nI e)), (5, .int 1), (6, .int 0)]) rfl ?_
      show m_W 116 33 [(0, .ref 77), (1, .ref 93), (2, .int (nI s)), (3, .int (nI l)), (4, .int (nI e)), (5, .int 1), (6, .int (nI 0))] [] (I, J) _
      rw [show (1 : Int32) = s01 (n_eqn I (I 93) s l e 0) from (s01_t ⟨by assumption, fun j hj => absurd hj (Nat.not_lt_zero j)⟩).symm]
      refine n_nm93_i I J s l hsl hl6 e (by omega) _ ?_ l 0 (by omega)
      refine c_run 1 (pc' := 81) (ls' := [(0, .ref 77), (1, .ref 93), (2, .int (nI s)), (3, .int (nI l)), (4, .int (nI e)), (5, .int (s01 (n_eqn I (I 93) s l e l)))]) (st' := [.int (s01 (n_eqn I (I 93) s l e l))]) (μ' := (I, J)) (Nat.le_of_ble_eq_true rfl) rfl ?_
      refine c_ifeq 87 (Nat.le_of_ble_eq_true rfl) rfl rfl (fun h51 => ?_) (fun h51 => ?_)
      · replace h51 := s01_0.mp h51
        refine c_run 2 (pc' := 3) (ls' := [(4, .int ((nI e) + (1 : Int32))), (0, .ref 77), (1, .ref 93), (2, .int (nI s)), (3, .int (nI l)), (5, .int (s01 (n_eqn I (I 93) s l e l)))]) (st' := []) (μ' := (I, J)) (Nat.le_of_ble_eq_true rfl) rfl ?_
        refine c_w [1, 2, 3, 4, 0] (ls' := [(0, .ref 77), (1, .ref 93), (2, .int (nI s)), (3, .int (nI l)), (4, .int ((nI e) + (1 : Int32)))]) rfl ?_
        rw [nI_1 e]
        rw [n_nd, if_neg (by assumption)]
        exact ih (e + 1) (by omega)
      · replace h51 := s01_1.mp h51
        refine c_run 1 (pc' := 86) (ls' := [(0, .ref 77), (1, .ref 93), (2, .int (nI s)), (3, .int (nI l)), (4, .int (nI e)), (5, .int (s01 (n_eqn I (I 93) s l e l)))]) (st' := [.int (nI e)]) (μ' := (I, J)) (Nat.le_of_ble_eq_true rfl) rfl ?_
        refine c_ret (Nat.le_of_ble_eq_true rfl) rfl rfl ⟨by decide, rfl⟩ ?_
        refine ⟨?_, rfl⟩
        rw [n_nd, if_pos (by assumption)]

set_option maxRecDepth 100000 in
theorem n_named93 (I : Nat → Nat → Int32) (J : Nat → Nat → Int64) (s l : Nat) (hsl : s + l ≤ 100) (hl6 : l ≤ 6) (m : Nat) (hm : I 77 10 = nI m) (hm6 : m ≤ 6)  : m_W 116 0 (lv_args 0 [.ref 77, .ref 93, .int (nI s), .int (nI l)]) [] (I, J) (m_E (some (.int (n_nd I (I 93) s l 0 m))) (I, J)) := by
  show m_W 116 0 [(0, .ref 77), (1, .ref 93), (2, .int (nI s)), (3, .int (nI l))] [] (I, J) _
  refine c_run 2 (pc' := 3) (ls' := [(4, .int 0), (0, .ref 77), (1, .ref 93), (2, .int (nI s)), (3, .int (nI l))]) (st' := []) (μ' := (I, J)) (Nat.le_of_ble_eq_true rfl) rfl ?_
  refine c_w [1, 2, 3, 4, 0] (ls' := [(0, .ref 77), (1, .ref 93), (2, .int (nI s)), (3, .int (nI l)), (4, .int 0)]) rfl ?_
  exact n_nm93_o I J s l hsl hl6 m hm hm6 m 0 (by omega)


/-- names as numbers in base 27 -/
def nmz (f : Nat → Int32) (s : Nat) : Nat → Int
  | 0 => 0
  | i + 1 => nmz f s i * 27 + ((f (s + i)).toInt - 96)
theorem nmz_b {f : Nat → Int32} {s : Nat} : ∀ {l : Nat}, (∀ k, k < l → 97 ≤ f (s + k) ∧ f (s + k) ≤ 122) → 0 ≤ nmz f s l ∧ nmz f s l < 27 ^ l
  | 0, _ => ⟨Int.le_refl 0, (by decide : (0 : Int) < 27 ^ 0)⟩
  | l + 1, h => by
    obtain ⟨a, b⟩ := nmz_b (l := l) (fun k hk => h k (by omega))
    have c := h l (by omega)
    have c1 := c.1
    have c2 := c.2
    rw [Int32.le_iff_toInt_le, show (97 : Int32).toInt = 97 from rfl] at c1
    rw [Int32.le_iff_toInt_le, show (122 : Int32).toInt = 122 from rfl] at c2
    rw [nmz, Int.pow_succ]
    omega
theorem nmz_nm {f : Nat → Int32} {s : Nat} : ∀ {l : Nat}, l ≤ 6 → (∀ k, k < l → 97 ≤ f (s + k) ∧ f (s + k) ≤ 122) → (p_nm f s l).toInt = nmz f s l
  | 0, _, _ => rfl
  | l + 1, hl, h => by
    have ih := nmz_nm (s := s) (f := f) (l := l) (by omega) (fun k hk => h k (by omega))
    obtain ⟨a, b⟩ := nmz_b (f := f) (s := s) (l := l) (fun k hk => h k (by omega))
    have p : (27 : Int) ^ l ≤ 27 ^ 5 := by
      rcases (show l = 0 ∨ l = 1 ∨ l = 2 ∨ l = 3 ∨ l = 4 ∨ l = 5 by omega) with rfl | rfl | rfl | rfl | rfl | rfl <;> decide
    have p5 : (27 : Int) ^ 5 = 14348907 := by decide
    have c := h l (by omega)
    have c1 := c.1
    have c2 := c.2
    rw [Int32.le_iff_toInt_le, show (97 : Int32).toInt = 97 from rfl] at c1
    rw [Int32.le_iff_toInt_le, show (122 : Int32).toInt = 122 from rfl] at c2
    have k27 : (27 : Int32).toInt = 27 := rfl
    have k97 : (97 : Int32).toInt = 97 := rfl
    have k1 : (1 : Int32).toInt = 1 := rfl
    have e1 : (p_nm f s l * 27).toInt = nmz f s l * 27 := by rw [w_mul (by rw [ih, k27]; omega) (by rw [ih, k27]; omega), ih, k27]
    have e2 : (f (s + l) - 97).toInt = (f (s + l)).toInt - 97 := by rw [w_sub (by rw [k97]; omega) (by rw [k97]; omega), k97]
    have e3 : (f (s + l) - 97 + 1).toInt = (f (s + l)).toInt - 96 := by
      rw [w_add (by rw [e2, k1]; omega) (by rw [e2, k1]; omega), e2, k1]; omega
    rw [p_nm, w_add (by rw [e1, e3]; omega) (by rw [e1, e3]; omega), e1, e3, nmz]
theorem nmz_i {f g : Nat → Int32} {s t : Nat} : ∀ {l k : Nat}, (∀ j, j < l → 97 ≤ f (s + j) ∧ f (s + j) ≤ 122) → (∀ j, j < k → 97 ≤ g (t + j) ∧ g (t + j) ≤ 122) → nmz f s l = nmz g t k → l = k ∧ ∀ j, j < l → f (s + j) = g (t + j)
  | 0, 0, _, _, _ => ⟨rfl, fun j hj => absurd hj (Nat.not_lt_zero j)⟩
  | 0, k + 1, _, h2, h => by
    exfalso
    obtain ⟨a, -⟩ := nmz_b (l := k) (fun j hj => h2 j (by omega))
    have c := (h2 k (by omega)).1
    rw [Int32.le_iff_toInt_le, show (97 : Int32).toInt = 97 from rfl] at c
    rw [nmz, nmz] at h
    omega
  | l + 1, 0, h1, _, h => by
    exfalso
    obtain ⟨a, -⟩ := nmz_b (l := l) (fun j hj => h1 j (by omega))
    have c := (h1 l (by omega)).1
    rw [Int32.le_iff_toInt_le, show (97 : Int32).toInt = 97 from rfl] at c
    rw [nmz, nmz] at h
    omega
  | l + 1, k + 1, h1, h2, h => by
    have a := h1 l (by omega)
    have b := h2 k (by omega)
    have a1 := a.1
    have a2 := a.2
    have b1 := b.1
    have b2 := b.2
    rw [Int32.le_iff_toInt_le, show (97 : Int32).toInt = 97 from rfl] at a1 b1
    rw [Int32.le_iff_toInt_le, show (122 : Int32).toInt = 122 from rfl] at a2 b2
    rw [nmz, nmz] at h
    have e1 : nmz f s l = nmz g t k := by omega
    have e2 : (f (s + l)).toInt = (g (t + k)).toInt := by omega
    obtain ⟨q, r⟩ := nmz_i (fun j hj => h1 j (by omega)) (fun j hj => h2 j (by omega)) e1
    subst q
    refine ⟨rfl, fun j hj => ?_⟩
    by_cases hjl : j = l
    · subst hjl; exact Int32.toInt_inj.mp e2
    · exact r j (by omega)
theorem nm_cg {f g : Nat → Int32} {s t : Nat} : ∀ {l : Nat}, (∀ j, j < l → f (s + j) = g (t + j)) → p_nm f s l = p_nm g t l
  | 0, _ => rfl
  | l + 1, h => by rw [p_nm, p_nm, nm_cg (fun j hj => h j (by omega)), h l (by omega)]
theorem r_eqn {κ : k_M} {I : Nat → Nat → Int32} {J : Nat → Nat → Int64} {n m : Nat} (S : r_S κ I J n m) {f : Nat → Int32} {s l e : Nat} (he : e < m) (hl : l ≤ 6) (hf : ∀ k, k < l → 97 ≤ f (s + k) ∧ f (s + k) ≤ 122) : n_eqn I f s l e l ↔ κ.1 24 e = p_nm f s l := by
  obtain ⟨k, h1, h2, h3, h4, h5⟩ := S.nam e he
  constructor
  · rintro ⟨a, b⟩
    rw [h3] at a
    have hk : k = l := (nI_eq (by omega) (by omega)).mp a
    subst hk
    rw [h5]
    exact nm_cg b
  · intro a
    rw [h5] at a
    have b := congrArg Int32.toInt a
    rw [nmz_nm h2 h4, nmz_nm hl hf] at b
    obtain ⟨q, r⟩ := nmz_i h4 hf b
    subst q
    exact ⟨h3, r⟩
theorem r_nd {κ : k_M} {I : Nat → Nat → Int32} {J : Nat → Nat → Int64} {n m : Nat} (S : r_S κ I J n m) {f : Nat → Int32} {s l : Nat} (hl : l ≤ 6) (hf : ∀ k, k < l → 97 ≤ f (s + k) ∧ f (s + k) ≤ 122) : ∀ r e, e + r = m → (n_nd I f s l e r = -1 ∧ k_fd (κ.1 24) (p_nm f s l) e r = -4) ∨ ∃ j, j < m ∧ n_nd I f s l e r = nI j ∧ k_fd (κ.1 24) (p_nm f s l) e r = nI j
  | 0, _, _ => Or.inl ⟨rfl, rfl⟩
  | r + 1, e, h => by
    have q := r_eqn S (s := s) (l := l) (f := f) (show e < m by omega) hl hf
    rw [n_nd, k_fd]
    by_cases c : n_eqn I f s l e l
    · rw [if_pos c, if_pos (q.mp c)]
      exact Or.inr ⟨e, by omega, rfl, rfl⟩
    · rw [if_neg c, if_neg (fun x => c (q.mpr x))]
      exact r_nd S hl hf r (e + 1) (by omega)

