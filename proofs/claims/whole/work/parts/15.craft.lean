/-! SPECS: find, valves, the beginning of a burn, leaks -/
theorem m_ujk {f : Nat → Nat → Int64} {a k : Nat} {v : Int64} : m_uj f a k v a k = v := by simp [m_uj]
theorem m_uik {f : Nat → Nat → Int32} {a k : Nat} {v : Int32} : m_ui f a k v a k = v := by simp [m_ui]
theorem m_cj0 {f : Nat → Nat → Int64} {a : Nat} {g : Nat → Int64} (h : ∀ t, g t = f a t) : m_cj f a g = f := by
  funext c j
  unfold m_cj
  split
  · next h1 => rw [h1]; exact h j
  · rfl
theorem m_cjs {f : Nat → Nat → Int64} {a i : Nat} {g g' : Nat → Int64} {v : Int64} (h1 : g' i = v) (h2 : ∀ t, t ≠ i → g' t = g t) : m_uj (m_cj f a g) a i v = m_cj f a g' := by
  funext c j
  unfold m_uj m_cj
  split
  · split
    · next h => rw [h]; exact h1.symm
    · next h => exact (h2 j h).symm
  · rfl
theorem m_cjc {f : Nat → Nat → Int64} {a : Nat} {g g' : Nat → Int64} (h : ∀ t, g t = g' t) : m_cj f a g = m_cj f a g' := by rw [funext h]
theorem k_ix {x : Int32} {n : Nat} (h : 0 ≤ x ∧ x < nI n) (hn : n < 2147483648) : ∃ i, i < n ∧ x = nI i := by
  obtain ⟨h1, h2⟩ := h
  obtain ⟨j, hj, rfl⟩ := nI_of (Int32.not_lt.mpr h1)
  exact ⟨j, (nI_ltI hj (by omega)).mp h2, rfl⟩
def k_fd (nm : Nat → Int32) (x : Int32) : Nat → Nat → Int32
  | _, 0 => -4
  | i, r + 1 => if nm i = x then nI i else k_fd nm x (i + 1) r
def k_valve (κ : k_M) (e t o : Int32) : Int32 × k_M := if k_hasE κ e then (if k_hasT κ t then (if 0 ≤ o ∧ o ≤ 1 then (if e = κ.1 0 7 then (-2, κ) else
    (if o = 1 then (k_open (m_ui κ.1 27 e.toNatClampNeg (κ.1 27 e.toNatClampNeg ||| (1 : Int32) <<< (t &&& 31)), κ.2) e.toNatClampNeg, (m_ui κ.1 27 e.toNatClampNeg (κ.1 27 e.toNatClampNeg ||| (1 : Int32) <<< (t &&& 31)), κ.2))
     else (k_open (m_ui κ.1 27 e.toNatClampNeg (κ.1 27 e.toNatClampNeg &&& ((1 : Int32) <<< (t &&& 31) ^^^ (-1 : Int32))), κ.2) e.toNatClampNeg, (m_ui κ.1 27 e.toNatClampNeg (κ.1 27 e.toNatClampNeg &&& ((1 : Int32) <<< (t &&& 31) ^^^ (-1 : Int32))), κ.2)))) else (-1, κ)) else (-1, κ)) else (-1, κ)
def k_begin (κ : k_M) (e : Int32) : Int32 × k_M := if k_hasE κ e then (if k_isB κ then (-2, κ) else (if k_open κ e.toNatClampNeg = 0 then (-2, κ) else
    (κ.1 0 3, (m_ui (m_ui κ.1 0 7 e) 0 9 (κ.1 0 3), m_uj (m_uj (m_uj (m_uj κ.2 35 0 0) 35 1 0) 35 2 0) 35 3 0)))) else (-1, κ)
def k_lk1 (κ : k_M) (ms : Int32) (t : Nat) : Int64 := if 0 < κ.2 5 t - (κ.1 4 t).toInt64 * ms.toInt64 then κ.2 5 t - (κ.1 4 t).toInt64 * ms.toInt64 else 0
def k_lkf (κ : k_M) (ms : Int32) (i : Nat) : Nat → Int64 := fun t => if t < i then k_lk1 κ ms t else κ.2 5 t
def k_leak (κ : k_M) (n : Nat) (ms : Int32) : k_M := (κ.1, m_cj κ.2 5 (k_lkf κ ms n))
def k_cap (y : Int64) : Int64 := if y < 1000000000000000 then y else 1000000000000000
def k_grow (κ : k_M) (t : Nat) (d : Int64) : k_M := (κ.1, m_uj κ.2 8 t (k_cap (κ.2 8 t + d * d)))

set_option maxRecDepth 100000 in
theorem t1_find_l (I : Nat → Nat → Int32) (J : Nat → Nat → Int64) (x : Int32) (m : Nat) (hm : (k_sh 1 (I, J)).1 23 0 = nI m) (hm6 : m ≤ 6) : ∀ (r i : Nat), i + r = m → m_W 67 2 [(0, .ref 24), (1, .int x), (2, .int (nI i))] [] (I, J) (m_E (some (.int (k_fd ((k_sh 1 (I, J)).1 24) x i r))) (I, J)) := by
  intro r
  induction r with
  | zero =>
    intro i hir
    refine c_run 3 (pc' := 7) (ls' := [(0, .ref 24), (1, .int x), (2, .int (nI i))]) (st' := [.int ((k_sh 1 (I, J)).1 23 0), .int (nI i)]) (μ' := (I, J)) (Nat.le_of_ble_eq_true rfl) rfl ?_
    refine c_icge 34 (Nat.le_of_ble_eq_true rfl) rfl rfl (fun h1 => ?_) (fun h1 => absurd (by rw [hm]; exact nI_le (by omega) (by omega)) h1)
    refine c_run 1 (pc' := 36) (ls' := [(0, .ref 24), (1, .int x), (2, .int (nI i))]) (st' := [.int (-4)]) (μ' := (I, J)) (Nat.le_of_ble_eq_true rfl) rfl ?_
    refine c_ret (Nat.le_of_ble_eq_true rfl) rfl rfl ⟨by decide, rfl⟩ ?_
    exact ⟨rfl, rfl⟩
  | succ r ih =>
    intro i hir
    refine c_run 3 (pc' := 7) (ls' := [(0, .ref 24), (1, .int x), (2, .int (nI i))]) (st' := [.int ((k_sh 1 (I, J)).1 23 0), .int (nI i)]) (μ' := (I, J)) (Nat.le_of_ble_eq_true rfl) rfl ?_
    refine c_icge 34 (Nat.le_of_ble_eq_true rfl) rfl rfl (fun h1 => absurd h1 (by rw [hm]; exact nI_ge (by omega) (by omega))) (fun h1 => ?_)
    refine c_run 2 (pc' := 13) (ls' := [(0, .ref 24), (1, .int x), (2, .int (nI i))]) (st' := [.int 6, .int (nI i)]) (μ' := (I, J)) (Nat.le_of_ble_eq_true rfl) rfl ?_
    refine c_icge 34 (Nat.le_of_ble_eq_true rfl) rfl rfl (fun h2 => absurd h2 (show ¬ nI 6 ≤ nI i from nI_ge (by omega) (by omega))) (fun h2 => ?_)
    refine c_run 3 (pc' := 21) (ls' := [(0, .ref 24), (1, .int x), (2, .int (nI i))]) (st' := [.int (nI i), .ref 25]) (μ' := (I, J)) (Nat.le_of_ble_eq_true rfl) rfl ?_
    refine c_ial i 6 (Nat.le_of_ble_eq_true rfl) rfl rfl rfl rfl rfl (by omega) ?_
    show m_W 67 22 [(0, .ref 24), (1, .int x), (2, .int (nI i))] [.int ((k_sh 1 (I, J)).1 24 i)] (I, J) _
    refine c_run 1 (pc' := 23) (ls' := [(0, .ref 24), (1, .int x), (2, .int (nI i))]) (st' := [.int x, .int ((k_sh 1 (I, J)).1 24 i)]) (μ' := (I, J)) (Nat.le_of_ble_eq_true rfl) rfl ?_
    refine c_icne 28 (Nat.le_of_ble_eq_true rfl) rfl rfl (fun h3 => ?_) (fun h3 => ?_)
    · skip
      refine c_run 2 (pc' := 2) (ls' := [(2, .int ((nI i) + (1 : Int32))), (0, .ref 24), (1, .int x)]) (st' := []) (μ' := (I, J)) (Nat.le_of_ble_eq_true rfl) rfl ?_
      refine c_w [1, 2, 0] (ls' := [(0, .ref 24), (1, .int x), (2, .int ((nI i) + (1 : Int32)))]) rfl ?_
      rw [nI_1 i, k_fd, if_neg (by assumption)]
      exact ih (i + 1) (by omega)
    · skip
      refine c_run 1 (pc' := 27) (ls' := [(0, .ref 24), (1, .int x), (2, .int (nI i))]) (st' := [.int (nI i)]) (μ' := (I, J)) (Nat.le_of_ble_eq_true rfl) rfl ?_
      refine c_ret (Nat.le_of_ble_eq_true rfl) rfl rfl ⟨by decide, rfl⟩ ?_
      refine ⟨?_, rfl⟩
      rw [k_fd, if_pos (by assumption)]

set_option maxRecDepth 100000 in
theorem t1_find (I : Nat → Nat → Int32) (J : Nat → Nat → Int64) (x : Int32) (m : Nat) (hm : (k_sh 1 (I, J)).1 23 0 = nI m) (hm6 : m ≤ 6) : m_W 67 0 (lv_args 0 [.ref 24, .int x]) [] (I, J) (m_E (some (.int (k_fd ((k_sh 1 (I, J)).1 24) x 0 m))) (I, J)) := by
  show m_W 67 0 [(0, .ref 24), (1, .int x)] [] (I, J) _
  refine c_run 2 (pc' := 2) (ls' := [(2, .int 0), (0, .ref 24), (1, .int x)]) (st' := []) (μ' := (I, J)) (Nat.le_of_ble_eq_true rfl) rfl ?_
  refine c_w [1, 2, 0] (ls' := [(0, .ref 24), (1, .int x), (2, .int 0)]) rfl ?_
  exact t1_find_l I J x m hm hm6 m 0 (by omega)

set_option maxRecDepth 100000 in
theorem t1_valve (I : Nat → Nat → Int32) (J : Nat → Nat → Int64) (e t o : Int32) (m : Nat) (hm : (k_sh 1 (I, J)).1 23 0 = nI m) (hm6 : m ≤ 6) : m_W 53 0 (lv_args 0 [.ref 1, .int e, .int t, .int o]) [] (I, J) (k_E 1 (I, J) (some (.int (k_valve (k_sh 1 (I, J)) e t o).1)) (k_valve (k_sh 1 (I, J)) e t o).2) := by
  show m_W 53 0 [(0, .ref 1), (1, .int e), (2, .int t), (3, .int o)] [] (I, J) _
  refine c_run 3 (pc' := 5) (ls' := [(0, .ref 1), (1, .int e), (2, .int t), (3, .int o)]) (st' := [.int e, .ref 24]) (μ' := (I, J)) (Nat.le_of_ble_eq_true rfl) rfl ?_
  refine c_cv 66 [.int e] (b := 24) (r := []) (Nat.le_of_ble_eq_true rfl) rfl rfl rfl rfl rfl rfl (t1_hasE I J e) ?_
  rintro _ _ ⟨rfl, rfl⟩
  show m_W 53 8 [(0, .ref 1), (1, .int e), (2, .int t), (3, .int o)] [.int (s01 (k_hasE (k_sh 1 (I, J)) e))] (I, J) _
  refine c_ifeq 31 (Nat.le_of_ble_eq_true rfl) rfl rfl (fun h1 => ?_) (fun h1 => ?_)
  · replace h1 := s01_0.mp h1
    refine c_run 1 (pc' := 32) (ls' := [(0, .ref 1), (1, .int e), (2, .int t), (3, .int o)]) (st' := [.int (-1)]) (μ' := (I, J)) (Nat.le_of_ble_eq_true rfl) rfl ?_
    refine c_ret (Nat.le_of_ble_eq_true rfl) rfl rfl ⟨by decide, rfl⟩ ?_
    refine ⟨?_, ?_, ?_⟩
    · first | rfl | (simp only [k_valve, if_neg h1]; done) | (simp only [k_valve, if_neg h1]; rfl)
    · skip
      first | rfl | (simp only [k_valve, if_neg h1]; done) | (simp only [k_valve, if_neg h1]; rfl)
    · exact (m_fr.rf)
  · replace h1 := s01_1.mp h1
    refine c_run 3 (pc' := 16) (ls' := [(0, .ref 1), (1, .int e), (2, .int t), (3, .int o)]) (st' := [.int t, .ref 2]) (μ' := (I, J)) (Nat.le_of_ble_eq_true rfl) rfl ?_
    refine c_cv 80 [.int t] (b := 2) (r := []) (Nat.le_of_ble_eq_true rfl) rfl rfl rfl rfl rfl rfl (t1_hasT I J t) ?_
    rintro _ _ ⟨rfl, rfl⟩
    show m_W 53 19 [(0, .ref 1), (1, .int e), (2, .int t), (3, .int o)] [.int (s01 (k_hasT (k_sh 1 (I, J)) t))] (I, J) _
    refine c_ifeq 31 (Nat.le_of_ble_eq_true rfl) rfl rfl (fun h2 => ?_) (fun h2 => ?_)
    · replace h2 := s01_0.mp h2
      refine c_run 1 (pc' := 32) (ls' := [(0, .ref 1), (1, .int e), (2, .int t), (3, .int o)]) (st' := [.int (-1)]) (μ' := (I, J)) (Nat.le_of_ble_eq_true rfl) rfl ?_
      refine c_ret (Nat.le_of_ble_eq_true rfl) rfl rfl ⟨by decide, rfl⟩ ?_
      refine ⟨?_, ?_, ?_⟩
      · first | rfl | (simp only [k_valve, if_pos h1, if_neg h2]; done) | (simp only [k_valve, if_pos h1, if_neg h2]; rfl)
      · skip
        first | rfl | (simp only [k_valve, if_pos h1, if_neg h2]; done) | (simp only [k_valve, if_pos h1, if_neg h2]; rfl)
      · exact (m_fr.rf)
    · replace h2 := s01_1.mp h2
      refine c_run 3 (pc' := 25) (ls' := [(0, .ref 1), (1, .int e), (2, .int t), (3, .int o)]) (st' := [.int 1, .int 0, .int o]) (μ' := (I, J)) (Nat.le_of_ble_eq_true rfl) rfl ?_
      refine c_cs 35 [.int o, .int 0, .int 1] (r := []) (Nat.le_of_ble_eq_true rfl) rfl (Or.inr ⟨rfl, rfl⟩) rfl rfl rfl (t_isWithin I J o 0 1) ?_
      rintro _ _ ⟨rfl, rfl⟩
      show m_W 53 28 [(0, .ref 1), (1, .int e), (2, .int t), (3, .int o)] [.int (s01 ((0 : Int32) ≤ o ∧ o ≤ (1 : Int32)))] (I, J) _
      refine c_ifne 33 (Nat.le_of_ble_eq_true rfl) rfl rfl (fun h3 => ?_) (fun h3 => ?_)
      · replace h3 := s01_1.mp h3
        refine c_run 3 (pc' := 38) (ls' := [(0, .ref 1), (1, .int e), (2, .int t), (3, .int o)]) (st' := [.int ((k_sh 1 (I, J)).1 0 7), .int e]) (μ' := (I, J)) (Nat.le_of_ble_eq_true rfl) rfl ?_
        obtain ⟨i, hi, rfl⟩ : ∃ i, i < m ∧ e = nI i := k_ix (by rw [← hm]; assumption) (by omega)
        have hcl : (nI i).toNatClampNeg = i := nI_clamp (by omega)
        refine c_icne 44 (Nat.le_of_ble_eq_true rfl) rfl rfl (fun h4 => ?_) (fun h4 => ?_)
        · skip
          refine c_run 10 (pc' := 59) (ls' := [(4, .int ((1 : Int32) <<< (t &&& 31))), (0, .ref 1), (1, .int (nI i)), (2, .int t), (3, .int o)]) (st' := [.int 1, .int o, .int (nI i), .ref 28]) (μ' := (I, J)) (Nat.le_of_ble_eq_true rfl) rfl ?_
          refine c_icne 77 (Nat.le_of_ble_eq_true rfl) rfl rfl (fun h5 => ?_) (fun h5 => ?_)
          · skip
            refine c_run 4 (pc' := 85) (ls' := [(4, .int ((1 : Int32) <<< (t &&& 31))), (0, .ref 1), (1, .int (nI i)), (2, .int t), (3, .int o)]) (st' := [.int (nI i), .ref 28, .int (nI i), .ref 28]) (μ' := (I, J)) (Nat.le_of_ble_eq_true rfl) rfl ?_
            refine c_ial i 6 (Nat.le_of_ble_eq_true rfl) rfl rfl rfl rfl rfl (by omega) ?_
            show m_W 53 86 [(4, .int ((1 : Int32) <<< (t &&& 31))), (0, .ref 1), (1, .int (nI i)), (2, .int t), (3, .int o)] [.int ((k_sh 1 (I, J)).1 27 i), .int (nI i), .ref 28] (I, J) _
            refine c_run 4 (pc' := 91) (ls' := [(4, .int ((1 : Int32) <<< (t &&& 31))), (0, .ref 1), (1, .int (nI i)), (2, .int t), (3, .int o)]) (st' := [.int (((k_sh 1 (I, J)).1 27 i) &&& (((1 : Int32) <<< (t &&& 31)) ^^^ (-1 : Int32))), .int (nI i), .ref 28]) (μ' := (I, J)) (Nat.le_of_ble_eq_true rfl) rfl ?_
            refine c_ias i 6 (Nat.le_of_ble_eq_true rfl) rfl rfl rfl rfl rfl (by omega) ?_
            show m_W 53 92 [(4, .int ((1 : Int32) <<< (t &&& 31))), (0, .ref 1), (1, .int (nI i)), (2, .int t), (3, .int o)] [] ((m_ui I 28 i (((k_sh 1 (I, J)).1 27 i) &&& (((1 : Int32) <<< (t &&& 31)) ^^^ (-1 : Int32)))), J) _
            refine c_run 2 (pc' := 94) (ls' := [(4, .int ((1 : Int32) <<< (t &&& 31))), (0, .ref 1), (1, .int (nI i)), (2, .int t), (3, .int o)]) (st' := [.int (nI i), .ref 1]) (μ' := ((m_ui I 28 i (((k_sh 1 (I, J)).1 27 i) &&& (((1 : Int32) <<< (t &&& 31)) ^^^ (-1 : Int32)))), J)) (Nat.le_of_ble_eq_true rfl) rfl ?_
            refine c_cv 52 [.int (nI i)] (b := 1) (r := []) (Nat.le_of_ble_eq_true rfl) rfl rfl rfl rfl rfl rfl (t1_open (m_ui I 28 i (((k_sh 1 (I, J)).1 27 i) &&& (((1 : Int32) <<< (t &&& 31)) ^^^ (-1 : Int32)))) J i (by omega)) ?_
            rintro _ _ ⟨rfl, rfl⟩
            show m_W 53 97 [(4, .int ((1 : Int32) <<< (t &&& 31))), (0, .ref 1), (1, .int (nI i)), (2, .int t), (3, .int o)] [.int (k_open (k_sh 1 ((m_ui I 28 i (((k_sh 1 (I, J)).1 27 i) &&& (((1 : Int32) <<< (t &&& 31)) ^^^ (-1 : Int32)))), J)) i)] ((m_ui I 28 i (((k_sh 1 (I, J)).1 27 i) &&& (((1 : Int32) <<< (t &&& 31)) ^^^ (-1 : Int32)))), J) _
            refine c_ret (Nat.le_of_ble_eq_true rfl) rfl rfl ⟨by decide, rfl⟩ ?_
            refine ⟨?_, ?_, ?_⟩
            · first | rfl | (simp only [k_valve, if_pos h1, if_pos h2, if_pos h3, hcl, if_neg h4, if_neg h5]; done) | (simp only [k_valve, if_pos h1, if_pos h2, if_pos h3, hcl, if_neg h4, if_neg h5]; rfl) | (rw [k_ui 27 rfl rfl]; rfl) | (rw [k_ui 27 rfl rfl]; simp only [k_valve, if_pos h1, if_pos h2, if_pos h3, hcl, if_neg h4, if_neg h5]; done) | (rw [k_ui 27 rfl rfl]; simp only [k_valve, if_pos h1, if_pos h2, if_pos h3, hcl, if_neg h4, if_neg h5]; rfl)
            · rw [k_ui 27 rfl rfl]
              first | rfl | (simp only [k_valve, if_pos h1, if_pos h2, if_pos h3, hcl, if_neg h4, if_neg h5]; done) | (simp only [k_valve, if_pos h1, if_pos h2, if_pos h3, hcl, if_neg h4, if_neg h5]; rfl)
            · exact ((m_fr.rf).ui rfl rfl)
          · skip
            refine c_run 4 (pc' := 70) (ls' := [(4, .int ((1 : Int32) <<< (t &&& 31))), (0, .ref 1), (1, .int (nI i)), (2, .int t), (3, .int o)]) (st' := [.int (nI i), .ref 28, .int (nI i), .ref 28]) (μ' := (I, J)) (Nat.le_of_ble_eq_true rfl) rfl ?_
            refine c_ial i 6 (Nat.le_of_ble_eq_true rfl) rfl rfl rfl rfl rfl (by omega) ?_
            show m_W 53 71 [(4, .int ((1 : Int32) <<< (t &&& 31))), (0, .ref 1), (1, .int (nI i)), (2, .int t), (3, .int o)] [.int ((k_sh 1 (I, J)).1 27 i), .int (nI i), .ref 28] (I, J) _
            refine c_run 3 (pc' := 91) (ls' := [(4, .int ((1 : Int32) <<< (t &&& 31))), (0, .ref 1), (1, .int (nI i)), (2, .int t), (3, .int o)]) (st' := [.int (((k_sh 1 (I, J)).1 27 i) ||| ((1 : Int32) <<< (t &&& 31))), .int (nI i), .ref 28]) (μ' := (I, J)) (Nat.le_of_ble_eq_true rfl) rfl ?_
            refine c_ias i 6 (Nat.le_of_ble_eq_true rfl) rfl rfl rfl rfl rfl (by omega) ?_
            show m_W 53 92 [(4, .int ((1 : Int32) <<< (t &&& 31))), (0, .ref 1), (1, .int (nI i)), (2, .int t), (3, .int o)] [] ((m_ui I 28 i (((k_sh 1 (I, J)).1 27 i) ||| ((1 : Int32) <<< (t &&& 31)))), J) _
            refine c_run 2 (pc' := 94) (ls' := [(4, .int ((1 : Int32) <<< (t &&& 31))), (0, .ref 1), (1, .int (nI i)), (2, .int t), (3, .int o)]) (st' := [.int (nI i), .ref 1]) (μ' := ((m_ui I 28 i (((k_sh 1 (I, J)).1 27 i) ||| ((1 : Int32) <<< (t &&& 31)))), J)) (Nat.le_of_ble_eq_true rfl) rfl ?_
            refine c_cv 52 [.int (nI i)] (b := 1) (r := []) (Nat.le_of_ble_eq_true rfl) rfl rfl rfl rfl rfl rfl (t1_open (m_ui I 28 i (((k_sh 1 (I, J)).1 27 i) ||| ((1 : Int32) <<< (t &&& 31)))) J i (by omega)) ?_
            rintro _ _ ⟨rfl, rfl⟩
            show m_W 53 97 [(4, .int ((1 : Int32) <<< (t &&& 31))), (0, .ref 1), (1, .int (nI i)), (2, .int t), (3, .int o)] [.int (k_open (k_sh 1 ((m_ui I 28 i (((k_sh 1 (I, J)).1 27 i) ||| ((1 : Int32) <<< (t &&& 31)))), J)) i)] ((m_ui I 28 i (((k_sh 1 (I, J)).1 27 i) ||| ((1 : Int32) <<< (t &&& 31)))), J) _
            refine c_ret (Nat.le_of_ble_eq_true rfl) rfl rfl ⟨by decide, rfl⟩ ?_
            refine ⟨?_, ?_, ?_⟩
            · first | rfl | (simp only [k_valve, if_pos h1, if_pos h2, if_pos h3, hcl, if_neg h4, if_pos h5]; done) | (simp only [k_valve, if_pos h1, if_pos h2, if_pos h3, hcl, if_neg h4, if_pos h5]; rfl) | (rw [k_ui 27 rfl rfl]; rfl) | (rw [k_ui 27 rfl rfl]; simp only [k_valve, if_pos h1, if_pos h2, if_pos h3, hcl, if_neg h4, if_pos h5]; done) | (rw [k_ui 27 rfl rfl]; simp only [k_valve, if_pos h1, if_pos h2, if_pos h3, hcl, if_neg h4, if_pos h5]; rfl)
            · rw [k_ui 27 rfl rfl]
              first | rfl | (simp only [k_valve, if_pos h1, if_pos h2, if_pos h3, hcl, if_neg h4, if_pos h5]; done) | (simp only [k_valve, if_pos h1, if_pos h2, if_pos h3, hcl, if_neg h4, if_pos h5]; rfl)
            · exact ((m_fr.rf).ui rfl rfl)
        · skip
          refine c_run 1 (pc' := 43) (ls' := [(0, .ref 1), (1, .int (nI i)), (2, .int t), (3, .int o)]) (st' := [.int (-2)]) (μ' := (I, J)) (Nat.le_of_ble_eq_true rfl) rfl ?_
          refine c_ret (Nat.le_of_ble_eq_true rfl) rfl rfl ⟨by decide, rfl⟩ ?_
          refine ⟨?_, ?_, ?_⟩
          · first | rfl | (simp only [k_valve, if_pos h1, if_pos h2, if_pos h3, hcl, if_pos h4]; done) | (simp only [k_valve, if_pos h1, if_pos h2, if_pos h3, hcl, if_pos h4]; rfl)
          · skip
            first | rfl | (simp only [k_valve, if_pos h1, if_pos h2, if_pos h3, hcl, if_pos h4]; done) | (simp only [k_valve, if_pos h1, if_pos h2, if_pos h3, hcl, if_pos h4]; rfl)
          · exact (m_fr.rf)
      · replace h3 := s01_0.mp h3
        refine c_run 1 (pc' := 32) (ls' := [(0, .ref 1), (1, .int e), (2, .int t), (3, .int o)]) (st' := [.int (-1)]) (μ' := (I, J)) (Nat.le_of_ble_eq_true rfl) rfl ?_
        refine c_ret (Nat.le_of_ble_eq_true rfl) rfl rfl ⟨by decide, rfl⟩ ?_
        refine ⟨?_, ?_, ?_⟩
        · first | rfl | (simp only [k_valve, if_pos h1, if_pos h2, if_neg h3]; done) | (simp only [k_valve, if_pos h1, if_pos h2, if_neg h3]; rfl)
        · skip
          first | rfl | (simp only [k_valve, if_pos h1, if_pos h2, if_neg h3]; done) | (simp only [k_valve, if_pos h1, if_pos h2, if_neg h3]; rfl)
        · exact (m_fr.rf)

set_option maxRecDepth 100000 in
theorem t1_begin (I : Nat → Nat → Int32) (J : Nat → Nat → Int64) (e : Int32) (m : Nat) (hm : (k_sh 1 (I, J)).1 23 0 = nI m) (hm6 : m ≤ 6) : m_W 54 0 (lv_args 0 [.ref 1, .int e]) [] (I, J) (k_E 1 (I, J) (some (.int (k_begin (k_sh 1 (I, J)) e).1)) (k_begin (k_sh 1 (I, J)) e).2) := by
  show m_W 54 0 [(0, .ref 1), (1, .int e)] [] (I, J) _
  refine c_run 3 (pc' := 5) (ls' := [(0, .ref 1), (1, .int e)]) (st' := [.int e, .ref 24]) (μ' := (I, J)) (Nat.le_of_ble_eq_true rfl) rfl ?_
  refine c_cv 66 [.int e] (b := 24) (r := []) (Nat.le_of_ble_eq_true rfl) rfl rfl rfl rfl rfl rfl (t1_hasE I J e) ?_
  rintro _ _ ⟨rfl, rfl⟩
  show m_W 54 8 [(0, .ref 1), (1, .int e)] [.int (s01 (k_hasE (k_sh 1 (I, J)) e))] (I, J) _
  refine c_ifne 13 (Nat.le_of_ble_eq_true rfl) rfl rfl (fun h1 => ?_) (fun h1 => ?_)
  · replace h1 := s01_1.mp h1
    refine c_run 1 (pc' := 14) (ls' := [(0, .ref 1), (1, .int e)]) (st' := [.ref 1]) (μ' := (I, J)) (Nat.le_of_ble_eq_true rfl) rfl ?_
    refine c_cv 49 [] (b := 1) (r := []) (Nat.le_of_ble_eq_true rfl) rfl rfl rfl rfl rfl rfl (t1_isB I J) ?_
    rintro _ _ ⟨rfl, rfl⟩
    show m_W 54 17 [(0, .ref 1), (1, .int e)] [.int (s01 (k_isB (k_sh 1 (I, J))))] (I, J) _
    obtain ⟨i, hi, rfl⟩ : ∃ i, i < m ∧ e = nI i := k_ix (by rw [← hm]; assumption) (by omega)
    have hcl : (nI i).toNatClampNeg = i := nI_clamp (by omega)
    refine c_ifne 28 (Nat.le_of_ble_eq_true rfl) rfl rfl (fun h2 => ?_) (fun h2 => ?_)
    · replace h2 := s01_1.mp h2
      refine c_run 1 (pc' := 30) (ls' := [(0, .ref 1), (1, .int (nI i))]) (st' := [.int (-2)]) (μ' := (I, J)) (Nat.le_of_ble_eq_true rfl) rfl ?_
      refine c_ret (Nat.le_of_ble_eq_true rfl) rfl rfl ⟨by decide, rfl⟩ ?_
      refine ⟨?_, ?_, ?_⟩
      · first | rfl | (simp only [k_begin, if_pos h1, hcl, if_pos h2]; done) | (simp only [k_begin, if_pos h1, hcl, if_pos h2]; rfl)
      · skip
        first | rfl | (simp only [k_begin, if_pos h1, hcl, if_pos h2]; done) | (simp only [k_begin, if_pos h1, hcl, if_pos h2]; rfl)
      · exact (m_fr.rf)
    · replace h2 := s01_0.mp h2
      refine c_run 2 (pc' := 22) (ls' := [(0, .ref 1), (1, .int (nI i))]) (st' := [.int (nI i), .ref 1]) (μ' := (I, J)) (Nat.le_of_ble_eq_true rfl) rfl ?_
      refine c_cv 52 [.int (nI i)] (b := 1) (r := []) (Nat.le_of_ble_eq_true rfl) rfl rfl rfl rfl rfl rfl (t1_open I J i (by omega)) ?_
      rintro _ _ ⟨rfl, rfl⟩
      show m_W 54 25 [(0, .ref 1), (1, .int (nI i))] [.int (k_open (k_sh 1 (I, J)) i)] (I, J) _
      refine c_ifne 31 (Nat.le_of_ble_eq_true rfl) rfl rfl (fun h3 => ?_) (fun h3 => ?_)
      · skip
        refine c_run 11 (pc' := 48) (ls' := [(2, .int 0), (0, .ref 1), (1, .int (nI i))]) (st' := [.int 4, .int 0]) (μ' := ((m_ui (m_ui I 1 7 (nI i)) 1 9 ((k_sh 1 (I, J)).1 0 3)), J)) (Nat.le_of_ble_eq_true rfl) rfl ?_
        refine c_icge 64 (Nat.le_of_ble_eq_true rfl) rfl rfl (fun h4 => absurd h4 (by decide)) (fun h4 => ?_)
        refine c_run 4 (pc' := 57) (ls' := [(2, .int 0), (0, .ref 1), (1, .int (nI i))]) (st' := [.long 0, .int 0, .ref 36]) (μ' := ((m_ui (m_ui I 1 7 (nI i)) 1 9 ((k_sh 1 (I, J)).1 0 3)), J)) (Nat.le_of_ble_eq_true rfl) rfl ?_
        refine c_las 0 4 (Nat.le_of_ble_eq_true rfl) rfl rfl rfl rfl rfl (by decide) ?_
        show m_W 54 58 [(2, .int 0), (0, .ref 1), (1, .int (nI i))] [] ((m_ui (m_ui I 1 7 (nI i)) 1 9 ((k_sh 1 (I, J)).1 0 3)), (m_uj J 36 0 0)) _
        refine c_run 4 (pc' := 48) (ls' := [(2, .int 1), (0, .ref 1), (1, .int (nI i))]) (st' := [.int 4, .int 1]) (μ' := ((m_ui (m_ui I 1 7 (nI i)) 1 9 ((k_sh 1 (I, J)).1 0 3)), (m_uj J 36 0 0))) (Nat.le_of_ble_eq_true rfl) rfl ?_
        refine c_icge 64 (Nat.le_of_ble_eq_true rfl) rfl rfl (fun h5 => absurd h5 (by decide)) (fun h5 => ?_)
        refine c_run 4 (pc' := 57) (ls' := [(2, .int 1), (0, .ref 1), (1, .int (nI i))]) (st' := [.long 0, .int 1, .ref 36]) (μ' := ((m_ui (m_ui I 1 7 (nI i)) 1 9 ((k_sh 1 (I, J)).1 0 3)), (m_uj J 36 0 0))) (Nat.le_of_ble_eq_true rfl) rfl ?_
        refine c_las 1 4 (Nat.le_of_ble_eq_true rfl) rfl rfl rfl rfl rfl (by decide) ?_
        show m_W 54 58 [(2, .int 1), (0, .ref 1), (1, .int (nI i))] [] ((m_ui (m_ui I 1 7 (nI i)) 1 9 ((k_sh 1 (I, J)).1 0 3)), (m_uj (m_uj J 36 0 0) 36 1 0)) _
        refine c_run 4 (pc' := 48) (ls' := [(2, .int 2), (0, .ref 1), (1, .int (nI i))]) (st' := [.int 4, .int 2]) (μ' := ((m_ui (m_ui I 1 7 (nI i)) 1 9 ((k_sh 1 (I, J)).1 0 3)), (m_uj (m_uj J 36 0 0) 36 1 0))) (Nat.le_of_ble_eq_true rfl) rfl ?_
        refine c_icge 64 (Nat.le_of_ble_eq_true rfl) rfl rfl (fun h6 => absurd h6 (by decide)) (fun h6 => ?_)
        refine c_run 4 (pc' := 57) (ls' := [(2, .int 2), (0, .ref 1), (1, .int (nI i))]) (st' := [.long 0, .int 2, .ref 36]) (μ' := ((m_ui (m_ui I 1 7 (nI i)) 1 9 ((k_sh 1 (I, J)).1 0 3)), (m_uj (m_uj J 36 0 0) 36 1 0))) (Nat.le_of_ble_eq_true rfl) rfl ?_
        refine c_las 2 4 (Nat.le_of_ble_eq_true rfl) rfl rfl rfl rfl rfl (by decide) ?_
        show m_W 54 58 [(2, .int 2), (0, .ref 1), (1, .int (nI i))] [] ((m_ui (m_ui I 1 7 (nI i)) 1 9 ((k_sh 1 (I, J)).1 0 3)), (m_uj (m_uj (m_uj J 36 0 0) 36 1 0) 36 2 0)) _
        refine c_run 4 (pc' := 48) (ls' := [(2, .int 3), (0, .ref 1), (1, .int (nI i))]) (st' := [.int 4, .int 3]) (μ' := ((m_ui (m_ui I 1 7 (nI i)) 1 9 ((k_sh 1 (I, J)).1 0 3)), (m_uj (m_uj (m_uj J 36 0 0) 36 1 0) 36 2 0))) (Nat.le_of_ble_eq_true rfl) rfl ?_
        refine c_icge 64 (Nat.le_of_ble_eq_true rfl) rfl rfl (fun h7 => absurd h7 (by decide)) (fun h7 => ?_)
        refine c_run 4 (pc' := 57) (ls' := [(2, .int 3), (0, .ref 1), (1, .int (nI i))]) (st' := [.long 0, .int 3, .ref 36]) (μ' := ((m_ui (m_ui I 1 7 (nI i)) 1 9 ((k_sh 1 (I, J)).1 0 3)), (m_uj (m_uj (m_uj J 36 0 0) 36 1 0) 36 2 0))) (Nat.le_of_ble_eq_true rfl) rfl ?_
        refine c_las 3 4 (Nat.le_of_ble_eq_true rfl) rfl rfl rfl rfl rfl (by decide) ?_
        show m_W 54 58 [(2, .int 3), (0, .ref 1), (1, .int (nI i))] [] ((m_ui (m_ui I 1 7 (nI i)) 1 9 ((k_sh 1 (I, J)).1 0 3)), (m_uj (m_uj (m_uj (m_uj J 36 0 0) 36 1 0) 36 2 0) 36 3 0)) _
        refine c_run 4 (pc' := 48) (ls' := [(2, .int 4), (0, .ref 1), (1, .int (nI i))]) (st' := [.int 4, .int 4]) (μ' := ((m_ui (m_ui I 1 7 (nI i)) 1 9 ((k_sh 1 (I, J)).1 0 3)), (m_uj (m_uj (m_uj (m_uj J 36 0 0) 36 1 0) 36 2 0) 36 3 0))) (Nat.le_of_ble_eq_true rfl) rfl ?_
        refine c_icge 64 (Nat.le_of_ble_eq_true rfl) rfl rfl (fun h8 => ?_) (fun h8 => absurd (by decide) h8)
        refine c_run 2 (pc' := 68) (ls' := [(2, .int 4), (0, .ref 1), (1, .int (nI i))]) (st' := [.int ((k_sh 1 (I, J)).1 0 3)]) (μ' := ((m_ui (m_ui I 1 7 (nI i)) 1 9 ((k_sh 1 (I, J)).1 0 3)), (m_uj (m_uj (m_uj (m_uj J 36 0 0) 36 1 0) 36 2 0) 36 3 0))) (Nat.le_of_ble_eq_true rfl) rfl ?_
        refine c_ret (Nat.le_of_ble_eq_true rfl) rfl rfl ⟨by decide, rfl⟩ ?_
        refine ⟨?_, ?_, ?_⟩
        · first | rfl | (simp only [k_begin, if_pos h1, hcl, if_neg h2, if_neg h3]; done) | (simp only [k_begin, if_pos h1, hcl, if_neg h2, if_neg h3]; rfl) | (rw [k_ui 0 rfl rfl, k_ui 0 rfl rfl, k_uj 35 rfl rfl, k_uj 35 rfl rfl, k_uj 35 rfl rfl, k_uj 35 rfl rfl]; rfl) | (rw [k_ui 0 rfl rfl, k_ui 0 rfl rfl, k_uj 35 rfl rfl, k_uj 35 rfl rfl, k_uj 35 rfl rfl, k_uj 35 rfl rfl]; simp only [k_begin, if_pos h1, hcl, if_neg h2, if_neg h3]; done) | (rw [k_ui 0 rfl rfl, k_ui 0 rfl rfl, k_uj 35 rfl rfl, k_uj 35 rfl rfl, k_uj 35 rfl rfl, k_uj 35 rfl rfl]; simp only [k_begin, if_pos h1, hcl, if_neg h2, if_neg h3]; rfl)
        · rw [k_ui 0 rfl rfl, k_ui 0 rfl rfl, k_uj 35 rfl rfl, k_uj 35 rfl rfl, k_uj 35 rfl rfl, k_uj 35 rfl rfl]
          first | rfl | (simp only [k_begin, if_pos h1, hcl, if_neg h2, if_neg h3]; done) | (simp only [k_begin, if_pos h1, hcl, if_neg h2, if_neg h3]; rfl)
        · exact (((((((m_fr.rf).ui rfl rfl).ui rfl rfl).uj rfl rfl).uj rfl rfl).uj rfl rfl).uj rfl rfl)
      · skip
        refine c_run 1 (pc' := 30) (ls' := [(0, .ref 1), (1, .int (nI i))]) (st' := [.int (-2)]) (μ' := (I, J)) (Nat.le_of_ble_eq_true rfl) rfl ?_
        refine c_ret (Nat.le_of_ble_eq_true rfl) rfl rfl ⟨by decide, rfl⟩ ?_
        refine ⟨?_, ?_, ?_⟩
        · first | rfl | (simp only [k_begin, if_pos h1, hcl, if_neg h2, if_pos h3]; done) | (simp only [k_begin, if_pos h1, hcl, if_neg h2, if_pos h3]; rfl)
        · skip
          first | rfl | (simp only [k_begin, if_pos h1, hcl, if_neg h2, if_pos h3]; done) | (simp only [k_begin, if_pos h1, hcl, if_neg h2, if_pos h3]; rfl)
        · exact (m_fr.rf)
  · replace h1 := s01_0.mp h1
    refine c_run 1 (pc' := 12) (ls' := [(0, .ref 1), (1, .int e)]) (st' := [.int (-1)]) (μ' := (I, J)) (Nat.le_of_ble_eq_true rfl) rfl ?_
    refine c_ret (Nat.le_of_ble_eq_true rfl) rfl rfl ⟨by decide, rfl⟩ ?_
    refine ⟨?_, ?_, ?_⟩
    · first | rfl | (simp only [k_begin, if_neg h1]; done) | (simp only [k_begin, if_neg h1]; rfl)
    · skip
      first | rfl | (simp only [k_begin, if_neg h1]; done) | (simp only [k_begin, if_neg h1]; rfl)
    · exact (m_fr.rf)

set_option maxRecDepth 100000 in
theorem t1_grow (I : Nat → Nat → Int32) (J : Nat → Nat → Int64) (t : Nat) (ht : t < 4) (d : Int64) : m_W 85 0 (lv_args 0 [.ref 2, .int (nI t), .long d]) [] (I, J) (k_E 1 (I, J) none (k_grow (k_sh 1 (I, J)) t d)) := by
  show m_W 85 0 [(0, .ref 2), (1, .int (nI t)), (2, .long d)] [] (I, J) _
  refine c_run 7 (pc' := 13) (ls' := [(0, .ref 2), (1, .int (nI t)), (2, .long d)]) (st' := [.int (nI t), .ref 9, .long 1000000000000000, .int (nI t), .ref 9]) (μ' := (I, J)) (Nat.le_of_ble_eq_true rfl) rfl ?_
  refine c_lal t 4 (Nat.le_of_ble_eq_true rfl) rfl rfl rfl rfl rfl (by omega) ?_
  show m_W 85 14 [(0, .ref 2), (1, .int (nI t)), (2, .long d)] [.long ((k_sh 1 (I, J)).2 8 t), .long 1000000000000000, .int (nI t), .ref 9] (I, J) _
  refine c_run 4 (pc' := 18) (ls' := [(0, .ref 2), (1, .int (nI t)), (2, .long d)]) (st' := [.long (((k_sh 1 (I, J)).2 8 t) + (d * d)), .long 1000000000000000, .int (nI t), .ref 9]) (μ' := (I, J)) (Nat.le_of_ble_eq_true rfl) rfl ?_
  refine c_cs 161 [.long 1000000000000000, .long (((k_sh 1 (I, J)).2 8 t) + (d * d))] (r := [.int (nI t), .ref 9]) (Nat.le_of_ble_eq_true rfl) rfl (Or.inl rfl) rfl rfl rfl (t_minl I J 1000000000000000 (((k_sh 1 (I, J)).2 8 t) + (d * d))) ?_
  rintro _ _ ⟨rfl, rfl⟩
  show m_W 85 21 [(0, .ref 2), (1, .int (nI t)), (2, .long d)] [.long (if (((k_sh 1 (I, J)).2 8 t) + (d * d)) < 1000000000000000 then (((k_sh 1 (I, J)).2 8 t) + (d * d)) else 1000000000000000), .int (nI t), .ref 9] (I, J) _
  refine c_las t 4 (Nat.le_of_ble_eq_true rfl) rfl rfl rfl rfl rfl (by omega) ?_
  show m_W 85 22 [(0, .ref 2), (1, .int (nI t)), (2, .long d)] [] (I, (m_uj J 9 t (if (((k_sh 1 (I, J)).2 8 t) + (d * d)) < 1000000000000000 then (((k_sh 1 (I, J)).2 8 t) + (d * d)) else 1000000000000000))) _
  refine c_vret (Nat.le_of_ble_eq_true rfl) rfl rfl ?_
  refine ⟨?_, ?_, ?_⟩
  · exact rfl
  · rw [k_uj 8 rfl rfl]
    all_goals rfl
  · exact ((m_fr.rf).uj rfl rfl)

theorem k_lkf_0 (κ : k_M) (ms : Int32) : ∀ t, k_lkf κ ms 0 t = κ.2 5 t := fun t => if_neg (Nat.not_lt_zero t)
theorem k_lkf_s {κ : k_M} {ms : Int32} {i : Nat} : k_lkf κ ms (i + 1) i = k_lk1 κ ms i ∧ ∀ t, t ≠ i → k_lkf κ ms (i + 1) t = k_lkf κ ms i t := by
  refine ⟨if_pos (Nat.lt_succ_self i), fun t ht => ?_⟩
  unfold k_lkf
  by_cases h : t < i
  · rw [if_pos h, if_pos (by omega)]
  · rw [if_neg h, if_neg (by omega)]
set_option maxRecDepth 100000 in
theorem t1_leak_l (I : Nat → Nat → Int32) (J : Nat → Nat → Int64) (ms : Int32) (n : Nat) (hn : (k_sh 1 (I, J)).1 1 0 = nI n) (hn4 : n ≤ 4) : ∀ (r i : Nat), i + r = n → m_W 84 2 [(0, .ref 2), (1, .int ms), (2, .int (nI i))] [] (I, (m_cj J 6 (k_lkf (k_sh 1 (I, J)) ms i))) (k_E 1 (I, J) none (k_leak (k_sh 1 (I, J)) n ms)) := by
  intro r
  induction r with
  | zero =>
    intro i hir
    have hin : i = n := by omega
    subst hin
    refine c_run 3 (pc' := 7) (ls' := [(0, .ref 2), (1, .int ms), (2, .int (nI i))]) (st' := [.int ((k_sh 1 (I, J)).1 1 0), .int (nI i)]) (μ' := (I, (m_cj J 6 (k_lkf (k_sh 1 (I, J)) ms i)))) (Nat.le_of_ble_eq_true rfl) rfl ?_
    refine c_icge 43 (Nat.le_of_ble_eq_true rfl) rfl rfl (fun h1 => ?_) (fun h1 => absurd (by rw [hn]; exact nI_le (by omega) (by omega)) h1)
    refine c_vret (Nat.le_of_ble_eq_true rfl) rfl rfl ?_
    refine ⟨?_, ?_, ?_⟩
    · exact rfl
    · rw [k_cj 5 rfl rfl]
      all_goals rfl
    · exact ((m_fr.rf).cj rfl rfl)
  | succ r ih =>
    intro i hir
    refine c_run 3 (pc' := 7) (ls' := [(0, .ref 2), (1, .int ms), (2, .int (nI i))]) (st' := [.int ((k_sh 1 (I, J)).1 1 0), .int (nI i)]) (μ' := (I, (m_cj J 6 (k_lkf (k_sh 1 (I, J)) ms i)))) (Nat.le_of_ble_eq_true rfl) rfl ?_
    refine c_icge 43 (Nat.le_of_ble_eq_true rfl) rfl rfl (fun h1 => absurd h1 (by rw [hn]; exact nI_ge (by omega) (by omega))) (fun h1 => ?_)
    refine c_run 7 (pc' := 21) (ls' := [(0, .ref 2), (1, .int ms), (2, .int (nI i))]) (st' := [.int (nI i), .ref 6, .long 0, .int (nI i), .ref 6]) (μ' := (I, (m_cj J 6 (k_lkf (k_sh 1 (I, J)) ms i)))) (Nat.le_of_ble_eq_true rfl) rfl ?_
    refine c_lal i 4 (Nat.le_of_ble_eq_true rfl) rfl rfl rfl rfl rfl (by omega) ?_
    show m_W 84 22 [(0, .ref 2), (1, .int ms), (2, .int (nI i))] [.long ((k_lkf (k_sh 1 (I, J)) ms i) i), .long 0, .int (nI i), .ref 6] (I, (m_cj J 6 (k_lkf (k_sh 1 (I, J)) ms i))) _
    refine c_run 3 (pc' := 27) (ls' := [(0, .ref 2), (1, .int ms), (2, .int (nI i))]) (st' := [.int (nI i), .ref 5, .long ((k_lkf (k_sh 1 (I, J)) ms i) i), .long 0, .int (nI i), .ref 6]) (μ' := (I, (m_cj J 6 (k_lkf (k_sh 1 (I, J)) ms i)))) (Nat.le_of_ble_eq_true rfl) rfl ?_
    refine c_ial i 4 (Nat.le_of_ble_eq_true rfl) rfl rfl rfl rfl rfl (by omega) ?_
    show m_W 84 28 [(0, .ref 2), (1, .int ms), (2, .int (nI i))] [.int ((k_sh 1 (I, J)).1 4 i), .long ((k_lkf (k_sh 1 (I, J)) ms i) i), .long 0, .int (nI i), .ref 6] (I, (m_cj J 6 (k_lkf (k_sh 1 (I, J)) ms i))) _
    refine c_run 5 (pc' := 33) (ls' := [(0, .ref 2), (1, .int ms), (2, .int (nI i))]) (st' := [.long (((k_lkf (k_sh 1 (I, J)) ms i) i) - (((((k_sh 1 (I, J)).1 4 i) : Int32).toInt64) * ((ms : Int32).toInt64))), .long 0, .int (nI i), .ref 6]) (μ' := (I, (m_cj J 6 (k_lkf (k_sh 1 (I, J)) ms i)))) (Nat.le_of_ble_eq_true rfl) rfl ?_
    refine c_cs 159 [.long 0, .long (((k_lkf (k_sh 1 (I, J)) ms i) i) - (((((k_sh 1 (I, J)).1 4 i) : Int32).toInt64) * ((ms : Int32).toInt64)))] (r := [.int (nI i), .ref 6]) (Nat.le_of_ble_eq_true rfl) rfl (Or.inl rfl) rfl rfl rfl (t_max I (m_cj J 6 (k_lkf (k_sh 1 (I, J)) ms i)) 0 (((k_lkf (k_sh 1 (I, J)) ms i) i) - (((((k_sh 1 (I, J)).1 4 i) : Int32).toInt64) * ((ms : Int32).toInt64)))) ?_
    rintro _ _ ⟨rfl, rfl⟩
    show m_W 84 36 [(0, .ref 2), (1, .int ms), (2, .int (nI i))] [.long (if 0 < (((k_lkf (k_sh 1 (I, J)) ms i) i) - (((((k_sh 1 (I, J)).1 4 i) : Int32).toInt64) * ((ms : Int32).toInt64))) then (((k_lkf (k_sh 1 (I, J)) ms i) i) - (((((k_sh 1 (I, J)).1 4 i) : Int32).toInt64) * ((ms : Int32).toInt64))) else 0), .int (nI i), .ref 6] (I, (m_cj J 6 (k_lkf (k_sh 1 (I, J)) ms i))) _
    refine c_las i 4 (Nat.le_of_ble_eq_true rfl) rfl rfl rfl rfl rfl (by omega) ?_
    show m_W 84 37 [(0, .ref 2), (1, .int ms), (2, .int (nI i))] [] (I, (m_uj (m_cj J 6 (k_lkf (k_sh 1 (I, J)) ms i)) 6 i (if 0 < (((k_lkf (k_sh 1 (I, J)) ms i) i) - (((((k_sh 1 (I, J)).1 4 i) : Int32).toInt64) * ((ms : Int32).toInt64))) then (((k_lkf (k_sh 1 (I, J)) ms i) i) - (((((k_sh 1 (I, J)).1 4 i) : Int32).toInt64) * ((ms : Int32).toInt64))) else 0))) _
    refine c_run 2 (pc' := 2) (ls' := [(2, .int ((nI i) + (1 : Int32))), (0, .ref 2), (1, .int ms)]) (st' := []) (μ' := (I, (m_uj (m_cj J 6 (k_lkf (k_sh 1 (I, J)) ms i)) 6 i (if 0 < (((k_lkf (k_sh 1 (I, J)) ms i) i) - (((((k_sh 1 (I, J)).1 4 i) : Int32).toInt64) * ((ms : Int32).toInt64))) then (((k_lkf (k_sh 1 (I, J)) ms i) i) - (((((k_sh 1 (I, J)).1 4 i) : Int32).toInt64) * ((ms : Int32).toInt64))) else 0)))) (Nat.le_of_ble_eq_true rfl) rfl ?_
    refine c_w [1, 2, 0] (ls' := [(0, .ref 2), (1, .int ms), (2, .int ((nI i) + (1 : Int32)))]) rfl ?_
    rw [nI_1 i, m_cjs (g' := k_lkf (k_sh 1 (I, J)) ms (i + 1)) (by rw [k_lkf_s.1, k_lkf, if_neg (Nat.lt_irrefl i)]; rfl) k_lkf_s.2]
    exact ih (i + 1) (by omega)

set_option maxRecDepth 100000 in
theorem t1_leak (I : Nat → Nat → Int32) (J : Nat → Nat → Int64) (ms : Int32) (n : Nat) (hn : (k_sh 1 (I, J)).1 1 0 = nI n) (hn4 : n ≤ 4) : m_W 84 0 (lv_args 0 [.ref 2, .int ms]) [] (I, J) (k_E 1 (I, J) none (k_leak (k_sh 1 (I, J)) n ms)) := by
  show m_W 84 0 [(0, .ref 2), (1, .int ms)] [] (I, J) _
  refine c_run 2 (pc' := 2) (ls' := [(2, .int 0), (0, .ref 2), (1, .int ms)]) (st' := []) (μ' := (I, J)) (Nat.le_of_ble_eq_true rfl) rfl ?_
  refine c_w [1, 2, 0] (ls' := [(0, .ref 2), (1, .int ms), (2, .int 0)]) rfl ?_
  have h := t1_leak_l I J ms n hn hn4 n 0 (by omega)
  rw [m_cj0 (f := J) (a := 6) (k_lkf_0 (k_sh 1 (I, J)) ms)] at h
  exact h

set_option maxRecDepth 100000 in
theorem t38_find_l (I : Nat → Nat → Int32) (J : Nat → Nat → Int64) (x : Int32) (m : Nat) (hm : (k_sh 38 (I, J)).1 23 0 = nI m) (hm6 : m ≤ 6) : ∀ (r i : Nat), i + r = m → m_W 67 2 [(0, .ref 61), (1, .int x), (2, .int (nI i))] [] (I, J) (m_E (some (.int (k_fd ((k_sh 38 (I, J)).1 24) x i r))) (I, J)) := by
  intro r
  induction r with
  | zero =>
    intro i hir
    refine c_run 3 (pc' := 7) (ls' := [(0, .ref 61), (1, .int x), (2, .int (nI i))]) (st' := [.int ((k_sh 38 (I, J)).1 23 0), .int (nI i)]) (μ' := (I, J)) (Nat.le_of_ble_eq_true rfl) rfl ?_
    refine c_icge 34 (Nat.le_of_ble_eq_true rfl) rfl rfl (fun h1 => ?_) (fun h1 => absurd (by rw [hm]; exact nI_le (by omega) (by omega)) h1)
    refine c_run 1 (pc' := 36) (ls' := [(0, .ref 61), (1, .int x), (2, .int (nI i))]) (st' := [.int (-4)]) (μ' := (I, J)) (Nat.le_of_ble_eq_true rfl) rfl ?_
    refine c_ret (Nat.le_of_ble_eq_true rfl) rfl rfl ⟨by decide, rfl⟩ ?_
    exact ⟨rfl, rfl⟩
  | succ r ih =>
    intro i hir
    refine c_run 3 (pc' := 7) (ls' := [(0, .ref 61), (1, .int x), (2, .int (nI i))]) (st' := [.int ((k_sh 38 (I, J)).1 23 0), .int (nI i)]) (μ' := (I, J)) (Nat.le_of_ble_eq_true rfl) rfl ?_
    refine c_icge 34 (Nat.le_of_ble_eq_true rfl) rfl rfl (fun h1 => absurd h1 (by rw [hm]; exact nI_ge (by omega) (by omega))) (fun h1 => ?_)
    refine c_run 2 (pc' := 13) (ls' := [(0, .ref 61), (1, .int x), (2, .int (nI i))]) (st' := [.int 6, .int (nI i)]) (μ' := (I, J)) (Nat.le_of_ble_eq_true rfl) rfl ?_
    refine c_icge 34 (Nat.le_of_ble_eq_true rfl) rfl rfl (fun h2 => absurd h2 (show ¬ nI 6 ≤ nI i from nI_ge (by omega) (by omega))) (fun h2 => ?_)
    refine c_run 3 (pc' := 21) (ls' := [(0, .ref 61), (1, .int x), (2, .int (nI i))]) (st' := [.int (nI i), .ref 62]) (μ' := (I, J)) (Nat.le_of_ble_eq_true rfl) rfl ?_
    refine c_ial i 6 (Nat.le_of_ble_eq_true rfl) rfl rfl rfl rfl rfl (by omega) ?_
    show m_W 67 22 [(0, .ref 61), (1, .int x), (2, .int (nI i))] [.int ((k_sh 38 (I, J)).1 24 i)] (I, J) _
    refine c_run 1 (pc' := 23) (ls' := [(0, .ref 61), (1, .int x), (2, .int (nI i))]) (st' := [.int x, .int ((k_sh 38 (I, J)).1 24 i)]) (μ' := (I, J)) (Nat.le_of_ble_eq_true rfl) rfl ?_
    refine c_icne 28 (Nat.le_of_ble_eq_true rfl) rfl rfl (fun h3 => ?_) (fun h3 => ?_)
    · skip
      refine c_run 2 (pc' := 2) (ls' := [(2, .int ((nI i) + (1 : Int32))), (0, .ref 61), (1, .int x)]) (st' := []) (μ' := (I, J)) (Nat.le_of_ble_eq_true rfl) rfl ?_
      refine c_w [1, 2, 0] (ls' := [(0, .ref 61), (1, .int x), (2, .int ((nI i) + (1 : Int32)))]) rfl ?_
      rw [nI_1 i, k_fd, if_neg (by assumption)]
      exact ih (i + 1) (by omega)
    · skip
      refine c_run 1 (pc' := 27) (ls' := [(0, .ref 61), (1, .int x), (2, .int (nI i))]) (st' := [.int (nI i)]) (μ' := (I, J)) (Nat.le_of_ble_eq_true rfl) rfl ?_
      refine c_ret (Nat.le_of_ble_eq_true rfl) rfl rfl ⟨by decide, rfl⟩ ?_
      refine ⟨?_, rfl⟩
      rw [k_fd, if_pos (by assumption)]

set_option maxRecDepth 100000 in
theorem t38_find (I : Nat → Nat → Int32) (J : Nat → Nat → Int64) (x : Int32) (m : Nat) (hm : (k_sh 38 (I, J)).1 23 0 = nI m) (hm6 : m ≤ 6) : m_W 67 0 (lv_args 0 [.ref 61, .int x]) [] (I, J) (m_E (some (.int (k_fd ((k_sh 38 (I, J)).1 24) x 0 m))) (I, J)) := by
  show m_W 67 0 [(0, .ref 61), (1, .int x)] [] (I, J) _
  refine c_run 2 (pc' := 2) (ls' := [(2, .int 0), (0, .ref 61), (1, .int x)]) (st' := []) (μ' := (I, J)) (Nat.le_of_ble_eq_true rfl) rfl ?_
  refine c_w [1, 2, 0] (ls' := [(0, .ref 61), (1, .int x), (2, .int 0)]) rfl ?_
  exact t38_find_l I J x m hm hm6 m 0 (by omega)

set_option maxRecDepth 100000 in
theorem t38_valve (I : Nat → Nat → Int32) (J : Nat → Nat → Int64) (e t o : Int32) (m : Nat) (hm : (k_sh 38 (I, J)).1 23 0 = nI m) (hm6 : m ≤ 6) : m_W 53 0 (lv_args 0 [.ref 38, .int e, .int t, .int o]) [] (I, J) (k_E 38 (I, J) (some (.int (k_valve (k_sh 38 (I, J)) e t o).1)) (k_valve (k_sh 38 (I, J)) e t o).2) := by
  show m_W 53 0 [(0, .ref 38), (1, .int e), (2, .int t), (3, .int o)] [] (I, J) _
  refine c_run 3 (pc' := 5) (ls' := [(0, .ref 38), (1, .int e), (2, .int t), (3, .int o)]) (st' := [.int e, .ref 61]) (μ' := (I, J)) (Nat.le_of_ble_eq_true rfl) rfl ?_
  refine c_cv 66 [.int e] (b := 61) (r := []) (Nat.le_of_ble_eq_true rfl) rfl rfl rfl rfl rfl rfl (t38_hasE I J e) ?_
  rintro _ _ ⟨rfl, rfl⟩
  show m_W 53 8 [(0, .ref 38), (1, .int e), (2, .int t), (3, .int o)] [.int (s01 (k_hasE (k_sh 38 (I, J)) e))] (I, J) _
  refine c_ifeq 31 (Nat.le_of_ble_eq_true rfl) rfl rfl (fun h1 => ?_) (fun h1 => ?_)
  · replace h1 := s01_0.mp h1
    refine c_run 1 (pc' := 32) (ls' := [(0, .ref 38), (1, .int e), (2, .int t), (3, .int o)]) (st' := [.int (-1)]) (μ' := (I, J)) (Nat.le_of_ble_eq_true rfl) rfl ?_
    refine c_ret (Nat.le_of_ble_eq_true rfl) rfl rfl ⟨by decide, rfl⟩ ?_
    refine ⟨?_, ?_, ?_⟩
    · first | rfl | (simp only [k_valve, if_neg h1]; done) | (simp only [k_valve, if_neg h1]; rfl)
    · skip
      first | rfl | (simp only [k_valve, if_neg h1]; done) | (simp only [k_valve, if_neg h1]; rfl)
    · exact (m_fr.rf)
  · replace h1 := s01_1.mp h1
    refine c_run 3 (pc' := 16) (ls' := [(0, .ref 38), (1, .int e), (2, .int t), (3, .int o)]) (st' := [.int t, .ref 39]) (μ' := (I, J)) (Nat.le_of_ble_eq_true rfl) rfl ?_
    refine c_cv 80 [.int t] (b := 39) (r := []) (Nat.le_of_ble_eq_true rfl) rfl rfl rfl rfl rfl rfl (t38_hasT I J t) ?_
    rintro _ _ ⟨rfl, rfl⟩
    show m_W 53 19 [(0, .ref 38), (1, .int e), (2, .int t), (3, .int o)] [.int (s01 (k_hasT (k_sh 38 (I, J)) t))] (I, J) _
    refine c_ifeq 31 (Nat.le_of_ble_eq_true rfl) rfl rfl (fun h2 => ?_) (fun h2 => ?_)
    · replace h2 := s01_0.mp h2
      refine c_run 1 (pc' := 32) (ls' := [(0, .ref 38), (1, .int e), (2, .int t), (3, .int o)]) (st' := [.int (-1)]) (μ' := (I, J)) (Nat.le_of_ble_eq_true rfl) rfl ?_
      refine c_ret (Nat.le_of_ble_eq_true rfl) rfl rfl ⟨by decide, rfl⟩ ?_
      refine ⟨?_, ?_, ?_⟩
      · first | rfl | (simp only [k_valve, if_pos h1, if_neg h2]; done) | (simp only [k_valve, if_pos h1, if_neg h2]; rfl)
      · skip
        first | rfl | (simp only [k_valve, if_pos h1, if_neg h2]; done) | (simp only [k_valve, if_pos h1, if_neg h2]; rfl)
      · exact (m_fr.rf)
    · replace h2 := s01_1.mp h2
      refine c_run 3 (pc' := 25) (ls' := [(0, .ref 38), (1, .int e), (2, .int t), (3, .int o)]) (st' := [.int 1, .int 0, .int o]) (μ' := (I, J)) (Nat.le_of_ble_eq_true rfl) rfl ?_
      refine c_cs 35 [.int o, .int 0, .int 1] (r := []) (Nat.le_of_ble_eq_true rfl) rfl (Or.inr ⟨rfl, rfl⟩) rfl rfl rfl (t_isWithin I J o 0 1) ?_
      rintro _ _ ⟨rfl, rfl⟩
      show m_W 53 28 [(0, .ref 38), (1, .int e), (2, .int t), (3, .int o)] [.int (s01 ((0 : Int32) ≤ o ∧ o ≤ (1 : Int32)))] (I, J) _
      refine c_ifne 33 (Nat.le_of_ble_eq_true rfl) rfl rfl (fun h3 => ?_) (fun h3 => ?_)
      · replace h3 := s01_1.mp h3
        refine c_run 3 (pc' := 38) (ls' := [(0, .ref 38), (1, .int e), (2, .int t), (3, .int o)]) (st' := [.int ((k_sh 38 (I, J)).1 0 7), .int e]) (μ' := (I, J)) (Nat.le_of_ble_eq_true rfl) rfl ?_
        obtain ⟨i, hi, rfl⟩ : ∃ i, i < m ∧ e = nI i := k_ix (by rw [← hm]; assumption) (by omega)
        have hcl : (nI i).toNatClampNeg = i := nI_clamp (by omega)
        refine c_icne 44 (Nat.le_of_ble_eq_true rfl) rfl rfl (fun h4 => ?_) (fun h4 => ?_)
        · skip
          refine c_run 10 (pc' := 59) (ls' := [(4, .int ((1 : Int32) <<< (t &&& 31))), (0, .ref 38), (1, .int (nI i)), (2, .int t), (3, .int o)]) (st' := [.int 1, .int o, .int (nI i), .ref 65]) (μ' := (I, J)) (Nat.le_of_ble_eq_true rfl) rfl ?_
          refine c_icne 77 (Nat.le_of_ble_eq_true rfl) rfl rfl (fun h5 => ?_) (fun h5 => ?_)
          · skip
            refine c_run 4 (pc' := 85) (ls' := [(4, .int ((1 : Int32) <<< (t &&& 31))), (0, .ref 38), (1, .int (nI i)), (2, .int t), (3, .int o)]) (st' := [.int (nI i), .ref 65, .int (nI i), .ref 65]) (μ' := (I, J)) (Nat.le_of_ble_eq_true rfl) rfl ?_
            refine c_ial i 6 (Nat.le_of_ble_eq_true rfl) rfl rfl rfl rfl rfl (by omega) ?_
            show m_W 53 86 [(4, .int ((1 : Int32) <<< (t &&& 31))), (0, .ref 38), (1, .int (nI i)), (2, .int t), (3, .int o)] [.int ((k_sh 38 (I, J)).1 27 i), .int (nI i), .ref 65] (I, J) _
            refine c_run 4 (pc' := 91) (ls' := [(4, .int ((1 : Int32) <<< (t &&& 31))), (0, .ref 38), (1, .int (nI i)), (2, .int t), (3, .int o)]) (st' := [.int (((k_sh 38 (I, J)).1 27 i) &&& (((1 : Int32) <<< (t &&& 31)) ^^^ (-1 : Int32))), .int (nI i), .ref 65]) (μ' := (I, J)) (Nat.le_of_ble_eq_true rfl) rfl ?_
            refine c_ias i 6 (Nat.le_of_ble_eq_true rfl) rfl rfl rfl rfl rfl (by omega) ?_
            show m_W 53 92 [(4, .int ((1 : Int32) <<< (t &&& 31))), (0, .ref 38), (1, .int (nI i)), (2, .int t), (3, .int o)] [] ((m_ui I 65 i (((k_sh 38 (I, J)).1 27 i) &&& (((1 : Int32) <<< (t &&& 31)) ^^^ (-1 : Int32)))), J) _
            refine c_run 2 (pc' := 94) (ls' := [(4, .int ((1 : Int32) <<< (t &&& 31))), (0, .ref 38), (1, .int (nI i)), (2, .int t), (3, .int o)]) (st' := [.int (nI i), .ref 38]) (μ' := ((m_ui I 65 i (((k_sh 38 (I, J)).1 27 i) &&& (((1 : Int32) <<< (t &&& 31)) ^^^ (-1 : Int32)))), J)) (Nat.le_of_ble_eq_true rfl) rfl ?_
            refine c_cv 52 [.int (nI i)] (b := 38) (r := []) (Nat.le_of_ble_eq_true rfl) rfl rfl rfl rfl rfl rfl (t38_open (m_ui I 65 i (((k_sh 38 (I, J)).1 27 i) &&& (((1 : Int32) <<< (t &&& 31)) ^^^ (-1 : Int32)))) J i (by omega)) ?_
            rintro _ _ ⟨rfl, rfl⟩
            show m_W 53 97 [(4, .int ((1 : Int32) <<< (t &&& 31))), (0, .ref 38), (1, .int (nI i)), (2, .int t), (3, .int o)] [.int (k_open (k_sh 38 ((m_ui I 65 i (((k_sh 38 (I, J)).1 27 i) &&& (((1 : Int32) <<< (t &&& 31)) ^^^ (-1 : Int32)))), J)) i)] ((m_ui I 65 i (((k_sh 38 (I, J)).1 27 i) &&& (((1 : Int32) <<< (t &&& 31)) ^^^ (-1 : Int32)))), J) _
            refine c_ret (Nat.le_of_ble_eq_true rfl) rfl rfl ⟨by decide, rfl⟩ ?_
            refine ⟨?_, ?_, ?_⟩
            · first | rfl | (simp only [k_valve, if_pos h1, if_pos h2, if_pos h3, hcl, if_neg h4, if_neg h5]; done) | (simp only [k_valve, if_pos h1, if_pos h2, if_pos h3, hcl, if_neg h4, if_neg h5]; rfl) | (rw [k_ui 27 rfl rfl]; rfl) | (rw [k_ui 27 rfl rfl]; simp only [k_valve, if_pos h1, if_pos h2, if_pos h3, hcl, if_neg h4, if_neg h5]; done) | (rw [k_ui 27 rfl rfl]; simp only [k_valve, if_pos h1, if_pos h2, if_pos h3, hcl, if_neg h4, if_neg h5]; rfl)
            · rw [k_ui 27 rfl rfl]
              first | rfl | (simp only [k_valve, if_pos h1, if_pos h2, if_pos h3, hcl, if_neg h4, if_neg h5]; done) | (simp only [k_valve, if_pos h1, if_pos h2, if_pos h3, hcl, if_neg h4, if_neg h5]; rfl)
            · exact ((m_fr.rf).ui rfl rfl)
          · skip
            refine c_run 4 (pc' := 70) (ls' := [(4, .int ((1 : Int32) <<< (t &&& 31))), (0, .ref 38), (1, .int (nI i)), (2, .int t), (3, .int o)]) (st' := [.int (nI i), .ref 65, .int (nI i), .ref 65]) (μ' := (I, J)) (Nat.le_of_ble_eq_true rfl) rfl ?_
            refine c_ial i 6 (Nat.le_of_ble_eq_true rfl) rfl rfl rfl rfl rfl (by omega) ?_
            show m_W 53 71 [(4, .int ((1 : Int32) <<< (t &&& 31))), (0, .ref 38), (1, .int (nI i)), (2, .int t), (3, .int o)] [.int ((k_sh 38 (I, J)).1 27 i), .int (nI i), .ref 65] (I, J) _
            refine c_run 3 (pc' := 91) (ls' := [(4, .int ((1 : Int32) <<< (t &&& 31))), (0, .ref 38), (1, .int (nI i)), (2, .int t), (3, .int o)]) (st' := [.int (((k_sh 38 (I, J)).1 27 i) ||| ((1 : Int32) <<< (t &&& 31))), .int (nI i), .ref 65]) (μ' := (I, J)) (Nat.le_of_ble_eq_true rfl) rfl ?_
            refine c_ias i 6 (Nat.le_of_ble_eq_true rfl) rfl rfl rfl rfl rfl (by omega) ?_
            show m_W 53 92 [(4, .int ((1 : Int32) <<< (t &&& 31))), (0, .ref 38), (1, .int (nI i)), (2, .int t), (3, .int o)] [] ((m_ui I 65 i (((k_sh 38 (I, J)).1 27 i) ||| ((1 : Int32) <<< (t &&& 31)))), J) _
            refine c_run 2 (pc' := 94) (ls' := [(4, .int ((1 : Int32) <<< (t &&& 31))), (0, .ref 38), (1, .int (nI i)), (2, .int t), (3, .int o)]) (st' := [.int (nI i), .ref 38]) (μ' := ((m_ui I 65 i (((k_sh 38 (I, J)).1 27 i) ||| ((1 : Int32) <<< (t &&& 31)))), J)) (Nat.le_of_ble_eq_true rfl) rfl ?_
            refine c_cv 52 [.int (nI i)] (b := 38) (r := []) (Nat.le_of_ble_eq_true rfl) rfl rfl rfl rfl rfl rfl (t38_open (m_ui I 65 i (((k_sh 38 (I, J)).1 27 i) ||| ((1 : Int32) <<< (t &&& 31)))) J i (by omega)) ?_
            rintro _ _ ⟨rfl, rfl⟩
            show m_W 53 97 [(4, .int ((1 : Int32) <<< (t &&& 31))), (0, .ref 38), (1, .int (nI i)), (2, .int t), (3, .int o)] [.int (k_open (k_sh 38 ((m_ui I 65 i (((k_sh 38 (I, J)).1 27 i) ||| ((1 : Int32) <<< (t &&& 31)))), J)) i)] ((m_ui I 65 i (((k_sh 38 (I, J)).1 27 i) ||| ((1 : Int32) <<< (t &&& 31)))), J) _
            refine c_ret (Nat.le_of_ble_eq_true rfl) rfl rfl ⟨by decide, rfl⟩ ?_
            refine ⟨?_, ?_, ?_⟩
            · first | rfl | (simp only [k_valve, if_pos h1, if_pos h2, if_pos h3, hcl, if_neg h4, if_pos h5]; done) | (simp only [k_valve, if_pos h1, if_pos h2, if_pos h3, hcl, if_neg h4, if_pos h5]; rfl) | (rw [k_ui 27 rfl rfl]; rfl) | (rw [k_ui 27 rfl rfl]; simp only [k_valve, if_pos h1, if_pos h2, if_pos h3, hcl, if_neg h4, if_pos h5]; done) | (rw [k_ui 27 rfl rfl]; simp only [k_valve, if_pos h1, if_pos h2, if_pos h3, hcl, if_neg h4, if_pos h5]; rfl)
            · rw [k_ui 27 rfl rfl]
              first | rfl | (simp only [k_valve, if_pos h1, if_pos h2, if_pos h3, hcl, if_neg h4, if_pos h5]; done) | (simp only [k_valve, if_pos h1, if_pos h2, if_pos h3, hcl, if_neg h4, if_pos h5]; rfl)
            · exact ((m_fr.rf).ui rfl rfl)
        · skip
          refine c_run 1 (pc' := 43) (ls' := [(0, .ref 38), (1, .int (nI i)), (2, .int t), (3, .int o)]) (st' := [.int (-2)]) (μ' := (I, J)) (Nat.le_of_ble_eq_true rfl) rfl ?_
          refine c_ret (Nat.le_of_ble_eq_true rfl) rfl rfl ⟨by decide, rfl⟩ ?_
          refine ⟨?_, ?_, ?_⟩
          · first | rfl | (simp only [k_valve, if_pos h1, if_pos h2, if_pos h3, hcl, if_pos h4]; done) | (simp only [k_valve, if_pos h1, if_pos h2, if_pos h3, hcl, if_pos h4]; rfl)
          · skip
            first | rfl | (simp only [k_valve, if_pos h1, if_pos h2, if_pos h3, hcl, if_pos h4]; done) | (simp only [k_valve, if_pos h1, if_pos h2, if_pos h3, hcl, if_pos h4]; rfl)
          · exact (m_fr.rf)
      · replace h3 := s01_0.mp h3
        refine c_run 1 (pc' := 32) (ls' := [(0, .ref 38), (1, .int e), (2, .int t), (3, .int o)]) (st' := [.int (-1)]) (μ' := (I, J)) (Nat.le_of_ble_eq_true rfl) rfl ?_
        refine c_ret (Nat.le_of_ble_eq_true rfl) rfl rfl ⟨by decide, rfl⟩ ?_
        refine ⟨?_, ?_, ?_⟩
        · first | rfl | (simp only [k_valve, if_pos h1, if_pos h2, if_neg h3]; done) | (simp only [k_valve, if_pos h1, if_pos h2, if_neg h3]; rfl)
        · skip
          first | rfl | (simp only [k_valve, if_pos h1, if_pos h2, if_neg h3]; done) | (simp only [k_valve, if_pos h1, if_pos h2, if_neg h3]; rfl)
        · exact (m_fr.rf)

set_option maxRecDepth 100000 in
theorem t38_begin (I : Nat → Nat → Int32) (J : Nat → Nat → Int64) (e : Int32) (m : Nat) (hm : (k_sh 38 (I, J)).1 23 0 = nI m) (hm6 : m ≤ 6) : m_W 54 0 (lv_args 0 [.ref 38, .int e]) [] (I, J) (k_E 38 (I, J) (some (.int (k_begin (k_sh 38 (I, J)) e).1)) (k_begin (k_sh 38 (I, J)) e).2) := by
  show m_W 54 0 [(0, .ref 38), (1, .int e)] [] (I, J) _
  refine c_run 3 (pc' := 5) (ls' := [(0, .ref 38), (1, .int e)]) (st' := [.int e, .ref 61]) (μ' := (I, J)) (Nat.le_of_ble_eq_true rfl) rfl ?_
  refine c_cv 66 [.int e] (b := 61) (r := []) (Nat.le_of_ble_eq_true rfl) rfl rfl rfl rfl rfl rfl (t38_hasE I J e) ?_
  rintro _ _ ⟨rfl, rfl⟩
  show m_W 54 8 [(0, .ref 38), (1, .int e)] [.int (s01 (k_hasE (k_sh 38 (I, J)) e))] (I, J) _
  refine c_ifne 13 (Nat.le_of_ble_eq_true rfl) rfl rfl (fun h1 => ?_) (fun h1 => ?_)
  · replace h1 := s01_1.mp h1
    refine c_run 1 (pc' := 14) (ls' := [(0, .ref 38), (1, .int e)]) (st' := [.ref 38]) (μ' := (I, J)) (Nat.le_of_ble_eq_true rfl) rfl ?_
    refine c_cv 49 [] (b := 38) (r := []) (Nat.le_of_ble_eq_true rfl) rfl rfl rfl rfl rfl rfl (t38_isB I J) ?_
    rintro _ _ ⟨rfl, rfl⟩
    show m_W 54 17 [(0, .ref 38), (1, .int e)] [.int (s01 (k_isB (k_sh 38 (I, J))))] (I, J) _
    obtain ⟨i, hi, rfl⟩ : ∃ i, i < m ∧ e = nI i := k_ix (by rw [← hm]; assumption) (by omega)
    have hcl : (nI i).toNatClampNeg = i := nI_clamp (by omega)
    refine c_ifne 28 (Nat.le_of_ble_eq_true rfl) rfl rfl (fun h2 => ?_) (fun h2 => ?_)
    · replace h2 := s01_1.mp h2
      refine c_run 1 (pc' := 30) (ls' := [(0, .ref 38), (1, .int (nI i))]) (st' := [.int (-2)]) (μ' := (I, J)) (Nat.le_of_ble_eq_true rfl) rfl ?_
      refine c_ret (Nat.le_of_ble_eq_true rfl) rfl rfl ⟨by decide, rfl⟩ ?_
      refine ⟨?_, ?_, ?_⟩
      · first | rfl | (simp only [k_begin, if_pos h1, hcl, if_pos h2]; done) | (simp only [k_begin, if_pos h1, hcl, if_pos h2]; rfl)
      · skip
        first | rfl | (simp only [k_begin, if_pos h1, hcl, if_pos h2]; done) | (simp only [k_begin, if_pos h1, hcl, if_pos h2]; rfl)
      · exact (m_fr.rf)
    · replace h2 := s01_0.mp h2
      refine c_run 2 (pc' := 22) (ls' := [(0, .ref 38), (1, .int (nI i))]) (st' := [.int (nI i), .ref 38]) (μ' := (I, J)) (Nat.le_of_ble_eq_true rfl) rfl ?_
      refine c_cv 52 [.int (nI i)] (b := 38) (r := []) (Nat.le_of_ble_eq_true rfl) rfl rfl rfl rfl rfl rfl (t38_open I J i (by omega)) ?_
      rintro _ _ ⟨rfl, rfl⟩
      show m_W 54 25 [(0, .ref 38), (1, .int (nI i))] [.int (k_open (k_sh 38 (I, J)) i)] (I, J) _
      refine c_ifne 31 (Nat.le_of_ble_eq_true rfl) rfl rfl (fun h3 => ?_) (fun h3 => ?_)
      · skip
        refine c_run 11 (pc' := 48) (ls' := [(2, .int 0), (0, .ref 38), (1, .int (nI i))]) (st' := [.int 4, .int 0]) (μ' := ((m_ui (m_ui I 38 7 (nI i)) 38 9 ((k_sh 38 (I, J)).1 0 3)), J)) (Nat.le_of_ble_eq_true rfl) rfl ?_
        refine c_icge 64 (Nat.le_of_ble_eq_true rfl) rfl rfl (fun h4 => absurd h4 (by decide)) (fun h4 => ?_)
        refine c_run 4 (pc' := 57) (ls' := [(2, .int 0), (0, .ref 38), (1, .int (nI i))]) (st' := [.long 0, .int 0, .ref 73]) (μ' := ((m_ui (m_ui I 38 7 (nI i)) 38 9 ((k_sh 38 (I, J)).1 0 3)), J)) (Nat.le_of_ble_eq_true rfl) rfl ?_
        refine c_las 0 4 (Nat.le_of_ble_eq_true rfl) rfl rfl rfl rfl rfl (by decide) ?_
        show m_W 54 58 [(2, .int 0), (0, .ref 38), (1, .int (nI i))] [] ((m_ui (m_ui I 38 7 (nI i)) 38 9 ((k_sh 38 (I, J)).1 0 3)), (m_uj J 73 0 0)) _
        refine c_run 4 (pc' := 48) (ls' := [(2, .int 1), (0, .ref 38), (1, .int (nI i))]) (st' := [.int 4, .int 1]) (μ' := ((m_ui (m_ui I 38 7 (nI i)) 38 9 ((k_sh 38 (I, J)).1 0 3)), (m_uj J 73 0 0))) (Nat.le_of_ble_eq_true rfl) rfl ?_
        refine c_icge 64 (Nat.le_of_ble_eq_true rfl) rfl rfl (fun h5 => absurd h5 (by decide)) (fun h5 => ?_)
        refine c_run 4 (pc' := 57) (ls' := [(2, .int 1), (0, .ref 38), (1, .int (nI i))]) (st' := [.long 0, .int 1, .ref 73]) (μ' := ((m_ui (m_ui I 38 7 (nI i)) 38 9 ((k_sh 38 (I, J)).1 0 3)), (m_uj J 73 0 0))) (Nat.le_of_ble_eq_true rfl) rfl ?_
        refine c_las 1 4 (Nat.le_of_ble_eq_true rfl) rfl rfl rfl rfl rfl (by decide) ?_
        show m_W 54 58 [(2, .int 1), (0, .ref 38), (1, .int (nI i))] [] ((m_ui (m_ui I 38 7 (nI i)) 38 9 ((k_sh 38 (I, J)).1 0 3)), (m_uj (m_uj J 73 0 0) 73 1 0)) _
        refine c_run 4 (pc' := 48) (ls' := [(2, .int 2), (0, .ref 38), (1, .int (nI i))]) (st' := [.int 4, .int 2]) (μ' := ((m_ui (m_ui I 38 7 (nI i)) 38 9 ((k_sh 38 (I, J)).1 0 3)), (m_uj (m_uj J 73 0 0) 73 1 0))) (Nat.le_of_ble_eq_true rfl) rfl ?_
        refine c_icge 64 (Nat.le_of_ble_eq_true rfl) rfl rfl (fun h6 => absurd h6 (by decide)) (fun h6 => ?_)
        refine c_run 4 (pc' := 57) (ls' := [(2, .int 2), (0, .ref 38), (1, .int (nI i))]) (st' := [.long 0, .int 2, .ref 73]) (μ' := ((m_ui (m_ui I 38 7 (nI i)) 38 9 ((k_sh 38 (I, J)).1 0 3)), (m_uj (m_uj J 73 0 0) 73 1 0))) (Nat.le_of_ble_eq_true rfl) rfl ?_
        refine c_las 2 4 (Nat.le_of_ble_eq_true rfl) rfl rfl rfl rfl rfl (by decide) ?_
        show m_W 54 58 [(2, .int 2), (0, .ref 38), (1, .int (nI i))] [] ((m_ui (m_ui I 38 7 (nI i)) 38 9 ((k_sh 38 (I, J)).1 0 3)), (m_uj (m_uj (m_uj J 73 0 0) 73 1 0) 73 2 0)) _
        refine c_run 4 (pc' := 48) (ls' := [(2, .int 3), (0, .ref 38), (1, .int (nI i))]) (st' := [.int 4, .int 3]) (μ' := ((m_ui (m_ui I 38 7 (nI i)) 38 9 ((k_sh 38 (I, J)).1 0 3)), (m_uj (m_uj (m_uj J 73 0 0) 73 1 0) 73 2 0))) (Nat.le_of_ble_eq_true rfl) rfl ?_
        refine c_icge 64 (Nat.le_of_ble_eq_true rfl) rfl rfl (fun h7 => absurd h7 (by decide)) (fun h7 => ?_)
        refine c_run 4 (pc' := 57) (ls' := [(2, .int 3), (0, .ref 38), (1, .int (nI i))]) (st' := [.long 0, .int 3, .ref 73]) (μ' := ((m_ui (m_ui I 38 7 (nI i)) 38 9 ((k_sh 38 (I, J)).1 0 3)), (m_uj (m_uj (m_uj J 73 0 0) 73 1 0) 73 2 0))) (Nat.le_of_ble_eq_true rfl) rfl ?_
        refine c_las 3 4 (Nat.le_of_ble_eq_true rfl) rfl rfl rfl rfl rfl (by decide) ?_
        show m_W 54 58 [(2, .int 3), (0, .ref 38), (1, .int (nI i))] [] ((m_ui (m_ui I 38 7 (nI i)) 38 9 ((k_sh 38 (I, J)).1 0 3)), (m_uj (m_uj (m_uj (m_uj J 73 0 0) 73 1 0) 73 2 0) 73 3 0)) _
        refine c_run 4 (pc' := 48) (ls' := [(2, .int 4), (0, .ref 38), (1, .int (nI i))]) (st' := [.int 4, .int 4]) (μ' := ((m_ui (m_ui I 38 7 (nI i)) 38 9 ((k_sh 38 (I, J)).1 0 3)), (m_uj (m_uj (m_uj (m_uj J 73 0 0) 73 1 0) 73 2 0) 73 3 0))) (Nat.le_of_ble_eq_true rfl) rfl ?_
        refine c_icge 64 (Nat.le_of_ble_eq_true rfl) rfl rfl (fun h8 => ?_) (fun h8 => absurd (by decide) h8)
        refine c_run 2 (pc' := 68) (ls' := [(2, .int 4), (0, .ref 38), (1, .int (nI i))]) (st' := [.int ((k_sh 38 (I, J)).1 0 3)]) (μ' := ((m_ui (m_ui I 38 7 (nI i)) 38 9 ((k_sh 38 (I, J)).1 0 3)), (m_uj (m_uj (m_uj (m_uj J 73 0 0) 73 1 0) 73 2 0) 73 3 0))) (Nat.le_of_ble_eq_true rfl) rfl ?_
        refine c_ret (Nat.le_of_ble_eq_true rfl) rfl rfl ⟨by decide, rfl⟩ ?_
        refine ⟨?_, ?_, ?_⟩
        · first | rfl | (simp only [k_begin, if_pos h1, hcl, if_neg h2, if_neg h3]; done) | (simp only [k_begin, if_pos h1, hcl, if_neg h2, if_neg h3]; rfl) | (rw [k_ui 0 rfl rfl, k_ui 0 rfl rfl, k_uj 35 rfl rfl, k_uj 35 rfl rfl, k_uj 35 rfl rfl, k_uj 35 rfl rfl]; rfl) | (rw [k_ui 0 rfl rfl, k_ui 0 rfl rfl, k_uj 35 rfl rfl, k_uj 35 rfl rfl, k_uj 35 rfl rfl, k_uj 35 rfl rfl]; simp only [k_begin, if_pos h1, hcl, if_neg h2, if_neg h3]; done) | (rw [k_ui 0 rfl rfl, k_ui 0 rfl rfl, k_uj 35 rfl rfl, k_uj 35 rfl rfl, k_uj 35 rfl rfl, k_uj 35 rfl rfl]; simp only [k_begin, if_pos h1, hcl, if_neg h2, if_neg h3]; rfl)
        · rw [k_ui 0 rfl rfl, k_ui 0 rfl rfl, k_uj 35 rfl rfl, k_uj 35 rfl rfl, k_uj 35 rfl rfl, k_uj 35 rfl rfl]
          first | rfl | (simp only [k_begin, if_pos h1, hcl, if_neg h2, if_neg h3]; done) | (simp only [k_begin, if_pos h1, hcl, if_neg h2, if_neg h3]; rfl)
        · exact (((((((m_fr.rf).ui rfl rfl).ui rfl rfl).uj rfl rfl).uj rfl rfl).uj rfl rfl).uj rfl rfl)
      · skip
        refine c_run 1 (pc' := 30) (ls' := [(0, .ref 38), (1, .int (nI i))]) (st' := [.int (-2)]) (μ' := (I, J)) (Nat.le_of_ble_eq_true rfl) rfl ?_
        refine c_ret (Nat.le_of_ble_eq_true rfl) rfl rfl ⟨by decide, rfl⟩ ?_
        refine ⟨?_, ?_, ?_⟩
        · first | rfl | (simp only [k_begin, if_pos h1, hcl, if_neg h2, if_pos h3]; done) | (simp only [k_begin, if_pos h1, hcl, if_neg h2, if_pos h3]; rfl)
        · skip
          first | rfl | (simp only [k_begin, if_pos h1, hcl, if_neg h2, if_pos h3]; done) | (simp only [k_begin, if_pos h1, hcl, if_neg h2, if_pos h3]; rfl)
        · exact (m_fr.rf)
  · replace h1 := s01_0.mp h1
    refine c_run 1 (pc' := 12) (ls' := [(0, .ref 38), (1, .int e)]) (st' := [.int (-1)]) (μ' := (I, J)) (Nat.le_of_ble_eq_true rfl) rfl ?_
    refine c_ret (Nat.le_of_ble_eq_true rfl) rfl rfl ⟨by decide, rfl⟩ ?_
    refine ⟨?_, ?_, ?_⟩
    · first | rfl | (simp only [k_begin, if_neg h1]; done) | (simp only [k_begin, if_neg h1]; rfl)
    · skip
      first | rfl | (simp only [k_begin, if_neg h1]; done) | (simp only [k_begin, if_neg h1]; rfl)
    · exact (m_fr.rf)

set_option maxRecDepth 100000 in
theorem t38_grow (I : Nat → Nat → Int32) (J : Nat → Nat → Int64) (t : Nat) (ht : t < 4) (d : Int64) : m_W 85 0 (lv_args 0 [.ref 39, .int (nI t), .long d]) [] (I, J) (k_E 38 (I, J) none (k_grow (k_sh 38 (I, J)) t d)) := by
  show m_W 85 0 [(0, .ref 39), (1, .int (nI t)), (2, .long d)] [] (I, J) _
  refine c_run 7 (pc' := 13) (ls' := [(0, .ref 39), (1, .int (nI t)), (2, .long d)]) (st' := [.int (nI t), .ref 46, .long 1000000000000000, .int (nI t), .ref 46]) (μ' := (I, J)) (Nat.le_of_ble_eq_true rfl) rfl ?_
  refine c_lal t 4 (Nat.le_of_ble_eq_true rfl) rfl rfl rfl rfl rfl (by omega) ?_
  show m_W 85 14 [(0, .ref 39), (1, .int (nI t)), (2, .long d)] [.long ((k_sh 38 (I, J)).2 8 t), .long 1000000000000000, .int (nI t), .ref 46] (I, J) _
  refine c_run 4 (pc' := 18) (ls' := [(0, .ref 39), (1, .int (nI t)), (2, .long d)]) (st' := [.long (((k_sh 38 (I, J)).2 8 t) + (d * d)), .long 1000000000000000, .int (nI t), .ref 46]) (μ' := (I, J)) (Nat.le_of_ble_eq_true rfl) rfl ?_
  refine c_cs 161 [.long 1000000000000000, .long (((k_sh 38 (I, J)).2 8 t) + (d * d))] (r := [.int (nI t), .ref 46]) (Nat.le_of_ble_eq_true rfl) rfl (Or.inl rfl) rfl rfl rfl (t_minl I J 1000000000000000 (((k_sh 38 (I, J)).2 8 t) + (d * d))) ?_
  rintro _ _ ⟨rfl, rfl⟩
  show m_W 85 21 [(0, .ref 39), (1, .int (nI t)), (2, .long d)] [.long (if (((k_sh 38 (I, J)).2 8 t) + (d * d)) < 1000000000000000 then (((k_sh 38 (I, J)).2 8 t) + (d * d)) else 1000000000000000), .int (nI t), .ref 46] (I, J) _
  refine c_las t 4 (Nat.le_of_ble_eq_true rfl) rfl rfl rfl rfl rfl (by omega) ?_
  show m_W 85 22 [(0, .ref 39), (1, .int (nI t)), (2, .long d)] [] (I, (m_uj J 46 t (if (((k_sh 38 (I, J)).2 8 t) + (d * d)) < 1000000000000000 then (((k_sh 38 (I, J)).2 8 t) + (d * d)) else 1000000000000000))) _
  refine c_vret (Nat.le_of_ble_eq_true rfl) rfl rfl ?_
  refine ⟨?_, ?_, ?_⟩
  · exact rfl
  · rw [k_uj 8 rfl rfl]
    all_goals rfl
  · exact ((m_fr.rf).uj rfl rfl)


set_option maxRecDepth 100000 in
theorem t38_leak_l (I : Nat → Nat → Int32) (J : Nat → Nat → Int64) (ms : Int32) (n : Nat) (hn : (k_sh 38 (I, J)).1 1 0 = nI n) (hn4 : n ≤ 4) : ∀ (r i : Nat), i + r = n → m_W 84 2 [(0, .ref 39), (1, .int ms), (2, .int (nI i))] [] (I, (m_cj J 43 (k_lkf (k_sh 38 (I, J)) ms i))) (k_E 38 (I, J) none (k_leak (k_sh 38 (I, J)) n ms)) := by
  intro r
  induction r with
  | zero =>
    intro i hir
    have hin : i = n := by omega
    subst hin
    refine c_run 3 (pc' := 7) (ls' := [(0, .ref 39), (1, .int ms), (2, .int (nI i))]) (st' := [.int ((k_sh 38 (I, J)).1 1 0), .int (nI i)]) (μ' := (I, (m_cj J 43 (k_lkf (k_sh 38 (I, J)) ms i)))) (Nat.le_of_ble_eq_true rfl) rfl ?_
    refine c_icge 43 (Nat.le_of_ble_eq_true rfl) rfl rfl (fun h1 => ?_) (fun h1 => absurd (by rw [hn]; exact nI_le (by omega) (by omega)) h1)
    refine c_vret (Nat.le_of_ble_eq_true rfl) rfl rfl ?_
    refine ⟨?_, ?_, ?_⟩
    · exact rfl
    · rw [k_cj 5 rfl rfl]
      all_goals rfl
    · exact ((m_fr.rf).cj rfl rfl)
  | succ r ih =>
    intro i hir
    refine c_run 3 (pc' := 7) (ls' := [(0, .ref 39), (1, .int ms), (2, .int (nI i))]) (st' := [.int ((k_sh 38 (I, J)).1 1 0), .int (nI i)]) (μ' := (I, (m_cj J 43 (k_lkf (k_sh 38 (I, J)) ms i)))) (Nat.le_of_ble_eq_true rfl) rfl ?_
    refine c_icge 43 (Nat.le_of_ble_eq_true rfl) rfl rfl (fun h1 => absurd h1 (by rw [hn]; exact nI_ge (by omega) (by omega))) (fun h1 => ?_)
    refine c_run 7 (pc' := 21) (ls' := [(0, .ref 39), (1, .int ms), (2, .int (nI i))]) (st' := [.int (nI i), .ref 43, .long 0, .int (nI i), .ref 43]) (μ' := (I, (m_cj J 43 (k_lkf (k_sh 38 (I, J)) ms i)))) (Nat.le_of_ble_eq_true rfl) rfl ?_
    refine c_lal i 4 (Nat.le_of_ble_eq_true rfl) rfl rfl rfl rfl rfl (by omega) ?_
    show m_W 84 22 [(0, .ref 39), (1, .int ms), (2, .int (nI i))] [.long ((k_lkf (k_sh 38 (I, J)) ms i) i), .long 0, .int (nI i), .ref 43] (I, (m_cj J 43 (k_lkf (k_sh 38 (I, J)) ms i))) _
    refine c_run 3 (pc' := 27) (ls' := [(0, .ref 39), (1, .int ms), (2, .int (nI i))]) (st' := [.int (nI i), .ref 42, .long ((k_lkf (k_sh 38 (I, J)) ms i) i), .long 0, .int (nI i), .ref 43]) (μ' := (I, (m_cj J 43 (k_lkf (k_sh 38 (I, J)) ms i)))) (Nat.le_of_ble_eq_true rfl) rfl ?_
    refine c_ial i 4 (Nat.le_of_ble_eq_true rfl) rfl rfl rfl rfl rfl (by omega) ?_
    show m_W 84 28 [(0, .ref 39), (1, .int ms), (2, .int (nI i))] [.int ((k_sh 38 (I, J)).1 4 i), .long ((k_lkf (k_sh 38 (I, J)) ms i) i), .long 0, .int (nI i), .ref 43] (I, (m_cj J 43 (k_lkf (k_sh 38 (I, J)) ms i))) _
    refine c_run 5 (pc' := 33) (ls' := [(0, .ref 39), (1, .int ms), (2, .int (nI i))]) (st' := [.long (((k_lkf (k_sh 38 (I, J)) ms i) i) - (((((k_sh 38 (I, J)).1 4 i) : Int32).toInt64) * ((ms : Int32).toInt64))), .long 0, .int (nI i), .ref 43]) (μ' := (I, (m_cj J 43 (k_lkf (k_sh 38 (I, J)) ms i)))) (Nat.le_of_ble_eq_true rfl) rfl ?_
    refine c_cs 159 [.long 0, .long (((k_lkf (k_sh 38 (I, J)) ms i) i) - (((((k_sh 38 (I, J)).1 4 i) : Int32).toInt64) * ((ms : Int32).toInt64)))] (r := [.int (nI i), .ref 43]) (Nat.le_of_ble_eq_true rfl) rfl (Or.inl rfl) rfl rfl rfl (t_max I (m_cj J 43 (k_lkf (k_sh 38 (I, J)) ms i)) 0 (((k_lkf (k_sh 38 (I, J)) ms i) i) - (((((k_sh 38 (I, J)).1 4 i) : Int32).toInt64) * ((ms : Int32).toInt64)))) ?_
    rintro _ _ ⟨rfl, rfl⟩
    show m_W 84 36 [(0, .ref 39), (1, .int ms), (2, .int (nI i))] [.long (if 0 < (((k_lkf (k_sh 38 (I, J)) ms i) i) - (((((k_sh 38 (I, J)).1 4 i) : Int32).toInt64) * ((ms : Int32).toInt64))) then (((k_lkf (k_sh 38 (I, J)) ms i) i) - (((((k_sh 38 (I, J)).1 4 i) : Int32).toInt64) * ((ms : Int32).toInt64))) else 0), .int (nI i), .ref 43] (I, (m_cj J 43 (k_lkf (k_sh 38 (I, J)) ms i))) _
    refine c_las i 4 (Nat.le_of_ble_eq_true rfl) rfl rfl rfl rfl rfl (by omega) ?_
    show m_W 84 37 [(0, .ref 39), (1, .int ms), (2, .int (nI i))] [] (I, (m_uj (m_cj J 43 (k_lkf (k_sh 38 (I, J)) ms i)) 43 i (if 0 < (((k_lkf (k_sh 38 (I, J)) ms i) i) - (((((k_sh 38 (I, J)).1 4 i) : Int32).toInt64) * ((ms : Int32).toInt64))) then (((k_lkf (k_sh 38 (I, J)) ms i) i) - (((((k_sh 38 (I, J)).1 4 i) : Int32).toInt64) * ((ms : Int32).toInt64))) else 0))) _
    refine c_run 2 (pc' := 2) (ls' := [(2, .int ((nI i) + (1 : Int32))), (0, .ref 39), (1, .int ms)]) (st' := []) (μ' := (I, (m_uj (m_cj J 43 (k_lkf (k_sh 38 (I, J)) ms i)) 43 i (if 0 < (((k_lkf (k_sh 38 (I, J)) ms i) i) - (((((k_sh 38 (I, J)).1 4 i) : Int32).toInt64) * ((ms : Int32).toInt64))) then (((k_lkf (k_sh 38 (I, J)) ms i) i) - (((((k_sh 38 (I, J)).1 4 i) : Int32).toInt64) * ((ms : Int32).toInt64))) else 0)))) (Nat.le_of_ble_eq_true rfl) rfl ?_
    refine c_w [1, 2, 0] (ls' := [(0, .ref 39), (1, .int ms), (2, .int ((nI i) + (1 : Int32)))]) rfl ?_
    rw [nI_1 i, m_cjs (g' := k_lkf (k_sh 38 (I, J)) ms (i + 1)) (by rw [k_lkf_s.1, k_lkf, if_neg (Nat.lt_irrefl i)]; rfl) k_lkf_s.2]
    exact ih (i + 1) (by omega)

set_option maxRecDepth 100000 in
theorem t38_leak (I : Nat → Nat → Int32) (J : Nat → Nat → Int64) (ms : Int32) (n : Nat) (hn : (k_sh 38 (I, J)).1 1 0 = nI n) (hn4 : n ≤ 4) : m_W 84 0 (lv_args 0 [.ref 39, .int ms]) [] (I, J) (k_E 38 (I, J) none (k_leak (k_sh 38 (I, J)) n ms)) := by
  show m_W 84 0 [(0, .ref 39), (1, .int ms)] [] (I, J) _
  refine c_run 2 (pc' := 2) (ls' := [(2, .int 0), (0, .ref 39), (1, .int ms)]) (st' := []) (μ' := (I, J)) (Nat.le_of_ble_eq_true rfl) rfl ?_
  refine c_w [1, 2, 0] (ls' := [(0, .ref 39), (1, .int ms), (2, .int 0)]) rfl ?_
  have h := t38_leak_l I J ms n hn hn4 n 0 (by omega)
  rw [m_cj0 (f := J) (a := 43) (k_lkf_0 (k_sh 38 (I, J)) ms)] at h
  exact h

