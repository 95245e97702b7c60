/-! THE MODEL: a step -/
set_option maxRecDepth 100000 in
theorem n_st_d (I : Nat → Nat → Int32) (J : Nat → Nat → Int64) (P g : Nat → Int64) (e : Nat) (he : e < 6) (n : Nat) (hn : I 77 2 = nI n) (hn4 : n ≤ 4) (op : Int32) (hop : ∀ t, t < n → (n_op P e t ↔ ((op >>> (nI t &&& 31)) &&& (1 : Int32)) = 1))  : m_W 127 158 [(0, .ref 77), (1, .int (nI e))] [] (I, (n_J J (n_dl P g e n) g)) (m_E none (I, n_J J (r_u (r_u (n_bk (n_dl P g e n) (n_gv op (I 89 e) (n_m (n_dl P g e n) 1) n g 4) e n) 40 ((n_bk (n_dl P g e n) (n_gv op (I 89 e) (n_m (n_dl P g e n) 1) n g 4) e n) 40 + 1)) 38 ((n_bk (n_dl P g e n) (n_gv op (I 89 e) (n_m (n_dl P g e n) 1) n g 4) e n) 38 + 1)) (n_gv op (I 89 e) (n_m (n_dl P g e n) 1) n g 4))) := by
  have hop3 : ∀ t, t < n → (n_op (n_dl P g e n) e t ↔ ((op >>> (nI t &&& 31)) &&& (1 : Int32)) = 1) := by
    intro t ht
    unfold n_op
    rw [n_dl_o he hn4 (by omega) (by omega)]
    exact hop t ht
  refine c_run 2 (pc' := 160) (ls' := [(0, .ref 77), (1, .int (nI e))]) (st' := [.int (nI e), .ref 77]) (μ' := (I, (n_J J (n_dl P g e n) g))) (Nat.le_of_ble_eq_true rfl) rfl ?_
  refine c_cv 126 [.int (nI e)] (b := 77) (r := []) (Nat.le_of_ble_eq_true rfl) rfl rfl rfl rfl rfl rfl (n_books I J (n_dl P g e n) g e he n hn hn4 op hop3) ?_
  rintro _ _ ⟨rfl, rfl⟩
  show m_W 127 163 [(0, .ref 77), (1, .int (nI e))] [] (I, (n_J J (n_bk (n_dl P g e n) (n_gv op (I 89 e) (n_m (n_dl P g e n) 1) n g 4) e n) (n_gv op (I 89 e) (n_m (n_dl P g e n) 1) n g 4))) _
  refine c_run 4 (pc' := 170) (ls' := [(0, .ref 77), (1, .int (nI e))]) (st' := [.int 40, .ref 78, .int 40, .ref 78]) (μ' := (I, (n_J J (n_bk (n_dl P g e n) (n_gv op (I 89 e) (n_m (n_dl P g e n) 1) n g 4) e n) (n_gv op (I 89 e) (n_m (n_dl P g e n) 1) n g 4)))) (Nat.le_of_ble_eq_true rfl) rfl ?_
  refine c_lal 40 140 (Nat.le_of_ble_eq_true rfl) rfl rfl rfl rfl rfl (by decide) ?_
  show m_W 127 171 [(0, .ref 77), (1, .int (nI e))] [.long ((n_bk (n_dl P g e n) (n_gv op (I 89 e) (n_m (n_dl P g e n) 1) n g 4) e n) 40), .int 40, .ref 78] (I, (n_J J (n_bk (n_dl P g e n) (n_gv op (I 89 e) (n_m (n_dl P g e n) 1) n g 4) e n) (n_gv op (I 89 e) (n_m (n_dl P g e n) 1) n g 4))) _
  refine c_run 2 (pc' := 173) (ls' := [(0, .ref 77), (1, .int (nI e))]) (st' := [.long (((n_bk (n_dl P g e n) (n_gv op (I 89 e) (n_m (n_dl P g e n) 1) n g 4) e n) 40) + (1 : Int64)), .int 40, .ref 78]) (μ' := (I, (n_J J (n_bk (n_dl P g e n) (n_gv op (I 89 e) (n_m (n_dl P g e n) 1) n g 4) e n) (n_gv op (I 89 e) (n_m (n_dl P g e n) 1) n g 4)))) (Nat.le_of_ble_eq_true rfl) rfl ?_
  refine c_las 40 140 (Nat.le_of_ble_eq_true rfl) rfl rfl rfl rfl rfl (by decide) ?_
  show m_W 127 174 [(0, .ref 77), (1, .int (nI e))] [] (I, m_uj (n_J J (n_bk (n_dl P g e n) (n_gv op (I 89 e) (n_m (n_dl P g e n) 1) n g 4) e n) (n_gv op (I 89 e) (n_m (n_dl P g e n) 1) n g 4)) 78 40 (((n_bk (n_dl P g e n) (n_gv op (I 89 e) (n_m (n_dl P g e n) 1) n g 4) e n) 40) + (1 : Int64))) _
  rw [n_JR]
  show m_W 127 174 [(0, .ref 77), (1, .int (nI e))] [] (I, (n_J J (r_u (n_bk (n_dl P g e n) (n_gv op (I 89 e) (n_m (n_dl P g e n) 1) n g 4) e n) 40 (((n_bk (n_dl P g e n) (n_gv op (I 89 e) (n_m (n_dl P g e n) 1) n g 4) e n) 40) + (1 : Int64))) (n_gv op (I 89 e) (n_m (n_dl P g e n) 1) n g 4))) _
  refine c_run 4 (pc' := 181) (ls' := [(0, .ref 77), (1, .int (nI e))]) (st' := [.int 38, .ref 78, .int 38, .ref 78]) (μ' := (I, (n_J J (r_u (n_bk (n_dl P g e n) (n_gv op (I 89 e) (n_m (n_dl P g e n) 1) n g 4) e n) 40 (((n_bk (n_dl P g e n) (n_gv op (I 89 e) (n_m (n_dl P g e n) 1) n g 4) e n) 40) + (1 : Int64))) (n_gv op (I 89 e) (n_m (n_dl P g e n) 1) n g 4)))) (Nat.le_of_ble_eq_true rfl) rfl ?_
  refine c_lal 38 140 (Nat.le_of_ble_eq_true rfl) rfl rfl rfl rfl rfl (by decide) ?_
  show m_W 127 182 [(0, .ref 77), (1, .int (nI e))] [.long ((r_u (n_bk (n_dl P g e n) (n_gv op (I 89 e) (n_m (n_dl P g e n) 1) n g 4) e n) 40 (((n_bk (n_dl P g e n) (n_gv op (I 89 e) (n_m (n_dl P g e n) 1) n g 4) e n) 40) + (1 : Int64))) 38), .int 38, .ref 78] (I, (n_J J (r_u (n_bk (n_dl P g e n) (n_gv op (I 89 e) (n_m (n_dl P g e n) 1) n g 4) e n) 40 (((n_bk (n_dl P g e n) (n_gv op (I 89 e) (n_m (n_dl P g e n) 1) n g 4) e n) 40) + (1 : Int64))) (n_gv op (I 89 e) (n_m (n_dl P g e n) 1) n g 4))) _
  rw [show (r_u (n_bk (n_dl P g e n) (n_gv op (I 89 e) (n_m (n_dl P g e n) 1) n g 4) e n) 40 (((n_bk (n_dl P g e n) (n_gv op (I 89 e) (n_m (n_dl P g e n) 1) n g 4) e n) 40) + (1 : Int64))) 38 = ((n_bk (n_dl P g e n) (n_gv op (I 89 e) (n_m (n_dl P g e n) 1) n g 4) e n) 38) from by rw [r_un (by omega)]]
  show m_W 127 182 [(0, .ref 77), (1, .int (nI e))] [.long ((n_bk (n_dl P g e n) (n_gv op (I 89 e) (n_m (n_dl P g e n) 1) n g 4) e n) 38), .int 38, .ref 78] (I, (n_J J (r_u (n_bk (n_dl P g e n) (n_gv op (I 89 e) (n_m (n_dl P g e n) 1) n g 4) e n) 40 (((n_bk (n_dl P g e n) (n_gv op (I 89 e) (n_m (n_dl P g e n) 1) n g 4) e n) 40) + (1 : Int64))) (n_gv op (I 89 e) (n_m (n_dl P g e n) 1) n g 4))) _
  refine c_run 2 (pc' := 184) (ls' := [(0, .ref 77), (1, .int (nI e))]) (st' := [.long (((n_bk (n_dl P g e n) (n_gv op (I 89 e) (n_m (n_dl P g e n) 1) n g 4) e n) 38) + (1 : Int64)), .int 38, .ref 78]) (μ' := (I, (n_J J (r_u (n_bk (n_dl P g e n) (n_gv op (I 89 e) (n_m (n_dl P g e n) 1) n g 4) e n) 40 (((n_bk (n_dl P g e n) (n_gv op (I 89 e) (n_m (n_dl P g e n) 1) n g 4) e n) 40) + (1 : Int64))) (n_gv op (I 89 e) (n_m (n_dl P g e n) 1) n g 4)))) (Nat.le_of_ble_eq_true rfl) rfl ?_
  refine c_las 38 140 (Nat.le_of_ble_eq_true rfl) rfl rfl rfl rfl rfl (by decide) ?_
  show m_W 127 185 [(0, .ref 77), (1, .int (nI e))] [] (I, m_uj (n_J J (r_u (n_bk (n_dl P g e n) (n_gv op (I 89 e) (n_m (n_dl P g e n) 1) n g 4) e n) 40 (((n_bk (n_dl P g e n) (n_gv op (I 89 e) (n_m (n_dl P g e n) 1) n g 4) e n) 40) + (1 : Int64))) (n_gv op (I 89 e) (n_m (n_dl P g e n) 1) n g 4)) 78 38 (((n_bk (n_dl P g e n) (n_gv op (I 89 e) (n_m (n_dl P g e n) 1) n g 4) e n) 38) + (1 : Int64))) _
  rw [n_JR]
  show m_W 127 185 [(0, .ref 77), (1, .int (nI e))] [] (I, (n_J J (r_u (r_u (n_bk (n_dl P g e n) (n_gv op (I 89 e) (n_m (n_dl P g e n) 1) n g 4) e n) 40 (((n_bk (n_dl P g e n) (n_gv op (I 89 e) (n_m (n_dl P g e n) 1) n g 4) e n) 40) + (1 : Int64))) 38 (((n_bk (n_dl P g e n) (n_gv op (I 89 e) (n_m (n_dl P g e n) 1) n g 4) e n) 38) + (1 : Int64))) (n_gv op (I 89 e) (n_m (n_dl P g e n) 1) n g 4))) _
  refine c_vret (Nat.le_of_ble_eq_true rfl) rfl rfl ?_
  exact ⟨rfl, rfl⟩

set_option maxRecDepth 100000 in
theorem n_st_l (I : Nat → Nat → Int32) (J : Nat → Nat → Int64) (P g : Nat → Int64) (e : Nat) (he : e < 6) (n : Nat) (hn : I 77 2 = nI n) (hn4 : n ≤ 4) (op : Int32) (hop : ∀ t, t < n → (n_op P e t ↔ ((op >>> (nI t &&& 31)) &&& (1 : Int32)) = 1))  : ∀ (r i : Nat), i + r = n → m_W 127 106 [(0, .ref 77), (1, .int (nI e)), (2, .int (nI i))] [] (I, (n_J J (n_dl P g e i) g)) (m_E none (I, n_J J (r_u (r_u (n_bk (n_dl P g e n) (n_gv op (I 89 e) (n_m (n_dl P g e n) 1) n g 4) e n) 40 ((n_bk (n_dl P g e n) (n_gv op (I 89 e) (n_m (n_dl P g e n) 1) n g 4) e n) 40 + 1)) 38 ((n_bk (n_dl P g e n) (n_gv op (I 89 e) (n_m (n_dl P g e n) 1) n g 4) e n) 38 + 1)) (n_gv op (I 89 e) (n_m (n_dl P g e n) 1) n g 4))) := by
  intro r
  induction r with
  | zero =>
    intro i hir
    have hin : n = i := by omega
    subst hin
    refine c_run 3 (pc' := 111) (ls' := [(0, .ref 77), (1, .int (nI e)), (2, .int (nI n))]) (st' := [.int (I 77 2), .int (nI n)]) (μ' := (I, (n_J J (n_dl P g e n) g))) (Nat.le_of_ble_eq_true rfl) rfl ?_
    refine c_icge 158 (Nat.le_of_ble_eq_true rfl) rfl rfl (fun h1 => ?_) (fun h1 => absurd (by rw [hn]; exact nI_le (by omega) (by omega)) h1)
    refine c_w [0, 1] (ls' := [(0, .ref 77), (1, .int (nI e))]) rfl ?_
    exact n_st_d I J P g e he n hn hn4 op hop
  | succ r ih =>
    intro i hir
    refine c_run 3 (pc' := 111) (ls' := [(0, .ref 77), (1, .int (nI e)), (2, .int (nI i))]) (st' := [.int (I 77 2), .int (nI i)]) (μ' := (I, (n_J J (n_dl P g e i) g))) (Nat.le_of_ble_eq_true rfl) rfl ?_
    refine c_icge 158 (Nat.le_of_ble_eq_true rfl) rfl rfl (fun h1 => absurd h1 (by rw [hn]; exact nI_ge (by omega) (by omega))) (fun h1 => ?_)
    refine c_run 8 (pc' := 124) (ls' := [(0, .ref 77), (1, .int (nI e)), (2, .int (nI i))]) (st' := [.int (((5 : Int32) * (nI i)) + (0 : Int32)), .ref 78, .int (((5 : Int32) * (nI i)) + (0 : Int32)), .ref 78]) (μ' := (I, (n_J J (n_dl P g e i) g))) (Nat.le_of_ble_eq_true rfl) rfl ?_
    refine c_lal (5 * i + 0) 140 (Nat.le_of_ble_eq_true rfl) rfl rfl rfl rfl (n_5w i 0) (by omega) ?_
    show m_W 127 125 [(0, .ref 77), (1, .int (nI e)), (2, .int (nI i))] [.long ((n_dl P g e i) (5 * i + 0)), .int (((5 : Int32) * (nI i)) + (0 : Int32)), .ref 78] (I, (n_J J (n_dl P g e i) g)) _
    refine c_run 3 (pc' := 130) (ls' := [(0, .ref 77), (1, .int (nI e)), (2, .int (nI i))]) (st' := [.int (nI i), .ref 94, .long ((n_dl P g e i) (5 * i + 0)), .int (((5 : Int32) * (nI i)) + (0 : Int32)), .ref 78]) (μ' := (I, (n_J J (n_dl P g e i) g))) (Nat.le_of_ble_eq_true rfl) rfl ?_
    refine c_lal i 4 (Nat.le_of_ble_eq_true rfl) rfl rfl rfl rfl rfl (by omega) ?_
    show m_W 127 131 [(0, .ref 77), (1, .int (nI e)), (2, .int (nI i))] [.long (g i), .long ((n_dl P g e i) (5 * i + 0)), .int (((5 : Int32) * (nI i)) + (0 : Int32)), .ref 78] (I, (n_J J (n_dl P g e i) g)) _
    refine c_run 1 (pc' := 132) (ls' := [(0, .ref 77), (1, .int (nI e)), (2, .int (nI i))]) (st' := [.long (((n_dl P g e i) (5 * i + 0)) - (g i)), .int (((5 : Int32) * (nI i)) + (0 : Int32)), .ref 78]) (μ' := (I, (n_J J (n_dl P g e i) g))) (Nat.le_of_ble_eq_true rfl) rfl ?_
    refine c_las (5 * i + 0) 140 (Nat.le_of_ble_eq_true rfl) rfl rfl rfl rfl (n_5w i 0) (by omega) ?_
    show m_W 127 133 [(0, .ref 77), (1, .int (nI e)), (2, .int (nI i))] [] (I, m_uj (n_J J (n_dl P g e i) g) 78 (5 * i + 0) (((n_dl P g e i) (5 * i + 0)) - (g i))) _
    rw [n_JR]
    show m_W 127 133 [(0, .ref 77), (1, .int (nI e)), (2, .int (nI i))] [] (I, (n_J J (r_u (n_dl P g e i) (5 * i + 0) (((n_dl P g e i) (5 * i + 0)) - (g i))) g)) _
    refine c_run 4 (pc' := 139) (ls' := [(0, .ref 77), (1, .int (nI e)), (2, .int (nI i))]) (st' := [.int 2, .int (nI e), .ref 78]) (μ' := (I, (n_J J (r_u (n_dl P g e i) (5 * i + 0) (((n_dl P g e i) (5 * i + 0)) - (g i))) g))) (Nat.le_of_ble_eq_true rfl) rfl ?_
    refine c_cs 102 [.int (nI e), .int 2] (r := [.ref 78]) (Nat.le_of_ble_eq_true rfl) rfl (Or.inl rfl) rfl rfl rfl (t_at2 I (n_J J (r_u (n_dl P g e i) (5 * i + 0) (((n_dl P g e i) (5 * i + 0)) - (g i))) g) e 2) ?_
    rintro _ _ ⟨rfl, rfl⟩
    show m_W 127 142 [(0, .ref 77), (1, .int (nI e)), (2, .int (nI i))] [.int (nI (20 + 3 * e + 2)), .ref 78] (I, (n_J J (r_u (n_dl P g e i) (5 * i + 0) (((n_dl P g e i) (5 * i + 0)) - (g i))) g)) _
    refine c_run 1 (pc' := 143) (ls' := [(0, .ref 77), (1, .int (nI e)), (2, .int (nI i))]) (st' := [.int (nI (20 + 3 * e + 2)), .ref 78, .int (nI (20 + 3 * e + 2)), .ref 78]) (μ' := (I, (n_J J (r_u (n_dl P g e i) (5 * i + 0) (((n_dl P g e i) (5 * i + 0)) - (g i))) g))) (Nat.le_of_ble_eq_true rfl) rfl ?_
    refine c_lal (20 + 3 * e + 2) 140 (Nat.le_of_ble_eq_true rfl) rfl rfl rfl rfl rfl (by omega) ?_
    show m_W 127 144 [(0, .ref 77), (1, .int (nI e)), (2, .int (nI i))] [.long ((r_u (n_dl P g e i) (5 * i + 0) (((n_dl P g e i) (5 * i + 0)) - (g i))) (20 + 3 * e + 2)), .int (nI (20 + 3 * e + 2)), .ref 78] (I, (n_J J (r_u (n_dl P g e i) (5 * i + 0) (((n_dl P g e i) (5 * i + 0)) - (g i))) g)) _
    rw [show (r_u (n_dl P g e i) (5 * i + 0) (((n_dl P g e i) (5 * i + 0)) - (g i))) (20 + 3 * e + 2) = ((n_dl P g e i) (20 + 3 * e + 2)) from by rw [r_un (by omega)]]
    show m_W 127 144 [(0, .ref 77), (1, .int (nI e)), (2, .int (nI i))] [.long ((n_dl P g e i) (20 + 3 * e + 2)), .int (nI (20 + 3 * e + 2)), .ref 78] (I, (n_J J (r_u (n_dl P g e i) (5 * i + 0) (((n_dl P g e i) (5 * i + 0)) - (g i))) g)) _
    refine c_run 3 (pc' := 149) (ls' := [(0, .ref 77), (1, .int (nI e)), (2, .int (nI i))]) (st' := [.int (nI i), .ref 94, .long ((n_dl P g e i) (20 + 3 * e + 2)), .int (nI (20 + 3 * e + 2)), .ref 78]) (μ' := (I, (n_J J (r_u (n_dl P g e i) (5 * i + 0) (((n_dl P g e i) (5 * i + 0)) - (g i))) g))) (Nat.le_of_ble_eq_true rfl) rfl ?_
    refine c_lal i 4 (Nat.le_of_ble_eq_true rfl) rfl rfl rfl rfl rfl (by omega) ?_
    show m_W 127 150 [(0, .ref 77), (1, .int (nI e)), (2, .int (nI i))] [.long (g i), .long ((n_dl P g e i) (20 + 3 * e + 2)), .int (nI (20 + 3 * e + 2)), .ref 78] (I, (n_J J (r_u (n_dl P g e i) (5 * i + 0) (((n_dl P g e i) (5 * i + 0)) - (g i))) g)) _
    refine c_run 1 (pc' := 151) (ls' := [(0, .ref 77), (1, .int (nI e)), (2, .int (nI i))]) (st' := [.long (((n_dl P g e i) (20 + 3 * e + 2)) + (g i)), .int (nI (20 + 3 * e + 2)), .ref 78]) (μ' := (I, (n_J J (r_u (n_dl P g e i) (5 * i + 0) (((n_dl P g e i) (5 * i + 0)) - (g i))) g))) (Nat.le_of_ble_eq_true rfl) rfl ?_
    refine c_las (20 + 3 * e + 2) 140 (Nat.le_of_ble_eq_true rfl) rfl rfl rfl rfl rfl (by omega) ?_
    show m_W 127 152 [(0, .ref 77), (1, .int (nI e)), (2, .int (nI i))] [] (I, m_uj (n_J J (r_u (n_dl P g e i) (5 * i + 0) (((n_dl P g e i) (5 * i + 0)) - (g i))) g) 78 (20 + 3 * e + 2) (((n_dl P g e i) (20 + 3 * e + 2)) + (g i))) _
    rw [n_JR]
    show m_W 127 152 [(0, .ref 77), (1, .int (nI e)), (2, .int (nI i))] [] (I, (n_J J (r_u (r_u (n_dl P g e i) (5 * i + 0) (((n_dl P g e i) (5 * i + 0)) - (g i))) (20 + 3 * e + 2) (((n_dl P g e i) (20 + 3 * e + 2)) + (g i))) g)) _
    refine c_run 2 (pc' := 106) (ls' := [(2, .int ((nI i) + (1 : Int32))), (0, .ref 77), (1, .int (nI e))]) (st' := []) (μ' := (I, (n_J J (r_u (r_u (n_dl P g e i) (5 * i + 0) (((n_dl P g e i) (5 * i + 0)) - (g i))) (20 + 3 * e + 2) (((n_dl P g e i) (20 + 3 * e + 2)) + (g i))) g))) (Nat.le_of_ble_eq_true rfl) rfl ?_
    refine c_w [1, 2, 0] (ls' := [(0, .ref 77), (1, .int (nI e)), (2, .int ((nI i) + (1 : Int32)))]) rfl ?_
    rw [nI_1 i, show (r_u (r_u (n_dl P g e i) (5 * i + 0) (((n_dl P g e i) (5 * i + 0)) - (g i))) (20 + 3 * e + 2) (((n_dl P g e i) (20 + 3 * e + 2)) + (g i))) = n_dl P g e (i + 1) from rfl]
    exact ih (i + 1) (by omega)

set_option maxRecDepth 100000 in
theorem n_st_n (I : Nat → Nat → Int32) (J : Nat → Nat → Int64) (R G : Nat → Int64) (n : Nat) (hn : I 77 2 = nI n) (hn4 : n ≤ 4) (hb : ¬ 0 ≤ R 39) : m_W 127 52 [(0, .ref 77)] [] (I, (n_J J (n_lk R (I 83) n) G)) (m_E none (I, n_J J (r_u (n_lk R (I 83) n) 38 (R 38 + 1)) G)) := by
  refine c_run 1 (pc' := 53) (ls' := [(0, .ref 77)]) (st' := [.ref 77]) (μ' := (I, (n_J J (n_lk R (I 83) n) G))) (Nat.le_of_ble_eq_true rfl) rfl ?_
  refine c_cv 100 [] (b := 77) (r := []) (Nat.le_of_ble_eq_true rfl) rfl rfl rfl rfl rfl rfl (n_burns I (n_J J (n_lk R (I 83) n) G)) ?_
  rintro _ _ ⟨rfl, rfl⟩
  rw [show (n_J J (n_lk R (I 83) n) G) 78 39 = R 39 from n_lk_o hn4 (by omega)]
  show m_W 127 56 [(0, .ref 77)] [.int (s01 (0 ≤ R 39))] (I, (n_J J (n_lk R (I 83) n) G)) _
  refine c_ifeq 174 (Nat.le_of_ble_eq_true rfl) rfl rfl (fun h1 => ?_) (fun h1 => absurd (s01_1.mp h1) hb)
  refine c_run 4 (pc' := 181) (ls' := [(0, .ref 77)]) (st' := [.int 38, .ref 78, .int 38, .ref 78]) (μ' := (I, (n_J J (n_lk R (I 83) n) G))) (Nat.le_of_ble_eq_true rfl) rfl ?_
  refine c_lal 38 140 (Nat.le_of_ble_eq_true rfl) rfl rfl rfl rfl rfl (by decide) ?_
  show m_W 127 182 [(0, .ref 77)] [.long ((n_lk R (I 83) n) 38), .int 38, .ref 78] (I, (n_J J (n_lk R (I 83) n) G)) _
  refine c_run 2 (pc' := 184) (ls' := [(0, .ref 77)]) (st' := [.long (((n_lk R (I 83) n) 38) + (1 : Int64)), .int 38, .ref 78]) (μ' := (I, (n_J J (n_lk R (I 83) n) G))) (Nat.le_of_ble_eq_true rfl) rfl ?_
  refine c_las 38 140 (Nat.le_of_ble_eq_true rfl) rfl rfl rfl rfl rfl (by decide) ?_
  show m_W 127 185 [(0, .ref 77)] [] (I, m_uj (n_J J (n_lk R (I 83) n) G) 78 38 (((n_lk R (I 83) n) 38) + (1 : Int64))) _
  rw [n_JR]
  show m_W 127 185 [(0, .ref 77)] [] (I, (n_J J (r_u (n_lk R (I 83) n) 38 (((n_lk R (I 83) n) 38) + (1 : Int64))) G)) _
  refine c_vret (Nat.le_of_ble_eq_true rfl) rfl rfl ?_
  rw [show (n_lk R (I 83) n) 38 = R 38 from n_lk_o hn4 (by omega)]
  exact ⟨rfl, rfl⟩

set_option maxRecDepth 100000 in
theorem n_st_b (I : Nat → Nat → Int32) (J : Nat → Nat → Int64) (R G : Nat → Int64) (e : Nat) (he : e < 6) (n : Nat) (hn : I 77 2 = nI n) (hn4 : n ≤ 4) (op : Int32) (hop : ∀ t, t < n → (n_op R e t ↔ ((op >>> (nI t &&& 31)) &&& (1 : Int32)) = 1)) (hb : R 39 = (nI e).toInt64) : m_W 127 52 [(0, .ref 77)] [] (I, (n_J J (n_lk R (I 83) n) G)) (m_E none (I, n_J J (n_R6 op (I 89 e) R G (I 83) n e) (n_G2 op (I 89 e) R G (I 83) n e))) := by
  have hop1 : ∀ t, t < n → (n_op (n_lk R (I 83) n) e t ↔ ((op >>> (nI t &&& 31)) &&& (1 : Int32)) = 1) := by
    intro t ht
    unfold n_op
    rw [n_lk_o hn4 (by omega)]
    exact hop t ht
  have hop2 : ∀ t, t < n → (n_op (n_R2 op (I 89 e) R (I 83) n) e t ↔ ((op >>> (nI t &&& 31)) &&& (1 : Int32)) = 1) := by
    intro t ht
    unfold n_op
    rw [n_R2_o hn4 (by omega) (by omega)]
    exact hop t ht
  have hb0 : 0 ≤ R 39 := by rw [hb]; exact n_le64 (x := 0).mpr (nI_pos' (by omega))
  have h41 : (n_lk R (I 83) n) 41 = R 41 := n_lk_o hn4 (by omega)
  refine c_run 1 (pc' := 53) (ls' := [(0, .ref 77)]) (st' := [.ref 77]) (μ' := (I, (n_J J (n_lk R (I 83) n) G))) (Nat.le_of_ble_eq_true rfl) rfl ?_
  refine c_cv 100 [] (b := 77) (r := []) (Nat.le_of_ble_eq_true rfl) rfl rfl rfl rfl rfl rfl (n_burns I (n_J J (n_lk R (I 83) n) G)) ?_
  rintro _ _ ⟨rfl, rfl⟩
  rw [show (n_J J (n_lk R (I 83) n) G) 78 39 = R 39 from n_lk_o hn4 (by omega)]
  show m_W 127 56 [(0, .ref 77)] [.int (s01 (0 ≤ R 39))] (I, (n_J J (n_lk R (I 83) n) G)) _
  refine c_ifeq 174 (Nat.le_of_ble_eq_true rfl) rfl rfl (fun h1 => absurd hb0 (s01_0.mp h1)) (fun h1 => ?_)
  refine c_run 3 (pc' := 65) (ls' := [(0, .ref 77)]) (st' := [.int 39, .ref 78]) (μ' := (I, (n_J J (n_lk R (I 83) n) G))) (Nat.le_of_ble_eq_true rfl) rfl ?_
  refine c_lal 39 140 (Nat.le_of_ble_eq_true rfl) rfl rfl rfl rfl rfl (by decide) ?_
  show m_W 127 66 [(0, .ref 77)] [.long ((n_lk R (I 83) n) 39)] (I, (n_J J (n_lk R (I 83) n) G)) _
  refine c_run 5 (pc' := 71) (ls' := [(1, .int ((((n_lk R (I 83) n) 39) : Int64).toInt32)), (0, .ref 77)]) (st' := [.int 0, .int ((((n_lk R (I 83) n) 39) : Int64).toInt32), .ref 77]) (μ' := (I, (n_J J (n_lk R (I 83) n) G))) (Nat.le_of_ble_eq_true rfl) rfl ?_
  rw [show ((((n_lk R (I 83) n) 39) : Int64).toInt32) = nI e from by rw [n_lk_o hn4 (by omega), hb]; exact Int32.toInt32_toInt64 _]
  refine c_cv 124 [.int (nI e), .int 0] (b := 77) (r := []) (Nat.le_of_ble_eq_true rfl) rfl rfl rfl rfl rfl rfl (n_isGiven I J (n_lk R (I 83) n) G e he n hn hn4 op hop1 0 (by decide)) ?_
  rintro _ _ ⟨rfl, rfl⟩
  show m_W 127 74 [(1, .int (nI e)), (0, .ref 77)] [.int (s01 (0 < d_cnt op (n_m (n_lk R (I 83) n) 0) n))] (I, (n_J J (n_lk R (I 83) n) (n_gv op (I 89 e) (n_m (n_lk R (I 83) n) 0) n G 4))) _
  refine c_ifne 104 (Nat.le_of_ble_eq_true rfl) rfl rfl (fun h2 => ?_) (fun h2 => ?_)
  · replace h2 := s01_1.mp h2
    refine c_run 2 (pc' := 106) (ls' := [(2, .int 0), (1, .int (nI e)), (0, .ref 77)]) (st' := []) (μ' := (I, (n_J J (n_lk R (I 83) n) (n_gv op (I 89 e) (n_m (n_lk R (I 83) n) 0) n G 4)))) (Nat.le_of_ble_eq_true rfl) rfl ?_
    refine c_w [2, 1, 0] (ls' := [(0, .ref 77), (1, .int (nI e)), (2, .int 0)]) rfl ?_
    rw [show (n_gv op (I 89 e) (n_m (n_lk R (I 83) n) 0) n G 4) = (n_G1 op (I 89 e) R G (I 83) n) from rfl]
    rw [show (n_lk R (I 83) n) = (n_R2 op (I 89 e) R (I 83) n) from (if_pos h2).symm]
    have h := n_st_l I J (n_R2 op (I 89 e) R (I 83) n) (n_G1 op (I 89 e) R G (I 83) n) e he n hn hn4 op hop2 n 0 (by omega)
    exact h
  · replace h2 := s01_0.mp h2
    refine c_run 3 (pc' := 83) (ls' := [(1, .int (nI e)), (0, .ref 77)]) (st' := [.int 41, .ref 78]) (μ' := (I, (n_J J (n_lk R (I 83) n) (n_gv op (I 89 e) (n_m (n_lk R (I 83) n) 0) n G 4)))) (Nat.le_of_ble_eq_true rfl) rfl ?_
    refine c_lal 41 140 (Nat.le_of_ble_eq_true rfl) rfl rfl rfl rfl rfl (by decide) ?_
    show m_W 127 84 [(1, .int (nI e)), (0, .ref 77)] [.long ((n_lk R (I 83) n) 41)] (I, (n_J J (n_lk R (I 83) n) (n_gv op (I 89 e) (n_m (n_lk R (I 83) n) 0) n G 4))) _
    refine c_run 2 (pc' := 86) (ls' := [(1, .int (nI e)), (0, .ref 77)]) (st' := [.int (lg_cmp ((n_lk R (I 83) n) 41) 0)]) (μ' := (I, (n_J J (n_lk R (I 83) n) (n_gv op (I 89 e) (n_m (n_lk R (I 83) n) 0) n G 4)))) (Nat.le_of_ble_eq_true rfl) rfl ?_
    refine c_ifne 104 (Nat.le_of_ble_eq_true rfl) rfl rfl (fun h3 => ?_) (fun h3 => ?_)
    · replace h3 := mt lc_eq.mpr h3
      refine c_run 2 (pc' := 106) (ls' := [(2, .int 0), (1, .int (nI e)), (0, .ref 77)]) (st' := []) (μ' := (I, (n_J J (n_lk R (I 83) n) (n_gv op (I 89 e) (n_m (n_lk R (I 83) n) 0) n G 4)))) (Nat.le_of_ble_eq_true rfl) rfl ?_
      refine c_w [2, 1, 0] (ls' := [(0, .ref 77), (1, .int (nI e)), (2, .int 0)]) rfl ?_
      rw [show (n_gv op (I 89 e) (n_m (n_lk R (I 83) n) 0) n G 4) = (n_G1 op (I 89 e) R G (I 83) n) from rfl]
      rw [show (n_lk R (I 83) n) = (n_R2 op (I 89 e) R (I 83) n) from by unfold n_R2; rw [if_neg h2, if_neg (by rw [← h41]; exact h3)]]
      have h := n_st_l I J (n_R2 op (I 89 e) R (I 83) n) (n_G1 op (I 89 e) R G (I 83) n) e he n hn hn4 op hop2 n 0 (by omega)
      exact h
    · replace h3 := lc_eq.mp h3
      refine c_run 4 (pc' := 96) (ls' := [(1, .int (nI e)), (0, .ref 77)]) (st' := [.long 1, .int 41, .ref 78]) (μ' := (I, (n_J J (n_lk R (I 83) n) (n_gv op (I 89 e) (n_m (n_lk R (I 83) n) 0) n G 4)))) (Nat.le_of_ble_eq_true rfl) rfl ?_
      refine c_las 41 140 (Nat.le_of_ble_eq_true rfl) rfl rfl rfl rfl rfl (by decide) ?_
      show m_W 127 97 [(1, .int (nI e)), (0, .ref 77)] [] (I, m_uj (n_J J (n_lk R (I 83) n) (n_gv op (I 89 e) (n_m (n_lk R (I 83) n) 0) n G 4)) 78 41 1) _
      rw [n_JR]
      show m_W 127 97 [(1, .int (nI e)), (0, .ref 77)] [] (I, (n_J J (r_u (n_lk R (I 83) n) 41 1) (n_gv op (I 89 e) (n_m (n_lk R (I 83) n) 0) n G 4))) _
      refine c_run 4 (pc' := 101) (ls' := [(1, .int (nI e)), (0, .ref 77)]) (st' := [.long 0, .int (-1), .int 4, .ref 77]) (μ' := (I, (n_J J (r_u (n_lk R (I 83) n) 41 1) (n_gv op (I 89 e) (n_m (n_lk R (I 83) n) 0) n G 4)))) (Nat.le_of_ble_eq_true rfl) rfl ?_
      refine c_cv 103 [.int 4, .int (-1), .long 0] (b := 77) (r := []) (Nat.le_of_ble_eq_true rfl) rfl rfl rfl rfl rfl rfl (n_enters I J (r_u (n_lk R (I 83) n) 41 1) (n_gv op (I 89 e) (n_m (n_lk R (I 83) n) 0) n G 4) 4 (-1) 0) ?_
      rintro _ _ ⟨rfl, rfl⟩
      show m_W 127 104 [(1, .int (nI e)), (0, .ref 77)] [] (I, (n_J J (n_ent (r_u (n_lk R (I 83) n) 41 1) 4 (-1) 0) (n_gv op (I 89 e) (n_m (n_lk R (I 83) n) 0) n G 4))) _
      refine c_run 2 (pc' := 106) (ls' := [(2, .int 0), (1, .int (nI e)), (0, .ref 77)]) (st' := []) (μ' := (I, (n_J J (n_ent (r_u (n_lk R (I 83) n) 41 1) 4 (-1) 0) (n_gv op (I 89 e) (n_m (n_lk R (I 83) n) 0) n G 4)))) (Nat.le_of_ble_eq_true rfl) rfl ?_
      refine c_w [2, 1, 0] (ls' := [(0, .ref 77), (1, .int (nI e)), (2, .int 0)]) rfl ?_
      rw [show (n_gv op (I 89 e) (n_m (n_lk R (I 83) n) 0) n G 4) = (n_G1 op (I 89 e) R G (I 83) n) from rfl]
      rw [show (n_ent (r_u (n_lk R (I 83) n) 41 1) 4 (-1) 0) = (n_R2 op (I 89 e) R (I 83) n) from by unfold n_R2; rw [if_neg h2, if_pos (by rw [← h41]; exact h3)]]
      have h := n_st_l I J (n_R2 op (I 89 e) R (I 83) n) (n_G1 op (I 89 e) R G (I 83) n) e he n hn hn4 op hop2 n 0 (by omega)
      exact h

set_option maxRecDepth 100000 in
theorem n_step_nl (I : Nat → Nat → Int32) (J : Nat → Nat → Int64) (R G : Nat → Int64) (n : Nat) (hn : I 77 2 = nI n) (hn4 : n ≤ 4) (hb : ¬ 0 ≤ R 39)  : ∀ (r i : Nat), i + r = n → m_W 127 2 [(0, .ref 77), (1, .int (nI i))] [] (I, (n_J J (n_lk R (I 83) i) G)) (m_E none (I, n_J J (r_u (n_lk R (I 83) n) 38 (R 38 + 1)) G)) := by
  intro r
  induction r with
  | zero =>
    intro i hir
    have hin : n = i := by omega
    subst hin
    refine c_run 3 (pc' := 7) (ls' := [(0, .ref 77), (1, .int (nI n))]) (st' := [.int (I 77 2), .int (nI n)]) (μ' := (I, (n_J J (n_lk R (I 83) n) G))) (Nat.le_of_ble_eq_true rfl) rfl ?_
    refine c_icge 52 (Nat.le_of_ble_eq_true rfl) rfl rfl (fun h1 => ?_) (fun h1 => absurd (by rw [hn]; exact nI_le (by omega) (by omega)) h1)
    refine c_w [0] (ls' := [(0, .ref 77)]) rfl ?_
    exact n_st_n I J R G n hn hn4 hb
  | succ r ih =>
    intro i hir
    refine c_run 3 (pc' := 7) (ls' := [(0, .ref 77), (1, .int (nI i))]) (st' := [.int (I 77 2), .int (nI i)]) (μ' := (I, (n_J J (n_lk R (I 83) i) G))) (Nat.le_of_ble_eq_true rfl) rfl ?_
    refine c_icge 52 (Nat.le_of_ble_eq_true rfl) rfl rfl (fun h1 => absurd h1 (by rw [hn]; exact nI_ge (by omega) (by omega))) (fun h1 => ?_)
    refine c_run 3 (pc' := 13) (ls' := [(0, .ref 77), (1, .int (nI i))]) (st' := [.int 0, .int (nI i), .ref 77]) (μ' := (I, (n_J J (n_lk R (I 83) i) G))) (Nat.le_of_ble_eq_true rfl) rfl ?_
    refine c_cv 101 [.int (nI i), .int 0] (b := 77) (r := []) (Nat.le_of_ble_eq_true rfl) rfl rfl rfl rfl rfl rfl (n_of I (n_J J (n_lk R (I 83) i) G) i 0 (by omega)) ?_
    rintro _ _ ⟨rfl, rfl⟩
    show m_W 127 16 [(0, .ref 77), (1, .int (nI i))] [.long ((n_lk R (I 83) i) (5 * i + 0))] (I, (n_J J (n_lk R (I 83) i) G)) _
    refine c_run 3 (pc' := 21) (ls' := [(0, .ref 77), (1, .int (nI i))]) (st' := [.int (nI i), .ref 83, .long ((n_lk R (I 83) i) (5 * i + 0))]) (μ' := (I, (n_J J (n_lk R (I 83) i) G))) (Nat.le_of_ble_eq_true rfl) rfl ?_
    refine c_ial i 4 (Nat.le_of_ble_eq_true rfl) rfl rfl rfl rfl rfl (by omega) ?_
    show m_W 127 22 [(0, .ref 77), (1, .int (nI i))] [.int (I 83 i), .long ((n_lk R (I 83) i) (5 * i + 0))] (I, (n_J J (n_lk R (I 83) i) G)) _
    refine c_run 13 (pc' := 37) (ls' := [(2, .long (((n_lk R (I 83) i) (5 * i + 0)) - (((I 83 i) : Int32).toInt64))), (0, .ref 77), (1, .int (nI i))]) (st' := [.int (lg_cmp (((n_lk R (I 83) i) (5 * i + 0)) - (((I 83 i) : Int32).toInt64)) 0), .int (((5 : Int32) * (nI i)) + (0 : Int32)), .ref 78]) (μ' := (I, (n_J J (n_lk R (I 83) i) G))) (Nat.le_of_ble_eq_true rfl) rfl ?_
    refine c_ifge 44 (Nat.le_of_ble_eq_true rfl) rfl rfl (fun h2 => ?_) (fun h2 => ?_)
    · replace h2 := lc_ge.mp h2
      refine c_run 1 (pc' := 45) (ls' := [(2, .long (((n_lk R (I 83) i) (5 * i + 0)) - (((I 83 i) : Int32).toInt64))), (0, .ref 77), (1, .int (nI i))]) (st' := [.long (((n_lk R (I 83) i) (5 * i + 0)) - (((I 83 i) : Int32).toInt64)), .int (((5 : Int32) * (nI i)) + (0 : Int32)), .ref 78]) (μ' := (I, (n_J J (n_lk R (I 83) i) G))) (Nat.le_of_ble_eq_true rfl) rfl ?_
      refine c_las (5 * i + 0) 140 (Nat.le_of_ble_eq_true rfl) rfl rfl rfl rfl (n_5w i 0) (by omega) ?_
      show m_W 127 46 [(2, .long (((n_lk R (I 83) i) (5 * i + 0)) - (((I 83 i) : Int32).toInt64))), (0, .ref 77), (1, .int (nI i))] [] (I, m_uj (n_J J (n_lk R (I 83) i) G) 78 (5 * i + 0) (((n_lk R (I 83) i) (5 * i + 0)) - (((I 83 i) : Int32).toInt64))) _
      rw [n_JR]
      show m_W 127 46 [(2, .long (((n_lk R (I 83) i) (5 * i + 0)) - (((I 83 i) : Int32).toInt64))), (0, .ref 77), (1, .int (nI i))] [] (I, (n_J J (r_u (n_lk R (I 83) i) (5 * i + 0) (((n_lk R (I 83) i) (5 * i + 0)) - (((I 83 i) : Int32).toInt64))) G)) _
      refine c_run 2 (pc' := 2) (ls' := [(1, .int ((nI i) + (1 : Int32))), (2, .long (((n_lk R (I 83) i) (5 * i + 0)) - (((I 83 i) : Int32).toInt64))), (0, .ref 77)]) (st' := []) (μ' := (I, (n_J J (r_u (n_lk R (I 83) i) (5 * i + 0) (((n_lk R (I 83) i) (5 * i + 0)) - (((I 83 i) : Int32).toInt64))) G))) (Nat.le_of_ble_eq_true rfl) rfl ?_
      refine c_w [2, 0] (ls' := [(0, .ref 77), (1, .int ((nI i) + (1 : Int32)))]) rfl ?_
      have hrow : (r_u (n_lk R (I 83) i) (5 * i + 0) (((n_lk R (I 83) i) (5 * i + 0)) - (((I 83 i) : Int32).toInt64))) = n_lk R (I 83) (i + 1) := by
        rw [n_lk, n_mx]
        first | rw [if_pos (by assumption)] | rw [if_neg (by assumption)]
      rw [nI_1 i, hrow]
      exact ih (i + 1) (by omega)
    · replace h2 := mt lc_ge.mpr h2
      refine c_run 2 (pc' := 45) (ls' := [(2, .long (((n_lk R (I 83) i) (5 * i + 0)) - (((I 83 i) : Int32).toInt64))), (0, .ref 77), (1, .int (nI i))]) (st' := [.long 0, .int (((5 : Int32) * (nI i)) + (0 : Int32)), .ref 78]) (μ' := (I, (n_J J (n_lk R (I 83) i) G))) (Nat.le_of_ble_eq_true rfl) rfl ?_
      refine c_las (5 * i + 0) 140 (Nat.le_of_ble_eq_true rfl) rfl rfl rfl rfl (n_5w i 0) (by omega) ?_
      show m_W 127 46 [(2, .long (((n_lk R (I 83) i) (5 * i + 0)) - (((I 83 i) : Int32).toInt64))), (0, .ref 77), (1, .int (nI i))] [] (I, m_uj (n_J J (n_lk R (I 83) i) G) 78 (5 * i + 0) 0) _
      rw [n_JR]
      show m_W 127 46 [(2, .long (((n_lk R (I 83) i) (5 * i + 0)) - (((I 83 i) : Int32).toInt64))), (0, .ref 77), (1, .int (nI i))] [] (I, (n_J J (r_u (n_lk R (I 83) i) (5 * i + 0) 0) G)) _
      refine c_run 2 (pc' := 2) (ls' := [(1, .int ((nI i) + (1 : Int32))), (2, .long (((n_lk R (I 83) i) (5 * i + 0)) - (((I 83 i) : Int32).toInt64))), (0, .ref 77)]) (st' := []) (μ' := (I, (n_J J (r_u (n_lk R (I 83) i) (5 * i + 0) 0) G))) (Nat.le_of_ble_eq_true rfl) rfl ?_
      refine c_w [2, 0] (ls' := [(0, .ref 77), (1, .int ((nI i) + (1 : Int32)))]) rfl ?_
      have hrow : (r_u (n_lk R (I 83) i) (5 * i + 0) 0) = n_lk R (I 83) (i + 1) := by
        rw [n_lk, n_mx]
        first | rw [if_pos (by assumption)] | rw [if_neg (by assumption)]
      rw [nI_1 i, hrow]
      exact ih (i + 1) (by omega)

set_option maxRecDepth 100000 in
theorem n_step_n (I : Nat → Nat → Int32) (J : Nat → Nat → Int64) (R G : Nat → Int64) (n : Nat) (hn : I 77 2 = nI n) (hn4 : n ≤ 4) (hb : ¬ 0 ≤ R 39)  : m_W 127 0 (lv_args 0 [.ref 77]) [] (I, (n_J J R G)) (m_E none (I, n_J J (r_u (n_lk R (I 83) n) 38 (R 38 + 1)) G)) := by
  show m_W 127 0 [(0, .ref 77)] [] (I, (n_J J R G)) _
  refine c_run 2 (pc' := 2) (ls' := [(1, .int 0), (0, .ref 77)]) (st' := []) (μ' := (I, (n_J J R G))) (Nat.le_of_ble_eq_true rfl) rfl ?_
  refine c_w [1, 0] (ls' := [(0, .ref 77), (1, .int 0)]) rfl ?_
  exact n_step_nl I J R G n hn hn4 hb n 0 (by omega)

set_option maxRecDepth 100000 in
theorem n_step_bl (I : Nat → Nat → Int32) (J : Nat → Nat → Int64) (R G : Nat → Int64) (e : Nat) (he : e < 6) (n : Nat) (hn : I 77 2 = nI n) (hn4 : n ≤ 4) (op : Int32) (hop : ∀ t, t < n → (n_op R e t ↔ ((op >>> (nI t &&& 31)) &&& (1 : Int32)) = 1)) (hb : R 39 = (nI e).toInt64)  : ∀ (r i : Nat), i + r = n → m_W 127 2 [(0, .ref 77), (1, .int (nI i))] [] (I, (n_J J (n_lk R (I 83) i) G)) (m_E none (I, n_J J (n_R6 op (I 89 e) R G (I 83) n e) (n_G2 op (I 89 e) R G (I 83) n e))) := by
  intro r
  induction r with
  | zero =>
    intro i hir
    have hin : n = i := by omega
    subst hin
    refine c_run 3 (pc' := 7) (ls' := [(0, .ref 77), (1, .int (nI n))]) (st' := [.int (I 77 2), .int (nI n)]) (μ' := (I, (n_J J (n_lk R (I 83) n) G))) (Nat.le_of_ble_eq_true rfl) rfl ?_
    refine c_icge 52 (Nat.le_of_ble_eq_true rfl) rfl rfl (fun h1 => ?_) (fun h1 => absurd (by rw [hn]; exact nI_le (by omega) (by omega)) h1)
    refine c_w [0] (ls' := [(0, .ref 77)]) rfl ?_
    exact n_st_b I J R G e he n hn hn4 op hop hb
  | succ r ih =>
    intro i hir
    refine c_run 3 (pc' := 7) (ls' := [(0, .ref 77), (1, .int (nI i))]) (st' := [.int (I 77 2), .int (nI i)]) (μ' := (I, (n_J J (n_lk R (I 83) i) G))) (Nat.le_of_ble_eq_true rfl) rfl ?_
    refine c_icge 52 (Nat.le_of_ble_eq_true rfl) rfl rfl (fun h1 => absurd h1 (by rw [hn]; exact nI_ge (by omega) (by omega))) (fun h1 => ?_)
    refine c_run 3 (pc' := 13) (ls' := [(0, .ref 77), (1, .int (nI i))]) (st' := [.int 0, .int (nI i), .ref 77]) (μ' := (I, (n_J J (n_lk R (I 83) i) G))) (Nat.le_of_ble_eq_true rfl) rfl ?_
    refine c_cv 101 [.int (nI i), .int 0] (b := 77) (r := []) (Nat.le_of_ble_eq_true rfl) rfl rfl rfl rfl rfl rfl (n_of I (n_J J (n_lk R (I 83) i) G) i 0 (by omega)) ?_
    rintro _ _ ⟨rfl, rfl⟩
    show m_W 127 16 [(0, .ref 77), (1, .int (nI i))] [.long ((n_lk R (I 83) i) (5 * i + 0))] (I, (n_J J (n_lk R (I 83) i) G)) _
    refine c_run 3 (pc' := 21) (ls' := [(0, .ref 77), (1, .int (nI i))]) (st' := [.int (nI i), .ref 83, .long ((n_lk R (I 83) i) (5 * i + 0))]) (μ' := (I, (n_J J (n_lk R (I 83) i) G))) (Nat.le_of_ble_eq_true rfl) rfl ?_
    refine c_ial i 4 (Nat.le_of_ble_eq_true rfl) rfl rfl rfl rfl rfl (by omega) ?_
    show m_W 127 22 [(0, .ref 77), (1, .int (nI i))] [.int (I 83 i), .long ((n_lk R (I 83) i) (5 * i + 0))] (I, (n_J J (n_lk R (I 83) i) G)) _
    refine c_run 13 (pc' := 37) (ls' := [(2, .long (((n_lk R (I 83) i) (5 * i + 0)) - (((I 83 i) : Int32).toInt64))), (0, .ref 77), (1, .int (nI i))]) (st' := [.int (lg_cmp (((n_lk R (I 83) i) (5 * i + 0)) - (((I 83 i) : Int32).toInt64)) 0), .int (((5 : Int32) * (nI i)) + (0 : Int32)), .ref 78]) (μ' := (I, (n_J J (n_lk R (I 83) i) G))) (Nat.le_of_ble_eq_true rfl) rfl ?_
    refine c_ifge 44 (Nat.le_of_ble_eq_true rfl) rfl rfl (fun h2 => ?_) (fun h2 => ?_)
    · replace h2 := lc_ge.mp h2
      refine c_run 1 (pc' := 45) (ls' := [(2, .long (((n_lk R (I 83) i) (5 * i + 0)) - (((I 83 i) : Int32).toInt64))), (0, .ref 77), (1, .int (nI i))]) (st' := [.long (((n_lk R (I 83) i) (5 * i + 0)) - (((I 83 i) : Int32).toInt64)), .int (((5 : Int32) * (nI i)) + (0 : Int32)), .ref 78]) (μ' := (I, (n_J J (n_lk R (I 83) i) G))) (Nat.le_of_ble_eq_true rfl) rfl ?_
      refine c_las (5 * i + 0) 140 (Nat.le_of_ble_eq_true rfl) rfl rfl rfl rfl (n_5w i 0) (by omega) ?_
      show m_W 127 46 [(2, .long (((n_lk R (I 83) i) (5 * i + 0)) - (((I 83 i) : Int32).toInt64))), (0, .ref 77), (1, .int (nI i))] [] (I, m_uj (n_J J (n_lk R (I 83) i) G) 78 (5 * i + 0) (((n_lk R (I 83) i) (5 * i + 0)) - (((I 83 i) : Int32).toInt64))) _
      rw [n_JR]
      show m_W 127 46 [(2, .long (((n_lk R (I 83) i) (5 * i + 0)) - (((I 83 i) : Int32).toInt64))), (0, .ref 77), (1, .int (nI i))] [] (I, (n_J J (r_u (n_lk R (I 83) i) (5 * i + 0) (((n_lk R (I 83) i) (5 * i + 0)) - (((I 83 i) : Int32).toInt64))) G)) _
      refine c_run 2 (pc' := 2) (ls' := [(1, .int ((nI i) + (1 : Int32))), (2, .long (((n_lk R (I 83) i) (5 * i + 0)) - (((I 83 i) : Int32).toInt64))), (0, .ref 77)]) (st' := []) (μ' := (I, (n_J J (r_u (n_lk R (I 83) i) (5 * i + 0) (((n_lk R (I 83) i) (5 * i + 0)) - (((I 83 i) : Int32).toInt64))) G))) (Nat.le_of_ble_eq_true rfl) rfl ?_
      refine c_w [2, 0] (ls' := [(0, .ref 77), (1, .int ((nI i) + (1 : Int32)))]) rfl ?_
      have hrow : (r_u (n_lk R (I 83) i) (5 * i + 0) (((n_lk R (I 83) i) (5 * i + 0)) - (((I 83 i) : Int32).toInt64))) = n_lk R (I 83) (i + 1) := by
        rw [n_lk, n_mx]
        first | rw [if_pos (by assumption)] | rw [if_neg (by assumption)]
      rw [nI_1 i, hrow]
      exact ih (i + 1) (by omega)
    · replace h2 := mt lc_ge.mpr h2
      refine c_run 2 (pc' := 45) (ls' := [(2, .long (((n_lk R (I 83) i) (5 * i + 0)) - (((I 83 i) : Int32).toInt64))), (0, .ref 77), (1, .int (nI i))]) (st' := [.long 0, .int (((5 : Int32) * (nI i)) + (0 : Int32)), .ref 78]) (μ' := (I, (n_J J (n_lk R (I 83) i) G))) (Nat.le_of_ble_eq_true rfl) rfl ?_
      refine c_las (5 * i + 0) 140 (Nat.le_of_ble_eq_true rfl) rfl rfl rfl rfl (n_5w i 0) (by omega) ?_
      show m_W 127 46 [(2, .long (((n_lk R (I 83) i) (5 * i + 0)) - (((I 83 i) : Int32).toInt64))), (0, .ref 77), (1, .int (nI i))] [] (I, m_uj (n_J J (n_lk R (I 83) i) G) 78 (5 * i + 0) 0) _
      rw [n_JR]
      show m_W 127 46 [(2, .long (((n_lk R (I 83) i) (5 * i + 0)) - (((I 83 i) : Int32).toInt64))), (0, .ref 77), (1, .int (nI i))] [] (I, (n_J J (r_u (n_lk R (I 83) i) (5 * i + 0) 0) G)) _
      refine c_run 2 (pc' := 2) (ls' := [(1, .int ((nI i) + (1 : Int32))), (2, .long (((n_lk R (I 83) i) (5 * i + 0)) - (((I 83 i) : Int32).toInt64))), (0, .ref 77)]) (st' := []) (μ' := (I, (n_J J (r_u (n_lk R (I 83) i) (5 * i + 0) 0) G))) (Nat.le_of_ble_eq_true rfl) rfl ?_
      refine c_w [2, 0] (ls' := [(0, .ref 77), (1, .int ((nI i) + (1 : Int32)))]) rfl ?_
      have hrow : (r_u (n_lk R (I 83) i) (5 * i + 0) 0) = n_lk R (I 83) (i + 1) := by
        rw [n_lk, n_mx]
        first | rw [if_pos (by assumption)] | rw [if_neg (by assumption)]
      rw [nI_1 i, hrow]
      exact ih (i + 1) (by omega)

set_option maxRecDepth 100000 in
theorem n_step_b (I : Nat → Nat → Int32) (J : Nat → Nat → Int64) (R G : Nat → Int64) (e : Nat) (he : e < 6) (n : Nat) (hn : I 77 2 = nI n) (hn4 : n ≤ 4) (op : Int32) (hop : ∀ t, t < n → (n_op R e t ↔ ((op >>> (nI t &&& 31)) &&& (1 : Int32)) = 1)) (hb : R 39 = (nI e).toInt64)  : m_W 127 0 (lv_args 0 [.ref 77]) [] (I, (n_J J R G)) (m_E none (I, n_J J (n_R6 op (I 89 e) R G (I 83) n e) (n_G2 op (I 89 e) R G (I 83) n e))) := by
  show m_W 127 0 [(0, .ref 77)] [] (I, (n_J J R G)) _
  refine c_run 2 (pc' := 2) (ls' := [(1, .int 0), (0, .ref 77)]) (st' := []) (μ' := (I, (n_J J R G))) (Nat.le_of_ble_eq_true rfl) rfl ?_
  refine c_w [1, 0] (ls' := [(0, .ref 77), (1, .int 0)]) rfl ?_
  exact n_step_bl I J R G e he n hn hn4 op hop hb n 0 (by omega)

