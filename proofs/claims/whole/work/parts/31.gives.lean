/-! THE MODEL: what tanks give, booking, a step -/
abbrev n_m (R : Nat → Int64) (w : Nat) : Nat → Int64 := fun t => R (5 * t + w)
theorem r_uu {R : Nat → Int64} {k : Nat} {v w : Int64} : r_u (r_u R k v) k w = r_u R k w := by
  funext j
  unfold r_u
  by_cases h : j = k <;> simp [h]
theorem n_no1 {op : Int32} {m : Nat → Int64} {i : Nat} (h : ¬ d_is op m i) : nI (d_cnt op m i) + (0 : Int32) = nI (d_cnt op m (i + 1)) := by
  rw [show (0 : Int32) = nI 0 from rfl, nI_add, Nat.add_zero]
  exact d_no1 h
/-- what each of the four gives -/
def n_g1 (op F : Int32) (m : Nat → Int64) (n t : Nat) : Int64 := if t < n then d_v op F m n t else 0
def n_gv (op F : Int32) (m : Nat → Int64) (n : Nat) (G : Nat → Int64) (i : Nat) : Nat → Int64 := fun t => if t < i then n_g1 op F m n t else G t
theorem n_gv_0 {op F : Int32} {m : Nat → Int64} {n : Nat} {G : Nat → Int64} : n_gv op F m n G 0 = G := by
  funext t
  exact if_neg (Nat.not_lt_zero t)
theorem n_gv_s {op F : Int32} {m : Nat → Int64} {n : Nat} {G : Nat → Int64} {i : Nat} {v : Int64} (h : v = n_g1 op F m n i) : r_u (n_gv op F m n G i) i v = n_gv op F m n G (i + 1) := by
  subst h
  funext t
  unfold r_u n_gv
  by_cases ht : t = i
  · subst ht
    rw [if_pos rfl, if_pos (Nat.lt_succ_self t)]
  · rw [if_neg ht]
    by_cases h : t < i
    · rw [if_pos h, if_pos (by omega)]
    · rw [if_neg h, if_neg (by omega)]
def n_re (op F : Int32) (m : Nat → Int64) (n i : Nat) : Int64 := if d_cnt op m n = 0 then 0 else d_re op F m n (min i n)
theorem n_re_o {op F : Int32} {m : Nat → Int64} {n i : Nat} (h : n ≤ i ∨ ¬ d_is op m i) : n_re op F m n i = n_re op F m n (i + 1) := by
  unfold n_re
  by_cases hi : n ≤ i
  · rw [show min i n = n by omega, show min (i + 1) n = n by omega]
  · rw [show min i n = i by omega, show min (i + 1) n = i + 1 by omega]
    unfold d_re
    rw [show d_cnt op m (i + 1) = d_cnt op m i from if_neg (h.resolve_left hi)]
theorem n_cnt_p {op : Int32} {m : Nat → Int64} {n i : Nat} (hi : i < n) (h : d_is op m i) : 0 < d_cnt op m n := by
  have h1 := d_cnt_mono op m (show i + 1 ≤ n from hi)
  rw [d_cnt, if_pos h] at h1
  omega
theorem n_re_y {op F : Int32} {m : Nat → Int64} {n i : Nat} (hi : i < n) (h : d_is op m i) : (0 : Int64) = n_re op F m n (i + 1) := by
  have := n_cnt_p hi h
  unfold n_re
  rw [if_neg (by omega), show min (i + 1) n = i + 1 by omega]
  exact d_yes2 h
theorem n_g1_y {op F : Int32} {m : Nat → Int64} {n i : Nat} (hi : i < n) (h : d_is op m i) : n_g1 op F m n i = d_mn (m i) ((F / nI (d_cnt op m n)).toInt64 + n_re op F m n i) := by
  have := n_cnt_p hi h
  unfold n_g1 n_re
  rw [if_pos hi, if_neg (by omega), show min i n = i by omega, d_v, if_pos h]
  rfl
theorem n_g1_n {op F : Int32} {m : Nat → Int64} {n i : Nat} (h : n ≤ i ∨ ¬ d_is op m i) : (0 : Int64) = n_g1 op F m n i := by
  unfold n_g1
  by_cases hi : i < n
  · rw [if_pos hi, d_v, if_neg (h.resolve_left (by omega))]
  · rw [if_neg hi]
def n_mx (y : Int64) : Int64 := if 0 ≤ y then y else 0
theorem n_mx_k (y : Int64) : n_mx y = k_mx y := by
  unfold n_mx k_mx
  by_cases h : 0 ≤ y
  · by_cases h2 : 0 < y
    · rw [if_pos h, if_pos h2]
    · rw [if_pos h, if_neg h2]
      exact Int64.le_antisymm (Int64.not_lt.mp h2) h
  · rw [if_neg h, if_neg (fun q => absurd (Int64.lt_trans (Int64.not_le.mp h) q) (Int64.lt_irrefl))]
def n_bk (R g : Nat → Int64) (e : Nat) : Nat → Nat → Int64
  | 0 => R
  | i + 1 => r_u (r_u (r_u (r_u (r_u (n_bk R g e i) (5 * i + 1) (n_bk R g e i (5 * i + 1) - g i)) (5 * i + 2) (n_mx (n_bk R g e i (5 * i + 2) - g i))) (5 * i + 4) (n_bk R g e i (5 * i + 4) + g i)) (20 + 3 * e + 1) (n_bk R g e i (20 + 3 * e + 1) + g i)) 139 (n_bk R g e i 139 + g i)
def n_lk (R : Nat → Int64) (L : Nat → Int32) : Nat → Nat → Int64
  | 0 => R
  | i + 1 => r_u (n_lk R L i) (5 * i + 0) (n_mx (n_lk R L i (5 * i + 0) - (L i).toInt64))
theorem n_lk_o {R : Nat → Int64} {L : Nat → Int32} {k : Nat} : ∀ {i : Nat}, i ≤ 4 → 20 ≤ k ∨ k % 5 ≠ 0 → n_lk R L i k = R k
  | 0, _, _ => rfl
  | i + 1, hi, hk => by rw [n_lk, r_un (by omega)]; exact n_lk_o (by omega) hk
def n_dl (R g : Nat → Int64) (e : Nat) : Nat → Nat → Int64
  | 0 => R
  | i + 1 => r_u (r_u (n_dl R g e i) (5 * i + 0) (n_dl R g e i (5 * i + 0) - g i)) (20 + 3 * e + 2) (n_dl R g e i (20 + 3 * e + 2) + g i)
theorem n_dl_o {R g : Nat → Int64} {e k : Nat} (he : e < 6) : ∀ {i : Nat}, i ≤ 4 → (20 ≤ k ∨ k % 5 ≠ 0) → k ≠ 20 + 3 * e + 2 → n_dl R g e i k = R k
  | 0, _, _, _ => rfl
  | i + 1, hi, hk, h2 => by rw [n_dl, r_un h2, r_un (by omega)]; exact n_dl_o he (by omega) hk h2
theorem n_bk_o {R g : Nat → Int64} {e k : Nat} (he : e < 6) : ∀ {i : Nat}, i ≤ 4 → (20 ≤ k ∨ (k % 5 ≠ 1 ∧ k % 5 ≠ 2 ∧ k % 5 ≠ 4)) → k ≠ 20 + 3 * e + 1 → k ≠ 139 → n_bk R g e i k = R k
  | 0, _, _, _, _ => rfl
  | i + 1, hi, hk, h2, h3 => by rw [n_bk, r_un h3, r_un h2, r_un (by omega), r_un (by omega), r_un (by omega)]; exact n_bk_o he (by omega) hk h2 h3
theorem n_ent_o {R : Nat → Int64} {kd t : Int32} {a : Int64} {k : Nat} (h : k < 42 ∨ 138 < k) : n_ent R kd t a k = R k := by
  unfold n_ent n_sh4
  rw [if_neg (by omega), if_neg (by omega), if_neg (by omega), if_neg (by omega), if_neg (by omega), if_neg (by omega)]
/-- a step: the rows one after another -/
def n_G1 (op F : Int32) (R G : Nat → Int64) (L : Nat → Int32) (n : Nat) : Nat → Int64 := n_gv op F (n_m (n_lk R L n) 0) n G 4
def n_R2 (op F : Int32) (R : Nat → Int64) (L : Nat → Int32) (n : Nat) : Nat → Int64 := if 0 < d_cnt op (n_m (n_lk R L n) 0) n then n_lk R L n else (if R 41 = 0 then n_ent (r_u (n_lk R L n) 41 1) 4 (-1) 0 else n_lk R L n)
def n_R3 (op F : Int32) (R G : Nat → Int64) (L : Nat → Int32) (n e : Nat) : Nat → Int64 := n_dl (n_R2 op F R L n) (n_G1 op F R G L n) e n
def n_G2 (op F : Int32) (R G : Nat → Int64) (L : Nat → Int32) (n e : Nat) : Nat → Int64 := n_gv op F (n_m (n_R3 op F R G L n e) 1) n (n_G1 op F R G L n) 4
def n_R4 (op F : Int32) (R G : Nat → Int64) (L : Nat → Int32) (n e : Nat) : Nat → Int64 := n_bk (n_R3 op F R G L n e) (n_G2 op F R G L n e) e n
def n_R6 (op F : Int32) (R G : Nat → Int64) (L : Nat → Int32) (n e : Nat) : Nat → Int64 := r_u (r_u (n_R4 op F R G L n e) 40 (n_R4 op F R G L n e 40 + 1)) 38 (n_R4 op F R G L n e 38 + 1)
theorem n_R2_o {op F : Int32} {R : Nat → Int64} {L : Nat → Int32} {n k : Nat} (hn : n ≤ 4) (h : k < 41 ∨ 138 < k) (h2 : 20 ≤ k ∨ k % 5 ≠ 0) : n_R2 op F R L n k = R k := by
  unfold n_R2
  split
  · exact n_lk_o hn h2
  · split
    · rw [n_ent_o (by omega), r_un (by omega)]; exact n_lk_o hn h2
    · exact n_lk_o hn h2
theorem n_R3_o {op F : Int32} {R G : Nat → Int64} {L : Nat → Int32} {n e k : Nat} (hn : n ≤ 4) (he : e < 6) (h : k < 41 ∨ 138 < k) (h2 : 20 ≤ k ∨ k % 5 ≠ 0) (h3 : k ≠ 20 + 3 * e + 2) : n_R3 op F R G L n e k = R k := by
  unfold n_R3
  rw [n_dl_o he hn h2 h3]
  exact n_R2_o hn h h2

set_option maxRecDepth 100000 in
theorem n_gv_l (I : Nat → Nat → Int32) (J : Nat → Nat → Int64) (R G : Nat → Int64) (e : Nat) (he : e < 6) (n : Nat) (hn : I 77 2 = nI n) (hn4 : n ≤ 4) (op : Int32) (hop : ∀ t, t < n → (n_op R e t ↔ ((op >>> (nI t &&& 31)) &&& (1 : Int32)) = 1)) (w : Nat) (hw : w < 5) (hC : (d_cnt op (n_m R w) n) ≤ 4)  : ∀ (r i : Nat), i + r = 4 → m_W 124 72 [(0, .ref 77), (1, .int (nI e)), (2, .int (nI w)), (3, .int (nI (d_cnt op (n_m R w) n))), (4, .long (n_re op (I 89 e) (n_m R w) n i)), (6, .int (nI i))] [] (I, (n_J J R (n_gv op (I 89 e) (n_m R w) n G i))) (m_E (some (.int (s01 (0 < (d_cnt op (n_m R w) n))))) (I, n_J J R (n_gv op (I 89 e) (n_m R w) n G 4))) := by
  intro r
  induction r with
  | zero =>
    intro i hir
    have hi4 : 4 = i := by omega
    subst hi4
    refine c_run 2 (pc' := 75) (ls' := [(0, .ref 77), (1, .int (nI e)), (2, .int (nI w)), (3, .int (nI (d_cnt op (n_m R w) n))), (4, .long (n_re op (I 89 e) (n_m R w) n 4)), (6, .int (nI 4))]) (st' := [.int 4, .int (nI 4)]) (μ' := (I, (n_J J R (n_gv op (I 89 e) (n_m R w) n G 4)))) (Nat.le_of_ble_eq_true rfl) rfl ?_
    refine c_icge 172 (Nat.le_of_ble_eq_true rfl) rfl rfl (fun h1 => ?_) (fun h1 => absurd (by decide) h1)
    refine c_run 1 (pc' := 173) (ls' := [(0, .ref 77), (1, .int (nI e)), (2, .int (nI w)), (3, .int (nI (d_cnt op (n_m R w) n))), (4, .long (n_re op (I 89 e) (n_m R w) n 4)), (6, .int (nI 4))]) (st' := [.int (nI (d_cnt op (n_m R w) n))]) (μ' := (I, (n_J J R (n_gv op (I 89 e) (n_m R w) n G 4)))) (Nat.le_of_ble_eq_true rfl) rfl ?_
    refine c_ifle 180 (Nat.le_of_ble_eq_true rfl) rfl rfl (fun h2 => ?_) (fun h2 => ?_)
    · skip
      refine c_run 1 (pc' := 181) (ls' := [(0, .ref 77), (1, .int (nI e)), (2, .int (nI w)), (3, .int (nI (d_cnt op (n_m R w) n))), (4, .long (n_re op (I 89 e) (n_m R w) n 4)), (6, .int (nI 4))]) (st' := [.int 0]) (μ' := (I, (n_J J R (n_gv op (I 89 e) (n_m R w) n G 4)))) (Nat.le_of_ble_eq_true rfl) rfl ?_
      refine c_ret (Nat.le_of_ble_eq_true rfl) rfl rfl ⟨by decide, rfl⟩ ?_
      refine ⟨?_, rfl⟩
      first
        | exact congrArg (fun z => some (Value.int z)) (s01_t ((p_nI (by omega)).mp (by assumption))).symm
        | exact congrArg (fun z => some (Value.int z)) (s01_f (fun q => absurd (by assumption) ((p_nI (by omega)).mpr q))).symm
    · skip
      refine c_run 2 (pc' := 181) (ls' := [(0, .ref 77), (1, .int (nI e)), (2, .int (nI w)), (3, .int (nI (d_cnt op (n_m R w) n))), (4, .long (n_re op (I 89 e) (n_m R w) n 4)), (6, .int (nI 4))]) (st' := [.int 1]) (μ' := (I, (n_J J R (n_gv op (I 89 e) (n_m R w) n G 4)))) (Nat.le_of_ble_eq_true rfl) rfl ?_
      refine c_ret (Nat.le_of_ble_eq_true rfl) rfl rfl ⟨by decide, rfl⟩ ?_
      refine ⟨?_, rfl⟩
      first
        | exact congrArg (fun z => some (Value.int z)) (s01_t ((p_nI (by omega)).mp (by assumption))).symm
        | exact congrArg (fun z => some (Value.int z)) (s01_f (fun q => absurd (by assumption) ((p_nI (by omega)).mpr q))).symm
  | succ r ih =>
    intro i hir
    refine c_run 2 (pc' := 75) (ls' := [(0, .ref 77), (1, .int (nI e)), (2, .int (nI w)), (3, .int (nI (d_cnt op (n_m R w) n))), (4, .long (n_re op (I 89 e) (n_m R w) n i)), (6, .int (nI i))]) (st' := [.int 4, .int (nI i)]) (μ' := (I, (n_J J R (n_gv op (I 89 e) (n_m R w) n G i)))) (Nat.le_of_ble_eq_true rfl) rfl ?_
    refine c_icge 172 (Nat.le_of_ble_eq_true rfl) rfl rfl (fun h1 => absurd h1 (show ¬ nI 4 ≤ nI i from nI_ge (by omega) (by omega))) (fun h1 => ?_)
    refine c_run 4 (pc' := 85) (ls' := [(0, .ref 77), (1, .int (nI e)), (2, .int (nI w)), (3, .int (nI (d_cnt op (n_m R w) n))), (4, .long (n_re op (I 89 e) (n_m R w) n i)), (6, .int (nI i))]) (st' := [.long 0, .int (nI i), .ref 94]) (μ' := (I, (n_J J R (n_gv op (I 89 e) (n_m R w) n G i)))) (Nat.le_of_ble_eq_true rfl) rfl ?_
    refine c_las i 4 (Nat.le_of_ble_eq_true rfl) rfl rfl rfl rfl rfl (by omega) ?_
    show m_W 124 86 [(0, .ref 77), (1, .int (nI e)), (2, .int (nI w)), (3, .int (nI (d_cnt op (n_m R w) n))), (4, .long (n_re op (I 89 e) (n_m R w) n i)), (6, .int (nI i))] [] (I, m_uj (n_J J R (n_gv op (I 89 e) (n_m R w) n G i)) 94 i 0) _
    rw [n_JG]
    show m_W 124 86 [(0, .ref 77), (1, .int (nI e)), (2, .int (nI w)), (3, .int (nI (d_cnt op (n_m R w) n))), (4, .long (n_re op (I 89 e) (n_m R w) n i)), (6, .int (nI i))] [] (I, (n_J J R (r_u (n_gv op (I 89 e) (n_m R w) n G i) i 0))) _
    refine c_run 3 (pc' := 92) (ls' := [(0, .ref 77), (1, .int (nI e)), (2, .int (nI w)), (3, .int (nI (d_cnt op (n_m R w) n))), (4, .long (n_re op (I 89 e) (n_m R w) n i)), (6, .int (nI i))]) (st' := [.int (I 77 2), .int (nI i)]) (μ' := (I, (n_J J R (r_u (n_gv op (I 89 e) (n_m R w) n G i) i 0)))) (Nat.le_of_ble_eq_true rfl) rfl ?_
    refine c_icge 166 (Nat.le_of_ble_eq_true rfl) rfl rfl (fun h2 => ?_) (fun h2 => ?_)
    · skip
      refine c_run 2 (pc' := 72) (ls' := [(6, .int ((nI i) + (1 : Int32))), (0, .ref 77), (1, .int (nI e)), (2, .int (nI w)), (3, .int (nI (d_cnt op (n_m R w) n))), (4, .long (n_re op (I 89 e) (n_m R w) n i))]) (st' := []) (μ' := (I, (n_J J R (r_u (n_gv op (I 89 e) (n_m R w) n G i) i 0)))) (Nat.le_of_ble_eq_true rfl) rfl ?_
      refine c_w [1, 2, 3, 4, 5, 0] (ls' := [(0, .ref 77), (1, .int (nI e)), (2, .int (nI w)), (3, .int (nI (d_cnt op (n_m R w) n))), (4, .long (n_re op (I 89 e) (n_m R w) n i)), (6, .int ((nI i) + (1 : Int32)))]) rfl ?_
      have hno : n ≤ i ∨ ¬ d_is op (n_m R w) i := by
        first
          | exact Or.inl (Nat.le_of_not_lt (fun q => absurd (show nI n ≤ nI i by rw [← hn]; assumption) (nI_ge q (by omega))))
          | exact Or.inr (fun q => absurd ((hop i (by first | assumption | exact (nI_ltI (by omega) (by omega)).mp (by rw [← hn]; exact Int32.not_le.mp (by assumption)))).mpr q.1) (by assumption))
          | exact Or.inr (fun q => absurd (by assumption) q.2)
      rw [nI_1 i, n_gv_s (n_g1_n hno), n_re_o hno]
      exact ih (i + 1) (by omega)
    · skip
      refine c_run 3 (pc' := 99) (ls' := [(0, .ref 77), (1, .int (nI e)), (2, .int (nI w)), (3, .int (nI (d_cnt op (n_m R w) n))), (4, .long (n_re op (I 89 e) (n_m R w) n i)), (6, .int (nI i))]) (st' := [.int (nI i), .int (nI e), .ref 77]) (μ' := (I, (n_J J R (r_u (n_gv op (I 89 e) (n_m R w) n G i) i 0)))) (Nat.le_of_ble_eq_true rfl) rfl ?_
      refine c_cv 125 [.int (nI e), .int (nI i)] (b := 77) (r := []) (Nat.le_of_ble_eq_true rfl) rfl rfl rfl rfl rfl rfl (n_isOpen I J R (r_u (n_gv op (I 89 e) (n_m R w) n G i) i 0) e i (by omega)) ?_
      rintro _ _ ⟨rfl, rfl⟩
      show m_W 124 102 [(0, .ref 77), (1, .int (nI e)), (2, .int (nI w)), (3, .int (nI (d_cnt op (n_m R w) n))), (4, .long (n_re op (I 89 e) (n_m R w) n i)), (6, .int (nI i))] [.int (s01 (n_op R e i))] (I, (n_J J R (r_u (n_gv op (I 89 e) (n_m R w) n G i) i 0))) _
      refine c_ifeq 166 (Nat.le_of_ble_eq_true rfl) rfl rfl (fun h3 => ?_) (fun h3 => ?_)
      · replace h3 := s01_0.mp h3
        refine c_run 2 (pc' := 72) (ls' := [(6, .int ((nI i) + (1 : Int32))), (0, .ref 77), (1, .int (nI e)), (2, .int (nI w)), (3, .int (nI (d_cnt op (n_m R w) n))), (4, .long (n_re op (I 89 e) (n_m R w) n i))]) (st' := []) (μ' := (I, (n_J J R (r_u (n_gv op (I 89 e) (n_m R w) n G i) i 0)))) (Nat.le_of_ble_eq_true rfl) rfl ?_
        refine c_w [1, 2, 3, 4, 5, 0] (ls' := [(0, .ref 77), (1, .int (nI e)), (2, .int (nI w)), (3, .int (nI (d_cnt op (n_m R w) n))), (4, .long (n_re op (I 89 e) (n_m R w) n i)), (6, .int ((nI i) + (1 : Int32)))]) rfl ?_
        have hno : n ≤ i ∨ ¬ d_is op (n_m R w) i := by
          first
            | exact Or.inl (Nat.le_of_not_lt (fun q => absurd (show nI n ≤ nI i by rw [← hn]; assumption) (nI_ge q (by omega))))
            | exact Or.inr (fun q => absurd ((hop i (by first | assumption | exact (nI_ltI (by omega) (by omega)).mp (by rw [← hn]; exact Int32.not_le.mp (by assumption)))).mpr q.1) (by assumption))
            | exact Or.inr (fun q => absurd (by assumption) q.2)
        rw [nI_1 i, n_gv_s (n_g1_n hno), n_re_o hno]
        exact ih (i + 1) (by omega)
      · replace h3 := s01_1.mp h3
        refine c_run 3 (pc' := 109) (ls' := [(0, .ref 77), (1, .int (nI e)), (2, .int (nI w)), (3, .int (nI (d_cnt op (n_m R w) n))), (4, .long (n_re op (I 89 e) (n_m R w) n i)), (6, .int (nI i))]) (st' := [.int (nI w), .int (nI i), .ref 77]) (μ' := (I, (n_J J R (r_u (n_gv op (I 89 e) (n_m R w) n G i) i 0)))) (Nat.le_of_ble_eq_true rfl) rfl ?_
        refine c_cv 101 [.int (nI i), .int (nI w)] (b := 77) (r := []) (Nat.le_of_ble_eq_true rfl) rfl rfl rfl rfl rfl rfl (n_of I (n_J J R (r_u (n_gv op (I 89 e) (n_m R w) n G i) i 0)) i w (by omega)) ?_
        rintro _ _ ⟨rfl, rfl⟩
        show m_W 124 112 [(0, .ref 77), (1, .int (nI e)), (2, .int (nI w)), (3, .int (nI (d_cnt op (n_m R w) n))), (4, .long (n_re op (I 89 e) (n_m R w) n i)), (6, .int (nI i))] [.long (R (5 * i + w))] (I, (n_J J R (r_u (n_gv op (I 89 e) (n_m R w) n G i) i 0))) _
        refine c_run 2 (pc' := 114) (ls' := [(0, .ref 77), (1, .int (nI e)), (2, .int (nI w)), (3, .int (nI (d_cnt op (n_m R w) n))), (4, .long (n_re op (I 89 e) (n_m R w) n i)), (6, .int (nI i))]) (st' := [.int (lg_cmp (R (5 * i + w)) 0)]) (μ' := (I, (n_J J R (r_u (n_gv op (I 89 e) (n_m R w) n G i) i 0)))) (Nat.le_of_ble_eq_true rfl) rfl ?_
        refine c_ifle 166 (Nat.le_of_ble_eq_true rfl) rfl rfl (fun h4 => ?_) (fun h4 => ?_)
        · replace h4 := lc_le.mp h4
          refine c_run 2 (pc' := 72) (ls' := [(6, .int ((nI i) + (1 : Int32))), (0, .ref 77), (1, .int (nI e)), (2, .int (nI w)), (3, .int (nI (d_cnt op (n_m R w) n))), (4, .long (n_re op (I 89 e) (n_m R w) n i))]) (st' := []) (μ' := (I, (n_J J R (r_u (n_gv op (I 89 e) (n_m R w) n G i) i 0)))) (Nat.le_of_ble_eq_true rfl) rfl ?_
          refine c_w [1, 2, 3, 4, 5, 0] (ls' := [(0, .ref 77), (1, .int (nI e)), (2, .int (nI w)), (3, .int (nI (d_cnt op (n_m R w) n))), (4, .long (n_re op (I 89 e) (n_m R w) n i)), (6, .int ((nI i) + (1 : Int32)))]) rfl ?_
          have hno : n ≤ i ∨ ¬ d_is op (n_m R w) i := by
            first
              | exact Or.inl (Nat.le_of_not_lt (fun q => absurd (show nI n ≤ nI i by rw [← hn]; assumption) (nI_ge q (by omega))))
              | exact Or.inr (fun q => absurd ((hop i (by first | assumption | exact (nI_ltI (by omega) (by omega)).mp (by rw [← hn]; exact Int32.not_le.mp (by assumption)))).mpr q.1) (by assumption))
              | exact Or.inr (fun q => absurd (by assumption) q.2)
          rw [nI_1 i, n_gv_s (n_g1_n hno), n_re_o hno]
          exact ih (i + 1) (by omega)
        · replace h4 := mt lc_le.mpr h4
          refine c_run 3 (pc' := 122) (ls' := [(0, .ref 77), (1, .int (nI e)), (2, .int (nI w)), (3, .int (nI (d_cnt op (n_m R w) n))), (4, .long (n_re op (I 89 e) (n_m R w) n i)), (6, .int (nI i))]) (st' := [.int (nI e), .ref 89]) (μ' := (I, (n_J J R (r_u (n_gv op (I 89 e) (n_m R w) n G i) i 0)))) (Nat.le_of_ble_eq_true rfl) rfl ?_
          refine c_ial e 6 (Nat.le_of_ble_eq_true rfl) rfl rfl rfl rfl rfl (by omega) ?_
          show m_W 124 123 [(0, .ref 77), (1, .int (nI e)), (2, .int (nI w)), (3, .int (nI (d_cnt op (n_m R w) n))), (4, .long (n_re op (I 89 e) (n_m R w) n i)), (6, .int (nI i))] [.int (I 89 e)] (I, (n_J J R (r_u (n_gv op (I 89 e) (n_m R w) n G i) i 0))) _
          refine c_run 1 (pc' := 124) (ls' := [(0, .ref 77), (1, .int (nI e)), (2, .int (nI w)), (3, .int (nI (d_cnt op (n_m R w) n))), (4, .long (n_re op (I 89 e) (n_m R w) n i)), (6, .int (nI i))]) (st' := [.int (nI (d_cnt op (n_m R w) n)), .int (I 89 e)]) (μ' := (I, (n_J J R (r_u (n_gv op (I 89 e) (n_m R w) n G i) i 0)))) (Nat.le_of_ble_eq_true rfl) rfl ?_
          refine c_idiv (Nat.le_of_ble_eq_true rfl) rfl (by first | exact nI_ne0 (n_cnt_p ((nI_ltI (by omega) (by omega)).mp (by rw [← hn]; exact Int32.not_le.mp (by assumption))) ⟨(hop i ((nI_ltI (by omega) (by omega)).mp (by rw [← hn]; exact Int32.not_le.mp (by assumption)))).mp (by assumption), by assumption⟩) (by omega)) ?_
          refine c_run 13 (pc' := 146) (ls' := [(4, .long 0), (7, .long (((((I 89 e) / (nI (d_cnt op (n_m R w) n))) : Int32).toInt64) + (n_re op (I 89 e) (n_m R w) n i))), (0, .ref 77), (1, .int (nI e)), (2, .int (nI w)), (3, .int (nI (d_cnt op (n_m R w) n))), (6, .int (nI i))]) (st' := [.int (nI w), .int (nI i), .ref 77, .long (((((I 89 e) / (nI (d_cnt op (n_m R w) n))) : Int32).toInt64) + (n_re op (I 89 e) (n_m R w) n i)), .int (nI i), .ref 94]) (μ' := (I, (n_J J R (r_u (n_gv op (I 89 e) (n_m R w) n G i) i 0)))) (Nat.le_of_ble_eq_true rfl) rfl ?_
          refine c_cv 101 [.int (nI i), .int (nI w)] (b := 77) (r := [.long (((((I 89 e) / (nI (d_cnt op (n_m R w) n))) : Int32).toInt64) + (n_re op (I 89 e) (n_m R w) n i)), .int (nI i), .ref 94]) (Nat.le_of_ble_eq_true rfl) rfl rfl rfl rfl rfl rfl (n_of I (n_J J R (r_u (n_gv op (I 89 e) (n_m R w) n G i) i 0)) i w (by omega)) ?_
          rintro _ _ ⟨rfl, rfl⟩
          show m_W 124 149 [(4, .long 0), (7, .long (((((I 89 e) / (nI (d_cnt op (n_m R w) n))) : Int32).toInt64) + (n_re op (I 89 e) (n_m R w) n i))), (0, .ref 77), (1, .int (nI e)), (2, .int (nI w)), (3, .int (nI (d_cnt op (n_m R w) n))), (6, .int (nI i))] [.long (R (5 * i + w)), .long (((((I 89 e) / (nI (d_cnt op (n_m R w) n))) : Int32).toInt64) + (n_re op (I 89 e) (n_m R w) n i)), .int (nI i), .ref 94] (I, (n_J J R (r_u (n_gv op (I 89 e) (n_m R w) n G i) i 0))) _
          refine c_run 1 (pc' := 150) (ls' := [(4, .long 0), (7, .long (((((I 89 e) / (nI (d_cnt op (n_m R w) n))) : Int32).toInt64) + (n_re op (I 89 e) (n_m R w) n i))), (0, .ref 77), (1, .int (nI e)), (2, .int (nI w)), (3, .int (nI (d_cnt op (n_m R w) n))), (6, .int (nI i))]) (st' := [.int (lg_cmp (((((I 89 e) / (nI (d_cnt op (n_m R w) n))) : Int32).toInt64) + (n_re op (I 89 e) (n_m R w) n i)) (R (5 * i + w))), .int (nI i), .ref 94]) (μ' := (I, (n_J J R (r_u (n_gv op (I 89 e) (n_m R w) n G i) i 0)))) (Nat.le_of_ble_eq_true rfl) rfl ?_
          refine c_ifge 158 (Nat.le_of_ble_eq_true rfl) rfl rfl (fun h5 => ?_) (fun h5 => ?_)
          · replace h5 := lc_ge.mp h5
            refine c_run 3 (pc' := 162) (ls' := [(4, .long 0), (7, .long (((((I 89 e) / (nI (d_cnt op (n_m R w) n))) : Int32).toInt64) + (n_re op (I 89 e) (n_m R w) n i))), (0, .ref 77), (1, .int (nI e)), (2, .int (nI w)), (3, .int (nI (d_cnt op (n_m R w) n))), (6, .int (nI i))]) (st' := [.int (nI w), .int (nI i), .ref 77, .int (nI i), .ref 94]) (μ' := (I, (n_J J R (r_u (n_gv op (I 89 e) (n_m R w) n G i) i 0)))) (Nat.le_of_ble_eq_true rfl) rfl ?_
            refine c_cv 101 [.int (nI i), .int (nI w)] (b := 77) (r := [.int (nI i), .ref 94]) (Nat.le_of_ble_eq_true rfl) rfl rfl rfl rfl rfl rfl (n_of I (n_J J R (r_u (n_gv op (I 89 e) (n_m R w) n G i) i 0)) i w (by omega)) ?_
            rintro _ _ ⟨rfl, rfl⟩
            show m_W 124 165 [(4, .long 0), (7, .long (((((I 89 e) / (nI (d_cnt op (n_m R w) n))) : Int32).toInt64) + (n_re op (I 89 e) (n_m R w) n i))), (0, .ref 77), (1, .int (nI e)), (2, .int (nI w)), (3, .int (nI (d_cnt op (n_m R w) n))), (6, .int (nI i))] [.long (R (5 * i + w)), .int (nI i), .ref 94] (I, (n_J J R (r_u (n_gv op (I 89 e) (n_m R w) n G i) i 0))) _
            refine c_las i 4 (Nat.le_of_ble_eq_true rfl) rfl rfl rfl rfl rfl (by omega) ?_
            show m_W 124 166 [(4, .long 0), (7, .long (((((I 89 e) / (nI (d_cnt op (n_m R w) n))) : Int32).toInt64) + (n_re op (I 89 e) (n_m R w) n i))), (0, .ref 77), (1, .int (nI e)), (2, .int (nI w)), (3, .int (nI (d_cnt op (n_m R w) n))), (6, .int (nI i))] [] (I, m_uj (n_J J R (r_u (n_gv op (I 89 e) (n_m R w) n G i) i 0)) 94 i (R (5 * i + w))) _
            rw [n_JG]
            show m_W 124 166 [(4, .long 0), (7, .long (((((I 89 e) / (nI (d_cnt op (n_m R w) n))) : Int32).toInt64) + (n_re op (I 89 e) (n_m R w) n i))), (0, .ref 77), (1, .int (nI e)), (2, .int (nI w)), (3, .int (nI (d_cnt op (n_m R w) n))), (6, .int (nI i))] [] (I, (n_J J R (r_u (r_u (n_gv op (I 89 e) (n_m R w) n G i) i 0) i (R (5 * i + w))))) _
            refine c_run 2 (pc' := 72) (ls' := [(6, .int ((nI i) + (1 : Int32))), (4, .long 0), (7, .long (((((I 89 e) / (nI (d_cnt op (n_m R w) n))) : Int32).toInt64) + (n_re op (I 89 e) (n_m R w) n i))), (0, .ref 77), (1, .int (nI e)), (2, .int (nI w)), (3, .int (nI (d_cnt op (n_m R w) n)))]) (st' := []) (μ' := (I, (n_J J R (r_u (r_u (n_gv op (I 89 e) (n_m R w) n G i) i 0) i (R (5 * i + w)))))) (Nat.le_of_ble_eq_true rfl) rfl ?_
            refine c_w [3, 4, 5, 6, 1, 0] (ls' := [(0, .ref 77), (1, .int (nI e)), (2, .int (nI w)), (3, .int (nI (d_cnt op (n_m R w) n))), (4, .long 0), (6, .int ((nI i) + (1 : Int32)))]) rfl ?_
            have hin : i < n := (nI_ltI (by omega) (by omega)).mp (by rw [← hn]; exact Int32.not_le.mp (by assumption))
            have hd : d_is op (n_m R w) i := ⟨(hop i hin).mp (by assumption), by assumption⟩
            rw [nI_1 i, r_uu, n_gv_s (by rw [n_g1_y hin hd, d_mn]; exact (if_neg (Int64.not_lt.mpr h5)).symm), show (0 : Int64) = n_re op (I 89 e) (n_m R w) n (i + 1) from n_re_y hin hd]
            exact ih (i + 1) (by omega)
          · replace h5 := mt lc_ge.mpr h5
            refine c_run 2 (pc' := 165) (ls' := [(4, .long 0), (7, .long (((((I 89 e) / (nI (d_cnt op (n_m R w) n))) : Int32).toInt64) + (n_re op (I 89 e) (n_m R w) n i))), (0, .ref 77), (1, .int (nI e)), (2, .int (nI w)), (3, .int (nI (d_cnt op (n_m R w) n))), (6, .int (nI i))]) (st' := [.long (((((I 89 e) / (nI (d_cnt op (n_m R w) n))) : Int32).toInt64) + (n_re op (I 89 e) (n_m R w) n i)), .int (nI i), .ref 94]) (μ' := (I, (n_J J R (r_u (n_gv op (I 89 e) (n_m R w) n G i) i 0)))) (Nat.le_of_ble_eq_true rfl) rfl ?_
            refine c_las i 4 (Nat.le_of_ble_eq_true rfl) rfl rfl rfl rfl rfl (by omega) ?_
            show m_W 124 166 [(4, .long 0), (7, .long (((((I 89 e) / (nI (d_cnt op (n_m R w) n))) : Int32).toInt64) + (n_re op (I 89 e) (n_m R w) n i))), (0, .ref 77), (1, .int (nI e)), (2, .int (nI w)), (3, .int (nI (d_cnt op (n_m R w) n))), (6, .int (nI i))] [] (I, m_uj (n_J J R (r_u (n_gv op (I 89 e) (n_m R w) n G i) i 0)) 94 i (((((I 89 e) / (nI (d_cnt op (n_m R w) n))) : Int32).toInt64) + (n_re op (I 89 e) (n_m R w) n i))) _
            rw [n_JG]
            show m_W 124 166 [(4, .long 0), (7, .long (((((I 89 e) / (nI (d_cnt op (n_m R w) n))) : Int32).toInt64) + (n_re op (I 89 e) (n_m R w) n i))), (0, .ref 77), (1, .int (nI e)), (2, .int (nI w)), (3, .int (nI (d_cnt op (n_m R w) n))), (6, .int (nI i))] [] (I, (n_J J R (r_u (r_u (n_gv op (I 89 e) (n_m R w) n G i) i 0) i (((((I 89 e) / (nI (d_cnt op (n_m R w) n))) : Int32).toInt64) + (n_re op (I 89 e) (n_m R w) n i))))) _
            refine c_run 2 (pc' := 72) (ls' := [(6, .int ((nI i) + (1 : Int32))), (4, .long 0), (7, .long (((((I 89 e) / (nI (d_cnt op (n_m R w) n))) : Int32).toInt64) + (n_re op (I 89 e) (n_m R w) n i))), (0, .ref 77), (1, .int (nI e)), (2, .int (nI w)), (3, .int (nI (d_cnt op (n_m R w) n)))]) (st' := []) (μ' := (I, (n_J J R (r_u (r_u (n_gv op (I 89 e) (n_m R w) n G i) i 0) i (((((I 89 e) / (nI (d_cnt op (n_m R w) n))) : Int32).toInt64) + (n_re op (I 89 e) (n_m R w) n i)))))) (Nat.le_of_ble_eq_true rfl) rfl ?_
            refine c_w [3, 4, 5, 6, 1, 0] (ls' := [(0, .ref 77), (1, .int (nI e)), (2, .int (nI w)), (3, .int (nI (d_cnt op (n_m R w) n))), (4, .long 0), (6, .int ((nI i) + (1 : Int32)))]) rfl ?_
            have hin : i < n := (nI_ltI (by omega) (by omega)).mp (by rw [← hn]; exact Int32.not_le.mp (by assumption))
            have hd : d_is op (n_m R w) i := ⟨(hop i hin).mp (by assumption), by assumption⟩
            rw [nI_1 i, r_uu, n_gv_s (by rw [n_g1_y hin hd, d_mn]; exact (if_pos (Int64.not_le.mp h5)).symm), show (0 : Int64) = n_re op (I 89 e) (n_m R w) n (i + 1) from n_re_y hin hd]
            exact ih (i + 1) (by omega)

set_option maxRecDepth 100000 in
theorem n_gv_m (I : Nat → Nat → Int32) (J : Nat → Nat → Int64) (R G : Nat → Int64) (e : Nat) (he : e < 6) (n : Nat) (hn : I 77 2 = nI n) (hn4 : n ≤ 4) (op : Int32) (hop : ∀ t, t < n → (n_op R e t ↔ ((op >>> (nI t &&& 31)) &&& (1 : Int32)) = 1)) (w : Nat) (hw : w < 5) (hC : (d_cnt op (n_m R w) n) ≤ 4)  : m_W 124 50 [(0, .ref 77), (1, .int (nI e)), (2, .int (nI w)), (3, .int (nI (d_cnt op (n_m R w) n)))] [] (I, (n_J J R G)) (m_E (some (.int (s01 (0 < (d_cnt op (n_m R w) n))))) (I, n_J J R (n_gv op (I 89 e) (n_m R w) n G 4))) := by
  refine c_run 1 (pc' := 51) (ls' := [(0, .ref 77), (1, .int (nI e)), (2, .int (nI w)), (3, .int (nI (d_cnt op (n_m R w) n)))]) (st' := [.int (nI (d_cnt op (n_m R w) n))]) (μ' := (I, (n_J J R G))) (Nat.le_of_ble_eq_true rfl) rfl ?_
  refine c_ifne 58 (Nat.le_of_ble_eq_true rfl) rfl rfl (fun h1 => ?_) (fun h1 => ?_)
  · skip
    refine c_run 3 (pc' := 63) (ls' := [(0, .ref 77), (1, .int (nI e)), (2, .int (nI w)), (3, .int (nI (d_cnt op (n_m R w) n)))]) (st' := [.int (nI e), .ref 89]) (μ' := (I, (n_J J R G))) (Nat.le_of_ble_eq_true rfl) rfl ?_
    refine c_ial e 6 (Nat.le_of_ble_eq_true rfl) rfl rfl rfl rfl rfl (by omega) ?_
    show m_W 124 64 [(0, .ref 77), (1, .int (nI e)), (2, .int (nI w)), (3, .int (nI (d_cnt op (n_m R w) n)))] [.int (I 89 e)] (I, (n_J J R G)) _
    refine c_run 1 (pc' := 65) (ls' := [(0, .ref 77), (1, .int (nI e)), (2, .int (nI w)), (3, .int (nI (d_cnt op (n_m R w) n)))]) (st' := [.int (nI (d_cnt op (n_m R w) n)), .int (I 89 e)]) (μ' := (I, (n_J J R G))) (Nat.le_of_ble_eq_true rfl) rfl ?_
    refine c_irem (Nat.le_of_ble_eq_true rfl) rfl (by assumption) ?_
    refine c_run 4 (pc' := 72) (ls' := [(6, .int 0), (4, .long ((((I 89 e) - (I 89 e) / (nI (d_cnt op (n_m R w) n)) * (nI (d_cnt op (n_m R w) n))) : Int32).toInt64)), (0, .ref 77), (1, .int (nI e)), (2, .int (nI w)), (3, .int (nI (d_cnt op (n_m R w) n)))]) (st' := []) (μ' := (I, (n_J J R G))) (Nat.le_of_ble_eq_true rfl) rfl ?_
    refine c_w [2, 3, 4, 5, 1, 0] (ls' := [(0, .ref 77), (1, .int (nI e)), (2, .int (nI w)), (3, .int (nI (d_cnt op (n_m R w) n))), (4, .long ((((I 89 e) - (I 89 e) / (nI (d_cnt op (n_m R w) n)) * (nI (d_cnt op (n_m R w) n))) : Int32).toInt64)), (6, .int 0)]) rfl ?_
    rw [show ((((I 89 e) - (I 89 e) / (nI (d_cnt op (n_m R w) n)) * (nI (d_cnt op (n_m R w) n))) : Int32).toInt64) = n_re op (I 89 e) (n_m R w) n 0 from by unfold n_re; rw [if_neg (fun q => absurd (show nI (d_cnt op (n_m R w) n) = nI 0 by rw [q]) (by assumption)), show min 0 n = 0 by omega, d_re]; exact (if_pos (show d_cnt op (n_m R w) 0 = 0 from rfl)).symm]
    have h := n_gv_l I J R G e he n hn hn4 op hop w hw hC 4 0 (by omega)
    rw [n_gv_0] at h
    exact h
  · skip
    refine c_run 5 (pc' := 72) (ls' := [(6, .int 0), (4, .long 0), (0, .ref 77), (1, .int (nI e)), (2, .int (nI w)), (3, .int (nI (d_cnt op (n_m R w) n)))]) (st' := []) (μ' := (I, (n_J J R G))) (Nat.le_of_ble_eq_true rfl) rfl ?_
    refine c_w [2, 3, 4, 5, 1, 0] (ls' := [(0, .ref 77), (1, .int (nI e)), (2, .int (nI w)), (3, .int (nI (d_cnt op (n_m R w) n))), (4, .long 0), (6, .int 0)]) rfl ?_
    rw [show (0 : Int64) = n_re op (I 89 e) (n_m R w) n 0 from by unfold n_re; rw [if_pos ((nI_eq (by omega) (by omega)).mp (show nI (d_cnt op (n_m R w) n) = nI 0 by assumption))]]
    have h := n_gv_l I J R G e he n hn hn4 op hop w hw hC 4 0 (by omega)
    rw [n_gv_0] at h
    exact h

set_option maxRecDepth 100000 in
theorem n_gv_c (I : Nat → Nat → Int32) (J : Nat → Nat → Int64) (R G : Nat → Int64) (e : Nat) (he : e < 6) (n : Nat) (hn : I 77 2 = nI n) (hn4 : n ≤ 4) (op : Int32) (hop : ∀ t, t < n → (n_op R e t ↔ ((op >>> (nI t &&& 31)) &&& (1 : Int32)) = 1)) (w : Nat) (hw : w < 5)  : ∀ (r i : Nat), i + r = n → m_W 124 5 [(0, .ref 77), (1, .int (nI e)), (2, .int (nI w)), (3, .int (nI (d_cnt op (n_m R w) i))), (4, .int (nI i))] [] (I, (n_J J R G)) (m_E (some (.int (s01 (0 < (d_cnt op (n_m R w) n))))) (I, n_J J R (n_gv op (I 89 e) (n_m R w) n G 4))) := by
  intro r
  induction r with
  | zero =>
    intro i hir
    have hin : n = i := by omega
    subst hin
    refine c_run 3 (pc' := 11) (ls' := [(0, .ref 77), (1, .int (nI e)), (2, .int (nI w)), (3, .int (nI (d_cnt op (n_m R w) n))), (4, .int (nI n))]) (st' := [.int (I 77 2), .int (nI n)]) (μ' := (I, (n_J J R G))) (Nat.le_of_ble_eq_true rfl) rfl ?_
    refine c_icge 50 (Nat.le_of_ble_eq_true rfl) rfl rfl (fun h1 => ?_) (fun h1 => absurd (by rw [hn]; exact nI_le (by omega) (by omega)) h1)
    refine c_w [0, 1, 2, 3] (ls' := [(0, .ref 77), (1, .int (nI e)), (2, .int (nI w)), (3, .int (nI (d_cnt op (n_m R w) n)))]) rfl ?_
    exact n_gv_m I J R G e he n hn hn4 op hop w hw (by have := d_cnt_le op (n_m R w) n; omega)
  | succ r ih =>
    intro i hir
    refine c_run 3 (pc' := 11) (ls' := [(0, .ref 77), (1, .int (nI e)), (2, .int (nI w)), (3, .int (nI (d_cnt op (n_m R w) i))), (4, .int (nI i))]) (st' := [.int (I 77 2), .int (nI i)]) (μ' := (I, (n_J J R G))) (Nat.le_of_ble_eq_true rfl) rfl ?_
    refine c_icge 50 (Nat.le_of_ble_eq_true rfl) rfl rfl (fun h1 => absurd h1 (by rw [hn]; exact nI_ge (by omega) (by omega))) (fun h1 => ?_)
    refine c_run 4 (pc' := 19) (ls' := [(0, .ref 77), (1, .int (nI e)), (2, .int (nI w)), (3, .int (nI (d_cnt op (n_m R w) i))), (4, .int (nI i))]) (st' := [.int (nI i), .int (nI e), .ref 77, .int (nI (d_cnt op (n_m R w) i))]) (μ' := (I, (n_J J R G))) (Nat.le_of_ble_eq_true rfl) rfl ?_
    refine c_cv 125 [.int (nI e), .int (nI i)] (b := 77) (r := [.int (nI (d_cnt op (n_m R w) i))]) (Nat.le_of_ble_eq_true rfl) rfl rfl rfl rfl rfl rfl (n_isOpen I J R G e i (by omega)) ?_
    rintro _ _ ⟨rfl, rfl⟩
    show m_W 124 22 [(0, .ref 77), (1, .int (nI e)), (2, .int (nI w)), (3, .int (nI (d_cnt op (n_m R w) i))), (4, .int (nI i))] [.int (s01 (n_op R e i)), .int (nI (d_cnt op (n_m R w) i))] (I, (n_J J R G)) _
    refine c_ifeq 41 (Nat.le_of_ble_eq_true rfl) rfl rfl (fun h2 => ?_) (fun h2 => ?_)
    · replace h2 := s01_0.mp h2
      refine c_run 5 (pc' := 5) (ls' := [(4, .int ((nI i) + (1 : Int32))), (3, .int ((nI (d_cnt op (n_m R w) i)) + (0 : Int32))), (0, .ref 77), (1, .int (nI e)), (2, .int (nI w))]) (st' := []) (μ' := (I, (n_J J R G))) (Nat.le_of_ble_eq_true rfl) rfl ?_
      refine c_w [2, 3, 4, 1, 0] (ls' := [(0, .ref 77), (1, .int (nI e)), (2, .int (nI w)), (3, .int ((nI (d_cnt op (n_m R w) i)) + (0 : Int32))), (4, .int ((nI i) + (1 : Int32)))]) rfl ?_
      rw [nI_1 i, show ((nI (d_cnt op (n_m R w) i)) + (0 : Int32)) = nI (d_cnt op (n_m R w) (i + 1)) from n_no1 (by first | exact fun q => absurd ((hop i (by omega)).mpr q.1) (by assumption) | exact fun q => absurd (by assumption) q.2)]
      exact ih (i + 1) (by omega)
    · replace h2 := s01_1.mp h2
      refine c_run 3 (pc' := 29) (ls' := [(0, .ref 77), (1, .int (nI e)), (2, .int (nI w)), (3, .int (nI (d_cnt op (n_m R w) i))), (4, .int (nI i))]) (st' := [.int (nI w), .int (nI i), .ref 77, .int (nI (d_cnt op (n_m R w) i))]) (μ' := (I, (n_J J R G))) (Nat.le_of_ble_eq_true rfl) rfl ?_
      refine c_cv 101 [.int (nI i), .int (nI w)] (b := 77) (r := [.int (nI (d_cnt op (n_m R w) i))]) (Nat.le_of_ble_eq_true rfl) rfl rfl rfl rfl rfl rfl (n_of I (n_J J R G) i w (by omega)) ?_
      rintro _ _ ⟨rfl, rfl⟩
      show m_W 124 32 [(0, .ref 77), (1, .int (nI e)), (2, .int (nI w)), (3, .int (nI (d_cnt op (n_m R w) i))), (4, .int (nI i))] [.long (R (5 * i + w)), .int (nI (d_cnt op (n_m R w) i))] (I, (n_J J R G)) _
      refine c_run 2 (pc' := 34) (ls' := [(0, .ref 77), (1, .int (nI e)), (2, .int (nI w)), (3, .int (nI (d_cnt op (n_m R w) i))), (4, .int (nI i))]) (st' := [.int (lg_cmp (R (5 * i + w)) 0), .int (nI (d_cnt op (n_m R w) i))]) (μ' := (I, (n_J J R G))) (Nat.le_of_ble_eq_true rfl) rfl ?_
      refine c_ifle 41 (Nat.le_of_ble_eq_true rfl) rfl rfl (fun h3 => ?_) (fun h3 => ?_)
      · replace h3 := lc_le.mp h3
        refine c_run 5 (pc' := 5) (ls' := [(4, .int ((nI i) + (1 : Int32))), (3, .int ((nI (d_cnt op (n_m R w) i)) + (0 : Int32))), (0, .ref 77), (1, .int (nI e)), (2, .int (nI w))]) (st' := []) (μ' := (I, (n_J J R G))) (Nat.le_of_ble_eq_true rfl) rfl ?_
        refine c_w [2, 3, 4, 1, 0] (ls' := [(0, .ref 77), (1, .int (nI e)), (2, .int (nI w)), (3, .int ((nI (d_cnt op (n_m R w) i)) + (0 : Int32))), (4, .int ((nI i) + (1 : Int32)))]) rfl ?_
        rw [nI_1 i, show ((nI (d_cnt op (n_m R w) i)) + (0 : Int32)) = nI (d_cnt op (n_m R w) (i + 1)) from n_no1 (by first | exact fun q => absurd ((hop i (by omega)).mpr q.1) (by assumption) | exact fun q => absurd (by assumption) q.2)]
        exact ih (i + 1) (by omega)
      · replace h3 := mt lc_le.mpr h3
        refine c_run 6 (pc' := 5) (ls' := [(4, .int ((nI i) + (1 : Int32))), (3, .int ((nI (d_cnt op (n_m R w) i)) + (1 : Int32))), (0, .ref 77), (1, .int (nI e)), (2, .int (nI w))]) (st' := []) (μ' := (I, (n_J J R G))) (Nat.le_of_ble_eq_true rfl) rfl ?_
        refine c_w [2, 3, 4, 1, 0] (ls' := [(0, .ref 77), (1, .int (nI e)), (2, .int (nI w)), (3, .int ((nI (d_cnt op (n_m R w) i)) + (1 : Int32))), (4, .int ((nI i) + (1 : Int32)))]) rfl ?_
        rw [nI_1 i, show ((nI (d_cnt op (n_m R w) i)) + (1 : Int32)) = nI (d_cnt op (n_m R w) (i + 1)) from d_yes1 ⟨(hop i (by omega)).mp (by assumption), by assumption⟩]
        exact ih (i + 1) (by omega)

set_option maxRecDepth 100000 in
theorem n_isGiven (I : Nat → Nat → Int32) (J : Nat → Nat → Int64) (R G : Nat → Int64) (e : Nat) (he : e < 6) (n : Nat) (hn : I 77 2 = nI n) (hn4 : n ≤ 4) (op : Int32) (hop : ∀ t, t < n → (n_op R e t ↔ ((op >>> (nI t &&& 31)) &&& (1 : Int32)) = 1)) (w : Nat) (hw : w < 5)  : m_W 124 0 (lv_args 0 [.ref 77, .int (nI e), .int (nI w)]) [] (I, (n_J J R G)) (m_E (some (.int (s01 (0 < (d_cnt op (n_m R w) n))))) (I, n_J J R (n_gv op (I 89 e) (n_m R w) n G 4))) := by
  show m_W 124 0 [(0, .ref 77), (1, .int (nI e)), (2, .int (nI w))] [] (I, (n_J J R G)) _
  refine c_run 4 (pc' := 5) (ls' := [(4, .int 0), (3, .int 0), (0, .ref 77), (1, .int (nI e)), (2, .int (nI w))]) (st' := []) (μ' := (I, (n_J J R G))) (Nat.le_of_ble_eq_true rfl) rfl ?_
  refine c_w [2, 3, 4, 1, 0] (ls' := [(0, .ref 77), (1, .int (nI e)), (2, .int (nI w)), (3, .int 0), (4, .int 0)]) rfl ?_
  exact n_gv_c I J R G e he n hn hn4 op hop w hw n 0 (by omega)

set_option maxRecDepth 100000 in
theorem n_bk_l (I : Nat → Nat → Int32) (J : Nat → Nat → Int64) (R g : Nat → Int64) (e : Nat) (he : e < 6) (n : Nat) (hn : I 77 2 = nI n) (hn4 : n ≤ 4)  : ∀ (r i : Nat), i + r = n → m_W 126 9 [(0, .ref 77), (1, .int (nI e)), (2, .int (nI i))] [] (I, (n_J J (n_bk R g e i) g)) (m_E none (I, n_J J (n_bk R g e n) g)) := by
  intro r
  induction r with
  | zero =>
    intro i hir
    have hin : n = i := by omega
    subst hin
    refine c_run 3 (pc' := 14) (ls' := [(0, .ref 77), (1, .int (nI e)), (2, .int (nI n))]) (st' := [.int (I 77 2), .int (nI n)]) (μ' := (I, (n_J J (n_bk R g e n) g))) (Nat.le_of_ble_eq_true rfl) rfl ?_
    refine c_icge 132 (Nat.le_of_ble_eq_true rfl) rfl rfl (fun h1 => ?_) (fun h1 => absurd (by rw [hn]; exact nI_le (by omega) (by omega)) h1)
    refine c_vret (Nat.le_of_ble_eq_true rfl) rfl rfl ?_
    exact ⟨rfl, rfl⟩
  | succ r ih =>
    intro i hir
    refine c_run 3 (pc' := 14) (ls' := [(0, .ref 77), (1, .int (nI e)), (2, .int (nI i))]) (st' := [.int (I 77 2), .int (nI i)]) (μ' := (I, (n_J J (n_bk R g e i) g))) (Nat.le_of_ble_eq_true rfl) rfl ?_
    refine c_icge 132 (Nat.le_of_ble_eq_true rfl) rfl rfl (fun h1 => absurd h1 (by rw [hn]; exact nI_ge (by omega) (by omega))) (fun h1 => ?_)
    refine c_run 8 (pc' := 27) (ls' := [(0, .ref 77), (1, .int (nI e)), (2, .int (nI i))]) (st' := [.int (((5 : Int32) * (nI i)) + (1 : Int32)), .ref 78, .int (((5 : Int32) * (nI i)) + (1 : Int32)), .ref 78]) (μ' := (I, (n_J J (n_bk R g e i) g))) (Nat.le_of_ble_eq_true rfl) rfl ?_
    refine c_lal (5 * i + 1) 140 (Nat.le_of_ble_eq_true rfl) rfl rfl rfl rfl (n_5w i 1) (by omega) ?_
    show m_W 126 28 [(0, .ref 77), (1, .int (nI e)), (2, .int (nI i))] [.long ((n_bk R g e i) (5 * i + 1)), .int (((5 : Int32) * (nI i)) + (1 : Int32)), .ref 78] (I, (n_J J (n_bk R g e i) g)) _
    refine c_run 3 (pc' := 33) (ls' := [(0, .ref 77), (1, .int (nI e)), (2, .int (nI i))]) (st' := [.int (nI i), .ref 94, .long ((n_bk R g e i) (5 * i + 1)), .int (((5 : Int32) * (nI i)) + (1 : Int32)), .ref 78]) (μ' := (I, (n_J J (n_bk R g e i) g))) (Nat.le_of_ble_eq_true rfl) rfl ?_
    refine c_lal i 4 (Nat.le_of_ble_eq_true rfl) rfl rfl rfl rfl rfl (by omega) ?_
    show m_W 126 34 [(0, .ref 77), (1, .int (nI e)), (2, .int (nI i))] [.long (g i), .long ((n_bk R g e i) (5 * i + 1)), .int (((5 : Int32) * (nI i)) + (1 : Int32)), .ref 78] (I, (n_J J (n_bk R g e i) g)) _
    refine c_run 1 (pc' := 35) (ls' := [(0, .ref 77), (1, .int (nI e)), (2, .int (nI i))]) (st' := [.long (((n_bk R g e i) (5 * i + 1)) - (g i)), .int (((5 : Int32) * (nI i)) + (1 : Int32)), .ref 78]) (μ' := (I, (n_J J (n_bk R g e i) g))) (Nat.le_of_ble_eq_true rfl) rfl ?_
    refine c_las (5 * i + 1) 140 (Nat.le_of_ble_eq_true rfl) rfl rfl rfl rfl (n_5w i 1) (by omega) ?_
    show m_W 126 36 [(0, .ref 77), (1, .int (nI e)), (2, .int (nI i))] [] (I, m_uj (n_J J (n_bk R g e i) g) 78 (5 * i + 1) (((n_bk R g e i) (5 * i + 1)) - (g i))) _
    rw [n_JR]
    show m_W 126 36 [(0, .ref 77), (1, .int (nI e)), (2, .int (nI i))] [] (I, (n_J J (r_u (n_bk R g e i) (5 * i + 1) (((n_bk R g e i) (5 * i + 1)) - (g i))) g)) _
    refine c_run 3 (pc' := 39) (ls' := [(0, .ref 77), (1, .int (nI e)), (2, .int (nI i))]) (st' := [.int 2, .int (nI i), .ref 77]) (μ' := (I, (n_J J (r_u (n_bk R g e i) (5 * i + 1) (((n_bk R g e i) (5 * i + 1)) - (g i))) g))) (Nat.le_of_ble_eq_true rfl) rfl ?_
    refine c_cv 101 [.int (nI i), .int 2] (b := 77) (r := []) (Nat.le_of_ble_eq_true rfl) rfl rfl rfl rfl rfl rfl (n_of I (n_J J (r_u (n_bk R g e i) (5 * i + 1) (((n_bk R g e i) (5 * i + 1)) - (g i))) g) i 2 (by omega)) ?_
    rintro _ _ ⟨rfl, rfl⟩
    rw [show (n_J J (r_u (n_bk R g e i) (5 * i + 1) (((n_bk R g e i) (5 * i + 1)) - (g i))) g) 78 (5 * i + 2) = ((n_bk R g e i) (5 * i + 2)) from show (r_u (n_bk R g e i) (5 * i + 1) (((n_bk R g e i) (5 * i + 1)) - (g i))) (5 * i + 2) = ((n_bk R g e i) (5 * i + 2)) from by rw [r_un (by omega)]]
    show m_W 126 42 [(0, .ref 77), (1, .int (nI e)), (2, .int (nI i))] [.long ((n_bk R g e i) (5 * i + 2))] (I, (n_J J (r_u (n_bk R g e i) (5 * i + 1) (((n_bk R g e i) (5 * i + 1)) - (g i))) g)) _
    refine c_run 3 (pc' := 47) (ls' := [(0, .ref 77), (1, .int (nI e)), (2, .int (nI i))]) (st' := [.int (nI i), .ref 94, .long ((n_bk R g e i) (5 * i + 2))]) (μ' := (I, (n_J J (r_u (n_bk R g e i) (5 * i + 1) (((n_bk R g e i) (5 * i + 1)) - (g i))) g))) (Nat.le_of_ble_eq_true rfl) rfl ?_
    refine c_lal i 4 (Nat.le_of_ble_eq_true rfl) rfl rfl rfl rfl rfl (by omega) ?_
    show m_W 126 48 [(0, .ref 77), (1, .int (nI e)), (2, .int (nI i))] [.long (g i), .long ((n_bk R g e i) (5 * i + 2))] (I, (n_J J (r_u (n_bk R g e i) (5 * i + 1) (((n_bk R g e i) (5 * i + 1)) - (g i))) g)) _
    refine c_run 12 (pc' := 62) (ls' := [(3, .long (((n_bk R g e i) (5 * i + 2)) - (g i))), (0, .ref 77), (1, .int (nI e)), (2, .int (nI i))]) (st' := [.int (lg_cmp (((n_bk R g e i) (5 * i + 2)) - (g i)) 0), .int (((5 : Int32) * (nI i)) + (2 : Int32)), .ref 78]) (μ' := (I, (n_J J (r_u (n_bk R g e i) (5 * i + 1) (((n_bk R g e i) (5 * i + 1)) - (g i))) g))) (Nat.le_of_ble_eq_true rfl) rfl ?_
    refine c_ifge 69 (Nat.le_of_ble_eq_true rfl) rfl rfl (fun h2 => ?_) (fun h2 => ?_)
    · replace h2 := lc_ge.mp h2
      refine c_run 1 (pc' := 70) (ls' := [(3, .long (((n_bk R g e i) (5 * i + 2)) - (g i))), (0, .ref 77), (1, .int (nI e)), (2, .int (nI i))]) (st' := [.long (((n_bk R g e i) (5 * i + 2)) - (g i)), .int (((5 : Int32) * (nI i)) + (2 : Int32)), .ref 78]) (μ' := (I, (n_J J (r_u (n_bk R g e i) (5 * i + 1) (((n_bk R g e i) (5 * i + 1)) - (g i))) g))) (Nat.le_of_ble_eq_true rfl) rfl ?_
      refine c_las (5 * i + 2) 140 (Nat.le_of_ble_eq_true rfl) rfl rfl rfl rfl (n_5w i 2) (by omega) ?_
      show m_W 126 71 [(3, .long (((n_bk R g e i) (5 * i + 2)) - (g i))), (0, .ref 77), (1, .int (nI e)), (2, .int (nI i))] [] (I, m_uj (n_J J (r_u (n_bk R g e i) (5 * i + 1) (((n_bk R g e i) (5 * i + 1)) - (g i))) g) 78 (5 * i + 2) (((n_bk R g e i) (5 * i + 2)) - (g i))) _
      rw [n_JR]
      show m_W 126 71 [(3, .long (((n_bk R g e i) (5 * i + 2)) - (g i))), (0, .ref 77), (1, .int (nI e)), (2, .int (nI i))] [] (I, (n_J J (r_u (r_u (n_bk R g e i) (5 * i + 1) (((n_bk R g e i) (5 * i + 1)) - (g i))) (5 * i + 2) (((n_bk R g e i) (5 * i + 2)) - (g i))) g)) _
      refine c_run 8 (pc' := 81) (ls' := [(3, .long (((n_bk R g e i) (5 * i + 2)) - (g i))), (0, .ref 77), (1, .int (nI e)), (2, .int (nI i))]) (st' := [.int (((5 : Int32) * (nI i)) + (4 : Int32)), .ref 78, .int (((5 : Int32) * (nI i)) + (4 : Int32)), .ref 78]) (μ' := (I, (n_J J (r_u (r_u (n_bk R g e i) (5 * i + 1) (((n_bk R g e i) (5 * i + 1)) - (g i))) (5 * i + 2) (((n_bk R g e i) (5 * i + 2)) - (g i))) g))) (Nat.le_of_ble_eq_true rfl) rfl ?_
      refine c_lal (5 * i + 4) 140 (Nat.le_of_ble_eq_true rfl) rfl rfl rfl rfl (n_5w i 4) (by omega) ?_
      show m_W 126 82 [(3, .long (((n_bk R g e i) (5 * i + 2)) - (g i))), (0, .ref 77), (1, .int (nI e)), (2, .int (nI i))] [.long ((r_u (r_u (n_bk R g e i) (5 * i + 1) (((n_bk R g e i) (5 * i + 1)) - (g i))) (5 * i + 2) (((n_bk R g e i) (5 * i + 2)) - (g i))) (5 * i + 4)), .int (((5 : Int32) * (nI i)) + (4 : Int32)), .ref 78] (I, (n_J J (r_u (r_u (n_bk R g e i) (5 * i + 1) (((n_bk R g e i) (5 * i + 1)) - (g i))) (5 * i + 2) (((n_bk R g e i) (5 * i + 2)) - (g i))) g)) _
      rw [show (r_u (r_u (n_bk R g e i) (5 * i + 1) (((n_bk R g e i) (5 * i + 1)) - (g i))) (5 * i + 2) (((n_bk R g e i) (5 * i + 2)) - (g i))) (5 * i + 4) = ((n_bk R g e i) (5 * i + 4)) from by rw [r_un (by omega), r_un (by omega)]]
      show m_W 126 82 [(3, .long (((n_bk R g e i) (5 * i + 2)) - (g i))), (0, .ref 77), (1, .int (nI e)), (2, .int (nI i))] [.long ((n_bk R g e i) (5 * i + 4)), .int (((5 : Int32) * (nI i)) + (4 : Int32)), .ref 78] (I, (n_J J (r_u (r_u (n_bk R g e i) (5 * i + 1) (((n_bk R g e i) (5 * i + 1)) - (g i))) (5 * i + 2) (((n_bk R g e i) (5 * i + 2)) - (g i))) g)) _
      refine c_run 3 (pc' := 87) (ls' := [(3, .long (((n_bk R g e i) (5 * i + 2)) - (g i))), (0, .ref 77), (1, .int (nI e)), (2, .int (nI i))]) (st' := [.int (nI i), .ref 94, .long ((n_bk R g e i) (5 * i + 4)), .int (((5 : Int32) * (nI i)) + (4 : Int32)), .ref 78]) (μ' := (I, (n_J J (r_u (r_u (n_bk R g e i) (5 * i + 1) (((n_bk R g e i) (5 * i + 1)) - (g i))) (5 * i + 2) (((n_bk R g e i) (5 * i + 2)) - (g i))) g))) (Nat.le_of_ble_eq_true rfl) rfl ?_
      refine c_lal i 4 (Nat.le_of_ble_eq_true rfl) rfl rfl rfl rfl rfl (by omega) ?_
      show m_W 126 88 [(3, .long (((n_bk R g e i) (5 * i + 2)) - (g i))), (0, .ref 77), (1, .int (nI e)), (2, .int (nI i))] [.long (g i), .long ((n_bk R g e i) (5 * i + 4)), .int (((5 : Int32) * (nI i)) + (4 : Int32)), .ref 78] (I, (n_J J (r_u (r_u (n_bk R g e i) (5 * i + 1) (((n_bk R g e i) (5 * i + 1)) - (g i))) (5 * i + 2) (((n_bk R g e i) (5 * i + 2)) - (g i))) g)) _
      refine c_run 1 (pc' := 89) (ls' := [(3, .long (((n_bk R g e i) (5 * i + 2)) - (g i))), (0, .ref 77), (1, .int (nI e)), (2, .int (nI i))]) (st' := [.long (((n_bk R g e i) (5 * i + 4)) + (g i)), .int (((5 : Int32) * (nI i)) + (4 : Int32)), .ref 78]) (μ' := (I, (n_J J (r_u (r_u (n_bk R g e i) (5 * i + 1) (((n_bk R g e i) (5 * i + 1)) - (g i))) (5 * i + 2) (((n_bk R g e i) (5 * i + 2)) - (g i))) g))) (Nat.le_of_ble_eq_true rfl) rfl ?_
      refine c_las (5 * i + 4) 140 (Nat.le_of_ble_eq_true rfl) rfl rfl rfl rfl (n_5w i 4) (by omega) ?_
      show m_W 126 90 [(3, .long (((n_bk R g e i) (5 * i + 2)) - (g i))), (0, .ref 77), (1, .int (nI e)), (2, .int (nI i))] [] (I, m_uj (n_J J (r_u (r_u (n_bk R g e i) (5 * i + 1) (((n_bk R g e i) (5 * i + 1)) - (g i))) (5 * i + 2) (((n_bk R g e i) (5 * i + 2)) - (g i))) g) 78 (5 * i + 4) (((n_bk R g e i) (5 * i + 4)) + (g i))) _
      rw [n_JR]
      show m_W 126 90 [(3, .long (((n_bk R g e i) (5 * i + 2)) - (g i))), (0, .ref 77), (1, .int (nI e)), (2, .int (nI i))] [] (I, (n_J J (r_u (r_u (r_u (n_bk R g e i) (5 * i + 1) (((n_bk R g e i) (5 * i + 1)) - (g i))) (5 * i + 2) (((n_bk R g e i) (5 * i + 2)) - (g i))) (5 * i + 4) (((n_bk R g e i) (5 * i + 4)) + (g i))) g)) _
      refine c_run 4 (pc' := 96) (ls' := [(3, .long (((n_bk R g e i) (5 * i + 2)) - (g i))), (0, .ref 77), (1, .int (nI e)), (2, .int (nI i))]) (st' := [.int 1, .int (nI e), .ref 78]) (μ' := (I, (n_J J (r_u (r_u (r_u (n_bk R g e i) (5 * i + 1) (((n_bk R g e i) (5 * i + 1)) - (g i))) (5 * i + 2) (((n_bk R g e i) (5 * i + 2)) - (g i))) (5 * i + 4) (((n_bk R g e i) (5 * i + 4)) + (g i))) g))) (Nat.le_of_ble_eq_true rfl) rfl ?_
      refine c_cs 102 [.int (nI e), .int 1] (r := [.ref 78]) (Nat.le_of_ble_eq_true rfl) rfl (Or.inl rfl) rfl rfl rfl (t_at2 I (n_J J (r_u (r_u (r_u (n_bk R g e i) (5 * i + 1) (((n_bk R g e i) (5 * i + 1)) - (g i))) (5 * i + 2) (((n_bk R g e i) (5 * i + 2)) - (g i))) (5 * i + 4) (((n_bk R g e i) (5 * i + 4)) + (g i))) g) e 1) ?_
      rintro _ _ ⟨rfl, rfl⟩
      show m_W 126 99 [(3, .long (((n_bk R g e i) (5 * i + 2)) - (g i))), (0, .ref 77), (1, .int (nI e)), (2, .int (nI i))] [.int (nI (20 + 3 * e + 1)), .ref 78] (I, (n_J J (r_u (r_u (r_u (n_bk R g e i) (5 * i + 1) (((n_bk R g e i) (5 * i + 1)) - (g i))) (5 * i + 2) (((n_bk R g e i) (5 * i + 2)) - (g i))) (5 * i + 4) (((n_bk R g e i) (5 * i + 4)) + (g i))) g)) _
      refine c_run 1 (pc' := 100) (ls' := [(3, .long (((n_bk R g e i) (5 * i + 2)) - (g i))), (0, .ref 77), (1, .int (nI e)), (2, .int (nI i))]) (st' := [.int (nI (20 + 3 * e + 1)), .ref 78, .int (nI (20 + 3 * e + 1)), .ref 78]) (μ' := (I, (n_J J (r_u (r_u (r_u (n_bk R g e i) (5 * i + 1) (((n_bk R g e i) (5 * i + 1)) - (g i))) (5 * i + 2) (((n_bk R g e i) (5 * i + 2)) - (g i))) (5 * i + 4) (((n_bk R g e i) (5 * i + 4)) + (g i))) g))) (Nat.le_of_ble_eq_true rfl) rfl ?_
      refine c_lal (20 + 3 * e + 1) 140 (Nat.le_of_ble_eq_true rfl) rfl rfl rfl rfl rfl (by omega) ?_
      show m_W 126 101 [(3, .long (((n_bk R g e i) (5 * i + 2)) - (g i))), (0, .ref 77), (1, .int (nI e)), (2, .int (nI i))] [.long ((r_u (r_u (r_u (n_bk R g e i) (5 * i + 1) (((n_bk R g e i) (5 * i + 1)) - (g i))) (5 * i + 2) (((n_bk R g e i) (5 * i + 2)) - (g i))) (5 * i + 4) (((n_bk R g e i) (5 * i + 4)) + (g i))) (20 + 3 * e + 1)), .int (nI (20 + 3 * e + 1)), .ref 78] (I, (n_J J (r_u (r_u (r_u (n_bk R g e i) (5 * i + 1) (((n_bk R g e i) (5 * i + 1)) - (g i))) (5 * i + 2) (((n_bk R g e i) (5 * i + 2)) - (g i))) (5 * i + 4) (((n_bk R g e i) (5 * i + 4)) + (g i))) g)) _
      rw [show (r_u (r_u (r_u (n_bk R g e i) (5 * i + 1) (((n_bk R g e i) (5 * i + 1)) - (g i))) (5 * i + 2) (((n_bk R g e i) (5 * i + 2)) - (g i))) (5 * i + 4) (((n_bk R g e i) (5 * i + 4)) + (g i))) (20 + 3 * e + 1) = ((n_bk R g e i) (20 + 3 * e + 1)) from by rw [r_un (by omega), r_un (by omega), r_un (by omega)]]
      show m_W 126 101 [(3, .long (((n_bk R g e i) (5 * i + 2)) - (g i))), (0, .ref 77), (1, .int (nI e)), (2, .int (nI i))] [.long ((n_bk R g e i) (20 + 3 * e + 1)), .int (nI (20 + 3 * e + 1)), .ref 78] (I, (n_J J (r_u (r_u (r_u (n_bk R g e i) (5 * i + 1) (((n_bk R g e i) (5 * i + 1)) - (g i))) (5 * i + 2) (((n_bk R g e i) (5 * i + 2)) - (g i))) (5 * i + 4) (((n_bk R g e i) (5 * i + 4)) + (g i))) g)) _
      refine c_run 3 (pc' := 106) (ls' := [(3, .long (((n_bk R g e i) (5 * i + 2)) - (g i))), (0, .ref 77), (1, .int (nI e)), (2, .int (nI i))]) (st' := [.int (nI i), .ref 94, .long ((n_bk R g e i) (20 + 3 * e + 1)), .int (nI (20 + 3 * e + 1)), .ref 78]) (μ' := (I, (n_J J (r_u (r_u (r_u (n_bk R g e i) (5 * i + 1) (((n_bk R g e i) (5 * i + 1)) - (g i))) (5 * i + 2) (((n_bk R g e i) (5 * i + 2)) - (g i))) (5 * i + 4) (((n_bk R g e i) (5 * i + 4)) + (g i))) g))) (Nat.le_of_ble_eq_true rfl) rfl ?_
      refine c_lal i 4 (Nat.le_of_ble_eq_true rfl) rfl rfl rfl rfl rfl (by omega) ?_
      show m_W 126 107 [(3, .long (((n_bk R g e i) (5 * i + 2)) - (g i))), (0, .ref 77), (1, .int (nI e)), (2, .int (nI i))] [.long (g i), .long ((n_bk R g e i) (20 + 3 * e + 1)), .int (nI (20 + 3 * e + 1)), .ref 78] (I, (n_J J (r_u (r_u (r_u (n_bk R g e i) (5 * i + 1) (((n_bk R g e i) (5 * i + 1)) - (g i))) (5 * i + 2) (((n_bk R g e i) (5 * i + 2)) - (g i))) (5 * i + 4) (((n_bk R g e i) (5 * i + 4)) + (g i))) g)) _
      refine c_run 1 (pc' := 108) (ls' := [(3, .long (((n_bk R g e i) (5 * i + 2)) - (g i))), (0, .ref 77), (1, .int (nI e)), (2, .int (nI i))]) (st' := [.long (((n_bk R g e i) (20 + 3 * e + 1)) + (g i)), .int (nI (20 + 3 * e + 1)), .ref 78]) (μ' := (I, (n_J J (r_u (r_u (r_u (n_bk R g e i) (5 * i + 1) (((n_bk R g e i) (5 * i + 1)) - (g i))) (5 * i + 2) (((n_bk R g e i) (5 * i + 2)) - (g i))) (5 * i + 4) (((n_bk R g e i) (5 * i + 4)) + (g i))) g))) (Nat.le_of_ble_eq_true rfl) rfl ?_
      refine c_las (20 + 3 * e + 1) 140 (Nat.le_of_ble_eq_true rfl) rfl rfl rfl rfl rfl (by omega) ?_
      show m_W 126 109 [(3, .long (((n_bk R g e i) (5 * i + 2)) - (g i))), (0, .ref 77), (1, .int (nI e)), (2, .int (nI i))] [] (I, m_uj (n_J J (r_u (r_u (r_u (n_bk R g e i) (5 * i + 1) (((n_bk R g e i) (5 * i + 1)) - (g i))) (5 * i + 2) (((n_bk R g e i) (5 * i + 2)) - (g i))) (5 * i + 4) (((n_bk R g e i) (5 * i + 4)) + (g i))) g) 78 (20 + 3 * e + 1) (((n_bk R g e i) (20 + 3 * e + 1)) + (g i))) _
      rw [n_JR]
      show m_W 126 109 [(3, .long (((n_bk R g e i) (5 * i + 2)) - (g i))), (0, .ref 77), (1, .int (nI e)), (2, .int (nI i))] [] (I, (n_J J (r_u (r_u (r_u (r_u (n_bk R g e i) (5 * i + 1) (((n_bk R g e i) (5 * i + 1)) - (g i))) (5 * i + 2) (((n_bk R g e i) (5 * i + 2)) - (g i))) (5 * i + 4) (((n_bk R g e i) (5 * i + 4)) + (g i))) (20 + 3 * e + 1) (((n_bk R g e i) (20 + 3 * e + 1)) + (g i))) g)) _
      refine c_run 4 (pc' := 117) (ls' := [(3, .long (((n_bk R g e i) (5 * i + 2)) - (g i))), (0, .ref 77), (1, .int (nI e)), (2, .int (nI i))]) (st' := [.int 139, .ref 78, .int 139, .ref 78]) (μ' := (I, (n_J J (r_u (r_u (r_u (r_u (n_bk R g e i) (5 * i + 1) (((n_bk R g e i) (5 * i + 1)) - (g i))) (5 * i + 2) (((n_bk R g e i) (5 * i + 2)) - (g i))) (5 * i + 4) (((n_bk R g e i) (5 * i + 4)) + (g i))) (20 + 3 * e + 1) (((n_bk R g e i) (20 + 3 * e + 1)) + (g i))) g))) (Nat.le_of_ble_eq_true rfl) rfl ?_
      refine c_lal 139 140 (Nat.le_of_ble_eq_true rfl) rfl rfl rfl rfl rfl (by decide) ?_
      show m_W 126 118 [(3, .long (((n_bk R g e i) (5 * i + 2)) - (g i))), (0, .ref 77), (1, .int (nI e)), (2, .int (nI i))] [.long ((r_u (r_u (r_u (r_u (n_bk R g e i) (5 * i + 1) (((n_bk R g e i) (5 * i + 1)) - (g i))) (5 * i + 2) (((n_bk R g e i) (5 * i + 2)) - (g i))) (5 * i + 4) (((n_bk R g e i) (5 * i + 4)) + (g i))) (20 + 3 * e + 1) (((n_bk R g e i) (20 + 3 * e + 1)) + (g i))) 139), .int 139, .ref 78] (I, (n_J J (r_u (r_u (r_u (r_u (n_bk R g e i) (5 * i + 1) (((n_bk R g e i) (5 * i + 1)) - (g i))) (5 * i + 2) (((n_bk R g e i) (5 * i + 2)) - (g i))) (5 * i + 4) (((n_bk R g e i) (5 * i + 4)) + (g i))) (20 + 3 * e + 1) (((n_bk R g e i) (20 + 3 * e + 1)) + (g i))) g)) _
      rw [show (r_u (r_u (r_u (r_u (n_bk R g e i) (5 * i + 1) (((n_bk R g e i) (5 * i + 1)) - (g i))) (5 * i + 2) (((n_bk R g e i) (5 * i + 2)) - (g i))) (5 * i + 4) (((n_bk R g e i) (5 * i + 4)) + (g i))) (20 + 3 * e + 1) (((n_bk R g e i) (20 + 3 * e + 1)) + (g i))) 139 = ((n_bk R g e i) 139) from by rw [r_un (by omega), r_un (by omega), r_un (by omega), r_un (by omega)]]
      show m_W 126 118 [(3, .long (((n_bk R g e i) (5 * i + 2)) - (g i))), (0, .ref 77), (1, .int (nI e)), (2, .int (nI i))] [.long ((n_bk R g e i) 139), .int 139, .ref 78] (I, (n_J J (r_u (r_u (r_u (r_u (n_bk R g e i) (5 * i + 1) (((n_bk R g e i) (5 * i + 1)) - (g i))) (5 * i + 2) (((n_bk R g e i) (5 * i + 2)) - (g i))) (5 * i + 4) (((n_bk R g e i) (5 * i + 4)) + (g i))) (20 + 3 * e + 1) (((n_bk R g e i) (20 + 3 * e + 1)) + (g i))) g)) _
      refine c_run 3 (pc' := 123) (ls' := [(3, .long (((n_bk R g e i) (5 * i + 2)) - (g i))), (0, .ref 77), (1, .int (nI e)), (2, .int (nI i))]) (st' := [.int (nI i), .ref 94, .long ((n_bk R g e i) 139), .int 139, .ref 78]) (μ' := (I, (n_J J (r_u (r_u (r_u (r_u (n_bk R g e i) (5 * i + 1) (((n_bk R g e i) (5 * i + 1)) - (g i))) (5 * i + 2) (((n_bk R g e i) (5 * i + 2)) - (g i))) (5 * i + 4) (((n_bk R g e i) (5 * i + 4)) + (g i))) (20 + 3 * e + 1) (((n_bk R g e i) (20 + 3 * e + 1)) + (g i))) g))) (Nat.le_of_ble_eq_true rfl) rfl ?_
      refine c_lal i 4 (Nat.le_of_ble_eq_true rfl) rfl rfl rfl rfl rfl (by omega) ?_
      show m_W 126 124 [(3, .long (((n_bk R g e i) (5 * i + 2)) - (g i))), (0, .ref 77), (1, .int (nI e)), (2, .int (nI i))] [.long (g i), .long ((n_bk R g e i) 139), .int 139, .ref 78] (I, (n_J J (r_u (r_u (r_u (r_u (n_bk R g e i) (5 * i + 1) (((n_bk R g e i) (5 * i + 1)) - (g i))) (5 * i + 2) (((n_bk R g e i) (5 * i + 2)) - (g i))) (5 * i + 4) (((n_bk R g e i) (5 * i + 4)) + (g i))) (20 + 3 * e + 1) (((n_bk R g e i) (20 + 3 * e + 1)) + (g i))) g)) _
      refine c_run 1 (pc' := 125) (ls' := [(3, .long (((n_bk R g e i) (5 * i + 2)) - (g i))), (0, .ref 77), (1, .int (nI e)), (2, .int (nI i))]) (st' := [.long (((n_bk R g e i) 139) + (g i)), .int 139, .ref 78]) (μ' := (I, (n_J J (r_u (r_u (r_u (r_u (n_bk R g e i) (5 * i + 1) (((n_bk R g e i) (5 * i + 1)) - (g i))) (5 * i + 2) (((n_bk R g e i) (5 * i + 2)) - (g i))) (5 * i + 4) (((n_bk R g e i) (5 * i + 4)) + (g i))) (20 + 3 * e + 1) (((n_bk R g e i) (20 + 3 * e + 1)) + (g i))) g))) (Nat.le_of_ble_eq_true rfl) rfl ?_
      refine c_las 139 140 (Nat.le_of_ble_eq_true rfl) rfl rfl rfl rfl rfl (by decide) ?_
      show m_W 126 126 [(3, .long (((n_bk R g e i) (5 * i + 2)) - (g i))), (0, .ref 77), (1, .int (nI e)), (2, .int (nI i))] [] (I, m_uj (n_J J (r_u (r_u (r_u (r_u (n_bk R g e i) (5 * i + 1) (((n_bk R g e i) (5 * i + 1)) - (g i))) (5 * i + 2) (((n_bk R g e i) (5 * i + 2)) - (g i))) (5 * i + 4) (((n_bk R g e i) (5 * i + 4)) + (g i))) (20 + 3 * e + 1) (((n_bk R g e i) (20 + 3 * e + 1)) + (g i))) g) 78 139 (((n_bk R g e i) 139) + (g i))) _
      rw [n_JR]
      show m_W 126 126 [(3, .long (((n_bk R g e i) (5 * i + 2)) - (g i))), (0, .ref 77), (1, .int (nI e)), (2, .int (nI i))] [] (I, (n_J J (r_u (r_u (r_u (r_u (r_u (n_bk R g e i) (5 * i + 1) (((n_bk R g e i) (5 * i + 1)) - (g i))) (5 * i + 2) (((n_bk R g e i) (5 * i + 2)) - (g i))) (5 * i + 4) (((n_bk R g e i) (5 * i + 4)) + (g i))) (20 + 3 * e + 1) (((n_bk R g e i) (20 + 3 * e + 1)) + (g i))) 139 (((n_bk R g e i) 139) + (g i))) g)) _
      refine c_run 2 (pc' := 9) (ls' := [(2, .int ((nI i) + (1 : Int32))), (3, .long (((n_bk R g e i) (5 * i + 2)) - (g i))), (0, .ref 77), (1, .int (nI e))]) (st' := []) (μ' := (I, (n_J J (r_u (r_u (r_u (r_u (r_u (n_bk R g e i) (5 * i + 1) (((n_bk R g e i) (5 * i + 1)) - (g i))) (5 * i + 2) (((n_bk R g e i) (5 * i + 2)) - (g i))) (5 * i + 4) (((n_bk R g e i) (5 * i + 4)) + (g i))) (20 + 3 * e + 1) (((n_bk R g e i) (20 + 3 * e + 1)) + (g i))) 139 (((n_bk R g e i) 139) + (g i))) g))) (Nat.le_of_ble_eq_true rfl) rfl ?_
      refine c_w [2, 3, 0] (ls' := [(0, .ref 77), (1, .int (nI e)), (2, .int ((nI i) + (1 : Int32)))]) rfl ?_
      have hrow : (r_u (r_u (r_u (r_u (r_u (n_bk R g e i) (5 * i + 1) (((n_bk R g e i) (5 * i + 1)) - (g i))) (5 * i + 2) (((n_bk R g e i) (5 * i + 2)) - (g i))) (5 * i + 4) (((n_bk R g e i) (5 * i + 4)) + (g i))) (20 + 3 * e + 1) (((n_bk R g e i) (20 + 3 * e + 1)) + (g i))) 139 (((n_bk R g e i) 139) + (g i))) = n_bk R g e (i + 1) := by
        rw [n_bk, n_mx]
        first | rw [if_pos (by assumption)] | rw [if_neg (by assumption)]
      rw [nI_1 i, hrow]
      exact ih (i + 1) (by omega)
    · replace h2 := mt lc_ge.mpr h2
      refine c_run 2 (pc' := 70) (ls' := [(3, .long (((n_bk R g e i) (5 * i + 2)) - (g i))), (0, .ref 77), (1, .int (nI e)), (2, .int (nI i))]) (st' := [.long 0, .int (((5 : Int32) * (nI i)) + (2 : Int32)), .ref 78]) (μ' := (I, (n_J J (r_u (n_bk R g e i) (5 * i + 1) (((n_bk R g e i) (5 * i + 1)) - (g i))) g))) (Nat.le_of_ble_eq_true rfl) rfl ?_
      refine c_las (5 * i + 2) 140 (Nat.le_of_ble_eq_true rfl) rfl rfl rfl rfl (n_5w i 2) (by omega) ?_
      show m_W 126 71 [(3, .long (((n_bk R g e i) (5 * i + 2)) - (g i))), (0, .ref 77), (1, .int (nI e)), (2, .int (nI i))] [] (I, m_uj (n_J J (r_u (n_bk R g e i) (5 * i + 1) (((n_bk R g e i) (5 * i + 1)) - (g i))) g) 78 (5 * i + 2) 0) _
      rw [n_JR]
      show m_W 126 71 [(3, .long (((n_bk R g e i) (5 * i + 2)) - (g i))), (0, .ref 77), (1, .int (nI e)), (2, .int (nI i))] [] (I, (n_J J (r_u (r_u (n_bk R g e i) (5 * i + 1) (((n_bk R g e i) (5 * i + 1)) - (g i))) (5 * i + 2) 0) g)) _
      refine c_run 8 (pc' := 81) (ls' := [(3, .long (((n_bk R g e i) (5 * i + 2)) - (g i))), (0, .ref 77), (1, .int (nI e)), (2, .int (nI i))]) (st' := [.int (((5 : Int32) * (nI i)) + (4 : Int32)), .ref 78, .int (((5 : Int32) * (nI i)) + (4 : Int32)), .ref 78]) (μ' := (I, (n_J J (r_u (r_u (n_bk R g e i) (5 * i + 1) (((n_bk R g e i) (5 * i + 1)) - (g i))) (5 * i + 2) 0) g))) (Nat.le_of_ble_eq_true rfl) rfl ?_
      refine c_lal (5 * i + 4) 140 (Nat.le_of_ble_eq_true rfl) rfl rfl rfl rfl (n_5w i 4) (by omega) ?_
      show m_W 126 82 [(3, .long (((n_bk R g e i) (5 * i + 2)) - (g i))), (0, .ref 77), (1, .int (nI e)), (2, .int (nI i))] [.long ((r_u (r_u (n_bk R g e i) (5 * i + 1) (((n_bk R g e i) (5 * i + 1)) - (g i))) (5 * i + 2) 0) (5 * i + 4)), .int (((5 : Int32) * (nI i)) + (4 : Int32)), .ref 78] (I, (n_J J (r_u (r_u (n_bk R g e i) (5 * i + 1) (((n_bk R g e i) (5 * i + 1)) - (g i))) (5 * i + 2) 0) g)) _
      rw [show (r_u (r_u (n_bk R g e i) (5 * i + 1) (((n_bk R g e i) (5 * i + 1)) - (g i))) (5 * i + 2) 0) (5 * i + 4) = ((n_bk R g e i) (5 * i + 4)) from by rw [r_un (by omega), r_un (by omega)]]
      show m_W 126 82 [(3, .long (((n_bk R g e i) (5 * i + 2)) - (g i))), (0, .ref 77), (1, .int (nI e)), (2, .int (nI i))] [.long ((n_bk R g e i) (5 * i + 4)), .int (((5 : Int32) * (nI i)) + (4 : Int32)), .ref 78] (I, (n_J J (r_u (r_u (n_bk R g e i) (5 * i + 1) (((n_bk R g e i) (5 * i + 1)) - (g i))) (5 * i + 2) 0) g)) _
      refine c_run 3 (pc' := 87) (ls' := [(3, .long (((n_bk R g e i) (5 * i + 2)) - (g i))), (0, .ref 77), (1, .int (nI e)), (2, .int (nI i))]) (st' := [.int (nI i), .ref 94, .long ((n_bk R g e i) (5 * i + 4)), .int (((5 : Int32) * (nI i)) + (4 : Int32)), .ref 78]) (μ' := (I, (n_J J (r_u (r_u (n_bk R g e i) (5 * i + 1) (((n_bk R g e i) (5 * i + 1)) - (g i))) (5 * i + 2) 0) g))) (Nat.le_of_ble_eq_true rfl) rfl ?_
      refine c_lal i 4 (Nat.le_of_ble_eq_true rfl) rfl rfl rfl rfl rfl (by omega) ?_
      show m_W 126 88 [(3, .long (((n_bk R g e i) (5 * i + 2)) - (g i))), (0, .ref 77), (1, .int (nI e)), (2, .int (nI i))] [.long (g i), .long ((n_bk R g e i) (5 * i + 4)), .int (((5 : Int32) * (nI i)) + (4 : Int32)), .ref 78] (I, (n_J J (r_u (r_u (n_bk R g e i) (5 * i + 1) (((n_bk R g e i) (5 * i + 1)) - (g i))) (5 * i + 2) 0) g)) _
      refine c_run 1 (pc' := 89) (ls' := [(3, .long (((n_bk R g e i) (5 * i + 2)) - (g i))), (0, .ref 77), (1, .int (nI e)), (2, .int (nI i))]) (st' := [.long (((n_bk R g e i) (5 * i + 4)) + (g i)), .int (((5 : Int32) * (nI i)) + (4 : Int32)), .ref 78]) (μ' := (I, (n_J J (r_u (r_u (n_bk R g e i) (5 * i + 1) (((n_bk R g e i) (5 * i + 1)) - (g i))) (5 * i + 2) 0) g))) (Nat.le_of_ble_eq_true rfl) rfl ?_
      refine c_las (5 * i + 4) 140 (Nat.le_of_ble_eq_true rfl) rfl rfl rfl rfl (n_5w i 4) (by omega) ?_
      show m_W 126 90 [(3, .long (((n_bk R g e i) (5 * i + 2)) - (g i))), (0, .ref 77), (1, .int (nI e)), (2, .int (nI i))] [] (I, m_uj (n_J J (r_u (r_u (n_bk R g e i) (5 * i + 1) (((n_bk R g e i) (5 * i + 1)) - (g i))) (5 * i + 2) 0) g) 78 (5 * i + 4) (((n_bk R g e i) (5 * i + 4)) + (g i))) _
      rw [n_JR]
      show m_W 126 90 [(3, .long (((n_bk R g e i) (5 * i + 2)) - (g i))), (0, .ref 77), (1, .int (nI e)), (2, .int (nI i))] [] (I, (n_J J (r_u (r_u (r_u (n_bk R g e i) (5 * i + 1) (((n_bk R g e i) (5 * i + 1)) - (g i))) (5 * i + 2) 0) (5 * i + 4) (((n_bk R g e i) (5 * i + 4)) + (g i))) g)) _
      refine c_run 4 (pc' := 96) (ls' := [(3, .long (((n_bk R g e i) (5 * i + 2)) - (g i))), (0, .ref 77), (1, .int (nI e)), (2, .int (nI i))]) (st' := [.int 1, .int (nI e), .ref 78]) (μ' := (I, (n_J J (r_u (r_u (r_u (n_bk R g e i) (5 * i + 1) (((n_bk R g e i) (5 * i + 1)) - (g i))) (5 * i + 2) 0) (5 * i + 4) (((n_bk R g e i) (5 * i + 4)) + (g i))) g))) (Nat.le_of_ble_eq_true rfl) rfl ?_
      refine c_cs 102 [.int (nI e), .int 1] (r := [.ref 78]) (Nat.le_of_ble_eq_true rfl) rfl (Or.inl rfl) rfl rfl rfl (t_at2 I (n_J J (r_u (r_u (r_u (n_bk R g e i) (5 * i + 1) (((n_bk R g e i) (5 * i + 1)) - (g i))) (5 * i + 2) 0) (5 * i + 4) (((n_bk R g e i) (5 * i + 4)) + (g i))) g) e 1) ?_
      rintro _ _ ⟨rfl, rfl⟩
      show m_W 126 99 [(3, .long (((n_bk R g e i) (5 * i + 2)) - (g i))), (0, .ref 77), (1, .int (nI e)), (2, .int (nI i))] [.int (nI (20 + 3 * e + 1)), .ref 78] (I, (n_J J (r_u (r_u (r_u (n_bk R g e i) (5 * i + 1) (((n_bk R g e i) (5 * i + 1)) - (g i))) (5 * i + 2) 0) (5 * i + 4) (((n_bk R g e i) (5 * i + 4)) + (g i))) g)) _
      refine c_run 1 (pc' := 100) (ls' := [(3, .long (((n_bk R g e i) (5 * i + 2)) - (g i))), (0, .ref 77), (1, .int (nI e)), (2, .int (nI i))]) (st' := [.int (nI (20 + 3 * e + 1)), .ref 78, .int (nI (20 + 3 * e + 1)), .ref 78]) (μ' := (I, (n_J J (r_u (r_u (r_u (n_bk R g e i) (5 * i + 1) (((n_bk R g e i) (5 * i + 1)) - (g i))) (5 * i + 2) 0) (5 * i + 4) (((n_bk R g e i) (5 * i + 4)) + (g i))) g))) (Nat.le_of_ble_eq_true rfl) rfl ?_
      refine c_lal (20 + 3 * e + 1) 140 (Nat.le_of_ble_eq_true rfl) rfl rfl rfl rfl rfl (by omega) ?_
      show m_W 126 101 [(3, .long (((n_bk R g e i) (5 * i + 2)) - (g i))), (0, .ref 77), (1, .int (nI e)), (2, .int (nI i))] [.long ((r_u (r_u (r_u (n_bk R g e i) (5 * i + 1) (((n_bk R g e i) (5 * i + 1)) - (g i))) (5 * i + 2) 0) (5 * i + 4) (((n_bk R g e i) (5 * i + 4)) + (g i))) (20 + 3 * e + 1)), .int (nI (20 + 3 * e + 1)), .ref 78] (I, (n_J J (r_u (r_u (r_u (n_bk R g e i) (5 * i + 1) (((n_bk R g e i) (5 * i + 1)) - (g i))) (5 * i + 2) 0) (5 * i + 4) (((n_bk R g e i) (5 * i + 4)) + (g i))) g)) _
      rw [show (r_u (r_u (r_u (n_bk R g e i) (5 * i + 1) (((n_bk R g e i) (5 * i + 1)) - (g i))) (5 * i + 2) 0) (5 * i + 4) (((n_bk R g e i) (5 * i + 4)) + (g i))) (20 + 3 * e + 1) = ((n_bk R g e i) (20 + 3 * e + 1)) from by rw [r_un (by omega), r_un (by omega), r_un (by omega)]]
      show m_W 126 101 [(3, .long (((n_bk R g e i) (5 * i + 2)) - (g i))), (0, .ref 77), (1, .int (nI e)), (2, .int (nI i))] [.long ((n_bk R g e i) (20 + 3 * e + 1)), .int (nI (20 + 3 * e + 1)), .ref 78] (I, (n_J J (r_u (r_u (r_u (n_bk R g e i) (5 * i + 1) (((n_bk R g e i) (5 * i + 1)) - (g i))) (5 * i + 2) 0) (5 * i + 4) (((n_bk R g e i) (5 * i + 4)) + (g i))) g)) _
      refine c_run 3 (pc' := 106) (ls' := [(3, .long (((n_bk R g e i) (5 * i + 2)) - (g i))), (0, .ref 77), (1, .int (nI e)), (2, .int (nI i))]) (st' := [.int (nI i), .ref 94, .long ((n_bk R g e i) (20 + 3 * e + 1)), .int (nI (20 + 3 * e + 1)), .ref 78]) (μ' := (I, (n_J J (r_u (r_u (r_u (n_bk R g e i) (5 * i + 1) (((n_bk R g e i) (5 * i + 1)) - (g i))) (5 * i + 2) 0) (5 * i + 4) (((n_bk R g e i) (5 * i + 4)) + (g i))) g))) (Nat.le_of_ble_eq_true rfl) rfl ?_
      refine c_lal i 4 (Nat.le_of_ble_eq_true rfl) rfl rfl rfl rfl rfl (by omega) ?_
      show m_W 126 107 [(3, .long (((n_bk R g e i) (5 * i + 2)) - (g i))), (0, .ref 77), (1, .int (nI e)), (2, .int (nI i))] [.long (g i), .long ((n_bk R g e i) (20 + 3 * e + 1)), .int (nI (20 + 3 * e + 1)), .ref 78] (I, (n_J J (r_u (r_u (r_u (n_bk R g e i) (5 * i + 1) (((n_bk R g e i) (5 * i + 1)) - (g i))) (5 * i + 2) 0) (5 * i + 4) (((n_bk R g e i) (5 * i + 4)) + (g i))) g)) _
      refine c_run 1 (pc' := 108) (ls' := [(3, .long (((n_bk R g e i) (5 * i + 2)) - (g i))), (0, .ref 77), (1, .int (nI e)), (2, .int (nI i))]) (st' := [.long (((n_bk R g e i) (20 + 3 * e + 1)) + (g i)), .int (nI (20 + 3 * e + 1)), .ref 78]) (μ' := (I, (n_J J (r_u (r_u (r_u (n_bk R g e i) (5 * i + 1) (((n_bk R g e i) (5 * i + 1)) - (g i))) (5 * i + 2) 0) (5 * i + 4) (((n_bk R g e i) (5 * i + 4)) + (g i))) g))) (Nat.le_of_ble_eq_true rfl) rfl ?_
      refine c_las (20 + 3 * e + 1) 140 (Nat.le_of_ble_eq_true rfl) rfl rfl rfl rfl rfl (by omega) ?_
      show m_W 126 109 [(3, .long (((n_bk R g e i) (5 * i + 2)) - (g i))), (0, .ref 77), (1, .int (nI e)), (2, .int (nI i))] [] (I, m_uj (n_J J (r_u (r_u (r_u (n_bk R g e i) (5 * i + 1) (((n_bk R g e i) (5 * i + 1)) - (g i))) (5 * i + 2) 0) (5 * i + 4) (((n_bk R g e i) (5 * i + 4)) + (g i))) g) 78 (20 + 3 * e + 1) (((n_bk R g e i) (20 + 3 * e + 1)) + (g i))) _
      rw [n_JR]
      show m_W 126 109 [(3, .long (((n_bk R g e i) (5 * i + 2)) - (g i))), (0, .ref 77), (1, .int (nI e)), (2, .int (nI i))] [] (I, (n_J J (r_u (r_u (r_u (r_u (n_bk R g e i) (5 * i + 1) (((n_bk R g e i) (5 * i + 1)) - (g i))) (5 * i + 2) 0) (5 * i + 4) (((n_bk R g e i) (5 * i + 4)) + (g i))) (20 + 3 * e + 1) (((n_bk R g e i) (20 + 3 * e + 1)) + (g i))) g)) _
      refine c_run 4 (pc' := 117) (ls' := [(3, .long (((n_bk R g e i) (5 * i + 2)) - (g i))), (0, .ref 77), (1, .int (nI e)), (2, .int (nI i))]) (st' := [.int 139, .ref 78, .int 139, .ref 78]) (μ' := (I, (n_J J (r_u (r_u (r_u (r_u (n_bk R g e i) (5 * i + 1) (((n_bk R g e i) (5 * i + 1)) - (g i))) (5 * i + 2) 0) (5 * i + 4) (((n_bk R g e i) (5 * i + 4)) + (g i))) (20 + 3 * e + 1) (((n_bk R g e i) (20 + 3 * e + 1)) + (g i))) g))) (Nat.le_of_ble_eq_true rfl) rfl ?_
      refine c_lal 139 140 (Nat.le_of_ble_eq_true rfl) rfl rfl rfl rfl rfl (by decide) ?_
      show m_W 126 118 [(3, .long (((n_bk R g e i) (5 * i + 2)) - (g i))), (0, .ref 77), (1, .int (nI e)), (2, .int (nI i))] [.long ((r_u (r_u (r_u (r_u (n_bk R g e i) (5 * i + 1) (((n_bk R g e i) (5 * i + 1)) - (g i))) (5 * i + 2) 0) (5 * i + 4) (((n_bk R g e i) (5 * i + 4)) + (g i))) (20 + 3 * e + 1) (((n_bk R g e i) (20 + 3 * e + 1)) + (g i))) 139), .int 139, .ref 78] (I, (n_J J (r_u (r_u (r_u (r_u (n_bk R g e i) (5 * i + 1) (((n_bk R g e i) (5 * i + 1)) - (g i))) (5 * i + 2) 0) (5 * i + 4) (((n_bk R g e i) (5 * i + 4)) + (g i))) (20 + 3 * e + 1) (((n_bk R g e i) (20 + 3 * e + 1)) + (g i))) g)) _
      rw [show (r_u (r_u (r_u (r_u (n_bk R g e i) (5 * i + 1) (((n_bk R g e i) (5 * i + 1)) - (g i))) (5 * i + 2) 0) (5 * i + 4) (((n_bk R g e i) (5 * i + 4)) + (g i))) (20 + 3 * e + 1) (((n_bk R g e i) (20 + 3 * e + 1)) + (g i))) 139 = ((n_bk R g e i) 139) from by rw [r_un (by omega), r_un (by omega), r_un (by omega), r_un (by omega)]]
      show m_W 126 118 [(3, .long (((n_bk R g e i) (5 * i + 2)) - (g i))), (0, .ref 77), (1, .int (nI e)), (2, .int (nI i))] [.long ((n_bk R g e i) 139), .int 139, .ref 78] (I, (n_J J (r_u (r_u (r_u (r_u (n_bk R g e i) (5 * i + 1) (((n_bk R g e i) (5 * i + 1)) - (g i))) (5 * i + 2) 0) (5 * i + 4) (((n_bk R g e i) (5 * i + 4)) + (g i))) (20 + 3 * e + 1) (((n_bk R g e i) (20 + 3 * e + 1)) + (g i))) g)) _
      refine c_run 3 (pc' := 123) (ls' := [(3, .long (((n_bk R g e i) (5 * i + 2)) - (g i))), (0, .ref 77), (1, .int (nI e)), (2, .int (nI i))]) (st' := [.int (nI i), .ref 94, .long ((n_bk R g e i) 139), .int 139, .ref 78]) (μ' := (I, (n_J J (r_u (r_u (r_u (r_u (n_bk R g e i) (5 * i + 1) (((n_bk R g e i) (5 * i + 1)) - (g i))) (5 * i + 2) 0) (5 * i + 4) (((n_bk R g e i) (5 * i + 4)) + (g i))) (20 + 3 * e + 1) (((n_bk R g e i) (20 + 3 * e + 1)) + (g i))) g))) (Nat.le_of_ble_eq_true rfl) rfl ?_
      refine c_lal i 4 (Nat.le_of_ble_eq_true rfl) rfl rfl rfl rfl rfl (by omega) ?_
      show m_W 126 124 [(3, .long (((n_bk R g e i) (5 * i + 2)) - (g i))), (0, .ref 77), (1, .int (nI e)), (2, .int (nI i))] [.long (g i), .long ((n_bk R g e i) 139), .int 139, .ref 78] (I, (n_J J (r_u (r_u (r_u (r_u (n_bk R g e i) (5 * i + 1) (((n_bk R g e i) (5 * i + 1)) - (g i))) (5 * i + 2) 0) (5 * i + 4) (((n_bk R g e i) (5 * i + 4)) + (g i))) (20 + 3 * e + 1) (((n_bk R g e i) (20 + 3 * e + 1)) + (g i))) g)) _
      refine c_run 1 (pc' := 125) (ls' := [(3, .long (((n_bk R g e i) (5 * i + 2)) - (g i))), (0, .ref 77), (1, .int (nI e)), (2, .int (nI i))]) (st' := [.long (((n_bk R g e i) 139) + (g i)), .int 139, .ref 78]) (μ' := (I, (n_J J (r_u (r_u (r_u (r_u (n_bk R g e i) (5 * i + 1) (((n_bk R g e i) (5 * i + 1)) - (g i))) (5 * i + 2) 0) (5 * i + 4) (((n_bk R g e i) (5 * i + 4)) + (g i))) (20 + 3 * e + 1) (((n_bk R g e i) (20 + 3 * e + 1)) + (g i))) g))) (Nat.le_of_ble_eq_true rfl) rfl ?_
      refine c_las 139 140 (Nat.le_of_ble_eq_true rfl) rfl rfl rfl rfl rfl (by decide) ?_
      show m_W 126 126 [(3, .long (((n_bk R g e i) (5 * i + 2)) - (g i))), (0, .ref 77), (1, .int (nI e)), (2, .int (nI i))] [] (I, m_uj (n_J J (r_u (r_u (r_u (r_u (n_bk R g e i) (5 * i + 1) (((n_bk R g e i) (5 * i + 1)) - (g i))) (5 * i + 2) 0) (5 * i + 4) (((n_bk R g e i) (5 * i + 4)) + (g i))) (20 + 3 * e + 1) (((n_bk R g e i) (20 + 3 * e + 1)) + (g i))) g) 78 139 (((n_bk R g e i) 139) + (g i))) _
      rw [n_JR]
      show m_W 126 126 [(3, .long (((n_bk R g e i) (5 * i + 2)) - (g i))), (0, .ref 77), (1, .int (nI e)), (2, .int (nI i))] [] (I, (n_J J (r_u (r_u (r_u (r_u (r_u (n_bk R g e i) (5 * i + 1) (((n_bk R g e i) (5 * i + 1)) - (g i))) (5 * i + 2) 0) (5 * i + 4) (((n_bk R g e i) (5 * i + 4)) + (g i))) (20 + 3 * e + 1) (((n_bk R g e i) (20 + 3 * e + 1)) + (g i))) 139 (((n_bk R g e i) 139) + (g i))) g)) _
      refine c_run 2 (pc' := 9) (ls' := [(2, .int ((nI i) + (1 : Int32))), (3, .long (((n_bk R g e i) (5 * i + 2)) - (g i))), (0, .ref 77), (1, .int (nI e))]) (st' := []) (μ' := (I, (n_J J (r_u (r_u (r_u (r_u (r_u (n_bk R g e i) (5 * i + 1) (((n_bk R g e i) (5 * i + 1)) - (g i))) (5 * i + 2) 0) (5 * i + 4) (((n_bk R g e i) (5 * i + 4)) + (g i))) (20 + 3 * e + 1) (((n_bk R g e i) (20 + 3 * e + 1)) + (g i))) 139 (((n_bk R g e i) 139) + (g i))) g))) (Nat.le_of_ble_eq_true rfl) rfl ?_
      refine c_w [2, 3, 0] (ls' := [(0, .ref 77), (1, .int (nI e)), (2, .int ((nI i) + (1 : Int32)))]) rfl ?_
      have hrow : (r_u (r_u (r_u (r_u (r_u (n_bk R g e i) (5 * i + 1) (((n_bk R g e i) (5 * i + 1)) - (g i))) (5 * i + 2) 0) (5 * i + 4) (((n_bk R g e i) (5 * i + 4)) + (g i))) (20 + 3 * e + 1) (((n_bk R g e i) (20 + 3 * e + 1)) + (g i))) 139 (((n_bk R g e i) 139) + (g i))) = n_bk R g e (i + 1) := by
        rw [n_bk, n_mx]
        first | rw [if_pos (by assumption)] | rw [if_neg (by assumption)]
      rw [nI_1 i, hrow]
      exact ih (i + 1) (by omega)

set_option maxRecDepth 100000 in
theorem n_books (I : Nat → Nat → Int32) (J : Nat → Nat → Int64) (R G : Nat → Int64) (e : Nat) (he : e < 6) (n : Nat) (hn : I 77 2 = nI n) (hn4 : n ≤ 4) (op : Int32) (hop : ∀ t, t < n → (n_op R e t ↔ ((op >>> (nI t &&& 31)) &&& (1 : Int32)) = 1))  : m_W 126 0 (lv_args 0 [.ref 77, .int (nI e)]) [] (I, (n_J J R G)) (m_E none (I, n_J J (n_bk R (n_gv op (I 89 e) (n_m R 1) n G 4) e n) (n_gv op (I 89 e) (n_m R 1) n G 4))) := by
  show m_W 126 0 [(0, .ref 77), (1, .int (nI e))] [] (I, (n_J J R G)) _
  refine c_run 3 (pc' := 3) (ls' := [(0, .ref 77), (1, .int (nI e))]) (st' := [.int 1, .int (nI e), .ref 77]) (μ' := (I, (n_J J R G))) (Nat.le_of_ble_eq_true rfl) rfl ?_
  refine c_cv 124 [.int (nI e), .int 1] (b := 77) (r := []) (Nat.le_of_ble_eq_true rfl) rfl rfl rfl rfl rfl rfl (n_isGiven I J R G e he n hn hn4 op hop 1 (by decide)) ?_
  rintro _ _ ⟨rfl, rfl⟩
  show m_W 126 6 [(0, .ref 77), (1, .int (nI e))] [.int (s01 (0 < d_cnt op (n_m R 1) n))] (I, (n_J J R (n_gv op (I 89 e) (n_m R 1) n G 4))) _
  refine c_run 3 (pc' := 9) (ls' := [(2, .int 0), (0, .ref 77), (1, .int (nI e))]) (st' := []) (μ' := (I, (n_J J R (n_gv op (I 89 e) (n_m R 1) n G 4)))) (Nat.le_of_ble_eq_true rfl) rfl ?_
  refine c_w [1, 2, 0] (ls' := [(0, .ref 77), (1, .int (nI e)), (2, .int 0)]) rfl ?_
  exact n_bk_l I J R _ e he n hn hn4 n 0 (by omega)

