/-! the two square roots, word -/
theorem sq_sh : ∀ j, j ≤ 25 → lN (2 ^ (j + 1)) >>> ((1 : Int32).toInt64 &&& 63) = lN (2 ^ j) := by decide +kernel
theorem sq_le {n a : Nat} (hn : n < 4503599627370496) (ha : a < 134217728) : lN n < lN a * lN a ↔ n < a * a := by
  have h1 : a * a < 2 ^ 63 := by
    have := Nat.mul_le_mul (Nat.le_of_lt ha) (Nat.le_of_lt ha)
    omega
  rw [lN_mul a a, pk_lLT (by omega) h1]
def sq_b (j : Nat) : Int64 := if j = 0 then 0 else lN (2 ^ (j - 1))
theorem sq_b1 : ∀ j, j ≤ 26 → sq_b (j + 1) >>> ((1 : Int32).toInt64 &&& 63) = sq_b j := by decide +kernel
theorem sq_bp : ∀ j, j ≤ 26 → (sq_b j ≤ 0 ↔ j = 0) := by decide +kernel
set_option maxRecDepth 100000 in
theorem t_sq_loop (I : Nat → Nat → Int32) (J : Nat → Nat → Int64) (n : Nat) (hn : n < 4503599627370496) : ∀ (j r : Nat), j ≤ 26 → r + 2 ^ j ≤ 67108864 → r * r ≤ n → n < (r + 2 ^ j) * (r + 2 ^ j) → m_W 37 7 [(0, .long (lN n)), (2, .long (lN r)), (4, .long (sq_b j))] [] (I, J) (m_E (some (.long (s_rt (lN n)))) (I, J)) := by
  intro j
  induction j with
  | zero =>
    intro r hj hb h1 h2
    refine c_run 3 (pc' := 11) (ls' := [(0, .long (lN n)), (2, .long (lN r)), (4, .long (sq_b 0))]) (st' := [.int (lg_cmp (sq_b 0) 0)]) (μ' := (I, J)) (Nat.le_of_ble_eq_true rfl) rfl ?_
    refine c_ifle 42 (Nat.le_of_ble_eq_true rfl) rfl rfl (fun _ => ?_) (fun h => absurd (lc_le.mpr ((sq_bp 0 (by omega)).mpr rfl)) h)
    refine c_run 1 (pc' := 43) (ls' := [(0, .long (lN n)), (2, .long (lN r)), (4, .long (sq_b 0))]) (st' := [.long (lN r)]) (μ' := (I, J)) (Nat.le_of_ble_eq_true rfl) rfl ?_
    refine c_lret (Nat.le_of_ble_eq_true rfl) rfl rfl ?_
    refine ⟨?_, rfl⟩
    have e : r = s_isq n := s_isq_un h1 (by simpa using h2)
    rw [s_rt, pk_lT (by omega), Int.toNat_natCast, ← e]
  | succ j ih =>
    intro r hj hb h1 h2
    refine c_run 3 (pc' := 11) (ls' := [(0, .long (lN n)), (2, .long (lN r)), (4, .long (sq_b (j + 1)))]) (st' := [.int (lg_cmp (sq_b (j + 1)) 0)]) (μ' := (I, J)) (Nat.le_of_ble_eq_true rfl) rfl ?_
    refine c_ifle 42 (Nat.le_of_ble_eq_true rfl) rfl rfl (fun h => absurd ((sq_bp (j + 1) (by omega)).mp (lc_le.mp h)) (by omega)) (fun _ => ?_)
    have e2 : 2 ^ (j + 1) = 2 * 2 ^ j := by rw [Nat.pow_succ, Nat.mul_comm]
    have eg : lN r + sq_b (j + 1) = lN (r + 2 ^ j) := lN_add r (2 ^ j)
    rw [e2] at hb h2
    refine c_run 9 (pc' := 27) (ls' := [(6, .long ((lN r) + (sq_b (j + 1)))), (0, .long (lN n)), (2, .long (lN r)), (4, .long (sq_b (j + 1)))]) (st' := [.int (lg_cmp (((lN r) + (sq_b (j + 1))) * ((lN r) + (sq_b (j + 1)))) (lN n))]) (μ' := (I, J)) (Nat.le_of_ble_eq_true rfl) rfl ?_
    rw [eg]
    refine c_ifgt 33 (Nat.le_of_ble_eq_true rfl) rfl rfl (fun h => ?_) (fun h => ?_)
    · replace h := lc_gt.mp h
      rw [sq_le hn (by omega)] at h
      refine c_run 5 (pc' := 7) (ls' := [(4, .long ((sq_b (j + 1)) >>> ((1 : Int32).toInt64 &&& 63))), (6, .long (lN (r + 2 ^ j))), (0, .long (lN n)), (2, .long (lN r))]) (st' := []) (μ' := (I, J)) (Nat.le_of_ble_eq_true rfl) rfl ?_
      refine c_w [2, 3, 0] (ls' := [(0, .long (lN n)), (2, .long (lN r)), (4, .long ((sq_b (j + 1)) >>> ((1 : Int32).toInt64 &&& 63)))]) rfl ?_
      rw [show sq_b (j + 1) >>> ((1 : Int32).toInt64 &&& 63) = sq_b j from sq_b1 j (by omega)]
      exact ih r (by omega) (by omega) h1 h
    · replace h := mt lc_gt.mpr h
      rw [sq_le hn (by omega)] at h
      refine c_run 7 (pc' := 7) (ls' := [(4, .long ((sq_b (j + 1)) >>> ((1 : Int32).toInt64 &&& 63))), (2, .long (lN (r + 2 ^ j))), (6, .long (lN (r + 2 ^ j))), (0, .long (lN n))]) (st' := []) (μ' := (I, J)) (Nat.le_of_ble_eq_true rfl) rfl ?_
      refine c_w [3, 1, 0] (ls' := [(0, .long (lN n)), (2, .long (lN (r + 2 ^ j))), (4, .long ((sq_b (j + 1)) >>> ((1 : Int32).toInt64 &&& 63)))]) rfl ?_
      rw [show sq_b (j + 1) >>> ((1 : Int32).toInt64 &&& 63) = sq_b j from sq_b1 j (by omega)]
      exact ih (r + 2 ^ j) (by omega) (by omega) (by omega) (by rw [show r + 2 ^ j + 2 ^ j = r + 2 * 2 ^ j by omega]; exact h2)

set_option maxRecDepth 100000 in
theorem t_sq (I : Nat → Nat → Int32) (J : Nat → Nat → Int64) (n : Nat) (hn : n < 4503599627370496) : m_W 37 0 (lv_args 0 [.long (lN n)]) [] (I, J) (m_E (some (.long (s_rt (lN n)))) (I, J)) := by
  show m_W 37 0 [(0, .long (lN n))] [] (I, J) _
  refine c_run 4 (pc' := 7) (ls' := [(4, .long 33554432), (2, .long 0), (0, .long (lN n))]) (st' := []) (μ' := (I, J)) (Nat.le_of_ble_eq_true rfl) rfl ?_
  refine c_w [2, 1, 0] (ls' := [(0, .long (lN n)), (2, .long 0), (4, .long 33554432)]) rfl ?_
  exact t_sq_loop I J n hn 26 0 (by omega) (by omega) (by omega) (by omega)

set_option maxRecDepth 100000 in
theorem t_rt_loop (I : Nat → Nat → Int32) (J : Nat → Nat → Int64) (n : Nat) (hn : n < 4503599627370496) : ∀ (m r t : Nat), t - r ≤ m → r < t → t ≤ 67108864 → r * r ≤ n → n < t * t → m_W 97 7 [(0, .long (lN n)), (2, .long (lN r)), (4, .long (lN t))] [] (I, J) (m_E (some (.long (s_rt (lN n)))) (I, J)) := by
  intro m
  induction m with
  | zero =>
    intro r t h h'
    exact absurd h (by omega)
  | succ m ih =>
    intro r t hm0 hlt hb h1 h2
    refine c_run 5 (pc' := 13) (ls' := [(0, .long (lN n)), (2, .long (lN r)), (4, .long (lN t))]) (st' := [.int (lg_cmp ((lN t) - (lN r)) 1)]) (μ' := (I, J)) (Nat.le_of_ble_eq_true rfl) rfl ?_
    refine c_ifle 65 (Nat.le_of_ble_eq_true rfl) rfl rfl (fun h => ?_) (fun h => ?_)
    · have h := (pk_lLE (by omega) (by decide)).mp (show lN (t - r) ≤ lN 1 from by rw [← lN_sub (by omega)]; exact lc_le.mp h)
      refine c_run 1 (pc' := 66) (ls' := [(0, .long (lN n)), (2, .long (lN r)), (4, .long (lN t))]) (st' := [.long (lN r)]) (μ' := (I, J)) (Nat.le_of_ble_eq_true rfl) rfl ?_
      refine c_lret (Nat.le_of_ble_eq_true rfl) rfl rfl ?_
      refine ⟨?_, rfl⟩
      have e : r = s_isq n := s_isq_un h1 (by rw [show r + 1 = t by omega]; exact h2)
      rw [s_rt, pk_lT (by omega), Int.toNat_natCast, ← e]
    · have h : ¬ lN t - lN r ≤ 1 := mt lc_le.mpr h
      rw [lN_sub (by omega), show (1 : Int64) = lN 1 from rfl, pk_lLE (by omega) (by decide)] at h
      refine c_run 4 (pc' := 23) (ls' := [(0, .long (lN n)), (2, .long (lN r)), (4, .long (lN t))]) (st' := [.long 2, .long ((lN r) + (lN t))]) (μ' := (I, J)) (Nat.le_of_ble_eq_true rfl) rfl ?_
      refine c_ldiv (Nat.le_of_ble_eq_true rfl) rfl (by decide) ?_
      have em : (lN r + lN t) / 2 = lN ((r + t) / 2) := by rw [lN_add]; exact pk_lDiv (b := 2) (by omega) (by decide) (by decide)
      rw [em]
      have hm : r < (r + t) / 2 ∧ (r + t) / 2 < t := by omega
      generalize (r + t) / 2 = y at hm ⊢
      refine c_run 6 (pc' := 33) (ls' := [(6, .long (lN y)), (0, .long (lN n)), (2, .long (lN r)), (4, .long (lN t))]) (st' := [.int (lg_cmp ((lN y) * (lN y)) (lN n))]) (μ' := (I, J)) (Nat.le_of_ble_eq_true rfl) rfl ?_
      refine c_ifgt 41 (Nat.le_of_ble_eq_true rfl) rfl rfl (fun h5 => ?_) (fun h5 => ?_)
      · replace h5 := lc_gt.mp h5
        have h6 := h5
        rw [sq_le hn (by omega)] at h6
        refine c_run 7 (pc' := 50) (ls' := [(2, .long (lN r)), (6, .long (lN y)), (0, .long (lN n)), (4, .long (lN t))]) (st' := [.int (lg_cmp ((lN y) * (lN y)) (lN n))]) (μ' := (I, J)) (Nat.le_of_ble_eq_true rfl) rfl ?_
        refine c_ifgt 58 (Nat.le_of_ble_eq_true rfl) rfl rfl (fun _ => ?_) (fun h7 => absurd (lc_gt.mpr h5) h7)
        refine c_run 3 (pc' := 7) (ls' := [(4, .long (lN y)), (2, .long (lN r)), (6, .long (lN y)), (0, .long (lN n))]) (st' := []) (μ' := (I, J)) (Nat.le_of_ble_eq_true rfl) rfl ?_
        refine c_w [3, 1, 0] (ls' := [(0, .long (lN n)), (2, .long (lN r)), (4, .long (lN y))]) rfl ?_
        exact ih r y (by omega) (by omega) (by omega) h1 h6
      · replace h5 := mt lc_gt.mpr h5
        have h6 := h5
        rw [sq_le hn (by omega)] at h6
        refine c_run 8 (pc' := 50) (ls' := [(2, .long (lN y)), (6, .long (lN y)), (0, .long (lN n)), (4, .long (lN t))]) (st' := [.int (lg_cmp ((lN y) * (lN y)) (lN n))]) (μ' := (I, J)) (Nat.le_of_ble_eq_true rfl) rfl ?_
        refine c_ifgt 58 (Nat.le_of_ble_eq_true rfl) rfl rfl (fun h7 => absurd (lc_gt.mp h7) h5) (fun _ => ?_)
        refine c_run 4 (pc' := 7) (ls' := [(4, .long (lN t)), (2, .long (lN y)), (6, .long (lN y)), (0, .long (lN n))]) (st' := []) (μ' := (I, J)) (Nat.le_of_ble_eq_true rfl) rfl ?_
        refine c_w [3, 1, 0] (ls' := [(0, .long (lN n)), (2, .long (lN y)), (4, .long (lN t))]) rfl ?_
        exact ih y t (by omega) (by omega) (by omega) (by omega) h2

set_option maxRecDepth 100000 in
theorem t_rt (I : Nat → Nat → Int32) (J : Nat → Nat → Int64) (n : Nat) (hn : n < 4503599627370496) : m_W 97 0 (lv_args 0 [.long (lN n)]) [] (I, J) (m_E (some (.long (s_rt (lN n)))) (I, J)) := by
  show m_W 97 0 [(0, .long (lN n))] [] (I, J) _
  refine c_run 4 (pc' := 7) (ls' := [(4, .long 67108864), (2, .long 0), (0, .long (lN n))]) (st' := []) (μ' := (I, J)) (Nat.le_of_ble_eq_true rfl) rfl ?_
  refine c_w [2, 1, 0] (ls' := [(0, .long (lN n)), (2, .long 0), (4, .long 67108864)]) rfl ?_
  exact t_rt_loop I J n hn 67108864 0 67108864 (by omega) (by omega) (by omega) (by omega) (by omega)

def s_word (a b c d e : Int32) : Int32 := ((((if a = 0 then 0 else a - 96) <<< ((5 : Int32) &&& 31) ||| (b - 96)) <<< ((5 : Int32) &&& 31) ||| (c - 96)) <<< ((5 : Int32) &&& 31) ||| (d - 96)) <<< ((5 : Int32) &&& 31) ||| (e - 96)
set_option maxRecDepth 100000 in
theorem t_word (I : Nat → Nat → Int32) (J : Nat → Nat → Int64) (a b c d e : Int32) : m_W 144 0 (lv_args 0 [.int a, .int b, .int c, .int d, .int e]) [] (I, J) (m_E (some (.int (s_word a b c d e))) (I, J)) := by
  show m_W 144 0 [(0, .int a), (1, .int b), (2, .int c), (3, .int d), (4, .int e)] [] (I, J) _
  refine c_run 1 (pc' := 1) (ls' := [(0, .int a), (1, .int b), (2, .int c), (3, .int d), (4, .int e)]) (st' := [.int a]) (μ' := (I, J)) (Nat.le_of_ble_eq_true rfl) rfl ?_
  refine c_ifne 8 (Nat.le_of_ble_eq_true rfl) rfl rfl (fun h1 => ?_) (fun h1 => ?_)
  · skip
    refine c_run 35 (pc' := 57) (ls' := [(5, .int (((((((a - (96 : Int32)) <<< ((5 : Int32) &&& 31)) ||| (b - (96 : Int32))) <<< ((5 : Int32) &&& 31)) ||| (c - (96 : Int32))) <<< ((5 : Int32) &&& 31)) ||| (d - (96 : Int32)))), (0, .int a), (1, .int b), (2, .int c), (3, .int d), (4, .int e)]) (st' := [.int (((((((((a - (96 : Int32)) <<< ((5 : Int32) &&& 31)) ||| (b - (96 : Int32))) <<< ((5 : Int32) &&& 31)) ||| (c - (96 : Int32))) <<< ((5 : Int32) &&& 31)) ||| (d - (96 : Int32))) <<< ((5 : Int32) &&& 31)) ||| (e - (96 : Int32)))]) (μ' := (I, J)) (Nat.le_of_ble_eq_true rfl) rfl ?_
    refine c_ret (Nat.le_of_ble_eq_true rfl) rfl rfl ⟨by decide, rfl⟩ ?_
    refine ⟨?_, rfl⟩
    unfold s_word
    first | rw [if_pos (by assumption)] | rw [if_neg (by assumption)]
  · skip
    refine c_run 34 (pc' := 57) (ls' := [(5, .int (((((((0 : Int32) <<< ((5 : Int32) &&& 31)) ||| (b - (96 : Int32))) <<< ((5 : Int32) &&& 31)) ||| (c - (96 : Int32))) <<< ((5 : Int32) &&& 31)) ||| (d - (96 : Int32)))), (0, .int a), (1, .int b), (2, .int c), (3, .int d), (4, .int e)]) (st' := [.int (((((((((0 : Int32) <<< ((5 : Int32) &&& 31)) ||| (b - (96 : Int32))) <<< ((5 : Int32) &&& 31)) ||| (c - (96 : Int32))) <<< ((5 : Int32) &&& 31)) ||| (d - (96 : Int32))) <<< ((5 : Int32) &&& 31)) ||| (e - (96 : Int32)))]) (μ' := (I, J)) (Nat.le_of_ble_eq_true rfl) rfl ?_
    refine c_ret (Nat.le_of_ble_eq_true rfl) rfl rfl ⟨by decide, rfl⟩ ?_
    refine ⟨?_, rfl⟩
    unfold s_word
    first | rw [if_pos (by assumption)] | rw [if_neg (by assumption)]

