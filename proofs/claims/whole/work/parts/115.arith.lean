/-! ARITHMETIC: machine numbers as integers -/
theorem q_bm {z : Int} (h1 : -9223372036854775808 ≤ z) (h2 : z < 9223372036854775808) : z.bmod 18446744073709551616 = z := by
  rw [Int.bmod_def]
  split <;> omega
theorem q_lt (x : Int64) : -9223372036854775808 ≤ x.toInt ∧ x.toInt < 9223372036854775808 := ⟨Int64.le_toInt x, Int64.toInt_lt x⟩
theorem q_add {a b : Int64} (h1 : -9223372036854775808 ≤ a.toInt + b.toInt) (h2 : a.toInt + b.toInt < 9223372036854775808) : (a + b).toInt = a.toInt + b.toInt := by
  rw [Int64.toInt_add]; exact q_bm h1 h2
theorem q_sub {a b : Int64} (h1 : -9223372036854775808 ≤ a.toInt - b.toInt) (h2 : a.toInt - b.toInt < 9223372036854775808) : (a - b).toInt = a.toInt - b.toInt := by
  rw [Int64.toInt_sub]; exact q_bm h1 h2
theorem q_mul {a b : Int64} (h1 : -9223372036854775808 ≤ a.toInt * b.toInt) (h2 : a.toInt * b.toInt < 9223372036854775808) : (a * b).toInt = a.toInt * b.toInt := by
  rw [Int64.toInt_mul]; exact q_bm h1 h2
theorem q_tdiv_le {a b : Int} (hb : 0 < b) : (0 ≤ a → 0 ≤ a.tdiv b ∧ a.tdiv b ≤ a ∧ b * a.tdiv b ≤ a ∧ a < b * a.tdiv b + b) ∧ (a ≤ 0 → a ≤ a.tdiv b ∧ a.tdiv b ≤ 0 ∧ a ≤ b * a.tdiv b ∧ b * a.tdiv b - b < a) := by
  have key : ∀ a : Int, 0 ≤ a → 0 ≤ a.tdiv b ∧ a.tdiv b ≤ a ∧ b * a.tdiv b ≤ a ∧ a < b * a.tdiv b + b := by
    intro a ha
    rw [Int.tdiv_eq_ediv_of_nonneg ha]
    have h1 := Int.mul_ediv_add_emod a b
    have h2 := Int.emod_nonneg a (by omega : b ≠ 0)
    have h3 := Int.emod_lt_of_pos a hb
    have h4 : 0 ≤ a / b := Int.ediv_nonneg ha (by omega)
    have h5 : a / b ≤ b * (a / b) := by
      have := Int.mul_le_mul_of_nonneg_right (show 1 ≤ b by omega) h4
      omega
    omega
  refine ⟨key a, fun ha => ?_⟩
  have h := key (-a) (by omega)
  rw [Int.neg_tdiv, Int.mul_neg] at h
  omega
theorem q_td {a b : Int} (hb : 0 < b) : (0 ≤ a ∧ 0 ≤ a.tdiv b ∧ a.tdiv b ≤ a ∧ b * a.tdiv b ≤ a ∧ a < b * a.tdiv b + b ∧ a.tdiv b ≤ b * a.tdiv b) ∨ (a ≤ 0 ∧ a ≤ a.tdiv b ∧ a.tdiv b ≤ 0 ∧ a ≤ b * a.tdiv b ∧ b * a.tdiv b - b < a ∧ b * a.tdiv b ≤ a.tdiv b) := by
  rcases Int.le_total 0 a with h0 | h0
  · have h := (q_tdiv_le hb).1 h0
    have h5 := Int.mul_le_mul_of_nonneg_right (show 1 ≤ b by omega) h.1
    exact Or.inl ⟨h0, h.1, h.2.1, h.2.2.1, h.2.2.2, by omega⟩
  · have h := (q_tdiv_le hb).2 h0
    have h5 := Int.mul_le_mul_of_nonneg_right (show 1 ≤ b by omega) (show 0 ≤ -(a.tdiv b) by omega)
    rw [Int.mul_neg, Int.mul_neg] at h5
    exact Or.inr ⟨h0, h.1, h.2.1, h.2.2.1, h.2.2.2, by omega⟩
theorem q_div {a b : Int64} (hb : 0 < b.toInt) : (a / b).toInt = a.toInt.tdiv b.toInt := by
  have ha := q_lt a
  have h := q_tdiv_le (a := a.toInt) hb
  rw [Int64.toInt_div]
  apply q_bm <;> (rcases q_td (a := a.toInt) hb with h9 | h9 <;> omega)
theorem q_ediv {a b : Int} (hb : 0 < b) : a / b = if a < b * a.tdiv b then a.tdiv b - 1 else a.tdiv b := by
  have h := q_tdiv_le (a := a) hb
  have h1 := Int.mul_ediv_add_emod a b
  have h2 := Int.emod_nonneg a (by omega : b ≠ 0)
  have h3 := Int.emod_lt_of_pos a hb
  generalize a.tdiv b = t at h ⊢
  generalize a / b = e at h1 ⊢
  have hmono : ∀ x y : Int, b * x < b * y + b → x ≤ y := by
    intro x y hxy
    have : b * x < b * (y + 1) := by rw [Int.mul_add]; omega
    have := Int.lt_of_mul_lt_mul_left this (by omega)
    omega
  split
  next hlt =>
    rcases Int.le_total 0 a with h0 | h0
    · have := h.1 h0; omega
    · have := h.2 h0
      have e1 := hmono e (t - 1) (by rw [Int.mul_sub]; omega)
      have e2 := hmono (t - 1) e (by rw [Int.mul_sub]; omega)
      omega
  next hlt =>
    rcases Int.le_total 0 a with h0 | h0
    · have := h.1 h0
      have e1 := hmono e t (by omega)
      have e2 := hmono t e (by omega)
      omega
    · have := h.2 h0
      have e1 := hmono e t (by omega)
      have e2 := hmono t e (by omega)
      omega
/-- division rounded down -/
def s_fl (a b : Int64) : Int64 := Int64.ofInt (a.toInt / b.toInt)
theorem s_fl_toInt {a b : Int64} (hb : 0 < b.toInt) : (s_fl a b).toInt = a.toInt / b.toInt := by
  have ha := q_lt a
  have h := q_tdiv_le (a := a.toInt) hb
  have e := q_ediv (a := a.toInt) hb
  unfold s_fl
  rw [Int64.toInt_ofInt]
  apply q_bm <;> (rw [e]; rcases q_td (a := a.toInt) hb with h9 | h9 <;> split <;> omega)
theorem q_mulq {a b : Int64} (hb : 0 < b.toInt) : (a / b * b).toInt = b.toInt * a.toInt.tdiv b.toInt := by
  have ha := q_lt a
  have h := q_tdiv_le (a := a.toInt) hb
  have e : (a / b).toInt * b.toInt = b.toInt * a.toInt.tdiv b.toInt := by rw [q_div hb, Int.mul_comm]
  rw [q_mul (by rw [e]; rcases q_td (a := a.toInt) hb with h9 | h9 <;> omega) (by rw [e]; rcases q_td (a := a.toInt) hb with h9 | h9 <;> omega), e]
theorem s_fl_1 {a b : Int64} (hb : 0 < b.toInt) (h : a < a / b * b) : a / b - 1 = s_fl a b := by
  rw [Int64.lt_iff_toInt_lt, q_mulq hb] at h
  apply Int64.toInt_inj.mp
  have ha := q_lt a
  have h2 := q_tdiv_le (a := a.toInt) hb
  have e1 : (1 : Int64).toInt = 1 := rfl
  rw [s_fl_toInt hb, q_ediv hb, if_pos h, q_sub (by rw [q_div hb, e1]; rcases q_td (a := a.toInt) hb with h9 | h9 <;> omega) (by rw [q_div hb, e1]; rcases q_td (a := a.toInt) hb with h9 | h9 <;> omega), q_div hb, e1]
theorem s_fl_0 {a b : Int64} (hb : 0 < b.toInt) (h : ¬ a < a / b * b) : a / b = s_fl a b := by
  rw [Int64.lt_iff_toInt_lt, q_mulq hb] at h
  apply Int64.toInt_inj.mp
  rw [s_fl_toInt hb, q_ediv hb, if_neg h, q_div hb]
theorem lc_lt {x y : Int64} : lg_cmp x y < 0 ↔ x < y := by
  unfold lg_cmp
  split
  next h => exact ⟨fun q => absurd q (by decide), fun q => (Int64.lt_irrefl (Int64.lt_trans h q)).elim⟩
  next h =>
    split
    next h2 => subst h2; exact ⟨fun q => absurd q (by decide), fun q => (Int64.lt_irrefl q).elim⟩
    next h2 =>
      refine ⟨fun _ => ?_, fun _ => by decide⟩
      have h : ¬ y < x := h
      rw [Int64.lt_iff_toInt_lt] at h ⊢
      have : ¬ x.toInt = y.toInt := fun q => h2 (Int64.toInt_inj.mp q)
      omega
theorem lc_eq {x y : Int64} : lg_cmp x y = 0 ↔ x = y := by
  unfold lg_cmp
  split
  next h => exact ⟨fun q => absurd q (by decide), fun q => by subst q; exact (Int64.lt_irrefl h).elim⟩
  next h =>
    split
    next h2 => exact ⟨fun _ => h2, fun _ => rfl⟩
    next h2 => exact ⟨fun q => absurd q (by decide), fun q => absurd q h2⟩
theorem lc_gt {x y : Int64} : 0 < lg_cmp x y ↔ y < x := by
  unfold lg_cmp
  split
  next h => exact ⟨fun _ => h, fun _ => by decide⟩
  next h =>
    split
    next h2 => exact ⟨fun q => absurd q (by decide), fun q => absurd q h⟩
    next h2 => exact ⟨fun q => absurd q (by decide), fun q => absurd q h⟩
theorem lc_ge {x y : Int64} : 0 ≤ lg_cmp x y ↔ y ≤ x := by
  rw [← Int32.not_lt, lc_lt, Int64.not_lt]
theorem lc_le {x y : Int64} : lg_cmp x y ≤ 0 ↔ x ≤ y := by
  rw [← Int32.not_lt, lc_gt, Int64.not_lt]
/-- the square root rounded down -/
def s_isq : Nat → Nat
  | 0 => 0
  | n + 1 => if (s_isq n + 1) * (s_isq n + 1) ≤ n + 1 then s_isq n + 1 else s_isq n
theorem s_isq_sp (n : Nat) : s_isq n * s_isq n ≤ n ∧ n < (s_isq n + 1) * (s_isq n + 1) := by
  induction n with
  | zero => decide
  | succ n ih =>
    rw [s_isq]
    generalize s_isq n = r at ih ⊢
    split
    next h =>
      refine ⟨h, ?_⟩
      have : (r + 1 + 1) * (r + 1 + 1) = (r + 1) * (r + 1) + 2 * (r + 1) + 1 := by rw [Nat.mul_add, Nat.add_mul]; omega
      omega
    next h => exact ⟨by omega, by omega⟩
theorem s_isq_un {n r : Nat} (h1 : r * r ≤ n) (h2 : n < (r + 1) * (r + 1)) : r = s_isq n := by
  obtain ⟨h3, h4⟩ := s_isq_sp n
  generalize s_isq n = q at h3 h4
  rcases Nat.lt_trichotomy r q with h | h | h
  · have := Nat.mul_le_mul (show r + 1 ≤ q from h) (show r + 1 ≤ q from h); omega
  · exact h
  · have := Nat.mul_le_mul (show q + 1 ≤ r from h) (show q + 1 ≤ r from h); omega
def s_rt (v : Int64) : Int64 := lN (s_isq v.toInt.toNat)
