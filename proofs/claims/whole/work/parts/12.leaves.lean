/-! LEAVES: the static methods, Math's, the model's small ones -/
def s01 (p : Prop) [Decidable p] : Int32 := if p then 1 else 0
theorem s01_t {p : Prop} [Decidable p] (h : p) : s01 p = 1 := if_pos h
theorem s01_f {p : Prop} [Decidable p] (h : ¬ p) : s01 p = 0 := if_neg h
theorem s01_n {p : Prop} [Decidable p] : ¬ FieldType.boolean = .long ∧ narrow .boolean (.int (s01 p)) = .int (s01 p) := by
  refine ⟨by decide, ?_⟩
  by_cases h : p
  · rw [s01_t h]; rfl
  · rw [s01_f h]; rfl
theorem s01_0 {p : Prop} [Decidable p] : s01 p = 0 ↔ ¬ p := by
  by_cases h : p
  · rw [s01_t h]; exact ⟨fun q => absurd q (by decide), fun q => absurd h q⟩
  · rw [s01_f h]; exact ⟨fun _ => h, fun _ => rfl⟩
theorem s01_1 {p : Prop} [Decidable p] : ¬ s01 p = 0 ↔ p := by
  rw [s01_0]; exact Classical.not_not
set_option maxRecDepth 100000 in
theorem t_isWithin (I : Nat → Nat → Int32) (J : Nat → Nat → Int64) (x a b : Int32) : m_W 35 0 (lv_args 0 [.int x, .int a, .int b]) [] (I, J) (m_E (some (.int (s01 (a ≤ x ∧ x ≤ b)))) (I, J)) := by
  show m_W 35 0 [(0, .int x), (1, .int a), (2, .int b)] [] (I, J) _
  refine c_run 2 (pc' := 2) (ls' := [(0, .int x), (1, .int a), (2, .int b)]) (st' := [.int a, .int x]) (μ' := (I, J)) (Nat.le_of_ble_eq_true rfl) rfl ?_
  refine c_iclt 14 (Nat.le_of_ble_eq_true rfl) rfl rfl (fun h1 => ?_) (fun h1 => ?_)
  · skip
    refine c_run 1 (pc' := 15) (ls' := [(0, .int x), (1, .int a), (2, .int b)]) (st' := [.int 0]) (μ' := (I, J)) (Nat.le_of_ble_eq_true rfl) rfl ?_
    refine c_ret (Nat.le_of_ble_eq_true rfl) rfl rfl ⟨by decide, rfl⟩ ?_
    refine ⟨?_, rfl⟩
    first
      | exact congrArg (fun z => some (Value.int z)) (s01_t (by simp only [Int32.lt_iff_toInt_lt, Int32.le_iff_toInt_le, Int64.lt_iff_toInt_lt, Int64.le_iff_toInt_le] at *; omega)).symm
      | exact congrArg (fun z => some (Value.int z)) (s01_f (by simp only [Int32.lt_iff_toInt_lt, Int32.le_iff_toInt_le, Int64.lt_iff_toInt_lt, Int64.le_iff_toInt_le] at *; omega)).symm
  · skip
    refine c_run 2 (pc' := 7) (ls' := [(0, .int x), (1, .int a), (2, .int b)]) (st' := [.int b, .int x]) (μ' := (I, J)) (Nat.le_of_ble_eq_true rfl) rfl ?_
    refine c_icgt 14 (Nat.le_of_ble_eq_true rfl) rfl rfl (fun h2 => ?_) (fun h2 => ?_)
    · skip
      refine c_run 1 (pc' := 15) (ls' := [(0, .int x), (1, .int a), (2, .int b)]) (st' := [.int 0]) (μ' := (I, J)) (Nat.le_of_ble_eq_true rfl) rfl ?_
      refine c_ret (Nat.le_of_ble_eq_true rfl) rfl rfl ⟨by decide, rfl⟩ ?_
      refine ⟨?_, rfl⟩
      first
        | exact congrArg (fun z => some (Value.int z)) (s01_t (by simp only [Int32.lt_iff_toInt_lt, Int32.le_iff_toInt_le, Int64.lt_iff_toInt_lt, Int64.le_iff_toInt_le] at *; omega)).symm
        | exact congrArg (fun z => some (Value.int z)) (s01_f (by simp only [Int32.lt_iff_toInt_lt, Int32.le_iff_toInt_le, Int64.lt_iff_toInt_lt, Int64.le_iff_toInt_le] at *; omega)).symm
    · skip
      refine c_run 2 (pc' := 15) (ls' := [(0, .int x), (1, .int a), (2, .int b)]) (st' := [.int 1]) (μ' := (I, J)) (Nat.le_of_ble_eq_true rfl) rfl ?_
      refine c_ret (Nat.le_of_ble_eq_true rfl) rfl rfl ⟨by decide, rfl⟩ ?_
      refine ⟨?_, rfl⟩
      first
        | exact congrArg (fun z => some (Value.int z)) (s01_t (by simp only [Int32.lt_iff_toInt_lt, Int32.le_iff_toInt_le, Int64.lt_iff_toInt_lt, Int64.le_iff_toInt_le] at *; omega)).symm
        | exact congrArg (fun z => some (Value.int z)) (s01_f (by simp only [Int32.lt_iff_toInt_lt, Int32.le_iff_toInt_le, Int64.lt_iff_toInt_lt, Int64.le_iff_toInt_le] at *; omega)).symm

set_option maxRecDepth 100000 in
theorem t_nameWith (I : Nat → Nat → Int32) (J : Nat → Nat → Int64) (x a : Int32) : m_W 36 0 (lv_args 0 [.int x, .int a]) [] (I, J) (m_E (some (.int (x * 27 + (a - 97 + 1)))) (I, J)) := by
  show m_W 36 0 [(0, .int x), (1, .int a)] [] (I, J) _
  refine c_run 9 (pc' := 11) (ls' := [(0, .int x), (1, .int a)]) (st' := [.int ((x * (27 : Int32)) + ((a - (97 : Int32)) + (1 : Int32)))]) (μ' := (I, J)) (Nat.le_of_ble_eq_true rfl) rfl ?_
  refine c_ret (Nat.le_of_ble_eq_true rfl) rfl rfl ⟨by decide, rfl⟩ ?_
  exact ⟨rfl, rfl⟩

set_option maxRecDepth 100000 in
theorem t_in (I : Nat → Nat → Int32) (J : Nat → Nat → Int64) (x a b : Int64) : m_W 95 0 (lv_args 0 [.long x, .long a, .long b]) [] (I, J) (m_E (some (.int (s01 (a ≤ x ∧ x ≤ b)))) (I, J)) := by
  show m_W 95 0 [(0, .long x), (2, .long a), (4, .long b)] [] (I, J) _
  refine c_run 3 (pc' := 3) (ls' := [(0, .long x), (2, .long a), (4, .long b)]) (st' := [.int (lg_cmp x a)]) (μ' := (I, J)) (Nat.le_of_ble_eq_true rfl) rfl ?_
  refine c_iflt 17 (Nat.le_of_ble_eq_true rfl) rfl rfl (fun h1 => ?_) (fun h1 => ?_)
  · replace h1 := lc_lt.mp h1
    refine c_run 1 (pc' := 18) (ls' := [(0, .long x), (2, .long a), (4, .long b)]) (st' := [.int 0]) (μ' := (I, J)) (Nat.le_of_ble_eq_true rfl) rfl ?_
    refine c_ret (Nat.le_of_ble_eq_true rfl) rfl rfl ⟨by decide, rfl⟩ ?_
    refine ⟨?_, rfl⟩
    first
      | exact congrArg (fun z => some (Value.int z)) (s01_t (by simp only [Int32.lt_iff_toInt_lt, Int32.le_iff_toInt_le, Int64.lt_iff_toInt_lt, Int64.le_iff_toInt_le] at *; omega)).symm
      | exact congrArg (fun z => some (Value.int z)) (s01_f (by simp only [Int32.lt_iff_toInt_lt, Int32.le_iff_toInt_le, Int64.lt_iff_toInt_lt, Int64.le_iff_toInt_le] at *; omega)).symm
  · replace h1 := mt lc_lt.mpr h1
    refine c_run 3 (pc' := 10) (ls' := [(0, .long x), (2, .long a), (4, .long b)]) (st' := [.int (lg_cmp x b)]) (μ' := (I, J)) (Nat.le_of_ble_eq_true rfl) rfl ?_
    refine c_ifgt 17 (Nat.le_of_ble_eq_true rfl) rfl rfl (fun h2 => ?_) (fun h2 => ?_)
    · replace h2 := lc_gt.mp h2
      refine c_run 1 (pc' := 18) (ls' := [(0, .long x), (2, .long a), (4, .long b)]) (st' := [.int 0]) (μ' := (I, J)) (Nat.le_of_ble_eq_true rfl) rfl ?_
      refine c_ret (Nat.le_of_ble_eq_true rfl) rfl rfl ⟨by decide, rfl⟩ ?_
      refine ⟨?_, rfl⟩
      first
        | exact congrArg (fun z => some (Value.int z)) (s01_t (by simp only [Int32.lt_iff_toInt_lt, Int32.le_iff_toInt_le, Int64.lt_iff_toInt_lt, Int64.le_iff_toInt_le] at *; omega)).symm
        | exact congrArg (fun z => some (Value.int z)) (s01_f (by simp only [Int32.lt_iff_toInt_lt, Int32.le_iff_toInt_le, Int64.lt_iff_toInt_lt, Int64.le_iff_toInt_le] at *; omega)).symm
    · replace h2 := mt lc_gt.mpr h2
      refine c_run 2 (pc' := 18) (ls' := [(0, .long x), (2, .long a), (4, .long b)]) (st' := [.int 1]) (μ' := (I, J)) (Nat.le_of_ble_eq_true rfl) rfl ?_
      refine c_ret (Nat.le_of_ble_eq_true rfl) rfl rfl ⟨by decide, rfl⟩ ?_
      refine ⟨?_, rfl⟩
      first
        | exact congrArg (fun z => some (Value.int z)) (s01_t (by simp only [Int32.lt_iff_toInt_lt, Int32.le_iff_toInt_le, Int64.lt_iff_toInt_lt, Int64.le_iff_toInt_le] at *; omega)).symm
        | exact congrArg (fun z => some (Value.int z)) (s01_f (by simp only [Int32.lt_iff_toInt_lt, Int32.le_iff_toInt_le, Int64.lt_iff_toInt_lt, Int64.le_iff_toInt_le] at *; omega)).symm

set_option maxRecDepth 100000 in
theorem t_at (I : Nat → Nat → Int32) (J : Nat → Nat → Int64) (x a : Int32) : m_W 102 0 (lv_args 0 [.int x, .int a]) [] (I, J) (m_E (some (.int (20 + 3 * x + a))) (I, J)) := by
  show m_W 102 0 [(0, .int x), (1, .int a)] [] (I, J) _
  refine c_run 7 (pc' := 8) (ls' := [(0, .int x), (1, .int a)]) (st' := [.int (((20 : Int32) + ((3 : Int32) * x)) + a)]) (μ' := (I, J)) (Nat.le_of_ble_eq_true rfl) rfl ?_
  refine c_ret (Nat.le_of_ble_eq_true rfl) rfl rfl ⟨by decide, rfl⟩ ?_
  exact ⟨rfl, rfl⟩

set_option maxRecDepth 100000 in
theorem t_floor (I : Nat → Nat → Int32) (J : Nat → Nat → Int64) (x a : Int64) (ha : 0 < a.toInt) : m_W 96 0 (lv_args 0 [.long x, .long a]) [] (I, J) (m_E (some (.long (s_fl x a))) (I, J)) := by
  show m_W 96 0 [(0, .long x), (2, .long a)] [] (I, J) _
  refine c_run 2 (pc' := 2) (ls' := [(0, .long x), (2, .long a)]) (st' := [.long a, .long x]) (μ' := (I, J)) (Nat.le_of_ble_eq_true rfl) rfl ?_
  refine c_ldiv (Nat.le_of_ble_eq_true rfl) rfl (fun q => by subst q; exact absurd ha (by decide)) ?_
  refine c_run 6 (pc' := 11) (ls' := [(4, .long (x / a)), (0, .long x), (2, .long a)]) (st' := [.int (lg_cmp ((x / a) * a) x)]) (μ' := (I, J)) (Nat.le_of_ble_eq_true rfl) rfl ?_
  refine c_ifle 21 (Nat.le_of_ble_eq_true rfl) rfl rfl (fun h1 => ?_) (fun h1 => ?_)
  · replace h1 := lc_le.mp h1
    refine c_run 1 (pc' := 23) (ls' := [(4, .long (x / a)), (0, .long x), (2, .long a)]) (st' := [.long (x / a)]) (μ' := (I, J)) (Nat.le_of_ble_eq_true rfl) rfl ?_
    refine c_lret (Nat.le_of_ble_eq_true rfl) rfl rfl ?_
    first
      | exact ⟨congrArg (fun z => some (Value.long z)) (s_fl_1 ha (by assumption)), rfl⟩
      | exact ⟨congrArg (fun z => some (Value.long z)) (s_fl_0 ha (by simp only [Int32.lt_iff_toInt_lt, Int32.le_iff_toInt_le, Int64.lt_iff_toInt_lt, Int64.le_iff_toInt_le] at *; omega)), rfl⟩
      | exact ⟨congrArg (fun z => some (Value.long z)) (s_fl_1 ha (by simp only [Int32.lt_iff_toInt_lt, Int32.le_iff_toInt_le, Int64.lt_iff_toInt_lt, Int64.le_iff_toInt_le] at *; omega)), rfl⟩
  · replace h1 := mt lc_le.mpr h1
    refine c_run 4 (pc' := 23) (ls' := [(4, .long (x / a)), (0, .long x), (2, .long a)]) (st' := [.long ((x / a) - (1 : Int64))]) (μ' := (I, J)) (Nat.le_of_ble_eq_true rfl) rfl ?_
    refine c_lret (Nat.le_of_ble_eq_true rfl) rfl rfl ?_
    first
      | exact ⟨congrArg (fun z => some (Value.long z)) (s_fl_1 ha (by assumption)), rfl⟩
      | exact ⟨congrArg (fun z => some (Value.long z)) (s_fl_0 ha (by simp only [Int32.lt_iff_toInt_lt, Int32.le_iff_toInt_le, Int64.lt_iff_toInt_lt, Int64.le_iff_toInt_le] at *; omega)), rfl⟩
      | exact ⟨congrArg (fun z => some (Value.long z)) (s_fl_1 ha (by simp only [Int32.lt_iff_toInt_lt, Int32.le_iff_toInt_le, Int64.lt_iff_toInt_lt, Int64.le_iff_toInt_le] at *; omega)), rfl⟩

set_option maxRecDepth 100000 in
theorem t_max (I : Nat → Nat → Int32) (J : Nat → Nat → Int64) (x a : Int64) : m_W 159 0 (lv_args 0 [.long x, .long a]) [] (I, J) (m_E (some (.long (if x < a then a else x))) (I, J)) := by
  show m_W 159 0 [(0, .long x), (2, .long a)] [] (I, J) _
  refine c_run 3 (pc' := 3) (ls' := [(0, .long x), (2, .long a)]) (st' := [.int (lg_cmp x a)]) (μ' := (I, J)) (Nat.le_of_ble_eq_true rfl) rfl ?_
  refine c_iflt 10 (Nat.le_of_ble_eq_true rfl) rfl rfl (fun h1 => ?_) (fun h1 => ?_)
  · replace h1 := lc_lt.mp h1
    refine c_run 1 (pc' := 11) (ls' := [(0, .long x), (2, .long a)]) (st' := [.long a]) (μ' := (I, J)) (Nat.le_of_ble_eq_true rfl) rfl ?_
    refine c_lret (Nat.le_of_ble_eq_true rfl) rfl rfl ?_
    first | exact ⟨by rw [if_pos (by assumption)], rfl⟩ | exact ⟨by rw [if_neg (by assumption)], rfl⟩
  · replace h1 := mt lc_lt.mpr h1
    refine c_run 2 (pc' := 11) (ls' := [(0, .long x), (2, .long a)]) (st' := [.long x]) (μ' := (I, J)) (Nat.le_of_ble_eq_true rfl) rfl ?_
    refine c_lret (Nat.le_of_ble_eq_true rfl) rfl rfl ?_
    first | exact ⟨by rw [if_pos (by assumption)], rfl⟩ | exact ⟨by rw [if_neg (by assumption)], rfl⟩

set_option maxRecDepth 100000 in
theorem t_minl (I : Nat → Nat → Int32) (J : Nat → Nat → Int64) (x a : Int64) : m_W 161 0 (lv_args 0 [.long x, .long a]) [] (I, J) (m_E (some (.long (if a < x then a else x))) (I, J)) := by
  show m_W 161 0 [(0, .long x), (2, .long a)] [] (I, J) _
  refine c_run 3 (pc' := 3) (ls' := [(0, .long x), (2, .long a)]) (st' := [.int (lg_cmp x a)]) (μ' := (I, J)) (Nat.le_of_ble_eq_true rfl) rfl ?_
  refine c_ifgt 10 (Nat.le_of_ble_eq_true rfl) rfl rfl (fun h1 => ?_) (fun h1 => ?_)
  · replace h1 := lc_gt.mp h1
    refine c_run 1 (pc' := 11) (ls' := [(0, .long x), (2, .long a)]) (st' := [.long a]) (μ' := (I, J)) (Nat.le_of_ble_eq_true rfl) rfl ?_
    refine c_lret (Nat.le_of_ble_eq_true rfl) rfl rfl ?_
    first | exact ⟨by rw [if_pos (by assumption)], rfl⟩ | exact ⟨by rw [if_neg (by assumption)], rfl⟩
  · replace h1 := mt lc_gt.mpr h1
    refine c_run 2 (pc' := 11) (ls' := [(0, .long x), (2, .long a)]) (st' := [.long x]) (μ' := (I, J)) (Nat.le_of_ble_eq_true rfl) rfl ?_
    refine c_lret (Nat.le_of_ble_eq_true rfl) rfl rfl ?_
    first | exact ⟨by rw [if_pos (by assumption)], rfl⟩ | exact ⟨by rw [if_neg (by assumption)], rfl⟩

set_option maxRecDepth 100000 in
theorem t_mini (I : Nat → Nat → Int32) (J : Nat → Nat → Int64) (x a : Int32) : m_W 160 0 (lv_args 0 [.int x, .int a]) [] (I, J) (m_E (some (.int (if a < x then a else x))) (I, J)) := by
  show m_W 160 0 [(0, .int x), (1, .int a)] [] (I, J) _
  refine c_run 2 (pc' := 2) (ls' := [(0, .int x), (1, .int a)]) (st' := [.int a, .int x]) (μ' := (I, J)) (Nat.le_of_ble_eq_true rfl) rfl ?_
  refine c_icgt 9 (Nat.le_of_ble_eq_true rfl) rfl rfl (fun h1 => ?_) (fun h1 => ?_)
  · skip
    refine c_run 1 (pc' := 10) (ls' := [(0, .int x), (1, .int a)]) (st' := [.int a]) (μ' := (I, J)) (Nat.le_of_ble_eq_true rfl) rfl ?_
    refine c_ret (Nat.le_of_ble_eq_true rfl) rfl rfl ⟨by decide, rfl⟩ ?_
    first | exact ⟨by rw [if_pos (by assumption)], rfl⟩ | exact ⟨by rw [if_neg (by assumption)], rfl⟩
  · skip
    refine c_run 2 (pc' := 10) (ls' := [(0, .int x), (1, .int a)]) (st' := [.int x]) (μ' := (I, J)) (Nat.le_of_ble_eq_true rfl) rfl ?_
    refine c_ret (Nat.le_of_ble_eq_true rfl) rfl rfl ⟨by decide, rfl⟩ ?_
    first | exact ⟨by rw [if_pos (by assumption)], rfl⟩ | exact ⟨by rw [if_neg (by assumption)], rfl⟩

theorem s_fd_x {x a : Int64} (ha : 0 < a.toInt) : ((x ^^^ a) < 0) ↔ x.toInt < 0 := by
  have h1 : a.toBitVec.msb = false := by
    rw [BitVec.msb_eq_toInt]
    simp only [decide_eq_false_iff_not, Int.not_lt]
    exact Int.le_of_lt ha
  rw [Int64.lt_iff_toInt_lt]
  show (x ^^^ a).toBitVec.toInt < (0 : Int64).toInt ↔ x.toBitVec.toInt < 0
  have e0 : (0 : Int64).toInt = 0 := rfl
  rw [e0]
  have h2 : (x ^^^ a).toBitVec.msb = x.toBitVec.msb := by
    rw [Int64.toBitVec_xor, BitVec.msb_xor, h1]
    simp
  rw [BitVec.msb_eq_toInt, BitVec.msb_eq_toInt] at h2
  have := decide_eq_decide.mp h2
  exact this
theorem s_fd_q {x a : Int64} (ha : 0 < a.toInt) : (¬ x / a * a = x ∧ x.toInt < 0) ↔ x < x / a * a := by
  have h := q_td (a := x.toInt) ha
  rw [Int64.lt_iff_toInt_lt, ← Int64.toInt_inj, q_mulq ha]
  rcases h with h | h <;> omega
set_option maxRecDepth 100000 in
theorem t_floorDiv (I : Nat → Nat → Int32) (J : Nat → Nat → Int64) (x a : Int64) (ha : 0 < a.toInt) : m_W 157 0 (lv_args 0 [.long x, .long a]) [] (I, J) (m_E (some (.long (s_fl x a))) (I, J)) := by
  show m_W 157 0 [(0, .long x), (2, .long a)] [] (I, J) _
  refine c_run 2 (pc' := 2) (ls' := [(0, .long x), (2, .long a)]) (st' := [.long a, .long x]) (μ' := (I, J)) (Nat.le_of_ble_eq_true rfl) rfl ?_
  refine c_ldiv (Nat.le_of_ble_eq_true rfl) rfl (fun q => by subst q; exact absurd ha (by decide)) ?_
  refine c_run 6 (pc' := 10) (ls' := [(4, .long (x / a)), (0, .long x), (2, .long a)]) (st' := [.int (lg_cmp (x ^^^ a) 0)]) (μ' := (I, J)) (Nat.le_of_ble_eq_true rfl) rfl ?_
  refine c_ifge 27 (Nat.le_of_ble_eq_true rfl) rfl rfl (fun h1 => ?_) (fun h1 => ?_)
  · replace h1 := lc_ge.mp h1
    refine c_run 1 (pc' := 29) (ls' := [(4, .long (x / a)), (0, .long x), (2, .long a)]) (st' := [.long (x / a)]) (μ' := (I, J)) (Nat.le_of_ble_eq_true rfl) rfl ?_
    refine c_lret (Nat.le_of_ble_eq_true rfl) rfl rfl ?_
    first
      | exact ⟨congrArg (fun z => some (Value.long z)) (s_fl_1 ha ((s_fd_q ha).mp ⟨by assumption, (s_fd_x ha).mp (Int64.not_le.mp (by assumption))⟩)), rfl⟩
      | exact ⟨congrArg (fun z => some (Value.long z)) (s_fl_0 ha (fun q => absurd (by assumption) ((s_fd_q ha).mpr q).1)), rfl⟩
      | exact ⟨congrArg (fun z => some (Value.long z)) (s_fl_0 ha (fun q => absurd ((s_fd_x ha).mpr ((s_fd_q ha).mpr q).2) (Int64.not_lt.mpr (by assumption)))), rfl⟩
  · replace h1 := mt lc_ge.mpr h1
    refine c_run 5 (pc' := 19) (ls' := [(4, .long (x / a)), (0, .long x), (2, .long a)]) (st' := [.int (lg_cmp ((x / a) * a) x)]) (μ' := (I, J)) (Nat.le_of_ble_eq_true rfl) rfl ?_
    refine c_ifeq 27 (Nat.le_of_ble_eq_true rfl) rfl rfl (fun h2 => ?_) (fun h2 => ?_)
    · replace h2 := lc_eq.mp h2
      refine c_run 1 (pc' := 29) (ls' := [(4, .long (x / a)), (0, .long x), (2, .long a)]) (st' := [.long (x / a)]) (μ' := (I, J)) (Nat.le_of_ble_eq_true rfl) rfl ?_
      refine c_lret (Nat.le_of_ble_eq_true rfl) rfl rfl ?_
      first
        | exact ⟨congrArg (fun z => some (Value.long z)) (s_fl_1 ha ((s_fd_q ha).mp ⟨by assumption, (s_fd_x ha).mp (Int64.not_le.mp (by assumption))⟩)), rfl⟩
        | exact ⟨congrArg (fun z => some (Value.long z)) (s_fl_0 ha (fun q => absurd (by assumption) ((s_fd_q ha).mpr q).1)), rfl⟩
        | exact ⟨congrArg (fun z => some (Value.long z)) (s_fl_0 ha (fun q => absurd ((s_fd_x ha).mpr ((s_fd_q ha).mpr q).2) (Int64.not_lt.mpr (by assumption)))), rfl⟩
    · replace h2 := mt lc_eq.mpr h2
      refine c_run 3 (pc' := 26) (ls' := [(4, .long (x / a)), (0, .long x), (2, .long a)]) (st' := [.long ((x / a) - (1 : Int64))]) (μ' := (I, J)) (Nat.le_of_ble_eq_true rfl) rfl ?_
      refine c_lret (Nat.le_of_ble_eq_true rfl) rfl rfl ?_
      first
        | exact ⟨congrArg (fun z => some (Value.long z)) (s_fl_1 ha ((s_fd_q ha).mp ⟨by assumption, (s_fd_x ha).mp (Int64.not_le.mp (by assumption))⟩)), rfl⟩
        | exact ⟨congrArg (fun z => some (Value.long z)) (s_fl_0 ha (fun q => absurd (by assumption) ((s_fd_q ha).mpr q).1)), rfl⟩
        | exact ⟨congrArg (fun z => some (Value.long z)) (s_fl_0 ha (fun q => absurd ((s_fd_x ha).mpr ((s_fd_q ha).mpr q).2) (Int64.not_lt.mpr (by assumption)))), rfl⟩
