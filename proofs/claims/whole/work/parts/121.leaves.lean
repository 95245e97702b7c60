/-! floorMod, the two square roots, word -/
theorem w_bm {z : Int} (h1 : -2147483648 ≤ z) (h2 : z < 2147483648) : z.bmod 4294967296 = z := by
  rw [Int.bmod_def]
  split <;> omega
theorem w_lt (x : Int32) : -2147483648 ≤ x.toInt ∧ x.toInt < 2147483648 := ⟨Int32.le_toInt x, Int32.toInt_lt x⟩
theorem w_add {a b : Int32} (h1 : -2147483648 ≤ a.toInt + b.toInt) (h2 : a.toInt + b.toInt < 2147483648) : (a + b).toInt = a.toInt + b.toInt := by
  rw [Int32.toInt_add]; exact w_bm h1 h2
theorem w_sub {a b : Int32} (h1 : -2147483648 ≤ a.toInt - b.toInt) (h2 : a.toInt - b.toInt < 2147483648) : (a - b).toInt = a.toInt - b.toInt := by
  rw [Int32.toInt_sub]; exact w_bm h1 h2
theorem w_mul {a b : Int32} (h1 : -2147483648 ≤ a.toInt * b.toInt) (h2 : a.toInt * b.toInt < 2147483648) : (a * b).toInt = a.toInt * b.toInt := by
  rw [Int32.toInt_mul]; exact w_bm h1 h2
theorem w_div {a b : Int32} (hb : 0 < b.toInt) : (a / b).toInt = a.toInt.tdiv b.toInt := by
  have ha := w_lt a
  rw [Int32.toInt_div]
  apply w_bm <;> (rcases q_td (a := a.toInt) hb with h9 | h9 <;> omega)
theorem w_rem {a b : Int32} (hb : 0 < b.toInt) : (a - a / b * b).toInt = a.toInt - b.toInt * a.toInt.tdiv b.toInt := by
  have ha := w_lt a
  have e : (a / b).toInt * b.toInt = b.toInt * a.toInt.tdiv b.toInt := by rw [w_div hb, Int.mul_comm]
  have e2 : (a / b * b).toInt = b.toInt * a.toInt.tdiv b.toInt := by
    rw [w_mul (by rw [e]; rcases q_td (a := a.toInt) hb with h9 | h9 <;> omega) (by rw [e]; rcases q_td (a := a.toInt) hb with h9 | h9 <;> omega), e]
  rw [w_sub (by rw [e2]; rcases q_td (a := a.toInt) hb with h9 | h9 <;> omega) (by rw [e2]; rcases q_td (a := a.toInt) hb with h9 | h9 <;> omega), e2]
/-- the remainder of a division rounded down -/
def s_md (a b : Int32) : Int32 := Int32.ofInt (a.toInt % b.toInt)
theorem s_md_toInt {a b : Int32} (hb : 0 < b.toInt) : (s_md a b).toInt = a.toInt % b.toInt := by
  have h2 := Int.emod_nonneg a.toInt (by omega : b.toInt ≠ 0)
  have h3 := Int.emod_lt_of_pos a.toInt hb
  have := w_lt b
  unfold s_md
  rw [Int32.toInt_ofInt]
  exact w_bm (by omega) (by omega)
theorem w_emod {a b : Int} (hb : 0 < b) : a % b = if a < b * a.tdiv b then a - b * a.tdiv b + b else a - b * a.tdiv b := by
  have h1 := Int.mul_ediv_add_emod a b
  have e := q_ediv (a := a) hb
  rw [e] at h1
  split
  next h => rw [if_pos h, Int.mul_sub] at h1; omega
  next h => rw [if_neg h] at h1; omega
theorem s_md_x {x a : Int32} (ha : 0 < a.toInt) : 0 ≤ (x ^^^ a) ↔ 0 ≤ x.toInt := by
  have h1 : a.toBitVec.msb = false := by
    rw [BitVec.msb_eq_toInt]
    simp only [decide_eq_false_iff_not, Int.not_lt]
    exact Int.le_of_lt ha
  rw [Int32.le_iff_toInt_le]
  show (0 : Int32).toInt ≤ (x ^^^ a).toBitVec.toInt ↔ 0 ≤ x.toBitVec.toInt
  have e0 : (0 : Int32).toInt = 0 := rfl
  rw [e0]
  have h2 : (x ^^^ a).toBitVec.msb = x.toBitVec.msb := by
    rw [Int32.toBitVec_xor, BitVec.msb_xor, h1]
    simp
  rw [BitVec.msb_eq_toInt, BitVec.msb_eq_toInt] at h2
  have := decide_eq_decide.mp h2
  omega
theorem s_md_1 {x a : Int32} (ha : 0 < a.toInt) (h1 : ¬ 0 ≤ (x ^^^ a)) (h2 : ¬ x - x / a * a = 0) : x - x / a * a + a = s_md x a := by
  apply Int32.toInt_inj.mp
  rw [s_md_x ha] at h1
  have h3 : ¬ (x - x / a * a).toInt = 0 := fun q => h2 (Int32.toInt_inj.mp (by rw [q]; rfl))
  rw [w_rem ha] at h3
  have hx := w_lt x
  have hl := w_lt a
  have h := q_td (a := x.toInt) ha
  rw [s_md_toInt ha, w_emod ha, if_pos (by omega), w_add (by rw [w_rem ha]; omega) (by rw [w_rem ha]; omega), w_rem ha]
theorem s_md_0 {x a : Int32} (ha : 0 < a.toInt) (h1 : 0 ≤ (x ^^^ a) ∨ x - x / a * a = 0) : x - x / a * a = s_md x a := by
  apply Int32.toInt_inj.mp
  rw [s_md_x ha] at h1
  have h3 : x - x / a * a = 0 → (x - x / a * a).toInt = 0 := fun q => by rw [q]; rfl
  rw [w_rem ha] at h3
  have h := q_td (a := x.toInt) ha
  rw [s_md_toInt ha, w_emod ha, if_neg ?_, w_rem ha]
  rcases h1 with h1 | h1
  · omega
  · have := h3 h1; omega
set_option maxRecDepth 100000 in
theorem t_floorMod (I : Nat → Nat → Int32) (J : Nat → Nat → Int64) (x a : Int32) (ha : 0 < a.toInt) : m_W 158 0 (lv_args 0 [.int x, .int a]) [] (I, J) (m_E (some (.int (s_md x a))) (I, J)) := by
  show m_W 158 0 [(0, .int x), (1, .int a)] [] (I, J) _
  refine c_run 2 (pc' := 2) (ls' := [(0, .int x), (1, .int a)]) (st' := [.int a, .int x]) (μ' := (I, J)) (Nat.le_of_ble_eq_true rfl) rfl ?_
  refine c_irem (Nat.le_of_ble_eq_true rfl) rfl (fun q => by subst q; exact absurd ha (by decide)) ?_
  refine c_run 4 (pc' := 7) (ls' := [(2, .int (x - x / a * a)), (0, .int x), (1, .int a)]) (st' := [.int (x ^^^ a)]) (μ' := (I, J)) (Nat.le_of_ble_eq_true rfl) rfl ?_
  refine c_ifge 18 (Nat.le_of_ble_eq_true rfl) rfl rfl (fun h1 => ?_) (fun h1 => ?_)
  · skip
    refine c_run 1 (pc' := 19) (ls' := [(2, .int (x - x / a * a)), (0, .int x), (1, .int a)]) (st' := [.int (x - x / a * a)]) (μ' := (I, J)) (Nat.le_of_ble_eq_true rfl) rfl ?_
    refine c_ret (Nat.le_of_ble_eq_true rfl) rfl rfl ⟨by decide, rfl⟩ ?_
    first
      | exact ⟨congrArg (fun z => some (Value.int z)) (s_md_1 ha (by assumption) (by assumption)), rfl⟩
      | exact ⟨congrArg (fun z => some (Value.int z)) (s_md_0 ha (Or.inl (by assumption))), rfl⟩
      | exact ⟨congrArg (fun z => some (Value.int z)) (s_md_0 ha (Or.inr (by assumption))), rfl⟩
  · skip
    refine c_run 1 (pc' := 11) (ls' := [(2, .int (x - x / a * a)), (0, .int x), (1, .int a)]) (st' := [.int (x - x / a * a)]) (μ' := (I, J)) (Nat.le_of_ble_eq_true rfl) rfl ?_
    refine c_ifeq 18 (Nat.le_of_ble_eq_true rfl) rfl rfl (fun h2 => ?_) (fun h2 => ?_)
    · skip
      refine c_run 1 (pc' := 19) (ls' := [(2, .int (x - x / a * a)), (0, .int x), (1, .int a)]) (st' := [.int (x - x / a * a)]) (μ' := (I, J)) (Nat.le_of_ble_eq_true rfl) rfl ?_
      refine c_ret (Nat.le_of_ble_eq_true rfl) rfl rfl ⟨by decide, rfl⟩ ?_
      first
        | exact ⟨congrArg (fun z => some (Value.int z)) (s_md_1 ha (by assumption) (by assumption)), rfl⟩
        | exact ⟨congrArg (fun z => some (Value.int z)) (s_md_0 ha (Or.inl (by assumption))), rfl⟩
        | exact ⟨congrArg (fun z => some (Value.int z)) (s_md_0 ha (Or.inr (by assumption))), rfl⟩
    · skip
      refine c_run 3 (pc' := 17) (ls' := [(2, .int (x - x / a * a)), (0, .int x), (1, .int a)]) (st' := [.int ((x - x / a * a) + a)]) (μ' := (I, J)) (Nat.le_of_ble_eq_true rfl) rfl ?_
      refine c_ret (Nat.le_of_ble_eq_true rfl) rfl rfl ⟨by decide, rfl⟩ ?_
      first
        | exact ⟨congrArg (fun z => some (Value.int z)) (s_md_1 ha (by assumption) (by assumption)), rfl⟩
        | exact ⟨congrArg (fun z => some (Value.int z)) (s_md_0 ha (Or.inl (by assumption))), rfl⟩
        | exact ⟨congrArg (fun z => some (Value.int z)) (s_md_0 ha (Or.inr (by assumption))), rfl⟩

