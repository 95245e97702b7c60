/-! LEAVES: the static methods, Math's, the model's small ones -/
def s01 (p : Prop) [Decidable p] : Int32 := if p then 1 else 0
theorem s01_t {p : Prop} [Decidable p] (h : p) : s01 p = 1 := if_pos h
theorem s01_f {p : Prop} [Decidable p] (h : ¬ p) : s01 p = 0 := if_neg h
theorem s01_n {p : Prop} [Decidable p] : ¬ FieldType.boolean = .long ∧ narrow .boolean (.int (s01 p)) = .int (s01 p) := by
  refine ⟨by decide, ?_⟩
  by_cases h : p
  · rw [s01_t h]; rfl
  · rw [s01_f h]; rfl
theorem s01_0 {p : Prop} [Decidable p] : s01 p = 0 ↔ ¬ p := by
  by_cases h : p
  · rw [s01_t h]; exact ⟨fun q => absurd q (by decide), fun q => absurd h q⟩
  · rw [s01_f h]; exact ⟨fun _ => h, fun _ => rfl⟩
set_option maxRecDepth 100000 in
theorem t_isWithin (I : Nat → Nat → Int32) (J : Nat → Nat → Int64) (x a b : Int32) : m_W 35 0 (lv_args 0 [.int x, .int a, .int b]) [] (I, J) (m_E (some (.int (s01 (a ≤ x ∧ x ≤ b)))) (I, J)) := by
  show m_W 35 0 [(0, .int x), (1, .int a), (2, .int b)] [] (I, J) _
  refine c_run 2 (pc' := 2) (ls' := [(0, .int x), (1, .int a), (2, .int b)]) (st' := [.int a, .int x]) (μ' := (I, J)) (Nat.le_of_ble_eq_true rfl) rfl ?_
  refine c_iclt 14 (Nat.le_of_ble_eq_true rfl) rfl rfl (fun h1 => ?_) (fun h1 => ?_)
  · skip
    refine c_run 1 (pc' := 15) (ls' := [(0, .int x), (1, .int a), (2, .int b)]) (st' := [.int 0]) (μ' := (I, J)) (Nat.le_of_ble_eq_true rfl) rfl ?_
    refine c_ret (Nat.le_of_ble_eq_true rfl) rfl rfl ⟨by decide, rfl⟩ ?_
    first
      | exact ⟨by rw [s01_t ⟨by assumption, by assumption⟩], rfl⟩
      | exact ⟨by rw [s01_f (fun q => by first | exact absurd q.1 (by assumption) | exact absurd q.2 (by assumption) | (have := Int32.not_lt.mpr q.1; contradiction) | (have := Int32.not_lt.mpr q.2; contradiction))], rfl⟩
  · skip
    refine c_run 2 (pc' := 7) (ls' := [(0, .int x), (1, .int a), (2, .int b)]) (st' := [.int b, .int x]) (μ' := (I, J)) (Nat.le_of_ble_eq_true rfl) rfl ?_
    refine c_icgt 14 (Nat.le_of_ble_eq_true rfl) rfl rfl (fun h2 => ?_) (fun h2 => ?_)
    · skip
      refine c_run 1 (pc' := 15) (ls' := [(0, .int x), (1, .int a), (2, .int b)]) (st' := [.int 0]) (μ' := (I, J)) (Nat.le_of_ble_eq_true rfl) rfl ?_
      refine c_ret (Nat.le_of_ble_eq_true rfl) rfl rfl ⟨by decide, rfl⟩ ?_
      first
        | exact ⟨by rw [s01_t ⟨by assumption, by assumption⟩], rfl⟩
        | exact ⟨by rw [s01_f (fun q => by first | exact absurd q.1 (by assumption) | exact absurd q.2 (by assumption) | (have := Int32.not_lt.mpr q.1; contradiction) | (have := Int32.not_lt.mpr q.2; contradiction))], rfl⟩
    · skip
      refine c_run 2 (pc' := 15) (ls' := [(0, .int x), (1, .int a), (2, .int b)]) (st' := [.int 1]) (μ' := (I, J)) (Nat.le_of_ble_eq_true rfl) rfl ?_
      refine c_ret (Nat.le_of_ble_eq_true rfl) rfl rfl ⟨by decide, rfl⟩ ?_
      first
        | exact ⟨by rw [s01_t ⟨by assumption, by assumption⟩], rfl⟩
        | exact ⟨by rw [s01_f (fun q => by first | exact absurd q.1 (by assumption) | exact absurd q.2 (by assumption) | (have := Int32.not_lt.mpr q.1; contradiction) | (have := Int32.not_lt.mpr q.2; contradiction))], rfl⟩

set_option maxRecDepth 100000 in
theorem t_nameWith (I : Nat → Nat → Int32) (J : Nat → Nat → Int64) (x a : Int32) : m_W 36 0 (lv_args 0 [.int x, .int a]) [] (I, J) (m_E (some (.int (x * 27 + (a - 97 + 1)))) (I, J)) := by
  show m_W 36 0 [(0, .int x), (1, .int a)] [] (I, J) _
  refine c_run 9 (pc' := 11) (ls' := [(0, .int x), (1, .int a)]) (st' := [.int ((x * 27) + ((a - 97) + 1))]) (μ' := (I, J)) (Nat.le_of_ble_eq_true rfl) rfl ?_
  refine c_ret (Nat.le_of_ble_eq_true rfl) rfl rfl ⟨by decide, rfl⟩ ?_
  exact ⟨rfl, rfl⟩
