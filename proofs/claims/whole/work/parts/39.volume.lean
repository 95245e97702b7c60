/-! VOLUMES of the model -/
abbrev n_lv (I : Nat → Nat → Int32) (t : Nat) : Nat → Int32 := fun i => I 85 (8 * t + i)
abbrev n_vo (I : Nat → Nat → Int32) (t : Nat) : Nat → Int32 := fun i => I 86 (8 * t + i)
theorem n_8t (t : Nat) : (8 : Int32) * nI t = nI (8 * t + 0) := by
  rw [show (8 : Int32) = nI 8 from rfl, pk_mul, Nat.add_zero]
theorem n_8p {t p : Nat} {x : Int32} (hx : x = nI p) (hp : 1 ≤ p) : (8 : Int32) * nI t + x - 1 = nI (8 * t + (p - 1)) := by
  rw [hx, n_8t, nI_add, show (1 : Int32) = nI 1 from rfl, pk_sub (by omega)]
  congr 1
  omega
theorem n_8k (t k : Nat) : nI (8 * t + k) + 1 = nI (8 * t + (k + 1)) := by rw [nI_1]; rfl
theorem i_sub64 {a b : Int32} {c : Int} (ha : i_rh a 0 1000000000) (hb : i_rh b 0 1000000000) : (a - b).toInt64.toInt = a.toInt - b.toInt := by
  have := ha.1
  have := ha.2
  have := hb.1
  have := hb.2
  rw [Int32.toInt_toInt64, w_sub (by omega) (by omega)]
theorem s_exact {a b : Int64} (hb : 0 < b.toInt) (h1 : -9223372036854775808 ≤ a.toInt * b.toInt) (h2 : a.toInt * b.toInt < 9223372036854775808) : s_fl (a * b) b = a := by
  apply Int64.toInt_inj.mp
  rw [s_fl_toInt hb, q_mul h1 h2, Int.mul_ediv_cancel _ (by omega)]
theorem n_top {lv vo : Nat → Int32} {a b : Nat} (hla : i_rh (lv a) 0 10000) (hlb : i_rh (lv b) 0 10000) (hva : i_rh (vo a) 0 1000000000) (hvb : i_rh (vo b) 0 1000000000) (h : lv a < lv b) : s_bt lv vo a b (lv b) = (vo b).toInt64 := by
  have l1 := hla.1
  have l2 := hla.2
  have l3 := hlb.1
  have l4 := hlb.2
  have v1 := hva.1
  have v2 := hva.2
  have v3 := hvb.1
  have v4 := hvb.2
  have hl : (lv b - lv a).toInt64.toInt = (lv b).toInt - (lv a).toInt := i_sub64 (c := 0) ⟨by omega, by omega⟩ ⟨by omega, by omega⟩
  have hv : (vo b - vo a).toInt64.toInt = (vo b).toInt - (vo a).toInt := i_sub64 (c := 0) hvb hva
  rw [Int32.lt_iff_toInt_lt] at h
  have hp : 0 < (lv b - lv a).toInt64.toInt := by rw [hl]; omega
  have m1 : -1000000000 * 10000 ≤ (vo b - vo a).toInt64.toInt * (lv b - lv a).toInt64.toInt := by
    have : -1000000000 * (lv b - lv a).toInt64.toInt ≤ (vo b - vo a).toInt64.toInt * (lv b - lv a).toInt64.toInt := Int.mul_le_mul_of_nonneg_right (by omega) (by omega)
    omega
  have m2 : (vo b - vo a).toInt64.toInt * (lv b - lv a).toInt64.toInt ≤ 1000000000 * 10000 := by
    have : (vo b - vo a).toInt64.toInt * (lv b - lv a).toInt64.toInt ≤ 1000000000 * (lv b - lv a).toInt64.toInt := Int.mul_le_mul_of_nonneg_right (by omega) (by omega)
    omega
  unfold s_bt
  rw [if_pos (by rw [Int64.lt_iff_toInt_lt]; exact hp), s_exact hp (by omega) (by omega)]
  apply Int64.toInt_inj.mp
  rw [q_add, hv, Int32.toInt_toInt64, Int32.toInt_toInt64]
  · omega
  · rw [hv, Int32.toInt_toInt64]; omega
  · rw [hv, Int32.toInt_toInt64]; omega
theorem s_vl_top {lv vo : Nat → Int32} {p : Nat} {x : Int32} (hr : ∀ i, i < p → i_rh (lv i) 0 10000 ∧ i_rh (vo i) 0 1000000000) (hi : ∀ i, i + 1 < p → lv i < lv (i + 1)) (hx : lv (p - 1) ≤ x) : ∀ r i, i + r = p → 1 ≤ i → s_vl lv vo p x i r = (vo (p - 1)).toInt64
  | 0, i, h, _ => rfl
  | r + 1, i, h, h1 => by
    rw [s_vl]
    by_cases hl : lv i < x
    · rw [if_pos hl]; exact s_vl_top hr hi hx r (i + 1) (by omega) (by omega)
    · rw [if_neg hl]
      have hle := Int32.not_lt.mp hl
      by_cases hp : i = p - 1
      · subst hp
        have e : x = lv (p - 1) := Int32.le_antisymm hle hx
        subst e
        have h3 := hi (p - 1 - 1) (by omega)
        rw [show p - 1 - 1 + 1 = p - 1 by omega] at h3
        exact n_top (hr _ (by omega)).1 (hr _ (by omega)).1 (hr _ (by omega)).2 (hr _ (by omega)).2 h3
      · exfalso
        have mono : ∀ k, i + 1 + k < p → lv i < lv (i + 1 + k) := fun k => by
          induction k with
          | zero => intro hk; exact hi i hk
          | succ k ih => intro hk; exact Int32.lt_trans (ih (by omega)) (hi (i + 1 + k) (by omega))
        have := mono (p - 1 - (i + 1)) (by omega)
        rw [show i + 1 + (p - 1 - (i + 1)) = p - 1 by omega] at this
        exact absurd (Int32.lt_of_lt_of_le this hx) (Int32.not_lt.mpr hle)
theorem s_bt_cg {lv lv' vo vo' : Nat → Int32} {a b : Nat} {x : Int32} (h1 : lv a = lv' a) (h2 : lv b = lv' b) (h3 : vo a = vo' a) (h4 : vo b = vo' b) : s_bt lv vo a b x = s_bt lv' vo' a b x := by
  unfold s_bt; rw [h1, h2, h3, h4]
theorem s_vl_cg {lv lv' vo vo' : Nat → Int32} {p : Nat} {x : Int32} (h : ∀ i, i < p → lv i = lv' i ∧ vo i = vo' i) : ∀ r i, i + r = p → 1 ≤ i → s_vl lv vo p x i r = s_vl lv' vo' p x i r
  | 0, i, hp, h1 => by rw [s_vl, s_vl, (h (p - 1) (by omega)).2]
  | r + 1, i, hp, h1 => by
    rw [s_vl, s_vl, (h i (by omega)).1, s_vl_cg h r (i + 1) (by omega) (by omega), s_bt_cg (h (i - 1) (by omega)).1 (h i (by omega)).1 (h (i - 1) (by omega)).2 (h i (by omega)).2]
theorem s_vol_cg {lv lv' vo vo' : Nat → Int32} {p : Nat} {x : Int32} (h : ∀ i, i < p → lv i = lv' i ∧ vo i = vo' i) : s_vol lv vo p x = s_vol lv' vo' p x := by
  unfold s_vol
  by_cases hp : p = 0
  · rw [if_pos hp, if_pos hp]
  · rw [if_neg hp, if_neg hp, (h 0 (by omega)).1, (h 0 (by omega)).2, s_vl_cg h (p - 1) 1 (by omega) (by omega)]

set_option maxRecDepth 100000 in
theorem n_vol_l (I : Nat → Nat → Int32) (J : Nat → Nat → Int64) (t p : Nat) (ht : t < 4) (hp : p ≤ 8) (hp1 : 1 ≤ p) (h84 : I 84 t = nI p) (hr : ∀ i, i < p → i_rh (n_lv I t i) 0 10000 ∧ i_rh (n_vo I t i) 0 1000000000) (hi : ∀ i, i + 1 < p → n_lv I t i < n_lv I t (i + 1)) (x : Int32) (hx : x < n_lv I t (p - 1))  : ∀ (r k : Nat), k + 1 + r = p → 1 ≤ r → m_W 106 58 [(0, .ref 77), (1, .int (nI t)), (2, .int x), (5, .int (nI (8 * t + k)))] [] (I, J) (m_E (some (.long (s_vl (n_lv I t) (n_vo I t) p x (k + 1) r))) (I, J)) := by
  intro r
  induction r with
  | zero =>
    intro k hkr h1
    exact absurd h1 (by omega)
  | succ r ih =>
    intro k hkr h1
    have hsp : 0 < (n_lv I t (k + 1) - n_lv I t k).toInt64.toInt := by
      have a := (hr k (by omega)).1
      have b := (hr (k + 1) (by omega)).1
      have c := hi k (by omega)
      rw [Int32.lt_iff_toInt_lt] at c
      have a1 := a.1
      have a2 := a.2
      have b1 := b.1
      have b2 := b.2
      rw [i_sub64 (c := 0) ⟨by omega, by omega⟩ ⟨by omega, by omega⟩]
      omega
    refine c_run 5 (pc' := 66) (ls' := [(0, .ref 77), (1, .int (nI t)), (2, .int x), (5, .int (nI (8 * t + k)))]) (st' := [.int ((nI (8 * t + k)) + (1 : Int32)), .ref 85]) (μ' := (I, J)) (Nat.le_of_ble_eq_true rfl) rfl ?_
    refine c_ial (8 * t + (k + 1)) 32 (Nat.le_of_ble_eq_true rfl) rfl rfl rfl rfl (n_8k t k) (by omega) ?_
    show m_W 106 67 [(0, .ref 77), (1, .int (nI t)), (2, .int x), (5, .int (nI (8 * t + k)))] [.int (I 85 (8 * t + (k + 1)))] (I, J) _
    refine c_run 1 (pc' := 68) (ls' := [(0, .ref 77), (1, .int (nI t)), (2, .int x), (5, .int (nI (8 * t + k)))]) (st' := [.int x, .int (I 85 (8 * t + (k + 1)))]) (μ' := (I, J)) (Nat.le_of_ble_eq_true rfl) rfl ?_
    refine c_icge 77 (Nat.le_of_ble_eq_true rfl) rfl rfl (fun h1 => ?_) (fun h1 => ?_)
    · skip
      refine c_run 3 (pc' := 83) (ls' := [(0, .ref 77), (1, .int (nI t)), (2, .int x), (5, .int (nI (8 * t + k)))]) (st' := [.int (nI (8 * t + k)), .ref 86]) (μ' := (I, J)) (Nat.le_of_ble_eq_true rfl) rfl ?_
      refine c_ial (8 * t + k) 32 (Nat.le_of_ble_eq_true rfl) rfl rfl rfl rfl rfl (by omega) ?_
      show m_W 106 84 [(0, .ref 77), (1, .int (nI t)), (2, .int x), (5, .int (nI (8 * t + k)))] [.int (I 86 (8 * t + k))] (I, J) _
      refine c_run 6 (pc' := 93) (ls' := [(0, .ref 77), (1, .int (nI t)), (2, .int x), (5, .int (nI (8 * t + k)))]) (st' := [.int ((nI (8 * t + k)) + (1 : Int32)), .ref 86, .long (((I 86 (8 * t + k)) : Int32).toInt64)]) (μ' := (I, J)) (Nat.le_of_ble_eq_true rfl) rfl ?_
      refine c_ial (8 * t + (k + 1)) 32 (Nat.le_of_ble_eq_true rfl) rfl rfl rfl rfl (n_8k t k) (by omega) ?_
      show m_W 106 94 [(0, .ref 77), (1, .int (nI t)), (2, .int x), (5, .int (nI (8 * t + k)))] [.int (I 86 (8 * t + (k + 1))), .long (((I 86 (8 * t + k)) : Int32).toInt64)] (I, J) _
      refine c_run 3 (pc' := 100) (ls' := [(0, .ref 77), (1, .int (nI t)), (2, .int x), (5, .int (nI (8 * t + k)))]) (st' := [.int (nI (8 * t + k)), .ref 86, .int (I 86 (8 * t + (k + 1))), .long (((I 86 (8 * t + k)) : Int32).toInt64)]) (μ' := (I, J)) (Nat.le_of_ble_eq_true rfl) rfl ?_
      refine c_ial (8 * t + k) 32 (Nat.le_of_ble_eq_true rfl) rfl rfl rfl rfl rfl (by omega) ?_
      show m_W 106 101 [(0, .ref 77), (1, .int (nI t)), (2, .int x), (5, .int (nI (8 * t + k)))] [.int (I 86 (8 * t + k)), .int (I 86 (8 * t + (k + 1))), .long (((I 86 (8 * t + k)) : Int32).toInt64)] (I, J) _
      refine c_run 6 (pc' := 110) (ls' := [(0, .ref 77), (1, .int (nI t)), (2, .int x), (5, .int (nI (8 * t + k)))]) (st' := [.int (nI (8 * t + k)), .ref 85, .int x, .long ((((I 86 (8 * t + (k + 1))) - (I 86 (8 * t + k))) : Int32).toInt64), .long (((I 86 (8 * t + k)) : Int32).toInt64)]) (μ' := (I, J)) (Nat.le_of_ble_eq_true rfl) rfl ?_
      refine c_ial (8 * t + k) 32 (Nat.le_of_ble_eq_true rfl) rfl rfl rfl rfl rfl (by omega) ?_
      show m_W 106 111 [(0, .ref 77), (1, .int (nI t)), (2, .int x), (5, .int (nI (8 * t + k)))] [.int (I 85 (8 * t + k)), .int x, .long ((((I 86 (8 * t + (k + 1))) - (I 86 (8 * t + k))) : Int32).toInt64), .long (((I 86 (8 * t + k)) : Int32).toInt64)] (I, J) _
      refine c_run 8 (pc' := 122) (ls' := [(0, .ref 77), (1, .int (nI t)), (2, .int x), (5, .int (nI (8 * t + k)))]) (st' := [.int ((nI (8 * t + k)) + (1 : Int32)), .ref 85, .long (((((I 86 (8 * t + (k + 1))) - (I 86 (8 * t + k))) : Int32).toInt64) * (((x - (I 85 (8 * t + k))) : Int32).toInt64)), .long (((I 86 (8 * t + k)) : Int32).toInt64)]) (μ' := (I, J)) (Nat.le_of_ble_eq_true rfl) rfl ?_
      refine c_ial (8 * t + (k + 1)) 32 (Nat.le_of_ble_eq_true rfl) rfl rfl rfl rfl (n_8k t k) (by omega) ?_
      show m_W 106 123 [(0, .ref 77), (1, .int (nI t)), (2, .int x), (5, .int (nI (8 * t + k)))] [.int (I 85 (8 * t + (k + 1))), .long (((((I 86 (8 * t + (k + 1))) - (I 86 (8 * t + k))) : Int32).toInt64) * (((x - (I 85 (8 * t + k))) : Int32).toInt64)), .long (((I 86 (8 * t + k)) : Int32).toInt64)] (I, J) _
      refine c_run 3 (pc' := 129) (ls' := [(0, .ref 77), (1, .int (nI t)), (2, .int x), (5, .int (nI (8 * t + k)))]) (st' := [.int (nI (8 * t + k)), .ref 85, .int (I 85 (8 * t + (k + 1))), .long (((((I 86 (8 * t + (k + 1))) - (I 86 (8 * t + k))) : Int32).toInt64) * (((x - (I 85 (8 * t + k))) : Int32).toInt64)), .long (((I 86 (8 * t + k)) : Int32).toInt64)]) (μ' := (I, J)) (Nat.le_of_ble_eq_true rfl) rfl ?_
      refine c_ial (8 * t + k) 32 (Nat.le_of_ble_eq_true rfl) rfl rfl rfl rfl rfl (by omega) ?_
      show m_W 106 130 [(0, .ref 77), (1, .int (nI t)), (2, .int x), (5, .int (nI (8 * t + k)))] [.int (I 85 (8 * t + k)), .int (I 85 (8 * t + (k + 1))), .long (((((I 86 (8 * t + (k + 1))) - (I 86 (8 * t + k))) : Int32).toInt64) * (((x - (I 85 (8 * t + k))) : Int32).toInt64)), .long (((I 86 (8 * t + k)) : Int32).toInt64)] (I, J) _
      refine c_run 2 (pc' := 132) (ls' := [(0, .ref 77), (1, .int (nI t)), (2, .int x), (5, .int (nI (8 * t + k)))]) (st' := [.long ((((I 85 (8 * t + (k + 1))) - (I 85 (8 * t + k))) : Int32).toInt64), .long (((((I 86 (8 * t + (k + 1))) - (I 86 (8 * t + k))) : Int32).toInt64) * (((x - (I 85 (8 * t + k))) : Int32).toInt64)), .long (((I 86 (8 * t + k)) : Int32).toInt64)]) (μ' := (I, J)) (Nat.le_of_ble_eq_true rfl) rfl ?_
      refine c_cs 96 [.long (((((I 86 (8 * t + (k + 1))) - (I 86 (8 * t + k))) : Int32).toInt64) * (((x - (I 85 (8 * t + k))) : Int32).toInt64)), .long ((((I 85 (8 * t + (k + 1))) - (I 85 (8 * t + k))) : Int32).toInt64)] (r := [.long (((I 86 (8 * t + k)) : Int32).toInt64)]) (Nat.le_of_ble_eq_true rfl) rfl (Or.inl rfl) rfl rfl rfl (t_floor I J (((((I 86 (8 * t + (k + 1))) - (I 86 (8 * t + k))) : Int32).toInt64) * (((x - (I 85 (8 * t + k))) : Int32).toInt64)) ((((I 85 (8 * t + (k + 1))) - (I 85 (8 * t + k))) : Int32).toInt64) hsp) ?_
      rintro _ _ ⟨rfl, rfl⟩
      show m_W 106 135 [(0, .ref 77), (1, .int (nI t)), (2, .int x), (5, .int (nI (8 * t + k)))] [.long (s_fl (((((I 86 (8 * t + (k + 1))) - (I 86 (8 * t + k))) : Int32).toInt64) * (((x - (I 85 (8 * t + k))) : Int32).toInt64)) ((((I 85 (8 * t + (k + 1))) - (I 85 (8 * t + k))) : Int32).toInt64)), .long (((I 86 (8 * t + k)) : Int32).toInt64)] (I, J) _
      refine c_run 1 (pc' := 136) (ls' := [(0, .ref 77), (1, .int (nI t)), (2, .int x), (5, .int (nI (8 * t + k)))]) (st' := [.long ((((I 86 (8 * t + k)) : Int32).toInt64) + (s_fl (((((I 86 (8 * t + (k + 1))) - (I 86 (8 * t + k))) : Int32).toInt64) * (((x - (I 85 (8 * t + k))) : Int32).toInt64)) ((((I 85 (8 * t + (k + 1))) - (I 85 (8 * t + k))) : Int32).toInt64)))]) (μ' := (I, J)) (Nat.le_of_ble_eq_true rfl) rfl ?_
      refine c_lret (Nat.le_of_ble_eq_true rfl) rfl rfl ?_
      refine ⟨?_, rfl⟩
      rw [s_vl, if_neg (Int32.not_lt.mpr (by assumption))]
      unfold s_bt
      rw [show k + 1 - 1 = k from rfl, if_pos (by rw [Int64.lt_iff_toInt_lt]; exact hsp)]
    · skip
      refine c_run 2 (pc' := 58) (ls' := [(5, .int ((nI (8 * t + k)) + (1 : Int32))), (0, .ref 77), (1, .int (nI t)), (2, .int x)]) (st' := []) (μ' := (I, J)) (Nat.le_of_ble_eq_true rfl) rfl ?_
      refine c_w [1, 2, 3, 0] (ls' := [(0, .ref 77), (1, .int (nI t)), (2, .int x), (5, .int ((nI (8 * t + k)) + (1 : Int32)))]) rfl ?_
      have hlt : n_lv I t (k + 1) < x := Int32.not_le.mp (by assumption)
      have hr0 : 1 ≤ r := by
        rcases Nat.eq_zero_or_pos r with h0 | h0
        · exfalso
          have e : p - 1 = k + 1 := by omega
          rw [e] at hx
          exact absurd hx (Int32.not_lt.mpr (Int32.le_of_lt hlt))
        · exact h0
      rw [n_8k t k, s_vl, if_pos hlt]
      exact ih (k + 1) (by omega) hr0

set_option maxRecDepth 100000 in
theorem n_volOf (I : Nat → Nat → Int32) (J : Nat → Nat → Int64) (t p : Nat) (ht : t < 4) (hp : p ≤ 8) (hp1 : 1 ≤ p) (h84 : I 84 t = nI p) (hr : ∀ i, i < p → i_rh (n_lv I t i) 0 10000 ∧ i_rh (n_vo I t i) 0 1000000000) (hi : ∀ i, i + 1 < p → n_lv I t i < n_lv I t (i + 1)) (x : Int32)  : m_W 106 0 (lv_args 0 [.ref 77, .int (nI t), .int x]) [] (I, J) (m_E (some (.long (s_vol (n_lv I t) (n_vo I t) p x))) (I, J)) := by
  show m_W 106 0 [(0, .ref 77), (1, .int (nI t)), (2, .int x)] [] (I, J) _
  refine c_run 8 (pc' := 11) (ls' := [(3, .int ((8 : Int32) * (nI t))), (0, .ref 77), (1, .int (nI t)), (2, .int x)]) (st' := [.int (nI t), .ref 84, .int ((8 : Int32) * (nI t))]) (μ' := (I, J)) (Nat.le_of_ble_eq_true rfl) rfl ?_
  refine c_ial t 4 (Nat.le_of_ble_eq_true rfl) rfl rfl rfl rfl rfl (by omega) ?_
  show m_W 106 12 [(3, .int ((8 : Int32) * (nI t))), (0, .ref 77), (1, .int (nI t)), (2, .int x)] [.int (I 84 t), .int ((8 : Int32) * (nI t))] (I, J) _
  refine c_run 8 (pc' := 23) (ls' := [(4, .int ((((8 : Int32) * (nI t)) + (I 84 t)) - (1 : Int32))), (3, .int ((8 : Int32) * (nI t))), (0, .ref 77), (1, .int (nI t)), (2, .int x)]) (st' := [.int ((8 : Int32) * (nI t)), .ref 85, .int x]) (μ' := (I, J)) (Nat.le_of_ble_eq_true rfl) rfl ?_
  refine c_ial (8 * t + 0) 32 (Nat.le_of_ble_eq_true rfl) rfl rfl rfl rfl (n_8t t) (by omega) ?_
  show m_W 106 24 [(4, .int ((((8 : Int32) * (nI t)) + (I 84 t)) - (1 : Int32))), (3, .int ((8 : Int32) * (nI t))), (0, .ref 77), (1, .int (nI t)), (2, .int x)] [.int (I 85 (8 * t + 0)), .int x] (I, J) _
  refine c_icgt 35 (Nat.le_of_ble_eq_true rfl) rfl rfl (fun h1 => ?_) (fun h1 => ?_)
  · skip
    refine c_run 4 (pc' := 42) (ls' := [(4, .int ((((8 : Int32) * (nI t)) + (I 84 t)) - (1 : Int32))), (3, .int ((8 : Int32) * (nI t))), (0, .ref 77), (1, .int (nI t)), (2, .int x)]) (st' := [.int ((((8 : Int32) * (nI t)) + (I 84 t)) - (1 : Int32)), .ref 85, .int x]) (μ' := (I, J)) (Nat.le_of_ble_eq_true rfl) rfl ?_
    refine c_ial (8 * t + (p - 1)) 32 (Nat.le_of_ble_eq_true rfl) rfl rfl rfl rfl (n_8p h84 hp1) (by omega) ?_
    show m_W 106 43 [(4, .int ((((8 : Int32) * (nI t)) + (I 84 t)) - (1 : Int32))), (3, .int ((8 : Int32) * (nI t))), (0, .ref 77), (1, .int (nI t)), (2, .int x)] [.int (I 85 (8 * t + (p - 1))), .int x] (I, J) _
    refine c_iclt 55 (Nat.le_of_ble_eq_true rfl) rfl rfl (fun h2 => ?_) (fun h2 => ?_)
    · skip
      refine c_run 2 (pc' := 58) (ls' := [(5, .int ((8 : Int32) * (nI t))), (4, .int ((((8 : Int32) * (nI t)) + (I 84 t)) - (1 : Int32))), (3, .int ((8 : Int32) * (nI t))), (0, .ref 77), (1, .int (nI t)), (2, .int x)]) (st' := []) (μ' := (I, J)) (Nat.le_of_ble_eq_true rfl) rfl ?_
      refine c_w [3, 4, 5, 0] (ls' := [(0, .ref 77), (1, .int (nI t)), (2, .int x), (5, .int ((8 : Int32) * (nI t)))]) rfl ?_
      have hx : x < n_lv I t (p - 1) := by assumption
      have hlo : n_lv I t 0 < x := by assumption
      have hp2 : 1 ≤ p - 1 := by
        rcases Nat.eq_zero_or_pos (p - 1) with h0 | h0
        · rw [h0] at hx; exact absurd hx (Int32.not_lt.mpr (Int32.le_of_lt hlo))
        · exact h0
      rw [n_8t t]
      have h := n_vol_l I J t p ht hp hp1 h84 hr hi x hx (p - 1) 0 (by omega) hp2
      unfold s_vol
      rw [if_neg (by omega), if_pos hlo]
      exact h
    · skip
      refine c_run 3 (pc' := 52) (ls' := [(4, .int ((((8 : Int32) * (nI t)) + (I 84 t)) - (1 : Int32))), (3, .int ((8 : Int32) * (nI t))), (0, .ref 77), (1, .int (nI t)), (2, .int x)]) (st' := [.int ((((8 : Int32) * (nI t)) + (I 84 t)) - (1 : Int32)), .ref 86]) (μ' := (I, J)) (Nat.le_of_ble_eq_true rfl) rfl ?_
      refine c_ial (8 * t + (p - 1)) 32 (Nat.le_of_ble_eq_true rfl) rfl rfl rfl rfl (n_8p h84 hp1) (by omega) ?_
      show m_W 106 53 [(4, .int ((((8 : Int32) * (nI t)) + (I 84 t)) - (1 : Int32))), (3, .int ((8 : Int32) * (nI t))), (0, .ref 77), (1, .int (nI t)), (2, .int x)] [.int (I 86 (8 * t + (p - 1)))] (I, J) _
      refine c_run 1 (pc' := 54) (ls' := [(4, .int ((((8 : Int32) * (nI t)) + (I 84 t)) - (1 : Int32))), (3, .int ((8 : Int32) * (nI t))), (0, .ref 77), (1, .int (nI t)), (2, .int x)]) (st' := [.long (((I 86 (8 * t + (p - 1))) : Int32).toInt64)]) (μ' := (I, J)) (Nat.le_of_ble_eq_true rfl) rfl ?_
      refine c_lret (Nat.le_of_ble_eq_true rfl) rfl rfl ?_
      refine ⟨?_, rfl⟩
      unfold s_vol
      rw [if_neg (by omega), if_pos (show n_lv I t 0 < x by assumption), s_vl_top hr hi (Int32.not_lt.mp (by assumption)) (p - 1) 1 (by omega) (by omega)]
  · skip
    refine c_run 3 (pc' := 32) (ls' := [(4, .int ((((8 : Int32) * (nI t)) + (I 84 t)) - (1 : Int32))), (3, .int ((8 : Int32) * (nI t))), (0, .ref 77), (1, .int (nI t)), (2, .int x)]) (st' := [.int ((8 : Int32) * (nI t)), .ref 86]) (μ' := (I, J)) (Nat.le_of_ble_eq_true rfl) rfl ?_
    refine c_ial (8 * t + 0) 32 (Nat.le_of_ble_eq_true rfl) rfl rfl rfl rfl (n_8t t) (by omega) ?_
    show m_W 106 33 [(4, .int ((((8 : Int32) * (nI t)) + (I 84 t)) - (1 : Int32))), (3, .int ((8 : Int32) * (nI t))), (0, .ref 77), (1, .int (nI t)), (2, .int x)] [.int (I 86 (8 * t + 0))] (I, J) _
    refine c_run 1 (pc' := 34) (ls' := [(4, .int ((((8 : Int32) * (nI t)) + (I 84 t)) - (1 : Int32))), (3, .int ((8 : Int32) * (nI t))), (0, .ref 77), (1, .int (nI t)), (2, .int x)]) (st' := [.long (((I 86 (8 * t + 0)) : Int32).toInt64)]) (μ' := (I, J)) (Nat.le_of_ble_eq_true rfl) rfl ?_
    refine c_lret (Nat.le_of_ble_eq_true rfl) rfl rfl ?_
    refine ⟨?_, rfl⟩
    unfold s_vol
    rw [if_neg (by omega), if_neg (Int32.not_lt.mpr (Int32.not_lt.mp h1))]

