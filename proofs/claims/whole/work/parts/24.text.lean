/-! COMMAND TEXTS: what is parsed -/
def s_ch (f : Nat → Int32) (n s : Nat) : Int32 := if s < n then f s else 0
/-- the text's object: where it has come to, the command, its name, its tank, its number -/
def c_tx (I : Nat → Nat → Int32) (a c nm t nu : Int32) : Nat → Nat → Int32 := m_ci I 75 (fun j => if j = 1 then a else if j = 2 then c else if j = 3 then nm else if j = 4 then t else if j = 5 then nu else I 75 j)
section CST
variable {I : Nat → Nat → Int32} {a c nm t nu v : Int32}
theorem c_tx_id : c_tx I (I 75 1) (I 75 2) (I 75 3) (I 75 4) (I 75 5) = I := by
  funext x j
  unfold c_tx m_ci
  by_cases hx : x = 75
  · subst hx
    by_cases h1 : j = 1
    · subst h1; rfl
    · by_cases h2 : j = 2
      · subst h2; rfl
      · by_cases h3 : j = 3
        · subst h3; rfl
        · by_cases h4 : j = 4
          · subst h4; rfl
          · by_cases h5 : j = 5
            · subst h5; rfl
            · simp [h1, h2, h3, h4, h5]
  · simp [hx]
theorem c_tx1 : m_ui (c_tx I a c nm t nu) 75 1 v = c_tx I v c nm t nu := by
  funext x j
  unfold c_tx m_ci m_ui
  by_cases hx : x = 75 <;> by_cases h1 : j = 1 <;> simp [hx, h1]
theorem c_tx2 : m_ui (c_tx I a c nm t nu) 75 2 v = c_tx I a v nm t nu := by
  funext x j
  unfold c_tx m_ci m_ui
  by_cases hx : x = 75 <;> by_cases h1 : j = 2 <;> simp [hx, h1]
theorem c_tx3 : m_ui (c_tx I a c nm t nu) 75 3 v = c_tx I a c v t nu := by
  funext x j
  unfold c_tx m_ci m_ui
  by_cases hx : x = 75 <;> by_cases h1 : j = 3 <;> simp [hx, h1]
theorem c_tx4 : m_ui (c_tx I a c nm t nu) 75 4 v = c_tx I a c nm v nu := by
  funext x j
  unfold c_tx m_ci m_ui
  by_cases hx : x = 75 <;> by_cases h1 : j = 4 <;> simp [hx, h1]
theorem c_tx5 : m_ui (c_tx I a c nm t nu) 75 5 v = c_tx I a c nm t v := by
  funext x j
  unfold c_tx m_ci m_ui
  by_cases hx : x = 75 <;> by_cases h1 : j = 5 <;> simp [hx, h1]
end CST
/-- a constant word stands here -/
abbrev p_sk (T : Nat → Int32) (s j : Nat) : Prop := ∀ i, i < g_sl.getD j 0 → T (s + i) = (g_sb.getD j []).getD i 0
/-- how many characters from here on are in a range, at most so many -/
def p_r (T : Nat → Int32) (a b : Int32) : Nat → Nat → Nat
  | _, 0 => 0
  | s, m + 1 => if a ≤ T s ∧ T s ≤ b then p_r T a b (s + 1) m + 1 else 0
theorem p_r_le (T : Nat → Int32) (a b : Int32) : ∀ m s, p_r T a b s m ≤ m
  | 0, _ => Nat.le_refl 0
  | m + 1, s => by
    unfold p_r
    split
    · have := p_r_le T a b m (s + 1); omega
    · omega
def p_nm (T : Nat → Int32) (s : Nat) : Nat → Int32
  | 0 => 0
  | w + 1 => p_nm T s w * 27 + (T (s + w) - 97 + 1)
def p_nu (T : Nat → Int32) (s : Nat) : Nat → Int32
  | 0 => 0
  | w + 1 => p_nu T s w * 10 + (T (s + w) - 48)
/-- a command: where it ends, its kind, name, tank, number -/
abbrev p_C : Type := Nat × Int32 × Int32 × Int32 × Int32
abbrev p_L (T : Nat → Int32) (s : Nat) : Nat := p_r T 97 122 s 6
abbrev p_D (T : Nat → Int32) (s m : Nat) : Nat := p_r T 48 57 s m
abbrev p_ok (T : Nat → Int32) (s m : Nat) (lo hi : Int32) : Prop := 0 < p_D T s m ∧ (lo ≤ p_nu T s (p_D T s m) ∧ p_nu T s (p_D T s m) ≤ hi)
def p_cmd (T : Nat → Int32) (s : Nat) : Option p_C :=
  if p_sk T s 0 then (if 0 < p_L T (s + 6) then some (s + 6 + p_L T (s + 6), 1, p_nm T (s + 6) (p_L T (s + 6)), 0, 0) else none)
  else if p_sk T s 1 then some (s + 4, 2, 0, 0, 0)
  else if p_sk T s 2 then (if p_ok T (s + 5) 4 1 2000 then some (s + 5 + p_D T (s + 5) 4, 3, 0, 0, p_nu T (s + 5) (p_D T (s + 5) 4)) else none)
  else if p_sk T s 3 then (if 0 < p_L T (s + 5) then (if p_sk T (s + 5 + p_L T (s + 5)) 4 then (if p_ok T (s + 5 + p_L T (s + 5) + 1) 4 1 2000 then some (s + 5 + p_L T (s + 5) + 1 + p_D T (s + 5 + p_L T (s + 5) + 1) 4, 4, p_nm T (s + 5) (p_L T (s + 5)), 0, p_nu T (s + 5 + p_L T (s + 5) + 1) (p_D T (s + 5 + p_L T (s + 5) + 1) 4)) else none) else none) else none)
  else if p_sk T s 5 then (if 0 < p_L T (s + 5) then (if p_sk T (s + 5 + p_L T (s + 5)) 4 then (if p_ok T (s + 5 + p_L T (s + 5) + 1) 1 0 9 then some (s + 5 + p_L T (s + 5) + 1 + p_D T (s + 5 + p_L T (s + 5) + 1) 1, 5, p_nm T (s + 5) (p_L T (s + 5)), p_nu T (s + 5 + p_L T (s + 5) + 1) (p_D T (s + 5 + p_L T (s + 5) + 1) 1), 0) else none) else none) else none)
  else if p_sk T s 6 then (if 0 < p_L T (s + 6) then (if p_sk T (s + 6 + p_L T (s + 6)) 4 then (if p_ok T (s + 6 + p_L T (s + 6) + 1) 1 0 9 then some (s + 6 + p_L T (s + 6) + 1 + p_D T (s + 6 + p_L T (s + 6) + 1) 1, 6, p_nm T (s + 6) (p_L T (s + 6)), p_nu T (s + 6 + p_L T (s + 6) + 1) (p_D T (s + 6 + p_L T (s + 6) + 1) 1), 0) else none) else none) else none)
  else if p_sk T s 7 then (if p_ok T (s + 5) 1 0 9 then (if p_sk T (s + 5 + p_D T (s + 5) 1) 4 then (if p_ok T (s + 5 + p_D T (s + 5) 1 + 1) 5 0 10000 then some (s + 5 + p_D T (s + 5) 1 + 1 + p_D T (s + 5 + p_D T (s + 5) 1 + 1) 5, 7, 0, p_nu T (s + 5) (p_D T (s + 5) 1), p_nu T (s + 5 + p_D T (s + 5) 1 + 1) (p_D T (s + 5 + p_D T (s + 5) 1 + 1) 5)) else none) else none) else none)
  else none
def p_at (T : Nat → Int32) (s : Nat) : Option p_C := match p_cmd T s with
  | none => none
  | some q => if p_sk T q.1 8 then some (q.1 + 1, q.2) else none
/-- what a command uses of its parts is what was parsed -/
def p_us (q : p_C) (nm t nu : Int32) : Prop := (q.2.1 = 1 ∨ q.2.1 = 4 ∨ q.2.1 = 5 ∨ q.2.1 = 6 → nm = q.2.2.1) ∧ (q.2.1 = 5 ∨ q.2.1 = 6 ∨ q.2.1 = 7 → t = q.2.2.2.1) ∧ (q.2.1 = 3 ∨ q.2.1 = 4 ∨ q.2.1 = 7 → nu = q.2.2.2.2)
def p_Q (I : Nat → Nat → Int32) (J : Nat → Nat → Int64) (r : Option p_C) : m_Q := fun v μ' => match r with
  | none => v = some (.int 0) ∧ ∃ a c nm t nu, μ' = (c_tx I a c nm t nu, J)
  | some q => v = some (.int 1) ∧ ∃ nm t nu, μ' = (c_tx I (nI q.1) q.2.1 nm t nu, J) ∧ p_us q nm t nu
theorem p_sk4 {T : Nat → Int32} {s : Nat} : p_sk T s 4 ↔ T s = 32 := ⟨fun h => h 0 (by decide), fun h i hi => by
  have hi : i < 1 := hi
  obtain rfl : i = 0 := by omega
  exact h⟩
theorem p_sk8 {T : Nat → Int32} {s : Nat} : p_sk T s 8 ↔ T s = 59 := ⟨fun h => h 0 (by decide), fun h i hi => by
  have hi : i < 1 := hi
  obtain rfl : i = 0 := by omega
  exact h⟩
/-- a parse ends behind where it began, and no more than 30 behind -/
theorem p_cmd_b {T : Nat → Int32} {s : Nat} {q : p_C} (h : p_cmd T s = some q) : s < q.1 ∧ q.1 ≤ s + 30 := by
  have L := fun s => p_r_le T 97 122 6 s
  have D := fun s m => p_r_le T 48 57 m s
  unfold p_cmd at h
  repeat' split at h
  all_goals first
    | (cases h; done)
    | (have h := Option.some.inj h; subst h; dsimp only; have a1 := L (s + 6); have a2 := L (s + 5); have b1 := D (s + 5) 4; have b2 := D (s + 5 + p_L T (s + 5) + 1) 4; have b3 := D (s + 5 + p_L T (s + 5) + 1) 1; have b4 := D (s + 6 + p_L T (s + 6) + 1) 1; have b5 := D (s + 5) 1; have b6 := D (s + 5 + p_D T (s + 5) 1 + 1) 5; simp only [p_L, p_D] at *; omega)
theorem p_at_b {T : Nat → Int32} {s : Nat} {q : p_C} (h : p_at T s = some q) : s < q.1 ∧ q.1 ≤ s + 31 := by
  unfold p_at at h
  split at h
  · cases h
  · next q' hq =>
    split at h
    · have := p_cmd_b hq
      have h := Option.some.inj h
      subst h
      dsimp only
      omega
    · cases h
theorem c_nch {x : Int32} (h : 32 ≤ x ∧ x ≤ 126) : ¬ FieldType.char = .long ∧ narrow .char (.int x) = .int x := by
  obtain ⟨q, hq, rfl⟩ := nI_of2 (M := 126) (n := 126) rfl (Int32.not_lt.mpr (Int32.le_trans (by decide) h.1)) h.2
  exact ⟨by decide, (pk_charN (by omega)).1⟩
theorem c_i2c {x : Int32} (h : 32 ≤ x ∧ x ≤ 126) : (x.toUInt32 % 65536).toInt32 = x := by
  obtain ⟨q, hq, rfl⟩ := nI_of2 (M := 126) (n := 126) rfl (Int32.not_lt.mpr (Int32.le_trans (by decide) h.1)) h.2
  rw [pk_char, pk_tn (by omega), Nat.mod_eq_of_lt (by omega)]
theorem c_nar {x : Int32} (h : 32 ≤ x ∧ x ≤ 126) : vp_nar .char x = x := by
  rw [← c_i2c h, pk_vc]
theorem p_nI {W : Nat} (hW : W < 2147483648) : ¬ nI W ≤ 0 ↔ 0 < W := by
  constructor
  · intro h
    rcases Nat.eq_zero_or_pos W with q | q
    · subst q; exact absurd (by decide) h
    · exact q
  · intro h; exact nI_nle h hW
theorem p_r_s {T : Nat → Int32} {a b : Int32} {s m : Nat} (h : a ≤ T s ∧ T s ≤ b) : p_r T a b s (m + 1) = p_r T a b (s + 1) m + 1 := by rw [p_r, if_pos h]
theorem p_r_z {T : Nat → Int32} {a b : Int32} {s m : Nat} (h : ¬ (a ≤ T s ∧ T s ≤ b)) : p_r T a b s (m + 1) = 0 := by rw [p_r, if_neg h]

set_option maxRecDepth 100000 in
theorem t_chr (I : Nat → Nat → Int32) (J : Nat → Nat → Int64) (n : Nat) (h0 : I 75 0 = nI n) (hn : n ≤ 100) (hc : ∀ i, i < n → 32 ≤ I 76 i ∧ I 76 i ≤ 126) (s : Nat) (hs : s < 2147483648) : m_W 47 0 (lv_args 0 [.ref 75, .int (nI s)]) [] (I, J) (m_E (some (.int (s_ch (I 76) n s))) (I, J)) := by
  show m_W 47 0 [(0, .ref 75), (1, .int (nI s))] [] (I, J) _
  refine c_run 1 (pc' := 1) (ls' := [(0, .ref 75), (1, .int (nI s))]) (st' := [.int (nI s)]) (μ' := (I, J)) (Nat.le_of_ble_eq_true rfl) rfl ?_
  refine c_iflt 27 (Nat.le_of_ble_eq_true rfl) rfl rfl (fun h1 => absurd h1 (nI_pos hs)) (fun h1 => ?_)
  refine c_run 3 (pc' := 9) (ls' := [(0, .ref 75), (1, .int (nI s))]) (st' := [.int (I 75 0), .int (nI s)]) (μ' := (I, J)) (Nat.le_of_ble_eq_true rfl) rfl ?_
  refine c_icge 27 (Nat.le_of_ble_eq_true rfl) rfl rfl (fun h2 => ?_) (fun h2 => ?_)
  · skip
    refine c_run 1 (pc' := 28) (ls' := [(0, .ref 75), (1, .int (nI s))]) (st' := [.int 0]) (μ' := (I, J)) (Nat.le_of_ble_eq_true rfl) rfl ?_
    refine c_ret (Nat.le_of_ble_eq_true rfl) rfl rfl (by first | exact c_nch (hc s ((nI_ltI (a := s) (b := n) (by omega) (by omega)).mp (by rw [← h0]; exact Int32.not_le.mp (by assumption)))) | exact ⟨by decide, rfl⟩) ?_
    refine ⟨?_, rfl⟩
    unfold s_ch
    first
      | (have hq : s < n := (nI_ltI (a := s) (b := n) (by omega) (by omega)).mp (by rw [← h0]; exact Int32.not_le.mp (by assumption))
         first | (rw [if_pos hq]; done) | exact absurd (show nI 100 ≤ nI s by assumption) (nI_ge (by omega) (by omega)))
      | (have hq : ¬ s < n := fun q => absurd (show nI n ≤ nI s by rw [← h0]; assumption) (nI_ge q (by omega))
         rw [if_neg hq])
  · skip
    refine c_run 2 (pc' := 15) (ls' := [(0, .ref 75), (1, .int (nI s))]) (st' := [.int 100, .int (nI s)]) (μ' := (I, J)) (Nat.le_of_ble_eq_true rfl) rfl ?_
    refine c_icge 27 (Nat.le_of_ble_eq_true rfl) rfl rfl (fun h3 => ?_) (fun h3 => ?_)
    · skip
      refine c_run 1 (pc' := 28) (ls' := [(0, .ref 75), (1, .int (nI s))]) (st' := [.int 0]) (μ' := (I, J)) (Nat.le_of_ble_eq_true rfl) rfl ?_
      refine c_ret (Nat.le_of_ble_eq_true rfl) rfl rfl (by first | exact c_nch (hc s ((nI_ltI (a := s) (b := n) (by omega) (by omega)).mp (by rw [← h0]; exact Int32.not_le.mp (by assumption)))) | exact ⟨by decide, rfl⟩) ?_
      refine ⟨?_, rfl⟩
      unfold s_ch
      first
        | (have hq : s < n := (nI_ltI (a := s) (b := n) (by omega) (by omega)).mp (by rw [← h0]; exact Int32.not_le.mp (by assumption))
           first | (rw [if_pos hq]; done) | exact absurd (show nI 100 ≤ nI s by assumption) (nI_ge (by omega) (by omega)))
        | (have hq : ¬ s < n := fun q => absurd (show nI n ≤ nI s by rw [← h0]; assumption) (nI_ge q (by omega))
           rw [if_neg hq])
    · skip
      refine c_run 3 (pc' := 23) (ls' := [(0, .ref 75), (1, .int (nI s))]) (st' := [.int (nI s), .ref 76]) (μ' := (I, J)) (Nat.le_of_ble_eq_true rfl) rfl ?_
      refine c_cal s 100 (Nat.le_of_ble_eq_true rfl) rfl rfl rfl rfl rfl (by have := (nI_ltI (a := s) (b := n) (by omega) (by omega)).mp (by rw [← h0]; exact Int32.not_le.mp (by assumption)); omega) ?_
      show m_W 47 24 [(0, .ref 75), (1, .int (nI s))] [.int (I 76 s)] (I, J) _
      refine c_run 1 (pc' := 28) (ls' := [(0, .ref 75), (1, .int (nI s))]) (st' := [.int (I 76 s)]) (μ' := (I, J)) (Nat.le_of_ble_eq_true rfl) rfl ?_
      refine c_ret (Nat.le_of_ble_eq_true rfl) rfl rfl (by first | exact c_nch (hc s ((nI_ltI (a := s) (b := n) (by omega) (by omega)).mp (by rw [← h0]; exact Int32.not_le.mp (by assumption)))) | exact ⟨by decide, rfl⟩) ?_
      refine ⟨?_, rfl⟩
      unfold s_ch
      first
        | (have hq : s < n := (nI_ltI (a := s) (b := n) (by omega) (by omega)).mp (by rw [← h0]; exact Int32.not_le.mp (by assumption))
           first | (rw [if_pos hq]; done) | exact absurd (show nI 100 ≤ nI s by assumption) (nI_ge (by omega) (by omega)))
        | (have hq : ¬ s < n := fun q => absurd (show nI n ≤ nI s by rw [← h0]; assumption) (nI_ge q (by omega))
           rw [if_neg hq])

def c_typ (I : Nat → Nat → Int32) (n : Nat) (x : Int32) : Int32 × (Nat → Nat → Int32) := if n < 100 then (nI (n + 1), m_ui (m_ui I 76 n x) 75 0 (nI (n + 1))) else (-3, I)
set_option maxRecDepth 100000 in
theorem t_xapp (I : Nat → Nat → Int32) (J : Nat → Nat → Int64) (n : Nat) (h0 : I 75 0 = nI n) (hn : n ≤ 100) (hc : ∀ i, i < n → 32 ≤ I 76 i ∧ I 76 i ≤ 126) (x : Int32) (hx : 32 ≤ x ∧ x ≤ 126) : m_W 39 0 (lv_args 0 [.ref 75, .int x]) [] (I, J) (m_E (some (.int (c_typ I n x).1)) ((c_typ I n x).2, J)) := by
  show m_W 39 0 [(0, .ref 75), (1, .int x)] [] (I, J) _
  refine c_run 3 (pc' := 6) (ls' := [(0, .ref 75), (1, .int x)]) (st' := [.int 100, .int (I 75 0)]) (μ' := (I, J)) (Nat.le_of_ble_eq_true rfl) rfl ?_
  refine c_iclt 12 (Nat.le_of_ble_eq_true rfl) rfl rfl (fun h1 => ?_) (fun h1 => ?_)
  · skip
    refine c_run 5 (pc' := 21) (ls' := [(0, .ref 75), (1, .int x)]) (st' := [.int x, .int (I 75 0), .ref 76]) (μ' := (I, J)) (Nat.le_of_ble_eq_true rfl) rfl ?_
    refine c_cas n 100 (Nat.le_of_ble_eq_true rfl) rfl rfl rfl rfl h0 (k_ltn 100 h0 (by assumption) (by omega) (by omega)) ?_
    show m_W 39 22 [(0, .ref 75), (1, .int x)] [] ((m_ui I 76 n (vp_nar .char x)), J) _
    refine c_run 8 (pc' := 36) (ls' := [(0, .ref 75), (1, .int x)]) (st' := [.int ((I 75 0) + (1 : Int32))]) (μ' := ((m_ui (m_ui I 76 n (vp_nar .char x)) 75 0 ((I 75 0) + (1 : Int32))), J)) (Nat.le_of_ble_eq_true rfl) rfl ?_
    refine c_ret (Nat.le_of_ble_eq_true rfl) rfl rfl ⟨by decide, rfl⟩ ?_
    have hq : n < 100 := (nI_ltI (a := n) (b := 100) (by omega) (by omega)).mp (by rw [← h0]; assumption)
    rw [show c_typ I n x = _ from if_pos hq]
    rw [c_nar hx, show I 75 0 + (1 : Int32) = nI (n + 1) from by rw [h0, nI_1]]
    exact ⟨rfl, rfl⟩
  · skip
    refine c_run 1 (pc' := 11) (ls' := [(0, .ref 75), (1, .int x)]) (st' := [.int (-3)]) (μ' := (I, J)) (Nat.le_of_ble_eq_true rfl) rfl ?_
    refine c_ret (Nat.le_of_ble_eq_true rfl) rfl rfl ⟨by decide, rfl⟩ ?_
    have hq : ¬ n < 100 := fun q => absurd (show I 75 0 < nI 100 by rw [h0]; exact nI_lt q (by omega)) (by assumption)
    rw [show c_typ I n x = _ from if_neg hq]
    exact ⟨rfl, rfl⟩

set_option maxRecDepth 100000 in
theorem t_type (I : Nat → Nat → Int32) (J : Nat → Nat → Int64) (n : Nat) (h0 : I 75 0 = nI n) (hn : n ≤ 100) (hc : ∀ i, i < n → 32 ≤ I 76 i ∧ I 76 i ≤ 126) (x : Int32) : m_W 25 0 (lv_args 0 [.ref 0, .int x]) [] (I, J) (m_E (some (.int (if 32 ≤ x ∧ x ≤ 126 then (c_typ I n x).1 else -1))) (if 32 ≤ x ∧ x ≤ 126 then (c_typ I n x).2 else I, J)) := by
  show m_W 25 0 [(0, .ref 0), (1, .int x)] [] (I, J) _
  refine c_run 3 (pc' := 5) (ls' := [(0, .ref 0), (1, .int x)]) (st' := [.int 126, .int 32, .int x]) (μ' := (I, J)) (Nat.le_of_ble_eq_true rfl) rfl ?_
  refine c_cs 35 [.int x, .int 32, .int 126] (r := []) (Nat.le_of_ble_eq_true rfl) rfl (Or.inl rfl) rfl rfl rfl (t_isWithin I J x 32 126) ?_
  rintro _ _ ⟨rfl, rfl⟩
  show m_W 25 8 [(0, .ref 0), (1, .int x)] [.int (s01 ((32 : Int32) ≤ x ∧ x ≤ (126 : Int32)))] (I, J) _
  refine c_ifne 13 (Nat.le_of_ble_eq_true rfl) rfl rfl (fun h1 => ?_) (fun h1 => ?_)
  · replace h1 := s01_1.mp h1
    refine c_run 4 (pc' := 19) (ls' := [(0, .ref 0), (1, .int x)]) (st' := [.int (((x : Int32).toUInt32 % 65536).toInt32), .ref 75]) (μ' := (I, J)) (Nat.le_of_ble_eq_true rfl) rfl ?_
    rw [show ((x : Int32).toUInt32 % 65536).toInt32 = x from c_i2c (by assumption)]
    refine c_cv 39 [.int x] (b := 75) (r := []) (Nat.le_of_ble_eq_true rfl) rfl rfl rfl rfl rfl rfl (t_xapp I J n h0 hn hc x (by assumption)) ?_
    rintro _ _ ⟨rfl, rfl⟩
    show m_W 25 22 [(0, .ref 0), (1, .int x)] [.int ((c_typ I n x).1)] ((c_typ I n x).2, J) _
    refine c_ret (Nat.le_of_ble_eq_true rfl) rfl rfl ⟨by decide, rfl⟩ ?_
    rw [if_pos h1, if_pos h1]
    exact ⟨rfl, rfl⟩
  · replace h1 := s01_0.mp h1
    refine c_run 1 (pc' := 12) (ls' := [(0, .ref 0), (1, .int x)]) (st' := [.int (-1)]) (μ' := (I, J)) (Nat.le_of_ble_eq_true rfl) rfl ?_
    refine c_ret (Nat.le_of_ble_eq_true rfl) rfl rfl ⟨by decide, rfl⟩ ?_
    rw [if_neg h1, if_neg h1]
    exact ⟨rfl, rfl⟩

set_option maxRecDepth 100000 in
theorem t_clear (I : Nat → Nat → Int32) (J : Nat → Nat → Int64)  : m_W 26 0 (lv_args 0 [.ref 0]) [] (I, J) (m_E (some (.int (I 75 0))) (m_ui I 75 0 0, J)) := by
  show m_W 26 0 [(0, .ref 0)] [] (I, J) _
  refine c_run 9 (pc' := 17) (ls' := [(1, .int (I 75 0)), (0, .ref 0)]) (st' := [.int (I 75 0)]) (μ' := ((m_ui I 75 0 0), J)) (Nat.le_of_ble_eq_true rfl) rfl ?_
  refine c_ret (Nat.le_of_ble_eq_true rfl) rfl rfl ⟨by decide, rfl⟩ ?_
  exact ⟨rfl, rfl⟩

theorem g_sl10 {j : Nat} (h : j < 9) : g_sl.getD j 0 < 10 := by
  have : ∀ j, j < 9 → g_sl.getD j 0 < 10 := by decide
  exact this j h
set_option maxRecDepth 100000 in
theorem t_sky_l (I : Nat → Nat → Int32) (J : Nat → Nat → Int64) (n : Nat) (h0 : I 75 0 = nI n) (hn : n ≤ 100) (hc : ∀ i, i < n → 32 ≤ I 76 i ∧ I 76 i ≤ 126) (s : Nat) (hs : s < 1000) (c nm t nu : Int32) (j : Nat) (hj : j < 9) (hk : p_sk (s_ch (I 76) n) s j) : ∀ (r i : Nat), i + r = (g_sl.getD j 0) → m_W 43 2 [(0, .ref 75), (1, .ref (1000 + j)), (2, .int (nI i))] [] ((c_tx I (nI s) c nm t nu), J) (m_E (some (.int 1)) (c_tx I (nI (s + (g_sl.getD j 0))) c nm t nu, J)) := by
  intro r
  induction r with
  | zero =>
    intro i hir
    have hlj := g_sl10 hj
    refine c_run 2 (pc' := 4) (ls' := [(0, .ref 75), (1, .ref (1000 + j)), (2, .int (nI i))]) (st' := [.ref (1000 + j), .int (nI i)]) (μ' := ((c_tx I (nI s) c nm t nu), J)) (Nat.le_of_ble_eq_true rfl) rfl ?_
    refine c_sln (Nat.le_of_ble_eq_true rfl) rfl rfl rfl ⟨by omega, by omega, Nat.le_of_ble_eq_true rfl, by decide, by decide⟩ ?_
    rw [show 1000 + j - 1000 = j by omega]
    show m_W 43 7 [(0, .ref 75), (1, .ref (1000 + j)), (2, .int (nI i))] [.int (nI (g_sl.getD j 0)), .int (nI i)] ((c_tx I (nI s) c nm t nu), J) _
    refine c_icge 36 (Nat.le_of_ble_eq_true rfl) rfl rfl (fun h1 => ?_) (fun h1 => absurd (nI_le (by omega) (by omega)) h1)
    refine c_run 4 (pc' := 42) (ls' := [(0, .ref 75), (1, .ref (1000 + j)), (2, .int (nI i))]) (st' := [.ref (1000 + j), .int (nI s), .ref 75]) (μ' := ((c_tx I (nI s) c nm t nu), J)) (Nat.le_of_ble_eq_true rfl) rfl ?_
    refine c_sln (Nat.le_of_ble_eq_true rfl) rfl rfl rfl ⟨by omega, by omega, Nat.le_of_ble_eq_true rfl, by decide, by decide⟩ ?_
    rw [show 1000 + j - 1000 = j by omega]
    show m_W 43 45 [(0, .ref 75), (1, .ref (1000 + j)), (2, .int (nI i))] [.int (nI (g_sl.getD j 0)), .int (nI s), .ref 75] ((c_tx I (nI s) c nm t nu), J) _
    refine c_run 3 (pc' := 50) (ls' := [(0, .ref 75), (1, .ref (1000 + j)), (2, .int (nI i))]) (st' := [.int 1]) (μ' := ((m_ui (c_tx I (nI s) c nm t nu) 75 1 ((nI s) + (nI (g_sl.getD j 0)))), J)) (Nat.le_of_ble_eq_true rfl) rfl ?_
    refine c_ret (Nat.le_of_ble_eq_true rfl) rfl rfl ⟨by decide, rfl⟩ ?_
    rw [c_tx1, show (nI s) + (nI (g_sl.getD j 0)) = nI (s + g_sl.getD j 0) from nI_add _ _]
    exact ⟨rfl, rfl⟩
  | succ r ih =>
    intro i hir
    have hlj := g_sl10 hj
    refine c_run 2 (pc' := 4) (ls' := [(0, .ref 75), (1, .ref (1000 + j)), (2, .int (nI i))]) (st' := [.ref (1000 + j), .int (nI i)]) (μ' := ((c_tx I (nI s) c nm t nu), J)) (Nat.le_of_ble_eq_true rfl) rfl ?_
    refine c_sln (Nat.le_of_ble_eq_true rfl) rfl rfl rfl ⟨by omega, by omega, Nat.le_of_ble_eq_true rfl, by decide, by decide⟩ ?_
    rw [show 1000 + j - 1000 = j by omega]
    show m_W 43 7 [(0, .ref 75), (1, .ref (1000 + j)), (2, .int (nI i))] [.int (nI (g_sl.getD j 0)), .int (nI i)] ((c_tx I (nI s) c nm t nu), J) _
    refine c_icge 36 (Nat.le_of_ble_eq_true rfl) rfl rfl (fun h1 => absurd h1 (nI_ge (by omega) (by omega))) (fun h1 => ?_)
    refine c_run 5 (pc' := 17) (ls' := [(0, .ref 75), (1, .ref (1000 + j)), (2, .int (nI i))]) (st' := [.int ((nI s) + (nI i)), .ref 75]) (μ' := ((c_tx I (nI s) c nm t nu), J)) (Nat.le_of_ble_eq_true rfl) rfl ?_
    rw [show (nI s) + (nI i) = nI (s + i) from nI_add s i]
    refine c_cv 47 [.int (nI (s + i))] (b := 75) (r := []) (Nat.le_of_ble_eq_true rfl) rfl rfl rfl rfl rfl rfl (t_chr (c_tx I (nI s) c nm t nu) J n h0 hn hc (s + i) (by omega)) ?_
    rintro _ _ ⟨rfl, rfl⟩
    show m_W 43 20 [(0, .ref 75), (1, .ref (1000 + j)), (2, .int (nI i))] [.int (s_ch (I 76) n (s + i))] ((c_tx I (nI s) c nm t nu), J) _
    refine c_run 2 (pc' := 22) (ls' := [(0, .ref 75), (1, .ref (1000 + j)), (2, .int (nI i))]) (st' := [.int (nI i), .ref (1000 + j), .int (s_ch (I 76) n (s + i))]) (μ' := ((c_tx I (nI s) c nm t nu), J)) (Nat.le_of_ble_eq_true rfl) rfl ?_
    refine c_sch i (Nat.le_of_ble_eq_true rfl) rfl rfl rfl ⟨⟨rfl, by rw [show 1000 + j - 1000 = j by omega]; omega, by omega⟩, by omega, by omega, Nat.le_of_ble_eq_true rfl, by decide, by decide⟩ ?_
    rw [show 1000 + j - 1000 = j by omega]
    show m_W 43 25 [(0, .ref 75), (1, .ref (1000 + j)), (2, .int (nI i))] [.int ((g_sb.getD j []).getD i 0), .int (s_ch (I 76) n (s + i))] ((c_tx I (nI s) c nm t nu), J) _
    refine c_iceq 30 (Nat.le_of_ble_eq_true rfl) rfl rfl (fun h2 => ?_) (fun h2 => absurd (hk i (by omega)) h2)
    refine c_run 2 (pc' := 2) (ls' := [(2, .int ((nI i) + (1 : Int32))), (0, .ref 75), (1, .ref (1000 + j))]) (st' := []) (μ' := ((c_tx I (nI s) c nm t nu), J)) (Nat.le_of_ble_eq_true rfl) rfl ?_
    refine c_w [1, 2, 0] (ls' := [(0, .ref 75), (1, .ref (1000 + j)), (2, .int ((nI i) + (1 : Int32)))]) rfl ?_
    rw [nI_1 i]
    exact ih (i + 1) (by omega)

set_option maxRecDepth 100000 in
theorem t_sky (I : Nat → Nat → Int32) (J : Nat → Nat → Int64) (n : Nat) (h0 : I 75 0 = nI n) (hn : n ≤ 100) (hc : ∀ i, i < n → 32 ≤ I 76 i ∧ I 76 i ≤ 126) (s : Nat) (hs : s < 1000) (c nm t nu : Int32) (j : Nat) (hj : j < 9) (hk : p_sk (s_ch (I 76) n) s j) : m_W 43 0 (lv_args 0 [.ref 75, .ref (1000 + j)]) [] ((c_tx I (nI s) c nm t nu), J) (m_E (some (.int 1)) (c_tx I (nI (s + (g_sl.getD j 0))) c nm t nu, J)) := by
  show m_W 43 0 [(0, .ref 75), (1, .ref (1000 + j))] [] ((c_tx I (nI s) c nm t nu), J) _
  refine c_run 2 (pc' := 2) (ls' := [(2, .int 0), (0, .ref 75), (1, .ref (1000 + j))]) (st' := []) (μ' := ((c_tx I (nI s) c nm t nu), J)) (Nat.le_of_ble_eq_true rfl) rfl ?_
  refine c_w [1, 2, 0] (ls' := [(0, .ref 75), (1, .ref (1000 + j)), (2, .int 0)]) rfl ?_
  exact t_sky_l I J n h0 hn hc s hs c nm t nu j hj hk (g_sl.getD j 0) 0 (by omega)

set_option maxRecDepth 100000 in
theorem t_skn_l (I : Nat → Nat → Int32) (J : Nat → Nat → Int64) (n : Nat) (h0 : I 75 0 = nI n) (hn : n ≤ 100) (hc : ∀ i, i < n → 32 ≤ I 76 i ∧ I 76 i ≤ 126) (s : Nat) (hs : s < 1000) (c nm t nu : Int32) (j : Nat) (hj : j < 9) (hk : ¬ p_sk (s_ch (I 76) n) s j) : ∀ (r i : Nat), i + r = (g_sl.getD j 0) → (∀ q, q < i → (s_ch (I 76) n) (s + q) = (g_sb.getD j []).getD q 0) → m_W 43 2 [(0, .ref 75), (1, .ref (1000 + j)), (2, .int (nI i))] [] ((c_tx I (nI s) c nm t nu), J) (m_E (some (.int 0)) (c_tx I (nI s) c nm t nu, J)) := by
  intro r
  induction r with
  | zero =>
    intro i hir hall
    exact absurd (fun q hq => hall q (by omega)) hk
  | succ r ih =>
    intro i hir hall
    have hlj := g_sl10 hj
    refine c_run 2 (pc' := 4) (ls' := [(0, .ref 75), (1, .ref (1000 + j)), (2, .int (nI i))]) (st' := [.ref (1000 + j), .int (nI i)]) (μ' := ((c_tx I (nI s) c nm t nu), J)) (Nat.le_of_ble_eq_true rfl) rfl ?_
    refine c_sln (Nat.le_of_ble_eq_true rfl) rfl rfl rfl ⟨by omega, by omega, Nat.le_of_ble_eq_true rfl, by decide, by decide⟩ ?_
    rw [show 1000 + j - 1000 = j by omega]
    show m_W 43 7 [(0, .ref 75), (1, .ref (1000 + j)), (2, .int (nI i))] [.int (nI (g_sl.getD j 0)), .int (nI i)] ((c_tx I (nI s) c nm t nu), J) _
    refine c_icge 36 (Nat.le_of_ble_eq_true rfl) rfl rfl (fun h1 => absurd h1 (nI_ge (by omega) (by omega))) (fun h1 => ?_)
    refine c_run 5 (pc' := 17) (ls' := [(0, .ref 75), (1, .ref (1000 + j)), (2, .int (nI i))]) (st' := [.int ((nI s) + (nI i)), .ref 75]) (μ' := ((c_tx I (nI s) c nm t nu), J)) (Nat.le_of_ble_eq_true rfl) rfl ?_
    rw [show (nI s) + (nI i) = nI (s + i) from nI_add s i]
    refine c_cv 47 [.int (nI (s + i))] (b := 75) (r := []) (Nat.le_of_ble_eq_true rfl) rfl rfl rfl rfl rfl rfl (t_chr (c_tx I (nI s) c nm t nu) J n h0 hn hc (s + i) (by omega)) ?_
    rintro _ _ ⟨rfl, rfl⟩
    show m_W 43 20 [(0, .ref 75), (1, .ref (1000 + j)), (2, .int (nI i))] [.int (s_ch (I 76) n (s + i))] ((c_tx I (nI s) c nm t nu), J) _
    refine c_run 2 (pc' := 22) (ls' := [(0, .ref 75), (1, .ref (1000 + j)), (2, .int (nI i))]) (st' := [.int (nI i), .ref (1000 + j), .int (s_ch (I 76) n (s + i))]) (μ' := ((c_tx I (nI s) c nm t nu), J)) (Nat.le_of_ble_eq_true rfl) rfl ?_
    refine c_sch i (Nat.le_of_ble_eq_true rfl) rfl rfl rfl ⟨⟨rfl, by rw [show 1000 + j - 1000 = j by omega]; omega, by omega⟩, by omega, by omega, Nat.le_of_ble_eq_true rfl, by decide, by decide⟩ ?_
    rw [show 1000 + j - 1000 = j by omega]
    show m_W 43 25 [(0, .ref 75), (1, .ref (1000 + j)), (2, .int (nI i))] [.int ((g_sb.getD j []).getD i 0), .int (s_ch (I 76) n (s + i))] ((c_tx I (nI s) c nm t nu), J) _
    refine c_iceq 30 (Nat.le_of_ble_eq_true rfl) rfl rfl (fun h2 => ?_) (fun h2 => ?_)
    · skip
      refine c_run 2 (pc' := 2) (ls' := [(2, .int ((nI i) + (1 : Int32))), (0, .ref 75), (1, .ref (1000 + j))]) (st' := []) (μ' := ((c_tx I (nI s) c nm t nu), J)) (Nat.le_of_ble_eq_true rfl) rfl ?_
      refine c_w [1, 2, 0] (ls' := [(0, .ref 75), (1, .ref (1000 + j)), (2, .int ((nI i) + (1 : Int32)))]) rfl ?_
      rw [nI_1 i]
      refine ih (i + 1) (by omega) (fun q hq => ?_)
      by_cases hqi : q = i
      · subst hqi; assumption
      · exact hall q (by omega)
    · skip
      refine c_run 1 (pc' := 29) (ls' := [(0, .ref 75), (1, .ref (1000 + j)), (2, .int (nI i))]) (st' := [.int 0]) (μ' := ((c_tx I (nI s) c nm t nu), J)) (Nat.le_of_ble_eq_true rfl) rfl ?_
      refine c_ret (Nat.le_of_ble_eq_true rfl) rfl rfl ⟨by decide, rfl⟩ ?_
      exact ⟨rfl, rfl⟩

set_option maxRecDepth 100000 in
theorem t_skn (I : Nat → Nat → Int32) (J : Nat → Nat → Int64) (n : Nat) (h0 : I 75 0 = nI n) (hn : n ≤ 100) (hc : ∀ i, i < n → 32 ≤ I 76 i ∧ I 76 i ≤ 126) (s : Nat) (hs : s < 1000) (c nm t nu : Int32) (j : Nat) (hj : j < 9) (hk : ¬ p_sk (s_ch (I 76) n) s j) : m_W 43 0 (lv_args 0 [.ref 75, .ref (1000 + j)]) [] ((c_tx I (nI s) c nm t nu), J) (m_E (some (.int 0)) (c_tx I (nI s) c nm t nu, J)) := by
  show m_W 43 0 [(0, .ref 75), (1, .ref (1000 + j))] [] ((c_tx I (nI s) c nm t nu), J) _
  refine c_run 2 (pc' := 2) (ls' := [(2, .int 0), (0, .ref 75), (1, .ref (1000 + j))]) (st' := []) (μ' := ((c_tx I (nI s) c nm t nu), J)) (Nat.le_of_ble_eq_true rfl) rfl ?_
  refine c_w [1, 2, 0] (ls' := [(0, .ref 75), (1, .ref (1000 + j)), (2, .int 0)]) rfl ?_
  exact t_skn_l I J n h0 hn hc s hs c nm t nu j hj hk (g_sl.getD j 0) 0 (by omega) (fun q hq => absurd hq (Nat.not_lt_zero q))

set_option maxRecDepth 100000 in
theorem t_pn_e (I : Nat → Nat → Int32) (J : Nat → Nat → Int64) (a c nm t nu : Int32) (W : Nat) (hW : W ≤ 6) : m_W 44 66 [(0, .ref 75), (1, .int (nI W))] [] ((c_tx I a c nm t nu), J) (m_E (some (.int (s01 (0 < W)))) (c_tx I a c nm t nu, J)) := by
  refine c_run 1 (pc' := 67) (ls' := [(0, .ref 75), (1, .int (nI W))]) (st' := [.int (nI W)]) (μ' := ((c_tx I a c nm t nu), J)) (Nat.le_of_ble_eq_true rfl) rfl ?_
  refine c_ifle 74 (Nat.le_of_ble_eq_true rfl) rfl rfl (fun h1 => ?_) (fun h1 => ?_)
  · skip
    refine c_run 1 (pc' := 75) (ls' := [(0, .ref 75), (1, .int (nI W))]) (st' := [.int 0]) (μ' := ((c_tx I a c nm t nu), J)) (Nat.le_of_ble_eq_true rfl) rfl ?_
    refine c_ret (Nat.le_of_ble_eq_true rfl) rfl rfl ⟨by decide, rfl⟩ ?_
    refine ⟨?_, rfl⟩
    first
      | exact congrArg (fun z => some (Value.int z)) (s01_t ((p_nI (by omega)).mp (by assumption))).symm
      | exact congrArg (fun z => some (Value.int z)) (s01_f (fun q => absurd (by assumption) ((p_nI (by omega)).mpr q))).symm
  · skip
    refine c_run 2 (pc' := 75) (ls' := [(0, .ref 75), (1, .int (nI W))]) (st' := [.int 1]) (μ' := ((c_tx I a c nm t nu), J)) (Nat.le_of_ble_eq_true rfl) rfl ?_
    refine c_ret (Nat.le_of_ble_eq_true rfl) rfl rfl ⟨by decide, rfl⟩ ?_
    refine ⟨?_, rfl⟩
    first
      | exact congrArg (fun z => some (Value.int z)) (s01_t ((p_nI (by omega)).mp (by assumption))).symm
      | exact congrArg (fun z => some (Value.int z)) (s01_f (fun q => absurd (by assumption) ((p_nI (by omega)).mpr q))).symm

set_option maxRecDepth 100000 in
theorem t_pn_l (I : Nat → Nat → Int32) (J : Nat → Nat → Int64) (n : Nat) (h0 : I 75 0 = nI n) (hn : n ≤ 100) (hc : ∀ i, i < n → 32 ≤ I 76 i ∧ I 76 i ≤ 126) (s : Nat) (hs : s < 1000) (c t nu : Int32)  : ∀ (r w : Nat), w + r = 6 → m_W 44 7 [(0, .ref 75), (1, .int (nI w))] [] ((c_tx I (nI (s + w)) c (p_nm (s_ch (I 76) n) s w) t nu), J) (m_E (some (.int (s01 (0 < w + p_r (s_ch (I 76) n) 97 122 (s + w) r)))) (c_tx I (nI (s + (w + p_r (s_ch (I 76) n) 97 122 (s + w) r))) c (p_nm (s_ch (I 76) n) s (w + p_r (s_ch (I 76) n) 97 122 (s + w) r)) t nu, J)) := by
  intro r
  induction r with
  | zero =>
    intro w hir
    refine c_run 2 (pc' := 10) (ls' := [(0, .ref 75), (1, .int (nI w))]) (st' := [.int 6, .int (nI w)]) (μ' := ((c_tx I (nI (s + w)) c (p_nm (s_ch (I 76) n) s w) t nu), J)) (Nat.le_of_ble_eq_true rfl) rfl ?_
    refine c_icge 66 (Nat.le_of_ble_eq_true rfl) rfl rfl (fun h1 => ?_) (fun h1 => absurd (show nI 6 ≤ nI w from nI_le (by omega) (by omega)) h1)
    refine c_w [0, 1] (ls' := [(0, .ref 75), (1, .int (nI w))]) rfl ?_
    exact t_pn_e I J _ c _ t nu w (by omega)
  | succ r ih =>
    intro w hir
    refine c_run 2 (pc' := 10) (ls' := [(0, .ref 75), (1, .int (nI w))]) (st' := [.int 6, .int (nI w)]) (μ' := ((c_tx I (nI (s + w)) c (p_nm (s_ch (I 76) n) s w) t nu), J)) (Nat.le_of_ble_eq_true rfl) rfl ?_
    refine c_icge 66 (Nat.le_of_ble_eq_true rfl) rfl rfl (fun h1 => absurd h1 (show ¬ nI 6 ≤ nI w from nI_ge (by omega) (by omega))) (fun h1 => ?_)
    refine c_run 3 (pc' := 18) (ls' := [(0, .ref 75), (1, .int (nI w))]) (st' := [.int (nI (s + w)), .ref 75]) (μ' := ((c_tx I (nI (s + w)) c (p_nm (s_ch (I 76) n) s w) t nu), J)) (Nat.le_of_ble_eq_true rfl) rfl ?_
    refine c_cv 47 [.int (nI (s + w))] (b := 75) (r := []) (Nat.le_of_ble_eq_true rfl) rfl rfl rfl rfl rfl rfl (t_chr (c_tx I (nI (s + w)) c (p_nm (s_ch (I 76) n) s w) t nu) J n h0 hn hc (s + w) (by omega)) ?_
    rintro _ _ ⟨rfl, rfl⟩
    show m_W 44 21 [(0, .ref 75), (1, .int (nI w))] [.int (s_ch (I 76) n (s + w))] ((c_tx I (nI (s + w)) c (p_nm (s_ch (I 76) n) s w) t nu), J) _
    refine c_run 2 (pc' := 25) (ls' := [(0, .ref 75), (1, .int (nI w))]) (st' := [.int 122, .int 97, .int (s_ch (I 76) n (s + w))]) (μ' := ((c_tx I (nI (s + w)) c (p_nm (s_ch (I 76) n) s w) t nu), J)) (Nat.le_of_ble_eq_true rfl) rfl ?_
    refine c_cs 35 [.int (s_ch (I 76) n (s + w)), .int 97, .int 122] (r := []) (Nat.le_of_ble_eq_true rfl) rfl (Or.inr ⟨rfl, rfl⟩) rfl rfl rfl (t_isWithin (c_tx I (nI (s + w)) c (p_nm (s_ch (I 76) n) s w) t nu) J (s_ch (I 76) n (s + w)) 97 122) ?_
    rintro _ _ ⟨rfl, rfl⟩
    show m_W 44 28 [(0, .ref 75), (1, .int (nI w))] [.int (s01 ((97 : Int32) ≤ (s_ch (I 76) n (s + w)) ∧ (s_ch (I 76) n (s + w)) ≤ (122 : Int32)))] ((c_tx I (nI (s + w)) c (p_nm (s_ch (I 76) n) s w) t nu), J) _
    refine c_ifeq 66 (Nat.le_of_ble_eq_true rfl) rfl rfl (fun h2 => ?_) (fun h2 => ?_)
    · replace h2 := s01_0.mp h2
      refine c_w [0, 1] (ls' := [(0, .ref 75), (1, .int (nI w))]) rfl ?_
      rw [p_r_z (by assumption)]
      exact t_pn_e I J _ c _ t nu w (by omega)
    · replace h2 := s01_1.mp h2
      refine c_run 6 (pc' := 41) (ls' := [(0, .ref 75), (1, .int (nI w))]) (st' := [.int (nI (s + w)), .ref 75, .int (p_nm (s_ch (I 76) n) s w), .ref 75]) (μ' := ((c_tx I (nI (s + w)) c (p_nm (s_ch (I 76) n) s w) t nu), J)) (Nat.le_of_ble_eq_true rfl) rfl ?_
      refine c_cv 47 [.int (nI (s + w))] (b := 75) (r := [.int (p_nm (s_ch (I 76) n) s w), .ref 75]) (Nat.le_of_ble_eq_true rfl) rfl rfl rfl rfl rfl rfl (t_chr (c_tx I (nI (s + w)) c (p_nm (s_ch (I 76) n) s w) t nu) J n h0 hn hc (s + w) (by omega)) ?_
      rintro _ _ ⟨rfl, rfl⟩
      show m_W 44 44 [(0, .ref 75), (1, .int (nI w))] [.int (s_ch (I 76) n (s + w)), .int (p_nm (s_ch (I 76) n) s w), .ref 75] ((c_tx I (nI (s + w)) c (p_nm (s_ch (I 76) n) s w) t nu), J) _
      refine c_cs 36 [.int (p_nm (s_ch (I 76) n) s w), .int (s_ch (I 76) n (s + w))] (r := [.ref 75]) (Nat.le_of_ble_eq_true rfl) rfl (Or.inr ⟨rfl, rfl⟩) rfl rfl rfl (t_nameWith (c_tx I (nI (s + w)) c (p_nm (s_ch (I 76) n) s w) t nu) J (p_nm (s_ch (I 76) n) s w) (s_ch (I 76) n (s + w))) ?_
      rintro _ _ ⟨rfl, rfl⟩
      show m_W 44 47 [(0, .ref 75), (1, .int (nI w))] [.int ((p_nm (s_ch (I 76) n) s w) * 27 + ((s_ch (I 76) n (s + w)) - 97 + 1)), .ref 75] ((c_tx I (nI (s + w)) c (p_nm (s_ch (I 76) n) s w) t nu), J) _
      refine c_run 9 (pc' := 7) (ls' := [(1, .int ((nI w) + (1 : Int32))), (0, .ref 75)]) (st' := []) (μ' := ((m_ui (m_ui (c_tx I (nI (s + w)) c (p_nm (s_ch (I 76) n) s w) t nu) 75 3 ((p_nm (s_ch (I 76) n) s w) * 27 + ((s_ch (I 76) n (s + w)) - 97 + 1))) 75 1 ((nI (s + w)) + (1 : Int32))), J)) (Nat.le_of_ble_eq_true rfl) rfl ?_
      refine c_w [1, 0] (ls' := [(0, .ref 75), (1, .int ((nI w) + (1 : Int32)))]) rfl ?_
      rw [c_tx3, c_tx1]
      rw [nI_1 w, show (nI (s + w)) + (1 : Int32) = nI (s + (w + 1)) from nI_1 _]
      have h := ih (w + 1) (by omega)
      rw [p_r_s (by assumption), show w + (p_r (s_ch (I 76) n) 97 122 (s + w + 1) r + 1) = w + 1 + p_r (s_ch (I 76) n) 97 122 (s + (w + 1)) r from by rw [show s + (w + 1) = s + w + 1 by omega]; omega]
      exact h

set_option maxRecDepth 100000 in
theorem t_pn (I : Nat → Nat → Int32) (J : Nat → Nat → Int64) (n : Nat) (h0 : I 75 0 = nI n) (hn : n ≤ 100) (hc : ∀ i, i < n → 32 ≤ I 76 i ∧ I 76 i ≤ 126) (s : Nat) (hs : s < 1000) (c t nu : Int32) (nm : Int32) : m_W 44 0 (lv_args 0 [.ref 75]) [] ((c_tx I (nI s) c nm t nu), J) (m_E (some (.int (s01 (0 < p_L (s_ch (I 76) n) s)))) (c_tx I (nI (s + p_L (s_ch (I 76) n) s)) c (p_nm (s_ch (I 76) n) s (p_L (s_ch (I 76) n) s)) t nu, J)) := by
  show m_W 44 0 [(0, .ref 75)] [] ((c_tx I (nI s) c nm t nu), J) _
  refine c_run 5 (pc' := 7) (ls' := [(1, .int 0), (0, .ref 75)]) (st' := []) (μ' := ((m_ui (c_tx I (nI s) c nm t nu) 75 3 0), J)) (Nat.le_of_ble_eq_true rfl) rfl ?_
  refine c_w [1, 0] (ls' := [(0, .ref 75), (1, .int 0)]) rfl ?_
  rw [c_tx3]
  have h := t_pn_l I J n h0 hn hc s hs c t nu 6 0 (by omega)
  rw [show ∀ x, 0 + x = x from Nat.zero_add] at h
  exact h

set_option maxRecDepth 100000 in
theorem t_pu_e (I : Nat → Nat → Int32) (J : Nat → Nat → Int64) (a c nm t nu : Int32) (D : Nat) (lo hi : Int32) (w : Nat) (hW : w ≤ 5) : m_W 46 71 [(0, .ref 75), (1, .int (nI D)), (2, .int lo), (3, .int hi), (4, .int (nI w))] [] ((c_tx I a c nm t nu), J) (m_E (some (.int (s01 (0 < w ∧ (lo ≤ nu ∧ nu ≤ hi))))) (c_tx I a c nm t nu, J)) := by
  refine c_run 1 (pc' := 73) (ls' := [(0, .ref 75), (1, .int (nI D)), (2, .int lo), (3, .int hi), (4, .int (nI w))]) (st' := [.int (nI w)]) (μ' := ((c_tx I a c nm t nu), J)) (Nat.le_of_ble_eq_true rfl) rfl ?_
  refine c_ifle 92 (Nat.le_of_ble_eq_true rfl) rfl rfl (fun h1 => ?_) (fun h1 => ?_)
  · skip
    refine c_run 1 (pc' := 93) (ls' := [(0, .ref 75), (1, .int (nI D)), (2, .int lo), (3, .int hi), (4, .int (nI w))]) (st' := [.int 0]) (μ' := ((c_tx I a c nm t nu), J)) (Nat.le_of_ble_eq_true rfl) rfl ?_
    refine c_ret (Nat.le_of_ble_eq_true rfl) rfl rfl ⟨by decide, rfl⟩ ?_
    refine ⟨?_, rfl⟩
    first
      | exact congrArg (fun z => some (Value.int z)) (s01_t ⟨(p_nI (by omega)).mp (by assumption), by assumption⟩).symm
      | exact congrArg (fun z => some (Value.int z)) (s01_f (fun q => absurd q.2 (by assumption))).symm
      | exact congrArg (fun z => some (Value.int z)) (s01_f (fun q => absurd (by assumption) ((p_nI (by omega)).mpr q.1))).symm
  · skip
    refine c_run 4 (pc' := 82) (ls' := [(0, .ref 75), (1, .int (nI D)), (2, .int lo), (3, .int hi), (4, .int (nI w))]) (st' := [.int hi, .int lo, .int nu]) (μ' := ((c_tx I a c nm t nu), J)) (Nat.le_of_ble_eq_true rfl) rfl ?_
    refine c_cs 35 [.int nu, .int lo, .int hi] (r := []) (Nat.le_of_ble_eq_true rfl) rfl (Or.inr ⟨rfl, rfl⟩) rfl rfl rfl (t_isWithin (c_tx I a c nm t nu) J nu lo hi) ?_
    rintro _ _ ⟨rfl, rfl⟩
    show m_W 46 85 [(0, .ref 75), (1, .int (nI D)), (2, .int lo), (3, .int hi), (4, .int (nI w))] [.int (s01 (lo ≤ nu ∧ nu ≤ hi))] ((c_tx I a c nm t nu), J) _
    refine c_ifeq 92 (Nat.le_of_ble_eq_true rfl) rfl rfl (fun h2 => ?_) (fun h2 => ?_)
    · replace h2 := s01_0.mp h2
      refine c_run 1 (pc' := 93) (ls' := [(0, .ref 75), (1, .int (nI D)), (2, .int lo), (3, .int hi), (4, .int (nI w))]) (st' := [.int 0]) (μ' := ((c_tx I a c nm t nu), J)) (Nat.le_of_ble_eq_true rfl) rfl ?_
      refine c_ret (Nat.le_of_ble_eq_true rfl) rfl rfl ⟨by decide, rfl⟩ ?_
      refine ⟨?_, rfl⟩
      first
        | exact congrArg (fun z => some (Value.int z)) (s01_t ⟨(p_nI (by omega)).mp (by assumption), by assumption⟩).symm
        | exact congrArg (fun z => some (Value.int z)) (s01_f (fun q => absurd q.2 (by assumption))).symm
        | exact congrArg (fun z => some (Value.int z)) (s01_f (fun q => absurd (by assumption) ((p_nI (by omega)).mpr q.1))).symm
    · replace h2 := s01_1.mp h2
      refine c_run 2 (pc' := 93) (ls' := [(0, .ref 75), (1, .int (nI D)), (2, .int lo), (3, .int hi), (4, .int (nI w))]) (st' := [.int 1]) (μ' := ((c_tx I a c nm t nu), J)) (Nat.le_of_ble_eq_true rfl) rfl ?_
      refine c_ret (Nat.le_of_ble_eq_true rfl) rfl rfl ⟨by decide, rfl⟩ ?_
      refine ⟨?_, rfl⟩
      first
        | exact congrArg (fun z => some (Value.int z)) (s01_t ⟨(p_nI (by omega)).mp (by assumption), by assumption⟩).symm
        | exact congrArg (fun z => some (Value.int z)) (s01_f (fun q => absurd q.2 (by assumption))).symm
        | exact congrArg (fun z => some (Value.int z)) (s01_f (fun q => absurd (by assumption) ((p_nI (by omega)).mpr q.1))).symm

set_option maxRecDepth 100000 in
theorem t_pu_l (I : Nat → Nat → Int32) (J : Nat → Nat → Int64) (n : Nat) (h0 : I 75 0 = nI n) (hn : n ≤ 100) (hc : ∀ i, i < n → 32 ≤ I 76 i ∧ I 76 i ≤ 126) (s : Nat) (hs : s < 1000) (c nm t : Int32) (D : Nat) (hD : D ≤ 5) (lo hi : Int32)  : ∀ (r w : Nat), w + r = D → m_W 46 8 [(0, .ref 75), (1, .int (nI D)), (2, .int lo), (3, .int hi), (4, .int (nI w))] [] ((c_tx I (nI (s + w)) c nm t (p_nu (s_ch (I 76) n) s w)), J) (m_E (some (.int (s01 (0 < w + p_r (s_ch (I 76) n) 48 57 (s + w) r ∧ (lo ≤ p_nu (s_ch (I 76) n) s (w + p_r (s_ch (I 76) n) 48 57 (s + w) r) ∧ p_nu (s_ch (I 76) n) s (w + p_r (s_ch (I 76) n) 48 57 (s + w) r) ≤ hi))))) (c_tx I (nI (s + (w + p_r (s_ch (I 76) n) 48 57 (s + w) r))) c nm t (p_nu (s_ch (I 76) n) s (w + p_r (s_ch (I 76) n) 48 57 (s + w) r)), J)) := by
  intro r
  induction r with
  | zero =>
    intro w hir
    refine c_run 2 (pc' := 11) (ls' := [(0, .ref 75), (1, .int (nI D)), (2, .int lo), (3, .int hi), (4, .int (nI w))]) (st' := [.int (nI D), .int (nI w)]) (μ' := ((c_tx I (nI (s + w)) c nm t (p_nu (s_ch (I 76) n) s w)), J)) (Nat.le_of_ble_eq_true rfl) rfl ?_
    refine c_icge 71 (Nat.le_of_ble_eq_true rfl) rfl rfl (fun h1 => ?_) (fun h1 => absurd (nI_le (by omega) (by omega)) h1)
    refine c_w [0, 1, 2, 3, 4] (ls' := [(0, .ref 75), (1, .int (nI D)), (2, .int lo), (3, .int hi), (4, .int (nI w))]) rfl ?_
    exact t_pu_e I J _ c nm t _ D lo hi w (by omega)
  | succ r ih =>
    intro w hir
    refine c_run 2 (pc' := 11) (ls' := [(0, .ref 75), (1, .int (nI D)), (2, .int lo), (3, .int hi), (4, .int (nI w))]) (st' := [.int (nI D), .int (nI w)]) (μ' := ((c_tx I (nI (s + w)) c nm t (p_nu (s_ch (I 76) n) s w)), J)) (Nat.le_of_ble_eq_true rfl) rfl ?_
    refine c_icge 71 (Nat.le_of_ble_eq_true rfl) rfl rfl (fun h1 => absurd h1 (nI_ge (by omega) (by omega))) (fun h1 => ?_)
    refine c_run 3 (pc' := 19) (ls' := [(0, .ref 75), (1, .int (nI D)), (2, .int lo), (3, .int hi), (4, .int (nI w))]) (st' := [.int (nI (s + w)), .ref 75]) (μ' := ((c_tx I (nI (s + w)) c nm t (p_nu (s_ch (I 76) n) s w)), J)) (Nat.le_of_ble_eq_true rfl) rfl ?_
    refine c_cv 47 [.int (nI (s + w))] (b := 75) (r := []) (Nat.le_of_ble_eq_true rfl) rfl rfl rfl rfl rfl rfl (t_chr (c_tx I (nI (s + w)) c nm t (p_nu (s_ch (I 76) n) s w)) J n h0 hn hc (s + w) (by omega)) ?_
    rintro _ _ ⟨rfl, rfl⟩
    show m_W 46 22 [(0, .ref 75), (1, .int (nI D)), (2, .int lo), (3, .int hi), (4, .int (nI w))] [.int (s_ch (I 76) n (s + w))] ((c_tx I (nI (s + w)) c nm t (p_nu (s_ch (I 76) n) s w)), J) _
    refine c_run 2 (pc' := 26) (ls' := [(0, .ref 75), (1, .int (nI D)), (2, .int lo), (3, .int hi), (4, .int (nI w))]) (st' := [.int 57, .int 48, .int (s_ch (I 76) n (s + w))]) (μ' := ((c_tx I (nI (s + w)) c nm t (p_nu (s_ch (I 76) n) s w)), J)) (Nat.le_of_ble_eq_true rfl) rfl ?_
    refine c_cs 35 [.int (s_ch (I 76) n (s + w)), .int 48, .int 57] (r := []) (Nat.le_of_ble_eq_true rfl) rfl (Or.inr ⟨rfl, rfl⟩) rfl rfl rfl (t_isWithin (c_tx I (nI (s + w)) c nm t (p_nu (s_ch (I 76) n) s w)) J (s_ch (I 76) n (s + w)) 48 57) ?_
    rintro _ _ ⟨rfl, rfl⟩
    show m_W 46 29 [(0, .ref 75), (1, .int (nI D)), (2, .int lo), (3, .int hi), (4, .int (nI w))] [.int (s01 ((48 : Int32) ≤ (s_ch (I 76) n (s + w)) ∧ (s_ch (I 76) n (s + w)) ≤ (57 : Int32)))] ((c_tx I (nI (s + w)) c nm t (p_nu (s_ch (I 76) n) s w)), J) _
    refine c_ifeq 71 (Nat.le_of_ble_eq_true rfl) rfl rfl (fun h2 => ?_) (fun h2 => ?_)
    · replace h2 := s01_0.mp h2
      refine c_w [0, 1, 2, 3, 4] (ls' := [(0, .ref 75), (1, .int (nI D)), (2, .int lo), (3, .int hi), (4, .int (nI w))]) rfl ?_
      rw [p_r_z (by assumption)]
      exact t_pu_e I J _ c nm t _ D lo hi w (by omega)
    · replace h2 := s01_1.mp h2
      refine c_run 8 (pc' := 45) (ls' := [(0, .ref 75), (1, .int (nI D)), (2, .int lo), (3, .int hi), (4, .int (nI w))]) (st' := [.int (nI (s + w)), .ref 75, .int ((p_nu (s_ch (I 76) n) s w) * (10 : Int32)), .ref 75]) (μ' := ((c_tx I (nI (s + w)) c nm t (p_nu (s_ch (I 76) n) s w)), J)) (Nat.le_of_ble_eq_true rfl) rfl ?_
      refine c_cv 47 [.int (nI (s + w))] (b := 75) (r := [.int ((p_nu (s_ch (I 76) n) s w) * (10 : Int32)), .ref 75]) (Nat.le_of_ble_eq_true rfl) rfl rfl rfl rfl rfl rfl (t_chr (c_tx I (nI (s + w)) c nm t (p_nu (s_ch (I 76) n) s w)) J n h0 hn hc (s + w) (by omega)) ?_
      rintro _ _ ⟨rfl, rfl⟩
      show m_W 46 48 [(0, .ref 75), (1, .int (nI D)), (2, .int lo), (3, .int hi), (4, .int (nI w))] [.int (s_ch (I 76) n (s + w)), .int ((p_nu (s_ch (I 76) n) s w) * (10 : Int32)), .ref 75] ((c_tx I (nI (s + w)) c nm t (p_nu (s_ch (I 76) n) s w)), J) _
      refine c_run 12 (pc' := 8) (ls' := [(4, .int ((nI w) + (1 : Int32))), (0, .ref 75), (1, .int (nI D)), (2, .int lo), (3, .int hi)]) (st' := []) (μ' := ((m_ui (m_ui (c_tx I (nI (s + w)) c nm t (p_nu (s_ch (I 76) n) s w)) 75 5 (((p_nu (s_ch (I 76) n) s w) * (10 : Int32)) + ((s_ch (I 76) n (s + w)) - (48 : Int32)))) 75 1 ((nI (s + w)) + (1 : Int32))), J)) (Nat.le_of_ble_eq_true rfl) rfl ?_
      refine c_w [1, 2, 3, 4, 0] (ls' := [(0, .ref 75), (1, .int (nI D)), (2, .int lo), (3, .int hi), (4, .int ((nI w) + (1 : Int32)))]) rfl ?_
      rw [c_tx5, c_tx1]
      rw [nI_1 w, show (nI (s + w)) + (1 : Int32) = nI (s + (w + 1)) from nI_1 _]
      have h := ih (w + 1) (by omega)
      rw [p_r_s (by assumption), show w + (p_r (s_ch (I 76) n) 48 57 (s + w + 1) r + 1) = w + 1 + p_r (s_ch (I 76) n) 48 57 (s + (w + 1)) r from by rw [show s + (w + 1) = s + w + 1 by omega]; omega]
      exact h

set_option maxRecDepth 100000 in
theorem t_pu (I : Nat → Nat → Int32) (J : Nat → Nat → Int64) (n : Nat) (h0 : I 75 0 = nI n) (hn : n ≤ 100) (hc : ∀ i, i < n → 32 ≤ I 76 i ∧ I 76 i ≤ 126) (s : Nat) (hs : s < 1000) (c nm t : Int32) (D : Nat) (hD : D ≤ 5) (lo hi : Int32) (nu : Int32) : m_W 46 0 (lv_args 0 [.ref 75, .int (nI D), .int lo, .int hi]) [] ((c_tx I (nI s) c nm t nu), J) (m_E (some (.int (s01 (p_ok (s_ch (I 76) n) s D lo hi)))) (c_tx I (nI (s + p_D (s_ch (I 76) n) s D)) c nm t (p_nu (s_ch (I 76) n) s (p_D (s_ch (I 76) n) s D)), J)) := by
  show m_W 46 0 [(0, .ref 75), (1, .int (nI D)), (2, .int lo), (3, .int hi)] [] ((c_tx I (nI s) c nm t nu), J) _
  refine c_run 5 (pc' := 8) (ls' := [(4, .int 0), (0, .ref 75), (1, .int (nI D)), (2, .int lo), (3, .int hi)]) (st' := []) (μ' := ((m_ui (c_tx I (nI s) c nm t nu) 75 5 0), J)) (Nat.le_of_ble_eq_true rfl) rfl ?_
  refine c_w [1, 2, 3, 4, 0] (ls' := [(0, .ref 75), (1, .int (nI D)), (2, .int lo), (3, .int hi), (4, .int 0)]) rfl ?_
  rw [c_tx5]
  have h := t_pu_l I J n h0 hn hc s hs c nm t D hD lo hi D 0 (by omega)
  rw [show ∀ x, 0 + x = x from Nat.zero_add] at h
  exact h

set_option maxRecDepth 100000 in
theorem t_pt (I : Nat → Nat → Int32) (J : Nat → Nat → Int64) (n : Nat) (h0 : I 75 0 = nI n) (hn : n ≤ 100) (hc : ∀ i, i < n → 32 ≤ I 76 i ∧ I 76 i ≤ 126) (s : Nat) (hs : s < 1000) (c nm t nu : Int32) : m_W 45 0 (lv_args 0 [.ref 75]) [] ((c_tx I (nI s) c nm t nu), J) (m_E (some (.int (s01 (p_ok (s_ch (I 76) n) s 1 0 9)))) (c_tx I (nI (s + p_D (s_ch (I 76) n) s 1)) c nm (p_nu (s_ch (I 76) n) s (p_D (s_ch (I 76) n) s 1)) (p_nu (s_ch (I 76) n) s (p_D (s_ch (I 76) n) s 1)), J)) := by
  show m_W 45 0 [(0, .ref 75)] [] ((c_tx I (nI s) c nm t nu), J) _
  refine c_run 4 (pc' := 5) (ls' := [(0, .ref 75)]) (st' := [.int 9, .int 0, .int 1, .ref 75]) (μ' := ((c_tx I (nI s) c nm t nu), J)) (Nat.le_of_ble_eq_true rfl) rfl ?_
  refine c_cv 46 [.int 1, .int 0, .int 9] (b := 75) (r := []) (Nat.le_of_ble_eq_true rfl) rfl rfl rfl rfl rfl rfl (t_pu I J n h0 hn hc s (by omega) c nm t 1 (by decide) 0 9 nu) ?_
  rintro _ _ ⟨rfl, rfl⟩
  have hD0 : p_D (s_ch (I 76) n) s 1 ≤ 1 := p_r_le (s_ch (I 76) n) 48 57 1 s
  show m_W 45 8 [(0, .ref 75)] [.int (s01 (p_ok (s_ch (I 76) n) s 1 0 9))] ((c_tx I (nI (s + p_D (s_ch (I 76) n) s 1)) c nm t (p_nu (s_ch (I 76) n) s (p_D (s_ch (I 76) n) s 1))), J) _
  refine c_run 6 (pc' := 18) (ls' := [(1, .int (s01 (p_ok (s_ch (I 76) n) s 1 0 9))), (0, .ref 75)]) (st' := [.int (s01 (p_ok (s_ch (I 76) n) s 1 0 9))]) (μ' := ((m_ui (c_tx I (nI (s + p_D (s_ch (I 76) n) s 1)) c nm t (p_nu (s_ch (I 76) n) s (p_D (s_ch (I 76) n) s 1))) 75 4 (p_nu (s_ch (I 76) n) s (p_D (s_ch (I 76) n) s 1))), J)) (Nat.le_of_ble_eq_true rfl) rfl ?_
  refine c_ret (Nat.le_of_ble_eq_true rfl) rfl rfl s01_n ?_
  rw [c_tx4]
  exact ⟨rfl, rfl⟩

set_option maxRecDepth 100000 in
theorem t_pcm (I : Nat → Nat → Int32) (J : Nat → Nat → Int64) (n : Nat) (h0 : I 75 0 = nI n) (hn : n ≤ 100) (hc : ∀ i, i < n → 32 ≤ I 76 i ∧ I 76 i ≤ 126) (s : Nat) (hs : s < 900) (c nm t nu : Int32) : m_W 42 0 (lv_args 0 [.ref 75]) [] ((c_tx I (nI s) c nm t nu), J) (p_Q I J (p_cmd (s_ch (I 76) n) s)) := by
  show m_W 42 0 [(0, .ref 75)] [] ((c_tx I (nI s) c nm t nu), J) _
  refine c_run 2 (pc' := 3) (ls' := [(0, .ref 75)]) (st' := [.ref 1000, .ref 75]) (μ' := ((c_tx I (nI s) c nm t nu), J)) (Nat.le_of_ble_eq_true rfl) rfl ?_
  by_cases hk1 : p_sk (s_ch (I 76) n) s 0
  · skip
    show m_W 42 3 [(0, .ref 75)] [.ref 1000, .ref 75] ((c_tx I (nI s) c nm t nu), J) _
    refine c_cv 43 [.ref 1000] (b := 75) (r := []) (Nat.le_of_ble_eq_true rfl) rfl rfl rfl rfl rfl rfl (t_sky I J n h0 hn hc s (by omega) c nm t nu 0 (by decide) hk1) ?_
    rintro _ _ ⟨rfl, rfl⟩
    show m_W 42 6 [(0, .ref 75)] [.int 1] ((c_tx I (nI (s + 6)) c nm t nu), J) _
    refine c_ifeq 19 (Nat.le_of_ble_eq_true rfl) rfl rfl (fun h2 => absurd h2 (by decide)) (fun h2 => ?_)
    refine c_run 4 (pc' := 15) (ls' := [(0, .ref 75)]) (st' := [.ref 75]) (μ' := ((m_ui (c_tx I (nI (s + 6)) c nm t nu) 75 2 1), J)) (Nat.le_of_ble_eq_true rfl) rfl ?_
    rw [c_tx2]
    show m_W 42 15 [(0, .ref 75)] [.ref 75] ((c_tx I (nI (s + 6)) 1 nm t nu), J) _
    refine c_cv 44 [] (b := 75) (r := []) (Nat.le_of_ble_eq_true rfl) rfl rfl rfl rfl rfl rfl (t_pn I J n h0 hn hc (s + 6) (by omega) 1 t nu nm) ?_
    rintro _ _ ⟨rfl, rfl⟩
    have hL2 : p_L (s_ch (I 76) n) (s + 6) ≤ 6 := p_r_le (s_ch (I 76) n) 97 122 6 (s + 6)
    show m_W 42 18 [(0, .ref 75)] [.int (s01 (0 < p_L (s_ch (I 76) n) (s + 6)))] ((c_tx I (nI ((s + 6) + p_L (s_ch (I 76) n) (s + 6))) 1 (p_nm (s_ch (I 76) n) (s + 6) (p_L (s_ch (I 76) n) (s + 6))) t nu), J) _
    refine c_ret (Nat.le_of_ble_eq_true rfl) rfl rfl s01_n ?_
    by_cases hv : (0 < p_L (s_ch (I 76) n) (s + 6))
    · rw [s01_t hv]
      rw [show p_cmd (s_ch (I 76) n) s = some _ from by unfold p_cmd; rw [if_pos hk1, if_pos hv]]
      exact ⟨rfl, _, _, _, rfl, by intro q; first | rfl | exact absurd q (show ¬ ((1 : Int32) = 1 ∨ (1 : Int32) = 4 ∨ (1 : Int32) = 5 ∨ (1 : Int32) = 6) by decide), by intro q; first | rfl | exact absurd q (show ¬ ((1 : Int32) = 5 ∨ (1 : Int32) = 6 ∨ (1 : Int32) = 7) by decide), by intro q; first | rfl | exact absurd q (show ¬ ((1 : Int32) = 3 ∨ (1 : Int32) = 4 ∨ (1 : Int32) = 7) by decide)⟩
    · rw [s01_f hv]
      rw [show p_cmd (s_ch (I 76) n) s = none from by unfold p_cmd; rw [if_pos hk1, if_neg hv]]
      exact ⟨rfl, _, _, _, _, _, rfl⟩
  · skip
    show m_W 42 3 [(0, .ref 75)] [.ref 1000, .ref 75] ((c_tx I (nI s) c nm t nu), J) _
    refine c_cv 43 [.ref 1000] (b := 75) (r := []) (Nat.le_of_ble_eq_true rfl) rfl rfl rfl rfl rfl rfl (t_skn I J n h0 hn hc s (by omega) c nm t nu 0 (by decide) hk1) ?_
    rintro _ _ ⟨rfl, rfl⟩
    show m_W 42 6 [(0, .ref 75)] [.int 0] ((c_tx I (nI s) c nm t nu), J) _
    refine c_ifeq 19 (Nat.le_of_ble_eq_true rfl) rfl rfl (fun h3 => ?_) (fun h3 => absurd (by decide) h3)
    refine c_run 2 (pc' := 22) (ls' := [(0, .ref 75)]) (st' := [.ref 1001, .ref 75]) (μ' := ((c_tx I (nI s) c nm t nu), J)) (Nat.le_of_ble_eq_true rfl) rfl ?_
    by_cases hk4 : p_sk (s_ch (I 76) n) s 1
    · skip
      show m_W 42 22 [(0, .ref 75)] [.ref 1001, .ref 75] ((c_tx I (nI s) c nm t nu), J) _
      refine c_cv 43 [.ref 1001] (b := 75) (r := []) (Nat.le_of_ble_eq_true rfl) rfl rfl rfl rfl rfl rfl (t_sky I J n h0 hn hc s (by omega) c nm t nu 1 (by decide) hk4) ?_
      rintro _ _ ⟨rfl, rfl⟩
      show m_W 42 25 [(0, .ref 75)] [.int 1] ((c_tx I (nI (s + 4)) c nm t nu), J) _
      refine c_ifeq 35 (Nat.le_of_ble_eq_true rfl) rfl rfl (fun h5 => absurd h5 (by decide)) (fun h5 => ?_)
      refine c_run 4 (pc' := 34) (ls' := [(0, .ref 75)]) (st' := [.int 1]) (μ' := ((m_ui (c_tx I (nI (s + 4)) c nm t nu) 75 2 2), J)) (Nat.le_of_ble_eq_true rfl) rfl ?_
      refine c_ret (Nat.le_of_ble_eq_true rfl) rfl rfl ⟨by decide, rfl⟩ ?_
      rw [c_tx2]
      rw [show p_cmd (s_ch (I 76) n) s = some _ from by unfold p_cmd; rw [if_neg hk1, if_pos hk4]]
      exact ⟨rfl, _, _, _, rfl, by intro q; first | rfl | exact absurd q (show ¬ ((2 : Int32) = 1 ∨ (2 : Int32) = 4 ∨ (2 : Int32) = 5 ∨ (2 : Int32) = 6) by decide), by intro q; first | rfl | exact absurd q (show ¬ ((2 : Int32) = 5 ∨ (2 : Int32) = 6 ∨ (2 : Int32) = 7) by decide), by intro q; first | rfl | exact absurd q (show ¬ ((2 : Int32) = 3 ∨ (2 : Int32) = 4 ∨ (2 : Int32) = 7) by decide)⟩
    · skip
      show m_W 42 22 [(0, .ref 75)] [.ref 1001, .ref 75] ((c_tx I (nI s) c nm t nu), J) _
      refine c_cv 43 [.ref 1001] (b := 75) (r := []) (Nat.le_of_ble_eq_true rfl) rfl rfl rfl rfl rfl rfl (t_skn I J n h0 hn hc s (by omega) c nm t nu 1 (by decide) hk4) ?_
      rintro _ _ ⟨rfl, rfl⟩
      show m_W 42 25 [(0, .ref 75)] [.int 0] ((c_tx I (nI s) c nm t nu), J) _
      refine c_ifeq 35 (Nat.le_of_ble_eq_true rfl) rfl rfl (fun h6 => ?_) (fun h6 => absurd (by decide) h6)
      refine c_run 2 (pc' := 38) (ls' := [(0, .ref 75)]) (st' := [.ref 1002, .ref 75]) (μ' := ((c_tx I (nI s) c nm t nu), J)) (Nat.le_of_ble_eq_true rfl) rfl ?_
      by_cases hk7 : p_sk (s_ch (I 76) n) s 2
      · skip
        show m_W 42 38 [(0, .ref 75)] [.ref 1002, .ref 75] ((c_tx I (nI s) c nm t nu), J) _
        refine c_cv 43 [.ref 1002] (b := 75) (r := []) (Nat.le_of_ble_eq_true rfl) rfl rfl rfl rfl rfl rfl (t_sky I J n h0 hn hc s (by omega) c nm t nu 2 (by decide) hk7) ?_
        rintro _ _ ⟨rfl, rfl⟩
        show m_W 42 41 [(0, .ref 75)] [.int 1] ((c_tx I (nI (s + 5)) c nm t nu), J) _
        refine c_ifeq 59 (Nat.le_of_ble_eq_true rfl) rfl rfl (fun h8 => absurd h8 (by decide)) (fun h8 => ?_)
        refine c_run 7 (pc' := 55) (ls' := [(0, .ref 75)]) (st' := [.int 2000, .int 1, .int 4, .ref 75]) (μ' := ((m_ui (c_tx I (nI (s + 5)) c nm t nu) 75 2 3), J)) (Nat.le_of_ble_eq_true rfl) rfl ?_
        rw [c_tx2]
        show m_W 42 55 [(0, .ref 75)] [.int 2000, .int 1, .int 4, .ref 75] ((c_tx I (nI (s + 5)) 3 nm t nu), J) _
        refine c_cv 46 [.int 4, .int 1, .int 2000] (b := 75) (r := []) (Nat.le_of_ble_eq_true rfl) rfl rfl rfl rfl rfl rfl (t_pu I J n h0 hn hc (s + 5) (by omega) 3 nm t 4 (by decide) 1 2000 nu) ?_
        rintro _ _ ⟨rfl, rfl⟩
        have hD8 : p_D (s_ch (I 76) n) (s + 5) 4 ≤ 4 := p_r_le (s_ch (I 76) n) 48 57 4 (s + 5)
        show m_W 42 58 [(0, .ref 75)] [.int (s01 (p_ok (s_ch (I 76) n) (s + 5) 4 1 2000))] ((c_tx I (nI ((s + 5) + p_D (s_ch (I 76) n) (s + 5) 4)) 3 nm t (p_nu (s_ch (I 76) n) (s + 5) (p_D (s_ch (I 76) n) (s + 5) 4))), J) _
        refine c_ret (Nat.le_of_ble_eq_true rfl) rfl rfl s01_n ?_
        by_cases hv : (p_ok (s_ch (I 76) n) (s + 5) 4 1 2000)
        · rw [s01_t hv]
          rw [show p_cmd (s_ch (I 76) n) s = some _ from by unfold p_cmd; rw [if_neg hk1, if_neg hk4, if_pos hk7, if_pos hv]]
          exact ⟨rfl, _, _, _, rfl, by intro q; first | rfl | exact absurd q (show ¬ ((3 : Int32) = 1 ∨ (3 : Int32) = 4 ∨ (3 : Int32) = 5 ∨ (3 : Int32) = 6) by decide), by intro q; first | rfl | exact absurd q (show ¬ ((3 : Int32) = 5 ∨ (3 : Int32) = 6 ∨ (3 : Int32) = 7) by decide), by intro q; first | rfl | exact absurd q (show ¬ ((3 : Int32) = 3 ∨ (3 : Int32) = 4 ∨ (3 : Int32) = 7) by decide)⟩
        · rw [s01_f hv]
          rw [show p_cmd (s_ch (I 76) n) s = none from by unfold p_cmd; rw [if_neg hk1, if_neg hk4, if_pos hk7, if_neg hv]]
          exact ⟨rfl, _, _, _, _, _, rfl⟩
      · skip
        show m_W 42 38 [(0, .ref 75)] [.ref 1002, .ref 75] ((c_tx I (nI s) c nm t nu), J) _
        refine c_cv 43 [.ref 1002] (b := 75) (r := []) (Nat.le_of_ble_eq_true rfl) rfl rfl rfl rfl rfl rfl (t_skn I J n h0 hn hc s (by omega) c nm t nu 2 (by decide) hk7) ?_
        rintro _ _ ⟨rfl, rfl⟩
        show m_W 42 41 [(0, .ref 75)] [.int 0] ((c_tx I (nI s) c nm t nu), J) _
        refine c_ifeq 59 (Nat.le_of_ble_eq_true rfl) rfl rfl (fun h9 => ?_) (fun h9 => absurd (by decide) h9)
        refine c_run 2 (pc' := 62) (ls' := [(0, .ref 75)]) (st' := [.ref 1003, .ref 75]) (μ' := ((c_tx I (nI s) c nm t nu), J)) (Nat.le_of_ble_eq_true rfl) rfl ?_
        by_cases hk10 : p_sk (s_ch (I 76) n) s 3
        · skip
          show m_W 42 62 [(0, .ref 75)] [.ref 1003, .ref 75] ((c_tx I (nI s) c nm t nu), J) _
          refine c_cv 43 [.ref 1003] (b := 75) (r := []) (Nat.le_of_ble_eq_true rfl) rfl rfl rfl rfl rfl rfl (t_sky I J n h0 hn hc s (by omega) c nm t nu 3 (by decide) hk10) ?_
          rintro _ _ ⟨rfl, rfl⟩
          show m_W 42 65 [(0, .ref 75)] [.int 1] ((c_tx I (nI (s + 5)) c nm t nu), J) _
          refine c_ifeq 107 (Nat.le_of_ble_eq_true rfl) rfl rfl (fun h11 => absurd h11 (by decide)) (fun h11 => ?_)
          refine c_run 4 (pc' := 74) (ls' := [(0, .ref 75)]) (st' := [.ref 75]) (μ' := ((m_ui (c_tx I (nI (s + 5)) c nm t nu) 75 2 4), J)) (Nat.le_of_ble_eq_true rfl) rfl ?_
          rw [c_tx2]
          show m_W 42 74 [(0, .ref 75)] [.ref 75] ((c_tx I (nI (s + 5)) 4 nm t nu), J) _
          refine c_cv 44 [] (b := 75) (r := []) (Nat.le_of_ble_eq_true rfl) rfl rfl rfl rfl rfl rfl (t_pn I J n h0 hn hc (s + 5) (by omega) 4 t nu nm) ?_
          rintro _ _ ⟨rfl, rfl⟩
          have hL11 : p_L (s_ch (I 76) n) (s + 5) ≤ 6 := p_r_le (s_ch (I 76) n) 97 122 6 (s + 5)
          show m_W 42 77 [(0, .ref 75)] [.int (s01 (0 < p_L (s_ch (I 76) n) (s + 5)))] ((c_tx I (nI ((s + 5) + p_L (s_ch (I 76) n) (s + 5))) 4 (p_nm (s_ch (I 76) n) (s + 5) (p_L (s_ch (I 76) n) (s + 5))) t nu), J) _
          refine c_ifeq 105 (Nat.le_of_ble_eq_true rfl) rfl rfl (fun h12 => ?_) (fun h12 => ?_)
          · replace h12 := s01_0.mp h12
            refine c_run 1 (pc' := 106) (ls' := [(0, .ref 75)]) (st' := [.int 0]) (μ' := ((c_tx I (nI ((s + 5) + p_L (s_ch (I 76) n) (s + 5))) 4 (p_nm (s_ch (I 76) n) (s + 5) (p_L (s_ch (I 76) n) (s + 5))) t nu), J)) (Nat.le_of_ble_eq_true rfl) rfl ?_
            refine c_ret (Nat.le_of_ble_eq_true rfl) rfl rfl ⟨by decide, rfl⟩ ?_
            rw [show p_cmd (s_ch (I 76) n) s = none from by unfold p_cmd; rw [if_neg hk1, if_neg hk4, if_neg hk7, if_pos hk10, if_neg h12]]
            exact ⟨rfl, _, _, _, _, _, rfl⟩
          · replace h12 := s01_1.mp h12
            refine c_run 2 (pc' := 83) (ls' := [(0, .ref 75)]) (st' := [.ref 1004, .ref 75]) (μ' := ((c_tx I (nI ((s + 5) + p_L (s_ch (I 76) n) (s + 5))) 4 (p_nm (s_ch (I 76) n) (s + 5) (p_L (s_ch (I 76) n) (s + 5))) t nu), J)) (Nat.le_of_ble_eq_true rfl) rfl ?_
            by_cases hk13 : p_sk (s_ch (I 76) n) ((s + 5) + p_L (s_ch (I 76) n) (s + 5)) 4
            · skip
              show m_W 42 83 [(0, .ref 75)] [.ref 1004, .ref 75] ((c_tx I (nI ((s + 5) + p_L (s_ch (I 76) n) (s + 5))) 4 (p_nm (s_ch (I 76) n) (s + 5) (p_L (s_ch (I 76) n) (s + 5))) t nu), J) _
              refine c_cv 43 [.ref 1004] (b := 75) (r := []) (Nat.le_of_ble_eq_true rfl) rfl rfl rfl rfl rfl rfl (t_sky I J n h0 hn hc ((s + 5) + p_L (s_ch (I 76) n) (s + 5)) (by omega) 4 (p_nm (s_ch (I 76) n) (s + 5) (p_L (s_ch (I 76) n) (s + 5))) t nu 4 (by decide) hk13) ?_
              rintro _ _ ⟨rfl, rfl⟩
              show m_W 42 86 [(0, .ref 75)] [.int 1] ((c_tx I (nI (((s + 5) + p_L (s_ch (I 76) n) (s + 5)) + 1)) 4 (p_nm (s_ch (I 76) n) (s + 5) (p_L (s_ch (I 76) n) (s + 5))) t nu), J) _
              refine c_ifeq 105 (Nat.le_of_ble_eq_true rfl) rfl rfl (fun h14 => absurd h14 (by decide)) (fun h14 => ?_)
              refine c_run 4 (pc' := 95) (ls' := [(0, .ref 75)]) (st' := [.int 2000, .int 1, .int 4, .ref 75]) (μ' := ((c_tx I (nI (((s + 5) + p_L (s_ch (I 76) n) (s + 5)) + 1)) 4 (p_nm (s_ch (I 76) n) (s + 5) (p_L (s_ch (I 76) n) (s + 5))) t nu), J)) (Nat.le_of_ble_eq_true rfl) rfl ?_
              refine c_cv 46 [.int 4, .int 1, .int 2000] (b := 75) (r := []) (Nat.le_of_ble_eq_true rfl) rfl rfl rfl rfl rfl rfl (t_pu I J n h0 hn hc (((s + 5) + p_L (s_ch (I 76) n) (s + 5)) + 1) (by omega) 4 (p_nm (s_ch (I 76) n) (s + 5) (p_L (s_ch (I 76) n) (s + 5))) t 4 (by decide) 1 2000 nu) ?_
              rintro _ _ ⟨rfl, rfl⟩
              have hD14 : p_D (s_ch (I 76) n) (((s + 5) + p_L (s_ch (I 76) n) (s + 5)) + 1) 4 ≤ 4 := p_r_le (s_ch (I 76) n) 48 57 4 (((s + 5) + p_L (s_ch (I 76) n) (s + 5)) + 1)
              show m_W 42 98 [(0, .ref 75)] [.int (s01 (p_ok (s_ch (I 76) n) (((s + 5) + p_L (s_ch (I 76) n) (s + 5)) + 1) 4 1 2000))] ((c_tx I (nI ((((s + 5) + p_L (s_ch (I 76) n) (s + 5)) + 1) + p_D (s_ch (I 76) n) (((s + 5) + p_L (s_ch (I 76) n) (s + 5)) + 1) 4)) 4 (p_nm (s_ch (I 76) n) (s + 5) (p_L (s_ch (I 76) n) (s + 5))) t (p_nu (s_ch (I 76) n) (((s + 5) + p_L (s_ch (I 76) n) (s + 5)) + 1) (p_D (s_ch (I 76) n) (((s + 5) + p_L (s_ch (I 76) n) (s + 5)) + 1) 4))), J) _
              refine c_ifeq 105 (Nat.le_of_ble_eq_true rfl) rfl rfl (fun h15 => ?_) (fun h15 => ?_)
              · replace h15 := s01_0.mp h15
                refine c_run 1 (pc' := 106) (ls' := [(0, .ref 75)]) (st' := [.int 0]) (μ' := ((c_tx I (nI ((((s + 5) + p_L (s_ch (I 76) n) (s + 5)) + 1) + p_D (s_ch (I 76) n) (((s + 5) + p_L (s_ch (I 76) n) (s + 5)) + 1) 4)) 4 (p_nm (s_ch (I 76) n) (s + 5) (p_L (s_ch (I 76) n) (s + 5))) t (p_nu (s_ch (I 76) n) (((s + 5) + p_L (s_ch (I 76) n) (s + 5)) + 1) (p_D (s_ch (I 76) n) (((s + 5) + p_L (s_ch (I 76) n) (s + 5)) + 1) 4))), J)) (Nat.le_of_ble_eq_true rfl) rfl ?_
                refine c_ret (Nat.le_of_ble_eq_true rfl) rfl rfl ⟨by decide, rfl⟩ ?_
                rw [show p_cmd (s_ch (I 76) n) s = none from by unfold p_cmd; rw [if_neg hk1, if_neg hk4, if_neg hk7, if_pos hk10, if_pos h12, if_pos hk13, if_neg h15]]
                exact ⟨rfl, _, _, _, _, _, rfl⟩
              · replace h15 := s01_1.mp h15
                refine c_run 2 (pc' := 106) (ls' := [(0, .ref 75)]) (st' := [.int 1]) (μ' := ((c_tx I (nI ((((s + 5) + p_L (s_ch (I 76) n) (s + 5)) + 1) + p_D (s_ch (I 76) n) (((s + 5) + p_L (s_ch (I 76) n) (s + 5)) + 1) 4)) 4 (p_nm (s_ch (I 76) n) (s + 5) (p_L (s_ch (I 76) n) (s + 5))) t (p_nu (s_ch (I 76) n) (((s + 5) + p_L (s_ch (I 76) n) (s + 5)) + 1) (p_D (s_ch (I 76) n) (((s + 5) + p_L (s_ch (I 76) n) (s + 5)) + 1) 4))), J)) (Nat.le_of_ble_eq_true rfl) rfl ?_
                refine c_ret (Nat.le_of_ble_eq_true rfl) rfl rfl ⟨by decide, rfl⟩ ?_
                rw [show p_cmd (s_ch (I 76) n) s = some _ from by unfold p_cmd; rw [if_neg hk1, if_neg hk4, if_neg hk7, if_pos hk10, if_pos h12, if_pos hk13, if_pos h15]]
                exact ⟨rfl, _, _, _, rfl, by intro q; first | rfl | exact absurd q (show ¬ ((4 : Int32) = 1 ∨ (4 : Int32) = 4 ∨ (4 : Int32) = 5 ∨ (4 : Int32) = 6) by decide), by intro q; first | rfl | exact absurd q (show ¬ ((4 : Int32) = 5 ∨ (4 : Int32) = 6 ∨ (4 : Int32) = 7) by decide), by intro q; first | rfl | exact absurd q (show ¬ ((4 : Int32) = 3 ∨ (4 : Int32) = 4 ∨ (4 : Int32) = 7) by decide)⟩
            · skip
              show m_W 42 83 [(0, .ref 75)] [.ref 1004, .ref 75] ((c_tx I (nI ((s + 5) + p_L (s_ch (I 76) n) (s + 5))) 4 (p_nm (s_ch (I 76) n) (s + 5) (p_L (s_ch (I 76) n) (s + 5))) t nu), J) _
              refine c_cv 43 [.ref 1004] (b := 75) (r := []) (Nat.le_of_ble_eq_true rfl) rfl rfl rfl rfl rfl rfl (t_skn I J n h0 hn hc ((s + 5) + p_L (s_ch (I 76) n) (s + 5)) (by omega) 4 (p_nm (s_ch (I 76) n) (s + 5) (p_L (s_ch (I 76) n) (s + 5))) t nu 4 (by decide) hk13) ?_
              rintro _ _ ⟨rfl, rfl⟩
              show m_W 42 86 [(0, .ref 75)] [.int 0] ((c_tx I (nI ((s + 5) + p_L (s_ch (I 76) n) (s + 5))) 4 (p_nm (s_ch (I 76) n) (s + 5) (p_L (s_ch (I 76) n) (s + 5))) t nu), J) _
              refine c_ifeq 105 (Nat.le_of_ble_eq_true rfl) rfl rfl (fun h16 => ?_) (fun h16 => absurd (by decide) h16)
              refine c_run 1 (pc' := 106) (ls' := [(0, .ref 75)]) (st' := [.int 0]) (μ' := ((c_tx I (nI ((s + 5) + p_L (s_ch (I 76) n) (s + 5))) 4 (p_nm (s_ch (I 76) n) (s + 5) (p_L (s_ch (I 76) n) (s + 5))) t nu), J)) (Nat.le_of_ble_eq_true rfl) rfl ?_
              refine c_ret (Nat.le_of_ble_eq_true rfl) rfl rfl ⟨by decide, rfl⟩ ?_
              rw [show p_cmd (s_ch (I 76) n) s = none from by unfold p_cmd; rw [if_neg hk1, if_neg hk4, if_neg hk7, if_pos hk10, if_pos h12, if_neg hk13]]
              exact ⟨rfl, _, _, _, _, _, rfl⟩
        · skip
          show m_W 42 62 [(0, .ref 75)] [.ref 1003, .ref 75] ((c_tx I (nI s) c nm t nu), J) _
          refine c_cv 43 [.ref 1003] (b := 75) (r := []) (Nat.le_of_ble_eq_true rfl) rfl rfl rfl rfl rfl rfl (t_skn I J n h0 hn hc s (by omega) c nm t nu 3 (by decide) hk10) ?_
          rintro _ _ ⟨rfl, rfl⟩
          show m_W 42 65 [(0, .ref 75)] [.int 0] ((c_tx I (nI s) c nm t nu), J) _
          refine c_ifeq 107 (Nat.le_of_ble_eq_true rfl) rfl rfl (fun h17 => ?_) (fun h17 => absurd (by decide) h17)
          refine c_run 2 (pc' := 110) (ls' := [(0, .ref 75)]) (st' := [.ref 1005, .ref 75]) (μ' := ((c_tx I (nI s) c nm t nu), J)) (Nat.le_of_ble_eq_true rfl) rfl ?_
          by_cases hk18 : p_sk (s_ch (I 76) n) s 5
          · skip
            show m_W 42 110 [(0, .ref 75)] [.ref 1005, .ref 75] ((c_tx I (nI s) c nm t nu), J) _
            refine c_cv 43 [.ref 1005] (b := 75) (r := []) (Nat.le_of_ble_eq_true rfl) rfl rfl rfl rfl rfl rfl (t_sky I J n h0 hn hc s (by omega) c nm t nu 5 (by decide) hk18) ?_
            rintro _ _ ⟨rfl, rfl⟩
            show m_W 42 113 [(0, .ref 75)] [.int 1] ((c_tx I (nI (s + 5)) c nm t nu), J) _
            refine c_ifeq 150 (Nat.le_of_ble_eq_true rfl) rfl rfl (fun h19 => absurd h19 (by decide)) (fun h19 => ?_)
            refine c_run 4 (pc' := 122) (ls' := [(0, .ref 75)]) (st' := [.ref 75]) (μ' := ((m_ui (c_tx I (nI (s + 5)) c nm t nu) 75 2 5), J)) (Nat.le_of_ble_eq_true rfl) rfl ?_
            rw [c_tx2]
            show m_W 42 122 [(0, .ref 75)] [.ref 75] ((c_tx I (nI (s + 5)) 5 nm t nu), J) _
            refine c_cv 44 [] (b := 75) (r := []) (Nat.le_of_ble_eq_true rfl) rfl rfl rfl rfl rfl rfl (t_pn I J n h0 hn hc (s + 5) (by omega) 5 t nu nm) ?_
            rintro _ _ ⟨rfl, rfl⟩
            have hL19 : p_L (s_ch (I 76) n) (s + 5) ≤ 6 := p_r_le (s_ch (I 76) n) 97 122 6 (s + 5)
            show m_W 42 125 [(0, .ref 75)] [.int (s01 (0 < p_L (s_ch (I 76) n) (s + 5)))] ((c_tx I (nI ((s + 5) + p_L (s_ch (I 76) n) (s + 5))) 5 (p_nm (s_ch (I 76) n) (s + 5) (p_L (s_ch (I 76) n) (s + 5))) t nu), J) _
            refine c_ifeq 148 (Nat.le_of_ble_eq_true rfl) rfl rfl (fun h20 => ?_) (fun h20 => ?_)
            · replace h20 := s01_0.mp h20
              refine c_run 1 (pc' := 149) (ls' := [(0, .ref 75)]) (st' := [.int 0]) (μ' := ((c_tx I (nI ((s + 5) + p_L (s_ch (I 76) n) (s + 5))) 5 (p_nm (s_ch (I 76) n) (s + 5) (p_L (s_ch (I 76) n) (s + 5))) t nu), J)) (Nat.le_of_ble_eq_true rfl) rfl ?_
              refine c_ret (Nat.le_of_ble_eq_true rfl) rfl rfl ⟨by decide, rfl⟩ ?_
              rw [show p_cmd (s_ch (I 76) n) s = none from by unfold p_cmd; rw [if_neg hk1, if_neg hk4, if_neg hk7, if_neg hk10, if_pos hk18, if_neg h20]]
              exact ⟨rfl, _, _, _, _, _, rfl⟩
            · replace h20 := s01_1.mp h20
              refine c_run 2 (pc' := 131) (ls' := [(0, .ref 75)]) (st' := [.ref 1004, .ref 75]) (μ' := ((c_tx I (nI ((s + 5) + p_L (s_ch (I 76) n) (s + 5))) 5 (p_nm (s_ch (I 76) n) (s + 5) (p_L (s_ch (I 76) n) (s + 5))) t nu), J)) (Nat.le_of_ble_eq_true rfl) rfl ?_
              by_cases hk21 : p_sk (s_ch (I 76) n) ((s + 5) + p_L (s_ch (I 76) n) (s + 5)) 4
              · skip
                show m_W 42 131 [(0, .ref 75)] [.ref 1004, .ref 75] ((c_tx I (nI ((s + 5) + p_L (s_ch (I 76) n) (s + 5))) 5 (p_nm (s_ch (I 76) n) (s + 5) (p_L (s_ch (I 76) n) (s + 5))) t nu), J) _
                refine c_cv 43 [.ref 1004] (b := 75) (r := []) (Nat.le_of_ble_eq_true rfl) rfl rfl rfl rfl rfl rfl (t_sky I J n h0 hn hc ((s + 5) + p_L (s_ch (I 76) n) (s + 5)) (by omega) 5 (p_nm (s_ch (I 76) n) (s + 5) (p_L (s_ch (I 76) n) (s + 5))) t nu 4 (by decide) hk21) ?_
                rintro _ _ ⟨rfl, rfl⟩
                show m_W 42 134 [(0, .ref 75)] [.int 1] ((c_tx I (nI (((s + 5) + p_L (s_ch (I 76) n) (s + 5)) + 1)) 5 (p_nm (s_ch (I 76) n) (s + 5) (p_L (s_ch (I 76) n) (s + 5))) t nu), J) _
                refine c_ifeq 148 (Nat.le_of_ble_eq_true rfl) rfl rfl (fun h22 => absurd h22 (by decide)) (fun h22 => ?_)
                refine c_run 1 (pc' := 138) (ls' := [(0, .ref 75)]) (st' := [.ref 75]) (μ' := ((c_tx I (nI (((s + 5) + p_L (s_ch (I 76) n) (s + 5)) + 1)) 5 (p_nm (s_ch (I 76) n) (s + 5) (p_L (s_ch (I 76) n) (s + 5))) t nu), J)) (Nat.le_of_ble_eq_true rfl) rfl ?_
                refine c_cv 45 [] (b := 75) (r := []) (Nat.le_of_ble_eq_true rfl) rfl rfl rfl rfl rfl rfl (t_pt I J n h0 hn hc (((s + 5) + p_L (s_ch (I 76) n) (s + 5)) + 1) (by omega) 5 (p_nm (s_ch (I 76) n) (s + 5) (p_L (s_ch (I 76) n) (s + 5))) t nu) ?_
                rintro _ _ ⟨rfl, rfl⟩
                have hT22 : p_D (s_ch (I 76) n) (((s + 5) + p_L (s_ch (I 76) n) (s + 5)) + 1) 1 ≤ 1 := p_r_le (s_ch (I 76) n) 48 57 1 (((s + 5) + p_L (s_ch (I 76) n) (s + 5)) + 1)
                show m_W 42 141 [(0, .ref 75)] [.int (s01 (p_ok (s_ch (I 76) n) (((s + 5) + p_L (s_ch (I 76) n) (s + 5)) + 1) 1 0 9))] ((c_tx I (nI ((((s + 5) + p_L (s_ch (I 76) n) (s + 5)) + 1) + p_D (s_ch (I 76) n) (((s + 5) + p_L (s_ch (I 76) n) (s + 5)) + 1) 1)) 5 (p_nm (s_ch (I 76) n) (s + 5) (p_L (s_ch (I 76) n) (s + 5))) (p_nu (s_ch (I 76) n) (((s + 5) + p_L (s_ch (I 76) n) (s + 5)) + 1) (p_D (s_ch (I 76) n) (((s + 5) + p_L (s_ch (I 76) n) (s + 5)) + 1) 1)) (p_nu (s_ch (I 76) n) (((s + 5) + p_L (s_ch (I 76) n) (s + 5)) + 1) (p_D (s_ch (I 76) n) (((s + 5) + p_L (s_ch (I 76) n) (s + 5)) + 1) 1))), J) _
                refine c_ifeq 148 (Nat.le_of_ble_eq_true rfl) rfl rfl (fun h23 => ?_) (fun h23 => ?_)
                · replace h23 := s01_0.mp h23
                  refine c_run 1 (pc' := 149) (ls' := [(0, .ref 75)]) (st' := [.int 0]) (μ' := ((c_tx I (nI ((((s + 5) + p_L (s_ch (I 76) n) (s + 5)) + 1) + p_D (s_ch (I 76) n) (((s + 5) + p_L (s_ch (I 76) n) (s + 5)) + 1) 1)) 5 (p_nm (s_ch (I 76) n) (s + 5) (p_L (s_ch (I 76) n) (s + 5))) (p_nu (s_ch (I 76) n) (((s + 5) + p_L (s_ch (I 76) n) (s + 5)) + 1) (p_D (s_ch (I 76) n) (((s + 5) + p_L (s_ch (I 76) n) (s + 5)) + 1) 1)) (p_nu (s_ch (I 76) n) (((s + 5) + p_L (s_ch (I 76) n) (s + 5)) + 1) (p_D (s_ch (I 76) n) (((s + 5) + p_L (s_ch (I 76) n) (s + 5)) + 1) 1))), J)) (Nat.le_of_ble_eq_true rfl) rfl ?_
                  refine c_ret (Nat.le_of_ble_eq_true rfl) rfl rfl ⟨by decide, rfl⟩ ?_
                  rw [show p_cmd (s_ch (I 76) n) s = none from by unfold p_cmd; rw [if_neg hk1, if_neg hk4, if_neg hk7, if_neg hk10, if_pos hk18, if_pos h20, if_pos hk21, if_neg h23]]
                  exact ⟨rfl, _, _, _, _, _, rfl⟩
                · replace h23 := s01_1.mp h23
                  refine c_run 2 (pc' := 149) (ls' := [(0, .ref 75)]) (st' := [.int 1]) (μ' := ((c_tx I (nI ((((s + 5) + p_L (s_ch (I 76) n) (s + 5)) + 1) + p_D (s_ch (I 76) n) (((s + 5) + p_L (s_ch (I 76) n) (s + 5)) + 1) 1)) 5 (p_nm (s_ch (I 76) n) (s + 5) (p_L (s_ch (I 76) n) (s + 5))) (p_nu (s_ch (I 76) n) (((s + 5) + p_L (s_ch (I 76) n) (s + 5)) + 1) (p_D (s_ch (I 76) n) (((s + 5) + p_L (s_ch (I 76) n) (s + 5)) + 1) 1)) (p_nu (s_ch (I 76) n) (((s + 5) + p_L (s_ch (I 76) n) (s + 5)) + 1) (p_D (s_ch (I 76) n) (((s + 5) + p_L (s_ch (I 76) n) (s + 5)) + 1) 1))), J)) (Nat.le_of_ble_eq_true rfl) rfl ?_
                  refine c_ret (Nat.le_of_ble_eq_true rfl) rfl rfl ⟨by decide, rfl⟩ ?_
                  rw [show p_cmd (s_ch (I 76) n) s = some _ from by unfold p_cmd; rw [if_neg hk1, if_neg hk4, if_neg hk7, if_neg hk10, if_pos hk18, if_pos h20, if_pos hk21, if_pos h23]]
                  exact ⟨rfl, _, _, _, rfl, by intro q; first | rfl | exact absurd q (show ¬ ((5 : Int32) = 1 ∨ (5 : Int32) = 4 ∨ (5 : Int32) = 5 ∨ (5 : Int32) = 6) by decide), by intro q; first | rfl | exact absurd q (show ¬ ((5 : Int32) = 5 ∨ (5 : Int32) = 6 ∨ (5 : Int32) = 7) by decide), by intro q; first | rfl | exact absurd q (show ¬ ((5 : Int32) = 3 ∨ (5 : Int32) = 4 ∨ (5 : Int32) = 7) by decide)⟩
              · skip
                show m_W 42 131 [(0, .ref 75)] [.ref 1004, .ref 75] ((c_tx I (nI ((s + 5) + p_L (s_ch (I 76) n) (s + 5))) 5 (p_nm (s_ch (I 76) n) (s + 5) (p_L (s_ch (I 76) n) (s + 5))) t nu), J) _
                refine c_cv 43 [.ref 1004] (b := 75) (r := []) (Nat.le_of_ble_eq_true rfl) rfl rfl rfl rfl rfl rfl (t_skn I J n h0 hn hc ((s + 5) + p_L (s_ch (I 76) n) (s + 5)) (by omega) 5 (p_nm (s_ch (I 76) n) (s + 5) (p_L (s_ch (I 76) n) (s + 5))) t nu 4 (by decide) hk21) ?_
                rintro _ _ ⟨rfl, rfl⟩
                show m_W 42 134 [(0, .ref 75)] [.int 0] ((c_tx I (nI ((s + 5) + p_L (s_ch (I 76) n) (s + 5))) 5 (p_nm (s_ch (I 76) n) (s + 5) (p_L (s_ch (I 76) n) (s + 5))) t nu), J) _
                refine c_ifeq 148 (Nat.le_of_ble_eq_true rfl) rfl rfl (fun h24 => ?_) (fun h24 => absurd (by decide) h24)
                refine c_run 1 (pc' := 149) (ls' := [(0, .ref 75)]) (st' := [.int 0]) (μ' := ((c_tx I (nI ((s + 5) + p_L (s_ch (I 76) n) (s + 5))) 5 (p_nm (s_ch (I 76) n) (s + 5) (p_L (s_ch (I 76) n) (s + 5))) t nu), J)) (Nat.le_of_ble_eq_true rfl) rfl ?_
                refine c_ret (Nat.le_of_ble_eq_true rfl) rfl rfl ⟨by decide, rfl⟩ ?_
                rw [show p_cmd (s_ch (I 76) n) s = none from by unfold p_cmd; rw [if_neg hk1, if_neg hk4, if_neg hk7, if_neg hk10, if_pos hk18, if_pos h20, if_neg hk21]]
                exact ⟨rfl, _, _, _, _, _, rfl⟩
          · skip
            show m_W 42 110 [(0, .ref 75)] [.ref 1005, .ref 75] ((c_tx I (nI s) c nm t nu), J) _
            refine c_cv 43 [.ref 1005] (b := 75) (r := []) (Nat.le_of_ble_eq_true rfl) rfl rfl rfl rfl rfl rfl (t_skn I J n h0 hn hc s (by omega) c nm t nu 5 (by decide) hk18) ?_
            rintro _ _ ⟨rfl, rfl⟩
            show m_W 42 113 [(0, .ref 75)] [.int 0] ((c_tx I (nI s) c nm t nu), J) _
            refine c_ifeq 150 (Nat.le_of_ble_eq_true rfl) rfl rfl (fun h25 => ?_) (fun h25 => absurd (by decide) h25)
            refine c_run 2 (pc' := 153) (ls' := [(0, .ref 75)]) (st' := [.ref 1006, .ref 75]) (μ' := ((c_tx I (nI s) c nm t nu), J)) (Nat.le_of_ble_eq_true rfl) rfl ?_
            by_cases hk26 : p_sk (s_ch (I 76) n) s 6
            · skip
              show m_W 42 153 [(0, .ref 75)] [.ref 1006, .ref 75] ((c_tx I (nI s) c nm t nu), J) _
              refine c_cv 43 [.ref 1006] (b := 75) (r := []) (Nat.le_of_ble_eq_true rfl) rfl rfl rfl rfl rfl rfl (t_sky I J n h0 hn hc s (by omega) c nm t nu 6 (by decide) hk26) ?_
              rintro _ _ ⟨rfl, rfl⟩
              show m_W 42 156 [(0, .ref 75)] [.int 1] ((c_tx I (nI (s + 6)) c nm t nu), J) _
              refine c_ifeq 194 (Nat.le_of_ble_eq_true rfl) rfl rfl (fun h27 => absurd h27 (by decide)) (fun h27 => ?_)
              refine c_run 4 (pc' := 166) (ls' := [(0, .ref 75)]) (st' := [.ref 75]) (μ' := ((m_ui (c_tx I (nI (s + 6)) c nm t nu) 75 2 6), J)) (Nat.le_of_ble_eq_true rfl) rfl ?_
              rw [c_tx2]
              show m_W 42 166 [(0, .ref 75)] [.ref 75] ((c_tx I (nI (s + 6)) 6 nm t nu), J) _
              refine c_cv 44 [] (b := 75) (r := []) (Nat.le_of_ble_eq_true rfl) rfl rfl rfl rfl rfl rfl (t_pn I J n h0 hn hc (s + 6) (by omega) 6 t nu nm) ?_
              rintro _ _ ⟨rfl, rfl⟩
              have hL27 : p_L (s_ch (I 76) n) (s + 6) ≤ 6 := p_r_le (s_ch (I 76) n) 97 122 6 (s + 6)
              show m_W 42 169 [(0, .ref 75)] [.int (s01 (0 < p_L (s_ch (I 76) n) (s + 6)))] ((c_tx I (nI ((s + 6) + p_L (s_ch (I 76) n) (s + 6))) 6 (p_nm (s_ch (I 76) n) (s + 6) (p_L (s_ch (I 76) n) (s + 6))) t nu), J) _
              refine c_ifeq 192 (Nat.le_of_ble_eq_true rfl) rfl rfl (fun h28 => ?_) (fun h28 => ?_)
              · replace h28 := s01_0.mp h28
                refine c_run 1 (pc' := 193) (ls' := [(0, .ref 75)]) (st' := [.int 0]) (μ' := ((c_tx I (nI ((s + 6) + p_L (s_ch (I 76) n) (s + 6))) 6 (p_nm (s_ch (I 76) n) (s + 6) (p_L (s_ch (I 76) n) (s + 6))) t nu), J)) (Nat.le_of_ble_eq_true rfl) rfl ?_
                refine c_ret (Nat.le_of_ble_eq_true rfl) rfl rfl ⟨by decide, rfl⟩ ?_
                rw [show p_cmd (s_ch (I 76) n) s = none from by unfold p_cmd; rw [if_neg hk1, if_neg hk4, if_neg hk7, if_neg hk10, if_neg hk18, if_pos hk26, if_neg h28]]
                exact ⟨rfl, _, _, _, _, _, rfl⟩
              · replace h28 := s01_1.mp h28
                refine c_run 2 (pc' := 175) (ls' := [(0, .ref 75)]) (st' := [.ref 1004, .ref 75]) (μ' := ((c_tx I (nI ((s + 6) + p_L (s_ch (I 76) n) (s + 6))) 6 (p_nm (s_ch (I 76) n) (s + 6) (p_L (s_ch (I 76) n) (s + 6))) t nu), J)) (Nat.le_of_ble_eq_true rfl) rfl ?_
                by_cases hk29 : p_sk (s_ch (I 76) n) ((s + 6) + p_L (s_ch (I 76) n) (s + 6)) 4
                · skip
                  show m_W 42 175 [(0, .ref 75)] [.ref 1004, .ref 75] ((c_tx I (nI ((s + 6) + p_L (s_ch (I 76) n) (s + 6))) 6 (p_nm (s_ch (I 76) n) (s + 6) (p_L (s_ch (I 76) n) (s + 6))) t nu), J) _
                  refine c_cv 43 [.ref 1004] (b := 75) (r := []) (Nat.le_of_ble_eq_true rfl) rfl rfl rfl rfl rfl rfl (t_sky I J n h0 hn hc ((s + 6) + p_L (s_ch (I 76) n) (s + 6)) (by omega) 6 (p_nm (s_ch (I 76) n) (s + 6) (p_L (s_ch (I 76) n) (s + 6))) t nu 4 (by decide) hk29) ?_
                  rintro _ _ ⟨rfl, rfl⟩
                  show m_W 42 178 [(0, .ref 75)] [.int 1] ((c_tx I (nI (((s + 6) + p_L (s_ch (I 76) n) (s + 6)) + 1)) 6 (p_nm (s_ch (I 76) n) (s + 6) (p_L (s_ch (I 76) n) (s + 6))) t nu), J) _
                  refine c_ifeq 192 (Nat.le_of_ble_eq_true rfl) rfl rfl (fun h30 => absurd h30 (by decide)) (fun h30 => ?_)
                  refine c_run 1 (pc' := 182) (ls' := [(0, .ref 75)]) (st' := [.ref 75]) (μ' := ((c_tx I (nI (((s + 6) + p_L (s_ch (I 76) n) (s + 6)) + 1)) 6 (p_nm (s_ch (I 76) n) (s + 6) (p_L (s_ch (I 76) n) (s + 6))) t nu), J)) (Nat.le_of_ble_eq_true rfl) rfl ?_
                  refine c_cv 45 [] (b := 75) (r := []) (Nat.le_of_ble_eq_true rfl) rfl rfl rfl rfl rfl rfl (t_pt I J n h0 hn hc (((s + 6) + p_L (s_ch (I 76) n) (s + 6)) + 1) (by omega) 6 (p_nm (s_ch (I 76) n) (s + 6) (p_L (s_ch (I 76) n) (s + 6))) t nu) ?_
                  rintro _ _ ⟨rfl, rfl⟩
                  have hT30 : p_D (s_ch (I 76) n) (((s + 6) + p_L (s_ch (I 76) n) (s + 6)) + 1) 1 ≤ 1 := p_r_le (s_ch (I 76) n) 48 57 1 (((s + 6) + p_L (s_ch (I 76) n) (s + 6)) + 1)
                  show m_W 42 185 [(0, .ref 75)] [.int (s01 (p_ok (s_ch (I 76) n) (((s + 6) + p_L (s_ch (I 76) n) (s + 6)) + 1) 1 0 9))] ((c_tx I (nI ((((s + 6) + p_L (s_ch (I 76) n) (s + 6)) + 1) + p_D (s_ch (I 76) n) (((s + 6) + p_L (s_ch (I 76) n) (s + 6)) + 1) 1)) 6 (p_nm (s_ch (I 76) n) (s + 6) (p_L (s_ch (I 76) n) (s + 6))) (p_nu (s_ch (I 76) n) (((s + 6) + p_L (s_ch (I 76) n) (s + 6)) + 1) (p_D (s_ch (I 76) n) (((s + 6) + p_L (s_ch (I 76) n) (s + 6)) + 1) 1)) (p_nu (s_ch (I 76) n) (((s + 6) + p_L (s_ch (I 76) n) (s + 6)) + 1) (p_D (s_ch (I 76) n) (((s + 6) + p_L (s_ch (I 76) n) (s + 6)) + 1) 1))), J) _
                  refine c_ifeq 192 (Nat.le_of_ble_eq_true rfl) rfl rfl (fun h31 => ?_) (fun h31 => ?_)
                  · replace h31 := s01_0.mp h31
                    refine c_run 1 (pc' := 193) (ls' := [(0, .ref 75)]) (st' := [.int 0]) (μ' := ((c_tx I (nI ((((s + 6) + p_L (s_ch (I 76) n) (s + 6)) + 1) + p_D (s_ch (I 76) n) (((s + 6) + p_L (s_ch (I 76) n) (s + 6)) + 1) 1)) 6 (p_nm (s_ch (I 76) n) (s + 6) (p_L (s_ch (I 76) n) (s + 6))) (p_nu (s_ch (I 76) n) (((s + 6) + p_L (s_ch (I 76) n) (s + 6)) + 1) (p_D (s_ch (I 76) n) (((s + 6) + p_L (s_ch (I 76) n) (s + 6)) + 1) 1)) (p_nu (s_ch (I 76) n) (((s + 6) + p_L (s_ch (I 76) n) (s + 6)) + 1) (p_D (s_ch (I 76) n) (((s + 6) + p_L (s_ch (I 76) n) (s + 6)) + 1) 1))), J)) (Nat.le_of_ble_eq_true rfl) rfl ?_
                    refine c_ret (Nat.le_of_ble_eq_true rfl) rfl rfl ⟨by decide, rfl⟩ ?_
                    rw [show p_cmd (s_ch (I 76) n) s = none from by unfold p_cmd; rw [if_neg hk1, if_neg hk4, if_neg hk7, if_neg hk10, if_neg hk18, if_pos hk26, if_pos h28, if_pos hk29, if_neg h31]]
                    exact ⟨rfl, _, _, _, _, _, rfl⟩
                  · replace h31 := s01_1.mp h31
                    refine c_run 2 (pc' := 193) (ls' := [(0, .ref 75)]) (st' := [.int 1]) (μ' := ((c_tx I (nI ((((s + 6) + p_L (s_ch (I 76) n) (s + 6)) + 1) + p_D (s_ch (I 76) n) (((s + 6) + p_L (s_ch (I 76) n) (s + 6)) + 1) 1)) 6 (p_nm (s_ch (I 76) n) (s + 6) (p_L (s_ch (I 76) n) (s + 6))) (p_nu (s_ch (I 76) n) (((s + 6) + p_L (s_ch (I 76) n) (s + 6)) + 1) (p_D (s_ch (I 76) n) (((s + 6) + p_L (s_ch (I 76) n) (s + 6)) + 1) 1)) (p_nu (s_ch (I 76) n) (((s + 6) + p_L (s_ch (I 76) n) (s + 6)) + 1) (p_D (s_ch (I 76) n) (((s + 6) + p_L (s_ch (I 76) n) (s + 6)) + 1) 1))), J)) (Nat.le_of_ble_eq_true rfl) rfl ?_
                    refine c_ret (Nat.le_of_ble_eq_true rfl) rfl rfl ⟨by decide, rfl⟩ ?_
                    rw [show p_cmd (s_ch (I 76) n) s = some _ from by unfold p_cmd; rw [if_neg hk1, if_neg hk4, if_neg hk7, if_neg hk10, if_neg hk18, if_pos hk26, if_pos h28, if_pos hk29, if_pos h31]]
                    exact ⟨rfl, _, _, _, rfl, by intro q; first | rfl | exact absurd q (show ¬ ((6 : Int32) = 1 ∨ (6 : Int32) = 4 ∨ (6 : Int32) = 5 ∨ (6 : Int32) = 6) by decide), by intro q; first | rfl | exact absurd q (show ¬ ((6 : Int32) = 5 ∨ (6 : Int32) = 6 ∨ (6 : Int32) = 7) by decide), by intro q; first | rfl | exact absurd q (show ¬ ((6 : Int32) = 3 ∨ (6 : Int32) = 4 ∨ (6 : Int32) = 7) by decide)⟩
                · skip
                  show m_W 42 175 [(0, .ref 75)] [.ref 1004, .ref 75] ((c_tx I (nI ((s + 6) + p_L (s_ch (I 76) n) (s + 6))) 6 (p_nm (s_ch (I 76) n) (s + 6) (p_L (s_ch (I 76) n) (s + 6))) t nu), J) _
                  refine c_cv 43 [.ref 1004] (b := 75) (r := []) (Nat.le_of_ble_eq_true rfl) rfl rfl rfl rfl rfl rfl (t_skn I J n h0 hn hc ((s + 6) + p_L (s_ch (I 76) n) (s + 6)) (by omega) 6 (p_nm (s_ch (I 76) n) (s + 6) (p_L (s_ch (I 76) n) (s + 6))) t nu 4 (by decide) hk29) ?_
                  rintro _ _ ⟨rfl, rfl⟩
                  show m_W 42 178 [(0, .ref 75)] [.int 0] ((c_tx I (nI ((s + 6) + p_L (s_ch (I 76) n) (s + 6))) 6 (p_nm (s_ch (I 76) n) (s + 6) (p_L (s_ch (I 76) n) (s + 6))) t nu), J) _
                  refine c_ifeq 192 (Nat.le_of_ble_eq_true rfl) rfl rfl (fun h32 => ?_) (fun h32 => absurd (by decide) h32)
                  refine c_run 1 (pc' := 193) (ls' := [(0, .ref 75)]) (st' := [.int 0]) (μ' := ((c_tx I (nI ((s + 6) + p_L (s_ch (I 76) n) (s + 6))) 6 (p_nm (s_ch (I 76) n) (s + 6) (p_L (s_ch (I 76) n) (s + 6))) t nu), J)) (Nat.le_of_ble_eq_true rfl) rfl ?_
                  refine c_ret (Nat.le_of_ble_eq_true rfl) rfl rfl ⟨by decide, rfl⟩ ?_
                  rw [show p_cmd (s_ch (I 76) n) s = none from by unfold p_cmd; rw [if_neg hk1, if_neg hk4, if_neg hk7, if_neg hk10, if_neg hk18, if_pos hk26, if_pos h28, if_neg hk29]]
                  exact ⟨rfl, _, _, _, _, _, rfl⟩
            · skip
              show m_W 42 153 [(0, .ref 75)] [.ref 1006, .ref 75] ((c_tx I (nI s) c nm t nu), J) _
              refine c_cv 43 [.ref 1006] (b := 75) (r := []) (Nat.le_of_ble_eq_true rfl) rfl rfl rfl rfl rfl rfl (t_skn I J n h0 hn hc s (by omega) c nm t nu 6 (by decide) hk26) ?_
              rintro _ _ ⟨rfl, rfl⟩
              show m_W 42 156 [(0, .ref 75)] [.int 0] ((c_tx I (nI s) c nm t nu), J) _
              refine c_ifeq 194 (Nat.le_of_ble_eq_true rfl) rfl rfl (fun h33 => ?_) (fun h33 => absurd (by decide) h33)
              refine c_run 2 (pc' := 197) (ls' := [(0, .ref 75)]) (st' := [.ref 1007, .ref 75]) (μ' := ((c_tx I (nI s) c nm t nu), J)) (Nat.le_of_ble_eq_true rfl) rfl ?_
              by_cases hk34 : p_sk (s_ch (I 76) n) s 7
              · skip
                show m_W 42 197 [(0, .ref 75)] [.ref 1007, .ref 75] ((c_tx I (nI s) c nm t nu), J) _
                refine c_cv 43 [.ref 1007] (b := 75) (r := []) (Nat.le_of_ble_eq_true rfl) rfl rfl rfl rfl rfl rfl (t_sky I J n h0 hn hc s (by omega) c nm t nu 7 (by decide) hk34) ?_
                rintro _ _ ⟨rfl, rfl⟩
                show m_W 42 200 [(0, .ref 75)] [.int 1] ((c_tx I (nI (s + 5)) c nm t nu), J) _
                refine c_ifeq 243 (Nat.le_of_ble_eq_true rfl) rfl rfl (fun h35 => absurd h35 (by decide)) (fun h35 => ?_)
                refine c_run 4 (pc' := 210) (ls' := [(0, .ref 75)]) (st' := [.ref 75]) (μ' := ((m_ui (c_tx I (nI (s + 5)) c nm t nu) 75 2 7), J)) (Nat.le_of_ble_eq_true rfl) rfl ?_
                rw [c_tx2]
                show m_W 42 210 [(0, .ref 75)] [.ref 75] ((c_tx I (nI (s + 5)) 7 nm t nu), J) _
                refine c_cv 45 [] (b := 75) (r := []) (Nat.le_of_ble_eq_true rfl) rfl rfl rfl rfl rfl rfl (t_pt I J n h0 hn hc (s + 5) (by omega) 7 nm t nu) ?_
                rintro _ _ ⟨rfl, rfl⟩
                have hT35 : p_D (s_ch (I 76) n) (s + 5) 1 ≤ 1 := p_r_le (s_ch (I 76) n) 48 57 1 (s + 5)
                show m_W 42 213 [(0, .ref 75)] [.int (s01 (p_ok (s_ch (I 76) n) (s + 5) 1 0 9))] ((c_tx I (nI ((s + 5) + p_D (s_ch (I 76) n) (s + 5) 1)) 7 nm (p_nu (s_ch (I 76) n) (s + 5) (p_D (s_ch (I 76) n) (s + 5) 1)) (p_nu (s_ch (I 76) n) (s + 5) (p_D (s_ch (I 76) n) (s + 5) 1))), J) _
                refine c_ifeq 241 (Nat.le_of_ble_eq_true rfl) rfl rfl (fun h36 => ?_) (fun h36 => ?_)
                · replace h36 := s01_0.mp h36
                  refine c_run 1 (pc' := 242) (ls' := [(0, .ref 75)]) (st' := [.int 0]) (μ' := ((c_tx I (nI ((s + 5) + p_D (s_ch (I 76) n) (s + 5) 1)) 7 nm (p_nu (s_ch (I 76) n) (s + 5) (p_D (s_ch (I 76) n) (s + 5) 1)) (p_nu (s_ch (I 76) n) (s + 5) (p_D (s_ch (I 76) n) (s + 5) 1))), J)) (Nat.le_of_ble_eq_true rfl) rfl ?_
                  refine c_ret (Nat.le_of_ble_eq_true rfl) rfl rfl ⟨by decide, rfl⟩ ?_
                  rw [show p_cmd (s_ch (I 76) n) s = none from by unfold p_cmd; rw [if_neg hk1, if_neg hk4, if_neg hk7, if_neg hk10, if_neg hk18, if_neg hk26, if_pos hk34, if_neg h36]]
                  exact ⟨rfl, _, _, _, _, _, rfl⟩
                · replace h36 := s01_1.mp h36
                  refine c_run 2 (pc' := 219) (ls' := [(0, .ref 75)]) (st' := [.ref 1004, .ref 75]) (μ' := ((c_tx I (nI ((s + 5) + p_D (s_ch (I 76) n) (s + 5) 1)) 7 nm (p_nu (s_ch (I 76) n) (s + 5) (p_D (s_ch (I 76) n) (s + 5) 1)) (p_nu (s_ch (I 76) n) (s + 5) (p_D (s_ch (I 76) n) (s + 5) 1))), J)) (Nat.le_of_ble_eq_true rfl) rfl ?_
                  by_cases hk37 : p_sk (s_ch (I 76) n) ((s + 5) + p_D (s_ch (I 76) n) (s + 5) 1) 4
                  · skip
                    show m_W 42 219 [(0, .ref 75)] [.ref 1004, .ref 75] ((c_tx I (nI ((s + 5) + p_D (s_ch (I 76) n) (s + 5) 1)) 7 nm (p_nu (s_ch (I 76) n) (s + 5) (p_D (s_ch (I 76) n) (s + 5) 1)) (p_nu (s_ch (I 76) n) (s + 5) (p_D (s_ch (I 76) n) (s + 5) 1))), J) _
                    refine c_cv 43 [.ref 1004] (b := 75) (r := []) (Nat.le_of_ble_eq_true rfl) rfl rfl rfl rfl rfl rfl (t_sky I J n h0 hn hc ((s + 5) + p_D (s_ch (I 76) n) (s + 5) 1) (by omega) 7 nm (p_nu (s_ch (I 76) n) (s + 5) (p_D (s_ch (I 76) n) (s + 5) 1)) (p_nu (s_ch (I 76) n) (s + 5) (p_D (s_ch (I 76) n) (s + 5) 1)) 4 (by decide) hk37) ?_
                    rintro _ _ ⟨rfl, rfl⟩
                    show m_W 42 222 [(0, .ref 75)] [.int 1] ((c_tx I (nI (((s + 5) + p_D (s_ch (I 76) n) (s + 5) 1) + 1)) 7 nm (p_nu (s_ch (I 76) n) (s + 5) (p_D (s_ch (I 76) n) (s + 5) 1)) (p_nu (s_ch (I 76) n) (s + 5) (p_D (s_ch (I 76) n) (s + 5) 1))), J) _
                    refine c_ifeq 241 (Nat.le_of_ble_eq_true rfl) rfl rfl (fun h38 => absurd h38 (by decide)) (fun h38 => ?_)
                    refine c_run 4 (pc' := 231) (ls' := [(0, .ref 75)]) (st' := [.int 10000, .int 0, .int 5, .ref 75]) (μ' := ((c_tx I (nI (((s + 5) + p_D (s_ch (I 76) n) (s + 5) 1) + 1)) 7 nm (p_nu (s_ch (I 76) n) (s + 5) (p_D (s_ch (I 76) n) (s + 5) 1)) (p_nu (s_ch (I 76) n) (s + 5) (p_D (s_ch (I 76) n) (s + 5) 1))), J)) (Nat.le_of_ble_eq_true rfl) rfl ?_
                    refine c_cv 46 [.int 5, .int 0, .int 10000] (b := 75) (r := []) (Nat.le_of_ble_eq_true rfl) rfl rfl rfl rfl rfl rfl (t_pu I J n h0 hn hc (((s + 5) + p_D (s_ch (I 76) n) (s + 5) 1) + 1) (by omega) 7 nm (p_nu (s_ch (I 76) n) (s + 5) (p_D (s_ch (I 76) n) (s + 5) 1)) 5 (by decide) 0 10000 (p_nu (s_ch (I 76) n) (s + 5) (p_D (s_ch (I 76) n) (s + 5) 1))) ?_
                    rintro _ _ ⟨rfl, rfl⟩
                    have hD38 : p_D (s_ch (I 76) n) (((s + 5) + p_D (s_ch (I 76) n) (s + 5) 1) + 1) 5 ≤ 5 := p_r_le (s_ch (I 76) n) 48 57 5 (((s + 5) + p_D (s_ch (I 76) n) (s + 5) 1) + 1)
                    show m_W 42 234 [(0, .ref 75)] [.int (s01 (p_ok (s_ch (I 76) n) (((s + 5) + p_D (s_ch (I 76) n) (s + 5) 1) + 1) 5 0 10000))] ((c_tx I (nI ((((s + 5) + p_D (s_ch (I 76) n) (s + 5) 1) + 1) + p_D (s_ch (I 76) n) (((s + 5) + p_D (s_ch (I 76) n) (s + 5) 1) + 1) 5)) 7 nm (p_nu (s_ch (I 76) n) (s + 5) (p_D (s_ch (I 76) n) (s + 5) 1)) (p_nu (s_ch (I 76) n) (((s + 5) + p_D (s_ch (I 76) n) (s + 5) 1) + 1) (p_D (s_ch (I 76) n) (((s + 5) + p_D (s_ch (I 76) n) (s + 5) 1) + 1) 5))), J) _
                    refine c_ifeq 241 (Nat.le_of_ble_eq_true rfl) rfl rfl (fun h39 => ?_) (fun h39 => ?_)
                    · replace h39 := s01_0.mp h39
                      refine c_run 1 (pc' := 242) (ls' := [(0, .ref 75)]) (st' := [.int 0]) (μ' := ((c_tx I (nI ((((s + 5) + p_D (s_ch (I 76) n) (s + 5) 1) + 1) + p_D (s_ch (I 76) n) (((s + 5) + p_D (s_ch (I 76) n) (s + 5) 1) + 1) 5)) 7 nm (p_nu (s_ch (I 76) n) (s + 5) (p_D (s_ch (I 76) n) (s + 5) 1)) (p_nu (s_ch (I 76) n) (((s + 5) + p_D (s_ch (I 76) n) (s + 5) 1) + 1) (p_D (s_ch (I 76) n) (((s + 5) + p_D (s_ch (I 76) n) (s + 5) 1) + 1) 5))), J)) (Nat.le_of_ble_eq_true rfl) rfl ?_
                      refine c_ret (Nat.le_of_ble_eq_true rfl) rfl rfl ⟨by decide, rfl⟩ ?_
                      rw [show p_cmd (s_ch (I 76) n) s = none from by unfold p_cmd; rw [if_neg hk1, if_neg hk4, if_neg hk7, if_neg hk10, if_neg hk18, if_neg hk26, if_pos hk34, if_pos h36, if_pos hk37, if_neg h39]]
                      exact ⟨rfl, _, _, _, _, _, rfl⟩
                    · replace h39 := s01_1.mp h39
                      refine c_run 2 (pc' := 242) (ls' := [(0, .ref 75)]) (st' := [.int 1]) (μ' := ((c_tx I (nI ((((s + 5) + p_D (s_ch (I 76) n) (s + 5) 1) + 1) + p_D (s_ch (I 76) n) (((s + 5) + p_D (s_ch (I 76) n) (s + 5) 1) + 1) 5)) 7 nm (p_nu (s_ch (I 76) n) (s + 5) (p_D (s_ch (I 76) n) (s + 5) 1)) (p_nu (s_ch (I 76) n) (((s + 5) + p_D (s_ch (I 76) n) (s + 5) 1) + 1) (p_D (s_ch (I 76) n) (((s + 5) + p_D (s_ch (I 76) n) (s + 5) 1) + 1) 5))), J)) (Nat.le_of_ble_eq_true rfl) rfl ?_
                      refine c_ret (Nat.le_of_ble_eq_true rfl) rfl rfl ⟨by decide, rfl⟩ ?_
                      rw [show p_cmd (s_ch (I 76) n) s = some _ from by unfold p_cmd; rw [if_neg hk1, if_neg hk4, if_neg hk7, if_neg hk10, if_neg hk18, if_neg hk26, if_pos hk34, if_pos h36, if_pos hk37, if_pos h39]]
                      exact ⟨rfl, _, _, _, rfl, by intro q; first | rfl | exact absurd q (show ¬ ((7 : Int32) = 1 ∨ (7 : Int32) = 4 ∨ (7 : Int32) = 5 ∨ (7 : Int32) = 6) by decide), by intro q; first | rfl | exact absurd q (show ¬ ((7 : Int32) = 5 ∨ (7 : Int32) = 6 ∨ (7 : Int32) = 7) by decide), by intro q; first | rfl | exact absurd q (show ¬ ((7 : Int32) = 3 ∨ (7 : Int32) = 4 ∨ (7 : Int32) = 7) by decide)⟩
                  · skip
                    show m_W 42 219 [(0, .ref 75)] [.ref 1004, .ref 75] ((c_tx I (nI ((s + 5) + p_D (s_ch (I 76) n) (s + 5) 1)) 7 nm (p_nu (s_ch (I 76) n) (s + 5) (p_D (s_ch (I 76) n) (s + 5) 1)) (p_nu (s_ch (I 76) n) (s + 5) (p_D (s_ch (I 76) n) (s + 5) 1))), J) _
                    refine c_cv 43 [.ref 1004] (b := 75) (r := []) (Nat.le_of_ble_eq_true rfl) rfl rfl rfl rfl rfl rfl (t_skn I J n h0 hn hc ((s + 5) + p_D (s_ch (I 76) n) (s + 5) 1) (by omega) 7 nm (p_nu (s_ch (I 76) n) (s + 5) (p_D (s_ch (I 76) n) (s + 5) 1)) (p_nu (s_ch (I 76) n) (s + 5) (p_D (s_ch (I 76) n) (s + 5) 1)) 4 (by decide) hk37) ?_
                    rintro _ _ ⟨rfl, rfl⟩
                    show m_W 42 222 [(0, .ref 75)] [.int 0] ((c_tx I (nI ((s + 5) + p_D (s_ch (I 76) n) (s + 5) 1)) 7 nm (p_nu (s_ch (I 76) n) (s + 5) (p_D (s_ch (I 76) n) (s + 5) 1)) (p_nu (s_ch (I 76) n) (s + 5) (p_D (s_ch (I 76) n) (s + 5) 1))), J) _
                    refine c_ifeq 241 (Nat.le_of_ble_eq_true rfl) rfl rfl (fun h40 => ?_) (fun h40 => absurd (by decide) h40)
                    refine c_run 1 (pc' := 242) (ls' := [(0, .ref 75)]) (st' := [.int 0]) (μ' := ((c_tx I (nI ((s + 5) + p_D (s_ch (I 76) n) (s + 5) 1)) 7 nm (p_nu (s_ch (I 76) n) (s + 5) (p_D (s_ch (I 76) n) (s + 5) 1)) (p_nu (s_ch (I 76) n) (s + 5) (p_D (s_ch (I 76) n) (s + 5) 1))), J)) (Nat.le_of_ble_eq_true rfl) rfl ?_
                    refine c_ret (Nat.le_of_ble_eq_true rfl) rfl rfl ⟨by decide, rfl⟩ ?_
                    rw [show p_cmd (s_ch (I 76) n) s = none from by unfold p_cmd; rw [if_neg hk1, if_neg hk4, if_neg hk7, if_neg hk10, if_neg hk18, if_neg hk26, if_pos hk34, if_pos h36, if_neg hk37]]
                    exact ⟨rfl, _, _, _, _, _, rfl⟩
              · skip
                show m_W 42 197 [(0, .ref 75)] [.ref 1007, .ref 75] ((c_tx I (nI s) c nm t nu), J) _
                refine c_cv 43 [.ref 1007] (b := 75) (r := []) (Nat.le_of_ble_eq_true rfl) rfl rfl rfl rfl rfl rfl (t_skn I J n h0 hn hc s (by omega) c nm t nu 7 (by decide) hk34) ?_
                rintro _ _ ⟨rfl, rfl⟩
                show m_W 42 200 [(0, .ref 75)] [.int 0] ((c_tx I (nI s) c nm t nu), J) _
                refine c_ifeq 243 (Nat.le_of_ble_eq_true rfl) rfl rfl (fun h41 => ?_) (fun h41 => absurd (by decide) h41)
                refine c_run 1 (pc' := 244) (ls' := [(0, .ref 75)]) (st' := [.int 0]) (μ' := ((c_tx I (nI s) c nm t nu), J)) (Nat.le_of_ble_eq_true rfl) rfl ?_
                refine c_ret (Nat.le_of_ble_eq_true rfl) rfl rfl ⟨by decide, rfl⟩ ?_
                rw [show p_cmd (s_ch (I 76) n) s = none from by unfold p_cmd; rw [if_neg hk1, if_neg hk4, if_neg hk7, if_neg hk10, if_neg hk18, if_neg hk26, if_neg hk34]]
                exact ⟨rfl, _, _, _, _, _, rfl⟩

