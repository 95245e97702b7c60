/-! TEXTS of the model: characters, words, numbers -/
def n_tx (I : Nat → Nat → Int32) (sp cm nf nm fi se nu : Int32) : Nat → Nat → Int32 := m_ci I 77 (fun j => if j = 21 then sp else if j = 22 then cm else if j = 23 then nf else if j = 24 then nm else if j = 25 then fi else if j = 26 then se else if j = 27 then nu else I 77 j)
section NTX
variable {I : Nat → Nat → Int32} {sp cm nf nm fi se nu v : Int32}
theorem n_tx_id : n_tx I (I 77 21) (I 77 22) (I 77 23) (I 77 24) (I 77 25) (I 77 26) (I 77 27) = I := by
  funext x j
  unfold n_tx m_ci
  by_cases hx : x = 77
  · subst hx
    by_cases h1 : j = 21
    · subst h1; simp
    · skip
      by_cases h2 : j = 22
      · subst h2; simp
      · skip
        by_cases h3 : j = 23
        · subst h3; simp
        · skip
          by_cases h4 : j = 24
          · subst h4; simp
          · skip
            by_cases h5 : j = 25
            · subst h5; simp
            · skip
              by_cases h6 : j = 26
              · subst h6; simp
              · skip
                by_cases h7 : j = 27
                · subst h7; simp
                · skip
                  simp [h1, h2, h3, h4, h5, h6, h7]
  · simp [hx]
theorem n_tx_tx {a b c d e f g : Int32} : n_tx (n_tx I sp cm nf nm fi se nu) a b c d e f g = n_tx I a b c d e f g := by
  funext x j
  unfold n_tx m_ci
  by_cases hx : x = 77
  · subst hx
    by_cases h1 : j = 21
    · subst h1; simp
    · skip
      by_cases h2 : j = 22
      · subst h2; simp
      · skip
        by_cases h3 : j = 23
        · subst h3; simp
        · skip
          by_cases h4 : j = 24
          · subst h4; simp
          · skip
            by_cases h5 : j = 25
            · subst h5; simp
            · skip
              by_cases h6 : j = 26
              · subst h6; simp
              · skip
                by_cases h7 : j = 27
                · subst h7; simp
                · skip
                  simp [h1, h2, h3, h4, h5, h6, h7]
  · simp [hx]
theorem n_tx21 : m_ui (n_tx I sp cm nf nm fi se nu) 77 21 v = n_tx I v cm nf nm fi se nu := by
  funext x j
  unfold n_tx m_ci m_ui
  by_cases hx : x = 77 <;> by_cases h1 : j = 21 <;> simp [hx, h1]
theorem n_tx22 : m_ui (n_tx I sp cm nf nm fi se nu) 77 22 v = n_tx I sp v nf nm fi se nu := by
  funext x j
  unfold n_tx m_ci m_ui
  by_cases hx : x = 77 <;> by_cases h1 : j = 22 <;> simp [hx, h1]
theorem n_tx23 : m_ui (n_tx I sp cm nf nm fi se nu) 77 23 v = n_tx I sp cm v nm fi se nu := by
  funext x j
  unfold n_tx m_ci m_ui
  by_cases hx : x = 77 <;> by_cases h1 : j = 23 <;> simp [hx, h1]
theorem n_tx24 : m_ui (n_tx I sp cm nf nm fi se nu) 77 24 v = n_tx I sp cm nf v fi se nu := by
  funext x j
  unfold n_tx m_ci m_ui
  by_cases hx : x = 77 <;> by_cases h1 : j = 24 <;> simp [hx, h1]
theorem n_tx25 : m_ui (n_tx I sp cm nf nm fi se nu) 77 25 v = n_tx I sp cm nf nm v se nu := by
  funext x j
  unfold n_tx m_ci m_ui
  by_cases hx : x = 77 <;> by_cases h1 : j = 25 <;> simp [hx, h1]
theorem n_tx26 : m_ui (n_tx I sp cm nf nm fi se nu) 77 26 v = n_tx I sp cm nf nm fi v nu := by
  funext x j
  unfold n_tx m_ci m_ui
  by_cases hx : x = 77 <;> by_cases h1 : j = 26 <;> simp [hx, h1]
theorem n_tx27 : m_ui (n_tx I sp cm nf nm fi se nu) 77 27 v = n_tx I sp cm nf nm fi se v := by
  funext x j
  unfold n_tx m_ci m_ui
  by_cases hx : x = 77 <;> by_cases h1 : j = 27 <;> simp [hx, h1]
end NTX
abbrev p_W (T : Nat → Int32) (s : Nat) : Nat := p_r T 97 122 s 101
theorem p_r_in {T : Nat → Int32} {a b : Int32} : ∀ {m s i : Nat}, i < p_r T a b s m → a ≤ T (s + i) ∧ T (s + i) ≤ b
  | 0, s, i, h => absurd h (Nat.not_lt_zero i)
  | m + 1, s, i, h => by
    by_cases q : a ≤ T s ∧ T s ≤ b
    · rw [p_r_s q] at h
      cases i with
      | zero => exact q
      | succ i =>
        have := p_r_in (T := T) (a := a) (b := b) (m := m) (s := s + 1) (i := i) (by omega)
        rw [show s + (i + 1) = s + 1 + i by omega]
        exact this
    · rw [p_r_z q] at h; omega
theorem p_r_min {T : Nat → Int32} {a b : Int32} : ∀ {k K s : Nat}, k ≤ K → p_r T a b s k = min k (p_r T a b s K)
  | 0, K, s, _ => by rw [p_r]; omega
  | k + 1, 0, s, h => absurd h (by omega)
  | k + 1, K + 1, s, h => by
    by_cases q : a ≤ T s ∧ T s ≤ b
    · rw [p_r_s q, p_r_s q, p_r_min (K := K) (by omega)]; omega
    · rw [p_r_z q, p_r_z q]; omega
theorem p_r_out {T : Nat → Int32} {a b : Int32} : ∀ {m s : Nat}, p_r T a b s m < m → ¬ (a ≤ T (s + p_r T a b s m) ∧ T (s + p_r T a b s m) ≤ b)
  | 0, s, h => absurd h (Nat.not_lt_zero _)
  | m + 1, s, h => by
    by_cases q : a ≤ T s ∧ T s ≤ b
    · rw [p_r_s q] at h ⊢
      rw [show s + (p_r T a b (s + 1) m + 1) = s + 1 + p_r T a b (s + 1) m by omega]
      exact p_r_out (by omega)
    · rw [p_r_z q]; exact q
theorem s_ch_0 {f : Nat → Int32} {n s : Nat} (h : n ≤ s) : s_ch f n s = 0 := if_neg (by omega)
/-- a word ends within the text -/
theorem p_W_lt {f : Nat → Int32} {n s : Nat} (hn : n ≤ 100) : p_W (s_ch f n) s < 101 := by
  have h := p_r_le (s_ch f n) 97 122 101 s
  rcases Nat.lt_or_ge (p_W (s_ch f n) s) 101 with q | q
  · exact q
  · have := (p_r_in (T := s_ch f n) (a := 97) (b := 122) (m := 101) (s := s) (i := 100) (show 100 < p_W (s_ch f n) s by omega)).1
    rw [s_ch_0 (by omega)] at this
    exact absurd this (by decide)
theorem p_W_n {f : Nat → Int32} {n s : Nat} (hs : s ≤ n) : s + p_W (s_ch f n) s ≤ n := by
  rcases Nat.lt_or_ge n (s + p_W (s_ch f n) s) with q | q
  · have := (p_r_in (T := s_ch f n) (a := 97) (b := 122) (m := 101) (s := s) (i := n - s) (show n - s < p_W (s_ch f n) s by omega)).1
    rw [s_ch_0 (by omega)] at this
    exact absurd this (by decide)
  · exact q
/-- a word's letters as a number, five bits each -/
def cdz (f : Nat → Int32) (s : Nat) : Nat → Nat
  | 0 => 0
  | i + 1 => cdz f s i * 32 + ((f (s + i)).toNatClampNeg - 96)
theorem c_let {x : Int32} (h : 97 ≤ x ∧ x ≤ 122) : ∃ q, 1 ≤ q ∧ q ≤ 26 ∧ x = nI (q + 96) ∧ x.toNatClampNeg = q + 96 := by
  obtain ⟨i, hi, rfl⟩ := k_ix (x := x) (n := 123) ⟨Int32.le_trans (by decide) h.1, Int32.lt_of_le_of_lt h.2 (by decide)⟩ (by omega)
  have h1 := h.1
  rw [Int32.le_iff_toInt_le, nI_toInt (by omega), show (97 : Int32).toInt = 97 from rfl] at h1
  refine ⟨i - 96, by omega, by omega, ?_, ?_⟩
  · rw [show i - 96 + 96 = i by omega]
  · rw [nI_clamp (by omega)]; omega
theorem cdz_b {f : Nat → Int32} {s : Nat} : ∀ {l : Nat}, (∀ k, k < l → 97 ≤ f (s + k) ∧ f (s + k) ≤ 122) → cdz f s l < 32 ^ l
  | 0, _ => by show 0 < 1; omega
  | l + 1, h => by
    have ih := cdz_b (l := l) (fun k hk => h k (by omega))
    obtain ⟨q, h1, h2, h3, h4⟩ := c_let (h l (by omega))
    rw [cdz, h4, Nat.pow_succ]
    omega
theorem c_orN (a b : Nat) : nI a ||| nI b = nI (a ||| b) := (congrArg Int32.ofBitVec (BitVec.ofNat_or (w := 32) (x := a) (y := b))).symm
theorem c_or32 {a d : Nat} (h : d < 32) : (a * 32 ||| d) = a * 32 + d := by
  have := Nat.two_pow_add_eq_or_of_lt (i := 5) (b := d) h a
  rw [show a * 32 = 2 ^ 5 * a by omega]
  exact this.symm
theorem cdz_s {f : Nat → Int32} {s l : Nat} (hl : l < 5) (h : ∀ k, k ≤ l → 97 ≤ f (s + k) ∧ f (s + k) ≤ 122) : nI (cdz f s l) <<< ((5 : Int32) &&& 31) ||| (f (s + l) - 96) = nI (cdz f s (l + 1)) := by
  have b := cdz_b (l := l) (fun k hk => h k (by omega))
  have p : 32 ^ l ≤ 32 ^ 4 := Nat.pow_le_pow_right (by omega) (by omega)
  have p4 : 32 ^ 4 = 1048576 := by decide
  obtain ⟨q, h1, h2, h3, h4⟩ := c_let (h l (by omega))
  rw [cdz, h4, h3, show nI (q + 96) - (96 : Int32) = nI (q + 96) - nI 96 from rfl, pk_sub (by omega), pk_shlN ((5 : Int32) &&& 31) 5 (by decide) (by omega), c_orN, show (2 : Nat) ^ 5 = 32 from rfl, show q + 96 - 96 = q by omega, c_or32 (by omega)]
theorem cdz_i {f g : Nat → Int32} {s t : Nat} : ∀ {l k : Nat}, (∀ j, j < l → 97 ≤ f (s + j) ∧ f (s + j) ≤ 122) → (∀ j, j < k → 97 ≤ g (t + j) ∧ g (t + j) ≤ 122) → cdz f s l = cdz g t k → l = k ∧ ∀ j, j < l → f (s + j) = g (t + j)
  | 0, 0, _, _, _ => ⟨rfl, fun j hj => absurd hj (Nat.not_lt_zero j)⟩
  | 0, k + 1, _, h2, h => by
    exfalso
    obtain ⟨q, h1, h2, h3, h4⟩ := c_let (h2 k (by omega))
    rw [cdz, cdz, h4] at h
    omega
  | l + 1, 0, h1, _, h => by
    exfalso
    obtain ⟨q, h1, h2, h3, h4⟩ := c_let (h1 l (by omega))
    rw [cdz, cdz, h4] at h
    omega
  | l + 1, k + 1, h1, h2, h => by
    obtain ⟨a, a1, a2, a3, a4⟩ := c_let (h1 l (by omega))
    obtain ⟨b, b1, b2, b3, b4⟩ := c_let (h2 k (by omega))
    rw [cdz, cdz, a4, b4] at h
    have e1 : cdz f s l = cdz g t k := by omega
    have e2 : a = b := by omega
    obtain ⟨q, r⟩ := cdz_i (fun j hj => h1 j (by omega)) (fun j hj => h2 j (by omega)) e1
    subst q
    refine ⟨rfl, fun j hj => ?_⟩
    by_cases hjl : j = l
    · subst hjl; rw [a3, b3, e2]
    · exact r j (by omega)
theorem cdz_cg {f g : Nat → Int32} {s t : Nat} : ∀ {l : Nat}, (∀ j, j < l → f (s + j) = g (t + j)) → cdz f s l = cdz g t l
  | 0, _ => rfl
  | l + 1, h => by rw [cdz, cdz, cdz_cg (fun j hj => h j (by omega)), h l (by omega)]
/-- the words of the commands -/
abbrev n_wl : List Nat := [5, 4, 4, 4, 0, 4, 5, 4]
abbrev n_ww (j : Nat) : Nat → Int32 := fun i => (g_sb.getD j []).getD i 0
abbrev n_is (T : Nat → Int32) (s l j : Nat) : Prop := l = n_wl.getD j 0 ∧ ∀ i, i < n_wl.getD j 0 → T (s + i) = n_ww j i
def n_co (T : Nat → Int32) (s l : Nat) : Int32 := if n_is T s l 0 then 0 else if n_is T s l 1 then 1 else if n_is T s l 2 then 2 else if n_is T s l 3 then 3 else if n_is T s l 5 then 4 else if n_is T s l 6 then 5 else if n_is T s l 7 then 6 else -1
theorem n_wwl : ∀ j, j < 8 → ∀ i, i < n_wl.getD j 0 → 97 ≤ n_ww j (0 + i) ∧ n_ww j (0 + i) ≤ 122 := by decide
theorem n_cod {T : Nat → Int32} {s l j : Nat} {w : Int32} (hj : j < 8) (hl : l ≤ 5) (h : ∀ k, k < l → 97 ≤ T (s + k) ∧ T (s + k) ≤ 122) (hw : w = nI (cdz (n_ww j) 0 (n_wl.getD j 0))) (h5 : cdz (n_ww j) 0 (n_wl.getD j 0) < 2147483648) : nI (cdz T s l) = w ↔ n_is T s l j := by
  have b := cdz_b h
  have p : 32 ^ l ≤ 32 ^ 5 := Nat.pow_le_pow_right (by omega) (by omega)
  have p5 : 32 ^ 5 = 33554432 := by decide
  subst hw
  rw [nI_eq (by omega) (by omega)]
  constructor
  · intro q
    obtain ⟨a, c⟩ := cdz_i h (n_wwl j hj) q
    exact ⟨a, fun i hi => by rw [c i (by omega), Nat.zero_add]⟩
  · rintro ⟨a, c⟩
    rw [a]
    exact cdz_cg (fun i hi => by rw [c i hi, Nat.zero_add])

set_option maxRecDepth 100000 in
theorem n_chr (I : Nat → Nat → Int32) (J : Nat → Nat → Int64) (n : Nat) (h0 : I 77 18 = nI n) (hn : n ≤ 100) (s : Nat) (hs : s < 2147483648) : m_W 139 0 (lv_args 0 [.ref 77, .int (nI s)]) [] (I, J) (m_E (some (.int (s_ch (I 93) n s))) (I, J)) := by
  show m_W 139 0 [(0, .ref 77), (1, .int (nI s))] [] (I, J) _
  refine c_run 3 (pc' := 5) (ls' := [(0, .ref 77), (1, .int (nI s))]) (st' := [.int (I 77 18), .int (nI s)]) (μ' := (I, J)) (Nat.le_of_ble_eq_true rfl) rfl ?_
  refine c_icge 17 (Nat.le_of_ble_eq_true rfl) rfl rfl (fun h1 => ?_) (fun h1 => ?_)
  · skip
    refine c_run 1 (pc' := 18) (ls' := [(0, .ref 77), (1, .int (nI s))]) (st' := [.int 0]) (μ' := (I, J)) (Nat.le_of_ble_eq_true rfl) rfl ?_
    refine c_ret (Nat.le_of_ble_eq_true rfl) rfl rfl ⟨by decide, rfl⟩ ?_
    refine ⟨?_, rfl⟩
    unfold s_ch
    first
      | (have hq : s < n := (nI_ltI (a := s) (b := n) (by omega) (by omega)).mp (by rw [← h0]; exact Int32.not_le.mp (by assumption)); rw [if_pos hq]; done)
      | (have hq : ¬ s < n := fun q => absurd (show nI n ≤ nI s by rw [← h0]; assumption) (nI_ge q (by omega)); rw [if_neg hq])
  · skip
    refine c_run 3 (pc' := 13) (ls' := [(0, .ref 77), (1, .int (nI s))]) (st' := [.int (nI s), .ref 93]) (μ' := (I, J)) (Nat.le_of_ble_eq_true rfl) rfl ?_
    refine c_ial s 100 (Nat.le_of_ble_eq_true rfl) rfl rfl rfl rfl rfl (by have := (nI_ltI (a := s) (b := n) (by omega) (by omega)).mp (by rw [← h0]; exact Int32.not_le.mp (by assumption)); omega) ?_
    show m_W 139 14 [(0, .ref 77), (1, .int (nI s))] [.int (I 93 s)] (I, J) _
    refine c_run 1 (pc' := 18) (ls' := [(0, .ref 77), (1, .int (nI s))]) (st' := [.int (I 93 s)]) (μ' := (I, J)) (Nat.le_of_ble_eq_true rfl) rfl ?_
    refine c_ret (Nat.le_of_ble_eq_true rfl) rfl rfl ⟨by decide, rfl⟩ ?_
    refine ⟨?_, rfl⟩
    unfold s_ch
    first
      | (have hq : s < n := (nI_ltI (a := s) (b := n) (by omega) (by omega)).mp (by rw [← h0]; exact Int32.not_le.mp (by assumption)); rw [if_pos hq]; done)
      | (have hq : ¬ s < n := fun q => absurd (show nI n ≤ nI s by rw [← h0]; assumption) (nI_ge q (by omega)); rw [if_neg hq])

theorem n_wk {w K : Nat} (hw : w ≤ 101) (hK : K ≤ 6) : (1 ≤ nI w ∧ nI w ≤ nI K) ↔ (1 ≤ w ∧ w ≤ K) := by
  rw [show (1 : Int32) = nI 1 from rfl, Int32.le_iff_toInt_le, Int32.le_iff_toInt_le, nI_toInt (by omega), nI_toInt (by omega), nI_toInt (by omega)]
  omega
theorem n_sw {s w : Nat} (h : s + w < 2147483648) : nI (s + w) - nI s = nI w := by
  rw [pk_sub (by omega)]
  congr 1
  omega
set_option maxRecDepth 100000 in
theorem n_iw_e (I : Nat → Nat → Int32) (J : Nat → Nat → Int64) (s w : Nat) (hs : s < 1000) (hw : w ≤ 101) (cm nm fi se nu : Int32) (K : Nat) (hK : K ≤ 6)  : m_W 140 42 [(0, .ref 77), (1, .int (nI K))] [] ((n_tx I (nI (s + w)) cm (nI s) nm fi se nu), J) (m_E (some (.int (s01 (1 ≤ w ∧ w ≤ K)))) (n_tx I (nI (s + w)) cm (nI s) (nI w) fi se nu, J)) := by
  refine c_run 13 (pc' := 63) (ls' := [(0, .ref 77), (1, .int (nI K))]) (st' := [.long (((nI K) : Int32).toInt64), .long 1, .long ((((nI (s + w)) - (nI s)) : Int32).toInt64)]) (μ' := ((m_ui (n_tx I (nI (s + w)) cm (nI s) nm fi se nu) 77 24 ((nI (s + w)) - (nI s))), J)) (Nat.le_of_ble_eq_true rfl) rfl ?_
  rw [show (nI (s + w)) - (nI s) = nI w from n_sw (by omega), n_tx24]
  show m_W 140 63 [(0, .ref 77), (1, .int (nI K))] [.long (((nI K) : Int32).toInt64), .long 1, .long (((nI w) : Int32).toInt64)] ((n_tx I (nI (s + w)) cm (nI s) (nI w) fi se nu), J) _
  refine c_cs 95 [.long (((nI w) : Int32).toInt64), .long 1, .long (((nI K) : Int32).toInt64)] (r := []) (Nat.le_of_ble_eq_true rfl) rfl (Or.inl rfl) rfl rfl rfl (t_in32 (n_tx I (nI (s + w)) cm (nI s) (nI w) fi se nu) J (nI w) 1 (nI K)) ?_
  rintro _ _ ⟨rfl, rfl⟩
  rw [s01_c (n_wk (show w ≤ 101 by omega) (show K ≤ 6 by omega))]
  show m_W 140 66 [(0, .ref 77), (1, .int (nI K))] [.int (s01 (1 ≤ w ∧ w ≤ K))] ((n_tx I (nI (s + w)) cm (nI s) (nI w) fi se nu), J) _
  refine c_ret (Nat.le_of_ble_eq_true rfl) rfl rfl s01_n ?_
  exact ⟨rfl, rfl⟩

set_option maxRecDepth 100000 in
theorem n_iw_l (I : Nat → Nat → Int32) (J : Nat → Nat → Int64) (n : Nat) (h0 : I 77 18 = nI n) (hn : n ≤ 100) (s : Nat) (hs : s < 1000) (cm nm fi se nu : Int32) (K : Nat) (hK : K ≤ 6)  : ∀ (r w : Nat), w + r = 101 → (∀ i, i < w → 97 ≤ (s_ch (I 93) n) (s + i) ∧ (s_ch (I 93) n) (s + i) ≤ 122) → m_W 140 8 [(0, .ref 77), (1, .int (nI K))] [] ((n_tx I (nI (s + w)) cm (nI s) nm fi se nu), J) (m_E (some (.int (s01 (1 ≤ w + p_r (s_ch (I 93) n) 97 122 (s + w) r ∧ w + p_r (s_ch (I 93) n) 97 122 (s + w) r ≤ K)))) (n_tx I (nI (s + (w + p_r (s_ch (I 93) n) 97 122 (s + w) r))) cm (nI s) (nI (w + p_r (s_ch (I 93) n) 97 122 (s + w) r)) fi se nu, J)) := by
  intro r
  induction r with
  | zero =>
    intro w hir hall
    exfalso
    have q := (hall 100 (by omega)).1
    rw [s_ch_0 (by omega)] at q
    exact absurd q (by decide)
  | succ r ih =>
    intro w hir hall
    refine c_run 3 (pc' := 13) (ls' := [(0, .ref 77), (1, .int (nI K))]) (st' := [.int (nI (s + w)), .ref 77]) (μ' := ((n_tx I (nI (s + w)) cm (nI s) nm fi se nu), J)) (Nat.le_of_ble_eq_true rfl) rfl ?_
    refine c_cv 139 [.int (nI (s + w))] (b := 77) (r := []) (Nat.le_of_ble_eq_true rfl) rfl rfl rfl rfl rfl rfl (n_chr (n_tx I (nI (s + w)) cm (nI s) nm fi se nu) J n h0 hn (s + w) (by omega)) ?_
    rintro _ _ ⟨rfl, rfl⟩
    show m_W 140 16 [(0, .ref 77), (1, .int (nI K))] [.int (s_ch (I 93) n (s + w))] ((n_tx I (nI (s + w)) cm (nI s) nm fi se nu), J) _
    refine c_run 3 (pc' := 23) (ls' := [(0, .ref 77), (1, .int (nI K))]) (st' := [.long 122, .long 97, .long (((s_ch (I 93) n (s + w)) : Int32).toInt64)]) (μ' := ((n_tx I (nI (s + w)) cm (nI s) nm fi se nu), J)) (Nat.le_of_ble_eq_true rfl) rfl ?_
    refine c_cs 95 [.long (((s_ch (I 93) n (s + w)) : Int32).toInt64), .long 97, .long 122] (r := []) (Nat.le_of_ble_eq_true rfl) rfl (Or.inl rfl) rfl rfl rfl (t_in32 (n_tx I (nI (s + w)) cm (nI s) nm fi se nu) J (s_ch (I 93) n (s + w)) 97 122) ?_
    rintro _ _ ⟨rfl, rfl⟩
    show m_W 140 26 [(0, .ref 77), (1, .int (nI K))] [.int (s01 (97 ≤ (s_ch (I 93) n (s + w)) ∧ (s_ch (I 93) n (s + w)) ≤ 122))] ((n_tx I (nI (s + w)) cm (nI s) nm fi se nu), J) _
    refine c_ifeq 42 (Nat.le_of_ble_eq_true rfl) rfl rfl (fun h1 => ?_) (fun h1 => ?_)
    · replace h1 := s01_0.mp h1
      refine c_w [0, 1] (ls' := [(0, .ref 77), (1, .int (nI K))]) rfl ?_
      rw [p_r_z (by assumption)]
      exact n_iw_e I J s w hs (by omega) cm nm fi se nu K hK
    · replace h1 := s01_1.mp h1
      refine c_run 7 (pc' := 8) (ls' := [(0, .ref 77), (1, .int (nI K))]) (st' := []) (μ' := ((m_ui (n_tx I (nI (s + w)) cm (nI s) nm fi se nu) 77 21 ((nI (s + w)) + (1 : Int32))), J)) (Nat.le_of_ble_eq_true rfl) rfl ?_
      refine c_w [0, 1] (ls' := [(0, .ref 77), (1, .int (nI K))]) rfl ?_
      rw [n_tx21, show (nI (s + w)) + (1 : Int32) = nI (s + (w + 1)) from nI_1 _]
      have h := ih (w + 1) (by omega) (fun i hi => by
        by_cases q : i = w
        · subst q; assumption
        · exact hall i (by omega))
      rw [p_r_s (by assumption), show w + (p_r (s_ch (I 93) n) 97 122 (s + w + 1) r + 1) = w + 1 + p_r (s_ch (I 93) n) 97 122 (s + (w + 1)) r from by rw [show s + (w + 1) = s + w + 1 by omega]; omega]
      exact h

set_option maxRecDepth 100000 in
theorem n_isWord (I : Nat → Nat → Int32) (J : Nat → Nat → Int64) (n : Nat) (h0 : I 77 18 = nI n) (hn : n ≤ 100) (s : Nat) (hs : s < 1000) (cm nf nm fi se nu : Int32) (K : Nat) (hK : K ≤ 6)  : m_W 140 0 (lv_args 0 [.ref 77, .int (nI K)]) [] ((n_tx I (nI s) cm nf nm fi se nu), J) (m_E (some (.int (s01 (1 ≤ (p_W (s_ch (I 93) n) s) ∧ (p_W (s_ch (I 93) n) s) ≤ K)))) (n_tx I (nI (s + (p_W (s_ch (I 93) n) s))) cm (nI s) (nI (p_W (s_ch (I 93) n) s)) fi se nu, J)) := by
  show m_W 140 0 [(0, .ref 77), (1, .int (nI K))] [] ((n_tx I (nI s) cm nf nm fi se nu), J) _
  refine c_run 4 (pc' := 8) (ls' := [(0, .ref 77), (1, .int (nI K))]) (st' := []) (μ' := ((m_ui (n_tx I (nI s) cm nf nm fi se nu) 77 23 (nI s)), J)) (Nat.le_of_ble_eq_true rfl) rfl ?_
  refine c_w [0, 1] (ls' := [(0, .ref 77), (1, .int (nI K))]) rfl ?_
  rw [n_tx23]
  have h := n_iw_l I J n h0 hn s hs cm nm fi se nu K hK 101 0 (by omega) (fun i hi => absurd hi (Nat.not_lt_zero i))
  rw [show ∀ x, 0 + x = x from Nat.zero_add] at h
  exact h

set_option maxRecDepth 100000 in
theorem n_isNext (I : Nat → Nat → Int32) (J : Nat → Nat → Int64) (n : Nat) (h0 : I 77 18 = nI n) (hn : n ≤ 100) (s : Nat) (hs : s < 1000) (cm nf nm fi se nu : Int32) (c : Int32) : m_W 141 0 (lv_args 0 [.ref 77, .int c]) [] ((n_tx I (nI s) cm nf nm fi se nu), J) (m_E (some (.int (s01 ((s_ch (I 93) n) s = c)))) (n_tx I (nI (s + 1)) cm nf nm fi se nu, J)) := by
  show m_W 141 0 [(0, .ref 77), (1, .int c)] [] ((n_tx I (nI s) cm nf nm fi se nu), J) _
  refine c_run 11 (pc' := 17) (ls' := [(0, .ref 77), (1, .int c)]) (st' := [.int (((nI s) + (1 : Int32)) - (1 : Int32)), .ref 77]) (μ' := ((m_ui (n_tx I (nI s) cm nf nm fi se nu) 77 21 ((nI s) + (1 : Int32))), J)) (Nat.le_of_ble_eq_true rfl) rfl ?_
  rw [show ((nI s) + (1 : Int32)) - (1 : Int32) = nI s from Int32.add_sub_cancel _ _]
  refine c_cv 139 [.int (nI s)] (b := 77) (r := []) (Nat.le_of_ble_eq_true rfl) rfl rfl rfl rfl rfl rfl (n_chr (m_ui (n_tx I (nI s) cm nf nm fi se nu) 77 21 ((nI s) + (1 : Int32))) J n h0 hn s (by omega)) ?_
  rintro _ _ ⟨rfl, rfl⟩
  show m_W 141 20 [(0, .ref 77), (1, .int c)] [.int (s_ch (I 93) n s)] ((m_ui (n_tx I (nI s) cm nf nm fi se nu) 77 21 ((nI s) + (1 : Int32))), J) _
  refine c_run 1 (pc' := 21) (ls' := [(0, .ref 77), (1, .int c)]) (st' := [.int c, .int (s_ch (I 93) n s)]) (μ' := ((m_ui (n_tx I (nI s) cm nf nm fi se nu) 77 21 ((nI s) + (1 : Int32))), J)) (Nat.le_of_ble_eq_true rfl) rfl ?_
  refine c_icne 28 (Nat.le_of_ble_eq_true rfl) rfl rfl (fun h1 => ?_) (fun h1 => ?_)
  · skip
    refine c_run 1 (pc' := 29) (ls' := [(0, .ref 77), (1, .int c)]) (st' := [.int 0]) (μ' := ((m_ui (n_tx I (nI s) cm nf nm fi se nu) 77 21 ((nI s) + (1 : Int32))), J)) (Nat.le_of_ble_eq_true rfl) rfl ?_
    refine c_ret (Nat.le_of_ble_eq_true rfl) rfl rfl ⟨by decide, rfl⟩ ?_
    rw [n_tx21, nI_1]
    refine ⟨?_, rfl⟩
    first | exact congrArg (fun z => some (Value.int z)) (s01_t (by assumption)).symm | exact congrArg (fun z => some (Value.int z)) (s01_f (by assumption)).symm
  · skip
    refine c_run 2 (pc' := 29) (ls' := [(0, .ref 77), (1, .int c)]) (st' := [.int 1]) (μ' := ((m_ui (n_tx I (nI s) cm nf nm fi se nu) 77 21 ((nI s) + (1 : Int32))), J)) (Nat.le_of_ble_eq_true rfl) rfl ?_
    refine c_ret (Nat.le_of_ble_eq_true rfl) rfl rfl ⟨by decide, rfl⟩ ?_
    rw [n_tx21, nI_1]
    refine ⟨?_, rfl⟩
    first | exact congrArg (fun z => some (Value.int z)) (s01_t (by assumption)).symm | exact congrArg (fun z => some (Value.int z)) (s01_f (by assumption)).symm

set_option maxRecDepth 100000 in
theorem n_in_e (I : Nat → Nat → Int32) (J : Nat → Nat → Int64) (sp cm nf nm fi se nu : Int32) (D w : Nat) (hD : D ≤ 5) (hw : w ≤ 6) (lo hi : Int32) : m_W 142 74 [(0, .ref 77), (1, .int (nI D)), (2, .int lo), (3, .int hi), (4, .int (nI w))] [] ((n_tx I sp cm nf nm fi se nu), J) (m_E (some (.int (s01 ((1 ≤ w ∧ w ≤ D) ∧ (lo ≤ nu ∧ nu ≤ hi))))) (n_tx I sp cm nf nm fi se nu, J)) := by
  refine c_run 5 (pc' := 80) (ls' := [(0, .ref 77), (1, .int (nI D)), (2, .int lo), (3, .int hi), (4, .int (nI w))]) (st' := [.long (((nI D) : Int32).toInt64), .long 1, .long (((nI w) : Int32).toInt64)]) (μ' := ((n_tx I sp cm nf nm fi se nu), J)) (Nat.le_of_ble_eq_true rfl) rfl ?_
  refine c_cs 95 [.long (((nI w) : Int32).toInt64), .long 1, .long (((nI D) : Int32).toInt64)] (r := []) (Nat.le_of_ble_eq_true rfl) rfl (Or.inl rfl) rfl rfl rfl (t_in32 (n_tx I sp cm nf nm fi se nu) J (nI w) 1 (nI D)) ?_
  rintro _ _ ⟨rfl, rfl⟩
  rw [s01_c (n_wk (show w ≤ 101 by omega) (show D ≤ 6 by omega))]
  show m_W 142 83 [(0, .ref 77), (1, .int (nI D)), (2, .int lo), (3, .int hi), (4, .int (nI w))] [.int (s01 (1 ≤ w ∧ w ≤ D))] ((n_tx I sp cm nf nm fi se nu), J) _
  refine c_ifeq 105 (Nat.le_of_ble_eq_true rfl) rfl rfl (fun h1 => ?_) (fun h1 => ?_)
  · replace h1 := s01_0.mp h1
    refine c_run 1 (pc' := 106) (ls' := [(0, .ref 77), (1, .int (nI D)), (2, .int lo), (3, .int hi), (4, .int (nI w))]) (st' := [.int 0]) (μ' := ((n_tx I sp cm nf nm fi se nu), J)) (Nat.le_of_ble_eq_true rfl) rfl ?_
    refine c_ret (Nat.le_of_ble_eq_true rfl) rfl rfl ⟨by decide, rfl⟩ ?_
    refine ⟨?_, rfl⟩
    first
      | exact congrArg (fun z => some (Value.int z)) (s01_t ⟨by assumption, by assumption⟩).symm
      | exact congrArg (fun z => some (Value.int z)) (s01_f (fun q => absurd q.1 (by assumption))).symm
      | exact congrArg (fun z => some (Value.int z)) (s01_f (fun q => absurd q.2 (by assumption))).symm
  · replace h1 := s01_1.mp h1
    refine c_run 7 (pc' := 95) (ls' := [(0, .ref 77), (1, .int (nI D)), (2, .int lo), (3, .int hi), (4, .int (nI w))]) (st' := [.long ((hi : Int32).toInt64), .long ((lo : Int32).toInt64), .long ((nu : Int32).toInt64)]) (μ' := ((n_tx I sp cm nf nm fi se nu), J)) (Nat.le_of_ble_eq_true rfl) rfl ?_
    refine c_cs 95 [.long ((nu : Int32).toInt64), .long ((lo : Int32).toInt64), .long ((hi : Int32).toInt64)] (r := []) (Nat.le_of_ble_eq_true rfl) rfl (Or.inl rfl) rfl rfl rfl (t_in32 (n_tx I sp cm nf nm fi se nu) J nu lo hi) ?_
    rintro _ _ ⟨rfl, rfl⟩
    show m_W 142 98 [(0, .ref 77), (1, .int (nI D)), (2, .int lo), (3, .int hi), (4, .int (nI w))] [.int (s01 (lo ≤ nu ∧ nu ≤ hi))] ((n_tx I sp cm nf nm fi se nu), J) _
    refine c_ifeq 105 (Nat.le_of_ble_eq_true rfl) rfl rfl (fun h2 => ?_) (fun h2 => ?_)
    · replace h2 := s01_0.mp h2
      refine c_run 1 (pc' := 106) (ls' := [(0, .ref 77), (1, .int (nI D)), (2, .int lo), (3, .int hi), (4, .int (nI w))]) (st' := [.int 0]) (μ' := ((n_tx I sp cm nf nm fi se nu), J)) (Nat.le_of_ble_eq_true rfl) rfl ?_
      refine c_ret (Nat.le_of_ble_eq_true rfl) rfl rfl ⟨by decide, rfl⟩ ?_
      refine ⟨?_, rfl⟩
      first
        | exact congrArg (fun z => some (Value.int z)) (s01_t ⟨by assumption, by assumption⟩).symm
        | exact congrArg (fun z => some (Value.int z)) (s01_f (fun q => absurd q.1 (by assumption))).symm
        | exact congrArg (fun z => some (Value.int z)) (s01_f (fun q => absurd q.2 (by assumption))).symm
    · replace h2 := s01_1.mp h2
      refine c_run 2 (pc' := 106) (ls' := [(0, .ref 77), (1, .int (nI D)), (2, .int lo), (3, .int hi), (4, .int (nI w))]) (st' := [.int 1]) (μ' := ((n_tx I sp cm nf nm fi se nu), J)) (Nat.le_of_ble_eq_true rfl) rfl ?_
      refine c_ret (Nat.le_of_ble_eq_true rfl) rfl rfl ⟨by decide, rfl⟩ ?_
      refine ⟨?_, rfl⟩
      first
        | exact congrArg (fun z => some (Value.int z)) (s01_t ⟨by assumption, by assumption⟩).symm
        | exact congrArg (fun z => some (Value.int z)) (s01_f (fun q => absurd q.1 (by assumption))).symm
        | exact congrArg (fun z => some (Value.int z)) (s01_f (fun q => absurd q.2 (by assumption))).symm

theorem p_nu10 {a b : Int32} : (10 : Int32) * a + b - 48 = a * 10 + (b - 48) := by
  rw [Int32.mul_comm, Int32.sub_eq_add_neg, Int32.sub_eq_add_neg, Int32.add_assoc]
set_option maxRecDepth 100000 in
theorem n_in_l (I : Nat → Nat → Int32) (J : Nat → Nat → Int64) (n : Nat) (h0 : I 77 18 = nI n) (hn : n ≤ 100) (s : Nat) (hs : s < 1000) (cm nf nm fi se : Int32) (D : Nat) (hD : D ≤ 5) (lo hi : Int32)  : ∀ (r w : Nat), w + r = D + 1 → m_W 142 8 [(0, .ref 77), (1, .int (nI D)), (2, .int lo), (3, .int hi), (4, .int (nI w))] [] ((n_tx I (nI (s + w)) cm nf nm fi se (p_nu (s_ch (I 93) n) s w)), J) (m_E (some (.int (s01 ((1 ≤ w + p_r (s_ch (I 93) n) 48 57 (s + w) r ∧ w + p_r (s_ch (I 93) n) 48 57 (s + w) r ≤ D) ∧ (lo ≤ p_nu (s_ch (I 93) n) s (w + p_r (s_ch (I 93) n) 48 57 (s + w) r) ∧ p_nu (s_ch (I 93) n) s (w + p_r (s_ch (I 93) n) 48 57 (s + w) r) ≤ hi))))) (n_tx I (nI (s + (w + p_r (s_ch (I 93) n) 48 57 (s + w) r))) cm nf nm fi se (p_nu (s_ch (I 93) n) s (w + p_r (s_ch (I 93) n) 48 57 (s + w) r)), J)) := by
  intro r
  induction r with
  | zero =>
    intro w hir
    refine c_run 3 (pc' := 13) (ls' := [(0, .ref 77), (1, .int (nI D)), (2, .int lo), (3, .int hi), (4, .int (nI w))]) (st' := [.int (nI (s + w)), .ref 77]) (μ' := ((n_tx I (nI (s + w)) cm nf nm fi se (p_nu (s_ch (I 93) n) s w)), J)) (Nat.le_of_ble_eq_true rfl) rfl ?_
    refine c_cv 139 [.int (nI (s + w))] (b := 77) (r := []) (Nat.le_of_ble_eq_true rfl) rfl rfl rfl rfl rfl rfl (n_chr (n_tx I (nI (s + w)) cm nf nm fi se (p_nu (s_ch (I 93) n) s w)) J n h0 hn (s + w) (by omega)) ?_
    rintro _ _ ⟨rfl, rfl⟩
    show m_W 142 16 [(0, .ref 77), (1, .int (nI D)), (2, .int lo), (3, .int hi), (4, .int (nI w))] [.int (s_ch (I 93) n (s + w))] ((n_tx I (nI (s + w)) cm nf nm fi se (p_nu (s_ch (I 93) n) s w)), J) _
    refine c_run 3 (pc' := 23) (ls' := [(0, .ref 77), (1, .int (nI D)), (2, .int lo), (3, .int hi), (4, .int (nI w))]) (st' := [.long 57, .long 48, .long (((s_ch (I 93) n (s + w)) : Int32).toInt64)]) (μ' := ((n_tx I (nI (s + w)) cm nf nm fi se (p_nu (s_ch (I 93) n) s w)), J)) (Nat.le_of_ble_eq_true rfl) rfl ?_
    refine c_cs 95 [.long (((s_ch (I 93) n (s + w)) : Int32).toInt64), .long 48, .long 57] (r := []) (Nat.le_of_ble_eq_true rfl) rfl (Or.inl rfl) rfl rfl rfl (t_in32 (n_tx I (nI (s + w)) cm nf nm fi se (p_nu (s_ch (I 93) n) s w)) J (s_ch (I 93) n (s + w)) 48 57) ?_
    rintro _ _ ⟨rfl, rfl⟩
    show m_W 142 26 [(0, .ref 77), (1, .int (nI D)), (2, .int lo), (3, .int hi), (4, .int (nI w))] [.int (s01 (48 ≤ (s_ch (I 93) n (s + w)) ∧ (s_ch (I 93) n (s + w)) ≤ 57))] ((n_tx I (nI (s + w)) cm nf nm fi se (p_nu (s_ch (I 93) n) s w)), J) _
    refine c_ifeq 74 (Nat.le_of_ble_eq_true rfl) rfl rfl (fun h1 => ?_) (fun h1 => ?_)
    · replace h1 := s01_0.mp h1
      refine c_w [0, 1, 2, 3, 4] (ls' := [(0, .ref 77), (1, .int (nI D)), (2, .int lo), (3, .int hi), (4, .int (nI w))]) rfl ?_
      rw [show p_r (s_ch (I 93) n) 48 57 (s + w) 0 = 0 from rfl, Nat.add_zero]
      exact n_in_e I J _ cm nf nm fi se _ D w hD (by omega) lo hi
    · replace h1 := s01_1.mp h1
      refine c_run 2 (pc' := 32) (ls' := [(0, .ref 77), (1, .int (nI D)), (2, .int lo), (3, .int hi), (4, .int (nI w))]) (st' := [.int (nI D), .int (nI w)]) (μ' := ((n_tx I (nI (s + w)) cm nf nm fi se (p_nu (s_ch (I 93) n) s w)), J)) (Nat.le_of_ble_eq_true rfl) rfl ?_
      refine c_icgt 74 (Nat.le_of_ble_eq_true rfl) rfl rfl (fun h2 => ?_) (fun h2 => absurd (nI_lt (by omega) (by omega)) h2)
      refine c_w [0, 1, 2, 3, 4] (ls' := [(0, .ref 77), (1, .int (nI D)), (2, .int lo), (3, .int hi), (4, .int (nI w))]) rfl ?_
      rw [show p_r (s_ch (I 93) n) 48 57 (s + w) 0 = 0 from rfl, Nat.add_zero]
      exact n_in_e I J _ cm nf nm fi se _ D w hD (by omega) lo hi
  | succ r ih =>
    intro w hir
    refine c_run 3 (pc' := 13) (ls' := [(0, .ref 77), (1, .int (nI D)), (2, .int lo), (3, .int hi), (4, .int (nI w))]) (st' := [.int (nI (s + w)), .ref 77]) (μ' := ((n_tx I (nI (s + w)) cm nf nm fi se (p_nu (s_ch (I 93) n) s w)), J)) (Nat.le_of_ble_eq_true rfl) rfl ?_
    refine c_cv 139 [.int (nI (s + w))] (b := 77) (r := []) (Nat.le_of_ble_eq_true rfl) rfl rfl rfl rfl rfl rfl (n_chr (n_tx I (nI (s + w)) cm nf nm fi se (p_nu (s_ch (I 93) n) s w)) J n h0 hn (s + w) (by omega)) ?_
    rintro _ _ ⟨rfl, rfl⟩
    show m_W 142 16 [(0, .ref 77), (1, .int (nI D)), (2, .int lo), (3, .int hi), (4, .int (nI w))] [.int (s_ch (I 93) n (s + w))] ((n_tx I (nI (s + w)) cm nf nm fi se (p_nu (s_ch (I 93) n) s w)), J) _
    refine c_run 3 (pc' := 23) (ls' := [(0, .ref 77), (1, .int (nI D)), (2, .int lo), (3, .int hi), (4, .int (nI w))]) (st' := [.long 57, .long 48, .long (((s_ch (I 93) n (s + w)) : Int32).toInt64)]) (μ' := ((n_tx I (nI (s + w)) cm nf nm fi se (p_nu (s_ch (I 93) n) s w)), J)) (Nat.le_of_ble_eq_true rfl) rfl ?_
    refine c_cs 95 [.long (((s_ch (I 93) n (s + w)) : Int32).toInt64), .long 48, .long 57] (r := []) (Nat.le_of_ble_eq_true rfl) rfl (Or.inl rfl) rfl rfl rfl (t_in32 (n_tx I (nI (s + w)) cm nf nm fi se (p_nu (s_ch (I 93) n) s w)) J (s_ch (I 93) n (s + w)) 48 57) ?_
    rintro _ _ ⟨rfl, rfl⟩
    show m_W 142 26 [(0, .ref 77), (1, .int (nI D)), (2, .int lo), (3, .int hi), (4, .int (nI w))] [.int (s01 (48 ≤ (s_ch (I 93) n (s + w)) ∧ (s_ch (I 93) n (s + w)) ≤ 57))] ((n_tx I (nI (s + w)) cm nf nm fi se (p_nu (s_ch (I 93) n) s w)), J) _
    refine c_ifeq 74 (Nat.le_of_ble_eq_true rfl) rfl rfl (fun h1 => ?_) (fun h1 => ?_)
    · replace h1 := s01_0.mp h1
      refine c_w [0, 1, 2, 3, 4] (ls' := [(0, .ref 77), (1, .int (nI D)), (2, .int lo), (3, .int hi), (4, .int (nI w))]) rfl ?_
      rw [p_r_z (by assumption)]
      exact n_in_e I J _ cm nf nm fi se _ D w hD (by omega) lo hi
    · replace h1 := s01_1.mp h1
      refine c_run 2 (pc' := 32) (ls' := [(0, .ref 77), (1, .int (nI D)), (2, .int lo), (3, .int hi), (4, .int (nI w))]) (st' := [.int (nI D), .int (nI w)]) (μ' := ((n_tx I (nI (s + w)) cm nf nm fi se (p_nu (s_ch (I 93) n) s w)), J)) (Nat.le_of_ble_eq_true rfl) rfl ?_
      refine c_icgt 74 (Nat.le_of_ble_eq_true rfl) rfl rfl (fun h2 => absurd h2 (nI_nlt (by omega) (by omega))) (fun h2 => ?_)
      refine c_run 8 (pc' := 48) (ls' := [(0, .ref 77), (1, .int (nI D)), (2, .int lo), (3, .int hi), (4, .int (nI w))]) (st' := [.int (nI (s + w)), .ref 77, .int ((10 : Int32) * (p_nu (s_ch (I 93) n) s w)), .ref 77]) (μ' := ((n_tx I (nI (s + w)) cm nf nm fi se (p_nu (s_ch (I 93) n) s w)), J)) (Nat.le_of_ble_eq_true rfl) rfl ?_
      refine c_cv 139 [.int (nI (s + w))] (b := 77) (r := [.int ((10 : Int32) * (p_nu (s_ch (I 93) n) s w)), .ref 77]) (Nat.le_of_ble_eq_true rfl) rfl rfl rfl rfl rfl rfl (n_chr (n_tx I (nI (s + w)) cm nf nm fi se (p_nu (s_ch (I 93) n) s w)) J n h0 hn (s + w) (by omega)) ?_
      rintro _ _ ⟨rfl, rfl⟩
      show m_W 142 51 [(0, .ref 77), (1, .int (nI D)), (2, .int lo), (3, .int hi), (4, .int (nI w))] [.int (s_ch (I 93) n (s + w)), .int ((10 : Int32) * (p_nu (s_ch (I 93) n) s w)), .ref 77] ((n_tx I (nI (s + w)) cm nf nm fi se (p_nu (s_ch (I 93) n) s w)), J) _
      refine c_run 12 (pc' := 8) (ls' := [(4, .int ((nI w) + (1 : Int32))), (0, .ref 77), (1, .int (nI D)), (2, .int lo), (3, .int hi)]) (st' := []) (μ' := ((m_ui (m_ui (n_tx I (nI (s + w)) cm nf nm fi se (p_nu (s_ch (I 93) n) s w)) 77 27 ((((10 : Int32) * (p_nu (s_ch (I 93) n) s w)) + (s_ch (I 93) n (s + w))) - (48 : Int32))) 77 21 ((nI (s + w)) + (1 : Int32))), J)) (Nat.le_of_ble_eq_true rfl) rfl ?_
      refine c_w [1, 2, 3, 4, 0] (ls' := [(0, .ref 77), (1, .int (nI D)), (2, .int lo), (3, .int hi), (4, .int ((nI w) + (1 : Int32)))]) rfl ?_
      rw [n_tx27, n_tx21, show (nI (s + w)) + (1 : Int32) = nI (s + (w + 1)) from nI_1 _, p_nu10, nI_1 w]
      have h := ih (w + 1) (by omega)
      rw [p_r_s (by assumption), show w + (p_r (s_ch (I 93) n) 48 57 (s + w + 1) r + 1) = w + 1 + p_r (s_ch (I 93) n) 48 57 (s + (w + 1)) r from by rw [show s + (w + 1) = s + w + 1 by omega]; omega]
      exact h

set_option maxRecDepth 100000 in
theorem n_isNumber (I : Nat → Nat → Int32) (J : Nat → Nat → Int64) (n : Nat) (h0 : I 77 18 = nI n) (hn : n ≤ 100) (s : Nat) (hs : s < 1000) (cm nf nm fi se : Int32) (D : Nat) (hD : D ≤ 5) (lo hi : Int32) (nu : Int32) : m_W 142 0 (lv_args 0 [.ref 77, .int (nI D), .int lo, .int hi]) [] ((n_tx I (nI s) cm nf nm fi se nu), J) (m_E (some (.int (s01 ((1 ≤ (p_D (s_ch (I 93) n) s (D + 1)) ∧ (p_D (s_ch (I 93) n) s (D + 1)) ≤ D) ∧ (lo ≤ p_nu (s_ch (I 93) n) s (p_D (s_ch (I 93) n) s (D + 1)) ∧ p_nu (s_ch (I 93) n) s (p_D (s_ch (I 93) n) s (D + 1)) ≤ hi))))) (n_tx I (nI (s + (p_D (s_ch (I 93) n) s (D + 1)))) cm nf nm fi se (p_nu (s_ch (I 93) n) s (p_D (s_ch (I 93) n) s (D + 1))), J)) := by
  show m_W 142 0 [(0, .ref 77), (1, .int (nI D)), (2, .int lo), (3, .int hi)] [] ((n_tx I (nI s) cm nf nm fi se nu), J) _
  refine c_run 5 (pc' := 8) (ls' := [(4, .int 0), (0, .ref 77), (1, .int (nI D)), (2, .int lo), (3, .int hi)]) (st' := []) (μ' := ((m_ui (n_tx I (nI s) cm nf nm fi se nu) 77 27 0), J)) (Nat.le_of_ble_eq_true rfl) rfl ?_
  refine c_w [1, 2, 3, 4, 0] (ls' := [(0, .ref 77), (1, .int (nI D)), (2, .int lo), (3, .int hi), (4, .int 0)]) rfl ?_
  rw [n_tx27]
  have h := n_in_l I J n h0 hn s hs cm nf nm fi se D hD lo hi (D + 1) 0 (by omega)
  rw [show ∀ x, 0 + x = x from Nat.zero_add] at h
  exact h

