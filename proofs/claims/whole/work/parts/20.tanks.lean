/-! TANKS AND ENGINES ADDED, SUMS, THE LEDGER READ -/
theorem k_ltn {x : Int32} {n : Nat} (b : Nat) (hn : x = nI n) (h : x < nI b) (hn2 : n < 2147483648) (hb : b < 2147483648) : n < b := by
  rw [hn] at h
  exact (nI_ltI hn2 hb).mp h
theorem k_ge1 {x : Int32} {p : Nat} (hp : x = nI p) (h : ¬ x ≤ 0) : 1 ≤ p := by
  rcases Nat.eq_zero_or_pos p with q | q
  · subst q; rw [hp] at h; exact absurd (by decide) h
  · exact q
def k_addT (κ : k_M) (n : Nat) (d r : Int32) : Int32 × k_M := if κ.1 1 0 < 4 then (κ.1 1 0 + 1 - 1, (m_ui (m_ui (m_ui κ.1 2 n d) 3 n r) 1 0 (κ.1 1 0 + 1), κ.2)) else (-3, κ)
def k_fill (κ : k_M) (t : Nat) (m u : Int32) : k_M := (κ.1, m_uj (m_uj (m_uj (m_uj κ.2 5 t m.toInt64) 6 t m.toInt64) 7 t m.toInt64) 8 t (u.toInt64 * u.toInt64))
def k_addP2 (κ : k_M) (j p : Nat) (x v : Int32) : Int32 × k_M := if κ.1 (11 + 3 * j) 0 < 8 then (κ.1 (11 + 3 * j) 0 + 1, (m_ui (m_ui (m_ui κ.1 (12 + 3 * j) p x) (13 + 3 * j) p v) (11 + 3 * j) 0 (κ.1 (11 + 3 * j) 0 + 1), κ.2)) else (-3, κ)
def k_addP (κ : k_M) (j p : Nat) (x v : Int32) : Int32 × k_M := if κ.1 (11 + 3 * j) 0 ≤ 0 then k_addP2 κ j p x v else (if x ≤ κ.1 (12 + 3 * j) (p - 1) then (-1, κ) else (if κ.1 (13 + 3 * j) (p - 1) ≤ v then k_addP2 κ j p x v else (-1, κ)))
def k_addE (κ : k_M) (m : Nat) (nm fl un : Int32) : Int32 × k_M := if κ.1 23 0 < 6 then (κ.1 23 0 + 1 - 1, (m_ui (m_ui (m_ui (m_ui (m_ui κ.1 24 m nm) 25 m fl) 26 m un) 27 m 15) 23 0 (κ.1 23 0 + 1), κ.2)) else (-3, κ)
def k_ball (κ : k_M) : Int64 := (((((0 + κ.2 28 0) + κ.2 28 1) + κ.2 28 2) + κ.2 28 3) + κ.2 28 4) + κ.2 28 5
def k_wb (κ : k_M) : Nat → Int32
  | 0 => 0
  | t + 1 => if κ.2 6 t ≤ 0 then k_wb κ t else k_wb κ t ||| (1 : Int32) <<< (nI t &&& 31)
abbrev k_bl1 (κ : k_M) (s : Int32) (t : Nat) : Prop := ((s >>> (nI t &&& 31)) &&& (1 : Int32)) = 1 ∧ κ.2 7 t < (κ.1 3 t).toInt64
def k_bl (κ : k_M) (s : Int32) : Nat → Nat → Int32
  | _, 0 => 0
  | i, r + 1 => if k_bl1 κ s i then 1 else k_bl κ s (i + 1) r
theorem k_bl_01 (κ : k_M) (s : Int32) : ∀ r i, k_bl κ s i r = 0 ∨ k_bl κ s i r = 1
  | 0, _ => Or.inl rfl
  | r + 1, i => by
    rw [k_bl]
    split
    · exact Or.inr rfl
    · exact k_bl_01 κ s r (i + 1)
theorem k_bl_n (κ : k_M) (s : Int32) (r i : Nat) : ¬ FieldType.boolean = .long ∧ narrow .boolean (.int (k_bl κ s i r)) = .int (k_bl κ s i r) := by
  refine ⟨by decide, ?_⟩
  rcases k_bl_01 κ s r i with h | h <;> rw [h] <;> rfl
theorem k_md2 : ∀ l, l < 24 → ∀ i, i < 24 → s_md (nI l - nI i) 24 = nI ((l + 24 - i) % 24) := by decide +kernel
def k_val (κ : k_M) (l : Nat) (x w : Int32) : Int64 := if 0 ≤ x ∧ x < κ.1 30 0 then (if w = 0 then (κ.1 31 ((l + 24 - x.toNatClampNeg) % 24)).toInt64 else (if w = 1 then (κ.1 32 ((l + 24 - x.toNatClampNeg) % 24)).toInt64 else (if w = 2 then (κ.1 33 ((l + 24 - x.toNatClampNeg) % 24)).toInt64 else (if w = 3 then κ.2 34 ((l + 24 - x.toNatClampNeg) % 24) else -1000000000000000000)))) else -1000000000000000000

set_option maxRecDepth 100000 in
theorem t1_addT (I : Nat → Nat → Int32) (J : Nat → Nat → Int64) (d r : Int32) (n : Nat) (hn : (k_sh 1 (I, J)).1 1 0 = nI n) (hn4 : n ≤ 4) : m_W 82 0 (lv_args 0 [.ref 2, .int d, .int r]) [] (I, J) (k_E 1 (I, J) (some (.int (k_addT (k_sh 1 (I, J)) n d r).1)) (k_addT (k_sh 1 (I, J)) n d r).2) := by
  show m_W 82 0 [(0, .ref 2), (1, .int d), (2, .int r)] [] (I, J) _
  refine c_run 3 (pc' := 5) (ls' := [(0, .ref 2), (1, .int d), (2, .int r)]) (st' := [.int 4, .int ((k_sh 1 (I, J)).1 1 0)]) (μ' := (I, J)) (Nat.le_of_ble_eq_true rfl) rfl ?_
  refine c_iclt 11 (Nat.le_of_ble_eq_true rfl) rfl rfl (fun h1 => ?_) (fun h1 => ?_)
  · skip
    refine c_run 5 (pc' := 20) (ls' := [(0, .ref 2), (1, .int d), (2, .int r)]) (st' := [.int d, .int ((k_sh 1 (I, J)).1 1 0), .ref 3]) (μ' := (I, J)) (Nat.le_of_ble_eq_true rfl) rfl ?_
    refine c_ias n 4 (Nat.le_of_ble_eq_true rfl) rfl rfl rfl rfl hn (k_ltn 4 hn (by assumption) (by omega) (by omega)) ?_
    show m_W 82 21 [(0, .ref 2), (1, .int d), (2, .int r)] [] ((m_ui I 3 n d), J) _
    refine c_run 5 (pc' := 30) (ls' := [(0, .ref 2), (1, .int d), (2, .int r)]) (st' := [.int r, .int ((k_sh 1 (I, J)).1 1 0), .ref 4]) (μ' := ((m_ui I 3 n d), J)) (Nat.le_of_ble_eq_true rfl) rfl ?_
    refine c_ias n 4 (Nat.le_of_ble_eq_true rfl) rfl rfl rfl rfl hn (k_ltn 4 hn (by assumption) (by omega) (by omega)) ?_
    show m_W 82 31 [(0, .ref 2), (1, .int d), (2, .int r)] [] ((m_ui (m_ui I 3 n d) 4 n r), J) _
    refine c_run 10 (pc' := 47) (ls' := [(0, .ref 2), (1, .int d), (2, .int r)]) (st' := [.int ((((k_sh 1 (I, J)).1 1 0) + (1 : Int32)) - (1 : Int32))]) (μ' := ((m_ui (m_ui (m_ui I 3 n d) 4 n r) 2 0 (((k_sh 1 (I, J)).1 1 0) + (1 : Int32))), J)) (Nat.le_of_ble_eq_true rfl) rfl ?_
    refine c_ret (Nat.le_of_ble_eq_true rfl) rfl rfl ⟨by decide, rfl⟩ ?_
    refine ⟨?_, ?_, ?_⟩
    · first | rfl | (simp only [k_addT, if_pos h1]; done) | (simp only [k_addT, if_pos h1]; rfl) | (unfold k_addT; rw [if_pos h1]; done) | (unfold k_addT; rw [if_pos h1]; rfl) | (rw [k_ui 1 rfl rfl, k_ui 3 rfl rfl, k_ui 2 rfl rfl]; rfl) | (rw [k_ui 1 rfl rfl, k_ui 3 rfl rfl, k_ui 2 rfl rfl]; simp only [k_addT, if_pos h1]; done) | (rw [k_ui 1 rfl rfl, k_ui 3 rfl rfl, k_ui 2 rfl rfl]; simp only [k_addT, if_pos h1]; rfl) | (rw [k_ui 1 rfl rfl, k_ui 3 rfl rfl, k_ui 2 rfl rfl]; unfold k_addT; rw [if_pos h1]; done) | (rw [k_ui 1 rfl rfl, k_ui 3 rfl rfl, k_ui 2 rfl rfl]; unfold k_addT; rw [if_pos h1]; rfl)
    · rw [k_ui 1 rfl rfl, k_ui 3 rfl rfl, k_ui 2 rfl rfl]
      first | rfl | (simp only [k_addT, if_pos h1]; done) | (simp only [k_addT, if_pos h1]; rfl) | (unfold k_addT; rw [if_pos h1]; done) | (unfold k_addT; rw [if_pos h1]; rfl)
    · exact ((((m_fr.rf).ui rfl rfl).ui rfl rfl).ui rfl rfl)
  · skip
    refine c_run 1 (pc' := 10) (ls' := [(0, .ref 2), (1, .int d), (2, .int r)]) (st' := [.int (-3)]) (μ' := (I, J)) (Nat.le_of_ble_eq_true rfl) rfl ?_
    refine c_ret (Nat.le_of_ble_eq_true rfl) rfl rfl ⟨by decide, rfl⟩ ?_
    refine ⟨?_, ?_, ?_⟩
    · first | rfl | (simp only [k_addT, if_neg h1]; done) | (simp only [k_addT, if_neg h1]; rfl) | (unfold k_addT; rw [if_neg h1]; done) | (unfold k_addT; rw [if_neg h1]; rfl)
    · skip
      first | rfl | (simp only [k_addT, if_neg h1]; done) | (simp only [k_addT, if_neg h1]; rfl) | (unfold k_addT; rw [if_neg h1]; done) | (unfold k_addT; rw [if_neg h1]; rfl)
    · exact (m_fr.rf)

set_option maxRecDepth 100000 in
theorem t1_fill (I : Nat → Nat → Int32) (J : Nat → Nat → Int64) (t : Nat) (ht : t < 4) (m u : Int32) : m_W 83 0 (lv_args 0 [.ref 2, .int (nI t), .int m, .int u]) [] (I, J) (k_E 1 (I, J) none (k_fill (k_sh 1 (I, J)) t m u)) := by
  show m_W 83 0 [(0, .ref 2), (1, .int (nI t)), (2, .int m), (3, .int u)] [] (I, J) _
  refine c_run 5 (pc' := 7) (ls' := [(0, .ref 2), (1, .int (nI t)), (2, .int m), (3, .int u)]) (st' := [.long ((m : Int32).toInt64), .int (nI t), .ref 6]) (μ' := (I, J)) (Nat.le_of_ble_eq_true rfl) rfl ?_
  refine c_las t 4 (Nat.le_of_ble_eq_true rfl) rfl rfl rfl rfl rfl ht ?_
  show m_W 83 8 [(0, .ref 2), (1, .int (nI t)), (2, .int m), (3, .int u)] [] (I, (m_uj J 6 t ((m : Int32).toInt64))) _
  refine c_run 5 (pc' := 15) (ls' := [(0, .ref 2), (1, .int (nI t)), (2, .int m), (3, .int u)]) (st' := [.long ((m : Int32).toInt64), .int (nI t), .ref 7]) (μ' := (I, (m_uj J 6 t ((m : Int32).toInt64)))) (Nat.le_of_ble_eq_true rfl) rfl ?_
  refine c_las t 4 (Nat.le_of_ble_eq_true rfl) rfl rfl rfl rfl rfl ht ?_
  show m_W 83 16 [(0, .ref 2), (1, .int (nI t)), (2, .int m), (3, .int u)] [] (I, (m_uj (m_uj J 6 t ((m : Int32).toInt64)) 7 t ((m : Int32).toInt64))) _
  refine c_run 5 (pc' := 23) (ls' := [(0, .ref 2), (1, .int (nI t)), (2, .int m), (3, .int u)]) (st' := [.long ((m : Int32).toInt64), .int (nI t), .ref 8]) (μ' := (I, (m_uj (m_uj J 6 t ((m : Int32).toInt64)) 7 t ((m : Int32).toInt64)))) (Nat.le_of_ble_eq_true rfl) rfl ?_
  refine c_las t 4 (Nat.le_of_ble_eq_true rfl) rfl rfl rfl rfl rfl ht ?_
  show m_W 83 24 [(0, .ref 2), (1, .int (nI t)), (2, .int m), (3, .int u)] [] (I, (m_uj (m_uj (m_uj J 6 t ((m : Int32).toInt64)) 7 t ((m : Int32).toInt64)) 8 t ((m : Int32).toInt64))) _
  refine c_run 8 (pc' := 34) (ls' := [(0, .ref 2), (1, .int (nI t)), (2, .int m), (3, .int u)]) (st' := [.long (((u : Int32).toInt64) * ((u : Int32).toInt64)), .int (nI t), .ref 9]) (μ' := (I, (m_uj (m_uj (m_uj J 6 t ((m : Int32).toInt64)) 7 t ((m : Int32).toInt64)) 8 t ((m : Int32).toInt64)))) (Nat.le_of_ble_eq_true rfl) rfl ?_
  refine c_las t 4 (Nat.le_of_ble_eq_true rfl) rfl rfl rfl rfl rfl ht ?_
  show m_W 83 35 [(0, .ref 2), (1, .int (nI t)), (2, .int m), (3, .int u)] [] (I, (m_uj (m_uj (m_uj (m_uj J 6 t ((m : Int32).toInt64)) 7 t ((m : Int32).toInt64)) 8 t ((m : Int32).toInt64)) 9 t (((u : Int32).toInt64) * ((u : Int32).toInt64)))) _
  refine c_vret (Nat.le_of_ble_eq_true rfl) rfl rfl ?_
  refine ⟨?_, ?_, ?_⟩
  · exact rfl
  · rw [k_uj 8 rfl rfl, k_uj 7 rfl rfl, k_uj 6 rfl rfl, k_uj 5 rfl rfl]
    all_goals rfl
  · exact (((((m_fr.rf).uj rfl rfl).uj rfl rfl).uj rfl rfl).uj rfl rfl)

set_option maxRecDepth 100000 in
theorem t1_addP0 (I : Nat → Nat → Int32) (J : Nat → Nat → Int64) (x v : Int32) (p : Nat) (hp : (k_sh 1 (I, J)).1 11 0 = nI p) (hp8 : p ≤ 8) : m_W 75 0 (lv_args 0 [.ref 12, .int x, .int v]) [] (I, J) (k_E 1 (I, J) (some (.int (k_addP (k_sh 1 (I, J)) 0 p x v).1)) (k_addP (k_sh 1 (I, J)) 0 p x v).2) := by
  show m_W 75 0 [(0, .ref 12), (1, .int x), (2, .int v)] [] (I, J) _
  refine c_run 2 (pc' := 4) (ls' := [(0, .ref 12), (1, .int x), (2, .int v)]) (st' := [.int ((k_sh 1 (I, J)).1 11 0)]) (μ' := (I, J)) (Nat.le_of_ble_eq_true rfl) rfl ?_
  refine c_ifle 39 (Nat.le_of_ble_eq_true rfl) rfl rfl (fun h1 => ?_) (fun h1 => ?_)
  · skip
    refine c_run 3 (pc' := 45) (ls' := [(0, .ref 12), (1, .int x), (2, .int v)]) (st' := [.int 8, .int ((k_sh 1 (I, J)).1 11 0)]) (μ' := (I, J)) (Nat.le_of_ble_eq_true rfl) rfl ?_
    refine c_iclt 51 (Nat.le_of_ble_eq_true rfl) rfl rfl (fun h2 => ?_) (fun h2 => ?_)
    · skip
      refine c_run 5 (pc' := 60) (ls' := [(0, .ref 12), (1, .int x), (2, .int v)]) (st' := [.int x, .int ((k_sh 1 (I, J)).1 11 0), .ref 13]) (μ' := (I, J)) (Nat.le_of_ble_eq_true rfl) rfl ?_
      refine c_ias p 8 (Nat.le_of_ble_eq_true rfl) rfl rfl rfl rfl hp (k_ltn 8 hp (by assumption) (by omega) (by omega)) ?_
      show m_W 75 61 [(0, .ref 12), (1, .int x), (2, .int v)] [] ((m_ui I 13 p x), J) _
      refine c_run 5 (pc' := 70) (ls' := [(0, .ref 12), (1, .int x), (2, .int v)]) (st' := [.int v, .int ((k_sh 1 (I, J)).1 11 0), .ref 14]) (μ' := ((m_ui I 13 p x), J)) (Nat.le_of_ble_eq_true rfl) rfl ?_
      refine c_ias p 8 (Nat.le_of_ble_eq_true rfl) rfl rfl rfl rfl hp (k_ltn 8 hp (by assumption) (by omega) (by omega)) ?_
      show m_W 75 71 [(0, .ref 12), (1, .int x), (2, .int v)] [] ((m_ui (m_ui I 13 p x) 14 p v), J) _
      refine c_run 8 (pc' := 85) (ls' := [(0, .ref 12), (1, .int x), (2, .int v)]) (st' := [.int (((k_sh 1 (I, J)).1 11 0) + (1 : Int32))]) (μ' := ((m_ui (m_ui (m_ui I 13 p x) 14 p v) 12 0 (((k_sh 1 (I, J)).1 11 0) + (1 : Int32))), J)) (Nat.le_of_ble_eq_true rfl) rfl ?_
      refine c_ret (Nat.le_of_ble_eq_true rfl) rfl rfl ⟨by decide, rfl⟩ ?_
      refine ⟨?_, ?_, ?_⟩
      · first | rfl | (simp only [k_addP, k_addP2, if_pos h1, if_pos h2]; done) | (simp only [k_addP, k_addP2, if_pos h1, if_pos h2]; rfl) | (unfold k_addP k_addP2; rw [if_pos h1, if_pos h2]; done) | (unfold k_addP k_addP2; rw [if_pos h1, if_pos h2]; rfl) | (rw [k_ui 11 rfl rfl, k_ui 13 rfl rfl, k_ui 12 rfl rfl]; rfl) | (rw [k_ui 11 rfl rfl, k_ui 13 rfl rfl, k_ui 12 rfl rfl]; simp only [k_addP, k_addP2, if_pos h1, if_pos h2]; done) | (rw [k_ui 11 rfl rfl, k_ui 13 rfl rfl, k_ui 12 rfl rfl]; simp only [k_addP, k_addP2, if_pos h1, if_pos h2]; rfl) | (rw [k_ui 11 rfl rfl, k_ui 13 rfl rfl, k_ui 12 rfl rfl]; unfold k_addP k_addP2; rw [if_pos h1, if_pos h2]; done) | (rw [k_ui 11 rfl rfl, k_ui 13 rfl rfl, k_ui 12 rfl rfl]; unfold k_addP k_addP2; rw [if_pos h1, if_pos h2]; rfl)
      · rw [k_ui 11 rfl rfl, k_ui 13 rfl rfl, k_ui 12 rfl rfl]
        first | rfl | (simp only [k_addP, k_addP2, if_pos h1, if_pos h2]; done) | (simp only [k_addP, k_addP2, if_pos h1, if_pos h2]; rfl) | (unfold k_addP k_addP2; rw [if_pos h1, if_pos h2]; done) | (unfold k_addP k_addP2; rw [if_pos h1, if_pos h2]; rfl)
      · exact ((((m_fr.rf).ui rfl rfl).ui rfl rfl).ui rfl rfl)
    · skip
      refine c_run 1 (pc' := 50) (ls' := [(0, .ref 12), (1, .int x), (2, .int v)]) (st' := [.int (-3)]) (μ' := (I, J)) (Nat.le_of_ble_eq_true rfl) rfl ?_
      refine c_ret (Nat.le_of_ble_eq_true rfl) rfl rfl ⟨by decide, rfl⟩ ?_
      refine ⟨?_, ?_, ?_⟩
      · first | rfl | (simp only [k_addP, k_addP2, if_pos h1, if_neg h2]; done) | (simp only [k_addP, k_addP2, if_pos h1, if_neg h2]; rfl) | (unfold k_addP k_addP2; rw [if_pos h1, if_neg h2]; done) | (unfold k_addP k_addP2; rw [if_pos h1, if_neg h2]; rfl)
      · skip
        first | rfl | (simp only [k_addP, k_addP2, if_pos h1, if_neg h2]; done) | (simp only [k_addP, k_addP2, if_pos h1, if_neg h2]; rfl) | (unfold k_addP k_addP2; rw [if_pos h1, if_neg h2]; done) | (unfold k_addP k_addP2; rw [if_pos h1, if_neg h2]; rfl)
      · exact (m_fr.rf)
  · skip
    refine c_run 7 (pc' := 18) (ls' := [(0, .ref 12), (1, .int x), (2, .int v)]) (st' := [.int (((k_sh 1 (I, J)).1 11 0) - (1 : Int32)), .ref 13, .int x]) (μ' := (I, J)) (Nat.le_of_ble_eq_true rfl) rfl ?_
    refine c_ial (p - 1) 8 (Nat.le_of_ble_eq_true rfl) rfl rfl rfl rfl (by rw [hp]; exact k_p1 (k_ge1 hp (by assumption))) (by omega) ?_
    show m_W 75 19 [(0, .ref 12), (1, .int x), (2, .int v)] [.int ((k_sh 1 (I, J)).1 12 (p - 1)), .int x] (I, J) _
    refine c_icle 37 (Nat.le_of_ble_eq_true rfl) rfl rfl (fun h3 => ?_) (fun h3 => ?_)
    · skip
      refine c_run 1 (pc' := 38) (ls' := [(0, .ref 12), (1, .int x), (2, .int v)]) (st' := [.int (-1)]) (μ' := (I, J)) (Nat.le_of_ble_eq_true rfl) rfl ?_
      refine c_ret (Nat.le_of_ble_eq_true rfl) rfl rfl ⟨by decide, rfl⟩ ?_
      refine ⟨?_, ?_, ?_⟩
      · first | rfl | (simp only [k_addP, k_addP2, if_neg h1, if_pos h3]; done) | (simp only [k_addP, k_addP2, if_neg h1, if_pos h3]; rfl) | (unfold k_addP k_addP2; rw [if_neg h1, if_pos h3]; done) | (unfold k_addP k_addP2; rw [if_neg h1, if_pos h3]; rfl)
      · skip
        first | rfl | (simp only [k_addP, k_addP2, if_neg h1, if_pos h3]; done) | (simp only [k_addP, k_addP2, if_neg h1, if_pos h3]; rfl) | (unfold k_addP k_addP2; rw [if_neg h1, if_pos h3]; done) | (unfold k_addP k_addP2; rw [if_neg h1, if_pos h3]; rfl)
      · exact (m_fr.rf)
    · skip
      refine c_run 7 (pc' := 33) (ls' := [(0, .ref 12), (1, .int x), (2, .int v)]) (st' := [.int (((k_sh 1 (I, J)).1 11 0) - (1 : Int32)), .ref 14, .int v]) (μ' := (I, J)) (Nat.le_of_ble_eq_true rfl) rfl ?_
      refine c_ial (p - 1) 8 (Nat.le_of_ble_eq_true rfl) rfl rfl rfl rfl (by rw [hp]; exact k_p1 (k_ge1 hp (by assumption))) (by omega) ?_
      show m_W 75 34 [(0, .ref 12), (1, .int x), (2, .int v)] [.int ((k_sh 1 (I, J)).1 13 (p - 1)), .int v] (I, J) _
      refine c_icge 39 (Nat.le_of_ble_eq_true rfl) rfl rfl (fun h4 => ?_) (fun h4 => ?_)
      · skip
        refine c_run 3 (pc' := 45) (ls' := [(0, .ref 12), (1, .int x), (2, .int v)]) (st' := [.int 8, .int ((k_sh 1 (I, J)).1 11 0)]) (μ' := (I, J)) (Nat.le_of_ble_eq_true rfl) rfl ?_
        refine c_iclt 51 (Nat.le_of_ble_eq_true rfl) rfl rfl (fun h5 => ?_) (fun h5 => ?_)
        · skip
          refine c_run 5 (pc' := 60) (ls' := [(0, .ref 12), (1, .int x), (2, .int v)]) (st' := [.int x, .int ((k_sh 1 (I, J)).1 11 0), .ref 13]) (μ' := (I, J)) (Nat.le_of_ble_eq_true rfl) rfl ?_
          refine c_ias p 8 (Nat.le_of_ble_eq_true rfl) rfl rfl rfl rfl hp (k_ltn 8 hp (by assumption) (by omega) (by omega)) ?_
          show m_W 75 61 [(0, .ref 12), (1, .int x), (2, .int v)] [] ((m_ui I 13 p x), J) _
          refine c_run 5 (pc' := 70) (ls' := [(0, .ref 12), (1, .int x), (2, .int v)]) (st' := [.int v, .int ((k_sh 1 (I, J)).1 11 0), .ref 14]) (μ' := ((m_ui I 13 p x), J)) (Nat.le_of_ble_eq_true rfl) rfl ?_
          refine c_ias p 8 (Nat.le_of_ble_eq_true rfl) rfl rfl rfl rfl hp (k_ltn 8 hp (by assumption) (by omega) (by omega)) ?_
          show m_W 75 71 [(0, .ref 12), (1, .int x), (2, .int v)] [] ((m_ui (m_ui I 13 p x) 14 p v), J) _
          refine c_run 8 (pc' := 85) (ls' := [(0, .ref 12), (1, .int x), (2, .int v)]) (st' := [.int (((k_sh 1 (I, J)).1 11 0) + (1 : Int32))]) (μ' := ((m_ui (m_ui (m_ui I 13 p x) 14 p v) 12 0 (((k_sh 1 (I, J)).1 11 0) + (1 : Int32))), J)) (Nat.le_of_ble_eq_true rfl) rfl ?_
          refine c_ret (Nat.le_of_ble_eq_true rfl) rfl rfl ⟨by decide, rfl⟩ ?_
          refine ⟨?_, ?_, ?_⟩
          · first | rfl | (simp only [k_addP, k_addP2, if_neg h1, if_neg h3, if_pos h4, if_pos h5]; done) | (simp only [k_addP, k_addP2, if_neg h1, if_neg h3, if_pos h4, if_pos h5]; rfl) | (unfold k_addP k_addP2; rw [if_neg h1, if_neg h3, if_pos h4, if_pos h5]; done) | (unfold k_addP k_addP2; rw [if_neg h1, if_neg h3, if_pos h4, if_pos h5]; rfl) | (rw [k_ui 11 rfl rfl, k_ui 13 rfl rfl, k_ui 12 rfl rfl]; rfl) | (rw [k_ui 11 rfl rfl, k_ui 13 rfl rfl, k_ui 12 rfl rfl]; simp only [k_addP, k_addP2, if_neg h1, if_neg h3, if_pos h4, if_pos h5]; done) | (rw [k_ui 11 rfl rfl, k_ui 13 rfl rfl, k_ui 12 rfl rfl]; simp only [k_addP, k_addP2, if_neg h1, if_neg h3, if_pos h4, if_pos h5]; rfl) | (rw [k_ui 11 rfl rfl, k_ui 13 rfl rfl, k_ui 12 rfl rfl]; unfold k_addP k_addP2; rw [if_neg h1, if_neg h3, if_pos h4, if_pos h5]; done) | (rw [k_ui 11 rfl rfl, k_ui 13 rfl rfl, k_ui 12 rfl rfl]; unfold k_addP k_addP2; rw [if_neg h1, if_neg h3, if_pos h4, if_pos h5]; rfl)
          · rw [k_ui 11 rfl rfl, k_ui 13 rfl rfl, k_ui 12 rfl rfl]
            first | rfl | (simp only [k_addP, k_addP2, if_neg h1, if_neg h3, if_pos h4, if_pos h5]; done) | (simp only [k_addP, k_addP2, if_neg h1, if_neg h3, if_pos h4, if_pos h5]; rfl) | (unfold k_addP k_addP2; rw [if_neg h1, if_neg h3, if_pos h4, if_pos h5]; done) | (unfold k_addP k_addP2; rw [if_neg h1, if_neg h3, if_pos h4, if_pos h5]; rfl)
          · exact ((((m_fr.rf).ui rfl rfl).ui rfl rfl).ui rfl rfl)
        · skip
          refine c_run 1 (pc' := 50) (ls' := [(0, .ref 12), (1, .int x), (2, .int v)]) (st' := [.int (-3)]) (μ' := (I, J)) (Nat.le_of_ble_eq_true rfl) rfl ?_
          refine c_ret (Nat.le_of_ble_eq_true rfl) rfl rfl ⟨by decide, rfl⟩ ?_
          refine ⟨?_, ?_, ?_⟩
          · first | rfl | (simp only [k_addP, k_addP2, if_neg h1, if_neg h3, if_pos h4, if_neg h5]; done) | (simp only [k_addP, k_addP2, if_neg h1, if_neg h3, if_pos h4, if_neg h5]; rfl) | (unfold k_addP k_addP2; rw [if_neg h1, if_neg h3, if_pos h4, if_neg h5]; done) | (unfold k_addP k_addP2; rw [if_neg h1, if_neg h3, if_pos h4, if_neg h5]; rfl)
          · skip
            first | rfl | (simp only [k_addP, k_addP2, if_neg h1, if_neg h3, if_pos h4, if_neg h5]; done) | (simp only [k_addP, k_addP2, if_neg h1, if_neg h3, if_pos h4, if_neg h5]; rfl) | (unfold k_addP k_addP2; rw [if_neg h1, if_neg h3, if_pos h4, if_neg h5]; done) | (unfold k_addP k_addP2; rw [if_neg h1, if_neg h3, if_pos h4, if_neg h5]; rfl)
          · exact (m_fr.rf)
      · skip
        refine c_run 1 (pc' := 38) (ls' := [(0, .ref 12), (1, .int x), (2, .int v)]) (st' := [.int (-1)]) (μ' := (I, J)) (Nat.le_of_ble_eq_true rfl) rfl ?_
        refine c_ret (Nat.le_of_ble_eq_true rfl) rfl rfl ⟨by decide, rfl⟩ ?_
        refine ⟨?_, ?_, ?_⟩
        · first | rfl | (simp only [k_addP, k_addP2, if_neg h1, if_neg h3, if_neg h4]; done) | (simp only [k_addP, k_addP2, if_neg h1, if_neg h3, if_neg h4]; rfl) | (unfold k_addP k_addP2; rw [if_neg h1, if_neg h3, if_neg h4]; done) | (unfold k_addP k_addP2; rw [if_neg h1, if_neg h3, if_neg h4]; rfl)
        · skip
          first | rfl | (simp only [k_addP, k_addP2, if_neg h1, if_neg h3, if_neg h4]; done) | (simp only [k_addP, k_addP2, if_neg h1, if_neg h3, if_neg h4]; rfl) | (unfold k_addP k_addP2; rw [if_neg h1, if_neg h3, if_neg h4]; done) | (unfold k_addP k_addP2; rw [if_neg h1, if_neg h3, if_neg h4]; rfl)
        · exact (m_fr.rf)

set_option maxRecDepth 100000 in
theorem t1_addP1 (I : Nat → Nat → Int32) (J : Nat → Nat → Int64) (x v : Int32) (p : Nat) (hp : (k_sh 1 (I, J)).1 14 0 = nI p) (hp8 : p ≤ 8) : m_W 75 0 (lv_args 0 [.ref 15, .int x, .int v]) [] (I, J) (k_E 1 (I, J) (some (.int (k_addP (k_sh 1 (I, J)) 1 p x v).1)) (k_addP (k_sh 1 (I, J)) 1 p x v).2) := by
  show m_W 75 0 [(0, .ref 15), (1, .int x), (2, .int v)] [] (I, J) _
  refine c_run 2 (pc' := 4) (ls' := [(0, .ref 15), (1, .int x), (2, .int v)]) (st' := [.int ((k_sh 1 (I, J)).1 14 0)]) (μ' := (I, J)) (Nat.le_of_ble_eq_true rfl) rfl ?_
  refine c_ifle 39 (Nat.le_of_ble_eq_true rfl) rfl rfl (fun h1 => ?_) (fun h1 => ?_)
  · skip
    refine c_run 3 (pc' := 45) (ls' := [(0, .ref 15), (1, .int x), (2, .int v)]) (st' := [.int 8, .int ((k_sh 1 (I, J)).1 14 0)]) (μ' := (I, J)) (Nat.le_of_ble_eq_true rfl) rfl ?_
    refine c_iclt 51 (Nat.le_of_ble_eq_true rfl) rfl rfl (fun h2 => ?_) (fun h2 => ?_)
    · skip
      refine c_run 5 (pc' := 60) (ls' := [(0, .ref 15), (1, .int x), (2, .int v)]) (st' := [.int x, .int ((k_sh 1 (I, J)).1 14 0), .ref 16]) (μ' := (I, J)) (Nat.le_of_ble_eq_true rfl) rfl ?_
      refine c_ias p 8 (Nat.le_of_ble_eq_true rfl) rfl rfl rfl rfl hp (k_ltn 8 hp (by assumption) (by omega) (by omega)) ?_
      show m_W 75 61 [(0, .ref 15), (1, .int x), (2, .int v)] [] ((m_ui I 16 p x), J) _
      refine c_run 5 (pc' := 70) (ls' := [(0, .ref 15), (1, .int x), (2, .int v)]) (st' := [.int v, .int ((k_sh 1 (I, J)).1 14 0), .ref 17]) (μ' := ((m_ui I 16 p x), J)) (Nat.le_of_ble_eq_true rfl) rfl ?_
      refine c_ias p 8 (Nat.le_of_ble_eq_true rfl) rfl rfl rfl rfl hp (k_ltn 8 hp (by assumption) (by omega) (by omega)) ?_
      show m_W 75 71 [(0, .ref 15), (1, .int x), (2, .int v)] [] ((m_ui (m_ui I 16 p x) 17 p v), J) _
      refine c_run 8 (pc' := 85) (ls' := [(0, .ref 15), (1, .int x), (2, .int v)]) (st' := [.int (((k_sh 1 (I, J)).1 14 0) + (1 : Int32))]) (μ' := ((m_ui (m_ui (m_ui I 16 p x) 17 p v) 15 0 (((k_sh 1 (I, J)).1 14 0) + (1 : Int32))), J)) (Nat.le_of_ble_eq_true rfl) rfl ?_
      refine c_ret (Nat.le_of_ble_eq_true rfl) rfl rfl ⟨by decide, rfl⟩ ?_
      refine ⟨?_, ?_, ?_⟩
      · first | rfl | (simp only [k_addP, k_addP2, if_pos h1, if_pos h2]; done) | (simp only [k_addP, k_addP2, if_pos h1, if_pos h2]; rfl) | (unfold k_addP k_addP2; rw [if_pos h1, if_pos h2]; done) | (unfold k_addP k_addP2; rw [if_pos h1, if_pos h2]; rfl) | (rw [k_ui 14 rfl rfl, k_ui 16 rfl rfl, k_ui 15 rfl rfl]; rfl) | (rw [k_ui 14 rfl rfl, k_ui 16 rfl rfl, k_ui 15 rfl rfl]; simp only [k_addP, k_addP2, if_pos h1, if_pos h2]; done) | (rw [k_ui 14 rfl rfl, k_ui 16 rfl rfl, k_ui 15 rfl rfl]; simp only [k_addP, k_addP2, if_pos h1, if_pos h2]; rfl) | (rw [k_ui 14 rfl rfl, k_ui 16 rfl rfl, k_ui 15 rfl rfl]; unfold k_addP k_addP2; rw [if_pos h1, if_pos h2]; done) | (rw [k_ui 14 rfl rfl, k_ui 16 rfl rfl, k_ui 15 rfl rfl]; unfold k_addP k_addP2; rw [if_pos h1, if_pos h2]; rfl)
      · rw [k_ui 14 rfl rfl, k_ui 16 rfl rfl, k_ui 15 rfl rfl]
        first | rfl | (simp only [k_addP, k_addP2, if_pos h1, if_pos h2]; done) | (simp only [k_addP, k_addP2, if_pos h1, if_pos h2]; rfl) | (unfold k_addP k_addP2; rw [if_pos h1, if_pos h2]; done) | (unfold k_addP k_addP2; rw [if_pos h1, if_pos h2]; rfl)
      · exact ((((m_fr.rf).ui rfl rfl).ui rfl rfl).ui rfl rfl)
    · skip
      refine c_run 1 (pc' := 50) (ls' := [(0, .ref 15), (1, .int x), (2, .int v)]) (st' := [.int (-3)]) (μ' := (I, J)) (Nat.le_of_ble_eq_true rfl) rfl ?_
      refine c_ret (Nat.le_of_ble_eq_true rfl) rfl rfl ⟨by decide, rfl⟩ ?_
      refine ⟨?_, ?_, ?_⟩
      · first | rfl | (simp only [k_addP, k_addP2, if_pos h1, if_neg h2]; done) | (simp only [k_addP, k_addP2, if_pos h1, if_neg h2]; rfl) | (unfold k_addP k_addP2; rw [if_pos h1, if_neg h2]; done) | (unfold k_addP k_addP2; rw [if_pos h1, if_neg h2]; rfl)
      · skip
        first | rfl | (simp only [k_addP, k_addP2, if_pos h1, if_neg h2]; done) | (simp only [k_addP, k_addP2, if_pos h1, if_neg h2]; rfl) | (unfold k_addP k_addP2; rw [if_pos h1, if_neg h2]; done) | (unfold k_addP k_addP2; rw [if_pos h1, if_neg h2]; rfl)
      · exact (m_fr.rf)
  · skip
    refine c_run 7 (pc' := 18) (ls' := [(0, .ref 15), (1, .int x), (2, .int v)]) (st' := [.int (((k_sh 1 (I, J)).1 14 0) - (1 : Int32)), .ref 16, .int x]) (μ' := (I, J)) (Nat.le_of_ble_eq_true rfl) rfl ?_
    refine c_ial (p - 1) 8 (Nat.le_of_ble_eq_true rfl) rfl rfl rfl rfl (by rw [hp]; exact k_p1 (k_ge1 hp (by assumption))) (by omega) ?_
    show m_W 75 19 [(0, .ref 15), (1, .int x), (2, .int v)] [.int ((k_sh 1 (I, J)).1 15 (p - 1)), .int x] (I, J) _
    refine c_icle 37 (Nat.le_of_ble_eq_true rfl) rfl rfl (fun h3 => ?_) (fun h3 => ?_)
    · skip
      refine c_run 1 (pc' := 38) (ls' := [(0, .ref 15), (1, .int x), (2, .int v)]) (st' := [.int (-1)]) (μ' := (I, J)) (Nat.le_of_ble_eq_true rfl) rfl ?_
      refine c_ret (Nat.le_of_ble_eq_true rfl) rfl rfl ⟨by decide, rfl⟩ ?_
      refine ⟨?_, ?_, ?_⟩
      · first | rfl | (simp only [k_addP, k_addP2, if_neg h1, if_pos h3]; done) | (simp only [k_addP, k_addP2, if_neg h1, if_pos h3]; rfl) | (unfold k_addP k_addP2; rw [if_neg h1, if_pos h3]; done) | (unfold k_addP k_addP2; rw [if_neg h1, if_pos h3]; rfl)
      · skip
        first | rfl | (simp only [k_addP, k_addP2, if_neg h1, if_pos h3]; done) | (simp only [k_addP, k_addP2, if_neg h1, if_pos h3]; rfl) | (unfold k_addP k_addP2; rw [if_neg h1, if_pos h3]; done) | (unfold k_addP k_addP2; rw [if_neg h1, if_pos h3]; rfl)
      · exact (m_fr.rf)
    · skip
      refine c_run 7 (pc' := 33) (ls' := [(0, .ref 15), (1, .int x), (2, .int v)]) (st' := [.int (((k_sh 1 (I, J)).1 14 0) - (1 : Int32)), .ref 17, .int v]) (μ' := (I, J)) (Nat.le_of_ble_eq_true rfl) rfl ?_
      refine c_ial (p - 1) 8 (Nat.le_of_ble_eq_true rfl) rfl rfl rfl rfl (by rw [hp]; exact k_p1 (k_ge1 hp (by assumption))) (by omega) ?_
      show m_W 75 34 [(0, .ref 15), (1, .int x), (2, .int v)] [.int ((k_sh 1 (I, J)).1 16 (p - 1)), .int v] (I, J) _
      refine c_icge 39 (Nat.le_of_ble_eq_true rfl) rfl rfl (fun h4 => ?_) (fun h4 => ?_)
      · skip
        refine c_run 3 (pc' := 45) (ls' := [(0, .ref 15), (1, .int x), (2, .int v)]) (st' := [.int 8, .int ((k_sh 1 (I, J)).1 14 0)]) (μ' := (I, J)) (Nat.le_of_ble_eq_true rfl) rfl ?_
        refine c_iclt 51 (Nat.le_of_ble_eq_true rfl) rfl rfl (fun h5 => ?_) (fun h5 => ?_)
        · skip
          refine c_run 5 (pc' := 60) (ls' := [(0, .ref 15), (1, .int x), (2, .int v)]) (st' := [.int x, .int ((k_sh 1 (I, J)).1 14 0), .ref 16]) (μ' := (I, J)) (Nat.le_of_ble_eq_true rfl) rfl ?_
          refine c_ias p 8 (Nat.le_of_ble_eq_true rfl) rfl rfl rfl rfl hp (k_ltn 8 hp (by assumption) (by omega) (by omega)) ?_
          show m_W 75 61 [(0, .ref 15), (1, .int x), (2, .int v)] [] ((m_ui I 16 p x), J) _
          refine c_run 5 (pc' := 70) (ls' := [(0, .ref 15), (1, .int x), (2, .int v)]) (st' := [.int v, .int ((k_sh 1 (I, J)).1 14 0), .ref 17]) (μ' := ((m_ui I 16 p x), J)) (Nat.le_of_ble_eq_true rfl) rfl ?_
          refine c_ias p 8 (Nat.le_of_ble_eq_true rfl) rfl rfl rfl rfl hp (k_ltn 8 hp (by assumption) (by omega) (by omega)) ?_
          show m_W 75 71 [(0, .ref 15), (1, .int x), (2, .int v)] [] ((m_ui (m_ui I 16 p x) 17 p v), J) _
          refine c_run 8 (pc' := 85) (ls' := [(0, .ref 15), (1, .int x), (2, .int v)]) (st' := [.int (((k_sh 1 (I, J)).1 14 0) + (1 : Int32))]) (μ' := ((m_ui (m_ui (m_ui I 16 p x) 17 p v) 15 0 (((k_sh 1 (I, J)).1 14 0) + (1 : Int32))), J)) (Nat.le_of_ble_eq_true rfl) rfl ?_
          refine c_ret (Nat.le_of_ble_eq_true rfl) rfl rfl ⟨by decide, rfl⟩ ?_
          refine ⟨?_, ?_, ?_⟩
          · first | rfl | (simp only [k_addP, k_addP2, if_neg h1, if_neg h3, if_pos h4, if_pos h5]; done) | (simp only [k_addP, k_addP2, if_neg h1, if_neg h3, if_pos h4, if_pos h5]; rfl) | (unfold k_addP k_addP2; rw [if_neg h1, if_neg h3, if_pos h4, if_pos h5]; done) | (unfold k_addP k_addP2; rw [if_neg h1, if_neg h3, if_pos h4, if_pos h5]; rfl) | (rw [k_ui 14 rfl rfl, k_ui 16 rfl rfl, k_ui 15 rfl rfl]; rfl) | (rw [k_ui 14 rfl rfl, k_ui 16 rfl rfl, k_ui 15 rfl rfl]; simp only [k_addP, k_addP2, if_neg h1, if_neg h3, if_pos h4, if_pos h5]; done) | (rw [k_ui 14 rfl rfl, k_ui 16 rfl rfl, k_ui 15 rfl rfl]; simp only [k_addP, k_addP2, if_neg h1, if_neg h3, if_pos h4, if_pos h5]; rfl) | (rw [k_ui 14 rfl rfl, k_ui 16 rfl rfl, k_ui 15 rfl rfl]; unfold k_addP k_addP2; rw [if_neg h1, if_neg h3, if_pos h4, if_pos h5]; done) | (rw [k_ui 14 rfl rfl, k_ui 16 rfl rfl, k_ui 15 rfl rfl]; unfold k_addP k_addP2; rw [if_neg h1, if_neg h3, if_pos h4, if_pos h5]; rfl)
          · rw [k_ui 14 rfl rfl, k_ui 16 rfl rfl, k_ui 15 rfl rfl]
            first | rfl | (simp only [k_addP, k_addP2, if_neg h1, if_neg h3, if_pos h4, if_pos h5]; done) | (simp only [k_addP, k_addP2, if_neg h1, if_neg h3, if_pos h4, if_pos h5]; rfl) | (unfold k_addP k_addP2; rw [if_neg h1, if_neg h3, if_pos h4, if_pos h5]; done) | (unfold k_addP k_addP2; rw [if_neg h1, if_neg h3, if_pos h4, if_pos h5]; rfl)
          · exact ((((m_fr.rf).ui rfl rfl).ui rfl rfl).ui rfl rfl)
        · skip
          refine c_run 1 (pc' := 50) (ls' := [(0, .ref 15), (1, .int x), (2, .int v)]) (st' := [.int (-3)]) (μ' := (I, J)) (Nat.le_of_ble_eq_true rfl) rfl ?_
          refine c_ret (Nat.le_of_ble_eq_true rfl) rfl rfl ⟨by decide, rfl⟩ ?_
          refine ⟨?_, ?_, ?_⟩
          · first | rfl | (simp only [k_addP, k_addP2, if_neg h1, if_neg h3, if_pos h4, if_neg h5]; done) | (simp only [k_addP, k_addP2, if_neg h1, if_neg h3, if_pos h4, if_neg h5]; rfl) | (unfold k_addP k_addP2; rw [if_neg h1, if_neg h3, if_pos h4, if_neg h5]; done) | (unfold k_addP k_addP2; rw [if_neg h1, if_neg h3, if_pos h4, if_neg h5]; rfl)
          · skip
            first | rfl | (simp only [k_addP, k_addP2, if_neg h1, if_neg h3, if_pos h4, if_neg h5]; done) | (simp only [k_addP, k_addP2, if_neg h1, if_neg h3, if_pos h4, if_neg h5]; rfl) | (unfold k_addP k_addP2; rw [if_neg h1, if_neg h3, if_pos h4, if_neg h5]; done) | (unfold k_addP k_addP2; rw [if_neg h1, if_neg h3, if_pos h4, if_neg h5]; rfl)
          · exact (m_fr.rf)
      · skip
        refine c_run 1 (pc' := 38) (ls' := [(0, .ref 15), (1, .int x), (2, .int v)]) (st' := [.int (-1)]) (μ' := (I, J)) (Nat.le_of_ble_eq_true rfl) rfl ?_
        refine c_ret (Nat.le_of_ble_eq_true rfl) rfl rfl ⟨by decide, rfl⟩ ?_
        refine ⟨?_, ?_, ?_⟩
        · first | rfl | (simp only [k_addP, k_addP2, if_neg h1, if_neg h3, if_neg h4]; done) | (simp only [k_addP, k_addP2, if_neg h1, if_neg h3, if_neg h4]; rfl) | (unfold k_addP k_addP2; rw [if_neg h1, if_neg h3, if_neg h4]; done) | (unfold k_addP k_addP2; rw [if_neg h1, if_neg h3, if_neg h4]; rfl)
        · skip
          first | rfl | (simp only [k_addP, k_addP2, if_neg h1, if_neg h3, if_neg h4]; done) | (simp only [k_addP, k_addP2, if_neg h1, if_neg h3, if_neg h4]; rfl) | (unfold k_addP k_addP2; rw [if_neg h1, if_neg h3, if_neg h4]; done) | (unfold k_addP k_addP2; rw [if_neg h1, if_neg h3, if_neg h4]; rfl)
        · exact (m_fr.rf)

set_option maxRecDepth 100000 in
theorem t1_addP2 (I : Nat → Nat → Int32) (J : Nat → Nat → Int64) (x v : Int32) (p : Nat) (hp : (k_sh 1 (I, J)).1 17 0 = nI p) (hp8 : p ≤ 8) : m_W 75 0 (lv_args 0 [.ref 18, .int x, .int v]) [] (I, J) (k_E 1 (I, J) (some (.int (k_addP (k_sh 1 (I, J)) 2 p x v).1)) (k_addP (k_sh 1 (I, J)) 2 p x v).2) := by
  show m_W 75 0 [(0, .ref 18), (1, .int x), (2, .int v)] [] (I, J) _
  refine c_run 2 (pc' := 4) (ls' := [(0, .ref 18), (1, .int x), (2, .int v)]) (st' := [.int ((k_sh 1 (I, J)).1 17 0)]) (μ' := (I, J)) (Nat.le_of_ble_eq_true rfl) rfl ?_
  refine c_ifle 39 (Nat.le_of_ble_eq_true rfl) rfl rfl (fun h1 => ?_) (fun h1 => ?_)
  · skip
    refine c_run 3 (pc' := 45) (ls' := [(0, .ref 18), (1, .int x), (2, .int v)]) (st' := [.int 8, .int ((k_sh 1 (I, J)).1 17 0)]) (μ' := (I, J)) (Nat.le_of_ble_eq_true rfl) rfl ?_
    refine c_iclt 51 (Nat.le_of_ble_eq_true rfl) rfl rfl (fun h2 => ?_) (fun h2 => ?_)
    · skip
      refine c_run 5 (pc' := 60) (ls' := [(0, .ref 18), (1, .int x), (2, .int v)]) (st' := [.int x, .int ((k_sh 1 (I, J)).1 17 0), .ref 19]) (μ' := (I, J)) (Nat.le_of_ble_eq_true rfl) rfl ?_
      refine c_ias p 8 (Nat.le_of_ble_eq_true rfl) rfl rfl rfl rfl hp (k_ltn 8 hp (by assumption) (by omega) (by omega)) ?_
      show m_W 75 61 [(0, .ref 18), (1, .int x), (2, .int v)] [] ((m_ui I 19 p x), J) _
      refine c_run 5 (pc' := 70) (ls' := [(0, .ref 18), (1, .int x), (2, .int v)]) (st' := [.int v, .int ((k_sh 1 (I, J)).1 17 0), .ref 20]) (μ' := ((m_ui I 19 p x), J)) (Nat.le_of_ble_eq_true rfl) rfl ?_
      refine c_ias p 8 (Nat.le_of_ble_eq_true rfl) rfl rfl rfl rfl hp (k_ltn 8 hp (by assumption) (by omega) (by omega)) ?_
      show m_W 75 71 [(0, .ref 18), (1, .int x), (2, .int v)] [] ((m_ui (m_ui I 19 p x) 20 p v), J) _
      refine c_run 8 (pc' := 85) (ls' := [(0, .ref 18), (1, .int x), (2, .int v)]) (st' := [.int (((k_sh 1 (I, J)).1 17 0) + (1 : Int32))]) (μ' := ((m_ui (m_ui (m_ui I 19 p x) 20 p v) 18 0 (((k_sh 1 (I, J)).1 17 0) + (1 : Int32))), J)) (Nat.le_of_ble_eq_true rfl) rfl ?_
      refine c_ret (Nat.le_of_ble_eq_true rfl) rfl rfl ⟨by decide, rfl⟩ ?_
      refine ⟨?_, ?_, ?_⟩
      · first | rfl | (simp only [k_addP, k_addP2, if_pos h1, if_pos h2]; done) | (simp only [k_addP, k_addP2, if_pos h1, if_pos h2]; rfl) | (unfold k_addP k_addP2; rw [if_pos h1, if_pos h2]; done) | (unfold k_addP k_addP2; rw [if_pos h1, if_pos h2]; rfl) | (rw [k_ui 17 rfl rfl, k_ui 19 rfl rfl, k_ui 18 rfl rfl]; rfl) | (rw [k_ui 17 rfl rfl, k_ui 19 rfl rfl, k_ui 18 rfl rfl]; simp only [k_addP, k_addP2, if_pos h1, if_pos h2]; done) | (rw [k_ui 17 rfl rfl, k_ui 19 rfl rfl, k_ui 18 rfl rfl]; simp only [k_addP, k_addP2, if_pos h1, if_pos h2]; rfl) | (rw [k_ui 17 rfl rfl, k_ui 19 rfl rfl, k_ui 18 rfl rfl]; unfold k_addP k_addP2; rw [if_pos h1, if_pos h2]; done) | (rw [k_ui 17 rfl rfl, k_ui 19 rfl rfl, k_ui 18 rfl rfl]; unfold k_addP k_addP2; rw [if_pos h1, if_pos h2]; rfl)
      · rw [k_ui 17 rfl rfl, k_ui 19 rfl rfl, k_ui 18 rfl rfl]
        first | rfl | (simp only [k_addP, k_addP2, if_pos h1, if_pos h2]; done) | (simp only [k_addP, k_addP2, if_pos h1, if_pos h2]; rfl) | (unfold k_addP k_addP2; rw [if_pos h1, if_pos h2]; done) | (unfold k_addP k_addP2; rw [if_pos h1, if_pos h2]; rfl)
      · exact ((((m_fr.rf).ui rfl rfl).ui rfl rfl).ui rfl rfl)
    · skip
      refine c_run 1 (pc' := 50) (ls' := [(0, .ref 18), (1, .int x), (2, .int v)]) (st' := [.int (-3)]) (μ' := (I, J)) (Nat.le_of_ble_eq_true rfl) rfl ?_
      refine c_ret (Nat.le_of_ble_eq_true rfl) rfl rfl ⟨by decide, rfl⟩ ?_
      refine ⟨?_, ?_, ?_⟩
      · first | rfl | (simp only [k_addP, k_addP2, if_pos h1, if_neg h2]; done) | (simp only [k_addP, k_addP2, if_pos h1, if_neg h2]; rfl) | (unfold k_addP k_addP2; rw [if_pos h1, if_neg h2]; done) | (unfold k_addP k_addP2; rw [if_pos h1, if_neg h2]; rfl)
      · skip
        first | rfl | (simp only [k_addP, k_addP2, if_pos h1, if_neg h2]; done) | (simp only [k_addP, k_addP2, if_pos h1, if_neg h2]; rfl) | (unfold k_addP k_addP2; rw [if_pos h1, if_neg h2]; done) | (unfold k_addP k_addP2; rw [if_pos h1, if_neg h2]; rfl)
      · exact (m_fr.rf)
  · skip
    refine c_run 7 (pc' := 18) (ls' := [(0, .ref 18), (1, .int x), (2, .int v)]) (st' := [.int (((k_sh 1 (I, J)).1 17 0) - (1 : Int32)), .ref 19, .int x]) (μ' := (I, J)) (Nat.le_of_ble_eq_true rfl) rfl ?_
    refine c_ial (p - 1) 8 (Nat.le_of_ble_eq_true rfl) rfl rfl rfl rfl (by rw [hp]; exact k_p1 (k_ge1 hp (by assumption))) (by omega) ?_
    show m_W 75 19 [(0, .ref 18), (1, .int x), (2, .int v)] [.int ((k_sh 1 (I, J)).1 18 (p - 1)), .int x] (I, J) _
    refine c_icle 37 (Nat.le_of_ble_eq_true rfl) rfl rfl (fun h3 => ?_) (fun h3 => ?_)
    · skip
      refine c_run 1 (pc' := 38) (ls' := [(0, .ref 18), (1, .int x), (2, .int v)]) (st' := [.int (-1)]) (μ' := (I, J)) (Nat.le_of_ble_eq_true rfl) rfl ?_
      refine c_ret (Nat.le_of_ble_eq_true rfl) rfl rfl ⟨by decide, rfl⟩ ?_
      refine ⟨?_, ?_, ?_⟩
      · first | rfl | (simp only [k_addP, k_addP2, if_neg h1, if_pos h3]; done) | (simp only [k_addP, k_addP2, if_neg h1, if_pos h3]; rfl) | (unfold k_addP k_addP2; rw [if_neg h1, if_pos h3]; done) | (unfold k_addP k_addP2; rw [if_neg h1, if_pos h3]; rfl)
      · skip
        first | rfl | (simp only [k_addP, k_addP2, if_neg h1, if_pos h3]; done) | (simp only [k_addP, k_addP2, if_neg h1, if_pos h3]; rfl) | (unfold k_addP k_addP2; rw [if_neg h1, if_pos h3]; done) | (unfold k_addP k_addP2; rw [if_neg h1, if_pos h3]; rfl)
      · exact (m_fr.rf)
    · skip
      refine c_run 7 (pc' := 33) (ls' := [(0, .ref 18), (1, .int x), (2, .int v)]) (st' := [.int (((k_sh 1 (I, J)).1 17 0) - (1 : Int32)), .ref 20, .int v]) (μ' := (I, J)) (Nat.le_of_ble_eq_true rfl) rfl ?_
      refine c_ial (p - 1) 8 (Nat.le_of_ble_eq_true rfl) rfl rfl rfl rfl (by rw [hp]; exact k_p1 (k_ge1 hp (by assumption))) (by omega) ?_
      show m_W 75 34 [(0, .ref 18), (1, .int x), (2, .int v)] [.int ((k_sh 1 (I, J)).1 19 (p - 1)), .int v] (I, J) _
      refine c_icge 39 (Nat.le_of_ble_eq_true rfl) rfl rfl (fun h4 => ?_) (fun h4 => ?_)
      · skip
        refine c_run 3 (pc' := 45) (ls' := [(0, .ref 18), (1, .int x), (2, .int v)]) (st' := [.int 8, .int ((k_sh 1 (I, J)).1 17 0)]) (μ' := (I, J)) (Nat.le_of_ble_eq_true rfl) rfl ?_
        refine c_iclt 51 (Nat.le_of_ble_eq_true rfl) rfl rfl (fun h5 => ?_) (fun h5 => ?_)
        · skip
          refine c_run 5 (pc' := 60) (ls' := [(0, .ref 18), (1, .int x), (2, .int v)]) (st' := [.int x, .int ((k_sh 1 (I, J)).1 17 0), .ref 19]) (μ' := (I, J)) (Nat.le_of_ble_eq_true rfl) rfl ?_
          refine c_ias p 8 (Nat.le_of_ble_eq_true rfl) rfl rfl rfl rfl hp (k_ltn 8 hp (by assumption) (by omega) (by omega)) ?_
          show m_W 75 61 [(0, .ref 18), (1, .int x), (2, .int v)] [] ((m_ui I 19 p x), J) _
          refine c_run 5 (pc' := 70) (ls' := [(0, .ref 18), (1, .int x), (2, .int v)]) (st' := [.int v, .int ((k_sh 1 (I, J)).1 17 0), .ref 20]) (μ' := ((m_ui I 19 p x), J)) (Nat.le_of_ble_eq_true rfl) rfl ?_
          refine c_ias p 8 (Nat.le_of_ble_eq_true rfl) rfl rfl rfl rfl hp (k_ltn 8 hp (by assumption) (by omega) (by omega)) ?_
          show m_W 75 71 [(0, .ref 18), (1, .int x), (2, .int v)] [] ((m_ui (m_ui I 19 p x) 20 p v), J) _
          refine c_run 8 (pc' := 85) (ls' := [(0, .ref 18), (1, .int x), (2, .int v)]) (st' := [.int (((k_sh 1 (I, J)).1 17 0) + (1 : Int32))]) (μ' := ((m_ui (m_ui (m_ui I 19 p x) 20 p v) 18 0 (((k_sh 1 (I, J)).1 17 0) + (1 : Int32))), J)) (Nat.le_of_ble_eq_true rfl) rfl ?_
          refine c_ret (Nat.le_of_ble_eq_true rfl) rfl rfl ⟨by decide, rfl⟩ ?_
          refine ⟨?_, ?_, ?_⟩
          · first | rfl | (simp only [k_addP, k_addP2, if_neg h1, if_neg h3, if_pos h4, if_pos h5]; done) | (simp only [k_addP, k_addP2, if_neg h1, if_neg h3, if_pos h4, if_pos h5]; rfl) | (unfold k_addP k_addP2; rw [if_neg h1, if_neg h3, if_pos h4, if_pos h5]; done) | (unfold k_addP k_addP2; rw [if_neg h1, if_neg h3, if_pos h4, if_pos h5]; rfl) | (rw [k_ui 17 rfl rfl, k_ui 19 rfl rfl, k_ui 18 rfl rfl]; rfl) | (rw [k_ui 17 rfl rfl, k_ui 19 rfl rfl, k_ui 18 rfl rfl]; simp only [k_addP, k_addP2, if_neg h1, if_neg h3, if_pos h4, if_pos h5]; done) | (rw [k_ui 17 rfl rfl, k_ui 19 rfl rfl, k_ui 18 rfl rfl]; simp only [k_addP, k_addP2, if_neg h1, if_neg h3, if_pos h4, if_pos h5]; rfl) | (rw [k_ui 17 rfl rfl, k_ui 19 rfl rfl, k_ui 18 rfl rfl]; unfold k_addP k_addP2; rw [if_neg h1, if_neg h3, if_pos h4, if_pos h5]; done) | (rw [k_ui 17 rfl rfl, k_ui 19 rfl rfl, k_ui 18 rfl rfl]; unfold k_addP k_addP2; rw [if_neg h1, if_neg h3, if_pos h4, if_pos h5]; rfl)
          · rw [k_ui 17 rfl rfl, k_ui 19 rfl rfl, k_ui 18 rfl rfl]
            first | rfl | (simp only [k_addP, k_addP2, if_neg h1, if_neg h3, if_pos h4, if_pos h5]; done) | (simp only [k_addP, k_addP2, if_neg h1, if_neg h3, if_pos h4, if_pos h5]; rfl) | (unfold k_addP k_addP2; rw [if_neg h1, if_neg h3, if_pos h4, if_pos h5]; done) | (unfold k_addP k_addP2; rw [if_neg h1, if_neg h3, if_pos h4, if_pos h5]; rfl)
          · exact ((((m_fr.rf).ui rfl rfl).ui rfl rfl).ui rfl rfl)
        · skip
          refine c_run 1 (pc' := 50) (ls' := [(0, .ref 18), (1, .int x), (2, .int v)]) (st' := [.int (-3)]) (μ' := (I, J)) (Nat.le_of_ble_eq_true rfl) rfl ?_
          refine c_ret (Nat.le_of_ble_eq_true rfl) rfl rfl ⟨by decide, rfl⟩ ?_
          refine ⟨?_, ?_, ?_⟩
          · first | rfl | (simp only [k_addP, k_addP2, if_neg h1, if_neg h3, if_pos h4, if_neg h5]; done) | (simp only [k_addP, k_addP2, if_neg h1, if_neg h3, if_pos h4, if_neg h5]; rfl) | (unfold k_addP k_addP2; rw [if_neg h1, if_neg h3, if_pos h4, if_neg h5]; done) | (unfold k_addP k_addP2; rw [if_neg h1, if_neg h3, if_pos h4, if_neg h5]; rfl)
          · skip
            first | rfl | (simp only [k_addP, k_addP2, if_neg h1, if_neg h3, if_pos h4, if_neg h5]; done) | (simp only [k_addP, k_addP2, if_neg h1, if_neg h3, if_pos h4, if_neg h5]; rfl) | (unfold k_addP k_addP2; rw [if_neg h1, if_neg h3, if_pos h4, if_neg h5]; done) | (unfold k_addP k_addP2; rw [if_neg h1, if_neg h3, if_pos h4, if_neg h5]; rfl)
          · exact (m_fr.rf)
      · skip
        refine c_run 1 (pc' := 38) (ls' := [(0, .ref 18), (1, .int x), (2, .int v)]) (st' := [.int (-1)]) (μ' := (I, J)) (Nat.le_of_ble_eq_true rfl) rfl ?_
        refine c_ret (Nat.le_of_ble_eq_true rfl) rfl rfl ⟨by decide, rfl⟩ ?_
        refine ⟨?_, ?_, ?_⟩
        · first | rfl | (simp only [k_addP, k_addP2, if_neg h1, if_neg h3, if_neg h4]; done) | (simp only [k_addP, k_addP2, if_neg h1, if_neg h3, if_neg h4]; rfl) | (unfold k_addP k_addP2; rw [if_neg h1, if_neg h3, if_neg h4]; done) | (unfold k_addP k_addP2; rw [if_neg h1, if_neg h3, if_neg h4]; rfl)
        · skip
          first | rfl | (simp only [k_addP, k_addP2, if_neg h1, if_neg h3, if_neg h4]; done) | (simp only [k_addP, k_addP2, if_neg h1, if_neg h3, if_neg h4]; rfl) | (unfold k_addP k_addP2; rw [if_neg h1, if_neg h3, if_neg h4]; done) | (unfold k_addP k_addP2; rw [if_neg h1, if_neg h3, if_neg h4]; rfl)
        · exact (m_fr.rf)

set_option maxRecDepth 100000 in
theorem t1_addP3 (I : Nat → Nat → Int32) (J : Nat → Nat → Int64) (x v : Int32) (p : Nat) (hp : (k_sh 1 (I, J)).1 20 0 = nI p) (hp8 : p ≤ 8) : m_W 75 0 (lv_args 0 [.ref 21, .int x, .int v]) [] (I, J) (k_E 1 (I, J) (some (.int (k_addP (k_sh 1 (I, J)) 3 p x v).1)) (k_addP (k_sh 1 (I, J)) 3 p x v).2) := by
  show m_W 75 0 [(0, .ref 21), (1, .int x), (2, .int v)] [] (I, J) _
  refine c_run 2 (pc' := 4) (ls' := [(0, .ref 21), (1, .int x), (2, .int v)]) (st' := [.int ((k_sh 1 (I, J)).1 20 0)]) (μ' := (I, J)) (Nat.le_of_ble_eq_true rfl) rfl ?_
  refine c_ifle 39 (Nat.le_of_ble_eq_true rfl) rfl rfl (fun h1 => ?_) (fun h1 => ?_)
  · skip
    refine c_run 3 (pc' := 45) (ls' := [(0, .ref 21), (1, .int x), (2, .int v)]) (st' := [.int 8, .int ((k_sh 1 (I, J)).1 20 0)]) (μ' := (I, J)) (Nat.le_of_ble_eq_true rfl) rfl ?_
    refine c_iclt 51 (Nat.le_of_ble_eq_true rfl) rfl rfl (fun h2 => ?_) (fun h2 => ?_)
    · skip
      refine c_run 5 (pc' := 60) (ls' := [(0, .ref 21), (1, .int x), (2, .int v)]) (st' := [.int x, .int ((k_sh 1 (I, J)).1 20 0), .ref 22]) (μ' := (I, J)) (Nat.le_of_ble_eq_true rfl) rfl ?_
      refine c_ias p 8 (Nat.le_of_ble_eq_true rfl) rfl rfl rfl rfl hp (k_ltn 8 hp (by assumption) (by omega) (by omega)) ?_
      show m_W 75 61 [(0, .ref 21), (1, .int x), (2, .int v)] [] ((m_ui I 22 p x), J) _
      refine c_run 5 (pc' := 70) (ls' := [(0, .ref 21), (1, .int x), (2, .int v)]) (st' := [.int v, .int ((k_sh 1 (I, J)).1 20 0), .ref 23]) (μ' := ((m_ui I 22 p x), J)) (Nat.le_of_ble_eq_true rfl) rfl ?_
      refine c_ias p 8 (Nat.le_of_ble_eq_true rfl) rfl rfl rfl rfl hp (k_ltn 8 hp (by assumption) (by omega) (by omega)) ?_
      show m_W 75 71 [(0, .ref 21), (1, .int x), (2, .int v)] [] ((m_ui (m_ui I 22 p x) 23 p v), J) _
      refine c_run 8 (pc' := 85) (ls' := [(0, .ref 21), (1, .int x), (2, .int v)]) (st' := [.int (((k_sh 1 (I, J)).1 20 0) + (1 : Int32))]) (μ' := ((m_ui (m_ui (m_ui I 22 p x) 23 p v) 21 0 (((k_sh 1 (I, J)).1 20 0) + (1 : Int32))), J)) (Nat.le_of_ble_eq_true rfl) rfl ?_
      refine c_ret (Nat.le_of_ble_eq_true rfl) rfl rfl ⟨by decide, rfl⟩ ?_
      refine ⟨?_, ?_, ?_⟩
      · first | rfl | (simp only [k_addP, k_addP2, if_pos h1, if_pos h2]; done) | (simp only [k_addP, k_addP2, if_pos h1, if_pos h2]; rfl) | (unfold k_addP k_addP2; rw [if_pos h1, if_pos h2]; done) | (unfold k_addP k_addP2; rw [if_pos h1, if_pos h2]; rfl) | (rw [k_ui 20 rfl rfl, k_ui 22 rfl rfl, k_ui 21 rfl rfl]; rfl) | (rw [k_ui 20 rfl rfl, k_ui 22 rfl rfl, k_ui 21 rfl rfl]; simp only [k_addP, k_addP2, if_pos h1, if_pos h2]; done) | (rw [k_ui 20 rfl rfl, k_ui 22 rfl rfl, k_ui 21 rfl rfl]; simp only [k_addP, k_addP2, if_pos h1, if_pos h2]; rfl) | (rw [k_ui 20 rfl rfl, k_ui 22 rfl rfl, k_ui 21 rfl rfl]; unfold k_addP k_addP2; rw [if_pos h1, if_pos h2]; done) | (rw [k_ui 20 rfl rfl, k_ui 22 rfl rfl, k_ui 21 rfl rfl]; unfold k_addP k_addP2; rw [if_pos h1, if_pos h2]; rfl)
      · rw [k_ui 20 rfl rfl, k_ui 22 rfl rfl, k_ui 21 rfl rfl]
        first | rfl | (simp only [k_addP, k_addP2, if_pos h1, if_pos h2]; done) | (simp only [k_addP, k_addP2, if_pos h1, if_pos h2]; rfl) | (unfold k_addP k_addP2; rw [if_pos h1, if_pos h2]; done) | (unfold k_addP k_addP2; rw [if_pos h1, if_pos h2]; rfl)
      · exact ((((m_fr.rf).ui rfl rfl).ui rfl rfl).ui rfl rfl)
    · skip
      refine c_run 1 (pc' := 50) (ls' := [(0, .ref 21), (1, .int x), (2, .int v)]) (st' := [.int (-3)]) (μ' := (I, J)) (Nat.le_of_ble_eq_true rfl) rfl ?_
      refine c_ret (Nat.le_of_ble_eq_true rfl) rfl rfl ⟨by decide, rfl⟩ ?_
      refine ⟨?_, ?_, ?_⟩
      · first | rfl | (simp only [k_addP, k_addP2, if_pos h1, if_neg h2]; done) | (simp only [k_addP, k_addP2, if_pos h1, if_neg h2]; rfl) | (unfold k_addP k_addP2; rw [if_pos h1, if_neg h2]; done) | (unfold k_addP k_addP2; rw [if_pos h1, if_neg h2]; rfl)
      · skip
        first | rfl | (simp only [k_addP, k_addP2, if_pos h1, if_neg h2]; done) | (simp only [k_addP, k_addP2, if_pos h1, if_neg h2]; rfl) | (unfold k_addP k_addP2; rw [if_pos h1, if_neg h2]; done) | (unfold k_addP k_addP2; rw [if_pos h1, if_neg h2]; rfl)
      · exact (m_fr.rf)
  · skip
    refine c_run 7 (pc' := 18) (ls' := [(0, .ref 21), (1, .int x), (2, .int v)]) (st' := [.int (((k_sh 1 (I, J)).1 20 0) - (1 : Int32)), .ref 22, .int x]) (μ' := (I, J)) (Nat.le_of_ble_eq_true rfl) rfl ?_
    refine c_ial (p - 1) 8 (Nat.le_of_ble_eq_true rfl) rfl rfl rfl rfl (by rw [hp]; exact k_p1 (k_ge1 hp (by assumption))) (by omega) ?_
    show m_W 75 19 [(0, .ref 21), (1, .int x), (2, .int v)] [.int ((k_sh 1 (I, J)).1 21 (p - 1)), .int x] (I, J) _
    refine c_icle 37 (Nat.le_of_ble_eq_true rfl) rfl rfl (fun h3 => ?_) (fun h3 => ?_)
    · skip
      refine c_run 1 (pc' := 38) (ls' := [(0, .ref 21), (1, .int x), (2, .int v)]) (st' := [.int (-1)]) (μ' := (I, J)) (Nat.le_of_ble_eq_true rfl) rfl ?_
      refine c_ret (Nat.le_of_ble_eq_true rfl) rfl rfl ⟨by decide, rfl⟩ ?_
      refine ⟨?_, ?_, ?_⟩
      · first | rfl | (simp only [k_addP, k_addP2, if_neg h1, if_pos h3]; done) | (simp only [k_addP, k_addP2, if_neg h1, if_pos h3]; rfl) | (unfold k_addP k_addP2; rw [if_neg h1, if_pos h3]; done) | (unfold k_addP k_addP2; rw [if_neg h1, if_pos h3]; rfl)
      · skip
        first | rfl | (simp only [k_addP, k_addP2, if_neg h1, if_pos h3]; done) | (simp only [k_addP, k_addP2, if_neg h1, if_pos h3]; rfl) | (unfold k_addP k_addP2; rw [if_neg h1, if_pos h3]; done) | (unfold k_addP k_addP2; rw [if_neg h1, if_pos h3]; rfl)
      · exact (m_fr.rf)
    · skip
      refine c_run 7 (pc' := 33) (ls' := [(0, .ref 21), (1, .int x), (2, .int v)]) (st' := [.int (((k_sh 1 (I, J)).1 20 0) - (1 : Int32)), .ref 23, .int v]) (μ' := (I, J)) (Nat.le_of_ble_eq_true rfl) rfl ?_
      refine c_ial (p - 1) 8 (Nat.le_of_ble_eq_true rfl) rfl rfl rfl rfl (by rw [hp]; exact k_p1 (k_ge1 hp (by assumption))) (by omega) ?_
      show m_W 75 34 [(0, .ref 21), (1, .int x), (2, .int v)] [.int ((k_sh 1 (I, J)).1 22 (p - 1)), .int v] (I, J) _
      refine c_icge 39 (Nat.le_of_ble_eq_true rfl) rfl rfl (fun h4 => ?_) (fun h4 => ?_)
      · skip
        refine c_run 3 (pc' := 45) (ls' := [(0, .ref 21), (1, .int x), (2, .int v)]) (st' := [.int 8, .int ((k_sh 1 (I, J)).1 20 0)]) (μ' := (I, J)) (Nat.le_of_ble_eq_true rfl) rfl ?_
        refine c_iclt 51 (Nat.le_of_ble_eq_true rfl) rfl rfl (fun h5 => ?_) (fun h5 => ?_)
        · skip
          refine c_run 5 (pc' := 60) (ls' := [(0, .ref 21), (1, .int x), (2, .int v)]) (st' := [.int x, .int ((k_sh 1 (I, J)).1 20 0), .ref 22]) (μ' := (I, J)) (Nat.le_of_ble_eq_true rfl) rfl ?_
          refine c_ias p 8 (Nat.le_of_ble_eq_true rfl) rfl rfl rfl rfl hp (k_ltn 8 hp (by assumption) (by omega) (by omega)) ?_
          show m_W 75 61 [(0, .ref 21), (1, .int x), (2, .int v)] [] ((m_ui I 22 p x), J) _
          refine c_run 5 (pc' := 70) (ls' := [(0, .ref 21), (1, .int x), (2, .int v)]) (st' := [.int v, .int ((k_sh 1 (I, J)).1 20 0), .ref 23]) (μ' := ((m_ui I 22 p x), J)) (Nat.le_of_ble_eq_true rfl) rfl ?_
          refine c_ias p 8 (Nat.le_of_ble_eq_true rfl) rfl rfl rfl rfl hp (k_ltn 8 hp (by assumption) (by omega) (by omega)) ?_
          show m_W 75 71 [(0, .ref 21), (1, .int x), (2, .int v)] [] ((m_ui (m_ui I 22 p x) 23 p v), J) _
          refine c_run 8 (pc' := 85) (ls' := [(0, .ref 21), (1, .int x), (2, .int v)]) (st' := [.int (((k_sh 1 (I, J)).1 20 0) + (1 : Int32))]) (μ' := ((m_ui (m_ui (m_ui I 22 p x) 23 p v) 21 0 (((k_sh 1 (I, J)).1 20 0) + (1 : Int32))), J)) (Nat.le_of_ble_eq_true rfl) rfl ?_
          refine c_ret (Nat.le_of_ble_eq_true rfl) rfl rfl ⟨by decide, rfl⟩ ?_
          refine ⟨?_, ?_, ?_⟩
          · first | rfl | (simp only [k_addP, k_addP2, if_neg h1, if_neg h3, if_pos h4, if_pos h5]; done) | (simp only [k_addP, k_addP2, if_neg h1, if_neg h3, if_pos h4, if_pos h5]; rfl) | (unfold k_addP k_addP2; rw [if_neg h1, if_neg h3, if_pos h4, if_pos h5]; done) | (unfold k_addP k_addP2; rw [if_neg h1, if_neg h3, if_pos h4, if_pos h5]; rfl) | (rw [k_ui 20 rfl rfl, k_ui 22 rfl rfl, k_ui 21 rfl rfl]; rfl) | (rw [k_ui 20 rfl rfl, k_ui 22 rfl rfl, k_ui 21 rfl rfl]; simp only [k_addP, k_addP2, if_neg h1, if_neg h3, if_pos h4, if_pos h5]; done) | (rw [k_ui 20 rfl rfl, k_ui 22 rfl rfl, k_ui 21 rfl rfl]; simp only [k_addP, k_addP2, if_neg h1, if_neg h3, if_pos h4, if_pos h5]; rfl) | (rw [k_ui 20 rfl rfl, k_ui 22 rfl rfl, k_ui 21 rfl rfl]; unfold k_addP k_addP2; rw [if_neg h1, if_neg h3, if_pos h4, if_pos h5]; done) | (rw [k_ui 20 rfl rfl, k_ui 22 rfl rfl, k_ui 21 rfl rfl]; unfold k_addP k_addP2; rw [if_neg h1, if_neg h3, if_pos h4, if_pos h5]; rfl)
          · rw [k_ui 20 rfl rfl, k_ui 22 rfl rfl, k_ui 21 rfl rfl]
            first | rfl | (simp only [k_addP, k_addP2, if_neg h1, if_neg h3, if_pos h4, if_pos h5]; done) | (simp only [k_addP, k_addP2, if_neg h1, if_neg h3, if_pos h4, if_pos h5]; rfl) | (unfold k_addP k_addP2; rw [if_neg h1, if_neg h3, if_pos h4, if_pos h5]; done) | (unfold k_addP k_addP2; rw [if_neg h1, if_neg h3, if_pos h4, if_pos h5]; rfl)
          · exact ((((m_fr.rf).ui rfl rfl).ui rfl rfl).ui rfl rfl)
        · skip
          refine c_run 1 (pc' := 50) (ls' := [(0, .ref 21), (1, .int x), (2, .int v)]) (st' := [.int (-3)]) (μ' := (I, J)) (Nat.le_of_ble_eq_true rfl) rfl ?_
          refine c_ret (Nat.le_of_ble_eq_true rfl) rfl rfl ⟨by decide, rfl⟩ ?_
          refine ⟨?_, ?_, ?_⟩
          · first | rfl | (simp only [k_addP, k_addP2, if_neg h1, if_neg h3, if_pos h4, if_neg h5]; done) | (simp only [k_addP, k_addP2, if_neg h1, if_neg h3, if_pos h4, if_neg h5]; rfl) | (unfold k_addP k_addP2; rw [if_neg h1, if_neg h3, if_pos h4, if_neg h5]; done) | (unfold k_addP k_addP2; rw [if_neg h1, if_neg h3, if_pos h4, if_neg h5]; rfl)
          · skip
            first | rfl | (simp only [k_addP, k_addP2, if_neg h1, if_neg h3, if_pos h4, if_neg h5]; done) | (simp only [k_addP, k_addP2, if_neg h1, if_neg h3, if_pos h4, if_neg h5]; rfl) | (unfold k_addP k_addP2; rw [if_neg h1, if_neg h3, if_pos h4, if_neg h5]; done) | (unfold k_addP k_addP2; rw [if_neg h1, if_neg h3, if_pos h4, if_neg h5]; rfl)
          · exact (m_fr.rf)
      · skip
        refine c_run 1 (pc' := 38) (ls' := [(0, .ref 21), (1, .int x), (2, .int v)]) (st' := [.int (-1)]) (μ' := (I, J)) (Nat.le_of_ble_eq_true rfl) rfl ?_
        refine c_ret (Nat.le_of_ble_eq_true rfl) rfl rfl ⟨by decide, rfl⟩ ?_
        refine ⟨?_, ?_, ?_⟩
        · first | rfl | (simp only [k_addP, k_addP2, if_neg h1, if_neg h3, if_neg h4]; done) | (simp only [k_addP, k_addP2, if_neg h1, if_neg h3, if_neg h4]; rfl) | (unfold k_addP k_addP2; rw [if_neg h1, if_neg h3, if_neg h4]; done) | (unfold k_addP k_addP2; rw [if_neg h1, if_neg h3, if_neg h4]; rfl)
        · skip
          first | rfl | (simp only [k_addP, k_addP2, if_neg h1, if_neg h3, if_neg h4]; done) | (simp only [k_addP, k_addP2, if_neg h1, if_neg h3, if_neg h4]; rfl) | (unfold k_addP k_addP2; rw [if_neg h1, if_neg h3, if_neg h4]; done) | (unfold k_addP k_addP2; rw [if_neg h1, if_neg h3, if_neg h4]; rfl)
        · exact (m_fr.rf)

set_option maxRecDepth 100000 in
theorem t1_addE (I : Nat → Nat → Int32) (J : Nat → Nat → Int64) (nm fl un : Int32) (m : Nat) (hm : (k_sh 1 (I, J)).1 23 0 = nI m) (hm6 : m ≤ 6) : m_W 68 0 (lv_args 0 [.ref 24, .int nm, .int fl, .int un]) [] (I, J) (k_E 1 (I, J) (some (.int (k_addE (k_sh 1 (I, J)) m nm fl un).1)) (k_addE (k_sh 1 (I, J)) m nm fl un).2) := by
  show m_W 68 0 [(0, .ref 24), (1, .int nm), (2, .int fl), (3, .int un)] [] (I, J) _
  refine c_run 3 (pc' := 6) (ls' := [(0, .ref 24), (1, .int nm), (2, .int fl), (3, .int un)]) (st' := [.int 6, .int ((k_sh 1 (I, J)).1 23 0)]) (μ' := (I, J)) (Nat.le_of_ble_eq_true rfl) rfl ?_
  refine c_iclt 12 (Nat.le_of_ble_eq_true rfl) rfl rfl (fun h1 => ?_) (fun h1 => ?_)
  · skip
    refine c_run 5 (pc' := 21) (ls' := [(0, .ref 24), (1, .int nm), (2, .int fl), (3, .int un)]) (st' := [.int nm, .int ((k_sh 1 (I, J)).1 23 0), .ref 25]) (μ' := (I, J)) (Nat.le_of_ble_eq_true rfl) rfl ?_
    refine c_ias m 6 (Nat.le_of_ble_eq_true rfl) rfl rfl rfl rfl hm (k_ltn 6 hm (by assumption) (by omega) (by omega)) ?_
    show m_W 68 22 [(0, .ref 24), (1, .int nm), (2, .int fl), (3, .int un)] [] ((m_ui I 25 m nm), J) _
    refine c_run 5 (pc' := 31) (ls' := [(0, .ref 24), (1, .int nm), (2, .int fl), (3, .int un)]) (st' := [.int fl, .int ((k_sh 1 (I, J)).1 23 0), .ref 26]) (μ' := ((m_ui I 25 m nm), J)) (Nat.le_of_ble_eq_true rfl) rfl ?_
    refine c_ias m 6 (Nat.le_of_ble_eq_true rfl) rfl rfl rfl rfl hm (k_ltn 6 hm (by assumption) (by omega) (by omega)) ?_
    show m_W 68 32 [(0, .ref 24), (1, .int nm), (2, .int fl), (3, .int un)] [] ((m_ui (m_ui I 25 m nm) 26 m fl), J) _
    refine c_run 5 (pc' := 41) (ls' := [(0, .ref 24), (1, .int nm), (2, .int fl), (3, .int un)]) (st' := [.int un, .int ((k_sh 1 (I, J)).1 23 0), .ref 27]) (μ' := ((m_ui (m_ui I 25 m nm) 26 m fl), J)) (Nat.le_of_ble_eq_true rfl) rfl ?_
    refine c_ias m 6 (Nat.le_of_ble_eq_true rfl) rfl rfl rfl rfl hm (k_ltn 6 hm (by assumption) (by omega) (by omega)) ?_
    show m_W 68 42 [(0, .ref 24), (1, .int nm), (2, .int fl), (3, .int un)] [] ((m_ui (m_ui (m_ui I 25 m nm) 26 m fl) 27 m un), J) _
    refine c_run 5 (pc' := 52) (ls' := [(0, .ref 24), (1, .int nm), (2, .int fl), (3, .int un)]) (st' := [.int 15, .int ((k_sh 1 (I, J)).1 23 0), .ref 28]) (μ' := ((m_ui (m_ui (m_ui I 25 m nm) 26 m fl) 27 m un), J)) (Nat.le_of_ble_eq_true rfl) rfl ?_
    refine c_ias m 6 (Nat.le_of_ble_eq_true rfl) rfl rfl rfl rfl hm (k_ltn 6 hm (by assumption) (by omega) (by omega)) ?_
    show m_W 68 53 [(0, .ref 24), (1, .int nm), (2, .int fl), (3, .int un)] [] ((m_ui (m_ui (m_ui (m_ui I 25 m nm) 26 m fl) 27 m un) 28 m 15), J) _
    refine c_run 10 (pc' := 69) (ls' := [(0, .ref 24), (1, .int nm), (2, .int fl), (3, .int un)]) (st' := [.int ((((k_sh 1 (I, J)).1 23 0) + (1 : Int32)) - (1 : Int32))]) (μ' := ((m_ui (m_ui (m_ui (m_ui (m_ui I 25 m nm) 26 m fl) 27 m un) 28 m 15) 24 0 (((k_sh 1 (I, J)).1 23 0) + (1 : Int32))), J)) (Nat.le_of_ble_eq_true rfl) rfl ?_
    refine c_ret (Nat.le_of_ble_eq_true rfl) rfl rfl ⟨by decide, rfl⟩ ?_
    refine ⟨?_, ?_, ?_⟩
    · first | rfl | (simp only [k_addE, if_pos h1]; done) | (simp only [k_addE, if_pos h1]; rfl) | (unfold k_addE; rw [if_pos h1]; done) | (unfold k_addE; rw [if_pos h1]; rfl) | (rw [k_ui 23 rfl rfl, k_ui 27 rfl rfl, k_ui 26 rfl rfl, k_ui 25 rfl rfl, k_ui 24 rfl rfl]; rfl) | (rw [k_ui 23 rfl rfl, k_ui 27 rfl rfl, k_ui 26 rfl rfl, k_ui 25 rfl rfl, k_ui 24 rfl rfl]; simp only [k_addE, if_pos h1]; done) | (rw [k_ui 23 rfl rfl, k_ui 27 rfl rfl, k_ui 26 rfl rfl, k_ui 25 rfl rfl, k_ui 24 rfl rfl]; simp only [k_addE, if_pos h1]; rfl) | (rw [k_ui 23 rfl rfl, k_ui 27 rfl rfl, k_ui 26 rfl rfl, k_ui 25 rfl rfl, k_ui 24 rfl rfl]; unfold k_addE; rw [if_pos h1]; done) | (rw [k_ui 23 rfl rfl, k_ui 27 rfl rfl, k_ui 26 rfl rfl, k_ui 25 rfl rfl, k_ui 24 rfl rfl]; unfold k_addE; rw [if_pos h1]; rfl)
    · rw [k_ui 23 rfl rfl, k_ui 27 rfl rfl, k_ui 26 rfl rfl, k_ui 25 rfl rfl, k_ui 24 rfl rfl]
      first | rfl | (simp only [k_addE, if_pos h1]; done) | (simp only [k_addE, if_pos h1]; rfl) | (unfold k_addE; rw [if_pos h1]; done) | (unfold k_addE; rw [if_pos h1]; rfl)
    · exact ((((((m_fr.rf).ui rfl rfl).ui rfl rfl).ui rfl rfl).ui rfl rfl).ui rfl rfl)
  · skip
    refine c_run 1 (pc' := 11) (ls' := [(0, .ref 24), (1, .int nm), (2, .int fl), (3, .int un)]) (st' := [.int (-3)]) (μ' := (I, J)) (Nat.le_of_ble_eq_true rfl) rfl ?_
    refine c_ret (Nat.le_of_ble_eq_true rfl) rfl rfl ⟨by decide, rfl⟩ ?_
    refine ⟨?_, ?_, ?_⟩
    · first | rfl | (simp only [k_addE, if_neg h1]; done) | (simp only [k_addE, if_neg h1]; rfl) | (unfold k_addE; rw [if_neg h1]; done) | (unfold k_addE; rw [if_neg h1]; rfl)
    · skip
      first | rfl | (simp only [k_addE, if_neg h1]; done) | (simp only [k_addE, if_neg h1]; rfl) | (unfold k_addE; rw [if_neg h1]; done) | (unfold k_addE; rw [if_neg h1]; rfl)
    · exact (m_fr.rf)

set_option maxRecDepth 100000 in
theorem t1_ball (I : Nat → Nat → Int32) (J : Nat → Nat → Int64)  : m_W 69 0 (lv_args 0 [.ref 24]) [] (I, J) (m_E (some (.long (k_ball (k_sh 1 (I, J))))) (I, J)) := by
  show m_W 69 0 [(0, .ref 24)] [] (I, J) _
  refine c_run 6 (pc' := 7) (ls' := [(3, .int 0), (1, .long 0), (0, .ref 24)]) (st' := [.int 6, .int 0]) (μ' := (I, J)) (Nat.le_of_ble_eq_true rfl) rfl ?_
  refine c_icge 25 (Nat.le_of_ble_eq_true rfl) rfl rfl (fun h1 => absurd h1 (by decide)) (fun h1 => ?_)
  refine c_run 4 (pc' := 16) (ls' := [(3, .int 0), (1, .long 0), (0, .ref 24)]) (st' := [.int 0, .ref 29, .long 0]) (μ' := (I, J)) (Nat.le_of_ble_eq_true rfl) rfl ?_
  refine c_lal 0 6 (Nat.le_of_ble_eq_true rfl) rfl rfl rfl rfl rfl (by decide) ?_
  show m_W 69 17 [(3, .int 0), (1, .long 0), (0, .ref 24)] [.long ((k_sh 1 (I, J)).2 28 0), .long 0] (I, J) _
  refine c_run 6 (pc' := 7) (ls' := [(3, .int 1), (1, .long ((0 : Int64) + ((k_sh 1 (I, J)).2 28 0))), (0, .ref 24)]) (st' := [.int 6, .int 1]) (μ' := (I, J)) (Nat.le_of_ble_eq_true rfl) rfl ?_
  refine c_icge 25 (Nat.le_of_ble_eq_true rfl) rfl rfl (fun h2 => absurd h2 (by decide)) (fun h2 => ?_)
  refine c_run 4 (pc' := 16) (ls' := [(3, .int 1), (1, .long ((0 : Int64) + ((k_sh 1 (I, J)).2 28 0))), (0, .ref 24)]) (st' := [.int 1, .ref 29, .long ((0 : Int64) + ((k_sh 1 (I, J)).2 28 0))]) (μ' := (I, J)) (Nat.le_of_ble_eq_true rfl) rfl ?_
  refine c_lal 1 6 (Nat.le_of_ble_eq_true rfl) rfl rfl rfl rfl rfl (by decide) ?_
  show m_W 69 17 [(3, .int 1), (1, .long ((0 : Int64) + ((k_sh 1 (I, J)).2 28 0))), (0, .ref 24)] [.long ((k_sh 1 (I, J)).2 28 1), .long ((0 : Int64) + ((k_sh 1 (I, J)).2 28 0))] (I, J) _
  refine c_run 6 (pc' := 7) (ls' := [(3, .int 2), (1, .long (((0 : Int64) + ((k_sh 1 (I, J)).2 28 0)) + ((k_sh 1 (I, J)).2 28 1))), (0, .ref 24)]) (st' := [.int 6, .int 2]) (μ' := (I, J)) (Nat.le_of_ble_eq_true rfl) rfl ?_
  refine c_icge 25 (Nat.le_of_ble_eq_true rfl) rfl rfl (fun h3 => absurd h3 (by decide)) (fun h3 => ?_)
  refine c_run 4 (pc' := 16) (ls' := [(3, .int 2), (1, .long (((0 : Int64) + ((k_sh 1 (I, J)).2 28 0)) + ((k_sh 1 (I, J)).2 28 1))), (0, .ref 24)]) (st' := [.int 2, .ref 29, .long (((0 : Int64) + ((k_sh 1 (I, J)).2 28 0)) + ((k_sh 1 (I, J)).2 28 1))]) (μ' := (I, J)) (Nat.le_of_ble_eq_true rfl) rfl ?_
  refine c_lal 2 6 (Nat.le_of_ble_eq_true rfl) rfl rfl rfl rfl rfl (by decide) ?_
  show m_W 69 17 [(3, .int 2), (1, .long (((0 : Int64) + ((k_sh 1 (I, J)).2 28 0)) + ((k_sh 1 (I, J)).2 28 1))), (0, .ref 24)] [.long ((k_sh 1 (I, J)).2 28 2), .long (((0 : Int64) + ((k_sh 1 (I, J)).2 28 0)) + ((k_sh 1 (I, J)).2 28 1))] (I, J) _
  refine c_run 6 (pc' := 7) (ls' := [(3, .int 3), (1, .long ((((0 : Int64) + ((k_sh 1 (I, J)).2 28 0)) + ((k_sh 1 (I, J)).2 28 1)) + ((k_sh 1 (I, J)).2 28 2))), (0, .ref 24)]) (st' := [.int 6, .int 3]) (μ' := (I, J)) (Nat.le_of_ble_eq_true rfl) rfl ?_
  refine c_icge 25 (Nat.le_of_ble_eq_true rfl) rfl rfl (fun h4 => absurd h4 (by decide)) (fun h4 => ?_)
  refine c_run 4 (pc' := 16) (ls' := [(3, .int 3), (1, .long ((((0 : Int64) + ((k_sh 1 (I, J)).2 28 0)) + ((k_sh 1 (I, J)).2 28 1)) + ((k_sh 1 (I, J)).2 28 2))), (0, .ref 24)]) (st' := [.int 3, .ref 29, .long ((((0 : Int64) + ((k_sh 1 (I, J)).2 28 0)) + ((k_sh 1 (I, J)).2 28 1)) + ((k_sh 1 (I, J)).2 28 2))]) (μ' := (I, J)) (Nat.le_of_ble_eq_true rfl) rfl ?_
  refine c_lal 3 6 (Nat.le_of_ble_eq_true rfl) rfl rfl rfl rfl rfl (by decide) ?_
  show m_W 69 17 [(3, .int 3), (1, .long ((((0 : Int64) + ((k_sh 1 (I, J)).2 28 0)) + ((k_sh 1 (I, J)).2 28 1)) + ((k_sh 1 (I, J)).2 28 2))), (0, .ref 24)] [.long ((k_sh 1 (I, J)).2 28 3), .long ((((0 : Int64) + ((k_sh 1 (I, J)).2 28 0)) + ((k_sh 1 (I, J)).2 28 1)) + ((k_sh 1 (I, J)).2 28 2))] (I, J) _
  refine c_run 6 (pc' := 7) (ls' := [(3, .int 4), (1, .long (((((0 : Int64) + ((k_sh 1 (I, J)).2 28 0)) + ((k_sh 1 (I, J)).2 28 1)) + ((k_sh 1 (I, J)).2 28 2)) + ((k_sh 1 (I, J)).2 28 3))), (0, .ref 24)]) (st' := [.int 6, .int 4]) (μ' := (I, J)) (Nat.le_of_ble_eq_true rfl) rfl ?_
  refine c_icge 25 (Nat.le_of_ble_eq_true rfl) rfl rfl (fun h5 => absurd h5 (by decide)) (fun h5 => ?_)
  refine c_run 4 (pc' := 16) (ls' := [(3, .int 4), (1, .long (((((0 : Int64) + ((k_sh 1 (I, J)).2 28 0)) + ((k_sh 1 (I, J)).2 28 1)) + ((k_sh 1 (I, J)).2 28 2)) + ((k_sh 1 (I, J)).2 28 3))), (0, .ref 24)]) (st' := [.int 4, .ref 29, .long (((((0 : Int64) + ((k_sh 1 (I, J)).2 28 0)) + ((k_sh 1 (I, J)).2 28 1)) + ((k_sh 1 (I, J)).2 28 2)) + ((k_sh 1 (I, J)).2 28 3))]) (μ' := (I, J)) (Nat.le_of_ble_eq_true rfl) rfl ?_
  refine c_lal 4 6 (Nat.le_of_ble_eq_true rfl) rfl rfl rfl rfl rfl (by decide) ?_
  show m_W 69 17 [(3, .int 4), (1, .long (((((0 : Int64) + ((k_sh 1 (I, J)).2 28 0)) + ((k_sh 1 (I, J)).2 28 1)) + ((k_sh 1 (I, J)).2 28 2)) + ((k_sh 1 (I, J)).2 28 3))), (0, .ref 24)] [.long ((k_sh 1 (I, J)).2 28 4), .long (((((0 : Int64) + ((k_sh 1 (I, J)).2 28 0)) + ((k_sh 1 (I, J)).2 28 1)) + ((k_sh 1 (I, J)).2 28 2)) + ((k_sh 1 (I, J)).2 28 3))] (I, J) _
  refine c_run 6 (pc' := 7) (ls' := [(3, .int 5), (1, .long ((((((0 : Int64) + ((k_sh 1 (I, J)).2 28 0)) + ((k_sh 1 (I, J)).2 28 1)) + ((k_sh 1 (I, J)).2 28 2)) + ((k_sh 1 (I, J)).2 28 3)) + ((k_sh 1 (I, J)).2 28 4))), (0, .ref 24)]) (st' := [.int 6, .int 5]) (μ' := (I, J)) (Nat.le_of_ble_eq_true rfl) rfl ?_
  refine c_icge 25 (Nat.le_of_ble_eq_true rfl) rfl rfl (fun h6 => absurd h6 (by decide)) (fun h6 => ?_)
  refine c_run 4 (pc' := 16) (ls' := [(3, .int 5), (1, .long ((((((0 : Int64) + ((k_sh 1 (I, J)).2 28 0)) + ((k_sh 1 (I, J)).2 28 1)) + ((k_sh 1 (I, J)).2 28 2)) + ((k_sh 1 (I, J)).2 28 3)) + ((k_sh 1 (I, J)).2 28 4))), (0, .ref 24)]) (st' := [.int 5, .ref 29, .long ((((((0 : Int64) + ((k_sh 1 (I, J)).2 28 0)) + ((k_sh 1 (I, J)).2 28 1)) + ((k_sh 1 (I, J)).2 28 2)) + ((k_sh 1 (I, J)).2 28 3)) + ((k_sh 1 (I, J)).2 28 4))]) (μ' := (I, J)) (Nat.le_of_ble_eq_true rfl) rfl ?_
  refine c_lal 5 6 (Nat.le_of_ble_eq_true rfl) rfl rfl rfl rfl rfl (by decide) ?_
  show m_W 69 17 [(3, .int 5), (1, .long ((((((0 : Int64) + ((k_sh 1 (I, J)).2 28 0)) + ((k_sh 1 (I, J)).2 28 1)) + ((k_sh 1 (I, J)).2 28 2)) + ((k_sh 1 (I, J)).2 28 3)) + ((k_sh 1 (I, J)).2 28 4))), (0, .ref 24)] [.long ((k_sh 1 (I, J)).2 28 5), .long ((((((0 : Int64) + ((k_sh 1 (I, J)).2 28 0)) + ((k_sh 1 (I, J)).2 28 1)) + ((k_sh 1 (I, J)).2 28 2)) + ((k_sh 1 (I, J)).2 28 3)) + ((k_sh 1 (I, J)).2 28 4))] (I, J) _
  refine c_run 6 (pc' := 7) (ls' := [(3, .int 6), (1, .long (((((((0 : Int64) + ((k_sh 1 (I, J)).2 28 0)) + ((k_sh 1 (I, J)).2 28 1)) + ((k_sh 1 (I, J)).2 28 2)) + ((k_sh 1 (I, J)).2 28 3)) + ((k_sh 1 (I, J)).2 28 4)) + ((k_sh 1 (I, J)).2 28 5))), (0, .ref 24)]) (st' := [.int 6, .int 6]) (μ' := (I, J)) (Nat.le_of_ble_eq_true rfl) rfl ?_
  refine c_icge 25 (Nat.le_of_ble_eq_true rfl) rfl rfl (fun h7 => ?_) (fun h7 => absurd (by decide) h7)
  refine c_run 1 (pc' := 26) (ls' := [(3, .int 6), (1, .long (((((((0 : Int64) + ((k_sh 1 (I, J)).2 28 0)) + ((k_sh 1 (I, J)).2 28 1)) + ((k_sh 1 (I, J)).2 28 2)) + ((k_sh 1 (I, J)).2 28 3)) + ((k_sh 1 (I, J)).2 28 4)) + ((k_sh 1 (I, J)).2 28 5))), (0, .ref 24)]) (st' := [.long (((((((0 : Int64) + ((k_sh 1 (I, J)).2 28 0)) + ((k_sh 1 (I, J)).2 28 1)) + ((k_sh 1 (I, J)).2 28 2)) + ((k_sh 1 (I, J)).2 28 3)) + ((k_sh 1 (I, J)).2 28 4)) + ((k_sh 1 (I, J)).2 28 5))]) (μ' := (I, J)) (Nat.le_of_ble_eq_true rfl) rfl ?_
  refine c_lret (Nat.le_of_ble_eq_true rfl) rfl rfl ?_
  exact ⟨rfl, rfl⟩

set_option maxRecDepth 100000 in
theorem t1_bl_l (I : Nat → Nat → Int32) (J : Nat → Nat → Int64) (s : Int32) (n : Nat) (hn : (k_sh 1 (I, J)).1 1 0 = nI n) (hn4 : n ≤ 4) : ∀ (r i : Nat), i + r = n → m_W 92 2 [(0, .ref 2), (1, .int s), (2, .int (nI i))] [] (I, J) (m_E (some (.int (k_bl (k_sh 1 (I, J)) s i r))) (I, J)) := by
  intro r
  induction r with
  | zero =>
    intro i hir
    refine c_run 3 (pc' := 7) (ls' := [(0, .ref 2), (1, .int s), (2, .int (nI i))]) (st' := [.int ((k_sh 1 (I, J)).1 1 0), .int (nI i)]) (μ' := (I, J)) (Nat.le_of_ble_eq_true rfl) rfl ?_
    refine c_icge 44 (Nat.le_of_ble_eq_true rfl) rfl rfl (fun h1 => ?_) (fun h1 => absurd (by rw [hn]; exact nI_le (by omega) (by omega)) h1)
    refine c_run 1 (pc' := 45) (ls' := [(0, .ref 2), (1, .int s), (2, .int (nI i))]) (st' := [.int 0]) (μ' := (I, J)) (Nat.le_of_ble_eq_true rfl) rfl ?_
    refine c_ret (Nat.le_of_ble_eq_true rfl) rfl rfl ⟨by decide, rfl⟩ ?_
    exact ⟨rfl, rfl⟩
  | succ r ih =>
    intro i hir
    refine c_run 3 (pc' := 7) (ls' := [(0, .ref 2), (1, .int s), (2, .int (nI i))]) (st' := [.int ((k_sh 1 (I, J)).1 1 0), .int (nI i)]) (μ' := (I, J)) (Nat.le_of_ble_eq_true rfl) rfl ?_
    refine c_icge 44 (Nat.le_of_ble_eq_true rfl) rfl rfl (fun h1 => absurd h1 (by rw [hn]; exact nI_ge (by omega) (by omega))) (fun h1 => ?_)
    refine c_run 6 (pc' := 16) (ls' := [(0, .ref 2), (1, .int s), (2, .int (nI i))]) (st' := [.int 1, .int ((s >>> ((nI i) &&& 31)) &&& (1 : Int32))]) (μ' := (I, J)) (Nat.le_of_ble_eq_true rfl) rfl ?_
    refine c_icne 38 (Nat.le_of_ble_eq_true rfl) rfl rfl (fun h2 => ?_) (fun h2 => ?_)
    · skip
      refine c_run 2 (pc' := 2) (ls' := [(2, .int ((nI i) + (1 : Int32))), (0, .ref 2), (1, .int s)]) (st' := []) (μ' := (I, J)) (Nat.le_of_ble_eq_true rfl) rfl ?_
      refine c_w [1, 2, 0] (ls' := [(0, .ref 2), (1, .int s), (2, .int ((nI i) + (1 : Int32)))]) rfl ?_
      rw [nI_1 i, k_bl, if_neg (fun q => by first | exact absurd q.1 (by assumption) | exact absurd (by assumption) (Int64.not_le.mpr q.2))]
      exact ih (i + 1) (by omega)
    · skip
      refine c_run 3 (pc' := 24) (ls' := [(0, .ref 2), (1, .int s), (2, .int (nI i))]) (st' := [.int (nI i), .ref 8]) (μ' := (I, J)) (Nat.le_of_ble_eq_true rfl) rfl ?_
      refine c_lal i 4 (Nat.le_of_ble_eq_true rfl) rfl rfl rfl rfl rfl (by omega) ?_
      show m_W 92 25 [(0, .ref 2), (1, .int s), (2, .int (nI i))] [.long ((k_sh 1 (I, J)).2 7 i)] (I, J) _
      refine c_run 3 (pc' := 30) (ls' := [(0, .ref 2), (1, .int s), (2, .int (nI i))]) (st' := [.int (nI i), .ref 4, .long ((k_sh 1 (I, J)).2 7 i)]) (μ' := (I, J)) (Nat.le_of_ble_eq_true rfl) rfl ?_
      refine c_ial i 4 (Nat.le_of_ble_eq_true rfl) rfl rfl rfl rfl rfl (by omega) ?_
      show m_W 92 31 [(0, .ref 2), (1, .int s), (2, .int (nI i))] [.int ((k_sh 1 (I, J)).1 3 i), .long ((k_sh 1 (I, J)).2 7 i)] (I, J) _
      refine c_run 2 (pc' := 33) (ls' := [(0, .ref 2), (1, .int s), (2, .int (nI i))]) (st' := [.int (lg_cmp ((k_sh 1 (I, J)).2 7 i) ((((k_sh 1 (I, J)).1 3 i) : Int32).toInt64))]) (μ' := (I, J)) (Nat.le_of_ble_eq_true rfl) rfl ?_
      refine c_ifge 38 (Nat.le_of_ble_eq_true rfl) rfl rfl (fun h3 => ?_) (fun h3 => ?_)
      · replace h3 := lc_ge.mp h3
        refine c_run 2 (pc' := 2) (ls' := [(2, .int ((nI i) + (1 : Int32))), (0, .ref 2), (1, .int s)]) (st' := []) (μ' := (I, J)) (Nat.le_of_ble_eq_true rfl) rfl ?_
        refine c_w [1, 2, 0] (ls' := [(0, .ref 2), (1, .int s), (2, .int ((nI i) + (1 : Int32)))]) rfl ?_
        rw [nI_1 i, k_bl, if_neg (fun q => by first | exact absurd q.1 (by assumption) | exact absurd (by assumption) (Int64.not_le.mpr q.2))]
        exact ih (i + 1) (by omega)
      · replace h3 := mt lc_ge.mpr h3
        refine c_run 1 (pc' := 37) (ls' := [(0, .ref 2), (1, .int s), (2, .int (nI i))]) (st' := [.int 1]) (μ' := (I, J)) (Nat.le_of_ble_eq_true rfl) rfl ?_
        refine c_ret (Nat.le_of_ble_eq_true rfl) rfl rfl ⟨by decide, rfl⟩ ?_
        refine ⟨?_, rfl⟩
        rw [k_bl, if_pos ⟨by assumption, Int64.not_le.mp (by assumption)⟩]

set_option maxRecDepth 100000 in
theorem t1_bl (I : Nat → Nat → Int32) (J : Nat → Nat → Int64) (s : Int32) (n : Nat) (hn : (k_sh 1 (I, J)).1 1 0 = nI n) (hn4 : n ≤ 4) : m_W 92 0 (lv_args 0 [.ref 2, .int s]) [] (I, J) (m_E (some (.int (k_bl (k_sh 1 (I, J)) s 0 n))) (I, J)) := by
  show m_W 92 0 [(0, .ref 2), (1, .int s)] [] (I, J) _
  refine c_run 2 (pc' := 2) (ls' := [(2, .int 0), (0, .ref 2), (1, .int s)]) (st' := []) (μ' := (I, J)) (Nat.le_of_ble_eq_true rfl) rfl ?_
  refine c_w [1, 2, 0] (ls' := [(0, .ref 2), (1, .int s), (2, .int 0)]) rfl ?_
  exact t1_bl_l I J s n hn hn4 n 0 (by omega)

set_option maxRecDepth 100000 in
theorem t38_ball (I : Nat → Nat → Int32) (J : Nat → Nat → Int64)  : m_W 69 0 (lv_args 0 [.ref 61]) [] (I, J) (m_E (some (.long (k_ball (k_sh 38 (I, J))))) (I, J)) := by
  show m_W 69 0 [(0, .ref 61)] [] (I, J) _
  refine c_run 6 (pc' := 7) (ls' := [(3, .int 0), (1, .long 0), (0, .ref 61)]) (st' := [.int 6, .int 0]) (μ' := (I, J)) (Nat.le_of_ble_eq_true rfl) rfl ?_
  refine c_icge 25 (Nat.le_of_ble_eq_true rfl) rfl rfl (fun h1 => absurd h1 (by decide)) (fun h1 => ?_)
  refine c_run 4 (pc' := 16) (ls' := [(3, .int 0), (1, .long 0), (0, .ref 61)]) (st' := [.int 0, .ref 66, .long 0]) (μ' := (I, J)) (Nat.le_of_ble_eq_true rfl) rfl ?_
  refine c_lal 0 6 (Nat.le_of_ble_eq_true rfl) rfl rfl rfl rfl rfl (by decide) ?_
  show m_W 69 17 [(3, .int 0), (1, .long 0), (0, .ref 61)] [.long ((k_sh 38 (I, J)).2 28 0), .long 0] (I, J) _
  refine c_run 6 (pc' := 7) (ls' := [(3, .int 1), (1, .long ((0 : Int64) + ((k_sh 38 (I, J)).2 28 0))), (0, .ref 61)]) (st' := [.int 6, .int 1]) (μ' := (I, J)) (Nat.le_of_ble_eq_true rfl) rfl ?_
  refine c_icge 25 (Nat.le_of_ble_eq_true rfl) rfl rfl (fun h2 => absurd h2 (by decide)) (fun h2 => ?_)
  refine c_run 4 (pc' := 16) (ls' := [(3, .int 1), (1, .long ((0 : Int64) + ((k_sh 38 (I, J)).2 28 0))), (0, .ref 61)]) (st' := [.int 1, .ref 66, .long ((0 : Int64) + ((k_sh 38 (I, J)).2 28 0))]) (μ' := (I, J)) (Nat.le_of_ble_eq_true rfl) rfl ?_
  refine c_lal 1 6 (Nat.le_of_ble_eq_true rfl) rfl rfl rfl rfl rfl (by decide) ?_
  show m_W 69 17 [(3, .int 1), (1, .long ((0 : Int64) + ((k_sh 38 (I, J)).2 28 0))), (0, .ref 61)] [.long ((k_sh 38 (I, J)).2 28 1), .long ((0 : Int64) + ((k_sh 38 (I, J)).2 28 0))] (I, J) _
  refine c_run 6 (pc' := 7) (ls' := [(3, .int 2), (1, .long (((0 : Int64) + ((k_sh 38 (I, J)).2 28 0)) + ((k_sh 38 (I, J)).2 28 1))), (0, .ref 61)]) (st' := [.int 6, .int 2]) (μ' := (I, J)) (Nat.le_of_ble_eq_true rfl) rfl ?_
  refine c_icge 25 (Nat.le_of_ble_eq_true rfl) rfl rfl (fun h3 => absurd h3 (by decide)) (fun h3 => ?_)
  refine c_run 4 (pc' := 16) (ls' := [(3, .int 2), (1, .long (((0 : Int64) + ((k_sh 38 (I, J)).2 28 0)) + ((k_sh 38 (I, J)).2 28 1))), (0, .ref 61)]) (st' := [.int 2, .ref 66, .long (((0 : Int64) + ((k_sh 38 (I, J)).2 28 0)) + ((k_sh 38 (I, J)).2 28 1))]) (μ' := (I, J)) (Nat.le_of_ble_eq_true rfl) rfl ?_
  refine c_lal 2 6 (Nat.le_of_ble_eq_true rfl) rfl rfl rfl rfl rfl (by decide) ?_
  show m_W 69 17 [(3, .int 2), (1, .long (((0 : Int64) + ((k_sh 38 (I, J)).2 28 0)) + ((k_sh 38 (I, J)).2 28 1))), (0, .ref 61)] [.long ((k_sh 38 (I, J)).2 28 2), .long (((0 : Int64) + ((k_sh 38 (I, J)).2 28 0)) + ((k_sh 38 (I, J)).2 28 1))] (I, J) _
  refine c_run 6 (pc' := 7) (ls' := [(3, .int 3), (1, .long ((((0 : Int64) + ((k_sh 38 (I, J)).2 28 0)) + ((k_sh 38 (I, J)).2 28 1)) + ((k_sh 38 (I, J)).2 28 2))), (0, .ref 61)]) (st' := [.int 6, .int 3]) (μ' := (I, J)) (Nat.le_of_ble_eq_true rfl) rfl ?_
  refine c_icge 25 (Nat.le_of_ble_eq_true rfl) rfl rfl (fun h4 => absurd h4 (by decide)) (fun h4 => ?_)
  refine c_run 4 (pc' := 16) (ls' := [(3, .int 3), (1, .long ((((0 : Int64) + ((k_sh 38 (I, J)).2 28 0)) + ((k_sh 38 (I, J)).2 28 1)) + ((k_sh 38 (I, J)).2 28 2))), (0, .ref 61)]) (st' := [.int 3, .ref 66, .long ((((0 : Int64) + ((k_sh 38 (I, J)).2 28 0)) + ((k_sh 38 (I, J)).2 28 1)) + ((k_sh 38 (I, J)).2 28 2))]) (μ' := (I, J)) (Nat.le_of_ble_eq_true rfl) rfl ?_
  refine c_lal 3 6 (Nat.le_of_ble_eq_true rfl) rfl rfl rfl rfl rfl (by decide) ?_
  show m_W 69 17 [(3, .int 3), (1, .long ((((0 : Int64) + ((k_sh 38 (I, J)).2 28 0)) + ((k_sh 38 (I, J)).2 28 1)) + ((k_sh 38 (I, J)).2 28 2))), (0, .ref 61)] [.long ((k_sh 38 (I, J)).2 28 3), .long ((((0 : Int64) + ((k_sh 38 (I, J)).2 28 0)) + ((k_sh 38 (I, J)).2 28 1)) + ((k_sh 38 (I, J)).2 28 2))] (I, J) _
  refine c_run 6 (pc' := 7) (ls' := [(3, .int 4), (1, .long (((((0 : Int64) + ((k_sh 38 (I, J)).2 28 0)) + ((k_sh 38 (I, J)).2 28 1)) + ((k_sh 38 (I, J)).2 28 2)) + ((k_sh 38 (I, J)).2 28 3))), (0, .ref 61)]) (st' := [.int 6, .int 4]) (μ' := (I, J)) (Nat.le_of_ble_eq_true rfl) rfl ?_
  refine c_icge 25 (Nat.le_of_ble_eq_true rfl) rfl rfl (fun h5 => absurd h5 (by decide)) (fun h5 => ?_)
  refine c_run 4 (pc' := 16) (ls' := [(3, .int 4), (1, .long (((((0 : Int64) + ((k_sh 38 (I, J)).2 28 0)) + ((k_sh 38 (I, J)).2 28 1)) + ((k_sh 38 (I, J)).2 28 2)) + ((k_sh 38 (I, J)).2 28 3))), (0, .ref 61)]) (st' := [.int 4, .ref 66, .long (((((0 : Int64) + ((k_sh 38 (I, J)).2 28 0)) + ((k_sh 38 (I, J)).2 28 1)) + ((k_sh 38 (I, J)).2 28 2)) + ((k_sh 38 (I, J)).2 28 3))]) (μ' := (I, J)) (Nat.le_of_ble_eq_true rfl) rfl ?_
  refine c_lal 4 6 (Nat.le_of_ble_eq_true rfl) rfl rfl rfl rfl rfl (by decide) ?_
  show m_W 69 17 [(3, .int 4), (1, .long (((((0 : Int64) + ((k_sh 38 (I, J)).2 28 0)) + ((k_sh 38 (I, J)).2 28 1)) + ((k_sh 38 (I, J)).2 28 2)) + ((k_sh 38 (I, J)).2 28 3))), (0, .ref 61)] [.long ((k_sh 38 (I, J)).2 28 4), .long (((((0 : Int64) + ((k_sh 38 (I, J)).2 28 0)) + ((k_sh 38 (I, J)).2 28 1)) + ((k_sh 38 (I, J)).2 28 2)) + ((k_sh 38 (I, J)).2 28 3))] (I, J) _
  refine c_run 6 (pc' := 7) (ls' := [(3, .int 5), (1, .long ((((((0 : Int64) + ((k_sh 38 (I, J)).2 28 0)) + ((k_sh 38 (I, J)).2 28 1)) + ((k_sh 38 (I, J)).2 28 2)) + ((k_sh 38 (I, J)).2 28 3)) + ((k_sh 38 (I, J)).2 28 4))), (0, .ref 61)]) (st' := [.int 6, .int 5]) (μ' := (I, J)) (Nat.le_of_ble_eq_true rfl) rfl ?_
  refine c_icge 25 (Nat.le_of_ble_eq_true rfl) rfl rfl (fun h6 => absurd h6 (by decide)) (fun h6 => ?_)
  refine c_run 4 (pc' := 16) (ls' := [(3, .int 5), (1, .long ((((((0 : Int64) + ((k_sh 38 (I, J)).2 28 0)) + ((k_sh 38 (I, J)).2 28 1)) + ((k_sh 38 (I, J)).2 28 2)) + ((k_sh 38 (I, J)).2 28 3)) + ((k_sh 38 (I, J)).2 28 4))), (0, .ref 61)]) (st' := [.int 5, .ref 66, .long ((((((0 : Int64) + ((k_sh 38 (I, J)).2 28 0)) + ((k_sh 38 (I, J)).2 28 1)) + ((k_sh 38 (I, J)).2 28 2)) + ((k_sh 38 (I, J)).2 28 3)) + ((k_sh 38 (I, J)).2 28 4))]) (μ' := (I, J)) (Nat.le_of_ble_eq_true rfl) rfl ?_
  refine c_lal 5 6 (Nat.le_of_ble_eq_true rfl) rfl rfl rfl rfl rfl (by decide) ?_
  show m_W 69 17 [(3, .int 5), (1, .long ((((((0 : Int64) + ((k_sh 38 (I, J)).2 28 0)) + ((k_sh 38 (I, J)).2 28 1)) + ((k_sh 38 (I, J)).2 28 2)) + ((k_sh 38 (I, J)).2 28 3)) + ((k_sh 38 (I, J)).2 28 4))), (0, .ref 61)] [.long ((k_sh 38 (I, J)).2 28 5), .long ((((((0 : Int64) + ((k_sh 38 (I, J)).2 28 0)) + ((k_sh 38 (I, J)).2 28 1)) + ((k_sh 38 (I, J)).2 28 2)) + ((k_sh 38 (I, J)).2 28 3)) + ((k_sh 38 (I, J)).2 28 4))] (I, J) _
  refine c_run 6 (pc' := 7) (ls' := [(3, .int 6), (1, .long (((((((0 : Int64) + ((k_sh 38 (I, J)).2 28 0)) + ((k_sh 38 (I, J)).2 28 1)) + ((k_sh 38 (I, J)).2 28 2)) + ((k_sh 38 (I, J)).2 28 3)) + ((k_sh 38 (I, J)).2 28 4)) + ((k_sh 38 (I, J)).2 28 5))), (0, .ref 61)]) (st' := [.int 6, .int 6]) (μ' := (I, J)) (Nat.le_of_ble_eq_true rfl) rfl ?_
  refine c_icge 25 (Nat.le_of_ble_eq_true rfl) rfl rfl (fun h7 => ?_) (fun h7 => absurd (by decide) h7)
  refine c_run 1 (pc' := 26) (ls' := [(3, .int 6), (1, .long (((((((0 : Int64) + ((k_sh 38 (I, J)).2 28 0)) + ((k_sh 38 (I, J)).2 28 1)) + ((k_sh 38 (I, J)).2 28 2)) + ((k_sh 38 (I, J)).2 28 3)) + ((k_sh 38 (I, J)).2 28 4)) + ((k_sh 38 (I, J)).2 28 5))), (0, .ref 61)]) (st' := [.long (((((((0 : Int64) + ((k_sh 38 (I, J)).2 28 0)) + ((k_sh 38 (I, J)).2 28 1)) + ((k_sh 38 (I, J)).2 28 2)) + ((k_sh 38 (I, J)).2 28 3)) + ((k_sh 38 (I, J)).2 28 4)) + ((k_sh 38 (I, J)).2 28 5))]) (μ' := (I, J)) (Nat.le_of_ble_eq_true rfl) rfl ?_
  refine c_lret (Nat.le_of_ble_eq_true rfl) rfl rfl ?_
  exact ⟨rfl, rfl⟩

set_option maxRecDepth 100000 in
theorem t38_bl_l (I : Nat → Nat → Int32) (J : Nat → Nat → Int64) (s : Int32) (n : Nat) (hn : (k_sh 38 (I, J)).1 1 0 = nI n) (hn4 : n ≤ 4) : ∀ (r i : Nat), i + r = n → m_W 92 2 [(0, .ref 39), (1, .int s), (2, .int (nI i))] [] (I, J) (m_E (some (.int (k_bl (k_sh 38 (I, J)) s i r))) (I, J)) := by
  intro r
  induction r with
  | zero =>
    intro i hir
    refine c_run 3 (pc' := 7) (ls' := [(0, .ref 39), (1, .int s), (2, .int (nI i))]) (st' := [.int ((k_sh 38 (I, J)).1 1 0), .int (nI i)]) (μ' := (I, J)) (Nat.le_of_ble_eq_true rfl) rfl ?_
    refine c_icge 44 (Nat.le_of_ble_eq_true rfl) rfl rfl (fun h1 => ?_) (fun h1 => absurd (by rw [hn]; exact nI_le (by omega) (by omega)) h1)
    refine c_run 1 (pc' := 45) (ls' := [(0, .ref 39), (1, .int s), (2, .int (nI i))]) (st' := [.int 0]) (μ' := (I, J)) (Nat.le_of_ble_eq_true rfl) rfl ?_
    refine c_ret (Nat.le_of_ble_eq_true rfl) rfl rfl ⟨by decide, rfl⟩ ?_
    exact ⟨rfl, rfl⟩
  | succ r ih =>
    intro i hir
    refine c_run 3 (pc' := 7) (ls' := [(0, .ref 39), (1, .int s), (2, .int (nI i))]) (st' := [.int ((k_sh 38 (I, J)).1 1 0), .int (nI i)]) (μ' := (I, J)) (Nat.le_of_ble_eq_true rfl) rfl ?_
    refine c_icge 44 (Nat.le_of_ble_eq_true rfl) rfl rfl (fun h1 => absurd h1 (by rw [hn]; exact nI_ge (by omega) (by omega))) (fun h1 => ?_)
    refine c_run 6 (pc' := 16) (ls' := [(0, .ref 39), (1, .int s), (2, .int (nI i))]) (st' := [.int 1, .int ((s >>> ((nI i) &&& 31)) &&& (1 : Int32))]) (μ' := (I, J)) (Nat.le_of_ble_eq_true rfl) rfl ?_
    refine c_icne 38 (Nat.le_of_ble_eq_true rfl) rfl rfl (fun h2 => ?_) (fun h2 => ?_)
    · skip
      refine c_run 2 (pc' := 2) (ls' := [(2, .int ((nI i) + (1 : Int32))), (0, .ref 39), (1, .int s)]) (st' := []) (μ' := (I, J)) (Nat.le_of_ble_eq_true rfl) rfl ?_
      refine c_w [1, 2, 0] (ls' := [(0, .ref 39), (1, .int s), (2, .int ((nI i) + (1 : Int32)))]) rfl ?_
      rw [nI_1 i, k_bl, if_neg (fun q => by first | exact absurd q.1 (by assumption) | exact absurd (by assumption) (Int64.not_le.mpr q.2))]
      exact ih (i + 1) (by omega)
    · skip
      refine c_run 3 (pc' := 24) (ls' := [(0, .ref 39), (1, .int s), (2, .int (nI i))]) (st' := [.int (nI i), .ref 45]) (μ' := (I, J)) (Nat.le_of_ble_eq_true rfl) rfl ?_
      refine c_lal i 4 (Nat.le_of_ble_eq_true rfl) rfl rfl rfl rfl rfl (by omega) ?_
      show m_W 92 25 [(0, .ref 39), (1, .int s), (2, .int (nI i))] [.long ((k_sh 38 (I, J)).2 7 i)] (I, J) _
      refine c_run 3 (pc' := 30) (ls' := [(0, .ref 39), (1, .int s), (2, .int (nI i))]) (st' := [.int (nI i), .ref 41, .long ((k_sh 38 (I, J)).2 7 i)]) (μ' := (I, J)) (Nat.le_of_ble_eq_true rfl) rfl ?_
      refine c_ial i 4 (Nat.le_of_ble_eq_true rfl) rfl rfl rfl rfl rfl (by omega) ?_
      show m_W 92 31 [(0, .ref 39), (1, .int s), (2, .int (nI i))] [.int ((k_sh 38 (I, J)).1 3 i), .long ((k_sh 38 (I, J)).2 7 i)] (I, J) _
      refine c_run 2 (pc' := 33) (ls' := [(0, .ref 39), (1, .int s), (2, .int (nI i))]) (st' := [.int (lg_cmp ((k_sh 38 (I, J)).2 7 i) ((((k_sh 38 (I, J)).1 3 i) : Int32).toInt64))]) (μ' := (I, J)) (Nat.le_of_ble_eq_true rfl) rfl ?_
      refine c_ifge 38 (Nat.le_of_ble_eq_true rfl) rfl rfl (fun h3 => ?_) (fun h3 => ?_)
      · replace h3 := lc_ge.mp h3
        refine c_run 2 (pc' := 2) (ls' := [(2, .int ((nI i) + (1 : Int32))), (0, .ref 39), (1, .int s)]) (st' := []) (μ' := (I, J)) (Nat.le_of_ble_eq_true rfl) rfl ?_
        refine c_w [1, 2, 0] (ls' := [(0, .ref 39), (1, .int s), (2, .int ((nI i) + (1 : Int32)))]) rfl ?_
        rw [nI_1 i, k_bl, if_neg (fun q => by first | exact absurd q.1 (by assumption) | exact absurd (by assumption) (Int64.not_le.mpr q.2))]
        exact ih (i + 1) (by omega)
      · replace h3 := mt lc_ge.mpr h3
        refine c_run 1 (pc' := 37) (ls' := [(0, .ref 39), (1, .int s), (2, .int (nI i))]) (st' := [.int 1]) (μ' := (I, J)) (Nat.le_of_ble_eq_true rfl) rfl ?_
        refine c_ret (Nat.le_of_ble_eq_true rfl) rfl rfl ⟨by decide, rfl⟩ ?_
        refine ⟨?_, rfl⟩
        rw [k_bl, if_pos ⟨by assumption, Int64.not_le.mp (by assumption)⟩]

set_option maxRecDepth 100000 in
theorem t38_bl (I : Nat → Nat → Int32) (J : Nat → Nat → Int64) (s : Int32) (n : Nat) (hn : (k_sh 38 (I, J)).1 1 0 = nI n) (hn4 : n ≤ 4) : m_W 92 0 (lv_args 0 [.ref 39, .int s]) [] (I, J) (m_E (some (.int (k_bl (k_sh 38 (I, J)) s 0 n))) (I, J)) := by
  show m_W 92 0 [(0, .ref 39), (1, .int s)] [] (I, J) _
  refine c_run 2 (pc' := 2) (ls' := [(2, .int 0), (0, .ref 39), (1, .int s)]) (st' := []) (μ' := (I, J)) (Nat.le_of_ble_eq_true rfl) rfl ?_
  refine c_w [1, 2, 0] (ls' := [(0, .ref 39), (1, .int s), (2, .int 0)]) rfl ?_
  exact t38_bl_l I J s n hn hn4 n 0 (by omega)

set_option maxRecDepth 100000 in
theorem t1_wb_l (I : Nat → Nat → Int32) (J : Nat → Nat → Int64)  (n : Nat) (hn : (k_sh 1 (I, J)).1 1 0 = nI n) (hn4 : n ≤ 4) : ∀ (r i : Nat), i + r = n → m_W 91 4 [(0, .ref 2), (1, .int (k_wb (k_sh 1 (I, J)) i)), (2, .int (nI i))] [] (I, J) (m_E (some (.int (k_wb (k_sh 1 (I, J)) n))) (I, J)) := by
  intro r
  induction r with
  | zero =>
    intro i hir
    have hin : n = i := by omega
    subst hin
    refine c_run 3 (pc' := 9) (ls' := [(0, .ref 2), (1, .int (k_wb (k_sh 1 (I, J)) n)), (2, .int (nI n))]) (st' := [.int ((k_sh 1 (I, J)).1 1 0), .int (nI n)]) (μ' := (I, J)) (Nat.le_of_ble_eq_true rfl) rfl ?_
    refine c_icge 35 (Nat.le_of_ble_eq_true rfl) rfl rfl (fun h1 => ?_) (fun h1 => absurd (by rw [hn]; exact nI_le (by omega) (by omega)) h1)
    refine c_run 1 (pc' := 36) (ls' := [(0, .ref 2), (1, .int (k_wb (k_sh 1 (I, J)) n)), (2, .int (nI n))]) (st' := [.int (k_wb (k_sh 1 (I, J)) n)]) (μ' := (I, J)) (Nat.le_of_ble_eq_true rfl) rfl ?_
    refine c_ret (Nat.le_of_ble_eq_true rfl) rfl rfl ⟨by decide, rfl⟩ ?_
    exact ⟨rfl, rfl⟩
  | succ r ih =>
    intro i hir
    refine c_run 3 (pc' := 9) (ls' := [(0, .ref 2), (1, .int (k_wb (k_sh 1 (I, J)) i)), (2, .int (nI i))]) (st' := [.int ((k_sh 1 (I, J)).1 1 0), .int (nI i)]) (μ' := (I, J)) (Nat.le_of_ble_eq_true rfl) rfl ?_
    refine c_icge 35 (Nat.le_of_ble_eq_true rfl) rfl rfl (fun h1 => absurd h1 (by rw [hn]; exact nI_ge (by omega) (by omega))) (fun h1 => ?_)
    refine c_run 3 (pc' := 17) (ls' := [(0, .ref 2), (1, .int (k_wb (k_sh 1 (I, J)) i)), (2, .int (nI i))]) (st' := [.int (nI i), .ref 7]) (μ' := (I, J)) (Nat.le_of_ble_eq_true rfl) rfl ?_
    refine c_lal i 4 (Nat.le_of_ble_eq_true rfl) rfl rfl rfl rfl rfl (by omega) ?_
    show m_W 91 18 [(0, .ref 2), (1, .int (k_wb (k_sh 1 (I, J)) i)), (2, .int (nI i))] [.long ((k_sh 1 (I, J)).2 6 i)] (I, J) _
    refine c_run 2 (pc' := 20) (ls' := [(0, .ref 2), (1, .int (k_wb (k_sh 1 (I, J)) i)), (2, .int (nI i))]) (st' := [.int (lg_cmp ((k_sh 1 (I, J)).2 6 i) 0)]) (μ' := (I, J)) (Nat.le_of_ble_eq_true rfl) rfl ?_
    refine c_ifle 29 (Nat.le_of_ble_eq_true rfl) rfl rfl (fun h2 => ?_) (fun h2 => ?_)
    · replace h2 := lc_le.mp h2
      refine c_run 2 (pc' := 4) (ls' := [(2, .int ((nI i) + (1 : Int32))), (0, .ref 2), (1, .int (k_wb (k_sh 1 (I, J)) i))]) (st' := []) (μ' := (I, J)) (Nat.le_of_ble_eq_true rfl) rfl ?_
      refine c_w [1, 2, 0] (ls' := [(0, .ref 2), (1, .int (k_wb (k_sh 1 (I, J)) i)), (2, .int ((nI i) + (1 : Int32)))]) rfl ?_
      rw [nI_1 i, show k_wb (k_sh 1 (I, J)) i = k_wb (k_sh 1 (I, J)) (i + 1) from by rw [k_wb, if_pos (by assumption)]]
      exact ih (i + 1) (by omega)
    · replace h2 := mt lc_le.mpr h2
      refine c_run 8 (pc' := 4) (ls' := [(2, .int ((nI i) + (1 : Int32))), (1, .int ((k_wb (k_sh 1 (I, J)) i) ||| ((1 : Int32) <<< ((nI i) &&& 31)))), (0, .ref 2)]) (st' := []) (μ' := (I, J)) (Nat.le_of_ble_eq_true rfl) rfl ?_
      refine c_w [2, 1, 0] (ls' := [(0, .ref 2), (1, .int ((k_wb (k_sh 1 (I, J)) i) ||| ((1 : Int32) <<< ((nI i) &&& 31)))), (2, .int ((nI i) + (1 : Int32)))]) rfl ?_
      rw [nI_1 i, show ((k_wb (k_sh 1 (I, J)) i) ||| ((1 : Int32) <<< ((nI i) &&& 31))) = k_wb (k_sh 1 (I, J)) (i + 1) from by rw [k_wb, if_neg (by assumption)]]
      exact ih (i + 1) (by omega)

set_option maxRecDepth 100000 in
theorem t1_wb (I : Nat → Nat → Int32) (J : Nat → Nat → Int64)  (n : Nat) (hn : (k_sh 1 (I, J)).1 1 0 = nI n) (hn4 : n ≤ 4) : m_W 91 0 (lv_args 0 [.ref 2]) [] (I, J) (m_E (some (.int (k_wb (k_sh 1 (I, J)) n))) (I, J)) := by
  show m_W 91 0 [(0, .ref 2)] [] (I, J) _
  refine c_run 4 (pc' := 4) (ls' := [(2, .int 0), (1, .int 0), (0, .ref 2)]) (st' := []) (μ' := (I, J)) (Nat.le_of_ble_eq_true rfl) rfl ?_
  refine c_w [2, 1, 0] (ls' := [(0, .ref 2), (1, .int 0), (2, .int 0)]) rfl ?_
  exact t1_wb_l I J n hn hn4 n 0 (by omega)

set_option maxRecDepth 100000 in
theorem t1_us (I : Nat → Nat → Int32) (J : Nat → Nat → Int64) (mg : Int32) (t : Nat) (ht : t < 4) (v : Nat) (hv : (k_sh 1 (I, J)).2 8 t = lN v) (hv2 : v ≤ 1000000000000000) : m_W 89 0 (lv_args 0 [.ref 2, .int (nI t), .int mg]) [] (I, J) (m_E (some (.long (k_us (k_sh 1 (I, J)) t mg))) (I, J)) := by
  show m_W 89 0 [(0, .ref 2), (1, .int (nI t)), (2, .int mg)] [] (I, J) _
  refine c_run 5 (pc' := 7) (ls' := [(0, .ref 2), (1, .int (nI t)), (2, .int mg)]) (st' := [.int (nI t), .ref 9, .long ((mg : Int32).toInt64)]) (μ' := (I, J)) (Nat.le_of_ble_eq_true rfl) rfl ?_
  refine c_lal t 4 (Nat.le_of_ble_eq_true rfl) rfl rfl rfl rfl rfl ht ?_
  show m_W 89 8 [(0, .ref 2), (1, .int (nI t)), (2, .int mg)] [.long ((k_sh 1 (I, J)).2 8 t), .long ((mg : Int32).toInt64)] (I, J) _
  rw [show (k_sh 1 (I, J)).2 8 t = lN v from hv]
  refine c_cs 37 [.long (lN v)] (r := [.long ((mg : Int32).toInt64)]) (Nat.le_of_ble_eq_true rfl) rfl (Or.inr ⟨rfl, rfl⟩) rfl rfl rfl (t_sq I J v (by omega)) ?_
  rintro _ _ ⟨rfl, rfl⟩
  show m_W 89 11 [(0, .ref 2), (1, .int (nI t)), (2, .int mg)] [.long (s_rt (lN v)), .long ((mg : Int32).toInt64)] (I, J) _
  refine c_run 2 (pc' := 15) (ls' := [(0, .ref 2), (1, .int (nI t)), (2, .int mg)]) (st' := [.long 10, .long (((mg : Int32).toInt64) * (s_rt (lN v)))]) (μ' := (I, J)) (Nat.le_of_ble_eq_true rfl) rfl ?_
  refine c_ldiv (Nat.le_of_ble_eq_true rfl) rfl (by decide) ?_
  refine c_run 5 (pc' := 23) (ls' := [(3, .long ((((mg : Int32).toInt64) * (s_rt (lN v))) / 10)), (0, .ref 2), (1, .int (nI t)), (2, .int mg)]) (st' := [.int (nI t), .ref 8, .long 0]) (μ' := (I, J)) (Nat.le_of_ble_eq_true rfl) rfl ?_
  refine c_lal t 4 (Nat.le_of_ble_eq_true rfl) rfl rfl rfl rfl rfl ht ?_
  show m_W 89 24 [(3, .long ((((mg : Int32).toInt64) * (s_rt (lN v))) / 10)), (0, .ref 2), (1, .int (nI t)), (2, .int mg)] [.long ((k_sh 1 (I, J)).2 7 t), .long 0] (I, J) _
  refine c_run 3 (pc' := 29) (ls' := [(3, .long ((((mg : Int32).toInt64) * (s_rt (lN v))) / 10)), (0, .ref 2), (1, .int (nI t)), (2, .int mg)]) (st' := [.int (nI t), .ref 4, .long ((k_sh 1 (I, J)).2 7 t), .long 0]) (μ' := (I, J)) (Nat.le_of_ble_eq_true rfl) rfl ?_
  refine c_ial t 4 (Nat.le_of_ble_eq_true rfl) rfl rfl rfl rfl rfl ht ?_
  show m_W 89 30 [(3, .long ((((mg : Int32).toInt64) * (s_rt (lN v))) / 10)), (0, .ref 2), (1, .int (nI t)), (2, .int mg)] [.int ((k_sh 1 (I, J)).1 3 t), .long ((k_sh 1 (I, J)).2 7 t), .long 0] (I, J) _
  refine c_run 4 (pc' := 34) (ls' := [(3, .long ((((mg : Int32).toInt64) * (s_rt (lN v))) / 10)), (0, .ref 2), (1, .int (nI t)), (2, .int mg)]) (st' := [.long ((((k_sh 1 (I, J)).2 7 t) - ((((k_sh 1 (I, J)).1 3 t) : Int32).toInt64)) - ((((mg : Int32).toInt64) * (s_rt (lN v))) / 10)), .long 0]) (μ' := (I, J)) (Nat.le_of_ble_eq_true rfl) rfl ?_
  refine c_cs 159 [.long 0, .long ((((k_sh 1 (I, J)).2 7 t) - ((((k_sh 1 (I, J)).1 3 t) : Int32).toInt64)) - ((((mg : Int32).toInt64) * (s_rt (lN v))) / 10))] (r := []) (Nat.le_of_ble_eq_true rfl) rfl (Or.inl rfl) rfl rfl rfl (t_max I J 0 ((((k_sh 1 (I, J)).2 7 t) - ((((k_sh 1 (I, J)).1 3 t) : Int32).toInt64)) - ((((mg : Int32).toInt64) * (s_rt (lN v))) / 10))) ?_
  rintro _ _ ⟨rfl, rfl⟩
  show m_W 89 37 [(3, .long ((((mg : Int32).toInt64) * (s_rt (lN v))) / 10)), (0, .ref 2), (1, .int (nI t)), (2, .int mg)] [.long (if 0 < ((((k_sh 1 (I, J)).2 7 t) - ((((k_sh 1 (I, J)).1 3 t) : Int32).toInt64)) - ((((mg : Int32).toInt64) * (s_rt (lN v))) / 10)) then ((((k_sh 1 (I, J)).2 7 t) - ((((k_sh 1 (I, J)).1 3 t) : Int32).toInt64)) - ((((mg : Int32).toInt64) * (s_rt (lN v))) / 10)) else 0)] (I, J) _
  refine c_lret (Nat.le_of_ble_eq_true rfl) rfl rfl ?_
  refine ⟨?_, rfl⟩
  rw [k_us, hv]
  rfl

set_option maxRecDepth 100000 in
theorem t1_dr (I : Nat → Nat → Int32) (J : Nat → Nat → Int64)  (t : Nat) (ht : t < 4) (v : Nat) (hv : (k_sh 1 (I, J)).2 8 t = lN v) (hv2 : v ≤ 1000000000000000) : m_W 90 0 (lv_args 0 [.ref 2, .int (nI t)]) [] (I, J) (m_E (some (.long (k_dr (k_sh 1 (I, J)) t))) (I, J)) := by
  show m_W 90 0 [(0, .ref 2), (1, .int (nI t))] [] (I, J) _
  refine c_run 4 (pc' := 6) (ls' := [(0, .ref 2), (1, .int (nI t))]) (st' := [.int (nI t), .ref 9, .long 1]) (μ' := (I, J)) (Nat.le_of_ble_eq_true rfl) rfl ?_
  refine c_lal t 4 (Nat.le_of_ble_eq_true rfl) rfl rfl rfl rfl rfl ht ?_
  show m_W 90 7 [(0, .ref 2), (1, .int (nI t))] [.long ((k_sh 1 (I, J)).2 8 t), .long 1] (I, J) _
  refine c_run 2 (pc' := 9) (ls' := [(0, .ref 2), (1, .int (nI t))]) (st' := [.long (((k_sh 1 (I, J)).2 8 t) + (1 : Int64)), .long 1]) (μ' := (I, J)) (Nat.le_of_ble_eq_true rfl) rfl ?_
  rw [show ((k_sh 1 (I, J)).2 8 t) + (1 : Int64) = lN (v + 1) from (by rw [hv]; exact lN_1 v)]
  refine c_cs 37 [.long (lN (v + 1))] (r := [.long 1]) (Nat.le_of_ble_eq_true rfl) rfl (Or.inr ⟨rfl, rfl⟩) rfl rfl rfl (t_sq I J (v + 1) (by omega)) ?_
  rintro _ _ ⟨rfl, rfl⟩
  show m_W 90 12 [(0, .ref 2), (1, .int (nI t))] [.long (s_rt (lN (v + 1))), .long 1] (I, J) _
  refine c_cs 159 [.long 1, .long (s_rt (lN (v + 1)))] (r := []) (Nat.le_of_ble_eq_true rfl) rfl (Or.inl rfl) rfl rfl rfl (t_max I J 1 (s_rt (lN (v + 1)))) ?_
  rintro _ _ ⟨rfl, rfl⟩
  show m_W 90 15 [(0, .ref 2), (1, .int (nI t))] [.long (if 1 < (s_rt (lN (v + 1))) then (s_rt (lN (v + 1))) else 1)] (I, J) _
  refine c_run 5 (pc' := 24) (ls' := [(2, .long (if 1 < (s_rt (lN (v + 1))) then (s_rt (lN (v + 1))) else 1)), (0, .ref 2), (1, .int (nI t))]) (st' := [.int (nI t), .ref 8, .long 10]) (μ' := (I, J)) (Nat.le_of_ble_eq_true rfl) rfl ?_
  refine c_lal t 4 (Nat.le_of_ble_eq_true rfl) rfl rfl rfl rfl rfl ht ?_
  show m_W 90 25 [(2, .long (if 1 < (s_rt (lN (v + 1))) then (s_rt (lN (v + 1))) else 1)), (0, .ref 2), (1, .int (nI t))] [.long ((k_sh 1 (I, J)).2 7 t), .long 10] (I, J) _
  refine c_run 3 (pc' := 30) (ls' := [(2, .long (if 1 < (s_rt (lN (v + 1))) then (s_rt (lN (v + 1))) else 1)), (0, .ref 2), (1, .int (nI t))]) (st' := [.int (nI t), .ref 7, .long ((k_sh 1 (I, J)).2 7 t), .long 10]) (μ' := (I, J)) (Nat.le_of_ble_eq_true rfl) rfl ?_
  refine c_lal t 4 (Nat.le_of_ble_eq_true rfl) rfl rfl rfl rfl rfl ht ?_
  show m_W 90 31 [(2, .long (if 1 < (s_rt (lN (v + 1))) then (s_rt (lN (v + 1))) else 1)), (0, .ref 2), (1, .int (nI t))] [.long ((k_sh 1 (I, J)).2 6 t), .long ((k_sh 1 (I, J)).2 7 t), .long 10] (I, J) _
  refine c_run 3 (pc' := 34) (ls' := [(2, .long (if 1 < (s_rt (lN (v + 1))) then (s_rt (lN (v + 1))) else 1)), (0, .ref 2), (1, .int (nI t))]) (st' := [.long (if 1 < (s_rt (lN (v + 1))) then (s_rt (lN (v + 1))) else 1), .long ((10 : Int64) * (((k_sh 1 (I, J)).2 7 t) - ((k_sh 1 (I, J)).2 6 t)))]) (μ' := (I, J)) (Nat.le_of_ble_eq_true rfl) rfl ?_
  refine c_cs 157 [.long ((10 : Int64) * (((k_sh 1 (I, J)).2 7 t) - ((k_sh 1 (I, J)).2 6 t))), .long (if 1 < (s_rt (lN (v + 1))) then (s_rt (lN (v + 1))) else 1)] (r := []) (Nat.le_of_ble_eq_true rfl) rfl (Or.inl rfl) rfl rfl rfl (t_floorDiv I J ((10 : Int64) * (((k_sh 1 (I, J)).2 7 t) - ((k_sh 1 (I, J)).2 6 t))) (if 1 < (s_rt (lN (v + 1))) then (s_rt (lN (v + 1))) else 1) (by have h := k_un_p (lN v); unfold k_un at h; rw [lN_1] at h; exact h)) ?_
  rintro _ _ ⟨rfl, rfl⟩
  show m_W 90 37 [(2, .long (if 1 < (s_rt (lN (v + 1))) then (s_rt (lN (v + 1))) else 1)), (0, .ref 2), (1, .int (nI t))] [.long (s_fl ((10 : Int64) * (((k_sh 1 (I, J)).2 7 t) - ((k_sh 1 (I, J)).2 6 t))) (if 1 < (s_rt (lN (v + 1))) then (s_rt (lN (v + 1))) else 1))] (I, J) _
  refine c_lret (Nat.le_of_ble_eq_true rfl) rfl rfl ?_
  refine ⟨?_, rfl⟩
  rw [k_dr, k_un, hv, lN_1]

