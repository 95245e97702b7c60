/-! LEVELS, READINGS -/
def s_bt (lv vo : Nat → Int32) (a b : Nat) (x : Int32) : Int64 := if 0 < (lv b - lv a).toInt64 then (vo a).toInt64 + s_fl ((vo b - vo a).toInt64 * (x - lv a).toInt64) (lv b - lv a).toInt64 else (vo a).toInt64
def s_vl (lv vo : Nat → Int32) (p : Nat) (x : Int32) : Nat → Nat → Int64
  | _, 0 => (vo (p - 1)).toInt64
  | i, r + 1 => if lv i < x then s_vl lv vo p x (i + 1) r else s_bt lv vo (i - 1) i x
def s_vol (lv vo : Nat → Int32) (p : Nat) (x : Int32) : Int64 := if p = 0 then 0 else (if lv 0 < x then s_vl lv vo p x 1 (p - 1) else (vo 0).toInt64)
def k_vol (κ : k_M) (j p : Nat) (x : Int32) : Int64 := s_vol (κ.1 (12 + 3 * j)) (κ.1 (13 + 3 * j)) p x
def k_gm (κ : k_M) (j p : Nat) (x : Int32) : Int64 := k_vol κ j p x * (κ.1 2 j).toInt64 / 1000
def k_iv (κ : k_M) (t : Nat) : Int64 := if 1 < κ.2 8 t + κ.2 9 t then κ.2 8 t + κ.2 9 t else 1
theorem k_iv_ne (κ : k_M) (t : Nat) : ¬ k_iv κ t = 0 := by
  unfold k_iv
  split
  next h => intro q; rw [q] at h; exact absurd h (by decide)
  next => decide
def k_wt (κ : k_M) (t : Nat) : Int32 := (1000 * κ.2 8 t / k_iv κ t).toInt32
def k_nest (κ : k_M) (t : Nat) (v : Int64) : Int64 := k_mx (κ.2 7 t + s_fl ((k_wt κ t).toInt64 * v) 1000)
def k_acc (κ : k_M) (t : Nat) (v : Int64) (l c : Nat) : k_M := k_app (κ.1, m_uj (m_uj κ.2 7 t (k_nest κ t v)) 8 t (κ.2 8 t * (1000 - (k_wt κ t).toInt64) / 1000)) l c (κ.1 0 3) 2 (nI t) (k_nest κ t v - κ.2 7 t)
def k_inn (κ : k_M) (j p : Nat) (x : Int32) : Int64 := k_gm κ j p x - κ.2 7 j
/-- a reading of a tank that is there, of a level in range -/
def k_rd (κ : k_M) (j p : Nat) (x : Int32) (l c : Nat) : Int32 × k_M := if κ.1 (11 + 3 * j) 0 = 0 then (-2, κ) else (if k_set κ then (if k_inn κ j p x * k_inn κ j p x ≤ (κ.1 0 5).toInt64 * k_iv κ j then (1, k_acc κ j (k_inn κ j p x) l c) else (2, k_app κ l c (κ.1 0 3) 3 (nI j) (k_inn κ j p x))) else (3, κ))
def k_us (κ : k_M) (t : Nat) (mg : Int32) : Int64 := k_mx (κ.2 7 t - (κ.1 3 t).toInt64 - mg.toInt64 * s_rt (κ.2 8 t) / 10)
def k_un (v : Int64) : Int64 := if 1 < s_rt (v + 1) then s_rt (v + 1) else 1
def k_dr (κ : k_M) (t : Nat) : Int64 := s_fl (10 * (κ.2 7 t - κ.2 6 t)) (k_un (κ.2 8 t))
theorem k_un_p (v : Int64) : 0 < (k_un v).toInt := by
  unfold k_un
  split
  next h => rw [Int64.lt_iff_toInt_lt] at h; have : (1 : Int64).toInt = 1 := rfl; omega
  next => decide

theorem k_p1 {i : Nat} (h : 1 ≤ i) : nI i - (1 : Int32) = nI (i - 1) := pk_sub (a := i) (b := 1) h
set_option maxRecDepth 100000 in
theorem t1_bt0 (I : Nat → Nat → Int32) (J : Nat → Nat → Int64) (a d : Nat) (ha : a < 8) (hd : d < 8) (x : Int32) : m_W 77 0 (lv_args 0 [.ref 12, .int (nI a), .int (nI d), .int x]) [] (I, J) (m_E (some (.long (s_bt ((k_sh 1 (I, J)).1 12) ((k_sh 1 (I, J)).1 13) a d x))) (I, J)) := by
  show m_W 77 0 [(0, .ref 12), (1, .int (nI a)), (2, .int (nI d)), (3, .int x)] [] (I, J) _
  refine c_run 3 (pc' := 5) (ls' := [(0, .ref 12), (1, .int (nI a)), (2, .int (nI d)), (3, .int x)]) (st' := [.int (nI d), .ref 13]) (μ' := (I, J)) (Nat.le_of_ble_eq_true rfl) rfl ?_
  refine c_ial d 8 (Nat.le_of_ble_eq_true rfl) rfl rfl rfl rfl rfl hd ?_
  show m_W 77 6 [(0, .ref 12), (1, .int (nI a)), (2, .int (nI d)), (3, .int x)] [.int ((k_sh 1 (I, J)).1 12 d)] (I, J) _
  refine c_run 3 (pc' := 11) (ls' := [(0, .ref 12), (1, .int (nI a)), (2, .int (nI d)), (3, .int x)]) (st' := [.int (nI a), .ref 13, .int ((k_sh 1 (I, J)).1 12 d)]) (μ' := (I, J)) (Nat.le_of_ble_eq_true rfl) rfl ?_
  refine c_ial a 8 (Nat.le_of_ble_eq_true rfl) rfl rfl rfl rfl rfl ha ?_
  show m_W 77 12 [(0, .ref 12), (1, .int (nI a)), (2, .int (nI d)), (3, .int x)] [.int ((k_sh 1 (I, J)).1 12 a), .int ((k_sh 1 (I, J)).1 12 d)] (I, J) _
  refine c_run 6 (pc' := 20) (ls' := [(4, .long (((((k_sh 1 (I, J)).1 12 d) - ((k_sh 1 (I, J)).1 12 a)) : Int32).toInt64)), (0, .ref 12), (1, .int (nI a)), (2, .int (nI d)), (3, .int x)]) (st' := [.int (lg_cmp (((((k_sh 1 (I, J)).1 12 d) - ((k_sh 1 (I, J)).1 12 a)) : Int32).toInt64) 0)]) (μ' := (I, J)) (Nat.le_of_ble_eq_true rfl) rfl ?_
  refine c_ifgt 31 (Nat.le_of_ble_eq_true rfl) rfl rfl (fun h1 => ?_) (fun h1 => ?_)
  · replace h1 := lc_gt.mp h1
    refine c_run 3 (pc' := 36) (ls' := [(4, .long (((((k_sh 1 (I, J)).1 12 d) - ((k_sh 1 (I, J)).1 12 a)) : Int32).toInt64)), (0, .ref 12), (1, .int (nI a)), (2, .int (nI d)), (3, .int x)]) (st' := [.int (nI d), .ref 14]) (μ' := (I, J)) (Nat.le_of_ble_eq_true rfl) rfl ?_
    refine c_ial d 8 (Nat.le_of_ble_eq_true rfl) rfl rfl rfl rfl rfl hd ?_
    show m_W 77 37 [(4, .long (((((k_sh 1 (I, J)).1 12 d) - ((k_sh 1 (I, J)).1 12 a)) : Int32).toInt64)), (0, .ref 12), (1, .int (nI a)), (2, .int (nI d)), (3, .int x)] [.int ((k_sh 1 (I, J)).1 13 d)] (I, J) _
    refine c_run 3 (pc' := 42) (ls' := [(4, .long (((((k_sh 1 (I, J)).1 12 d) - ((k_sh 1 (I, J)).1 12 a)) : Int32).toInt64)), (0, .ref 12), (1, .int (nI a)), (2, .int (nI d)), (3, .int x)]) (st' := [.int (nI a), .ref 14, .int ((k_sh 1 (I, J)).1 13 d)]) (μ' := (I, J)) (Nat.le_of_ble_eq_true rfl) rfl ?_
    refine c_ial a 8 (Nat.le_of_ble_eq_true rfl) rfl rfl rfl rfl rfl ha ?_
    show m_W 77 43 [(4, .long (((((k_sh 1 (I, J)).1 12 d) - ((k_sh 1 (I, J)).1 12 a)) : Int32).toInt64)), (0, .ref 12), (1, .int (nI a)), (2, .int (nI d)), (3, .int x)] [.int ((k_sh 1 (I, J)).1 13 a), .int ((k_sh 1 (I, J)).1 13 d)] (I, J) _
    refine c_run 6 (pc' := 52) (ls' := [(6, .long (((((k_sh 1 (I, J)).1 13 d) - ((k_sh 1 (I, J)).1 13 a)) : Int32).toInt64)), (4, .long (((((k_sh 1 (I, J)).1 12 d) - ((k_sh 1 (I, J)).1 12 a)) : Int32).toInt64)), (0, .ref 12), (1, .int (nI a)), (2, .int (nI d)), (3, .int x)]) (st' := [.int (nI a), .ref 14]) (μ' := (I, J)) (Nat.le_of_ble_eq_true rfl) rfl ?_
    refine c_ial a 8 (Nat.le_of_ble_eq_true rfl) rfl rfl rfl rfl rfl ha ?_
    show m_W 77 53 [(6, .long (((((k_sh 1 (I, J)).1 13 d) - ((k_sh 1 (I, J)).1 13 a)) : Int32).toInt64)), (4, .long (((((k_sh 1 (I, J)).1 12 d) - ((k_sh 1 (I, J)).1 12 a)) : Int32).toInt64)), (0, .ref 12), (1, .int (nI a)), (2, .int (nI d)), (3, .int x)] [.int ((k_sh 1 (I, J)).1 13 a)] (I, J) _
    refine c_run 6 (pc' := 62) (ls' := [(6, .long (((((k_sh 1 (I, J)).1 13 d) - ((k_sh 1 (I, J)).1 13 a)) : Int32).toInt64)), (4, .long (((((k_sh 1 (I, J)).1 12 d) - ((k_sh 1 (I, J)).1 12 a)) : Int32).toInt64)), (0, .ref 12), (1, .int (nI a)), (2, .int (nI d)), (3, .int x)]) (st' := [.int (nI a), .ref 13, .int x, .long (((((k_sh 1 (I, J)).1 13 d) - ((k_sh 1 (I, J)).1 13 a)) : Int32).toInt64), .long ((((k_sh 1 (I, J)).1 13 a) : Int32).toInt64)]) (μ' := (I, J)) (Nat.le_of_ble_eq_true rfl) rfl ?_
    refine c_ial a 8 (Nat.le_of_ble_eq_true rfl) rfl rfl rfl rfl rfl ha ?_
    show m_W 77 63 [(6, .long (((((k_sh 1 (I, J)).1 13 d) - ((k_sh 1 (I, J)).1 13 a)) : Int32).toInt64)), (4, .long (((((k_sh 1 (I, J)).1 12 d) - ((k_sh 1 (I, J)).1 12 a)) : Int32).toInt64)), (0, .ref 12), (1, .int (nI a)), (2, .int (nI d)), (3, .int x)] [.int ((k_sh 1 (I, J)).1 12 a), .int x, .long (((((k_sh 1 (I, J)).1 13 d) - ((k_sh 1 (I, J)).1 13 a)) : Int32).toInt64), .long ((((k_sh 1 (I, J)).1 13 a) : Int32).toInt64)] (I, J) _
    refine c_run 4 (pc' := 68) (ls' := [(6, .long (((((k_sh 1 (I, J)).1 13 d) - ((k_sh 1 (I, J)).1 13 a)) : Int32).toInt64)), (4, .long (((((k_sh 1 (I, J)).1 12 d) - ((k_sh 1 (I, J)).1 12 a)) : Int32).toInt64)), (0, .ref 12), (1, .int (nI a)), (2, .int (nI d)), (3, .int x)]) (st' := [.long (((((k_sh 1 (I, J)).1 12 d) - ((k_sh 1 (I, J)).1 12 a)) : Int32).toInt64), .long ((((((k_sh 1 (I, J)).1 13 d) - ((k_sh 1 (I, J)).1 13 a)) : Int32).toInt64) * (((x - ((k_sh 1 (I, J)).1 12 a)) : Int32).toInt64)), .long ((((k_sh 1 (I, J)).1 13 a) : Int32).toInt64)]) (μ' := (I, J)) (Nat.le_of_ble_eq_true rfl) rfl ?_
    refine c_cs 157 [.long ((((((k_sh 1 (I, J)).1 13 d) - ((k_sh 1 (I, J)).1 13 a)) : Int32).toInt64) * (((x - ((k_sh 1 (I, J)).1 12 a)) : Int32).toInt64)), .long (((((k_sh 1 (I, J)).1 12 d) - ((k_sh 1 (I, J)).1 12 a)) : Int32).toInt64)] (r := [.long ((((k_sh 1 (I, J)).1 13 a) : Int32).toInt64)]) (Nat.le_of_ble_eq_true rfl) rfl (Or.inl rfl) rfl rfl rfl (t_floorDiv I J ((((((k_sh 1 (I, J)).1 13 d) - ((k_sh 1 (I, J)).1 13 a)) : Int32).toInt64) * (((x - ((k_sh 1 (I, J)).1 12 a)) : Int32).toInt64)) (((((k_sh 1 (I, J)).1 12 d) - ((k_sh 1 (I, J)).1 12 a)) : Int32).toInt64) (show (0 : Int64).toInt < _ from Int64.lt_iff_toInt_lt.mp (by assumption))) ?_
    rintro _ _ ⟨rfl, rfl⟩
    show m_W 77 71 [(6, .long (((((k_sh 1 (I, J)).1 13 d) - ((k_sh 1 (I, J)).1 13 a)) : Int32).toInt64)), (4, .long (((((k_sh 1 (I, J)).1 12 d) - ((k_sh 1 (I, J)).1 12 a)) : Int32).toInt64)), (0, .ref 12), (1, .int (nI a)), (2, .int (nI d)), (3, .int x)] [.long (s_fl ((((((k_sh 1 (I, J)).1 13 d) - ((k_sh 1 (I, J)).1 13 a)) : Int32).toInt64) * (((x - ((k_sh 1 (I, J)).1 12 a)) : Int32).toInt64)) (((((k_sh 1 (I, J)).1 12 d) - ((k_sh 1 (I, J)).1 12 a)) : Int32).toInt64)), .long ((((k_sh 1 (I, J)).1 13 a) : Int32).toInt64)] (I, J) _
    refine c_run 1 (pc' := 72) (ls' := [(6, .long (((((k_sh 1 (I, J)).1 13 d) - ((k_sh 1 (I, J)).1 13 a)) : Int32).toInt64)), (4, .long (((((k_sh 1 (I, J)).1 12 d) - ((k_sh 1 (I, J)).1 12 a)) : Int32).toInt64)), (0, .ref 12), (1, .int (nI a)), (2, .int (nI d)), (3, .int x)]) (st' := [.long (((((k_sh 1 (I, J)).1 13 a) : Int32).toInt64) + (s_fl ((((((k_sh 1 (I, J)).1 13 d) - ((k_sh 1 (I, J)).1 13 a)) : Int32).toInt64) * (((x - ((k_sh 1 (I, J)).1 12 a)) : Int32).toInt64)) (((((k_sh 1 (I, J)).1 12 d) - ((k_sh 1 (I, J)).1 12 a)) : Int32).toInt64)))]) (μ' := (I, J)) (Nat.le_of_ble_eq_true rfl) rfl ?_
    refine c_lret (Nat.le_of_ble_eq_true rfl) rfl rfl ?_
    refine ⟨?_, rfl⟩
    first | rfl | (simp only [s_bt, if_pos h1]; done) | (simp only [s_bt, if_pos h1]; rfl)
  · replace h1 := mt lc_gt.mpr h1
    refine c_run 3 (pc' := 28) (ls' := [(4, .long (((((k_sh 1 (I, J)).1 12 d) - ((k_sh 1 (I, J)).1 12 a)) : Int32).toInt64)), (0, .ref 12), (1, .int (nI a)), (2, .int (nI d)), (3, .int x)]) (st' := [.int (nI a), .ref 14]) (μ' := (I, J)) (Nat.le_of_ble_eq_true rfl) rfl ?_
    refine c_ial a 8 (Nat.le_of_ble_eq_true rfl) rfl rfl rfl rfl rfl ha ?_
    show m_W 77 29 [(4, .long (((((k_sh 1 (I, J)).1 12 d) - ((k_sh 1 (I, J)).1 12 a)) : Int32).toInt64)), (0, .ref 12), (1, .int (nI a)), (2, .int (nI d)), (3, .int x)] [.int ((k_sh 1 (I, J)).1 13 a)] (I, J) _
    refine c_run 1 (pc' := 30) (ls' := [(4, .long (((((k_sh 1 (I, J)).1 12 d) - ((k_sh 1 (I, J)).1 12 a)) : Int32).toInt64)), (0, .ref 12), (1, .int (nI a)), (2, .int (nI d)), (3, .int x)]) (st' := [.long ((((k_sh 1 (I, J)).1 13 a) : Int32).toInt64)]) (μ' := (I, J)) (Nat.le_of_ble_eq_true rfl) rfl ?_
    refine c_lret (Nat.le_of_ble_eq_true rfl) rfl rfl ?_
    refine ⟨?_, rfl⟩
    first | rfl | (simp only [s_bt, if_neg h1]; done) | (simp only [s_bt, if_neg h1]; rfl)

set_option maxRecDepth 100000 in
theorem t1_vl0 (I : Nat → Nat → Int32) (J : Nat → Nat → Int64) (x : Int32) (p : Nat) (hp : (k_sh 1 (I, J)).1 11 0 = nI p) (hp8 : p ≤ 8) : ∀ (r i : Nat), i + r = p → 1 ≤ i → m_W 76 29 [(0, .ref 12), (1, .int x), (2, .int (nI i))] [] (I, J) (m_E (some (.long (s_vl ((k_sh 1 (I, J)).1 12) ((k_sh 1 (I, J)).1 13) p x i r))) (I, J)) := by
  intro r
  induction r with
  | zero =>
    intro i hir hi1
    refine c_run 3 (pc' := 34) (ls' := [(0, .ref 12), (1, .int x), (2, .int (nI i))]) (st' := [.int ((k_sh 1 (I, J)).1 11 0), .int (nI i)]) (μ' := (I, J)) (Nat.le_of_ble_eq_true rfl) rfl ?_
    refine c_icge 63 (Nat.le_of_ble_eq_true rfl) rfl rfl (fun h1 => ?_) (fun h1 => absurd (by rw [hp]; exact nI_le (by omega) (by omega)) h1)
    refine c_run 6 (pc' := 73) (ls' := [(0, .ref 12), (1, .int x), (2, .int (nI i))]) (st' := [.int (((k_sh 1 (I, J)).1 11 0) - (1 : Int32)), .ref 14]) (μ' := (I, J)) (Nat.le_of_ble_eq_true rfl) rfl ?_
    refine c_ial (p - 1) 8 (Nat.le_of_ble_eq_true rfl) rfl rfl rfl rfl (by rw [hp]; exact k_p1 (by omega)) (by omega) ?_
    show m_W 76 74 [(0, .ref 12), (1, .int x), (2, .int (nI i))] [.int ((k_sh 1 (I, J)).1 13 (p - 1))] (I, J) _
    refine c_run 1 (pc' := 75) (ls' := [(0, .ref 12), (1, .int x), (2, .int (nI i))]) (st' := [.long ((((k_sh 1 (I, J)).1 13 (p - 1)) : Int32).toInt64)]) (μ' := (I, J)) (Nat.le_of_ble_eq_true rfl) rfl ?_
    refine c_lret (Nat.le_of_ble_eq_true rfl) rfl rfl ?_
    exact ⟨rfl, rfl⟩
  | succ r ih =>
    intro i hir hi1
    refine c_run 3 (pc' := 34) (ls' := [(0, .ref 12), (1, .int x), (2, .int (nI i))]) (st' := [.int ((k_sh 1 (I, J)).1 11 0), .int (nI i)]) (μ' := (I, J)) (Nat.le_of_ble_eq_true rfl) rfl ?_
    refine c_icge 63 (Nat.le_of_ble_eq_true rfl) rfl rfl (fun h1 => absurd h1 (by rw [hp]; exact nI_ge (by omega) (by omega))) (fun h1 => ?_)
    refine c_run 4 (pc' := 43) (ls' := [(0, .ref 12), (1, .int x), (2, .int (nI i))]) (st' := [.int (nI i), .ref 13, .int x]) (μ' := (I, J)) (Nat.le_of_ble_eq_true rfl) rfl ?_
    refine c_ial i 8 (Nat.le_of_ble_eq_true rfl) rfl rfl rfl rfl rfl (by omega) ?_
    show m_W 76 44 [(0, .ref 12), (1, .int x), (2, .int (nI i))] [.int ((k_sh 1 (I, J)).1 12 i), .int x] (I, J) _
    refine c_icgt 57 (Nat.le_of_ble_eq_true rfl) rfl rfl (fun h2 => ?_) (fun h2 => ?_)
    · skip
      refine c_run 2 (pc' := 29) (ls' := [(2, .int ((nI i) + (1 : Int32))), (0, .ref 12), (1, .int x)]) (st' := []) (μ' := (I, J)) (Nat.le_of_ble_eq_true rfl) rfl ?_
      refine c_w [1, 2, 0] (ls' := [(0, .ref 12), (1, .int x), (2, .int ((nI i) + (1 : Int32)))]) rfl ?_
      rw [nI_1 i, s_vl, if_pos (by assumption)]
      exact ih (i + 1) (by omega) (by omega)
    · skip
      refine c_run 6 (pc' := 53) (ls' := [(0, .ref 12), (1, .int x), (2, .int (nI i))]) (st' := [.int x, .int (nI i), .int ((nI i) - (1 : Int32)), .ref 12]) (μ' := (I, J)) (Nat.le_of_ble_eq_true rfl) rfl ?_
      rw [show (nI i) - (1 : Int32) = nI (i - 1) from k_p1 hi1]
      refine c_cv 77 [.int (nI (i - 1)), .int (nI i), .int x] (b := 12) (r := []) (Nat.le_of_ble_eq_true rfl) rfl rfl rfl rfl rfl rfl (t1_bt0 I J (i - 1) i (by omega) (by omega) x) ?_
      rintro _ _ ⟨rfl, rfl⟩
      show m_W 76 56 [(0, .ref 12), (1, .int x), (2, .int (nI i))] [.long (s_bt ((k_sh 1 (I, J)).1 12) ((k_sh 1 (I, J)).1 13) (i - 1) i x)] (I, J) _
      refine c_lret (Nat.le_of_ble_eq_true rfl) rfl rfl ?_
      refine ⟨?_, rfl⟩
      rw [s_vl, if_neg (by assumption)]

set_option maxRecDepth 100000 in
theorem t1_vol0 (I : Nat → Nat → Int32) (J : Nat → Nat → Int64) (x : Int32) (p : Nat) (hp : (k_sh 1 (I, J)).1 11 0 = nI p) (hp8 : p ≤ 8) : m_W 76 0 (lv_args 0 [.ref 12, .int x]) [] (I, J) (m_E (some (.long (k_vol (k_sh 1 (I, J)) 0 p x))) (I, J)) := by
  show m_W 76 0 [(0, .ref 12), (1, .int x)] [] (I, J) _
  refine c_run 2 (pc' := 4) (ls' := [(0, .ref 12), (1, .int x)]) (st' := [.int ((k_sh 1 (I, J)).1 11 0)]) (μ' := (I, J)) (Nat.le_of_ble_eq_true rfl) rfl ?_
  refine c_ifne 9 (Nat.le_of_ble_eq_true rfl) rfl rfl (fun h1 => ?_) (fun h1 => ?_)
  · skip
    refine c_run 4 (pc' := 15) (ls' := [(0, .ref 12), (1, .int x)]) (st' := [.int 0, .ref 13, .int x]) (μ' := (I, J)) (Nat.le_of_ble_eq_true rfl) rfl ?_
    refine c_ial 0 8 (Nat.le_of_ble_eq_true rfl) rfl rfl rfl rfl rfl (by decide) ?_
    show m_W 76 16 [(0, .ref 12), (1, .int x)] [.int ((k_sh 1 (I, J)).1 12 0), .int x] (I, J) _
    refine c_icgt 27 (Nat.le_of_ble_eq_true rfl) rfl rfl (fun h2 => ?_) (fun h2 => ?_)
    · skip
      refine c_run 2 (pc' := 29) (ls' := [(2, .int 1), (0, .ref 12), (1, .int x)]) (st' := []) (μ' := (I, J)) (Nat.le_of_ble_eq_true rfl) rfl ?_
      refine c_w [1, 2, 0] (ls' := [(0, .ref 12), (1, .int x), (2, .int 1)]) rfl ?_
      have hz : ¬ p = 0 := fun q => absurd (show (k_sh 1 (I, J)).1 11 0 = 0 by rw [hp, q]; rfl) (by assumption)
      rw [k_vol, s_vol, if_neg hz, if_pos (by assumption)]
      exact t1_vl0 I J x p hp hp8 (p - 1) 1 (by omega) (by omega)
    · skip
      refine c_run 3 (pc' := 24) (ls' := [(0, .ref 12), (1, .int x)]) (st' := [.int 0, .ref 14]) (μ' := (I, J)) (Nat.le_of_ble_eq_true rfl) rfl ?_
      refine c_ial 0 8 (Nat.le_of_ble_eq_true rfl) rfl rfl rfl rfl rfl (by decide) ?_
      show m_W 76 25 [(0, .ref 12), (1, .int x)] [.int ((k_sh 1 (I, J)).1 13 0)] (I, J) _
      refine c_run 1 (pc' := 26) (ls' := [(0, .ref 12), (1, .int x)]) (st' := [.long ((((k_sh 1 (I, J)).1 13 0) : Int32).toInt64)]) (μ' := (I, J)) (Nat.le_of_ble_eq_true rfl) rfl ?_
      refine c_lret (Nat.le_of_ble_eq_true rfl) rfl rfl ?_
      refine ⟨?_, rfl⟩
      first
        | (have hz : p = 0 := (nI_eq (by omega) (by omega)).mp (show nI p = nI 0 by rw [← hp]; assumption)
           rw [k_vol, s_vol, if_pos hz])
        | (have hz : ¬ p = 0 := fun q => absurd (show (k_sh 1 (I, J)).1 11 0 = 0 by rw [hp, q]; rfl) (by assumption)
           rw [k_vol, s_vol, if_neg hz, if_neg (by assumption)])
  · skip
    refine c_run 1 (pc' := 8) (ls' := [(0, .ref 12), (1, .int x)]) (st' := [.long 0]) (μ' := (I, J)) (Nat.le_of_ble_eq_true rfl) rfl ?_
    refine c_lret (Nat.le_of_ble_eq_true rfl) rfl rfl ?_
    refine ⟨?_, rfl⟩
    first
      | (have hz : p = 0 := (nI_eq (by omega) (by omega)).mp (show nI p = nI 0 by rw [← hp]; assumption)
         rw [k_vol, s_vol, if_pos hz])
      | (have hz : ¬ p = 0 := fun q => absurd (show (k_sh 1 (I, J)).1 11 0 = 0 by rw [hp, q]; rfl) (by assumption)
         rw [k_vol, s_vol, if_neg hz, if_neg (by assumption)])

set_option maxRecDepth 100000 in
theorem t1_gm0 (I : Nat → Nat → Int32) (J : Nat → Nat → Int64) (x : Int32) (p : Nat) (hp : (k_sh 1 (I, J)).1 11 0 = nI p) (hp8 : p ≤ 8) : m_W 86 0 (lv_args 0 [.ref 2, .int 0, .int x]) [] (I, J) (m_E (some (.long (k_gm (k_sh 1 (I, J)) 0 p x))) (I, J)) := by
  show m_W 86 0 [(0, .ref 2), (1, .int 0), (2, .int x)] [] (I, J) _
  refine c_run 3 (pc' := 5) (ls' := [(0, .ref 2), (1, .int 0), (2, .int x)]) (st' := [.int 0, .ref 11]) (μ' := (I, J)) (Nat.le_of_ble_eq_true rfl) rfl ?_
  refine c_aal 0 4 (Nat.le_of_ble_eq_true rfl) rfl rfl rfl rfl rfl (by decide) ?_
  show m_W 86 6 [(0, .ref 2), (1, .int 0), (2, .int x)] [.ref 12] (I, J) _
  refine c_run 1 (pc' := 7) (ls' := [(0, .ref 2), (1, .int 0), (2, .int x)]) (st' := [.int x, .ref 12]) (μ' := (I, J)) (Nat.le_of_ble_eq_true rfl) rfl ?_
  refine c_cv 76 [.int x] (b := 12) (r := []) (Nat.le_of_ble_eq_true rfl) rfl rfl rfl rfl rfl rfl (t1_vol0 I J x p hp hp8) ?_
  rintro _ _ ⟨rfl, rfl⟩
  show m_W 86 10 [(0, .ref 2), (1, .int 0), (2, .int x)] [.long (k_vol (k_sh 1 (I, J)) 0 p x)] (I, J) _
  refine c_run 3 (pc' := 15) (ls' := [(0, .ref 2), (1, .int 0), (2, .int x)]) (st' := [.int 0, .ref 3, .long (k_vol (k_sh 1 (I, J)) 0 p x)]) (μ' := (I, J)) (Nat.le_of_ble_eq_true rfl) rfl ?_
  refine c_ial 0 4 (Nat.le_of_ble_eq_true rfl) rfl rfl rfl rfl rfl (by decide) ?_
  show m_W 86 16 [(0, .ref 2), (1, .int 0), (2, .int x)] [.int ((k_sh 1 (I, J)).1 2 0), .long (k_vol (k_sh 1 (I, J)) 0 p x)] (I, J) _
  refine c_run 3 (pc' := 21) (ls' := [(0, .ref 2), (1, .int 0), (2, .int x)]) (st' := [.long 1000, .long ((k_vol (k_sh 1 (I, J)) 0 p x) * ((((k_sh 1 (I, J)).1 2 0) : Int32).toInt64))]) (μ' := (I, J)) (Nat.le_of_ble_eq_true rfl) rfl ?_
  refine c_ldiv (Nat.le_of_ble_eq_true rfl) rfl (by decide) ?_
  refine c_lret (Nat.le_of_ble_eq_true rfl) rfl rfl ?_
  exact ⟨rfl, rfl⟩

set_option maxRecDepth 100000 in
theorem t1_bt1 (I : Nat → Nat → Int32) (J : Nat → Nat → Int64) (a d : Nat) (ha : a < 8) (hd : d < 8) (x : Int32) : m_W 77 0 (lv_args 0 [.ref 15, .int (nI a), .int (nI d), .int x]) [] (I, J) (m_E (some (.long (s_bt ((k_sh 1 (I, J)).1 15) ((k_sh 1 (I, J)).1 16) a d x))) (I, J)) := by
  show m_W 77 0 [(0, .ref 15), (1, .int (nI a)), (2, .int (nI d)), (3, .int x)] [] (I, J) _
  refine c_run 3 (pc' := 5) (ls' := [(0, .ref 15), (1, .int (nI a)), (2, .int (nI d)), (3, .int x)]) (st' := [.int (nI d), .ref 16]) (μ' := (I, J)) (Nat.le_of_ble_eq_true rfl) rfl ?_
  refine c_ial d 8 (Nat.le_of_ble_eq_true rfl) rfl rfl rfl rfl rfl hd ?_
  show m_W 77 6 [(0, .ref 15), (1, .int (nI a)), (2, .int (nI d)), (3, .int x)] [.int ((k_sh 1 (I, J)).1 15 d)] (I, J) _
  refine c_run 3 (pc' := 11) (ls' := [(0, .ref 15), (1, .int (nI a)), (2, .int (nI d)), (3, .int x)]) (st' := [.int (nI a), .ref 16, .int ((k_sh 1 (I, J)).1 15 d)]) (μ' := (I, J)) (Nat.le_of_ble_eq_true rfl) rfl ?_
  refine c_ial a 8 (Nat.le_of_ble_eq_true rfl) rfl rfl rfl rfl rfl ha ?_
  show m_W 77 12 [(0, .ref 15), (1, .int (nI a)), (2, .int (nI d)), (3, .int x)] [.int ((k_sh 1 (I, J)).1 15 a), .int ((k_sh 1 (I, J)).1 15 d)] (I, J) _
  refine c_run 6 (pc' := 20) (ls' := [(4, .long (((((k_sh 1 (I, J)).1 15 d) - ((k_sh 1 (I, J)).1 15 a)) : Int32).toInt64)), (0, .ref 15), (1, .int (nI a)), (2, .int (nI d)), (3, .int x)]) (st' := [.int (lg_cmp (((((k_sh 1 (I, J)).1 15 d) - ((k_sh 1 (I, J)).1 15 a)) : Int32).toInt64) 0)]) (μ' := (I, J)) (Nat.le_of_ble_eq_true rfl) rfl ?_
  refine c_ifgt 31 (Nat.le_of_ble_eq_true rfl) rfl rfl (fun h1 => ?_) (fun h1 => ?_)
  · replace h1 := lc_gt.mp h1
    refine c_run 3 (pc' := 36) (ls' := [(4, .long (((((k_sh 1 (I, J)).1 15 d) - ((k_sh 1 (I, J)).1 15 a)) : Int32).toInt64)), (0, .ref 15), (1, .int (nI a)), (2, .int (nI d)), (3, .int x)]) (st' := [.int (nI d), .ref 17]) (μ' := (I, J)) (Nat.le_of_ble_eq_true rfl) rfl ?_
    refine c_ial d 8 (Nat.le_of_ble_eq_true rfl) rfl rfl rfl rfl rfl hd ?_
    show m_W 77 37 [(4, .long (((((k_sh 1 (I, J)).1 15 d) - ((k_sh 1 (I, J)).1 15 a)) : Int32).toInt64)), (0, .ref 15), (1, .int (nI a)), (2, .int (nI d)), (3, .int x)] [.int ((k_sh 1 (I, J)).1 16 d)] (I, J) _
    refine c_run 3 (pc' := 42) (ls' := [(4, .long (((((k_sh 1 (I, J)).1 15 d) - ((k_sh 1 (I, J)).1 15 a)) : Int32).toInt64)), (0, .ref 15), (1, .int (nI a)), (2, .int (nI d)), (3, .int x)]) (st' := [.int (nI a), .ref 17, .int ((k_sh 1 (I, J)).1 16 d)]) (μ' := (I, J)) (Nat.le_of_ble_eq_true rfl) rfl ?_
    refine c_ial a 8 (Nat.le_of_ble_eq_true rfl) rfl rfl rfl rfl rfl ha ?_
    show m_W 77 43 [(4, .long (((((k_sh 1 (I, J)).1 15 d) - ((k_sh 1 (I, J)).1 15 a)) : Int32).toInt64)), (0, .ref 15), (1, .int (nI a)), (2, .int (nI d)), (3, .int x)] [.int ((k_sh 1 (I, J)).1 16 a), .int ((k_sh 1 (I, J)).1 16 d)] (I, J) _
    refine c_run 6 (pc' := 52) (ls' := [(6, .long (((((k_sh 1 (I, J)).1 16 d) - ((k_sh 1 (I, J)).1 16 a)) : Int32).toInt64)), (4, .long (((((k_sh 1 (I, J)).1 15 d) - ((k_sh 1 (I, J)).1 15 a)) : Int32).toInt64)), (0, .ref 15), (1, .int (nI a)), (2, .int (nI d)), (3, .int x)]) (st' := [.int (nI a), .ref 17]) (μ' := (I, J)) (Nat.le_of_ble_eq_true rfl) rfl ?_
    refine c_ial a 8 (Nat.le_of_ble_eq_true rfl) rfl rfl rfl rfl rfl ha ?_
    show m_W 77 53 [(6, .long (((((k_sh 1 (I, J)).1 16 d) - ((k_sh 1 (I, J)).1 16 a)) : Int32).toInt64)), (4, .long (((((k_sh 1 (I, J)).1 15 d) - ((k_sh 1 (I, J)).1 15 a)) : Int32).toInt64)), (0, .ref 15), (1, .int (nI a)), (2, .int (nI d)), (3, .int x)] [.int ((k_sh 1 (I, J)).1 16 a)] (I, J) _
    refine c_run 6 (pc' := 62) (ls' := [(6, .long (((((k_sh 1 (I, J)).1 16 d) - ((k_sh 1 (I, J)).1 16 a)) : Int32).toInt64)), (4, .long (((((k_sh 1 (I, J)).1 15 d) - ((k_sh 1 (I, J)).1 15 a)) : Int32).toInt64)), (0, .ref 15), (1, .int (nI a)), (2, .int (nI d)), (3, .int x)]) (st' := [.int (nI a), .ref 16, .int x, .long (((((k_sh 1 (I, J)).1 16 d) - ((k_sh 1 (I, J)).1 16 a)) : Int32).toInt64), .long ((((k_sh 1 (I, J)).1 16 a) : Int32).toInt64)]) (μ' := (I, J)) (Nat.le_of_ble_eq_true rfl) rfl ?_
    refine c_ial a 8 (Nat.le_of_ble_eq_true rfl) rfl rfl rfl rfl rfl ha ?_
    show m_W 77 63 [(6, .long (((((k_sh 1 (I, J)).1 16 d) - ((k_sh 1 (I, J)).1 16 a)) : Int32).toInt64)), (4, .long (((((k_sh 1 (I, J)).1 15 d) - ((k_sh 1 (I, J)).1 15 a)) : Int32).toInt64)), (0, .ref 15), (1, .int (nI a)), (2, .int (nI d)), (3, .int x)] [.int ((k_sh 1 (I, J)).1 15 a), .int x, .long (((((k_sh 1 (I, J)).1 16 d) - ((k_sh 1 (I, J)).1 16 a)) : Int32).toInt64), .long ((((k_sh 1 (I, J)).1 16 a) : Int32).toInt64)] (I, J) _
    refine c_run 4 (pc' := 68) (ls' := [(6, .long (((((k_sh 1 (I, J)).1 16 d) - ((k_sh 1 (I, J)).1 16 a)) : Int32).toInt64)), (4, .long (((((k_sh 1 (I, J)).1 15 d) - ((k_sh 1 (I, J)).1 15 a)) : Int32).toInt64)), (0, .ref 15), (1, .int (nI a)), (2, .int (nI d)), (3, .int x)]) (st' := [.long (((((k_sh 1 (I, J)).1 15 d) - ((k_sh 1 (I, J)).1 15 a)) : Int32).toInt64), .long ((((((k_sh 1 (I, J)).1 16 d) - ((k_sh 1 (I, J)).1 16 a)) : Int32).toInt64) * (((x - ((k_sh 1 (I, J)).1 15 a)) : Int32).toInt64)), .long ((((k_sh 1 (I, J)).1 16 a) : Int32).toInt64)]) (μ' := (I, J)) (Nat.le_of_ble_eq_true rfl) rfl ?_
    refine c_cs 157 [.long ((((((k_sh 1 (I, J)).1 16 d) - ((k_sh 1 (I, J)).1 16 a)) : Int32).toInt64) * (((x - ((k_sh 1 (I, J)).1 15 a)) : Int32).toInt64)), .long (((((k_sh 1 (I, J)).1 15 d) - ((k_sh 1 (I, J)).1 15 a)) : Int32).toInt64)] (r := [.long ((((k_sh 1 (I, J)).1 16 a) : Int32).toInt64)]) (Nat.le_of_ble_eq_true rfl) rfl (Or.inl rfl) rfl rfl rfl (t_floorDiv I J ((((((k_sh 1 (I, J)).1 16 d) - ((k_sh 1 (I, J)).1 16 a)) : Int32).toInt64) * (((x - ((k_sh 1 (I, J)).1 15 a)) : Int32).toInt64)) (((((k_sh 1 (I, J)).1 15 d) - ((k_sh 1 (I, J)).1 15 a)) : Int32).toInt64) (show (0 : Int64).toInt < _ from Int64.lt_iff_toInt_lt.mp (by assumption))) ?_
    rintro _ _ ⟨rfl, rfl⟩
    show m_W 77 71 [(6, .long (((((k_sh 1 (I, J)).1 16 d) - ((k_sh 1 (I, J)).1 16 a)) : Int32).toInt64)), (4, .long (((((k_sh 1 (I, J)).1 15 d) - ((k_sh 1 (I, J)).1 15 a)) : Int32).toInt64)), (0, .ref 15), (1, .int (nI a)), (2, .int (nI d)), (3, .int x)] [.long (s_fl ((((((k_sh 1 (I, J)).1 16 d) - ((k_sh 1 (I, J)).1 16 a)) : Int32).toInt64) * (((x - ((k_sh 1 (I, J)).1 15 a)) : Int32).toInt64)) (((((k_sh 1 (I, J)).1 15 d) - ((k_sh 1 (I, J)).1 15 a)) : Int32).toInt64)), .long ((((k_sh 1 (I, J)).1 16 a) : Int32).toInt64)] (I, J) _
    refine c_run 1 (pc' := 72) (ls' := [(6, .long (((((k_sh 1 (I, J)).1 16 d) - ((k_sh 1 (I, J)).1 16 a)) : Int32).toInt64)), (4, .long (((((k_sh 1 (I, J)).1 15 d) - ((k_sh 1 (I, J)).1 15 a)) : Int32).toInt64)), (0, .ref 15), (1, .int (nI a)), (2, .int (nI d)), (3, .int x)]) (st' := [.long (((((k_sh 1 (I, J)).1 16 a) : Int32).toInt64) + (s_fl ((((((k_sh 1 (I, J)).1 16 d) - ((k_sh 1 (I, J)).1 16 a)) : Int32).toInt64) * (((x - ((k_sh 1 (I, J)).1 15 a)) : Int32).toInt64)) (((((k_sh 1 (I, J)).1 15 d) - ((k_sh 1 (I, J)).1 15 a)) : Int32).toInt64)))]) (μ' := (I, J)) (Nat.le_of_ble_eq_true rfl) rfl ?_
    refine c_lret (Nat.le_of_ble_eq_true rfl) rfl rfl ?_
    refine ⟨?_, rfl⟩
    first | rfl | (simp only [s_bt, if_pos h1]; done) | (simp only [s_bt, if_pos h1]; rfl)
  · replace h1 := mt lc_gt.mpr h1
    refine c_run 3 (pc' := 28) (ls' := [(4, .long (((((k_sh 1 (I, J)).1 15 d) - ((k_sh 1 (I, J)).1 15 a)) : Int32).toInt64)), (0, .ref 15), (1, .int (nI a)), (2, .int (nI d)), (3, .int x)]) (st' := [.int (nI a), .ref 17]) (μ' := (I, J)) (Nat.le_of_ble_eq_true rfl) rfl ?_
    refine c_ial a 8 (Nat.le_of_ble_eq_true rfl) rfl rfl rfl rfl rfl ha ?_
    show m_W 77 29 [(4, .long (((((k_sh 1 (I, J)).1 15 d) - ((k_sh 1 (I, J)).1 15 a)) : Int32).toInt64)), (0, .ref 15), (1, .int (nI a)), (2, .int (nI d)), (3, .int x)] [.int ((k_sh 1 (I, J)).1 16 a)] (I, J) _
    refine c_run 1 (pc' := 30) (ls' := [(4, .long (((((k_sh 1 (I, J)).1 15 d) - ((k_sh 1 (I, J)).1 15 a)) : Int32).toInt64)), (0, .ref 15), (1, .int (nI a)), (2, .int (nI d)), (3, .int x)]) (st' := [.long ((((k_sh 1 (I, J)).1 16 a) : Int32).toInt64)]) (μ' := (I, J)) (Nat.le_of_ble_eq_true rfl) rfl ?_
    refine c_lret (Nat.le_of_ble_eq_true rfl) rfl rfl ?_
    refine ⟨?_, rfl⟩
    first | rfl | (simp only [s_bt, if_neg h1]; done) | (simp only [s_bt, if_neg h1]; rfl)

set_option maxRecDepth 100000 in
theorem t1_vl1 (I : Nat → Nat → Int32) (J : Nat → Nat → Int64) (x : Int32) (p : Nat) (hp : (k_sh 1 (I, J)).1 14 0 = nI p) (hp8 : p ≤ 8) : ∀ (r i : Nat), i + r = p → 1 ≤ i → m_W 76 29 [(0, .ref 15), (1, .int x), (2, .int (nI i))] [] (I, J) (m_E (some (.long (s_vl ((k_sh 1 (I, J)).1 15) ((k_sh 1 (I, J)).1 16) p x i r))) (I, J)) := by
  intro r
  induction r with
  | zero =>
    intro i hir hi1
    refine c_run 3 (pc' := 34) (ls' := [(0, .ref 15), (1, .int x), (2, .int (nI i))]) (st' := [.int ((k_sh 1 (I, J)).1 14 0), .int (nI i)]) (μ' := (I, J)) (Nat.le_of_ble_eq_true rfl) rfl ?_
    refine c_icge 63 (Nat.le_of_ble_eq_true rfl) rfl rfl (fun h1 => ?_) (fun h1 => absurd (by rw [hp]; exact nI_le (by omega) (by omega)) h1)
    refine c_run 6 (pc' := 73) (ls' := [(0, .ref 15), (1, .int x), (2, .int (nI i))]) (st' := [.int (((k_sh 1 (I, J)).1 14 0) - (1 : Int32)), .ref 17]) (μ' := (I, J)) (Nat.le_of_ble_eq_true rfl) rfl ?_
    refine c_ial (p - 1) 8 (Nat.le_of_ble_eq_true rfl) rfl rfl rfl rfl (by rw [hp]; exact k_p1 (by omega)) (by omega) ?_
    show m_W 76 74 [(0, .ref 15), (1, .int x), (2, .int (nI i))] [.int ((k_sh 1 (I, J)).1 16 (p - 1))] (I, J) _
    refine c_run 1 (pc' := 75) (ls' := [(0, .ref 15), (1, .int x), (2, .int (nI i))]) (st' := [.long ((((k_sh 1 (I, J)).1 16 (p - 1)) : Int32).toInt64)]) (μ' := (I, J)) (Nat.le_of_ble_eq_true rfl) rfl ?_
    refine c_lret (Nat.le_of_ble_eq_true rfl) rfl rfl ?_
    exact ⟨rfl, rfl⟩
  | succ r ih =>
    intro i hir hi1
    refine c_run 3 (pc' := 34) (ls' := [(0, .ref 15), (1, .int x), (2, .int (nI i))]) (st' := [.int ((k_sh 1 (I, J)).1 14 0), .int (nI i)]) (μ' := (I, J)) (Nat.le_of_ble_eq_true rfl) rfl ?_
    refine c_icge 63 (Nat.le_of_ble_eq_true rfl) rfl rfl (fun h1 => absurd h1 (by rw [hp]; exact nI_ge (by omega) (by omega))) (fun h1 => ?_)
    refine c_run 4 (pc' := 43) (ls' := [(0, .ref 15), (1, .int x), (2, .int (nI i))]) (st' := [.int (nI i), .ref 16, .int x]) (μ' := (I, J)) (Nat.le_of_ble_eq_true rfl) rfl ?_
    refine c_ial i 8 (Nat.le_of_ble_eq_true rfl) rfl rfl rfl rfl rfl (by omega) ?_
    show m_W 76 44 [(0, .ref 15), (1, .int x), (2, .int (nI i))] [.int ((k_sh 1 (I, J)).1 15 i), .int x] (I, J) _
    refine c_icgt 57 (Nat.le_of_ble_eq_true rfl) rfl rfl (fun h2 => ?_) (fun h2 => ?_)
    · skip
      refine c_run 2 (pc' := 29) (ls' := [(2, .int ((nI i) + (1 : Int32))), (0, .ref 15), (1, .int x)]) (st' := []) (μ' := (I, J)) (Nat.le_of_ble_eq_true rfl) rfl ?_
      refine c_w [1, 2, 0] (ls' := [(0, .ref 15), (1, .int x), (2, .int ((nI i) + (1 : Int32)))]) rfl ?_
      rw [nI_1 i, s_vl, if_pos (by assumption)]
      exact ih (i + 1) (by omega) (by omega)
    · skip
      refine c_run 6 (pc' := 53) (ls' := [(0, .ref 15), (1, .int x), (2, .int (nI i))]) (st' := [.int x, .int (nI i), .int ((nI i) - (1 : Int32)), .ref 15]) (μ' := (I, J)) (Nat.le_of_ble_eq_true rfl) rfl ?_
      rw [show (nI i) - (1 : Int32) = nI (i - 1) from k_p1 hi1]
      refine c_cv 77 [.int (nI (i - 1)), .int (nI i), .int x] (b := 15) (r := []) (Nat.le_of_ble_eq_true rfl) rfl rfl rfl rfl rfl rfl (t1_bt1 I J (i - 1) i (by omega) (by omega) x) ?_
      rintro _ _ ⟨rfl, rfl⟩
      show m_W 76 56 [(0, .ref 15), (1, .int x), (2, .int (nI i))] [.long (s_bt ((k_sh 1 (I, J)).1 15) ((k_sh 1 (I, J)).1 16) (i - 1) i x)] (I, J) _
      refine c_lret (Nat.le_of_ble_eq_true rfl) rfl rfl ?_
      refine ⟨?_, rfl⟩
      rw [s_vl, if_neg (by assumption)]

set_option maxRecDepth 100000 in
theorem t1_vol1 (I : Nat → Nat → Int32) (J : Nat → Nat → Int64) (x : Int32) (p : Nat) (hp : (k_sh 1 (I, J)).1 14 0 = nI p) (hp8 : p ≤ 8) : m_W 76 0 (lv_args 0 [.ref 15, .int x]) [] (I, J) (m_E (some (.long (k_vol (k_sh 1 (I, J)) 1 p x))) (I, J)) := by
  show m_W 76 0 [(0, .ref 15), (1, .int x)] [] (I, J) _
  refine c_run 2 (pc' := 4) (ls' := [(0, .ref 15), (1, .int x)]) (st' := [.int ((k_sh 1 (I, J)).1 14 0)]) (μ' := (I, J)) (Nat.le_of_ble_eq_true rfl) rfl ?_
  refine c_ifne 9 (Nat.le_of_ble_eq_true rfl) rfl rfl (fun h1 => ?_) (fun h1 => ?_)
  · skip
    refine c_run 4 (pc' := 15) (ls' := [(0, .ref 15), (1, .int x)]) (st' := [.int 0, .ref 16, .int x]) (μ' := (I, J)) (Nat.le_of_ble_eq_true rfl) rfl ?_
    refine c_ial 0 8 (Nat.le_of_ble_eq_true rfl) rfl rfl rfl rfl rfl (by decide) ?_
    show m_W 76 16 [(0, .ref 15), (1, .int x)] [.int ((k_sh 1 (I, J)).1 15 0), .int x] (I, J) _
    refine c_icgt 27 (Nat.le_of_ble_eq_true rfl) rfl rfl (fun h2 => ?_) (fun h2 => ?_)
    · skip
      refine c_run 2 (pc' := 29) (ls' := [(2, .int 1), (0, .ref 15), (1, .int x)]) (st' := []) (μ' := (I, J)) (Nat.le_of_ble_eq_true rfl) rfl ?_
      refine c_w [1, 2, 0] (ls' := [(0, .ref 15), (1, .int x), (2, .int 1)]) rfl ?_
      have hz : ¬ p = 0 := fun q => absurd (show (k_sh 1 (I, J)).1 14 0 = 0 by rw [hp, q]; rfl) (by assumption)
      rw [k_vol, s_vol, if_neg hz, if_pos (by assumption)]
      exact t1_vl1 I J x p hp hp8 (p - 1) 1 (by omega) (by omega)
    · skip
      refine c_run 3 (pc' := 24) (ls' := [(0, .ref 15), (1, .int x)]) (st' := [.int 0, .ref 17]) (μ' := (I, J)) (Nat.le_of_ble_eq_true rfl) rfl ?_
      refine c_ial 0 8 (Nat.le_of_ble_eq_true rfl) rfl rfl rfl rfl rfl (by decide) ?_
      show m_W 76 25 [(0, .ref 15), (1, .int x)] [.int ((k_sh 1 (I, J)).1 16 0)] (I, J) _
      refine c_run 1 (pc' := 26) (ls' := [(0, .ref 15), (1, .int x)]) (st' := [.long ((((k_sh 1 (I, J)).1 16 0) : Int32).toInt64)]) (μ' := (I, J)) (Nat.le_of_ble_eq_true rfl) rfl ?_
      refine c_lret (Nat.le_of_ble_eq_true rfl) rfl rfl ?_
      refine ⟨?_, rfl⟩
      first
        | (have hz : p = 0 := (nI_eq (by omega) (by omega)).mp (show nI p = nI 0 by rw [← hp]; assumption)
           rw [k_vol, s_vol, if_pos hz])
        | (have hz : ¬ p = 0 := fun q => absurd (show (k_sh 1 (I, J)).1 14 0 = 0 by rw [hp, q]; rfl) (by assumption)
           rw [k_vol, s_vol, if_neg hz, if_neg (by assumption)])
  · skip
    refine c_run 1 (pc' := 8) (ls' := [(0, .ref 15), (1, .int x)]) (st' := [.long 0]) (μ' := (I, J)) (Nat.le_of_ble_eq_true rfl) rfl ?_
    refine c_lret (Nat.le_of_ble_eq_true rfl) rfl rfl ?_
    refine ⟨?_, rfl⟩
    first
      | (have hz : p = 0 := (nI_eq (by omega) (by omega)).mp (show nI p = nI 0 by rw [← hp]; assumption)
         rw [k_vol, s_vol, if_pos hz])
      | (have hz : ¬ p = 0 := fun q => absurd (show (k_sh 1 (I, J)).1 14 0 = 0 by rw [hp, q]; rfl) (by assumption)
         rw [k_vol, s_vol, if_neg hz, if_neg (by assumption)])

set_option maxRecDepth 100000 in
theorem t1_gm1 (I : Nat → Nat → Int32) (J : Nat → Nat → Int64) (x : Int32) (p : Nat) (hp : (k_sh 1 (I, J)).1 14 0 = nI p) (hp8 : p ≤ 8) : m_W 86 0 (lv_args 0 [.ref 2, .int 1, .int x]) [] (I, J) (m_E (some (.long (k_gm (k_sh 1 (I, J)) 1 p x))) (I, J)) := by
  show m_W 86 0 [(0, .ref 2), (1, .int 1), (2, .int x)] [] (I, J) _
  refine c_run 3 (pc' := 5) (ls' := [(0, .ref 2), (1, .int 1), (2, .int x)]) (st' := [.int 1, .ref 11]) (μ' := (I, J)) (Nat.le_of_ble_eq_true rfl) rfl ?_
  refine c_aal 1 4 (Nat.le_of_ble_eq_true rfl) rfl rfl rfl rfl rfl (by decide) ?_
  show m_W 86 6 [(0, .ref 2), (1, .int 1), (2, .int x)] [.ref 15] (I, J) _
  refine c_run 1 (pc' := 7) (ls' := [(0, .ref 2), (1, .int 1), (2, .int x)]) (st' := [.int x, .ref 15]) (μ' := (I, J)) (Nat.le_of_ble_eq_true rfl) rfl ?_
  refine c_cv 76 [.int x] (b := 15) (r := []) (Nat.le_of_ble_eq_true rfl) rfl rfl rfl rfl rfl rfl (t1_vol1 I J x p hp hp8) ?_
  rintro _ _ ⟨rfl, rfl⟩
  show m_W 86 10 [(0, .ref 2), (1, .int 1), (2, .int x)] [.long (k_vol (k_sh 1 (I, J)) 1 p x)] (I, J) _
  refine c_run 3 (pc' := 15) (ls' := [(0, .ref 2), (1, .int 1), (2, .int x)]) (st' := [.int 1, .ref 3, .long (k_vol (k_sh 1 (I, J)) 1 p x)]) (μ' := (I, J)) (Nat.le_of_ble_eq_true rfl) rfl ?_
  refine c_ial 1 4 (Nat.le_of_ble_eq_true rfl) rfl rfl rfl rfl rfl (by decide) ?_
  show m_W 86 16 [(0, .ref 2), (1, .int 1), (2, .int x)] [.int ((k_sh 1 (I, J)).1 2 1), .long (k_vol (k_sh 1 (I, J)) 1 p x)] (I, J) _
  refine c_run 3 (pc' := 21) (ls' := [(0, .ref 2), (1, .int 1), (2, .int x)]) (st' := [.long 1000, .long ((k_vol (k_sh 1 (I, J)) 1 p x) * ((((k_sh 1 (I, J)).1 2 1) : Int32).toInt64))]) (μ' := (I, J)) (Nat.le_of_ble_eq_true rfl) rfl ?_
  refine c_ldiv (Nat.le_of_ble_eq_true rfl) rfl (by decide) ?_
  refine c_lret (Nat.le_of_ble_eq_true rfl) rfl rfl ?_
  exact ⟨rfl, rfl⟩

set_option maxRecDepth 100000 in
theorem t1_bt2 (I : Nat → Nat → Int32) (J : Nat → Nat → Int64) (a d : Nat) (ha : a < 8) (hd : d < 8) (x : Int32) : m_W 77 0 (lv_args 0 [.ref 18, .int (nI a), .int (nI d), .int x]) [] (I, J) (m_E (some (.long (s_bt ((k_sh 1 (I, J)).1 18) ((k_sh 1 (I, J)).1 19) a d x))) (I, J)) := by
  show m_W 77 0 [(0, .ref 18), (1, .int (nI a)), (2, .int (nI d)), (3, .int x)] [] (I, J) _
  refine c_run 3 (pc' := 5) (ls' := [(0, .ref 18), (1, .int (nI a)), (2, .int (nI d)), (3, .int x)]) (st' := [.int (nI d), .ref 19]) (μ' := (I, J)) (Nat.le_of_ble_eq_true rfl) rfl ?_
  refine c_ial d 8 (Nat.le_of_ble_eq_true rfl) rfl rfl rfl rfl rfl hd ?_
  show m_W 77 6 [(0, .ref 18), (1, .int (nI a)), (2, .int (nI d)), (3, .int x)] [.int ((k_sh 1 (I, J)).1 18 d)] (I, J) _
  refine c_run 3 (pc' := 11) (ls' := [(0, .ref 18), (1, .int (nI a)), (2, .int (nI d)), (3, .int x)]) (st' := [.int (nI a), .ref 19, .int ((k_sh 1 (I, J)).1 18 d)]) (μ' := (I, J)) (Nat.le_of_ble_eq_true rfl) rfl ?_
  refine c_ial a 8 (Nat.le_of_ble_eq_true rfl) rfl rfl rfl rfl rfl ha ?_
  show m_W 77 12 [(0, .ref 18), (1, .int (nI a)), (2, .int (nI d)), (3, .int x)] [.int ((k_sh 1 (I, J)).1 18 a), .int ((k_sh 1 (I, J)).1 18 d)] (I, J) _
  refine c_run 6 (pc' := 20) (ls' := [(4, .long (((((k_sh 1 (I, J)).1 18 d) - ((k_sh 1 (I, J)).1 18 a)) : Int32).toInt64)), (0, .ref 18), (1, .int (nI a)), (2, .int (nI d)), (3, .int x)]) (st' := [.int (lg_cmp (((((k_sh 1 (I, J)).1 18 d) - ((k_sh 1 (I, J)).1 18 a)) : Int32).toInt64) 0)]) (μ' := (I, J)) (Nat.le_of_ble_eq_true rfl) rfl ?_
  refine c_ifgt 31 (Nat.le_of_ble_eq_true rfl) rfl rfl (fun h1 => ?_) (fun h1 => ?_)
  · replace h1 := lc_gt.mp h1
    refine c_run 3 (pc' := 36) (ls' := [(4, .long (((((k_sh 1 (I, J)).1 18 d) - ((k_sh 1 (I, J)).1 18 a)) : Int32).toInt64)), (0, .ref 18), (1, .int (nI a)), (2, .int (nI d)), (3, .int x)]) (st' := [.int (nI d), .ref 20]) (μ' := (I, J)) (Nat.le_of_ble_eq_true rfl) rfl ?_
    refine c_ial d 8 (Nat.le_of_ble_eq_true rfl) rfl rfl rfl rfl rfl hd ?_
    show m_W 77 37 [(4, .long (((((k_sh 1 (I, J)).1 18 d) - ((k_sh 1 (I, J)).1 18 a)) : Int32).toInt64)), (0, .ref 18), (1, .int (nI a)), (2, .int (nI d)), (3, .int x)] [.int ((k_sh 1 (I, J)).1 19 d)] (I, J) _
    refine c_run 3 (pc' := 42) (ls' := [(4, .long (((((k_sh 1 (I, J)).1 18 d) - ((k_sh 1 (I, J)).1 18 a)) : Int32).toInt64)), (0, .ref 18), (1, .int (nI a)), (2, .int (nI d)), (3, .int x)]) (st' := [.int (nI a), .ref 20, .int ((k_sh 1 (I, J)).1 19 d)]) (μ' := (I, J)) (Nat.le_of_ble_eq_true rfl) rfl ?_
    refine c_ial a 8 (Nat.le_of_ble_eq_true rfl) rfl rfl rfl rfl rfl ha ?_
    show m_W 77 43 [(4, .long (((((k_sh 1 (I, J)).1 18 d) - ((k_sh 1 (I, J)).1 18 a)) : Int32).toInt64)), (0, .ref 18), (1, .int (nI a)), (2, .int (nI d)), (3, .int x)] [.int ((k_sh 1 (I, J)).1 19 a), .int ((k_sh 1 (I, J)).1 19 d)] (I, J) _
    refine c_run 6 (pc' := 52) (ls' := [(6, .long (((((k_sh 1 (I, J)).1 19 d) - ((k_sh 1 (I, J)).1 19 a)) : Int32).toInt64)), (4, .long (((((k_sh 1 (I, J)).1 18 d) - ((k_sh 1 (I, J)).1 18 a)) : Int32).toInt64)), (0, .ref 18), (1, .int (nI a)), (2, .int (nI d)), (3, .int x)]) (st' := [.int (nI a), .ref 20]) (μ' := (I, J)) (Nat.le_of_ble_eq_true rfl) rfl ?_
    refine c_ial a 8 (Nat.le_of_ble_eq_true rfl) rfl rfl rfl rfl rfl ha ?_
    show m_W 77 53 [(6, .long (((((k_sh 1 (I, J)).1 19 d) - ((k_sh 1 (I, J)).1 19 a)) : Int32).toInt64)), (4, .long (((((k_sh 1 (I, J)).1 18 d) - ((k_sh 1 (I, J)).1 18 a)) : Int32).toInt64)), (0, .ref 18), (1, .int (nI a)), (2, .int (nI d)), (3, .int x)] [.int ((k_sh 1 (I, J)).1 19 a)] (I, J) _
    refine c_run 6 (pc' := 62) (ls' := [(6, .long (((((k_sh 1 (I, J)).1 19 d) - ((k_sh 1 (I, J)).1 19 a)) : Int32).toInt64)), (4, .long (((((k_sh 1 (I, J)).1 18 d) - ((k_sh 1 (I, J)).1 18 a)) : Int32).toInt64)), (0, .ref 18), (1, .int (nI a)), (2, .int (nI d)), (3, .int x)]) (st' := [.int (nI a), .ref 19, .int x, .long (((((k_sh 1 (I, J)).1 19 d) - ((k_sh 1 (I, J)).1 19 a)) : Int32).toInt64), .long ((((k_sh 1 (I, J)).1 19 a) : Int32).toInt64)]) (μ' := (I, J)) (Nat.le_of_ble_eq_true rfl) rfl ?_
    refine c_ial a 8 (Nat.le_of_ble_eq_true rfl) rfl rfl rfl rfl rfl ha ?_
    show m_W 77 63 [(6, .long (((((k_sh 1 (I, J)).1 19 d) - ((k_sh 1 (I, J)).1 19 a)) : Int32).toInt64)), (4, .long (((((k_sh 1 (I, J)).1 18 d) - ((k_sh 1 (I, J)).1 18 a)) : Int32).toInt64)), (0, .ref 18), (1, .int (nI a)), (2, .int (nI d)), (3, .int x)] [.int ((k_sh 1 (I, J)).1 18 a), .int x, .long (((((k_sh 1 (I, J)).1 19 d) - ((k_sh 1 (I, J)).1 19 a)) : Int32).toInt64), .long ((((k_sh 1 (I, J)).1 19 a) : Int32).toInt64)] (I, J) _
    refine c_run 4 (pc' := 68) (ls' := [(6, .long (((((k_sh 1 (I, J)).1 19 d) - ((k_sh 1 (I, J)).1 19 a)) : Int32).toInt64)), (4, .long (((((k_sh 1 (I, J)).1 18 d) - ((k_sh 1 (I, J)).1 18 a)) : Int32).toInt64)), (0, .ref 18), (1, .int (nI a)), (2, .int (nI d)), (3, .int x)]) (st' := [.long (((((k_sh 1 (I, J)).1 18 d) - ((k_sh 1 (I, J)).1 18 a)) : Int32).toInt64), .long ((((((k_sh 1 (I, J)).1 19 d) - ((k_sh 1 (I, J)).1 19 a)) : Int32).toInt64) * (((x - ((k_sh 1 (I, J)).1 18 a)) : Int32).toInt64)), .long ((((k_sh 1 (I, J)).1 19 a) : Int32).toInt64)]) (μ' := (I, J)) (Nat.le_of_ble_eq_true rfl) rfl ?_
    refine c_cs 157 [.long ((((((k_sh 1 (I, J)).1 19 d) - ((k_sh 1 (I, J)).1 19 a)) : Int32).toInt64) * (((x - ((k_sh 1 (I, J)).1 18 a)) : Int32).toInt64)), .long (((((k_sh 1 (I, J)).1 18 d) - ((k_sh 1 (I, J)).1 18 a)) : Int32).toInt64)] (r := [.long ((((k_sh 1 (I, J)).1 19 a) : Int32).toInt64)]) (Nat.le_of_ble_eq_true rfl) rfl (Or.inl rfl) rfl rfl rfl (t_floorDiv I J ((((((k_sh 1 (I, J)).1 19 d) - ((k_sh 1 (I, J)).1 19 a)) : Int32).toInt64) * (((x - ((k_sh 1 (I, J)).1 18 a)) : Int32).toInt64)) (((((k_sh 1 (I, J)).1 18 d) - ((k_sh 1 (I, J)).1 18 a)) : Int32).toInt64) (show (0 : Int64).toInt < _ from Int64.lt_iff_toInt_lt.mp (by assumption))) ?_
    rintro _ _ ⟨rfl, rfl⟩
    show m_W 77 71 [(6, .long (((((k_sh 1 (I, J)).1 19 d) - ((k_sh 1 (I, J)).1 19 a)) : Int32).toInt64)), (4, .long (((((k_sh 1 (I, J)).1 18 d) - ((k_sh 1 (I, J)).1 18 a)) : Int32).toInt64)), (0, .ref 18), (1, .int (nI a)), (2, .int (nI d)), (3, .int x)] [.long (s_fl ((((((k_sh 1 (I, J)).1 19 d) - ((k_sh 1 (I, J)).1 19 a)) : Int32).toInt64) * (((x - ((k_sh 1 (I, J)).1 18 a)) : Int32).toInt64)) (((((k_sh 1 (I, J)).1 18 d) - ((k_sh 1 (I, J)).1 18 a)) : Int32).toInt64)), .long ((((k_sh 1 (I, J)).1 19 a) : Int32).toInt64)] (I, J) _
    refine c_run 1 (pc' := 72) (ls' := [(6, .long (((((k_sh 1 (I, J)).1 19 d) - ((k_sh 1 (I, J)).1 19 a)) : Int32).toInt64)), (4, .long (((((k_sh 1 (I, J)).1 18 d) - ((k_sh 1 (I, J)).1 18 a)) : Int32).toInt64)), (0, .ref 18), (1, .int (nI a)), (2, .int (nI d)), (3, .int x)]) (st' := [.long (((((k_sh 1 (I, J)).1 19 a) : Int32).toInt64) + (s_fl ((((((k_sh 1 (I, J)).1 19 d) - ((k_sh 1 (I, J)).1 19 a)) : Int32).toInt64) * (((x - ((k_sh 1 (I, J)).1 18 a)) : Int32).toInt64)) (((((k_sh 1 (I, J)).1 18 d) - ((k_sh 1 (I, J)).1 18 a)) : Int32).toInt64)))]) (μ' := (I, J)) (Nat.le_of_ble_eq_true rfl) rfl ?_
    refine c_lret (Nat.le_of_ble_eq_true rfl) rfl rfl ?_
    refine ⟨?_, rfl⟩
    first | rfl | (simp only [s_bt, if_pos h1]; done) | (simp only [s_bt, if_pos h1]; rfl)
  · replace h1 := mt lc_gt.mpr h1
    refine c_run 3 (pc' := 28) (ls' := [(4, .long (((((k_sh 1 (I, J)).1 18 d) - ((k_sh 1 (I, J)).1 18 a)) : Int32).toInt64)), (0, .ref 18), (1, .int (nI a)), (2, .int (nI d)), (3, .int x)]) (st' := [.int (nI a), .ref 20]) (μ' := (I, J)) (Nat.le_of_ble_eq_true rfl) rfl ?_
    refine c_ial a 8 (Nat.le_of_ble_eq_true rfl) rfl rfl rfl rfl rfl ha ?_
    show m_W 77 29 [(4, .long (((((k_sh 1 (I, J)).1 18 d) - ((k_sh 1 (I, J)).1 18 a)) : Int32).toInt64)), (0, .ref 18), (1, .int (nI a)), (2, .int (nI d)), (3, .int x)] [.int ((k_sh 1 (I, J)).1 19 a)] (I, J) _
    refine c_run 1 (pc' := 30) (ls' := [(4, .long (((((k_sh 1 (I, J)).1 18 d) - ((k_sh 1 (I, J)).1 18 a)) : Int32).toInt64)), (0, .ref 18), (1, .int (nI a)), (2, .int (nI d)), (3, .int x)]) (st' := [.long ((((k_sh 1 (I, J)).1 19 a) : Int32).toInt64)]) (μ' := (I, J)) (Nat.le_of_ble_eq_true rfl) rfl ?_
    refine c_lret (Nat.le_of_ble_eq_true rfl) rfl rfl ?_
    refine ⟨?_, rfl⟩
    first | rfl | (simp only [s_bt, if_neg h1]; done) | (simp only [s_bt, if_neg h1]; rfl)

set_option maxRecDepth 100000 in
theorem t1_vl2 (I : Nat → Nat → Int32) (J : Nat → Nat → Int64) (x : Int32) (p : Nat) (hp : (k_sh 1 (I, J)).1 17 0 = nI p) (hp8 : p ≤ 8) : ∀ (r i : Nat), i + r = p → 1 ≤ i → m_W 76 29 [(0, .ref 18), (1, .int x), (2, .int (nI i))] [] (I, J) (m_E (some (.long (s_vl ((k_sh 1 (I, J)).1 18) ((k_sh 1 (I, J)).1 19) p x i r))) (I, J)) := by
  intro r
  induction r with
  | zero =>
    intro i hir hi1
    refine c_run 3 (pc' := 34) (ls' := [(0, .ref 18), (1, .int x), (2, .int (nI i))]) (st' := [.int ((k_sh 1 (I, J)).1 17 0), .int (nI i)]) (μ' := (I, J)) (Nat.le_of_ble_eq_true rfl) rfl ?_
    refine c_icge 63 (Nat.le_of_ble_eq_true rfl) rfl rfl (fun h1 => ?_) (fun h1 => absurd (by rw [hp]; exact nI_le (by omega) (by omega)) h1)
    refine c_run 6 (pc' := 73) (ls' := [(0, .ref 18), (1, .int x), (2, .int (nI i))]) (st' := [.int (((k_sh 1 (I, J)).1 17 0) - (1 : Int32)), .ref 20]) (μ' := (I, J)) (Nat.le_of_ble_eq_true rfl) rfl ?_
    refine c_ial (p - 1) 8 (Nat.le_of_ble_eq_true rfl) rfl rfl rfl rfl (by rw [hp]; exact k_p1 (by omega)) (by omega) ?_
    show m_W 76 74 [(0, .ref 18), (1, .int x), (2, .int (nI i))] [.int ((k_sh 1 (I, J)).1 19 (p - 1))] (I, J) _
    refine c_run 1 (pc' := 75) (ls' := [(0, .ref 18), (1, .int x), (2, .int (nI i))]) (st' := [.long ((((k_sh 1 (I, J)).1 19 (p - 1)) : Int32).toInt64)]) (μ' := (I, J)) (Nat.le_of_ble_eq_true rfl) rfl ?_
    refine c_lret (Nat.le_of_ble_eq_true rfl) rfl rfl ?_
    exact ⟨rfl, rfl⟩
  | succ r ih =>
    intro i hir hi1
    refine c_run 3 (pc' := 34) (ls' := [(0, .ref 18), (1, .int x), (2, .int (nI i))]) (st' := [.int ((k_sh 1 (I, J)).1 17 0), .int (nI i)]) (μ' := (I, J)) (Nat.le_of_ble_eq_true rfl) rfl ?_
    refine c_icge 63 (Nat.le_of_ble_eq_true rfl) rfl rfl (fun h1 => absurd h1 (by rw [hp]; exact nI_ge (by omega) (by omega))) (fun h1 => ?_)
    refine c_run 4 (pc' := 43) (ls' := [(0, .ref 18), (1, .int x), (2, .int (nI i))]) (st' := [.int (nI i), .ref 19, .int x]) (μ' := (I, J)) (Nat.le_of_ble_eq_true rfl) rfl ?_
    refine c_ial i 8 (Nat.le_of_ble_eq_true rfl) rfl rfl rfl rfl rfl (by omega) ?_
    show m_W 76 44 [(0, .ref 18), (1, .int x), (2, .int (nI i))] [.int ((k_sh 1 (I, J)).1 18 i), .int x] (I, J) _
    refine c_icgt 57 (Nat.le_of_ble_eq_true rfl) rfl rfl (fun h2 => ?_) (fun h2 => ?_)
    · skip
      refine c_run 2 (pc' := 29) (ls' := [(2, .int ((nI i) + (1 : Int32))), (0, .ref 18), (1, .int x)]) (st' := []) (μ' := (I, J)) (Nat.le_of_ble_eq_true rfl) rfl ?_
      refine c_w [1, 2, 0] (ls' := [(0, .ref 18), (1, .int x), (2, .int ((nI i) + (1 : Int32)))]) rfl ?_
      rw [nI_1 i, s_vl, if_pos (by assumption)]
      exact ih (i + 1) (by omega) (by omega)
    · skip
      refine c_run 6 (pc' := 53) (ls' := [(0, .ref 18), (1, .int x), (2, .int (nI i))]) (st' := [.int x, .int (nI i), .int ((nI i) - (1 : Int32)), .ref 18]) (μ' := (I, J)) (Nat.le_of_ble_eq_true rfl) rfl ?_
      rw [show (nI i) - (1 : Int32) = nI (i - 1) from k_p1 hi1]
      refine c_cv 77 [.int (nI (i - 1)), .int (nI i), .int x] (b := 18) (r := []) (Nat.le_of_ble_eq_true rfl) rfl rfl rfl rfl rfl rfl (t1_bt2 I J (i - 1) i (by omega) (by omega) x) ?_
      rintro _ _ ⟨rfl, rfl⟩
      show m_W 76 56 [(0, .ref 18), (1, .int x), (2, .int (nI i))] [.long (s_bt ((k_sh 1 (I, J)).1 18) ((k_sh 1 (I, J)).1 19) (i - 1) i x)] (I, J) _
      refine c_lret (Nat.le_of_ble_eq_true rfl) rfl rfl ?_
      refine ⟨?_, rfl⟩
      rw [s_vl, if_neg (by assumption)]

set_option maxRecDepth 100000 in
theorem t1_vol2 (I : Nat → Nat → Int32) (J : Nat → Nat → Int64) (x : Int32) (p : Nat) (hp : (k_sh 1 (I, J)).1 17 0 = nI p) (hp8 : p ≤ 8) : m_W 76 0 (lv_args 0 [.ref 18, .int x]) [] (I, J) (m_E (some (.long (k_vol (k_sh 1 (I, J)) 2 p x))) (I, J)) := by
  show m_W 76 0 [(0, .ref 18), (1, .int x)] [] (I, J) _
  refine c_run 2 (pc' := 4) (ls' := [(0, .ref 18), (1, .int x)]) (st' := [.int ((k_sh 1 (I, J)).1 17 0)]) (μ' := (I, J)) (Nat.le_of_ble_eq_true rfl) rfl ?_
  refine c_ifne 9 (Nat.le_of_ble_eq_true rfl) rfl rfl (fun h1 => ?_) (fun h1 => ?_)
  · skip
    refine c_run 4 (pc' := 15) (ls' := [(0, .ref 18), (1, .int x)]) (st' := [.int 0, .ref 19, .int x]) (μ' := (I, J)) (Nat.le_of_ble_eq_true rfl) rfl ?_
    refine c_ial 0 8 (Nat.le_of_ble_eq_true rfl) rfl rfl rfl rfl rfl (by decide) ?_
    show m_W 76 16 [(0, .ref 18), (1, .int x)] [.int ((k_sh 1 (I, J)).1 18 0), .int x] (I, J) _
    refine c_icgt 27 (Nat.le_of_ble_eq_true rfl) rfl rfl (fun h2 => ?_) (fun h2 => ?_)
    · skip
      refine c_run 2 (pc' := 29) (ls' := [(2, .int 1), (0, .ref 18), (1, .int x)]) (st' := []) (μ' := (I, J)) (Nat.le_of_ble_eq_true rfl) rfl ?_
      refine c_w [1, 2, 0] (ls' := [(0, .ref 18), (1, .int x), (2, .int 1)]) rfl ?_
      have hz : ¬ p = 0 := fun q => absurd (show (k_sh 1 (I, J)).1 17 0 = 0 by rw [hp, q]; rfl) (by assumption)
      rw [k_vol, s_vol, if_neg hz, if_pos (by assumption)]
      exact t1_vl2 I J x p hp hp8 (p - 1) 1 (by omega) (by omega)
    · skip
      refine c_run 3 (pc' := 24) (ls' := [(0, .ref 18), (1, .int x)]) (st' := [.int 0, .ref 20]) (μ' := (I, J)) (Nat.le_of_ble_eq_true rfl) rfl ?_
      refine c_ial 0 8 (Nat.le_of_ble_eq_true rfl) rfl rfl rfl rfl rfl (by decide) ?_
      show m_W 76 25 [(0, .ref 18), (1, .int x)] [.int ((k_sh 1 (I, J)).1 19 0)] (I, J) _
      refine c_run 1 (pc' := 26) (ls' := [(0, .ref 18), (1, .int x)]) (st' := [.long ((((k_sh 1 (I, J)).1 19 0) : Int32).toInt64)]) (μ' := (I, J)) (Nat.le_of_ble_eq_true rfl) rfl ?_
      refine c_lret (Nat.le_of_ble_eq_true rfl) rfl rfl ?_
      refine ⟨?_, rfl⟩
      first
        | (have hz : p = 0 := (nI_eq (by omega) (by omega)).mp (show nI p = nI 0 by rw [← hp]; assumption)
           rw [k_vol, s_vol, if_pos hz])
        | (have hz : ¬ p = 0 := fun q => absurd (show (k_sh 1 (I, J)).1 17 0 = 0 by rw [hp, q]; rfl) (by assumption)
           rw [k_vol, s_vol, if_neg hz, if_neg (by assumption)])
  · skip
    refine c_run 1 (pc' := 8) (ls' := [(0, .ref 18), (1, .int x)]) (st' := [.long 0]) (μ' := (I, J)) (Nat.le_of_ble_eq_true rfl) rfl ?_
    refine c_lret (Nat.le_of_ble_eq_true rfl) rfl rfl ?_
    refine ⟨?_, rfl⟩
    first
      | (have hz : p = 0 := (nI_eq (by omega) (by omega)).mp (show nI p = nI 0 by rw [← hp]; assumption)
         rw [k_vol, s_vol, if_pos hz])
      | (have hz : ¬ p = 0 := fun q => absurd (show (k_sh 1 (I, J)).1 17 0 = 0 by rw [hp, q]; rfl) (by assumption)
         rw [k_vol, s_vol, if_neg hz, if_neg (by assumption)])

set_option maxRecDepth 100000 in
theorem t1_gm2 (I : Nat → Nat → Int32) (J : Nat → Nat → Int64) (x : Int32) (p : Nat) (hp : (k_sh 1 (I, J)).1 17 0 = nI p) (hp8 : p ≤ 8) : m_W 86 0 (lv_args 0 [.ref 2, .int 2, .int x]) [] (I, J) (m_E (some (.long (k_gm (k_sh 1 (I, J)) 2 p x))) (I, J)) := by
  show m_W 86 0 [(0, .ref 2), (1, .int 2), (2, .int x)] [] (I, J) _
  refine c_run 3 (pc' := 5) (ls' := [(0, .ref 2), (1, .int 2), (2, .int x)]) (st' := [.int 2, .ref 11]) (μ' := (I, J)) (Nat.le_of_ble_eq_true rfl) rfl ?_
  refine c_aal 2 4 (Nat.le_of_ble_eq_true rfl) rfl rfl rfl rfl rfl (by decide) ?_
  show m_W 86 6 [(0, .ref 2), (1, .int 2), (2, .int x)] [.ref 18] (I, J) _
  refine c_run 1 (pc' := 7) (ls' := [(0, .ref 2), (1, .int 2), (2, .int x)]) (st' := [.int x, .ref 18]) (μ' := (I, J)) (Nat.le_of_ble_eq_true rfl) rfl ?_
  refine c_cv 76 [.int x] (b := 18) (r := []) (Nat.le_of_ble_eq_true rfl) rfl rfl rfl rfl rfl rfl (t1_vol2 I J x p hp hp8) ?_
  rintro _ _ ⟨rfl, rfl⟩
  show m_W 86 10 [(0, .ref 2), (1, .int 2), (2, .int x)] [.long (k_vol (k_sh 1 (I, J)) 2 p x)] (I, J) _
  refine c_run 3 (pc' := 15) (ls' := [(0, .ref 2), (1, .int 2), (2, .int x)]) (st' := [.int 2, .ref 3, .long (k_vol (k_sh 1 (I, J)) 2 p x)]) (μ' := (I, J)) (Nat.le_of_ble_eq_true rfl) rfl ?_
  refine c_ial 2 4 (Nat.le_of_ble_eq_true rfl) rfl rfl rfl rfl rfl (by decide) ?_
  show m_W 86 16 [(0, .ref 2), (1, .int 2), (2, .int x)] [.int ((k_sh 1 (I, J)).1 2 2), .long (k_vol (k_sh 1 (I, J)) 2 p x)] (I, J) _
  refine c_run 3 (pc' := 21) (ls' := [(0, .ref 2), (1, .int 2), (2, .int x)]) (st' := [.long 1000, .long ((k_vol (k_sh 1 (I, J)) 2 p x) * ((((k_sh 1 (I, J)).1 2 2) : Int32).toInt64))]) (μ' := (I, J)) (Nat.le_of_ble_eq_true rfl) rfl ?_
  refine c_ldiv (Nat.le_of_ble_eq_true rfl) rfl (by decide) ?_
  refine c_lret (Nat.le_of_ble_eq_true rfl) rfl rfl ?_
  exact ⟨rfl, rfl⟩

set_option maxRecDepth 100000 in
theorem t1_bt3 (I : Nat → Nat → Int32) (J : Nat → Nat → Int64) (a d : Nat) (ha : a < 8) (hd : d < 8) (x : Int32) : m_W 77 0 (lv_args 0 [.ref 21, .int (nI a), .int (nI d), .int x]) [] (I, J) (m_E (some (.long (s_bt ((k_sh 1 (I, J)).1 21) ((k_sh 1 (I, J)).1 22) a d x))) (I, J)) := by
  show m_W 77 0 [(0, .ref 21), (1, .int (nI a)), (2, .int (nI d)), (3, .int x)] [] (I, J) _
  refine c_run 3 (pc' := 5) (ls' := [(0, .ref 21), (1, .int (nI a)), (2, .int (nI d)), (3, .int x)]) (st' := [.int (nI d), .ref 22]) (μ' := (I, J)) (Nat.le_of_ble_eq_true rfl) rfl ?_
  refine c_ial d 8 (Nat.le_of_ble_eq_true rfl) rfl rfl rfl rfl rfl hd ?_
  show m_W 77 6 [(0, .ref 21), (1, .int (nI a)), (2, .int (nI d)), (3, .int x)] [.int ((k_sh 1 (I, J)).1 21 d)] (I, J) _
  refine c_run 3 (pc' := 11) (ls' := [(0, .ref 21), (1, .int (nI a)), (2, .int (nI d)), (3, .int x)]) (st' := [.int (nI a), .ref 22, .int ((k_sh 1 (I, J)).1 21 d)]) (μ' := (I, J)) (Nat.le_of_ble_eq_true rfl) rfl ?_
  refine c_ial a 8 (Nat.le_of_ble_eq_true rfl) rfl rfl rfl rfl rfl ha ?_
  show m_W 77 12 [(0, .ref 21), (1, .int (nI a)), (2, .int (nI d)), (3, .int x)] [.int ((k_sh 1 (I, J)).1 21 a), .int ((k_sh 1 (I, J)).1 21 d)] (I, J) _
  refine c_run 6 (pc' := 20) (ls' := [(4, .long (((((k_sh 1 (I, J)).1 21 d) - ((k_sh 1 (I, J)).1 21 a)) : Int32).toInt64)), (0, .ref 21), (1, .int (nI a)), (2, .int (nI d)), (3, .int x)]) (st' := [.int (lg_cmp (((((k_sh 1 (I, J)).1 21 d) - ((k_sh 1 (I, J)).1 21 a)) : Int32).toInt64) 0)]) (μ' := (I, J)) (Nat.le_of_ble_eq_true rfl) rfl ?_
  refine c_ifgt 31 (Nat.le_of_ble_eq_true rfl) rfl rfl (fun h1 => ?_) (fun h1 => ?_)
  · replace h1 := lc_gt.mp h1
    refine c_run 3 (pc' := 36) (ls' := [(4, .long (((((k_sh 1 (I, J)).1 21 d) - ((k_sh 1 (I, J)).1 21 a)) : Int32).toInt64)), (0, .ref 21), (1, .int (nI a)), (2, .int (nI d)), (3, .int x)]) (st' := [.int (nI d), .ref 23]) (μ' := (I, J)) (Nat.le_of_ble_eq_true rfl) rfl ?_
    refine c_ial d 8 (Nat.le_of_ble_eq_true rfl) rfl rfl rfl rfl rfl hd ?_
    show m_W 77 37 [(4, .long (((((k_sh 1 (I, J)).1 21 d) - ((k_sh 1 (I, J)).1 21 a)) : Int32).toInt64)), (0, .ref 21), (1, .int (nI a)), (2, .int (nI d)), (3, .int x)] [.int ((k_sh 1 (I, J)).1 22 d)] (I, J) _
    refine c_run 3 (pc' := 42) (ls' := [(4, .long (((((k_sh 1 (I, J)).1 21 d) - ((k_sh 1 (I, J)).1 21 a)) : Int32).toInt64)), (0, .ref 21), (1, .int (nI a)), (2, .int (nI d)), (3, .int x)]) (st' := [.int (nI a), .ref 23, .int ((k_sh 1 (I, J)).1 22 d)]) (μ' := (I, J)) (Nat.le_of_ble_eq_true rfl) rfl ?_
    refine c_ial a 8 (Nat.le_of_ble_eq_true rfl) rfl rfl rfl rfl rfl ha ?_
    show m_W 77 43 [(4, .long (((((k_sh 1 (I, J)).1 21 d) - ((k_sh 1 (I, J)).1 21 a)) : Int32).toInt64)), (0, .ref 21), (1, .int (nI a)), (2, .int (nI d)), (3, .int x)] [.int ((k_sh 1 (I, J)).1 22 a), .int ((k_sh 1 (I, J)).1 22 d)] (I, J) _
    refine c_run 6 (pc' := 52) (ls' := [(6, .long (((((k_sh 1 (I, J)).1 22 d) - ((k_sh 1 (I, J)).1 22 a)) : Int32).toInt64)), (4, .long (((((k_sh 1 (I, J)).1 21 d) - ((k_sh 1 (I, J)).1 21 a)) : Int32).toInt64)), (0, .ref 21), (1, .int (nI a)), (2, .int (nI d)), (3, .int x)]) (st' := [.int (nI a), .ref 23]) (μ' := (I, J)) (Nat.le_of_ble_eq_true rfl) rfl ?_
    refine c_ial a 8 (Nat.le_of_ble_eq_true rfl) rfl rfl rfl rfl rfl ha ?_
    show m_W 77 53 [(6, .long (((((k_sh 1 (I, J)).1 22 d) - ((k_sh 1 (I, J)).1 22 a)) : Int32).toInt64)), (4, .long (((((k_sh 1 (I, J)).1 21 d) - ((k_sh 1 (I, J)).1 21 a)) : Int32).toInt64)), (0, .ref 21), (1, .int (nI a)), (2, .int (nI d)), (3, .int x)] [.int ((k_sh 1 (I, J)).1 22 a)] (I, J) _
    refine c_run 6 (pc' := 62) (ls' := [(6, .long (((((k_sh 1 (I, J)).1 22 d) - ((k_sh 1 (I, J)).1 22 a)) : Int32).toInt64)), (4, .long (((((k_sh 1 (I, J)).1 21 d) - ((k_sh 1 (I, J)).1 21 a)) : Int32).toInt64)), (0, .ref 21), (1, .int (nI a)), (2, .int (nI d)), (3, .int x)]) (st' := [.int (nI a), .ref 22, .int x, .long (((((k_sh 1 (I, J)).1 22 d) - ((k_sh 1 (I, J)).1 22 a)) : Int32).toInt64), .long ((((k_sh 1 (I, J)).1 22 a) : Int32).toInt64)]) (μ' := (I, J)) (Nat.le_of_ble_eq_true rfl) rfl ?_
    refine c_ial a 8 (Nat.le_of_ble_eq_true rfl) rfl rfl rfl rfl rfl ha ?_
    show m_W 77 63 [(6, .long (((((k_sh 1 (I, J)).1 22 d) - ((k_sh 1 (I, J)).1 22 a)) : Int32).toInt64)), (4, .long (((((k_sh 1 (I, J)).1 21 d) - ((k_sh 1 (I, J)).1 21 a)) : Int32).toInt64)), (0, .ref 21), (1, .int (nI a)), (2, .int (nI d)), (3, .int x)] [.int ((k_sh 1 (I, J)).1 21 a), .int x, .long (((((k_sh 1 (I, J)).1 22 d) - ((k_sh 1 (I, J)).1 22 a)) : Int32).toInt64), .long ((((k_sh 1 (I, J)).1 22 a) : Int32).toInt64)] (I, J) _
    refine c_run 4 (pc' := 68) (ls' := [(6, .long (((((k_sh 1 (I, J)).1 22 d) - ((k_sh 1 (I, J)).1 22 a)) : Int32).toInt64)), (4, .long (((((k_sh 1 (I, J)).1 21 d) - ((k_sh 1 (I, J)).1 21 a)) : Int32).toInt64)), (0, .ref 21), (1, .int (nI a)), (2, .int (nI d)), (3, .int x)]) (st' := [.long (((((k_sh 1 (I, J)).1 21 d) - ((k_sh 1 (I, J)).1 21 a)) : Int32).toInt64), .long ((((((k_sh 1 (I, J)).1 22 d) - ((k_sh 1 (I, J)).1 22 a)) : Int32).toInt64) * (((x - ((k_sh 1 (I, J)).1 21 a)) : Int32).toInt64)), .long ((((k_sh 1 (I, J)).1 22 a) : Int32).toInt64)]) (μ' := (I, J)) (Nat.le_of_ble_eq_true rfl) rfl ?_
    refine c_cs 157 [.long ((((((k_sh 1 (I, J)).1 22 d) - ((k_sh 1 (I, J)).1 22 a)) : Int32).toInt64) * (((x - ((k_sh 1 (I, J)).1 21 a)) : Int32).toInt64)), .long (((((k_sh 1 (I, J)).1 21 d) - ((k_sh 1 (I, J)).1 21 a)) : Int32).toInt64)] (r := [.long ((((k_sh 1 (I, J)).1 22 a) : Int32).toInt64)]) (Nat.le_of_ble_eq_true rfl) rfl (Or.inl rfl) rfl rfl rfl (t_floorDiv I J ((((((k_sh 1 (I, J)).1 22 d) - ((k_sh 1 (I, J)).1 22 a)) : Int32).toInt64) * (((x - ((k_sh 1 (I, J)).1 21 a)) : Int32).toInt64)) (((((k_sh 1 (I, J)).1 21 d) - ((k_sh 1 (I, J)).1 21 a)) : Int32).toInt64) (show (0 : Int64).toInt < _ from Int64.lt_iff_toInt_lt.mp (by assumption))) ?_
    rintro _ _ ⟨rfl, rfl⟩
    show m_W 77 71 [(6, .long (((((k_sh 1 (I, J)).1 22 d) - ((k_sh 1 (I, J)).1 22 a)) : Int32).toInt64)), (4, .long (((((k_sh 1 (I, J)).1 21 d) - ((k_sh 1 (I, J)).1 21 a)) : Int32).toInt64)), (0, .ref 21), (1, .int (nI a)), (2, .int (nI d)), (3, .int x)] [.long (s_fl ((((((k_sh 1 (I, J)).1 22 d) - ((k_sh 1 (I, J)).1 22 a)) : Int32).toInt64) * (((x - ((k_sh 1 (I, J)).1 21 a)) : Int32).toInt64)) (((((k_sh 1 (I, J)).1 21 d) - ((k_sh 1 (I, J)).1 21 a)) : Int32).toInt64)), .long ((((k_sh 1 (I, J)).1 22 a) : Int32).toInt64)] (I, J) _
    refine c_run 1 (pc' := 72) (ls' := [(6, .long (((((k_sh 1 (I, J)).1 22 d) - ((k_sh 1 (I, J)).1 22 a)) : Int32).toInt64)), (4, .long (((((k_sh 1 (I, J)).1 21 d) - ((k_sh 1 (I, J)).1 21 a)) : Int32).toInt64)), (0, .ref 21), (1, .int (nI a)), (2, .int (nI d)), (3, .int x)]) (st' := [.long (((((k_sh 1 (I, J)).1 22 a) : Int32).toInt64) + (s_fl ((((((k_sh 1 (I, J)).1 22 d) - ((k_sh 1 (I, J)).1 22 a)) : Int32).toInt64) * (((x - ((k_sh 1 (I, J)).1 21 a)) : Int32).toInt64)) (((((k_sh 1 (I, J)).1 21 d) - ((k_sh 1 (I, J)).1 21 a)) : Int32).toInt64)))]) (μ' := (I, J)) (Nat.le_of_ble_eq_true rfl) rfl ?_
    refine c_lret (Nat.le_of_ble_eq_true rfl) rfl rfl ?_
    refine ⟨?_, rfl⟩
    first | rfl | (simp only [s_bt, if_pos h1]; done) | (simp only [s_bt, if_pos h1]; rfl)
  · replace h1 := mt lc_gt.mpr h1
    refine c_run 3 (pc' := 28) (ls' := [(4, .long (((((k_sh 1 (I, J)).1 21 d) - ((k_sh 1 (I, J)).1 21 a)) : Int32).toInt64)), (0, .ref 21), (1, .int (nI a)), (2, .int (nI d)), (3, .int x)]) (st' := [.int (nI a), .ref 23]) (μ' := (I, J)) (Nat.le_of_ble_eq_true rfl) rfl ?_
    refine c_ial a 8 (Nat.le_of_ble_eq_true rfl) rfl rfl rfl rfl rfl ha ?_
    show m_W 77 29 [(4, .long (((((k_sh 1 (I, J)).1 21 d) - ((k_sh 1 (I, J)).1 21 a)) : Int32).toInt64)), (0, .ref 21), (1, .int (nI a)), (2, .int (nI d)), (3, .int x)] [.int ((k_sh 1 (I, J)).1 22 a)] (I, J) _
    refine c_run 1 (pc' := 30) (ls' := [(4, .long (((((k_sh 1 (I, J)).1 21 d) - ((k_sh 1 (I, J)).1 21 a)) : Int32).toInt64)), (0, .ref 21), (1, .int (nI a)), (2, .int (nI d)), (3, .int x)]) (st' := [.long ((((k_sh 1 (I, J)).1 22 a) : Int32).toInt64)]) (μ' := (I, J)) (Nat.le_of_ble_eq_true rfl) rfl ?_
    refine c_lret (Nat.le_of_ble_eq_true rfl) rfl rfl ?_
    refine ⟨?_, rfl⟩
    first | rfl | (simp only [s_bt, if_neg h1]; done) | (simp only [s_bt, if_neg h1]; rfl)

set_option maxRecDepth 100000 in
theorem t1_vl3 (I : Nat → Nat → Int32) (J : Nat → Nat → Int64) (x : Int32) (p : Nat) (hp : (k_sh 1 (I, J)).1 20 0 = nI p) (hp8 : p ≤ 8) : ∀ (r i : Nat), i + r = p → 1 ≤ i → m_W 76 29 [(0, .ref 21), (1, .int x), (2, .int (nI i))] [] (I, J) (m_E (some (.long (s_vl ((k_sh 1 (I, J)).1 21) ((k_sh 1 (I, J)).1 22) p x i r))) (I, J)) := by
  intro r
  induction r with
  | zero =>
    intro i hir hi1
    refine c_run 3 (pc' := 34) (ls' := [(0, .ref 21), (1, .int x), (2, .int (nI i))]) (st' := [.int ((k_sh 1 (I, J)).1 20 0), .int (nI i)]) (μ' := (I, J)) (Nat.le_of_ble_eq_true rfl) rfl ?_
    refine c_icge 63 (Nat.le_of_ble_eq_true rfl) rfl rfl (fun h1 => ?_) (fun h1 => absurd (by rw [hp]; exact nI_le (by omega) (by omega)) h1)
    refine c_run 6 (pc' := 73) (ls' := [(0, .ref 21), (1, .int x), (2, .int (nI i))]) (st' := [.int (((k_sh 1 (I, J)).1 20 0) - (1 : Int32)), .ref 23]) (μ' := (I, J)) (Nat.le_of_ble_eq_true rfl) rfl ?_
    refine c_ial (p - 1) 8 (Nat.le_of_ble_eq_true rfl) rfl rfl rfl rfl (by rw [hp]; exact k_p1 (by omega)) (by omega) ?_
    show m_W 76 74 [(0, .ref 21), (1, .int x), (2, .int (nI i))] [.int ((k_sh 1 (I, J)).1 22 (p - 1))] (I, J) _
    refine c_run 1 (pc' := 75) (ls' := [(0, .ref 21), (1, .int x), (2, .int (nI i))]) (st' := [.long ((((k_sh 1 (I, J)).1 22 (p - 1)) : Int32).toInt64)]) (μ' := (I, J)) (Nat.le_of_ble_eq_true rfl) rfl ?_
    refine c_lret (Nat.le_of_ble_eq_true rfl) rfl rfl ?_
    exact ⟨rfl, rfl⟩
  | succ r ih =>
    intro i hir hi1
    refine c_run 3 (pc' := 34) (ls' := [(0, .ref 21), (1, .int x), (2, .int (nI i))]) (st' := [.int ((k_sh 1 (I, J)).1 20 0), .int (nI i)]) (μ' := (I, J)) (Nat.le_of_ble_eq_true rfl) rfl ?_
    refine c_icge 63 (Nat.le_of_ble_eq_true rfl) rfl rfl (fun h1 => absurd h1 (by rw [hp]; exact nI_ge (by omega) (by omega))) (fun h1 => ?_)
    refine c_run 4 (pc' := 43) (ls' := [(0, .ref 21), (1, .int x), (2, .int (nI i))]) (st' := [.int (nI i), .ref 22, .int x]) (μ' := (I, J)) (Nat.le_of_ble_eq_true rfl) rfl ?_
    refine c_ial i 8 (Nat.le_of_ble_eq_true rfl) rfl rfl rfl rfl rfl (by omega) ?_
    show m_W 76 44 [(0, .ref 21), (1, .int x), (2, .int (nI i))] [.int ((k_sh 1 (I, J)).1 21 i), .int x] (I, J) _
    refine c_icgt 57 (Nat.le_of_ble_eq_true rfl) rfl rfl (fun h2 => ?_) (fun h2 => ?_)
    · skip
      refine c_run 2 (pc' := 29) (ls' := [(2, .int ((nI i) + (1 : Int32))), (0, .ref 21), (1, .int x)]) (st' := []) (μ' := (I, J)) (Nat.le_of_ble_eq_true rfl) rfl ?_
      refine c_w [1, 2, 0] (ls' := [(0, .ref 21), (1, .int x), (2, .int ((nI i) + (1 : Int32)))]) rfl ?_
      rw [nI_1 i, s_vl, if_pos (by assumption)]
      exact ih (i + 1) (by omega) (by omega)
    · skip
      refine c_run 6 (pc' := 53) (ls' := [(0, .ref 21), (1, .int x), (2, .int (nI i))]) (st' := [.int x, .int (nI i), .int ((nI i) - (1 : Int32)), .ref 21]) (μ' := (I, J)) (Nat.le_of_ble_eq_true rfl) rfl ?_
      rw [show (nI i) - (1 : Int32) = nI (i - 1) from k_p1 hi1]
      refine c_cv 77 [.int (nI (i - 1)), .int (nI i), .int x] (b := 21) (r := []) (Nat.le_of_ble_eq_true rfl) rfl rfl rfl rfl rfl rfl (t1_bt3 I J (i - 1) i (by omega) (by omega) x) ?_
      rintro _ _ ⟨rfl, rfl⟩
      show m_W 76 56 [(0, .ref 21), (1, .int x), (2, .int (nI i))] [.long (s_bt ((k_sh 1 (I, J)).1 21) ((k_sh 1 (I, J)).1 22) (i - 1) i x)] (I, J) _
      refine c_lret (Nat.le_of_ble_eq_true rfl) rfl rfl ?_
      refine ⟨?_, rfl⟩
      rw [s_vl, if_neg (by assumption)]

set_option maxRecDepth 100000 in
theorem t1_vol3 (I : Nat → Nat → Int32) (J : Nat → Nat → Int64) (x : Int32) (p : Nat) (hp : (k_sh 1 (I, J)).1 20 0 = nI p) (hp8 : p ≤ 8) : m_W 76 0 (lv_args 0 [.ref 21, .int x]) [] (I, J) (m_E (some (.long (k_vol (k_sh 1 (I, J)) 3 p x))) (I, J)) := by
  show m_W 76 0 [(0, .ref 21), (1, .int x)] [] (I, J) _
  refine c_run 2 (pc' := 4) (ls' := [(0, .ref 21), (1, .int x)]) (st' := [.int ((k_sh 1 (I, J)).1 20 0)]) (μ' := (I, J)) (Nat.le_of_ble_eq_true rfl) rfl ?_
  refine c_ifne 9 (Nat.le_of_ble_eq_true rfl) rfl rfl (fun h1 => ?_) (fun h1 => ?_)
  · skip
    refine c_run 4 (pc' := 15) (ls' := [(0, .ref 21), (1, .int x)]) (st' := [.int 0, .ref 22, .int x]) (μ' := (I, J)) (Nat.le_of_ble_eq_true rfl) rfl ?_
    refine c_ial 0 8 (Nat.le_of_ble_eq_true rfl) rfl rfl rfl rfl rfl (by decide) ?_
    show m_W 76 16 [(0, .ref 21), (1, .int x)] [.int ((k_sh 1 (I, J)).1 21 0), .int x] (I, J) _
    refine c_icgt 27 (Nat.le_of_ble_eq_true rfl) rfl rfl (fun h2 => ?_) (fun h2 => ?_)
    · skip
      refine c_run 2 (pc' := 29) (ls' := [(2, .int 1), (0, .ref 21), (1, .int x)]) (st' := []) (μ' := (I, J)) (Nat.le_of_ble_eq_true rfl) rfl ?_
      refine c_w [1, 2, 0] (ls' := [(0, .ref 21), (1, .int x), (2, .int 1)]) rfl ?_
      have hz : ¬ p = 0 := fun q => absurd (show (k_sh 1 (I, J)).1 20 0 = 0 by rw [hp, q]; rfl) (by assumption)
      rw [k_vol, s_vol, if_neg hz, if_pos (by assumption)]
      exact t1_vl3 I J x p hp hp8 (p - 1) 1 (by omega) (by omega)
    · skip
      refine c_run 3 (pc' := 24) (ls' := [(0, .ref 21), (1, .int x)]) (st' := [.int 0, .ref 23]) (μ' := (I, J)) (Nat.le_of_ble_eq_true rfl) rfl ?_
      refine c_ial 0 8 (Nat.le_of_ble_eq_true rfl) rfl rfl rfl rfl rfl (by decide) ?_
      show m_W 76 25 [(0, .ref 21), (1, .int x)] [.int ((k_sh 1 (I, J)).1 22 0)] (I, J) _
      refine c_run 1 (pc' := 26) (ls' := [(0, .ref 21), (1, .int x)]) (st' := [.long ((((k_sh 1 (I, J)).1 22 0) : Int32).toInt64)]) (μ' := (I, J)) (Nat.le_of_ble_eq_true rfl) rfl ?_
      refine c_lret (Nat.le_of_ble_eq_true rfl) rfl rfl ?_
      refine ⟨?_, rfl⟩
      first
        | (have hz : p = 0 := (nI_eq (by omega) (by omega)).mp (show nI p = nI 0 by rw [← hp]; assumption)
           rw [k_vol, s_vol, if_pos hz])
        | (have hz : ¬ p = 0 := fun q => absurd (show (k_sh 1 (I, J)).1 20 0 = 0 by rw [hp, q]; rfl) (by assumption)
           rw [k_vol, s_vol, if_neg hz, if_neg (by assumption)])
  · skip
    refine c_run 1 (pc' := 8) (ls' := [(0, .ref 21), (1, .int x)]) (st' := [.long 0]) (μ' := (I, J)) (Nat.le_of_ble_eq_true rfl) rfl ?_
    refine c_lret (Nat.le_of_ble_eq_true rfl) rfl rfl ?_
    refine ⟨?_, rfl⟩
    first
      | (have hz : p = 0 := (nI_eq (by omega) (by omega)).mp (show nI p = nI 0 by rw [← hp]; assumption)
         rw [k_vol, s_vol, if_pos hz])
      | (have hz : ¬ p = 0 := fun q => absurd (show (k_sh 1 (I, J)).1 20 0 = 0 by rw [hp, q]; rfl) (by assumption)
         rw [k_vol, s_vol, if_neg hz, if_neg (by assumption)])

set_option maxRecDepth 100000 in
theorem t1_gm3 (I : Nat → Nat → Int32) (J : Nat → Nat → Int64) (x : Int32) (p : Nat) (hp : (k_sh 1 (I, J)).1 20 0 = nI p) (hp8 : p ≤ 8) : m_W 86 0 (lv_args 0 [.ref 2, .int 3, .int x]) [] (I, J) (m_E (some (.long (k_gm (k_sh 1 (I, J)) 3 p x))) (I, J)) := by
  show m_W 86 0 [(0, .ref 2), (1, .int 3), (2, .int x)] [] (I, J) _
  refine c_run 3 (pc' := 5) (ls' := [(0, .ref 2), (1, .int 3), (2, .int x)]) (st' := [.int 3, .ref 11]) (μ' := (I, J)) (Nat.le_of_ble_eq_true rfl) rfl ?_
  refine c_aal 3 4 (Nat.le_of_ble_eq_true rfl) rfl rfl rfl rfl rfl (by decide) ?_
  show m_W 86 6 [(0, .ref 2), (1, .int 3), (2, .int x)] [.ref 21] (I, J) _
  refine c_run 1 (pc' := 7) (ls' := [(0, .ref 2), (1, .int 3), (2, .int x)]) (st' := [.int x, .ref 21]) (μ' := (I, J)) (Nat.le_of_ble_eq_true rfl) rfl ?_
  refine c_cv 76 [.int x] (b := 21) (r := []) (Nat.le_of_ble_eq_true rfl) rfl rfl rfl rfl rfl rfl (t1_vol3 I J x p hp hp8) ?_
  rintro _ _ ⟨rfl, rfl⟩
  show m_W 86 10 [(0, .ref 2), (1, .int 3), (2, .int x)] [.long (k_vol (k_sh 1 (I, J)) 3 p x)] (I, J) _
  refine c_run 3 (pc' := 15) (ls' := [(0, .ref 2), (1, .int 3), (2, .int x)]) (st' := [.int 3, .ref 3, .long (k_vol (k_sh 1 (I, J)) 3 p x)]) (μ' := (I, J)) (Nat.le_of_ble_eq_true rfl) rfl ?_
  refine c_ial 3 4 (Nat.le_of_ble_eq_true rfl) rfl rfl rfl rfl rfl (by decide) ?_
  show m_W 86 16 [(0, .ref 2), (1, .int 3), (2, .int x)] [.int ((k_sh 1 (I, J)).1 2 3), .long (k_vol (k_sh 1 (I, J)) 3 p x)] (I, J) _
  refine c_run 3 (pc' := 21) (ls' := [(0, .ref 2), (1, .int 3), (2, .int x)]) (st' := [.long 1000, .long ((k_vol (k_sh 1 (I, J)) 3 p x) * ((((k_sh 1 (I, J)).1 2 3) : Int32).toInt64))]) (μ' := (I, J)) (Nat.le_of_ble_eq_true rfl) rfl ?_
  refine c_ldiv (Nat.le_of_ble_eq_true rfl) rfl (by decide) ?_
  refine c_lret (Nat.le_of_ble_eq_true rfl) rfl rfl ?_
  exact ⟨rfl, rfl⟩

set_option maxRecDepth 100000 in
theorem t1_iv (I : Nat → Nat → Int32) (J : Nat → Nat → Int64) (t : Nat) (ht : t < 4) : m_W 87 0 (lv_args 0 [.ref 2, .int (nI t)]) [] (I, J) (m_E (some (.long (k_iv (k_sh 1 (I, J)) t))) (I, J)) := by
  show m_W 87 0 [(0, .ref 2), (1, .int (nI t))] [] (I, J) _
  refine c_run 4 (pc' := 6) (ls' := [(0, .ref 2), (1, .int (nI t))]) (st' := [.int (nI t), .ref 9, .long 1]) (μ' := (I, J)) (Nat.le_of_ble_eq_true rfl) rfl ?_
  refine c_lal t 4 (Nat.le_of_ble_eq_true rfl) rfl rfl rfl rfl rfl ht ?_
  show m_W 87 7 [(0, .ref 2), (1, .int (nI t))] [.long ((k_sh 1 (I, J)).2 8 t), .long 1] (I, J) _
  refine c_run 3 (pc' := 12) (ls' := [(0, .ref 2), (1, .int (nI t))]) (st' := [.int (nI t), .ref 10, .long ((k_sh 1 (I, J)).2 8 t), .long 1]) (μ' := (I, J)) (Nat.le_of_ble_eq_true rfl) rfl ?_
  refine c_lal t 4 (Nat.le_of_ble_eq_true rfl) rfl rfl rfl rfl rfl ht ?_
  show m_W 87 13 [(0, .ref 2), (1, .int (nI t))] [.long ((k_sh 1 (I, J)).2 9 t), .long ((k_sh 1 (I, J)).2 8 t), .long 1] (I, J) _
  refine c_run 1 (pc' := 14) (ls' := [(0, .ref 2), (1, .int (nI t))]) (st' := [.long (((k_sh 1 (I, J)).2 8 t) + ((k_sh 1 (I, J)).2 9 t)), .long 1]) (μ' := (I, J)) (Nat.le_of_ble_eq_true rfl) rfl ?_
  refine c_cs 159 [.long 1, .long (((k_sh 1 (I, J)).2 8 t) + ((k_sh 1 (I, J)).2 9 t))] (r := []) (Nat.le_of_ble_eq_true rfl) rfl (Or.inl rfl) rfl rfl rfl (t_max I J 1 (((k_sh 1 (I, J)).2 8 t) + ((k_sh 1 (I, J)).2 9 t))) ?_
  rintro _ _ ⟨rfl, rfl⟩
  show m_W 87 17 [(0, .ref 2), (1, .int (nI t))] [.long (if 1 < (((k_sh 1 (I, J)).2 8 t) + ((k_sh 1 (I, J)).2 9 t)) then (((k_sh 1 (I, J)).2 8 t) + ((k_sh 1 (I, J)).2 9 t)) else 1)] (I, J) _
  refine c_lret (Nat.le_of_ble_eq_true rfl) rfl rfl ?_
  exact ⟨rfl, rfl⟩

set_option maxRecDepth 100000 in
theorem t1_wt (I : Nat → Nat → Int32) (J : Nat → Nat → Int64) (t : Nat) (ht : t < 4) : m_W 88 0 (lv_args 0 [.ref 2, .int (nI t)]) [] (I, J) (m_E (some (.int (k_wt (k_sh 1 (I, J)) t))) (I, J)) := by
  show m_W 88 0 [(0, .ref 2), (1, .int (nI t))] [] (I, J) _
  refine c_run 4 (pc' := 8) (ls' := [(0, .ref 2), (1, .int (nI t))]) (st' := [.int (nI t), .ref 9, .long 1000]) (μ' := (I, J)) (Nat.le_of_ble_eq_true rfl) rfl ?_
  refine c_lal t 4 (Nat.le_of_ble_eq_true rfl) rfl rfl rfl rfl rfl ht ?_
  show m_W 88 9 [(0, .ref 2), (1, .int (nI t))] [.long ((k_sh 1 (I, J)).2 8 t), .long 1000] (I, J) _
  refine c_run 3 (pc' := 12) (ls' := [(0, .ref 2), (1, .int (nI t))]) (st' := [.int (nI t), .ref 2, .long ((1000 : Int64) * ((k_sh 1 (I, J)).2 8 t))]) (μ' := (I, J)) (Nat.le_of_ble_eq_true rfl) rfl ?_
  refine c_cv 87 [.int (nI t)] (b := 2) (r := [.long ((1000 : Int64) * ((k_sh 1 (I, J)).2 8 t))]) (Nat.le_of_ble_eq_true rfl) rfl rfl rfl rfl rfl rfl (t1_iv I J t ht) ?_
  rintro _ _ ⟨rfl, rfl⟩
  show m_W 88 15 [(0, .ref 2), (1, .int (nI t))] [.long (k_iv (k_sh 1 (I, J)) t), .long ((1000 : Int64) * ((k_sh 1 (I, J)).2 8 t))] (I, J) _
  refine c_ldiv (Nat.le_of_ble_eq_true rfl) rfl (k_iv_ne _ _) ?_
  refine c_run 1 (pc' := 17) (ls' := [(0, .ref 2), (1, .int (nI t))]) (st' := [.int (((((1000 : Int64) * ((k_sh 1 (I, J)).2 8 t)) / (k_iv (k_sh 1 (I, J)) t)) : Int64).toInt32)]) (μ' := (I, J)) (Nat.le_of_ble_eq_true rfl) rfl ?_
  refine c_ret (Nat.le_of_ble_eq_true rfl) rfl rfl ⟨by decide, rfl⟩ ?_
  exact ⟨rfl, rfl⟩

set_option maxRecDepth 100000 in
theorem t1_acc (I : Nat → Nat → Int32) (J : Nat → Nat → Int64) (t : Nat) (ht : t < 4) (v : Int64) (l c : Nat) (hl : (k_sh 1 (I, J)).1 30 1 = nI l) (hl2 : l < 24) (hc : (k_sh 1 (I, J)).1 30 0 = nI c) (hc2 : c ≤ 24) : m_W 63 0 (lv_args 0 [.ref 1, .int (nI t), .long v]) [] (I, J) (k_E 1 (I, J) none (k_acc (k_sh 1 (I, J)) t v l c)) := by
  show m_W 63 0 [(0, .ref 1), (1, .int (nI t)), (2, .long v)] [] (I, J) _
  refine c_run 3 (pc' := 5) (ls' := [(0, .ref 1), (1, .int (nI t)), (2, .long v)]) (st' := [.int (nI t), .ref 2]) (μ' := (I, J)) (Nat.le_of_ble_eq_true rfl) rfl ?_
  refine c_cv 88 [.int (nI t)] (b := 2) (r := []) (Nat.le_of_ble_eq_true rfl) rfl rfl rfl rfl rfl rfl (t1_wt I J t ht) ?_
  rintro _ _ ⟨rfl, rfl⟩
  show m_W 63 8 [(0, .ref 1), (1, .int (nI t)), (2, .long v)] [.int (k_wt (k_sh 1 (I, J)) t)] (I, J) _
  refine c_run 6 (pc' := 19) (ls' := [(4, .long (((k_wt (k_sh 1 (I, J)) t) : Int32).toInt64)), (0, .ref 1), (1, .int (nI t)), (2, .long v)]) (st' := [.int (nI t), .ref 8]) (μ' := (I, J)) (Nat.le_of_ble_eq_true rfl) rfl ?_
  refine c_lal t 4 (Nat.le_of_ble_eq_true rfl) rfl rfl rfl rfl rfl ht ?_
  show m_W 63 20 [(4, .long (((k_wt (k_sh 1 (I, J)) t) : Int32).toInt64)), (0, .ref 1), (1, .int (nI t)), (2, .long v)] [.long ((k_sh 1 (I, J)).2 7 t)] (I, J) _
  refine c_run 11 (pc' := 40) (ls' := [(6, .long ((k_sh 1 (I, J)).2 7 t)), (4, .long (((k_wt (k_sh 1 (I, J)) t) : Int32).toInt64)), (0, .ref 1), (1, .int (nI t)), (2, .long v)]) (st' := [.long 1000, .long ((((k_wt (k_sh 1 (I, J)) t) : Int32).toInt64) * v), .long ((k_sh 1 (I, J)).2 7 t), .long 0, .int (nI t), .ref 8]) (μ' := (I, J)) (Nat.le_of_ble_eq_true rfl) rfl ?_
  refine c_cs 157 [.long ((((k_wt (k_sh 1 (I, J)) t) : Int32).toInt64) * v), .long 1000] (r := [.long ((k_sh 1 (I, J)).2 7 t), .long 0, .int (nI t), .ref 8]) (Nat.le_of_ble_eq_true rfl) rfl (Or.inl rfl) rfl rfl rfl (t_floorDiv I J ((((k_wt (k_sh 1 (I, J)) t) : Int32).toInt64) * v) 1000 (by decide)) ?_
  rintro _ _ ⟨rfl, rfl⟩
  show m_W 63 43 [(6, .long ((k_sh 1 (I, J)).2 7 t)), (4, .long (((k_wt (k_sh 1 (I, J)) t) : Int32).toInt64)), (0, .ref 1), (1, .int (nI t)), (2, .long v)] [.long (s_fl ((((k_wt (k_sh 1 (I, J)) t) : Int32).toInt64) * v) (1000 : Int64)), .long ((k_sh 1 (I, J)).2 7 t), .long 0, .int (nI t), .ref 8] (I, J) _
  refine c_run 1 (pc' := 44) (ls' := [(6, .long ((k_sh 1 (I, J)).2 7 t)), (4, .long (((k_wt (k_sh 1 (I, J)) t) : Int32).toInt64)), (0, .ref 1), (1, .int (nI t)), (2, .long v)]) (st' := [.long (((k_sh 1 (I, J)).2 7 t) + (s_fl ((((k_wt (k_sh 1 (I, J)) t) : Int32).toInt64) * v) (1000 : Int64))), .long 0, .int (nI t), .ref 8]) (μ' := (I, J)) (Nat.le_of_ble_eq_true rfl) rfl ?_
  refine c_cs 159 [.long 0, .long (((k_sh 1 (I, J)).2 7 t) + (s_fl ((((k_wt (k_sh 1 (I, J)) t) : Int32).toInt64) * v) (1000 : Int64)))] (r := [.int (nI t), .ref 8]) (Nat.le_of_ble_eq_true rfl) rfl (Or.inl rfl) rfl rfl rfl (t_max I J 0 (((k_sh 1 (I, J)).2 7 t) + (s_fl ((((k_wt (k_sh 1 (I, J)) t) : Int32).toInt64) * v) (1000 : Int64)))) ?_
  rintro _ _ ⟨rfl, rfl⟩
  show m_W 63 47 [(6, .long ((k_sh 1 (I, J)).2 7 t)), (4, .long (((k_wt (k_sh 1 (I, J)) t) : Int32).toInt64)), (0, .ref 1), (1, .int (nI t)), (2, .long v)] [.long (if 0 < (((k_sh 1 (I, J)).2 7 t) + (s_fl ((((k_wt (k_sh 1 (I, J)) t) : Int32).toInt64) * v) (1000 : Int64))) then (((k_sh 1 (I, J)).2 7 t) + (s_fl ((((k_wt (k_sh 1 (I, J)) t) : Int32).toInt64) * v) (1000 : Int64))) else 0), .int (nI t), .ref 8] (I, J) _
  refine c_las t 4 (Nat.le_of_ble_eq_true rfl) rfl rfl rfl rfl rfl ht ?_
  show m_W 63 48 [(6, .long ((k_sh 1 (I, J)).2 7 t)), (4, .long (((k_wt (k_sh 1 (I, J)) t) : Int32).toInt64)), (0, .ref 1), (1, .int (nI t)), (2, .long v)] [] (I, (m_uj J 8 t (if 0 < (((k_sh 1 (I, J)).2 7 t) + (s_fl ((((k_wt (k_sh 1 (I, J)) t) : Int32).toInt64) * v) (1000 : Int64))) then (((k_sh 1 (I, J)).2 7 t) + (s_fl ((((k_wt (k_sh 1 (I, J)) t) : Int32).toInt64) * v) (1000 : Int64))) else 0))) _
  refine c_run 8 (pc' := 64) (ls' := [(6, .long ((k_sh 1 (I, J)).2 7 t)), (4, .long (((k_wt (k_sh 1 (I, J)) t) : Int32).toInt64)), (0, .ref 1), (1, .int (nI t)), (2, .long v)]) (st' := [.int (nI t), .ref 9, .int (nI t), .ref 9]) (μ' := (I, (m_uj J 8 t (if 0 < (((k_sh 1 (I, J)).2 7 t) + (s_fl ((((k_wt (k_sh 1 (I, J)) t) : Int32).toInt64) * v) (1000 : Int64))) then (((k_sh 1 (I, J)).2 7 t) + (s_fl ((((k_wt (k_sh 1 (I, J)) t) : Int32).toInt64) * v) (1000 : Int64))) else 0)))) (Nat.le_of_ble_eq_true rfl) rfl ?_
  refine c_lal t 4 (Nat.le_of_ble_eq_true rfl) rfl rfl rfl rfl rfl ht ?_
  show m_W 63 65 [(6, .long ((k_sh 1 (I, J)).2 7 t)), (4, .long (((k_wt (k_sh 1 (I, J)) t) : Int32).toInt64)), (0, .ref 1), (1, .int (nI t)), (2, .long v)] [.long ((k_sh 1 (I, J)).2 8 t), .int (nI t), .ref 9] (I, (m_uj J 8 t (if 0 < (((k_sh 1 (I, J)).2 7 t) + (s_fl ((((k_wt (k_sh 1 (I, J)) t) : Int32).toInt64) * v) (1000 : Int64))) then (((k_sh 1 (I, J)).2 7 t) + (s_fl ((((k_wt (k_sh 1 (I, J)) t) : Int32).toInt64) * v) (1000 : Int64))) else 0))) _
  refine c_run 5 (pc' := 75) (ls' := [(6, .long ((k_sh 1 (I, J)).2 7 t)), (4, .long (((k_wt (k_sh 1 (I, J)) t) : Int32).toInt64)), (0, .ref 1), (1, .int (nI t)), (2, .long v)]) (st' := [.long 1000, .long (((k_sh 1 (I, J)).2 8 t) * ((1000 : Int64) - (((k_wt (k_sh 1 (I, J)) t) : Int32).toInt64))), .int (nI t), .ref 9]) (μ' := (I, (m_uj J 8 t (if 0 < (((k_sh 1 (I, J)).2 7 t) + (s_fl ((((k_wt (k_sh 1 (I, J)) t) : Int32).toInt64) * v) (1000 : Int64))) then (((k_sh 1 (I, J)).2 7 t) + (s_fl ((((k_wt (k_sh 1 (I, J)) t) : Int32).toInt64) * v) (1000 : Int64))) else 0)))) (Nat.le_of_ble_eq_true rfl) rfl ?_
  refine c_ldiv (Nat.le_of_ble_eq_true rfl) rfl (by decide) ?_
  refine c_las t 4 (Nat.le_of_ble_eq_true rfl) rfl rfl rfl rfl rfl ht ?_
  show m_W 63 77 [(6, .long ((k_sh 1 (I, J)).2 7 t)), (4, .long (((k_wt (k_sh 1 (I, J)) t) : Int32).toInt64)), (0, .ref 1), (1, .int (nI t)), (2, .long v)] [] (I, (m_uj (m_uj J 8 t (if 0 < (((k_sh 1 (I, J)).2 7 t) + (s_fl ((((k_wt (k_sh 1 (I, J)) t) : Int32).toInt64) * v) (1000 : Int64))) then (((k_sh 1 (I, J)).2 7 t) + (s_fl ((((k_wt (k_sh 1 (I, J)) t) : Int32).toInt64) * v) (1000 : Int64))) else 0)) 9 t ((((k_sh 1 (I, J)).2 8 t) * ((1000 : Int64) - (((k_wt (k_sh 1 (I, J)) t) : Int32).toInt64))) / 1000))) _
  refine c_run 10 (pc' := 95) (ls' := [(6, .long ((k_sh 1 (I, J)).2 7 t)), (4, .long (((k_wt (k_sh 1 (I, J)) t) : Int32).toInt64)), (0, .ref 1), (1, .int (nI t)), (2, .long v)]) (st' := [.int (nI t), .ref 8, .int (nI t), .int 2, .int ((k_sh 1 (I, J)).1 0 3), .ref 31]) (μ' := (I, (m_uj (m_uj J 8 t (if 0 < (((k_sh 1 (I, J)).2 7 t) + (s_fl ((((k_wt (k_sh 1 (I, J)) t) : Int32).toInt64) * v) (1000 : Int64))) then (((k_sh 1 (I, J)).2 7 t) + (s_fl ((((k_wt (k_sh 1 (I, J)) t) : Int32).toInt64) * v) (1000 : Int64))) else 0)) 9 t ((((k_sh 1 (I, J)).2 8 t) * ((1000 : Int64) - (((k_wt (k_sh 1 (I, J)) t) : Int32).toInt64))) / 1000)))) (Nat.le_of_ble_eq_true rfl) rfl ?_
  refine c_lal t 4 (Nat.le_of_ble_eq_true rfl) rfl rfl rfl rfl rfl ht ?_
  dsimp only
  rw [show (m_uj (m_uj J 8 t (if 0 < (((k_sh 1 (I, J)).2 7 t) + (s_fl ((((k_wt (k_sh 1 (I, J)) t) : Int32).toInt64) * v) (1000 : Int64))) then (((k_sh 1 (I, J)).2 7 t) + (s_fl ((((k_wt (k_sh 1 (I, J)) t) : Int32).toInt64) * v) (1000 : Int64))) else 0)) 9 t ((((k_sh 1 (I, J)).2 8 t) * ((1000 : Int64) - (((k_wt (k_sh 1 (I, J)) t) : Int32).toInt64))) / 1000)) 8 t = (if 0 < (((k_sh 1 (I, J)).2 7 t) + (s_fl ((((k_wt (k_sh 1 (I, J)) t) : Int32).toInt64) * v) (1000 : Int64))) then (((k_sh 1 (I, J)).2 7 t) + (s_fl ((((k_wt (k_sh 1 (I, J)) t) : Int32).toInt64) * v) (1000 : Int64))) else 0) from (show (m_uj J 8 t (if 0 < (((k_sh 1 (I, J)).2 7 t) + (s_fl ((((k_wt (k_sh 1 (I, J)) t) : Int32).toInt64) * v) (1000 : Int64))) then (((k_sh 1 (I, J)).2 7 t) + (s_fl ((((k_wt (k_sh 1 (I, J)) t) : Int32).toInt64) * v) (1000 : Int64))) else 0)) 8 t = (if 0 < (((k_sh 1 (I, J)).2 7 t) + (s_fl ((((k_wt (k_sh 1 (I, J)) t) : Int32).toInt64) * v) (1000 : Int64))) then (((k_sh 1 (I, J)).2 7 t) + (s_fl ((((k_wt (k_sh 1 (I, J)) t) : Int32).toInt64) * v) (1000 : Int64))) else 0) from m_ujk)]
  show m_W 63 96 [(6, .long ((k_sh 1 (I, J)).2 7 t)), (4, .long (((k_wt (k_sh 1 (I, J)) t) : Int32).toInt64)), (0, .ref 1), (1, .int (nI t)), (2, .long v)] [.long (if 0 < (((k_sh 1 (I, J)).2 7 t) + (s_fl ((((k_wt (k_sh 1 (I, J)) t) : Int32).toInt64) * v) (1000 : Int64))) then (((k_sh 1 (I, J)).2 7 t) + (s_fl ((((k_wt (k_sh 1 (I, J)) t) : Int32).toInt64) * v) (1000 : Int64))) else 0), .int (nI t), .int 2, .int ((k_sh 1 (I, J)).1 0 3), .ref 31] (I, (m_uj (m_uj J 8 t (if 0 < (((k_sh 1 (I, J)).2 7 t) + (s_fl ((((k_wt (k_sh 1 (I, J)) t) : Int32).toInt64) * v) (1000 : Int64))) then (((k_sh 1 (I, J)).2 7 t) + (s_fl ((((k_wt (k_sh 1 (I, J)) t) : Int32).toInt64) * v) (1000 : Int64))) else 0)) 9 t ((((k_sh 1 (I, J)).2 8 t) * ((1000 : Int64) - (((k_wt (k_sh 1 (I, J)) t) : Int32).toInt64))) / 1000))) _
  refine c_run 2 (pc' := 99) (ls' := [(6, .long ((k_sh 1 (I, J)).2 7 t)), (4, .long (((k_wt (k_sh 1 (I, J)) t) : Int32).toInt64)), (0, .ref 1), (1, .int (nI t)), (2, .long v)]) (st' := [.long ((if 0 < (((k_sh 1 (I, J)).2 7 t) + (s_fl ((((k_wt (k_sh 1 (I, J)) t) : Int32).toInt64) * v) (1000 : Int64))) then (((k_sh 1 (I, J)).2 7 t) + (s_fl ((((k_wt (k_sh 1 (I, J)) t) : Int32).toInt64) * v) (1000 : Int64))) else 0) - ((k_sh 1 (I, J)).2 7 t)), .int (nI t), .int 2, .int ((k_sh 1 (I, J)).1 0 3), .ref 31]) (μ' := (I, (m_uj (m_uj J 8 t (if 0 < (((k_sh 1 (I, J)).2 7 t) + (s_fl ((((k_wt (k_sh 1 (I, J)) t) : Int32).toInt64) * v) (1000 : Int64))) then (((k_sh 1 (I, J)).2 7 t) + (s_fl ((((k_wt (k_sh 1 (I, J)) t) : Int32).toInt64) * v) (1000 : Int64))) else 0)) 9 t ((((k_sh 1 (I, J)).2 8 t) * ((1000 : Int64) - (((k_wt (k_sh 1 (I, J)) t) : Int32).toInt64))) / 1000)))) (Nat.le_of_ble_eq_true rfl) rfl ?_
  refine c_cv 72 [.int ((k_sh 1 (I, J)).1 0 3), .int 2, .int (nI t), .long ((if 0 < (((k_sh 1 (I, J)).2 7 t) + (s_fl ((((k_wt (k_sh 1 (I, J)) t) : Int32).toInt64) * v) (1000 : Int64))) then (((k_sh 1 (I, J)).2 7 t) + (s_fl ((((k_wt (k_sh 1 (I, J)) t) : Int32).toInt64) * v) (1000 : Int64))) else 0) - ((k_sh 1 (I, J)).2 7 t))] (b := 31) (r := []) (Nat.le_of_ble_eq_true rfl) rfl rfl rfl rfl rfl rfl (t1_app I (m_uj (m_uj J 8 t (if 0 < (((k_sh 1 (I, J)).2 7 t) + (s_fl ((((k_wt (k_sh 1 (I, J)) t) : Int32).toInt64) * v) (1000 : Int64))) then (((k_sh 1 (I, J)).2 7 t) + (s_fl ((((k_wt (k_sh 1 (I, J)) t) : Int32).toInt64) * v) (1000 : Int64))) else 0)) 9 t ((((k_sh 1 (I, J)).2 8 t) * ((1000 : Int64) - (((k_wt (k_sh 1 (I, J)) t) : Int32).toInt64))) / 1000)) l c ((k_sh 1 (I, J)).1 0 3) 2 (nI t) ((if 0 < (((k_sh 1 (I, J)).2 7 t) + (s_fl ((((k_wt (k_sh 1 (I, J)) t) : Int32).toInt64) * v) (1000 : Int64))) then (((k_sh 1 (I, J)).2 7 t) + (s_fl ((((k_wt (k_sh 1 (I, J)) t) : Int32).toInt64) * v) (1000 : Int64))) else 0) - ((k_sh 1 (I, J)).2 7 t)) hl hl2 hc hc2) ?_
  rintro _ ⟨I1, J1⟩ ⟨rfl, hs1, hf1⟩
  show m_W 63 102 [(6, .long ((k_sh 1 (I, J)).2 7 t)), (4, .long (((k_wt (k_sh 1 (I, J)) t) : Int32).toInt64)), (0, .ref 1), (1, .int (nI t)), (2, .long v)] [] (I1, J1) _
  refine c_vret (Nat.le_of_ble_eq_true rfl) rfl rfl ?_
  refine ⟨?_, ?_, ?_⟩
  · exact rfl
  · rw [hs1, k_uj 8 rfl rfl, k_uj 7 rfl rfl]
    all_goals rfl
  · exact ((((m_fr.rf).uj rfl rfl).uj rfl rfl).tr hf1)

set_option maxRecDepth 100000 in
theorem t1_rd0 (I : Nat → Nat → Int32) (J : Nat → Nat → Int64) (x : Int32) (hx : 0 ≤ x ∧ x ≤ 10000) (ht : k_hasT (k_sh 1 (I, J)) 0) (p : Nat) (hp : (k_sh 1 (I, J)).1 11 0 = nI p) (hp8 : p ≤ 8) (l c : Nat) (hl : (k_sh 1 (I, J)).1 30 1 = nI l) (hl2 : l < 24) (hc : (k_sh 1 (I, J)).1 30 0 = nI c) (hc2 : c ≤ 24) : m_W 62 0 (lv_args 0 [.ref 1, .int 0, .int x]) [] (I, J) (k_E 1 (I, J) (some (.int (k_rd (k_sh 1 (I, J)) 0 p x l c).1)) (k_rd (k_sh 1 (I, J)) 0 p x l c).2) := by
  show m_W 62 0 [(0, .ref 1), (1, .int 0), (2, .int x)] [] (I, J) _
  refine c_run 3 (pc' := 5) (ls' := [(0, .ref 1), (1, .int 0), (2, .int x)]) (st' := [.int 0, .ref 2]) (μ' := (I, J)) (Nat.le_of_ble_eq_true rfl) rfl ?_
  refine c_cv 80 [.int 0] (b := 2) (r := []) (Nat.le_of_ble_eq_true rfl) rfl rfl rfl rfl rfl rfl (t1_hasT I J 0) ?_
  rintro _ _ ⟨rfl, rfl⟩
  show m_W 62 8 [(0, .ref 1), (1, .int 0), (2, .int x)] [.int (s01 (k_hasT (k_sh 1 (I, J)) 0))] (I, J) _
  refine c_ifeq 22 (Nat.le_of_ble_eq_true rfl) rfl rfl (fun h1 => absurd h1 (show ¬ s01 (k_hasT (k_sh 1 (I, J)) 0) = 0 from s01_1.mpr ht)) (fun h1 => ?_)
  refine c_run 3 (pc' := 16) (ls' := [(0, .ref 1), (1, .int 0), (2, .int x)]) (st' := [.int 10000, .int 0, .int x]) (μ' := (I, J)) (Nat.le_of_ble_eq_true rfl) rfl ?_
  refine c_cs 35 [.int x, .int 0, .int 10000] (r := []) (Nat.le_of_ble_eq_true rfl) rfl (Or.inr ⟨rfl, rfl⟩) rfl rfl rfl (t_isWithin I J x 0 10000) ?_
  rintro _ _ ⟨rfl, rfl⟩
  show m_W 62 19 [(0, .ref 1), (1, .int 0), (2, .int x)] [.int (s01 ((0 : Int32) ≤ x ∧ x ≤ (10000 : Int32)))] (I, J) _
  refine c_ifne 24 (Nat.le_of_ble_eq_true rfl) rfl rfl (fun h2 => ?_) (fun h2 => absurd h2 (s01_1.mpr hx))
  refine c_run 4 (pc' := 32) (ls' := [(0, .ref 1), (1, .int 0), (2, .int x)]) (st' := [.int 0, .ref 11]) (μ' := (I, J)) (Nat.le_of_ble_eq_true rfl) rfl ?_
  refine c_aal 0 4 (Nat.le_of_ble_eq_true rfl) rfl rfl rfl rfl rfl (by decide) ?_
  show m_W 62 33 [(0, .ref 1), (1, .int 0), (2, .int x)] [.ref 12] (I, J) _
  refine c_run 1 (pc' := 36) (ls' := [(0, .ref 1), (1, .int 0), (2, .int x)]) (st' := [.int ((k_sh 1 (I, J)).1 11 0)]) (μ' := (I, J)) (Nat.le_of_ble_eq_true rfl) rfl ?_
  refine c_ifne 42 (Nat.le_of_ble_eq_true rfl) rfl rfl (fun h3 => ?_) (fun h3 => ?_)
  · skip
    refine c_run 1 (pc' := 43) (ls' := [(0, .ref 1), (1, .int 0), (2, .int x)]) (st' := [.ref 1]) (μ' := (I, J)) (Nat.le_of_ble_eq_true rfl) rfl ?_
    refine c_cv 51 [] (b := 1) (r := []) (Nat.le_of_ble_eq_true rfl) rfl rfl rfl rfl rfl rfl (t1_set I J) ?_
    rintro _ _ ⟨rfl, rfl⟩
    show m_W 62 46 [(0, .ref 1), (1, .int 0), (2, .int x)] [.int (s01 (k_set (k_sh 1 (I, J))))] (I, J) _
    refine c_ifne 51 (Nat.le_of_ble_eq_true rfl) rfl rfl (fun h4 => ?_) (fun h4 => ?_)
    · replace h4 := s01_1.mp h4
      refine c_run 4 (pc' := 57) (ls' := [(0, .ref 1), (1, .int 0), (2, .int x)]) (st' := [.int x, .int 0, .ref 2]) (μ' := (I, J)) (Nat.le_of_ble_eq_true rfl) rfl ?_
      refine c_cv 86 [.int 0, .int x] (b := 2) (r := []) (Nat.le_of_ble_eq_true rfl) rfl rfl rfl rfl rfl rfl (t1_gm0 I J x p hp hp8) ?_
      rintro _ _ ⟨rfl, rfl⟩
      show m_W 62 60 [(0, .ref 1), (1, .int 0), (2, .int x)] [.long (k_gm (k_sh 1 (I, J)) 0 p x)] (I, J) _
      refine c_run 4 (pc' := 68) (ls' := [(0, .ref 1), (1, .int 0), (2, .int x)]) (st' := [.int 0, .ref 8, .long (k_gm (k_sh 1 (I, J)) 0 p x)]) (μ' := (I, J)) (Nat.le_of_ble_eq_true rfl) rfl ?_
      refine c_lal 0 4 (Nat.le_of_ble_eq_true rfl) rfl rfl rfl rfl rfl (by decide) ?_
      show m_W 62 69 [(0, .ref 1), (1, .int 0), (2, .int x)] [.long ((k_sh 1 (I, J)).2 7 0), .long (k_gm (k_sh 1 (I, J)) 0 p x)] (I, J) _
      refine c_run 11 (pc' := 84) (ls' := [(3, .long ((k_gm (k_sh 1 (I, J)) 0 p x) - ((k_sh 1 (I, J)).2 7 0))), (0, .ref 1), (1, .int 0), (2, .int x)]) (st' := [.int 0, .ref 2, .long ((((k_sh 1 (I, J)).1 0 5) : Int32).toInt64), .long (((k_gm (k_sh 1 (I, J)) 0 p x) - ((k_sh 1 (I, J)).2 7 0)) * ((k_gm (k_sh 1 (I, J)) 0 p x) - ((k_sh 1 (I, J)).2 7 0)))]) (μ' := (I, J)) (Nat.le_of_ble_eq_true rfl) rfl ?_
      refine c_cv 87 [.int 0] (b := 2) (r := [.long ((((k_sh 1 (I, J)).1 0 5) : Int32).toInt64), .long (((k_gm (k_sh 1 (I, J)) 0 p x) - ((k_sh 1 (I, J)).2 7 0)) * ((k_gm (k_sh 1 (I, J)) 0 p x) - ((k_sh 1 (I, J)).2 7 0)))]) (Nat.le_of_ble_eq_true rfl) rfl rfl rfl rfl rfl rfl (t1_iv I J 0 (by decide)) ?_
      rintro _ _ ⟨rfl, rfl⟩
      show m_W 62 87 [(3, .long ((k_gm (k_sh 1 (I, J)) 0 p x) - ((k_sh 1 (I, J)).2 7 0))), (0, .ref 1), (1, .int 0), (2, .int x)] [.long (k_iv (k_sh 1 (I, J)) 0), .long ((((k_sh 1 (I, J)).1 0 5) : Int32).toInt64), .long (((k_gm (k_sh 1 (I, J)) 0 p x) - ((k_sh 1 (I, J)).2 7 0)) * ((k_gm (k_sh 1 (I, J)) 0 p x) - ((k_sh 1 (I, J)).2 7 0)))] (I, J) _
      refine c_run 2 (pc' := 89) (ls' := [(3, .long ((k_gm (k_sh 1 (I, J)) 0 p x) - ((k_sh 1 (I, J)).2 7 0))), (0, .ref 1), (1, .int 0), (2, .int x)]) (st' := [.int (lg_cmp (((k_gm (k_sh 1 (I, J)) 0 p x) - ((k_sh 1 (I, J)).2 7 0)) * ((k_gm (k_sh 1 (I, J)) 0 p x) - ((k_sh 1 (I, J)).2 7 0))) (((((k_sh 1 (I, J)).1 0 5) : Int32).toInt64) * (k_iv (k_sh 1 (I, J)) 0)))]) (μ' := (I, J)) (Nat.le_of_ble_eq_true rfl) rfl ?_
      refine c_ifle 108 (Nat.le_of_ble_eq_true rfl) rfl rfl (fun h5 => ?_) (fun h5 => ?_)
      · replace h5 := lc_le.mp h5
        refine c_run 3 (pc' := 111) (ls' := [(3, .long ((k_gm (k_sh 1 (I, J)) 0 p x) - ((k_sh 1 (I, J)).2 7 0))), (0, .ref 1), (1, .int 0), (2, .int x)]) (st' := [.long ((k_gm (k_sh 1 (I, J)) 0 p x) - ((k_sh 1 (I, J)).2 7 0)), .int 0, .ref 1]) (μ' := (I, J)) (Nat.le_of_ble_eq_true rfl) rfl ?_
        refine c_cv 63 [.int 0, .long ((k_gm (k_sh 1 (I, J)) 0 p x) - ((k_sh 1 (I, J)).2 7 0))] (b := 1) (r := []) (Nat.le_of_ble_eq_true rfl) rfl rfl rfl rfl rfl rfl (t1_acc I J 0 (by decide) ((k_gm (k_sh 1 (I, J)) 0 p x) - ((k_sh 1 (I, J)).2 7 0)) l c hl hl2 hc hc2) ?_
        rintro _ ⟨I1, J1⟩ ⟨rfl, hs1, hf1⟩
        show m_W 62 114 [(3, .long ((k_gm (k_sh 1 (I, J)) 0 p x) - ((k_sh 1 (I, J)).2 7 0))), (0, .ref 1), (1, .int 0), (2, .int x)] [] (I1, J1) _
        refine c_run 1 (pc' := 115) (ls' := [(3, .long ((k_gm (k_sh 1 (I, J)) 0 p x) - ((k_sh 1 (I, J)).2 7 0))), (0, .ref 1), (1, .int 0), (2, .int x)]) (st' := [.int 1]) (μ' := (I1, J1)) (Nat.le_of_ble_eq_true rfl) rfl ?_
        refine c_ret (Nat.le_of_ble_eq_true rfl) rfl rfl ⟨by decide, rfl⟩ ?_
        refine ⟨?_, ?_, ?_⟩
        · first | rfl | (simp only [k_rd, k_inn, if_neg h3, if_pos h4, if_pos h5]; done) | (simp only [k_rd, k_inn, if_neg h3, if_pos h4, if_pos h5]; rfl) | (unfold k_rd k_inn; rw [if_neg h3, if_pos h4, if_pos h5]; done) | (unfold k_rd k_inn; rw [if_neg h3, if_pos h4, if_pos h5]; rfl) | (rw [hs1]; rfl) | (rw [hs1]; simp only [k_rd, k_inn, if_neg h3, if_pos h4, if_pos h5]; done) | (rw [hs1]; simp only [k_rd, k_inn, if_neg h3, if_pos h4, if_pos h5]; rfl) | (rw [hs1]; unfold k_rd k_inn; rw [if_neg h3, if_pos h4, if_pos h5]; done) | (rw [hs1]; unfold k_rd k_inn; rw [if_neg h3, if_pos h4, if_pos h5]; rfl) | (rw [hs1]; rfl) | (rw [hs1]; simp only [k_rd, k_inn, if_neg h3, if_pos h4, if_pos h5]; done) | (rw [hs1]; simp only [k_rd, k_inn, if_neg h3, if_pos h4, if_pos h5]; rfl) | (rw [hs1]; unfold k_rd k_inn; rw [if_neg h3, if_pos h4, if_pos h5]; done) | (rw [hs1]; unfold k_rd k_inn; rw [if_neg h3, if_pos h4, if_pos h5]; rfl)
        · rw [hs1]
          first | rfl | (simp only [k_rd, k_inn, if_neg h3, if_pos h4, if_pos h5]; done) | (simp only [k_rd, k_inn, if_neg h3, if_pos h4, if_pos h5]; rfl) | (unfold k_rd k_inn; rw [if_neg h3, if_pos h4, if_pos h5]; done) | (unfold k_rd k_inn; rw [if_neg h3, if_pos h4, if_pos h5]; rfl)
        · exact ((m_fr.rf).tr hf1)
      · replace h5 := mt lc_le.mpr h5
        refine c_run 7 (pc' := 103) (ls' := [(3, .long ((k_gm (k_sh 1 (I, J)) 0 p x) - ((k_sh 1 (I, J)).2 7 0))), (0, .ref 1), (1, .int 0), (2, .int x)]) (st' := [.long ((k_gm (k_sh 1 (I, J)) 0 p x) - ((k_sh 1 (I, J)).2 7 0)), .int 0, .int 3, .int ((k_sh 1 (I, J)).1 0 3), .ref 31]) (μ' := (I, J)) (Nat.le_of_ble_eq_true rfl) rfl ?_
        refine c_cv 72 [.int ((k_sh 1 (I, J)).1 0 3), .int 3, .int 0, .long ((k_gm (k_sh 1 (I, J)) 0 p x) - ((k_sh 1 (I, J)).2 7 0))] (b := 31) (r := []) (Nat.le_of_ble_eq_true rfl) rfl rfl rfl rfl rfl rfl (t1_app I J l c ((k_sh 1 (I, J)).1 0 3) 3 0 ((k_gm (k_sh 1 (I, J)) 0 p x) - ((k_sh 1 (I, J)).2 7 0)) hl hl2 hc hc2) ?_
        rintro _ ⟨I2, J2⟩ ⟨rfl, hs2, hf2⟩
        show m_W 62 106 [(3, .long ((k_gm (k_sh 1 (I, J)) 0 p x) - ((k_sh 1 (I, J)).2 7 0))), (0, .ref 1), (1, .int 0), (2, .int x)] [] (I2, J2) _
        refine c_run 1 (pc' := 107) (ls' := [(3, .long ((k_gm (k_sh 1 (I, J)) 0 p x) - ((k_sh 1 (I, J)).2 7 0))), (0, .ref 1), (1, .int 0), (2, .int x)]) (st' := [.int 2]) (μ' := (I2, J2)) (Nat.le_of_ble_eq_true rfl) rfl ?_
        refine c_ret (Nat.le_of_ble_eq_true rfl) rfl rfl ⟨by decide, rfl⟩ ?_
        refine ⟨?_, ?_, ?_⟩
        · first | rfl | (simp only [k_rd, k_inn, if_neg h3, if_pos h4, if_neg h5]; done) | (simp only [k_rd, k_inn, if_neg h3, if_pos h4, if_neg h5]; rfl) | (unfold k_rd k_inn; rw [if_neg h3, if_pos h4, if_neg h5]; done) | (unfold k_rd k_inn; rw [if_neg h3, if_pos h4, if_neg h5]; rfl) | (rw [hs2]; rfl) | (rw [hs2]; simp only [k_rd, k_inn, if_neg h3, if_pos h4, if_neg h5]; done) | (rw [hs2]; simp only [k_rd, k_inn, if_neg h3, if_pos h4, if_neg h5]; rfl) | (rw [hs2]; unfold k_rd k_inn; rw [if_neg h3, if_pos h4, if_neg h5]; done) | (rw [hs2]; unfold k_rd k_inn; rw [if_neg h3, if_pos h4, if_neg h5]; rfl) | (rw [hs2]; rfl) | (rw [hs2]; simp only [k_rd, k_inn, if_neg h3, if_pos h4, if_neg h5]; done) | (rw [hs2]; simp only [k_rd, k_inn, if_neg h3, if_pos h4, if_neg h5]; rfl) | (rw [hs2]; unfold k_rd k_inn; rw [if_neg h3, if_pos h4, if_neg h5]; done) | (rw [hs2]; unfold k_rd k_inn; rw [if_neg h3, if_pos h4, if_neg h5]; rfl)
        · rw [hs2]
          first | rfl | (simp only [k_rd, k_inn, if_neg h3, if_pos h4, if_neg h5]; done) | (simp only [k_rd, k_inn, if_neg h3, if_pos h4, if_neg h5]; rfl) | (unfold k_rd k_inn; rw [if_neg h3, if_pos h4, if_neg h5]; done) | (unfold k_rd k_inn; rw [if_neg h3, if_pos h4, if_neg h5]; rfl)
        · exact ((m_fr.rf).tr hf2)
    · replace h4 := s01_0.mp h4
      refine c_run 1 (pc' := 50) (ls' := [(0, .ref 1), (1, .int 0), (2, .int x)]) (st' := [.int 3]) (μ' := (I, J)) (Nat.le_of_ble_eq_true rfl) rfl ?_
      refine c_ret (Nat.le_of_ble_eq_true rfl) rfl rfl ⟨by decide, rfl⟩ ?_
      refine ⟨?_, ?_, ?_⟩
      · first | rfl | (simp only [k_rd, k_inn, if_neg h3, if_neg h4]; done) | (simp only [k_rd, k_inn, if_neg h3, if_neg h4]; rfl) | (unfold k_rd k_inn; rw [if_neg h3, if_neg h4]; done) | (unfold k_rd k_inn; rw [if_neg h3, if_neg h4]; rfl)
      · skip
        first | rfl | (simp only [k_rd, k_inn, if_neg h3, if_neg h4]; done) | (simp only [k_rd, k_inn, if_neg h3, if_neg h4]; rfl) | (unfold k_rd k_inn; rw [if_neg h3, if_neg h4]; done) | (unfold k_rd k_inn; rw [if_neg h3, if_neg h4]; rfl)
      · exact (m_fr.rf)
  · skip
    refine c_run 1 (pc' := 41) (ls' := [(0, .ref 1), (1, .int 0), (2, .int x)]) (st' := [.int (-2)]) (μ' := (I, J)) (Nat.le_of_ble_eq_true rfl) rfl ?_
    refine c_ret (Nat.le_of_ble_eq_true rfl) rfl rfl ⟨by decide, rfl⟩ ?_
    refine ⟨?_, ?_, ?_⟩
    · first | rfl | (simp only [k_rd, k_inn, if_pos h3]; done) | (simp only [k_rd, k_inn, if_pos h3]; rfl) | (unfold k_rd k_inn; rw [if_pos h3]; done) | (unfold k_rd k_inn; rw [if_pos h3]; rfl)
    · skip
      first | rfl | (simp only [k_rd, k_inn, if_pos h3]; done) | (simp only [k_rd, k_inn, if_pos h3]; rfl) | (unfold k_rd k_inn; rw [if_pos h3]; done) | (unfold k_rd k_inn; rw [if_pos h3]; rfl)
    · exact (m_fr.rf)

set_option maxRecDepth 100000 in
theorem t1_rd1 (I : Nat → Nat → Int32) (J : Nat → Nat → Int64) (x : Int32) (hx : 0 ≤ x ∧ x ≤ 10000) (ht : k_hasT (k_sh 1 (I, J)) 1) (p : Nat) (hp : (k_sh 1 (I, J)).1 14 0 = nI p) (hp8 : p ≤ 8) (l c : Nat) (hl : (k_sh 1 (I, J)).1 30 1 = nI l) (hl2 : l < 24) (hc : (k_sh 1 (I, J)).1 30 0 = nI c) (hc2 : c ≤ 24) : m_W 62 0 (lv_args 0 [.ref 1, .int 1, .int x]) [] (I, J) (k_E 1 (I, J) (some (.int (k_rd (k_sh 1 (I, J)) 1 p x l c).1)) (k_rd (k_sh 1 (I, J)) 1 p x l c).2) := by
  show m_W 62 0 [(0, .ref 1), (1, .int 1), (2, .int x)] [] (I, J) _
  refine c_run 3 (pc' := 5) (ls' := [(0, .ref 1), (1, .int 1), (2, .int x)]) (st' := [.int 1, .ref 2]) (μ' := (I, J)) (Nat.le_of_ble_eq_true rfl) rfl ?_
  refine c_cv 80 [.int 1] (b := 2) (r := []) (Nat.le_of_ble_eq_true rfl) rfl rfl rfl rfl rfl rfl (t1_hasT I J 1) ?_
  rintro _ _ ⟨rfl, rfl⟩
  show m_W 62 8 [(0, .ref 1), (1, .int 1), (2, .int x)] [.int (s01 (k_hasT (k_sh 1 (I, J)) 1))] (I, J) _
  refine c_ifeq 22 (Nat.le_of_ble_eq_true rfl) rfl rfl (fun h1 => absurd h1 (show ¬ s01 (k_hasT (k_sh 1 (I, J)) 1) = 0 from s01_1.mpr ht)) (fun h1 => ?_)
  refine c_run 3 (pc' := 16) (ls' := [(0, .ref 1), (1, .int 1), (2, .int x)]) (st' := [.int 10000, .int 0, .int x]) (μ' := (I, J)) (Nat.le_of_ble_eq_true rfl) rfl ?_
  refine c_cs 35 [.int x, .int 0, .int 10000] (r := []) (Nat.le_of_ble_eq_true rfl) rfl (Or.inr ⟨rfl, rfl⟩) rfl rfl rfl (t_isWithin I J x 0 10000) ?_
  rintro _ _ ⟨rfl, rfl⟩
  show m_W 62 19 [(0, .ref 1), (1, .int 1), (2, .int x)] [.int (s01 ((0 : Int32) ≤ x ∧ x ≤ (10000 : Int32)))] (I, J) _
  refine c_ifne 24 (Nat.le_of_ble_eq_true rfl) rfl rfl (fun h2 => ?_) (fun h2 => absurd h2 (s01_1.mpr hx))
  refine c_run 4 (pc' := 32) (ls' := [(0, .ref 1), (1, .int 1), (2, .int x)]) (st' := [.int 1, .ref 11]) (μ' := (I, J)) (Nat.le_of_ble_eq_true rfl) rfl ?_
  refine c_aal 1 4 (Nat.le_of_ble_eq_true rfl) rfl rfl rfl rfl rfl (by decide) ?_
  show m_W 62 33 [(0, .ref 1), (1, .int 1), (2, .int x)] [.ref 15] (I, J) _
  refine c_run 1 (pc' := 36) (ls' := [(0, .ref 1), (1, .int 1), (2, .int x)]) (st' := [.int ((k_sh 1 (I, J)).1 14 0)]) (μ' := (I, J)) (Nat.le_of_ble_eq_true rfl) rfl ?_
  refine c_ifne 42 (Nat.le_of_ble_eq_true rfl) rfl rfl (fun h3 => ?_) (fun h3 => ?_)
  · skip
    refine c_run 1 (pc' := 43) (ls' := [(0, .ref 1), (1, .int 1), (2, .int x)]) (st' := [.ref 1]) (μ' := (I, J)) (Nat.le_of_ble_eq_true rfl) rfl ?_
    refine c_cv 51 [] (b := 1) (r := []) (Nat.le_of_ble_eq_true rfl) rfl rfl rfl rfl rfl rfl (t1_set I J) ?_
    rintro _ _ ⟨rfl, rfl⟩
    show m_W 62 46 [(0, .ref 1), (1, .int 1), (2, .int x)] [.int (s01 (k_set (k_sh 1 (I, J))))] (I, J) _
    refine c_ifne 51 (Nat.le_of_ble_eq_true rfl) rfl rfl (fun h4 => ?_) (fun h4 => ?_)
    · replace h4 := s01_1.mp h4
      refine c_run 4 (pc' := 57) (ls' := [(0, .ref 1), (1, .int 1), (2, .int x)]) (st' := [.int x, .int 1, .ref 2]) (μ' := (I, J)) (Nat.le_of_ble_eq_true rfl) rfl ?_
      refine c_cv 86 [.int 1, .int x] (b := 2) (r := []) (Nat.le_of_ble_eq_true rfl) rfl rfl rfl rfl rfl rfl (t1_gm1 I J x p hp hp8) ?_
      rintro _ _ ⟨rfl, rfl⟩
      show m_W 62 60 [(0, .ref 1), (1, .int 1), (2, .int x)] [.long (k_gm (k_sh 1 (I, J)) 1 p x)] (I, J) _
      refine c_run 4 (pc' := 68) (ls' := [(0, .ref 1), (1, .int 1), (2, .int x)]) (st' := [.int 1, .ref 8, .long (k_gm (k_sh 1 (I, J)) 1 p x)]) (μ' := (I, J)) (Nat.le_of_ble_eq_true rfl) rfl ?_
      refine c_lal 1 4 (Nat.le_of_ble_eq_true rfl) rfl rfl rfl rfl rfl (by decide) ?_
      show m_W 62 69 [(0, .ref 1), (1, .int 1), (2, .int x)] [.long ((k_sh 1 (I, J)).2 7 1), .long (k_gm (k_sh 1 (I, J)) 1 p x)] (I, J) _
      refine c_run 11 (pc' := 84) (ls' := [(3, .long ((k_gm (k_sh 1 (I, J)) 1 p x) - ((k_sh 1 (I, J)).2 7 1))), (0, .ref 1), (1, .int 1), (2, .int x)]) (st' := [.int 1, .ref 2, .long ((((k_sh 1 (I, J)).1 0 5) : Int32).toInt64), .long (((k_gm (k_sh 1 (I, J)) 1 p x) - ((k_sh 1 (I, J)).2 7 1)) * ((k_gm (k_sh 1 (I, J)) 1 p x) - ((k_sh 1 (I, J)).2 7 1)))]) (μ' := (I, J)) (Nat.le_of_ble_eq_true rfl) rfl ?_
      refine c_cv 87 [.int 1] (b := 2) (r := [.long ((((k_sh 1 (I, J)).1 0 5) : Int32).toInt64), .long (((k_gm (k_sh 1 (I, J)) 1 p x) - ((k_sh 1 (I, J)).2 7 1)) * ((k_gm (k_sh 1 (I, J)) 1 p x) - ((k_sh 1 (I, J)).2 7 1)))]) (Nat.le_of_ble_eq_true rfl) rfl rfl rfl rfl rfl rfl (t1_iv I J 1 (by decide)) ?_
      rintro _ _ ⟨rfl, rfl⟩
      show m_W 62 87 [(3, .long ((k_gm (k_sh 1 (I, J)) 1 p x) - ((k_sh 1 (I, J)).2 7 1))), (0, .ref 1), (1, .int 1), (2, .int x)] [.long (k_iv (k_sh 1 (I, J)) 1), .long ((((k_sh 1 (I, J)).1 0 5) : Int32).toInt64), .long (((k_gm (k_sh 1 (I, J)) 1 p x) - ((k_sh 1 (I, J)).2 7 1)) * ((k_gm (k_sh 1 (I, J)) 1 p x) - ((k_sh 1 (I, J)).2 7 1)))] (I, J) _
      refine c_run 2 (pc' := 89) (ls' := [(3, .long ((k_gm (k_sh 1 (I, J)) 1 p x) - ((k_sh 1 (I, J)).2 7 1))), (0, .ref 1), (1, .int 1), (2, .int x)]) (st' := [.int (lg_cmp (((k_gm (k_sh 1 (I, J)) 1 p x) - ((k_sh 1 (I, J)).2 7 1)) * ((k_gm (k_sh 1 (I, J)) 1 p x) - ((k_sh 1 (I, J)).2 7 1))) (((((k_sh 1 (I, J)).1 0 5) : Int32).toInt64) * (k_iv (k_sh 1 (I, J)) 1)))]) (μ' := (I, J)) (Nat.le_of_ble_eq_true rfl) rfl ?_
      refine c_ifle 108 (Nat.le_of_ble_eq_true rfl) rfl rfl (fun h5 => ?_) (fun h5 => ?_)
      · replace h5 := lc_le.mp h5
        refine c_run 3 (pc' := 111) (ls' := [(3, .long ((k_gm (k_sh 1 (I, J)) 1 p x) - ((k_sh 1 (I, J)).2 7 1))), (0, .ref 1), (1, .int 1), (2, .int x)]) (st' := [.long ((k_gm (k_sh 1 (I, J)) 1 p x) - ((k_sh 1 (I, J)).2 7 1)), .int 1, .ref 1]) (μ' := (I, J)) (Nat.le_of_ble_eq_true rfl) rfl ?_
        refine c_cv 63 [.int 1, .long ((k_gm (k_sh 1 (I, J)) 1 p x) - ((k_sh 1 (I, J)).2 7 1))] (b := 1) (r := []) (Nat.le_of_ble_eq_true rfl) rfl rfl rfl rfl rfl rfl (t1_acc I J 1 (by decide) ((k_gm (k_sh 1 (I, J)) 1 p x) - ((k_sh 1 (I, J)).2 7 1)) l c hl hl2 hc hc2) ?_
        rintro _ ⟨I1, J1⟩ ⟨rfl, hs1, hf1⟩
        show m_W 62 114 [(3, .long ((k_gm (k_sh 1 (I, J)) 1 p x) - ((k_sh 1 (I, J)).2 7 1))), (0, .ref 1), (1, .int 1), (2, .int x)] [] (I1, J1) _
        refine c_run 1 (pc' := 115) (ls' := [(3, .long ((k_gm (k_sh 1 (I, J)) 1 p x) - ((k_sh 1 (I, J)).2 7 1))), (0, .ref 1), (1, .int 1), (2, .int x)]) (st' := [.int 1]) (μ' := (I1, J1)) (Nat.le_of_ble_eq_true rfl) rfl ?_
        refine c_ret (Nat.le_of_ble_eq_true rfl) rfl rfl ⟨by decide, rfl⟩ ?_
        refine ⟨?_, ?_, ?_⟩
        · first | rfl | (simp only [k_rd, k_inn, if_neg h3, if_pos h4, if_pos h5]; done) | (simp only [k_rd, k_inn, if_neg h3, if_pos h4, if_pos h5]; rfl) | (unfold k_rd k_inn; rw [if_neg h3, if_pos h4, if_pos h5]; done) | (unfold k_rd k_inn; rw [if_neg h3, if_pos h4, if_pos h5]; rfl) | (rw [hs1]; rfl) | (rw [hs1]; simp only [k_rd, k_inn, if_neg h3, if_pos h4, if_pos h5]; done) | (rw [hs1]; simp only [k_rd, k_inn, if_neg h3, if_pos h4, if_pos h5]; rfl) | (rw [hs1]; unfold k_rd k_inn; rw [if_neg h3, if_pos h4, if_pos h5]; done) | (rw [hs1]; unfold k_rd k_inn; rw [if_neg h3, if_pos h4, if_pos h5]; rfl) | (rw [hs1]; rfl) | (rw [hs1]; simp only [k_rd, k_inn, if_neg h3, if_pos h4, if_pos h5]; done) | (rw [hs1]; simp only [k_rd, k_inn, if_neg h3, if_pos h4, if_pos h5]; rfl) | (rw [hs1]; unfold k_rd k_inn; rw [if_neg h3, if_pos h4, if_pos h5]; done) | (rw [hs1]; unfold k_rd k_inn; rw [if_neg h3, if_pos h4, if_pos h5]; rfl)
        · rw [hs1]
          first | rfl | (simp only [k_rd, k_inn, if_neg h3, if_pos h4, if_pos h5]; done) | (simp only [k_rd, k_inn, if_neg h3, if_pos h4, if_pos h5]; rfl) | (unfold k_rd k_inn; rw [if_neg h3, if_pos h4, if_pos h5]; done) | (unfold k_rd k_inn; rw [if_neg h3, if_pos h4, if_pos h5]; rfl)
        · exact ((m_fr.rf).tr hf1)
      · replace h5 := mt lc_le.mpr h5
        refine c_run 7 (pc' := 103) (ls' := [(3, .long ((k_gm (k_sh 1 (I, J)) 1 p x) - ((k_sh 1 (I, J)).2 7 1))), (0, .ref 1), (1, .int 1), (2, .int x)]) (st' := [.long ((k_gm (k_sh 1 (I, J)) 1 p x) - ((k_sh 1 (I, J)).2 7 1)), .int 1, .int 3, .int ((k_sh 1 (I, J)).1 0 3), .ref 31]) (μ' := (I, J)) (Nat.le_of_ble_eq_true rfl) rfl ?_
        refine c_cv 72 [.int ((k_sh 1 (I, J)).1 0 3), .int 3, .int 1, .long ((k_gm (k_sh 1 (I, J)) 1 p x) - ((k_sh 1 (I, J)).2 7 1))] (b := 31) (r := []) (Nat.le_of_ble_eq_true rfl) rfl rfl rfl rfl rfl rfl (t1_app I J l c ((k_sh 1 (I, J)).1 0 3) 3 1 ((k_gm (k_sh 1 (I, J)) 1 p x) - ((k_sh 1 (I, J)).2 7 1)) hl hl2 hc hc2) ?_
        rintro _ ⟨I2, J2⟩ ⟨rfl, hs2, hf2⟩
        show m_W 62 106 [(3, .long ((k_gm (k_sh 1 (I, J)) 1 p x) - ((k_sh 1 (I, J)).2 7 1))), (0, .ref 1), (1, .int 1), (2, .int x)] [] (I2, J2) _
        refine c_run 1 (pc' := 107) (ls' := [(3, .long ((k_gm (k_sh 1 (I, J)) 1 p x) - ((k_sh 1 (I, J)).2 7 1))), (0, .ref 1), (1, .int 1), (2, .int x)]) (st' := [.int 2]) (μ' := (I2, J2)) (Nat.le_of_ble_eq_true rfl) rfl ?_
        refine c_ret (Nat.le_of_ble_eq_true rfl) rfl rfl ⟨by decide, rfl⟩ ?_
        refine ⟨?_, ?_, ?_⟩
        · first | rfl | (simp only [k_rd, k_inn, if_neg h3, if_pos h4, if_neg h5]; done) | (simp only [k_rd, k_inn, if_neg h3, if_pos h4, if_neg h5]; rfl) | (unfold k_rd k_inn; rw [if_neg h3, if_pos h4, if_neg h5]; done) | (unfold k_rd k_inn; rw [if_neg h3, if_pos h4, if_neg h5]; rfl) | (rw [hs2]; rfl) | (rw [hs2]; simp only [k_rd, k_inn, if_neg h3, if_pos h4, if_neg h5]; done) | (rw [hs2]; simp only [k_rd, k_inn, if_neg h3, if_pos h4, if_neg h5]; rfl) | (rw [hs2]; unfold k_rd k_inn; rw [if_neg h3, if_pos h4, if_neg h5]; done) | (rw [hs2]; unfold k_rd k_inn; rw [if_neg h3, if_pos h4, if_neg h5]; rfl) | (rw [hs2]; rfl) | (rw [hs2]; simp only [k_rd, k_inn, if_neg h3, if_pos h4, if_neg h5]; done) | (rw [hs2]; simp only [k_rd, k_inn, if_neg h3, if_pos h4, if_neg h5]; rfl) | (rw [hs2]; unfold k_rd k_inn; rw [if_neg h3, if_pos h4, if_neg h5]; done) | (rw [hs2]; unfold k_rd k_inn; rw [if_neg h3, if_pos h4, if_neg h5]; rfl)
        · rw [hs2]
          first | rfl | (simp only [k_rd, k_inn, if_neg h3, if_pos h4, if_neg h5]; done) | (simp only [k_rd, k_inn, if_neg h3, if_pos h4, if_neg h5]; rfl) | (unfold k_rd k_inn; rw [if_neg h3, if_pos h4, if_neg h5]; done) | (unfold k_rd k_inn; rw [if_neg h3, if_pos h4, if_neg h5]; rfl)
        · exact ((m_fr.rf).tr hf2)
    · replace h4 := s01_0.mp h4
      refine c_run 1 (pc' := 50) (ls' := [(0, .ref 1), (1, .int 1), (2, .int x)]) (st' := [.int 3]) (μ' := (I, J)) (Nat.le_of_ble_eq_true rfl) rfl ?_
      refine c_ret (Nat.le_of_ble_eq_true rfl) rfl rfl ⟨by decide, rfl⟩ ?_
      refine ⟨?_, ?_, ?_⟩
      · first | rfl | (simp only [k_rd, k_inn, if_neg h3, if_neg h4]; done) | (simp only [k_rd, k_inn, if_neg h3, if_neg h4]; rfl) | (unfold k_rd k_inn; rw [if_neg h3, if_neg h4]; done) | (unfold k_rd k_inn; rw [if_neg h3, if_neg h4]; rfl)
      · skip
        first | rfl | (simp only [k_rd, k_inn, if_neg h3, if_neg h4]; done) | (simp only [k_rd, k_inn, if_neg h3, if_neg h4]; rfl) | (unfold k_rd k_inn; rw [if_neg h3, if_neg h4]; done) | (unfold k_rd k_inn; rw [if_neg h3, if_neg h4]; rfl)
      · exact (m_fr.rf)
  · skip
    refine c_run 1 (pc' := 41) (ls' := [(0, .ref 1), (1, .int 1), (2, .int x)]) (st' := [.int (-2)]) (μ' := (I, J)) (Nat.le_of_ble_eq_true rfl) rfl ?_
    refine c_ret (Nat.le_of_ble_eq_true rfl) rfl rfl ⟨by decide, rfl⟩ ?_
    refine ⟨?_, ?_, ?_⟩
    · first | rfl | (simp only [k_rd, k_inn, if_pos h3]; done) | (simp only [k_rd, k_inn, if_pos h3]; rfl) | (unfold k_rd k_inn; rw [if_pos h3]; done) | (unfold k_rd k_inn; rw [if_pos h3]; rfl)
    · skip
      first | rfl | (simp only [k_rd, k_inn, if_pos h3]; done) | (simp only [k_rd, k_inn, if_pos h3]; rfl) | (unfold k_rd k_inn; rw [if_pos h3]; done) | (unfold k_rd k_inn; rw [if_pos h3]; rfl)
    · exact (m_fr.rf)

set_option maxRecDepth 100000 in
theorem t1_rd2 (I : Nat → Nat → Int32) (J : Nat → Nat → Int64) (x : Int32) (hx : 0 ≤ x ∧ x ≤ 10000) (ht : k_hasT (k_sh 1 (I, J)) 2) (p : Nat) (hp : (k_sh 1 (I, J)).1 17 0 = nI p) (hp8 : p ≤ 8) (l c : Nat) (hl : (k_sh 1 (I, J)).1 30 1 = nI l) (hl2 : l < 24) (hc : (k_sh 1 (I, J)).1 30 0 = nI c) (hc2 : c ≤ 24) : m_W 62 0 (lv_args 0 [.ref 1, .int 2, .int x]) [] (I, J) (k_E 1 (I, J) (some (.int (k_rd (k_sh 1 (I, J)) 2 p x l c).1)) (k_rd (k_sh 1 (I, J)) 2 p x l c).2) := by
  show m_W 62 0 [(0, .ref 1), (1, .int 2), (2, .int x)] [] (I, J) _
  refine c_run 3 (pc' := 5) (ls' := [(0, .ref 1), (1, .int 2), (2, .int x)]) (st' := [.int 2, .ref 2]) (μ' := (I, J)) (Nat.le_of_ble_eq_true rfl) rfl ?_
  refine c_cv 80 [.int 2] (b := 2) (r := []) (Nat.le_of_ble_eq_true rfl) rfl rfl rfl rfl rfl rfl (t1_hasT I J 2) ?_
  rintro _ _ ⟨rfl, rfl⟩
  show m_W 62 8 [(0, .ref 1), (1, .int 2), (2, .int x)] [.int (s01 (k_hasT (k_sh 1 (I, J)) 2))] (I, J) _
  refine c_ifeq 22 (Nat.le_of_ble_eq_true rfl) rfl rfl (fun h1 => absurd h1 (show ¬ s01 (k_hasT (k_sh 1 (I, J)) 2) = 0 from s01_1.mpr ht)) (fun h1 => ?_)
  refine c_run 3 (pc' := 16) (ls' := [(0, .ref 1), (1, .int 2), (2, .int x)]) (st' := [.int 10000, .int 0, .int x]) (μ' := (I, J)) (Nat.le_of_ble_eq_true rfl) rfl ?_
  refine c_cs 35 [.int x, .int 0, .int 10000] (r := []) (Nat.le_of_ble_eq_true rfl) rfl (Or.inr ⟨rfl, rfl⟩) rfl rfl rfl (t_isWithin I J x 0 10000) ?_
  rintro _ _ ⟨rfl, rfl⟩
  show m_W 62 19 [(0, .ref 1), (1, .int 2), (2, .int x)] [.int (s01 ((0 : Int32) ≤ x ∧ x ≤ (10000 : Int32)))] (I, J) _
  refine c_ifne 24 (Nat.le_of_ble_eq_true rfl) rfl rfl (fun h2 => ?_) (fun h2 => absurd h2 (s01_1.mpr hx))
  refine c_run 4 (pc' := 32) (ls' := [(0, .ref 1), (1, .int 2), (2, .int x)]) (st' := [.int 2, .ref 11]) (μ' := (I, J)) (Nat.le_of_ble_eq_true rfl) rfl ?_
  refine c_aal 2 4 (Nat.le_of_ble_eq_true rfl) rfl rfl rfl rfl rfl (by decide) ?_
  show m_W 62 33 [(0, .ref 1), (1, .int 2), (2, .int x)] [.ref 18] (I, J) _
  refine c_run 1 (pc' := 36) (ls' := [(0, .ref 1), (1, .int 2), (2, .int x)]) (st' := [.int ((k_sh 1 (I, J)).1 17 0)]) (μ' := (I, J)) (Nat.le_of_ble_eq_true rfl) rfl ?_
  refine c_ifne 42 (Nat.le_of_ble_eq_true rfl) rfl rfl (fun h3 => ?_) (fun h3 => ?_)
  · skip
    refine c_run 1 (pc' := 43) (ls' := [(0, .ref 1), (1, .int 2), (2, .int x)]) (st' := [.ref 1]) (μ' := (I, J)) (Nat.le_of_ble_eq_true rfl) rfl ?_
    refine c_cv 51 [] (b := 1) (r := []) (Nat.le_of_ble_eq_true rfl) rfl rfl rfl rfl rfl rfl (t1_set I J) ?_
    rintro _ _ ⟨rfl, rfl⟩
    show m_W 62 46 [(0, .ref 1), (1, .int 2), (2, .int x)] [.int (s01 (k_set (k_sh 1 (I, J))))] (I, J) _
    refine c_ifne 51 (Nat.le_of_ble_eq_true rfl) rfl rfl (fun h4 => ?_) (fun h4 => ?_)
    · replace h4 := s01_1.mp h4
      refine c_run 4 (pc' := 57) (ls' := [(0, .ref 1), (1, .int 2), (2, .int x)]) (st' := [.int x, .int 2, .ref 2]) (μ' := (I, J)) (Nat.le_of_ble_eq_true rfl) rfl ?_
      refine c_cv 86 [.int 2, .int x] (b := 2) (r := []) (Nat.le_of_ble_eq_true rfl) rfl rfl rfl rfl rfl rfl (t1_gm2 I J x p hp hp8) ?_
      rintro _ _ ⟨rfl, rfl⟩
      show m_W 62 60 [(0, .ref 1), (1, .int 2), (2, .int x)] [.long (k_gm (k_sh 1 (I, J)) 2 p x)] (I, J) _
      refine c_run 4 (pc' := 68) (ls' := [(0, .ref 1), (1, .int 2), (2, .int x)]) (st' := [.int 2, .ref 8, .long (k_gm (k_sh 1 (I, J)) 2 p x)]) (μ' := (I, J)) (Nat.le_of_ble_eq_true rfl) rfl ?_
      refine c_lal 2 4 (Nat.le_of_ble_eq_true rfl) rfl rfl rfl rfl rfl (by decide) ?_
      show m_W 62 69 [(0, .ref 1), (1, .int 2), (2, .int x)] [.long ((k_sh 1 (I, J)).2 7 2), .long (k_gm (k_sh 1 (I, J)) 2 p x)] (I, J) _
      refine c_run 11 (pc' := 84) (ls' := [(3, .long ((k_gm (k_sh 1 (I, J)) 2 p x) - ((k_sh 1 (I, J)).2 7 2))), (0, .ref 1), (1, .int 2), (2, .int x)]) (st' := [.int 2, .ref 2, .long ((((k_sh 1 (I, J)).1 0 5) : Int32).toInt64), .long (((k_gm (k_sh 1 (I, J)) 2 p x) - ((k_sh 1 (I, J)).2 7 2)) * ((k_gm (k_sh 1 (I, J)) 2 p x) - ((k_sh 1 (I, J)).2 7 2)))]) (μ' := (I, J)) (Nat.le_of_ble_eq_true rfl) rfl ?_
      refine c_cv 87 [.int 2] (b := 2) (r := [.long ((((k_sh 1 (I, J)).1 0 5) : Int32).toInt64), .long (((k_gm (k_sh 1 (I, J)) 2 p x) - ((k_sh 1 (I, J)).2 7 2)) * ((k_gm (k_sh 1 (I, J)) 2 p x) - ((k_sh 1 (I, J)).2 7 2)))]) (Nat.le_of_ble_eq_true rfl) rfl rfl rfl rfl rfl rfl (t1_iv I J 2 (by decide)) ?_
      rintro _ _ ⟨rfl, rfl⟩
      show m_W 62 87 [(3, .long ((k_gm (k_sh 1 (I, J)) 2 p x) - ((k_sh 1 (I, J)).2 7 2))), (0, .ref 1), (1, .int 2), (2, .int x)] [.long (k_iv (k_sh 1 (I, J)) 2), .long ((((k_sh 1 (I, J)).1 0 5) : Int32).toInt64), .long (((k_gm (k_sh 1 (I, J)) 2 p x) - ((k_sh 1 (I, J)).2 7 2)) * ((k_gm (k_sh 1 (I, J)) 2 p x) - ((k_sh 1 (I, J)).2 7 2)))] (I, J) _
      refine c_run 2 (pc' := 89) (ls' := [(3, .long ((k_gm (k_sh 1 (I, J)) 2 p x) - ((k_sh 1 (I, J)).2 7 2))), (0, .ref 1), (1, .int 2), (2, .int x)]) (st' := [.int (lg_cmp (((k_gm (k_sh 1 (I, J)) 2 p x) - ((k_sh 1 (I, J)).2 7 2)) * ((k_gm (k_sh 1 (I, J)) 2 p x) - ((k_sh 1 (I, J)).2 7 2))) (((((k_sh 1 (I, J)).1 0 5) : Int32).toInt64) * (k_iv (k_sh 1 (I, J)) 2)))]) (μ' := (I, J)) (Nat.le_of_ble_eq_true rfl) rfl ?_
      refine c_ifle 108 (Nat.le_of_ble_eq_true rfl) rfl rfl (fun h5 => ?_) (fun h5 => ?_)
      · replace h5 := lc_le.mp h5
        refine c_run 3 (pc' := 111) (ls' := [(3, .long ((k_gm (k_sh 1 (I, J)) 2 p x) - ((k_sh 1 (I, J)).2 7 2))), (0, .ref 1), (1, .int 2), (2, .int x)]) (st' := [.long ((k_gm (k_sh 1 (I, J)) 2 p x) - ((k_sh 1 (I, J)).2 7 2)), .int 2, .ref 1]) (μ' := (I, J)) (Nat.le_of_ble_eq_true rfl) rfl ?_
        refine c_cv 63 [.int 2, .long ((k_gm (k_sh 1 (I, J)) 2 p x) - ((k_sh 1 (I, J)).2 7 2))] (b := 1) (r := []) (Nat.le_of_ble_eq_true rfl) rfl rfl rfl rfl rfl rfl (t1_acc I J 2 (by decide) ((k_gm (k_sh 1 (I, J)) 2 p x) - ((k_sh 1 (I, J)).2 7 2)) l c hl hl2 hc hc2) ?_
        rintro _ ⟨I1, J1⟩ ⟨rfl, hs1, hf1⟩
        show m_W 62 114 [(3, .long ((k_gm (k_sh 1 (I, J)) 2 p x) - ((k_sh 1 (I, J)).2 7 2))), (0, .ref 1), (1, .int 2), (2, .int x)] [] (I1, J1) _
        refine c_run 1 (pc' := 115) (ls' := [(3, .long ((k_gm (k_sh 1 (I, J)) 2 p x) - ((k_sh 1 (I, J)).2 7 2))), (0, .ref 1), (1, .int 2), (2, .int x)]) (st' := [.int 1]) (μ' := (I1, J1)) (Nat.le_of_ble_eq_true rfl) rfl ?_
        refine c_ret (Nat.le_of_ble_eq_true rfl) rfl rfl ⟨by decide, rfl⟩ ?_
        refine ⟨?_, ?_, ?_⟩
        · first | rfl | (simp only [k_rd, k_inn, if_neg h3, if_pos h4, if_pos h5]; done) | (simp only [k_rd, k_inn, if_neg h3, if_pos h4, if_pos h5]; rfl) | (unfold k_rd k_inn; rw [if_neg h3, if_pos h4, if_pos h5]; done) | (unfold k_rd k_inn; rw [if_neg h3, if_pos h4, if_pos h5]; rfl) | (rw [hs1]; rfl) | (rw [hs1]; simp only [k_rd, k_inn, if_neg h3, if_pos h4, if_pos h5]; done) | (rw [hs1]; simp only [k_rd, k_inn, if_neg h3, if_pos h4, if_pos h5]; rfl) | (rw [hs1]; unfold k_rd k_inn; rw [if_neg h3, if_pos h4, if_pos h5]; done) | (rw [hs1]; unfold k_rd k_inn; rw [if_neg h3, if_pos h4, if_pos h5]; rfl) | (rw [hs1]; rfl) | (rw [hs1]; simp only [k_rd, k_inn, if_neg h3, if_pos h4, if_pos h5]; done) | (rw [hs1]; simp only [k_rd, k_inn, if_neg h3, if_pos h4, if_pos h5]; rfl) | (rw [hs1]; unfold k_rd k_inn; rw [if_neg h3, if_pos h4, if_pos h5]; done) | (rw [hs1]; unfold k_rd k_inn; rw [if_neg h3, if_pos h4, if_pos h5]; rfl)
        · rw [hs1]
          first | rfl | (simp only [k_rd, k_inn, if_neg h3, if_pos h4, if_pos h5]; done) | (simp only [k_rd, k_inn, if_neg h3, if_pos h4, if_pos h5]; rfl) | (unfold k_rd k_inn; rw [if_neg h3, if_pos h4, if_pos h5]; done) | (unfold k_rd k_inn; rw [if_neg h3, if_pos h4, if_pos h5]; rfl)
        · exact ((m_fr.rf).tr hf1)
      · replace h5 := mt lc_le.mpr h5
        refine c_run 7 (pc' := 103) (ls' := [(3, .long ((k_gm (k_sh 1 (I, J)) 2 p x) - ((k_sh 1 (I, J)).2 7 2))), (0, .ref 1), (1, .int 2), (2, .int x)]) (st' := [.long ((k_gm (k_sh 1 (I, J)) 2 p x) - ((k_sh 1 (I, J)).2 7 2)), .int 2, .int 3, .int ((k_sh 1 (I, J)).1 0 3), .ref 31]) (μ' := (I, J)) (Nat.le_of_ble_eq_true rfl) rfl ?_
        refine c_cv 72 [.int ((k_sh 1 (I, J)).1 0 3), .int 3, .int 2, .long ((k_gm (k_sh 1 (I, J)) 2 p x) - ((k_sh 1 (I, J)).2 7 2))] (b := 31) (r := []) (Nat.le_of_ble_eq_true rfl) rfl rfl rfl rfl rfl rfl (t1_app I J l c ((k_sh 1 (I, J)).1 0 3) 3 2 ((k_gm (k_sh 1 (I, J)) 2 p x) - ((k_sh 1 (I, J)).2 7 2)) hl hl2 hc hc2) ?_
        rintro _ ⟨I2, J2⟩ ⟨rfl, hs2, hf2⟩
        show m_W 62 106 [(3, .long ((k_gm (k_sh 1 (I, J)) 2 p x) - ((k_sh 1 (I, J)).2 7 2))), (0, .ref 1), (1, .int 2), (2, .int x)] [] (I2, J2) _
        refine c_run 1 (pc' := 107) (ls' := [(3, .long ((k_gm (k_sh 1 (I, J)) 2 p x) - ((k_sh 1 (I, J)).2 7 2))), (0, .ref 1), (1, .int 2), (2, .int x)]) (st' := [.int 2]) (μ' := (I2, J2)) (Nat.le_of_ble_eq_true rfl) rfl ?_
        refine c_ret (Nat.le_of_ble_eq_true rfl) rfl rfl ⟨by decide, rfl⟩ ?_
        refine ⟨?_, ?_, ?_⟩
        · first | rfl | (simp only [k_rd, k_inn, if_neg h3, if_pos h4, if_neg h5]; done) | (simp only [k_rd, k_inn, if_neg h3, if_pos h4, if_neg h5]; rfl) | (unfold k_rd k_inn; rw [if_neg h3, if_pos h4, if_neg h5]; done) | (unfold k_rd k_inn; rw [if_neg h3, if_pos h4, if_neg h5]; rfl) | (rw [hs2]; rfl) | (rw [hs2]; simp only [k_rd, k_inn, if_neg h3, if_pos h4, if_neg h5]; done) | (rw [hs2]; simp only [k_rd, k_inn, if_neg h3, if_pos h4, if_neg h5]; rfl) | (rw [hs2]; unfold k_rd k_inn; rw [if_neg h3, if_pos h4, if_neg h5]; done) | (rw [hs2]; unfold k_rd k_inn; rw [if_neg h3, if_pos h4, if_neg h5]; rfl) | (rw [hs2]; rfl) | (rw [hs2]; simp only [k_rd, k_inn, if_neg h3, if_pos h4, if_neg h5]; done) | (rw [hs2]; simp only [k_rd, k_inn, if_neg h3, if_pos h4, if_neg h5]; rfl) | (rw [hs2]; unfold k_rd k_inn; rw [if_neg h3, if_pos h4, if_neg h5]; done) | (rw [hs2]; unfold k_rd k_inn; rw [if_neg h3, if_pos h4, if_neg h5]; rfl)
        · rw [hs2]
          first | rfl | (simp only [k_rd, k_inn, if_neg h3, if_pos h4, if_neg h5]; done) | (simp only [k_rd, k_inn, if_neg h3, if_pos h4, if_neg h5]; rfl) | (unfold k_rd k_inn; rw [if_neg h3, if_pos h4, if_neg h5]; done) | (unfold k_rd k_inn; rw [if_neg h3, if_pos h4, if_neg h5]; rfl)
        · exact ((m_fr.rf).tr hf2)
    · replace h4 := s01_0.mp h4
      refine c_run 1 (pc' := 50) (ls' := [(0, .ref 1), (1, .int 2), (2, .int x)]) (st' := [.int 3]) (μ' := (I, J)) (Nat.le_of_ble_eq_true rfl) rfl ?_
      refine c_ret (Nat.le_of_ble_eq_true rfl) rfl rfl ⟨by decide, rfl⟩ ?_
      refine ⟨?_, ?_, ?_⟩
      · first | rfl | (simp only [k_rd, k_inn, if_neg h3, if_neg h4]; done) | (simp only [k_rd, k_inn, if_neg h3, if_neg h4]; rfl) | (unfold k_rd k_inn; rw [if_neg h3, if_neg h4]; done) | (unfold k_rd k_inn; rw [if_neg h3, if_neg h4]; rfl)
      · skip
        first | rfl | (simp only [k_rd, k_inn, if_neg h3, if_neg h4]; done) | (simp only [k_rd, k_inn, if_neg h3, if_neg h4]; rfl) | (unfold k_rd k_inn; rw [if_neg h3, if_neg h4]; done) | (unfold k_rd k_inn; rw [if_neg h3, if_neg h4]; rfl)
      · exact (m_fr.rf)
  · skip
    refine c_run 1 (pc' := 41) (ls' := [(0, .ref 1), (1, .int 2), (2, .int x)]) (st' := [.int (-2)]) (μ' := (I, J)) (Nat.le_of_ble_eq_true rfl) rfl ?_
    refine c_ret (Nat.le_of_ble_eq_true rfl) rfl rfl ⟨by decide, rfl⟩ ?_
    refine ⟨?_, ?_, ?_⟩
    · first | rfl | (simp only [k_rd, k_inn, if_pos h3]; done) | (simp only [k_rd, k_inn, if_pos h3]; rfl) | (unfold k_rd k_inn; rw [if_pos h3]; done) | (unfold k_rd k_inn; rw [if_pos h3]; rfl)
    · skip
      first | rfl | (simp only [k_rd, k_inn, if_pos h3]; done) | (simp only [k_rd, k_inn, if_pos h3]; rfl) | (unfold k_rd k_inn; rw [if_pos h3]; done) | (unfold k_rd k_inn; rw [if_pos h3]; rfl)
    · exact (m_fr.rf)

set_option maxRecDepth 100000 in
theorem t1_rd3 (I : Nat → Nat → Int32) (J : Nat → Nat → Int64) (x : Int32) (hx : 0 ≤ x ∧ x ≤ 10000) (ht : k_hasT (k_sh 1 (I, J)) 3) (p : Nat) (hp : (k_sh 1 (I, J)).1 20 0 = nI p) (hp8 : p ≤ 8) (l c : Nat) (hl : (k_sh 1 (I, J)).1 30 1 = nI l) (hl2 : l < 24) (hc : (k_sh 1 (I, J)).1 30 0 = nI c) (hc2 : c ≤ 24) : m_W 62 0 (lv_args 0 [.ref 1, .int 3, .int x]) [] (I, J) (k_E 1 (I, J) (some (.int (k_rd (k_sh 1 (I, J)) 3 p x l c).1)) (k_rd (k_sh 1 (I, J)) 3 p x l c).2) := by
  show m_W 62 0 [(0, .ref 1), (1, .int 3), (2, .int x)] [] (I, J) _
  refine c_run 3 (pc' := 5) (ls' := [(0, .ref 1), (1, .int 3), (2, .int x)]) (st' := [.int 3, .ref 2]) (μ' := (I, J)) (Nat.le_of_ble_eq_true rfl) rfl ?_
  refine c_cv 80 [.int 3] (b := 2) (r := []) (Nat.le_of_ble_eq_true rfl) rfl rfl rfl rfl rfl rfl (t1_hasT I J 3) ?_
  rintro _ _ ⟨rfl, rfl⟩
  show m_W 62 8 [(0, .ref 1), (1, .int 3), (2, .int x)] [.int (s01 (k_hasT (k_sh 1 (I, J)) 3))] (I, J) _
  refine c_ifeq 22 (Nat.le_of_ble_eq_true rfl) rfl rfl (fun h1 => absurd h1 (show ¬ s01 (k_hasT (k_sh 1 (I, J)) 3) = 0 from s01_1.mpr ht)) (fun h1 => ?_)
  refine c_run 3 (pc' := 16) (ls' := [(0, .ref 1), (1, .int 3), (2, .int x)]) (st' := [.int 10000, .int 0, .int x]) (μ' := (I, J)) (Nat.le_of_ble_eq_true rfl) rfl ?_
  refine c_cs 35 [.int x, .int 0, .int 10000] (r := []) (Nat.le_of_ble_eq_true rfl) rfl (Or.inr ⟨rfl, rfl⟩) rfl rfl rfl (t_isWithin I J x 0 10000) ?_
  rintro _ _ ⟨rfl, rfl⟩
  show m_W 62 19 [(0, .ref 1), (1, .int 3), (2, .int x)] [.int (s01 ((0 : Int32) ≤ x ∧ x ≤ (10000 : Int32)))] (I, J) _
  refine c_ifne 24 (Nat.le_of_ble_eq_true rfl) rfl rfl (fun h2 => ?_) (fun h2 => absurd h2 (s01_1.mpr hx))
  refine c_run 4 (pc' := 32) (ls' := [(0, .ref 1), (1, .int 3), (2, .int x)]) (st' := [.int 3, .ref 11]) (μ' := (I, J)) (Nat.le_of_ble_eq_true rfl) rfl ?_
  refine c_aal 3 4 (Nat.le_of_ble_eq_true rfl) rfl rfl rfl rfl rfl (by decide) ?_
  show m_W 62 33 [(0, .ref 1), (1, .int 3), (2, .int x)] [.ref 21] (I, J) _
  refine c_run 1 (pc' := 36) (ls' := [(0, .ref 1), (1, .int 3), (2, .int x)]) (st' := [.int ((k_sh 1 (I, J)).1 20 0)]) (μ' := (I, J)) (Nat.le_of_ble_eq_true rfl) rfl ?_
  refine c_ifne 42 (Nat.le_of_ble_eq_true rfl) rfl rfl (fun h3 => ?_) (fun h3 => ?_)
  · skip
    refine c_run 1 (pc' := 43) (ls' := [(0, .ref 1), (1, .int 3), (2, .int x)]) (st' := [.ref 1]) (μ' := (I, J)) (Nat.le_of_ble_eq_true rfl) rfl ?_
    refine c_cv 51 [] (b := 1) (r := []) (Nat.le_of_ble_eq_true rfl) rfl rfl rfl rfl rfl rfl (t1_set I J) ?_
    rintro _ _ ⟨rfl, rfl⟩
    show m_W 62 46 [(0, .ref 1), (1, .int 3), (2, .int x)] [.int (s01 (k_set (k_sh 1 (I, J))))] (I, J) _
    refine c_ifne 51 (Nat.le_of_ble_eq_true rfl) rfl rfl (fun h4 => ?_) (fun h4 => ?_)
    · replace h4 := s01_1.mp h4
      refine c_run 4 (pc' := 57) (ls' := [(0, .ref 1), (1, .int 3), (2, .int x)]) (st' := [.int x, .int 3, .ref 2]) (μ' := (I, J)) (Nat.le_of_ble_eq_true rfl) rfl ?_
      refine c_cv 86 [.int 3, .int x] (b := 2) (r := []) (Nat.le_of_ble_eq_true rfl) rfl rfl rfl rfl rfl rfl (t1_gm3 I J x p hp hp8) ?_
      rintro _ _ ⟨rfl, rfl⟩
      show m_W 62 60 [(0, .ref 1), (1, .int 3), (2, .int x)] [.long (k_gm (k_sh 1 (I, J)) 3 p x)] (I, J) _
      refine c_run 4 (pc' := 68) (ls' := [(0, .ref 1), (1, .int 3), (2, .int x)]) (st' := [.int 3, .ref 8, .long (k_gm (k_sh 1 (I, J)) 3 p x)]) (μ' := (I, J)) (Nat.le_of_ble_eq_true rfl) rfl ?_
      refine c_lal 3 4 (Nat.le_of_ble_eq_true rfl) rfl rfl rfl rfl rfl (by decide) ?_
      show m_W 62 69 [(0, .ref 1), (1, .int 3), (2, .int x)] [.long ((k_sh 1 (I, J)).2 7 3), .long (k_gm (k_sh 1 (I, J)) 3 p x)] (I, J) _
      refine c_run 11 (pc' := 84) (ls' := [(3, .long ((k_gm (k_sh 1 (I, J)) 3 p x) - ((k_sh 1 (I, J)).2 7 3))), (0, .ref 1), (1, .int 3), (2, .int x)]) (st' := [.int 3, .ref 2, .long ((((k_sh 1 (I, J)).1 0 5) : Int32).toInt64), .long (((k_gm (k_sh 1 (I, J)) 3 p x) - ((k_sh 1 (I, J)).2 7 3)) * ((k_gm (k_sh 1 (I, J)) 3 p x) - ((k_sh 1 (I, J)).2 7 3)))]) (μ' := (I, J)) (Nat.le_of_ble_eq_true rfl) rfl ?_
      refine c_cv 87 [.int 3] (b := 2) (r := [.long ((((k_sh 1 (I, J)).1 0 5) : Int32).toInt64), .long (((k_gm (k_sh 1 (I, J)) 3 p x) - ((k_sh 1 (I, J)).2 7 3)) * ((k_gm (k_sh 1 (I, J)) 3 p x) - ((k_sh 1 (I, J)).2 7 3)))]) (Nat.le_of_ble_eq_true rfl) rfl rfl rfl rfl rfl rfl (t1_iv I J 3 (by decide)) ?_
      rintro _ _ ⟨rfl, rfl⟩
      show m_W 62 87 [(3, .long ((k_gm (k_sh 1 (I, J)) 3 p x) - ((k_sh 1 (I, J)).2 7 3))), (0, .ref 1), (1, .int 3), (2, .int x)] [.long (k_iv (k_sh 1 (I, J)) 3), .long ((((k_sh 1 (I, J)).1 0 5) : Int32).toInt64), .long (((k_gm (k_sh 1 (I, J)) 3 p x) - ((k_sh 1 (I, J)).2 7 3)) * ((k_gm (k_sh 1 (I, J)) 3 p x) - ((k_sh 1 (I, J)).2 7 3)))] (I, J) _
      refine c_run 2 (pc' := 89) (ls' := [(3, .long ((k_gm (k_sh 1 (I, J)) 3 p x) - ((k_sh 1 (I, J)).2 7 3))), (0, .ref 1), (1, .int 3), (2, .int x)]) (st' := [.int (lg_cmp (((k_gm (k_sh 1 (I, J)) 3 p x) - ((k_sh 1 (I, J)).2 7 3)) * ((k_gm (k_sh 1 (I, J)) 3 p x) - ((k_sh 1 (I, J)).2 7 3))) (((((k_sh 1 (I, J)).1 0 5) : Int32).toInt64) * (k_iv (k_sh 1 (I, J)) 3)))]) (μ' := (I, J)) (Nat.le_of_ble_eq_true rfl) rfl ?_
      refine c_ifle 108 (Nat.le_of_ble_eq_true rfl) rfl rfl (fun h5 => ?_) (fun h5 => ?_)
      · replace h5 := lc_le.mp h5
        refine c_run 3 (pc' := 111) (ls' := [(3, .long ((k_gm (k_sh 1 (I, J)) 3 p x) - ((k_sh 1 (I, J)).2 7 3))), (0, .ref 1), (1, .int 3), (2, .int x)]) (st' := [.long ((k_gm (k_sh 1 (I, J)) 3 p x) - ((k_sh 1 (I, J)).2 7 3)), .int 3, .ref 1]) (μ' := (I, J)) (Nat.le_of_ble_eq_true rfl) rfl ?_
        refine c_cv 63 [.int 3, .long ((k_gm (k_sh 1 (I, J)) 3 p x) - ((k_sh 1 (I, J)).2 7 3))] (b := 1) (r := []) (Nat.le_of_ble_eq_true rfl) rfl rfl rfl rfl rfl rfl (t1_acc I J 3 (by decide) ((k_gm (k_sh 1 (I, J)) 3 p x) - ((k_sh 1 (I, J)).2 7 3)) l c hl hl2 hc hc2) ?_
        rintro _ ⟨I1, J1⟩ ⟨rfl, hs1, hf1⟩
        show m_W 62 114 [(3, .long ((k_gm (k_sh 1 (I, J)) 3 p x) - ((k_sh 1 (I, J)).2 7 3))), (0, .ref 1), (1, .int 3), (2, .int x)] [] (I1, J1) _
        refine c_run 1 (pc' := 115) (ls' := [(3, .long ((k_gm (k_sh 1 (I, J)) 3 p x) - ((k_sh 1 (I, J)).2 7 3))), (0, .ref 1), (1, .int 3), (2, .int x)]) (st' := [.int 1]) (μ' := (I1, J1)) (Nat.le_of_ble_eq_true rfl) rfl ?_
        refine c_ret (Nat.le_of_ble_eq_true rfl) rfl rfl ⟨by decide, rfl⟩ ?_
        refine ⟨?_, ?_, ?_⟩
        · first | rfl | (simp only [k_rd, k_inn, if_neg h3, if_pos h4, if_pos h5]; done) | (simp only [k_rd, k_inn, if_neg h3, if_pos h4, if_pos h5]; rfl) | (unfold k_rd k_inn; rw [if_neg h3, if_pos h4, if_pos h5]; done) | (unfold k_rd k_inn; rw [if_neg h3, if_pos h4, if_pos h5]; rfl) | (rw [hs1]; rfl) | (rw [hs1]; simp only [k_rd, k_inn, if_neg h3, if_pos h4, if_pos h5]; done) | (rw [hs1]; simp only [k_rd, k_inn, if_neg h3, if_pos h4, if_pos h5]; rfl) | (rw [hs1]; unfold k_rd k_inn; rw [if_neg h3, if_pos h4, if_pos h5]; done) | (rw [hs1]; unfold k_rd k_inn; rw [if_neg h3, if_pos h4, if_pos h5]; rfl) | (rw [hs1]; rfl) | (rw [hs1]; simp only [k_rd, k_inn, if_neg h3, if_pos h4, if_pos h5]; done) | (rw [hs1]; simp only [k_rd, k_inn, if_neg h3, if_pos h4, if_pos h5]; rfl) | (rw [hs1]; unfold k_rd k_inn; rw [if_neg h3, if_pos h4, if_pos h5]; done) | (rw [hs1]; unfold k_rd k_inn; rw [if_neg h3, if_pos h4, if_pos h5]; rfl)
        · rw [hs1]
          first | rfl | (simp only [k_rd, k_inn, if_neg h3, if_pos h4, if_pos h5]; done) | (simp only [k_rd, k_inn, if_neg h3, if_pos h4, if_pos h5]; rfl) | (unfold k_rd k_inn; rw [if_neg h3, if_pos h4, if_pos h5]; done) | (unfold k_rd k_inn; rw [if_neg h3, if_pos h4, if_pos h5]; rfl)
        · exact ((m_fr.rf).tr hf1)
      · replace h5 := mt lc_le.mpr h5
        refine c_run 7 (pc' := 103) (ls' := [(3, .long ((k_gm (k_sh 1 (I, J)) 3 p x) - ((k_sh 1 (I, J)).2 7 3))), (0, .ref 1), (1, .int 3), (2, .int x)]) (st' := [.long ((k_gm (k_sh 1 (I, J)) 3 p x) - ((k_sh 1 (I, J)).2 7 3)), .int 3, .int 3, .int ((k_sh 1 (I, J)).1 0 3), .ref 31]) (μ' := (I, J)) (Nat.le_of_ble_eq_true rfl) rfl ?_
        refine c_cv 72 [.int ((k_sh 1 (I, J)).1 0 3), .int 3, .int 3, .long ((k_gm (k_sh 1 (I, J)) 3 p x) - ((k_sh 1 (I, J)).2 7 3))] (b := 31) (r := []) (Nat.le_of_ble_eq_true rfl) rfl rfl rfl rfl rfl rfl (t1_app I J l c ((k_sh 1 (I, J)).1 0 3) 3 3 ((k_gm (k_sh 1 (I, J)) 3 p x) - ((k_sh 1 (I, J)).2 7 3)) hl hl2 hc hc2) ?_
        rintro _ ⟨I2, J2⟩ ⟨rfl, hs2, hf2⟩
        show m_W 62 106 [(3, .long ((k_gm (k_sh 1 (I, J)) 3 p x) - ((k_sh 1 (I, J)).2 7 3))), (0, .ref 1), (1, .int 3), (2, .int x)] [] (I2, J2) _
        refine c_run 1 (pc' := 107) (ls' := [(3, .long ((k_gm (k_sh 1 (I, J)) 3 p x) - ((k_sh 1 (I, J)).2 7 3))), (0, .ref 1), (1, .int 3), (2, .int x)]) (st' := [.int 2]) (μ' := (I2, J2)) (Nat.le_of_ble_eq_true rfl) rfl ?_
        refine c_ret (Nat.le_of_ble_eq_true rfl) rfl rfl ⟨by decide, rfl⟩ ?_
        refine ⟨?_, ?_, ?_⟩
        · first | rfl | (simp only [k_rd, k_inn, if_neg h3, if_pos h4, if_neg h5]; done) | (simp only [k_rd, k_inn, if_neg h3, if_pos h4, if_neg h5]; rfl) | (unfold k_rd k_inn; rw [if_neg h3, if_pos h4, if_neg h5]; done) | (unfold k_rd k_inn; rw [if_neg h3, if_pos h4, if_neg h5]; rfl) | (rw [hs2]; rfl) | (rw [hs2]; simp only [k_rd, k_inn, if_neg h3, if_pos h4, if_neg h5]; done) | (rw [hs2]; simp only [k_rd, k_inn, if_neg h3, if_pos h4, if_neg h5]; rfl) | (rw [hs2]; unfold k_rd k_inn; rw [if_neg h3, if_pos h4, if_neg h5]; done) | (rw [hs2]; unfold k_rd k_inn; rw [if_neg h3, if_pos h4, if_neg h5]; rfl) | (rw [hs2]; rfl) | (rw [hs2]; simp only [k_rd, k_inn, if_neg h3, if_pos h4, if_neg h5]; done) | (rw [hs2]; simp only [k_rd, k_inn, if_neg h3, if_pos h4, if_neg h5]; rfl) | (rw [hs2]; unfold k_rd k_inn; rw [if_neg h3, if_pos h4, if_neg h5]; done) | (rw [hs2]; unfold k_rd k_inn; rw [if_neg h3, if_pos h4, if_neg h5]; rfl)
        · rw [hs2]
          first | rfl | (simp only [k_rd, k_inn, if_neg h3, if_pos h4, if_neg h5]; done) | (simp only [k_rd, k_inn, if_neg h3, if_pos h4, if_neg h5]; rfl) | (unfold k_rd k_inn; rw [if_neg h3, if_pos h4, if_neg h5]; done) | (unfold k_rd k_inn; rw [if_neg h3, if_pos h4, if_neg h5]; rfl)
        · exact ((m_fr.rf).tr hf2)
    · replace h4 := s01_0.mp h4
      refine c_run 1 (pc' := 50) (ls' := [(0, .ref 1), (1, .int 3), (2, .int x)]) (st' := [.int 3]) (μ' := (I, J)) (Nat.le_of_ble_eq_true rfl) rfl ?_
      refine c_ret (Nat.le_of_ble_eq_true rfl) rfl rfl ⟨by decide, rfl⟩ ?_
      refine ⟨?_, ?_, ?_⟩
      · first | rfl | (simp only [k_rd, k_inn, if_neg h3, if_neg h4]; done) | (simp only [k_rd, k_inn, if_neg h3, if_neg h4]; rfl) | (unfold k_rd k_inn; rw [if_neg h3, if_neg h4]; done) | (unfold k_rd k_inn; rw [if_neg h3, if_neg h4]; rfl)
      · skip
        first | rfl | (simp only [k_rd, k_inn, if_neg h3, if_neg h4]; done) | (simp only [k_rd, k_inn, if_neg h3, if_neg h4]; rfl) | (unfold k_rd k_inn; rw [if_neg h3, if_neg h4]; done) | (unfold k_rd k_inn; rw [if_neg h3, if_neg h4]; rfl)
      · exact (m_fr.rf)
  · skip
    refine c_run 1 (pc' := 41) (ls' := [(0, .ref 1), (1, .int 3), (2, .int x)]) (st' := [.int (-2)]) (μ' := (I, J)) (Nat.le_of_ble_eq_true rfl) rfl ?_
    refine c_ret (Nat.le_of_ble_eq_true rfl) rfl rfl ⟨by decide, rfl⟩ ?_
    refine ⟨?_, ?_, ?_⟩
    · first | rfl | (simp only [k_rd, k_inn, if_pos h3]; done) | (simp only [k_rd, k_inn, if_pos h3]; rfl) | (unfold k_rd k_inn; rw [if_pos h3]; done) | (unfold k_rd k_inn; rw [if_pos h3]; rfl)
    · skip
      first | rfl | (simp only [k_rd, k_inn, if_pos h3]; done) | (simp only [k_rd, k_inn, if_pos h3]; rfl) | (unfold k_rd k_inn; rw [if_pos h3]; done) | (unfold k_rd k_inn; rw [if_pos h3]; rfl)
    · exact (m_fr.rf)

set_option maxRecDepth 100000 in
theorem t38_bt0 (I : Nat → Nat → Int32) (J : Nat → Nat → Int64) (a d : Nat) (ha : a < 8) (hd : d < 8) (x : Int32) : m_W 77 0 (lv_args 0 [.ref 49, .int (nI a), .int (nI d), .int x]) [] (I, J) (m_E (some (.long (s_bt ((k_sh 38 (I, J)).1 12) ((k_sh 38 (I, J)).1 13) a d x))) (I, J)) := by
  show m_W 77 0 [(0, .ref 49), (1, .int (nI a)), (2, .int (nI d)), (3, .int x)] [] (I, J) _
  refine c_run 3 (pc' := 5) (ls' := [(0, .ref 49), (1, .int (nI a)), (2, .int (nI d)), (3, .int x)]) (st' := [.int (nI d), .ref 50]) (μ' := (I, J)) (Nat.le_of_ble_eq_true rfl) rfl ?_
  refine c_ial d 8 (Nat.le_of_ble_eq_true rfl) rfl rfl rfl rfl rfl hd ?_
  show m_W 77 6 [(0, .ref 49), (1, .int (nI a)), (2, .int (nI d)), (3, .int x)] [.int ((k_sh 38 (I, J)).1 12 d)] (I, J) _
  refine c_run 3 (pc' := 11) (ls' := [(0, .ref 49), (1, .int (nI a)), (2, .int (nI d)), (3, .int x)]) (st' := [.int (nI a), .ref 50, .int ((k_sh 38 (I, J)).1 12 d)]) (μ' := (I, J)) (Nat.le_of_ble_eq_true rfl) rfl ?_
  refine c_ial a 8 (Nat.le_of_ble_eq_true rfl) rfl rfl rfl rfl rfl ha ?_
  show m_W 77 12 [(0, .ref 49), (1, .int (nI a)), (2, .int (nI d)), (3, .int x)] [.int ((k_sh 38 (I, J)).1 12 a), .int ((k_sh 38 (I, J)).1 12 d)] (I, J) _
  refine c_run 6 (pc' := 20) (ls' := [(4, .long (((((k_sh 38 (I, J)).1 12 d) - ((k_sh 38 (I, J)).1 12 a)) : Int32).toInt64)), (0, .ref 49), (1, .int (nI a)), (2, .int (nI d)), (3, .int x)]) (st' := [.int (lg_cmp (((((k_sh 38 (I, J)).1 12 d) - ((k_sh 38 (I, J)).1 12 a)) : Int32).toInt64) 0)]) (μ' := (I, J)) (Nat.le_of_ble_eq_true rfl) rfl ?_
  refine c_ifgt 31 (Nat.le_of_ble_eq_true rfl) rfl rfl (fun h1 => ?_) (fun h1 => ?_)
  · replace h1 := lc_gt.mp h1
    refine c_run 3 (pc' := 36) (ls' := [(4, .long (((((k_sh 38 (I, J)).1 12 d) - ((k_sh 38 (I, J)).1 12 a)) : Int32).toInt64)), (0, .ref 49), (1, .int (nI a)), (2, .int (nI d)), (3, .int x)]) (st' := [.int (nI d), .ref 51]) (μ' := (I, J)) (Nat.le_of_ble_eq_true rfl) rfl ?_
    refine c_ial d 8 (Nat.le_of_ble_eq_true rfl) rfl rfl rfl rfl rfl hd ?_
    show m_W 77 37 [(4, .long (((((k_sh 38 (I, J)).1 12 d) - ((k_sh 38 (I, J)).1 12 a)) : Int32).toInt64)), (0, .ref 49), (1, .int (nI a)), (2, .int (nI d)), (3, .int x)] [.int ((k_sh 38 (I, J)).1 13 d)] (I, J) _
    refine c_run 3 (pc' := 42) (ls' := [(4, .long (((((k_sh 38 (I, J)).1 12 d) - ((k_sh 38 (I, J)).1 12 a)) : Int32).toInt64)), (0, .ref 49), (1, .int (nI a)), (2, .int (nI d)), (3, .int x)]) (st' := [.int (nI a), .ref 51, .int ((k_sh 38 (I, J)).1 13 d)]) (μ' := (I, J)) (Nat.le_of_ble_eq_true rfl) rfl ?_
    refine c_ial a 8 (Nat.le_of_ble_eq_true rfl) rfl rfl rfl rfl rfl ha ?_
    show m_W 77 43 [(4, .long (((((k_sh 38 (I, J)).1 12 d) - ((k_sh 38 (I, J)).1 12 a)) : Int32).toInt64)), (0, .ref 49), (1, .int (nI a)), (2, .int (nI d)), (3, .int x)] [.int ((k_sh 38 (I, J)).1 13 a), .int ((k_sh 38 (I, J)).1 13 d)] (I, J) _
    refine c_run 6 (pc' := 52) (ls' := [(6, .long (((((k_sh 38 (I, J)).1 13 d) - ((k_sh 38 (I, J)).1 13 a)) : Int32).toInt64)), (4, .long (((((k_sh 38 (I, J)).1 12 d) - ((k_sh 38 (I, J)).1 12 a)) : Int32).toInt64)), (0, .ref 49), (1, .int (nI a)), (2, .int (nI d)), (3, .int x)]) (st' := [.int (nI a), .ref 51]) (μ' := (I, J)) (Nat.le_of_ble_eq_true rfl) rfl ?_
    refine c_ial a 8 (Nat.le_of_ble_eq_true rfl) rfl rfl rfl rfl rfl ha ?_
    show m_W 77 53 [(6, .long (((((k_sh 38 (I, J)).1 13 d) - ((k_sh 38 (I, J)).1 13 a)) : Int32).toInt64)), (4, .long (((((k_sh 38 (I, J)).1 12 d) - ((k_sh 38 (I, J)).1 12 a)) : Int32).toInt64)), (0, .ref 49), (1, .int (nI a)), (2, .int (nI d)), (3, .int x)] [.int ((k_sh 38 (I, J)).1 13 a)] (I, J) _
    refine c_run 6 (pc' := 62) (ls' := [(6, .long (((((k_sh 38 (I, J)).1 13 d) - ((k_sh 38 (I, J)).1 13 a)) : Int32).toInt64)), (4, .long (((((k_sh 38 (I, J)).1 12 d) - ((k_sh 38 (I, J)).1 12 a)) : Int32).toInt64)), (0, .ref 49), (1, .int (nI a)), (2, .int (nI d)), (3, .int x)]) (st' := [.int (nI a), .ref 50, .int x, .long (((((k_sh 38 (I, J)).1 13 d) - ((k_sh 38 (I, J)).1 13 a)) : Int32).toInt64), .long ((((k_sh 38 (I, J)).1 13 a) : Int32).toInt64)]) (μ' := (I, J)) (Nat.le_of_ble_eq_true rfl) rfl ?_
    refine c_ial a 8 (Nat.le_of_ble_eq_true rfl) rfl rfl rfl rfl rfl ha ?_
    show m_W 77 63 [(6, .long (((((k_sh 38 (I, J)).1 13 d) - ((k_sh 38 (I, J)).1 13 a)) : Int32).toInt64)), (4, .long (((((k_sh 38 (I, J)).1 12 d) - ((k_sh 38 (I, J)).1 12 a)) : Int32).toInt64)), (0, .ref 49), (1, .int (nI a)), (2, .int (nI d)), (3, .int x)] [.int ((k_sh 38 (I, J)).1 12 a), .int x, .long (((((k_sh 38 (I, J)).1 13 d) - ((k_sh 38 (I, J)).1 13 a)) : Int32).toInt64), .long ((((k_sh 38 (I, J)).1 13 a) : Int32).toInt64)] (I, J) _
    refine c_run 4 (pc' := 68) (ls' := [(6, .long (((((k_sh 38 (I, J)).1 13 d) - ((k_sh 38 (I, J)).1 13 a)) : Int32).toInt64)), (4, .long (((((k_sh 38 (I, J)).1 12 d) - ((k_sh 38 (I, J)).1 12 a)) : Int32).toInt64)), (0, .ref 49), (1, .int (nI a)), (2, .int (nI d)), (3, .int x)]) (st' := [.long (((((k_sh 38 (I, J)).1 12 d) - ((k_sh 38 (I, J)).1 12 a)) : Int32).toInt64), .long ((((((k_sh 38 (I, J)).1 13 d) - ((k_sh 38 (I, J)).1 13 a)) : Int32).toInt64) * (((x - ((k_sh 38 (I, J)).1 12 a)) : Int32).toInt64)), .long ((((k_sh 38 (I, J)).1 13 a) : Int32).toInt64)]) (μ' := (I, J)) (Nat.le_of_ble_eq_true rfl) rfl ?_
    refine c_cs 157 [.long ((((((k_sh 38 (I, J)).1 13 d) - ((k_sh 38 (I, J)).1 13 a)) : Int32).toInt64) * (((x - ((k_sh 38 (I, J)).1 12 a)) : Int32).toInt64)), .long (((((k_sh 38 (I, J)).1 12 d) - ((k_sh 38 (I, J)).1 12 a)) : Int32).toInt64)] (r := [.long ((((k_sh 38 (I, J)).1 13 a) : Int32).toInt64)]) (Nat.le_of_ble_eq_true rfl) rfl (Or.inl rfl) rfl rfl rfl (t_floorDiv I J ((((((k_sh 38 (I, J)).1 13 d) - ((k_sh 38 (I, J)).1 13 a)) : Int32).toInt64) * (((x - ((k_sh 38 (I, J)).1 12 a)) : Int32).toInt64)) (((((k_sh 38 (I, J)).1 12 d) - ((k_sh 38 (I, J)).1 12 a)) : Int32).toInt64) (show (0 : Int64).toInt < _ from Int64.lt_iff_toInt_lt.mp (by assumption))) ?_
    rintro _ _ ⟨rfl, rfl⟩
    show m_W 77 71 [(6, .long (((((k_sh 38 (I, J)).1 13 d) - ((k_sh 38 (I, J)).1 13 a)) : Int32).toInt64)), (4, .long (((((k_sh 38 (I, J)).1 12 d) - ((k_sh 38 (I, J)).1 12 a)) : Int32).toInt64)), (0, .ref 49), (1, .int (nI a)), (2, .int (nI d)), (3, .int x)] [.long (s_fl ((((((k_sh 38 (I, J)).1 13 d) - ((k_sh 38 (I, J)).1 13 a)) : Int32).toInt64) * (((x - ((k_sh 38 (I, J)).1 12 a)) : Int32).toInt64)) (((((k_sh 38 (I, J)).1 12 d) - ((k_sh 38 (I, J)).1 12 a)) : Int32).toInt64)), .long ((((k_sh 38 (I, J)).1 13 a) : Int32).toInt64)] (I, J) _
    refine c_run 1 (pc' := 72) (ls' := [(6, .long (((((k_sh 38 (I, J)).1 13 d) - ((k_sh 38 (I, J)).1 13 a)) : Int32).toInt64)), (4, .long (((((k_sh 38 (I, J)).1 12 d) - ((k_sh 38 (I, J)).1 12 a)) : Int32).toInt64)), (0, .ref 49), (1, .int (nI a)), (2, .int (nI d)), (3, .int x)]) (st' := [.long (((((k_sh 38 (I, J)).1 13 a) : Int32).toInt64) + (s_fl ((((((k_sh 38 (I, J)).1 13 d) - ((k_sh 38 (I, J)).1 13 a)) : Int32).toInt64) * (((x - ((k_sh 38 (I, J)).1 12 a)) : Int32).toInt64)) (((((k_sh 38 (I, J)).1 12 d) - ((k_sh 38 (I, J)).1 12 a)) : Int32).toInt64)))]) (μ' := (I, J)) (Nat.le_of_ble_eq_true rfl) rfl ?_
    refine c_lret (Nat.le_of_ble_eq_true rfl) rfl rfl ?_
    refine ⟨?_, rfl⟩
    first | rfl | (simp only [s_bt, if_pos h1]; done) | (simp only [s_bt, if_pos h1]; rfl)
  · replace h1 := mt lc_gt.mpr h1
    refine c_run 3 (pc' := 28) (ls' := [(4, .long (((((k_sh 38 (I, J)).1 12 d) - ((k_sh 38 (I, J)).1 12 a)) : Int32).toInt64)), (0, .ref 49), (1, .int (nI a)), (2, .int (nI d)), (3, .int x)]) (st' := [.int (nI a), .ref 51]) (μ' := (I, J)) (Nat.le_of_ble_eq_true rfl) rfl ?_
    refine c_ial a 8 (Nat.le_of_ble_eq_true rfl) rfl rfl rfl rfl rfl ha ?_
    show m_W 77 29 [(4, .long (((((k_sh 38 (I, J)).1 12 d) - ((k_sh 38 (I, J)).1 12 a)) : Int32).toInt64)), (0, .ref 49), (1, .int (nI a)), (2, .int (nI d)), (3, .int x)] [.int ((k_sh 38 (I, J)).1 13 a)] (I, J) _
    refine c_run 1 (pc' := 30) (ls' := [(4, .long (((((k_sh 38 (I, J)).1 12 d) - ((k_sh 38 (I, J)).1 12 a)) : Int32).toInt64)), (0, .ref 49), (1, .int (nI a)), (2, .int (nI d)), (3, .int x)]) (st' := [.long ((((k_sh 38 (I, J)).1 13 a) : Int32).toInt64)]) (μ' := (I, J)) (Nat.le_of_ble_eq_true rfl) rfl ?_
    refine c_lret (Nat.le_of_ble_eq_true rfl) rfl rfl ?_
    refine ⟨?_, rfl⟩
    first | rfl | (simp only [s_bt, if_neg h1]; done) | (simp only [s_bt, if_neg h1]; rfl)

set_option maxRecDepth 100000 in
theorem t38_vl0 (I : Nat → Nat → Int32) (J : Nat → Nat → Int64) (x : Int32) (p : Nat) (hp : (k_sh 38 (I, J)).1 11 0 = nI p) (hp8 : p ≤ 8) : ∀ (r i : Nat), i + r = p → 1 ≤ i → m_W 76 29 [(0, .ref 49), (1, .int x), (2, .int (nI i))] [] (I, J) (m_E (some (.long (s_vl ((k_sh 38 (I, J)).1 12) ((k_sh 38 (I, J)).1 13) p x i r))) (I, J)) := by
  intro r
  induction r with
  | zero =>
    intro i hir hi1
    refine c_run 3 (pc' := 34) (ls' := [(0, .ref 49), (1, .int x), (2, .int (nI i))]) (st' := [.int ((k_sh 38 (I, J)).1 11 0), .int (nI i)]) (μ' := (I, J)) (Nat.le_of_ble_eq_true rfl) rfl ?_
    refine c_icge 63 (Nat.le_of_ble_eq_true rfl) rfl rfl (fun h1 => ?_) (fun h1 => absurd (by rw [hp]; exact nI_le (by omega) (by omega)) h1)
    refine c_run 6 (pc' := 73) (ls' := [(0, .ref 49), (1, .int x), (2, .int (nI i))]) (st' := [.int (((k_sh 38 (I, J)).1 11 0) - (1 : Int32)), .ref 51]) (μ' := (I, J)) (Nat.le_of_ble_eq_true rfl) rfl ?_
    refine c_ial (p - 1) 8 (Nat.le_of_ble_eq_true rfl) rfl rfl rfl rfl (by rw [hp]; exact k_p1 (by omega)) (by omega) ?_
    show m_W 76 74 [(0, .ref 49), (1, .int x), (2, .int (nI i))] [.int ((k_sh 38 (I, J)).1 13 (p - 1))] (I, J) _
    refine c_run 1 (pc' := 75) (ls' := [(0, .ref 49), (1, .int x), (2, .int (nI i))]) (st' := [.long ((((k_sh 38 (I, J)).1 13 (p - 1)) : Int32).toInt64)]) (μ' := (I, J)) (Nat.le_of_ble_eq_true rfl) rfl ?_
    refine c_lret (Nat.le_of_ble_eq_true rfl) rfl rfl ?_
    exact ⟨rfl, rfl⟩
  | succ r ih =>
    intro i hir hi1
    refine c_run 3 (pc' := 34) (ls' := [(0, .ref 49), (1, .int x), (2, .int (nI i))]) (st' := [.int ((k_sh 38 (I, J)).1 11 0), .int (nI i)]) (μ' := (I, J)) (Nat.le_of_ble_eq_true rfl) rfl ?_
    refine c_icge 63 (Nat.le_of_ble_eq_true rfl) rfl rfl (fun h1 => absurd h1 (by rw [hp]; exact nI_ge (by omega) (by omega))) (fun h1 => ?_)
    refine c_run 4 (pc' := 43) (ls' := [(0, .ref 49), (1, .int x), (2, .int (nI i))]) (st' := [.int (nI i), .ref 50, .int x]) (μ' := (I, J)) (Nat.le_of_ble_eq_true rfl) rfl ?_
    refine c_ial i 8 (Nat.le_of_ble_eq_true rfl) rfl rfl rfl rfl rfl (by omega) ?_
    show m_W 76 44 [(0, .ref 49), (1, .int x), (2, .int (nI i))] [.int ((k_sh 38 (I, J)).1 12 i), .int x] (I, J) _
    refine c_icgt 57 (Nat.le_of_ble_eq_true rfl) rfl rfl (fun h2 => ?_) (fun h2 => ?_)
    · skip
      refine c_run 2 (pc' := 29) (ls' := [(2, .int ((nI i) + (1 : Int32))), (0, .ref 49), (1, .int x)]) (st' := []) (μ' := (I, J)) (Nat.le_of_ble_eq_true rfl) rfl ?_
      refine c_w [1, 2, 0] (ls' := [(0, .ref 49), (1, .int x), (2, .int ((nI i) + (1 : Int32)))]) rfl ?_
      rw [nI_1 i, s_vl, if_pos (by assumption)]
      exact ih (i + 1) (by omega) (by omega)
    · skip
      refine c_run 6 (pc' := 53) (ls' := [(0, .ref 49), (1, .int x), (2, .int (nI i))]) (st' := [.int x, .int (nI i), .int ((nI i) - (1 : Int32)), .ref 49]) (μ' := (I, J)) (Nat.le_of_ble_eq_true rfl) rfl ?_
      rw [show (nI i) - (1 : Int32) = nI (i - 1) from k_p1 hi1]
      refine c_cv 77 [.int (nI (i - 1)), .int (nI i), .int x] (b := 49) (r := []) (Nat.le_of_ble_eq_true rfl) rfl rfl rfl rfl rfl rfl (t38_bt0 I J (i - 1) i (by omega) (by omega) x) ?_
      rintro _ _ ⟨rfl, rfl⟩
      show m_W 76 56 [(0, .ref 49), (1, .int x), (2, .int (nI i))] [.long (s_bt ((k_sh 38 (I, J)).1 12) ((k_sh 38 (I, J)).1 13) (i - 1) i x)] (I, J) _
      refine c_lret (Nat.le_of_ble_eq_true rfl) rfl rfl ?_
      refine ⟨?_, rfl⟩
      rw [s_vl, if_neg (by assumption)]

set_option maxRecDepth 100000 in
theorem t38_vol0 (I : Nat → Nat → Int32) (J : Nat → Nat → Int64) (x : Int32) (p : Nat) (hp : (k_sh 38 (I, J)).1 11 0 = nI p) (hp8 : p ≤ 8) : m_W 76 0 (lv_args 0 [.ref 49, .int x]) [] (I, J) (m_E (some (.long (k_vol (k_sh 38 (I, J)) 0 p x))) (I, J)) := by
  show m_W 76 0 [(0, .ref 49), (1, .int x)] [] (I, J) _
  refine c_run 2 (pc' := 4) (ls' := [(0, .ref 49), (1, .int x)]) (st' := [.int ((k_sh 38 (I, J)).1 11 0)]) (μ' := (I, J)) (Nat.le_of_ble_eq_true rfl) rfl ?_
  refine c_ifne 9 (Nat.le_of_ble_eq_true rfl) rfl rfl (fun h1 => ?_) (fun h1 => ?_)
  · skip
    refine c_run 4 (pc' := 15) (ls' := [(0, .ref 49), (1, .int x)]) (st' := [.int 0, .ref 50, .int x]) (μ' := (I, J)) (Nat.le_of_ble_eq_true rfl) rfl ?_
    refine c_ial 0 8 (Nat.le_of_ble_eq_true rfl) rfl rfl rfl rfl rfl (by decide) ?_
    show m_W 76 16 [(0, .ref 49), (1, .int x)] [.int ((k_sh 38 (I, J)).1 12 0), .int x] (I, J) _
    refine c_icgt 27 (Nat.le_of_ble_eq_true rfl) rfl rfl (fun h2 => ?_) (fun h2 => ?_)
    · skip
      refine c_run 2 (pc' := 29) (ls' := [(2, .int 1), (0, .ref 49), (1, .int x)]) (st' := []) (μ' := (I, J)) (Nat.le_of_ble_eq_true rfl) rfl ?_
      refine c_w [1, 2, 0] (ls' := [(0, .ref 49), (1, .int x), (2, .int 1)]) rfl ?_
      have hz : ¬ p = 0 := fun q => absurd (show (k_sh 38 (I, J)).1 11 0 = 0 by rw [hp, q]; rfl) (by assumption)
      rw [k_vol, s_vol, if_neg hz, if_pos (by assumption)]
      exact t38_vl0 I J x p hp hp8 (p - 1) 1 (by omega) (by omega)
    · skip
      refine c_run 3 (pc' := 24) (ls' := [(0, .ref 49), (1, .int x)]) (st' := [.int 0, .ref 51]) (μ' := (I, J)) (Nat.le_of_ble_eq_true rfl) rfl ?_
      refine c_ial 0 8 (Nat.le_of_ble_eq_true rfl) rfl rfl rfl rfl rfl (by decide) ?_
      show m_W 76 25 [(0, .ref 49), (1, .int x)] [.int ((k_sh 38 (I, J)).1 13 0)] (I, J) _
      refine c_run 1 (pc' := 26) (ls' := [(0, .ref 49), (1, .int x)]) (st' := [.long ((((k_sh 38 (I, J)).1 13 0) : Int32).toInt64)]) (μ' := (I, J)) (Nat.le_of_ble_eq_true rfl) rfl ?_
      refine c_lret (Nat.le_of_ble_eq_true rfl) rfl rfl ?_
      refine ⟨?_, rfl⟩
      first
        | (have hz : p = 0 := (nI_eq (by omega) (by omega)).mp (show nI p = nI 0 by rw [← hp]; assumption)
           rw [k_vol, s_vol, if_pos hz])
        | (have hz : ¬ p = 0 := fun q => absurd (show (k_sh 38 (I, J)).1 11 0 = 0 by rw [hp, q]; rfl) (by assumption)
           rw [k_vol, s_vol, if_neg hz, if_neg (by assumption)])
  · skip
    refine c_run 1 (pc' := 8) (ls' := [(0, .ref 49), (1, .int x)]) (st' := [.long 0]) (μ' := (I, J)) (Nat.le_of_ble_eq_true rfl) rfl ?_
    refine c_lret (Nat.le_of_ble_eq_true rfl) rfl rfl ?_
    refine ⟨?_, rfl⟩
    first
      | (have hz : p = 0 := (nI_eq (by omega) (by omega)).mp (show nI p = nI 0 by rw [← hp]; assumption)
         rw [k_vol, s_vol, if_pos hz])
      | (have hz : ¬ p = 0 := fun q => absurd (show (k_sh 38 (I, J)).1 11 0 = 0 by rw [hp, q]; rfl) (by assumption)
         rw [k_vol, s_vol, if_neg hz, if_neg (by assumption)])

set_option maxRecDepth 100000 in
theorem t38_gm0 (I : Nat → Nat → Int32) (J : Nat → Nat → Int64) (x : Int32) (p : Nat) (hp : (k_sh 38 (I, J)).1 11 0 = nI p) (hp8 : p ≤ 8) : m_W 86 0 (lv_args 0 [.ref 39, .int 0, .int x]) [] (I, J) (m_E (some (.long (k_gm (k_sh 38 (I, J)) 0 p x))) (I, J)) := by
  show m_W 86 0 [(0, .ref 39), (1, .int 0), (2, .int x)] [] (I, J) _
  refine c_run 3 (pc' := 5) (ls' := [(0, .ref 39), (1, .int 0), (2, .int x)]) (st' := [.int 0, .ref 48]) (μ' := (I, J)) (Nat.le_of_ble_eq_true rfl) rfl ?_
  refine c_aal 0 4 (Nat.le_of_ble_eq_true rfl) rfl rfl rfl rfl rfl (by decide) ?_
  show m_W 86 6 [(0, .ref 39), (1, .int 0), (2, .int x)] [.ref 49] (I, J) _
  refine c_run 1 (pc' := 7) (ls' := [(0, .ref 39), (1, .int 0), (2, .int x)]) (st' := [.int x, .ref 49]) (μ' := (I, J)) (Nat.le_of_ble_eq_true rfl) rfl ?_
  refine c_cv 76 [.int x] (b := 49) (r := []) (Nat.le_of_ble_eq_true rfl) rfl rfl rfl rfl rfl rfl (t38_vol0 I J x p hp hp8) ?_
  rintro _ _ ⟨rfl, rfl⟩
  show m_W 86 10 [(0, .ref 39), (1, .int 0), (2, .int x)] [.long (k_vol (k_sh 38 (I, J)) 0 p x)] (I, J) _
  refine c_run 3 (pc' := 15) (ls' := [(0, .ref 39), (1, .int 0), (2, .int x)]) (st' := [.int 0, .ref 40, .long (k_vol (k_sh 38 (I, J)) 0 p x)]) (μ' := (I, J)) (Nat.le_of_ble_eq_true rfl) rfl ?_
  refine c_ial 0 4 (Nat.le_of_ble_eq_true rfl) rfl rfl rfl rfl rfl (by decide) ?_
  show m_W 86 16 [(0, .ref 39), (1, .int 0), (2, .int x)] [.int ((k_sh 38 (I, J)).1 2 0), .long (k_vol (k_sh 38 (I, J)) 0 p x)] (I, J) _
  refine c_run 3 (pc' := 21) (ls' := [(0, .ref 39), (1, .int 0), (2, .int x)]) (st' := [.long 1000, .long ((k_vol (k_sh 38 (I, J)) 0 p x) * ((((k_sh 38 (I, J)).1 2 0) : Int32).toInt64))]) (μ' := (I, J)) (Nat.le_of_ble_eq_true rfl) rfl ?_
  refine c_ldiv (Nat.le_of_ble_eq_true rfl) rfl (by decide) ?_
  refine c_lret (Nat.le_of_ble_eq_true rfl) rfl rfl ?_
  exact ⟨rfl, rfl⟩

set_option maxRecDepth 100000 in
theorem t38_bt1 (I : Nat → Nat → Int32) (J : Nat → Nat → Int64) (a d : Nat) (ha : a < 8) (hd : d < 8) (x : Int32) : m_W 77 0 (lv_args 0 [.ref 52, .int (nI a), .int (nI d), .int x]) [] (I, J) (m_E (some (.long (s_bt ((k_sh 38 (I, J)).1 15) ((k_sh 38 (I, J)).1 16) a d x))) (I, J)) := by
  show m_W 77 0 [(0, .ref 52), (1, .int (nI a)), (2, .int (nI d)), (3, .int x)] [] (I, J) _
  refine c_run 3 (pc' := 5) (ls' := [(0, .ref 52), (1, .int (nI a)), (2, .int (nI d)), (3, .int x)]) (st' := [.int (nI d), .ref 53]) (μ' := (I, J)) (Nat.le_of_ble_eq_true rfl) rfl ?_
  refine c_ial d 8 (Nat.le_of_ble_eq_true rfl) rfl rfl rfl rfl rfl hd ?_
  show m_W 77 6 [(0, .ref 52), (1, .int (nI a)), (2, .int (nI d)), (3, .int x)] [.int ((k_sh 38 (I, J)).1 15 d)] (I, J) _
  refine c_run 3 (pc' := 11) (ls' := [(0, .ref 52), (1, .int (nI a)), (2, .int (nI d)), (3, .int x)]) (st' := [.int (nI a), .ref 53, .int ((k_sh 38 (I, J)).1 15 d)]) (μ' := (I, J)) (Nat.le_of_ble_eq_true rfl) rfl ?_
  refine c_ial a 8 (Nat.le_of_ble_eq_true rfl) rfl rfl rfl rfl rfl ha ?_
  show m_W 77 12 [(0, .ref 52), (1, .int (nI a)), (2, .int (nI d)), (3, .int x)] [.int ((k_sh 38 (I, J)).1 15 a), .int ((k_sh 38 (I, J)).1 15 d)] (I, J) _
  refine c_run 6 (pc' := 20) (ls' := [(4, .long (((((k_sh 38 (I, J)).1 15 d) - ((k_sh 38 (I, J)).1 15 a)) : Int32).toInt64)), (0, .ref 52), (1, .int (nI a)), (2, .int (nI d)), (3, .int x)]) (st' := [.int (lg_cmp (((((k_sh 38 (I, J)).1 15 d) - ((k_sh 38 (I, J)).1 15 a)) : Int32).toInt64) 0)]) (μ' := (I, J)) (Nat.le_of_ble_eq_true rfl) rfl ?_
  refine c_ifgt 31 (Nat.le_of_ble_eq_true rfl) rfl rfl (fun h1 => ?_) (fun h1 => ?_)
  · replace h1 := lc_gt.mp h1
    refine c_run 3 (pc' := 36) (ls' := [(4, .long (((((k_sh 38 (I, J)).1 15 d) - ((k_sh 38 (I, J)).1 15 a)) : Int32).toInt64)), (0, .ref 52), (1, .int (nI a)), (2, .int (nI d)), (3, .int x)]) (st' := [.int (nI d), .ref 54]) (μ' := (I, J)) (Nat.le_of_ble_eq_true rfl) rfl ?_
    refine c_ial d 8 (Nat.le_of_ble_eq_true rfl) rfl rfl rfl rfl rfl hd ?_
    show m_W 77 37 [(4, .long (((((k_sh 38 (I, J)).1 15 d) - ((k_sh 38 (I, J)).1 15 a)) : Int32).toInt64)), (0, .ref 52), (1, .int (nI a)), (2, .int (nI d)), (3, .int x)] [.int ((k_sh 38 (I, J)).1 16 d)] (I, J) _
    refine c_run 3 (pc' := 42) (ls' := [(4, .long (((((k_sh 38 (I, J)).1 15 d) - ((k_sh 38 (I, J)).1 15 a)) : Int32).toInt64)), (0, .ref 52), (1, .int (nI a)), (2, .int (nI d)), (3, .int x)]) (st' := [.int (nI a), .ref 54, .int ((k_sh 38 (I, J)).1 16 d)]) (μ' := (I, J)) (Nat.le_of_ble_eq_true rfl) rfl ?_
    refine c_ial a 8 (Nat.le_of_ble_eq_true rfl) rfl rfl rfl rfl rfl ha ?_
    show m_W 77 43 [(4, .long (((((k_sh 38 (I, J)).1 15 d) - ((k_sh 38 (I, J)).1 15 a)) : Int32).toInt64)), (0, .ref 52), (1, .int (nI a)), (2, .int (nI d)), (3, .int x)] [.int ((k_sh 38 (I, J)).1 16 a), .int ((k_sh 38 (I, J)).1 16 d)] (I, J) _
    refine c_run 6 (pc' := 52) (ls' := [(6, .long (((((k_sh 38 (I, J)).1 16 d) - ((k_sh 38 (I, J)).1 16 a)) : Int32).toInt64)), (4, .long (((((k_sh 38 (I, J)).1 15 d) - ((k_sh 38 (I, J)).1 15 a)) : Int32).toInt64)), (0, .ref 52), (1, .int (nI a)), (2, .int (nI d)), (3, .int x)]) (st' := [.int (nI a), .ref 54]) (μ' := (I, J)) (Nat.le_of_ble_eq_true rfl) rfl ?_
    refine c_ial a 8 (Nat.le_of_ble_eq_true rfl) rfl rfl rfl rfl rfl ha ?_
    show m_W 77 53 [(6, .long (((((k_sh 38 (I, J)).1 16 d) - ((k_sh 38 (I, J)).1 16 a)) : Int32).toInt64)), (4, .long (((((k_sh 38 (I, J)).1 15 d) - ((k_sh 38 (I, J)).1 15 a)) : Int32).toInt64)), (0, .ref 52), (1, .int (nI a)), (2, .int (nI d)), (3, .int x)] [.int ((k_sh 38 (I, J)).1 16 a)] (I, J) _
    refine c_run 6 (pc' := 62) (ls' := [(6, .long (((((k_sh 38 (I, J)).1 16 d) - ((k_sh 38 (I, J)).1 16 a)) : Int32).toInt64)), (4, .long (((((k_sh 38 (I, J)).1 15 d) - ((k_sh 38 (I, J)).1 15 a)) : Int32).toInt64)), (0, .ref 52), (1, .int (nI a)), (2, .int (nI d)), (3, .int x)]) (st' := [.int (nI a), .ref 53, .int x, .long (((((k_sh 38 (I, J)).1 16 d) - ((k_sh 38 (I, J)).1 16 a)) : Int32).toInt64), .long ((((k_sh 38 (I, J)).1 16 a) : Int32).toInt64)]) (μ' := (I, J)) (Nat.le_of_ble_eq_true rfl) rfl ?_
    refine c_ial a 8 (Nat.le_of_ble_eq_true rfl) rfl rfl rfl rfl rfl ha ?_
    show m_W 77 63 [(6, .long (((((k_sh 38 (I, J)).1 16 d) - ((k_sh 38 (I, J)).1 16 a)) : Int32).toInt64)), (4, .long (((((k_sh 38 (I, J)).1 15 d) - ((k_sh 38 (I, J)).1 15 a)) : Int32).toInt64)), (0, .ref 52), (1, .int (nI a)), (2, .int (nI d)), (3, .int x)] [.int ((k_sh 38 (I, J)).1 15 a), .int x, .long (((((k_sh 38 (I, J)).1 16 d) - ((k_sh 38 (I, J)).1 16 a)) : Int32).toInt64), .long ((((k_sh 38 (I, J)).1 16 a) : Int32).toInt64)] (I, J) _
    refine c_run 4 (pc' := 68) (ls' := [(6, .long (((((k_sh 38 (I, J)).1 16 d) - ((k_sh 38 (I, J)).1 16 a)) : Int32).toInt64)), (4, .long (((((k_sh 38 (I, J)).1 15 d) - ((k_sh 38 (I, J)).1 15 a)) : Int32).toInt64)), (0, .ref 52), (1, .int (nI a)), (2, .int (nI d)), (3, .int x)]) (st' := [.long (((((k_sh 38 (I, J)).1 15 d) - ((k_sh 38 (I, J)).1 15 a)) : Int32).toInt64), .long ((((((k_sh 38 (I, J)).1 16 d) - ((k_sh 38 (I, J)).1 16 a)) : Int32).toInt64) * (((x - ((k_sh 38 (I, J)).1 15 a)) : Int32).toInt64)), .long ((((k_sh 38 (I, J)).1 16 a) : Int32).toInt64)]) (μ' := (I, J)) (Nat.le_of_ble_eq_true rfl) rfl ?_
    refine c_cs 157 [.long ((((((k_sh 38 (I, J)).1 16 d) - ((k_sh 38 (I, J)).1 16 a)) : Int32).toInt64) * (((x - ((k_sh 38 (I, J)).1 15 a)) : Int32).toInt64)), .long (((((k_sh 38 (I, J)).1 15 d) - ((k_sh 38 (I, J)).1 15 a)) : Int32).toInt64)] (r := [.long ((((k_sh 38 (I, J)).1 16 a) : Int32).toInt64)]) (Nat.le_of_ble_eq_true rfl) rfl (Or.inl rfl) rfl rfl rfl (t_floorDiv I J ((((((k_sh 38 (I, J)).1 16 d) - ((k_sh 38 (I, J)).1 16 a)) : Int32).toInt64) * (((x - ((k_sh 38 (I, J)).1 15 a)) : Int32).toInt64)) (((((k_sh 38 (I, J)).1 15 d) - ((k_sh 38 (I, J)).1 15 a)) : Int32).toInt64) (show (0 : Int64).toInt < _ from Int64.lt_iff_toInt_lt.mp (by assumption))) ?_
    rintro _ _ ⟨rfl, rfl⟩
    show m_W 77 71 [(6, .long (((((k_sh 38 (I, J)).1 16 d) - ((k_sh 38 (I, J)).1 16 a)) : Int32).toInt64)), (4, .long (((((k_sh 38 (I, J)).1 15 d) - ((k_sh 38 (I, J)).1 15 a)) : Int32).toInt64)), (0, .ref 52), (1, .int (nI a)), (2, .int (nI d)), (3, .int x)] [.long (s_fl ((((((k_sh 38 (I, J)).1 16 d) - ((k_sh 38 (I, J)).1 16 a)) : Int32).toInt64) * (((x - ((k_sh 38 (I, J)).1 15 a)) : Int32).toInt64)) (((((k_sh 38 (I, J)).1 15 d) - ((k_sh 38 (I, J)).1 15 a)) : Int32).toInt64)), .long ((((k_sh 38 (I, J)).1 16 a) : Int32).toInt64)] (I, J) _
    refine c_run 1 (pc' := 72) (ls' := [(6, .long (((((k_sh 38 (I, J)).1 16 d) - ((k_sh 38 (I, J)).1 16 a)) : Int32).toInt64)), (4, .long (((((k_sh 38 (I, J)).1 15 d) - ((k_sh 38 (I, J)).1 15 a)) : Int32).toInt64)), (0, .ref 52), (1, .int (nI a)), (2, .int (nI d)), (3, .int x)]) (st' := [.long (((((k_sh 38 (I, J)).1 16 a) : Int32).toInt64) + (s_fl ((((((k_sh 38 (I, J)).1 16 d) - ((k_sh 38 (I, J)).1 16 a)) : Int32).toInt64) * (((x - ((k_sh 38 (I, J)).1 15 a)) : Int32).toInt64)) (((((k_sh 38 (I, J)).1 15 d) - ((k_sh 38 (I, J)).1 15 a)) : Int32).toInt64)))]) (μ' := (I, J)) (Nat.le_of_ble_eq_true rfl) rfl ?_
    refine c_lret (Nat.le_of_ble_eq_true rfl) rfl rfl ?_
    refine ⟨?_, rfl⟩
    first | rfl | (simp only [s_bt, if_pos h1]; done) | (simp only [s_bt, if_pos h1]; rfl)
  · replace h1 := mt lc_gt.mpr h1
    refine c_run 3 (pc' := 28) (ls' := [(4, .long (((((k_sh 38 (I, J)).1 15 d) - ((k_sh 38 (I, J)).1 15 a)) : Int32).toInt64)), (0, .ref 52), (1, .int (nI a)), (2, .int (nI d)), (3, .int x)]) (st' := [.int (nI a), .ref 54]) (μ' := (I, J)) (Nat.le_of_ble_eq_true rfl) rfl ?_
    refine c_ial a 8 (Nat.le_of_ble_eq_true rfl) rfl rfl rfl rfl rfl ha ?_
    show m_W 77 29 [(4, .long (((((k_sh 38 (I, J)).1 15 d) - ((k_sh 38 (I, J)).1 15 a)) : Int32).toInt64)), (0, .ref 52), (1, .int (nI a)), (2, .int (nI d)), (3, .int x)] [.int ((k_sh 38 (I, J)).1 16 a)] (I, J) _
    refine c_run 1 (pc' := 30) (ls' := [(4, .long (((((k_sh 38 (I, J)).1 15 d) - ((k_sh 38 (I, J)).1 15 a)) : Int32).toInt64)), (0, .ref 52), (1, .int (nI a)), (2, .int (nI d)), (3, .int x)]) (st' := [.long ((((k_sh 38 (I, J)).1 16 a) : Int32).toInt64)]) (μ' := (I, J)) (Nat.le_of_ble_eq_true rfl) rfl ?_
    refine c_lret (Nat.le_of_ble_eq_true rfl) rfl rfl ?_
    refine ⟨?_, rfl⟩
    first | rfl | (simp only [s_bt, if_neg h1]; done) | (simp only [s_bt, if_neg h1]; rfl)

set_option maxRecDepth 100000 in
theorem t38_vl1 (I : Nat → Nat → Int32) (J : Nat → Nat → Int64) (x : Int32) (p : Nat) (hp : (k_sh 38 (I, J)).1 14 0 = nI p) (hp8 : p ≤ 8) : ∀ (r i : Nat), i + r = p → 1 ≤ i → m_W 76 29 [(0, .ref 52), (1, .int x), (2, .int (nI i))] [] (I, J) (m_E (some (.long (s_vl ((k_sh 38 (I, J)).1 15) ((k_sh 38 (I, J)).1 16) p x i r))) (I, J)) := by
  intro r
  induction r with
  | zero =>
    intro i hir hi1
    refine c_run 3 (pc' := 34) (ls' := [(0, .ref 52), (1, .int x), (2, .int (nI i))]) (st' := [.int ((k_sh 38 (I, J)).1 14 0), .int (nI i)]) (μ' := (I, J)) (Nat.le_of_ble_eq_true rfl) rfl ?_
    refine c_icge 63 (Nat.le_of_ble_eq_true rfl) rfl rfl (fun h1 => ?_) (fun h1 => absurd (by rw [hp]; exact nI_le (by omega) (by omega)) h1)
    refine c_run 6 (pc' := 73) (ls' := [(0, .ref 52), (1, .int x), (2, .int (nI i))]) (st' := [.int (((k_sh 38 (I, J)).1 14 0) - (1 : Int32)), .ref 54]) (μ' := (I, J)) (Nat.le_of_ble_eq_true rfl) rfl ?_
    refine c_ial (p - 1) 8 (Nat.le_of_ble_eq_true rfl) rfl rfl rfl rfl (by rw [hp]; exact k_p1 (by omega)) (by omega) ?_
    show m_W 76 74 [(0, .ref 52), (1, .int x), (2, .int (nI i))] [.int ((k_sh 38 (I, J)).1 16 (p - 1))] (I, J) _
    refine c_run 1 (pc' := 75) (ls' := [(0, .ref 52), (1, .int x), (2, .int (nI i))]) (st' := [.long ((((k_sh 38 (I, J)).1 16 (p - 1)) : Int32).toInt64)]) (μ' := (I, J)) (Nat.le_of_ble_eq_true rfl) rfl ?_
    refine c_lret (Nat.le_of_ble_eq_true rfl) rfl rfl ?_
    exact ⟨rfl, rfl⟩
  | succ r ih =>
    intro i hir hi1
    refine c_run 3 (pc' := 34) (ls' := [(0, .ref 52), (1, .int x), (2, .int (nI i))]) (st' := [.int ((k_sh 38 (I, J)).1 14 0), .int (nI i)]) (μ' := (I, J)) (Nat.le_of_ble_eq_true rfl) rfl ?_
    refine c_icge 63 (Nat.le_of_ble_eq_true rfl) rfl rfl (fun h1 => absurd h1 (by rw [hp]; exact nI_ge (by omega) (by omega))) (fun h1 => ?_)
    refine c_run 4 (pc' := 43) (ls' := [(0, .ref 52), (1, .int x), (2, .int (nI i))]) (st' := [.int (nI i), .ref 53, .int x]) (μ' := (I, J)) (Nat.le_of_ble_eq_true rfl) rfl ?_
    refine c_ial i 8 (Nat.le_of_ble_eq_true rfl) rfl rfl rfl rfl rfl (by omega) ?_
    show m_W 76 44 [(0, .ref 52), (1, .int x), (2, .int (nI i))] [.int ((k_sh 38 (I, J)).1 15 i), .int x] (I, J) _
    refine c_icgt 57 (Nat.le_of_ble_eq_true rfl) rfl rfl (fun h2 => ?_) (fun h2 => ?_)
    · skip
      refine c_run 2 (pc' := 29) (ls' := [(2, .int ((nI i) + (1 : Int32))), (0, .ref 52), (1, .int x)]) (st' := []) (μ' := (I, J)) (Nat.le_of_ble_eq_true rfl) rfl ?_
      refine c_w [1, 2, 0] (ls' := [(0, .ref 52), (1, .int x), (2, .int ((nI i) + (1 : Int32)))]) rfl ?_
      rw [nI_1 i, s_vl, if_pos (by assumption)]
      exact ih (i + 1) (by omega) (by omega)
    · skip
      refine c_run 6 (pc' := 53) (ls' := [(0, .ref 52), (1, .int x), (2, .int (nI i))]) (st' := [.int x, .int (nI i), .int ((nI i) - (1 : Int32)), .ref 52]) (μ' := (I, J)) (Nat.le_of_ble_eq_true rfl) rfl ?_
      rw [show (nI i) - (1 : Int32) = nI (i - 1) from k_p1 hi1]
      refine c_cv 77 [.int (nI (i - 1)), .int (nI i), .int x] (b := 52) (r := []) (Nat.le_of_ble_eq_true rfl) rfl rfl rfl rfl rfl rfl (t38_bt1 I J (i - 1) i (by omega) (by omega) x) ?_
      rintro _ _ ⟨rfl, rfl⟩
      show m_W 76 56 [(0, .ref 52), (1, .int x), (2, .int (nI i))] [.long (s_bt ((k_sh 38 (I, J)).1 15) ((k_sh 38 (I, J)).1 16) (i - 1) i x)] (I, J) _
      refine c_lret (Nat.le_of_ble_eq_true rfl) rfl rfl ?_
      refine ⟨?_, rfl⟩
      rw [s_vl, if_neg (by assumption)]

set_option maxRecDepth 100000 in
theorem t38_vol1 (I : Nat → Nat → Int32) (J : Nat → Nat → Int64) (x : Int32) (p : Nat) (hp : (k_sh 38 (I, J)).1 14 0 = nI p) (hp8 : p ≤ 8) : m_W 76 0 (lv_args 0 [.ref 52, .int x]) [] (I, J) (m_E (some (.long (k_vol (k_sh 38 (I, J)) 1 p x))) (I, J)) := by
  show m_W 76 0 [(0, .ref 52), (1, .int x)] [] (I, J) _
  refine c_run 2 (pc' := 4) (ls' := [(0, .ref 52), (1, .int x)]) (st' := [.int ((k_sh 38 (I, J)).1 14 0)]) (μ' := (I, J)) (Nat.le_of_ble_eq_true rfl) rfl ?_
  refine c_ifne 9 (Nat.le_of_ble_eq_true rfl) rfl rfl (fun h1 => ?_) (fun h1 => ?_)
  · skip
    refine c_run 4 (pc' := 15) (ls' := [(0, .ref 52), (1, .int x)]) (st' := [.int 0, .ref 53, .int x]) (μ' := (I, J)) (Nat.le_of_ble_eq_true rfl) rfl ?_
    refine c_ial 0 8 (Nat.le_of_ble_eq_true rfl) rfl rfl rfl rfl rfl (by decide) ?_
    show m_W 76 16 [(0, .ref 52), (1, .int x)] [.int ((k_sh 38 (I, J)).1 15 0), .int x] (I, J) _
    refine c_icgt 27 (Nat.le_of_ble_eq_true rfl) rfl rfl (fun h2 => ?_) (fun h2 => ?_)
    · skip
      refine c_run 2 (pc' := 29) (ls' := [(2, .int 1), (0, .ref 52), (1, .int x)]) (st' := []) (μ' := (I, J)) (Nat.le_of_ble_eq_true rfl) rfl ?_
      refine c_w [1, 2, 0] (ls' := [(0, .ref 52), (1, .int x), (2, .int 1)]) rfl ?_
      have hz : ¬ p = 0 := fun q => absurd (show (k_sh 38 (I, J)).1 14 0 = 0 by rw [hp, q]; rfl) (by assumption)
      rw [k_vol, s_vol, if_neg hz, if_pos (by assumption)]
      exact t38_vl1 I J x p hp hp8 (p - 1) 1 (by omega) (by omega)
    · skip
      refine c_run 3 (pc' := 24) (ls' := [(0, .ref 52), (1, .int x)]) (st' := [.int 0, .ref 54]) (μ' := (I, J)) (Nat.le_of_ble_eq_true rfl) rfl ?_
      refine c_ial 0 8 (Nat.le_of_ble_eq_true rfl) rfl rfl rfl rfl rfl (by decide) ?_
      show m_W 76 25 [(0, .ref 52), (1, .int x)] [.int ((k_sh 38 (I, J)).1 16 0)] (I, J) _
      refine c_run 1 (pc' := 26) (ls' := [(0, .ref 52), (1, .int x)]) (st' := [.long ((((k_sh 38 (I, J)).1 16 0) : Int32).toInt64)]) (μ' := (I, J)) (Nat.le_of_ble_eq_true rfl) rfl ?_
      refine c_lret (Nat.le_of_ble_eq_true rfl) rfl rfl ?_
      refine ⟨?_, rfl⟩
      first
        | (have hz : p = 0 := (nI_eq (by omega) (by omega)).mp (show nI p = nI 0 by rw [← hp]; assumption)
           rw [k_vol, s_vol, if_pos hz])
        | (have hz : ¬ p = 0 := fun q => absurd (show (k_sh 38 (I, J)).1 14 0 = 0 by rw [hp, q]; rfl) (by assumption)
           rw [k_vol, s_vol, if_neg hz, if_neg (by assumption)])
  · skip
    refine c_run 1 (pc' := 8) (ls' := [(0, .ref 52), (1, .int x)]) (st' := [.long 0]) (μ' := (I, J)) (Nat.le_of_ble_eq_true rfl) rfl ?_
    refine c_lret (Nat.le_of_ble_eq_true rfl) rfl rfl ?_
    refine ⟨?_, rfl⟩
    first
      | (have hz : p = 0 := (nI_eq (by omega) (by omega)).mp (show nI p = nI 0 by rw [← hp]; assumption)
         rw [k_vol, s_vol, if_pos hz])
      | (have hz : ¬ p = 0 := fun q => absurd (show (k_sh 38 (I, J)).1 14 0 = 0 by rw [hp, q]; rfl) (by assumption)
         rw [k_vol, s_vol, if_neg hz, if_neg (by assumption)])

set_option maxRecDepth 100000 in
theorem t38_gm1 (I : Nat → Nat → Int32) (J : Nat → Nat → Int64) (x : Int32) (p : Nat) (hp : (k_sh 38 (I, J)).1 14 0 = nI p) (hp8 : p ≤ 8) : m_W 86 0 (lv_args 0 [.ref 39, .int 1, .int x]) [] (I, J) (m_E (some (.long (k_gm (k_sh 38 (I, J)) 1 p x))) (I, J)) := by
  show m_W 86 0 [(0, .ref 39), (1, .int 1), (2, .int x)] [] (I, J) _
  refine c_run 3 (pc' := 5) (ls' := [(0, .ref 39), (1, .int 1), (2, .int x)]) (st' := [.int 1, .ref 48]) (μ' := (I, J)) (Nat.le_of_ble_eq_true rfl) rfl ?_
  refine c_aal 1 4 (Nat.le_of_ble_eq_true rfl) rfl rfl rfl rfl rfl (by decide) ?_
  show m_W 86 6 [(0, .ref 39), (1, .int 1), (2, .int x)] [.ref 52] (I, J) _
  refine c_run 1 (pc' := 7) (ls' := [(0, .ref 39), (1, .int 1), (2, .int x)]) (st' := [.int x, .ref 52]) (μ' := (I, J)) (Nat.le_of_ble_eq_true rfl) rfl ?_
  refine c_cv 76 [.int x] (b := 52) (r := []) (Nat.le_of_ble_eq_true rfl) rfl rfl rfl rfl rfl rfl (t38_vol1 I J x p hp hp8) ?_
  rintro _ _ ⟨rfl, rfl⟩
  show m_W 86 10 [(0, .ref 39), (1, .int 1), (2, .int x)] [.long (k_vol (k_sh 38 (I, J)) 1 p x)] (I, J) _
  refine c_run 3 (pc' := 15) (ls' := [(0, .ref 39), (1, .int 1), (2, .int x)]) (st' := [.int 1, .ref 40, .long (k_vol (k_sh 38 (I, J)) 1 p x)]) (μ' := (I, J)) (Nat.le_of_ble_eq_true rfl) rfl ?_
  refine c_ial 1 4 (Nat.le_of_ble_eq_true rfl) rfl rfl rfl rfl rfl (by decide) ?_
  show m_W 86 16 [(0, .ref 39), (1, .int 1), (2, .int x)] [.int ((k_sh 38 (I, J)).1 2 1), .long (k_vol (k_sh 38 (I, J)) 1 p x)] (I, J) _
  refine c_run 3 (pc' := 21) (ls' := [(0, .ref 39), (1, .int 1), (2, .int x)]) (st' := [.long 1000, .long ((k_vol (k_sh 38 (I, J)) 1 p x) * ((((k_sh 38 (I, J)).1 2 1) : Int32).toInt64))]) (μ' := (I, J)) (Nat.le_of_ble_eq_true rfl) rfl ?_
  refine c_ldiv (Nat.le_of_ble_eq_true rfl) rfl (by decide) ?_
  refine c_lret (Nat.le_of_ble_eq_true rfl) rfl rfl ?_
  exact ⟨rfl, rfl⟩

set_option maxRecDepth 100000 in
theorem t38_bt2 (I : Nat → Nat → Int32) (J : Nat → Nat → Int64) (a d : Nat) (ha : a < 8) (hd : d < 8) (x : Int32) : m_W 77 0 (lv_args 0 [.ref 55, .int (nI a), .int (nI d), .int x]) [] (I, J) (m_E (some (.long (s_bt ((k_sh 38 (I, J)).1 18) ((k_sh 38 (I, J)).1 19) a d x))) (I, J)) := by
  show m_W 77 0 [(0, .ref 55), (1, .int (nI a)), (2, .int (nI d)), (3, .int x)] [] (I, J) _
  refine c_run 3 (pc' := 5) (ls' := [(0, .ref 55), (1, .int (nI a)), (2, .int (nI d)), (3, .int x)]) (st' := [.int (nI d), .ref 56]) (μ' := (I, J)) (Nat.le_of_ble_eq_true rfl) rfl ?_
  refine c_ial d 8 (Nat.le_of_ble_eq_true rfl) rfl rfl rfl rfl rfl hd ?_
  show m_W 77 6 [(0, .ref 55), (1, .int (nI a)), (2, .int (nI d)), (3, .int x)] [.int ((k_sh 38 (I, J)).1 18 d)] (I, J) _
  refine c_run 3 (pc' := 11) (ls' := [(0, .ref 55), (1, .int (nI a)), (2, .int (nI d)), (3, .int x)]) (st' := [.int (nI a), .ref 56, .int ((k_sh 38 (I, J)).1 18 d)]) (μ' := (I, J)) (Nat.le_of_ble_eq_true rfl) rfl ?_
  refine c_ial a 8 (Nat.le_of_ble_eq_true rfl) rfl rfl rfl rfl rfl ha ?_
  show m_W 77 12 [(0, .ref 55), (1, .int (nI a)), (2, .int (nI d)), (3, .int x)] [.int ((k_sh 38 (I, J)).1 18 a), .int ((k_sh 38 (I, J)).1 18 d)] (I, J) _
  refine c_run 6 (pc' := 20) (ls' := [(4, .long (((((k_sh 38 (I, J)).1 18 d) - ((k_sh 38 (I, J)).1 18 a)) : Int32).toInt64)), (0, .ref 55), (1, .int (nI a)), (2, .int (nI d)), (3, .int x)]) (st' := [.int (lg_cmp (((((k_sh 38 (I, J)).1 18 d) - ((k_sh 38 (I, J)).1 18 a)) : Int32).toInt64) 0)]) (μ' := (I, J)) (Nat.le_of_ble_eq_true rfl) rfl ?_
  refine c_ifgt 31 (Nat.le_of_ble_eq_true rfl) rfl rfl (fun h1 => ?_) (fun h1 => ?_)
  · replace h1 := lc_gt.mp h1
    refine c_run 3 (pc' := 36) (ls' := [(4, .long (((((k_sh 38 (I, J)).1 18 d) - ((k_sh 38 (I, J)).1 18 a)) : Int32).toInt64)), (0, .ref 55), (1, .int (nI a)), (2, .int (nI d)), (3, .int x)]) (st' := [.int (nI d), .ref 57]) (μ' := (I, J)) (Nat.le_of_ble_eq_true rfl) rfl ?_
    refine c_ial d 8 (Nat.le_of_ble_eq_true rfl) rfl rfl rfl rfl rfl hd ?_
    show m_W 77 37 [(4, .long (((((k_sh 38 (I, J)).1 18 d) - ((k_sh 38 (I, J)).1 18 a)) : Int32).toInt64)), (0, .ref 55), (1, .int (nI a)), (2, .int (nI d)), (3, .int x)] [.int ((k_sh 38 (I, J)).1 19 d)] (I, J) _
    refine c_run 3 (pc' := 42) (ls' := [(4, .long (((((k_sh 38 (I, J)).1 18 d) - ((k_sh 38 (I, J)).1 18 a)) : Int32).toInt64)), (0, .ref 55), (1, .int (nI a)), (2, .int (nI d)), (3, .int x)]) (st' := [.int (nI a), .ref 57, .int ((k_sh 38 (I, J)).1 19 d)]) (μ' := (I, J)) (Nat.le_of_ble_eq_true rfl) rfl ?_
    refine c_ial a 8 (Nat.le_of_ble_eq_true rfl) rfl rfl rfl rfl rfl ha ?_
    show m_W 77 43 [(4, .long (((((k_sh 38 (I, J)).1 18 d) - ((k_sh 38 (I, J)).1 18 a)) : Int32).toInt64)), (0, .ref 55), (1, .int (nI a)), (2, .int (nI d)), (3, .int x)] [.int ((k_sh 38 (I, J)).1 19 a), .int ((k_sh 38 (I, J)).1 19 d)] (I, J) _
    refine c_run 6 (pc' := 52) (ls' := [(6, .long (((((k_sh 38 (I, J)).1 19 d) - ((k_sh 38 (I, J)).1 19 a)) : Int32).toInt64)), (4, .long (((((k_sh 38 (I, J)).1 18 d) - ((k_sh 38 (I, J)).1 18 a)) : Int32).toInt64)), (0, .ref 55), (1, .int (nI a)), (2, .int (nI d)), (3, .int x)]) (st' := [.int (nI a), .ref 57]) (μ' := (I, J)) (Nat.le_of_ble_eq_true rfl) rfl ?_
    refine c_ial a 8 (Nat.le_of_ble_eq_true rfl) rfl rfl rfl rfl rfl ha ?_
    show m_W 77 53 [(6, .long (((((k_sh 38 (I, J)).1 19 d) - ((k_sh 38 (I, J)).1 19 a)) : Int32).toInt64)), (4, .long (((((k_sh 38 (I, J)).1 18 d) - ((k_sh 38 (I, J)).1 18 a)) : Int32).toInt64)), (0, .ref 55), (1, .int (nI a)), (2, .int (nI d)), (3, .int x)] [.int ((k_sh 38 (I, J)).1 19 a)] (I, J) _
    refine c_run 6 (pc' := 62) (ls' := [(6, .long (((((k_sh 38 (I, J)).1 19 d) - ((k_sh 38 (I, J)).1 19 a)) : Int32).toInt64)), (4, .long (((((k_sh 38 (I, J)).1 18 d) - ((k_sh 38 (I, J)).1 18 a)) : Int32).toInt64)), (0, .ref 55), (1, .int (nI a)), (2, .int (nI d)), (3, .int x)]) (st' := [.int (nI a), .ref 56, .int x, .long (((((k_sh 38 (I, J)).1 19 d) - ((k_sh 38 (I, J)).1 19 a)) : Int32).toInt64), .long ((((k_sh 38 (I, J)).1 19 a) : Int32).toInt64)]) (μ' := (I, J)) (Nat.le_of_ble_eq_true rfl) rfl ?_
    refine c_ial a 8 (Nat.le_of_ble_eq_true rfl) rfl rfl rfl rfl rfl ha ?_
    show m_W 77 63 [(6, .long (((((k_sh 38 (I, J)).1 19 d) - ((k_sh 38 (I, J)).1 19 a)) : Int32).toInt64)), (4, .long (((((k_sh 38 (I, J)).1 18 d) - ((k_sh 38 (I, J)).1 18 a)) : Int32).toInt64)), (0, .ref 55), (1, .int (nI a)), (2, .int (nI d)), (3, .int x)] [.int ((k_sh 38 (I, J)).1 18 a), .int x, .long (((((k_sh 38 (I, J)).1 19 d) - ((k_sh 38 (I, J)).1 19 a)) : Int32).toInt64), .long ((((k_sh 38 (I, J)).1 19 a) : Int32).toInt64)] (I, J) _
    refine c_run 4 (pc' := 68) (ls' := [(6, .long (((((k_sh 38 (I, J)).1 19 d) - ((k_sh 38 (I, J)).1 19 a)) : Int32).toInt64)), (4, .long (((((k_sh 38 (I, J)).1 18 d) - ((k_sh 38 (I, J)).1 18 a)) : Int32).toInt64)), (0, .ref 55), (1, .int (nI a)), (2, .int (nI d)), (3, .int x)]) (st' := [.long (((((k_sh 38 (I, J)).1 18 d) - ((k_sh 38 (I, J)).1 18 a)) : Int32).toInt64), .long ((((((k_sh 38 (I, J)).1 19 d) - ((k_sh 38 (I, J)).1 19 a)) : Int32).toInt64) * (((x - ((k_sh 38 (I, J)).1 18 a)) : Int32).toInt64)), .long ((((k_sh 38 (I, J)).1 19 a) : Int32).toInt64)]) (μ' := (I, J)) (Nat.le_of_ble_eq_true rfl) rfl ?_
    refine c_cs 157 [.long ((((((k_sh 38 (I, J)).1 19 d) - ((k_sh 38 (I, J)).1 19 a)) : Int32).toInt64) * (((x - ((k_sh 38 (I, J)).1 18 a)) : Int32).toInt64)), .long (((((k_sh 38 (I, J)).1 18 d) - ((k_sh 38 (I, J)).1 18 a)) : Int32).toInt64)] (r := [.long ((((k_sh 38 (I, J)).1 19 a) : Int32).toInt64)]) (Nat.le_of_ble_eq_true rfl) rfl (Or.inl rfl) rfl rfl rfl (t_floorDiv I J ((((((k_sh 38 (I, J)).1 19 d) - ((k_sh 38 (I, J)).1 19 a)) : Int32).toInt64) * (((x - ((k_sh 38 (I, J)).1 18 a)) : Int32).toInt64)) (((((k_sh 38 (I, J)).1 18 d) - ((k_sh 38 (I, J)).1 18 a)) : Int32).toInt64) (show (0 : Int64).toInt < _ from Int64.lt_iff_toInt_lt.mp (by assumption))) ?_
    rintro _ _ ⟨rfl, rfl⟩
    show m_W 77 71 [(6, .long (((((k_sh 38 (I, J)).1 19 d) - ((k_sh 38 (I, J)).1 19 a)) : Int32).toInt64)), (4, .long (((((k_sh 38 (I, J)).1 18 d) - ((k_sh 38 (I, J)).1 18 a)) : Int32).toInt64)), (0, .ref 55), (1, .int (nI a)), (2, .int (nI d)), (3, .int x)] [.long (s_fl ((((((k_sh 38 (I, J)).1 19 d) - ((k_sh 38 (I, J)).1 19 a)) : Int32).toInt64) * (((x - ((k_sh 38 (I, J)).1 18 a)) : Int32).toInt64)) (((((k_sh 38 (I, J)).1 18 d) - ((k_sh 38 (I, J)).1 18 a)) : Int32).toInt64)), .long ((((k_sh 38 (I, J)).1 19 a) : Int32).toInt64)] (I, J) _
    refine c_run 1 (pc' := 72) (ls' := [(6, .long (((((k_sh 38 (I, J)).1 19 d) - ((k_sh 38 (I, J)).1 19 a)) : Int32).toInt64)), (4, .long (((((k_sh 38 (I, J)).1 18 d) - ((k_sh 38 (I, J)).1 18 a)) : Int32).toInt64)), (0, .ref 55), (1, .int (nI a)), (2, .int (nI d)), (3, .int x)]) (st' := [.long (((((k_sh 38 (I, J)).1 19 a) : Int32).toInt64) + (s_fl ((((((k_sh 38 (I, J)).1 19 d) - ((k_sh 38 (I, J)).1 19 a)) : Int32).toInt64) * (((x - ((k_sh 38 (I, J)).1 18 a)) : Int32).toInt64)) (((((k_sh 38 (I, J)).1 18 d) - ((k_sh 38 (I, J)).1 18 a)) : Int32).toInt64)))]) (μ' := (I, J)) (Nat.le_of_ble_eq_true rfl) rfl ?_
    refine c_lret (Nat.le_of_ble_eq_true rfl) rfl rfl ?_
    refine ⟨?_, rfl⟩
    first | rfl | (simp only [s_bt, if_pos h1]; done) | (simp only [s_bt, if_pos h1]; rfl)
  · replace h1 := mt lc_gt.mpr h1
    refine c_run 3 (pc' := 28) (ls' := [(4, .long (((((k_sh 38 (I, J)).1 18 d) - ((k_sh 38 (I, J)).1 18 a)) : Int32).toInt64)), (0, .ref 55), (1, .int (nI a)), (2, .int (nI d)), (3, .int x)]) (st' := [.int (nI a), .ref 57]) (μ' := (I, J)) (Nat.le_of_ble_eq_true rfl) rfl ?_
    refine c_ial a 8 (Nat.le_of_ble_eq_true rfl) rfl rfl rfl rfl rfl ha ?_
    show m_W 77 29 [(4, .long (((((k_sh 38 (I, J)).1 18 d) - ((k_sh 38 (I, J)).1 18 a)) : Int32).toInt64)), (0, .ref 55), (1, .int (nI a)), (2, .int (nI d)), (3, .int x)] [.int ((k_sh 38 (I, J)).1 19 a)] (I, J) _
    refine c_run 1 (pc' := 30) (ls' := [(4, .long (((((k_sh 38 (I, J)).1 18 d) - ((k_sh 38 (I, J)).1 18 a)) : Int32).toInt64)), (0, .ref 55), (1, .int (nI a)), (2, .int (nI d)), (3, .int x)]) (st' := [.long ((((k_sh 38 (I, J)).1 19 a) : Int32).toInt64)]) (μ' := (I, J)) (Nat.le_of_ble_eq_true rfl) rfl ?_
    refine c_lret (Nat.le_of_ble_eq_true rfl) rfl rfl ?_
    refine ⟨?_, rfl⟩
    first | rfl | (simp only [s_bt, if_neg h1]; done) | (simp only [s_bt, if_neg h1]; rfl)

set_option maxRecDepth 100000 in
theorem t38_vl2 (I : Nat → Nat → Int32) (J : Nat → Nat → Int64) (x : Int32) (p : Nat) (hp : (k_sh 38 (I, J)).1 17 0 = nI p) (hp8 : p ≤ 8) : ∀ (r i : Nat), i + r = p → 1 ≤ i → m_W 76 29 [(0, .ref 55), (1, .int x), (2, .int (nI i))] [] (I, J) (m_E (some (.long (s_vl ((k_sh 38 (I, J)).1 18) ((k_sh 38 (I, J)).1 19) p x i r))) (I, J)) := by
  intro r
  induction r with
  | zero =>
    intro i hir hi1
    refine c_run 3 (pc' := 34) (ls' := [(0, .ref 55), (1, .int x), (2, .int (nI i))]) (st' := [.int ((k_sh 38 (I, J)).1 17 0), .int (nI i)]) (μ' := (I, J)) (Nat.le_of_ble_eq_true rfl) rfl ?_
    refine c_icge 63 (Nat.le_of_ble_eq_true rfl) rfl rfl (fun h1 => ?_) (fun h1 => absurd (by rw [hp]; exact nI_le (by omega) (by omega)) h1)
    refine c_run 6 (pc' := 73) (ls' := [(0, .ref 55), (1, .int x), (2, .int (nI i))]) (st' := [.int (((k_sh 38 (I, J)).1 17 0) - (1 : Int32)), .ref 57]) (μ' := (I, J)) (Nat.le_of_ble_eq_true rfl) rfl ?_
    refine c_ial (p - 1) 8 (Nat.le_of_ble_eq_true rfl) rfl rfl rfl rfl (by rw [hp]; exact k_p1 (by omega)) (by omega) ?_
    show m_W 76 74 [(0, .ref 55), (1, .int x), (2, .int (nI i))] [.int ((k_sh 38 (I, J)).1 19 (p - 1))] (I, J) _
    refine c_run 1 (pc' := 75) (ls' := [(0, .ref 55), (1, .int x), (2, .int (nI i))]) (st' := [.long ((((k_sh 38 (I, J)).1 19 (p - 1)) : Int32).toInt64)]) (μ' := (I, J)) (Nat.le_of_ble_eq_true rfl) rfl ?_
    refine c_lret (Nat.le_of_ble_eq_true rfl) rfl rfl ?_
    exact ⟨rfl, rfl⟩
  | succ r ih =>
    intro i hir hi1
    refine c_run 3 (pc' := 34) (ls' := [(0, .ref 55), (1, .int x), (2, .int (nI i))]) (st' := [.int ((k_sh 38 (I, J)).1 17 0), .int (nI i)]) (μ' := (I, J)) (Nat.le_of_ble_eq_true rfl) rfl ?_
    refine c_icge 63 (Nat.le_of_ble_eq_true rfl) rfl rfl (fun h1 => absurd h1 (by rw [hp]; exact nI_ge (by omega) (by omega))) (fun h1 => ?_)
    refine c_run 4 (pc' := 43) (ls' := [(0, .ref 55), (1, .int x), (2, .int (nI i))]) (st' := [.int (nI i), .ref 56, .int x]) (μ' := (I, J)) (Nat.le_of_ble_eq_true rfl) rfl ?_
    refine c_ial i 8 (Nat.le_of_ble_eq_true rfl) rfl rfl rfl rfl rfl (by omega) ?_
    show m_W 76 44 [(0, .ref 55), (1, .int x), (2, .int (nI i))] [.int ((k_sh 38 (I, J)).1 18 i), .int x] (I, J) _
    refine c_icgt 57 (Nat.le_of_ble_eq_true rfl) rfl rfl (fun h2 => ?_) (fun h2 => ?_)
    · skip
      refine c_run 2 (pc' := 29) (ls' := [(2, .int ((nI i) + (1 : Int32))), (0, .ref 55), (1, .int x)]) (st' := []) (μ' := (I, J)) (Nat.le_of_ble_eq_true rfl) rfl ?_
      refine c_w [1, 2, 0] (ls' := [(0, .ref 55), (1, .int x), (2, .int ((nI i) + (1 : Int32)))]) rfl ?_
      rw [nI_1 i, s_vl, if_pos (by assumption)]
      exact ih (i + 1) (by omega) (by omega)
    · skip
      refine c_run 6 (pc' := 53) (ls' := [(0, .ref 55), (1, .int x), (2, .int (nI i))]) (st' := [.int x, .int (nI i), .int ((nI i) - (1 : Int32)), .ref 55]) (μ' := (I, J)) (Nat.le_of_ble_eq_true rfl) rfl ?_
      rw [show (nI i) - (1 : Int32) = nI (i - 1) from k_p1 hi1]
      refine c_cv 77 [.int (nI (i - 1)), .int (nI i), .int x] (b := 55) (r := []) (Nat.le_of_ble_eq_true rfl) rfl rfl rfl rfl rfl rfl (t38_bt2 I J (i - 1) i (by omega) (by omega) x) ?_
      rintro _ _ ⟨rfl, rfl⟩
      show m_W 76 56 [(0, .ref 55), (1, .int x), (2, .int (nI i))] [.long (s_bt ((k_sh 38 (I, J)).1 18) ((k_sh 38 (I, J)).1 19) (i - 1) i x)] (I, J) _
      refine c_lret (Nat.le_of_ble_eq_true rfl) rfl rfl ?_
      refine ⟨?_, rfl⟩
      rw [s_vl, if_neg (by assumption)]

set_option maxRecDepth 100000 in
theorem t38_vol2 (I : Nat → Nat → Int32) (J : Nat → Nat → Int64) (x : Int32) (p : Nat) (hp : (k_sh 38 (I, J)).1 17 0 = nI p) (hp8 : p ≤ 8) : m_W 76 0 (lv_args 0 [.ref 55, .int x]) [] (I, J) (m_E (some (.long (k_vol (k_sh 38 (I, J)) 2 p x))) (I, J)) := by
  show m_W 76 0 [(0, .ref 55), (1, .int x)] [] (I, J) _
  refine c_run 2 (pc' := 4) (ls' := [(0, .ref 55), (1, .int x)]) (st' := [.int ((k_sh 38 (I, J)).1 17 0)]) (μ' := (I, J)) (Nat.le_of_ble_eq_true rfl) rfl ?_
  refine c_ifne 9 (Nat.le_of_ble_eq_true rfl) rfl rfl (fun h1 => ?_) (fun h1 => ?_)
  · skip
    refine c_run 4 (pc' := 15) (ls' := [(0, .ref 55), (1, .int x)]) (st' := [.int 0, .ref 56, .int x]) (μ' := (I, J)) (Nat.le_of_ble_eq_true rfl) rfl ?_
    refine c_ial 0 8 (Nat.le_of_ble_eq_true rfl) rfl rfl rfl rfl rfl (by decide) ?_
    show m_W 76 16 [(0, .ref 55), (1, .int x)] [.int ((k_sh 38 (I, J)).1 18 0), .int x] (I, J) _
    refine c_icgt 27 (Nat.le_of_ble_eq_true rfl) rfl rfl (fun h2 => ?_) (fun h2 => ?_)
    · skip
      refine c_run 2 (pc' := 29) (ls' := [(2, .int 1), (0, .ref 55), (1, .int x)]) (st' := []) (μ' := (I, J)) (Nat.le_of_ble_eq_true rfl) rfl ?_
      refine c_w [1, 2, 0] (ls' := [(0, .ref 55), (1, .int x), (2, .int 1)]) rfl ?_
      have hz : ¬ p = 0 := fun q => absurd (show (k_sh 38 (I, J)).1 17 0 = 0 by rw [hp, q]; rfl) (by assumption)
      rw [k_vol, s_vol, if_neg hz, if_pos (by assumption)]
      exact t38_vl2 I J x p hp hp8 (p - 1) 1 (by omega) (by omega)
    · skip
      refine c_run 3 (pc' := 24) (ls' := [(0, .ref 55), (1, .int x)]) (st' := [.int 0, .ref 57]) (μ' := (I, J)) (Nat.le_of_ble_eq_true rfl) rfl ?_
      refine c_ial 0 8 (Nat.le_of_ble_eq_true rfl) rfl rfl rfl rfl rfl (by decide) ?_
      show m_W 76 25 [(0, .ref 55), (1, .int x)] [.int ((k_sh 38 (I, J)).1 19 0)] (I, J) _
      refine c_run 1 (pc' := 26) (ls' := [(0, .ref 55), (1, .int x)]) (st' := [.long ((((k_sh 38 (I, J)).1 19 0) : Int32).toInt64)]) (μ' := (I, J)) (Nat.le_of_ble_eq_true rfl) rfl ?_
      refine c_lret (Nat.le_of_ble_eq_true rfl) rfl rfl ?_
      refine ⟨?_, rfl⟩
      first
        | (have hz : p = 0 := (nI_eq (by omega) (by omega)).mp (show nI p = nI 0 by rw [← hp]; assumption)
           rw [k_vol, s_vol, if_pos hz])
        | (have hz : ¬ p = 0 := fun q => absurd (show (k_sh 38 (I, J)).1 17 0 = 0 by rw [hp, q]; rfl) (by assumption)
           rw [k_vol, s_vol, if_neg hz, if_neg (by assumption)])
  · skip
    refine c_run 1 (pc' := 8) (ls' := [(0, .ref 55), (1, .int x)]) (st' := [.long 0]) (μ' := (I, J)) (Nat.le_of_ble_eq_true rfl) rfl ?_
    refine c_lret (Nat.le_of_ble_eq_true rfl) rfl rfl ?_
    refine ⟨?_, rfl⟩
    first
      | (have hz : p = 0 := (nI_eq (by omega) (by omega)).mp (show nI p = nI 0 by rw [← hp]; assumption)
         rw [k_vol, s_vol, if_pos hz])
      | (have hz : ¬ p = 0 := fun q => absurd (show (k_sh 38 (I, J)).1 17 0 = 0 by rw [hp, q]; rfl) (by assumption)
         rw [k_vol, s_vol, if_neg hz, if_neg (by assumption)])

set_option maxRecDepth 100000 in
theorem t38_gm2 (I : Nat → Nat → Int32) (J : Nat → Nat → Int64) (x : Int32) (p : Nat) (hp : (k_sh 38 (I, J)).1 17 0 = nI p) (hp8 : p ≤ 8) : m_W 86 0 (lv_args 0 [.ref 39, .int 2, .int x]) [] (I, J) (m_E (some (.long (k_gm (k_sh 38 (I, J)) 2 p x))) (I, J)) := by
  show m_W 86 0 [(0, .ref 39), (1, .int 2), (2, .int x)] [] (I, J) _
  refine c_run 3 (pc' := 5) (ls' := [(0, .ref 39), (1, .int 2), (2, .int x)]) (st' := [.int 2, .ref 48]) (μ' := (I, J)) (Nat.le_of_ble_eq_true rfl) rfl ?_
  refine c_aal 2 4 (Nat.le_of_ble_eq_true rfl) rfl rfl rfl rfl rfl (by decide) ?_
  show m_W 86 6 [(0, .ref 39), (1, .int 2), (2, .int x)] [.ref 55] (I, J) _
  refine c_run 1 (pc' := 7) (ls' := [(0, .ref 39), (1, .int 2), (2, .int x)]) (st' := [.int x, .ref 55]) (μ' := (I, J)) (Nat.le_of_ble_eq_true rfl) rfl ?_
  refine c_cv 76 [.int x] (b := 55) (r := []) (Nat.le_of_ble_eq_true rfl) rfl rfl rfl rfl rfl rfl (t38_vol2 I J x p hp hp8) ?_
  rintro _ _ ⟨rfl, rfl⟩
  show m_W 86 10 [(0, .ref 39), (1, .int 2), (2, .int x)] [.long (k_vol (k_sh 38 (I, J)) 2 p x)] (I, J) _
  refine c_run 3 (pc' := 15) (ls' := [(0, .ref 39), (1, .int 2), (2, .int x)]) (st' := [.int 2, .ref 40, .long (k_vol (k_sh 38 (I, J)) 2 p x)]) (μ' := (I, J)) (Nat.le_of_ble_eq_true rfl) rfl ?_
  refine c_ial 2 4 (Nat.le_of_ble_eq_true rfl) rfl rfl rfl rfl rfl (by decide) ?_
  show m_W 86 16 [(0, .ref 39), (1, .int 2), (2, .int x)] [.int ((k_sh 38 (I, J)).1 2 2), .long (k_vol (k_sh 38 (I, J)) 2 p x)] (I, J) _
  refine c_run 3 (pc' := 21) (ls' := [(0, .ref 39), (1, .int 2), (2, .int x)]) (st' := [.long 1000, .long ((k_vol (k_sh 38 (I, J)) 2 p x) * ((((k_sh 38 (I, J)).1 2 2) : Int32).toInt64))]) (μ' := (I, J)) (Nat.le_of_ble_eq_true rfl) rfl ?_
  refine c_ldiv (Nat.le_of_ble_eq_true rfl) rfl (by decide) ?_
  refine c_lret (Nat.le_of_ble_eq_true rfl) rfl rfl ?_
  exact ⟨rfl, rfl⟩

set_option maxRecDepth 100000 in
theorem t38_bt3 (I : Nat → Nat → Int32) (J : Nat → Nat → Int64) (a d : Nat) (ha : a < 8) (hd : d < 8) (x : Int32) : m_W 77 0 (lv_args 0 [.ref 58, .int (nI a), .int (nI d), .int x]) [] (I, J) (m_E (some (.long (s_bt ((k_sh 38 (I, J)).1 21) ((k_sh 38 (I, J)).1 22) a d x))) (I, J)) := by
  show m_W 77 0 [(0, .ref 58), (1, .int (nI a)), (2, .int (nI d)), (3, .int x)] [] (I, J) _
  refine c_run 3 (pc' := 5) (ls' := [(0, .ref 58), (1, .int (nI a)), (2, .int (nI d)), (3, .int x)]) (st' := [.int (nI d), .ref 59]) (μ' := (I, J)) (Nat.le_of_ble_eq_true rfl) rfl ?_
  refine c_ial d 8 (Nat.le_of_ble_eq_true rfl) rfl rfl rfl rfl rfl hd ?_
  show m_W 77 6 [(0, .ref 58), (1, .int (nI a)), (2, .int (nI d)), (3, .int x)] [.int ((k_sh 38 (I, J)).1 21 d)] (I, J) _
  refine c_run 3 (pc' := 11) (ls' := [(0, .ref 58), (1, .int (nI a)), (2, .int (nI d)), (3, .int x)]) (st' := [.int (nI a), .ref 59, .int ((k_sh 38 (I, J)).1 21 d)]) (μ' := (I, J)) (Nat.le_of_ble_eq_true rfl) rfl ?_
  refine c_ial a 8 (Nat.le_of_ble_eq_true rfl) rfl rfl rfl rfl rfl ha ?_
  show m_W 77 12 [(0, .ref 58), (1, .int (nI a)), (2, .int (nI d)), (3, .int x)] [.int ((k_sh 38 (I, J)).1 21 a), .int ((k_sh 38 (I, J)).1 21 d)] (I, J) _
  refine c_run 6 (pc' := 20) (ls' := [(4, .long (((((k_sh 38 (I, J)).1 21 d) - ((k_sh 38 (I, J)).1 21 a)) : Int32).toInt64)), (0, .ref 58), (1, .int (nI a)), (2, .int (nI d)), (3, .int x)]) (st' := [.int (lg_cmp (((((k_sh 38 (I, J)).1 21 d) - ((k_sh 38 (I, J)).1 21 a)) : Int32).toInt64) 0)]) (μ' := (I, J)) (Nat.le_of_ble_eq_true rfl) rfl ?_
  refine c_ifgt 31 (Nat.le_of_ble_eq_true rfl) rfl rfl (fun h1 => ?_) (fun h1 => ?_)
  · replace h1 := lc_gt.mp h1
    refine c_run 3 (pc' := 36) (ls' := [(4, .long (((((k_sh 38 (I, J)).1 21 d) - ((k_sh 38 (I, J)).1 21 a)) : Int32).toInt64)), (0, .ref 58), (1, .int (nI a)), (2, .int (nI d)), (3, .int x)]) (st' := [.int (nI d), .ref 60]) (μ' := (I, J)) (Nat.le_of_ble_eq_true rfl) rfl ?_
    refine c_ial d 8 (Nat.le_of_ble_eq_true rfl) rfl rfl rfl rfl rfl hd ?_
    show m_W 77 37 [(4, .long (((((k_sh 38 (I, J)).1 21 d) - ((k_sh 38 (I, J)).1 21 a)) : Int32).toInt64)), (0, .ref 58), (1, .int (nI a)), (2, .int (nI d)), (3, .int x)] [.int ((k_sh 38 (I, J)).1 22 d)] (I, J) _
    refine c_run 3 (pc' := 42) (ls' := [(4, .long (((((k_sh 38 (I, J)).1 21 d) - ((k_sh 38 (I, J)).1 21 a)) : Int32).toInt64)), (0, .ref 58), (1, .int (nI a)), (2, .int (nI d)), (3, .int x)]) (st' := [.int (nI a), .ref 60, .int ((k_sh 38 (I, J)).1 22 d)]) (μ' := (I, J)) (Nat.le_of_ble_eq_true rfl) rfl ?_
    refine c_ial a 8 (Nat.le_of_ble_eq_true rfl) rfl rfl rfl rfl rfl ha ?_
    show m_W 77 43 [(4, .long (((((k_sh 38 (I, J)).1 21 d) - ((k_sh 38 (I, J)).1 21 a)) : Int32).toInt64)), (0, .ref 58), (1, .int (nI a)), (2, .int (nI d)), (3, .int x)] [.int ((k_sh 38 (I, J)).1 22 a), .int ((k_sh 38 (I, J)).1 22 d)] (I, J) _
    refine c_run 6 (pc' := 52) (ls' := [(6, .long (((((k_sh 38 (I, J)).1 22 d) - ((k_sh 38 (I, J)).1 22 a)) : Int32).toInt64)), (4, .long (((((k_sh 38 (I, J)).1 21 d) - ((k_sh 38 (I, J)).1 21 a)) : Int32).toInt64)), (0, .ref 58), (1, .int (nI a)), (2, .int (nI d)), (3, .int x)]) (st' := [.int (nI a), .ref 60]) (μ' := (I, J)) (Nat.le_of_ble_eq_true rfl) rfl ?_
    refine c_ial a 8 (Nat.le_of_ble_eq_true rfl) rfl rfl rfl rfl rfl ha ?_
    show m_W 77 53 [(6, .long (((((k_sh 38 (I, J)).1 22 d) - ((k_sh 38 (I, J)).1 22 a)) : Int32).toInt64)), (4, .long (((((k_sh 38 (I, J)).1 21 d) - ((k_sh 38 (I, J)).1 21 a)) : Int32).toInt64)), (0, .ref 58), (1, .int (nI a)), (2, .int (nI d)), (3, .int x)] [.int ((k_sh 38 (I, J)).1 22 a)] (I, J) _
    refine c_run 6 (pc' := 62) (ls' := [(6, .long (((((k_sh 38 (I, J)).1 22 d) - ((k_sh 38 (I, J)).1 22 a)) : Int32).toInt64)), (4, .long (((((k_sh 38 (I, J)).1 21 d) - ((k_sh 38 (I, J)).1 21 a)) : Int32).toInt64)), (0, .ref 58), (1, .int (nI a)), (2, .int (nI d)), (3, .int x)]) (st' := [.int (nI a), .ref 59, .int x, .long (((((k_sh 38 (I, J)).1 22 d) - ((k_sh 38 (I, J)).1 22 a)) : Int32).toInt64), .long ((((k_sh 38 (I, J)).1 22 a) : Int32).toInt64)]) (μ' := (I, J)) (Nat.le_of_ble_eq_true rfl) rfl ?_
    refine c_ial a 8 (Nat.le_of_ble_eq_true rfl) rfl rfl rfl rfl rfl ha ?_
    show m_W 77 63 [(6, .long (((((k_sh 38 (I, J)).1 22 d) - ((k_sh 38 (I, J)).1 22 a)) : Int32).toInt64)), (4, .long (((((k_sh 38 (I, J)).1 21 d) - ((k_sh 38 (I, J)).1 21 a)) : Int32).toInt64)), (0, .ref 58), (1, .int (nI a)), (2, .int (nI d)), (3, .int x)] [.int ((k_sh 38 (I, J)).1 21 a), .int x, .long (((((k_sh 38 (I, J)).1 22 d) - ((k_sh 38 (I, J)).1 22 a)) : Int32).toInt64), .long ((((k_sh 38 (I, J)).1 22 a) : Int32).toInt64)] (I, J) _
    refine c_run 4 (pc' := 68) (ls' := [(6, .long (((((k_sh 38 (I, J)).1 22 d) - ((k_sh 38 (I, J)).1 22 a)) : Int32).toInt64)), (4, .long (((((k_sh 38 (I, J)).1 21 d) - ((k_sh 38 (I, J)).1 21 a)) : Int32).toInt64)), (0, .ref 58), (1, .int (nI a)), (2, .int (nI d)), (3, .int x)]) (st' := [.long (((((k_sh 38 (I, J)).1 21 d) - ((k_sh 38 (I, J)).1 21 a)) : Int32).toInt64), .long ((((((k_sh 38 (I, J)).1 22 d) - ((k_sh 38 (I, J)).1 22 a)) : Int32).toInt64) * (((x - ((k_sh 38 (I, J)).1 21 a)) : Int32).toInt64)), .long ((((k_sh 38 (I, J)).1 22 a) : Int32).toInt64)]) (μ' := (I, J)) (Nat.le_of_ble_eq_true rfl) rfl ?_
    refine c_cs 157 [.long ((((((k_sh 38 (I, J)).1 22 d) - ((k_sh 38 (I, J)).1 22 a)) : Int32).toInt64) * (((x - ((k_sh 38 (I, J)).1 21 a)) : Int32).toInt64)), .long (((((k_sh 38 (I, J)).1 21 d) - ((k_sh 38 (I, J)).1 21 a)) : Int32).toInt64)] (r := [.long ((((k_sh 38 (I, J)).1 22 a) : Int32).toInt64)]) (Nat.le_of_ble_eq_true rfl) rfl (Or.inl rfl) rfl rfl rfl (t_floorDiv I J ((((((k_sh 38 (I, J)).1 22 d) - ((k_sh 38 (I, J)).1 22 a)) : Int32).toInt64) * (((x - ((k_sh 38 (I, J)).1 21 a)) : Int32).toInt64)) (((((k_sh 38 (I, J)).1 21 d) - ((k_sh 38 (I, J)).1 21 a)) : Int32).toInt64) (show (0 : Int64).toInt < _ from Int64.lt_iff_toInt_lt.mp (by assumption))) ?_
    rintro _ _ ⟨rfl, rfl⟩
    show m_W 77 71 [(6, .long (((((k_sh 38 (I, J)).1 22 d) - ((k_sh 38 (I, J)).1 22 a)) : Int32).toInt64)), (4, .long (((((k_sh 38 (I, J)).1 21 d) - ((k_sh 38 (I, J)).1 21 a)) : Int32).toInt64)), (0, .ref 58), (1, .int (nI a)), (2, .int (nI d)), (3, .int x)] [.long (s_fl ((((((k_sh 38 (I, J)).1 22 d) - ((k_sh 38 (I, J)).1 22 a)) : Int32).toInt64) * (((x - ((k_sh 38 (I, J)).1 21 a)) : Int32).toInt64)) (((((k_sh 38 (I, J)).1 21 d) - ((k_sh 38 (I, J)).1 21 a)) : Int32).toInt64)), .long ((((k_sh 38 (I, J)).1 22 a) : Int32).toInt64)] (I, J) _
    refine c_run 1 (pc' := 72) (ls' := [(6, .long (((((k_sh 38 (I, J)).1 22 d) - ((k_sh 38 (I, J)).1 22 a)) : Int32).toInt64)), (4, .long (((((k_sh 38 (I, J)).1 21 d) - ((k_sh 38 (I, J)).1 21 a)) : Int32).toInt64)), (0, .ref 58), (1, .int (nI a)), (2, .int (nI d)), (3, .int x)]) (st' := [.long (((((k_sh 38 (I, J)).1 22 a) : Int32).toInt64) + (s_fl ((((((k_sh 38 (I, J)).1 22 d) - ((k_sh 38 (I, J)).1 22 a)) : Int32).toInt64) * (((x - ((k_sh 38 (I, J)).1 21 a)) : Int32).toInt64)) (((((k_sh 38 (I, J)).1 21 d) - ((k_sh 38 (I, J)).1 21 a)) : Int32).toInt64)))]) (μ' := (I, J)) (Nat.le_of_ble_eq_true rfl) rfl ?_
    refine c_lret (Nat.le_of_ble_eq_true rfl) rfl rfl ?_
    refine ⟨?_, rfl⟩
    first | rfl | (simp only [s_bt, if_pos h1]; done) | (simp only [s_bt, if_pos h1]; rfl)
  · replace h1 := mt lc_gt.mpr h1
    refine c_run 3 (pc' := 28) (ls' := [(4, .long (((((k_sh 38 (I, J)).1 21 d) - ((k_sh 38 (I, J)).1 21 a)) : Int32).toInt64)), (0, .ref 58), (1, .int (nI a)), (2, .int (nI d)), (3, .int x)]) (st' := [.int (nI a), .ref 60]) (μ' := (I, J)) (Nat.le_of_ble_eq_true rfl) rfl ?_
    refine c_ial a 8 (Nat.le_of_ble_eq_true rfl) rfl rfl rfl rfl rfl ha ?_
    show m_W 77 29 [(4, .long (((((k_sh 38 (I, J)).1 21 d) - ((k_sh 38 (I, J)).1 21 a)) : Int32).toInt64)), (0, .ref 58), (1, .int (nI a)), (2, .int (nI d)), (3, .int x)] [.int ((k_sh 38 (I, J)).1 22 a)] (I, J) _
    refine c_run 1 (pc' := 30) (ls' := [(4, .long (((((k_sh 38 (I, J)).1 21 d) - ((k_sh 38 (I, J)).1 21 a)) : Int32).toInt64)), (0, .ref 58), (1, .int (nI a)), (2, .int (nI d)), (3, .int x)]) (st' := [.long ((((k_sh 38 (I, J)).1 22 a) : Int32).toInt64)]) (μ' := (I, J)) (Nat.le_of_ble_eq_true rfl) rfl ?_
    refine c_lret (Nat.le_of_ble_eq_true rfl) rfl rfl ?_
    refine ⟨?_, rfl⟩
    first | rfl | (simp only [s_bt, if_neg h1]; done) | (simp only [s_bt, if_neg h1]; rfl)

set_option maxRecDepth 100000 in
theorem t38_vl3 (I : Nat → Nat → Int32) (J : Nat → Nat → Int64) (x : Int32) (p : Nat) (hp : (k_sh 38 (I, J)).1 20 0 = nI p) (hp8 : p ≤ 8) : ∀ (r i : Nat), i + r = p → 1 ≤ i → m_W 76 29 [(0, .ref 58), (1, .int x), (2, .int (nI i))] [] (I, J) (m_E (some (.long (s_vl ((k_sh 38 (I, J)).1 21) ((k_sh 38 (I, J)).1 22) p x i r))) (I, J)) := by
  intro r
  induction r with
  | zero =>
    intro i hir hi1
    refine c_run 3 (pc' := 34) (ls' := [(0, .ref 58), (1, .int x), (2, .int (nI i))]) (st' := [.int ((k_sh 38 (I, J)).1 20 0), .int (nI i)]) (μ' := (I, J)) (Nat.le_of_ble_eq_true rfl) rfl ?_
    refine c_icge 63 (Nat.le_of_ble_eq_true rfl) rfl rfl (fun h1 => ?_) (fun h1 => absurd (by rw [hp]; exact nI_le (by omega) (by omega)) h1)
    refine c_run 6 (pc' := 73) (ls' := [(0, .ref 58), (1, .int x), (2, .int (nI i))]) (st' := [.int (((k_sh 38 (I, J)).1 20 0) - (1 : Int32)), .ref 60]) (μ' := (I, J)) (Nat.le_of_ble_eq_true rfl) rfl ?_
    refine c_ial (p - 1) 8 (Nat.le_of_ble_eq_true rfl) rfl rfl rfl rfl (by rw [hp]; exact k_p1 (by omega)) (by omega) ?_
    show m_W 76 74 [(0, .ref 58), (1, .int x), (2, .int (nI i))] [.int ((k_sh 38 (I, J)).1 22 (p - 1))] (I, J) _
    refine c_run 1 (pc' := 75) (ls' := [(0, .ref 58), (1, .int x), (2, .int (nI i))]) (st' := [.long ((((k_sh 38 (I, J)).1 22 (p - 1)) : Int32).toInt64)]) (μ' := (I, J)) (Nat.le_of_ble_eq_true rfl) rfl ?_
    refine c_lret (Nat.le_of_ble_eq_true rfl) rfl rfl ?_
    exact ⟨rfl, rfl⟩
  | succ r ih =>
    intro i hir hi1
    refine c_run 3 (pc' := 34) (ls' := [(0, .ref 58), (1, .int x), (2, .int (nI i))]) (st' := [.int ((k_sh 38 (I, J)).1 20 0), .int (nI i)]) (μ' := (I, J)) (Nat.le_of_ble_eq_true rfl) rfl ?_
    refine c_icge 63 (Nat.le_of_ble_eq_true rfl) rfl rfl (fun h1 => absurd h1 (by rw [hp]; exact nI_ge (by omega) (by omega))) (fun h1 => ?_)
    refine c_run 4 (pc' := 43) (ls' := [(0, .ref 58), (1, .int x), (2, .int (nI i))]) (st' := [.int (nI i), .ref 59, .int x]) (μ' := (I, J)) (Nat.le_of_ble_eq_true rfl) rfl ?_
    refine c_ial i 8 (Nat.le_of_ble_eq_true rfl) rfl rfl rfl rfl rfl (by omega) ?_
    show m_W 76 44 [(0, .ref 58), (1, .int x), (2, .int (nI i))] [.int ((k_sh 38 (I, J)).1 21 i), .int x] (I, J) _
    refine c_icgt 57 (Nat.le_of_ble_eq_true rfl) rfl rfl (fun h2 => ?_) (fun h2 => ?_)
    · skip
      refine c_run 2 (pc' := 29) (ls' := [(2, .int ((nI i) + (1 : Int32))), (0, .ref 58), (1, .int x)]) (st' := []) (μ' := (I, J)) (Nat.le_of_ble_eq_true rfl) rfl ?_
      refine c_w [1, 2, 0] (ls' := [(0, .ref 58), (1, .int x), (2, .int ((nI i) + (1 : Int32)))]) rfl ?_
      rw [nI_1 i, s_vl, if_pos (by assumption)]
      exact ih (i + 1) (by omega) (by omega)
    · skip
      refine c_run 6 (pc' := 53) (ls' := [(0, .ref 58), (1, .int x), (2, .int (nI i))]) (st' := [.int x, .int (nI i), .int ((nI i) - (1 : Int32)), .ref 58]) (μ' := (I, J)) (Nat.le_of_ble_eq_true rfl) rfl ?_
      rw [show (nI i) - (1 : Int32) = nI (i - 1) from k_p1 hi1]
      refine c_cv 77 [.int (nI (i - 1)), .int (nI i), .int x] (b := 58) (r := []) (Nat.le_of_ble_eq_true rfl) rfl rfl rfl rfl rfl rfl (t38_bt3 I J (i - 1) i (by omega) (by omega) x) ?_
      rintro _ _ ⟨rfl, rfl⟩
      show m_W 76 56 [(0, .ref 58), (1, .int x), (2, .int (nI i))] [.long (s_bt ((k_sh 38 (I, J)).1 21) ((k_sh 38 (I, J)).1 22) (i - 1) i x)] (I, J) _
      refine c_lret (Nat.le_of_ble_eq_true rfl) rfl rfl ?_
      refine ⟨?_, rfl⟩
      rw [s_vl, if_neg (by assumption)]

set_option maxRecDepth 100000 in
theorem t38_vol3 (I : Nat → Nat → Int32) (J : Nat → Nat → Int64) (x : Int32) (p : Nat) (hp : (k_sh 38 (I, J)).1 20 0 = nI p) (hp8 : p ≤ 8) : m_W 76 0 (lv_args 0 [.ref 58, .int x]) [] (I, J) (m_E (some (.long (k_vol (k_sh 38 (I, J)) 3 p x))) (I, J)) := by
  show m_W 76 0 [(0, .ref 58), (1, .int x)] [] (I, J) _
  refine c_run 2 (pc' := 4) (ls' := [(0, .ref 58), (1, .int x)]) (st' := [.int ((k_sh 38 (I, J)).1 20 0)]) (μ' := (I, J)) (Nat.le_of_ble_eq_true rfl) rfl ?_
  refine c_ifne 9 (Nat.le_of_ble_eq_true rfl) rfl rfl (fun h1 => ?_) (fun h1 => ?_)
  · skip
    refine c_run 4 (pc' := 15) (ls' := [(0, .ref 58), (1, .int x)]) (st' := [.int 0, .ref 59, .int x]) (μ' := (I, J)) (Nat.le_of_ble_eq_true rfl) rfl ?_
    refine c_ial 0 8 (Nat.le_of_ble_eq_true rfl) rfl rfl rfl rfl rfl (by decide) ?_
    show m_W 76 16 [(0, .ref 58), (1, .int x)] [.int ((k_sh 38 (I, J)).1 21 0), .int x] (I, J) _
    refine c_icgt 27 (Nat.le_of_ble_eq_true rfl) rfl rfl (fun h2 => ?_) (fun h2 => ?_)
    · skip
      refine c_run 2 (pc' := 29) (ls' := [(2, .int 1), (0, .ref 58), (1, .int x)]) (st' := []) (μ' := (I, J)) (Nat.le_of_ble_eq_true rfl) rfl ?_
      refine c_w [1, 2, 0] (ls' := [(0, .ref 58), (1, .int x), (2, .int 1)]) rfl ?_
      have hz : ¬ p = 0 := fun q => absurd (show (k_sh 38 (I, J)).1 20 0 = 0 by rw [hp, q]; rfl) (by assumption)
      rw [k_vol, s_vol, if_neg hz, if_pos (by assumption)]
      exact t38_vl3 I J x p hp hp8 (p - 1) 1 (by omega) (by omega)
    · skip
      refine c_run 3 (pc' := 24) (ls' := [(0, .ref 58), (1, .int x)]) (st' := [.int 0, .ref 60]) (μ' := (I, J)) (Nat.le_of_ble_eq_true rfl) rfl ?_
      refine c_ial 0 8 (Nat.le_of_ble_eq_true rfl) rfl rfl rfl rfl rfl (by decide) ?_
      show m_W 76 25 [(0, .ref 58), (1, .int x)] [.int ((k_sh 38 (I, J)).1 22 0)] (I, J) _
      refine c_run 1 (pc' := 26) (ls' := [(0, .ref 58), (1, .int x)]) (st' := [.long ((((k_sh 38 (I, J)).1 22 0) : Int32).toInt64)]) (μ' := (I, J)) (Nat.le_of_ble_eq_true rfl) rfl ?_
      refine c_lret (Nat.le_of_ble_eq_true rfl) rfl rfl ?_
      refine ⟨?_, rfl⟩
      first
        | (have hz : p = 0 := (nI_eq (by omega) (by omega)).mp (show nI p = nI 0 by rw [← hp]; assumption)
           rw [k_vol, s_vol, if_pos hz])
        | (have hz : ¬ p = 0 := fun q => absurd (show (k_sh 38 (I, J)).1 20 0 = 0 by rw [hp, q]; rfl) (by assumption)
           rw [k_vol, s_vol, if_neg hz, if_neg (by assumption)])
  · skip
    refine c_run 1 (pc' := 8) (ls' := [(0, .ref 58), (1, .int x)]) (st' := [.long 0]) (μ' := (I, J)) (Nat.le_of_ble_eq_true rfl) rfl ?_
    refine c_lret (Nat.le_of_ble_eq_true rfl) rfl rfl ?_
    refine ⟨?_, rfl⟩
    first
      | (have hz : p = 0 := (nI_eq (by omega) (by omega)).mp (show nI p = nI 0 by rw [← hp]; assumption)
         rw [k_vol, s_vol, if_pos hz])
      | (have hz : ¬ p = 0 := fun q => absurd (show (k_sh 38 (I, J)).1 20 0 = 0 by rw [hp, q]; rfl) (by assumption)
         rw [k_vol, s_vol, if_neg hz, if_neg (by assumption)])

set_option maxRecDepth 100000 in
theorem t38_gm3 (I : Nat → Nat → Int32) (J : Nat → Nat → Int64) (x : Int32) (p : Nat) (hp : (k_sh 38 (I, J)).1 20 0 = nI p) (hp8 : p ≤ 8) : m_W 86 0 (lv_args 0 [.ref 39, .int 3, .int x]) [] (I, J) (m_E (some (.long (k_gm (k_sh 38 (I, J)) 3 p x))) (I, J)) := by
  show m_W 86 0 [(0, .ref 39), (1, .int 3), (2, .int x)] [] (I, J) _
  refine c_run 3 (pc' := 5) (ls' := [(0, .ref 39), (1, .int 3), (2, .int x)]) (st' := [.int 3, .ref 48]) (μ' := (I, J)) (Nat.le_of_ble_eq_true rfl) rfl ?_
  refine c_aal 3 4 (Nat.le_of_ble_eq_true rfl) rfl rfl rfl rfl rfl (by decide) ?_
  show m_W 86 6 [(0, .ref 39), (1, .int 3), (2, .int x)] [.ref 58] (I, J) _
  refine c_run 1 (pc' := 7) (ls' := [(0, .ref 39), (1, .int 3), (2, .int x)]) (st' := [.int x, .ref 58]) (μ' := (I, J)) (Nat.le_of_ble_eq_true rfl) rfl ?_
  refine c_cv 76 [.int x] (b := 58) (r := []) (Nat.le_of_ble_eq_true rfl) rfl rfl rfl rfl rfl rfl (t38_vol3 I J x p hp hp8) ?_
  rintro _ _ ⟨rfl, rfl⟩
  show m_W 86 10 [(0, .ref 39), (1, .int 3), (2, .int x)] [.long (k_vol (k_sh 38 (I, J)) 3 p x)] (I, J) _
  refine c_run 3 (pc' := 15) (ls' := [(0, .ref 39), (1, .int 3), (2, .int x)]) (st' := [.int 3, .ref 40, .long (k_vol (k_sh 38 (I, J)) 3 p x)]) (μ' := (I, J)) (Nat.le_of_ble_eq_true rfl) rfl ?_
  refine c_ial 3 4 (Nat.le_of_ble_eq_true rfl) rfl rfl rfl rfl rfl (by decide) ?_
  show m_W 86 16 [(0, .ref 39), (1, .int 3), (2, .int x)] [.int ((k_sh 38 (I, J)).1 2 3), .long (k_vol (k_sh 38 (I, J)) 3 p x)] (I, J) _
  refine c_run 3 (pc' := 21) (ls' := [(0, .ref 39), (1, .int 3), (2, .int x)]) (st' := [.long 1000, .long ((k_vol (k_sh 38 (I, J)) 3 p x) * ((((k_sh 38 (I, J)).1 2 3) : Int32).toInt64))]) (μ' := (I, J)) (Nat.le_of_ble_eq_true rfl) rfl ?_
  refine c_ldiv (Nat.le_of_ble_eq_true rfl) rfl (by decide) ?_
  refine c_lret (Nat.le_of_ble_eq_true rfl) rfl rfl ?_
  exact ⟨rfl, rfl⟩

set_option maxRecDepth 100000 in
theorem t38_iv (I : Nat → Nat → Int32) (J : Nat → Nat → Int64) (t : Nat) (ht : t < 4) : m_W 87 0 (lv_args 0 [.ref 39, .int (nI t)]) [] (I, J) (m_E (some (.long (k_iv (k_sh 38 (I, J)) t))) (I, J)) := by
  show m_W 87 0 [(0, .ref 39), (1, .int (nI t))] [] (I, J) _
  refine c_run 4 (pc' := 6) (ls' := [(0, .ref 39), (1, .int (nI t))]) (st' := [.int (nI t), .ref 46, .long 1]) (μ' := (I, J)) (Nat.le_of_ble_eq_true rfl) rfl ?_
  refine c_lal t 4 (Nat.le_of_ble_eq_true rfl) rfl rfl rfl rfl rfl ht ?_
  show m_W 87 7 [(0, .ref 39), (1, .int (nI t))] [.long ((k_sh 38 (I, J)).2 8 t), .long 1] (I, J) _
  refine c_run 3 (pc' := 12) (ls' := [(0, .ref 39), (1, .int (nI t))]) (st' := [.int (nI t), .ref 47, .long ((k_sh 38 (I, J)).2 8 t), .long 1]) (μ' := (I, J)) (Nat.le_of_ble_eq_true rfl) rfl ?_
  refine c_lal t 4 (Nat.le_of_ble_eq_true rfl) rfl rfl rfl rfl rfl ht ?_
  show m_W 87 13 [(0, .ref 39), (1, .int (nI t))] [.long ((k_sh 38 (I, J)).2 9 t), .long ((k_sh 38 (I, J)).2 8 t), .long 1] (I, J) _
  refine c_run 1 (pc' := 14) (ls' := [(0, .ref 39), (1, .int (nI t))]) (st' := [.long (((k_sh 38 (I, J)).2 8 t) + ((k_sh 38 (I, J)).2 9 t)), .long 1]) (μ' := (I, J)) (Nat.le_of_ble_eq_true rfl) rfl ?_
  refine c_cs 159 [.long 1, .long (((k_sh 38 (I, J)).2 8 t) + ((k_sh 38 (I, J)).2 9 t))] (r := []) (Nat.le_of_ble_eq_true rfl) rfl (Or.inl rfl) rfl rfl rfl (t_max I J 1 (((k_sh 38 (I, J)).2 8 t) + ((k_sh 38 (I, J)).2 9 t))) ?_
  rintro _ _ ⟨rfl, rfl⟩
  show m_W 87 17 [(0, .ref 39), (1, .int (nI t))] [.long (if 1 < (((k_sh 38 (I, J)).2 8 t) + ((k_sh 38 (I, J)).2 9 t)) then (((k_sh 38 (I, J)).2 8 t) + ((k_sh 38 (I, J)).2 9 t)) else 1)] (I, J) _
  refine c_lret (Nat.le_of_ble_eq_true rfl) rfl rfl ?_
  exact ⟨rfl, rfl⟩

set_option maxRecDepth 100000 in
theorem t38_wt (I : Nat → Nat → Int32) (J : Nat → Nat → Int64) (t : Nat) (ht : t < 4) : m_W 88 0 (lv_args 0 [.ref 39, .int (nI t)]) [] (I, J) (m_E (some (.int (k_wt (k_sh 38 (I, J)) t))) (I, J)) := by
  show m_W 88 0 [(0, .ref 39), (1, .int (nI t))] [] (I, J) _
  refine c_run 4 (pc' := 8) (ls' := [(0, .ref 39), (1, .int (nI t))]) (st' := [.int (nI t), .ref 46, .long 1000]) (μ' := (I, J)) (Nat.le_of_ble_eq_true rfl) rfl ?_
  refine c_lal t 4 (Nat.le_of_ble_eq_true rfl) rfl rfl rfl rfl rfl ht ?_
  show m_W 88 9 [(0, .ref 39), (1, .int (nI t))] [.long ((k_sh 38 (I, J)).2 8 t), .long 1000] (I, J) _
  refine c_run 3 (pc' := 12) (ls' := [(0, .ref 39), (1, .int (nI t))]) (st' := [.int (nI t), .ref 39, .long ((1000 : Int64) * ((k_sh 38 (I, J)).2 8 t))]) (μ' := (I, J)) (Nat.le_of_ble_eq_true rfl) rfl ?_
  refine c_cv 87 [.int (nI t)] (b := 39) (r := [.long ((1000 : Int64) * ((k_sh 38 (I, J)).2 8 t))]) (Nat.le_of_ble_eq_true rfl) rfl rfl rfl rfl rfl rfl (t38_iv I J t ht) ?_
  rintro _ _ ⟨rfl, rfl⟩
  show m_W 88 15 [(0, .ref 39), (1, .int (nI t))] [.long (k_iv (k_sh 38 (I, J)) t), .long ((1000 : Int64) * ((k_sh 38 (I, J)).2 8 t))] (I, J) _
  refine c_ldiv (Nat.le_of_ble_eq_true rfl) rfl (k_iv_ne _ _) ?_
  refine c_run 1 (pc' := 17) (ls' := [(0, .ref 39), (1, .int (nI t))]) (st' := [.int (((((1000 : Int64) * ((k_sh 38 (I, J)).2 8 t)) / (k_iv (k_sh 38 (I, J)) t)) : Int64).toInt32)]) (μ' := (I, J)) (Nat.le_of_ble_eq_true rfl) rfl ?_
  refine c_ret (Nat.le_of_ble_eq_true rfl) rfl rfl ⟨by decide, rfl⟩ ?_
  exact ⟨rfl, rfl⟩

set_option maxRecDepth 100000 in
theorem t38_acc (I : Nat → Nat → Int32) (J : Nat → Nat → Int64) (t : Nat) (ht : t < 4) (v : Int64) (l c : Nat) (hl : (k_sh 38 (I, J)).1 30 1 = nI l) (hl2 : l < 24) (hc : (k_sh 38 (I, J)).1 30 0 = nI c) (hc2 : c ≤ 24) : m_W 63 0 (lv_args 0 [.ref 38, .int (nI t), .long v]) [] (I, J) (k_E 38 (I, J) none (k_acc (k_sh 38 (I, J)) t v l c)) := by
  show m_W 63 0 [(0, .ref 38), (1, .int (nI t)), (2, .long v)] [] (I, J) _
  refine c_run 3 (pc' := 5) (ls' := [(0, .ref 38), (1, .int (nI t)), (2, .long v)]) (st' := [.int (nI t), .ref 39]) (μ' := (I, J)) (Nat.le_of_ble_eq_true rfl) rfl ?_
  refine c_cv 88 [.int (nI t)] (b := 39) (r := []) (Nat.le_of_ble_eq_true rfl) rfl rfl rfl rfl rfl rfl (t38_wt I J t ht) ?_
  rintro _ _ ⟨rfl, rfl⟩
  show m_W 63 8 [(0, .ref 38), (1, .int (nI t)), (2, .long v)] [.int (k_wt (k_sh 38 (I, J)) t)] (I, J) _
  refine c_run 6 (pc' := 19) (ls' := [(4, .long (((k_wt (k_sh 38 (I, J)) t) : Int32).toInt64)), (0, .ref 38), (1, .int (nI t)), (2, .long v)]) (st' := [.int (nI t), .ref 45]) (μ' := (I, J)) (Nat.le_of_ble_eq_true rfl) rfl ?_
  refine c_lal t 4 (Nat.le_of_ble_eq_true rfl) rfl rfl rfl rfl rfl ht ?_
  show m_W 63 20 [(4, .long (((k_wt (k_sh 38 (I, J)) t) : Int32).toInt64)), (0, .ref 38), (1, .int (nI t)), (2, .long v)] [.long ((k_sh 38 (I, J)).2 7 t)] (I, J) _
  refine c_run 11 (pc' := 40) (ls' := [(6, .long ((k_sh 38 (I, J)).2 7 t)), (4, .long (((k_wt (k_sh 38 (I, J)) t) : Int32).toInt64)), (0, .ref 38), (1, .int (nI t)), (2, .long v)]) (st' := [.long 1000, .long ((((k_wt (k_sh 38 (I, J)) t) : Int32).toInt64) * v), .long ((k_sh 38 (I, J)).2 7 t), .long 0, .int (nI t), .ref 45]) (μ' := (I, J)) (Nat.le_of_ble_eq_true rfl) rfl ?_
  refine c_cs 157 [.long ((((k_wt (k_sh 38 (I, J)) t) : Int32).toInt64) * v), .long 1000] (r := [.long ((k_sh 38 (I, J)).2 7 t), .long 0, .int (nI t), .ref 45]) (Nat.le_of_ble_eq_true rfl) rfl (Or.inl rfl) rfl rfl rfl (t_floorDiv I J ((((k_wt (k_sh 38 (I, J)) t) : Int32).toInt64) * v) 1000 (by decide)) ?_
  rintro _ _ ⟨rfl, rfl⟩
  show m_W 63 43 [(6, .long ((k_sh 38 (I, J)).2 7 t)), (4, .long (((k_wt (k_sh 38 (I, J)) t) : Int32).toInt64)), (0, .ref 38), (1, .int (nI t)), (2, .long v)] [.long (s_fl ((((k_wt (k_sh 38 (I, J)) t) : Int32).toInt64) * v) (1000 : Int64)), .long ((k_sh 38 (I, J)).2 7 t), .long 0, .int (nI t), .ref 45] (I, J) _
  refine c_run 1 (pc' := 44) (ls' := [(6, .long ((k_sh 38 (I, J)).2 7 t)), (4, .long (((k_wt (k_sh 38 (I, J)) t) : Int32).toInt64)), (0, .ref 38), (1, .int (nI t)), (2, .long v)]) (st' := [.long (((k_sh 38 (I, J)).2 7 t) + (s_fl ((((k_wt (k_sh 38 (I, J)) t) : Int32).toInt64) * v) (1000 : Int64))), .long 0, .int (nI t), .ref 45]) (μ' := (I, J)) (Nat.le_of_ble_eq_true rfl) rfl ?_
  refine c_cs 159 [.long 0, .long (((k_sh 38 (I, J)).2 7 t) + (s_fl ((((k_wt (k_sh 38 (I, J)) t) : Int32).toInt64) * v) (1000 : Int64)))] (r := [.int (nI t), .ref 45]) (Nat.le_of_ble_eq_true rfl) rfl (Or.inl rfl) rfl rfl rfl (t_max I J 0 (((k_sh 38 (I, J)).2 7 t) + (s_fl ((((k_wt (k_sh 38 (I, J)) t) : Int32).toInt64) * v) (1000 : Int64)))) ?_
  rintro _ _ ⟨rfl, rfl⟩
  show m_W 63 47 [(6, .long ((k_sh 38 (I, J)).2 7 t)), (4, .long (((k_wt (k_sh 38 (I, J)) t) : Int32).toInt64)), (0, .ref 38), (1, .int (nI t)), (2, .long v)] [.long (if 0 < (((k_sh 38 (I, J)).2 7 t) + (s_fl ((((k_wt (k_sh 38 (I, J)) t) : Int32).toInt64) * v) (1000 : Int64))) then (((k_sh 38 (I, J)).2 7 t) + (s_fl ((((k_wt (k_sh 38 (I, J)) t) : Int32).toInt64) * v) (1000 : Int64))) else 0), .int (nI t), .ref 45] (I, J) _
  refine c_las t 4 (Nat.le_of_ble_eq_true rfl) rfl rfl rfl rfl rfl ht ?_
  show m_W 63 48 [(6, .long ((k_sh 38 (I, J)).2 7 t)), (4, .long (((k_wt (k_sh 38 (I, J)) t) : Int32).toInt64)), (0, .ref 38), (1, .int (nI t)), (2, .long v)] [] (I, (m_uj J 45 t (if 0 < (((k_sh 38 (I, J)).2 7 t) + (s_fl ((((k_wt (k_sh 38 (I, J)) t) : Int32).toInt64) * v) (1000 : Int64))) then (((k_sh 38 (I, J)).2 7 t) + (s_fl ((((k_wt (k_sh 38 (I, J)) t) : Int32).toInt64) * v) (1000 : Int64))) else 0))) _
  refine c_run 8 (pc' := 64) (ls' := [(6, .long ((k_sh 38 (I, J)).2 7 t)), (4, .long (((k_wt (k_sh 38 (I, J)) t) : Int32).toInt64)), (0, .ref 38), (1, .int (nI t)), (2, .long v)]) (st' := [.int (nI t), .ref 46, .int (nI t), .ref 46]) (μ' := (I, (m_uj J 45 t (if 0 < (((k_sh 38 (I, J)).2 7 t) + (s_fl ((((k_wt (k_sh 38 (I, J)) t) : Int32).toInt64) * v) (1000 : Int64))) then (((k_sh 38 (I, J)).2 7 t) + (s_fl ((((k_wt (k_sh 38 (I, J)) t) : Int32).toInt64) * v) (1000 : Int64))) else 0)))) (Nat.le_of_ble_eq_true rfl) rfl ?_
  refine c_lal t 4 (Nat.le_of_ble_eq_true rfl) rfl rfl rfl rfl rfl ht ?_
  show m_W 63 65 [(6, .long ((k_sh 38 (I, J)).2 7 t)), (4, .long (((k_wt (k_sh 38 (I, J)) t) : Int32).toInt64)), (0, .ref 38), (1, .int (nI t)), (2, .long v)] [.long ((k_sh 38 (I, J)).2 8 t), .int (nI t), .ref 46] (I, (m_uj J 45 t (if 0 < (((k_sh 38 (I, J)).2 7 t) + (s_fl ((((k_wt (k_sh 38 (I, J)) t) : Int32).toInt64) * v) (1000 : Int64))) then (((k_sh 38 (I, J)).2 7 t) + (s_fl ((((k_wt (k_sh 38 (I, J)) t) : Int32).toInt64) * v) (1000 : Int64))) else 0))) _
  refine c_run 5 (pc' := 75) (ls' := [(6, .long ((k_sh 38 (I, J)).2 7 t)), (4, .long (((k_wt (k_sh 38 (I, J)) t) : Int32).toInt64)), (0, .ref 38), (1, .int (nI t)), (2, .long v)]) (st' := [.long 1000, .long (((k_sh 38 (I, J)).2 8 t) * ((1000 : Int64) - (((k_wt (k_sh 38 (I, J)) t) : Int32).toInt64))), .int (nI t), .ref 46]) (μ' := (I, (m_uj J 45 t (if 0 < (((k_sh 38 (I, J)).2 7 t) + (s_fl ((((k_wt (k_sh 38 (I, J)) t) : Int32).toInt64) * v) (1000 : Int64))) then (((k_sh 38 (I, J)).2 7 t) + (s_fl ((((k_wt (k_sh 38 (I, J)) t) : Int32).toInt64) * v) (1000 : Int64))) else 0)))) (Nat.le_of_ble_eq_true rfl) rfl ?_
  refine c_ldiv (Nat.le_of_ble_eq_true rfl) rfl (by decide) ?_
  refine c_las t 4 (Nat.le_of_ble_eq_true rfl) rfl rfl rfl rfl rfl ht ?_
  show m_W 63 77 [(6, .long ((k_sh 38 (I, J)).2 7 t)), (4, .long (((k_wt (k_sh 38 (I, J)) t) : Int32).toInt64)), (0, .ref 38), (1, .int (nI t)), (2, .long v)] [] (I, (m_uj (m_uj J 45 t (if 0 < (((k_sh 38 (I, J)).2 7 t) + (s_fl ((((k_wt (k_sh 38 (I, J)) t) : Int32).toInt64) * v) (1000 : Int64))) then (((k_sh 38 (I, J)).2 7 t) + (s_fl ((((k_wt (k_sh 38 (I, J)) t) : Int32).toInt64) * v) (1000 : Int64))) else 0)) 46 t ((((k_sh 38 (I, J)).2 8 t) * ((1000 : Int64) - (((k_wt (k_sh 38 (I, J)) t) : Int32).toInt64))) / 1000))) _
  refine c_run 10 (pc' := 95) (ls' := [(6, .long ((k_sh 38 (I, J)).2 7 t)), (4, .long (((k_wt (k_sh 38 (I, J)) t) : Int32).toInt64)), (0, .ref 38), (1, .int (nI t)), (2, .long v)]) (st' := [.int (nI t), .ref 45, .int (nI t), .int 2, .int ((k_sh 38 (I, J)).1 0 3), .ref 68]) (μ' := (I, (m_uj (m_uj J 45 t (if 0 < (((k_sh 38 (I, J)).2 7 t) + (s_fl ((((k_wt (k_sh 38 (I, J)) t) : Int32).toInt64) * v) (1000 : Int64))) then (((k_sh 38 (I, J)).2 7 t) + (s_fl ((((k_wt (k_sh 38 (I, J)) t) : Int32).toInt64) * v) (1000 : Int64))) else 0)) 46 t ((((k_sh 38 (I, J)).2 8 t) * ((1000 : Int64) - (((k_wt (k_sh 38 (I, J)) t) : Int32).toInt64))) / 1000)))) (Nat.le_of_ble_eq_true rfl) rfl ?_
  refine c_lal t 4 (Nat.le_of_ble_eq_true rfl) rfl rfl rfl rfl rfl ht ?_
  dsimp only
  rw [show (m_uj (m_uj J 45 t (if 0 < (((k_sh 38 (I, J)).2 7 t) + (s_fl ((((k_wt (k_sh 38 (I, J)) t) : Int32).toInt64) * v) (1000 : Int64))) then (((k_sh 38 (I, J)).2 7 t) + (s_fl ((((k_wt (k_sh 38 (I, J)) t) : Int32).toInt64) * v) (1000 : Int64))) else 0)) 46 t ((((k_sh 38 (I, J)).2 8 t) * ((1000 : Int64) - (((k_wt (k_sh 38 (I, J)) t) : Int32).toInt64))) / 1000)) 45 t = (if 0 < (((k_sh 38 (I, J)).2 7 t) + (s_fl ((((k_wt (k_sh 38 (I, J)) t) : Int32).toInt64) * v) (1000 : Int64))) then (((k_sh 38 (I, J)).2 7 t) + (s_fl ((((k_wt (k_sh 38 (I, J)) t) : Int32).toInt64) * v) (1000 : Int64))) else 0) from (show (m_uj J 45 t (if 0 < (((k_sh 38 (I, J)).2 7 t) + (s_fl ((((k_wt (k_sh 38 (I, J)) t) : Int32).toInt64) * v) (1000 : Int64))) then (((k_sh 38 (I, J)).2 7 t) + (s_fl ((((k_wt (k_sh 38 (I, J)) t) : Int32).toInt64) * v) (1000 : Int64))) else 0)) 45 t = (if 0 < (((k_sh 38 (I, J)).2 7 t) + (s_fl ((((k_wt (k_sh 38 (I, J)) t) : Int32).toInt64) * v) (1000 : Int64))) then (((k_sh 38 (I, J)).2 7 t) + (s_fl ((((k_wt (k_sh 38 (I, J)) t) : Int32).toInt64) * v) (1000 : Int64))) else 0) from m_ujk)]
  show m_W 63 96 [(6, .long ((k_sh 38 (I, J)).2 7 t)), (4, .long (((k_wt (k_sh 38 (I, J)) t) : Int32).toInt64)), (0, .ref 38), (1, .int (nI t)), (2, .long v)] [.long (if 0 < (((k_sh 38 (I, J)).2 7 t) + (s_fl ((((k_wt (k_sh 38 (I, J)) t) : Int32).toInt64) * v) (1000 : Int64))) then (((k_sh 38 (I, J)).2 7 t) + (s_fl ((((k_wt (k_sh 38 (I, J)) t) : Int32).toInt64) * v) (1000 : Int64))) else 0), .int (nI t), .int 2, .int ((k_sh 38 (I, J)).1 0 3), .ref 68] (I, (m_uj (m_uj J 45 t (if 0 < (((k_sh 38 (I, J)).2 7 t) + (s_fl ((((k_wt (k_sh 38 (I, J)) t) : Int32).toInt64) * v) (1000 : Int64))) then (((k_sh 38 (I, J)).2 7 t) + (s_fl ((((k_wt (k_sh 38 (I, J)) t) : Int32).toInt64) * v) (1000 : Int64))) else 0)) 46 t ((((k_sh 38 (I, J)).2 8 t) * ((1000 : Int64) - (((k_wt (k_sh 38 (I, J)) t) : Int32).toInt64))) / 1000))) _
  refine c_run 2 (pc' := 99) (ls' := [(6, .long ((k_sh 38 (I, J)).2 7 t)), (4, .long (((k_wt (k_sh 38 (I, J)) t) : Int32).toInt64)), (0, .ref 38), (1, .int (nI t)), (2, .long v)]) (st' := [.long ((if 0 < (((k_sh 38 (I, J)).2 7 t) + (s_fl ((((k_wt (k_sh 38 (I, J)) t) : Int32).toInt64) * v) (1000 : Int64))) then (((k_sh 38 (I, J)).2 7 t) + (s_fl ((((k_wt (k_sh 38 (I, J)) t) : Int32).toInt64) * v) (1000 : Int64))) else 0) - ((k_sh 38 (I, J)).2 7 t)), .int (nI t), .int 2, .int ((k_sh 38 (I, J)).1 0 3), .ref 68]) (μ' := (I, (m_uj (m_uj J 45 t (if 0 < (((k_sh 38 (I, J)).2 7 t) + (s_fl ((((k_wt (k_sh 38 (I, J)) t) : Int32).toInt64) * v) (1000 : Int64))) then (((k_sh 38 (I, J)).2 7 t) + (s_fl ((((k_wt (k_sh 38 (I, J)) t) : Int32).toInt64) * v) (1000 : Int64))) else 0)) 46 t ((((k_sh 38 (I, J)).2 8 t) * ((1000 : Int64) - (((k_wt (k_sh 38 (I, J)) t) : Int32).toInt64))) / 1000)))) (Nat.le_of_ble_eq_true rfl) rfl ?_
  refine c_cv 72 [.int ((k_sh 38 (I, J)).1 0 3), .int 2, .int (nI t), .long ((if 0 < (((k_sh 38 (I, J)).2 7 t) + (s_fl ((((k_wt (k_sh 38 (I, J)) t) : Int32).toInt64) * v) (1000 : Int64))) then (((k_sh 38 (I, J)).2 7 t) + (s_fl ((((k_wt (k_sh 38 (I, J)) t) : Int32).toInt64) * v) (1000 : Int64))) else 0) - ((k_sh 38 (I, J)).2 7 t))] (b := 68) (r := []) (Nat.le_of_ble_eq_true rfl) rfl rfl rfl rfl rfl rfl (t38_app I (m_uj (m_uj J 45 t (if 0 < (((k_sh 38 (I, J)).2 7 t) + (s_fl ((((k_wt (k_sh 38 (I, J)) t) : Int32).toInt64) * v) (1000 : Int64))) then (((k_sh 38 (I, J)).2 7 t) + (s_fl ((((k_wt (k_sh 38 (I, J)) t) : Int32).toInt64) * v) (1000 : Int64))) else 0)) 46 t ((((k_sh 38 (I, J)).2 8 t) * ((1000 : Int64) - (((k_wt (k_sh 38 (I, J)) t) : Int32).toInt64))) / 1000)) l c ((k_sh 38 (I, J)).1 0 3) 2 (nI t) ((if 0 < (((k_sh 38 (I, J)).2 7 t) + (s_fl ((((k_wt (k_sh 38 (I, J)) t) : Int32).toInt64) * v) (1000 : Int64))) then (((k_sh 38 (I, J)).2 7 t) + (s_fl ((((k_wt (k_sh 38 (I, J)) t) : Int32).toInt64) * v) (1000 : Int64))) else 0) - ((k_sh 38 (I, J)).2 7 t)) hl hl2 hc hc2) ?_
  rintro _ ⟨I1, J1⟩ ⟨rfl, hs1, hf1⟩
  show m_W 63 102 [(6, .long ((k_sh 38 (I, J)).2 7 t)), (4, .long (((k_wt (k_sh 38 (I, J)) t) : Int32).toInt64)), (0, .ref 38), (1, .int (nI t)), (2, .long v)] [] (I1, J1) _
  refine c_vret (Nat.le_of_ble_eq_true rfl) rfl rfl ?_
  refine ⟨?_, ?_, ?_⟩
  · exact rfl
  · rw [hs1, k_uj 8 rfl rfl, k_uj 7 rfl rfl]
    all_goals rfl
  · exact ((((m_fr.rf).uj rfl rfl).uj rfl rfl).tr hf1)

set_option maxRecDepth 100000 in
theorem t38_rd0 (I : Nat → Nat → Int32) (J : Nat → Nat → Int64) (x : Int32) (hx : 0 ≤ x ∧ x ≤ 10000) (ht : k_hasT (k_sh 38 (I, J)) 0) (p : Nat) (hp : (k_sh 38 (I, J)).1 11 0 = nI p) (hp8 : p ≤ 8) (l c : Nat) (hl : (k_sh 38 (I, J)).1 30 1 = nI l) (hl2 : l < 24) (hc : (k_sh 38 (I, J)).1 30 0 = nI c) (hc2 : c ≤ 24) : m_W 62 0 (lv_args 0 [.ref 38, .int 0, .int x]) [] (I, J) (k_E 38 (I, J) (some (.int (k_rd (k_sh 38 (I, J)) 0 p x l c).1)) (k_rd (k_sh 38 (I, J)) 0 p x l c).2) := by
  show m_W 62 0 [(0, .ref 38), (1, .int 0), (2, .int x)] [] (I, J) _
  refine c_run 3 (pc' := 5) (ls' := [(0, .ref 38), (1, .int 0), (2, .int x)]) (st' := [.int 0, .ref 39]) (μ' := (I, J)) (Nat.le_of_ble_eq_true rfl) rfl ?_
  refine c_cv 80 [.int 0] (b := 39) (r := []) (Nat.le_of_ble_eq_true rfl) rfl rfl rfl rfl rfl rfl (t38_hasT I J 0) ?_
  rintro _ _ ⟨rfl, rfl⟩
  show m_W 62 8 [(0, .ref 38), (1, .int 0), (2, .int x)] [.int (s01 (k_hasT (k_sh 38 (I, J)) 0))] (I, J) _
  refine c_ifeq 22 (Nat.le_of_ble_eq_true rfl) rfl rfl (fun h1 => absurd h1 (show ¬ s01 (k_hasT (k_sh 38 (I, J)) 0) = 0 from s01_1.mpr ht)) (fun h1 => ?_)
  refine c_run 3 (pc' := 16) (ls' := [(0, .ref 38), (1, .int 0), (2, .int x)]) (st' := [.int 10000, .int 0, .int x]) (μ' := (I, J)) (Nat.le_of_ble_eq_true rfl) rfl ?_
  refine c_cs 35 [.int x, .int 0, .int 10000] (r := []) (Nat.le_of_ble_eq_true rfl) rfl (Or.inr ⟨rfl, rfl⟩) rfl rfl rfl (t_isWithin I J x 0 10000) ?_
  rintro _ _ ⟨rfl, rfl⟩
  show m_W 62 19 [(0, .ref 38), (1, .int 0), (2, .int x)] [.int (s01 ((0 : Int32) ≤ x ∧ x ≤ (10000 : Int32)))] (I, J) _
  refine c_ifne 24 (Nat.le_of_ble_eq_true rfl) rfl rfl (fun h2 => ?_) (fun h2 => absurd h2 (s01_1.mpr hx))
  refine c_run 4 (pc' := 32) (ls' := [(0, .ref 38), (1, .int 0), (2, .int x)]) (st' := [.int 0, .ref 48]) (μ' := (I, J)) (Nat.le_of_ble_eq_true rfl) rfl ?_
  refine c_aal 0 4 (Nat.le_of_ble_eq_true rfl) rfl rfl rfl rfl rfl (by decide) ?_
  show m_W 62 33 [(0, .ref 38), (1, .int 0), (2, .int x)] [.ref 49] (I, J) _
  refine c_run 1 (pc' := 36) (ls' := [(0, .ref 38), (1, .int 0), (2, .int x)]) (st' := [.int ((k_sh 38 (I, J)).1 11 0)]) (μ' := (I, J)) (Nat.le_of_ble_eq_true rfl) rfl ?_
  refine c_ifne 42 (Nat.le_of_ble_eq_true rfl) rfl rfl (fun h3 => ?_) (fun h3 => ?_)
  · skip
    refine c_run 1 (pc' := 43) (ls' := [(0, .ref 38), (1, .int 0), (2, .int x)]) (st' := [.ref 38]) (μ' := (I, J)) (Nat.le_of_ble_eq_true rfl) rfl ?_
    refine c_cv 51 [] (b := 38) (r := []) (Nat.le_of_ble_eq_true rfl) rfl rfl rfl rfl rfl rfl (t38_set I J) ?_
    rintro _ _ ⟨rfl, rfl⟩
    show m_W 62 46 [(0, .ref 38), (1, .int 0), (2, .int x)] [.int (s01 (k_set (k_sh 38 (I, J))))] (I, J) _
    refine c_ifne 51 (Nat.le_of_ble_eq_true rfl) rfl rfl (fun h4 => ?_) (fun h4 => ?_)
    · replace h4 := s01_1.mp h4
      refine c_run 4 (pc' := 57) (ls' := [(0, .ref 38), (1, .int 0), (2, .int x)]) (st' := [.int x, .int 0, .ref 39]) (μ' := (I, J)) (Nat.le_of_ble_eq_true rfl) rfl ?_
      refine c_cv 86 [.int 0, .int x] (b := 39) (r := []) (Nat.le_of_ble_eq_true rfl) rfl rfl rfl rfl rfl rfl (t38_gm0 I J x p hp hp8) ?_
      rintro _ _ ⟨rfl, rfl⟩
      show m_W 62 60 [(0, .ref 38), (1, .int 0), (2, .int x)] [.long (k_gm (k_sh 38 (I, J)) 0 p x)] (I, J) _
      refine c_run 4 (pc' := 68) (ls' := [(0, .ref 38), (1, .int 0), (2, .int x)]) (st' := [.int 0, .ref 45, .long (k_gm (k_sh 38 (I, J)) 0 p x)]) (μ' := (I, J)) (Nat.le_of_ble_eq_true rfl) rfl ?_
      refine c_lal 0 4 (Nat.le_of_ble_eq_true rfl) rfl rfl rfl rfl rfl (by decide) ?_
      show m_W 62 69 [(0, .ref 38), (1, .int 0), (2, .int x)] [.long ((k_sh 38 (I, J)).2 7 0), .long (k_gm (k_sh 38 (I, J)) 0 p x)] (I, J) _
      refine c_run 11 (pc' := 84) (ls' := [(3, .long ((k_gm (k_sh 38 (I, J)) 0 p x) - ((k_sh 38 (I, J)).2 7 0))), (0, .ref 38), (1, .int 0), (2, .int x)]) (st' := [.int 0, .ref 39, .long ((((k_sh 38 (I, J)).1 0 5) : Int32).toInt64), .long (((k_gm (k_sh 38 (I, J)) 0 p x) - ((k_sh 38 (I, J)).2 7 0)) * ((k_gm (k_sh 38 (I, J)) 0 p x) - ((k_sh 38 (I, J)).2 7 0)))]) (μ' := (I, J)) (Nat.le_of_ble_eq_true rfl) rfl ?_
      refine c_cv 87 [.int 0] (b := 39) (r := [.long ((((k_sh 38 (I, J)).1 0 5) : Int32).toInt64), .long (((k_gm (k_sh 38 (I, J)) 0 p x) - ((k_sh 38 (I, J)).2 7 0)) * ((k_gm (k_sh 38 (I, J)) 0 p x) - ((k_sh 38 (I, J)).2 7 0)))]) (Nat.le_of_ble_eq_true rfl) rfl rfl rfl rfl rfl rfl (t38_iv I J 0 (by decide)) ?_
      rintro _ _ ⟨rfl, rfl⟩
      show m_W 62 87 [(3, .long ((k_gm (k_sh 38 (I, J)) 0 p x) - ((k_sh 38 (I, J)).2 7 0))), (0, .ref 38), (1, .int 0), (2, .int x)] [.long (k_iv (k_sh 38 (I, J)) 0), .long ((((k_sh 38 (I, J)).1 0 5) : Int32).toInt64), .long (((k_gm (k_sh 38 (I, J)) 0 p x) - ((k_sh 38 (I, J)).2 7 0)) * ((k_gm (k_sh 38 (I, J)) 0 p x) - ((k_sh 38 (I, J)).2 7 0)))] (I, J) _
      refine c_run 2 (pc' := 89) (ls' := [(3, .long ((k_gm (k_sh 38 (I, J)) 0 p x) - ((k_sh 38 (I, J)).2 7 0))), (0, .ref 38), (1, .int 0), (2, .int x)]) (st' := [.int (lg_cmp (((k_gm (k_sh 38 (I, J)) 0 p x) - ((k_sh 38 (I, J)).2 7 0)) * ((k_gm (k_sh 38 (I, J)) 0 p x) - ((k_sh 38 (I, J)).2 7 0))) (((((k_sh 38 (I, J)).1 0 5) : Int32).toInt64) * (k_iv (k_sh 38 (I, J)) 0)))]) (μ' := (I, J)) (Nat.le_of_ble_eq_true rfl) rfl ?_
      refine c_ifle 108 (Nat.le_of_ble_eq_true rfl) rfl rfl (fun h5 => ?_) (fun h5 => ?_)
      · replace h5 := lc_le.mp h5
        refine c_run 3 (pc' := 111) (ls' := [(3, .long ((k_gm (k_sh 38 (I, J)) 0 p x) - ((k_sh 38 (I, J)).2 7 0))), (0, .ref 38), (1, .int 0), (2, .int x)]) (st' := [.long ((k_gm (k_sh 38 (I, J)) 0 p x) - ((k_sh 38 (I, J)).2 7 0)), .int 0, .ref 38]) (μ' := (I, J)) (Nat.le_of_ble_eq_true rfl) rfl ?_
        refine c_cv 63 [.int 0, .long ((k_gm (k_sh 38 (I, J)) 0 p x) - ((k_sh 38 (I, J)).2 7 0))] (b := 38) (r := []) (Nat.le_of_ble_eq_true rfl) rfl rfl rfl rfl rfl rfl (t38_acc I J 0 (by decide) ((k_gm (k_sh 38 (I, J)) 0 p x) - ((k_sh 38 (I, J)).2 7 0)) l c hl hl2 hc hc2) ?_
        rintro _ ⟨I1, J1⟩ ⟨rfl, hs1, hf1⟩
        show m_W 62 114 [(3, .long ((k_gm (k_sh 38 (I, J)) 0 p x) - ((k_sh 38 (I, J)).2 7 0))), (0, .ref 38), (1, .int 0), (2, .int x)] [] (I1, J1) _
        refine c_run 1 (pc' := 115) (ls' := [(3, .long ((k_gm (k_sh 38 (I, J)) 0 p x) - ((k_sh 38 (I, J)).2 7 0))), (0, .ref 38), (1, .int 0), (2, .int x)]) (st' := [.int 1]) (μ' := (I1, J1)) (Nat.le_of_ble_eq_true rfl) rfl ?_
        refine c_ret (Nat.le_of_ble_eq_true rfl) rfl rfl ⟨by decide, rfl⟩ ?_
        refine ⟨?_, ?_, ?_⟩
        · first | rfl | (simp only [k_rd, k_inn, if_neg h3, if_pos h4, if_pos h5]; done) | (simp only [k_rd, k_inn, if_neg h3, if_pos h4, if_pos h5]; rfl) | (unfold k_rd k_inn; rw [if_neg h3, if_pos h4, if_pos h5]; done) | (unfold k_rd k_inn; rw [if_neg h3, if_pos h4, if_pos h5]; rfl) | (rw [hs1]; rfl) | (rw [hs1]; simp only [k_rd, k_inn, if_neg h3, if_pos h4, if_pos h5]; done) | (rw [hs1]; simp only [k_rd, k_inn, if_neg h3, if_pos h4, if_pos h5]; rfl) | (rw [hs1]; unfold k_rd k_inn; rw [if_neg h3, if_pos h4, if_pos h5]; done) | (rw [hs1]; unfold k_rd k_inn; rw [if_neg h3, if_pos h4, if_pos h5]; rfl) | (rw [hs1]; rfl) | (rw [hs1]; simp only [k_rd, k_inn, if_neg h3, if_pos h4, if_pos h5]; done) | (rw [hs1]; simp only [k_rd, k_inn, if_neg h3, if_pos h4, if_pos h5]; rfl) | (rw [hs1]; unfold k_rd k_inn; rw [if_neg h3, if_pos h4, if_pos h5]; done) | (rw [hs1]; unfold k_rd k_inn; rw [if_neg h3, if_pos h4, if_pos h5]; rfl)
        · rw [hs1]
          first | rfl | (simp only [k_rd, k_inn, if_neg h3, if_pos h4, if_pos h5]; done) | (simp only [k_rd, k_inn, if_neg h3, if_pos h4, if_pos h5]; rfl) | (unfold k_rd k_inn; rw [if_neg h3, if_pos h4, if_pos h5]; done) | (unfold k_rd k_inn; rw [if_neg h3, if_pos h4, if_pos h5]; rfl)
        · exact ((m_fr.rf).tr hf1)
      · replace h5 := mt lc_le.mpr h5
        refine c_run 7 (pc' := 103) (ls' := [(3, .long ((k_gm (k_sh 38 (I, J)) 0 p x) - ((k_sh 38 (I, J)).2 7 0))), (0, .ref 38), (1, .int 0), (2, .int x)]) (st' := [.long ((k_gm (k_sh 38 (I, J)) 0 p x) - ((k_sh 38 (I, J)).2 7 0)), .int 0, .int 3, .int ((k_sh 38 (I, J)).1 0 3), .ref 68]) (μ' := (I, J)) (Nat.le_of_ble_eq_true rfl) rfl ?_
        refine c_cv 72 [.int ((k_sh 38 (I, J)).1 0 3), .int 3, .int 0, .long ((k_gm (k_sh 38 (I, J)) 0 p x) - ((k_sh 38 (I, J)).2 7 0))] (b := 68) (r := []) (Nat.le_of_ble_eq_true rfl) rfl rfl rfl rfl rfl rfl (t38_app I J l c ((k_sh 38 (I, J)).1 0 3) 3 0 ((k_gm (k_sh 38 (I, J)) 0 p x) - ((k_sh 38 (I, J)).2 7 0)) hl hl2 hc hc2) ?_
        rintro _ ⟨I2, J2⟩ ⟨rfl, hs2, hf2⟩
        show m_W 62 106 [(3, .long ((k_gm (k_sh 38 (I, J)) 0 p x) - ((k_sh 38 (I, J)).2 7 0))), (0, .ref 38), (1, .int 0), (2, .int x)] [] (I2, J2) _
        refine c_run 1 (pc' := 107) (ls' := [(3, .long ((k_gm (k_sh 38 (I, J)) 0 p x) - ((k_sh 38 (I, J)).2 7 0))), (0, .ref 38), (1, .int 0), (2, .int x)]) (st' := [.int 2]) (μ' := (I2, J2)) (Nat.le_of_ble_eq_true rfl) rfl ?_
        refine c_ret (Nat.le_of_ble_eq_true rfl) rfl rfl ⟨by decide, rfl⟩ ?_
        refine ⟨?_, ?_, ?_⟩
        · first | rfl | (simp only [k_rd, k_inn, if_neg h3, if_pos h4, if_neg h5]; done) | (simp only [k_rd, k_inn, if_neg h3, if_pos h4, if_neg h5]; rfl) | (unfold k_rd k_inn; rw [if_neg h3, if_pos h4, if_neg h5]; done) | (unfold k_rd k_inn; rw [if_neg h3, if_pos h4, if_neg h5]; rfl) | (rw [hs2]; rfl) | (rw [hs2]; simp only [k_rd, k_inn, if_neg h3, if_pos h4, if_neg h5]; done) | (rw [hs2]; simp only [k_rd, k_inn, if_neg h3, if_pos h4, if_neg h5]; rfl) | (rw [hs2]; unfold k_rd k_inn; rw [if_neg h3, if_pos h4, if_neg h5]; done) | (rw [hs2]; unfold k_rd k_inn; rw [if_neg h3, if_pos h4, if_neg h5]; rfl) | (rw [hs2]; rfl) | (rw [hs2]; simp only [k_rd, k_inn, if_neg h3, if_pos h4, if_neg h5]; done) | (rw [hs2]; simp only [k_rd, k_inn, if_neg h3, if_pos h4, if_neg h5]; rfl) | (rw [hs2]; unfold k_rd k_inn; rw [if_neg h3, if_pos h4, if_neg h5]; done) | (rw [hs2]; unfold k_rd k_inn; rw [if_neg h3, if_pos h4, if_neg h5]; rfl)
        · rw [hs2]
          first | rfl | (simp only [k_rd, k_inn, if_neg h3, if_pos h4, if_neg h5]; done) | (simp only [k_rd, k_inn, if_neg h3, if_pos h4, if_neg h5]; rfl) | (unfold k_rd k_inn; rw [if_neg h3, if_pos h4, if_neg h5]; done) | (unfold k_rd k_inn; rw [if_neg h3, if_pos h4, if_neg h5]; rfl)
        · exact ((m_fr.rf).tr hf2)
    · replace h4 := s01_0.mp h4
      refine c_run 1 (pc' := 50) (ls' := [(0, .ref 38), (1, .int 0), (2, .int x)]) (st' := [.int 3]) (μ' := (I, J)) (Nat.le_of_ble_eq_true rfl) rfl ?_
      refine c_ret (Nat.le_of_ble_eq_true rfl) rfl rfl ⟨by decide, rfl⟩ ?_
      refine ⟨?_, ?_, ?_⟩
      · first | rfl | (simp only [k_rd, k_inn, if_neg h3, if_neg h4]; done) | (simp only [k_rd, k_inn, if_neg h3, if_neg h4]; rfl) | (unfold k_rd k_inn; rw [if_neg h3, if_neg h4]; done) | (unfold k_rd k_inn; rw [if_neg h3, if_neg h4]; rfl)
      · skip
        first | rfl | (simp only [k_rd, k_inn, if_neg h3, if_neg h4]; done) | (simp only [k_rd, k_inn, if_neg h3, if_neg h4]; rfl) | (unfold k_rd k_inn; rw [if_neg h3, if_neg h4]; done) | (unfold k_rd k_inn; rw [if_neg h3, if_neg h4]; rfl)
      · exact (m_fr.rf)
  · skip
    refine c_run 1 (pc' := 41) (ls' := [(0, .ref 38), (1, .int 0), (2, .int x)]) (st' := [.int (-2)]) (μ' := (I, J)) (Nat.le_of_ble_eq_true rfl) rfl ?_
    refine c_ret (Nat.le_of_ble_eq_true rfl) rfl rfl ⟨by decide, rfl⟩ ?_
    refine ⟨?_, ?_, ?_⟩
    · first | rfl | (simp only [k_rd, k_inn, if_pos h3]; done) | (simp only [k_rd, k_inn, if_pos h3]; rfl) | (unfold k_rd k_inn; rw [if_pos h3]; done) | (unfold k_rd k_inn; rw [if_pos h3]; rfl)
    · skip
      first | rfl | (simp only [k_rd, k_inn, if_pos h3]; done) | (simp only [k_rd, k_inn, if_pos h3]; rfl) | (unfold k_rd k_inn; rw [if_pos h3]; done) | (unfold k_rd k_inn; rw [if_pos h3]; rfl)
    · exact (m_fr.rf)

set_option maxRecDepth 100000 in
theorem t38_rd1 (I : Nat → Nat → Int32) (J : Nat → Nat → Int64) (x : Int32) (hx : 0 ≤ x ∧ x ≤ 10000) (ht : k_hasT (k_sh 38 (I, J)) 1) (p : Nat) (hp : (k_sh 38 (I, J)).1 14 0 = nI p) (hp8 : p ≤ 8) (l c : Nat) (hl : (k_sh 38 (I, J)).1 30 1 = nI l) (hl2 : l < 24) (hc : (k_sh 38 (I, J)).1 30 0 = nI c) (hc2 : c ≤ 24) : m_W 62 0 (lv_args 0 [.ref 38, .int 1, .int x]) [] (I, J) (k_E 38 (I, J) (some (.int (k_rd (k_sh 38 (I, J)) 1 p x l c).1)) (k_rd (k_sh 38 (I, J)) 1 p x l c).2) := by
  show m_W 62 0 [(0, .ref 38), (1, .int 1), (2, .int x)] [] (I, J) _
  refine c_run 3 (pc' := 5) (ls' := [(0, .ref 38), (1, .int 1), (2, .int x)]) (st' := [.int 1, .ref 39]) (μ' := (I, J)) (Nat.le_of_ble_eq_true rfl) rfl ?_
  refine c_cv 80 [.int 1] (b := 39) (r := []) (Nat.le_of_ble_eq_true rfl) rfl rfl rfl rfl rfl rfl (t38_hasT I J 1) ?_
  rintro _ _ ⟨rfl, rfl⟩
  show m_W 62 8 [(0, .ref 38), (1, .int 1), (2, .int x)] [.int (s01 (k_hasT (k_sh 38 (I, J)) 1))] (I, J) _
  refine c_ifeq 22 (Nat.le_of_ble_eq_true rfl) rfl rfl (fun h1 => absurd h1 (show ¬ s01 (k_hasT (k_sh 38 (I, J)) 1) = 0 from s01_1.mpr ht)) (fun h1 => ?_)
  refine c_run 3 (pc' := 16) (ls' := [(0, .ref 38), (1, .int 1), (2, .int x)]) (st' := [.int 10000, .int 0, .int x]) (μ' := (I, J)) (Nat.le_of_ble_eq_true rfl) rfl ?_
  refine c_cs 35 [.int x, .int 0, .int 10000] (r := []) (Nat.le_of_ble_eq_true rfl) rfl (Or.inr ⟨rfl, rfl⟩) rfl rfl rfl (t_isWithin I J x 0 10000) ?_
  rintro _ _ ⟨rfl, rfl⟩
  show m_W 62 19 [(0, .ref 38), (1, .int 1), (2, .int x)] [.int (s01 ((0 : Int32) ≤ x ∧ x ≤ (10000 : Int32)))] (I, J) _
  refine c_ifne 24 (Nat.le_of_ble_eq_true rfl) rfl rfl (fun h2 => ?_) (fun h2 => absurd h2 (s01_1.mpr hx))
  refine c_run 4 (pc' := 32) (ls' := [(0, .ref 38), (1, .int 1), (2, .int x)]) (st' := [.int 1, .ref 48]) (μ' := (I, J)) (Nat.le_of_ble_eq_true rfl) rfl ?_
  refine c_aal 1 4 (Nat.le_of_ble_eq_true rfl) rfl rfl rfl rfl rfl (by decide) ?_
  show m_W 62 33 [(0, .ref 38), (1, .int 1), (2, .int x)] [.ref 52] (I, J) _
  refine c_run 1 (pc' := 36) (ls' := [(0, .ref 38), (1, .int 1), (2, .int x)]) (st' := [.int ((k_sh 38 (I, J)).1 14 0)]) (μ' := (I, J)) (Nat.le_of_ble_eq_true rfl) rfl ?_
  refine c_ifne 42 (Nat.le_of_ble_eq_true rfl) rfl rfl (fun h3 => ?_) (fun h3 => ?_)
  · skip
    refine c_run 1 (pc' := 43) (ls' := [(0, .ref 38), (1, .int 1), (2, .int x)]) (st' := [.ref 38]) (μ' := (I, J)) (Nat.le_of_ble_eq_true rfl) rfl ?_
    refine c_cv 51 [] (b := 38) (r := []) (Nat.le_of_ble_eq_true rfl) rfl rfl rfl rfl rfl rfl (t38_set I J) ?_
    rintro _ _ ⟨rfl, rfl⟩
    show m_W 62 46 [(0, .ref 38), (1, .int 1), (2, .int x)] [.int (s01 (k_set (k_sh 38 (I, J))))] (I, J) _
    refine c_ifne 51 (Nat.le_of_ble_eq_true rfl) rfl rfl (fun h4 => ?_) (fun h4 => ?_)
    · replace h4 := s01_1.mp h4
      refine c_run 4 (pc' := 57) (ls' := [(0, .ref 38), (1, .int 1), (2, .int x)]) (st' := [.int x, .int 1, .ref 39]) (μ' := (I, J)) (Nat.le_of_ble_eq_true rfl) rfl ?_
      refine c_cv 86 [.int 1, .int x] (b := 39) (r := []) (Nat.le_of_ble_eq_true rfl) rfl rfl rfl rfl rfl rfl (t38_gm1 I J x p hp hp8) ?_
      rintro _ _ ⟨rfl, rfl⟩
      show m_W 62 60 [(0, .ref 38), (1, .int 1), (2, .int x)] [.long (k_gm (k_sh 38 (I, J)) 1 p x)] (I, J) _
      refine c_run 4 (pc' := 68) (ls' := [(0, .ref 38), (1, .int 1), (2, .int x)]) (st' := [.int 1, .ref 45, .long (k_gm (k_sh 38 (I, J)) 1 p x)]) (μ' := (I, J)) (Nat.le_of_ble_eq_true rfl) rfl ?_
      refine c_lal 1 4 (Nat.le_of_ble_eq_true rfl) rfl rfl rfl rfl rfl (by decide) ?_
      show m_W 62 69 [(0, .ref 38), (1, .int 1), (2, .int x)] [.long ((k_sh 38 (I, J)).2 7 1), .long (k_gm (k_sh 38 (I, J)) 1 p x)] (I, J) _
      refine c_run 11 (pc' := 84) (ls' := [(3, .long ((k_gm (k_sh 38 (I, J)) 1 p x) - ((k_sh 38 (I, J)).2 7 1))), (0, .ref 38), (1, .int 1), (2, .int x)]) (st' := [.int 1, .ref 39, .long ((((k_sh 38 (I, J)).1 0 5) : Int32).toInt64), .long (((k_gm (k_sh 38 (I, J)) 1 p x) - ((k_sh 38 (I, J)).2 7 1)) * ((k_gm (k_sh 38 (I, J)) 1 p x) - ((k_sh 38 (I, J)).2 7 1)))]) (μ' := (I, J)) (Nat.le_of_ble_eq_true rfl) rfl ?_
      refine c_cv 87 [.int 1] (b := 39) (r := [.long ((((k_sh 38 (I, J)).1 0 5) : Int32).toInt64), .long (((k_gm (k_sh 38 (I, J)) 1 p x) - ((k_sh 38 (I, J)).2 7 1)) * ((k_gm (k_sh 38 (I, J)) 1 p x) - ((k_sh 38 (I, J)).2 7 1)))]) (Nat.le_of_ble_eq_true rfl) rfl rfl rfl rfl rfl rfl (t38_iv I J 1 (by decide)) ?_
      rintro _ _ ⟨rfl, rfl⟩
      show m_W 62 87 [(3, .long ((k_gm (k_sh 38 (I, J)) 1 p x) - ((k_sh 38 (I, J)).2 7 1))), (0, .ref 38), (1, .int 1), (2, .int x)] [.long (k_iv (k_sh 38 (I, J)) 1), .long ((((k_sh 38 (I, J)).1 0 5) : Int32).toInt64), .long (((k_gm (k_sh 38 (I, J)) 1 p x) - ((k_sh 38 (I, J)).2 7 1)) * ((k_gm (k_sh 38 (I, J)) 1 p x) - ((k_sh 38 (I, J)).2 7 1)))] (I, J) _
      refine c_run 2 (pc' := 89) (ls' := [(3, .long ((k_gm (k_sh 38 (I, J)) 1 p x) - ((k_sh 38 (I, J)).2 7 1))), (0, .ref 38), (1, .int 1), (2, .int x)]) (st' := [.int (lg_cmp (((k_gm (k_sh 38 (I, J)) 1 p x) - ((k_sh 38 (I, J)).2 7 1)) * ((k_gm (k_sh 38 (I, J)) 1 p x) - ((k_sh 38 (I, J)).2 7 1))) (((((k_sh 38 (I, J)).1 0 5) : Int32).toInt64) * (k_iv (k_sh 38 (I, J)) 1)))]) (μ' := (I, J)) (Nat.le_of_ble_eq_true rfl) rfl ?_
      refine c_ifle 108 (Nat.le_of_ble_eq_true rfl) rfl rfl (fun h5 => ?_) (fun h5 => ?_)
      · replace h5 := lc_le.mp h5
        refine c_run 3 (pc' := 111) (ls' := [(3, .long ((k_gm (k_sh 38 (I, J)) 1 p x) - ((k_sh 38 (I, J)).2 7 1))), (0, .ref 38), (1, .int 1), (2, .int x)]) (st' := [.long ((k_gm (k_sh 38 (I, J)) 1 p x) - ((k_sh 38 (I, J)).2 7 1)), .int 1, .ref 38]) (μ' := (I, J)) (Nat.le_of_ble_eq_true rfl) rfl ?_
        refine c_cv 63 [.int 1, .long ((k_gm (k_sh 38 (I, J)) 1 p x) - ((k_sh 38 (I, J)).2 7 1))] (b := 38) (r := []) (Nat.le_of_ble_eq_true rfl) rfl rfl rfl rfl rfl rfl (t38_acc I J 1 (by decide) ((k_gm (k_sh 38 (I, J)) 1 p x) - ((k_sh 38 (I, J)).2 7 1)) l c hl hl2 hc hc2) ?_
        rintro _ ⟨I1, J1⟩ ⟨rfl, hs1, hf1⟩
        show m_W 62 114 [(3, .long ((k_gm (k_sh 38 (I, J)) 1 p x) - ((k_sh 38 (I, J)).2 7 1))), (0, .ref 38), (1, .int 1), (2, .int x)] [] (I1, J1) _
        refine c_run 1 (pc' := 115) (ls' := [(3, .long ((k_gm (k_sh 38 (I, J)) 1 p x) - ((k_sh 38 (I, J)).2 7 1))), (0, .ref 38), (1, .int 1), (2, .int x)]) (st' := [.int 1]) (μ' := (I1, J1)) (Nat.le_of_ble_eq_true rfl) rfl ?_
        refine c_ret (Nat.le_of_ble_eq_true rfl) rfl rfl ⟨by decide, rfl⟩ ?_
        refine ⟨?_, ?_, ?_⟩
        · first | rfl | (simp only [k_rd, k_inn, if_neg h3, if_pos h4, if_pos h5]; done) | (simp only [k_rd, k_inn, if_neg h3, if_pos h4, if_pos h5]; rfl) | (unfold k_rd k_inn; rw [if_neg h3, if_pos h4, if_pos h5]; done) | (unfold k_rd k_inn; rw [if_neg h3, if_pos h4, if_pos h5]; rfl) | (rw [hs1]; rfl) | (rw [hs1]; simp only [k_rd, k_inn, if_neg h3, if_pos h4, if_pos h5]; done) | (rw [hs1]; simp only [k_rd, k_inn, if_neg h3, if_pos h4, if_pos h5]; rfl) | (rw [hs1]; unfold k_rd k_inn; rw [if_neg h3, if_pos h4, if_pos h5]; done) | (rw [hs1]; unfold k_rd k_inn; rw [if_neg h3, if_pos h4, if_pos h5]; rfl) | (rw [hs1]; rfl) | (rw [hs1]; simp only [k_rd, k_inn, if_neg h3, if_pos h4, if_pos h5]; done) | (rw [hs1]; simp only [k_rd, k_inn, if_neg h3, if_pos h4, if_pos h5]; rfl) | (rw [hs1]; unfold k_rd k_inn; rw [if_neg h3, if_pos h4, if_pos h5]; done) | (rw [hs1]; unfold k_rd k_inn; rw [if_neg h3, if_pos h4, if_pos h5]; rfl)
        · rw [hs1]
          first | rfl | (simp only [k_rd, k_inn, if_neg h3, if_pos h4, if_pos h5]; done) | (simp only [k_rd, k_inn, if_neg h3, if_pos h4, if_pos h5]; rfl) | (unfold k_rd k_inn; rw [if_neg h3, if_pos h4, if_pos h5]; done) | (unfold k_rd k_inn; rw [if_neg h3, if_pos h4, if_pos h5]; rfl)
        · exact ((m_fr.rf).tr hf1)
      · replace h5 := mt lc_le.mpr h5
        refine c_run 7 (pc' := 103) (ls' := [(3, .long ((k_gm (k_sh 38 (I, J)) 1 p x) - ((k_sh 38 (I, J)).2 7 1))), (0, .ref 38), (1, .int 1), (2, .int x)]) (st' := [.long ((k_gm (k_sh 38 (I, J)) 1 p x) - ((k_sh 38 (I, J)).2 7 1)), .int 1, .int 3, .int ((k_sh 38 (I, J)).1 0 3), .ref 68]) (μ' := (I, J)) (Nat.le_of_ble_eq_true rfl) rfl ?_
        refine c_cv 72 [.int ((k_sh 38 (I, J)).1 0 3), .int 3, .int 1, .long ((k_gm (k_sh 38 (I, J)) 1 p x) - ((k_sh 38 (I, J)).2 7 1))] (b := 68) (r := []) (Nat.le_of_ble_eq_true rfl) rfl rfl rfl rfl rfl rfl (t38_app I J l c ((k_sh 38 (I, J)).1 0 3) 3 1 ((k_gm (k_sh 38 (I, J)) 1 p x) - ((k_sh 38 (I, J)).2 7 1)) hl hl2 hc hc2) ?_
        rintro _ ⟨I2, J2⟩ ⟨rfl, hs2, hf2⟩
        show m_W 62 106 [(3, .long ((k_gm (k_sh 38 (I, J)) 1 p x) - ((k_sh 38 (I, J)).2 7 1))), (0, .ref 38), (1, .int 1), (2, .int x)] [] (I2, J2) _
        refine c_run 1 (pc' := 107) (ls' := [(3, .long ((k_gm (k_sh 38 (I, J)) 1 p x) - ((k_sh 38 (I, J)).2 7 1))), (0, .ref 38), (1, .int 1), (2, .int x)]) (st' := [.int 2]) (μ' := (I2, J2)) (Nat.le_of_ble_eq_true rfl) rfl ?_
        refine c_ret (Nat.le_of_ble_eq_true rfl) rfl rfl ⟨by decide, rfl⟩ ?_
        refine ⟨?_, ?_, ?_⟩
        · first | rfl | (simp only [k_rd, k_inn, if_neg h3, if_pos h4, if_neg h5]; done) | (simp only [k_rd, k_inn, if_neg h3, if_pos h4, if_neg h5]; rfl) | (unfold k_rd k_inn; rw [if_neg h3, if_pos h4, if_neg h5]; done) | (unfold k_rd k_inn; rw [if_neg h3, if_pos h4, if_neg h5]; rfl) | (rw [hs2]; rfl) | (rw [hs2]; simp only [k_rd, k_inn, if_neg h3, if_pos h4, if_neg h5]; done) | (rw [hs2]; simp only [k_rd, k_inn, if_neg h3, if_pos h4, if_neg h5]; rfl) | (rw [hs2]; unfold k_rd k_inn; rw [if_neg h3, if_pos h4, if_neg h5]; done) | (rw [hs2]; unfold k_rd k_inn; rw [if_neg h3, if_pos h4, if_neg h5]; rfl) | (rw [hs2]; rfl) | (rw [hs2]; simp only [k_rd, k_inn, if_neg h3, if_pos h4, if_neg h5]; done) | (rw [hs2]; simp only [k_rd, k_inn, if_neg h3, if_pos h4, if_neg h5]; rfl) | (rw [hs2]; unfold k_rd k_inn; rw [if_neg h3, if_pos h4, if_neg h5]; done) | (rw [hs2]; unfold k_rd k_inn; rw [if_neg h3, if_pos h4, if_neg h5]; rfl)
        · rw [hs2]
          first | rfl | (simp only [k_rd, k_inn, if_neg h3, if_pos h4, if_neg h5]; done) | (simp only [k_rd, k_inn, if_neg h3, if_pos h4, if_neg h5]; rfl) | (unfold k_rd k_inn; rw [if_neg h3, if_pos h4, if_neg h5]; done) | (unfold k_rd k_inn; rw [if_neg h3, if_pos h4, if_neg h5]; rfl)
        · exact ((m_fr.rf).tr hf2)
    · replace h4 := s01_0.mp h4
      refine c_run 1 (pc' := 50) (ls' := [(0, .ref 38), (1, .int 1), (2, .int x)]) (st' := [.int 3]) (μ' := (I, J)) (Nat.le_of_ble_eq_true rfl) rfl ?_
      refine c_ret (Nat.le_of_ble_eq_true rfl) rfl rfl ⟨by decide, rfl⟩ ?_
      refine ⟨?_, ?_, ?_⟩
      · first | rfl | (simp only [k_rd, k_inn, if_neg h3, if_neg h4]; done) | (simp only [k_rd, k_inn, if_neg h3, if_neg h4]; rfl) | (unfold k_rd k_inn; rw [if_neg h3, if_neg h4]; done) | (unfold k_rd k_inn; rw [if_neg h3, if_neg h4]; rfl)
      · skip
        first | rfl | (simp only [k_rd, k_inn, if_neg h3, if_neg h4]; done) | (simp only [k_rd, k_inn, if_neg h3, if_neg h4]; rfl) | (unfold k_rd k_inn; rw [if_neg h3, if_neg h4]; done) | (unfold k_rd k_inn; rw [if_neg h3, if_neg h4]; rfl)
      · exact (m_fr.rf)
  · skip
    refine c_run 1 (pc' := 41) (ls' := [(0, .ref 38), (1, .int 1), (2, .int x)]) (st' := [.int (-2)]) (μ' := (I, J)) (Nat.le_of_ble_eq_true rfl) rfl ?_
    refine c_ret (Nat.le_of_ble_eq_true rfl) rfl rfl ⟨by decide, rfl⟩ ?_
    refine ⟨?_, ?_, ?_⟩
    · first | rfl | (simp only [k_rd, k_inn, if_pos h3]; done) | (simp only [k_rd, k_inn, if_pos h3]; rfl) | (unfold k_rd k_inn; rw [if_pos h3]; done) | (unfold k_rd k_inn; rw [if_pos h3]; rfl)
    · skip
      first | rfl | (simp only [k_rd, k_inn, if_pos h3]; done) | (simp only [k_rd, k_inn, if_pos h3]; rfl) | (unfold k_rd k_inn; rw [if_pos h3]; done) | (unfold k_rd k_inn; rw [if_pos h3]; rfl)
    · exact (m_fr.rf)

set_option maxRecDepth 100000 in
theorem t38_rd2 (I : Nat → Nat → Int32) (J : Nat → Nat → Int64) (x : Int32) (hx : 0 ≤ x ∧ x ≤ 10000) (ht : k_hasT (k_sh 38 (I, J)) 2) (p : Nat) (hp : (k_sh 38 (I, J)).1 17 0 = nI p) (hp8 : p ≤ 8) (l c : Nat) (hl : (k_sh 38 (I, J)).1 30 1 = nI l) (hl2 : l < 24) (hc : (k_sh 38 (I, J)).1 30 0 = nI c) (hc2 : c ≤ 24) : m_W 62 0 (lv_args 0 [.ref 38, .int 2, .int x]) [] (I, J) (k_E 38 (I, J) (some (.int (k_rd (k_sh 38 (I, J)) 2 p x l c).1)) (k_rd (k_sh 38 (I, J)) 2 p x l c).2) := by
  show m_W 62 0 [(0, .ref 38), (1, .int 2), (2, .int x)] [] (I, J) _
  refine c_run 3 (pc' := 5) (ls' := [(0, .ref 38), (1, .int 2), (2, .int x)]) (st' := [.int 2, .ref 39]) (μ' := (I, J)) (Nat.le_of_ble_eq_true rfl) rfl ?_
  refine c_cv 80 [.int 2] (b := 39) (r := []) (Nat.le_of_ble_eq_true rfl) rfl rfl rfl rfl rfl rfl (t38_hasT I J 2) ?_
  rintro _ _ ⟨rfl, rfl⟩
  show m_W 62 8 [(0, .ref 38), (1, .int 2), (2, .int x)] [.int (s01 (k_hasT (k_sh 38 (I, J)) 2))] (I, J) _
  refine c_ifeq 22 (Nat.le_of_ble_eq_true rfl) rfl rfl (fun h1 => absurd h1 (show ¬ s01 (k_hasT (k_sh 38 (I, J)) 2) = 0 from s01_1.mpr ht)) (fun h1 => ?_)
  refine c_run 3 (pc' := 16) (ls' := [(0, .ref 38), (1, .int 2), (2, .int x)]) (st' := [.int 10000, .int 0, .int x]) (μ' := (I, J)) (Nat.le_of_ble_eq_true rfl) rfl ?_
  refine c_cs 35 [.int x, .int 0, .int 10000] (r := []) (Nat.le_of_ble_eq_true rfl) rfl (Or.inr ⟨rfl, rfl⟩) rfl rfl rfl (t_isWithin I J x 0 10000) ?_
  rintro _ _ ⟨rfl, rfl⟩
  show m_W 62 19 [(0, .ref 38), (1, .int 2), (2, .int x)] [.int (s01 ((0 : Int32) ≤ x ∧ x ≤ (10000 : Int32)))] (I, J) _
  refine c_ifne 24 (Nat.le_of_ble_eq_true rfl) rfl rfl (fun h2 => ?_) (fun h2 => absurd h2 (s01_1.mpr hx))
  refine c_run 4 (pc' := 32) (ls' := [(0, .ref 38), (1, .int 2), (2, .int x)]) (st' := [.int 2, .ref 48]) (μ' := (I, J)) (Nat.le_of_ble_eq_true rfl) rfl ?_
  refine c_aal 2 4 (Nat.le_of_ble_eq_true rfl) rfl rfl rfl rfl rfl (by decide) ?_
  show m_W 62 33 [(0, .ref 38), (1, .int 2), (2, .int x)] [.ref 55] (I, J) _
  refine c_run 1 (pc' := 36) (ls' := [(0, .ref 38), (1, .int 2), (2, .int x)]) (st' := [.int ((k_sh 38 (I, J)).1 17 0)]) (μ' := (I, J)) (Nat.le_of_ble_eq_true rfl) rfl ?_
  refine c_ifne 42 (Nat.le_of_ble_eq_true rfl) rfl rfl (fun h3 => ?_) (fun h3 => ?_)
  · skip
    refine c_run 1 (pc' := 43) (ls' := [(0, .ref 38), (1, .int 2), (2, .int x)]) (st' := [.ref 38]) (μ' := (I, J)) (Nat.le_of_ble_eq_true rfl) rfl ?_
    refine c_cv 51 [] (b := 38) (r := []) (Nat.le_of_ble_eq_true rfl) rfl rfl rfl rfl rfl rfl (t38_set I J) ?_
    rintro _ _ ⟨rfl, rfl⟩
    show m_W 62 46 [(0, .ref 38), (1, .int 2), (2, .int x)] [.int (s01 (k_set (k_sh 38 (I, J))))] (I, J) _
    refine c_ifne 51 (Nat.le_of_ble_eq_true rfl) rfl rfl (fun h4 => ?_) (fun h4 => ?_)
    · replace h4 := s01_1.mp h4
      refine c_run 4 (pc' := 57) (ls' := [(0, .ref 38), (1, .int 2), (2, .int x)]) (st' := [.int x, .int 2, .ref 39]) (μ' := (I, J)) (Nat.le_of_ble_eq_true rfl) rfl ?_
      refine c_cv 86 [.int 2, .int x] (b := 39) (r := []) (Nat.le_of_ble_eq_true rfl) rfl rfl rfl rfl rfl rfl (t38_gm2 I J x p hp hp8) ?_
      rintro _ _ ⟨rfl, rfl⟩
      show m_W 62 60 [(0, .ref 38), (1, .int 2), (2, .int x)] [.long (k_gm (k_sh 38 (I, J)) 2 p x)] (I, J) _
      refine c_run 4 (pc' := 68) (ls' := [(0, .ref 38), (1, .int 2), (2, .int x)]) (st' := [.int 2, .ref 45, .long (k_gm (k_sh 38 (I, J)) 2 p x)]) (μ' := (I, J)) (Nat.le_of_ble_eq_true rfl) rfl ?_
      refine c_lal 2 4 (Nat.le_of_ble_eq_true rfl) rfl rfl rfl rfl rfl (by decide) ?_
      show m_W 62 69 [(0, .ref 38), (1, .int 2), (2, .int x)] [.long ((k_sh 38 (I, J)).2 7 2), .long (k_gm (k_sh 38 (I, J)) 2 p x)] (I, J) _
      refine c_run 11 (pc' := 84) (ls' := [(3, .long ((k_gm (k_sh 38 (I, J)) 2 p x) - ((k_sh 38 (I, J)).2 7 2))), (0, .ref 38), (1, .int 2), (2, .int x)]) (st' := [.int 2, .ref 39, .long ((((k_sh 38 (I, J)).1 0 5) : Int32).toInt64), .long (((k_gm (k_sh 38 (I, J)) 2 p x) - ((k_sh 38 (I, J)).2 7 2)) * ((k_gm (k_sh 38 (I, J)) 2 p x) - ((k_sh 38 (I, J)).2 7 2)))]) (μ' := (I, J)) (Nat.le_of_ble_eq_true rfl) rfl ?_
      refine c_cv 87 [.int 2] (b := 39) (r := [.long ((((k_sh 38 (I, J)).1 0 5) : Int32).toInt64), .long (((k_gm (k_sh 38 (I, J)) 2 p x) - ((k_sh 38 (I, J)).2 7 2)) * ((k_gm (k_sh 38 (I, J)) 2 p x) - ((k_sh 38 (I, J)).2 7 2)))]) (Nat.le_of_ble_eq_true rfl) rfl rfl rfl rfl rfl rfl (t38_iv I J 2 (by decide)) ?_
      rintro _ _ ⟨rfl, rfl⟩
      show m_W 62 87 [(3, .long ((k_gm (k_sh 38 (I, J)) 2 p x) - ((k_sh 38 (I, J)).2 7 2))), (0, .ref 38), (1, .int 2), (2, .int x)] [.long (k_iv (k_sh 38 (I, J)) 2), .long ((((k_sh 38 (I, J)).1 0 5) : Int32).toInt64), .long (((k_gm (k_sh 38 (I, J)) 2 p x) - ((k_sh 38 (I, J)).2 7 2)) * ((k_gm (k_sh 38 (I, J)) 2 p x) - ((k_sh 38 (I, J)).2 7 2)))] (I, J) _
      refine c_run 2 (pc' := 89) (ls' := [(3, .long ((k_gm (k_sh 38 (I, J)) 2 p x) - ((k_sh 38 (I, J)).2 7 2))), (0, .ref 38), (1, .int 2), (2, .int x)]) (st' := [.int (lg_cmp (((k_gm (k_sh 38 (I, J)) 2 p x) - ((k_sh 38 (I, J)).2 7 2)) * ((k_gm (k_sh 38 (I, J)) 2 p x) - ((k_sh 38 (I, J)).2 7 2))) (((((k_sh 38 (I, J)).1 0 5) : Int32).toInt64) * (k_iv (k_sh 38 (I, J)) 2)))]) (μ' := (I, J)) (Nat.le_of_ble_eq_true rfl) rfl ?_
      refine c_ifle 108 (Nat.le_of_ble_eq_true rfl) rfl rfl (fun h5 => ?_) (fun h5 => ?_)
      · replace h5 := lc_le.mp h5
        refine c_run 3 (pc' := 111) (ls' := [(3, .long ((k_gm (k_sh 38 (I, J)) 2 p x) - ((k_sh 38 (I, J)).2 7 2))), (0, .ref 38), (1, .int 2), (2, .int x)]) (st' := [.long ((k_gm (k_sh 38 (I, J)) 2 p x) - ((k_sh 38 (I, J)).2 7 2)), .int 2, .ref 38]) (μ' := (I, J)) (Nat.le_of_ble_eq_true rfl) rfl ?_
        refine c_cv 63 [.int 2, .long ((k_gm (k_sh 38 (I, J)) 2 p x) - ((k_sh 38 (I, J)).2 7 2))] (b := 38) (r := []) (Nat.le_of_ble_eq_true rfl) rfl rfl rfl rfl rfl rfl (t38_acc I J 2 (by decide) ((k_gm (k_sh 38 (I, J)) 2 p x) - ((k_sh 38 (I, J)).2 7 2)) l c hl hl2 hc hc2) ?_
        rintro _ ⟨I1, J1⟩ ⟨rfl, hs1, hf1⟩
        show m_W 62 114 [(3, .long ((k_gm (k_sh 38 (I, J)) 2 p x) - ((k_sh 38 (I, J)).2 7 2))), (0, .ref 38), (1, .int 2), (2, .int x)] [] (I1, J1) _
        refine c_run 1 (pc' := 115) (ls' := [(3, .long ((k_gm (k_sh 38 (I, J)) 2 p x) - ((k_sh 38 (I, J)).2 7 2))), (0, .ref 38), (1, .int 2), (2, .int x)]) (st' := [.int 1]) (μ' := (I1, J1)) (Nat.le_of_ble_eq_true rfl) rfl ?_
        refine c_ret (Nat.le_of_ble_eq_true rfl) rfl rfl ⟨by decide, rfl⟩ ?_
        refine ⟨?_, ?_, ?_⟩
        · first | rfl | (simp only [k_rd, k_inn, if_neg h3, if_pos h4, if_pos h5]; done) | (simp only [k_rd, k_inn, if_neg h3, if_pos h4, if_pos h5]; rfl) | (unfold k_rd k_inn; rw [if_neg h3, if_pos h4, if_pos h5]; done) | (unfold k_rd k_inn; rw [if_neg h3, if_pos h4, if_pos h5]; rfl) | (rw [hs1]; rfl) | (rw [hs1]; simp only [k_rd, k_inn, if_neg h3, if_pos h4, if_pos h5]; done) | (rw [hs1]; simp only [k_rd, k_inn, if_neg h3, if_pos h4, if_pos h5]; rfl) | (rw [hs1]; unfold k_rd k_inn; rw [if_neg h3, if_pos h4, if_pos h5]; done) | (rw [hs1]; unfold k_rd k_inn; rw [if_neg h3, if_pos h4, if_pos h5]; rfl) | (rw [hs1]; rfl) | (rw [hs1]; simp only [k_rd, k_inn, if_neg h3, if_pos h4, if_pos h5]; done) | (rw [hs1]; simp only [k_rd, k_inn, if_neg h3, if_pos h4, if_pos h5]; rfl) | (rw [hs1]; unfold k_rd k_inn; rw [if_neg h3, if_pos h4, if_pos h5]; done) | (rw [hs1]; unfold k_rd k_inn; rw [if_neg h3, if_pos h4, if_pos h5]; rfl)
        · rw [hs1]
          first | rfl | (simp only [k_rd, k_inn, if_neg h3, if_pos h4, if_pos h5]; done) | (simp only [k_rd, k_inn, if_neg h3, if_pos h4, if_pos h5]; rfl) | (unfold k_rd k_inn; rw [if_neg h3, if_pos h4, if_pos h5]; done) | (unfold k_rd k_inn; rw [if_neg h3, if_pos h4, if_pos h5]; rfl)
        · exact ((m_fr.rf).tr hf1)
      · replace h5 := mt lc_le.mpr h5
        refine c_run 7 (pc' := 103) (ls' := [(3, .long ((k_gm (k_sh 38 (I, J)) 2 p x) - ((k_sh 38 (I, J)).2 7 2))), (0, .ref 38), (1, .int 2), (2, .int x)]) (st' := [.long ((k_gm (k_sh 38 (I, J)) 2 p x) - ((k_sh 38 (I, J)).2 7 2)), .int 2, .int 3, .int ((k_sh 38 (I, J)).1 0 3), .ref 68]) (μ' := (I, J)) (Nat.le_of_ble_eq_true rfl) rfl ?_
        refine c_cv 72 [.int ((k_sh 38 (I, J)).1 0 3), .int 3, .int 2, .long ((k_gm (k_sh 38 (I, J)) 2 p x) - ((k_sh 38 (I, J)).2 7 2))] (b := 68) (r := []) (Nat.le_of_ble_eq_true rfl) rfl rfl rfl rfl rfl rfl (t38_app I J l c ((k_sh 38 (I, J)).1 0 3) 3 2 ((k_gm (k_sh 38 (I, J)) 2 p x) - ((k_sh 38 (I, J)).2 7 2)) hl hl2 hc hc2) ?_
        rintro _ ⟨I2, J2⟩ ⟨rfl, hs2, hf2⟩
        show m_W 62 106 [(3, .long ((k_gm (k_sh 38 (I, J)) 2 p x) - ((k_sh 38 (I, J)).2 7 2))), (0, .ref 38), (1, .int 2), (2, .int x)] [] (I2, J2) _
        refine c_run 1 (pc' := 107) (ls' := [(3, .long ((k_gm (k_sh 38 (I, J)) 2 p x) - ((k_sh 38 (I, J)).2 7 2))), (0, .ref 38), (1, .int 2), (2, .int x)]) (st' := [.int 2]) (μ' := (I2, J2)) (Nat.le_of_ble_eq_true rfl) rfl ?_
        refine c_ret (Nat.le_of_ble_eq_true rfl) rfl rfl ⟨by decide, rfl⟩ ?_
        refine ⟨?_, ?_, ?_⟩
        · first | rfl | (simp only [k_rd, k_inn, if_neg h3, if_pos h4, if_neg h5]; done) | (simp only [k_rd, k_inn, if_neg h3, if_pos h4, if_neg h5]; rfl) | (unfold k_rd k_inn; rw [if_neg h3, if_pos h4, if_neg h5]; done) | (unfold k_rd k_inn; rw [if_neg h3, if_pos h4, if_neg h5]; rfl) | (rw [hs2]; rfl) | (rw [hs2]; simp only [k_rd, k_inn, if_neg h3, if_pos h4, if_neg h5]; done) | (rw [hs2]; simp only [k_rd, k_inn, if_neg h3, if_pos h4, if_neg h5]; rfl) | (rw [hs2]; unfold k_rd k_inn; rw [if_neg h3, if_pos h4, if_neg h5]; done) | (rw [hs2]; unfold k_rd k_inn; rw [if_neg h3, if_pos h4, if_neg h5]; rfl) | (rw [hs2]; rfl) | (rw [hs2]; simp only [k_rd, k_inn, if_neg h3, if_pos h4, if_neg h5]; done) | (rw [hs2]; simp only [k_rd, k_inn, if_neg h3, if_pos h4, if_neg h5]; rfl) | (rw [hs2]; unfold k_rd k_inn; rw [if_neg h3, if_pos h4, if_neg h5]; done) | (rw [hs2]; unfold k_rd k_inn; rw [if_neg h3, if_pos h4, if_neg h5]; rfl)
        · rw [hs2]
          first | rfl | (simp only [k_rd, k_inn, if_neg h3, if_pos h4, if_neg h5]; done) | (simp only [k_rd, k_inn, if_neg h3, if_pos h4, if_neg h5]; rfl) | (unfold k_rd k_inn; rw [if_neg h3, if_pos h4, if_neg h5]; done) | (unfold k_rd k_inn; rw [if_neg h3, if_pos h4, if_neg h5]; rfl)
        · exact ((m_fr.rf).tr hf2)
    · replace h4 := s01_0.mp h4
      refine c_run 1 (pc' := 50) (ls' := [(0, .ref 38), (1, .int 2), (2, .int x)]) (st' := [.int 3]) (μ' := (I, J)) (Nat.le_of_ble_eq_true rfl) rfl ?_
      refine c_ret (Nat.le_of_ble_eq_true rfl) rfl rfl ⟨by decide, rfl⟩ ?_
      refine ⟨?_, ?_, ?_⟩
      · first | rfl | (simp only [k_rd, k_inn, if_neg h3, if_neg h4]; done) | (simp only [k_rd, k_inn, if_neg h3, if_neg h4]; rfl) | (unfold k_rd k_inn; rw [if_neg h3, if_neg h4]; done) | (unfold k_rd k_inn; rw [if_neg h3, if_neg h4]; rfl)
      · skip
        first | rfl | (simp only [k_rd, k_inn, if_neg h3, if_neg h4]; done) | (simp only [k_rd, k_inn, if_neg h3, if_neg h4]; rfl) | (unfold k_rd k_inn; rw [if_neg h3, if_neg h4]; done) | (unfold k_rd k_inn; rw [if_neg h3, if_neg h4]; rfl)
      · exact (m_fr.rf)
  · skip
    refine c_run 1 (pc' := 41) (ls' := [(0, .ref 38), (1, .int 2), (2, .int x)]) (st' := [.int (-2)]) (μ' := (I, J)) (Nat.le_of_ble_eq_true rfl) rfl ?_
    refine c_ret (Nat.le_of_ble_eq_true rfl) rfl rfl ⟨by decide, rfl⟩ ?_
    refine ⟨?_, ?_, ?_⟩
    · first | rfl | (simp only [k_rd, k_inn, if_pos h3]; done) | (simp only [k_rd, k_inn, if_pos h3]; rfl) | (unfold k_rd k_inn; rw [if_pos h3]; done) | (unfold k_rd k_inn; rw [if_pos h3]; rfl)
    · skip
      first | rfl | (simp only [k_rd, k_inn, if_pos h3]; done) | (simp only [k_rd, k_inn, if_pos h3]; rfl) | (unfold k_rd k_inn; rw [if_pos h3]; done) | (unfold k_rd k_inn; rw [if_pos h3]; rfl)
    · exact (m_fr.rf)

set_option maxRecDepth 100000 in
theorem t38_rd3 (I : Nat → Nat → Int32) (J : Nat → Nat → Int64) (x : Int32) (hx : 0 ≤ x ∧ x ≤ 10000) (ht : k_hasT (k_sh 38 (I, J)) 3) (p : Nat) (hp : (k_sh 38 (I, J)).1 20 0 = nI p) (hp8 : p ≤ 8) (l c : Nat) (hl : (k_sh 38 (I, J)).1 30 1 = nI l) (hl2 : l < 24) (hc : (k_sh 38 (I, J)).1 30 0 = nI c) (hc2 : c ≤ 24) : m_W 62 0 (lv_args 0 [.ref 38, .int 3, .int x]) [] (I, J) (k_E 38 (I, J) (some (.int (k_rd (k_sh 38 (I, J)) 3 p x l c).1)) (k_rd (k_sh 38 (I, J)) 3 p x l c).2) := by
  show m_W 62 0 [(0, .ref 38), (1, .int 3), (2, .int x)] [] (I, J) _
  refine c_run 3 (pc' := 5) (ls' := [(0, .ref 38), (1, .int 3), (2, .int x)]) (st' := [.int 3, .ref 39]) (μ' := (I, J)) (Nat.le_of_ble_eq_true rfl) rfl ?_
  refine c_cv 80 [.int 3] (b := 39) (r := []) (Nat.le_of_ble_eq_true rfl) rfl rfl rfl rfl rfl rfl (t38_hasT I J 3) ?_
  rintro _ _ ⟨rfl, rfl⟩
  show m_W 62 8 [(0, .ref 38), (1, .int 3), (2, .int x)] [.int (s01 (k_hasT (k_sh 38 (I, J)) 3))] (I, J) _
  refine c_ifeq 22 (Nat.le_of_ble_eq_true rfl) rfl rfl (fun h1 => absurd h1 (show ¬ s01 (k_hasT (k_sh 38 (I, J)) 3) = 0 from s01_1.mpr ht)) (fun h1 => ?_)
  refine c_run 3 (pc' := 16) (ls' := [(0, .ref 38), (1, .int 3), (2, .int x)]) (st' := [.int 10000, .int 0, .int x]) (μ' := (I, J)) (Nat.le_of_ble_eq_true rfl) rfl ?_
  refine c_cs 35 [.int x, .int 0, .int 10000] (r := []) (Nat.le_of_ble_eq_true rfl) rfl (Or.inr ⟨rfl, rfl⟩) rfl rfl rfl (t_isWithin I J x 0 10000) ?_
  rintro _ _ ⟨rfl, rfl⟩
  show m_W 62 19 [(0, .ref 38), (1, .int 3), (2, .int x)] [.int (s01 ((0 : Int32) ≤ x ∧ x ≤ (10000 : Int32)))] (I, J) _
  refine c_ifne 24 (Nat.le_of_ble_eq_true rfl) rfl rfl (fun h2 => ?_) (fun h2 => absurd h2 (s01_1.mpr hx))
  refine c_run 4 (pc' := 32) (ls' := [(0, .ref 38), (1, .int 3), (2, .int x)]) (st' := [.int 3, .ref 48]) (μ' := (I, J)) (Nat.le_of_ble_eq_true rfl) rfl ?_
  refine c_aal 3 4 (Nat.le_of_ble_eq_true rfl) rfl rfl rfl rfl rfl (by decide) ?_
  show m_W 62 33 [(0, .ref 38), (1, .int 3), (2, .int x)] [.ref 58] (I, J) _
  refine c_run 1 (pc' := 36) (ls' := [(0, .ref 38), (1, .int 3), (2, .int x)]) (st' := [.int ((k_sh 38 (I, J)).1 20 0)]) (μ' := (I, J)) (Nat.le_of_ble_eq_true rfl) rfl ?_
  refine c_ifne 42 (Nat.le_of_ble_eq_true rfl) rfl rfl (fun h3 => ?_) (fun h3 => ?_)
  · skip
    refine c_run 1 (pc' := 43) (ls' := [(0, .ref 38), (1, .int 3), (2, .int x)]) (st' := [.ref 38]) (μ' := (I, J)) (Nat.le_of_ble_eq_true rfl) rfl ?_
    refine c_cv 51 [] (b := 38) (r := []) (Nat.le_of_ble_eq_true rfl) rfl rfl rfl rfl rfl rfl (t38_set I J) ?_
    rintro _ _ ⟨rfl, rfl⟩
    show m_W 62 46 [(0, .ref 38), (1, .int 3), (2, .int x)] [.int (s01 (k_set (k_sh 38 (I, J))))] (I, J) _
    refine c_ifne 51 (Nat.le_of_ble_eq_true rfl) rfl rfl (fun h4 => ?_) (fun h4 => ?_)
    · replace h4 := s01_1.mp h4
      refine c_run 4 (pc' := 57) (ls' := [(0, .ref 38), (1, .int 3), (2, .int x)]) (st' := [.int x, .int 3, .ref 39]) (μ' := (I, J)) (Nat.le_of_ble_eq_true rfl) rfl ?_
      refine c_cv 86 [.int 3, .int x] (b := 39) (r := []) (Nat.le_of_ble_eq_true rfl) rfl rfl rfl rfl rfl rfl (t38_gm3 I J x p hp hp8) ?_
      rintro _ _ ⟨rfl, rfl⟩
      show m_W 62 60 [(0, .ref 38), (1, .int 3), (2, .int x)] [.long (k_gm (k_sh 38 (I, J)) 3 p x)] (I, J) _
      refine c_run 4 (pc' := 68) (ls' := [(0, .ref 38), (1, .int 3), (2, .int x)]) (st' := [.int 3, .ref 45, .long (k_gm (k_sh 38 (I, J)) 3 p x)]) (μ' := (I, J)) (Nat.le_of_ble_eq_true rfl) rfl ?_
      refine c_lal 3 4 (Nat.le_of_ble_eq_true rfl) rfl rfl rfl rfl rfl (by decide) ?_
      show m_W 62 69 [(0, .ref 38), (1, .int 3), (2, .int x)] [.long ((k_sh 38 (I, J)).2 7 3), .long (k_gm (k_sh 38 (I, J)) 3 p x)] (I, J) _
      refine c_run 11 (pc' := 84) (ls' := [(3, .long ((k_gm (k_sh 38 (I, J)) 3 p x) - ((k_sh 38 (I, J)).2 7 3))), (0, .ref 38), (1, .int 3), (2, .int x)]) (st' := [.int 3, .ref 39, .long ((((k_sh 38 (I, J)).1 0 5) : Int32).toInt64), .long (((k_gm (k_sh 38 (I, J)) 3 p x) - ((k_sh 38 (I, J)).2 7 3)) * ((k_gm (k_sh 38 (I, J)) 3 p x) - ((k_sh 38 (I, J)).2 7 3)))]) (μ' := (I, J)) (Nat.le_of_ble_eq_true rfl) rfl ?_
      refine c_cv 87 [.int 3] (b := 39) (r := [.long ((((k_sh 38 (I, J)).1 0 5) : Int32).toInt64), .long (((k_gm (k_sh 38 (I, J)) 3 p x) - ((k_sh 38 (I, J)).2 7 3)) * ((k_gm (k_sh 38 (I, J)) 3 p x) - ((k_sh 38 (I, J)).2 7 3)))]) (Nat.le_of_ble_eq_true rfl) rfl rfl rfl rfl rfl rfl (t38_iv I J 3 (by decide)) ?_
      rintro _ _ ⟨rfl, rfl⟩
      show m_W 62 87 [(3, .long ((k_gm (k_sh 38 (I, J)) 3 p x) - ((k_sh 38 (I, J)).2 7 3))), (0, .ref 38), (1, .int 3), (2, .int x)] [.long (k_iv (k_sh 38 (I, J)) 3), .long ((((k_sh 38 (I, J)).1 0 5) : Int32).toInt64), .long (((k_gm (k_sh 38 (I, J)) 3 p x) - ((k_sh 38 (I, J)).2 7 3)) * ((k_gm (k_sh 38 (I, J)) 3 p x) - ((k_sh 38 (I, J)).2 7 3)))] (I, J) _
      refine c_run 2 (pc' := 89) (ls' := [(3, .long ((k_gm (k_sh 38 (I, J)) 3 p x) - ((k_sh 38 (I, J)).2 7 3))), (0, .ref 38), (1, .int 3), (2, .int x)]) (st' := [.int (lg_cmp (((k_gm (k_sh 38 (I, J)) 3 p x) - ((k_sh 38 (I, J)).2 7 3)) * ((k_gm (k_sh 38 (I, J)) 3 p x) - ((k_sh 38 (I, J)).2 7 3))) (((((k_sh 38 (I, J)).1 0 5) : Int32).toInt64) * (k_iv (k_sh 38 (I, J)) 3)))]) (μ' := (I, J)) (Nat.le_of_ble_eq_true rfl) rfl ?_
      refine c_ifle 108 (Nat.le_of_ble_eq_true rfl) rfl rfl (fun h5 => ?_) (fun h5 => ?_)
      · replace h5 := lc_le.mp h5
        refine c_run 3 (pc' := 111) (ls' := [(3, .long ((k_gm (k_sh 38 (I, J)) 3 p x) - ((k_sh 38 (I, J)).2 7 3))), (0, .ref 38), (1, .int 3), (2, .int x)]) (st' := [.long ((k_gm (k_sh 38 (I, J)) 3 p x) - ((k_sh 38 (I, J)).2 7 3)), .int 3, .ref 38]) (μ' := (I, J)) (Nat.le_of_ble_eq_true rfl) rfl ?_
        refine c_cv 63 [.int 3, .long ((k_gm (k_sh 38 (I, J)) 3 p x) - ((k_sh 38 (I, J)).2 7 3))] (b := 38) (r := []) (Nat.le_of_ble_eq_true rfl) rfl rfl rfl rfl rfl rfl (t38_acc I J 3 (by decide) ((k_gm (k_sh 38 (I, J)) 3 p x) - ((k_sh 38 (I, J)).2 7 3)) l c hl hl2 hc hc2) ?_
        rintro _ ⟨I1, J1⟩ ⟨rfl, hs1, hf1⟩
        show m_W 62 114 [(3, .long ((k_gm (k_sh 38 (I, J)) 3 p x) - ((k_sh 38 (I, J)).2 7 3))), (0, .ref 38), (1, .int 3), (2, .int x)] [] (I1, J1) _
        refine c_run 1 (pc' := 115) (ls' := [(3, .long ((k_gm (k_sh 38 (I, J)) 3 p x) - ((k_sh 38 (I, J)).2 7 3))), (0, .ref 38), (1, .int 3), (2, .int x)]) (st' := [.int 1]) (μ' := (I1, J1)) (Nat.le_of_ble_eq_true rfl) rfl ?_
        refine c_ret (Nat.le_of_ble_eq_true rfl) rfl rfl ⟨by decide, rfl⟩ ?_
        refine ⟨?_, ?_, ?_⟩
        · first | rfl | (simp only [k_rd, k_inn, if_neg h3, if_pos h4, if_pos h5]; done) | (simp only [k_rd, k_inn, if_neg h3, if_pos h4, if_pos h5]; rfl) | (unfold k_rd k_inn; rw [if_neg h3, if_pos h4, if_pos h5]; done) | (unfold k_rd k_inn; rw [if_neg h3, if_pos h4, if_pos h5]; rfl) | (rw [hs1]; rfl) | (rw [hs1]; simp only [k_rd, k_inn, if_neg h3, if_pos h4, if_pos h5]; done) | (rw [hs1]; simp only [k_rd, k_inn, if_neg h3, if_pos h4, if_pos h5]; rfl) | (rw [hs1]; unfold k_rd k_inn; rw [if_neg h3, if_pos h4, if_pos h5]; done) | (rw [hs1]; unfold k_rd k_inn; rw [if_neg h3, if_pos h4, if_pos h5]; rfl) | (rw [hs1]; rfl) | (rw [hs1]; simp only [k_rd, k_inn, if_neg h3, if_pos h4, if_pos h5]; done) | (rw [hs1]; simp only [k_rd, k_inn, if_neg h3, if_pos h4, if_pos h5]; rfl) | (rw [hs1]; unfold k_rd k_inn; rw [if_neg h3, if_pos h4, if_pos h5]; done) | (rw [hs1]; unfold k_rd k_inn; rw [if_neg h3, if_pos h4, if_pos h5]; rfl)
        · rw [hs1]
          first | rfl | (simp only [k_rd, k_inn, if_neg h3, if_pos h4, if_pos h5]; done) | (simp only [k_rd, k_inn, if_neg h3, if_pos h4, if_pos h5]; rfl) | (unfold k_rd k_inn; rw [if_neg h3, if_pos h4, if_pos h5]; done) | (unfold k_rd k_inn; rw [if_neg h3, if_pos h4, if_pos h5]; rfl)
        · exact ((m_fr.rf).tr hf1)
      · replace h5 := mt lc_le.mpr h5
        refine c_run 7 (pc' := 103) (ls' := [(3, .long ((k_gm (k_sh 38 (I, J)) 3 p x) - ((k_sh 38 (I, J)).2 7 3))), (0, .ref 38), (1, .int 3), (2, .int x)]) (st' := [.long ((k_gm (k_sh 38 (I, J)) 3 p x) - ((k_sh 38 (I, J)).2 7 3)), .int 3, .int 3, .int ((k_sh 38 (I, J)).1 0 3), .ref 68]) (μ' := (I, J)) (Nat.le_of_ble_eq_true rfl) rfl ?_
        refine c_cv 72 [.int ((k_sh 38 (I, J)).1 0 3), .int 3, .int 3, .long ((k_gm (k_sh 38 (I, J)) 3 p x) - ((k_sh 38 (I, J)).2 7 3))] (b := 68) (r := []) (Nat.le_of_ble_eq_true rfl) rfl rfl rfl rfl rfl rfl (t38_app I J l c ((k_sh 38 (I, J)).1 0 3) 3 3 ((k_gm (k_sh 38 (I, J)) 3 p x) - ((k_sh 38 (I, J)).2 7 3)) hl hl2 hc hc2) ?_
        rintro _ ⟨I2, J2⟩ ⟨rfl, hs2, hf2⟩
        show m_W 62 106 [(3, .long ((k_gm (k_sh 38 (I, J)) 3 p x) - ((k_sh 38 (I, J)).2 7 3))), (0, .ref 38), (1, .int 3), (2, .int x)] [] (I2, J2) _
        refine c_run 1 (pc' := 107) (ls' := [(3, .long ((k_gm (k_sh 38 (I, J)) 3 p x) - ((k_sh 38 (I, J)).2 7 3))), (0, .ref 38), (1, .int 3), (2, .int x)]) (st' := [.int 2]) (μ' := (I2, J2)) (Nat.le_of_ble_eq_true rfl) rfl ?_
        refine c_ret (Nat.le_of_ble_eq_true rfl) rfl rfl ⟨by decide, rfl⟩ ?_
        refine ⟨?_, ?_, ?_⟩
        · first | rfl | (simp only [k_rd, k_inn, if_neg h3, if_pos h4, if_neg h5]; done) | (simp only [k_rd, k_inn, if_neg h3, if_pos h4, if_neg h5]; rfl) | (unfold k_rd k_inn; rw [if_neg h3, if_pos h4, if_neg h5]; done) | (unfold k_rd k_inn; rw [if_neg h3, if_pos h4, if_neg h5]; rfl) | (rw [hs2]; rfl) | (rw [hs2]; simp only [k_rd, k_inn, if_neg h3, if_pos h4, if_neg h5]; done) | (rw [hs2]; simp only [k_rd, k_inn, if_neg h3, if_pos h4, if_neg h5]; rfl) | (rw [hs2]; unfold k_rd k_inn; rw [if_neg h3, if_pos h4, if_neg h5]; done) | (rw [hs2]; unfold k_rd k_inn; rw [if_neg h3, if_pos h4, if_neg h5]; rfl) | (rw [hs2]; rfl) | (rw [hs2]; simp only [k_rd, k_inn, if_neg h3, if_pos h4, if_neg h5]; done) | (rw [hs2]; simp only [k_rd, k_inn, if_neg h3, if_pos h4, if_neg h5]; rfl) | (rw [hs2]; unfold k_rd k_inn; rw [if_neg h3, if_pos h4, if_neg h5]; done) | (rw [hs2]; unfold k_rd k_inn; rw [if_neg h3, if_pos h4, if_neg h5]; rfl)
        · rw [hs2]
          first | rfl | (simp only [k_rd, k_inn, if_neg h3, if_pos h4, if_neg h5]; done) | (simp only [k_rd, k_inn, if_neg h3, if_pos h4, if_neg h5]; rfl) | (unfold k_rd k_inn; rw [if_neg h3, if_pos h4, if_neg h5]; done) | (unfold k_rd k_inn; rw [if_neg h3, if_pos h4, if_neg h5]; rfl)
        · exact ((m_fr.rf).tr hf2)
    · replace h4 := s01_0.mp h4
      refine c_run 1 (pc' := 50) (ls' := [(0, .ref 38), (1, .int 3), (2, .int x)]) (st' := [.int 3]) (μ' := (I, J)) (Nat.le_of_ble_eq_true rfl) rfl ?_
      refine c_ret (Nat.le_of_ble_eq_true rfl) rfl rfl ⟨by decide, rfl⟩ ?_
      refine ⟨?_, ?_, ?_⟩
      · first | rfl | (simp only [k_rd, k_inn, if_neg h3, if_neg h4]; done) | (simp only [k_rd, k_inn, if_neg h3, if_neg h4]; rfl) | (unfold k_rd k_inn; rw [if_neg h3, if_neg h4]; done) | (unfold k_rd k_inn; rw [if_neg h3, if_neg h4]; rfl)
      · skip
        first | rfl | (simp only [k_rd, k_inn, if_neg h3, if_neg h4]; done) | (simp only [k_rd, k_inn, if_neg h3, if_neg h4]; rfl) | (unfold k_rd k_inn; rw [if_neg h3, if_neg h4]; done) | (unfold k_rd k_inn; rw [if_neg h3, if_neg h4]; rfl)
      · exact (m_fr.rf)
  · skip
    refine c_run 1 (pc' := 41) (ls' := [(0, .ref 38), (1, .int 3), (2, .int x)]) (st' := [.int (-2)]) (μ' := (I, J)) (Nat.le_of_ble_eq_true rfl) rfl ?_
    refine c_ret (Nat.le_of_ble_eq_true rfl) rfl rfl ⟨by decide, rfl⟩ ?_
    refine ⟨?_, ?_, ?_⟩
    · first | rfl | (simp only [k_rd, k_inn, if_pos h3]; done) | (simp only [k_rd, k_inn, if_pos h3]; rfl) | (unfold k_rd k_inn; rw [if_pos h3]; done) | (unfold k_rd k_inn; rw [if_pos h3]; rfl)
    · skip
      first | rfl | (simp only [k_rd, k_inn, if_pos h3]; done) | (simp only [k_rd, k_inn, if_pos h3]; rfl) | (unfold k_rd k_inn; rw [if_pos h3]; done) | (unfold k_rd k_inn; rw [if_pos h3]; rfl)
    · exact (m_fr.rf)

