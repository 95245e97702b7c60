/-! PASSING under the relation -/
def r_Q3 (lg : Prop) (κ : k_M) (I : Nat → Nat → Int32) (J : Nat → Nat → Int64) (n m : Nat) (B : Int64) : m_Q := fun v μ' => v = some (.int (κ.1 0 3)) ∧ ∃ R' G', μ' = (I, n_J J R' G') ∧ r_A lg κ I J R' n m B

set_option maxRecDepth 100000 in
theorem n_pass_l (I : Nat → Nat → Int32) (J : Nat → Nat → Int64) (lg : Prop) (n m : Nat) (B : Int64) (N : Nat) (hN : N ≤ 2000) (κf : Nat → k_M) (hs : ∀ i R G, i < N → r_A lg (κf i) I J R n m B → m_W 127 0 (lv_args 0 [.ref 77]) [] (I, n_J J R G) (r_Qn lg (κf (i + 1)) I J n m B))  : ∀ (r i : Nat), i + r = N → ∀ R G : Nat → Int64, r_A lg (κf i) I J R n m B → m_W 128 36 [(0, .ref 77), (1, .int (nI N)), (2, .int (nI i))] [] (I, (n_J J R G)) (r_Q3 lg (κf N) I J n m B) := by
  intro r
  induction r with
  | zero =>
    intro i hir R G A
    have hin : N = i := by omega
    subst hin
    refine c_run 2 (pc' := 38) (ls' := [(0, .ref 77), (1, .int (nI N)), (2, .int (nI N))]) (st' := [.int (nI N), .int (nI N)]) (μ' := (I, (n_J J R G))) (Nat.le_of_ble_eq_true rfl) rfl ?_
    refine c_icge 51 (Nat.le_of_ble_eq_true rfl) rfl rfl (fun h1 => ?_) (fun h1 => absurd (nI_le (by omega) (by omega)) h1)
    refine c_run 3 (pc' := 57) (ls' := [(0, .ref 77), (1, .int (nI N)), (2, .int (nI N))]) (st' := [.int 38, .ref 78]) (μ' := (I, (n_J J R G))) (Nat.le_of_ble_eq_true rfl) rfl ?_
    refine c_lal 38 140 (Nat.le_of_ble_eq_true rfl) rfl rfl rfl rfl rfl (by decide) ?_
    show m_W 128 58 [(0, .ref 77), (1, .int (nI N)), (2, .int (nI N))] [.long (R 38)] (I, (n_J J R G)) _
    refine c_run 1 (pc' := 59) (ls' := [(0, .ref 77), (1, .int (nI N)), (2, .int (nI N))]) (st' := [.int (((R 38) : Int64).toInt32)]) (μ' := (I, (n_J J R G))) (Nat.le_of_ble_eq_true rfl) rfl ?_
    refine c_ret (Nat.le_of_ble_eq_true rfl) rfl rfl ⟨by decide, rfl⟩ ?_
    refine ⟨?_, R, G, rfl, A⟩
    rw [A.D.ti, Int32.toInt32_toInt64]
  | succ r ih =>
    intro i hir R G A
    refine c_run 2 (pc' := 38) (ls' := [(0, .ref 77), (1, .int (nI N)), (2, .int (nI i))]) (st' := [.int (nI N), .int (nI i)]) (μ' := (I, (n_J J R G))) (Nat.le_of_ble_eq_true rfl) rfl ?_
    refine c_icge 51 (Nat.le_of_ble_eq_true rfl) rfl rfl (fun h1 => absurd h1 (nI_ge (by omega) (by omega))) (fun h1 => ?_)
    refine c_run 1 (pc' := 42) (ls' := [(0, .ref 77), (1, .int (nI N)), (2, .int (nI i))]) (st' := [.ref 77]) (μ' := (I, (n_J J R G))) (Nat.le_of_ble_eq_true rfl) rfl ?_
    refine c_cv 127 [] (b := 77) (r := []) (Nat.le_of_ble_eq_true rfl) rfl rfl rfl rfl rfl rfl (hs i R G (by omega) A) ?_
    rintro _ _ ⟨rfl, R1, G1, rfl, A1⟩
    show m_W 128 45 [(0, .ref 77), (1, .int (nI N)), (2, .int (nI i))] [] (I, (n_J J R1 G1)) _
    refine c_run 2 (pc' := 36) (ls' := [(2, .int ((nI i) + (1 : Int32))), (0, .ref 77), (1, .int (nI N))]) (st' := []) (μ' := (I, (n_J J R1 G1))) (Nat.le_of_ble_eq_true rfl) rfl ?_
    refine c_w [1, 2, 0] (ls' := [(0, .ref 77), (1, .int (nI N)), (2, .int ((nI i) + (1 : Int32)))]) rfl ?_
    rw [nI_1 i]
    exact ih (i + 1) (by omega) R1 G1 A1

set_option maxRecDepth 100000 in
theorem n_pass_y (I : Nat → Nat → Int32) (J : Nat → Nat → Int64) (R G : Nat → Int64) (lg : Prop) (n m : Nat) (B : Int64) (N : Nat) (hN : N ≤ 2000) (κf : Nat → k_M) (hs : ∀ i R G, i < N → r_A lg (κf i) I J R n m B → m_W 127 0 (lv_args 0 [.ref 77]) [] (I, n_J J R G) (r_Qn lg (κf (i + 1)) I J n m B)) (A : r_A lg (κf 0) I J R n m B) (g1 : 1 ≤ nI N ∧ nI N ≤ 2000) (g2 : ¬ 100000000 < R 38 + (nI N).toInt64) : m_W 128 0 (lv_args 0 [.ref 77, .int (nI N)]) [] (I, (n_J J R G)) (r_Q3 lg (κf N) I J n m B) := by
  show m_W 128 0 [(0, .ref 77), (1, .int (nI N))] [] (I, (n_J J R G)) _
  refine c_run 4 (pc' := 6) (ls' := [(0, .ref 77), (1, .int (nI N))]) (st' := [.long 2000, .long 1, .long (((nI N) : Int32).toInt64)]) (μ' := (I, (n_J J R G))) (Nat.le_of_ble_eq_true rfl) rfl ?_
  refine c_cs 95 [.long (((nI N) : Int32).toInt64), .long 1, .long 2000] (r := []) (Nat.le_of_ble_eq_true rfl) rfl (Or.inl rfl) rfl rfl rfl (t_in32 I (n_J J R G) (nI N) 1 2000) ?_
  rintro _ _ ⟨rfl, rfl⟩
  show m_W 128 9 [(0, .ref 77), (1, .int (nI N))] [.int (s01 (1 ≤ (nI N) ∧ (nI N) ≤ 2000))] (I, (n_J J R G)) _
  refine c_ifne 14 (Nat.le_of_ble_eq_true rfl) rfl rfl (fun h1 => ?_) (fun h1 => absurd h1 (s01_1.mpr g1))
  refine c_run 3 (pc' := 20) (ls' := [(0, .ref 77), (1, .int (nI N))]) (st' := [.int 38, .ref 78]) (μ' := (I, (n_J J R G))) (Nat.le_of_ble_eq_true rfl) rfl ?_
  refine c_lal 38 140 (Nat.le_of_ble_eq_true rfl) rfl rfl rfl rfl rfl (by decide) ?_
  show m_W 128 21 [(0, .ref 77), (1, .int (nI N))] [.long (R 38)] (I, (n_J J R G)) _
  refine c_run 5 (pc' := 28) (ls' := [(0, .ref 77), (1, .int (nI N))]) (st' := [.int (lg_cmp ((R 38) + (((nI N) : Int32).toInt64)) 100000000)]) (μ' := (I, (n_J J R G))) (Nat.le_of_ble_eq_true rfl) rfl ?_
  refine c_ifle 34 (Nat.le_of_ble_eq_true rfl) rfl rfl (fun h2 => ?_) (fun h2 => absurd (lc_le.mpr (Int64.not_lt.mp g2)) h2)
  refine c_run 2 (pc' := 36) (ls' := [(2, .int 0), (0, .ref 77), (1, .int (nI N))]) (st' := []) (μ' := (I, (n_J J R G))) (Nat.le_of_ble_eq_true rfl) rfl ?_
  refine c_w [1, 2, 0] (ls' := [(0, .ref 77), (1, .int (nI N)), (2, .int 0)]) rfl ?_
  exact n_pass_l I J lg n m B N hN κf hs N 0 (by omega) R G A

set_option maxRecDepth 100000 in
theorem n_pass_3 (I : Nat → Nat → Int32) (J : Nat → Nat → Int64) (R G : Nat → Int64) (x : Int32) (g1 : 1 ≤ x ∧ x ≤ 2000) (g2 : ¬ R 38 + x.toInt64 ≤ 100000000) : m_W 128 0 (lv_args 0 [.ref 77, .int x]) [] (I, (n_J J R G)) (m_E (some (.int (-3))) (I, n_J J R G)) := by
  show m_W 128 0 [(0, .ref 77), (1, .int x)] [] (I, (n_J J R G)) _
  refine c_run 4 (pc' := 6) (ls' := [(0, .ref 77), (1, .int x)]) (st' := [.long 2000, .long 1, .long ((x : Int32).toInt64)]) (μ' := (I, (n_J J R G))) (Nat.le_of_ble_eq_true rfl) rfl ?_
  refine c_cs 95 [.long ((x : Int32).toInt64), .long 1, .long 2000] (r := []) (Nat.le_of_ble_eq_true rfl) rfl (Or.inl rfl) rfl rfl rfl (t_in32 I (n_J J R G) x 1 2000) ?_
  rintro _ _ ⟨rfl, rfl⟩
  show m_W 128 9 [(0, .ref 77), (1, .int x)] [.int (s01 (1 ≤ x ∧ x ≤ 2000))] (I, (n_J J R G)) _
  refine c_ifne 14 (Nat.le_of_ble_eq_true rfl) rfl rfl (fun h1 => ?_) (fun h1 => absurd h1 (s01_1.mpr g1))
  refine c_run 3 (pc' := 20) (ls' := [(0, .ref 77), (1, .int x)]) (st' := [.int 38, .ref 78]) (μ' := (I, (n_J J R G))) (Nat.le_of_ble_eq_true rfl) rfl ?_
  refine c_lal 38 140 (Nat.le_of_ble_eq_true rfl) rfl rfl rfl rfl rfl (by decide) ?_
  show m_W 128 21 [(0, .ref 77), (1, .int x)] [.long (R 38)] (I, (n_J J R G)) _
  refine c_run 5 (pc' := 28) (ls' := [(0, .ref 77), (1, .int x)]) (st' := [.int (lg_cmp ((R 38) + ((x : Int32).toInt64)) 100000000)]) (μ' := (I, (n_J J R G))) (Nat.le_of_ble_eq_true rfl) rfl ?_
  refine c_ifle 34 (Nat.le_of_ble_eq_true rfl) rfl rfl (fun h2 => absurd (lc_le.mp h2) g2) (fun h2 => ?_)
  refine c_run 1 (pc' := 33) (ls' := [(0, .ref 77), (1, .int x)]) (st' := [.int (-3)]) (μ' := (I, (n_J J R G))) (Nat.le_of_ble_eq_true rfl) rfl ?_
  refine c_ret (Nat.le_of_ble_eq_true rfl) rfl rfl ⟨by decide, rfl⟩ ?_
  exact ⟨rfl, rfl⟩

set_option maxRecDepth 100000 in
theorem n_pass_1 (I : Nat → Nat → Int32) (J : Nat → Nat → Int64) (R G : Nat → Int64) (x : Int32) (g1 : ¬ (1 ≤ x ∧ x ≤ 2000)) : m_W 128 0 (lv_args 0 [.ref 77, .int x]) [] (I, (n_J J R G)) (m_E (some (.int (-1))) (I, n_J J R G)) := by
  show m_W 128 0 [(0, .ref 77), (1, .int x)] [] (I, (n_J J R G)) _
  refine c_run 4 (pc' := 6) (ls' := [(0, .ref 77), (1, .int x)]) (st' := [.long 2000, .long 1, .long ((x : Int32).toInt64)]) (μ' := (I, (n_J J R G))) (Nat.le_of_ble_eq_true rfl) rfl ?_
  refine c_cs 95 [.long ((x : Int32).toInt64), .long 1, .long 2000] (r := []) (Nat.le_of_ble_eq_true rfl) rfl (Or.inl rfl) rfl rfl rfl (t_in32 I (n_J J R G) x 1 2000) ?_
  rintro _ _ ⟨rfl, rfl⟩
  show m_W 128 9 [(0, .ref 77), (1, .int x)] [.int (s01 (1 ≤ x ∧ x ≤ 2000))] (I, (n_J J R G)) _
  refine c_ifne 14 (Nat.le_of_ble_eq_true rfl) rfl rfl (fun h1 => absurd (s01_1.mp h1) g1) (fun h1 => ?_)
  refine c_run 1 (pc' := 13) (ls' := [(0, .ref 77), (1, .int x)]) (st' := [.int (-1)]) (μ' := (I, (n_J J R G))) (Nat.le_of_ble_eq_true rfl) rfl ?_
  refine c_ret (Nat.le_of_ble_eq_true rfl) rfl rfl ⟨by decide, rfl⟩ ?_
  exact ⟨rfl, rfl⟩


theorem r_cki {κ : k_M} {n m : Nat} (V : r_V κ n m) {x : Int32} (h : 1 ≤ x ∧ x ≤ 2000) : (κ.1 0 3).toInt64 + x.toInt64 ≤ 100000000 ↔ κ.1 0 3 ≤ 100000000 - x := by
  have a := V.ti.1
  have b := V.ti.2
  have h1 := h.1
  have h2 := h.2
  rw [Int32.le_iff_toInt_le, show (1 : Int32).toInt = 1 from rfl] at h1
  rw [Int32.le_iff_toInt_le, show (2000 : Int32).toInt = 2000 from rfl] at h2
  have c : (100000000 : Int32).toInt = 100000000 := rfl
  have d : (100000000 : Int64).toInt = 100000000 := rfl
  rw [Int64.le_iff_toInt_le, Int32.le_iff_toInt_le, d]
  have e1 : ((κ.1 0 3).toInt64 + x.toInt64).toInt = (κ.1 0 3).toInt + x.toInt := by
    rw [q_add, Int32.toInt_toInt64, Int32.toInt_toInt64] <;> rw [Int32.toInt_toInt64, Int32.toInt_toInt64] <;> omega
  have e2 : (100000000 - x : Int32).toInt = 100000000 - x.toInt := by
    rw [w_sub, c] <;> rw [c] <;> omega
  rw [e1, e2]
  omega
section RP
variable {lg : Prop} {κ : k_M} {I : Nat → Nat → Int32} {J : Nat → Nat → Int64} {R : Nat → Int64} {n m : Nat} {B : Int64}
theorem r_its (A : r_A lg κ I J R n m B) {e : Nat} (he : e < m) (hb : κ.1 0 7 = nI e) : ∀ i, (k_its κ e n i).1 0 7 = nI e := fun i => by
  rw [k_its_o (by omega) (by omega)]; exact hb
theorem k_its_3 {e : Nat} (h0 : 0 ≤ (κ.1 0 3).toInt) : ∀ i : Nat, (κ.1 0 3).toInt + (i : Int) ≤ 100000000 → ((k_its κ e n i).1 0 3).toInt = (κ.1 0 3).toInt + (i : Int)
  | 0, _ => by show (κ.1 0 3).toInt = _; omega
  | i + 1, h => by
    have ih := k_its_3 (e := e) h0 i (by omega)
    have o1 : (1 : Int32).toInt = 1 := rfl
    rw [k_its, k_stp_3, w_add (by rw [ih, o1]; omega) (by rw [ih, o1]; omega), ih, o1]
    omega
theorem a_pass (G : Nat → Int64) (A : r_A lg κ I J R n m B) (x : Int32) : m_W 128 0 (lv_args 0 [.ref 77, .int x]) [] (I, n_J J R G) (r_Q lg I J n m B (k_passx κ x)) := by
  have n4 := A.S.n4
  have m6 := A.S.m6
  have hkn : kn κ = n := by show (κ.1 1 0).toNatClampNeg = n; rw [A.S.cn]; exact nI_clamp (by omega)
  unfold k_passx k_pass k_chk
  rw [hkn]
  by_cases h1 : 1 ≤ x ∧ x ≤ 2000
  · have hk := r_cki A.V h1
    rw [if_pos h1]
    by_cases h2 : κ.1 0 3 ≤ 100000000 - x
    · rw [if_pos h2, if_pos (by decide)]
      obtain ⟨N, hN, hx⟩ := k_ix (x := x) (n := 2001) ⟨Int32.le_trans (by decide) h1.1, Int32.lt_of_le_of_lt h1.2 (by decide)⟩ (by omega)
      subst hx
      have hc : (nI N).toNatClampNeg = N := nI_clamp (by omega)
      have h38 : ¬ 100000000 < R 38 + (nI N).toInt64 := by rw [A.D.ti]; exact Int64.not_lt.mpr (hk.mpr h2)
      have hT : (κ.1 0 3).toInt + N ≤ 100000000 := by
        have q := h2
        rw [Int32.le_iff_toInt_le, w_sub, nI_toInt (by omega), show (100000000 : Int32).toInt = 100000000 from rfl] at q
        · omega
        · rw [nI_toInt (by omega), show (100000000 : Int32).toInt = 100000000 from rfl]; omega
        · rw [nI_toInt (by omega), show (100000000 : Int32).toInt = 100000000 from rfl]; omega
      by_cases hb : k_isB κ
      · rw [if_pos hb, hc]
        obtain ⟨e, he, q1, -⟩ := r_yb A.V hb
        have hke : ke κ = e := by show (κ.1 0 7).toNatClampNeg = e; rw [q1]; exact nI_clamp (by omega)
        rw [hke]
        exact n_pass_y I J R G lg n m B N (by omega) (k_its κ e n) (fun i R' G' hi A' => a_step_b A' G' he (r_its A he q1 i) (by rw [k_its_3 A.V.ti.1 i (by omega)]; omega)) A h1 h38
      · rw [if_neg hb]
        have h7 := (r_nb A.V hb A.S.cm m6).1
        exact n_pass_y I J R G lg n m B N (by omega) (k_lks κ n) (fun i R' G' hi A' => a_step_n A.V h7 (by omega) (by omega) A' G') (by rw [k_lks_0 A.V n4]; exact A) h1 h38
    · rw [if_neg h2, if_neg (by decide)]
      refine m_wk (n_pass_3 I J R G x h1 (by rw [A.D.ti]; exact fun q => h2 (hk.mp q))) ?_
      rintro _ _ ⟨rfl, rfl⟩
      exact ⟨rfl, R, G, rfl, A⟩
  · rw [if_neg h1, if_neg (by decide)]
    refine m_wk (n_pass_1 I J R G x h1) ?_
    rintro _ _ ⟨rfl, rfl⟩
    exact ⟨rfl, R, G, rfl, A⟩
end RP

