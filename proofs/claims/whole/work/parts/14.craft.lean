/-! SPECS of a craft's small methods, over its own memory -/
abbrev k_hasT (κ : k_M) (x : Int32) : Prop := 0 ≤ x ∧ x < κ.1 1 0
abbrev k_hasE (κ : k_M) (x : Int32) : Prop := 0 ≤ x ∧ x < κ.1 23 0
abbrev k_isB (κ : k_M) : Prop := 0 ≤ κ.1 0 7 ∧ κ.1 0 7 < κ.1 23 0
def k_len (κ : k_M) : Int32 := if k_isB κ then κ.1 0 3 - κ.1 0 9 else 0
abbrev k_set (κ : k_M) : Prop := k_isB κ ∧ κ.1 0 8 = 0 ∧ ¬ k_len κ < κ.1 0 4
def k_all (κ : k_M) : Int32 := (1 : Int32) <<< (κ.1 1 0 &&& 31) - 1
def k_open (κ : k_M) (e : Nat) : Int32 := κ.1 27 e &&& k_all κ
def k_chk (κ : k_M) (ms : Int32) : Int32 := if 1 ≤ ms ∧ ms ≤ 2000 then (if κ.1 0 3 ≤ 100000000 - ms then 0 else -3) else -1
/-- an entry is added to the ledger -/
def k_app (κ : k_M) (l c : Nat) (w kd t : Int32) (a : Int64) : k_M := (m_ui (m_ui (m_ui (m_ui (m_ui κ.1 30 1 (nI ((l + 1) % 24))) 31 ((l + 1) % 24) w) 32 ((l + 1) % 24) kd) 33 ((l + 1) % 24) t) 30 0 (nI (min 24 (c + 1))), m_uj κ.2 34 ((l + 1) % 24) a)
theorem k_md {l : Nat} (h : l < 24) : s_md (nI l + 1) 24 = nI ((l + 1) % 24) := by
  have : ∀ l, l < 24 → s_md (nI l + 1) 24 = nI ((l + 1) % 24) := by decide +kernel
  exact this l h
theorem k_mn {c : Nat} (h : c ≤ 24) : (if nI c + 1 < (24 : Int32) then nI c + 1 else 24) = nI (min 24 (c + 1)) := by
  have : ∀ c, c ≤ 24 → (if nI c + 1 < (24 : Int32) then nI c + 1 else 24) = nI (min 24 (c + 1)) := by decide +kernel
  exact this c h

set_option maxRecDepth 100000 in
theorem t1_hasT (I : Nat → Nat → Int32) (J : Nat → Nat → Int64) (x : Int32) : m_W 80 0 (lv_args 0 [.ref 2, .int x]) [] (I, J) (m_E (some (.int (s01 (k_hasT (k_sh 1 (I, J)) x)))) (I, J)) := by
  show m_W 80 0 [(0, .ref 2), (1, .int x)] [] (I, J) _
  refine c_run 1 (pc' := 1) (ls' := [(0, .ref 2), (1, .int x)]) (st' := [.int x]) (μ' := (I, J)) (Nat.le_of_ble_eq_true rfl) rfl ?_
  refine c_iflt 16 (Nat.le_of_ble_eq_true rfl) rfl rfl (fun h1 => ?_) (fun h1 => ?_)
  · skip
    refine c_run 1 (pc' := 17) (ls' := [(0, .ref 2), (1, .int x)]) (st' := [.int 0]) (μ' := (I, J)) (Nat.le_of_ble_eq_true rfl) rfl ?_
    refine c_ret (Nat.le_of_ble_eq_true rfl) rfl rfl ⟨by decide, rfl⟩ ?_
    refine ⟨?_, rfl⟩
    first
      | exact congrArg (fun z => some (Value.int z)) (s01_t ⟨Int32.not_lt.mp (by assumption), Int32.not_le.mp (by assumption)⟩).symm
      | exact congrArg (fun z => some (Value.int z)) (s01_f (fun q => absurd (by assumption) (Int32.not_lt.mpr q.1))).symm
      | exact congrArg (fun z => some (Value.int z)) (s01_f (fun q => absurd (by assumption) (Int32.not_le.mpr q.2))).symm
  · skip
    refine c_run 3 (pc' := 9) (ls' := [(0, .ref 2), (1, .int x)]) (st' := [.int ((k_sh 1 (I, J)).1 1 0), .int x]) (μ' := (I, J)) (Nat.le_of_ble_eq_true rfl) rfl ?_
    refine c_icge 16 (Nat.le_of_ble_eq_true rfl) rfl rfl (fun h2 => ?_) (fun h2 => ?_)
    · skip
      refine c_run 1 (pc' := 17) (ls' := [(0, .ref 2), (1, .int x)]) (st' := [.int 0]) (μ' := (I, J)) (Nat.le_of_ble_eq_true rfl) rfl ?_
      refine c_ret (Nat.le_of_ble_eq_true rfl) rfl rfl ⟨by decide, rfl⟩ ?_
      refine ⟨?_, rfl⟩
      first
        | exact congrArg (fun z => some (Value.int z)) (s01_t ⟨Int32.not_lt.mp (by assumption), Int32.not_le.mp (by assumption)⟩).symm
        | exact congrArg (fun z => some (Value.int z)) (s01_f (fun q => absurd (by assumption) (Int32.not_lt.mpr q.1))).symm
        | exact congrArg (fun z => some (Value.int z)) (s01_f (fun q => absurd (by assumption) (Int32.not_le.mpr q.2))).symm
    · skip
      refine c_run 2 (pc' := 17) (ls' := [(0, .ref 2), (1, .int x)]) (st' := [.int 1]) (μ' := (I, J)) (Nat.le_of_ble_eq_true rfl) rfl ?_
      refine c_ret (Nat.le_of_ble_eq_true rfl) rfl rfl ⟨by decide, rfl⟩ ?_
      refine ⟨?_, rfl⟩
      first
        | exact congrArg (fun z => some (Value.int z)) (s01_t ⟨Int32.not_lt.mp (by assumption), Int32.not_le.mp (by assumption)⟩).symm
        | exact congrArg (fun z => some (Value.int z)) (s01_f (fun q => absurd (by assumption) (Int32.not_lt.mpr q.1))).symm
        | exact congrArg (fun z => some (Value.int z)) (s01_f (fun q => absurd (by assumption) (Int32.not_le.mpr q.2))).symm

set_option maxRecDepth 100000 in
theorem t1_hasE (I : Nat → Nat → Int32) (J : Nat → Nat → Int64) (x : Int32) : m_W 66 0 (lv_args 0 [.ref 24, .int x]) [] (I, J) (m_E (some (.int (s01 (k_hasE (k_sh 1 (I, J)) x)))) (I, J)) := by
  show m_W 66 0 [(0, .ref 24), (1, .int x)] [] (I, J) _
  refine c_run 1 (pc' := 1) (ls' := [(0, .ref 24), (1, .int x)]) (st' := [.int x]) (μ' := (I, J)) (Nat.le_of_ble_eq_true rfl) rfl ?_
  refine c_iflt 16 (Nat.le_of_ble_eq_true rfl) rfl rfl (fun h1 => ?_) (fun h1 => ?_)
  · skip
    refine c_run 1 (pc' := 17) (ls' := [(0, .ref 24), (1, .int x)]) (st' := [.int 0]) (μ' := (I, J)) (Nat.le_of_ble_eq_true rfl) rfl ?_
    refine c_ret (Nat.le_of_ble_eq_true rfl) rfl rfl ⟨by decide, rfl⟩ ?_
    refine ⟨?_, rfl⟩
    first
      | exact congrArg (fun z => some (Value.int z)) (s01_t ⟨Int32.not_lt.mp (by assumption), Int32.not_le.mp (by assumption)⟩).symm
      | exact congrArg (fun z => some (Value.int z)) (s01_f (fun q => absurd (by assumption) (Int32.not_lt.mpr q.1))).symm
      | exact congrArg (fun z => some (Value.int z)) (s01_f (fun q => absurd (by assumption) (Int32.not_le.mpr q.2))).symm
  · skip
    refine c_run 3 (pc' := 9) (ls' := [(0, .ref 24), (1, .int x)]) (st' := [.int ((k_sh 1 (I, J)).1 23 0), .int x]) (μ' := (I, J)) (Nat.le_of_ble_eq_true rfl) rfl ?_
    refine c_icge 16 (Nat.le_of_ble_eq_true rfl) rfl rfl (fun h2 => ?_) (fun h2 => ?_)
    · skip
      refine c_run 1 (pc' := 17) (ls' := [(0, .ref 24), (1, .int x)]) (st' := [.int 0]) (μ' := (I, J)) (Nat.le_of_ble_eq_true rfl) rfl ?_
      refine c_ret (Nat.le_of_ble_eq_true rfl) rfl rfl ⟨by decide, rfl⟩ ?_
      refine ⟨?_, rfl⟩
      first
        | exact congrArg (fun z => some (Value.int z)) (s01_t ⟨Int32.not_lt.mp (by assumption), Int32.not_le.mp (by assumption)⟩).symm
        | exact congrArg (fun z => some (Value.int z)) (s01_f (fun q => absurd (by assumption) (Int32.not_lt.mpr q.1))).symm
        | exact congrArg (fun z => some (Value.int z)) (s01_f (fun q => absurd (by assumption) (Int32.not_le.mpr q.2))).symm
    · skip
      refine c_run 2 (pc' := 17) (ls' := [(0, .ref 24), (1, .int x)]) (st' := [.int 1]) (μ' := (I, J)) (Nat.le_of_ble_eq_true rfl) rfl ?_
      refine c_ret (Nat.le_of_ble_eq_true rfl) rfl rfl ⟨by decide, rfl⟩ ?_
      refine ⟨?_, rfl⟩
      first
        | exact congrArg (fun z => some (Value.int z)) (s01_t ⟨Int32.not_lt.mp (by assumption), Int32.not_le.mp (by assumption)⟩).symm
        | exact congrArg (fun z => some (Value.int z)) (s01_f (fun q => absurd (by assumption) (Int32.not_lt.mpr q.1))).symm
        | exact congrArg (fun z => some (Value.int z)) (s01_f (fun q => absurd (by assumption) (Int32.not_le.mpr q.2))).symm

set_option maxRecDepth 100000 in
theorem t1_isB (I : Nat → Nat → Int32) (J : Nat → Nat → Int64)  : m_W 49 0 (lv_args 0 [.ref 1]) [] (I, J) (m_E (some (.int (s01 (k_isB (k_sh 1 (I, J)))))) (I, J)) := by
  show m_W 49 0 [(0, .ref 1)] [] (I, J) _
  refine c_run 4 (pc' := 8) (ls' := [(0, .ref 1)]) (st' := [.int ((k_sh 1 (I, J)).1 0 7), .ref 24]) (μ' := (I, J)) (Nat.le_of_ble_eq_true rfl) rfl ?_
  refine c_cv 66 [.int ((k_sh 1 (I, J)).1 0 7)] (b := 24) (r := []) (Nat.le_of_ble_eq_true rfl) rfl rfl rfl rfl rfl rfl (t1_hasE I J ((k_sh 1 (I, J)).1 0 7)) ?_
  rintro _ _ ⟨rfl, rfl⟩
  show m_W 49 11 [(0, .ref 1)] [.int (s01 (k_hasE (k_sh 1 (I, J)) ((k_sh 1 (I, J)).1 0 7)))] (I, J) _
  refine c_ret (Nat.le_of_ble_eq_true rfl) rfl rfl s01_n ?_
  exact ⟨rfl, rfl⟩

set_option maxRecDepth 100000 in
theorem t1_len (I : Nat → Nat → Int32) (J : Nat → Nat → Int64)  : m_W 50 0 (lv_args 0 [.ref 1]) [] (I, J) (m_E (some (.int (k_len (k_sh 1 (I, J))))) (I, J)) := by
  show m_W 50 0 [(0, .ref 1)] [] (I, J) _
  refine c_run 1 (pc' := 1) (ls' := [(0, .ref 1)]) (st' := [.ref 1]) (μ' := (I, J)) (Nat.le_of_ble_eq_true rfl) rfl ?_
  refine c_cv 49 [] (b := 1) (r := []) (Nat.le_of_ble_eq_true rfl) rfl rfl rfl rfl rfl rfl (t1_isB I J) ?_
  rintro _ _ ⟨rfl, rfl⟩
  show m_W 50 4 [(0, .ref 1)] [.int (s01 (k_isB (k_sh 1 (I, J))))] (I, J) _
  refine c_ifeq 19 (Nat.le_of_ble_eq_true rfl) rfl rfl (fun h1 => ?_) (fun h1 => ?_)
  · replace h1 := s01_0.mp h1
    refine c_run 1 (pc' := 20) (ls' := [(0, .ref 1)]) (st' := [.int 0]) (μ' := (I, J)) (Nat.le_of_ble_eq_true rfl) rfl ?_
    refine c_ret (Nat.le_of_ble_eq_true rfl) rfl rfl ⟨by decide, rfl⟩ ?_
    refine ⟨?_, rfl⟩
    first | rfl | (simp only [k_len, if_neg h1]; done) | (simp only [k_len, if_neg h1]; rfl)
  · replace h1 := s01_1.mp h1
    refine c_run 6 (pc' := 20) (ls' := [(0, .ref 1)]) (st' := [.int (((k_sh 1 (I, J)).1 0 3) - ((k_sh 1 (I, J)).1 0 9))]) (μ' := (I, J)) (Nat.le_of_ble_eq_true rfl) rfl ?_
    refine c_ret (Nat.le_of_ble_eq_true rfl) rfl rfl ⟨by decide, rfl⟩ ?_
    refine ⟨?_, rfl⟩
    first | rfl | (simp only [k_len, if_pos h1]; done) | (simp only [k_len, if_pos h1]; rfl)

set_option maxRecDepth 100000 in
theorem t1_set (I : Nat → Nat → Int32) (J : Nat → Nat → Int64)  : m_W 51 0 (lv_args 0 [.ref 1]) [] (I, J) (m_E (some (.int (s01 (k_set (k_sh 1 (I, J)))))) (I, J)) := by
  show m_W 51 0 [(0, .ref 1)] [] (I, J) _
  refine c_run 1 (pc' := 1) (ls' := [(0, .ref 1)]) (st' := [.ref 1]) (μ' := (I, J)) (Nat.le_of_ble_eq_true rfl) rfl ?_
  refine c_cv 49 [] (b := 1) (r := []) (Nat.le_of_ble_eq_true rfl) rfl rfl rfl rfl rfl rfl (t1_isB I J) ?_
  rintro _ _ ⟨rfl, rfl⟩
  show m_W 51 4 [(0, .ref 1)] [.int (s01 (k_isB (k_sh 1 (I, J))))] (I, J) _
  refine c_ifeq 29 (Nat.le_of_ble_eq_true rfl) rfl rfl (fun h1 => ?_) (fun h1 => ?_)
  · replace h1 := s01_0.mp h1
    refine c_run 1 (pc' := 30) (ls' := [(0, .ref 1)]) (st' := [.int 0]) (μ' := (I, J)) (Nat.le_of_ble_eq_true rfl) rfl ?_
    refine c_ret (Nat.le_of_ble_eq_true rfl) rfl rfl ⟨by decide, rfl⟩ ?_
    refine ⟨?_, rfl⟩
    first
      | exact congrArg (fun z => some (Value.int z)) (s01_t ⟨by assumption, by assumption, by assumption⟩).symm
      | exact congrArg (fun z => some (Value.int z)) (s01_f (fun q => absurd q.1 (by assumption))).symm
      | exact congrArg (fun z => some (Value.int z)) (s01_f (fun q => absurd q.2.1 (by assumption))).symm
      | exact congrArg (fun z => some (Value.int z)) (s01_f (fun q => absurd (by assumption) q.2.2)).symm
  · replace h1 := s01_1.mp h1
    refine c_run 2 (pc' := 11) (ls' := [(0, .ref 1)]) (st' := [.int ((k_sh 1 (I, J)).1 0 8)]) (μ' := (I, J)) (Nat.le_of_ble_eq_true rfl) rfl ?_
    refine c_ifne 29 (Nat.le_of_ble_eq_true rfl) rfl rfl (fun h2 => ?_) (fun h2 => ?_)
    · skip
      refine c_run 1 (pc' := 30) (ls' := [(0, .ref 1)]) (st' := [.int 0]) (μ' := (I, J)) (Nat.le_of_ble_eq_true rfl) rfl ?_
      refine c_ret (Nat.le_of_ble_eq_true rfl) rfl rfl ⟨by decide, rfl⟩ ?_
      refine ⟨?_, rfl⟩
      first
        | exact congrArg (fun z => some (Value.int z)) (s01_t ⟨by assumption, by assumption, by assumption⟩).symm
        | exact congrArg (fun z => some (Value.int z)) (s01_f (fun q => absurd q.1 (by assumption))).symm
        | exact congrArg (fun z => some (Value.int z)) (s01_f (fun q => absurd q.2.1 (by assumption))).symm
        | exact congrArg (fun z => some (Value.int z)) (s01_f (fun q => absurd (by assumption) q.2.2)).symm
    · skip
      refine c_run 1 (pc' := 15) (ls' := [(0, .ref 1)]) (st' := [.ref 1]) (μ' := (I, J)) (Nat.le_of_ble_eq_true rfl) rfl ?_
      refine c_cv 50 [] (b := 1) (r := []) (Nat.le_of_ble_eq_true rfl) rfl rfl rfl rfl rfl rfl (t1_len I J) ?_
      rintro _ _ ⟨rfl, rfl⟩
      show m_W 51 18 [(0, .ref 1)] [.int (k_len (k_sh 1 (I, J)))] (I, J) _
      refine c_run 2 (pc' := 22) (ls' := [(0, .ref 1)]) (st' := [.int ((k_sh 1 (I, J)).1 0 4), .int (k_len (k_sh 1 (I, J)))]) (μ' := (I, J)) (Nat.le_of_ble_eq_true rfl) rfl ?_
      refine c_iclt 29 (Nat.le_of_ble_eq_true rfl) rfl rfl (fun h3 => ?_) (fun h3 => ?_)
      · skip
        refine c_run 1 (pc' := 30) (ls' := [(0, .ref 1)]) (st' := [.int 0]) (μ' := (I, J)) (Nat.le_of_ble_eq_true rfl) rfl ?_
        refine c_ret (Nat.le_of_ble_eq_true rfl) rfl rfl ⟨by decide, rfl⟩ ?_
        refine ⟨?_, rfl⟩
        first
          | exact congrArg (fun z => some (Value.int z)) (s01_t ⟨by assumption, by assumption, by assumption⟩).symm
          | exact congrArg (fun z => some (Value.int z)) (s01_f (fun q => absurd q.1 (by assumption))).symm
          | exact congrArg (fun z => some (Value.int z)) (s01_f (fun q => absurd q.2.1 (by assumption))).symm
          | exact congrArg (fun z => some (Value.int z)) (s01_f (fun q => absurd (by assumption) q.2.2)).symm
      · skip
        refine c_run 2 (pc' := 30) (ls' := [(0, .ref 1)]) (st' := [.int 1]) (μ' := (I, J)) (Nat.le_of_ble_eq_true rfl) rfl ?_
        refine c_ret (Nat.le_of_ble_eq_true rfl) rfl rfl ⟨by decide, rfl⟩ ?_
        refine ⟨?_, rfl⟩
        first
          | exact congrArg (fun z => some (Value.int z)) (s01_t ⟨by assumption, by assumption, by assumption⟩).symm
          | exact congrArg (fun z => some (Value.int z)) (s01_f (fun q => absurd q.1 (by assumption))).symm
          | exact congrArg (fun z => some (Value.int z)) (s01_f (fun q => absurd q.2.1 (by assumption))).symm
          | exact congrArg (fun z => some (Value.int z)) (s01_f (fun q => absurd (by assumption) q.2.2)).symm

set_option maxRecDepth 100000 in
theorem t1_all (I : Nat → Nat → Int32) (J : Nat → Nat → Int64)  : m_W 81 0 (lv_args 0 [.ref 2]) [] (I, J) (m_E (some (.int (k_all (k_sh 1 (I, J))))) (I, J)) := by
  show m_W 81 0 [(0, .ref 2)] [] (I, J) _
  refine c_run 6 (pc' := 8) (ls' := [(0, .ref 2)]) (st' := [.int (((1 : Int32) <<< (((k_sh 1 (I, J)).1 1 0) &&& 31)) - (1 : Int32))]) (μ' := (I, J)) (Nat.le_of_ble_eq_true rfl) rfl ?_
  refine c_ret (Nat.le_of_ble_eq_true rfl) rfl rfl ⟨by decide, rfl⟩ ?_
  exact ⟨rfl, rfl⟩

set_option maxRecDepth 100000 in
theorem t1_open (I : Nat → Nat → Int32) (J : Nat → Nat → Int64) (e : Nat) (he : e < 6) : m_W 52 0 (lv_args 0 [.ref 1, .int (nI e)]) [] (I, J) (m_E (some (.int (k_open (k_sh 1 (I, J)) e))) (I, J)) := by
  show m_W 52 0 [(0, .ref 1), (1, .int (nI e))] [] (I, J) _
  refine c_run 4 (pc' := 8) (ls' := [(0, .ref 1), (1, .int (nI e))]) (st' := [.int (nI e), .ref 28]) (μ' := (I, J)) (Nat.le_of_ble_eq_true rfl) rfl ?_
  refine c_ial e 6 (Nat.le_of_ble_eq_true rfl) rfl rfl rfl rfl rfl (by omega) ?_
  show m_W 52 9 [(0, .ref 1), (1, .int (nI e))] [.int ((k_sh 1 (I, J)).1 27 e)] (I, J) _
  refine c_run 2 (pc' := 13) (ls' := [(0, .ref 1), (1, .int (nI e))]) (st' := [.ref 2, .int ((k_sh 1 (I, J)).1 27 e)]) (μ' := (I, J)) (Nat.le_of_ble_eq_true rfl) rfl ?_
  refine c_cv 81 [] (b := 2) (r := [.int ((k_sh 1 (I, J)).1 27 e)]) (Nat.le_of_ble_eq_true rfl) rfl rfl rfl rfl rfl rfl (t1_all I J) ?_
  rintro _ _ ⟨rfl, rfl⟩
  show m_W 52 16 [(0, .ref 1), (1, .int (nI e))] [.int (k_all (k_sh 1 (I, J))), .int ((k_sh 1 (I, J)).1 27 e)] (I, J) _
  refine c_run 1 (pc' := 17) (ls' := [(0, .ref 1), (1, .int (nI e))]) (st' := [.int (((k_sh 1 (I, J)).1 27 e) &&& (k_all (k_sh 1 (I, J))))]) (μ' := (I, J)) (Nat.le_of_ble_eq_true rfl) rfl ?_
  refine c_ret (Nat.le_of_ble_eq_true rfl) rfl rfl ⟨by decide, rfl⟩ ?_
  exact ⟨rfl, rfl⟩

set_option maxRecDepth 100000 in
theorem t1_chk (I : Nat → Nat → Int32) (J : Nat → Nat → Int64) (x : Int32) : m_W 57 0 (lv_args 0 [.ref 1, .int x]) [] (I, J) (m_E (some (.int (k_chk (k_sh 1 (I, J)) x))) (I, J)) := by
  show m_W 57 0 [(0, .ref 1), (1, .int x)] [] (I, J) _
  refine c_run 3 (pc' := 5) (ls' := [(0, .ref 1), (1, .int x)]) (st' := [.int 2000, .int 1, .int x]) (μ' := (I, J)) (Nat.le_of_ble_eq_true rfl) rfl ?_
  refine c_cs 35 [.int x, .int 1, .int 2000] (r := []) (Nat.le_of_ble_eq_true rfl) rfl (Or.inr ⟨rfl, rfl⟩) rfl rfl rfl (t_isWithin I J x 1 2000) ?_
  rintro _ _ ⟨rfl, rfl⟩
  show m_W 57 8 [(0, .ref 1), (1, .int x)] [.int (s01 ((1 : Int32) ≤ x ∧ x ≤ (2000 : Int32)))] (I, J) _
  refine c_ifne 13 (Nat.le_of_ble_eq_true rfl) rfl rfl (fun h1 => ?_) (fun h1 => ?_)
  · replace h1 := s01_1.mp h1
    refine c_run 5 (pc' := 21) (ls' := [(0, .ref 1), (1, .int x)]) (st' := [.int ((100000000 : Int32) - x), .int ((k_sh 1 (I, J)).1 0 3)]) (μ' := (I, J)) (Nat.le_of_ble_eq_true rfl) rfl ?_
    refine c_icle 29 (Nat.le_of_ble_eq_true rfl) rfl rfl (fun h2 => ?_) (fun h2 => ?_)
    · skip
      refine c_run 1 (pc' := 30) (ls' := [(0, .ref 1), (1, .int x)]) (st' := [.int 0]) (μ' := (I, J)) (Nat.le_of_ble_eq_true rfl) rfl ?_
      refine c_ret (Nat.le_of_ble_eq_true rfl) rfl rfl ⟨by decide, rfl⟩ ?_
      refine ⟨?_, rfl⟩
      first | rfl | (simp only [k_chk, if_pos h1, if_pos h2]; done) | (simp only [k_chk, if_pos h1, if_pos h2]; rfl)
    · skip
      refine c_run 2 (pc' := 30) (ls' := [(0, .ref 1), (1, .int x)]) (st' := [.int (-3)]) (μ' := (I, J)) (Nat.le_of_ble_eq_true rfl) rfl ?_
      refine c_ret (Nat.le_of_ble_eq_true rfl) rfl rfl ⟨by decide, rfl⟩ ?_
      refine ⟨?_, rfl⟩
      first | rfl | (simp only [k_chk, if_pos h1, if_neg h2]; done) | (simp only [k_chk, if_pos h1, if_neg h2]; rfl)
  · replace h1 := s01_0.mp h1
    refine c_run 1 (pc' := 12) (ls' := [(0, .ref 1), (1, .int x)]) (st' := [.int (-1)]) (μ' := (I, J)) (Nat.le_of_ble_eq_true rfl) rfl ?_
    refine c_ret (Nat.le_of_ble_eq_true rfl) rfl rfl ⟨by decide, rfl⟩ ?_
    refine ⟨?_, rfl⟩
    first | rfl | (simp only [k_chk, if_neg h1]; done) | (simp only [k_chk, if_neg h1]; rfl)

set_option maxRecDepth 100000 in
theorem t1_app (I : Nat → Nat → Int32) (J : Nat → Nat → Int64) (l c : Nat) (w kd t : Int32) (a : Int64) (hl : (k_sh 1 (I, J)).1 30 1 = nI l) (hl2 : l < 24) (hc : (k_sh 1 (I, J)).1 30 0 = nI c) (hc2 : c ≤ 24) : m_W 72 0 (lv_args 0 [.ref 31, .int w, .int kd, .int t, .long a]) [] (I, J) (k_E 1 (I, J) none (k_app (k_sh 1 (I, J)) l c w kd t a)) := by
  show m_W 72 0 [(0, .ref 31), (1, .int w), (2, .int kd), (3, .int t), (4, .long a)] [] (I, J) _
  refine c_run 6 (pc' := 9) (ls' := [(0, .ref 31), (1, .int w), (2, .int kd), (3, .int t), (4, .long a)]) (st' := [.int 24, .int (((k_sh 1 (I, J)).1 30 1) + (1 : Int32)), .ref 31]) (μ' := (I, J)) (Nat.le_of_ble_eq_true rfl) rfl ?_
  refine c_cs 158 [.int (((k_sh 1 (I, J)).1 30 1) + (1 : Int32)), .int 24] (r := [.ref 31]) (Nat.le_of_ble_eq_true rfl) rfl (Or.inl rfl) rfl rfl rfl (t_floorMod I J (((k_sh 1 (I, J)).1 30 1) + (1 : Int32)) 24 (by decide)) ?_
  rintro _ _ ⟨rfl, rfl⟩
  rw [show s_md (((k_sh 1 (I, J)).1 30 1) + (1 : Int32)) 24 = nI ((l + 1) % 24) from by rw [hl]; exact k_md hl2]
  show m_W 72 12 [(0, .ref 31), (1, .int w), (2, .int kd), (3, .int t), (4, .long a)] [.int (nI ((l + 1) % 24)), .ref 31] (I, J) _
  refine c_run 6 (pc' := 24) (ls' := [(0, .ref 31), (1, .int w), (2, .int kd), (3, .int t), (4, .long a)]) (st' := [.int w, .int (nI ((l + 1) % 24)), .ref 32]) (μ' := ((m_ui I 31 1 (nI ((l + 1) % 24))), J)) (Nat.le_of_ble_eq_true rfl) rfl ?_
  refine c_ias ((l + 1) % 24) 24 (Nat.le_of_ble_eq_true rfl) rfl rfl rfl rfl rfl (by omega) ?_
  show m_W 72 25 [(0, .ref 31), (1, .int w), (2, .int kd), (3, .int t), (4, .long a)] [] ((m_ui (m_ui I 31 1 (nI ((l + 1) % 24))) 32 ((l + 1) % 24) w), J) _
  refine c_run 5 (pc' := 34) (ls' := [(0, .ref 31), (1, .int w), (2, .int kd), (3, .int t), (4, .long a)]) (st' := [.int kd, .int (nI ((l + 1) % 24)), .ref 33]) (μ' := ((m_ui (m_ui I 31 1 (nI ((l + 1) % 24))) 32 ((l + 1) % 24) w), J)) (Nat.le_of_ble_eq_true rfl) rfl ?_
  refine c_ias ((l + 1) % 24) 24 (Nat.le_of_ble_eq_true rfl) rfl rfl rfl rfl rfl (by omega) ?_
  show m_W 72 35 [(0, .ref 31), (1, .int w), (2, .int kd), (3, .int t), (4, .long a)] [] ((m_ui (m_ui (m_ui I 31 1 (nI ((l + 1) % 24))) 32 ((l + 1) % 24) w) 33 ((l + 1) % 24) kd), J) _
  refine c_run 5 (pc' := 44) (ls' := [(0, .ref 31), (1, .int w), (2, .int kd), (3, .int t), (4, .long a)]) (st' := [.int t, .int (nI ((l + 1) % 24)), .ref 34]) (μ' := ((m_ui (m_ui (m_ui I 31 1 (nI ((l + 1) % 24))) 32 ((l + 1) % 24) w) 33 ((l + 1) % 24) kd), J)) (Nat.le_of_ble_eq_true rfl) rfl ?_
  refine c_ias ((l + 1) % 24) 24 (Nat.le_of_ble_eq_true rfl) rfl rfl rfl rfl rfl (by omega) ?_
  show m_W 72 45 [(0, .ref 31), (1, .int w), (2, .int kd), (3, .int t), (4, .long a)] [] ((m_ui (m_ui (m_ui (m_ui I 31 1 (nI ((l + 1) % 24))) 32 ((l + 1) % 24) w) 33 ((l + 1) % 24) kd) 34 ((l + 1) % 24) t), J) _
  refine c_run 5 (pc' := 55) (ls' := [(0, .ref 31), (1, .int w), (2, .int kd), (3, .int t), (4, .long a)]) (st' := [.long a, .int (nI ((l + 1) % 24)), .ref 35]) (μ' := ((m_ui (m_ui (m_ui (m_ui I 31 1 (nI ((l + 1) % 24))) 32 ((l + 1) % 24) w) 33 ((l + 1) % 24) kd) 34 ((l + 1) % 24) t), J)) (Nat.le_of_ble_eq_true rfl) rfl ?_
  refine c_las ((l + 1) % 24) 24 (Nat.le_of_ble_eq_true rfl) rfl rfl rfl rfl rfl (by omega) ?_
  show m_W 72 56 [(0, .ref 31), (1, .int w), (2, .int kd), (3, .int t), (4, .long a)] [] ((m_ui (m_ui (m_ui (m_ui I 31 1 (nI ((l + 1) % 24))) 32 ((l + 1) % 24) w) 33 ((l + 1) % 24) kd) 34 ((l + 1) % 24) t), (m_uj J 35 ((l + 1) % 24) a)) _
  refine c_run 6 (pc' := 65) (ls' := [(0, .ref 31), (1, .int w), (2, .int kd), (3, .int t), (4, .long a)]) (st' := [.int (((k_sh 1 (I, J)).1 30 0) + (1 : Int32)), .int 24, .ref 31]) (μ' := ((m_ui (m_ui (m_ui (m_ui I 31 1 (nI ((l + 1) % 24))) 32 ((l + 1) % 24) w) 33 ((l + 1) % 24) kd) 34 ((l + 1) % 24) t), (m_uj J 35 ((l + 1) % 24) a))) (Nat.le_of_ble_eq_true rfl) rfl ?_
  refine c_cs 160 [.int 24, .int (((k_sh 1 (I, J)).1 30 0) + (1 : Int32))] (r := [.ref 31]) (Nat.le_of_ble_eq_true rfl) rfl (Or.inl rfl) rfl rfl rfl (t_mini (m_ui (m_ui (m_ui (m_ui I 31 1 (nI ((l + 1) % 24))) 32 ((l + 1) % 24) w) 33 ((l + 1) % 24) kd) 34 ((l + 1) % 24) t) (m_uj J 35 ((l + 1) % 24) a) 24 (((k_sh 1 (I, J)).1 30 0) + (1 : Int32))) ?_
  rintro _ _ ⟨rfl, rfl⟩
  rw [show (if (((k_sh 1 (I, J)).1 30 0) + (1 : Int32)) < 24 then (((k_sh 1 (I, J)).1 30 0) + (1 : Int32)) else (24 : Int32)) = nI (min 24 (c + 1)) from by rw [hc]; exact k_mn hc2]
  show m_W 72 68 [(0, .ref 31), (1, .int w), (2, .int kd), (3, .int t), (4, .long a)] [.int (nI (min 24 (c + 1))), .ref 31] ((m_ui (m_ui (m_ui (m_ui I 31 1 (nI ((l + 1) % 24))) 32 ((l + 1) % 24) w) 33 ((l + 1) % 24) kd) 34 ((l + 1) % 24) t), (m_uj J 35 ((l + 1) % 24) a)) _
  refine c_run 1 (pc' := 71) (ls' := [(0, .ref 31), (1, .int w), (2, .int kd), (3, .int t), (4, .long a)]) (st' := []) (μ' := ((m_ui (m_ui (m_ui (m_ui (m_ui I 31 1 (nI ((l + 1) % 24))) 32 ((l + 1) % 24) w) 33 ((l + 1) % 24) kd) 34 ((l + 1) % 24) t) 31 0 (nI (min 24 (c + 1)))), (m_uj J 35 ((l + 1) % 24) a))) (Nat.le_of_ble_eq_true rfl) rfl ?_
  refine c_vret (Nat.le_of_ble_eq_true rfl) rfl rfl ?_
  refine ⟨?_, ?_, ?_⟩
  · exact rfl
  · rw [k_ui 30 rfl rfl, k_ui 33 rfl rfl, k_ui 32 rfl rfl, k_ui 31 rfl rfl, k_ui 30 rfl rfl, k_uj 34 rfl rfl]
    exact rfl
  · exact (((((((m_fr.rf).ui rfl rfl).ui rfl rfl).ui rfl rfl).ui rfl rfl).ui rfl rfl).uj rfl rfl)

set_option maxRecDepth 100000 in
theorem t38_hasT (I : Nat → Nat → Int32) (J : Nat → Nat → Int64) (x : Int32) : m_W 80 0 (lv_args 0 [.ref 39, .int x]) [] (I, J) (m_E (some (.int (s01 (k_hasT (k_sh 38 (I, J)) x)))) (I, J)) := by
  show m_W 80 0 [(0, .ref 39), (1, .int x)] [] (I, J) _
  refine c_run 1 (pc' := 1) (ls' := [(0, .ref 39), (1, .int x)]) (st' := [.int x]) (μ' := (I, J)) (Nat.le_of_ble_eq_true rfl) rfl ?_
  refine c_iflt 16 (Nat.le_of_ble_eq_true rfl) rfl rfl (fun h1 => ?_) (fun h1 => ?_)
  · skip
    refine c_run 1 (pc' := 17) (ls' := [(0, .ref 39), (1, .int x)]) (st' := [.int 0]) (μ' := (I, J)) (Nat.le_of_ble_eq_true rfl) rfl ?_
    refine c_ret (Nat.le_of_ble_eq_true rfl) rfl rfl ⟨by decide, rfl⟩ ?_
    refine ⟨?_, rfl⟩
    first
      | exact congrArg (fun z => some (Value.int z)) (s01_t ⟨Int32.not_lt.mp (by assumption), Int32.not_le.mp (by assumption)⟩).symm
      | exact congrArg (fun z => some (Value.int z)) (s01_f (fun q => absurd (by assumption) (Int32.not_lt.mpr q.1))).symm
      | exact congrArg (fun z => some (Value.int z)) (s01_f (fun q => absurd (by assumption) (Int32.not_le.mpr q.2))).symm
  · skip
    refine c_run 3 (pc' := 9) (ls' := [(0, .ref 39), (1, .int x)]) (st' := [.int ((k_sh 38 (I, J)).1 1 0), .int x]) (μ' := (I, J)) (Nat.le_of_ble_eq_true rfl) rfl ?_
    refine c_icge 16 (Nat.le_of_ble_eq_true rfl) rfl rfl (fun h2 => ?_) (fun h2 => ?_)
    · skip
      refine c_run 1 (pc' := 17) (ls' := [(0, .ref 39), (1, .int x)]) (st' := [.int 0]) (μ' := (I, J)) (Nat.le_of_ble_eq_true rfl) rfl ?_
      refine c_ret (Nat.le_of_ble_eq_true rfl) rfl rfl ⟨by decide, rfl⟩ ?_
      refine ⟨?_, rfl⟩
      first
        | exact congrArg (fun z => some (Value.int z)) (s01_t ⟨Int32.not_lt.mp (by assumption), Int32.not_le.mp (by assumption)⟩).symm
        | exact congrArg (fun z => some (Value.int z)) (s01_f (fun q => absurd (by assumption) (Int32.not_lt.mpr q.1))).symm
        | exact congrArg (fun z => some (Value.int z)) (s01_f (fun q => absurd (by assumption) (Int32.not_le.mpr q.2))).symm
    · skip
      refine c_run 2 (pc' := 17) (ls' := [(0, .ref 39), (1, .int x)]) (st' := [.int 1]) (μ' := (I, J)) (Nat.le_of_ble_eq_true rfl) rfl ?_
      refine c_ret (Nat.le_of_ble_eq_true rfl) rfl rfl ⟨by decide, rfl⟩ ?_
      refine ⟨?_, rfl⟩
      first
        | exact congrArg (fun z => some (Value.int z)) (s01_t ⟨Int32.not_lt.mp (by assumption), Int32.not_le.mp (by assumption)⟩).symm
        | exact congrArg (fun z => some (Value.int z)) (s01_f (fun q => absurd (by assumption) (Int32.not_lt.mpr q.1))).symm
        | exact congrArg (fun z => some (Value.int z)) (s01_f (fun q => absurd (by assumption) (Int32.not_le.mpr q.2))).symm

set_option maxRecDepth 100000 in
theorem t38_hasE (I : Nat → Nat → Int32) (J : Nat → Nat → Int64) (x : Int32) : m_W 66 0 (lv_args 0 [.ref 61, .int x]) [] (I, J) (m_E (some (.int (s01 (k_hasE (k_sh 38 (I, J)) x)))) (I, J)) := by
  show m_W 66 0 [(0, .ref 61), (1, .int x)] [] (I, J) _
  refine c_run 1 (pc' := 1) (ls' := [(0, .ref 61), (1, .int x)]) (st' := [.int x]) (μ' := (I, J)) (Nat.le_of_ble_eq_true rfl) rfl ?_
  refine c_iflt 16 (Nat.le_of_ble_eq_true rfl) rfl rfl (fun h1 => ?_) (fun h1 => ?_)
  · skip
    refine c_run 1 (pc' := 17) (ls' := [(0, .ref 61), (1, .int x)]) (st' := [.int 0]) (μ' := (I, J)) (Nat.le_of_ble_eq_true rfl) rfl ?_
    refine c_ret (Nat.le_of_ble_eq_true rfl) rfl rfl ⟨by decide, rfl⟩ ?_
    refine ⟨?_, rfl⟩
    first
      | exact congrArg (fun z => some (Value.int z)) (s01_t ⟨Int32.not_lt.mp (by assumption), Int32.not_le.mp (by assumption)⟩).symm
      | exact congrArg (fun z => some (Value.int z)) (s01_f (fun q => absurd (by assumption) (Int32.not_lt.mpr q.1))).symm
      | exact congrArg (fun z => some (Value.int z)) (s01_f (fun q => absurd (by assumption) (Int32.not_le.mpr q.2))).symm
  · skip
    refine c_run 3 (pc' := 9) (ls' := [(0, .ref 61), (1, .int x)]) (st' := [.int ((k_sh 38 (I, J)).1 23 0), .int x]) (μ' := (I, J)) (Nat.le_of_ble_eq_true rfl) rfl ?_
    refine c_icge 16 (Nat.le_of_ble_eq_true rfl) rfl rfl (fun h2 => ?_) (fun h2 => ?_)
    · skip
      refine c_run 1 (pc' := 17) (ls' := [(0, .ref 61), (1, .int x)]) (st' := [.int 0]) (μ' := (I, J)) (Nat.le_of_ble_eq_true rfl) rfl ?_
      refine c_ret (Nat.le_of_ble_eq_true rfl) rfl rfl ⟨by decide, rfl⟩ ?_
      refine ⟨?_, rfl⟩
      first
        | exact congrArg (fun z => some (Value.int z)) (s01_t ⟨Int32.not_lt.mp (by assumption), Int32.not_le.mp (by assumption)⟩).symm
        | exact congrArg (fun z => some (Value.int z)) (s01_f (fun q => absurd (by assumption) (Int32.not_lt.mpr q.1))).symm
        | exact congrArg (fun z => some (Value.int z)) (s01_f (fun q => absurd (by assumption) (Int32.not_le.mpr q.2))).symm
    · skip
      refine c_run 2 (pc' := 17) (ls' := [(0, .ref 61), (1, .int x)]) (st' := [.int 1]) (μ' := (I, J)) (Nat.le_of_ble_eq_true rfl) rfl ?_
      refine c_ret (Nat.le_of_ble_eq_true rfl) rfl rfl ⟨by decide, rfl⟩ ?_
      refine ⟨?_, rfl⟩
      first
        | exact congrArg (fun z => some (Value.int z)) (s01_t ⟨Int32.not_lt.mp (by assumption), Int32.not_le.mp (by assumption)⟩).symm
        | exact congrArg (fun z => some (Value.int z)) (s01_f (fun q => absurd (by assumption) (Int32.not_lt.mpr q.1))).symm
        | exact congrArg (fun z => some (Value.int z)) (s01_f (fun q => absurd (by assumption) (Int32.not_le.mpr q.2))).symm

set_option maxRecDepth 100000 in
theorem t38_isB (I : Nat → Nat → Int32) (J : Nat → Nat → Int64)  : m_W 49 0 (lv_args 0 [.ref 38]) [] (I, J) (m_E (some (.int (s01 (k_isB (k_sh 38 (I, J)))))) (I, J)) := by
  show m_W 49 0 [(0, .ref 38)] [] (I, J) _
  refine c_run 4 (pc' := 8) (ls' := [(0, .ref 38)]) (st' := [.int ((k_sh 38 (I, J)).1 0 7), .ref 61]) (μ' := (I, J)) (Nat.le_of_ble_eq_true rfl) rfl ?_
  refine c_cv 66 [.int ((k_sh 38 (I, J)).1 0 7)] (b := 61) (r := []) (Nat.le_of_ble_eq_true rfl) rfl rfl rfl rfl rfl rfl (t38_hasE I J ((k_sh 38 (I, J)).1 0 7)) ?_
  rintro _ _ ⟨rfl, rfl⟩
  show m_W 49 11 [(0, .ref 38)] [.int (s01 (k_hasE (k_sh 38 (I, J)) ((k_sh 38 (I, J)).1 0 7)))] (I, J) _
  refine c_ret (Nat.le_of_ble_eq_true rfl) rfl rfl s01_n ?_
  exact ⟨rfl, rfl⟩

set_option maxRecDepth 100000 in
theorem t38_len (I : Nat → Nat → Int32) (J : Nat → Nat → Int64)  : m_W 50 0 (lv_args 0 [.ref 38]) [] (I, J) (m_E (some (.int (k_len (k_sh 38 (I, J))))) (I, J)) := by
  show m_W 50 0 [(0, .ref 38)] [] (I, J) _
  refine c_run 1 (pc' := 1) (ls' := [(0, .ref 38)]) (st' := [.ref 38]) (μ' := (I, J)) (Nat.le_of_ble_eq_true rfl) rfl ?_
  refine c_cv 49 [] (b := 38) (r := []) (Nat.le_of_ble_eq_true rfl) rfl rfl rfl rfl rfl rfl (t38_isB I J) ?_
  rintro _ _ ⟨rfl, rfl⟩
  show m_W 50 4 [(0, .ref 38)] [.int (s01 (k_isB (k_sh 38 (I, J))))] (I, J) _
  refine c_ifeq 19 (Nat.le_of_ble_eq_true rfl) rfl rfl (fun h1 => ?_) (fun h1 => ?_)
  · replace h1 := s01_0.mp h1
    refine c_run 1 (pc' := 20) (ls' := [(0, .ref 38)]) (st' := [.int 0]) (μ' := (I, J)) (Nat.le_of_ble_eq_true rfl) rfl ?_
    refine c_ret (Nat.le_of_ble_eq_true rfl) rfl rfl ⟨by decide, rfl⟩ ?_
    refine ⟨?_, rfl⟩
    first | rfl | (simp only [k_len, if_neg h1]; done) | (simp only [k_len, if_neg h1]; rfl)
  · replace h1 := s01_1.mp h1
    refine c_run 6 (pc' := 20) (ls' := [(0, .ref 38)]) (st' := [.int (((k_sh 38 (I, J)).1 0 3) - ((k_sh 38 (I, J)).1 0 9))]) (μ' := (I, J)) (Nat.le_of_ble_eq_true rfl) rfl ?_
    refine c_ret (Nat.le_of_ble_eq_true rfl) rfl rfl ⟨by decide, rfl⟩ ?_
    refine ⟨?_, rfl⟩
    first | rfl | (simp only [k_len, if_pos h1]; done) | (simp only [k_len, if_pos h1]; rfl)

set_option maxRecDepth 100000 in
theorem t38_set (I : Nat → Nat → Int32) (J : Nat → Nat → Int64)  : m_W 51 0 (lv_args 0 [.ref 38]) [] (I, J) (m_E (some (.int (s01 (k_set (k_sh 38 (I, J)))))) (I, J)) := by
  show m_W 51 0 [(0, .ref 38)] [] (I, J) _
  refine c_run 1 (pc' := 1) (ls' := [(0, .ref 38)]) (st' := [.ref 38]) (μ' := (I, J)) (Nat.le_of_ble_eq_true rfl) rfl ?_
  refine c_cv 49 [] (b := 38) (r := []) (Nat.le_of_ble_eq_true rfl) rfl rfl rfl rfl rfl rfl (t38_isB I J) ?_
  rintro _ _ ⟨rfl, rfl⟩
  show m_W 51 4 [(0, .ref 38)] [.int (s01 (k_isB (k_sh 38 (I, J))))] (I, J) _
  refine c_ifeq 29 (Nat.le_of_ble_eq_true rfl) rfl rfl (fun h1 => ?_) (fun h1 => ?_)
  · replace h1 := s01_0.mp h1
    refine c_run 1 (pc' := 30) (ls' := [(0, .ref 38)]) (st' := [.int 0]) (μ' := (I, J)) (Nat.le_of_ble_eq_true rfl) rfl ?_
    refine c_ret (Nat.le_of_ble_eq_true rfl) rfl rfl ⟨by decide, rfl⟩ ?_
    refine ⟨?_, rfl⟩
    first
      | exact congrArg (fun z => some (Value.int z)) (s01_t ⟨by assumption, by assumption, by assumption⟩).symm
      | exact congrArg (fun z => some (Value.int z)) (s01_f (fun q => absurd q.1 (by assumption))).symm
      | exact congrArg (fun z => some (Value.int z)) (s01_f (fun q => absurd q.2.1 (by assumption))).symm
      | exact congrArg (fun z => some (Value.int z)) (s01_f (fun q => absurd (by assumption) q.2.2)).symm
  · replace h1 := s01_1.mp h1
    refine c_run 2 (pc' := 11) (ls' := [(0, .ref 38)]) (st' := [.int ((k_sh 38 (I, J)).1 0 8)]) (μ' := (I, J)) (Nat.le_of_ble_eq_true rfl) rfl ?_
    refine c_ifne 29 (Nat.le_of_ble_eq_true rfl) rfl rfl (fun h2 => ?_) (fun h2 => ?_)
    · skip
      refine c_run 1 (pc' := 30) (ls' := [(0, .ref 38)]) (st' := [.int 0]) (μ' := (I, J)) (Nat.le_of_ble_eq_true rfl) rfl ?_
      refine c_ret (Nat.le_of_ble_eq_true rfl) rfl rfl ⟨by decide, rfl⟩ ?_
      refine ⟨?_, rfl⟩
      first
        | exact congrArg (fun z => some (Value.int z)) (s01_t ⟨by assumption, by assumption, by assumption⟩).symm
        | exact congrArg (fun z => some (Value.int z)) (s01_f (fun q => absurd q.1 (by assumption))).symm
        | exact congrArg (fun z => some (Value.int z)) (s01_f (fun q => absurd q.2.1 (by assumption))).symm
        | exact congrArg (fun z => some (Value.int z)) (s01_f (fun q => absurd (by assumption) q.2.2)).symm
    · skip
      refine c_run 1 (pc' := 15) (ls' := [(0, .ref 38)]) (st' := [.ref 38]) (μ' := (I, J)) (Nat.le_of_ble_eq_true rfl) rfl ?_
      refine c_cv 50 [] (b := 38) (r := []) (Nat.le_of_ble_eq_true rfl) rfl rfl rfl rfl rfl rfl (t38_len I J) ?_
      rintro _ _ ⟨rfl, rfl⟩
      show m_W 51 18 [(0, .ref 38)] [.int (k_len (k_sh 38 (I, J)))] (I, J) _
      refine c_run 2 (pc' := 22) (ls' := [(0, .ref 38)]) (st' := [.int ((k_sh 38 (I, J)).1 0 4), .int (k_len (k_sh 38 (I, J)))]) (μ' := (I, J)) (Nat.le_of_ble_eq_true rfl) rfl ?_
      refine c_iclt 29 (Nat.le_of_ble_eq_true rfl) rfl rfl (fun h3 => ?_) (fun h3 => ?_)
      · skip
        refine c_run 1 (pc' := 30) (ls' := [(0, .ref 38)]) (st' := [.int 0]) (μ' := (I, J)) (Nat.le_of_ble_eq_true rfl) rfl ?_
        refine c_ret (Nat.le_of_ble_eq_true rfl) rfl rfl ⟨by decide, rfl⟩ ?_
        refine ⟨?_, rfl⟩
        first
          | exact congrArg (fun z => some (Value.int z)) (s01_t ⟨by assumption, by assumption, by assumption⟩).symm
          | exact congrArg (fun z => some (Value.int z)) (s01_f (fun q => absurd q.1 (by assumption))).symm
          | exact congrArg (fun z => some (Value.int z)) (s01_f (fun q => absurd q.2.1 (by assumption))).symm
          | exact congrArg (fun z => some (Value.int z)) (s01_f (fun q => absurd (by assumption) q.2.2)).symm
      · skip
        refine c_run 2 (pc' := 30) (ls' := [(0, .ref 38)]) (st' := [.int 1]) (μ' := (I, J)) (Nat.le_of_ble_eq_true rfl) rfl ?_
        refine c_ret (Nat.le_of_ble_eq_true rfl) rfl rfl ⟨by decide, rfl⟩ ?_
        refine ⟨?_, rfl⟩
        first
          | exact congrArg (fun z => some (Value.int z)) (s01_t ⟨by assumption, by assumption, by assumption⟩).symm
          | exact congrArg (fun z => some (Value.int z)) (s01_f (fun q => absurd q.1 (by assumption))).symm
          | exact congrArg (fun z => some (Value.int z)) (s01_f (fun q => absurd q.2.1 (by assumption))).symm
          | exact congrArg (fun z => some (Value.int z)) (s01_f (fun q => absurd (by assumption) q.2.2)).symm

set_option maxRecDepth 100000 in
theorem t38_all (I : Nat → Nat → Int32) (J : Nat → Nat → Int64)  : m_W 81 0 (lv_args 0 [.ref 39]) [] (I, J) (m_E (some (.int (k_all (k_sh 38 (I, J))))) (I, J)) := by
  show m_W 81 0 [(0, .ref 39)] [] (I, J) _
  refine c_run 6 (pc' := 8) (ls' := [(0, .ref 39)]) (st' := [.int (((1 : Int32) <<< (((k_sh 38 (I, J)).1 1 0) &&& 31)) - (1 : Int32))]) (μ' := (I, J)) (Nat.le_of_ble_eq_true rfl) rfl ?_
  refine c_ret (Nat.le_of_ble_eq_true rfl) rfl rfl ⟨by decide, rfl⟩ ?_
  exact ⟨rfl, rfl⟩

set_option maxRecDepth 100000 in
theorem t38_open (I : Nat → Nat → Int32) (J : Nat → Nat → Int64) (e : Nat) (he : e < 6) : m_W 52 0 (lv_args 0 [.ref 38, .int (nI e)]) [] (I, J) (m_E (some (.int (k_open (k_sh 38 (I, J)) e))) (I, J)) := by
  show m_W 52 0 [(0, .ref 38), (1, .int (nI e))] [] (I, J) _
  refine c_run 4 (pc' := 8) (ls' := [(0, .ref 38), (1, .int (nI e))]) (st' := [.int (nI e), .ref 65]) (μ' := (I, J)) (Nat.le_of_ble_eq_true rfl) rfl ?_
  refine c_ial e 6 (Nat.le_of_ble_eq_true rfl) rfl rfl rfl rfl rfl (by omega) ?_
  show m_W 52 9 [(0, .ref 38), (1, .int (nI e))] [.int ((k_sh 38 (I, J)).1 27 e)] (I, J) _
  refine c_run 2 (pc' := 13) (ls' := [(0, .ref 38), (1, .int (nI e))]) (st' := [.ref 39, .int ((k_sh 38 (I, J)).1 27 e)]) (μ' := (I, J)) (Nat.le_of_ble_eq_true rfl) rfl ?_
  refine c_cv 81 [] (b := 39) (r := [.int ((k_sh 38 (I, J)).1 27 e)]) (Nat.le_of_ble_eq_true rfl) rfl rfl rfl rfl rfl rfl (t38_all I J) ?_
  rintro _ _ ⟨rfl, rfl⟩
  show m_W 52 16 [(0, .ref 38), (1, .int (nI e))] [.int (k_all (k_sh 38 (I, J))), .int ((k_sh 38 (I, J)).1 27 e)] (I, J) _
  refine c_run 1 (pc' := 17) (ls' := [(0, .ref 38), (1, .int (nI e))]) (st' := [.int (((k_sh 38 (I, J)).1 27 e) &&& (k_all (k_sh 38 (I, J))))]) (μ' := (I, J)) (Nat.le_of_ble_eq_true rfl) rfl ?_
  refine c_ret (Nat.le_of_ble_eq_true rfl) rfl rfl ⟨by decide, rfl⟩ ?_
  exact ⟨rfl, rfl⟩

set_option maxRecDepth 100000 in
theorem t38_chk (I : Nat → Nat → Int32) (J : Nat → Nat → Int64) (x : Int32) : m_W 57 0 (lv_args 0 [.ref 38, .int x]) [] (I, J) (m_E (some (.int (k_chk (k_sh 38 (I, J)) x))) (I, J)) := by
  show m_W 57 0 [(0, .ref 38), (1, .int x)] [] (I, J) _
  refine c_run 3 (pc' := 5) (ls' := [(0, .ref 38), (1, .int x)]) (st' := [.int 2000, .int 1, .int x]) (μ' := (I, J)) (Nat.le_of_ble_eq_true rfl) rfl ?_
  refine c_cs 35 [.int x, .int 1, .int 2000] (r := []) (Nat.le_of_ble_eq_true rfl) rfl (Or.inr ⟨rfl, rfl⟩) rfl rfl rfl (t_isWithin I J x 1 2000) ?_
  rintro _ _ ⟨rfl, rfl⟩
  show m_W 57 8 [(0, .ref 38), (1, .int x)] [.int (s01 ((1 : Int32) ≤ x ∧ x ≤ (2000 : Int32)))] (I, J) _
  refine c_ifne 13 (Nat.le_of_ble_eq_true rfl) rfl rfl (fun h1 => ?_) (fun h1 => ?_)
  · replace h1 := s01_1.mp h1
    refine c_run 5 (pc' := 21) (ls' := [(0, .ref 38), (1, .int x)]) (st' := [.int ((100000000 : Int32) - x), .int ((k_sh 38 (I, J)).1 0 3)]) (μ' := (I, J)) (Nat.le_of_ble_eq_true rfl) rfl ?_
    refine c_icle 29 (Nat.le_of_ble_eq_true rfl) rfl rfl (fun h2 => ?_) (fun h2 => ?_)
    · skip
      refine c_run 1 (pc' := 30) (ls' := [(0, .ref 38), (1, .int x)]) (st' := [.int 0]) (μ' := (I, J)) (Nat.le_of_ble_eq_true rfl) rfl ?_
      refine c_ret (Nat.le_of_ble_eq_true rfl) rfl rfl ⟨by decide, rfl⟩ ?_
      refine ⟨?_, rfl⟩
      first | rfl | (simp only [k_chk, if_pos h1, if_pos h2]; done) | (simp only [k_chk, if_pos h1, if_pos h2]; rfl)
    · skip
      refine c_run 2 (pc' := 30) (ls' := [(0, .ref 38), (1, .int x)]) (st' := [.int (-3)]) (μ' := (I, J)) (Nat.le_of_ble_eq_true rfl) rfl ?_
      refine c_ret (Nat.le_of_ble_eq_true rfl) rfl rfl ⟨by decide, rfl⟩ ?_
      refine ⟨?_, rfl⟩
      first | rfl | (simp only [k_chk, if_pos h1, if_neg h2]; done) | (simp only [k_chk, if_pos h1, if_neg h2]; rfl)
  · replace h1 := s01_0.mp h1
    refine c_run 1 (pc' := 12) (ls' := [(0, .ref 38), (1, .int x)]) (st' := [.int (-1)]) (μ' := (I, J)) (Nat.le_of_ble_eq_true rfl) rfl ?_
    refine c_ret (Nat.le_of_ble_eq_true rfl) rfl rfl ⟨by decide, rfl⟩ ?_
    refine ⟨?_, rfl⟩
    first | rfl | (simp only [k_chk, if_neg h1]; done) | (simp only [k_chk, if_neg h1]; rfl)

set_option maxRecDepth 100000 in
theorem t38_app (I : Nat → Nat → Int32) (J : Nat → Nat → Int64) (l c : Nat) (w kd t : Int32) (a : Int64) (hl : (k_sh 38 (I, J)).1 30 1 = nI l) (hl2 : l < 24) (hc : (k_sh 38 (I, J)).1 30 0 = nI c) (hc2 : c ≤ 24) : m_W 72 0 (lv_args 0 [.ref 68, .int w, .int kd, .int t, .long a]) [] (I, J) (k_E 38 (I, J) none (k_app (k_sh 38 (I, J)) l c w kd t a)) := by
  show m_W 72 0 [(0, .ref 68), (1, .int w), (2, .int kd), (3, .int t), (4, .long a)] [] (I, J) _
  refine c_run 6 (pc' := 9) (ls' := [(0, .ref 68), (1, .int w), (2, .int kd), (3, .int t), (4, .long a)]) (st' := [.int 24, .int (((k_sh 38 (I, J)).1 30 1) + (1 : Int32)), .ref 68]) (μ' := (I, J)) (Nat.le_of_ble_eq_true rfl) rfl ?_
  refine c_cs 158 [.int (((k_sh 38 (I, J)).1 30 1) + (1 : Int32)), .int 24] (r := [.ref 68]) (Nat.le_of_ble_eq_true rfl) rfl (Or.inl rfl) rfl rfl rfl (t_floorMod I J (((k_sh 38 (I, J)).1 30 1) + (1 : Int32)) 24 (by decide)) ?_
  rintro _ _ ⟨rfl, rfl⟩
  rw [show s_md (((k_sh 38 (I, J)).1 30 1) + (1 : Int32)) 24 = nI ((l + 1) % 24) from by rw [hl]; exact k_md hl2]
  show m_W 72 12 [(0, .ref 68), (1, .int w), (2, .int kd), (3, .int t), (4, .long a)] [.int (nI ((l + 1) % 24)), .ref 68] (I, J) _
  refine c_run 6 (pc' := 24) (ls' := [(0, .ref 68), (1, .int w), (2, .int kd), (3, .int t), (4, .long a)]) (st' := [.int w, .int (nI ((l + 1) % 24)), .ref 69]) (μ' := ((m_ui I 68 1 (nI ((l + 1) % 24))), J)) (Nat.le_of_ble_eq_true rfl) rfl ?_
  refine c_ias ((l + 1) % 24) 24 (Nat.le_of_ble_eq_true rfl) rfl rfl rfl rfl rfl (by omega) ?_
  show m_W 72 25 [(0, .ref 68), (1, .int w), (2, .int kd), (3, .int t), (4, .long a)] [] ((m_ui (m_ui I 68 1 (nI ((l + 1) % 24))) 69 ((l + 1) % 24) w), J) _
  refine c_run 5 (pc' := 34) (ls' := [(0, .ref 68), (1, .int w), (2, .int kd), (3, .int t), (4, .long a)]) (st' := [.int kd, .int (nI ((l + 1) % 24)), .ref 70]) (μ' := ((m_ui (m_ui I 68 1 (nI ((l + 1) % 24))) 69 ((l + 1) % 24) w), J)) (Nat.le_of_ble_eq_true rfl) rfl ?_
  refine c_ias ((l + 1) % 24) 24 (Nat.le_of_ble_eq_true rfl) rfl rfl rfl rfl rfl (by omega) ?_
  show m_W 72 35 [(0, .ref 68), (1, .int w), (2, .int kd), (3, .int t), (4, .long a)] [] ((m_ui (m_ui (m_ui I 68 1 (nI ((l + 1) % 24))) 69 ((l + 1) % 24) w) 70 ((l + 1) % 24) kd), J) _
  refine c_run 5 (pc' := 44) (ls' := [(0, .ref 68), (1, .int w), (2, .int kd), (3, .int t), (4, .long a)]) (st' := [.int t, .int (nI ((l + 1) % 24)), .ref 71]) (μ' := ((m_ui (m_ui (m_ui I 68 1 (nI ((l + 1) % 24))) 69 ((l + 1) % 24) w) 70 ((l + 1) % 24) kd), J)) (Nat.le_of_ble_eq_true rfl) rfl ?_
  refine c_ias ((l + 1) % 24) 24 (Nat.le_of_ble_eq_true rfl) rfl rfl rfl rfl rfl (by omega) ?_
  show m_W 72 45 [(0, .ref 68), (1, .int w), (2, .int kd), (3, .int t), (4, .long a)] [] ((m_ui (m_ui (m_ui (m_ui I 68 1 (nI ((l + 1) % 24))) 69 ((l + 1) % 24) w) 70 ((l + 1) % 24) kd) 71 ((l + 1) % 24) t), J) _
  refine c_run 5 (pc' := 55) (ls' := [(0, .ref 68), (1, .int w), (2, .int kd), (3, .int t), (4, .long a)]) (st' := [.long a, .int (nI ((l + 1) % 24)), .ref 72]) (μ' := ((m_ui (m_ui (m_ui (m_ui I 68 1 (nI ((l + 1) % 24))) 69 ((l + 1) % 24) w) 70 ((l + 1) % 24) kd) 71 ((l + 1) % 24) t), J)) (Nat.le_of_ble_eq_true rfl) rfl ?_
  refine c_las ((l + 1) % 24) 24 (Nat.le_of_ble_eq_true rfl) rfl rfl rfl rfl rfl (by omega) ?_
  show m_W 72 56 [(0, .ref 68), (1, .int w), (2, .int kd), (3, .int t), (4, .long a)] [] ((m_ui (m_ui (m_ui (m_ui I 68 1 (nI ((l + 1) % 24))) 69 ((l + 1) % 24) w) 70 ((l + 1) % 24) kd) 71 ((l + 1) % 24) t), (m_uj J 72 ((l + 1) % 24) a)) _
  refine c_run 6 (pc' := 65) (ls' := [(0, .ref 68), (1, .int w), (2, .int kd), (3, .int t), (4, .long a)]) (st' := [.int (((k_sh 38 (I, J)).1 30 0) + (1 : Int32)), .int 24, .ref 68]) (μ' := ((m_ui (m_ui (m_ui (m_ui I 68 1 (nI ((l + 1) % 24))) 69 ((l + 1) % 24) w) 70 ((l + 1) % 24) kd) 71 ((l + 1) % 24) t), (m_uj J 72 ((l + 1) % 24) a))) (Nat.le_of_ble_eq_true rfl) rfl ?_
  refine c_cs 160 [.int 24, .int (((k_sh 38 (I, J)).1 30 0) + (1 : Int32))] (r := [.ref 68]) (Nat.le_of_ble_eq_true rfl) rfl (Or.inl rfl) rfl rfl rfl (t_mini (m_ui (m_ui (m_ui (m_ui I 68 1 (nI ((l + 1) % 24))) 69 ((l + 1) % 24) w) 70 ((l + 1) % 24) kd) 71 ((l + 1) % 24) t) (m_uj J 72 ((l + 1) % 24) a) 24 (((k_sh 38 (I, J)).1 30 0) + (1 : Int32))) ?_
  rintro _ _ ⟨rfl, rfl⟩
  rw [show (if (((k_sh 38 (I, J)).1 30 0) + (1 : Int32)) < 24 then (((k_sh 38 (I, J)).1 30 0) + (1 : Int32)) else (24 : Int32)) = nI (min 24 (c + 1)) from by rw [hc]; exact k_mn hc2]
  show m_W 72 68 [(0, .ref 68), (1, .int w), (2, .int kd), (3, .int t), (4, .long a)] [.int (nI (min 24 (c + 1))), .ref 68] ((m_ui (m_ui (m_ui (m_ui I 68 1 (nI ((l + 1) % 24))) 69 ((l + 1) % 24) w) 70 ((l + 1) % 24) kd) 71 ((l + 1) % 24) t), (m_uj J 72 ((l + 1) % 24) a)) _
  refine c_run 1 (pc' := 71) (ls' := [(0, .ref 68), (1, .int w), (2, .int kd), (3, .int t), (4, .long a)]) (st' := []) (μ' := ((m_ui (m_ui (m_ui (m_ui (m_ui I 68 1 (nI ((l + 1) % 24))) 69 ((l + 1) % 24) w) 70 ((l + 1) % 24) kd) 71 ((l + 1) % 24) t) 68 0 (nI (min 24 (c + 1)))), (m_uj J 72 ((l + 1) % 24) a))) (Nat.le_of_ble_eq_true rfl) rfl ?_
  refine c_vret (Nat.le_of_ble_eq_true rfl) rfl rfl ?_
  refine ⟨?_, ?_, ?_⟩
  · exact rfl
  · rw [k_ui 30 rfl rfl, k_ui 33 rfl rfl, k_ui 32 rfl rfl, k_ui 31 rfl rfl, k_ui 30 rfl rfl, k_uj 34 rfl rfl]
    exact rfl
  · exact (((((((m_fr.rf).ui rfl rfl).ui rfl rfl).ui rfl rfl).ui rfl rfl).ui rfl rfl).uj rfl rfl)

