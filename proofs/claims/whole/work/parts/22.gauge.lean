/-! THE GAUGE'S OWN METHODS, further: level tables, readings, the ledger read, names, a burn for a time -/
abbrev kp (κ : k_M) (j : Nat) : Nat := (κ.1 (11 + 3 * j) 0).toNatClampNeg
abbrev km (κ : k_M) : Nat := (κ.1 23 0).toNatClampNeg
def k_pw (κ : k_M) : Prop := ∀ j, j < 4 → ∃ p, p ≤ 8 ∧ κ.1 (11 + 3 * j) 0 = nI p
theorem k_pw_p {κ : k_M} (h : k_pw κ) {j : Nat} (hj : j < 4) : κ.1 (11 + 3 * j) 0 = nI (kp κ j) ∧ kp κ j ≤ 8 := by
  obtain ⟨p, h1, h2⟩ := h j hj
  have : kp κ j = p := by show (κ.1 (11 + 3 * j) 0).toNatClampNeg = p; rw [h2]; exact nI_clamp (by omega)
  rw [this]; exact ⟨h2, h1⟩
def k_wf (κ : k_M) : Prop := (∃ n, n ≤ 4 ∧ κ.1 1 0 = nI n) ∧ (∃ m, m ≤ 6 ∧ κ.1 23 0 = nI m) ∧ k_lw κ ∧ k_pw κ
theorem k_wf_n {κ : k_M} (h : k_wf κ) : κ.1 1 0 = nI (kn κ) ∧ kn κ ≤ 4 := by
  obtain ⟨⟨n, h1, h2⟩, -⟩ := h
  have : kn κ = n := by show (κ.1 1 0).toNatClampNeg = n; rw [h2]; exact nI_clamp (by omega)
  rw [this]; exact ⟨h2, h1⟩
theorem k_wf_m {κ : k_M} (h : k_wf κ) : κ.1 23 0 = nI (km κ) ∧ km κ ≤ 6 := by
  obtain ⟨-, ⟨n, h1, h2⟩, -⟩ := h
  have : km κ = n := by show (κ.1 23 0).toNatClampNeg = n; rw [h2]; exact nI_clamp (by omega)
  rw [this]; exact ⟨h2, h1⟩
theorem k_wf_l {κ : k_M} (h : k_wf κ) : k_lw κ := h.2.2.1
theorem k_wf_p {κ : k_M} (h : k_wf κ) : k_pw κ := h.2.2.2
/-- what commands leave as it is -/
def k_sc (κ κ' : k_M) : Prop := ∀ c j, 0 < c → c < 27 → κ'.1 c j = κ.1 c j
theorem k_sc.rf {κ : k_M} : k_sc κ κ := fun _ _ _ _ => rfl
theorem k_sc.tr {κ κ1 κ2 : k_M} (h : k_sc κ κ1) (h2 : k_sc κ1 κ2) : k_sc κ κ2 := fun c j a b => (h2 c j a b).trans (h c j a b)
theorem k_sc_wf {κ κ' : k_M} (h : k_wf κ) (hs : k_sc κ κ') (hl : k_lw κ') : k_wf κ' := by
  obtain ⟨⟨n, n1, n2⟩, ⟨m, m1, m2⟩, -, h4⟩ := h
  refine ⟨⟨n, n1, ?_⟩, ⟨m, m1, ?_⟩, hl, fun j hj => ?_⟩
  · rw [hs _ _ (by decide) (by decide)]; exact n2
  · rw [hs _ _ (by decide) (by decide)]; exact m2
  · obtain ⟨p, p1, p2⟩ := h4 j hj
    exact ⟨p, p1, by rw [hs _ _ (by omega) (by omega)]; exact p2⟩
def k_passx (κ : k_M) (ms : Int32) : Int32 × k_M := k_pass κ (ke κ) (kn κ) ms
def k_endx (κ : k_M) : Int32 × k_M := k_end κ (ke κ) (kn κ) (kl κ) (kc κ)
def k_read (κ : k_M) (t x : Int32) : Int32 × k_M := if k_hasT κ t ∧ (0 ≤ x ∧ x ≤ 10000) then k_rd κ t.toNatClampNeg (kp κ t.toNatClampNeg) x (kl κ) (kc κ) else (-1, κ)
theorem k_valve_sc {κ : k_M} {e t o : Int32} : k_sc κ (k_valve κ e t o).2 := by
  intro c j h1 h2
  unfold k_valve
  split
  · split
    · split
      · split
        · rfl
        · split
          · exact congrFun (m_ui_o (by omega)) _
          · exact congrFun (m_ui_o (by omega)) _
      · rfl
    · rfl
  · rfl
theorem k_valve_lw {κ : k_M} {e t o : Int32} (h : k_lw κ) : k_lw (k_valve κ e t o).2 := by
  unfold k_valve
  split
  · split
    · split
      · split
        · exact h
        · split
          · exact h
          · exact h
      · exact h
    · exact h
  · exact h
theorem k_begin_sc {κ : k_M} {e : Int32} : k_sc κ (k_begin κ e).2 := by
  intro c j h1 h2
  unfold k_begin
  split
  · split
    · rfl
    · split
      · rfl
      · show m_ui (m_ui κ.1 0 7 e) 0 9 (κ.1 0 3) c j = κ.1 c j
        rw [m_ui_o (by omega), m_ui_o (by omega)]
  · rfl
theorem k_begin_lw {κ : k_M} {e : Int32} (h : k_lw κ) : k_lw (k_begin κ e).2 := by
  unfold k_begin
  split
  · split
    · exact h
    · split
      · exact h
      · exact h
  · exact h
theorem k_pass_sc {κ : k_M} {e n : Nat} {ms : Int32} : k_sc κ (k_pass κ e n ms).2 := by
  intro c j h1 h2
  unfold k_pass
  split
  · split
    · exact k_its_o (by omega) (by omega)
    · show m_ui κ.1 0 3 (κ.1 0 3 + ms) c j = _
      rw [m_ui_o (by omega)]
  · rfl
theorem k_pass_lw {κ : k_M} {e n : Nat} {ms : Int32} (h : k_lw κ) : k_lw (k_pass κ e n ms).2 := by
  unfold k_pass
  split
  · split
    · exact k_its_lw h
    · exact h
  · exact h
theorem k_end_sc {κ : k_M} {e n l c : Nat} : k_sc κ (k_end κ e n l c).2 := by
  intro x j h1 h2
  unfold k_end
  split
  · show m_ui (m_ui (k_app _ _ _ _ _ _ _).1 0 7 (-1)) 0 8 0 x j = _
    rw [m_ui_o (by omega), m_ui_o (by omega), k_app_o (by omega)]
    rfl
  · rfl
theorem k_end_lw {κ : k_M} {e n l c : Nat} (h : k_lw κ) : k_lw (k_end κ e n l c).2 := by
  unfold k_end
  split
  · have h1 : k_lw (k_app (k_ev κ e n) l c (κ.1 0 3) 1 (-1) (k_bsum κ n)) := k_app_lw
    exact h1
  · exact h
theorem k_rd_sc {κ : k_M} {j p : Nat} {x : Int32} {l c : Nat} : k_sc κ (k_rd κ j p x l c).2 := by
  intro y k h1 h2
  unfold k_rd
  split
  · rfl
  · split
    · split
      · exact k_app_o (by omega)
      · exact k_app_o (by omega)
    · rfl
theorem k_rd_lw {κ : k_M} {j p : Nat} {x : Int32} {l c : Nat} (h : k_lw κ) : k_lw (k_rd κ j p x l c).2 := by
  unfold k_rd
  split
  · exact h
  · split
    · split
      · exact k_app_lw
      · exact k_app_lw
    · exact h
theorem k_read_sc {κ : k_M} {t x : Int32} : k_sc κ (k_read κ t x).2 := by
  unfold k_read
  split
  · exact k_rd_sc
  · exact k_sc.rf
theorem k_read_lw {κ : k_M} {t x : Int32} (h : k_lw κ) : k_lw (k_read κ t x).2 := by
  unfold k_read
  split
  · exact k_rd_lw h
  · exact h
/-- a burn for a time -/
def k_bfor (κ : k_M) (e ms : Int32) : Int32 × k_M := if k_chk κ ms < 0 then (0, κ) else (if 0 ≤ (k_begin κ e).1 then (1, (k_endx (k_passx (k_begin κ e).2 ms).2).2) else (0, (k_begin κ e).2))
theorem k_bfor_sc {κ : k_M} {e ms : Int32} : k_sc κ (k_bfor κ e ms).2 := by
  unfold k_bfor
  split
  · exact k_sc.rf
  · split
    · exact k_begin_sc.tr (k_pass_sc.tr k_end_sc)
    · exact k_begin_sc
theorem k_bfor_lw {κ : k_M} {e ms : Int32} (h : k_lw κ) : k_lw (k_bfor κ e ms).2 := by
  unfold k_bfor
  split
  · exact h
  · split
    · exact k_end_lw (k_pass_lw (k_begin_lw h))
    · exact k_begin_lw h
def x_addP (κ : k_M) (t x v : Int32) : Int32 × k_M := if k_hasT κ t then (if 0 ≤ x ∧ x ≤ 10000 then (if 0 ≤ v ∧ v ≤ 1000000000 then k_addP κ t.toNatClampNeg (kp κ t.toNatClampNeg) x v else (-1, κ)) else (-1, κ)) else (-1, κ)
def x_vol (κ : k_M) (t x : Int32) : Int64 := if k_hasT κ t then (if 0 ≤ x ∧ x ≤ 10000 then (if κ.1 (11 + 3 * t.toNatClampNeg) 0 = 0 then -4 else k_vol κ t.toNatClampNeg (kp κ t.toNatClampNeg) x) else -1) else -1
def x_burn (κ : k_M) (w : Int32) : Int32 := if w = 0 then κ.1 0 7 else (if w = 1 then k_len κ else (if w = 2 then (if k_set κ then 1 else 0) else (if w = 3 then (if κ.1 0 8 = 0 then 0 else 1) else -1)))
theorem k_bp {κ : k_M} {l : Nat} (hl : κ.1 30 1 = nI l) (hl2 : l < 24) {i : Nat} (hi : i < 24) : s_md (κ.1 30 1 - nI i) 24 = nI ((l + 24 - i) % 24) := by
  rw [hl]
  exact k_md2 l hl2 i hi

set_option maxRecDepth 100000 in
theorem t1_val (I : Nat → Nat → Int32) (J : Nat → Nat → Int64) (x w : Int32) (l c : Nat) (hl : (k_sh 1 (I, J)).1 30 1 = nI l) (hl2 : l < 24) (hc : (k_sh 1 (I, J)).1 30 0 = nI c) (hc2 : c ≤ 24) : m_W 73 0 (lv_args 0 [.ref 31, .int x, .int w]) [] (I, J) (m_E (some (.long (k_val (k_sh 1 (I, J)) l x w))) (I, J)) := by
  show m_W 73 0 [(0, .ref 31), (1, .int x), (2, .int w)] [] (I, J) _
  refine c_run 1 (pc' := 1) (ls' := [(0, .ref 31), (1, .int x), (2, .int w)]) (st' := [.int x]) (μ' := (I, J)) (Nat.le_of_ble_eq_true rfl) rfl ?_
  refine c_iflt 12 (Nat.le_of_ble_eq_true rfl) rfl rfl (fun h1 => ?_) (fun h1 => ?_)
  · skip
    refine c_run 1 (pc' := 15) (ls' := [(0, .ref 31), (1, .int x), (2, .int w)]) (st' := [.long (-1000000000000000000)]) (μ' := (I, J)) (Nat.le_of_ble_eq_true rfl) rfl ?_
    refine c_lret (Nat.le_of_ble_eq_true rfl) rfl rfl ?_
    refine ⟨?_, rfl⟩
    unfold k_val
    first
      | (rw [if_pos hxx, hcl]; (try subst_vars); repeat' split)
      | (rw [if_neg (fun q => by first | exact absurd q.1 (Int32.not_le.mpr (by assumption)) | exact absurd q.2 (by assumption))])
    all_goals first | rfl | contradiction | (simp_all; done)
  · skip
    refine c_run 3 (pc' := 9) (ls' := [(0, .ref 31), (1, .int x), (2, .int w)]) (st' := [.int ((k_sh 1 (I, J)).1 30 0), .int x]) (μ' := (I, J)) (Nat.le_of_ble_eq_true rfl) rfl ?_
    refine c_iclt 16 (Nat.le_of_ble_eq_true rfl) rfl rfl (fun h2 => ?_) (fun h2 => ?_)
    · skip
      refine c_run 5 (pc' := 24) (ls' := [(0, .ref 31), (1, .int x), (2, .int w)]) (st' := [.int 24, .int (((k_sh 1 (I, J)).1 30 1) - x)]) (μ' := (I, J)) (Nat.le_of_ble_eq_true rfl) rfl ?_
      obtain ⟨i, hi, rfl⟩ : ∃ i, i < c ∧ x = nI i := k_ix ⟨Int32.not_lt.mp (by assumption), by rw [← hc]; assumption⟩ (by omega)
      have hcl : (nI i).toNatClampNeg = i := nI_clamp (by omega)
      have hxx : 0 ≤ nI i ∧ nI i < (k_sh 1 (I, J)).1 30 0 := ⟨Int32.not_lt.mp (by assumption), by assumption⟩
      refine c_cs 158 [.int (((k_sh 1 (I, J)).1 30 1) - (nI i)), .int 24] (r := []) (Nat.le_of_ble_eq_true rfl) rfl (Or.inl rfl) rfl rfl rfl (t_floorMod I J (((k_sh 1 (I, J)).1 30 1) - (nI i)) 24 (by decide)) ?_
      rintro _ _ ⟨rfl, rfl⟩
      rw [show s_md (((k_sh 1 (I, J)).1 30 1) - (nI i)) 24 = nI ((l + 24 - i) % 24) from k_bp (κ := (k_sh 1 (I, J))) hl hl2 (by omega)]
      show m_W 73 27 [(0, .ref 31), (1, .int (nI i)), (2, .int w)] [.int (nI ((l + 24 - i) % 24))] (I, J) _
      refine c_run 2 (pc' := 29) (ls' := [(3, .int (nI ((l + 24 - i) % 24))), (0, .ref 31), (1, .int (nI i)), (2, .int w)]) (st' := [.int w]) (μ' := (I, J)) (Nat.le_of_ble_eq_true rfl) rfl ?_
      refine c_sw (Nat.le_of_ble_eq_true rfl) rfl 91 rfl (fun h3 => ?_) (fun j o ho h3 _ => ?_)
      · skip
        refine c_run 1 (pc' := 94) (ls' := [(3, .int (nI ((l + 24 - i) % 24))), (0, .ref 31), (1, .int (nI i)), (2, .int w)]) (st' := [.long (-1000000000000000000)]) (μ' := (I, J)) (Nat.le_of_ble_eq_true rfl) rfl ?_
        refine c_lret (Nat.le_of_ble_eq_true rfl) rfl rfl ?_
        refine ⟨?_, rfl⟩
        unfold k_val
        first
          | (rw [if_pos hxx, hcl]; (try subst_vars); repeat' split)
          | (rw [if_neg (fun q => by first | exact absurd q.1 (Int32.not_le.mpr (by assumption)) | exact absurd q.2 (by assumption))])
        all_goals first | rfl | contradiction | (simp_all; done)
      · have hj : j < 4 := (Array.getElem?_eq_some_iff.mp ho).1
        have h3 : w = Int32.ofInt (0 + (j : Int)) := by rw [← h3, Int32.ofInt_toInt]
        rcases (show j = 0 ∨ j = 1 ∨ j = 2 ∨ j = 3 by omega) with rfl | rfl | rfl | rfl
        · have ho : (31 : Int) = o := by simpa using ho
          subst ho
          have h3 : w = 0 := h3
          show m_W 73 60 [(3, .int (nI ((l + 24 - i) % 24))), (0, .ref 31), (1, .int (nI i)), (2, .int w)] [] (I, J) _
          refine c_run 3 (pc' := 65) (ls' := [(3, .int (nI ((l + 24 - i) % 24))), (0, .ref 31), (1, .int (nI i)), (2, .int w)]) (st' := [.int (nI ((l + 24 - i) % 24)), .ref 32]) (μ' := (I, J)) (Nat.le_of_ble_eq_true rfl) rfl ?_
          refine c_ial ((l + 24 - i) % 24) 24 (Nat.le_of_ble_eq_true rfl) rfl rfl rfl rfl rfl (by omega) ?_
          show m_W 73 66 [(3, .int (nI ((l + 24 - i) % 24))), (0, .ref 31), (1, .int (nI i)), (2, .int w)] [.int ((k_sh 1 (I, J)).1 31 ((l + 24 - i) % 24))] (I, J) _
          refine c_run 1 (pc' := 67) (ls' := [(3, .int (nI ((l + 24 - i) % 24))), (0, .ref 31), (1, .int (nI i)), (2, .int w)]) (st' := [.long ((((k_sh 1 (I, J)).1 31 ((l + 24 - i) % 24)) : Int32).toInt64)]) (μ' := (I, J)) (Nat.le_of_ble_eq_true rfl) rfl ?_
          refine c_lret (Nat.le_of_ble_eq_true rfl) rfl rfl ?_
          refine ⟨?_, rfl⟩
          unfold k_val
          first
            | (rw [if_pos hxx, hcl]; (try subst_vars); repeat' split)
            | (rw [if_neg (fun q => by first | exact absurd q.1 (Int32.not_le.mpr (by assumption)) | exact absurd q.2 (by assumption))])
          all_goals first | rfl | contradiction | (simp_all; done)
        · have ho : (39 : Int) = o := by simpa using ho
          subst ho
          have h3 : w = 1 := h3
          show m_W 73 68 [(3, .int (nI ((l + 24 - i) % 24))), (0, .ref 31), (1, .int (nI i)), (2, .int w)] [] (I, J) _
          refine c_run 3 (pc' := 73) (ls' := [(3, .int (nI ((l + 24 - i) % 24))), (0, .ref 31), (1, .int (nI i)), (2, .int w)]) (st' := [.int (nI ((l + 24 - i) % 24)), .ref 33]) (μ' := (I, J)) (Nat.le_of_ble_eq_true rfl) rfl ?_
          refine c_ial ((l + 24 - i) % 24) 24 (Nat.le_of_ble_eq_true rfl) rfl rfl rfl rfl rfl (by omega) ?_
          show m_W 73 74 [(3, .int (nI ((l + 24 - i) % 24))), (0, .ref 31), (1, .int (nI i)), (2, .int w)] [.int ((k_sh 1 (I, J)).1 32 ((l + 24 - i) % 24))] (I, J) _
          refine c_run 1 (pc' := 75) (ls' := [(3, .int (nI ((l + 24 - i) % 24))), (0, .ref 31), (1, .int (nI i)), (2, .int w)]) (st' := [.long ((((k_sh 1 (I, J)).1 32 ((l + 24 - i) % 24)) : Int32).toInt64)]) (μ' := (I, J)) (Nat.le_of_ble_eq_true rfl) rfl ?_
          refine c_lret (Nat.le_of_ble_eq_true rfl) rfl rfl ?_
          refine ⟨?_, rfl⟩
          unfold k_val
          first
            | (rw [if_pos hxx, hcl]; (try subst_vars); repeat' split)
            | (rw [if_neg (fun q => by first | exact absurd q.1 (Int32.not_le.mpr (by assumption)) | exact absurd q.2 (by assumption))])
          all_goals first | rfl | contradiction | (simp_all; done)
        · have ho : (47 : Int) = o := by simpa using ho
          subst ho
          have h3 : w = 2 := h3
          show m_W 73 76 [(3, .int (nI ((l + 24 - i) % 24))), (0, .ref 31), (1, .int (nI i)), (2, .int w)] [] (I, J) _
          refine c_run 3 (pc' := 81) (ls' := [(3, .int (nI ((l + 24 - i) % 24))), (0, .ref 31), (1, .int (nI i)), (2, .int w)]) (st' := [.int (nI ((l + 24 - i) % 24)), .ref 34]) (μ' := (I, J)) (Nat.le_of_ble_eq_true rfl) rfl ?_
          refine c_ial ((l + 24 - i) % 24) 24 (Nat.le_of_ble_eq_true rfl) rfl rfl rfl rfl rfl (by omega) ?_
          show m_W 73 82 [(3, .int (nI ((l + 24 - i) % 24))), (0, .ref 31), (1, .int (nI i)), (2, .int w)] [.int ((k_sh 1 (I, J)).1 33 ((l + 24 - i) % 24))] (I, J) _
          refine c_run 1 (pc' := 83) (ls' := [(3, .int (nI ((l + 24 - i) % 24))), (0, .ref 31), (1, .int (nI i)), (2, .int w)]) (st' := [.long ((((k_sh 1 (I, J)).1 33 ((l + 24 - i) % 24)) : Int32).toInt64)]) (μ' := (I, J)) (Nat.le_of_ble_eq_true rfl) rfl ?_
          refine c_lret (Nat.le_of_ble_eq_true rfl) rfl rfl ?_
          refine ⟨?_, rfl⟩
          unfold k_val
          first
            | (rw [if_pos hxx, hcl]; (try subst_vars); repeat' split)
            | (rw [if_neg (fun q => by first | exact absurd q.1 (Int32.not_le.mpr (by assumption)) | exact absurd q.2 (by assumption))])
          all_goals first | rfl | contradiction | (simp_all; done)
        · have ho : (55 : Int) = o := by simpa using ho
          subst ho
          have h3 : w = 3 := h3
          show m_W 73 84 [(3, .int (nI ((l + 24 - i) % 24))), (0, .ref 31), (1, .int (nI i)), (2, .int w)] [] (I, J) _
          refine c_run 3 (pc' := 89) (ls' := [(3, .int (nI ((l + 24 - i) % 24))), (0, .ref 31), (1, .int (nI i)), (2, .int w)]) (st' := [.int (nI ((l + 24 - i) % 24)), .ref 35]) (μ' := (I, J)) (Nat.le_of_ble_eq_true rfl) rfl ?_
          refine c_lal ((l + 24 - i) % 24) 24 (Nat.le_of_ble_eq_true rfl) rfl rfl rfl rfl rfl (by omega) ?_
          show m_W 73 90 [(3, .int (nI ((l + 24 - i) % 24))), (0, .ref 31), (1, .int (nI i)), (2, .int w)] [.long ((k_sh 1 (I, J)).2 34 ((l + 24 - i) % 24))] (I, J) _
          refine c_lret (Nat.le_of_ble_eq_true rfl) rfl rfl ?_
          refine ⟨?_, rfl⟩
          unfold k_val
          first
            | (rw [if_pos hxx, hcl]; (try subst_vars); repeat' split)
            | (rw [if_neg (fun q => by first | exact absurd q.1 (Int32.not_le.mpr (by assumption)) | exact absurd q.2 (by assumption))])
          all_goals first | rfl | contradiction | (simp_all; done)
    · skip
      refine c_run 1 (pc' := 15) (ls' := [(0, .ref 31), (1, .int x), (2, .int w)]) (st' := [.long (-1000000000000000000)]) (μ' := (I, J)) (Nat.le_of_ble_eq_true rfl) rfl ?_
      refine c_lret (Nat.le_of_ble_eq_true rfl) rfl rfl ?_
      refine ⟨?_, rfl⟩
      unfold k_val
      first
        | (rw [if_pos hxx, hcl]; (try subst_vars); repeat' split)
        | (rw [if_neg (fun q => by first | exact absurd q.1 (Int32.not_le.mpr (by assumption)) | exact absurd q.2 (by assumption))])
      all_goals first | rfl | contradiction | (simp_all; done)

set_option maxRecDepth 100000 in
theorem t_entry (I : Nat → Nat → Int32) (J : Nat → Nat → Int64) (x w : Int32) (hw : k_wf (k_sh 1 (I, J))) : m_W 24 0 (lv_args 0 [.ref 0, .int x, .int w]) [] (I, J) (m_E (some (.long (k_val (k_sh 1 (I, J)) (kl (k_sh 1 (I, J))) x w))) (I, J)) := by
  show m_W 24 0 [(0, .ref 0), (1, .int x), (2, .int w)] [] (I, J) _
  refine c_run 5 (pc' := 9) (ls' := [(0, .ref 0), (1, .int x), (2, .int w)]) (st' := [.int w, .int x, .ref 31]) (μ' := (I, J)) (Nat.le_of_ble_eq_true rfl) rfl ?_
  refine c_cv 73 [.int x, .int w] (b := 31) (r := []) (Nat.le_of_ble_eq_true rfl) rfl rfl rfl rfl rfl rfl (t1_val I J x w (kl (k_sh 1 (I, J))) (kc (k_sh 1 (I, J))) (k_lw_l (k_wf_l hw)).1 (k_lw_l (k_wf_l hw)).2 (k_lw_c (k_wf_l hw)).1 (k_lw_c (k_wf_l hw)).2) ?_
  rintro _ _ ⟨rfl, rfl⟩
  show m_W 24 12 [(0, .ref 0), (1, .int x), (2, .int w)] [.long (k_val (k_sh 1 (I, J)) (kl (k_sh 1 (I, J))) x w)] (I, J) _
  refine c_lret (Nat.le_of_ble_eq_true rfl) rfl rfl ?_
  exact ⟨rfl, rfl⟩

set_option maxRecDepth 100000 in
theorem t_mass (I : Nat → Nat → Int32) (J : Nat → Nat → Int64) (t w : Int32) (hw : k_wf (k_sh 1 (I, J))) (hv : ∀ t, t < 4 → ∃ v, v ≤ 1000000000000000 ∧ (k_sh 1 (I, J)).2 8 t = lN v) : m_W 8 0 (lv_args 0 [.ref 0, .int t, .int w]) [] (I, J) (m_E (some (.long (x_mass (k_sh 1 (I, J)) t w))) (I, J)) := by
  show m_W 8 0 [(0, .ref 0), (1, .int t), (2, .int w)] [] (I, J) _
  obtain ⟨hn, hn4⟩ := k_wf_n hw
  obtain ⟨hm, hm6⟩ := k_wf_m hw
  refine c_run 4 (pc' := 8) (ls' := [(0, .ref 0), (1, .int t), (2, .int w)]) (st' := [.int t, .ref 2]) (μ' := (I, J)) (Nat.le_of_ble_eq_true rfl) rfl ?_
  refine c_cv 80 [.int t] (b := 2) (r := []) (Nat.le_of_ble_eq_true rfl) rfl rfl rfl rfl rfl rfl (t1_hasT I J t) ?_
  rintro _ _ ⟨rfl, rfl⟩
  show m_W 8 11 [(0, .ref 0), (1, .int t), (2, .int w)] [.int (s01 (k_hasT (k_sh 1 (I, J)) t))] (I, J) _
  refine c_ifne 18 (Nat.le_of_ble_eq_true rfl) rfl rfl (fun h1 => ?_) (fun h1 => ?_)
  · replace h1 := s01_1.mp h1
    refine c_run 1 (pc' := 19) (ls' := [(0, .ref 0), (1, .int t), (2, .int w)]) (st' := [.int w]) (μ' := (I, J)) (Nat.le_of_ble_eq_true rfl) rfl ?_
    obtain ⟨i, hi, rfl⟩ : ∃ i, i < kn (k_sh 1 (I, J)) ∧ t = nI i := k_ix (by rw [← hn]; assumption) (by omega)
    have hcl : (nI i).toNatClampNeg = i := nI_clamp (by omega)
    obtain ⟨v, hv2, hvv⟩ := hv i (by omega)
    refine c_sw (Nat.le_of_ble_eq_true rfl) rfl 141 rfl (fun h2 => ?_) (fun j o ho h2 _ => ?_)
    · skip
      refine c_run 1 (pc' := 144) (ls' := [(0, .ref 0), (1, .int (nI i)), (2, .int w)]) (st' := [.long (-1)]) (μ' := (I, J)) (Nat.le_of_ble_eq_true rfl) rfl ?_
      refine c_lret (Nat.le_of_ble_eq_true rfl) rfl rfl ?_
      refine ⟨?_, rfl⟩
      unfold x_mass
      first
        | (rw [if_pos (by assumption), hcl]; (try subst_vars); repeat' split)
        | rw [if_neg (by assumption)]
      all_goals first | rfl | contradiction | (simp_all; done)
    · have hj : j < 6 := (Array.getElem?_eq_some_iff.mp ho).1
      have h2 : w = Int32.ofInt (0 + (j : Int)) := by rw [← h2, Int32.ofInt_toInt]
      rcases (show j = 0 ∨ j = 1 ∨ j = 2 ∨ j = 3 ∨ j = 4 ∨ j = 5 by omega) with rfl | rfl | rfl | rfl | rfl | rfl
      · have ho : (37 : Int) = o := by simpa using ho
        subst ho
        have h2 : w = 0 := h2
        show m_W 8 56 [(0, .ref 0), (1, .int (nI i)), (2, .int w)] [] (I, J) _
        refine c_run 5 (pc' := 67) (ls' := [(0, .ref 0), (1, .int (nI i)), (2, .int w)]) (st' := [.int (nI i), .ref 6]) (μ' := (I, J)) (Nat.le_of_ble_eq_true rfl) rfl ?_
        refine c_lal i 4 (Nat.le_of_ble_eq_true rfl) rfl rfl rfl rfl rfl (by omega) ?_
        show m_W 8 68 [(0, .ref 0), (1, .int (nI i)), (2, .int w)] [.long ((k_sh 1 (I, J)).2 5 i)] (I, J) _
        refine c_lret (Nat.le_of_ble_eq_true rfl) rfl rfl ?_
        refine ⟨?_, rfl⟩
        unfold x_mass
        first
          | (rw [if_pos (by assumption), hcl]; (try subst_vars); repeat' split)
          | rw [if_neg (by assumption)]
        all_goals first | rfl | contradiction | (simp_all; done)
      · have ho : (50 : Int) = o := by simpa using ho
        subst ho
        have h2 : w = 1 := h2
        show m_W 8 69 [(0, .ref 0), (1, .int (nI i)), (2, .int w)] [] (I, J) _
        refine c_run 5 (pc' := 80) (ls' := [(0, .ref 0), (1, .int (nI i)), (2, .int w)]) (st' := [.int (nI i), .ref 7]) (μ' := (I, J)) (Nat.le_of_ble_eq_true rfl) rfl ?_
        refine c_lal i 4 (Nat.le_of_ble_eq_true rfl) rfl rfl rfl rfl rfl (by omega) ?_
        show m_W 8 81 [(0, .ref 0), (1, .int (nI i)), (2, .int w)] [.long ((k_sh 1 (I, J)).2 6 i)] (I, J) _
        refine c_lret (Nat.le_of_ble_eq_true rfl) rfl rfl ?_
        refine ⟨?_, rfl⟩
        unfold x_mass
        first
          | (rw [if_pos (by assumption), hcl]; (try subst_vars); repeat' split)
          | rw [if_neg (by assumption)]
        all_goals first | rfl | contradiction | (simp_all; done)
      · have ho : (63 : Int) = o := by simpa using ho
        subst ho
        have h2 : w = 2 := h2
        show m_W 8 82 [(0, .ref 0), (1, .int (nI i)), (2, .int w)] [] (I, J) _
        refine c_run 5 (pc' := 93) (ls' := [(0, .ref 0), (1, .int (nI i)), (2, .int w)]) (st' := [.int (nI i), .ref 8]) (μ' := (I, J)) (Nat.le_of_ble_eq_true rfl) rfl ?_
        refine c_lal i 4 (Nat.le_of_ble_eq_true rfl) rfl rfl rfl rfl rfl (by omega) ?_
        show m_W 8 94 [(0, .ref 0), (1, .int (nI i)), (2, .int w)] [.long ((k_sh 1 (I, J)).2 7 i)] (I, J) _
        refine c_lret (Nat.le_of_ble_eq_true rfl) rfl rfl ?_
        refine ⟨?_, rfl⟩
        unfold x_mass
        first
          | (rw [if_pos (by assumption), hcl]; (try subst_vars); repeat' split)
          | rw [if_neg (by assumption)]
        all_goals first | rfl | contradiction | (simp_all; done)
      · have ho : (76 : Int) = o := by simpa using ho
        subst ho
        have h2 : w = 3 := h2
        show m_W 8 95 [(0, .ref 0), (1, .int (nI i)), (2, .int w)] [] (I, J) _
        refine c_run 7 (pc' := 110) (ls' := [(0, .ref 0), (1, .int (nI i)), (2, .int w)]) (st' := [.int ((k_sh 1 (I, J)).1 0 6), .int (nI i), .ref 2]) (μ' := (I, J)) (Nat.le_of_ble_eq_true rfl) rfl ?_
        refine c_cv 89 [.int (nI i), .int ((k_sh 1 (I, J)).1 0 6)] (b := 2) (r := []) (Nat.le_of_ble_eq_true rfl) rfl rfl rfl rfl rfl rfl (t1_us I J ((k_sh 1 (I, J)).1 0 6) i (by omega) v hvv hv2) ?_
        rintro _ _ ⟨rfl, rfl⟩
        show m_W 8 113 [(0, .ref 0), (1, .int (nI i)), (2, .int w)] [.long (k_us (k_sh 1 (I, J)) i ((k_sh 1 (I, J)).1 0 6))] (I, J) _
        refine c_lret (Nat.le_of_ble_eq_true rfl) rfl rfl ?_
        refine ⟨?_, rfl⟩
        unfold x_mass
        first
          | (rw [if_pos (by assumption), hcl]; (try subst_vars); repeat' split)
          | rw [if_neg (by assumption)]
        all_goals first | rfl | contradiction | (simp_all; done)
      · have ho : (95 : Int) = o := by simpa using ho
        subst ho
        have h2 : w = 4 := h2
        show m_W 8 114 [(0, .ref 0), (1, .int (nI i)), (2, .int w)] [] (I, J) _
        refine c_run 5 (pc' := 125) (ls' := [(0, .ref 0), (1, .int (nI i)), (2, .int w)]) (st' := [.int (nI i), .ref 4]) (μ' := (I, J)) (Nat.le_of_ble_eq_true rfl) rfl ?_
        refine c_ial i 4 (Nat.le_of_ble_eq_true rfl) rfl rfl rfl rfl rfl (by omega) ?_
        show m_W 8 126 [(0, .ref 0), (1, .int (nI i)), (2, .int w)] [.int ((k_sh 1 (I, J)).1 3 i)] (I, J) _
        refine c_run 1 (pc' := 127) (ls' := [(0, .ref 0), (1, .int (nI i)), (2, .int w)]) (st' := [.long ((((k_sh 1 (I, J)).1 3 i) : Int32).toInt64)]) (μ' := (I, J)) (Nat.le_of_ble_eq_true rfl) rfl ?_
        refine c_lret (Nat.le_of_ble_eq_true rfl) rfl rfl ?_
        refine ⟨?_, rfl⟩
        unfold x_mass
        first
          | (rw [if_pos (by assumption), hcl]; (try subst_vars); repeat' split)
          | rw [if_neg (by assumption)]
        all_goals first | rfl | contradiction | (simp_all; done)
      · have ho : (109 : Int) = o := by simpa using ho
        subst ho
        have h2 : w = 5 := h2
        show m_W 8 128 [(0, .ref 0), (1, .int (nI i)), (2, .int w)] [] (I, J) _
        refine c_run 5 (pc' := 139) (ls' := [(0, .ref 0), (1, .int (nI i)), (2, .int w)]) (st' := [.int (nI i), .ref 9]) (μ' := (I, J)) (Nat.le_of_ble_eq_true rfl) rfl ?_
        refine c_lal i 4 (Nat.le_of_ble_eq_true rfl) rfl rfl rfl rfl rfl (by omega) ?_
        show m_W 8 140 [(0, .ref 0), (1, .int (nI i)), (2, .int w)] [.long ((k_sh 1 (I, J)).2 8 i)] (I, J) _
        refine c_lret (Nat.le_of_ble_eq_true rfl) rfl rfl ?_
        refine ⟨?_, rfl⟩
        unfold x_mass
        first
          | (rw [if_pos (by assumption), hcl]; (try subst_vars); repeat' split)
          | rw [if_neg (by assumption)]
        all_goals first | rfl | contradiction | (simp_all; done)
  · replace h1 := s01_0.mp h1
    refine c_run 1 (pc' := 17) (ls' := [(0, .ref 0), (1, .int t), (2, .int w)]) (st' := [.long (-1)]) (μ' := (I, J)) (Nat.le_of_ble_eq_true rfl) rfl ?_
    refine c_lret (Nat.le_of_ble_eq_true rfl) rfl rfl ?_
    refine ⟨?_, rfl⟩
    unfold x_mass
    first
      | (rw [if_pos (by assumption), hcl]; (try subst_vars); repeat' split)
      | rw [if_neg (by assumption)]
    all_goals first | rfl | contradiction | (simp_all; done)

set_option maxRecDepth 100000 in
theorem t_burn (I : Nat → Nat → Int32) (J : Nat → Nat → Int64) (w : Int32) : m_W 20 0 (lv_args 0 [.ref 0, .int w]) [] (I, J) (m_E (some (.int (x_burn (k_sh 1 (I, J)) w))) (I, J)) := by
  show m_W 20 0 [(0, .ref 0), (1, .int w)] [] (I, J) _
  refine c_run 1 (pc' := 1) (ls' := [(0, .ref 0), (1, .int w)]) (st' := [.int w]) (μ' := (I, J)) (Nat.le_of_ble_eq_true rfl) rfl ?_
  refine c_sw (Nat.le_of_ble_eq_true rfl) rfl 80 rfl (fun h1 => ?_) (fun j o ho h1 _ => ?_)
  · skip
    refine c_run 1 (pc' := 81) (ls' := [(0, .ref 0), (1, .int w)]) (st' := [.int (-1)]) (μ' := (I, J)) (Nat.le_of_ble_eq_true rfl) rfl ?_
    refine c_ret (Nat.le_of_ble_eq_true rfl) rfl rfl ⟨by decide, rfl⟩ ?_
    refine ⟨?_, rfl⟩
    unfold x_burn; (try subst_vars); repeat' split
    all_goals first | rfl | contradiction | (simp_all; done)
  · have hj : j < 4 := (Array.getElem?_eq_some_iff.mp ho).1
    have h1 : w = Int32.ofInt (0 + (j : Int)) := by rw [← h1, Int32.ofInt_toInt]
    rcases (show j = 0 ∨ j = 1 ∨ j = 2 ∨ j = 3 by omega) with rfl | rfl | rfl | rfl
    · have ho : (31 : Int) = o := by simpa using ho
      subst ho
      have h1 : w = 0 := h1
      show m_W 20 32 [(0, .ref 0), (1, .int w)] [] (I, J) _
      refine c_run 3 (pc' := 39) (ls' := [(0, .ref 0), (1, .int w)]) (st' := [.int ((k_sh 1 (I, J)).1 0 7)]) (μ' := (I, J)) (Nat.le_of_ble_eq_true rfl) rfl ?_
      refine c_ret (Nat.le_of_ble_eq_true rfl) rfl rfl ⟨by decide, rfl⟩ ?_
      refine ⟨?_, rfl⟩
      unfold x_burn; (try subst_vars); repeat' split
      all_goals first | rfl | contradiction | (simp_all; done)
    · have ho : (39 : Int) = o := by simpa using ho
      subst ho
      have h1 : w = 1 := h1
      show m_W 20 40 [(0, .ref 0), (1, .int w)] [] (I, J) _
      refine c_run 2 (pc' := 44) (ls' := [(0, .ref 0), (1, .int w)]) (st' := [.ref 1]) (μ' := (I, J)) (Nat.le_of_ble_eq_true rfl) rfl ?_
      refine c_cv 50 [] (b := 1) (r := []) (Nat.le_of_ble_eq_true rfl) rfl rfl rfl rfl rfl rfl (t1_len I J) ?_
      rintro _ _ ⟨rfl, rfl⟩
      show m_W 20 47 [(0, .ref 0), (1, .int w)] [.int (k_len (k_sh 1 (I, J)))] (I, J) _
      refine c_ret (Nat.le_of_ble_eq_true rfl) rfl rfl ⟨by decide, rfl⟩ ?_
      refine ⟨?_, rfl⟩
      unfold x_burn; (try subst_vars); repeat' split
      all_goals first | rfl | contradiction | (simp_all; done)
    · have ho : (47 : Int) = o := by simpa using ho
      subst ho
      have h1 : w = 2 := h1
      show m_W 20 48 [(0, .ref 0), (1, .int w)] [] (I, J) _
      refine c_run 2 (pc' := 52) (ls' := [(0, .ref 0), (1, .int w)]) (st' := [.ref 1]) (μ' := (I, J)) (Nat.le_of_ble_eq_true rfl) rfl ?_
      refine c_cv 51 [] (b := 1) (r := []) (Nat.le_of_ble_eq_true rfl) rfl rfl rfl rfl rfl rfl (t1_set I J) ?_
      rintro _ _ ⟨rfl, rfl⟩
      show m_W 20 55 [(0, .ref 0), (1, .int w)] [.int (s01 (k_set (k_sh 1 (I, J))))] (I, J) _
      refine c_ifeq 62 (Nat.le_of_ble_eq_true rfl) rfl rfl (fun h2 => ?_) (fun h2 => ?_)
      · replace h2 := s01_0.mp h2
        refine c_run 1 (pc' := 63) (ls' := [(0, .ref 0), (1, .int w)]) (st' := [.int 0]) (μ' := (I, J)) (Nat.le_of_ble_eq_true rfl) rfl ?_
        refine c_ret (Nat.le_of_ble_eq_true rfl) rfl rfl ⟨by decide, rfl⟩ ?_
        refine ⟨?_, rfl⟩
        unfold x_burn; (try subst_vars); repeat' split
        all_goals first | rfl | contradiction | (simp_all; done)
      · replace h2 := s01_1.mp h2
        refine c_run 2 (pc' := 63) (ls' := [(0, .ref 0), (1, .int w)]) (st' := [.int 1]) (μ' := (I, J)) (Nat.le_of_ble_eq_true rfl) rfl ?_
        refine c_ret (Nat.le_of_ble_eq_true rfl) rfl rfl ⟨by decide, rfl⟩ ?_
        refine ⟨?_, rfl⟩
        unfold x_burn; (try subst_vars); repeat' split
        all_goals first | rfl | contradiction | (simp_all; done)
    · have ho : (63 : Int) = o := by simpa using ho
      subst ho
      have h1 : w = 3 := h1
      show m_W 20 64 [(0, .ref 0), (1, .int w)] [] (I, J) _
      refine c_run 3 (pc' := 71) (ls' := [(0, .ref 0), (1, .int w)]) (st' := [.int ((k_sh 1 (I, J)).1 0 8)]) (μ' := (I, J)) (Nat.le_of_ble_eq_true rfl) rfl ?_
      refine c_ifeq 78 (Nat.le_of_ble_eq_true rfl) rfl rfl (fun h3 => ?_) (fun h3 => ?_)
      · skip
        refine c_run 1 (pc' := 79) (ls' := [(0, .ref 0), (1, .int w)]) (st' := [.int 0]) (μ' := (I, J)) (Nat.le_of_ble_eq_true rfl) rfl ?_
        refine c_ret (Nat.le_of_ble_eq_true rfl) rfl rfl ⟨by decide, rfl⟩ ?_
        refine ⟨?_, rfl⟩
        unfold x_burn; (try subst_vars); repeat' split
        all_goals first | rfl | contradiction | (simp_all; done)
      · skip
        refine c_run 2 (pc' := 79) (ls' := [(0, .ref 0), (1, .int w)]) (st' := [.int 1]) (μ' := (I, J)) (Nat.le_of_ble_eq_true rfl) rfl ?_
        refine c_ret (Nat.le_of_ble_eq_true rfl) rfl rfl ⟨by decide, rfl⟩ ?_
        refine ⟨?_, rfl⟩
        unfold x_burn; (try subst_vars); repeat' split
        all_goals first | rfl | contradiction | (simp_all; done)

set_option maxRecDepth 100000 in
theorem t_volume (I : Nat → Nat → Int32) (J : Nat → Nat → Int64) (t x : Int32) (hw : k_wf (k_sh 1 (I, J))) : m_W 3 0 (lv_args 0 [.ref 0, .int t, .int x]) [] (I, J) (m_E (some (.long (x_vol (k_sh 1 (I, J)) t x))) (I, J)) := by
  show m_W 3 0 [(0, .ref 0), (1, .int t), (2, .int x)] [] (I, J) _
  obtain ⟨hn, hn4⟩ := k_wf_n hw
  obtain ⟨hm, hm6⟩ := k_wf_m hw
  refine c_run 4 (pc' := 8) (ls' := [(0, .ref 0), (1, .int t), (2, .int x)]) (st' := [.int t, .ref 2]) (μ' := (I, J)) (Nat.le_of_ble_eq_true rfl) rfl ?_
  refine c_cv 80 [.int t] (b := 2) (r := []) (Nat.le_of_ble_eq_true rfl) rfl rfl rfl rfl rfl rfl (t1_hasT I J t) ?_
  rintro _ _ ⟨rfl, rfl⟩
  show m_W 3 11 [(0, .ref 0), (1, .int t), (2, .int x)] [.int (s01 (k_hasT (k_sh 1 (I, J)) t))] (I, J) _
  refine c_ifeq 25 (Nat.le_of_ble_eq_true rfl) rfl rfl (fun h1 => ?_) (fun h1 => ?_)
  · replace h1 := s01_0.mp h1
    refine c_run 1 (pc' := 28) (ls' := [(0, .ref 0), (1, .int t), (2, .int x)]) (st' := [.long (-1)]) (μ' := (I, J)) (Nat.le_of_ble_eq_true rfl) rfl ?_
    refine c_lret (Nat.le_of_ble_eq_true rfl) rfl rfl ?_
    refine ⟨?_, rfl⟩
    unfold x_vol
    first | rw [if_neg (by assumption)] | (rw [if_pos (by assumption), if_neg (by assumption)]; done) | (rw [if_pos h1, if_pos h2, hcl]; first | exact congrArg (fun z => some (Value.long z)) (if_pos (by assumption)).symm | exact congrArg (fun z => some (Value.long z)) (if_neg (by assumption)).symm)
  · replace h1 := s01_1.mp h1
    refine c_run 3 (pc' := 19) (ls' := [(0, .ref 0), (1, .int t), (2, .int x)]) (st' := [.int 10000, .int 0, .int x]) (μ' := (I, J)) (Nat.le_of_ble_eq_true rfl) rfl ?_
    refine c_cs 35 [.int x, .int 0, .int 10000] (r := []) (Nat.le_of_ble_eq_true rfl) rfl (Or.inl rfl) rfl rfl rfl (t_isWithin I J x 0 10000) ?_
    rintro _ _ ⟨rfl, rfl⟩
    show m_W 3 22 [(0, .ref 0), (1, .int t), (2, .int x)] [.int (s01 ((0 : Int32) ≤ x ∧ x ≤ (10000 : Int32)))] (I, J) _
    refine c_ifne 29 (Nat.le_of_ble_eq_true rfl) rfl rfl (fun h2 => ?_) (fun h2 => ?_)
    · replace h2 := s01_1.mp h2
      refine c_run 5 (pc' := 40) (ls' := [(0, .ref 0), (1, .int t), (2, .int x)]) (st' := [.int t, .ref 11]) (μ' := (I, J)) (Nat.le_of_ble_eq_true rfl) rfl ?_
      obtain ⟨i, hi, rfl⟩ : ∃ i, i < kn (k_sh 1 (I, J)) ∧ t = nI i := k_ix (by rw [← hn]; assumption) (by omega)
      have hcl : (nI i).toNatClampNeg = i := nI_clamp (by omega)
      rcases (show i = 0 ∨ i = 1 ∨ i = 2 ∨ i = 3 by omega) with rfl | rfl | rfl | rfl
      · skip
        show m_W 3 40 [(0, .ref 0), (1, .int 0), (2, .int x)] [.int 0, .ref 11] (I, J) _
        refine c_aal 0 4 (Nat.le_of_ble_eq_true rfl) rfl rfl rfl rfl rfl (by decide) ?_
        show m_W 3 41 [(0, .ref 0), (1, .int 0), (2, .int x)] [.ref 12] (I, J) _
        refine c_run 1 (pc' := 44) (ls' := [(0, .ref 0), (1, .int 0), (2, .int x)]) (st' := [.int ((k_sh 1 (I, J)).1 11 0)]) (μ' := (I, J)) (Nat.le_of_ble_eq_true rfl) rfl ?_
        refine c_ifne 51 (Nat.le_of_ble_eq_true rfl) rfl rfl (fun h3 => ?_) (fun h3 => ?_)
        · skip
          refine c_run 5 (pc' := 62) (ls' := [(0, .ref 0), (1, .int 0), (2, .int x)]) (st' := [.int 0, .ref 11]) (μ' := (I, J)) (Nat.le_of_ble_eq_true rfl) rfl ?_
          refine c_aal 0 4 (Nat.le_of_ble_eq_true rfl) rfl rfl rfl rfl rfl (by decide) ?_
          show m_W 3 63 [(0, .ref 0), (1, .int 0), (2, .int x)] [.ref 12] (I, J) _
          refine c_run 1 (pc' := 64) (ls' := [(0, .ref 0), (1, .int 0), (2, .int x)]) (st' := [.int x, .ref 12]) (μ' := (I, J)) (Nat.le_of_ble_eq_true rfl) rfl ?_
          refine c_cv 76 [.int x] (b := 12) (r := []) (Nat.le_of_ble_eq_true rfl) rfl rfl rfl rfl rfl rfl (t1_vol0 I J x (kp (k_sh 1 (I, J)) 0) (k_pw_p (k_wf_p hw) (j := 0) (by decide)).1 (k_pw_p (k_wf_p hw) (j := 0) (by decide)).2) ?_
          rintro _ _ ⟨rfl, rfl⟩
          show m_W 3 67 [(0, .ref 0), (1, .int 0), (2, .int x)] [.long (k_vol (k_sh 1 (I, J)) 0 (kp (k_sh 1 (I, J)) 0) x)] (I, J) _
          refine c_lret (Nat.le_of_ble_eq_true rfl) rfl rfl ?_
          refine ⟨?_, rfl⟩
          unfold x_vol
          first | rw [if_neg (by assumption)] | (rw [if_pos (by assumption), if_neg (by assumption)]; done) | (rw [if_pos h1, if_pos h2, hcl]; first | exact congrArg (fun z => some (Value.long z)) (if_pos (by assumption)).symm | exact congrArg (fun z => some (Value.long z)) (if_neg (by assumption)).symm)
        · skip
          refine c_run 1 (pc' := 50) (ls' := [(0, .ref 0), (1, .int 0), (2, .int x)]) (st' := [.long (-4)]) (μ' := (I, J)) (Nat.le_of_ble_eq_true rfl) rfl ?_
          refine c_lret (Nat.le_of_ble_eq_true rfl) rfl rfl ?_
          refine ⟨?_, rfl⟩
          unfold x_vol
          first | rw [if_neg (by assumption)] | (rw [if_pos (by assumption), if_neg (by assumption)]; done) | (rw [if_pos h1, if_pos h2, hcl]; first | exact congrArg (fun z => some (Value.long z)) (if_pos (by assumption)).symm | exact congrArg (fun z => some (Value.long z)) (if_neg (by assumption)).symm)
      · skip
        show m_W 3 40 [(0, .ref 0), (1, .int 1), (2, .int x)] [.int 1, .ref 11] (I, J) _
        refine c_aal 1 4 (Nat.le_of_ble_eq_true rfl) rfl rfl rfl rfl rfl (by decide) ?_
        show m_W 3 41 [(0, .ref 0), (1, .int 1), (2, .int x)] [.ref 15] (I, J) _
        refine c_run 1 (pc' := 44) (ls' := [(0, .ref 0), (1, .int 1), (2, .int x)]) (st' := [.int ((k_sh 1 (I, J)).1 14 0)]) (μ' := (I, J)) (Nat.le_of_ble_eq_true rfl) rfl ?_
        refine c_ifne 51 (Nat.le_of_ble_eq_true rfl) rfl rfl (fun h4 => ?_) (fun h4 => ?_)
        · skip
          refine c_run 5 (pc' := 62) (ls' := [(0, .ref 0), (1, .int 1), (2, .int x)]) (st' := [.int 1, .ref 11]) (μ' := (I, J)) (Nat.le_of_ble_eq_true rfl) rfl ?_
          refine c_aal 1 4 (Nat.le_of_ble_eq_true rfl) rfl rfl rfl rfl rfl (by decide) ?_
          show m_W 3 63 [(0, .ref 0), (1, .int 1), (2, .int x)] [.ref 15] (I, J) _
          refine c_run 1 (pc' := 64) (ls' := [(0, .ref 0), (1, .int 1), (2, .int x)]) (st' := [.int x, .ref 15]) (μ' := (I, J)) (Nat.le_of_ble_eq_true rfl) rfl ?_
          refine c_cv 76 [.int x] (b := 15) (r := []) (Nat.le_of_ble_eq_true rfl) rfl rfl rfl rfl rfl rfl (t1_vol1 I J x (kp (k_sh 1 (I, J)) 1) (k_pw_p (k_wf_p hw) (j := 1) (by decide)).1 (k_pw_p (k_wf_p hw) (j := 1) (by decide)).2) ?_
          rintro _ _ ⟨rfl, rfl⟩
          show m_W 3 67 [(0, .ref 0), (1, .int 1), (2, .int x)] [.long (k_vol (k_sh 1 (I, J)) 1 (kp (k_sh 1 (I, J)) 1) x)] (I, J) _
          refine c_lret (Nat.le_of_ble_eq_true rfl) rfl rfl ?_
          refine ⟨?_, rfl⟩
          unfold x_vol
          first | rw [if_neg (by assumption)] | (rw [if_pos (by assumption), if_neg (by assumption)]; done) | (rw [if_pos h1, if_pos h2, hcl]; first | exact congrArg (fun z => some (Value.long z)) (if_pos (by assumption)).symm | exact congrArg (fun z => some (Value.long z)) (if_neg (by assumption)).symm)
        · skip
          refine c_run 1 (pc' := 50) (ls' := [(0, .ref 0), (1, .int 1), (2, .int x)]) (st' := [.long (-4)]) (μ' := (I, J)) (Nat.le_of_ble_eq_true rfl) rfl ?_
          refine c_lret (Nat.le_of_ble_eq_true rfl) rfl rfl ?_
          refine ⟨?_, rfl⟩
          unfold x_vol
          first | rw [if_neg (by assumption)] | (rw [if_pos (by assumption), if_neg (by assumption)]; done) | (rw [if_pos h1, if_pos h2, hcl]; first | exact congrArg (fun z => some (Value.long z)) (if_pos (by assumption)).symm | exact congrArg (fun z => some (Value.long z)) (if_neg (by assumption)).symm)
      · skip
        show m_W 3 40 [(0, .ref 0), (1, .int 2), (2, .int x)] [.int 2, .ref 11] (I, J) _
        refine c_aal 2 4 (Nat.le_of_ble_eq_true rfl) rfl rfl rfl rfl rfl (by decide) ?_
        show m_W 3 41 [(0, .ref 0), (1, .int 2), (2, .int x)] [.ref 18] (I, J) _
        refine c_run 1 (pc' := 44) (ls' := [(0, .ref 0), (1, .int 2), (2, .int x)]) (st' := [.int ((k_sh 1 (I, J)).1 17 0)]) (μ' := (I, J)) (Nat.le_of_ble_eq_true rfl) rfl ?_
        refine c_ifne 51 (Nat.le_of_ble_eq_true rfl) rfl rfl (fun h5 => ?_) (fun h5 => ?_)
        · skip
          refine c_run 5 (pc' := 62) (ls' := [(0, .ref 0), (1, .int 2), (2, .int x)]) (st' := [.int 2, .ref 11]) (μ' := (I, J)) (Nat.le_of_ble_eq_true rfl) rfl ?_
          refine c_aal 2 4 (Nat.le_of_ble_eq_true rfl) rfl rfl rfl rfl rfl (by decide) ?_
          show m_W 3 63 [(0, .ref 0), (1, .int 2), (2, .int x)] [.ref 18] (I, J) _
          refine c_run 1 (pc' := 64) (ls' := [(0, .ref 0), (1, .int 2), (2, .int x)]) (st' := [.int x, .ref 18]) (μ' := (I, J)) (Nat.le_of_ble_eq_true rfl) rfl ?_
          refine c_cv 76 [.int x] (b := 18) (r := []) (Nat.le_of_ble_eq_true rfl) rfl rfl rfl rfl rfl rfl (t1_vol2 I J x (kp (k_sh 1 (I, J)) 2) (k_pw_p (k_wf_p hw) (j := 2) (by decide)).1 (k_pw_p (k_wf_p hw) (j := 2) (by decide)).2) ?_
          rintro _ _ ⟨rfl, rfl⟩
          show m_W 3 67 [(0, .ref 0), (1, .int 2), (2, .int x)] [.long (k_vol (k_sh 1 (I, J)) 2 (kp (k_sh 1 (I, J)) 2) x)] (I, J) _
          refine c_lret (Nat.le_of_ble_eq_true rfl) rfl rfl ?_
          refine ⟨?_, rfl⟩
          unfold x_vol
          first | rw [if_neg (by assumption)] | (rw [if_pos (by assumption), if_neg (by assumption)]; done) | (rw [if_pos h1, if_pos h2, hcl]; first | exact congrArg (fun z => some (Value.long z)) (if_pos (by assumption)).symm | exact congrArg (fun z => some (Value.long z)) (if_neg (by assumption)).symm)
        · skip
          refine c_run 1 (pc' := 50) (ls' := [(0, .ref 0), (1, .int 2), (2, .int x)]) (st' := [.long (-4)]) (μ' := (I, J)) (Nat.le_of_ble_eq_true rfl) rfl ?_
          refine c_lret (Nat.le_of_ble_eq_true rfl) rfl rfl ?_
          refine ⟨?_, rfl⟩
          unfold x_vol
          first | rw [if_neg (by assumption)] | (rw [if_pos (by assumption), if_neg (by assumption)]; done) | (rw [if_pos h1, if_pos h2, hcl]; first | exact congrArg (fun z => some (Value.long z)) (if_pos (by assumption)).symm | exact congrArg (fun z => some (Value.long z)) (if_neg (by assumption)).symm)
      · skip
        show m_W 3 40 [(0, .ref 0), (1, .int 3), (2, .int x)] [.int 3, .ref 11] (I, J) _
        refine c_aal 3 4 (Nat.le_of_ble_eq_true rfl) rfl rfl rfl rfl rfl (by decide) ?_
        show m_W 3 41 [(0, .ref 0), (1, .int 3), (2, .int x)] [.ref 21] (I, J) _
        refine c_run 1 (pc' := 44) (ls' := [(0, .ref 0), (1, .int 3), (2, .int x)]) (st' := [.int ((k_sh 1 (I, J)).1 20 0)]) (μ' := (I, J)) (Nat.le_of_ble_eq_true rfl) rfl ?_
        refine c_ifne 51 (Nat.le_of_ble_eq_true rfl) rfl rfl (fun h6 => ?_) (fun h6 => ?_)
        · skip
          refine c_run 5 (pc' := 62) (ls' := [(0, .ref 0), (1, .int 3), (2, .int x)]) (st' := [.int 3, .ref 11]) (μ' := (I, J)) (Nat.le_of_ble_eq_true rfl) rfl ?_
          refine c_aal 3 4 (Nat.le_of_ble_eq_true rfl) rfl rfl rfl rfl rfl (by decide) ?_
          show m_W 3 63 [(0, .ref 0), (1, .int 3), (2, .int x)] [.ref 21] (I, J) _
          refine c_run 1 (pc' := 64) (ls' := [(0, .ref 0), (1, .int 3), (2, .int x)]) (st' := [.int x, .ref 21]) (μ' := (I, J)) (Nat.le_of_ble_eq_true rfl) rfl ?_
          refine c_cv 76 [.int x] (b := 21) (r := []) (Nat.le_of_ble_eq_true rfl) rfl rfl rfl rfl rfl rfl (t1_vol3 I J x (kp (k_sh 1 (I, J)) 3) (k_pw_p (k_wf_p hw) (j := 3) (by decide)).1 (k_pw_p (k_wf_p hw) (j := 3) (by decide)).2) ?_
          rintro _ _ ⟨rfl, rfl⟩
          show m_W 3 67 [(0, .ref 0), (1, .int 3), (2, .int x)] [.long (k_vol (k_sh 1 (I, J)) 3 (kp (k_sh 1 (I, J)) 3) x)] (I, J) _
          refine c_lret (Nat.le_of_ble_eq_true rfl) rfl rfl ?_
          refine ⟨?_, rfl⟩
          unfold x_vol
          first | rw [if_neg (by assumption)] | (rw [if_pos (by assumption), if_neg (by assumption)]; done) | (rw [if_pos h1, if_pos h2, hcl]; first | exact congrArg (fun z => some (Value.long z)) (if_pos (by assumption)).symm | exact congrArg (fun z => some (Value.long z)) (if_neg (by assumption)).symm)
        · skip
          refine c_run 1 (pc' := 50) (ls' := [(0, .ref 0), (1, .int 3), (2, .int x)]) (st' := [.long (-4)]) (μ' := (I, J)) (Nat.le_of_ble_eq_true rfl) rfl ?_
          refine c_lret (Nat.le_of_ble_eq_true rfl) rfl rfl ?_
          refine ⟨?_, rfl⟩
          unfold x_vol
          first | rw [if_neg (by assumption)] | (rw [if_pos (by assumption), if_neg (by assumption)]; done) | (rw [if_pos h1, if_pos h2, hcl]; first | exact congrArg (fun z => some (Value.long z)) (if_pos (by assumption)).symm | exact congrArg (fun z => some (Value.long z)) (if_neg (by assumption)).symm)
    · replace h2 := s01_0.mp h2
      refine c_run 1 (pc' := 28) (ls' := [(0, .ref 0), (1, .int t), (2, .int x)]) (st' := [.long (-1)]) (μ' := (I, J)) (Nat.le_of_ble_eq_true rfl) rfl ?_
      refine c_lret (Nat.le_of_ble_eq_true rfl) rfl rfl ?_
      refine ⟨?_, rfl⟩
      unfold x_vol
      first | rw [if_neg (by assumption)] | (rw [if_pos (by assumption), if_neg (by assumption)]; done) | (rw [if_pos h1, if_pos h2, hcl]; first | exact congrArg (fun z => some (Value.long z)) (if_pos (by assumption)).symm | exact congrArg (fun z => some (Value.long z)) (if_neg (by assumption)).symm)

set_option maxRecDepth 100000 in
theorem t_addPoint (I : Nat → Nat → Int32) (J : Nat → Nat → Int64) (t x v : Int32) (hw : k_wf (k_sh 1 (I, J))) : m_W 2 0 (lv_args 0 [.ref 0, .int t, .int x, .int v]) [] (I, J) (k_E 1 (I, J) (some (.int (x_addP (k_sh 1 (I, J)) t x v).1)) (x_addP (k_sh 1 (I, J)) t x v).2) := by
  show m_W 2 0 [(0, .ref 0), (1, .int t), (2, .int x), (3, .int v)] [] (I, J) _
  obtain ⟨hn, hn4⟩ := k_wf_n hw
  obtain ⟨hm, hm6⟩ := k_wf_m hw
  refine c_run 4 (pc' := 8) (ls' := [(0, .ref 0), (1, .int t), (2, .int x), (3, .int v)]) (st' := [.int t, .ref 2]) (μ' := (I, J)) (Nat.le_of_ble_eq_true rfl) rfl ?_
  refine c_cv 80 [.int t] (b := 2) (r := []) (Nat.le_of_ble_eq_true rfl) rfl rfl rfl rfl rfl rfl (t1_hasT I J t) ?_
  rintro _ _ ⟨rfl, rfl⟩
  show m_W 2 11 [(0, .ref 0), (1, .int t), (2, .int x), (3, .int v)] [.int (s01 (k_hasT (k_sh 1 (I, J)) t))] (I, J) _
  refine c_ifeq 35 (Nat.le_of_ble_eq_true rfl) rfl rfl (fun h1 => ?_) (fun h1 => ?_)
  · replace h1 := s01_0.mp h1
    refine c_run 1 (pc' := 36) (ls' := [(0, .ref 0), (1, .int t), (2, .int x), (3, .int v)]) (st' := [.int (-1)]) (μ' := (I, J)) (Nat.le_of_ble_eq_true rfl) rfl ?_
    refine c_ret (Nat.le_of_ble_eq_true rfl) rfl rfl ⟨by decide, rfl⟩ ?_
    refine ⟨?_, ?_, ?_⟩
    · first | rfl | (simp only [x_addP, if_neg h1]; done) | (simp only [x_addP, if_neg h1]; rfl) | (unfold x_addP; rw [if_neg h1]; done) | (unfold x_addP; rw [if_neg h1]; rfl)
    · skip
      first | rfl | (simp only [x_addP, if_neg h1]; done) | (simp only [x_addP, if_neg h1]; rfl) | (unfold x_addP; rw [if_neg h1]; done) | (unfold x_addP; rw [if_neg h1]; rfl)
    · exact (m_fr.rf)
  · replace h1 := s01_1.mp h1
    refine c_run 3 (pc' := 19) (ls' := [(0, .ref 0), (1, .int t), (2, .int x), (3, .int v)]) (st' := [.int 10000, .int 0, .int x]) (μ' := (I, J)) (Nat.le_of_ble_eq_true rfl) rfl ?_
    refine c_cs 35 [.int x, .int 0, .int 10000] (r := []) (Nat.le_of_ble_eq_true rfl) rfl (Or.inl rfl) rfl rfl rfl (t_isWithin I J x 0 10000) ?_
    rintro _ _ ⟨rfl, rfl⟩
    show m_W 2 22 [(0, .ref 0), (1, .int t), (2, .int x), (3, .int v)] [.int (s01 ((0 : Int32) ≤ x ∧ x ≤ (10000 : Int32)))] (I, J) _
    refine c_ifeq 35 (Nat.le_of_ble_eq_true rfl) rfl rfl (fun h2 => ?_) (fun h2 => ?_)
    · replace h2 := s01_0.mp h2
      refine c_run 1 (pc' := 36) (ls' := [(0, .ref 0), (1, .int t), (2, .int x), (3, .int v)]) (st' := [.int (-1)]) (μ' := (I, J)) (Nat.le_of_ble_eq_true rfl) rfl ?_
      refine c_ret (Nat.le_of_ble_eq_true rfl) rfl rfl ⟨by decide, rfl⟩ ?_
      refine ⟨?_, ?_, ?_⟩
      · first | rfl | (simp only [x_addP, if_pos h1, if_neg h2]; done) | (simp only [x_addP, if_pos h1, if_neg h2]; rfl) | (unfold x_addP; rw [if_pos h1, if_neg h2]; done) | (unfold x_addP; rw [if_pos h1, if_neg h2]; rfl)
      · skip
        first | rfl | (simp only [x_addP, if_pos h1, if_neg h2]; done) | (simp only [x_addP, if_pos h1, if_neg h2]; rfl) | (unfold x_addP; rw [if_pos h1, if_neg h2]; done) | (unfold x_addP; rw [if_pos h1, if_neg h2]; rfl)
      · exact (m_fr.rf)
    · replace h2 := s01_1.mp h2
      refine c_run 3 (pc' := 29) (ls' := [(0, .ref 0), (1, .int t), (2, .int x), (3, .int v)]) (st' := [.int 1000000000, .int 0, .int v]) (μ' := (I, J)) (Nat.le_of_ble_eq_true rfl) rfl ?_
      refine c_cs 35 [.int v, .int 0, .int 1000000000] (r := []) (Nat.le_of_ble_eq_true rfl) rfl (Or.inl rfl) rfl rfl rfl (t_isWithin I J v 0 1000000000) ?_
      rintro _ _ ⟨rfl, rfl⟩
      show m_W 2 32 [(0, .ref 0), (1, .int t), (2, .int x), (3, .int v)] [.int (s01 ((0 : Int32) ≤ v ∧ v ≤ (1000000000 : Int32)))] (I, J) _
      refine c_ifne 37 (Nat.le_of_ble_eq_true rfl) rfl rfl (fun h3 => ?_) (fun h3 => ?_)
      · replace h3 := s01_1.mp h3
        refine c_run 5 (pc' := 48) (ls' := [(0, .ref 0), (1, .int t), (2, .int x), (3, .int v)]) (st' := [.int t, .ref 11]) (μ' := (I, J)) (Nat.le_of_ble_eq_true rfl) rfl ?_
        obtain ⟨i, hi, rfl⟩ : ∃ i, i < kn (k_sh 1 (I, J)) ∧ t = nI i := k_ix (by rw [← hn]; assumption) (by omega)
        have hcl : (nI i).toNatClampNeg = i := nI_clamp (by omega)
        rcases (show i = 0 ∨ i = 1 ∨ i = 2 ∨ i = 3 by omega) with rfl | rfl | rfl | rfl
        · skip
          show m_W 2 48 [(0, .ref 0), (1, .int 0), (2, .int x), (3, .int v)] [.int 0, .ref 11] (I, J) _
          refine c_aal 0 4 (Nat.le_of_ble_eq_true rfl) rfl rfl rfl rfl rfl (by decide) ?_
          show m_W 2 49 [(0, .ref 0), (1, .int 0), (2, .int x), (3, .int v)] [.ref 12] (I, J) _
          refine c_run 2 (pc' := 51) (ls' := [(0, .ref 0), (1, .int 0), (2, .int x), (3, .int v)]) (st' := [.int v, .int x, .ref 12]) (μ' := (I, J)) (Nat.le_of_ble_eq_true rfl) rfl ?_
          refine c_cv 75 [.int x, .int v] (b := 12) (r := []) (Nat.le_of_ble_eq_true rfl) rfl rfl rfl rfl rfl rfl (t1_addP0 I J x v (kp (k_sh 1 (I, J)) 0) (k_pw_p (k_wf_p hw) (j := 0) (by decide)).1 (k_pw_p (k_wf_p hw) (j := 0) (by decide)).2) ?_
          rintro _ ⟨I1, J1⟩ ⟨rfl, hs1, hf1⟩
          show m_W 2 54 [(0, .ref 0), (1, .int 0), (2, .int x), (3, .int v)] [.int ((k_addP (k_sh 1 (I, J)) 0 (kp (k_sh 1 (I, J)) 0) x v).1)] (I1, J1) _
          refine c_ret (Nat.le_of_ble_eq_true rfl) rfl rfl ⟨by decide, rfl⟩ ?_
          refine ⟨?_, ?_, ?_⟩
          · first | rfl | (simp only [x_addP, if_pos h1, if_pos h2, if_pos h3]; done) | (simp only [x_addP, if_pos h1, if_pos h2, if_pos h3]; rfl) | (unfold x_addP; rw [if_pos h1, if_pos h2, if_pos h3]; done) | (unfold x_addP; rw [if_pos h1, if_pos h2, if_pos h3]; rfl) | (rw [hs1]; rfl) | (rw [hs1]; simp only [x_addP, if_pos h1, if_pos h2, if_pos h3]; done) | (rw [hs1]; simp only [x_addP, if_pos h1, if_pos h2, if_pos h3]; rfl) | (rw [hs1]; unfold x_addP; rw [if_pos h1, if_pos h2, if_pos h3]; done) | (rw [hs1]; unfold x_addP; rw [if_pos h1, if_pos h2, if_pos h3]; rfl) | (rw [hs1]; rfl) | (rw [hs1]; simp only [x_addP, if_pos h1, if_pos h2, if_pos h3]; done) | (rw [hs1]; simp only [x_addP, if_pos h1, if_pos h2, if_pos h3]; rfl) | (rw [hs1]; unfold x_addP; rw [if_pos h1, if_pos h2, if_pos h3]; done) | (rw [hs1]; unfold x_addP; rw [if_pos h1, if_pos h2, if_pos h3]; rfl)
          · rw [hs1]
            first | rfl | (simp only [x_addP, if_pos h1, if_pos h2, if_pos h3]; done) | (simp only [x_addP, if_pos h1, if_pos h2, if_pos h3]; rfl) | (unfold x_addP; rw [if_pos h1, if_pos h2, if_pos h3]; done) | (unfold x_addP; rw [if_pos h1, if_pos h2, if_pos h3]; rfl)
          · exact ((m_fr.rf).tr hf1)
        · skip
          show m_W 2 48 [(0, .ref 0), (1, .int 1), (2, .int x), (3, .int v)] [.int 1, .ref 11] (I, J) _
          refine c_aal 1 4 (Nat.le_of_ble_eq_true rfl) rfl rfl rfl rfl rfl (by decide) ?_
          show m_W 2 49 [(0, .ref 0), (1, .int 1), (2, .int x), (3, .int v)] [.ref 15] (I, J) _
          refine c_run 2 (pc' := 51) (ls' := [(0, .ref 0), (1, .int 1), (2, .int x), (3, .int v)]) (st' := [.int v, .int x, .ref 15]) (μ' := (I, J)) (Nat.le_of_ble_eq_true rfl) rfl ?_
          refine c_cv 75 [.int x, .int v] (b := 15) (r := []) (Nat.le_of_ble_eq_true rfl) rfl rfl rfl rfl rfl rfl (t1_addP1 I J x v (kp (k_sh 1 (I, J)) 1) (k_pw_p (k_wf_p hw) (j := 1) (by decide)).1 (k_pw_p (k_wf_p hw) (j := 1) (by decide)).2) ?_
          rintro _ ⟨I2, J2⟩ ⟨rfl, hs2, hf2⟩
          show m_W 2 54 [(0, .ref 0), (1, .int 1), (2, .int x), (3, .int v)] [.int ((k_addP (k_sh 1 (I, J)) 1 (kp (k_sh 1 (I, J)) 1) x v).1)] (I2, J2) _
          refine c_ret (Nat.le_of_ble_eq_true rfl) rfl rfl ⟨by decide, rfl⟩ ?_
          refine ⟨?_, ?_, ?_⟩
          · first | rfl | (simp only [x_addP, if_pos h1, if_pos h2, if_pos h3]; done) | (simp only [x_addP, if_pos h1, if_pos h2, if_pos h3]; rfl) | (unfold x_addP; rw [if_pos h1, if_pos h2, if_pos h3]; done) | (unfold x_addP; rw [if_pos h1, if_pos h2, if_pos h3]; rfl) | (rw [hs2]; rfl) | (rw [hs2]; simp only [x_addP, if_pos h1, if_pos h2, if_pos h3]; done) | (rw [hs2]; simp only [x_addP, if_pos h1, if_pos h2, if_pos h3]; rfl) | (rw [hs2]; unfold x_addP; rw [if_pos h1, if_pos h2, if_pos h3]; done) | (rw [hs2]; unfold x_addP; rw [if_pos h1, if_pos h2, if_pos h3]; rfl) | (rw [hs2]; rfl) | (rw [hs2]; simp only [x_addP, if_pos h1, if_pos h2, if_pos h3]; done) | (rw [hs2]; simp only [x_addP, if_pos h1, if_pos h2, if_pos h3]; rfl) | (rw [hs2]; unfold x_addP; rw [if_pos h1, if_pos h2, if_pos h3]; done) | (rw [hs2]; unfold x_addP; rw [if_pos h1, if_pos h2, if_pos h3]; rfl)
          · rw [hs2]
            first | rfl | (simp only [x_addP, if_pos h1, if_pos h2, if_pos h3]; done) | (simp only [x_addP, if_pos h1, if_pos h2, if_pos h3]; rfl) | (unfold x_addP; rw [if_pos h1, if_pos h2, if_pos h3]; done) | (unfold x_addP; rw [if_pos h1, if_pos h2, if_pos h3]; rfl)
          · exact ((m_fr.rf).tr hf2)
        · skip
          show m_W 2 48 [(0, .ref 0), (1, .int 2), (2, .int x), (3, .int v)] [.int 2, .ref 11] (I, J) _
          refine c_aal 2 4 (Nat.le_of_ble_eq_true rfl) rfl rfl rfl rfl rfl (by decide) ?_
          show m_W 2 49 [(0, .ref 0), (1, .int 2), (2, .int x), (3, .int v)] [.ref 18] (I, J) _
          refine c_run 2 (pc' := 51) (ls' := [(0, .ref 0), (1, .int 2), (2, .int x), (3, .int v)]) (st' := [.int v, .int x, .ref 18]) (μ' := (I, J)) (Nat.le_of_ble_eq_true rfl) rfl ?_
          refine c_cv 75 [.int x, .int v] (b := 18) (r := []) (Nat.le_of_ble_eq_true rfl) rfl rfl rfl rfl rfl rfl (t1_addP2 I J x v (kp (k_sh 1 (I, J)) 2) (k_pw_p (k_wf_p hw) (j := 2) (by decide)).1 (k_pw_p (k_wf_p hw) (j := 2) (by decide)).2) ?_
          rintro _ ⟨I3, J3⟩ ⟨rfl, hs3, hf3⟩
          show m_W 2 54 [(0, .ref 0), (1, .int 2), (2, .int x), (3, .int v)] [.int ((k_addP (k_sh 1 (I, J)) 2 (kp (k_sh 1 (I, J)) 2) x v).1)] (I3, J3) _
          refine c_ret (Nat.le_of_ble_eq_true rfl) rfl rfl ⟨by decide, rfl⟩ ?_
          refine ⟨?_, ?_, ?_⟩
          · first | rfl | (simp only [x_addP, if_pos h1, if_pos h2, if_pos h3]; done) | (simp only [x_addP, if_pos h1, if_pos h2, if_pos h3]; rfl) | (unfold x_addP; rw [if_pos h1, if_pos h2, if_pos h3]; done) | (unfold x_addP; rw [if_pos h1, if_pos h2, if_pos h3]; rfl) | (rw [hs3]; rfl) | (rw [hs3]; simp only [x_addP, if_pos h1, if_pos h2, if_pos h3]; done) | (rw [hs3]; simp only [x_addP, if_pos h1, if_pos h2, if_pos h3]; rfl) | (rw [hs3]; unfold x_addP; rw [if_pos h1, if_pos h2, if_pos h3]; done) | (rw [hs3]; unfold x_addP; rw [if_pos h1, if_pos h2, if_pos h3]; rfl) | (rw [hs3]; rfl) | (rw [hs3]; simp only [x_addP, if_pos h1, if_pos h2, if_pos h3]; done) | (rw [hs3]; simp only [x_addP, if_pos h1, if_pos h2, if_pos h3]; rfl) | (rw [hs3]; unfold x_addP; rw [if_pos h1, if_pos h2, if_pos h3]; done) | (rw [hs3]; unfold x_addP; rw [if_pos h1, if_pos h2, if_pos h3]; rfl)
          · rw [hs3]
            first | rfl | (simp only [x_addP, if_pos h1, if_pos h2, if_pos h3]; done) | (simp only [x_addP, if_pos h1, if_pos h2, if_pos h3]; rfl) | (unfold x_addP; rw [if_pos h1, if_pos h2, if_pos h3]; done) | (unfold x_addP; rw [if_pos h1, if_pos h2, if_pos h3]; rfl)
          · exact ((m_fr.rf).tr hf3)
        · skip
          show m_W 2 48 [(0, .ref 0), (1, .int 3), (2, .int x), (3, .int v)] [.int 3, .ref 11] (I, J) _
          refine c_aal 3 4 (Nat.le_of_ble_eq_true rfl) rfl rfl rfl rfl rfl (by decide) ?_
          show m_W 2 49 [(0, .ref 0), (1, .int 3), (2, .int x), (3, .int v)] [.ref 21] (I, J) _
          refine c_run 2 (pc' := 51) (ls' := [(0, .ref 0), (1, .int 3), (2, .int x), (3, .int v)]) (st' := [.int v, .int x, .ref 21]) (μ' := (I, J)) (Nat.le_of_ble_eq_true rfl) rfl ?_
          refine c_cv 75 [.int x, .int v] (b := 21) (r := []) (Nat.le_of_ble_eq_true rfl) rfl rfl rfl rfl rfl rfl (t1_addP3 I J x v (kp (k_sh 1 (I, J)) 3) (k_pw_p (k_wf_p hw) (j := 3) (by decide)).1 (k_pw_p (k_wf_p hw) (j := 3) (by decide)).2) ?_
          rintro _ ⟨I4, J4⟩ ⟨rfl, hs4, hf4⟩
          show m_W 2 54 [(0, .ref 0), (1, .int 3), (2, .int x), (3, .int v)] [.int ((k_addP (k_sh 1 (I, J)) 3 (kp (k_sh 1 (I, J)) 3) x v).1)] (I4, J4) _
          refine c_ret (Nat.le_of_ble_eq_true rfl) rfl rfl ⟨by decide, rfl⟩ ?_
          refine ⟨?_, ?_, ?_⟩
          · first | rfl | (simp only [x_addP, if_pos h1, if_pos h2, if_pos h3]; done) | (simp only [x_addP, if_pos h1, if_pos h2, if_pos h3]; rfl) | (unfold x_addP; rw [if_pos h1, if_pos h2, if_pos h3]; done) | (unfold x_addP; rw [if_pos h1, if_pos h2, if_pos h3]; rfl) | (rw [hs4]; rfl) | (rw [hs4]; simp only [x_addP, if_pos h1, if_pos h2, if_pos h3]; done) | (rw [hs4]; simp only [x_addP, if_pos h1, if_pos h2, if_pos h3]; rfl) | (rw [hs4]; unfold x_addP; rw [if_pos h1, if_pos h2, if_pos h3]; done) | (rw [hs4]; unfold x_addP; rw [if_pos h1, if_pos h2, if_pos h3]; rfl) | (rw [hs4]; rfl) | (rw [hs4]; simp only [x_addP, if_pos h1, if_pos h2, if_pos h3]; done) | (rw [hs4]; simp only [x_addP, if_pos h1, if_pos h2, if_pos h3]; rfl) | (rw [hs4]; unfold x_addP; rw [if_pos h1, if_pos h2, if_pos h3]; done) | (rw [hs4]; unfold x_addP; rw [if_pos h1, if_pos h2, if_pos h3]; rfl)
          · rw [hs4]
            first | rfl | (simp only [x_addP, if_pos h1, if_pos h2, if_pos h3]; done) | (simp only [x_addP, if_pos h1, if_pos h2, if_pos h3]; rfl) | (unfold x_addP; rw [if_pos h1, if_pos h2, if_pos h3]; done) | (unfold x_addP; rw [if_pos h1, if_pos h2, if_pos h3]; rfl)
          · exact ((m_fr.rf).tr hf4)
      · replace h3 := s01_0.mp h3
        refine c_run 1 (pc' := 36) (ls' := [(0, .ref 0), (1, .int t), (2, .int x), (3, .int v)]) (st' := [.int (-1)]) (μ' := (I, J)) (Nat.le_of_ble_eq_true rfl) rfl ?_
        refine c_ret (Nat.le_of_ble_eq_true rfl) rfl rfl ⟨by decide, rfl⟩ ?_
        refine ⟨?_, ?_, ?_⟩
        · first | rfl | (simp only [x_addP, if_pos h1, if_pos h2, if_neg h3]; done) | (simp only [x_addP, if_pos h1, if_pos h2, if_neg h3]; rfl) | (unfold x_addP; rw [if_pos h1, if_pos h2, if_neg h3]; done) | (unfold x_addP; rw [if_pos h1, if_pos h2, if_neg h3]; rfl)
        · skip
          first | rfl | (simp only [x_addP, if_pos h1, if_pos h2, if_neg h3]; done) | (simp only [x_addP, if_pos h1, if_pos h2, if_neg h3]; rfl) | (unfold x_addP; rw [if_pos h1, if_pos h2, if_neg h3]; done) | (unfold x_addP; rw [if_pos h1, if_pos h2, if_neg h3]; rfl)
        · exact (m_fr.rf)

set_option maxRecDepth 100000 in
theorem t_letter (I : Nat → Nat → Int32) (J : Nat → Nat → Int64) (x : Int32) : m_W 10 0 (lv_args 0 [.ref 0, .int x]) [] (I, J) (m_E (some (.int (if 97 ≤ x ∧ x ≤ 122 then (if I 0 4 < 6 then I 0 4 + 1 else -3) else -1))) (if 97 ≤ x ∧ x ≤ 122 then (if I 0 4 < 6 then (m_ui (m_ui I 0 3 (I 0 3 * 27 + (x - 97 + 1))) 0 4 (I 0 4 + 1), J) else (I, J)) else (I, J))) := by
  show m_W 10 0 [(0, .ref 0), (1, .int x)] [] (I, J) _
  refine c_run 3 (pc' := 5) (ls' := [(0, .ref 0), (1, .int x)]) (st' := [.int 122, .int 97, .int x]) (μ' := (I, J)) (Nat.le_of_ble_eq_true rfl) rfl ?_
  refine c_cs 35 [.int x, .int 97, .int 122] (r := []) (Nat.le_of_ble_eq_true rfl) rfl (Or.inl rfl) rfl rfl rfl (t_isWithin I J x 97 122) ?_
  rintro _ _ ⟨rfl, rfl⟩
  show m_W 10 8 [(0, .ref 0), (1, .int x)] [.int (s01 ((97 : Int32) ≤ x ∧ x ≤ (122 : Int32)))] (I, J) _
  refine c_ifne 13 (Nat.le_of_ble_eq_true rfl) rfl rfl (fun h1 => ?_) (fun h1 => ?_)
  · replace h1 := s01_1.mp h1
    refine c_run 3 (pc' := 19) (ls' := [(0, .ref 0), (1, .int x)]) (st' := [.int 6, .int (I 0 4)]) (μ' := (I, J)) (Nat.le_of_ble_eq_true rfl) rfl ?_
    refine c_iclt 25 (Nat.le_of_ble_eq_true rfl) rfl rfl (fun h2 => ?_) (fun h2 => ?_)
    · skip
      refine c_run 4 (pc' := 31) (ls' := [(0, .ref 0), (1, .int x)]) (st' := [.int x, .int (I 0 3), .ref 0]) (μ' := (I, J)) (Nat.le_of_ble_eq_true rfl) rfl ?_
      refine c_cs 36 [.int (I 0 3), .int x] (r := [.ref 0]) (Nat.le_of_ble_eq_true rfl) rfl (Or.inl rfl) rfl rfl rfl (t_nameWith I J (I 0 3) x) ?_
      rintro _ _ ⟨rfl, rfl⟩
      show m_W 10 34 [(0, .ref 0), (1, .int x)] [.int ((I 0 3) * 27 + (x - 97 + 1)), .ref 0] (I, J) _
      refine c_run 9 (pc' := 51) (ls' := [(0, .ref 0), (1, .int x)]) (st' := [.int ((I 0 4) + (1 : Int32))]) (μ' := ((m_ui (m_ui I 0 3 ((I 0 3) * 27 + (x - 97 + 1))) 0 4 ((I 0 4) + (1 : Int32))), J)) (Nat.le_of_ble_eq_true rfl) rfl ?_
      refine c_ret (Nat.le_of_ble_eq_true rfl) rfl rfl ⟨by decide, rfl⟩ ?_
      rw [if_pos h1, if_pos h2, if_pos h1, if_pos h2]
      exact ⟨rfl, rfl⟩
    · skip
      refine c_run 1 (pc' := 24) (ls' := [(0, .ref 0), (1, .int x)]) (st' := [.int (-3)]) (μ' := (I, J)) (Nat.le_of_ble_eq_true rfl) rfl ?_
      refine c_ret (Nat.le_of_ble_eq_true rfl) rfl rfl ⟨by decide, rfl⟩ ?_
      rw [if_pos h1, if_neg h2, if_pos h1, if_neg h2]
      exact ⟨rfl, rfl⟩
  · replace h1 := s01_0.mp h1
    refine c_run 1 (pc' := 12) (ls' := [(0, .ref 0), (1, .int x)]) (st' := [.int (-1)]) (μ' := (I, J)) (Nat.le_of_ble_eq_true rfl) rfl ?_
    refine c_ret (Nat.le_of_ble_eq_true rfl) rfl rfl ⟨by decide, rfl⟩ ?_
    rw [if_neg h1, if_neg h1]
    exact ⟨rfl, rfl⟩

set_option maxRecDepth 100000 in
theorem t_enb (I : Nat → Nat → Int32) (J : Nat → Nat → Int64)  : m_W 32 0 (lv_args 0 [.ref 0]) [] (I, J) (m_E none (m_ui (m_ui I 0 3 0) 0 4 0, J)) := by
  show m_W 32 0 [(0, .ref 0)] [] (I, J) _
  refine c_run 6 (pc' := 10) (ls' := [(0, .ref 0)]) (st' := []) (μ' := ((m_ui (m_ui I 0 3 0) 0 4 0), J)) (Nat.le_of_ble_eq_true rfl) rfl ?_
  refine c_vret (Nat.le_of_ble_eq_true rfl) rfl rfl ?_
  exact ⟨rfl, rfl⟩

def x_enb (μ : m_M) : m_M := (m_ui (m_ui μ.1 0 3 0) 0 4 0, μ.2)
def x_addE (μ : m_M) (f u : Int32) : Int32 × k_M := if 1 ≤ f ∧ f ≤ 100000 then (if 0 ≤ u ∧ u ≤ 500 then (if μ.1 0 4 = 0 then (-2, k_sh 1 μ) else (if k_fd ((k_sh 1 μ).1 24) (μ.1 0 3) 0 (km (k_sh 1 μ)) < 0 then k_addE (k_sh 1 μ) (km (k_sh 1 μ)) (μ.1 0 3) f u else (-2, k_sh 1 μ))) else (-1, k_sh 1 μ)) else (-1, k_sh 1 μ)
/-- the craft is κ, and of the gauge's own cell the buffer was emptied, or not; the rest stays -/
def x_EB (μ : m_M) (v : Int32) (em : Prop) (κ : k_M) : m_Q := fun v' μ' => v' = some (.int v) ∧ k_sh 1 μ' = κ ∧ (∀ c, 38 ≤ c → μ'.1 c = μ.1 c ∧ μ'.2 c = μ.2 c) ∧ μ'.2 0 = μ.2 0 ∧ (em → μ'.1 0 3 = 0 ∧ μ'.1 0 4 = 0) ∧ (¬ em → μ'.1 0 = μ.1 0)
theorem x_EB_k {μ μ' : m_M} {v : Int32} {em : Prop} {κ : k_M} (he : ¬ em) (h : k_E 1 μ (some (.int v)) κ (some (.int v)) μ') : x_EB μ v em κ (some (.int v)) μ' := ⟨rfl, h.2.1, fun c hc => h.2.2 c (by omega), (h.2.2 0 (by omega)).2, fun q => absurd q he, fun _ => (h.2.2 0 (by omega)).1⟩
theorem x_enb_k {I : Nat → Nat → Int32} {J : Nat → Nat → Int64} : k_sh 1 (m_ui (m_ui I 0 3 0) 0 4 0, J) = k_sh 1 (I, J) := by
  refine Prod.ext ?_ rfl
  funext c j
  unfold k_sh
  dsimp only
  rw [m_ui_o (by omega), m_ui_o (by omega)]
theorem x_EB_e {μ : m_M} {I : Nat → Nat → Int32} {J : Nat → Nat → Int64} {v : Int32} {em : Prop} {κ : k_M} (he : em) (h : k_E 1 μ (some (.int v)) κ (some (.int v)) (I, J)) : x_EB μ v em κ (some (.int v)) (m_ui (m_ui I 0 3 0) 0 4 0, J) := by
  refine ⟨rfl, x_enb_k.trans h.2.1, fun c hc => ⟨?_, (h.2.2 c (by omega)).2⟩, (h.2.2 0 (by omega)).2, fun _ => ⟨rfl, rfl⟩, fun q => absurd he q⟩
  show m_ui (m_ui I 0 3 0) 0 4 0 c = _
  rw [m_ui_o (by omega), m_ui_o (by omega)]
  exact (h.2.2 c (by omega)).1
set_option maxRecDepth 100000 in
theorem t_addEngine (I : Nat → Nat → Int32) (J : Nat → Nat → Int64) (f u : Int32) (hw : k_wf (k_sh 1 (I, J))) : m_W 11 0 (lv_args 0 [.ref 0, .int f, .int u]) [] (I, J) (x_EB (I, J) (x_addE (I, J) f u).1 (¬ (x_addE (I, J) f u).1 < 0) (x_addE (I, J) f u).2) := by
  show m_W 11 0 [(0, .ref 0), (1, .int f), (2, .int u)] [] (I, J) _
  obtain ⟨hn, hn4⟩ := k_wf_n hw
  obtain ⟨hm, hm6⟩ := k_wf_m hw
  refine c_run 3 (pc' := 4) (ls' := [(0, .ref 0), (1, .int f), (2, .int u)]) (st' := [.int 100000, .int 1, .int f]) (μ' := (I, J)) (Nat.le_of_ble_eq_true rfl) rfl ?_
  refine c_cs 35 [.int f, .int 1, .int 100000] (r := []) (Nat.le_of_ble_eq_true rfl) rfl (Or.inl rfl) rfl rfl rfl (t_isWithin I J f 1 100000) ?_
  rintro _ _ ⟨rfl, rfl⟩
  show m_W 11 7 [(0, .ref 0), (1, .int f), (2, .int u)] [.int (s01 ((1 : Int32) ≤ f ∧ f ≤ (100000 : Int32)))] (I, J) _
  refine c_ifeq 21 (Nat.le_of_ble_eq_true rfl) rfl rfl (fun h1 => ?_) (fun h1 => ?_)
  · replace h1 := s01_0.mp h1
    refine c_run 1 (pc' := 22) (ls' := [(0, .ref 0), (1, .int f), (2, .int u)]) (st' := [.int (-1)]) (μ' := (I, J)) (Nat.le_of_ble_eq_true rfl) rfl ?_
    refine c_ret (Nat.le_of_ble_eq_true rfl) rfl rfl ⟨by decide, rfl⟩ ?_
    have hx : x_addE (I, J) f u = ((-1), (k_sh 1 (I, J))) := by unfold x_addE; rw [if_neg h1]
    rw [hx]
    exact x_EB_k (fun q => q (show (-1 : Int32) < 0 by decide)) ⟨rfl, rfl, m_fr.rf⟩
  · replace h1 := s01_1.mp h1
    refine c_run 3 (pc' := 15) (ls' := [(0, .ref 0), (1, .int f), (2, .int u)]) (st' := [.int 500, .int 0, .int u]) (μ' := (I, J)) (Nat.le_of_ble_eq_true rfl) rfl ?_
    refine c_cs 35 [.int u, .int 0, .int 500] (r := []) (Nat.le_of_ble_eq_true rfl) rfl (Or.inl rfl) rfl rfl rfl (t_isWithin I J u 0 500) ?_
    rintro _ _ ⟨rfl, rfl⟩
    show m_W 11 18 [(0, .ref 0), (1, .int f), (2, .int u)] [.int (s01 ((0 : Int32) ≤ u ∧ u ≤ (500 : Int32)))] (I, J) _
    refine c_ifne 23 (Nat.le_of_ble_eq_true rfl) rfl rfl (fun h2 => ?_) (fun h2 => ?_)
    · replace h2 := s01_1.mp h2
      refine c_run 2 (pc' := 27) (ls' := [(0, .ref 0), (1, .int f), (2, .int u)]) (st' := [.int (I 0 4)]) (μ' := (I, J)) (Nat.le_of_ble_eq_true rfl) rfl ?_
      refine c_ifeq 47 (Nat.le_of_ble_eq_true rfl) rfl rfl (fun h3 => ?_) (fun h3 => ?_)
      · skip
        refine c_run 1 (pc' := 49) (ls' := [(0, .ref 0), (1, .int f), (2, .int u)]) (st' := [.int (-2)]) (μ' := (I, J)) (Nat.le_of_ble_eq_true rfl) rfl ?_
        refine c_ret (Nat.le_of_ble_eq_true rfl) rfl rfl ⟨by decide, rfl⟩ ?_
        have hx : x_addE (I, J) f u = ((-2), (k_sh 1 (I, J))) := by unfold x_addE; rw [if_pos h1, if_pos h2, if_pos h3]
        rw [hx]
        exact x_EB_k (fun q => q (show (-2 : Int32) < 0 by decide)) ⟨rfl, rfl, m_fr.rf⟩
      · skip
        refine c_run 5 (pc' := 41) (ls' := [(0, .ref 0), (1, .int f), (2, .int u)]) (st' := [.int (I 0 3), .ref 24]) (μ' := (I, J)) (Nat.le_of_ble_eq_true rfl) rfl ?_
        refine c_cv 67 [.int (I 0 3)] (b := 24) (r := []) (Nat.le_of_ble_eq_true rfl) rfl rfl rfl rfl rfl rfl (t1_find I J (I 0 3) (km (k_sh 1 (I, J))) hm hm6) ?_
        rintro _ _ ⟨rfl, rfl⟩
        show m_W 11 44 [(0, .ref 0), (1, .int f), (2, .int u)] [.int (k_fd ((k_sh 1 (I, J)).1 24) (I 0 3) 0 (km (k_sh 1 (I, J))))] (I, J) _
        refine c_iflt 50 (Nat.le_of_ble_eq_true rfl) rfl rfl (fun h4 => ?_) (fun h4 => ?_)
        · skip
          refine c_run 7 (pc' := 63) (ls' := [(0, .ref 0), (1, .int f), (2, .int u)]) (st' := [.int u, .int f, .int (I 0 3), .ref 24]) (μ' := (I, J)) (Nat.le_of_ble_eq_true rfl) rfl ?_
          refine c_cv 68 [.int (I 0 3), .int f, .int u] (b := 24) (r := []) (Nat.le_of_ble_eq_true rfl) rfl rfl rfl rfl rfl rfl (t1_addE I J (I 0 3) f u (km (k_sh 1 (I, J))) hm hm6) ?_
          rintro _ ⟨I1, J1⟩ ⟨rfl, hs1, hf1⟩
          show m_W 11 66 [(0, .ref 0), (1, .int f), (2, .int u)] [.int ((k_addE (k_sh 1 (I, J)) (km (k_sh 1 (I, J))) (I 0 3) f u).1)] (I1, J1) _
          refine c_run 2 (pc' := 68) (ls' := [(3, .int ((k_addE (k_sh 1 (I, J)) (km (k_sh 1 (I, J))) (I 0 3) f u).1)), (0, .ref 0), (1, .int f), (2, .int u)]) (st' := [.int ((k_addE (k_sh 1 (I, J)) (km (k_sh 1 (I, J))) (I 0 3) f u).1)]) (μ' := (I1, J1)) (Nat.le_of_ble_eq_true rfl) rfl ?_
          refine c_iflt 75 (Nat.le_of_ble_eq_true rfl) rfl rfl (fun h5 => ?_) (fun h5 => ?_)
          · skip
            refine c_run 1 (pc' := 76) (ls' := [(3, .int ((k_addE (k_sh 1 (I, J)) (km (k_sh 1 (I, J))) (I 0 3) f u).1)), (0, .ref 0), (1, .int f), (2, .int u)]) (st' := [.int ((k_addE (k_sh 1 (I, J)) (km (k_sh 1 (I, J))) (I 0 3) f u).1)]) (μ' := (I1, J1)) (Nat.le_of_ble_eq_true rfl) rfl ?_
            refine c_ret (Nat.le_of_ble_eq_true rfl) rfl rfl ⟨by decide, rfl⟩ ?_
            have hx : x_addE (I, J) f u = k_addE (k_sh 1 (I, J)) (km (k_sh 1 (I, J))) (I 0 3) f u := by unfold x_addE; rw [if_pos h1, if_pos h2, if_neg h3, if_pos h4]
            rw [hx]
            exact x_EB_k (fun q => q (by assumption)) ⟨rfl, hs1, hf1⟩
          · skip
            refine c_run 1 (pc' := 72) (ls' := [(3, .int ((k_addE (k_sh 1 (I, J)) (km (k_sh 1 (I, J))) (I 0 3) f u).1)), (0, .ref 0), (1, .int f), (2, .int u)]) (st' := [.ref 0]) (μ' := (I1, J1)) (Nat.le_of_ble_eq_true rfl) rfl ?_
            refine c_cv 32 [] (b := 0) (r := []) (Nat.le_of_ble_eq_true rfl) rfl rfl rfl rfl rfl rfl (t_enb I1 J1) ?_
            rintro _ _ ⟨rfl, rfl⟩
            show m_W 11 75 [(3, .int ((k_addE (k_sh 1 (I, J)) (km (k_sh 1 (I, J))) (I 0 3) f u).1)), (0, .ref 0), (1, .int f), (2, .int u)] [] ((m_ui (m_ui I1 0 3 0) 0 4 0), J1) _
            refine c_run 1 (pc' := 76) (ls' := [(3, .int ((k_addE (k_sh 1 (I, J)) (km (k_sh 1 (I, J))) (I 0 3) f u).1)), (0, .ref 0), (1, .int f), (2, .int u)]) (st' := [.int ((k_addE (k_sh 1 (I, J)) (km (k_sh 1 (I, J))) (I 0 3) f u).1)]) (μ' := ((m_ui (m_ui I1 0 3 0) 0 4 0), J1)) (Nat.le_of_ble_eq_true rfl) rfl ?_
            refine c_ret (Nat.le_of_ble_eq_true rfl) rfl rfl ⟨by decide, rfl⟩ ?_
            have hx : x_addE (I, J) f u = k_addE (k_sh 1 (I, J)) (km (k_sh 1 (I, J))) (I 0 3) f u := by unfold x_addE; rw [if_pos h1, if_pos h2, if_neg h3, if_pos h4]
            rw [hx]
            exact x_EB_e (by assumption) ⟨rfl, hs1, hf1⟩
        · skip
          refine c_run 1 (pc' := 49) (ls' := [(0, .ref 0), (1, .int f), (2, .int u)]) (st' := [.int (-2)]) (μ' := (I, J)) (Nat.le_of_ble_eq_true rfl) rfl ?_
          refine c_ret (Nat.le_of_ble_eq_true rfl) rfl rfl ⟨by decide, rfl⟩ ?_
          have hx : x_addE (I, J) f u = ((-2), (k_sh 1 (I, J))) := by unfold x_addE; rw [if_pos h1, if_pos h2, if_neg h3, if_neg h4]
          rw [hx]
          exact x_EB_k (fun q => q (show (-2 : Int32) < 0 by decide)) ⟨rfl, rfl, m_fr.rf⟩
    · replace h2 := s01_0.mp h2
      refine c_run 1 (pc' := 22) (ls' := [(0, .ref 0), (1, .int f), (2, .int u)]) (st' := [.int (-1)]) (μ' := (I, J)) (Nat.le_of_ble_eq_true rfl) rfl ?_
      refine c_ret (Nat.le_of_ble_eq_true rfl) rfl rfl ⟨by decide, rfl⟩ ?_
      have hx : x_addE (I, J) f u = ((-1), (k_sh 1 (I, J))) := by unfold x_addE; rw [if_pos h1, if_neg h2]
      rw [hx]
      exact x_EB_k (fun q => q (show (-1 : Int32) < 0 by decide)) ⟨rfl, rfl, m_fr.rf⟩

set_option maxRecDepth 100000 in
theorem t_engineNamed (I : Nat → Nat → Int32) (J : Nat → Nat → Int64)  (hw : k_wf (k_sh 1 (I, J))) : m_W 12 0 (lv_args 0 [.ref 0]) [] (I, J) (x_EB (I, J) (k_fd ((k_sh 1 (I, J)).1 24) (I 0 3) 0 (km (k_sh 1 (I, J)))) (¬ k_fd ((k_sh 1 (I, J)).1 24) (I 0 3) 0 (km (k_sh 1 (I, J))) < 0) (k_sh 1 (I, J))) := by
  show m_W 12 0 [(0, .ref 0)] [] (I, J) _
  obtain ⟨hn, hn4⟩ := k_wf_n hw
  obtain ⟨hm, hm6⟩ := k_wf_m hw
  refine c_run 5 (pc' := 11) (ls' := [(0, .ref 0)]) (st' := [.int (I 0 3), .ref 24]) (μ' := (I, J)) (Nat.le_of_ble_eq_true rfl) rfl ?_
  refine c_cv 67 [.int (I 0 3)] (b := 24) (r := []) (Nat.le_of_ble_eq_true rfl) rfl rfl rfl rfl rfl rfl (t1_find I J (I 0 3) (km (k_sh 1 (I, J))) hm hm6) ?_
  rintro _ _ ⟨rfl, rfl⟩
  show m_W 12 14 [(0, .ref 0)] [.int (k_fd ((k_sh 1 (I, J)).1 24) (I 0 3) 0 (km (k_sh 1 (I, J))))] (I, J) _
  refine c_run 2 (pc' := 16) (ls' := [(1, .int (k_fd ((k_sh 1 (I, J)).1 24) (I 0 3) 0 (km (k_sh 1 (I, J))))), (0, .ref 0)]) (st' := [.int (k_fd ((k_sh 1 (I, J)).1 24) (I 0 3) 0 (km (k_sh 1 (I, J))))]) (μ' := (I, J)) (Nat.le_of_ble_eq_true rfl) rfl ?_
  refine c_iflt 23 (Nat.le_of_ble_eq_true rfl) rfl rfl (fun h1 => ?_) (fun h1 => ?_)
  · skip
    refine c_run 1 (pc' := 24) (ls' := [(1, .int (k_fd ((k_sh 1 (I, J)).1 24) (I 0 3) 0 (km (k_sh 1 (I, J))))), (0, .ref 0)]) (st' := [.int (k_fd ((k_sh 1 (I, J)).1 24) (I 0 3) 0 (km (k_sh 1 (I, J))))]) (μ' := (I, J)) (Nat.le_of_ble_eq_true rfl) rfl ?_
    refine c_ret (Nat.le_of_ble_eq_true rfl) rfl rfl ⟨by decide, rfl⟩ ?_
    exact x_EB_k (fun q => absurd (by assumption) q) ⟨rfl, rfl, m_fr.rf⟩
  · skip
    refine c_run 1 (pc' := 20) (ls' := [(1, .int (k_fd ((k_sh 1 (I, J)).1 24) (I 0 3) 0 (km (k_sh 1 (I, J))))), (0, .ref 0)]) (st' := [.ref 0]) (μ' := (I, J)) (Nat.le_of_ble_eq_true rfl) rfl ?_
    refine c_cv 32 [] (b := 0) (r := []) (Nat.le_of_ble_eq_true rfl) rfl rfl rfl rfl rfl rfl (t_enb I J) ?_
    rintro _ _ ⟨rfl, rfl⟩
    show m_W 12 23 [(1, .int (k_fd ((k_sh 1 (I, J)).1 24) (I 0 3) 0 (km (k_sh 1 (I, J))))), (0, .ref 0)] [] ((m_ui (m_ui I 0 3 0) 0 4 0), J) _
    refine c_run 1 (pc' := 24) (ls' := [(1, .int (k_fd ((k_sh 1 (I, J)).1 24) (I 0 3) 0 (km (k_sh 1 (I, J))))), (0, .ref 0)]) (st' := [.int (k_fd ((k_sh 1 (I, J)).1 24) (I 0 3) 0 (km (k_sh 1 (I, J))))]) (μ' := ((m_ui (m_ui I 0 3 0) 0 4 0), J)) (Nat.le_of_ble_eq_true rfl) rfl ?_
    refine c_ret (Nat.le_of_ble_eq_true rfl) rfl rfl ⟨by decide, rfl⟩ ?_
    exact x_EB_e (by assumption) ⟨rfl, rfl, m_fr.rf⟩

set_option maxRecDepth 100000 in
theorem t1_read (I : Nat → Nat → Int32) (J : Nat → Nat → Int64) (t x : Int32) (hw : k_wf (k_sh 1 (I, J))) : m_W 62 0 (lv_args 0 [.ref 1, .int t, .int x]) [] (I, J) (k_E 1 (I, J) (some (.int (k_read (k_sh 1 (I, J)) t x).1)) (k_read (k_sh 1 (I, J)) t x).2) := by
  show m_W 62 0 [(0, .ref 1), (1, .int t), (2, .int x)] [] (I, J) _
  obtain ⟨hn, hn4⟩ := k_wf_n hw
  by_cases hg : k_hasT (k_sh 1 (I, J)) t ∧ (0 ≤ x ∧ x ≤ 10000)
  · rw [show k_read (k_sh 1 (I, J)) t x = _ from if_pos hg]
    obtain ⟨i, hi, rfl⟩ : ∃ i, i < kn (k_sh 1 (I, J)) ∧ t = nI i := k_ix (by rw [← hn]; exact hg.1) (by omega)
    rw [show (nI i).toNatClampNeg = i from nI_clamp (by omega)]
    have hl := k_lw_l (k_wf_l hw)
    have hc := k_lw_c (k_wf_l hw)
    rcases (show i = 0 ∨ i = 1 ∨ i = 2 ∨ i = 3 by omega) with rfl | rfl | rfl | rfl
    · exact t1_rd0 I J x hg.2 hg.1 (kp (k_sh 1 (I, J)) 0) (k_pw_p (k_wf_p hw) (j := 0) (by decide)).1 (k_pw_p (k_wf_p hw) (j := 0) (by decide)).2 _ _ hl.1 hl.2 hc.1 hc.2
    · exact t1_rd1 I J x hg.2 hg.1 (kp (k_sh 1 (I, J)) 1) (k_pw_p (k_wf_p hw) (j := 1) (by decide)).1 (k_pw_p (k_wf_p hw) (j := 1) (by decide)).2 _ _ hl.1 hl.2 hc.1 hc.2
    · exact t1_rd2 I J x hg.2 hg.1 (kp (k_sh 1 (I, J)) 2) (k_pw_p (k_wf_p hw) (j := 2) (by decide)).1 (k_pw_p (k_wf_p hw) (j := 2) (by decide)).2 _ _ hl.1 hl.2 hc.1 hc.2
    · exact t1_rd3 I J x hg.2 hg.1 (kp (k_sh 1 (I, J)) 3) (k_pw_p (k_wf_p hw) (j := 3) (by decide)).1 (k_pw_p (k_wf_p hw) (j := 3) (by decide)).2 _ _ hl.1 hl.2 hc.1 hc.2
  rw [show k_read (k_sh 1 (I, J)) t x = _ from if_neg hg]
  refine c_run 3 (pc' := 5) (ls' := [(0, .ref 1), (1, .int t), (2, .int x)]) (st' := [.int t, .ref 2]) (μ' := (I, J)) (Nat.le_of_ble_eq_true rfl) rfl ?_
  refine c_cv 80 [.int t] (b := 2) (r := []) (Nat.le_of_ble_eq_true rfl) rfl rfl rfl rfl rfl rfl (t1_hasT I J t) ?_
  rintro _ _ ⟨rfl, rfl⟩
  show m_W 62 8 [(0, .ref 1), (1, .int t), (2, .int x)] [.int (s01 (k_hasT (k_sh 1 (I, J)) t))] (I, J) _
  refine c_ifeq 22 (Nat.le_of_ble_eq_true rfl) rfl rfl (fun h1 => ?_) (fun h1 => ?_)
  · replace h1 := s01_0.mp h1
    refine c_run 1 (pc' := 23) (ls' := [(0, .ref 1), (1, .int t), (2, .int x)]) (st' := [.int (-1)]) (μ' := (I, J)) (Nat.le_of_ble_eq_true rfl) rfl ?_
    refine c_ret (Nat.le_of_ble_eq_true rfl) rfl rfl ⟨by decide, rfl⟩ ?_
    refine ⟨?_, ?_, ?_⟩
    · exact rfl
    · skip
      all_goals rfl
    · exact (m_fr.rf)
  · replace h1 := s01_1.mp h1
    refine c_run 3 (pc' := 16) (ls' := [(0, .ref 1), (1, .int t), (2, .int x)]) (st' := [.int 10000, .int 0, .int x]) (μ' := (I, J)) (Nat.le_of_ble_eq_true rfl) rfl ?_
    refine c_cs 35 [.int x, .int 0, .int 10000] (r := []) (Nat.le_of_ble_eq_true rfl) rfl (Or.inr ⟨rfl, rfl⟩) rfl rfl rfl (t_isWithin I J x 0 10000) ?_
    rintro _ _ ⟨rfl, rfl⟩
    show m_W 62 19 [(0, .ref 1), (1, .int t), (2, .int x)] [.int (s01 ((0 : Int32) ≤ x ∧ x ≤ (10000 : Int32)))] (I, J) _
    refine c_ifne 24 (Nat.le_of_ble_eq_true rfl) rfl rfl (fun h2 => absurd (show k_hasT (k_sh 1 (I, J)) t ∧ (0 ≤ x ∧ x ≤ 10000) from ⟨by assumption, s01_1.mp h2⟩) hg) (fun h2 => ?_)
    refine c_run 1 (pc' := 23) (ls' := [(0, .ref 1), (1, .int t), (2, .int x)]) (st' := [.int (-1)]) (μ' := (I, J)) (Nat.le_of_ble_eq_true rfl) rfl ?_
    refine c_ret (Nat.le_of_ble_eq_true rfl) rfl rfl ⟨by decide, rfl⟩ ?_
    refine ⟨?_, ?_, ?_⟩
    · exact rfl
    · skip
      all_goals rfl
    · exact (m_fr.rf)

set_option maxRecDepth 100000 in
theorem t1_bfor (I : Nat → Nat → Int32) (J : Nat → Nat → Int64) (e x : Int32) (hw : k_wf (k_sh 1 (I, J))) : m_W 56 0 (lv_args 0 [.ref 1, .int e, .int x]) [] (I, J) (k_E 1 (I, J) (some (.int (k_bfor (k_sh 1 (I, J)) e x).1)) (k_bfor (k_sh 1 (I, J)) e x).2) := by
  show m_W 56 0 [(0, .ref 1), (1, .int e), (2, .int x)] [] (I, J) _
  refine c_run 2 (pc' := 2) (ls' := [(0, .ref 1), (1, .int e), (2, .int x)]) (st' := [.int x, .ref 1]) (μ' := (I, J)) (Nat.le_of_ble_eq_true rfl) rfl ?_
  refine c_cv 57 [.int x] (b := 1) (r := []) (Nat.le_of_ble_eq_true rfl) rfl rfl rfl rfl rfl rfl (t1_chk I J x) ?_
  rintro _ _ ⟨rfl, rfl⟩
  show m_W 56 5 [(0, .ref 1), (1, .int e), (2, .int x)] [.int (k_chk (k_sh 1 (I, J)) x)] (I, J) _
  refine c_iflt 16 (Nat.le_of_ble_eq_true rfl) rfl rfl (fun h1 => ?_) (fun h1 => ?_)
  · skip
    refine c_run 1 (pc' := 17) (ls' := [(0, .ref 1), (1, .int e), (2, .int x)]) (st' := [.int 0]) (μ' := (I, J)) (Nat.le_of_ble_eq_true rfl) rfl ?_
    refine c_ret (Nat.le_of_ble_eq_true rfl) rfl rfl ⟨by decide, rfl⟩ ?_
    rw [show k_bfor (k_sh 1 (I, J)) e x = (0, (k_sh 1 (I, J))) from if_pos (by assumption)]
    exact ⟨rfl, rfl, m_fr.rf⟩
  · skip
    refine c_run 2 (pc' := 10) (ls' := [(0, .ref 1), (1, .int e), (2, .int x)]) (st' := [.int e, .ref 1]) (μ' := (I, J)) (Nat.le_of_ble_eq_true rfl) rfl ?_
    refine c_cv 54 [.int e] (b := 1) (r := []) (Nat.le_of_ble_eq_true rfl) rfl rfl rfl rfl rfl rfl (t1_begin I J e (km (k_sh 1 (I, J))) (k_wf_m hw).1 (k_wf_m hw).2) ?_
    rintro _ ⟨I1, J1⟩ ⟨rfl, hs1, hf1⟩
    show m_W 56 13 [(0, .ref 1), (1, .int e), (2, .int x)] [.int ((k_begin (k_sh 1 (I, J)) e).1)] (I1, J1) _
    refine c_ifge 18 (Nat.le_of_ble_eq_true rfl) rfl rfl (fun h2 => ?_) (fun h2 => ?_)
    · skip
      refine c_run 2 (pc' := 20) (ls' := [(0, .ref 1), (1, .int e), (2, .int x)]) (st' := [.int x, .ref 1]) (μ' := (I1, J1)) (Nat.le_of_ble_eq_true rfl) rfl ?_
      have hw1 : k_wf (k_sh 1 (I1, J1)) := by rw [hs1]; exact k_sc_wf hw k_begin_sc (k_begin_lw (k_wf_l hw))
      refine c_cv 58 [.int x] (b := 1) (r := []) (Nat.le_of_ble_eq_true rfl) rfl rfl rfl rfl rfl rfl (t1_pass I1 J1 x (km (k_sh 1 (I1, J1))) (k_wf_m hw1).1 (k_wf_m hw1).2 (kn (k_sh 1 (I1, J1))) (k_wf_n hw1).1 (k_wf_n hw1).2 (k_wf_l hw1)) ?_
      rintro _ ⟨I2, J2⟩ ⟨rfl, hs2, hf2⟩
      show m_W 56 23 [(0, .ref 1), (1, .int e), (2, .int x)] [.int ((k_pass (k_sh 1 (I1, J1)) (ke (k_sh 1 (I1, J1))) (kn (k_sh 1 (I1, J1))) x).1)] (I2, J2) _
      refine c_run 2 (pc' := 25) (ls' := [(0, .ref 1), (1, .int e), (2, .int x)]) (st' := [.ref 1]) (μ' := (I2, J2)) (Nat.le_of_ble_eq_true rfl) rfl ?_
      have hw2 : k_wf (k_sh 1 (I2, J2)) := by rw [hs2]; exact k_sc_wf hw1 k_pass_sc (k_pass_lw (k_wf_l hw1))
      refine c_cv 55 [] (b := 1) (r := []) (Nat.le_of_ble_eq_true rfl) rfl rfl rfl rfl rfl rfl (t1_end I2 J2 (km (k_sh 1 (I2, J2))) (k_wf_m hw2).1 (k_wf_m hw2).2 (kn (k_sh 1 (I2, J2))) (k_wf_n hw2).1 (k_wf_n hw2).2 (k_wf_l hw2)) ?_
      rintro _ ⟨I3, J3⟩ ⟨rfl, hs3, hf3⟩
      show m_W 56 28 [(0, .ref 1), (1, .int e), (2, .int x)] [.int ((k_end (k_sh 1 (I2, J2)) (ke (k_sh 1 (I2, J2))) (kn (k_sh 1 (I2, J2))) (kl (k_sh 1 (I2, J2))) (kc (k_sh 1 (I2, J2)))).1)] (I3, J3) _
      refine c_run 2 (pc' := 30) (ls' := [(0, .ref 1), (1, .int e), (2, .int x)]) (st' := [.int 1]) (μ' := (I3, J3)) (Nat.le_of_ble_eq_true rfl) rfl ?_
      refine c_ret (Nat.le_of_ble_eq_true rfl) rfl rfl ⟨by decide, rfl⟩ ?_
      rw [show k_bfor (k_sh 1 (I, J)) e x = (1, (k_endx (k_passx (k_begin (k_sh 1 (I, J)) e).2 x).2).2) from by unfold k_bfor; rw [if_neg h1, if_pos h2]]
      refine ⟨rfl, ?_, (hf1.tr hf2).tr hf3⟩
      rw [hs3, hs2, hs1]
      rfl
    · skip
      refine c_run 1 (pc' := 17) (ls' := [(0, .ref 1), (1, .int e), (2, .int x)]) (st' := [.int 0]) (μ' := (I1, J1)) (Nat.le_of_ble_eq_true rfl) rfl ?_
      refine c_ret (Nat.le_of_ble_eq_true rfl) rfl rfl ⟨by decide, rfl⟩ ?_
      rw [show k_bfor (k_sh 1 (I, J)) e x = (0, (k_begin (k_sh 1 (I, J)) e).2) from by unfold k_bfor; rw [if_neg h1, if_neg h2]]
      exact ⟨rfl, hs1, hf1⟩

set_option maxRecDepth 100000 in
theorem t38_read (I : Nat → Nat → Int32) (J : Nat → Nat → Int64) (t x : Int32) (hw : k_wf (k_sh 38 (I, J))) : m_W 62 0 (lv_args 0 [.ref 38, .int t, .int x]) [] (I, J) (k_E 38 (I, J) (some (.int (k_read (k_sh 38 (I, J)) t x).1)) (k_read (k_sh 38 (I, J)) t x).2) := by
  show m_W 62 0 [(0, .ref 38), (1, .int t), (2, .int x)] [] (I, J) _
  obtain ⟨hn, hn4⟩ := k_wf_n hw
  by_cases hg : k_hasT (k_sh 38 (I, J)) t ∧ (0 ≤ x ∧ x ≤ 10000)
  · rw [show k_read (k_sh 38 (I, J)) t x = _ from if_pos hg]
    obtain ⟨i, hi, rfl⟩ : ∃ i, i < kn (k_sh 38 (I, J)) ∧ t = nI i := k_ix (by rw [← hn]; exact hg.1) (by omega)
    rw [show (nI i).toNatClampNeg = i from nI_clamp (by omega)]
    have hl := k_lw_l (k_wf_l hw)
    have hc := k_lw_c (k_wf_l hw)
    rcases (show i = 0 ∨ i = 1 ∨ i = 2 ∨ i = 3 by omega) with rfl | rfl | rfl | rfl
    · exact t38_rd0 I J x hg.2 hg.1 (kp (k_sh 38 (I, J)) 0) (k_pw_p (k_wf_p hw) (j := 0) (by decide)).1 (k_pw_p (k_wf_p hw) (j := 0) (by decide)).2 _ _ hl.1 hl.2 hc.1 hc.2
    · exact t38_rd1 I J x hg.2 hg.1 (kp (k_sh 38 (I, J)) 1) (k_pw_p (k_wf_p hw) (j := 1) (by decide)).1 (k_pw_p (k_wf_p hw) (j := 1) (by decide)).2 _ _ hl.1 hl.2 hc.1 hc.2
    · exact t38_rd2 I J x hg.2 hg.1 (kp (k_sh 38 (I, J)) 2) (k_pw_p (k_wf_p hw) (j := 2) (by decide)).1 (k_pw_p (k_wf_p hw) (j := 2) (by decide)).2 _ _ hl.1 hl.2 hc.1 hc.2
    · exact t38_rd3 I J x hg.2 hg.1 (kp (k_sh 38 (I, J)) 3) (k_pw_p (k_wf_p hw) (j := 3) (by decide)).1 (k_pw_p (k_wf_p hw) (j := 3) (by decide)).2 _ _ hl.1 hl.2 hc.1 hc.2
  rw [show k_read (k_sh 38 (I, J)) t x = _ from if_neg hg]
  refine c_run 3 (pc' := 5) (ls' := [(0, .ref 38), (1, .int t), (2, .int x)]) (st' := [.int t, .ref 39]) (μ' := (I, J)) (Nat.le_of_ble_eq_true rfl) rfl ?_
  refine c_cv 80 [.int t] (b := 39) (r := []) (Nat.le_of_ble_eq_true rfl) rfl rfl rfl rfl rfl rfl (t38_hasT I J t) ?_
  rintro _ _ ⟨rfl, rfl⟩
  show m_W 62 8 [(0, .ref 38), (1, .int t), (2, .int x)] [.int (s01 (k_hasT (k_sh 38 (I, J)) t))] (I, J) _
  refine c_ifeq 22 (Nat.le_of_ble_eq_true rfl) rfl rfl (fun h1 => ?_) (fun h1 => ?_)
  · replace h1 := s01_0.mp h1
    refine c_run 1 (pc' := 23) (ls' := [(0, .ref 38), (1, .int t), (2, .int x)]) (st' := [.int (-1)]) (μ' := (I, J)) (Nat.le_of_ble_eq_true rfl) rfl ?_
    refine c_ret (Nat.le_of_ble_eq_true rfl) rfl rfl ⟨by decide, rfl⟩ ?_
    refine ⟨?_, ?_, ?_⟩
    · exact rfl
    · skip
      all_goals rfl
    · exact (m_fr.rf)
  · replace h1 := s01_1.mp h1
    refine c_run 3 (pc' := 16) (ls' := [(0, .ref 38), (1, .int t), (2, .int x)]) (st' := [.int 10000, .int 0, .int x]) (μ' := (I, J)) (Nat.le_of_ble_eq_true rfl) rfl ?_
    refine c_cs 35 [.int x, .int 0, .int 10000] (r := []) (Nat.le_of_ble_eq_true rfl) rfl (Or.inr ⟨rfl, rfl⟩) rfl rfl rfl (t_isWithin I J x 0 10000) ?_
    rintro _ _ ⟨rfl, rfl⟩
    show m_W 62 19 [(0, .ref 38), (1, .int t), (2, .int x)] [.int (s01 ((0 : Int32) ≤ x ∧ x ≤ (10000 : Int32)))] (I, J) _
    refine c_ifne 24 (Nat.le_of_ble_eq_true rfl) rfl rfl (fun h2 => absurd (show k_hasT (k_sh 38 (I, J)) t ∧ (0 ≤ x ∧ x ≤ 10000) from ⟨by assumption, s01_1.mp h2⟩) hg) (fun h2 => ?_)
    refine c_run 1 (pc' := 23) (ls' := [(0, .ref 38), (1, .int t), (2, .int x)]) (st' := [.int (-1)]) (μ' := (I, J)) (Nat.le_of_ble_eq_true rfl) rfl ?_
    refine c_ret (Nat.le_of_ble_eq_true rfl) rfl rfl ⟨by decide, rfl⟩ ?_
    refine ⟨?_, ?_, ?_⟩
    · exact rfl
    · skip
      all_goals rfl
    · exact (m_fr.rf)

set_option maxRecDepth 100000 in
theorem t38_bfor (I : Nat → Nat → Int32) (J : Nat → Nat → Int64) (e x : Int32) (hw : k_wf (k_sh 38 (I, J))) : m_W 56 0 (lv_args 0 [.ref 38, .int e, .int x]) [] (I, J) (k_E 38 (I, J) (some (.int (k_bfor (k_sh 38 (I, J)) e x).1)) (k_bfor (k_sh 38 (I, J)) e x).2) := by
  show m_W 56 0 [(0, .ref 38), (1, .int e), (2, .int x)] [] (I, J) _
  refine c_run 2 (pc' := 2) (ls' := [(0, .ref 38), (1, .int e), (2, .int x)]) (st' := [.int x, .ref 38]) (μ' := (I, J)) (Nat.le_of_ble_eq_true rfl) rfl ?_
  refine c_cv 57 [.int x] (b := 38) (r := []) (Nat.le_of_ble_eq_true rfl) rfl rfl rfl rfl rfl rfl (t38_chk I J x) ?_
  rintro _ _ ⟨rfl, rfl⟩
  show m_W 56 5 [(0, .ref 38), (1, .int e), (2, .int x)] [.int (k_chk (k_sh 38 (I, J)) x)] (I, J) _
  refine c_iflt 16 (Nat.le_of_ble_eq_true rfl) rfl rfl (fun h1 => ?_) (fun h1 => ?_)
  · skip
    refine c_run 1 (pc' := 17) (ls' := [(0, .ref 38), (1, .int e), (2, .int x)]) (st' := [.int 0]) (μ' := (I, J)) (Nat.le_of_ble_eq_true rfl) rfl ?_
    refine c_ret (Nat.le_of_ble_eq_true rfl) rfl rfl ⟨by decide, rfl⟩ ?_
    rw [show k_bfor (k_sh 38 (I, J)) e x = (0, (k_sh 38 (I, J))) from if_pos (by assumption)]
    exact ⟨rfl, rfl, m_fr.rf⟩
  · skip
    refine c_run 2 (pc' := 10) (ls' := [(0, .ref 38), (1, .int e), (2, .int x)]) (st' := [.int e, .ref 38]) (μ' := (I, J)) (Nat.le_of_ble_eq_true rfl) rfl ?_
    refine c_cv 54 [.int e] (b := 38) (r := []) (Nat.le_of_ble_eq_true rfl) rfl rfl rfl rfl rfl rfl (t38_begin I J e (km (k_sh 38 (I, J))) (k_wf_m hw).1 (k_wf_m hw).2) ?_
    rintro _ ⟨I1, J1⟩ ⟨rfl, hs1, hf1⟩
    show m_W 56 13 [(0, .ref 38), (1, .int e), (2, .int x)] [.int ((k_begin (k_sh 38 (I, J)) e).1)] (I1, J1) _
    refine c_ifge 18 (Nat.le_of_ble_eq_true rfl) rfl rfl (fun h2 => ?_) (fun h2 => ?_)
    · skip
      refine c_run 2 (pc' := 20) (ls' := [(0, .ref 38), (1, .int e), (2, .int x)]) (st' := [.int x, .ref 38]) (μ' := (I1, J1)) (Nat.le_of_ble_eq_true rfl) rfl ?_
      have hw1 : k_wf (k_sh 38 (I1, J1)) := by rw [hs1]; exact k_sc_wf hw k_begin_sc (k_begin_lw (k_wf_l hw))
      refine c_cv 58 [.int x] (b := 38) (r := []) (Nat.le_of_ble_eq_true rfl) rfl rfl rfl rfl rfl rfl (t38_pass I1 J1 x (km (k_sh 38 (I1, J1))) (k_wf_m hw1).1 (k_wf_m hw1).2 (kn (k_sh 38 (I1, J1))) (k_wf_n hw1).1 (k_wf_n hw1).2 (k_wf_l hw1)) ?_
      rintro _ ⟨I2, J2⟩ ⟨rfl, hs2, hf2⟩
      show m_W 56 23 [(0, .ref 38), (1, .int e), (2, .int x)] [.int ((k_pass (k_sh 38 (I1, J1)) (ke (k_sh 38 (I1, J1))) (kn (k_sh 38 (I1, J1))) x).1)] (I2, J2) _
      refine c_run 2 (pc' := 25) (ls' := [(0, .ref 38), (1, .int e), (2, .int x)]) (st' := [.ref 38]) (μ' := (I2, J2)) (Nat.le_of_ble_eq_true rfl) rfl ?_
      have hw2 : k_wf (k_sh 38 (I2, J2)) := by rw [hs2]; exact k_sc_wf hw1 k_pass_sc (k_pass_lw (k_wf_l hw1))
      refine c_cv 55 [] (b := 38) (r := []) (Nat.le_of_ble_eq_true rfl) rfl rfl rfl rfl rfl rfl (t38_end I2 J2 (km (k_sh 38 (I2, J2))) (k_wf_m hw2).1 (k_wf_m hw2).2 (kn (k_sh 38 (I2, J2))) (k_wf_n hw2).1 (k_wf_n hw2).2 (k_wf_l hw2)) ?_
      rintro _ ⟨I3, J3⟩ ⟨rfl, hs3, hf3⟩
      show m_W 56 28 [(0, .ref 38), (1, .int e), (2, .int x)] [.int ((k_end (k_sh 38 (I2, J2)) (ke (k_sh 38 (I2, J2))) (kn (k_sh 38 (I2, J2))) (kl (k_sh 38 (I2, J2))) (kc (k_sh 38 (I2, J2)))).1)] (I3, J3) _
      refine c_run 2 (pc' := 30) (ls' := [(0, .ref 38), (1, .int e), (2, .int x)]) (st' := [.int 1]) (μ' := (I3, J3)) (Nat.le_of_ble_eq_true rfl) rfl ?_
      refine c_ret (Nat.le_of_ble_eq_true rfl) rfl rfl ⟨by decide, rfl⟩ ?_
      rw [show k_bfor (k_sh 38 (I, J)) e x = (1, (k_endx (k_passx (k_begin (k_sh 38 (I, J)) e).2 x).2).2) from by unfold k_bfor; rw [if_neg h1, if_pos h2]]
      refine ⟨rfl, ?_, (hf1.tr hf2).tr hf3⟩
      rw [hs3, hs2, hs1]
      rfl
    · skip
      refine c_run 1 (pc' := 17) (ls' := [(0, .ref 38), (1, .int e), (2, .int x)]) (st' := [.int 0]) (μ' := (I1, J1)) (Nat.le_of_ble_eq_true rfl) rfl ?_
      refine c_ret (Nat.le_of_ble_eq_true rfl) rfl rfl ⟨by decide, rfl⟩ ?_
      rw [show k_bfor (k_sh 38 (I, J)) e x = (0, (k_begin (k_sh 38 (I, J)) e).2) from by unfold k_bfor; rw [if_neg h1, if_neg h2]]
      exact ⟨rfl, hs1, hf1⟩

set_option maxRecDepth 100000 in
theorem t_read (I : Nat → Nat → Int32) (J : Nat → Nat → Int64) (t x : Int32) (hw : k_wf (k_sh 1 (I, J))) : m_W 21 0 (lv_args 0 [.ref 0, .int t, .int x]) [] (I, J) (k_E 1 (I, J) (some (.int (k_read (k_sh 1 (I, J)) t x).1)) (k_read (k_sh 1 (I, J)) t x).2) := by
  show m_W 21 0 [(0, .ref 0), (1, .int t), (2, .int x)] [] (I, J) _
  refine c_run 4 (pc' := 6) (ls' := [(0, .ref 0), (1, .int t), (2, .int x)]) (st' := [.int x, .int t, .ref 1]) (μ' := (I, J)) (Nat.le_of_ble_eq_true rfl) rfl ?_
  refine c_cv 62 [.int t, .int x] (b := 1) (r := []) (Nat.le_of_ble_eq_true rfl) rfl rfl rfl rfl rfl rfl (t1_read I J t x hw) ?_
  rintro _ ⟨I1, J1⟩ ⟨rfl, hs1, hf1⟩
  show m_W 21 9 [(0, .ref 0), (1, .int t), (2, .int x)] [.int ((k_read (k_sh 1 (I, J)) t x).1)] (I1, J1) _
  refine c_ret (Nat.le_of_ble_eq_true rfl) rfl rfl ⟨by decide, rfl⟩ ?_
  refine ⟨?_, ?_, ?_⟩
  · exact rfl
  · rw [hs1]
    all_goals rfl
  · exact ((m_fr.rf).tr hf1)

