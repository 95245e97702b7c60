/-! THE END OF A BURN, TIME -/
abbrev kn (κ : k_M) : Nat := (κ.1 1 0).toNatClampNeg
abbrev ke (κ : k_M) : Nat := (κ.1 0 7).toNatClampNeg
abbrev kl (κ : k_M) : Nat := (κ.1 30 1).toNatClampNeg
abbrev kc (κ : k_M) : Nat := (κ.1 30 0).toNatClampNeg
def k_dv (κ : k_M) (e t : Nat) : Int64 := κ.2 35 t * (κ.1 26 e).toInt64 / 1000
def k_gr (κ : k_M) (e t : Nat) : Int64 := k_cap (κ.2 8 t + k_dv κ e t * k_dv κ e t)
def k_ev (κ : k_M) (e i : Nat) : k_M := (κ.1, m_cj κ.2 8 (k_g (k_gr κ e) (κ.2 8) i))
def k_bsum (κ : k_M) : Nat → Int64
  | 0 => 0
  | t + 1 => k_bsum κ t + κ.2 35 t
theorem k_ev_0 (κ : k_M) (e : Nat) : k_ev κ e 0 = κ := by
  unfold k_ev
  rw [m_cj0 k_g_0]
theorem k_ev_s (κ : k_M) (e i : Nat) : k_grow (k_ev κ e i) i (k_dv κ e i) = k_ev κ e (i + 1) := by
  refine Prod.ext rfl ?_
  exact m_cjs (by rw [k_g_s]; show k_cap _ = k_cap (m_cj κ.2 8 (k_g (k_gr κ e) (κ.2 8) i) 8 i + _); rw [m_cj_s, k_g_i]) k_g_n
def k_end2 (κ : k_M) (e n l c : Nat) : k_M := (m_ui (m_ui (k_app (k_ev κ e n) l c (κ.1 0 3) 1 (-1) (k_bsum κ n)).1 0 7 (-1)) 0 8 0, (k_app (k_ev κ e n) l c (κ.1 0 3) 1 (-1) (k_bsum κ n)).2)
def k_end (κ : k_M) (e n l c : Nat) : Int32 × k_M := if k_isB κ then (k_len κ, k_end2 κ e n l c) else (-2, κ)
/-- one step of a burn -/
def k_stp (κ : k_M) (e n : Nat) : k_M := (m_ui (k_book (k_del (k_leak κ n 1) e n (kl κ) (kc κ)) e n).1 0 3 ((k_book (k_del (k_leak κ n 1) e n (kl κ) (kc κ)) e n).1 0 3 + 1), (k_book (k_del (k_leak κ n 1) e n (kl κ) (kc κ)) e n).2)
def k_its (κ : k_M) (e n : Nat) : Nat → k_M
  | 0 => κ
  | i + 1 => k_stp (k_its κ e n i) e n
def k_pass (κ : k_M) (e n : Nat) (ms : Int32) : Int32 × k_M := if 0 ≤ k_chk κ ms then (if k_isB κ then ((k_its κ e n ms.toNatClampNeg).1 0 3, k_its κ e n ms.toNatClampNeg) else (κ.1 0 3 + ms, (m_ui κ.1 0 3 (κ.1 0 3 + ms), (k_leak κ n ms).2))) else (k_chk κ ms, κ)
def k_lw (κ : k_M) : Prop := (∃ l, l < 24 ∧ κ.1 30 1 = nI l) ∧ ∃ c, c ≤ 24 ∧ κ.1 30 0 = nI c
theorem k_lw_l {κ : k_M} (h : k_lw κ) : κ.1 30 1 = nI (kl κ) ∧ kl κ < 24 := by
  obtain ⟨⟨l, h1, h2⟩, -⟩ := h
  have : kl κ = l := by show (κ.1 30 1).toNatClampNeg = l; rw [h2]; exact nI_clamp (by omega)
  rw [this]; exact ⟨h2, h1⟩
theorem k_lw_c {κ : k_M} (h : k_lw κ) : κ.1 30 0 = nI (kc κ) ∧ kc κ ≤ 24 := by
  obtain ⟨-, ⟨c, h1, h2⟩⟩ := h
  have : kc κ = c := by show (κ.1 30 0).toNatClampNeg = c; rw [h2]; exact nI_clamp (by omega)
  rw [this]; exact ⟨h2, h1⟩
theorem k_app_o {κ : k_M} {l c : Nat} {w kd t : Int32} {a : Int64} {x j : Nat} (h : x < 30 ∨ 33 < x) : (k_app κ l c w kd t a).1 x j = κ.1 x j := by
  unfold k_app
  dsimp only
  rw [m_ui_o (by omega), m_ui_o (by omega), m_ui_o (by omega), m_ui_o (by omega), m_ui_o (by omega)]
theorem k_app_lw {κ : k_M} {l c : Nat} {w kd t : Int32} {a : Int64} : k_lw (k_app κ l c w kd t a) := by
  refine ⟨⟨(l + 1) % 24, by omega, ?_⟩, ⟨min 24 (c + 1), by omega, ?_⟩⟩
  · unfold k_app; simp [m_ui]
  · unfold k_app; simp [m_ui]
/-- what a delivery does to the ints: only the ledger and 'starved' -/
theorem k_del_o {κ : k_M} {e n l c x j : Nat} (h : x < 30 ∨ 33 < x) (h2 : x ≠ 0 ∨ j ≠ 8) : (k_del κ e n l c).1 x j = κ.1 x j := by
  unfold k_del k_del2
  split
  · split
    · rw [k_app_o h]
      show m_ui (k_div κ e n 5).1 0 8 1 x j = _
      unfold m_ui
      split
      · next hx => rw [if_neg (by omega)]; subst hx; rfl
      · rfl
    · rfl
  · rfl
theorem k_del_lw {κ : k_M} {e n l c : Nat} (h : k_lw κ) : k_lw (k_del κ e n l c) := by
  unfold k_del k_del2
  split
  · split
    · exact k_app_lw
    · exact h
  · exact h
theorem k_stp_o {κ : k_M} {e n x j : Nat} (h : x < 30 ∨ 33 < x) (h2 : x ≠ 0 ∨ (j ≠ 8 ∧ j ≠ 3)) : (k_stp κ e n).1 x j = κ.1 x j := by
  unfold k_stp
  dsimp only
  unfold m_ui
  have e1 : (k_book (k_del (k_leak κ n 1) e n (kl κ) (kc κ)) e n).1 x j = κ.1 x j := k_del_o (κ := k_leak κ n 1) h (by omega)
  split
  · next hx => rw [if_neg (by omega)]; exact e1
  · exact e1
theorem k_stp_lw {κ : k_M} {e n : Nat} (h : k_lw κ) : k_lw (k_stp κ e n) := by
  have h1 : k_lw (k_del (k_leak κ n 1) e n (kl κ) (kc κ)) := k_del_lw h
  exact h1
theorem k_its_o {κ : k_M} {e n i x j : Nat} (h : x < 30 ∨ 33 < x) (h2 : x ≠ 0 ∨ (j ≠ 8 ∧ j ≠ 3)) : (k_its κ e n i).1 x j = κ.1 x j := by
  induction i with
  | zero => rfl
  | succ i ih => rw [k_its, k_stp_o h h2, ih]
theorem k_its_lw {κ : k_M} {e n i : Nat} (h : k_lw κ) : k_lw (k_its κ e n i) := by
  induction i with
  | zero => exact h
  | succ i ih => exact k_stp_lw ih

set_option maxRecDepth 100000 in
theorem t1_end_l (μ0 : m_M) (κ : k_M) (n : Nat) (hn : κ.1 1 0 = nI n) (hn4 : n ≤ 4) (e : Nat) (he : e < 6) (hbe : κ.1 0 7 = nI e) (l c : Nat) (hl : κ.1 30 1 = nI l) (hl2 : l < 24) (hc : κ.1 30 0 = nI c) (hc2 : c ≤ 24) (v : Int32) : ∀ (r i : Nat), i + r = n → ∀ (I : Nat → Nat → Int32) (J : Nat → Nat → Int64), k_sh 1 (I, J) = k_ev κ e i → m_fr 1 μ0 (I, J) → m_W 55 20 [(0, .ref 1), (1, .int v), (2, .long (k_bsum κ i)), (4, .int (nI i))] [] (I, J) (k_E 1 μ0 (some (.int v)) (k_end2 κ e n l c)) := by
  intro r
  induction r with
  | zero =>
    intro i hir I J hs0 hf0
    have hin : n = i := by omega
    subst hin
    have hn1 : (k_sh 1 (I, J)).1 1 0 = nI n := by rw [hs0]; exact hn
    have hb1 : (k_sh 1 (I, J)).1 0 7 = nI e := by rw [hs0]; exact hbe
    refine c_run 4 (pc' := 29) (ls' := [(0, .ref 1), (1, .int v), (2, .long (k_bsum κ n)), (4, .int (nI n))]) (st' := [.int ((k_sh 1 (I, J)).1 1 0), .int (nI n)]) (μ' := (I, J)) (Nat.le_of_ble_eq_true rfl) rfl ?_
    refine c_icge 82 (Nat.le_of_ble_eq_true rfl) rfl rfl (fun h1 => ?_) (fun h1 => absurd (by rw [hn1]; exact nI_le (by omega) (by omega)) h1)
    refine c_run 7 (pc' := 93) (ls' := [(0, .ref 1), (1, .int v), (2, .long (k_bsum κ n)), (4, .int (nI n))]) (st' := [.long (k_bsum κ n), .int (-1), .int 1, .int ((k_sh 1 (I, J)).1 0 3), .ref 31]) (μ' := (I, J)) (Nat.le_of_ble_eq_true rfl) rfl ?_
    refine c_cv 72 [.int ((k_sh 1 (I, J)).1 0 3), .int 1, .int (-1), .long (k_bsum κ n)] (b := 31) (r := []) (Nat.le_of_ble_eq_true rfl) rfl rfl rfl rfl rfl rfl (t1_app I J l c ((k_sh 1 (I, J)).1 0 3) 1 (-1) (k_bsum κ n) (by rw [hs0]; exact hl) hl2 (by rw [hs0]; exact hc) hc2) ?_
    rintro _ ⟨I1, J1⟩ ⟨rfl, hs1, hf1⟩
    show m_W 55 96 [(0, .ref 1), (1, .int v), (2, .long (k_bsum κ n)), (4, .int (nI n))] [] (I1, J1) _
    refine c_run 5 (pc' := 103) (ls' := [(0, .ref 1), (1, .int v), (2, .long (k_bsum κ n)), (4, .int (nI n))]) (st' := [.int 0, .ref 1]) (μ' := ((m_ui I1 1 7 (-1)), J1)) (Nat.le_of_ble_eq_true rfl) rfl ?_
    refine c_putz (ci := 1) (kf := 8) (Nat.le_of_ble_eq_true rfl) rfl rfl rfl rfl (Or.inl rfl) ?_
    refine c_run 1 (pc' := 107) (ls' := [(0, .ref 1), (1, .int v), (2, .long (k_bsum κ n)), (4, .int (nI n))]) (st' := [.int v]) (μ' := ((m_ui (m_ui I1 1 7 (-1)) 1 8 0), J1)) (Nat.le_of_ble_eq_true rfl) rfl ?_
    refine c_ret (Nat.le_of_ble_eq_true rfl) rfl rfl ⟨by decide, rfl⟩ ?_
    refine ⟨?_, ?_, ?_⟩
    · exact rfl
    · rw [k_ui 0 rfl rfl, k_ui 0 rfl rfl, hs1, hs0]
      all_goals rfl
    · exact ((((hf0).tr hf1).ui rfl rfl).ui rfl rfl)
  | succ r ih =>
    intro i hir I J hs0 hf0
    have hn1 : (k_sh 1 (I, J)).1 1 0 = nI n := by rw [hs0]; exact hn
    have hb1 : (k_sh 1 (I, J)).1 0 7 = nI e := by rw [hs0]; exact hbe
    refine c_run 4 (pc' := 29) (ls' := [(0, .ref 1), (1, .int v), (2, .long (k_bsum κ i)), (4, .int (nI i))]) (st' := [.int ((k_sh 1 (I, J)).1 1 0), .int (nI i)]) (μ' := (I, J)) (Nat.le_of_ble_eq_true rfl) rfl ?_
    refine c_icge 82 (Nat.le_of_ble_eq_true rfl) rfl rfl (fun h1 => absurd h1 (by rw [hn1]; exact nI_ge (by omega) (by omega))) (fun h1 => ?_)
    refine c_run 6 (pc' := 44) (ls' := [(0, .ref 1), (1, .int v), (2, .long (k_bsum κ i)), (4, .int (nI i))]) (st' := [.int (nI i), .ref 36, .int (nI i), .ref 2]) (μ' := (I, J)) (Nat.le_of_ble_eq_true rfl) rfl ?_
    refine c_lal i 4 (Nat.le_of_ble_eq_true rfl) rfl rfl rfl rfl rfl (by omega) ?_
    show m_W 55 45 [(0, .ref 1), (1, .int v), (2, .long (k_bsum κ i)), (4, .int (nI i))] [.long ((k_sh 1 (I, J)).2 35 i), .int (nI i), .ref 2] (I, J) _
    refine c_run 5 (pc' := 56) (ls' := [(0, .ref 1), (1, .int v), (2, .long (k_bsum κ i)), (4, .int (nI i))]) (st' := [.int ((k_sh 1 (I, J)).1 0 7), .ref 27, .long ((k_sh 1 (I, J)).2 35 i), .int (nI i), .ref 2]) (μ' := (I, J)) (Nat.le_of_ble_eq_true rfl) rfl ?_
    refine c_ial e 6 (Nat.le_of_ble_eq_true rfl) rfl rfl rfl rfl hb1 he ?_
    show m_W 55 57 [(0, .ref 1), (1, .int v), (2, .long (k_bsum κ i)), (4, .int (nI i))] [.int ((k_sh 1 (I, J)).1 26 e), .long ((k_sh 1 (I, J)).2 35 i), .int (nI i), .ref 2] (I, J) _
    refine c_run 3 (pc' := 62) (ls' := [(0, .ref 1), (1, .int v), (2, .long (k_bsum κ i)), (4, .int (nI i))]) (st' := [.long 1000, .long (((k_sh 1 (I, J)).2 35 i) * ((((k_sh 1 (I, J)).1 26 e) : Int32).toInt64)), .int (nI i), .ref 2]) (μ' := (I, J)) (Nat.le_of_ble_eq_true rfl) rfl ?_
    refine c_ldiv (Nat.le_of_ble_eq_true rfl) rfl (by decide) ?_
    refine c_cv 85 [.int (nI i), .long ((((k_sh 1 (I, J)).2 35 i) * ((((k_sh 1 (I, J)).1 26 e) : Int32).toInt64)) / 1000)] (b := 2) (r := []) (Nat.le_of_ble_eq_true rfl) rfl rfl rfl rfl rfl rfl (t1_grow I J i (by omega) ((((k_sh 1 (I, J)).2 35 i) * ((((k_sh 1 (I, J)).1 26 e) : Int32).toInt64)) / 1000)) ?_
    rintro _ ⟨I1, J1⟩ ⟨rfl, hs1, hf1⟩
    show m_W 55 66 [(0, .ref 1), (1, .int v), (2, .long (k_bsum κ i)), (4, .int (nI i))] [] (I1, J1) _
    refine c_run 4 (pc' := 73) (ls' := [(0, .ref 1), (1, .int v), (2, .long (k_bsum κ i)), (4, .int (nI i))]) (st' := [.int (nI i), .ref 36, .long (k_bsum κ i)]) (μ' := (I1, J1)) (Nat.le_of_ble_eq_true rfl) rfl ?_
    refine c_lal i 4 (Nat.le_of_ble_eq_true rfl) rfl rfl rfl rfl rfl (by omega) ?_
    show m_W 55 74 [(0, .ref 1), (1, .int v), (2, .long (k_bsum κ i)), (4, .int (nI i))] [.long ((k_sh 1 (I1, J1)).2 35 i), .long (k_bsum κ i)] (I1, J1) _
    refine c_run 4 (pc' := 20) (ls' := [(4, .int ((nI i) + (1 : Int32))), (2, .long ((k_bsum κ i) + ((k_sh 1 (I1, J1)).2 35 i))), (0, .ref 1), (1, .int v)]) (st' := []) (μ' := (I1, J1)) (Nat.le_of_ble_eq_true rfl) rfl ?_
    refine c_w [2, 3, 1, 0] (ls' := [(0, .ref 1), (1, .int v), (2, .long ((k_bsum κ i) + ((k_sh 1 (I1, J1)).2 35 i))), (4, .int ((nI i) + (1 : Int32)))]) rfl ?_
    rw [nI_1 i, show (k_sh 1 (I1, J1)).2 35 i = κ.2 35 i from by rw [hs1, hs0]; rfl]
    exact ih (i + 1) (by omega) I1 J1 (by rw [hs1, hs0]; exact k_ev_s κ e i) (hf0.tr hf1)

set_option maxRecDepth 100000 in
theorem t1_end (I : Nat → Nat → Int32) (J : Nat → Nat → Int64)  (m : Nat) (hm : (k_sh 1 (I, J)).1 23 0 = nI m) (hm6 : m ≤ 6) (n : Nat) (hn : (k_sh 1 (I, J)).1 1 0 = nI n) (hn4 : n ≤ 4) (hw : k_lw (k_sh 1 (I, J))) : m_W 55 0 (lv_args 0 [.ref 1]) [] (I, J) (k_E 1 (I, J) (some (.int (k_end (k_sh 1 (I, J)) (ke (k_sh 1 (I, J))) n (kl (k_sh 1 (I, J))) (kc (k_sh 1 (I, J)))).1)) (k_end (k_sh 1 (I, J)) (ke (k_sh 1 (I, J))) n (kl (k_sh 1 (I, J))) (kc (k_sh 1 (I, J)))).2) := by
  show m_W 55 0 [(0, .ref 1)] [] (I, J) _
  refine c_run 1 (pc' := 1) (ls' := [(0, .ref 1)]) (st' := [.ref 1]) (μ' := (I, J)) (Nat.le_of_ble_eq_true rfl) rfl ?_
  refine c_cv 49 [] (b := 1) (r := []) (Nat.le_of_ble_eq_true rfl) rfl rfl rfl rfl rfl rfl (t1_isB I J) ?_
  rintro _ _ ⟨rfl, rfl⟩
  show m_W 55 4 [(0, .ref 1)] [.int (s01 (k_isB (k_sh 1 (I, J))))] (I, J) _
  refine c_ifne 10 (Nat.le_of_ble_eq_true rfl) rfl rfl (fun h1 => ?_) (fun h1 => ?_)
  · replace h1 := s01_1.mp h1
    refine c_run 1 (pc' := 11) (ls' := [(0, .ref 1)]) (st' := [.ref 1]) (μ' := (I, J)) (Nat.le_of_ble_eq_true rfl) rfl ?_
    refine c_cv 50 [] (b := 1) (r := []) (Nat.le_of_ble_eq_true rfl) rfl rfl rfl rfl rfl rfl (t1_len I J) ?_
    rintro _ _ ⟨rfl, rfl⟩
    show m_W 55 14 [(0, .ref 1)] [.int (k_len (k_sh 1 (I, J)))] (I, J) _
    refine c_run 5 (pc' := 20) (ls' := [(4, .int 0), (2, .long 0), (1, .int (k_len (k_sh 1 (I, J)))), (0, .ref 1)]) (st' := []) (μ' := (I, J)) (Nat.le_of_ble_eq_true rfl) rfl ?_
    refine c_w [3, 2, 1, 0] (ls' := [(0, .ref 1), (1, .int (k_len (k_sh 1 (I, J)))), (2, .long 0), (4, .int 0)]) rfl ?_
    obtain ⟨e, he, hbe⟩ : ∃ e, e < m ∧ (k_sh 1 (I, J)).1 0 7 = nI e := k_ix (by rw [← hm]; assumption) (by omega)
    have hke : ke (k_sh 1 (I, J)) = e := by show ((k_sh 1 (I, J)).1 0 7).toNatClampNeg = e; rw [hbe]; exact nI_clamp (by omega)
    have h := t1_end_l (I, J) (k_sh 1 (I, J)) n hn hn4 e (by omega) hbe (kl (k_sh 1 (I, J))) (kc (k_sh 1 (I, J))) (k_lw_l hw).1 (k_lw_l hw).2 (k_lw_c hw).1 (k_lw_c hw).2 (k_len (k_sh 1 (I, J))) n 0 (by omega) I J (k_ev_0 _ _).symm m_fr.rf
    rw [hke, show k_end (k_sh 1 (I, J)) e n (kl (k_sh 1 (I, J))) (kc (k_sh 1 (I, J))) = (k_len (k_sh 1 (I, J)), k_end2 (k_sh 1 (I, J)) e n (kl (k_sh 1 (I, J))) (kc (k_sh 1 (I, J)))) from if_pos (by assumption)]
    exact h
  · replace h1 := s01_0.mp h1
    refine c_run 1 (pc' := 9) (ls' := [(0, .ref 1)]) (st' := [.int (-2)]) (μ' := (I, J)) (Nat.le_of_ble_eq_true rfl) rfl ?_
    refine c_ret (Nat.le_of_ble_eq_true rfl) rfl rfl ⟨by decide, rfl⟩ ?_
    refine ⟨?_, ?_, ?_⟩
    · first | rfl | (simp only [k_end, if_neg h1]; done) | (simp only [k_end, if_neg h1]; rfl)
    · skip
      first | rfl | (simp only [k_end, if_neg h1]; done) | (simp only [k_end, if_neg h1]; rfl)
    · exact (m_fr.rf)

set_option maxRecDepth 100000 in
theorem t1_pass_l (μ0 : m_M) (κ : k_M) (n : Nat) (hn : κ.1 1 0 = nI n) (hn4 : n ≤ 4) (e : Nat) (he : e < 6) (hbe : κ.1 0 7 = nI e) (hw : k_lw κ) (ms : Nat) (hms : ms ≤ 2000) : ∀ (r i : Nat), i + r = ms → ∀ (I : Nat → Nat → Int32) (J : Nat → Nat → Int64), k_sh 1 (I, J) = k_its κ e n i → m_fr 1 μ0 (I, J) → m_W 58 44 [(0, .ref 1), (1, .int (nI ms)), (3, .int (nI i))] [] (I, J) (k_E 1 μ0 (some (.int ((k_its κ e n ms).1 0 3))) (k_its κ e n ms)) := by
  intro r
  induction r with
  | zero =>
    intro i hir I J hs0 hf0
    have hin : ms = i := by omega
    subst hin
    refine c_run 2 (pc' := 46) (ls' := [(0, .ref 1), (1, .int (nI ms)), (3, .int (nI ms))]) (st' := [.int (nI ms), .int (nI ms)]) (μ' := (I, J)) (Nat.le_of_ble_eq_true rfl) rfl ?_
    refine c_icge 89 (Nat.le_of_ble_eq_true rfl) rfl rfl (fun h1 => ?_) (fun h1 => absurd (nI_le (by omega) (by omega)) h1)
    refine c_run 2 (pc' := 93) (ls' := [(0, .ref 1), (1, .int (nI ms)), (3, .int (nI ms))]) (st' := [.int ((k_sh 1 (I, J)).1 0 3)]) (μ' := (I, J)) (Nat.le_of_ble_eq_true rfl) rfl ?_
    refine c_ret (Nat.le_of_ble_eq_true rfl) rfl rfl ⟨by decide, rfl⟩ ?_
    refine ⟨?_, ?_, ?_⟩
    · rw [hs0]
    · rw [hs0]
      all_goals rfl
    · exact (hf0)
  | succ r ih =>
    intro i hir I J hs0 hf0
    have hn1 : (k_sh 1 (I, J)).1 1 0 = nI n := by rw [hs0, k_its_o (by omega) (by omega)]; exact hn
    have hw1 : k_lw (k_its κ e n i) := k_its_lw hw
    have hl1 : (k_sh 1 (I, J)).1 30 1 = nI (kl (k_sh 1 (I, J))) ∧ kl (k_sh 1 (I, J)) < 24 := k_lw_l (by rw [hs0]; exact hw1)
    have hc1 : (k_sh 1 (I, J)).1 30 0 = nI (kc (k_sh 1 (I, J))) ∧ kc (k_sh 1 (I, J)) ≤ 24 := k_lw_c (by rw [hs0]; exact hw1)
    have hb1 : (k_sh 1 (I, J)).1 0 7 = nI e := by rw [hs0, k_its_o (by omega) (by omega)]; exact hbe
    refine c_run 2 (pc' := 46) (ls' := [(0, .ref 1), (1, .int (nI ms)), (3, .int (nI i))]) (st' := [.int (nI ms), .int (nI i)]) (μ' := (I, J)) (Nat.le_of_ble_eq_true rfl) rfl ?_
    refine c_icge 89 (Nat.le_of_ble_eq_true rfl) rfl rfl (fun h1 => absurd h1 (nI_ge (by omega) (by omega))) (fun h1 => ?_)
    refine c_run 3 (pc' := 54) (ls' := [(0, .ref 1), (1, .int (nI ms)), (3, .int (nI i))]) (st' := [.int 1, .ref 2]) (μ' := (I, J)) (Nat.le_of_ble_eq_true rfl) rfl ?_
    refine c_cv 84 [.int 1] (b := 2) (r := []) (Nat.le_of_ble_eq_true rfl) rfl rfl rfl rfl rfl rfl (t1_leak I J (1 : Int32) n hn1 hn4) ?_
    rintro _ ⟨I1, J1⟩ ⟨rfl, hs1, hf1⟩
    show m_W 58 57 [(0, .ref 1), (1, .int (nI ms)), (3, .int (nI i))] [] (I1, J1) _
    refine c_run 3 (pc' := 62) (ls' := [(0, .ref 1), (1, .int (nI ms)), (3, .int (nI i))]) (st' := [.int ((k_sh 1 (I1, J1)).1 0 7), .ref 1]) (μ' := (I1, J1)) (Nat.le_of_ble_eq_true rfl) rfl ?_
    rw [show (k_sh 1 (I1, J1)).1 0 7 = nI e from by rw [hs1]; exact hb1]
    refine c_cv 59 [.int (nI e)] (b := 1) (r := []) (Nat.le_of_ble_eq_true rfl) rfl rfl rfl rfl rfl rfl (t1_del I1 J1 n (by rw [hs1]; exact hn1) hn4 e he (kl (k_sh 1 (I, J))) (kc (k_sh 1 (I, J))) (by rw [hs1]; exact hl1.1) hl1.2 (by rw [hs1]; exact hc1.1) hc1.2) ?_
    rintro _ ⟨I2, J2⟩ ⟨rfl, hs2, hf2⟩
    show m_W 58 65 [(0, .ref 1), (1, .int (nI ms)), (3, .int (nI i))] [] (I2, J2) _
    refine c_run 3 (pc' := 70) (ls' := [(0, .ref 1), (1, .int (nI ms)), (3, .int (nI i))]) (st' := [.int ((k_sh 1 (I2, J2)).1 0 7), .ref 1]) (μ' := (I2, J2)) (Nat.le_of_ble_eq_true rfl) rfl ?_
    rw [show (k_sh 1 (I2, J2)).1 0 7 = nI e from by rw [hs2, k_del_o (by omega) (by omega), hs1]; exact hb1]
    refine c_cv 60 [.int (nI e)] (b := 1) (r := []) (Nat.le_of_ble_eq_true rfl) rfl rfl rfl rfl rfl rfl (t1_book I2 J2 n (by rw [hs2, k_del_o (by omega) (by omega), hs1]; exact hn1) hn4 e he) ?_
    rintro _ ⟨I3, J3⟩ ⟨rfl, hs3, hf3⟩
    show m_W 58 73 [(0, .ref 1), (1, .int (nI ms)), (3, .int (nI i))] [] (I3, J3) _
    refine c_run 8 (pc' := 44) (ls' := [(3, .int ((nI i) + (1 : Int32))), (0, .ref 1), (1, .int (nI ms))]) (st' := []) (μ' := ((m_ui I3 1 3 (((k_sh 1 (I3, J3)).1 0 3) + (1 : Int32))), J3)) (Nat.le_of_ble_eq_true rfl) rfl ?_
    refine c_w [1, 2, 0] (ls' := [(0, .ref 1), (1, .int (nI ms)), (3, .int ((nI i) + (1 : Int32)))]) rfl ?_
    rw [nI_1 i]
    exact ih (i + 1) (by omega) _ _ (by rw [k_ui 0 rfl rfl, hs3, hs2, hs1, hs0]; rfl) (((((hf0).tr hf1).tr hf2).tr hf3).ui rfl rfl)

theorem k_chk_ms {κ : k_M} {x : Int32} (h : 0 ≤ k_chk κ x) : ∃ y, y ≤ 2000 ∧ x = nI y := by
  unfold k_chk at h
  split at h
  next h1 =>
    obtain ⟨a, b⟩ := h1
    exact nI_of2 (M := 2000) rfl (Int32.not_lt.mpr (Int32.le_trans (by decide) a)) b
  next => exact absurd h (by decide)
set_option maxRecDepth 100000 in
theorem t1_pass (I : Nat → Nat → Int32) (J : Nat → Nat → Int64) (x : Int32) (m : Nat) (hm : (k_sh 1 (I, J)).1 23 0 = nI m) (hm6 : m ≤ 6) (n : Nat) (hn : (k_sh 1 (I, J)).1 1 0 = nI n) (hn4 : n ≤ 4) (hw : k_lw (k_sh 1 (I, J))) : m_W 58 0 (lv_args 0 [.ref 1, .int x]) [] (I, J) (k_E 1 (I, J) (some (.int (k_pass (k_sh 1 (I, J)) (ke (k_sh 1 (I, J))) n x).1)) (k_pass (k_sh 1 (I, J)) (ke (k_sh 1 (I, J))) n x).2) := by
  show m_W 58 0 [(0, .ref 1), (1, .int x)] [] (I, J) _
  refine c_run 2 (pc' := 2) (ls' := [(0, .ref 1), (1, .int x)]) (st' := [.int x, .ref 1]) (μ' := (I, J)) (Nat.le_of_ble_eq_true rfl) rfl ?_
  refine c_cv 57 [.int x] (b := 1) (r := []) (Nat.le_of_ble_eq_true rfl) rfl rfl rfl rfl rfl rfl (t1_chk I J x) ?_
  rintro _ _ ⟨rfl, rfl⟩
  show m_W 58 5 [(0, .ref 1), (1, .int x)] [.int (k_chk (k_sh 1 (I, J)) x)] (I, J) _
  refine c_run 2 (pc' := 7) (ls' := [(2, .int (k_chk (k_sh 1 (I, J)) x)), (0, .ref 1), (1, .int x)]) (st' := [.int (k_chk (k_sh 1 (I, J)) x)]) (μ' := (I, J)) (Nat.le_of_ble_eq_true rfl) rfl ?_
  refine c_ifge 12 (Nat.le_of_ble_eq_true rfl) rfl rfl (fun h1 => ?_) (fun h1 => ?_)
  · skip
    refine c_run 1 (pc' := 13) (ls' := [(2, .int (k_chk (k_sh 1 (I, J)) x)), (0, .ref 1), (1, .int x)]) (st' := [.ref 1]) (μ' := (I, J)) (Nat.le_of_ble_eq_true rfl) rfl ?_
    refine c_cv 49 [] (b := 1) (r := []) (Nat.le_of_ble_eq_true rfl) rfl rfl rfl rfl rfl rfl (t1_isB I J) ?_
    rintro _ _ ⟨rfl, rfl⟩
    show m_W 58 16 [(2, .int (k_chk (k_sh 1 (I, J)) x)), (0, .ref 1), (1, .int x)] [.int (s01 (k_isB (k_sh 1 (I, J))))] (I, J) _
    refine c_ifne 42 (Nat.le_of_ble_eq_true rfl) rfl rfl (fun h2 => ?_) (fun h2 => ?_)
    · replace h2 := s01_1.mp h2
      refine c_run 2 (pc' := 44) (ls' := [(3, .int 0), (2, .int (k_chk (k_sh 1 (I, J)) x)), (0, .ref 1), (1, .int x)]) (st' := []) (μ' := (I, J)) (Nat.le_of_ble_eq_true rfl) rfl ?_
      refine c_w [2, 3, 0] (ls' := [(0, .ref 1), (1, .int x), (3, .int 0)]) rfl ?_
      obtain ⟨e, he, hbe⟩ : ∃ e, e < m ∧ (k_sh 1 (I, J)).1 0 7 = nI e := k_ix (by rw [← hm]; assumption) (by omega)
      have hke : ke (k_sh 1 (I, J)) = e := by show ((k_sh 1 (I, J)).1 0 7).toNatClampNeg = e; rw [hbe]; exact nI_clamp (by omega)
      obtain ⟨y, hy, rfl⟩ : ∃ y, y ≤ 2000 ∧ x = nI y := k_chk_ms (κ := (k_sh 1 (I, J))) (by assumption)
      have h := t1_pass_l (I, J) (k_sh 1 (I, J)) n hn hn4 e (by omega) hbe hw y hy y 0 (by omega) I J rfl m_fr.rf
      have hcl : (nI y).toNatClampNeg = y := nI_clamp (by omega)
      rw [hke, show k_pass (k_sh 1 (I, J)) e n (nI y) = ((k_its (k_sh 1 (I, J)) e n y).1 0 3, k_its (k_sh 1 (I, J)) e n y) from by rw [k_pass, if_pos (by assumption), if_pos (by assumption), hcl]]
      exact h
    · replace h2 := s01_0.mp h2
      refine c_run 3 (pc' := 24) (ls' := [(2, .int (k_chk (k_sh 1 (I, J)) x)), (0, .ref 1), (1, .int x)]) (st' := [.int x, .ref 2]) (μ' := (I, J)) (Nat.le_of_ble_eq_true rfl) rfl ?_
      refine c_cv 84 [.int x] (b := 2) (r := []) (Nat.le_of_ble_eq_true rfl) rfl rfl rfl rfl rfl rfl (t1_leak I J x n hn hn4) ?_
      rintro _ ⟨I1, J1⟩ ⟨rfl, hs1, hf1⟩
      show m_W 58 27 [(2, .int (k_chk (k_sh 1 (I, J)) x)), (0, .ref 1), (1, .int x)] [] (I1, J1) _
      refine c_run 8 (pc' := 41) (ls' := [(2, .int (k_chk (k_sh 1 (I, J)) x)), (0, .ref 1), (1, .int x)]) (st' := [.int (((k_sh 1 (I1, J1)).1 0 3) + x)]) (μ' := ((m_ui I1 1 3 (((k_sh 1 (I1, J1)).1 0 3) + x)), J1)) (Nat.le_of_ble_eq_true rfl) rfl ?_
      refine c_ret (Nat.le_of_ble_eq_true rfl) rfl rfl ⟨by decide, rfl⟩ ?_
      refine ⟨?_, ?_, ?_⟩
      · first | rfl | (simp only [k_pass, k_leak, if_pos h1, if_neg h2]; done) | (simp only [k_pass, k_leak, if_pos h1, if_neg h2]; rfl) | (rw [k_ui 0 rfl rfl, hs1]; rfl) | (rw [k_ui 0 rfl rfl, hs1]; simp only [k_pass, k_leak, if_pos h1, if_neg h2]; done) | (rw [k_ui 0 rfl rfl, hs1]; simp only [k_pass, k_leak, if_pos h1, if_neg h2]; rfl) | (rw [hs1]; rfl) | (rw [hs1]; simp only [k_pass, k_leak, if_pos h1, if_neg h2]; done) | (rw [hs1]; simp only [k_pass, k_leak, if_pos h1, if_neg h2]; rfl)
      · rw [k_ui 0 rfl rfl, hs1]
        first | rfl | (simp only [k_pass, k_leak, if_pos h1, if_neg h2]; done) | (simp only [k_pass, k_leak, if_pos h1, if_neg h2]; rfl)
      · exact (((m_fr.rf).tr hf1).ui rfl rfl)
  · skip
    refine c_run 1 (pc' := 11) (ls' := [(2, .int (k_chk (k_sh 1 (I, J)) x)), (0, .ref 1), (1, .int x)]) (st' := [.int (k_chk (k_sh 1 (I, J)) x)]) (μ' := (I, J)) (Nat.le_of_ble_eq_true rfl) rfl ?_
    refine c_ret (Nat.le_of_ble_eq_true rfl) rfl rfl ⟨by decide, rfl⟩ ?_
    refine ⟨?_, ?_, ?_⟩
    · first | rfl | (simp only [k_pass, k_leak, if_neg h1]; done) | (simp only [k_pass, k_leak, if_neg h1]; rfl)
    · skip
      first | rfl | (simp only [k_pass, k_leak, if_neg h1]; done) | (simp only [k_pass, k_leak, if_neg h1]; rfl)
    · exact (m_fr.rf)

set_option maxRecDepth 100000 in
theorem t38_end_l (μ0 : m_M) (κ : k_M) (n : Nat) (hn : κ.1 1 0 = nI n) (hn4 : n ≤ 4) (e : Nat) (he : e < 6) (hbe : κ.1 0 7 = nI e) (l c : Nat) (hl : κ.1 30 1 = nI l) (hl2 : l < 24) (hc : κ.1 30 0 = nI c) (hc2 : c ≤ 24) (v : Int32) : ∀ (r i : Nat), i + r = n → ∀ (I : Nat → Nat → Int32) (J : Nat → Nat → Int64), k_sh 38 (I, J) = k_ev κ e i → m_fr 38 μ0 (I, J) → m_W 55 20 [(0, .ref 38), (1, .int v), (2, .long (k_bsum κ i)), (4, .int (nI i))] [] (I, J) (k_E 38 μ0 (some (.int v)) (k_end2 κ e n l c)) := by
  intro r
  induction r with
  | zero =>
    intro i hir I J hs0 hf0
    have hin : n = i := by omega
    subst hin
    have hn1 : (k_sh 38 (I, J)).1 1 0 = nI n := by rw [hs0]; exact hn
    have hb1 : (k_sh 38 (I, J)).1 0 7 = nI e := by rw [hs0]; exact hbe
    refine c_run 4 (pc' := 29) (ls' := [(0, .ref 38), (1, .int v), (2, .long (k_bsum κ n)), (4, .int (nI n))]) (st' := [.int ((k_sh 38 (I, J)).1 1 0), .int (nI n)]) (μ' := (I, J)) (Nat.le_of_ble_eq_true rfl) rfl ?_
    refine c_icge 82 (Nat.le_of_ble_eq_true rfl) rfl rfl (fun h1 => ?_) (fun h1 => absurd (by rw [hn1]; exact nI_le (by omega) (by omega)) h1)
    refine c_run 7 (pc' := 93) (ls' := [(0, .ref 38), (1, .int v), (2, .long (k_bsum κ n)), (4, .int (nI n))]) (st' := [.long (k_bsum κ n), .int (-1), .int 1, .int ((k_sh 38 (I, J)).1 0 3), .ref 68]) (μ' := (I, J)) (Nat.le_of_ble_eq_true rfl) rfl ?_
    refine c_cv 72 [.int ((k_sh 38 (I, J)).1 0 3), .int 1, .int (-1), .long (k_bsum κ n)] (b := 68) (r := []) (Nat.le_of_ble_eq_true rfl) rfl rfl rfl rfl rfl rfl (t38_app I J l c ((k_sh 38 (I, J)).1 0 3) 1 (-1) (k_bsum κ n) (by rw [hs0]; exact hl) hl2 (by rw [hs0]; exact hc) hc2) ?_
    rintro _ ⟨I1, J1⟩ ⟨rfl, hs1, hf1⟩
    show m_W 55 96 [(0, .ref 38), (1, .int v), (2, .long (k_bsum κ n)), (4, .int (nI n))] [] (I1, J1) _
    refine c_run 5 (pc' := 103) (ls' := [(0, .ref 38), (1, .int v), (2, .long (k_bsum κ n)), (4, .int (nI n))]) (st' := [.int 0, .ref 38]) (μ' := ((m_ui I1 38 7 (-1)), J1)) (Nat.le_of_ble_eq_true rfl) rfl ?_
    refine c_putz (ci := 1) (kf := 8) (Nat.le_of_ble_eq_true rfl) rfl rfl rfl rfl (Or.inl rfl) ?_
    refine c_run 1 (pc' := 107) (ls' := [(0, .ref 38), (1, .int v), (2, .long (k_bsum κ n)), (4, .int (nI n))]) (st' := [.int v]) (μ' := ((m_ui (m_ui I1 38 7 (-1)) 38 8 0), J1)) (Nat.le_of_ble_eq_true rfl) rfl ?_
    refine c_ret (Nat.le_of_ble_eq_true rfl) rfl rfl ⟨by decide, rfl⟩ ?_
    refine ⟨?_, ?_, ?_⟩
    · exact rfl
    · rw [k_ui 0 rfl rfl, k_ui 0 rfl rfl, hs1, hs0]
      all_goals rfl
    · exact ((((hf0).tr hf1).ui rfl rfl).ui rfl rfl)
  | succ r ih =>
    intro i hir I J hs0 hf0
    have hn1 : (k_sh 38 (I, J)).1 1 0 = nI n := by rw [hs0]; exact hn
    have hb1 : (k_sh 38 (I, J)).1 0 7 = nI e := by rw [hs0]; exact hbe
    refine c_run 4 (pc' := 29) (ls' := [(0, .ref 38), (1, .int v), (2, .long (k_bsum κ i)), (4, .int (nI i))]) (st' := [.int ((k_sh 38 (I, J)).1 1 0), .int (nI i)]) (μ' := (I, J)) (Nat.le_of_ble_eq_true rfl) rfl ?_
    refine c_icge 82 (Nat.le_of_ble_eq_true rfl) rfl rfl (fun h1 => absurd h1 (by rw [hn1]; exact nI_ge (by omega) (by omega))) (fun h1 => ?_)
    refine c_run 6 (pc' := 44) (ls' := [(0, .ref 38), (1, .int v), (2, .long (k_bsum κ i)), (4, .int (nI i))]) (st' := [.int (nI i), .ref 73, .int (nI i), .ref 39]) (μ' := (I, J)) (Nat.le_of_ble_eq_true rfl) rfl ?_
    refine c_lal i 4 (Nat.le_of_ble_eq_true rfl) rfl rfl rfl rfl rfl (by omega) ?_
    show m_W 55 45 [(0, .ref 38), (1, .int v), (2, .long (k_bsum κ i)), (4, .int (nI i))] [.long ((k_sh 38 (I, J)).2 35 i), .int (nI i), .ref 39] (I, J) _
    refine c_run 5 (pc' := 56) (ls' := [(0, .ref 38), (1, .int v), (2, .long (k_bsum κ i)), (4, .int (nI i))]) (st' := [.int ((k_sh 38 (I, J)).1 0 7), .ref 64, .long ((k_sh 38 (I, J)).2 35 i), .int (nI i), .ref 39]) (μ' := (I, J)) (Nat.le_of_ble_eq_true rfl) rfl ?_
    refine c_ial e 6 (Nat.le_of_ble_eq_true rfl) rfl rfl rfl rfl hb1 he ?_
    show m_W 55 57 [(0, .ref 38), (1, .int v), (2, .long (k_bsum κ i)), (4, .int (nI i))] [.int ((k_sh 38 (I, J)).1 26 e), .long ((k_sh 38 (I, J)).2 35 i), .int (nI i), .ref 39] (I, J) _
    refine c_run 3 (pc' := 62) (ls' := [(0, .ref 38), (1, .int v), (2, .long (k_bsum κ i)), (4, .int (nI i))]) (st' := [.long 1000, .long (((k_sh 38 (I, J)).2 35 i) * ((((k_sh 38 (I, J)).1 26 e) : Int32).toInt64)), .int (nI i), .ref 39]) (μ' := (I, J)) (Nat.le_of_ble_eq_true rfl) rfl ?_
    refine c_ldiv (Nat.le_of_ble_eq_true rfl) rfl (by decide) ?_
    refine c_cv 85 [.int (nI i), .long ((((k_sh 38 (I, J)).2 35 i) * ((((k_sh 38 (I, J)).1 26 e) : Int32).toInt64)) / 1000)] (b := 39) (r := []) (Nat.le_of_ble_eq_true rfl) rfl rfl rfl rfl rfl rfl (t38_grow I J i (by omega) ((((k_sh 38 (I, J)).2 35 i) * ((((k_sh 38 (I, J)).1 26 e) : Int32).toInt64)) / 1000)) ?_
    rintro _ ⟨I1, J1⟩ ⟨rfl, hs1, hf1⟩
    show m_W 55 66 [(0, .ref 38), (1, .int v), (2, .long (k_bsum κ i)), (4, .int (nI i))] [] (I1, J1) _
    refine c_run 4 (pc' := 73) (ls' := [(0, .ref 38), (1, .int v), (2, .long (k_bsum κ i)), (4, .int (nI i))]) (st' := [.int (nI i), .ref 73, .long (k_bsum κ i)]) (μ' := (I1, J1)) (Nat.le_of_ble_eq_true rfl) rfl ?_
    refine c_lal i 4 (Nat.le_of_ble_eq_true rfl) rfl rfl rfl rfl rfl (by omega) ?_
    show m_W 55 74 [(0, .ref 38), (1, .int v), (2, .long (k_bsum κ i)), (4, .int (nI i))] [.long ((k_sh 38 (I1, J1)).2 35 i), .long (k_bsum κ i)] (I1, J1) _
    refine c_run 4 (pc' := 20) (ls' := [(4, .int ((nI i) + (1 : Int32))), (2, .long ((k_bsum κ i) + ((k_sh 38 (I1, J1)).2 35 i))), (0, .ref 38), (1, .int v)]) (st' := []) (μ' := (I1, J1)) (Nat.le_of_ble_eq_true rfl) rfl ?_
    refine c_w [2, 3, 1, 0] (ls' := [(0, .ref 38), (1, .int v), (2, .long ((k_bsum κ i) + ((k_sh 38 (I1, J1)).2 35 i))), (4, .int ((nI i) + (1 : Int32)))]) rfl ?_
    rw [nI_1 i, show (k_sh 38 (I1, J1)).2 35 i = κ.2 35 i from by rw [hs1, hs0]; rfl]
    exact ih (i + 1) (by omega) I1 J1 (by rw [hs1, hs0]; exact k_ev_s κ e i) (hf0.tr hf1)

set_option maxRecDepth 100000 in
theorem t38_end (I : Nat → Nat → Int32) (J : Nat → Nat → Int64)  (m : Nat) (hm : (k_sh 38 (I, J)).1 23 0 = nI m) (hm6 : m ≤ 6) (n : Nat) (hn : (k_sh 38 (I, J)).1 1 0 = nI n) (hn4 : n ≤ 4) (hw : k_lw (k_sh 38 (I, J))) : m_W 55 0 (lv_args 0 [.ref 38]) [] (I, J) (k_E 38 (I, J) (some (.int (k_end (k_sh 38 (I, J)) (ke (k_sh 38 (I, J))) n (kl (k_sh 38 (I, J))) (kc (k_sh 38 (I, J)))).1)) (k_end (k_sh 38 (I, J)) (ke (k_sh 38 (I, J))) n (kl (k_sh 38 (I, J))) (kc (k_sh 38 (I, J)))).2) := by
  show m_W 55 0 [(0, .ref 38)] [] (I, J) _
  refine c_run 1 (pc' := 1) (ls' := [(0, .ref 38)]) (st' := [.ref 38]) (μ' := (I, J)) (Nat.le_of_ble_eq_true rfl) rfl ?_
  refine c_cv 49 [] (b := 38) (r := []) (Nat.le_of_ble_eq_true rfl) rfl rfl rfl rfl rfl rfl (t38_isB I J) ?_
  rintro _ _ ⟨rfl, rfl⟩
  show m_W 55 4 [(0, .ref 38)] [.int (s01 (k_isB (k_sh 38 (I, J))))] (I, J) _
  refine c_ifne 10 (Nat.le_of_ble_eq_true rfl) rfl rfl (fun h1 => ?_) (fun h1 => ?_)
  · replace h1 := s01_1.mp h1
    refine c_run 1 (pc' := 11) (ls' := [(0, .ref 38)]) (st' := [.ref 38]) (μ' := (I, J)) (Nat.le_of_ble_eq_true rfl) rfl ?_
    refine c_cv 50 [] (b := 38) (r := []) (Nat.le_of_ble_eq_true rfl) rfl rfl rfl rfl rfl rfl (t38_len I J) ?_
    rintro _ _ ⟨rfl, rfl⟩
    show m_W 55 14 [(0, .ref 38)] [.int (k_len (k_sh 38 (I, J)))] (I, J) _
    refine c_run 5 (pc' := 20) (ls' := [(4, .int 0), (2, .long 0), (1, .int (k_len (k_sh 38 (I, J)))), (0, .ref 38)]) (st' := []) (μ' := (I, J)) (Nat.le_of_ble_eq_true rfl) rfl ?_
    refine c_w [3, 2, 1, 0] (ls' := [(0, .ref 38), (1, .int (k_len (k_sh 38 (I, J)))), (2, .long 0), (4, .int 0)]) rfl ?_
    obtain ⟨e, he, hbe⟩ : ∃ e, e < m ∧ (k_sh 38 (I, J)).1 0 7 = nI e := k_ix (by rw [← hm]; assumption) (by omega)
    have hke : ke (k_sh 38 (I, J)) = e := by show ((k_sh 38 (I, J)).1 0 7).toNatClampNeg = e; rw [hbe]; exact nI_clamp (by omega)
    have h := t38_end_l (I, J) (k_sh 38 (I, J)) n hn hn4 e (by omega) hbe (kl (k_sh 38 (I, J))) (kc (k_sh 38 (I, J))) (k_lw_l hw).1 (k_lw_l hw).2 (k_lw_c hw).1 (k_lw_c hw).2 (k_len (k_sh 38 (I, J))) n 0 (by omega) I J (k_ev_0 _ _).symm m_fr.rf
    rw [hke, show k_end (k_sh 38 (I, J)) e n (kl (k_sh 38 (I, J))) (kc (k_sh 38 (I, J))) = (k_len (k_sh 38 (I, J)), k_end2 (k_sh 38 (I, J)) e n (kl (k_sh 38 (I, J))) (kc (k_sh 38 (I, J)))) from if_pos (by assumption)]
    exact h
  · replace h1 := s01_0.mp h1
    refine c_run 1 (pc' := 9) (ls' := [(0, .ref 38)]) (st' := [.int (-2)]) (μ' := (I, J)) (Nat.le_of_ble_eq_true rfl) rfl ?_
    refine c_ret (Nat.le_of_ble_eq_true rfl) rfl rfl ⟨by decide, rfl⟩ ?_
    refine ⟨?_, ?_, ?_⟩
    · first | rfl | (simp only [k_end, if_neg h1]; done) | (simp only [k_end, if_neg h1]; rfl)
    · skip
      first | rfl | (simp only [k_end, if_neg h1]; done) | (simp only [k_end, if_neg h1]; rfl)
    · exact (m_fr.rf)

set_option maxRecDepth 100000 in
theorem t38_pass_l (μ0 : m_M) (κ : k_M) (n : Nat) (hn : κ.1 1 0 = nI n) (hn4 : n ≤ 4) (e : Nat) (he : e < 6) (hbe : κ.1 0 7 = nI e) (hw : k_lw κ) (ms : Nat) (hms : ms ≤ 2000) : ∀ (r i : Nat), i + r = ms → ∀ (I : Nat → Nat → Int32) (J : Nat → Nat → Int64), k_sh 38 (I, J) = k_its κ e n i → m_fr 38 μ0 (I, J) → m_W 58 44 [(0, .ref 38), (1, .int (nI ms)), (3, .int (nI i))] [] (I, J) (k_E 38 μ0 (some (.int ((k_its κ e n ms).1 0 3))) (k_its κ e n ms)) := by
  intro r
  induction r with
  | zero =>
    intro i hir I J hs0 hf0
    have hin : ms = i := by omega
    subst hin
    refine c_run 2 (pc' := 46) (ls' := [(0, .ref 38), (1, .int (nI ms)), (3, .int (nI ms))]) (st' := [.int (nI ms), .int (nI ms)]) (μ' := (I, J)) (Nat.le_of_ble_eq_true rfl) rfl ?_
    refine c_icge 89 (Nat.le_of_ble_eq_true rfl) rfl rfl (fun h1 => ?_) (fun h1 => absurd (nI_le (by omega) (by omega)) h1)
    refine c_run 2 (pc' := 93) (ls' := [(0, .ref 38), (1, .int (nI ms)), (3, .int (nI ms))]) (st' := [.int ((k_sh 38 (I, J)).1 0 3)]) (μ' := (I, J)) (Nat.le_of_ble_eq_true rfl) rfl ?_
    refine c_ret (Nat.le_of_ble_eq_true rfl) rfl rfl ⟨by decide, rfl⟩ ?_
    refine ⟨?_, ?_, ?_⟩
    · rw [hs0]
    · rw [hs0]
      all_goals rfl
    · exact (hf0)
  | succ r ih =>
    intro i hir I J hs0 hf0
    have hn1 : (k_sh 38 (I, J)).1 1 0 = nI n := by rw [hs0, k_its_o (by omega) (by omega)]; exact hn
    have hw1 : k_lw (k_its κ e n i) := k_its_lw hw
    have hl1 : (k_sh 38 (I, J)).1 30 1 = nI (kl (k_sh 38 (I, J))) ∧ kl (k_sh 38 (I, J)) < 24 := k_lw_l (by rw [hs0]; exact hw1)
    have hc1 : (k_sh 38 (I, J)).1 30 0 = nI (kc (k_sh 38 (I, J))) ∧ kc (k_sh 38 (I, J)) ≤ 24 := k_lw_c (by rw [hs0]; exact hw1)
    have hb1 : (k_sh 38 (I, J)).1 0 7 = nI e := by rw [hs0, k_its_o (by omega) (by omega)]; exact hbe
    refine c_run 2 (pc' := 46) (ls' := [(0, .ref 38), (1, .int (nI ms)), (3, .int (nI i))]) (st' := [.int (nI ms), .int (nI i)]) (μ' := (I, J)) (Nat.le_of_ble_eq_true rfl) rfl ?_
    refine c_icge 89 (Nat.le_of_ble_eq_true rfl) rfl rfl (fun h1 => absurd h1 (nI_ge (by omega) (by omega))) (fun h1 => ?_)
    refine c_run 3 (pc' := 54) (ls' := [(0, .ref 38), (1, .int (nI ms)), (3, .int (nI i))]) (st' := [.int 1, .ref 39]) (μ' := (I, J)) (Nat.le_of_ble_eq_true rfl) rfl ?_
    refine c_cv 84 [.int 1] (b := 39) (r := []) (Nat.le_of_ble_eq_true rfl) rfl rfl rfl rfl rfl rfl (t38_leak I J (1 : Int32) n hn1 hn4) ?_
    rintro _ ⟨I1, J1⟩ ⟨rfl, hs1, hf1⟩
    show m_W 58 57 [(0, .ref 38), (1, .int (nI ms)), (3, .int (nI i))] [] (I1, J1) _
    refine c_run 3 (pc' := 62) (ls' := [(0, .ref 38), (1, .int (nI ms)), (3, .int (nI i))]) (st' := [.int ((k_sh 38 (I1, J1)).1 0 7), .ref 38]) (μ' := (I1, J1)) (Nat.le_of_ble_eq_true rfl) rfl ?_
    rw [show (k_sh 38 (I1, J1)).1 0 7 = nI e from by rw [hs1]; exact hb1]
    refine c_cv 59 [.int (nI e)] (b := 38) (r := []) (Nat.le_of_ble_eq_true rfl) rfl rfl rfl rfl rfl rfl (t38_del I1 J1 n (by rw [hs1]; exact hn1) hn4 e he (kl (k_sh 38 (I, J))) (kc (k_sh 38 (I, J))) (by rw [hs1]; exact hl1.1) hl1.2 (by rw [hs1]; exact hc1.1) hc1.2) ?_
    rintro _ ⟨I2, J2⟩ ⟨rfl, hs2, hf2⟩
    show m_W 58 65 [(0, .ref 38), (1, .int (nI ms)), (3, .int (nI i))] [] (I2, J2) _
    refine c_run 3 (pc' := 70) (ls' := [(0, .ref 38), (1, .int (nI ms)), (3, .int (nI i))]) (st' := [.int ((k_sh 38 (I2, J2)).1 0 7), .ref 38]) (μ' := (I2, J2)) (Nat.le_of_ble_eq_true rfl) rfl ?_
    rw [show (k_sh 38 (I2, J2)).1 0 7 = nI e from by rw [hs2, k_del_o (by omega) (by omega), hs1]; exact hb1]
    refine c_cv 60 [.int (nI e)] (b := 38) (r := []) (Nat.le_of_ble_eq_true rfl) rfl rfl rfl rfl rfl rfl (t38_book I2 J2 n (by rw [hs2, k_del_o (by omega) (by omega), hs1]; exact hn1) hn4 e he) ?_
    rintro _ ⟨I3, J3⟩ ⟨rfl, hs3, hf3⟩
    show m_W 58 73 [(0, .ref 38), (1, .int (nI ms)), (3, .int (nI i))] [] (I3, J3) _
    refine c_run 8 (pc' := 44) (ls' := [(3, .int ((nI i) + (1 : Int32))), (0, .ref 38), (1, .int (nI ms))]) (st' := []) (μ' := ((m_ui I3 38 3 (((k_sh 38 (I3, J3)).1 0 3) + (1 : Int32))), J3)) (Nat.le_of_ble_eq_true rfl) rfl ?_
    refine c_w [1, 2, 0] (ls' := [(0, .ref 38), (1, .int (nI ms)), (3, .int ((nI i) + (1 : Int32)))]) rfl ?_
    rw [nI_1 i]
    exact ih (i + 1) (by omega) _ _ (by rw [k_ui 0 rfl rfl, hs3, hs2, hs1, hs0]; rfl) (((((hf0).tr hf1).tr hf2).tr hf3).ui rfl rfl)

set_option maxRecDepth 100000 in
theorem t38_pass (I : Nat → Nat → Int32) (J : Nat → Nat → Int64) (x : Int32) (m : Nat) (hm : (k_sh 38 (I, J)).1 23 0 = nI m) (hm6 : m ≤ 6) (n : Nat) (hn : (k_sh 38 (I, J)).1 1 0 = nI n) (hn4 : n ≤ 4) (hw : k_lw (k_sh 38 (I, J))) : m_W 58 0 (lv_args 0 [.ref 38, .int x]) [] (I, J) (k_E 38 (I, J) (some (.int (k_pass (k_sh 38 (I, J)) (ke (k_sh 38 (I, J))) n x).1)) (k_pass (k_sh 38 (I, J)) (ke (k_sh 38 (I, J))) n x).2) := by
  show m_W 58 0 [(0, .ref 38), (1, .int x)] [] (I, J) _
  refine c_run 2 (pc' := 2) (ls' := [(0, .ref 38), (1, .int x)]) (st' := [.int x, .ref 38]) (μ' := (I, J)) (Nat.le_of_ble_eq_true rfl) rfl ?_
  refine c_cv 57 [.int x] (b := 38) (r := []) (Nat.le_of_ble_eq_true rfl) rfl rfl rfl rfl rfl rfl (t38_chk I J x) ?_
  rintro _ _ ⟨rfl, rfl⟩
  show m_W 58 5 [(0, .ref 38), (1, .int x)] [.int (k_chk (k_sh 38 (I, J)) x)] (I, J) _
  refine c_run 2 (pc' := 7) (ls' := [(2, .int (k_chk (k_sh 38 (I, J)) x)), (0, .ref 38), (1, .int x)]) (st' := [.int (k_chk (k_sh 38 (I, J)) x)]) (μ' := (I, J)) (Nat.le_of_ble_eq_true rfl) rfl ?_
  refine c_ifge 12 (Nat.le_of_ble_eq_true rfl) rfl rfl (fun h1 => ?_) (fun h1 => ?_)
  · skip
    refine c_run 1 (pc' := 13) (ls' := [(2, .int (k_chk (k_sh 38 (I, J)) x)), (0, .ref 38), (1, .int x)]) (st' := [.ref 38]) (μ' := (I, J)) (Nat.le_of_ble_eq_true rfl) rfl ?_
    refine c_cv 49 [] (b := 38) (r := []) (Nat.le_of_ble_eq_true rfl) rfl rfl rfl rfl rfl rfl (t38_isB I J) ?_
    rintro _ _ ⟨rfl, rfl⟩
    show m_W 58 16 [(2, .int (k_chk (k_sh 38 (I, J)) x)), (0, .ref 38), (1, .int x)] [.int (s01 (k_isB (k_sh 38 (I, J))))] (I, J) _
    refine c_ifne 42 (Nat.le_of_ble_eq_true rfl) rfl rfl (fun h2 => ?_) (fun h2 => ?_)
    · replace h2 := s01_1.mp h2
      refine c_run 2 (pc' := 44) (ls' := [(3, .int 0), (2, .int (k_chk (k_sh 38 (I, J)) x)), (0, .ref 38), (1, .int x)]) (st' := []) (μ' := (I, J)) (Nat.le_of_ble_eq_true rfl) rfl ?_
      refine c_w [2, 3, 0] (ls' := [(0, .ref 38), (1, .int x), (3, .int 0)]) rfl ?_
      obtain ⟨e, he, hbe⟩ : ∃ e, e < m ∧ (k_sh 38 (I, J)).1 0 7 = nI e := k_ix (by rw [← hm]; assumption) (by omega)
      have hke : ke (k_sh 38 (I, J)) = e := by show ((k_sh 38 (I, J)).1 0 7).toNatClampNeg = e; rw [hbe]; exact nI_clamp (by omega)
      obtain ⟨y, hy, rfl⟩ : ∃ y, y ≤ 2000 ∧ x = nI y := k_chk_ms (κ := (k_sh 38 (I, J))) (by assumption)
      have h := t38_pass_l (I, J) (k_sh 38 (I, J)) n hn hn4 e (by omega) hbe hw y hy y 0 (by omega) I J rfl m_fr.rf
      have hcl : (nI y).toNatClampNeg = y := nI_clamp (by omega)
      rw [hke, show k_pass (k_sh 38 (I, J)) e n (nI y) = ((k_its (k_sh 38 (I, J)) e n y).1 0 3, k_its (k_sh 38 (I, J)) e n y) from by rw [k_pass, if_pos (by assumption), if_pos (by assumption), hcl]]
      exact h
    · replace h2 := s01_0.mp h2
      refine c_run 3 (pc' := 24) (ls' := [(2, .int (k_chk (k_sh 38 (I, J)) x)), (0, .ref 38), (1, .int x)]) (st' := [.int x, .ref 39]) (μ' := (I, J)) (Nat.le_of_ble_eq_true rfl) rfl ?_
      refine c_cv 84 [.int x] (b := 39) (r := []) (Nat.le_of_ble_eq_true rfl) rfl rfl rfl rfl rfl rfl (t38_leak I J x n hn hn4) ?_
      rintro _ ⟨I1, J1⟩ ⟨rfl, hs1, hf1⟩
      show m_W 58 27 [(2, .int (k_chk (k_sh 38 (I, J)) x)), (0, .ref 38), (1, .int x)] [] (I1, J1) _
      refine c_run 8 (pc' := 41) (ls' := [(2, .int (k_chk (k_sh 38 (I, J)) x)), (0, .ref 38), (1, .int x)]) (st' := [.int (((k_sh 38 (I1, J1)).1 0 3) + x)]) (μ' := ((m_ui I1 38 3 (((k_sh 38 (I1, J1)).1 0 3) + x)), J1)) (Nat.le_of_ble_eq_true rfl) rfl ?_
      refine c_ret (Nat.le_of_ble_eq_true rfl) rfl rfl ⟨by decide, rfl⟩ ?_
      refine ⟨?_, ?_, ?_⟩
      · first | rfl | (simp only [k_pass, k_leak, if_pos h1, if_neg h2]; done) | (simp only [k_pass, k_leak, if_pos h1, if_neg h2]; rfl) | (rw [k_ui 0 rfl rfl, hs1]; rfl) | (rw [k_ui 0 rfl rfl, hs1]; simp only [k_pass, k_leak, if_pos h1, if_neg h2]; done) | (rw [k_ui 0 rfl rfl, hs1]; simp only [k_pass, k_leak, if_pos h1, if_neg h2]; rfl) | (rw [hs1]; rfl) | (rw [hs1]; simp only [k_pass, k_leak, if_pos h1, if_neg h2]; done) | (rw [hs1]; simp only [k_pass, k_leak, if_pos h1, if_neg h2]; rfl)
      · rw [k_ui 0 rfl rfl, hs1]
        first | rfl | (simp only [k_pass, k_leak, if_pos h1, if_neg h2]; done) | (simp only [k_pass, k_leak, if_pos h1, if_neg h2]; rfl)
      · exact (((m_fr.rf).tr hf1).ui rfl rfl)
  · skip
    refine c_run 1 (pc' := 11) (ls' := [(2, .int (k_chk (k_sh 38 (I, J)) x)), (0, .ref 38), (1, .int x)]) (st' := [.int (k_chk (k_sh 38 (I, J)) x)]) (μ' := (I, J)) (Nat.le_of_ble_eq_true rfl) rfl ?_
    refine c_ret (Nat.le_of_ble_eq_true rfl) rfl rfl ⟨by decide, rfl⟩ ?_
    refine ⟨?_, ?_, ?_⟩
    · first | rfl | (simp only [k_pass, k_leak, if_neg h1]; done) | (simp only [k_pass, k_leak, if_neg h1]; rfl)
    · skip
      first | rfl | (simp only [k_pass, k_leak, if_neg h1]; done) | (simp only [k_pass, k_leak, if_neg h1]; rfl)
    · exact (m_fr.rf)

