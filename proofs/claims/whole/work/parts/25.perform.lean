/-! COMMAND TEXTS PERFORMED -/
/-- the first fault of a text -/
def p_ff (T : Nat → Int32) (n : Nat) : Nat → Nat → Int32
  | 0, _ => -4
  | r + 1, s => if s < n then (match p_at T s with
    | none => nI s
    | some q => p_ff T n r q.1) else -4
def f_Q (I : Nat → Nat → Int32) (J : Nat → Nat → Int64) (x : Int32) : m_Q := fun v μ' => v = some (.int x) ∧ ∃ a c nm t nu, μ' = (c_tx I a c nm t nu, J)
def k_ok (x : Int32) : Int32 := if x < 0 then 0 else 1
abbrev k_en (κ : k_M) (nm : Int32) : Int32 := k_fd (κ.1 24) nm 0 (km κ)
def k_do (κ : k_M) (c nm tk nu : Int32) : Int32 × k_M :=
  if c = 1 then (k_ok (k_begin κ (k_en κ nm)).1, (k_begin κ (k_en κ nm)).2)
  else if c = 2 then (k_ok (k_endx κ).1, (k_endx κ).2)
  else if c = 3 then (k_ok (k_passx κ nu).1, (k_passx κ nu).2)
  else if c = 4 then k_bfor κ (k_en κ nm) nu
  else if c = 5 then (k_ok (k_valve κ (k_en κ nm) tk 1).1, (k_valve κ (k_en κ nm) tk 1).2)
  else if c = 6 then (k_ok (k_valve κ (k_en κ nm) tk 0).1, (k_valve κ (k_en κ nm) tk 0).2)
  else if c = 7 then (k_ok (k_read κ tk nu).1, (k_read κ tk nu).2)
  else (0, κ)
abbrev k_doq (κ : k_M) (q : p_C) : Int32 × k_M := k_do κ q.2.1 q.2.2.1 q.2.2.2.1 q.2.2.2.2
theorem k_do_us {κ : k_M} {q : p_C} {nm t nu : Int32} (h : p_us q nm t nu) : k_do κ q.2.1 nm t nu = k_doq κ q := by
  obtain ⟨h1, h2, h3⟩ := h
  unfold k_doq k_do
  by_cases e1 : q.2.1 = 1
  · rw [if_pos e1, if_pos e1, h1 (Or.inl e1)]
  rw [if_neg e1, if_neg e1]
  by_cases e2 : q.2.1 = 2
  · rw [if_pos e2, if_pos e2]
  rw [if_neg e2, if_neg e2]
  by_cases e3 : q.2.1 = 3
  · rw [if_pos e3, if_pos e3, h3 (Or.inl e3)]
  rw [if_neg e3, if_neg e3]
  by_cases e4 : q.2.1 = 4
  · rw [if_pos e4, if_pos e4, h1 (Or.inr (Or.inl e4)), h3 (Or.inr (Or.inl e4))]
  rw [if_neg e4, if_neg e4]
  by_cases e5 : q.2.1 = 5
  · rw [if_pos e5, if_pos e5, h1 (Or.inr (Or.inr (Or.inl e5))), h2 (Or.inl e5)]
  rw [if_neg e5, if_neg e5]
  by_cases e6 : q.2.1 = 6
  · rw [if_pos e6, if_pos e6, h1 (Or.inr (Or.inr (Or.inr e6))), h2 (Or.inr (Or.inl e6))]
  rw [if_neg e6, if_neg e6]
  by_cases e7 : q.2.1 = 7
  · rw [if_pos e7, if_pos e7, h2 (Or.inr (Or.inr e7)), h3 (Or.inr (Or.inr e7))]
  rw [if_neg e7, if_neg e7]
theorem k_do_sc {κ : k_M} {c nm tk nu : Int32} : k_sc κ (k_do κ c nm tk nu).2 := by
  unfold k_do
  repeat' split
  · exact k_begin_sc
  · exact k_end_sc
  · exact k_pass_sc
  · exact k_bfor_sc
  · exact k_valve_sc
  · exact k_valve_sc
  · exact k_read_sc
  · exact k_sc.rf
theorem k_do_lw {κ : k_M} {c nm tk nu : Int32} (h : k_lw κ) : k_lw (k_do κ c nm tk nu).2 := by
  unfold k_do
  repeat' split
  · exact k_begin_lw h
  · exact k_end_lw h
  · exact k_pass_lw h
  · exact k_bfor_lw h
  · exact k_valve_lw h
  · exact k_valve_lw h
  · exact k_read_lw h
  · exact h
theorem k_do_wf {κ : k_M} {c nm tk nu : Int32} (h : k_wf κ) : k_wf (k_do κ c nm tk nu).2 := k_sc_wf h k_do_sc (k_do_lw (k_wf_l h))
/-- a text performed -/
def k_run (T : Nat → Int32) (n : Nat) : Nat → Nat → Nat → k_M → Int32 × k_M
  | 0, _, p, κ => (nI p, κ)
  | r + 1, s, p, κ => if s < n then (match p_at T s with
    | none => (nI p, κ)
    | some q => if (k_doq κ q).1 = 0 then (nI p, (k_doq κ q).2) else k_run T n r q.1 (p + 1) (k_doq κ q).2) else (nI p, κ)
theorem k_run_wf {T : Nat → Int32} {n : Nat} : ∀ {r s p : Nat} {κ : k_M}, k_wf κ → k_wf (k_run T n r s p κ).2
  | 0, _, _, _, h => h
  | r + 1, s, p, κ, h => by
    rw [k_run]
    split
    · split
      · exact h
      · split
        · exact k_do_wf h
        · exact k_run_wf (k_do_wf h)
    · exact h
/-- outside the craft at b and the text's object all stays -/
def x_fr (b : Nat) (μ μ' : m_M) : Prop := (∀ c, c < b ∨ b + 37 ≤ c → c ≠ 75 → μ'.1 c = μ.1 c ∧ μ'.2 c = μ.2 c) ∧ μ'.1 75 0 = μ.1 75 0 ∧ μ'.2 75 = μ.2 75
theorem x_fr.rf {b : Nat} {μ : m_M} : x_fr b μ μ := ⟨fun _ _ _ => ⟨rfl, rfl⟩, rfl, rfl⟩
theorem x_fr.tr {b : Nat} {μ μ1 μ2 : m_M} (h : x_fr b μ μ1) (h2 : x_fr b μ1 μ2) : x_fr b μ μ2 := ⟨fun c a e => ⟨(h2.1 c a e).1.trans (h.1 c a e).1, (h2.1 c a e).2.trans (h.1 c a e).2⟩, h2.2.1.trans h.2.1, h2.2.2.trans h.2.2⟩
theorem x_fr.tx {b : Nat} {I : Nat → Nat → Int32} {J : Nat → Nat → Int64} {a c nm t nu : Int32} : x_fr b (I, J) (c_tx I a c nm t nu, J) := ⟨fun d _ e => ⟨m_ci_o e, rfl⟩, rfl, rfl⟩
theorem x_fr.of {b : Nat} {μ μ' : m_M} (hb : b + 37 ≤ 75) (h : m_fr b μ μ') : x_fr b μ μ' := ⟨fun c a _ => h c a, congrFun (h 75 (Or.inr hb)).1 0, (h 75 (Or.inr hb)).2⟩
theorem k_sh_tx {b : Nat} (hb : b + 37 ≤ 75) {I : Nat → Nat → Int32} {J : Nat → Nat → Int64} {a c nm t nu : Int32} : k_sh b (c_tx I a c nm t nu, J) = k_sh b (I, J) := by
  refine Prod.ext ?_ rfl
  funext x j
  unfold k_sh
  dsimp only
  by_cases hx : x < 37
  · rw [if_pos hx, if_pos hx]
    exact congrFun (m_ci_o (by omega)) j
  · rw [if_neg hx, if_neg hx]
def x_Q (b : Nat) (μ : m_M) (r : Int32 × k_M) : m_Q := fun v μ' => v = some (.int r.1) ∧ k_sh b μ' = r.2 ∧ x_fr b μ μ'
theorem p_ff_b {T : Nat → Int32} {n : Nat} (hn : n ≤ 100) : ∀ r s, p_ff T n r s = -4 ∨ ∃ j, j < n ∧ p_ff T n r s = nI j
  | 0, _ => Or.inl rfl
  | r + 1, s => by
    rw [p_ff]
    split
    · next h =>
      split
      · exact Or.inr ⟨s, h, rfl⟩
      · exact p_ff_b hn r _
    · exact Or.inl rfl

set_option maxRecDepth 100000 in
theorem t_pat (I : Nat → Nat → Int32) (J : Nat → Nat → Int64) (n : Nat) (h0 : I 75 0 = nI n) (hn : n ≤ 100) (hc : ∀ i, i < n → 32 ≤ I 76 i ∧ I 76 i ≤ 126) (s : Nat) (hs : s < 800) (a c nm t nu : Int32) : m_W 41 0 (lv_args 0 [.ref 75, .int (nI s)]) [] ((c_tx I a c nm t nu), J) (p_Q I J (p_at (s_ch (I 76) n) s)) := by
  show m_W 41 0 [(0, .ref 75), (1, .int (nI s))] [] ((c_tx I a c nm t nu), J) _
  refine c_run 4 (pc' := 6) (ls' := [(0, .ref 75), (1, .int (nI s))]) (st' := [.ref 75]) (μ' := ((m_ui (c_tx I a c nm t nu) 75 1 (nI s)), J)) (Nat.le_of_ble_eq_true rfl) rfl ?_
  rw [c_tx1]
  show m_W 41 6 [(0, .ref 75), (1, .int (nI s))] [.ref 75] ((c_tx I (nI s) c nm t nu), J) _
  have hcall := t_pcm I J n h0 hn hc s (by omega) c nm t nu
  rcases hp : p_cmd (s_ch (I 76) n) s with _ | q
  · skip
    rw [hp] at hcall
    show m_W 41 6 [(0, .ref 75), (1, .int (nI s))] [.ref 75] ((c_tx I (nI s) c nm t nu), J) _
    refine c_cv 42 [] (b := 75) (r := []) (Nat.le_of_ble_eq_true rfl) rfl rfl rfl rfl rfl rfl (hcall) ?_
    rintro _ _ ⟨rfl, a1, c1, nm1, t1, nu1, rfl⟩
    show m_W 41 9 [(0, .ref 75), (1, .int (nI s))] [.int 0] ((c_tx I a1 c1 nm1 t1 nu1), J) _
    refine c_ifeq 25 (Nat.le_of_ble_eq_true rfl) rfl rfl (fun h1 => ?_) (fun h1 => absurd (by decide) h1)
    refine c_run 1 (pc' := 26) (ls' := [(0, .ref 75), (1, .int (nI s))]) (st' := [.int 0]) (μ' := ((c_tx I a1 c1 nm1 t1 nu1), J)) (Nat.le_of_ble_eq_true rfl) rfl ?_
    refine c_ret (Nat.le_of_ble_eq_true rfl) rfl rfl ⟨by decide, rfl⟩ ?_
    rw [show p_at (s_ch (I 76) n) s = none from by unfold p_at; rw [hp]]
    exact ⟨rfl, _, _, _, _, _, rfl⟩
  · skip
    rw [hp] at hcall
    show m_W 41 6 [(0, .ref 75), (1, .int (nI s))] [.ref 75] ((c_tx I (nI s) c nm t nu), J) _
    refine c_cv 42 [] (b := 75) (r := []) (Nat.le_of_ble_eq_true rfl) rfl rfl rfl rfl rfl rfl (hcall) ?_
    rintro _ _ ⟨rfl, nm1, t1, nu1, rfl, hus⟩
    have hqb := p_cmd_b hp
    show m_W 41 9 [(0, .ref 75), (1, .int (nI s))] [.int 1] ((c_tx I (nI q.1) q.2.1 nm1 t1 nu1), J) _
    refine c_ifeq 25 (Nat.le_of_ble_eq_true rfl) rfl rfl (fun h2 => absurd h2 (by decide)) (fun h2 => ?_)
    refine c_run 2 (pc' := 15) (ls' := [(0, .ref 75), (1, .int (nI s))]) (st' := [.ref 1008, .ref 75]) (μ' := ((c_tx I (nI q.1) q.2.1 nm1 t1 nu1), J)) (Nat.le_of_ble_eq_true rfl) rfl ?_
    by_cases hk3 : p_sk (s_ch (I 76) n) q.1 8
    · skip
      show m_W 41 15 [(0, .ref 75), (1, .int (nI s))] [.ref 1008, .ref 75] ((c_tx I (nI q.1) q.2.1 nm1 t1 nu1), J) _
      refine c_cv 43 [.ref 1008] (b := 75) (r := []) (Nat.le_of_ble_eq_true rfl) rfl rfl rfl rfl rfl rfl (t_sky I J n h0 hn hc q.1 (by omega) q.2.1 nm1 t1 nu1 8 (by decide) hk3) ?_
      rintro _ _ ⟨rfl, rfl⟩
      show m_W 41 18 [(0, .ref 75), (1, .int (nI s))] [.int 1] ((c_tx I (nI (q.1 + 1)) q.2.1 nm1 t1 nu1), J) _
      refine c_ifeq 25 (Nat.le_of_ble_eq_true rfl) rfl rfl (fun h4 => absurd h4 (by decide)) (fun h4 => ?_)
      refine c_run 2 (pc' := 26) (ls' := [(0, .ref 75), (1, .int (nI s))]) (st' := [.int 1]) (μ' := ((c_tx I (nI (q.1 + 1)) q.2.1 nm1 t1 nu1), J)) (Nat.le_of_ble_eq_true rfl) rfl ?_
      refine c_ret (Nat.le_of_ble_eq_true rfl) rfl rfl ⟨by decide, rfl⟩ ?_
      rw [show p_at (s_ch (I 76) n) s = some (q.1 + 1, q.2) from by unfold p_at; rw [hp]; exact if_pos hk3]
      exact ⟨rfl, _, _, _, rfl, hus⟩
    · skip
      show m_W 41 15 [(0, .ref 75), (1, .int (nI s))] [.ref 1008, .ref 75] ((c_tx I (nI q.1) q.2.1 nm1 t1 nu1), J) _
      refine c_cv 43 [.ref 1008] (b := 75) (r := []) (Nat.le_of_ble_eq_true rfl) rfl rfl rfl rfl rfl rfl (t_skn I J n h0 hn hc q.1 (by omega) q.2.1 nm1 t1 nu1 8 (by decide) hk3) ?_
      rintro _ _ ⟨rfl, rfl⟩
      show m_W 41 18 [(0, .ref 75), (1, .int (nI s))] [.int 0] ((c_tx I (nI q.1) q.2.1 nm1 t1 nu1), J) _
      refine c_ifeq 25 (Nat.le_of_ble_eq_true rfl) rfl rfl (fun h5 => ?_) (fun h5 => absurd (by decide) h5)
      refine c_run 1 (pc' := 26) (ls' := [(0, .ref 75), (1, .int (nI s))]) (st' := [.int 0]) (μ' := ((c_tx I (nI q.1) q.2.1 nm1 t1 nu1), J)) (Nat.le_of_ble_eq_true rfl) rfl ?_
      refine c_ret (Nat.le_of_ble_eq_true rfl) rfl rfl ⟨by decide, rfl⟩ ?_
      rw [show p_at (s_ch (I 76) n) s = none from by unfold p_at; rw [hp]; exact if_neg hk3]
      exact ⟨rfl, _, _, _, _, _, rfl⟩

set_option maxRecDepth 100000 in
theorem t_ff_l (I : Nat → Nat → Int32) (J : Nat → Nat → Int64) (n : Nat) (h0 : I 75 0 = nI n) (hn : n ≤ 100) (hc : ∀ i, i < n → 32 ≤ I 76 i ∧ I 76 i ≤ 126)  : ∀ (r i : Nat), i + r = 100 → ∀ (s : Nat) (a c nm t nu : Int32), i ≤ s → s ≤ 131 → m_W 40 4 [(0, .ref 75), (1, .int (nI s)), (2, .int (nI i))] [] ((c_tx I a c nm t nu), J) (f_Q I J (p_ff (s_ch (I 76) n) n r s)) := by
  intro r
  induction r with
  | zero =>
    intro i hir s a c nm t nu hs1 hs2
    refine c_run 2 (pc' := 7) (ls' := [(0, .ref 75), (1, .int (nI s)), (2, .int (nI i))]) (st' := [.int 100, .int (nI i)]) (μ' := ((c_tx I a c nm t nu), J)) (Nat.le_of_ble_eq_true rfl) rfl ?_
    refine c_icge 39 (Nat.le_of_ble_eq_true rfl) rfl rfl (fun h1 => ?_) (fun h1 => absurd (show nI 100 ≤ nI i from nI_le (by omega) (by omega)) h1)
    refine c_run 1 (pc' := 41) (ls' := [(0, .ref 75), (1, .int (nI s)), (2, .int (nI i))]) (st' := [.int (-4)]) (μ' := ((c_tx I a c nm t nu), J)) (Nat.le_of_ble_eq_true rfl) rfl ?_
    refine c_ret (Nat.le_of_ble_eq_true rfl) rfl rfl ⟨by decide, rfl⟩ ?_
    exact ⟨rfl, _, _, _, _, _, rfl⟩
  | succ r ih =>
    intro i hir s a c nm t nu hs1 hs2
    refine c_run 2 (pc' := 7) (ls' := [(0, .ref 75), (1, .int (nI s)), (2, .int (nI i))]) (st' := [.int 100, .int (nI i)]) (μ' := ((c_tx I a c nm t nu), J)) (Nat.le_of_ble_eq_true rfl) rfl ?_
    refine c_icge 39 (Nat.le_of_ble_eq_true rfl) rfl rfl (fun h1 => absurd h1 (show ¬ nI 100 ≤ nI i from nI_ge (by omega) (by omega))) (fun h1 => ?_)
    refine c_run 3 (pc' := 15) (ls' := [(0, .ref 75), (1, .int (nI s)), (2, .int (nI i))]) (st' := [.int (I 75 0), .int (nI s)]) (μ' := ((c_tx I a c nm t nu), J)) (Nat.le_of_ble_eq_true rfl) rfl ?_
    refine c_icge 39 (Nat.le_of_ble_eq_true rfl) rfl rfl (fun h2 => ?_) (fun h2 => ?_)
    · skip
      refine c_run 1 (pc' := 41) (ls' := [(0, .ref 75), (1, .int (nI s)), (2, .int (nI i))]) (st' := [.int (-4)]) (μ' := ((c_tx I a c nm t nu), J)) (Nat.le_of_ble_eq_true rfl) rfl ?_
      refine c_ret (Nat.le_of_ble_eq_true rfl) rfl rfl ⟨by decide, rfl⟩ ?_
      have hsn : ¬ s < n := fun q => absurd (show nI n ≤ nI s by rw [← h0]; assumption) (nI_ge q (by omega))
      rw [p_ff, if_neg hsn]
      exact ⟨rfl, _, _, _, _, _, rfl⟩
    · skip
      refine c_run 2 (pc' := 20) (ls' := [(0, .ref 75), (1, .int (nI s)), (2, .int (nI i))]) (st' := [.int (nI s), .ref 75]) (μ' := ((c_tx I a c nm t nu), J)) (Nat.le_of_ble_eq_true rfl) rfl ?_
      have hsn : s < n := (nI_ltI (by omega) (by omega)).mp (show nI s < nI n by rw [← h0]; exact Int32.not_le.mp (by assumption))
      have hcall := t_pat I J n h0 hn hc s (by omega) a c nm t nu
      rcases hp : p_at (s_ch (I 76) n) s with _ | q
      · skip
        rw [hp] at hcall
        show m_W 40 20 [(0, .ref 75), (1, .int (nI s)), (2, .int (nI i))] [.int (nI s), .ref 75] ((c_tx I a c nm t nu), J) _
        refine c_cv 41 [.int (nI s)] (b := 75) (r := []) (Nat.le_of_ble_eq_true rfl) rfl rfl rfl rfl rfl rfl (hcall) ?_
        rintro _ _ ⟨rfl, a1, c1, nm1, t1, nu1, rfl⟩
        show m_W 40 23 [(0, .ref 75), (1, .int (nI s)), (2, .int (nI i))] [.int 0] ((c_tx I a1 c1 nm1 t1 nu1), J) _
        refine c_ifne 28 (Nat.le_of_ble_eq_true rfl) rfl rfl (fun h3 => absurd (by decide) h3) (fun h3 => ?_)
        refine c_run 1 (pc' := 27) (ls' := [(0, .ref 75), (1, .int (nI s)), (2, .int (nI i))]) (st' := [.int (nI s)]) (μ' := ((c_tx I a1 c1 nm1 t1 nu1), J)) (Nat.le_of_ble_eq_true rfl) rfl ?_
        refine c_ret (Nat.le_of_ble_eq_true rfl) rfl rfl ⟨by decide, rfl⟩ ?_
        rw [p_ff, if_pos hsn, hp]
        exact ⟨rfl, _, _, _, _, _, rfl⟩
      · skip
        rw [hp] at hcall
        show m_W 40 20 [(0, .ref 75), (1, .int (nI s)), (2, .int (nI i))] [.int (nI s), .ref 75] ((c_tx I a c nm t nu), J) _
        refine c_cv 41 [.int (nI s)] (b := 75) (r := []) (Nat.le_of_ble_eq_true rfl) rfl rfl rfl rfl rfl rfl (hcall) ?_
        rintro _ _ ⟨rfl, nm1, t1, nu1, rfl, hus⟩
        have hqb := p_at_b hp
        show m_W 40 23 [(0, .ref 75), (1, .int (nI s)), (2, .int (nI i))] [.int 1] ((c_tx I (nI q.1) q.2.1 nm1 t1 nu1), J) _
        refine c_ifne 28 (Nat.le_of_ble_eq_true rfl) rfl rfl (fun h4 => ?_) (fun h4 => absurd h4 (by decide))
        refine c_run 5 (pc' := 4) (ls' := [(2, .int ((nI i) + (1 : Int32))), (1, .int (nI q.1)), (0, .ref 75)]) (st' := []) (μ' := ((c_tx I (nI q.1) q.2.1 nm1 t1 nu1), J)) (Nat.le_of_ble_eq_true rfl) rfl ?_
        refine c_w [2, 1, 0] (ls' := [(0, .ref 75), (1, .int (nI q.1)), (2, .int ((nI i) + (1 : Int32)))]) rfl ?_
        rw [nI_1 i, p_ff, if_pos hsn, hp]
        exact ih (i + 1) (by omega) q.1 _ _ _ _ _ (by omega) (by omega)

set_option maxRecDepth 100000 in
theorem t_fflt (I : Nat → Nat → Int32) (J : Nat → Nat → Int64) (n : Nat) (h0 : I 75 0 = nI n) (hn : n ≤ 100) (hc : ∀ i, i < n → 32 ≤ I 76 i ∧ I 76 i ≤ 126)  : m_W 40 0 (lv_args 0 [.ref 75]) [] (I, J) (f_Q I J (p_ff (s_ch (I 76) n) n 100 0)) := by
  show m_W 40 0 [(0, .ref 75)] [] (I, J) _
  refine c_run 4 (pc' := 4) (ls' := [(2, .int 0), (1, .int 0), (0, .ref 75)]) (st' := []) (μ' := (I, J)) (Nat.le_of_ble_eq_true rfl) rfl ?_
  refine c_w [2, 1, 0] (ls' := [(0, .ref 75), (1, .int 0), (2, .int 0)]) rfl ?_
  have h := t_ff_l I J n h0 hn hc 100 0 (by omega) 0 (I 75 1) (I 75 2) (I 75 3) (I 75 4) (I 75 5) (by omega) (by omega)
  rw [c_tx_id] at h
  exact h

set_option maxRecDepth 100000 in
theorem t_fault (I : Nat → Nat → Int32) (J : Nat → Nat → Int64) (n : Nat) (h0 : I 75 0 = nI n) (hn : n ≤ 100) (hc : ∀ i, i < n → 32 ≤ I 76 i ∧ I 76 i ≤ 126)  : m_W 27 0 (lv_args 0 [.ref 0]) [] (I, J) (f_Q I J (p_ff (s_ch (I 76) n) n 100 0)) := by
  show m_W 27 0 [(0, .ref 0)] [] (I, J) _
  refine c_run 2 (pc' := 4) (ls' := [(0, .ref 0)]) (st' := [.ref 75]) (μ' := (I, J)) (Nat.le_of_ble_eq_true rfl) rfl ?_
  refine c_cv 40 [] (b := 75) (r := []) (Nat.le_of_ble_eq_true rfl) rfl rfl rfl rfl rfl rfl (t_fflt I J n h0 hn hc) ?_
  rintro _ _ ⟨rfl, a1, c1, nm1, t1, nu1, rfl⟩
  show m_W 27 7 [(0, .ref 0)] [.int (p_ff (s_ch (I 76) n) n 100 0)] ((c_tx I a1 c1 nm1 t1 nu1), J) _
  refine c_ret (Nat.le_of_ble_eq_true rfl) rfl rfl ⟨by decide, rfl⟩ ?_
  exact ⟨rfl, _, _, _, _, _, rfl⟩

theorem k_bfor_n (κ : k_M) (e ms : Int32) : ¬ FieldType.boolean = .long ∧ narrow .boolean (.int (k_bfor κ e ms).1) = .int (k_bfor κ e ms).1 := by
  refine ⟨by decide, ?_⟩
  unfold k_bfor
  split
  · show narrow .boolean (.int 0) = .int 0
    rfl
  · split
    · show narrow .boolean (.int 1) = .int 1
      rfl
    · show narrow .boolean (.int 0) = .int 0
      rfl
set_option maxRecDepth 100000 in
theorem t1_cmd (I : Nat → Nat → Int32) (J : Nat → Nat → Int64)  (hw : k_wf (k_sh 1 (I, J))) : m_W 34 0 (lv_args 0 [.ref 0, .ref 1]) [] (I, J) (k_E 1 (I, J) (some (.int (k_do (k_sh 1 (I, J)) (I 75 2) (I 75 3) (I 75 4) (I 75 5)).1)) (k_do (k_sh 1 (I, J)) (I 75 2) (I 75 3) (I 75 4) (I 75 5)).2) := by
  show m_W 34 0 [(0, .ref 0), (1, .ref 1)] [] (I, J) _
  refine c_run 3 (pc' := 7) (ls' := [(0, .ref 0), (1, .ref 1)]) (st' := [.int (I 75 2)]) (μ' := (I, J)) (Nat.le_of_ble_eq_true rfl) rfl ?_
  refine c_sw (Nat.le_of_ble_eq_true rfl) rfl 231 rfl (fun h1 => ?_) (fun j o ho h1 _ => ?_)
  · skip
    refine c_run 1 (pc' := 232) (ls' := [(0, .ref 0), (1, .ref 1)]) (st' := [.int 0]) (μ' := (I, J)) (Nat.le_of_ble_eq_true rfl) rfl ?_
    refine c_ret (Nat.le_of_ble_eq_true rfl) rfl rfl ⟨by decide, rfl⟩ ?_
    rw [show k_do (k_sh 1 (I, J)) (I 75 2) (I 75 3) (I 75 4) (I 75 5) = (0, (k_sh 1 (I, J))) from by unfold k_do; rw [if_neg (fun q => by rw [q] at h1; revert h1; decide), if_neg (fun q => by rw [q] at h1; revert h1; decide), if_neg (fun q => by rw [q] at h1; revert h1; decide), if_neg (fun q => by rw [q] at h1; revert h1; decide), if_neg (fun q => by rw [q] at h1; revert h1; decide), if_neg (fun q => by rw [q] at h1; revert h1; decide), if_neg (fun q => by rw [q] at h1; revert h1; decide)]]
    exact ⟨rfl, rfl, m_fr.rf⟩
  · have hj : j < 7 := (Array.getElem?_eq_some_iff.mp ho).1
    have h1 : (I 75 2) = Int32.ofInt (1 + (j : Int)) := by rw [← h1, Int32.ofInt_toInt]
    rcases (show j = 0 ∨ j = 1 ∨ j = 2 ∨ j = 3 ∨ j = 4 ∨ j = 5 ∨ j = 6 by omega) with rfl | rfl | rfl | rfl | rfl | rfl | rfl
    · have ho : (41 : Int) = o := by simpa using ho
      subst ho
      have h1 : (I 75 2) = 1 := h1
      show m_W 34 48 [(0, .ref 0), (1, .ref 1)] [] (I, J) _
      refine c_run 6 (pc' := 60) (ls' := [(0, .ref 0), (1, .ref 1)]) (st' := [.int (I 75 3), .ref 24, .ref 1]) (μ' := (I, J)) (Nat.le_of_ble_eq_true rfl) rfl ?_
      refine c_cv 67 [.int (I 75 3)] (b := 24) (r := [.ref 1]) (Nat.le_of_ble_eq_true rfl) rfl rfl rfl rfl rfl rfl (t1_find I J (I 75 3) (km (k_sh 1 (I, J))) (k_wf_m hw).1 (k_wf_m hw).2) ?_
      rintro _ _ ⟨rfl, rfl⟩
      show m_W 34 63 [(0, .ref 0), (1, .ref 1)] [.int (k_en (k_sh 1 (I, J)) (I 75 3)), .ref 1] (I, J) _
      refine c_cv 54 [.int (k_en (k_sh 1 (I, J)) (I 75 3))] (b := 1) (r := []) (Nat.le_of_ble_eq_true rfl) rfl rfl rfl rfl rfl rfl (t1_begin I J (k_en (k_sh 1 (I, J)) (I 75 3)) (km (k_sh 1 (I, J))) (k_wf_m hw).1 (k_wf_m hw).2) ?_
      rintro _ ⟨I1, J1⟩ ⟨rfl, hs1, hf1⟩
      show m_W 34 66 [(0, .ref 0), (1, .ref 1)] [.int ((k_begin (k_sh 1 (I, J)) (k_en (k_sh 1 (I, J)) (I 75 3))).1)] (I1, J1) _
      refine c_iflt 73 (Nat.le_of_ble_eq_true rfl) rfl rfl (fun h2 => ?_) (fun h2 => ?_)
      · skip
        refine c_run 1 (pc' := 74) (ls' := [(0, .ref 0), (1, .ref 1)]) (st' := [.int 0]) (μ' := (I1, J1)) (Nat.le_of_ble_eq_true rfl) rfl ?_
        refine c_ret (Nat.le_of_ble_eq_true rfl) rfl rfl ⟨by decide, rfl⟩ ?_
        rw [show k_do (k_sh 1 (I, J)) (I 75 2) (I 75 3) (I 75 4) (I 75 5) = _ from by unfold k_do; rw [if_pos h1]]
        refine ⟨?_, hs1, hf1⟩
        exact congrArg (fun z => some (Value.int z)) (if_pos h2).symm
      · skip
        refine c_run 2 (pc' := 74) (ls' := [(0, .ref 0), (1, .ref 1)]) (st' := [.int 1]) (μ' := (I1, J1)) (Nat.le_of_ble_eq_true rfl) rfl ?_
        refine c_ret (Nat.le_of_ble_eq_true rfl) rfl rfl ⟨by decide, rfl⟩ ?_
        rw [show k_do (k_sh 1 (I, J)) (I 75 2) (I 75 3) (I 75 4) (I 75 5) = _ from by unfold k_do; rw [if_pos h1]]
        refine ⟨?_, hs1, hf1⟩
        exact congrArg (fun z => some (Value.int z)) (if_neg h2).symm
    · have ho : (68 : Int) = o := by simpa using ho
      subst ho
      have h1 : (I 75 2) = 2 := h1
      show m_W 34 75 [(0, .ref 0), (1, .ref 1)] [] (I, J) _
      refine c_run 1 (pc' := 76) (ls' := [(0, .ref 0), (1, .ref 1)]) (st' := [.ref 1]) (μ' := (I, J)) (Nat.le_of_ble_eq_true rfl) rfl ?_
      refine c_cv 55 [] (b := 1) (r := []) (Nat.le_of_ble_eq_true rfl) rfl rfl rfl rfl rfl rfl (t1_end I J (km (k_sh 1 (I, J))) (k_wf_m hw).1 (k_wf_m hw).2 (kn (k_sh 1 (I, J))) (k_wf_n hw).1 (k_wf_n hw).2 (k_wf_l hw)) ?_
      rintro _ ⟨I2, J2⟩ ⟨rfl, hs2, hf2⟩
      show m_W 34 79 [(0, .ref 0), (1, .ref 1)] [.int ((k_endx (k_sh 1 (I, J))).1)] (I2, J2) _
      refine c_iflt 86 (Nat.le_of_ble_eq_true rfl) rfl rfl (fun h3 => ?_) (fun h3 => ?_)
      · skip
        refine c_run 1 (pc' := 87) (ls' := [(0, .ref 0), (1, .ref 1)]) (st' := [.int 0]) (μ' := (I2, J2)) (Nat.le_of_ble_eq_true rfl) rfl ?_
        refine c_ret (Nat.le_of_ble_eq_true rfl) rfl rfl ⟨by decide, rfl⟩ ?_
        rw [show k_do (k_sh 1 (I, J)) (I 75 2) (I 75 3) (I 75 4) (I 75 5) = _ from by unfold k_do; rw [if_neg (show ¬ I 75 2 = 1 by rw [h1]; decide), if_pos h1]]
        refine ⟨?_, hs2, hf2⟩
        exact congrArg (fun z => some (Value.int z)) (if_pos h3).symm
      · skip
        refine c_run 2 (pc' := 87) (ls' := [(0, .ref 0), (1, .ref 1)]) (st' := [.int 1]) (μ' := (I2, J2)) (Nat.le_of_ble_eq_true rfl) rfl ?_
        refine c_ret (Nat.le_of_ble_eq_true rfl) rfl rfl ⟨by decide, rfl⟩ ?_
        rw [show k_do (k_sh 1 (I, J)) (I 75 2) (I 75 3) (I 75 4) (I 75 5) = _ from by unfold k_do; rw [if_neg (show ¬ I 75 2 = 1 by rw [h1]; decide), if_pos h1]]
        refine ⟨?_, hs2, hf2⟩
        exact congrArg (fun z => some (Value.int z)) (if_neg h3).symm
    · have ho : (81 : Int) = o := by simpa using ho
      subst ho
      have h1 : (I 75 2) = 3 := h1
      show m_W 34 88 [(0, .ref 0), (1, .ref 1)] [] (I, J) _
      refine c_run 4 (pc' := 96) (ls' := [(0, .ref 0), (1, .ref 1)]) (st' := [.int (I 75 5), .ref 1]) (μ' := (I, J)) (Nat.le_of_ble_eq_true rfl) rfl ?_
      refine c_cv 58 [.int (I 75 5)] (b := 1) (r := []) (Nat.le_of_ble_eq_true rfl) rfl rfl rfl rfl rfl rfl (t1_pass I J (I 75 5) (km (k_sh 1 (I, J))) (k_wf_m hw).1 (k_wf_m hw).2 (kn (k_sh 1 (I, J))) (k_wf_n hw).1 (k_wf_n hw).2 (k_wf_l hw)) ?_
      rintro _ ⟨I3, J3⟩ ⟨rfl, hs3, hf3⟩
      show m_W 34 99 [(0, .ref 0), (1, .ref 1)] [.int ((k_passx (k_sh 1 (I, J)) (I 75 5)).1)] (I3, J3) _
      refine c_iflt 106 (Nat.le_of_ble_eq_true rfl) rfl rfl (fun h4 => ?_) (fun h4 => ?_)
      · skip
        refine c_run 1 (pc' := 107) (ls' := [(0, .ref 0), (1, .ref 1)]) (st' := [.int 0]) (μ' := (I3, J3)) (Nat.le_of_ble_eq_true rfl) rfl ?_
        refine c_ret (Nat.le_of_ble_eq_true rfl) rfl rfl ⟨by decide, rfl⟩ ?_
        rw [show k_do (k_sh 1 (I, J)) (I 75 2) (I 75 3) (I 75 4) (I 75 5) = _ from by unfold k_do; rw [if_neg (show ¬ I 75 2 = 1 by rw [h1]; decide), if_neg (show ¬ I 75 2 = 2 by rw [h1]; decide), if_pos h1]]
        refine ⟨?_, hs3, hf3⟩
        exact congrArg (fun z => some (Value.int z)) (if_pos h4).symm
      · skip
        refine c_run 2 (pc' := 107) (ls' := [(0, .ref 0), (1, .ref 1)]) (st' := [.int 1]) (μ' := (I3, J3)) (Nat.le_of_ble_eq_true rfl) rfl ?_
        refine c_ret (Nat.le_of_ble_eq_true rfl) rfl rfl ⟨by decide, rfl⟩ ?_
        rw [show k_do (k_sh 1 (I, J)) (I 75 2) (I 75 3) (I 75 4) (I 75 5) = _ from by unfold k_do; rw [if_neg (show ¬ I 75 2 = 1 by rw [h1]; decide), if_neg (show ¬ I 75 2 = 2 by rw [h1]; decide), if_pos h1]]
        refine ⟨?_, hs3, hf3⟩
        exact congrArg (fun z => some (Value.int z)) (if_neg h4).symm
    · have ho : (101 : Int) = o := by simpa using ho
      subst ho
      have h1 : (I 75 2) = 4 := h1
      show m_W 34 108 [(0, .ref 0), (1, .ref 1)] [] (I, J) _
      refine c_run 6 (pc' := 120) (ls' := [(0, .ref 0), (1, .ref 1)]) (st' := [.int (I 75 3), .ref 24, .ref 1]) (μ' := (I, J)) (Nat.le_of_ble_eq_true rfl) rfl ?_
      refine c_cv 67 [.int (I 75 3)] (b := 24) (r := [.ref 1]) (Nat.le_of_ble_eq_true rfl) rfl rfl rfl rfl rfl rfl (t1_find I J (I 75 3) (km (k_sh 1 (I, J))) (k_wf_m hw).1 (k_wf_m hw).2) ?_
      rintro _ _ ⟨rfl, rfl⟩
      show m_W 34 123 [(0, .ref 0), (1, .ref 1)] [.int (k_en (k_sh 1 (I, J)) (I 75 3)), .ref 1] (I, J) _
      refine c_run 3 (pc' := 130) (ls' := [(0, .ref 0), (1, .ref 1)]) (st' := [.int (I 75 5), .int (k_en (k_sh 1 (I, J)) (I 75 3)), .ref 1]) (μ' := (I, J)) (Nat.le_of_ble_eq_true rfl) rfl ?_
      refine c_cv 56 [.int (k_en (k_sh 1 (I, J)) (I 75 3)), .int (I 75 5)] (b := 1) (r := []) (Nat.le_of_ble_eq_true rfl) rfl rfl rfl rfl rfl rfl (t1_bfor I J (k_en (k_sh 1 (I, J)) (I 75 3)) (I 75 5) hw) ?_
      rintro _ ⟨I4, J4⟩ ⟨rfl, hs4, hf4⟩
      show m_W 34 133 [(0, .ref 0), (1, .ref 1)] [.int ((k_bfor (k_sh 1 (I, J)) (k_en (k_sh 1 (I, J)) (I 75 3)) (I 75 5)).1)] (I4, J4) _
      refine c_ret (Nat.le_of_ble_eq_true rfl) rfl rfl (k_bfor_n _ _ _) ?_
      rw [show k_do (k_sh 1 (I, J)) (I 75 2) (I 75 3) (I 75 4) (I 75 5) = _ from by unfold k_do; rw [if_neg (show ¬ I 75 2 = 1 by rw [h1]; decide), if_neg (show ¬ I 75 2 = 2 by rw [h1]; decide), if_neg (show ¬ I 75 2 = 3 by rw [h1]; decide), if_pos h1]]
      refine ⟨?_, hs4, hf4⟩
      rfl
    · have ho : (127 : Int) = o := by simpa using ho
      subst ho
      have h1 : (I 75 2) = 5 := h1
      show m_W 34 134 [(0, .ref 0), (1, .ref 1)] [] (I, J) _
      refine c_run 6 (pc' := 146) (ls' := [(0, .ref 0), (1, .ref 1)]) (st' := [.int (I 75 3), .ref 24, .ref 1]) (μ' := (I, J)) (Nat.le_of_ble_eq_true rfl) rfl ?_
      refine c_cv 67 [.int (I 75 3)] (b := 24) (r := [.ref 1]) (Nat.le_of_ble_eq_true rfl) rfl rfl rfl rfl rfl rfl (t1_find I J (I 75 3) (km (k_sh 1 (I, J))) (k_wf_m hw).1 (k_wf_m hw).2) ?_
      rintro _ _ ⟨rfl, rfl⟩
      show m_W 34 149 [(0, .ref 0), (1, .ref 1)] [.int (k_en (k_sh 1 (I, J)) (I 75 3)), .ref 1] (I, J) _
      refine c_run 4 (pc' := 157) (ls' := [(0, .ref 0), (1, .ref 1)]) (st' := [.int 1, .int (I 75 4), .int (k_en (k_sh 1 (I, J)) (I 75 3)), .ref 1]) (μ' := (I, J)) (Nat.le_of_ble_eq_true rfl) rfl ?_
      refine c_cv 53 [.int (k_en (k_sh 1 (I, J)) (I 75 3)), .int (I 75 4), .int 1] (b := 1) (r := []) (Nat.le_of_ble_eq_true rfl) rfl rfl rfl rfl rfl rfl (t1_valve I J (k_en (k_sh 1 (I, J)) (I 75 3)) (I 75 4) 1 (km (k_sh 1 (I, J))) (k_wf_m hw).1 (k_wf_m hw).2) ?_
      rintro _ ⟨I5, J5⟩ ⟨rfl, hs5, hf5⟩
      show m_W 34 160 [(0, .ref 0), (1, .ref 1)] [.int ((k_valve (k_sh 1 (I, J)) (k_en (k_sh 1 (I, J)) (I 75 3)) (I 75 4) 1).1)] (I5, J5) _
      refine c_iflt 167 (Nat.le_of_ble_eq_true rfl) rfl rfl (fun h5 => ?_) (fun h5 => ?_)
      · skip
        refine c_run 1 (pc' := 168) (ls' := [(0, .ref 0), (1, .ref 1)]) (st' := [.int 0]) (μ' := (I5, J5)) (Nat.le_of_ble_eq_true rfl) rfl ?_
        refine c_ret (Nat.le_of_ble_eq_true rfl) rfl rfl ⟨by decide, rfl⟩ ?_
        rw [show k_do (k_sh 1 (I, J)) (I 75 2) (I 75 3) (I 75 4) (I 75 5) = _ from by unfold k_do; rw [if_neg (show ¬ I 75 2 = 1 by rw [h1]; decide), if_neg (show ¬ I 75 2 = 2 by rw [h1]; decide), if_neg (show ¬ I 75 2 = 3 by rw [h1]; decide), if_neg (show ¬ I 75 2 = 4 by rw [h1]; decide), if_pos h1]]
        refine ⟨?_, hs5, hf5⟩
        exact congrArg (fun z => some (Value.int z)) (if_pos h5).symm
      · skip
        refine c_run 2 (pc' := 168) (ls' := [(0, .ref 0), (1, .ref 1)]) (st' := [.int 1]) (μ' := (I5, J5)) (Nat.le_of_ble_eq_true rfl) rfl ?_
        refine c_ret (Nat.le_of_ble_eq_true rfl) rfl rfl ⟨by decide, rfl⟩ ?_
        rw [show k_do (k_sh 1 (I, J)) (I 75 2) (I 75 3) (I 75 4) (I 75 5) = _ from by unfold k_do; rw [if_neg (show ¬ I 75 2 = 1 by rw [h1]; decide), if_neg (show ¬ I 75 2 = 2 by rw [h1]; decide), if_neg (show ¬ I 75 2 = 3 by rw [h1]; decide), if_neg (show ¬ I 75 2 = 4 by rw [h1]; decide), if_pos h1]]
        refine ⟨?_, hs5, hf5⟩
        exact congrArg (fun z => some (Value.int z)) (if_neg h5).symm
    · have ho : (162 : Int) = o := by simpa using ho
      subst ho
      have h1 : (I 75 2) = 6 := h1
      show m_W 34 169 [(0, .ref 0), (1, .ref 1)] [] (I, J) _
      refine c_run 6 (pc' := 181) (ls' := [(0, .ref 0), (1, .ref 1)]) (st' := [.int (I 75 3), .ref 24, .ref 1]) (μ' := (I, J)) (Nat.le_of_ble_eq_true rfl) rfl ?_
      refine c_cv 67 [.int (I 75 3)] (b := 24) (r := [.ref 1]) (Nat.le_of_ble_eq_true rfl) rfl rfl rfl rfl rfl rfl (t1_find I J (I 75 3) (km (k_sh 1 (I, J))) (k_wf_m hw).1 (k_wf_m hw).2) ?_
      rintro _ _ ⟨rfl, rfl⟩
      show m_W 34 184 [(0, .ref 0), (1, .ref 1)] [.int (k_en (k_sh 1 (I, J)) (I 75 3)), .ref 1] (I, J) _
      refine c_run 4 (pc' := 192) (ls' := [(0, .ref 0), (1, .ref 1)]) (st' := [.int 0, .int (I 75 4), .int (k_en (k_sh 1 (I, J)) (I 75 3)), .ref 1]) (μ' := (I, J)) (Nat.le_of_ble_eq_true rfl) rfl ?_
      refine c_cv 53 [.int (k_en (k_sh 1 (I, J)) (I 75 3)), .int (I 75 4), .int 0] (b := 1) (r := []) (Nat.le_of_ble_eq_true rfl) rfl rfl rfl rfl rfl rfl (t1_valve I J (k_en (k_sh 1 (I, J)) (I 75 3)) (I 75 4) 0 (km (k_sh 1 (I, J))) (k_wf_m hw).1 (k_wf_m hw).2) ?_
      rintro _ ⟨I6, J6⟩ ⟨rfl, hs6, hf6⟩
      show m_W 34 195 [(0, .ref 0), (1, .ref 1)] [.int ((k_valve (k_sh 1 (I, J)) (k_en (k_sh 1 (I, J)) (I 75 3)) (I 75 4) 0).1)] (I6, J6) _
      refine c_iflt 202 (Nat.le_of_ble_eq_true rfl) rfl rfl (fun h6 => ?_) (fun h6 => ?_)
      · skip
        refine c_run 1 (pc' := 203) (ls' := [(0, .ref 0), (1, .ref 1)]) (st' := [.int 0]) (μ' := (I6, J6)) (Nat.le_of_ble_eq_true rfl) rfl ?_
        refine c_ret (Nat.le_of_ble_eq_true rfl) rfl rfl ⟨by decide, rfl⟩ ?_
        rw [show k_do (k_sh 1 (I, J)) (I 75 2) (I 75 3) (I 75 4) (I 75 5) = _ from by unfold k_do; rw [if_neg (show ¬ I 75 2 = 1 by rw [h1]; decide), if_neg (show ¬ I 75 2 = 2 by rw [h1]; decide), if_neg (show ¬ I 75 2 = 3 by rw [h1]; decide), if_neg (show ¬ I 75 2 = 4 by rw [h1]; decide), if_neg (show ¬ I 75 2 = 5 by rw [h1]; decide), if_pos h1]]
        refine ⟨?_, hs6, hf6⟩
        exact congrArg (fun z => some (Value.int z)) (if_pos h6).symm
      · skip
        refine c_run 2 (pc' := 203) (ls' := [(0, .ref 0), (1, .ref 1)]) (st' := [.int 1]) (μ' := (I6, J6)) (Nat.le_of_ble_eq_true rfl) rfl ?_
        refine c_ret (Nat.le_of_ble_eq_true rfl) rfl rfl ⟨by decide, rfl⟩ ?_
        rw [show k_do (k_sh 1 (I, J)) (I 75 2) (I 75 3) (I 75 4) (I 75 5) = _ from by unfold k_do; rw [if_neg (show ¬ I 75 2 = 1 by rw [h1]; decide), if_neg (show ¬ I 75 2 = 2 by rw [h1]; decide), if_neg (show ¬ I 75 2 = 3 by rw [h1]; decide), if_neg (show ¬ I 75 2 = 4 by rw [h1]; decide), if_neg (show ¬ I 75 2 = 5 by rw [h1]; decide), if_pos h1]]
        refine ⟨?_, hs6, hf6⟩
        exact congrArg (fun z => some (Value.int z)) (if_neg h6).symm
    · have ho : (197 : Int) = o := by simpa using ho
      subst ho
      have h1 : (I 75 2) = 7 := h1
      show m_W 34 204 [(0, .ref 0), (1, .ref 1)] [] (I, J) _
      refine c_run 7 (pc' := 219) (ls' := [(0, .ref 0), (1, .ref 1)]) (st' := [.int (I 75 5), .int (I 75 4), .ref 1]) (μ' := (I, J)) (Nat.le_of_ble_eq_true rfl) rfl ?_
      refine c_cv 62 [.int (I 75 4), .int (I 75 5)] (b := 1) (r := []) (Nat.le_of_ble_eq_true rfl) rfl rfl rfl rfl rfl rfl (t1_read I J (I 75 4) (I 75 5) hw) ?_
      rintro _ ⟨I7, J7⟩ ⟨rfl, hs7, hf7⟩
      show m_W 34 222 [(0, .ref 0), (1, .ref 1)] [.int ((k_read (k_sh 1 (I, J)) (I 75 4) (I 75 5)).1)] (I7, J7) _
      refine c_iflt 229 (Nat.le_of_ble_eq_true rfl) rfl rfl (fun h7 => ?_) (fun h7 => ?_)
      · skip
        refine c_run 1 (pc' := 230) (ls' := [(0, .ref 0), (1, .ref 1)]) (st' := [.int 0]) (μ' := (I7, J7)) (Nat.le_of_ble_eq_true rfl) rfl ?_
        refine c_ret (Nat.le_of_ble_eq_true rfl) rfl rfl ⟨by decide, rfl⟩ ?_
        rw [show k_do (k_sh 1 (I, J)) (I 75 2) (I 75 3) (I 75 4) (I 75 5) = _ from by unfold k_do; rw [if_neg (show ¬ I 75 2 = 1 by rw [h1]; decide), if_neg (show ¬ I 75 2 = 2 by rw [h1]; decide), if_neg (show ¬ I 75 2 = 3 by rw [h1]; decide), if_neg (show ¬ I 75 2 = 4 by rw [h1]; decide), if_neg (show ¬ I 75 2 = 5 by rw [h1]; decide), if_neg (show ¬ I 75 2 = 6 by rw [h1]; decide), if_pos h1]]
        refine ⟨?_, hs7, hf7⟩
        exact congrArg (fun z => some (Value.int z)) (if_pos h7).symm
      · skip
        refine c_run 2 (pc' := 230) (ls' := [(0, .ref 0), (1, .ref 1)]) (st' := [.int 1]) (μ' := (I7, J7)) (Nat.le_of_ble_eq_true rfl) rfl ?_
        refine c_ret (Nat.le_of_ble_eq_true rfl) rfl rfl ⟨by decide, rfl⟩ ?_
        rw [show k_do (k_sh 1 (I, J)) (I 75 2) (I 75 3) (I 75 4) (I 75 5) = _ from by unfold k_do; rw [if_neg (show ¬ I 75 2 = 1 by rw [h1]; decide), if_neg (show ¬ I 75 2 = 2 by rw [h1]; decide), if_neg (show ¬ I 75 2 = 3 by rw [h1]; decide), if_neg (show ¬ I 75 2 = 4 by rw [h1]; decide), if_neg (show ¬ I 75 2 = 5 by rw [h1]; decide), if_neg (show ¬ I 75 2 = 6 by rw [h1]; decide), if_pos h1]]
        refine ⟨?_, hs7, hf7⟩
        exact congrArg (fun z => some (Value.int z)) (if_neg h7).symm

set_option maxRecDepth 100000 in
theorem t1_pt_l (μ0 : m_M) (g : Nat → Int32) (n : Nat) (hn : n ≤ 100) (hg : ∀ i, i < n → 32 ≤ g i ∧ g i ≤ 126) : ∀ (r i : Nat), i + r = 100 → ∀ (s p : Nat) (I : Nat → Nat → Int32) (J : Nat → Nat → Int64) (κ : k_M), i ≤ s → s ≤ 131 → p ≤ i → k_sh 1 (I, J) = κ → k_wf κ → I 75 0 = nI n → I 76 = g → x_fr 1 μ0 (I, J) → m_W 33 7 [(0, .ref 0), (1, .ref 1), (2, .int (nI p)), (3, .int (nI s)), (4, .int (nI i))] [] (I, J) (x_Q 1 μ0 (k_run (s_ch g n) n r s p κ)) := by
  intro r
  induction r with
  | zero =>
    intro i hir s p I J κ hs1 hs2 hp1 hκ hw h0 hT hf0
    have hc : ∀ i, i < n → 32 ≤ I 76 i ∧ I 76 i ≤ 126 := by rw [hT]; exact hg
    refine c_run 2 (pc' := 11) (ls' := [(0, .ref 0), (1, .ref 1), (2, .int (nI p)), (3, .int (nI s)), (4, .int (nI i))]) (st' := [.int 100, .int (nI i)]) (μ' := (I, J)) (Nat.le_of_ble_eq_true rfl) rfl ?_
    refine c_icge 63 (Nat.le_of_ble_eq_true rfl) rfl rfl (fun h1 => ?_) (fun h1 => absurd (show nI 100 ≤ nI i from nI_le (by omega) (by omega)) h1)
    refine c_run 1 (pc' := 64) (ls' := [(0, .ref 0), (1, .ref 1), (2, .int (nI p)), (3, .int (nI s)), (4, .int (nI i))]) (st' := [.int (nI p)]) (μ' := (I, J)) (Nat.le_of_ble_eq_true rfl) rfl ?_
    refine c_ret (Nat.le_of_ble_eq_true rfl) rfl rfl ⟨by decide, rfl⟩ ?_
    exact ⟨rfl, hκ, hf0⟩
  | succ r ih =>
    intro i hir s p I J κ hs1 hs2 hp1 hκ hw h0 hT hf0
    have hc : ∀ i, i < n → 32 ≤ I 76 i ∧ I 76 i ≤ 126 := by rw [hT]; exact hg
    refine c_run 2 (pc' := 11) (ls' := [(0, .ref 0), (1, .ref 1), (2, .int (nI p)), (3, .int (nI s)), (4, .int (nI i))]) (st' := [.int 100, .int (nI i)]) (μ' := (I, J)) (Nat.le_of_ble_eq_true rfl) rfl ?_
    refine c_icge 63 (Nat.le_of_ble_eq_true rfl) rfl rfl (fun h1 => absurd h1 (show ¬ nI 100 ≤ nI i from nI_ge (by omega) (by omega))) (fun h1 => ?_)
    refine c_run 4 (pc' := 22) (ls' := [(0, .ref 0), (1, .ref 1), (2, .int (nI p)), (3, .int (nI s)), (4, .int (nI i))]) (st' := [.int (I 75 0), .int (nI s)]) (μ' := (I, J)) (Nat.le_of_ble_eq_true rfl) rfl ?_
    refine c_icge 63 (Nat.le_of_ble_eq_true rfl) rfl rfl (fun h2 => ?_) (fun h2 => ?_)
    · skip
      refine c_run 1 (pc' := 64) (ls' := [(0, .ref 0), (1, .ref 1), (2, .int (nI p)), (3, .int (nI s)), (4, .int (nI i))]) (st' := [.int (nI p)]) (μ' := (I, J)) (Nat.le_of_ble_eq_true rfl) rfl ?_
      refine c_ret (Nat.le_of_ble_eq_true rfl) rfl rfl ⟨by decide, rfl⟩ ?_
      have hsn : ¬ s < n := fun q => absurd (show nI n ≤ nI s by rw [← h0]; assumption) (nI_ge q (by omega))
      rw [k_run, if_neg hsn]
      exact ⟨rfl, hκ, hf0⟩
    · skip
      refine c_run 3 (pc' := 30) (ls' := [(0, .ref 0), (1, .ref 1), (2, .int (nI p)), (3, .int (nI s)), (4, .int (nI i))]) (st' := [.int (nI s), .ref 75]) (μ' := (I, J)) (Nat.le_of_ble_eq_true rfl) rfl ?_
      have hsn : s < n := (nI_ltI (by omega) (by omega)).mp (show nI s < nI n by rw [← h0]; exact Int32.not_le.mp (by assumption))
      have hcall := t_pat I J n h0 hn hc s (by omega) (I 75 1) (I 75 2) (I 75 3) (I 75 4) (I 75 5)
      rw [c_tx_id] at hcall
      rcases hp : p_at (s_ch (I 76) n) s with _ | q
      · skip
        rw [hp] at hcall
        show m_W 33 30 [(0, .ref 0), (1, .ref 1), (2, .int (nI p)), (3, .int (nI s)), (4, .int (nI i))] [.int (nI s), .ref 75] (I, J) _
        refine c_cv 41 [.int (nI s)] (b := 75) (r := []) (Nat.le_of_ble_eq_true rfl) rfl rfl rfl rfl rfl rfl (hcall) ?_
        rintro _ _ ⟨rfl, a1, c1, nm1, t1, nu1, rfl⟩
        show m_W 33 33 [(0, .ref 0), (1, .ref 1), (2, .int (nI p)), (3, .int (nI s)), (4, .int (nI i))] [.int 0] ((c_tx I a1 c1 nm1 t1 nu1), J) _
        refine c_ifeq 44 (Nat.le_of_ble_eq_true rfl) rfl rfl (fun h3 => ?_) (fun h3 => absurd (by decide) h3)
        refine c_run 1 (pc' := 45) (ls' := [(0, .ref 0), (1, .ref 1), (2, .int (nI p)), (3, .int (nI s)), (4, .int (nI i))]) (st' := [.int (nI p)]) (μ' := ((c_tx I a1 c1 nm1 t1 nu1), J)) (Nat.le_of_ble_eq_true rfl) rfl ?_
        refine c_ret (Nat.le_of_ble_eq_true rfl) rfl rfl ⟨by decide, rfl⟩ ?_
        rw [k_run, if_pos hsn, ← hT, hp]
        exact ⟨rfl, (k_sh_tx (by decide)).trans hκ, hf0.tr x_fr.tx⟩
      · skip
        rw [hp] at hcall
        show m_W 33 30 [(0, .ref 0), (1, .ref 1), (2, .int (nI p)), (3, .int (nI s)), (4, .int (nI i))] [.int (nI s), .ref 75] (I, J) _
        refine c_cv 41 [.int (nI s)] (b := 75) (r := []) (Nat.le_of_ble_eq_true rfl) rfl rfl rfl rfl rfl rfl (hcall) ?_
        rintro _ _ ⟨rfl, nm1, t1, nu1, rfl, hus⟩
        have hqb := p_at_b hp
        show m_W 33 33 [(0, .ref 0), (1, .ref 1), (2, .int (nI p)), (3, .int (nI s)), (4, .int (nI i))] [.int 1] ((c_tx I (nI q.1) q.2.1 nm1 t1 nu1), J) _
        refine c_ifeq 44 (Nat.le_of_ble_eq_true rfl) rfl rfl (fun h4 => absurd h4 (by decide)) (fun h4 => ?_)
        refine c_run 2 (pc' := 38) (ls' := [(0, .ref 0), (1, .ref 1), (2, .int (nI p)), (3, .int (nI s)), (4, .int (nI i))]) (st' := [.ref 1, .ref 0]) (μ' := ((c_tx I (nI q.1) q.2.1 nm1 t1 nu1), J)) (Nat.le_of_ble_eq_true rfl) rfl ?_
        refine c_cv 34 [.ref 1] (b := 0) (r := []) (Nat.le_of_ble_eq_true rfl) rfl rfl rfl rfl rfl rfl (t1_cmd (c_tx I (nI q.1) q.2.1 nm1 t1 nu1) J (by rw [k_sh_tx (by decide), hκ]; exact hw)) ?_
        rintro _ ⟨I1, J1⟩ ⟨rfl, hs1b, hf1⟩
        have hdo : k_do (k_sh 1 ((c_tx I (nI q.1) q.2.1 nm1 t1 nu1), J)) q.2.1 nm1 t1 nu1 = k_doq κ q := by rw [k_sh_tx (by decide), hκ]; exact k_do_us hus
        replace hs1b : k_sh 1 (I1, J1) = (k_doq κ q).2 := by rw [hs1b]; exact congrArg Prod.snd hdo
        rw [show (k_do (k_sh 1 ((c_tx I (nI q.1) q.2.1 nm1 t1 nu1), J)) ((c_tx I (nI q.1) q.2.1 nm1 t1 nu1) 75 2) ((c_tx I (nI q.1) q.2.1 nm1 t1 nu1) 75 3) ((c_tx I (nI q.1) q.2.1 nm1 t1 nu1) 75 4) ((c_tx I (nI q.1) q.2.1 nm1 t1 nu1) 75 5)).1 = (k_doq κ q).1 from congrArg Prod.fst hdo]
        show m_W 33 41 [(0, .ref 0), (1, .ref 1), (2, .int (nI p)), (3, .int (nI s)), (4, .int (nI i))] [.int ((k_doq κ q).1)] (I1, J1) _
        refine c_ifne 46 (Nat.le_of_ble_eq_true rfl) rfl rfl (fun h5 => ?_) (fun h5 => ?_)
        · skip
          refine c_run 7 (pc' := 7) (ls' := [(4, .int ((nI i) + (1 : Int32))), (3, .int (I1 75 1)), (2, .int ((nI p) + (1 : Int32))), (0, .ref 0), (1, .ref 1)]) (st' := []) (μ' := (I1, J1)) (Nat.le_of_ble_eq_true rfl) rfl ?_
          refine c_w [3, 4, 2, 1, 0] (ls' := [(0, .ref 0), (1, .ref 1), (2, .int ((nI p) + (1 : Int32))), (3, .int (I1 75 1)), (4, .int ((nI i) + (1 : Int32)))]) rfl ?_
          rw [nI_1 i, nI_1 p, show (I1 75 1) = nI q.1 from congrFun (hf1 75 (by decide)).1 1, k_run, if_pos hsn, ← hT, hp]
          dsimp only
          rw [if_neg (by assumption)]
          rw [hT]
          exact ih (i + 1) (by omega) q.1 (p + 1) I1 J1 _ (by omega) (by omega) (by omega) hs1b (k_do_wf hw) ((congrFun (hf1 75 (by decide)).1 0).trans h0) ((hf1 76 (by decide)).1.trans hT) ((hf0.tr x_fr.tx).tr (x_fr.of (by decide) hf1))
        · skip
          refine c_run 1 (pc' := 45) (ls' := [(0, .ref 0), (1, .ref 1), (2, .int (nI p)), (3, .int (nI s)), (4, .int (nI i))]) (st' := [.int (nI p)]) (μ' := (I1, J1)) (Nat.le_of_ble_eq_true rfl) rfl ?_
          refine c_ret (Nat.le_of_ble_eq_true rfl) rfl rfl ⟨by decide, rfl⟩ ?_
          rw [k_run, if_pos hsn, ← hT, hp]
          dsimp only
          rw [if_pos (by assumption)]
          exact ⟨rfl, hs1b, (hf0.tr x_fr.tx).tr (x_fr.of (by decide) hf1)⟩

set_option maxRecDepth 100000 in
theorem t1_ptx (I : Nat → Nat → Int32) (J : Nat → Nat → Int64) (n : Nat) (h0 : I 75 0 = nI n) (hn : n ≤ 100) (hc : ∀ i, i < n → 32 ≤ I 76 i ∧ I 76 i ≤ 126)  (hw : k_wf (k_sh 1 (I, J))) : m_W 33 0 (lv_args 0 [.ref 0, .ref 1]) [] (I, J) (x_Q 1 (I, J) (k_run (s_ch (I 76) n) n 100 0 0 (k_sh 1 (I, J)))) := by
  show m_W 33 0 [(0, .ref 0), (1, .ref 1)] [] (I, J) _
  refine c_run 6 (pc' := 7) (ls' := [(4, .int 0), (3, .int 0), (2, .int 0), (0, .ref 0), (1, .ref 1)]) (st' := []) (μ' := (I, J)) (Nat.le_of_ble_eq_true rfl) rfl ?_
  refine c_w [3, 4, 2, 1, 0] (ls' := [(0, .ref 0), (1, .ref 1), (2, .int 0), (3, .int 0), (4, .int 0)]) rfl ?_
  exact t1_pt_l (I, J) (I 76) n hn hc 100 0 (by omega) 0 0 I J (k_sh 1 (I, J)) (by omega) (by omega) (by omega) rfl hw h0 rfl x_fr.rf

set_option maxRecDepth 100000 in
theorem t38_cmd (I : Nat → Nat → Int32) (J : Nat → Nat → Int64)  (hw : k_wf (k_sh 38 (I, J))) : m_W 34 0 (lv_args 0 [.ref 0, .ref 38]) [] (I, J) (k_E 38 (I, J) (some (.int (k_do (k_sh 38 (I, J)) (I 75 2) (I 75 3) (I 75 4) (I 75 5)).1)) (k_do (k_sh 38 (I, J)) (I 75 2) (I 75 3) (I 75 4) (I 75 5)).2) := by
  show m_W 34 0 [(0, .ref 0), (1, .ref 38)] [] (I, J) _
  refine c_run 3 (pc' := 7) (ls' := [(0, .ref 0), (1, .ref 38)]) (st' := [.int (I 75 2)]) (μ' := (I, J)) (Nat.le_of_ble_eq_true rfl) rfl ?_
  refine c_sw (Nat.le_of_ble_eq_true rfl) rfl 231 rfl (fun h1 => ?_) (fun j o ho h1 _ => ?_)
  · skip
    refine c_run 1 (pc' := 232) (ls' := [(0, .ref 0), (1, .ref 38)]) (st' := [.int 0]) (μ' := (I, J)) (Nat.le_of_ble_eq_true rfl) rfl ?_
    refine c_ret (Nat.le_of_ble_eq_true rfl) rfl rfl ⟨by decide, rfl⟩ ?_
    rw [show k_do (k_sh 38 (I, J)) (I 75 2) (I 75 3) (I 75 4) (I 75 5) = (0, (k_sh 38 (I, J))) from by unfold k_do; rw [if_neg (fun q => by rw [q] at h1; revert h1; decide), if_neg (fun q => by rw [q] at h1; revert h1; decide), if_neg (fun q => by rw [q] at h1; revert h1; decide), if_neg (fun q => by rw [q] at h1; revert h1; decide), if_neg (fun q => by rw [q] at h1; revert h1; decide), if_neg (fun q => by rw [q] at h1; revert h1; decide), if_neg (fun q => by rw [q] at h1; revert h1; decide)]]
    exact ⟨rfl, rfl, m_fr.rf⟩
  · have hj : j < 7 := (Array.getElem?_eq_some_iff.mp ho).1
    have h1 : (I 75 2) = Int32.ofInt (1 + (j : Int)) := by rw [← h1, Int32.ofInt_toInt]
    rcases (show j = 0 ∨ j = 1 ∨ j = 2 ∨ j = 3 ∨ j = 4 ∨ j = 5 ∨ j = 6 by omega) with rfl | rfl | rfl | rfl | rfl | rfl | rfl
    · have ho : (41 : Int) = o := by simpa using ho
      subst ho
      have h1 : (I 75 2) = 1 := h1
      show m_W 34 48 [(0, .ref 0), (1, .ref 38)] [] (I, J) _
      refine c_run 6 (pc' := 60) (ls' := [(0, .ref 0), (1, .ref 38)]) (st' := [.int (I 75 3), .ref 61, .ref 38]) (μ' := (I, J)) (Nat.le_of_ble_eq_true rfl) rfl ?_
      refine c_cv 67 [.int (I 75 3)] (b := 61) (r := [.ref 38]) (Nat.le_of_ble_eq_true rfl) rfl rfl rfl rfl rfl rfl (t38_find I J (I 75 3) (km (k_sh 38 (I, J))) (k_wf_m hw).1 (k_wf_m hw).2) ?_
      rintro _ _ ⟨rfl, rfl⟩
      show m_W 34 63 [(0, .ref 0), (1, .ref 38)] [.int (k_en (k_sh 38 (I, J)) (I 75 3)), .ref 38] (I, J) _
      refine c_cv 54 [.int (k_en (k_sh 38 (I, J)) (I 75 3))] (b := 38) (r := []) (Nat.le_of_ble_eq_true rfl) rfl rfl rfl rfl rfl rfl (t38_begin I J (k_en (k_sh 38 (I, J)) (I 75 3)) (km (k_sh 38 (I, J))) (k_wf_m hw).1 (k_wf_m hw).2) ?_
      rintro _ ⟨I1, J1⟩ ⟨rfl, hs1, hf1⟩
      show m_W 34 66 [(0, .ref 0), (1, .ref 38)] [.int ((k_begin (k_sh 38 (I, J)) (k_en (k_sh 38 (I, J)) (I 75 3))).1)] (I1, J1) _
      refine c_iflt 73 (Nat.le_of_ble_eq_true rfl) rfl rfl (fun h2 => ?_) (fun h2 => ?_)
      · skip
        refine c_run 1 (pc' := 74) (ls' := [(0, .ref 0), (1, .ref 38)]) (st' := [.int 0]) (μ' := (I1, J1)) (Nat.le_of_ble_eq_true rfl) rfl ?_
        refine c_ret (Nat.le_of_ble_eq_true rfl) rfl rfl ⟨by decide, rfl⟩ ?_
        rw [show k_do (k_sh 38 (I, J)) (I 75 2) (I 75 3) (I 75 4) (I 75 5) = _ from by unfold k_do; rw [if_pos h1]]
        refine ⟨?_, hs1, hf1⟩
        exact congrArg (fun z => some (Value.int z)) (if_pos h2).symm
      · skip
        refine c_run 2 (pc' := 74) (ls' := [(0, .ref 0), (1, .ref 38)]) (st' := [.int 1]) (μ' := (I1, J1)) (Nat.le_of_ble_eq_true rfl) rfl ?_
        refine c_ret (Nat.le_of_ble_eq_true rfl) rfl rfl ⟨by decide, rfl⟩ ?_
        rw [show k_do (k_sh 38 (I, J)) (I 75 2) (I 75 3) (I 75 4) (I 75 5) = _ from by unfold k_do; rw [if_pos h1]]
        refine ⟨?_, hs1, hf1⟩
        exact congrArg (fun z => some (Value.int z)) (if_neg h2).symm
    · have ho : (68 : Int) = o := by simpa using ho
      subst ho
      have h1 : (I 75 2) = 2 := h1
      show m_W 34 75 [(0, .ref 0), (1, .ref 38)] [] (I, J) _
      refine c_run 1 (pc' := 76) (ls' := [(0, .ref 0), (1, .ref 38)]) (st' := [.ref 38]) (μ' := (I, J)) (Nat.le_of_ble_eq_true rfl) rfl ?_
      refine c_cv 55 [] (b := 38) (r := []) (Nat.le_of_ble_eq_true rfl) rfl rfl rfl rfl rfl rfl (t38_end I J (km (k_sh 38 (I, J))) (k_wf_m hw).1 (k_wf_m hw).2 (kn (k_sh 38 (I, J))) (k_wf_n hw).1 (k_wf_n hw).2 (k_wf_l hw)) ?_
      rintro _ ⟨I2, J2⟩ ⟨rfl, hs2, hf2⟩
      show m_W 34 79 [(0, .ref 0), (1, .ref 38)] [.int ((k_endx (k_sh 38 (I, J))).1)] (I2, J2) _
      refine c_iflt 86 (Nat.le_of_ble_eq_true rfl) rfl rfl (fun h3 => ?_) (fun h3 => ?_)
      · skip
        refine c_run 1 (pc' := 87) (ls' := [(0, .ref 0), (1, .ref 38)]) (st' := [.int 0]) (μ' := (I2, J2)) (Nat.le_of_ble_eq_true rfl) rfl ?_
        refine c_ret (Nat.le_of_ble_eq_true rfl) rfl rfl ⟨by decide, rfl⟩ ?_
        rw [show k_do (k_sh 38 (I, J)) (I 75 2) (I 75 3) (I 75 4) (I 75 5) = _ from by unfold k_do; rw [if_neg (show ¬ I 75 2 = 1 by rw [h1]; decide), if_pos h1]]
        refine ⟨?_, hs2, hf2⟩
        exact congrArg (fun z => some (Value.int z)) (if_pos h3).symm
      · skip
        refine c_run 2 (pc' := 87) (ls' := [(0, .ref 0), (1, .ref 38)]) (st' := [.int 1]) (μ' := (I2, J2)) (Nat.le_of_ble_eq_true rfl) rfl ?_
        refine c_ret (Nat.le_of_ble_eq_true rfl) rfl rfl ⟨by decide, rfl⟩ ?_
        rw [show k_do (k_sh 38 (I, J)) (I 75 2) (I 75 3) (I 75 4) (I 75 5) = _ from by unfold k_do; rw [if_neg (show ¬ I 75 2 = 1 by rw [h1]; decide), if_pos h1]]
        refine ⟨?_, hs2, hf2⟩
        exact congrArg (fun z => some (Value.int z)) (if_neg h3).symm
    · have ho : (81 : Int) = o := by simpa using ho
      subst ho
      have h1 : (I 75 2) = 3 := h1
      show m_W 34 88 [(0, .ref 0), (1, .ref 38)] [] (I, J) _
      refine c_run 4 (pc' := 96) (ls' := [(0, .ref 0), (1, .ref 38)]) (st' := [.int (I 75 5), .ref 38]) (μ' := (I, J)) (Nat.le_of_ble_eq_true rfl) rfl ?_
      refine c_cv 58 [.int (I 75 5)] (b := 38) (r := []) (Nat.le_of_ble_eq_true rfl) rfl rfl rfl rfl rfl rfl (t38_pass I J (I 75 5) (km (k_sh 38 (I, J))) (k_wf_m hw).1 (k_wf_m hw).2 (kn (k_sh 38 (I, J))) (k_wf_n hw).1 (k_wf_n hw).2 (k_wf_l hw)) ?_
      rintro _ ⟨I3, J3⟩ ⟨rfl, hs3, hf3⟩
      show m_W 34 99 [(0, .ref 0), (1, .ref 38)] [.int ((k_passx (k_sh 38 (I, J)) (I 75 5)).1)] (I3, J3) _
      refine c_iflt 106 (Nat.le_of_ble_eq_true rfl) rfl rfl (fun h4 => ?_) (fun h4 => ?_)
      · skip
        refine c_run 1 (pc' := 107) (ls' := [(0, .ref 0), (1, .ref 38)]) (st' := [.int 0]) (μ' := (I3, J3)) (Nat.le_of_ble_eq_true rfl) rfl ?_
        refine c_ret (Nat.le_of_ble_eq_true rfl) rfl rfl ⟨by decide, rfl⟩ ?_
        rw [show k_do (k_sh 38 (I, J)) (I 75 2) (I 75 3) (I 75 4) (I 75 5) = _ from by unfold k_do; rw [if_neg (show ¬ I 75 2 = 1 by rw [h1]; decide), if_neg (show ¬ I 75 2 = 2 by rw [h1]; decide), if_pos h1]]
        refine ⟨?_, hs3, hf3⟩
        exact congrArg (fun z => some (Value.int z)) (if_pos h4).symm
      · skip
        refine c_run 2 (pc' := 107) (ls' := [(0, .ref 0), (1, .ref 38)]) (st' := [.int 1]) (μ' := (I3, J3)) (Nat.le_of_ble_eq_true rfl) rfl ?_
        refine c_ret (Nat.le_of_ble_eq_true rfl) rfl rfl ⟨by decide, rfl⟩ ?_
        rw [show k_do (k_sh 38 (I, J)) (I 75 2) (I 75 3) (I 75 4) (I 75 5) = _ from by unfold k_do; rw [if_neg (show ¬ I 75 2 = 1 by rw [h1]; decide), if_neg (show ¬ I 75 2 = 2 by rw [h1]; decide), if_pos h1]]
        refine ⟨?_, hs3, hf3⟩
        exact congrArg (fun z => some (Value.int z)) (if_neg h4).symm
    · have ho : (101 : Int) = o := by simpa using ho
      subst ho
      have h1 : (I 75 2) = 4 := h1
      show m_W 34 108 [(0, .ref 0), (1, .ref 38)] [] (I, J) _
      refine c_run 6 (pc' := 120) (ls' := [(0, .ref 0), (1, .ref 38)]) (st' := [.int (I 75 3), .ref 61, .ref 38]) (μ' := (I, J)) (Nat.le_of_ble_eq_true rfl) rfl ?_
      refine c_cv 67 [.int (I 75 3)] (b := 61) (r := [.ref 38]) (Nat.le_of_ble_eq_true rfl) rfl rfl rfl rfl rfl rfl (t38_find I J (I 75 3) (km (k_sh 38 (I, J))) (k_wf_m hw).1 (k_wf_m hw).2) ?_
      rintro _ _ ⟨rfl, rfl⟩
      show m_W 34 123 [(0, .ref 0), (1, .ref 38)] [.int (k_en (k_sh 38 (I, J)) (I 75 3)), .ref 38] (I, J) _
      refine c_run 3 (pc' := 130) (ls' := [(0, .ref 0), (1, .ref 38)]) (st' := [.int (I 75 5), .int (k_en (k_sh 38 (I, J)) (I 75 3)), .ref 38]) (μ' := (I, J)) (Nat.le_of_ble_eq_true rfl) rfl ?_
      refine c_cv 56 [.int (k_en (k_sh 38 (I, J)) (I 75 3)), .int (I 75 5)] (b := 38) (r := []) (Nat.le_of_ble_eq_true rfl) rfl rfl rfl rfl rfl rfl (t38_bfor I J (k_en (k_sh 38 (I, J)) (I 75 3)) (I 75 5) hw) ?_
      rintro _ ⟨I4, J4⟩ ⟨rfl, hs4, hf4⟩
      show m_W 34 133 [(0, .ref 0), (1, .ref 38)] [.int ((k_bfor (k_sh 38 (I, J)) (k_en (k_sh 38 (I, J)) (I 75 3)) (I 75 5)).1)] (I4, J4) _
      refine c_ret (Nat.le_of_ble_eq_true rfl) rfl rfl (k_bfor_n _ _ _) ?_
      rw [show k_do (k_sh 38 (I, J)) (I 75 2) (I 75 3) (I 75 4) (I 75 5) = _ from by unfold k_do; rw [if_neg (show ¬ I 75 2 = 1 by rw [h1]; decide), if_neg (show ¬ I 75 2 = 2 by rw [h1]; decide), if_neg (show ¬ I 75 2 = 3 by rw [h1]; decide), if_pos h1]]
      refine ⟨?_, hs4, hf4⟩
      rfl
    · have ho : (127 : Int) = o := by simpa using ho
      subst ho
      have h1 : (I 75 2) = 5 := h1
      show m_W 34 134 [(0, .ref 0), (1, .ref 38)] [] (I, J) _
      refine c_run 6 (pc' := 146) (ls' := [(0, .ref 0), (1, .ref 38)]) (st' := [.int (I 75 3), .ref 61, .ref 38]) (μ' := (I, J)) (Nat.le_of_ble_eq_true rfl) rfl ?_
      refine c_cv 67 [.int (I 75 3)] (b := 61) (r := [.ref 38]) (Nat.le_of_ble_eq_true rfl) rfl rfl rfl rfl rfl rfl (t38_find I J (I 75 3) (km (k_sh 38 (I, J))) (k_wf_m hw).1 (k_wf_m hw).2) ?_
      rintro _ _ ⟨rfl, rfl⟩
      show m_W 34 149 [(0, .ref 0), (1, .ref 38)] [.int (k_en (k_sh 38 (I, J)) (I 75 3)), .ref 38] (I, J) _
      refine c_run 4 (pc' := 157) (ls' := [(0, .ref 0), (1, .ref 38)]) (st' := [.int 1, .int (I 75 4), .int (k_en (k_sh 38 (I, J)) (I 75 3)), .ref 38]) (μ' := (I, J)) (Nat.le_of_ble_eq_true rfl) rfl ?_
      refine c_cv 53 [.int (k_en (k_sh 38 (I, J)) (I 75 3)), .int (I 75 4), .int 1] (b := 38) (r := []) (Nat.le_of_ble_eq_true rfl) rfl rfl rfl rfl rfl rfl (t38_valve I J (k_en (k_sh 38 (I, J)) (I 75 3)) (I 75 4) 1 (km (k_sh 38 (I, J))) (k_wf_m hw).1 (k_wf_m hw).2) ?_
      rintro _ ⟨I5, J5⟩ ⟨rfl, hs5, hf5⟩
      show m_W 34 160 [(0, .ref 0), (1, .ref 38)] [.int ((k_valve (k_sh 38 (I, J)) (k_en (k_sh 38 (I, J)) (I 75 3)) (I 75 4) 1).1)] (I5, J5) _
      refine c_iflt 167 (Nat.le_of_ble_eq_true rfl) rfl rfl (fun h5 => ?_) (fun h5 => ?_)
      · skip
        refine c_run 1 (pc' := 168) (ls' := [(0, .ref 0), (1, .ref 38)]) (st' := [.int 0]) (μ' := (I5, J5)) (Nat.le_of_ble_eq_true rfl) rfl ?_
        refine c_ret (Nat.le_of_ble_eq_true rfl) rfl rfl ⟨by decide, rfl⟩ ?_
        rw [show k_do (k_sh 38 (I, J)) (I 75 2) (I 75 3) (I 75 4) (I 75 5) = _ from by unfold k_do; rw [if_neg (show ¬ I 75 2 = 1 by rw [h1]; decide), if_neg (show ¬ I 75 2 = 2 by rw [h1]; decide), if_neg (show ¬ I 75 2 = 3 by rw [h1]; decide), if_neg (show ¬ I 75 2 = 4 by rw [h1]; decide), if_pos h1]]
        refine ⟨?_, hs5, hf5⟩
        exact congrArg (fun z => some (Value.int z)) (if_pos h5).symm
      · skip
        refine c_run 2 (pc' := 168) (ls' := [(0, .ref 0), (1, .ref 38)]) (st' := [.int 1]) (μ' := (I5, J5)) (Nat.le_of_ble_eq_true rfl) rfl ?_
        refine c_ret (Nat.le_of_ble_eq_true rfl) rfl rfl ⟨by decide, rfl⟩ ?_
        rw [show k_do (k_sh 38 (I, J)) (I 75 2) (I 75 3) (I 75 4) (I 75 5) = _ from by unfold k_do; rw [if_neg (show ¬ I 75 2 = 1 by rw [h1]; decide), if_neg (show ¬ I 75 2 = 2 by rw [h1]; decide), if_neg (show ¬ I 75 2 = 3 by rw [h1]; decide), if_neg (show ¬ I 75 2 = 4 by rw [h1]; decide), if_pos h1]]
        refine ⟨?_, hs5, hf5⟩
        exact congrArg (fun z => some (Value.int z)) (if_neg h5).symm
    · have ho : (162 : Int) = o := by simpa using ho
      subst ho
      have h1 : (I 75 2) = 6 := h1
      show m_W 34 169 [(0, .ref 0), (1, .ref 38)] [] (I, J) _
      refine c_run 6 (pc' := 181) (ls' := [(0, .ref 0), (1, .ref 38)]) (st' := [.int (I 75 3), .ref 61, .ref 38]) (μ' := (I, J)) (Nat.le_of_ble_eq_true rfl) rfl ?_
      refine c_cv 67 [.int (I 75 3)] (b := 61) (r := [.ref 38]) (Nat.le_of_ble_eq_true rfl) rfl rfl rfl rfl rfl rfl (t38_find I J (I 75 3) (km (k_sh 38 (I, J))) (k_wf_m hw).1 (k_wf_m hw).2) ?_
      rintro _ _ ⟨rfl, rfl⟩
      show m_W 34 184 [(0, .ref 0), (1, .ref 38)] [.int (k_en (k_sh 38 (I, J)) (I 75 3)), .ref 38] (I, J) _
      refine c_run 4 (pc' := 192) (ls' := [(0, .ref 0), (1, .ref 38)]) (st' := [.int 0, .int (I 75 4), .int (k_en (k_sh 38 (I, J)) (I 75 3)), .ref 38]) (μ' := (I, J)) (Nat.le_of_ble_eq_true rfl) rfl ?_
      refine c_cv 53 [.int (k_en (k_sh 38 (I, J)) (I 75 3)), .int (I 75 4), .int 0] (b := 38) (r := []) (Nat.le_of_ble_eq_true rfl) rfl rfl rfl rfl rfl rfl (t38_valve I J (k_en (k_sh 38 (I, J)) (I 75 3)) (I 75 4) 0 (km (k_sh 38 (I, J))) (k_wf_m hw).1 (k_wf_m hw).2) ?_
      rintro _ ⟨I6, J6⟩ ⟨rfl, hs6, hf6⟩
      show m_W 34 195 [(0, .ref 0), (1, .ref 38)] [.int ((k_valve (k_sh 38 (I, J)) (k_en (k_sh 38 (I, J)) (I 75 3)) (I 75 4) 0).1)] (I6, J6) _
      refine c_iflt 202 (Nat.le_of_ble_eq_true rfl) rfl rfl (fun h6 => ?_) (fun h6 => ?_)
      · skip
        refine c_run 1 (pc' := 203) (ls' := [(0, .ref 0), (1, .ref 38)]) (st' := [.int 0]) (μ' := (I6, J6)) (Nat.le_of_ble_eq_true rfl) rfl ?_
        refine c_ret (Nat.le_of_ble_eq_true rfl) rfl rfl ⟨by decide, rfl⟩ ?_
        rw [show k_do (k_sh 38 (I, J)) (I 75 2) (I 75 3) (I 75 4) (I 75 5) = _ from by unfold k_do; rw [if_neg (show ¬ I 75 2 = 1 by rw [h1]; decide), if_neg (show ¬ I 75 2 = 2 by rw [h1]; decide), if_neg (show ¬ I 75 2 = 3 by rw [h1]; decide), if_neg (show ¬ I 75 2 = 4 by rw [h1]; decide), if_neg (show ¬ I 75 2 = 5 by rw [h1]; decide), if_pos h1]]
        refine ⟨?_, hs6, hf6⟩
        exact congrArg (fun z => some (Value.int z)) (if_pos h6).symm
      · skip
        refine c_run 2 (pc' := 203) (ls' := [(0, .ref 0), (1, .ref 38)]) (st' := [.int 1]) (μ' := (I6, J6)) (Nat.le_of_ble_eq_true rfl) rfl ?_
        refine c_ret (Nat.le_of_ble_eq_true rfl) rfl rfl ⟨by decide, rfl⟩ ?_
        rw [show k_do (k_sh 38 (I, J)) (I 75 2) (I 75 3) (I 75 4) (I 75 5) = _ from by unfold k_do; rw [if_neg (show ¬ I 75 2 = 1 by rw [h1]; decide), if_neg (show ¬ I 75 2 = 2 by rw [h1]; decide), if_neg (show ¬ I 75 2 = 3 by rw [h1]; decide), if_neg (show ¬ I 75 2 = 4 by rw [h1]; decide), if_neg (show ¬ I 75 2 = 5 by rw [h1]; decide), if_pos h1]]
        refine ⟨?_, hs6, hf6⟩
        exact congrArg (fun z => some (Value.int z)) (if_neg h6).symm
    · have ho : (197 : Int) = o := by simpa using ho
      subst ho
      have h1 : (I 75 2) = 7 := h1
      show m_W 34 204 [(0, .ref 0), (1, .ref 38)] [] (I, J) _
      refine c_run 7 (pc' := 219) (ls' := [(0, .ref 0), (1, .ref 38)]) (st' := [.int (I 75 5), .int (I 75 4), .ref 38]) (μ' := (I, J)) (Nat.le_of_ble_eq_true rfl) rfl ?_
      refine c_cv 62 [.int (I 75 4), .int (I 75 5)] (b := 38) (r := []) (Nat.le_of_ble_eq_true rfl) rfl rfl rfl rfl rfl rfl (t38_read I J (I 75 4) (I 75 5) hw) ?_
      rintro _ ⟨I7, J7⟩ ⟨rfl, hs7, hf7⟩
      show m_W 34 222 [(0, .ref 0), (1, .ref 38)] [.int ((k_read (k_sh 38 (I, J)) (I 75 4) (I 75 5)).1)] (I7, J7) _
      refine c_iflt 229 (Nat.le_of_ble_eq_true rfl) rfl rfl (fun h7 => ?_) (fun h7 => ?_)
      · skip
        refine c_run 1 (pc' := 230) (ls' := [(0, .ref 0), (1, .ref 38)]) (st' := [.int 0]) (μ' := (I7, J7)) (Nat.le_of_ble_eq_true rfl) rfl ?_
        refine c_ret (Nat.le_of_ble_eq_true rfl) rfl rfl ⟨by decide, rfl⟩ ?_
        rw [show k_do (k_sh 38 (I, J)) (I 75 2) (I 75 3) (I 75 4) (I 75 5) = _ from by unfold k_do; rw [if_neg (show ¬ I 75 2 = 1 by rw [h1]; decide), if_neg (show ¬ I 75 2 = 2 by rw [h1]; decide), if_neg (show ¬ I 75 2 = 3 by rw [h1]; decide), if_neg (show ¬ I 75 2 = 4 by rw [h1]; decide), if_neg (show ¬ I 75 2 = 5 by rw [h1]; decide), if_neg (show ¬ I 75 2 = 6 by rw [h1]; decide), if_pos h1]]
        refine ⟨?_, hs7, hf7⟩
        exact congrArg (fun z => some (Value.int z)) (if_pos h7).symm
      · skip
        refine c_run 2 (pc' := 230) (ls' := [(0, .ref 0), (1, .ref 38)]) (st' := [.int 1]) (μ' := (I7, J7)) (Nat.le_of_ble_eq_true rfl) rfl ?_
        refine c_ret (Nat.le_of_ble_eq_true rfl) rfl rfl ⟨by decide, rfl⟩ ?_
        rw [show k_do (k_sh 38 (I, J)) (I 75 2) (I 75 3) (I 75 4) (I 75 5) = _ from by unfold k_do; rw [if_neg (show ¬ I 75 2 = 1 by rw [h1]; decide), if_neg (show ¬ I 75 2 = 2 by rw [h1]; decide), if_neg (show ¬ I 75 2 = 3 by rw [h1]; decide), if_neg (show ¬ I 75 2 = 4 by rw [h1]; decide), if_neg (show ¬ I 75 2 = 5 by rw [h1]; decide), if_neg (show ¬ I 75 2 = 6 by rw [h1]; decide), if_pos h1]]
        refine ⟨?_, hs7, hf7⟩
        exact congrArg (fun z => some (Value.int z)) (if_neg h7).symm

set_option maxRecDepth 100000 in
theorem t38_pt_l (μ0 : m_M) (g : Nat → Int32) (n : Nat) (hn : n ≤ 100) (hg : ∀ i, i < n → 32 ≤ g i ∧ g i ≤ 126) : ∀ (r i : Nat), i + r = 100 → ∀ (s p : Nat) (I : Nat → Nat → Int32) (J : Nat → Nat → Int64) (κ : k_M), i ≤ s → s ≤ 131 → p ≤ i → k_sh 38 (I, J) = κ → k_wf κ → I 75 0 = nI n → I 76 = g → x_fr 38 μ0 (I, J) → m_W 33 7 [(0, .ref 0), (1, .ref 38), (2, .int (nI p)), (3, .int (nI s)), (4, .int (nI i))] [] (I, J) (x_Q 38 μ0 (k_run (s_ch g n) n r s p κ)) := by
  intro r
  induction r with
  | zero =>
    intro i hir s p I J κ hs1 hs2 hp1 hκ hw h0 hT hf0
    have hc : ∀ i, i < n → 32 ≤ I 76 i ∧ I 76 i ≤ 126 := by rw [hT]; exact hg
    refine c_run 2 (pc' := 11) (ls' := [(0, .ref 0), (1, .ref 38), (2, .int (nI p)), (3, .int (nI s)), (4, .int (nI i))]) (st' := [.int 100, .int (nI i)]) (μ' := (I, J)) (Nat.le_of_ble_eq_true rfl) rfl ?_
    refine c_icge 63 (Nat.le_of_ble_eq_true rfl) rfl rfl (fun h1 => ?_) (fun h1 => absurd (show nI 100 ≤ nI i from nI_le (by omega) (by omega)) h1)
    refine c_run 1 (pc' := 64) (ls' := [(0, .ref 0), (1, .ref 38), (2, .int (nI p)), (3, .int (nI s)), (4, .int (nI i))]) (st' := [.int (nI p)]) (μ' := (I, J)) (Nat.le_of_ble_eq_true rfl) rfl ?_
    refine c_ret (Nat.le_of_ble_eq_true rfl) rfl rfl ⟨by decide, rfl⟩ ?_
    exact ⟨rfl, hκ, hf0⟩
  | succ r ih =>
    intro i hir s p I J κ hs1 hs2 hp1 hκ hw h0 hT hf0
    have hc : ∀ i, i < n → 32 ≤ I 76 i ∧ I 76 i ≤ 126 := by rw [hT]; exact hg
    refine c_run 2 (pc' := 11) (ls' := [(0, .ref 0), (1, .ref 38), (2, .int (nI p)), (3, .int (nI s)), (4, .int (nI i))]) (st' := [.int 100, .int (nI i)]) (μ' := (I, J)) (Nat.le_of_ble_eq_true rfl) rfl ?_
    refine c_icge 63 (Nat.le_of_ble_eq_true rfl) rfl rfl (fun h1 => absurd h1 (show ¬ nI 100 ≤ nI i from nI_ge (by omega) (by omega))) (fun h1 => ?_)
    refine c_run 4 (pc' := 22) (ls' := [(0, .ref 0), (1, .ref 38), (2, .int (nI p)), (3, .int (nI s)), (4, .int (nI i))]) (st' := [.int (I 75 0), .int (nI s)]) (μ' := (I, J)) (Nat.le_of_ble_eq_true rfl) rfl ?_
    refine c_icge 63 (Nat.le_of_ble_eq_true rfl) rfl rfl (fun h2 => ?_) (fun h2 => ?_)
    · skip
      refine c_run 1 (pc' := 64) (ls' := [(0, .ref 0), (1, .ref 38), (2, .int (nI p)), (3, .int (nI s)), (4, .int (nI i))]) (st' := [.int (nI p)]) (μ' := (I, J)) (Nat.le_of_ble_eq_true rfl) rfl ?_
      refine c_ret (Nat.le_of_ble_eq_true rfl) rfl rfl ⟨by decide, rfl⟩ ?_
      have hsn : ¬ s < n := fun q => absurd (show nI n ≤ nI s by rw [← h0]; assumption) (nI_ge q (by omega))
      rw [k_run, if_neg hsn]
      exact ⟨rfl, hκ, hf0⟩
    · skip
      refine c_run 3 (pc' := 30) (ls' := [(0, .ref 0), (1, .ref 38), (2, .int (nI p)), (3, .int (nI s)), (4, .int (nI i))]) (st' := [.int (nI s), .ref 75]) (μ' := (I, J)) (Nat.le_of_ble_eq_true rfl) rfl ?_
      have hsn : s < n := (nI_ltI (by omega) (by omega)).mp (show nI s < nI n by rw [← h0]; exact Int32.not_le.mp (by assumption))
      have hcall := t_pat I J n h0 hn hc s (by omega) (I 75 1) (I 75 2) (I 75 3) (I 75 4) (I 75 5)
      rw [c_tx_id] at hcall
      rcases hp : p_at (s_ch (I 76) n) s with _ | q
      · skip
        rw [hp] at hcall
        show m_W 33 30 [(0, .ref 0), (1, .ref 38), (2, .int (nI p)), (3, .int (nI s)), (4, .int (nI i))] [.int (nI s), .ref 75] (I, J) _
        refine c_cv 41 [.int (nI s)] (b := 75) (r := []) (Nat.le_of_ble_eq_true rfl) rfl rfl rfl rfl rfl rfl (hcall) ?_
        rintro _ _ ⟨rfl, a1, c1, nm1, t1, nu1, rfl⟩
        show m_W 33 33 [(0, .ref 0), (1, .ref 38), (2, .int (nI p)), (3, .int (nI s)), (4, .int (nI i))] [.int 0] ((c_tx I a1 c1 nm1 t1 nu1), J) _
        refine c_ifeq 44 (Nat.le_of_ble_eq_true rfl) rfl rfl (fun h3 => ?_) (fun h3 => absurd (by decide) h3)
        refine c_run 1 (pc' := 45) (ls' := [(0, .ref 0), (1, .ref 38), (2, .int (nI p)), (3, .int (nI s)), (4, .int (nI i))]) (st' := [.int (nI p)]) (μ' := ((c_tx I a1 c1 nm1 t1 nu1), J)) (Nat.le_of_ble_eq_true rfl) rfl ?_
        refine c_ret (Nat.le_of_ble_eq_true rfl) rfl rfl ⟨by decide, rfl⟩ ?_
        rw [k_run, if_pos hsn, ← hT, hp]
        exact ⟨rfl, (k_sh_tx (by decide)).trans hκ, hf0.tr x_fr.tx⟩
      · skip
        rw [hp] at hcall
        show m_W 33 30 [(0, .ref 0), (1, .ref 38), (2, .int (nI p)), (3, .int (nI s)), (4, .int (nI i))] [.int (nI s), .ref 75] (I, J) _
        refine c_cv 41 [.int (nI s)] (b := 75) (r := []) (Nat.le_of_ble_eq_true rfl) rfl rfl rfl rfl rfl rfl (hcall) ?_
        rintro _ _ ⟨rfl, nm1, t1, nu1, rfl, hus⟩
        have hqb := p_at_b hp
        show m_W 33 33 [(0, .ref 0), (1, .ref 38), (2, .int (nI p)), (3, .int (nI s)), (4, .int (nI i))] [.int 1] ((c_tx I (nI q.1) q.2.1 nm1 t1 nu1), J) _
        refine c_ifeq 44 (Nat.le_of_ble_eq_true rfl) rfl rfl (fun h4 => absurd h4 (by decide)) (fun h4 => ?_)
        refine c_run 2 (pc' := 38) (ls' := [(0, .ref 0), (1, .ref 38), (2, .int (nI p)), (3, .int (nI s)), (4, .int (nI i))]) (st' := [.ref 38, .ref 0]) (μ' := ((c_tx I (nI q.1) q.2.1 nm1 t1 nu1), J)) (Nat.le_of_ble_eq_true rfl) rfl ?_
        refine c_cv 34 [.ref 38] (b := 0) (r := []) (Nat.le_of_ble_eq_true rfl) rfl rfl rfl rfl rfl rfl (t38_cmd (c_tx I (nI q.1) q.2.1 nm1 t1 nu1) J (by rw [k_sh_tx (by decide), hκ]; exact hw)) ?_
        rintro _ ⟨I1, J1⟩ ⟨rfl, hs1b, hf1⟩
        have hdo : k_do (k_sh 38 ((c_tx I (nI q.1) q.2.1 nm1 t1 nu1), J)) q.2.1 nm1 t1 nu1 = k_doq κ q := by rw [k_sh_tx (by decide), hκ]; exact k_do_us hus
        replace hs1b : k_sh 38 (I1, J1) = (k_doq κ q).2 := by rw [hs1b]; exact congrArg Prod.snd hdo
        rw [show (k_do (k_sh 38 ((c_tx I (nI q.1) q.2.1 nm1 t1 nu1), J)) ((c_tx I (nI q.1) q.2.1 nm1 t1 nu1) 75 2) ((c_tx I (nI q.1) q.2.1 nm1 t1 nu1) 75 3) ((c_tx I (nI q.1) q.2.1 nm1 t1 nu1) 75 4) ((c_tx I (nI q.1) q.2.1 nm1 t1 nu1) 75 5)).1 = (k_doq κ q).1 from congrArg Prod.fst hdo]
        show m_W 33 41 [(0, .ref 0), (1, .ref 38), (2, .int (nI p)), (3, .int (nI s)), (4, .int (nI i))] [.int ((k_doq κ q).1)] (I1, J1) _
        refine c_ifne 46 (Nat.le_of_ble_eq_true rfl) rfl rfl (fun h5 => ?_) (fun h5 => ?_)
        · skip
          refine c_run 7 (pc' := 7) (ls' := [(4, .int ((nI i) + (1 : Int32))), (3, .int (I1 75 1)), (2, .int ((nI p) + (1 : Int32))), (0, .ref 0), (1, .ref 38)]) (st' := []) (μ' := (I1, J1)) (Nat.le_of_ble_eq_true rfl) rfl ?_
          refine c_w [3, 4, 2, 1, 0] (ls' := [(0, .ref 0), (1, .ref 38), (2, .int ((nI p) + (1 : Int32))), (3, .int (I1 75 1)), (4, .int ((nI i) + (1 : Int32)))]) rfl ?_
          rw [nI_1 i, nI_1 p, show (I1 75 1) = nI q.1 from congrFun (hf1 75 (by decide)).1 1, k_run, if_pos hsn, ← hT, hp]
          dsimp only
          rw [if_neg (by assumption)]
          rw [hT]
          exact ih (i + 1) (by omega) q.1 (p + 1) I1 J1 _ (by omega) (by omega) (by omega) hs1b (k_do_wf hw) ((congrFun (hf1 75 (by decide)).1 0).trans h0) ((hf1 76 (by decide)).1.trans hT) ((hf0.tr x_fr.tx).tr (x_fr.of (by decide) hf1))
        · skip
          refine c_run 1 (pc' := 45) (ls' := [(0, .ref 0), (1, .ref 38), (2, .int (nI p)), (3, .int (nI s)), (4, .int (nI i))]) (st' := [.int (nI p)]) (μ' := (I1, J1)) (Nat.le_of_ble_eq_true rfl) rfl ?_
          refine c_ret (Nat.le_of_ble_eq_true rfl) rfl rfl ⟨by decide, rfl⟩ ?_
          rw [k_run, if_pos hsn, ← hT, hp]
          dsimp only
          rw [if_pos (by assumption)]
          exact ⟨rfl, hs1b, (hf0.tr x_fr.tx).tr (x_fr.of (by decide) hf1)⟩

set_option maxRecDepth 100000 in
theorem t38_ptx (I : Nat → Nat → Int32) (J : Nat → Nat → Int64) (n : Nat) (h0 : I 75 0 = nI n) (hn : n ≤ 100) (hc : ∀ i, i < n → 32 ≤ I 76 i ∧ I 76 i ≤ 126)  (hw : k_wf (k_sh 38 (I, J))) : m_W 33 0 (lv_args 0 [.ref 0, .ref 38]) [] (I, J) (x_Q 38 (I, J) (k_run (s_ch (I 76) n) n 100 0 0 (k_sh 38 (I, J)))) := by
  show m_W 33 0 [(0, .ref 0), (1, .ref 38)] [] (I, J) _
  refine c_run 6 (pc' := 7) (ls' := [(4, .int 0), (3, .int 0), (2, .int 0), (0, .ref 0), (1, .ref 38)]) (st' := []) (μ' := (I, J)) (Nat.le_of_ble_eq_true rfl) rfl ?_
  refine c_w [3, 4, 2, 1, 0] (ls' := [(0, .ref 0), (1, .ref 38), (2, .int 0), (3, .int 0), (4, .int 0)]) rfl ?_
  exact t38_pt_l (I, J) (I 76) n hn hc 100 0 (by omega) 0 0 I J (k_sh 38 (I, J)) (by omega) (by omega) (by omega) rfl hw h0 rfl x_fr.rf

