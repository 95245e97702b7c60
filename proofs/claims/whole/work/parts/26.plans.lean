/-! TEXTS EXECUTED, PLANS -/
def x_exec (T : Nat → Int32) (n : Nat) (κ : k_M) : Int32 × k_M := if p_ff T n 100 0 = -4 then k_run T n 100 0 0 κ else (-2, κ)
theorem k_cp.rf {κ : k_M} : k_cp κ κ := ⟨fun _ _ _ => rfl, rfl, fun _ _ _ _ _ => rfl, fun _ _ _ _ _ => rfl, fun _ _ => rfl, fun _ _ _ _ => rfl, fun _ _ _ _ => rfl, rfl, fun _ _ _ _ _ => rfl, fun _ _ _ _ _ => rfl, fun _ _ => rfl⟩
theorem k_cp_wf {κ κ' : k_M} (h : k_wf κ) (hc : k_cp κ κ') (hl : k_lw κ') : k_wf κ' := by
  obtain ⟨⟨n, n1, n2⟩, ⟨m, m1, m2⟩, -, h4⟩ := h
  obtain ⟨-, c1, -, -, c4, -, -, c7, -⟩ := hc
  refine ⟨⟨n, n1, c1.trans n2⟩, ⟨m, m1, c7.trans m2⟩, hl, fun j hj => ?_⟩
  obtain ⟨p, p1, p2⟩ := h4 j hj
  exact ⟨p, p1, (c4 j hj).trans p2⟩
def y_Q (μ : m_M) (T : Nat → Int32) (n : Nat) : m_Q := fun v μ' => x_fr 38 μ μ' ∧ k_lw (k_sh 38 μ') ∧ (¬ p_ff T n 100 0 = -4 → v = some (.long (-2))) ∧ (p_ff T n 100 0 = -4 → ∃ κr, k_cp (k_sh 1 μ) κr ∧ k_wf κr ∧ v = some (.long (k_ball (k_run T n 100 0 0 κr).2 - k_ball (k_sh 1 μ))))
theorem k_sh_fr {μ μ' : m_M} (h : x_fr 38 μ μ') : k_sh 1 μ' = k_sh 1 μ := by
  refine Prod.ext ?_ ?_
  · funext c j
    unfold k_sh
    dsimp only
    by_cases hc : c < 37
    · rw [if_pos hc, if_pos hc, (h.1 (1 + c) (by omega) (by omega)).1]
    · rw [if_neg hc, if_neg hc]
  · funext c j
    unfold k_sh
    dsimp only
    by_cases hc : c < 37
    · rw [if_pos hc, if_pos hc, (h.1 (1 + c) (by omega) (by omega)).2]
    · rw [if_neg hc, if_neg hc]
def k_lb (e n : Nat) (s : Int32) : Nat → Nat → k_M → Int32
  | 0, _, _ => 5000
  | r + 1, ms, κ => if k_bl (k_book κ e n) s 0 n = 0 then k_lb e n s r (ms + 1) (k_book κ e n) else nI ms
abbrev k_wd (κ : k_M) (e : Nat) : Int32 := κ.1 27 e &&& k_wb κ (kn κ)
def x_lb (κ κr : k_M) (e : Int32) : Int32 := if k_hasE κ e then (if k_isB κ then -2 else (if k_bl κ (k_wd κ e.toNatClampNeg) 0 (kn κ) = 0 then k_lb e.toNatClampNeg (kn κ) (k_wd κ e.toNatClampNeg) 5000 0 κr else -4)) else -1
def l_Q (μ : m_M) (x : Int32) : m_Q := fun v μ' => v = some (.int x) ∧ m_fr 38 μ μ' ∧ k_lw (k_sh 38 μ')
def z_Q (μ : m_M) (e : Int32) : m_Q := fun v μ' => m_fr 38 μ μ' ∧ k_lw (k_sh 38 μ') ∧ ∃ κr, k_cp (k_sh 1 μ) κr ∧ v = some (.int (x_lb (k_sh 1 μ) κr e))

set_option maxRecDepth 100000 in
theorem t_execute (I : Nat → Nat → Int32) (J : Nat → Nat → Int64) (n : Nat) (h0 : I 75 0 = nI n) (hn : n ≤ 100) (hc : ∀ i, i < n → 32 ≤ I 76 i ∧ I 76 i ≤ 126)  (hw : k_wf (k_sh 1 (I, J))) : m_W 28 0 (lv_args 0 [.ref 0]) [] (I, J) (x_Q 1 (I, J) (x_exec (s_ch (I 76) n) n (k_sh 1 (I, J)))) := by
  show m_W 28 0 [(0, .ref 0)] [] (I, J) _
  refine c_run 2 (pc' := 4) (ls' := [(0, .ref 0)]) (st' := [.ref 75]) (μ' := (I, J)) (Nat.le_of_ble_eq_true rfl) rfl ?_
  refine c_cv 40 [] (b := 75) (r := []) (Nat.le_of_ble_eq_true rfl) rfl rfl rfl rfl rfl rfl (t_fflt I J n h0 hn hc) ?_
  rintro _ _ ⟨rfl, a1, c1, nm1, t1, nu1, rfl⟩
  show m_W 28 7 [(0, .ref 0)] [.int (p_ff (s_ch (I 76) n) n 100 0)] ((c_tx I a1 c1 nm1 t1 nu1), J) _
  refine c_run 1 (pc' := 9) (ls' := [(0, .ref 0)]) (st' := [.int (-4), .int (p_ff (s_ch (I 76) n) n 100 0)]) (μ' := ((c_tx I a1 c1 nm1 t1 nu1), J)) (Nat.le_of_ble_eq_true rfl) rfl ?_
  refine c_icne 23 (Nat.le_of_ble_eq_true rfl) rfl rfl (fun h1 => ?_) (fun h1 => ?_)
  · skip
    refine c_run 1 (pc' := 25) (ls' := [(0, .ref 0)]) (st' := [.int (-2)]) (μ' := ((c_tx I a1 c1 nm1 t1 nu1), J)) (Nat.le_of_ble_eq_true rfl) rfl ?_
    refine c_ret (Nat.le_of_ble_eq_true rfl) rfl rfl ⟨by decide, rfl⟩ ?_
    rw [show x_exec (s_ch (I 76) n) n (k_sh 1 (I, J)) = _ from if_neg (by assumption)]
    exact ⟨rfl, k_sh_tx (by decide), x_fr.tx⟩
  · skip
    refine c_run 3 (pc' := 17) (ls' := [(0, .ref 0)]) (st' := [.ref 1, .ref 0]) (μ' := ((c_tx I a1 c1 nm1 t1 nu1), J)) (Nat.le_of_ble_eq_true rfl) rfl ?_
    refine c_cv 33 [.ref 1] (b := 0) (r := []) (Nat.le_of_ble_eq_true rfl) rfl rfl rfl rfl rfl rfl (t1_ptx (c_tx I a1 c1 nm1 t1 nu1) J n h0 hn hc (by rw [k_sh_tx (by decide)]; exact hw)) ?_
    rintro _ ⟨I1, J1⟩ ⟨rfl, hs1, hf1⟩
    rw [show k_sh 1 ((c_tx I a1 c1 nm1 t1 nu1), J) = k_sh 1 (I, J) from k_sh_tx (by decide)] at hs1 ⊢
    show m_W 28 20 [(0, .ref 0)] [.int ((k_run (s_ch (I 76) n) n 100 0 0 (k_sh 1 (I, J))).1)] (I1, J1) _
    refine c_run 1 (pc' := 25) (ls' := [(0, .ref 0)]) (st' := [.int ((k_run (s_ch (I 76) n) n 100 0 0 (k_sh 1 (I, J))).1)]) (μ' := (I1, J1)) (Nat.le_of_ble_eq_true rfl) rfl ?_
    refine c_ret (Nat.le_of_ble_eq_true rfl) rfl rfl ⟨by decide, rfl⟩ ?_
    rw [show x_exec (s_ch (I 76) n) n (k_sh 1 (I, J)) = _ from if_pos (by assumption)]
    exact ⟨rfl, hs1, x_fr.tx.tr hf1⟩

set_option maxRecDepth 100000 in
theorem t_planned (I : Nat → Nat → Int32) (J : Nat → Nat → Int64) (n : Nat) (h0 : I 75 0 = nI n) (hn : n ≤ 100) (hc : ∀ i, i < n → 32 ≤ I 76 i ∧ I 76 i ≤ 126) (hz : I 1 8 = 0 ∨ I 1 8 = 1) (hl8 : k_lw (k_sh 38 (I, J))) (hw : k_wf (k_sh 1 (I, J))) : m_W 30 0 (lv_args 0 [.ref 0]) [] (I, J) (y_Q (I, J) (s_ch (I 76) n) n) := by
  show m_W 30 0 [(0, .ref 0)] [] (I, J) _
  refine c_run 2 (pc' := 4) (ls' := [(0, .ref 0)]) (st' := [.ref 75]) (μ' := (I, J)) (Nat.le_of_ble_eq_true rfl) rfl ?_
  refine c_cv 40 [] (b := 75) (r := []) (Nat.le_of_ble_eq_true rfl) rfl rfl rfl rfl rfl rfl (t_fflt I J n h0 hn hc) ?_
  rintro _ _ ⟨rfl, a1, c1, nm1, t1, nu1, rfl⟩
  show m_W 30 7 [(0, .ref 0)] [.int (p_ff (s_ch (I 76) n) n 100 0)] ((c_tx I a1 c1 nm1 t1 nu1), J) _
  refine c_run 1 (pc' := 9) (ls' := [(0, .ref 0)]) (st' := [.int (-4), .int (p_ff (s_ch (I 76) n) n 100 0)]) (μ' := ((c_tx I a1 c1 nm1 t1 nu1), J)) (Nat.le_of_ble_eq_true rfl) rfl ?_
  refine c_iceq 16 (Nat.le_of_ble_eq_true rfl) rfl rfl (fun h1 => ?_) (fun h1 => ?_)
  · skip
    refine c_run 4 (pc' := 24) (ls' := [(0, .ref 0)]) (st' := [.ref 1, .ref 38]) (μ' := ((c_tx I a1 c1 nm1 t1 nu1), J)) (Nat.le_of_ble_eq_true rfl) rfl ?_
    refine c_cv 64 [.ref 1] (b := 38) (r := []) (Nat.le_of_ble_eq_true rfl) rfl rfl rfl rfl rfl rfl (t_cpC (c_tx I a1 c1 nm1 t1 nu1) J hz) ?_
    rintro _ _ ⟨rfl, rfl⟩
    have hcf := c_cpC_fr ((c_tx I a1 c1 nm1 t1 nu1), J)
    have hw8 : k_wf (k_sh 38 (c_cpC ((c_tx I a1 c1 nm1 t1 nu1), J))) := k_cp_wf hw (by have h := c_cpC_cp ((c_tx I a1 c1 nm1 t1 nu1), J); rw [k_sh_tx (by decide)] at h; exact h) (c_cpC_lw (by rw [k_sh_tx (by decide)]; exact hl8))
    show m_W 30 27 [(0, .ref 0)] [] ((c_cpC ((c_tx I a1 c1 nm1 t1 nu1), J)).1, (c_cpC ((c_tx I a1 c1 nm1 t1 nu1), J)).2) _
    refine c_run 3 (pc' := 32) (ls' := [(0, .ref 0)]) (st' := [.ref 38, .ref 0]) (μ' := ((c_cpC ((c_tx I a1 c1 nm1 t1 nu1), J)).1, (c_cpC ((c_tx I a1 c1 nm1 t1 nu1), J)).2)) (Nat.le_of_ble_eq_true rfl) rfl ?_
    refine c_cv 33 [.ref 38] (b := 0) (r := []) (Nat.le_of_ble_eq_true rfl) rfl rfl rfl rfl rfl rfl (t38_ptx (c_cpC ((c_tx I a1 c1 nm1 t1 nu1), J)).1 (c_cpC ((c_tx I a1 c1 nm1 t1 nu1), J)).2 n ((congrFun (hcf 75 (by decide)).1 0).trans h0) hn (by rw [(hcf 76 (by decide)).1]; exact hc) hw8) ?_
    rintro _ ⟨I1, J1⟩ ⟨rfl, hs1, hf1⟩
    have hfr : x_fr 38 (I, J) (I1, J1) := (x_fr.tx.tr (x_fr.of (by decide) hcf)).tr hf1
    replace hs1 : k_sh 38 (I1, J1) = (k_run (s_ch (I 76) n) n 100 0 0 (k_sh 38 (c_cpC ((c_tx I a1 c1 nm1 t1 nu1), J)))).2 := by rw [hs1, (hcf 76 (by decide)).1]; rfl
    show m_W 30 35 [(0, .ref 0)] [.int ((k_run (s_ch ((c_cpC ((c_tx I a1 c1 nm1 t1 nu1), J)).1 76) n) n 100 0 0 (k_sh 38 ((c_cpC ((c_tx I a1 c1 nm1 t1 nu1), J)).1, (c_cpC ((c_tx I a1 c1 nm1 t1 nu1), J)).2))).1)] (I1, J1) _
    refine c_run 4 (pc' := 43) (ls' := [(0, .ref 0)]) (st' := [.ref 61]) (μ' := (I1, J1)) (Nat.le_of_ble_eq_true rfl) rfl ?_
    refine c_cv 69 [] (b := 61) (r := []) (Nat.le_of_ble_eq_true rfl) rfl rfl rfl rfl rfl rfl (t38_ball I1 J1) ?_
    rintro _ _ ⟨rfl, rfl⟩
    show m_W 30 46 [(0, .ref 0)] [.long (k_ball (k_sh 38 (I1, J1)))] (I1, J1) _
    refine c_run 3 (pc' := 53) (ls' := [(0, .ref 0)]) (st' := [.ref 24, .long (k_ball (k_sh 38 (I1, J1)))]) (μ' := (I1, J1)) (Nat.le_of_ble_eq_true rfl) rfl ?_
    refine c_cv 69 [] (b := 24) (r := [.long (k_ball (k_sh 38 (I1, J1)))]) (Nat.le_of_ble_eq_true rfl) rfl rfl rfl rfl rfl rfl (t1_ball I1 J1) ?_
    rintro _ _ ⟨rfl, rfl⟩
    show m_W 30 56 [(0, .ref 0)] [.long (k_ball (k_sh 1 (I1, J1))), .long (k_ball (k_sh 38 (I1, J1)))] (I1, J1) _
    refine c_run 1 (pc' := 57) (ls' := [(0, .ref 0)]) (st' := [.long ((k_ball (k_sh 38 (I1, J1))) - (k_ball (k_sh 1 (I1, J1))))]) (μ' := (I1, J1)) (Nat.le_of_ble_eq_true rfl) rfl ?_
    refine c_lret (Nat.le_of_ble_eq_true rfl) rfl rfl ?_
    refine ⟨hfr, by rw [hs1]; exact k_wf_l (k_run_wf hw8), fun q => absurd (by assumption) q, fun _ => ⟨_, (by have h := c_cpC_cp ((c_tx I a1 c1 nm1 t1 nu1), J); rw [k_sh_tx (by decide)] at h; exact h), hw8, ?_⟩⟩
    rw [hs1, k_sh_fr hfr]
  · skip
    refine c_run 1 (pc' := 15) (ls' := [(0, .ref 0)]) (st' := [.long (-2)]) (μ' := ((c_tx I a1 c1 nm1 t1 nu1), J)) (Nat.le_of_ble_eq_true rfl) rfl ?_
    refine c_lret (Nat.le_of_ble_eq_true rfl) rfl rfl ?_
    exact ⟨x_fr.tx, by rw [k_sh_tx (by decide)]; exact hl8, fun _ => rfl, fun q => absurd q (by assumption)⟩

set_option maxRecDepth 100000 in
theorem t_lb_l (μ0 : m_M) (n : Nat) (hn4 : n ≤ 4) (e : Nat) (he : e < 6) (s : Int32) : ∀ (r w : Nat), w + r = 5000 → ∀ (I : Nat → Nat → Int32) (J : Nat → Nat → Int64) (κ : k_M), k_sh 38 (I, J) = κ → κ.1 1 0 = nI n → k_lw κ → m_fr 38 μ0 (I, J) → m_W 29 83 [(0, .ref 0), (1, .int (nI e)), (2, .int s), (3, .int (nI w))] [] (I, J) (l_Q μ0 (k_lb e n s r w κ)) := by
  intro r
  induction r with
  | zero =>
    intro w hir I J κ hκ hn hl8 hf0
    refine c_run 2 (pc' := 87) (ls' := [(0, .ref 0), (1, .int (nI e)), (2, .int s), (3, .int (nI w))]) (st' := [.int 5000, .int (nI w)]) (μ' := (I, J)) (Nat.le_of_ble_eq_true rfl) rfl ?_
    refine c_icge 120 (Nat.le_of_ble_eq_true rfl) rfl rfl (fun h1 => ?_) (fun h1 => absurd (show nI 5000 ≤ nI w from nI_le (by omega) (by omega)) h1)
    refine c_run 1 (pc' := 123) (ls' := [(0, .ref 0), (1, .int (nI e)), (2, .int s), (3, .int (nI w))]) (st' := [.int 5000]) (μ' := (I, J)) (Nat.le_of_ble_eq_true rfl) rfl ?_
    refine c_ret (Nat.le_of_ble_eq_true rfl) rfl rfl ⟨by decide, rfl⟩ ?_
    exact ⟨rfl, hf0, by rw [hκ]; exact hl8⟩
  | succ r ih =>
    intro w hir I J κ hκ hn hl8 hf0
    refine c_run 2 (pc' := 87) (ls' := [(0, .ref 0), (1, .int (nI e)), (2, .int s), (3, .int (nI w))]) (st' := [.int 5000, .int (nI w)]) (μ' := (I, J)) (Nat.le_of_ble_eq_true rfl) rfl ?_
    refine c_icge 120 (Nat.le_of_ble_eq_true rfl) rfl rfl (fun h1 => absurd h1 (show ¬ nI 5000 ≤ nI w from nI_ge (by omega) (by omega))) (fun h1 => ?_)
    refine c_run 3 (pc' := 95) (ls' := [(0, .ref 0), (1, .int (nI e)), (2, .int s), (3, .int (nI w))]) (st' := [.int (nI e), .ref 38]) (μ' := (I, J)) (Nat.le_of_ble_eq_true rfl) rfl ?_
    refine c_cv 60 [.int (nI e)] (b := 38) (r := []) (Nat.le_of_ble_eq_true rfl) rfl rfl rfl rfl rfl rfl (t38_book I J n (by rw [hκ]; exact hn) hn4 e he) ?_
    rintro _ ⟨I1, J1⟩ ⟨rfl, hs1, hf1⟩
    show m_W 29 98 [(0, .ref 0), (1, .int (nI e)), (2, .int s), (3, .int (nI w))] [] (I1, J1) _
    refine c_run 4 (pc' := 106) (ls' := [(0, .ref 0), (1, .int (nI e)), (2, .int s), (3, .int (nI w))]) (st' := [.int s, .ref 39]) (μ' := (I1, J1)) (Nat.le_of_ble_eq_true rfl) rfl ?_
    refine c_cv 92 [.int s] (b := 39) (r := []) (Nat.le_of_ble_eq_true rfl) rfl rfl rfl rfl rfl rfl (t38_bl I1 J1 s n (by rw [hs1, hκ]; exact hn) hn4) ?_
    rintro _ _ ⟨rfl, rfl⟩
    rw [hs1, hκ]
    show m_W 29 109 [(0, .ref 0), (1, .int (nI e)), (2, .int s), (3, .int (nI w))] [.int (k_bl (k_book κ e n) s 0 n)] (I1, J1) _
    refine c_ifeq 114 (Nat.le_of_ble_eq_true rfl) rfl rfl (fun h2 => ?_) (fun h2 => ?_)
    · skip
      refine c_run 2 (pc' := 83) (ls' := [(3, .int ((nI w) + (1 : Int32))), (0, .ref 0), (1, .int (nI e)), (2, .int s)]) (st' := []) (μ' := (I1, J1)) (Nat.le_of_ble_eq_true rfl) rfl ?_
      refine c_w [1, 2, 3, 0] (ls' := [(0, .ref 0), (1, .int (nI e)), (2, .int s), (3, .int ((nI w) + (1 : Int32)))]) rfl ?_
      rw [nI_1 w, k_lb, if_pos (by assumption)]
      exact ih (w + 1) (by omega) I1 J1 (k_book κ e n) (by rw [hs1, hκ]) hn hl8 (hf0.tr hf1)
    · skip
      refine c_run 1 (pc' := 113) (ls' := [(0, .ref 0), (1, .int (nI e)), (2, .int s), (3, .int (nI w))]) (st' := [.int (nI w)]) (μ' := (I1, J1)) (Nat.le_of_ble_eq_true rfl) rfl ?_
      refine c_ret (Nat.le_of_ble_eq_true rfl) rfl rfl ⟨by decide, rfl⟩ ?_
      rw [k_lb, if_neg (by assumption)]
      exact ⟨rfl, hf0.tr hf1, by rw [hs1, hκ]; exact hl8⟩

set_option maxRecDepth 100000 in
theorem t_longest (I : Nat → Nat → Int32) (J : Nat → Nat → Int64) (e : Int32) (hz : I 1 8 = 0 ∨ I 1 8 = 1) (hl8 : k_lw (k_sh 38 (I, J))) (hw : k_wf (k_sh 1 (I, J))) : m_W 29 0 (lv_args 0 [.ref 0, .int e]) [] (I, J) (z_Q (I, J) e) := by
  show m_W 29 0 [(0, .ref 0), (1, .int e)] [] (I, J) _
  obtain ⟨hn, hn4⟩ := k_wf_n hw
  obtain ⟨hm, hm6⟩ := k_wf_m hw
  refine c_run 4 (pc' := 8) (ls' := [(0, .ref 0), (1, .int e)]) (st' := [.int e, .ref 24]) (μ' := (I, J)) (Nat.le_of_ble_eq_true rfl) rfl ?_
  refine c_cv 66 [.int e] (b := 24) (r := []) (Nat.le_of_ble_eq_true rfl) rfl rfl rfl rfl rfl rfl (t1_hasE I J e) ?_
  rintro _ _ ⟨rfl, rfl⟩
  show m_W 29 11 [(0, .ref 0), (1, .int e)] [.int (s01 (k_hasE (k_sh 1 (I, J)) e))] (I, J) _
  refine c_ifne 16 (Nat.le_of_ble_eq_true rfl) rfl rfl (fun h1 => ?_) (fun h1 => ?_)
  · replace h1 := s01_1.mp h1
    refine c_run 2 (pc' := 20) (ls' := [(0, .ref 0), (1, .int e)]) (st' := [.ref 1]) (μ' := (I, J)) (Nat.le_of_ble_eq_true rfl) rfl ?_
    obtain ⟨i, hi, rfl⟩ : ∃ i, i < km (k_sh 1 (I, J)) ∧ e = nI i := k_ix (by rw [← hm]; assumption) (by omega)
    have hcl : (nI i).toNatClampNeg = i := nI_clamp (by omega)
    refine c_cv 49 [] (b := 1) (r := []) (Nat.le_of_ble_eq_true rfl) rfl rfl rfl rfl rfl rfl (t1_isB I J) ?_
    rintro _ _ ⟨rfl, rfl⟩
    show m_W 29 23 [(0, .ref 0), (1, .int (nI i))] [.int (s01 (k_isB (k_sh 1 (I, J))))] (I, J) _
    refine c_ifeq 29 (Nat.le_of_ble_eq_true rfl) rfl rfl (fun h2 => ?_) (fun h2 => ?_)
    · replace h2 := s01_0.mp h2
      refine c_run 5 (pc' := 40) (ls' := [(0, .ref 0), (1, .int (nI i))]) (st' := [.int (nI i), .ref 28]) (μ' := (I, J)) (Nat.le_of_ble_eq_true rfl) rfl ?_
      refine c_ial i 6 (Nat.le_of_ble_eq_true rfl) rfl rfl rfl rfl rfl (by omega) ?_
      show m_W 29 41 [(0, .ref 0), (1, .int (nI i))] [.int ((k_sh 1 (I, J)).1 27 i)] (I, J) _
      refine c_run 3 (pc' := 48) (ls' := [(0, .ref 0), (1, .int (nI i))]) (st' := [.ref 2, .int ((k_sh 1 (I, J)).1 27 i)]) (μ' := (I, J)) (Nat.le_of_ble_eq_true rfl) rfl ?_
      refine c_cv 91 [] (b := 2) (r := [.int ((k_sh 1 (I, J)).1 27 i)]) (Nat.le_of_ble_eq_true rfl) rfl rfl rfl rfl rfl rfl (t1_wb I J (kn (k_sh 1 (I, J))) hn hn4) ?_
      rintro _ _ ⟨rfl, rfl⟩
      show m_W 29 51 [(0, .ref 0), (1, .int (nI i))] [.int (k_wb (k_sh 1 (I, J)) (kn (k_sh 1 (I, J)))), .int ((k_sh 1 (I, J)).1 27 i)] (I, J) _
      refine c_run 6 (pc' := 61) (ls' := [(2, .int (((k_sh 1 (I, J)).1 27 i) &&& (k_wb (k_sh 1 (I, J)) (kn (k_sh 1 (I, J)))))), (0, .ref 0), (1, .int (nI i))]) (st' := [.int (((k_sh 1 (I, J)).1 27 i) &&& (k_wb (k_sh 1 (I, J)) (kn (k_sh 1 (I, J))))), .ref 2]) (μ' := (I, J)) (Nat.le_of_ble_eq_true rfl) rfl ?_
      refine c_cv 92 [.int (((k_sh 1 (I, J)).1 27 i) &&& (k_wb (k_sh 1 (I, J)) (kn (k_sh 1 (I, J)))))] (b := 2) (r := []) (Nat.le_of_ble_eq_true rfl) rfl rfl rfl rfl rfl rfl (t1_bl I J (((k_sh 1 (I, J)).1 27 i) &&& (k_wb (k_sh 1 (I, J)) (kn (k_sh 1 (I, J))))) (kn (k_sh 1 (I, J))) hn hn4) ?_
      rintro _ _ ⟨rfl, rfl⟩
      show m_W 29 64 [(2, .int (((k_sh 1 (I, J)).1 27 i) &&& (k_wb (k_sh 1 (I, J)) (kn (k_sh 1 (I, J)))))), (0, .ref 0), (1, .int (nI i))] [.int (k_bl (k_sh 1 (I, J)) (((k_sh 1 (I, J)).1 27 i) &&& (k_wb (k_sh 1 (I, J)) (kn (k_sh 1 (I, J))))) 0 (kn (k_sh 1 (I, J))))] (I, J) _
      refine c_ifeq 70 (Nat.le_of_ble_eq_true rfl) rfl rfl (fun h3 => ?_) (fun h3 => ?_)
      · skip
        refine c_run 4 (pc' := 78) (ls' := [(2, .int (((k_sh 1 (I, J)).1 27 i) &&& (k_wb (k_sh 1 (I, J)) (kn (k_sh 1 (I, J)))))), (0, .ref 0), (1, .int (nI i))]) (st' := [.ref 1, .ref 38]) (μ' := (I, J)) (Nat.le_of_ble_eq_true rfl) rfl ?_
        refine c_cv 64 [.ref 1] (b := 38) (r := []) (Nat.le_of_ble_eq_true rfl) rfl rfl rfl rfl rfl rfl (t_cpC I J hz) ?_
        rintro _ _ ⟨rfl, rfl⟩
        show m_W 29 81 [(2, .int (((k_sh 1 (I, J)).1 27 i) &&& (k_wb (k_sh 1 (I, J)) (kn (k_sh 1 (I, J)))))), (0, .ref 0), (1, .int (nI i))] [] ((c_cpC (I, J)).1, (c_cpC (I, J)).2) _
        refine c_run 2 (pc' := 83) (ls' := [(3, .int 0), (2, .int (((k_sh 1 (I, J)).1 27 i) &&& (k_wb (k_sh 1 (I, J)) (kn (k_sh 1 (I, J)))))), (0, .ref 0), (1, .int (nI i))]) (st' := []) (μ' := ((c_cpC (I, J)).1, (c_cpC (I, J)).2)) (Nat.le_of_ble_eq_true rfl) rfl ?_
        refine c_w [2, 3, 1, 0] (ls' := [(0, .ref 0), (1, .int (nI i)), (2, .int (((k_sh 1 (I, J)).1 27 i) &&& (k_wb (k_sh 1 (I, J)) (kn (k_sh 1 (I, J)))))), (3, .int 0)]) rfl ?_
        have h := t_lb_l (I, J) (kn (k_sh 1 (I, J))) hn4 i (by omega) (k_wd (k_sh 1 (I, J)) i) 5000 0 (by omega) _ _ (k_sh 38 (c_cpC (I, J))) rfl ((c_cpC_cp (I, J)).2.1.trans hn) (c_cpC_lw hl8) (c_cpC_fr (I, J))
        refine m_W_mono _ _ _ _ _ _ _ (fun v μ' q => ?_) h
        exact ⟨q.2.1, q.2.2, _, c_cpC_cp (I, J), by rw [q.1]; unfold x_lb; rw [if_pos h1, if_neg h2, hcl, if_pos h3]⟩
      · skip
        refine c_run 1 (pc' := 69) (ls' := [(2, .int (((k_sh 1 (I, J)).1 27 i) &&& (k_wb (k_sh 1 (I, J)) (kn (k_sh 1 (I, J)))))), (0, .ref 0), (1, .int (nI i))]) (st' := [.int (-4)]) (μ' := (I, J)) (Nat.le_of_ble_eq_true rfl) rfl ?_
        refine c_ret (Nat.le_of_ble_eq_true rfl) rfl rfl ⟨by decide, rfl⟩ ?_
        exact ⟨m_fr.rf, hl8, _, k_cp.rf, by unfold x_lb; rw [if_pos h1, if_neg h2, hcl, if_neg h3]⟩
    · replace h2 := s01_1.mp h2
      refine c_run 1 (pc' := 28) (ls' := [(0, .ref 0), (1, .int (nI i))]) (st' := [.int (-2)]) (μ' := (I, J)) (Nat.le_of_ble_eq_true rfl) rfl ?_
      refine c_ret (Nat.le_of_ble_eq_true rfl) rfl rfl ⟨by decide, rfl⟩ ?_
      exact ⟨m_fr.rf, hl8, _, k_cp.rf, by unfold x_lb; rw [if_pos h1, if_pos h2]⟩
  · replace h1 := s01_0.mp h1
    refine c_run 1 (pc' := 15) (ls' := [(0, .ref 0), (1, .int e)]) (st' := [.int (-1)]) (μ' := (I, J)) (Nat.le_of_ble_eq_true rfl) rfl ?_
    refine c_ret (Nat.le_of_ble_eq_true rfl) rfl rfl ⟨by decide, rfl⟩ ?_
    exact ⟨m_fr.rf, hl8, _, k_cp.rf, by unfold x_lb; rw [if_neg h1]⟩

