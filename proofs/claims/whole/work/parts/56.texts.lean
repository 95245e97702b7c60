/-! PAIRS: texts, plans -/
section TX
variable {κ : k_M} {I I' : Nat → Nat → Int32} {J J' : Nat → Nat → Int64} {n m l N : Nat} {nm : Int32} {tx : Nat → Int32}
theorem r_TT (C : r_C (I, J) κ nm l N tx) (T : r_T nm l N tx I') : s_ch (I' 93) N = s_ch (I 76) N := by
  funext s
  unfold s_ch
  by_cases h : s < N
  · rw [if_pos h, if_pos h, T.tv s h]; exact (C.tv s h).symm
  · rw [if_neg h, if_neg h]
theorem r_T.nt (T : r_T nm l N tx I) (sp cm nf nm' fi se nu : Int32) : r_T nm l N tx (n_tx I sp cm nf nm' fi se nu) := T.ij rfl rfl (n_tx_o (by omega)) (n_tx_o (by omega))
theorem r_Tx (T : r_T nm l N tx (n_tx I (I 77 21) (I 77 22) (I 77 23) (I 77 24) (I 77 25) (I 77 26) (I 77 27))) : r_T nm l N tx I := by
  rw [n_tx_id] at T; exact T
/-- the text's object and the craft at 1 may have changed -/
theorem r_C.x1 {μ μ' : m_M} {κ' : k_M} (h : r_C μ κ nm l N tx) (hk : k_sh 1 μ' = κ') (hf : x_fr 1 μ μ') : r_C μ' κ' nm l N tx := by
  have e2 : k_sh 38 μ' = k_sh 38 μ := k_sh_c (fun c h1 h2 => hf.1 c (by omega) (by omega))
  have f0 := (hf.1 0 (by omega) (by omega)).1
  have f76 := (hf.1 76 (by omega) (by omega)).1
  exact r_C.mk (k1 := hk) (nv := by rw [f0]; exact h.nv) (l4 := by rw [f0]; exact h.l4) (tn := by rw [hf.2.1]; exact h.tn) (tc := fun i hi => by rw [f76]; exact h.tc i hi) (tv := fun i hi => by rw [f76]; exact h.tv i hi) (lw := by rw [e2]; exact h.lw)
/-- the text's object and the rehearsal may have changed -/
theorem r_C.x38 {μ μ' : m_M} (h : r_C μ κ nm l N tx) (hw : k_lw (k_sh 38 μ')) (hf : x_fr 38 μ μ') : r_C μ' κ nm l N tx := by
  have e1 : k_sh 1 μ' = k_sh 1 μ := k_sh_c (fun c h1 h2 => hf.1 c (by omega) (by omega))
  have f0 := (hf.1 0 (by omega) (by omega)).1
  have f76 := (hf.1 76 (by omega) (by omega)).1
  exact r_C.mk (k1 := by rw [e1]; exact h.k1) (nv := by rw [f0]; exact h.nv) (l4 := by rw [f0]; exact h.l4) (tn := by rw [hf.2.1]; exact h.tn) (tc := fun i hi => by rw [f76]; exact h.tc i hi) (tv := fun i hi => by rw [f76]; exact h.tv i hi) (lw := hw)
end TX
set_option maxRecDepth 100000 in
theorem n_planned0 (I : Nat → Nat → Int32) (J : Nat → Nat → Int64) (R G : Nat → Int64) (N : Nat) (h0 : I 77 18 = nI N) (hN : N ≤ 100) (sp cm nf nm fi se nu : Int32) (hq : ¬ p_ff (s_ch (I 93) N) N 100 0 = -4) : m_W 155 0 (lv_args 0 [.ref 77]) [] ((n_tx I sp cm nf nm fi se nu), (n_J J R G)) (fun v μ' => v = some (.long (-2)) ∧ ∃ sp cm nf nm fi se nu, μ' = (n_tx I sp cm nf nm fi se nu, n_J J R G)) := by
  show m_W 155 0 [(0, .ref 77)] [] ((n_tx I sp cm nf nm fi se nu), (n_J J R G)) _
  refine c_run 1 (pc' := 1) (ls' := [(0, .ref 77)]) (st' := [.ref 77]) (μ' := ((n_tx I sp cm nf nm fi se nu), (n_J J R G))) (Nat.le_of_ble_eq_true rfl) rfl ?_
  refine c_cv 146 [] (b := 77) (r := []) (Nat.le_of_ble_eq_true rfl) rfl rfl rfl rfl rfl rfl (n_faultOf I (n_J J R G) N h0 hN sp cm nf nm fi se nu) ?_
  rintro _ _ ⟨rfl, sp1, cm1, nf1, nm1, fi1, se1, nu1, rfl⟩
  show m_W 155 4 [(0, .ref 77)] [.int (p_ff (s_ch (I 93) N) N 100 0)] ((n_tx I sp1 cm1 nf1 nm1 fi1 se1 nu1), (n_J J R G)) _
  refine c_run 1 (pc' := 6) (ls' := [(0, .ref 77)]) (st' := [.int (-4), .int (p_ff (s_ch (I 93) N) N 100 0)]) (μ' := ((n_tx I sp1 cm1 nf1 nm1 fi1 se1 nu1), (n_J J R G))) (Nat.le_of_ble_eq_true rfl) rfl ?_
  refine c_iceq 13 (Nat.le_of_ble_eq_true rfl) rfl rfl (fun h1 => absurd h1 hq) (fun h1 => ?_)
  refine c_run 1 (pc' := 12) (ls' := [(0, .ref 77)]) (st' := [.long (-2)]) (μ' := ((n_tx I sp1 cm1 nf1 nm1 fi1 se1 nu1), (n_J J R G))) (Nat.le_of_ble_eq_true rfl) rfl ?_
  refine c_lret (Nat.le_of_ble_eq_true rfl) rfl rfl ?_
  exact ⟨rfl, _, _, _, _, _, _, _, rfl⟩

theorem z_fault (μ : m_M) (hZ : Z μ) : zG 27 147 [] μ := by
  obtain ⟨I, J⟩ := μ
  obtain ⟨κ, nm, l, N, tx, n, m, C, T, A⟩ := hZ
  replace A : r_A True κ I J (J 78) n m 0 := A
  replace T : r_T nm l N tx I := T
  refine zD (v := some (.int (p_ff (s_ch (I 76) N) N 100 0))) (κ' := κ) (nm' := nm) (l' := l) (N' := N) (tx' := tx) T A (m_wk (t_fault I J N C.tn T.n1 C.tc) ?_) (fun I' J' A' T' => ?_)
  · rintro _ _ ⟨rfl, a, c, nm1, t, nu, rfl⟩
    exact ⟨rfl, C.x1 (by
      have e : k_sh 1 (c_tx I a c nm1 t nu, J) = k_sh 1 (I, J) := k_sh_c (fun c h1 h2 => ⟨m_ci_o (by omega), rfl⟩)
      rw [e]; exact C.k1) x_fr.tx, fun c hc => ⟨m_ci_o (by omega), rfl⟩⟩
  · have h := n_fault I' (n_J J' (J' 78) (J' 94)) N T'.nl T'.n1 (I' 77 21) (I' 77 22) (I' 77 23) (I' 77 24) (I' 77 25) (I' 77 26) (I' 77 27)
    rw [n_tx_id, r_TT C T'] at h
    refine m_wk h ?_
    rintro _ _ ⟨rfl, sp, cm, nf, nm1, fi, se, nu, rfl⟩
    exact ⟨rfl, _, J', J' 78, J' 94, n, m, rfl, fun c hc => n_tx_o (by omega), fun _ _ => rfl, T'.nt _ _ _ _ _ _ _, r_tx A' _ _ _ _ _ _ _⟩
theorem z_execute (μ : m_M) (hZ : Z μ) : zG 28 150 [] μ := by
  obtain ⟨I, J⟩ := μ
  obtain ⟨κ, nm, l, N, tx, n, m, C, T, A⟩ := hZ
  have e1 := C.k1
  subst e1
  replace A : r_A True (k_sh 1 (I, J)) I J (J 78) n m 0 := A
  replace T : r_T nm l N tx I := T
  refine zD (v := some (.int (x_exec (s_ch (I 76) N) N (k_sh 1 (I, J))).1)) (κ' := (x_exec (s_ch (I 76) N) N (k_sh 1 (I, J))).2) (nm' := nm) (l' := l) (N' := N) (tx' := tx) T A (m_wk (t_execute I J N C.tn T.n1 C.tc (r_wf A.S A.V)) ?_) (fun I' J' A' T' => ?_)
  · rintro _ μ1 ⟨rfl, hk, hf⟩
    exact ⟨rfl, C.x1 hk hf, fun c hc => hf.1 c (by omega) (by omega)⟩
  · have h := n_execute I' J' N T'.nl T'.n1 True n m 0 (k_sh 1 (I, J)) (J' 78) (J' 94) A' (I' 77 21) (I' 77 22) (I' 77 23) (I' 77 24) (I' 77 25) (I' 77 26) (I' 77 27)
    rw [n_tx_id, r_TT C T'] at h
    refine m_wk h ?_
    rintro _ _ ⟨rfl, sp, cm, nf, nm1, fi, se, nu, R', G', rfl, A2⟩
    exact ⟨rfl, _, J', R', G', n, m, rfl, fun c hc => n_tx_o (by omega), fun _ _ => rfl, T'.nt _ _ _ _ _ _ _, r_tx A2 _ _ _ _ _ _ _⟩
theorem z_planned (μ : m_M) (hZ : Z μ) : zG 30 155 [] μ := by
  obtain ⟨I, J⟩ := μ
  obtain ⟨κ, nm, l, N, tx, n, m, C, T, A⟩ := hZ
  have e1 := C.k1
  subst e1
  replace A : r_A True (k_sh 1 (I, J)) I J (J 78) n m 0 := A
  replace T : r_T nm l N tx I := T
  refine m_wk (t_planned I J N C.tn T.n1 C.tc A.V.sv C.lw (r_wf A.S A.V)) ?_
  rintro v ⟨I1, J1⟩ ⟨hf, hw, hn, hy⟩
  have f1 : ∀ c, 77 ≤ c → I1 c = I c := fun c hc => (hf.1 c (by omega) (by omega)).1
  have f2 : ∀ c, 77 ≤ c → J1 c = J c := fun c hc => (hf.1 c (by omega) (by omega)).2
  have C1 := C.x38 hw hf
  have A1 : r_A True (k_sh 1 (I, J)) I1 J1 (J1 78) n m 0 := by rw [f2 78 (by omega)]; exact A.ij f1 f2
  have T1 : r_T nm l N tx I1 := T.ij (by rw [f1 77 (by omega)]) (by rw [f1 77 (by omega)]) (f1 92 (by omega)) (f1 93 (by omega))
  have fin : ∀ κr, k_cp (k_sh 1 (I, J)) κr → k_wf κr → (v = some (.long (if p_ff (s_ch (I 76) N) N 100 0 = -4 then k_ball (k_run (s_ch (I 76) N) N 100 0 0 κr).2 - k_ball (k_sh 1 (I, J)) else -2))) → m_W 155 0 (lv_args 0 [.ref 77]) [] (I1, J1) (fun v' μ2 => v' = v ∧ Z μ2) := fun κr h1 h2 h3 => by
    have h := a_planned I1 J1 N T1.nl T1.n1 True n m 0 (k_sh 1 (I, J)) κr (J1 78) (J1 94) A1 h1 h2 (I1 77 21) (I1 77 22) (I1 77 23) (I1 77 24) (I1 77 25) (I1 77 26) (I1 77 27)
    rw [n_tx_id, n_J_id, r_TT C T1] at h
    refine m_wk h ?_
    rintro _ _ ⟨rfl, sp, cm, nf, nm1, fi, se, nu, J', R', G', rfl, hJ, hR⟩
    exact ⟨h3.symm, z_end C1 (fun c hc => n_tx_o (by omega)) (fun c hc => hJ c (by omega)) (T1.nt _ _ _ _ _ _ _) (r_tx (A1.rw hJ hR) _ _ _ _ _ _ _)⟩
  by_cases q : p_ff (s_ch (I 76) N) N 100 0 = -4
  · obtain ⟨κr, h1, h2, h3⟩ := hy q
    exact fin κr h1 h2 (by rw [if_pos q]; exact h3)
  · -- no text is performed: any copy will do
    have h := n_planned0 I1 J1 (J1 78) (J1 94) N T1.nl T1.n1 (I1 77 21) (I1 77 22) (I1 77 23) (I1 77 24) (I1 77 25) (I1 77 26) (I1 77 27) (by rw [r_TT C T1]; exact q)
    rw [n_tx_id, n_J_id] at h
    refine m_wk h ?_
    rintro _ _ ⟨rfl, sp, cm, nf, nm1, fi, se, nu, rfl⟩
    refine ⟨(hn q).symm, ?_⟩
    have z := z_end (G := J1 94) C1 (fun c hc => n_tx_o (sp := sp) (cm := cm) (nf := nf) (nm := nm1) (fi := fi) (se := se) (nu := nu) (by omega)) (fun _ _ => rfl) (T1.nt sp cm nf nm1 fi se nu) (r_tx A1 sp cm nf nm1 fi se nu)
    rw [n_J_id] at z
    exact z
theorem z_longest (e : Int32) (μ : m_M) (hZ : Z μ) : zG 29 154 [.int e] μ := by
  obtain ⟨I, J⟩ := μ
  obtain ⟨κ, nm, l, N, tx, n, m, C, T, A⟩ := hZ
  have e1 := C.k1
  subst e1
  replace A : r_A True (k_sh 1 (I, J)) I J (J 78) n m 0 := A
  replace T : r_T nm l N tx I := T
  refine m_wk (t_longest I J e A.V.sv C.lw (r_wf A.S A.V)) ?_
  rintro _ ⟨I1, J1⟩ ⟨hf, hw, κr, h1, rfl⟩
  have f1 : ∀ c, 77 ≤ c → I1 c = I c := fun c hc => (hf c (by omega)).1
  have f2 : ∀ c, 77 ≤ c → J1 c = J c := fun c hc => (hf c (by omega)).2
  have C1 := C.x38 hw (x_fr.of (by omega) hf)
  have A1 : r_A True (k_sh 1 (I, J)) I1 J1 (J1 78) n m 0 := by rw [f2 78 (by omega)]; exact A.ij f1 f2
  have T1 : r_T nm l N tx I1 := T.ij (by rw [f1 77 (by omega)]) (by rw [f1 77 (by omega)]) (f1 92 (by omega)) (f1 93 (by omega))
  have h := a_longest (J1 94) A1 h1 e
  rw [n_J_id] at h
  refine m_wk h ?_
  rintro _ _ ⟨rfl, J', R', G', rfl, hJ, hR⟩
  exact ⟨rfl, z_end C1 (fun _ _ => rfl) (fun c hc => hJ c (by omega)) T1 (A1.rw hJ hR)⟩
