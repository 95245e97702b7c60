/-! TEXTS PERFORMED by the model -/
theorem p_at_c {T : Nat → Int32} {s : Nat} {q : p_C} (h : p_at T s = some q) : (q.2.1 = 1 ∨ q.2.1 = 2 ∨ q.2.1 = 3 ∨ q.2.1 = 4 ∨ q.2.1 = 5 ∨ q.2.1 = 6 ∨ q.2.1 = 7) ∧ (q.2.1 = 4 → 1 ≤ q.2.2.2.2 ∧ q.2.2.2.2 ≤ 2000) := by
  unfold p_at at h
  split at h
  · cases h
  · next q' hq =>
    split at h
    · have h := Option.some.inj h
      subst h
      dsimp only
      unfold p_cmd at hq
      repeat' split at hq
      all_goals first
        | (cases hq; done)
        | (have e := Option.some.inj hq; subst e; exact ⟨Or.inl rfl, fun z => absurd z (show ¬ (1 : Int32) = 4 by decide)⟩)
        | (have e := Option.some.inj hq; subst e; exact ⟨Or.inr (Or.inl rfl), fun z => absurd z (show ¬ (2 : Int32) = 4 by decide)⟩)
        | (have e := Option.some.inj hq; subst e; exact ⟨Or.inr (Or.inr (Or.inl rfl)), fun z => absurd z (show ¬ (3 : Int32) = 4 by decide)⟩)
        | (have e := Option.some.inj hq; subst e; exact ⟨Or.inr (Or.inr (Or.inr (Or.inl rfl))), fun _ => And.right (by assumption)⟩)
        | (have e := Option.some.inj hq; subst e; exact ⟨Or.inr (Or.inr (Or.inr (Or.inr (Or.inl rfl)))), fun z => absurd z (show ¬ (5 : Int32) = 4 by decide)⟩)
        | (have e := Option.some.inj hq; subst e; exact ⟨Or.inr (Or.inr (Or.inr (Or.inr (Or.inr (Or.inl rfl))))), fun z => absurd z (show ¬ (6 : Int32) = 4 by decide)⟩)
        | (have e := Option.some.inj hq; subst e; exact ⟨Or.inr (Or.inr (Or.inr (Or.inr (Or.inr (Or.inr rfl))))), fun z => absurd z (show ¬ (7 : Int32) = 4 by decide)⟩)
    · cases h
theorem n_tx_o {I : Nat → Nat → Int32} {sp cm nf nm fi se nu : Int32} {c : Nat} (h : c ≠ 77) : n_tx I sp cm nf nm fi se nu c = I c := m_ci_o h
theorem r_tx {lg : Prop} {κ : k_M} {I : Nat → Nat → Int32} {J : Nat → Nat → Int64} {R : Nat → Int64} {u m : Nat} {B : Int64} (A : r_A lg κ I J R u m B) (sp cm nf nm fi se nu : Int32) : r_A lg κ (n_tx I sp cm nf nm fi se nu) J R u m B := ⟨A.S.ij (fun c h1 h2 => n_tx_o (by omega)) rfl rfl (fun _ _ _ => rfl), A.D, A.V, A.L⟩
theorem r_xt {lg : Prop} {κ : k_M} {I : Nat → Nat → Int32} {J : Nat → Nat → Int64} {R : Nat → Int64} {u m : Nat} {B : Int64} {sp cm nf nm fi se nu : Int32} (A : r_A lg κ (n_tx I sp cm nf nm fi se nu) J R u m B) : r_A lg κ I J R u m B := ⟨A.S.ij (fun c h1 h2 => (n_tx_o (by omega)).symm) rfl rfl (fun _ _ _ => rfl), A.D, A.V, A.L⟩
def n_fQ (I : Nat → Nat → Int32) (J : Nat → Nat → Int64) (x : Int32) : m_Q := fun v μ' => v = some (.int x) ∧ ∃ sp cm nf nm fi se nu, μ' = (n_tx I sp cm nf nm fi se nu, J)
/-- the model's answers of a text that is performed -/
def n_xQ (lg : Prop) (I : Nat → Nat → Int32) (J : Nat → Nat → Int64) (u m : Nat) (B : Int64) (x : Int32 × k_M) : m_Q := fun v μ' => v = some (.int x.1) ∧ ∃ sp cm nf nm fi se nu R' G', μ' = (n_tx I sp cm nf nm fi se nu, n_J J R' G') ∧ r_A lg x.2 I J R' u m B
theorem k_beg_o {κ : k_M} {e : Int32} (h : ¬ 0 ≤ e) : k_begin κ e = (-1, κ) := by
  unfold k_begin; rw [if_neg (fun q => h q.1)]
theorem k_val_o {κ : k_M} {e t o : Int32} (h : ¬ 0 ≤ e) : k_valve κ e t o = (-1, κ) := by
  unfold k_valve; rw [if_neg (fun q => h q.1)]
section ND
variable {lg : Prop} {κ : k_M} {I : Nat → Nat → Int32} {J : Nat → Nat → Int64} {R : Nat → Int64} {u m : Nat} {B : Int64} {f : Nat → Int32} {s l : Nat}
theorem r_km (S : r_S κ I J u m) : km κ = m := by
  show (κ.1 23 0).toNatClampNeg = m
  rw [S.cm]; exact nI_clamp (by have := S.m6; omega)
theorem r_ndb (S : r_S κ I J u m) (hl : l ≤ 6) (hf : ∀ k, k < l → 97 ≤ f (s + k) ∧ f (s + k) ≤ 122) : k_begin κ (n_nd I f s l 0 m) = k_begin κ (k_en κ (p_nm f s l)) := by
  show _ = k_begin κ (k_fd (κ.1 24) (p_nm f s l) 0 (km κ))
  rw [r_km S]
  rcases r_nd S (s := s) hl hf m 0 (by omega) with ⟨a, b⟩ | ⟨j, -, a, b⟩
  · rw [a, b, k_beg_o (by decide), k_beg_o (by decide)]
  · rw [a, b]
theorem r_ndv (S : r_S κ I J u m) (hl : l ≤ 6) (hf : ∀ k, k < l → 97 ≤ f (s + k) ∧ f (s + k) ≤ 122) (t o : Int32) : k_valve κ (n_nd I f s l 0 m) t o = k_valve κ (k_en κ (p_nm f s l)) t o := by
  show _ = k_valve κ (k_fd (κ.1 24) (p_nm f s l) 0 (km κ)) t o
  rw [r_km S]
  rcases r_nd S (s := s) hl hf m 0 (by omega) with ⟨a, b⟩ | ⟨j, -, a, b⟩
  · rw [a, b, k_val_o (by decide), k_val_o (by decide)]
  · rw [a, b]
end ND
theorem nm_T {f : Nat → Int32} {N a b : Nat} (h : a + b ≤ N) : (∀ k, k < b → s_ch f N (a + k) = f (a + k)) := fun k hk => if_pos (by omega)

set_option maxRecDepth 100000 in
theorem n_ff_l (I : Nat → Nat → Int32) (J : Nat → Nat → Int64) (N : Nat) (h0 : I 77 18 = nI N) (hN : N ≤ 100)  : ∀ (r s : Nat), N ≤ s + r → s ≤ 200 → ∀ cm nf nm fi se nu : Int32, m_W 146 5 [(0, .ref 77)] [] ((n_tx I (nI s) cm nf nm fi se nu), J) (n_fQ I J (p_ff (s_ch (I 93) N) N r s)) := by
  intro r
  induction r with
  | zero =>
    intro s hsr hs1 cm nf nm fi se nu
    refine c_run 4 (pc' := 13) (ls' := [(0, .ref 77)]) (st' := [.int (I 77 18), .int (nI s)]) (μ' := ((n_tx I (nI s) cm nf nm fi se nu), J)) (Nat.le_of_ble_eq_true rfl) rfl ?_
    refine c_icge 33 (Nat.le_of_ble_eq_true rfl) rfl rfl (fun h1 => ?_) (fun h1 => absurd (by rw [h0]; exact nI_le (by omega) (by omega)) h1)
    refine c_run 1 (pc' := 35) (ls' := [(0, .ref 77)]) (st' := [.int (-4)]) (μ' := ((n_tx I (nI s) cm nf nm fi se nu), J)) (Nat.le_of_ble_eq_true rfl) rfl ?_
    refine c_ret (Nat.le_of_ble_eq_true rfl) rfl rfl ⟨by decide, rfl⟩ ?_
    exact ⟨rfl, _, _, _, _, _, _, _, rfl⟩
  | succ r ih =>
    intro s hsr hs1 cm nf nm fi se nu
    refine c_run 4 (pc' := 13) (ls' := [(0, .ref 77)]) (st' := [.int (I 77 18), .int (nI s)]) (μ' := ((n_tx I (nI s) cm nf nm fi se nu), J)) (Nat.le_of_ble_eq_true rfl) rfl ?_
    refine c_icge 33 (Nat.le_of_ble_eq_true rfl) rfl rfl (fun h1 => ?_) (fun h1 => ?_)
    · skip
      refine c_run 1 (pc' := 35) (ls' := [(0, .ref 77)]) (st' := [.int (-4)]) (μ' := ((n_tx I (nI s) cm nf nm fi se nu), J)) (Nat.le_of_ble_eq_true rfl) rfl ?_
      refine c_ret (Nat.le_of_ble_eq_true rfl) rfl rfl ⟨by decide, rfl⟩ ?_
      refine ⟨?_, _, _, _, _, _, _, _, rfl⟩
      rw [p_ff, if_neg (fun q => absurd (show I 77 18 ≤ nI s by assumption) (by rw [h0]; exact nI_ge q (by omega)))]
    · skip
      refine c_run 4 (pc' := 22) (ls' := [(1, .int (nI s)), (0, .ref 77)]) (st' := [.ref 77]) (μ' := ((n_tx I (nI s) cm nf nm fi se nu), J)) (Nat.le_of_ble_eq_true rfl) rfl ?_
      have hsn : s < N := (nI_ltI (by omega) (by omega)).mp (by rw [← h0]; exact Int32.not_le.mp (by assumption))
      have hc := n_isCommand I J N h0 hN s (by omega) cm nf nm fi se nu
      rcases hp : p_at (s_ch (I 93) N) s with _ | q
      · skip
        rw [hp] at hc
        show m_W 146 22 [(1, .int (nI s)), (0, .ref 77)] [.ref 77] ((n_tx I (nI s) cm nf nm fi se nu), J) _
        refine c_cv 145 [] (b := 77) (r := []) (Nat.le_of_ble_eq_true rfl) rfl rfl rfl rfl rfl rfl (hc) ?_
        rintro _ _ ⟨rfl, sp1, cm1, nf1, nm1, fi1, se1, nu1, rfl⟩
        show m_W 146 25 [(1, .int (nI s)), (0, .ref 77)] [.int 0] ((n_tx I sp1 cm1 nf1 nm1 fi1 se1 nu1), J) _
        refine c_ifne 30 (Nat.le_of_ble_eq_true rfl) rfl rfl (fun h2 => absurd (by decide) h2) (fun h2 => ?_)
        refine c_run 1 (pc' := 29) (ls' := [(1, .int (nI s)), (0, .ref 77)]) (st' := [.int (nI s)]) (μ' := ((n_tx I sp1 cm1 nf1 nm1 fi1 se1 nu1), J)) (Nat.le_of_ble_eq_true rfl) rfl ?_
        refine c_ret (Nat.le_of_ble_eq_true rfl) rfl rfl ⟨by decide, rfl⟩ ?_
        refine ⟨?_, _, _, _, _, _, _, _, rfl⟩
        rw [p_ff, if_pos hsn, hp]
      · skip
        rw [hp] at hc
        have hpb := p_at_b hp
        show m_W 146 22 [(1, .int (nI s)), (0, .ref 77)] [.ref 77] ((n_tx I (nI s) cm nf nm fi se nu), J) _
        refine c_cv 145 [] (b := 77) (r := []) (Nat.le_of_ble_eq_true rfl) rfl rfl rfl rfl rfl rfl (hc) ?_
        rintro _ _ ⟨rfl, nf1, nm1, fi1, se1, nu1, rfl, hus⟩
        show m_W 146 25 [(1, .int (nI s)), (0, .ref 77)] [.int 1] ((n_tx I (nI q.1) (q.2.1 - 1) nf1 nm1 fi1 se1 nu1), J) _
        refine c_ifne 30 (Nat.le_of_ble_eq_true rfl) rfl rfl (fun h3 => ?_) (fun h3 => absurd h3 (by decide))
        refine c_run 1 (pc' := 5) (ls' := [(1, .int (nI s)), (0, .ref 77)]) (st' := []) (μ' := ((n_tx I (nI q.1) (q.2.1 - 1) nf1 nm1 fi1 se1 nu1), J)) (Nat.le_of_ble_eq_true rfl) rfl ?_
        refine c_w [1] (ls' := [(0, .ref 77)]) rfl ?_
        rw [p_ff, if_pos hsn, hp]
        exact ih q.1 (by omega) (by omega) (q.2.1 - 1) nf1 nm1 fi1 se1 nu1

set_option maxRecDepth 100000 in
theorem n_faultOf (I : Nat → Nat → Int32) (J : Nat → Nat → Int64) (N : Nat) (h0 : I 77 18 = nI N) (hN : N ≤ 100) (sp cm nf nm fi se nu : Int32) : m_W 146 0 (lv_args 0 [.ref 77]) [] ((n_tx I sp cm nf nm fi se nu), J) (n_fQ I J (p_ff (s_ch (I 93) N) N 100 0)) := by
  show m_W 146 0 [(0, .ref 77)] [] ((n_tx I sp cm nf nm fi se nu), J) _
  refine c_run 3 (pc' := 5) (ls' := [(0, .ref 77)]) (st' := []) (μ' := ((m_ui (n_tx I sp cm nf nm fi se nu) 77 21 0), J)) (Nat.le_of_ble_eq_true rfl) rfl ?_
  refine c_w [0] (ls' := [(0, .ref 77)]) rfl ?_
  rw [n_tx21]
  exact n_ff_l I J N h0 hN 100 0 (by omega) (by omega) cm nf nm fi se nu

set_option maxRecDepth 100000 in
theorem n_do_1 (I : Nat → Nat → Int32) (J : Nat → Nat → Int64) (lg : Prop) (κ : k_M) (R G : Nat → Int64) (u m : Nat) (B : Int64) (sp nf nm fi se nu : Int32) (a b : Nat) (hb6 : b ≤ 6) (hab : a + b ≤ 100) (hlt : ∀ k, k < b → 97 ≤ I 93 (a + k) ∧ I 93 (a + k) ≤ 122) (tk nu' : Int32) (A : r_A lg κ (n_tx I sp 0 (nI a) (nI b) fi se nu) J R u m B)  : m_W 148 0 (lv_args 0 [.ref 77]) [] ((n_tx I sp 0 (nI a) (nI b) fi se nu), (n_J J R G)) (r_Q lg (n_tx I sp 0 (nI a) (nI b) fi se nu) J u m B (k_do κ 1 (p_nm (I 93) a b) tk nu')) := by
  show m_W 148 0 [(0, .ref 77)] [] ((n_tx I sp 0 (nI a) (nI b) fi se nu), (n_J J R G)) _
  have hk : k_do κ 1 (p_nm (I 93) a b) tk nu' = (k_ok (k_begin κ (n_nd (n_tx I sp 0 (nI a) (nI b) fi se nu) (I 93) a b 0 m)).1, (k_begin κ (n_nd (n_tx I sp 0 (nI a) (nI b) fi se nu) (I 93) a b 0 m)).2) := by
    unfold k_do
    rw [if_pos rfl, r_ndb A.S hb6 hlt]
  refine c_run 3 (pc' := 5) (ls' := [(0, .ref 77)]) (st' := [.int 1, .int 0]) (μ' := ((n_tx I sp 0 (nI a) (nI b) fi se nu), (n_J J R G))) (Nat.le_of_ble_eq_true rfl) rfl ?_
  refine c_iceq 25 (Nat.le_of_ble_eq_true rfl) rfl rfl (fun h1 => absurd h1 (by decide)) (fun h1 => ?_)
  refine c_run 3 (pc' := 13) (ls' := [(0, .ref 77)]) (st' := [.int 2, .int 0]) (μ' := ((n_tx I sp 0 (nI a) (nI b) fi se nu), (n_J J R G))) (Nat.le_of_ble_eq_true rfl) rfl ?_
  refine c_iceq 25 (Nat.le_of_ble_eq_true rfl) rfl rfl (fun h2 => absurd h2 (by decide)) (fun h2 => ?_)
  refine c_run 3 (pc' := 22) (ls' := [(0, .ref 77)]) (st' := [.int 6, .int 0]) (μ' := ((n_tx I sp 0 (nI a) (nI b) fi se nu), (n_J J R G))) (Nat.le_of_ble_eq_true rfl) rfl ?_
  refine c_icne 29 (Nat.le_of_ble_eq_true rfl) rfl rfl (fun h3 => ?_) (fun h3 => absurd h3 (by decide))
  refine c_run 7 (pc' := 42) (ls' := [(0, .ref 77)]) (st' := [.int (nI b), .int (nI a), .ref 93, .ref 77]) (μ' := ((n_tx I sp 0 (nI a) (nI b) fi se nu), (n_J J R G))) (Nat.le_of_ble_eq_true rfl) rfl ?_
  refine c_cv 116 [.ref 93, .int (nI a), .int (nI b)] (b := 77) (r := []) (Nat.le_of_ble_eq_true rfl) rfl rfl rfl rfl rfl rfl (n_named93 (n_tx I sp 0 (nI a) (nI b) fi se nu) (n_J J R G) a b hab hb6 m A.S.mm A.S.m6) ?_
  rintro _ _ ⟨rfl, rfl⟩
  show m_W 148 45 [(0, .ref 77)] [.int (n_nd (n_tx I sp 0 (nI a) (nI b) fi se nu) (I 93) a b 0 m)] ((n_tx I sp 0 (nI a) (nI b) fi se nu), (n_J J R G)) _
  refine c_run 3 (pc' := 50) (ls' := [(1, .int (n_nd (n_tx I sp 0 (nI a) (nI b) fi se nu) (I 93) a b 0 m)), (0, .ref 77)]) (st' := [.int 0]) (μ' := ((n_tx I sp 0 (nI a) (nI b) fi se nu), (n_J J R G))) (Nat.le_of_ble_eq_true rfl) rfl ?_
  refine c_sw (Nat.le_of_ble_eq_true rfl) rfl 209 rfl (fun h4 => absurd h4 (by decide)) (fun j o ho h4 _ => ?_)
  obtain rfl : j = 0 := by
    have hjz : (0 : Int) = 0 + (j : Int) := h4
    omega
  have ho : (38 : Int) = o := by simpa using ho
  subst ho
  show m_W 148 88 [(1, .int (n_nd (n_tx I sp 0 (nI a) (nI b) fi se nu) (I 93) a b 0 m)), (0, .ref 77)] [] ((n_tx I sp 0 (nI a) (nI b) fi se nu), (n_J J R G)) _
  refine c_run 2 (pc' := 90) (ls' := [(1, .int (n_nd (n_tx I sp 0 (nI a) (nI b) fi se nu) (I 93) a b 0 m)), (0, .ref 77)]) (st' := [.int (n_nd (n_tx I sp 0 (nI a) (nI b) fi se nu) (I 93) a b 0 m), .ref 77]) (μ' := ((n_tx I sp 0 (nI a) (nI b) fi se nu), (n_J J R G))) (Nat.le_of_ble_eq_true rfl) rfl ?_
  refine c_cv 122 [.int (n_nd (n_tx I sp 0 (nI a) (nI b) fi se nu) (I 93) a b 0 m)] (b := 77) (r := []) (Nat.le_of_ble_eq_true rfl) rfl rfl rfl rfl rfl rfl (a_ignite G A (n_nd (n_tx I sp 0 (nI a) (nI b) fi se nu) (I 93) a b 0 m)) ?_
  rintro _ _ ⟨rfl, R1, G1, rfl, A1⟩
  show m_W 148 93 [(1, .int (n_nd (n_tx I sp 0 (nI a) (nI b) fi se nu) (I 93) a b 0 m)), (0, .ref 77)] [.int ((k_begin κ (n_nd (n_tx I sp 0 (nI a) (nI b) fi se nu) (I 93) a b 0 m)).1)] ((n_tx I sp 0 (nI a) (nI b) fi se nu), (n_J J R1 G1)) _
  refine c_iflt 100 (Nat.le_of_ble_eq_true rfl) rfl rfl (fun h5 => ?_) (fun h5 => ?_)
  · skip
    refine c_run 1 (pc' := 101) (ls' := [(1, .int (n_nd (n_tx I sp 0 (nI a) (nI b) fi se nu) (I 93) a b 0 m)), (0, .ref 77)]) (st' := [.int 0]) (μ' := ((n_tx I sp 0 (nI a) (nI b) fi se nu), (n_J J R1 G1))) (Nat.le_of_ble_eq_true rfl) rfl ?_
    refine c_ret (Nat.le_of_ble_eq_true rfl) rfl rfl ⟨by decide, rfl⟩ ?_
    rw [hk]
    refine ⟨?_, R1, G1, rfl, A1⟩
    unfold k_ok
    dsimp only
    rw [if_pos h5]
  · skip
    refine c_run 2 (pc' := 101) (ls' := [(1, .int (n_nd (n_tx I sp 0 (nI a) (nI b) fi se nu) (I 93) a b 0 m)), (0, .ref 77)]) (st' := [.int 1]) (μ' := ((n_tx I sp 0 (nI a) (nI b) fi se nu), (n_J J R1 G1))) (Nat.le_of_ble_eq_true rfl) rfl ?_
    refine c_ret (Nat.le_of_ble_eq_true rfl) rfl rfl ⟨by decide, rfl⟩ ?_
    rw [hk]
    refine ⟨?_, R1, G1, rfl, A1⟩
    unfold k_ok
    dsimp only
    rw [if_neg h5]

set_option maxRecDepth 100000 in
theorem n_do_2 (I : Nat → Nat → Int32) (J : Nat → Nat → Int64) (lg : Prop) (κ : k_M) (R G : Nat → Int64) (u m : Nat) (B : Int64) (sp nf nm fi se nu : Int32) (nm' tk nu' : Int32) (A : r_A lg κ (n_tx I sp 1 nf nm fi se nu) J R u m B)  : m_W 148 0 (lv_args 0 [.ref 77]) [] ((n_tx I sp 1 nf nm fi se nu), (n_J J R G)) (r_Q lg (n_tx I sp 1 nf nm fi se nu) J u m B (k_do κ 2 nm' tk nu')) := by
  show m_W 148 0 [(0, .ref 77)] [] ((n_tx I sp 1 nf nm fi se nu), (n_J J R G)) _
  have hk : k_do κ 2 nm' tk nu' = (k_ok (k_endx κ).1, (k_endx κ).2) := by
    unfold k_do
    rw [if_neg (by decide), if_pos rfl]
  refine c_run 3 (pc' := 5) (ls' := [(0, .ref 77)]) (st' := [.int 1, .int 1]) (μ' := ((n_tx I sp 1 nf nm fi se nu), (n_J J R G))) (Nat.le_of_ble_eq_true rfl) rfl ?_
  refine c_iceq 25 (Nat.le_of_ble_eq_true rfl) rfl rfl (fun h1 => ?_) (fun h1 => absurd (by decide) h1)
  refine c_run 5 (pc' := 50) (ls' := [(1, .int (-1)), (0, .ref 77)]) (st' := [.int 1]) (μ' := ((n_tx I sp 1 nf nm fi se nu), (n_J J R G))) (Nat.le_of_ble_eq_true rfl) rfl ?_
  refine c_sw (Nat.le_of_ble_eq_true rfl) rfl 209 rfl (fun h2 => absurd h2 (by decide)) (fun j o ho h2 _ => ?_)
  obtain rfl : j = 1 := by
    have hjz : (1 : Int) = 0 + (j : Int) := h2
    omega
  have ho : (52 : Int) = o := by simpa using ho
  subst ho
  show m_W 148 102 [(1, .int (-1)), (0, .ref 77)] [] ((n_tx I sp 1 nf nm fi se nu), (n_J J R G)) _
  refine c_run 1 (pc' := 103) (ls' := [(1, .int (-1)), (0, .ref 77)]) (st' := [.ref 77]) (μ' := ((n_tx I sp 1 nf nm fi se nu), (n_J J R G))) (Nat.le_of_ble_eq_true rfl) rfl ?_
  refine c_cv 123 [] (b := 77) (r := []) (Nat.le_of_ble_eq_true rfl) rfl rfl rfl rfl rfl rfl (a_cutoff G A ) ?_
  rintro _ _ ⟨rfl, R1, G1, rfl, A1⟩
  show m_W 148 106 [(1, .int (-1)), (0, .ref 77)] [.int ((k_endx κ).1)] ((n_tx I sp 1 nf nm fi se nu), (n_J J R1 G1)) _
  refine c_iflt 113 (Nat.le_of_ble_eq_true rfl) rfl rfl (fun h3 => ?_) (fun h3 => ?_)
  · skip
    refine c_run 1 (pc' := 114) (ls' := [(1, .int (-1)), (0, .ref 77)]) (st' := [.int 0]) (μ' := ((n_tx I sp 1 nf nm fi se nu), (n_J J R1 G1))) (Nat.le_of_ble_eq_true rfl) rfl ?_
    refine c_ret (Nat.le_of_ble_eq_true rfl) rfl rfl ⟨by decide, rfl⟩ ?_
    rw [hk]
    refine ⟨?_, R1, G1, rfl, A1⟩
    unfold k_ok
    dsimp only
    rw [if_pos h3]
  · skip
    refine c_run 2 (pc' := 114) (ls' := [(1, .int (-1)), (0, .ref 77)]) (st' := [.int 1]) (μ' := ((n_tx I sp 1 nf nm fi se nu), (n_J J R1 G1))) (Nat.le_of_ble_eq_true rfl) rfl ?_
    refine c_ret (Nat.le_of_ble_eq_true rfl) rfl rfl ⟨by decide, rfl⟩ ?_
    rw [hk]
    refine ⟨?_, R1, G1, rfl, A1⟩
    unfold k_ok
    dsimp only
    rw [if_neg h3]

set_option maxRecDepth 100000 in
theorem n_do_3 (I : Nat → Nat → Int32) (J : Nat → Nat → Int64) (lg : Prop) (κ : k_M) (R G : Nat → Int64) (u m : Nat) (B : Int64) (sp nf nm fi se nu : Int32) (nm' tk : Int32) (A : r_A lg κ (n_tx I sp 2 nf nm fi se nu) J R u m B)  : m_W 148 0 (lv_args 0 [.ref 77]) [] ((n_tx I sp 2 nf nm fi se nu), (n_J J R G)) (r_Q lg (n_tx I sp 2 nf nm fi se nu) J u m B (k_do κ 3 nm' tk fi)) := by
  show m_W 148 0 [(0, .ref 77)] [] ((n_tx I sp 2 nf nm fi se nu), (n_J J R G)) _
  have hk : k_do κ 3 nm' tk fi = (k_ok (k_passx κ fi).1, (k_passx κ fi).2) := by
    unfold k_do
    rw [if_neg (by decide), if_neg (by decide), if_pos rfl]
  refine c_run 3 (pc' := 5) (ls' := [(0, .ref 77)]) (st' := [.int 1, .int 2]) (μ' := ((n_tx I sp 2 nf nm fi se nu), (n_J J R G))) (Nat.le_of_ble_eq_true rfl) rfl ?_
  refine c_iceq 25 (Nat.le_of_ble_eq_true rfl) rfl rfl (fun h1 => absurd h1 (by decide)) (fun h1 => ?_)
  refine c_run 3 (pc' := 13) (ls' := [(0, .ref 77)]) (st' := [.int 2, .int 2]) (μ' := ((n_tx I sp 2 nf nm fi se nu), (n_J J R G))) (Nat.le_of_ble_eq_true rfl) rfl ?_
  refine c_iceq 25 (Nat.le_of_ble_eq_true rfl) rfl rfl (fun h2 => ?_) (fun h2 => absurd (by decide) h2)
  refine c_run 5 (pc' := 50) (ls' := [(1, .int (-1)), (0, .ref 77)]) (st' := [.int 2]) (μ' := ((n_tx I sp 2 nf nm fi se nu), (n_J J R G))) (Nat.le_of_ble_eq_true rfl) rfl ?_
  refine c_sw (Nat.le_of_ble_eq_true rfl) rfl 209 rfl (fun h3 => absurd h3 (by decide)) (fun j o ho h3 _ => ?_)
  obtain rfl : j = 2 := by
    have hjz : (2 : Int) = 0 + (j : Int) := h3
    omega
  have ho : (65 : Int) = o := by simpa using ho
  subst ho
  show m_W 148 115 [(1, .int (-1)), (0, .ref 77)] [] ((n_tx I sp 2 nf nm fi se nu), (n_J J R G)) _
  refine c_run 3 (pc' := 120) (ls' := [(1, .int (-1)), (0, .ref 77)]) (st' := [.int fi, .ref 77]) (μ' := ((n_tx I sp 2 nf nm fi se nu), (n_J J R G))) (Nat.le_of_ble_eq_true rfl) rfl ?_
  refine c_cv 128 [.int fi] (b := 77) (r := []) (Nat.le_of_ble_eq_true rfl) rfl rfl rfl rfl rfl rfl (a_pass G A fi) ?_
  rintro _ _ ⟨rfl, R1, G1, rfl, A1⟩
  show m_W 148 123 [(1, .int (-1)), (0, .ref 77)] [.int ((k_passx κ fi).1)] ((n_tx I sp 2 nf nm fi se nu), (n_J J R1 G1)) _
  refine c_iflt 130 (Nat.le_of_ble_eq_true rfl) rfl rfl (fun h4 => ?_) (fun h4 => ?_)
  · skip
    refine c_run 1 (pc' := 131) (ls' := [(1, .int (-1)), (0, .ref 77)]) (st' := [.int 0]) (μ' := ((n_tx I sp 2 nf nm fi se nu), (n_J J R1 G1))) (Nat.le_of_ble_eq_true rfl) rfl ?_
    refine c_ret (Nat.le_of_ble_eq_true rfl) rfl rfl ⟨by decide, rfl⟩ ?_
    rw [hk]
    refine ⟨?_, R1, G1, rfl, A1⟩
    unfold k_ok
    dsimp only
    rw [if_pos h4]
  · skip
    refine c_run 2 (pc' := 131) (ls' := [(1, .int (-1)), (0, .ref 77)]) (st' := [.int 1]) (μ' := ((n_tx I sp 2 nf nm fi se nu), (n_J J R1 G1))) (Nat.le_of_ble_eq_true rfl) rfl ?_
    refine c_ret (Nat.le_of_ble_eq_true rfl) rfl rfl ⟨by decide, rfl⟩ ?_
    rw [hk]
    refine ⟨?_, R1, G1, rfl, A1⟩
    unfold k_ok
    dsimp only
    rw [if_neg h4]

set_option maxRecDepth 100000 in
theorem n_do_5 (I : Nat → Nat → Int32) (J : Nat → Nat → Int64) (lg : Prop) (κ : k_M) (R G : Nat → Int64) (u m : Nat) (B : Int64) (sp nf nm fi se nu : Int32) (a b : Nat) (hb6 : b ≤ 6) (hab : a + b ≤ 100) (hlt : ∀ k, k < b → 97 ≤ I 93 (a + k) ∧ I 93 (a + k) ≤ 122) (nu' : Int32) (A : r_A lg κ (n_tx I sp 4 (nI a) (nI b) fi se nu) J R u m B)  : m_W 148 0 (lv_args 0 [.ref 77]) [] ((n_tx I sp 4 (nI a) (nI b) fi se nu), (n_J J R G)) (r_Q lg (n_tx I sp 4 (nI a) (nI b) fi se nu) J u m B (k_do κ 5 (p_nm (I 93) a b) fi nu')) := by
  show m_W 148 0 [(0, .ref 77)] [] ((n_tx I sp 4 (nI a) (nI b) fi se nu), (n_J J R G)) _
  have hk : k_do κ 5 (p_nm (I 93) a b) fi nu' = (k_ok (k_valve κ (n_nd (n_tx I sp 4 (nI a) (nI b) fi se nu) (I 93) a b 0 m) fi 1).1, (k_valve κ (n_nd (n_tx I sp 4 (nI a) (nI b) fi se nu) (I 93) a b 0 m) fi 1).2) := by
    unfold k_do
    rw [if_neg (by decide), if_neg (by decide), if_neg (by decide), if_neg (by decide), if_pos rfl, r_ndv A.S hb6 hlt]
  refine c_run 3 (pc' := 5) (ls' := [(0, .ref 77)]) (st' := [.int 1, .int 4]) (μ' := ((n_tx I sp 4 (nI a) (nI b) fi se nu), (n_J J R G))) (Nat.le_of_ble_eq_true rfl) rfl ?_
  refine c_iceq 25 (Nat.le_of_ble_eq_true rfl) rfl rfl (fun h1 => absurd h1 (by decide)) (fun h1 => ?_)
  refine c_run 3 (pc' := 13) (ls' := [(0, .ref 77)]) (st' := [.int 2, .int 4]) (μ' := ((n_tx I sp 4 (nI a) (nI b) fi se nu), (n_J J R G))) (Nat.le_of_ble_eq_true rfl) rfl ?_
  refine c_iceq 25 (Nat.le_of_ble_eq_true rfl) rfl rfl (fun h2 => absurd h2 (by decide)) (fun h2 => ?_)
  refine c_run 3 (pc' := 22) (ls' := [(0, .ref 77)]) (st' := [.int 6, .int 4]) (μ' := ((n_tx I sp 4 (nI a) (nI b) fi se nu), (n_J J R G))) (Nat.le_of_ble_eq_true rfl) rfl ?_
  refine c_icne 29 (Nat.le_of_ble_eq_true rfl) rfl rfl (fun h3 => ?_) (fun h3 => absurd h3 (by decide))
  refine c_run 7 (pc' := 42) (ls' := [(0, .ref 77)]) (st' := [.int (nI b), .int (nI a), .ref 93, .ref 77]) (μ' := ((n_tx I sp 4 (nI a) (nI b) fi se nu), (n_J J R G))) (Nat.le_of_ble_eq_true rfl) rfl ?_
  refine c_cv 116 [.ref 93, .int (nI a), .int (nI b)] (b := 77) (r := []) (Nat.le_of_ble_eq_true rfl) rfl rfl rfl rfl rfl rfl (n_named93 (n_tx I sp 4 (nI a) (nI b) fi se nu) (n_J J R G) a b hab hb6 m A.S.mm A.S.m6) ?_
  rintro _ _ ⟨rfl, rfl⟩
  show m_W 148 45 [(0, .ref 77)] [.int (n_nd (n_tx I sp 4 (nI a) (nI b) fi se nu) (I 93) a b 0 m)] ((n_tx I sp 4 (nI a) (nI b) fi se nu), (n_J J R G)) _
  refine c_run 3 (pc' := 50) (ls' := [(1, .int (n_nd (n_tx I sp 4 (nI a) (nI b) fi se nu) (I 93) a b 0 m)), (0, .ref 77)]) (st' := [.int 4]) (μ' := ((n_tx I sp 4 (nI a) (nI b) fi se nu), (n_J J R G))) (Nat.le_of_ble_eq_true rfl) rfl ?_
  refine c_sw (Nat.le_of_ble_eq_true rfl) rfl 209 rfl (fun h4 => absurd h4 (by decide)) (fun j o ho h4 _ => ?_)
  obtain rfl : j = 4 := by
    have hjz : (4 : Int) = 0 + (j : Int) := h4
    omega
  have ho : (128 : Int) = o := by simpa using ho
  subst ho
  show m_W 148 178 [(1, .int (n_nd (n_tx I sp 4 (nI a) (nI b) fi se nu) (I 93) a b 0 m)), (0, .ref 77)] [] ((n_tx I sp 4 (nI a) (nI b) fi se nu), (n_J J R G)) _
  refine c_run 7 (pc' := 189) (ls' := [(1, .int (n_nd (n_tx I sp 4 (nI a) (nI b) fi se nu) (I 93) a b 0 m)), (0, .ref 77)]) (st' := [.int 4, .int 4, .int fi, .int (n_nd (n_tx I sp 4 (nI a) (nI b) fi se nu) (I 93) a b 0 m), .ref 77]) (μ' := ((n_tx I sp 4 (nI a) (nI b) fi se nu), (n_J J R G))) (Nat.le_of_ble_eq_true rfl) rfl ?_
  refine c_icne 196 (Nat.le_of_ble_eq_true rfl) rfl rfl (fun h5 => absurd (by decide) h5) (fun h5 => ?_)
  refine c_run 2 (pc' := 197) (ls' := [(1, .int (n_nd (n_tx I sp 4 (nI a) (nI b) fi se nu) (I 93) a b 0 m)), (0, .ref 77)]) (st' := [.int 1, .int fi, .int (n_nd (n_tx I sp 4 (nI a) (nI b) fi se nu) (I 93) a b 0 m), .ref 77]) (μ' := ((n_tx I sp 4 (nI a) (nI b) fi se nu), (n_J J R G))) (Nat.le_of_ble_eq_true rfl) rfl ?_
  refine c_cv 119 [.int (n_nd (n_tx I sp 4 (nI a) (nI b) fi se nu) (I 93) a b 0 m), .int fi, .int 1] (b := 77) (r := []) (Nat.le_of_ble_eq_true rfl) rfl rfl rfl rfl rfl rfl (a_valve G A (n_nd (n_tx I sp 4 (nI a) (nI b) fi se nu) (I 93) a b 0 m) fi 1) ?_
  rintro _ _ ⟨rfl, R1, G1, rfl, A1⟩
  show m_W 148 200 [(1, .int (n_nd (n_tx I sp 4 (nI a) (nI b) fi se nu) (I 93) a b 0 m)), (0, .ref 77)] [.int ((k_valve κ (n_nd (n_tx I sp 4 (nI a) (nI b) fi se nu) (I 93) a b 0 m) fi 1).1)] ((n_tx I sp 4 (nI a) (nI b) fi se nu), (n_J J R1 G1)) _
  refine c_iflt 207 (Nat.le_of_ble_eq_true rfl) rfl rfl (fun h6 => ?_) (fun h6 => ?_)
  · skip
    refine c_run 1 (pc' := 208) (ls' := [(1, .int (n_nd (n_tx I sp 4 (nI a) (nI b) fi se nu) (I 93) a b 0 m)), (0, .ref 77)]) (st' := [.int 0]) (μ' := ((n_tx I sp 4 (nI a) (nI b) fi se nu), (n_J J R1 G1))) (Nat.le_of_ble_eq_true rfl) rfl ?_
    refine c_ret (Nat.le_of_ble_eq_true rfl) rfl rfl ⟨by decide, rfl⟩ ?_
    rw [hk]
    refine ⟨?_, R1, G1, rfl, A1⟩
    unfold k_ok
    dsimp only
    rw [if_pos h6]
  · skip
    refine c_run 2 (pc' := 208) (ls' := [(1, .int (n_nd (n_tx I sp 4 (nI a) (nI b) fi se nu) (I 93) a b 0 m)), (0, .ref 77)]) (st' := [.int 1]) (μ' := ((n_tx I sp 4 (nI a) (nI b) fi se nu), (n_J J R1 G1))) (Nat.le_of_ble_eq_true rfl) rfl ?_
    refine c_ret (Nat.le_of_ble_eq_true rfl) rfl rfl ⟨by decide, rfl⟩ ?_
    rw [hk]
    refine ⟨?_, R1, G1, rfl, A1⟩
    unfold k_ok
    dsimp only
    rw [if_neg h6]

set_option maxRecDepth 100000 in
theorem n_do_6 (I : Nat → Nat → Int32) (J : Nat → Nat → Int64) (lg : Prop) (κ : k_M) (R G : Nat → Int64) (u m : Nat) (B : Int64) (sp nf nm fi se nu : Int32) (a b : Nat) (hb6 : b ≤ 6) (hab : a + b ≤ 100) (hlt : ∀ k, k < b → 97 ≤ I 93 (a + k) ∧ I 93 (a + k) ≤ 122) (nu' : Int32) (A : r_A lg κ (n_tx I sp 5 (nI a) (nI b) fi se nu) J R u m B)  : m_W 148 0 (lv_args 0 [.ref 77]) [] ((n_tx I sp 5 (nI a) (nI b) fi se nu), (n_J J R G)) (r_Q lg (n_tx I sp 5 (nI a) (nI b) fi se nu) J u m B (k_do κ 6 (p_nm (I 93) a b) fi nu')) := by
  show m_W 148 0 [(0, .ref 77)] [] ((n_tx I sp 5 (nI a) (nI b) fi se nu), (n_J J R G)) _
  have hk : k_do κ 6 (p_nm (I 93) a b) fi nu' = (k_ok (k_valve κ (n_nd (n_tx I sp 5 (nI a) (nI b) fi se nu) (I 93) a b 0 m) fi 0).1, (k_valve κ (n_nd (n_tx I sp 5 (nI a) (nI b) fi se nu) (I 93) a b 0 m) fi 0).2) := by
    unfold k_do
    rw [if_neg (by decide), if_neg (by decide), if_neg (by decide), if_neg (by decide), if_neg (by decide), if_pos rfl, r_ndv A.S hb6 hlt]
  refine c_run 3 (pc' := 5) (ls' := [(0, .ref 77)]) (st' := [.int 1, .int 5]) (μ' := ((n_tx I sp 5 (nI a) (nI b) fi se nu), (n_J J R G))) (Nat.le_of_ble_eq_true rfl) rfl ?_
  refine c_iceq 25 (Nat.le_of_ble_eq_true rfl) rfl rfl (fun h1 => absurd h1 (by decide)) (fun h1 => ?_)
  refine c_run 3 (pc' := 13) (ls' := [(0, .ref 77)]) (st' := [.int 2, .int 5]) (μ' := ((n_tx I sp 5 (nI a) (nI b) fi se nu), (n_J J R G))) (Nat.le_of_ble_eq_true rfl) rfl ?_
  refine c_iceq 25 (Nat.le_of_ble_eq_true rfl) rfl rfl (fun h2 => absurd h2 (by decide)) (fun h2 => ?_)
  refine c_run 3 (pc' := 22) (ls' := [(0, .ref 77)]) (st' := [.int 6, .int 5]) (μ' := ((n_tx I sp 5 (nI a) (nI b) fi se nu), (n_J J R G))) (Nat.le_of_ble_eq_true rfl) rfl ?_
  refine c_icne 29 (Nat.le_of_ble_eq_true rfl) rfl rfl (fun h3 => ?_) (fun h3 => absurd h3 (by decide))
  refine c_run 7 (pc' := 42) (ls' := [(0, .ref 77)]) (st' := [.int (nI b), .int (nI a), .ref 93, .ref 77]) (μ' := ((n_tx I sp 5 (nI a) (nI b) fi se nu), (n_J J R G))) (Nat.le_of_ble_eq_true rfl) rfl ?_
  refine c_cv 116 [.ref 93, .int (nI a), .int (nI b)] (b := 77) (r := []) (Nat.le_of_ble_eq_true rfl) rfl rfl rfl rfl rfl rfl (n_named93 (n_tx I sp 5 (nI a) (nI b) fi se nu) (n_J J R G) a b hab hb6 m A.S.mm A.S.m6) ?_
  rintro _ _ ⟨rfl, rfl⟩
  show m_W 148 45 [(0, .ref 77)] [.int (n_nd (n_tx I sp 5 (nI a) (nI b) fi se nu) (I 93) a b 0 m)] ((n_tx I sp 5 (nI a) (nI b) fi se nu), (n_J J R G)) _
  refine c_run 3 (pc' := 50) (ls' := [(1, .int (n_nd (n_tx I sp 5 (nI a) (nI b) fi se nu) (I 93) a b 0 m)), (0, .ref 77)]) (st' := [.int 5]) (μ' := ((n_tx I sp 5 (nI a) (nI b) fi se nu), (n_J J R G))) (Nat.le_of_ble_eq_true rfl) rfl ?_
  refine c_sw (Nat.le_of_ble_eq_true rfl) rfl 209 rfl (fun h4 => absurd h4 (by decide)) (fun j o ho h4 _ => ?_)
  obtain rfl : j = 5 := by
    have hjz : (5 : Int) = 0 + (j : Int) := h4
    omega
  have ho : (128 : Int) = o := by simpa using ho
  subst ho
  show m_W 148 178 [(1, .int (n_nd (n_tx I sp 5 (nI a) (nI b) fi se nu) (I 93) a b 0 m)), (0, .ref 77)] [] ((n_tx I sp 5 (nI a) (nI b) fi se nu), (n_J J R G)) _
  refine c_run 7 (pc' := 189) (ls' := [(1, .int (n_nd (n_tx I sp 5 (nI a) (nI b) fi se nu) (I 93) a b 0 m)), (0, .ref 77)]) (st' := [.int 4, .int 5, .int fi, .int (n_nd (n_tx I sp 5 (nI a) (nI b) fi se nu) (I 93) a b 0 m), .ref 77]) (μ' := ((n_tx I sp 5 (nI a) (nI b) fi se nu), (n_J J R G))) (Nat.le_of_ble_eq_true rfl) rfl ?_
  refine c_icne 196 (Nat.le_of_ble_eq_true rfl) rfl rfl (fun h5 => ?_) (fun h5 => absurd h5 (by decide))
  refine c_run 1 (pc' := 197) (ls' := [(1, .int (n_nd (n_tx I sp 5 (nI a) (nI b) fi se nu) (I 93) a b 0 m)), (0, .ref 77)]) (st' := [.int 0, .int fi, .int (n_nd (n_tx I sp 5 (nI a) (nI b) fi se nu) (I 93) a b 0 m), .ref 77]) (μ' := ((n_tx I sp 5 (nI a) (nI b) fi se nu), (n_J J R G))) (Nat.le_of_ble_eq_true rfl) rfl ?_
  refine c_cv 119 [.int (n_nd (n_tx I sp 5 (nI a) (nI b) fi se nu) (I 93) a b 0 m), .int fi, .int 0] (b := 77) (r := []) (Nat.le_of_ble_eq_true rfl) rfl rfl rfl rfl rfl rfl (a_valve G A (n_nd (n_tx I sp 5 (nI a) (nI b) fi se nu) (I 93) a b 0 m) fi 0) ?_
  rintro _ _ ⟨rfl, R1, G1, rfl, A1⟩
  show m_W 148 200 [(1, .int (n_nd (n_tx I sp 5 (nI a) (nI b) fi se nu) (I 93) a b 0 m)), (0, .ref 77)] [.int ((k_valve κ (n_nd (n_tx I sp 5 (nI a) (nI b) fi se nu) (I 93) a b 0 m) fi 0).1)] ((n_tx I sp 5 (nI a) (nI b) fi se nu), (n_J J R1 G1)) _
  refine c_iflt 207 (Nat.le_of_ble_eq_true rfl) rfl rfl (fun h6 => ?_) (fun h6 => ?_)
  · skip
    refine c_run 1 (pc' := 208) (ls' := [(1, .int (n_nd (n_tx I sp 5 (nI a) (nI b) fi se nu) (I 93) a b 0 m)), (0, .ref 77)]) (st' := [.int 0]) (μ' := ((n_tx I sp 5 (nI a) (nI b) fi se nu), (n_J J R1 G1))) (Nat.le_of_ble_eq_true rfl) rfl ?_
    refine c_ret (Nat.le_of_ble_eq_true rfl) rfl rfl ⟨by decide, rfl⟩ ?_
    rw [hk]
    refine ⟨?_, R1, G1, rfl, A1⟩
    unfold k_ok
    dsimp only
    rw [if_pos h6]
  · skip
    refine c_run 2 (pc' := 208) (ls' := [(1, .int (n_nd (n_tx I sp 5 (nI a) (nI b) fi se nu) (I 93) a b 0 m)), (0, .ref 77)]) (st' := [.int 1]) (μ' := ((n_tx I sp 5 (nI a) (nI b) fi se nu), (n_J J R1 G1))) (Nat.le_of_ble_eq_true rfl) rfl ?_
    refine c_ret (Nat.le_of_ble_eq_true rfl) rfl rfl ⟨by decide, rfl⟩ ?_
    rw [hk]
    refine ⟨?_, R1, G1, rfl, A1⟩
    unfold k_ok
    dsimp only
    rw [if_neg h6]

set_option maxRecDepth 100000 in
theorem n_do_7 (I : Nat → Nat → Int32) (J : Nat → Nat → Int64) (lg : Prop) (κ : k_M) (R G : Nat → Int64) (u m : Nat) (B : Int64) (sp nf nm fi se nu : Int32) (nm' : Int32) (A : r_A lg κ (n_tx I sp 6 nf nm fi se nu) J R u m B)  : m_W 148 0 (lv_args 0 [.ref 77]) [] ((n_tx I sp 6 nf nm fi se nu), (n_J J R G)) (r_Q lg (n_tx I sp 6 nf nm fi se nu) J u m B (k_do κ 7 nm' fi se)) := by
  show m_W 148 0 [(0, .ref 77)] [] ((n_tx I sp 6 nf nm fi se nu), (n_J J R G)) _
  have hk : k_do κ 7 nm' fi se = (k_ok (k_read κ fi se).1, (k_read κ fi se).2) := by
    unfold k_do
    rw [if_neg (by decide), if_neg (by decide), if_neg (by decide), if_neg (by decide), if_neg (by decide), if_neg (by decide), if_pos rfl]
  refine c_run 3 (pc' := 5) (ls' := [(0, .ref 77)]) (st' := [.int 1, .int 6]) (μ' := ((n_tx I sp 6 nf nm fi se nu), (n_J J R G))) (Nat.le_of_ble_eq_true rfl) rfl ?_
  refine c_iceq 25 (Nat.le_of_ble_eq_true rfl) rfl rfl (fun h1 => absurd h1 (by decide)) (fun h1 => ?_)
  refine c_run 3 (pc' := 13) (ls' := [(0, .ref 77)]) (st' := [.int 2, .int 6]) (μ' := ((n_tx I sp 6 nf nm fi se nu), (n_J J R G))) (Nat.le_of_ble_eq_true rfl) rfl ?_
  refine c_iceq 25 (Nat.le_of_ble_eq_true rfl) rfl rfl (fun h2 => absurd h2 (by decide)) (fun h2 => ?_)
  refine c_run 3 (pc' := 22) (ls' := [(0, .ref 77)]) (st' := [.int 6, .int 6]) (μ' := ((n_tx I sp 6 nf nm fi se nu), (n_J J R G))) (Nat.le_of_ble_eq_true rfl) rfl ?_
  refine c_icne 29 (Nat.le_of_ble_eq_true rfl) rfl rfl (fun h3 => absurd (by decide) h3) (fun h3 => ?_)
  refine c_run 5 (pc' := 50) (ls' := [(1, .int (-1)), (0, .ref 77)]) (st' := [.int 6]) (μ' := ((n_tx I sp 6 nf nm fi se nu), (n_J J R G))) (Nat.le_of_ble_eq_true rfl) rfl ?_
  refine c_sw (Nat.le_of_ble_eq_true rfl) rfl 209 rfl (fun h4 => ?_) (fun j o ho h4 _ => ?_)
  rotate_left
  · exfalso
    have hj : j < 6 := (Array.getElem?_eq_some_iff.mp ho).1
    have hjz : (6 : Int) = 0 + (j : Int) := h4
    omega
  show m_W 148 209 [(1, .int (-1)), (0, .ref 77)] [] ((n_tx I sp 6 nf nm fi se nu), (n_J J R G)) _
  refine c_run 5 (pc' := 218) (ls' := [(1, .int (-1)), (0, .ref 77)]) (st' := [.int se, .int fi, .ref 77]) (μ' := ((n_tx I sp 6 nf nm fi se nu), (n_J J R G))) (Nat.le_of_ble_eq_true rfl) rfl ?_
  refine c_cv 133 [.int fi, .int se] (b := 77) (r := []) (Nat.le_of_ble_eq_true rfl) rfl rfl rfl rfl rfl rfl (a_read G A fi se) ?_
  rintro _ _ ⟨rfl, R1, G1, rfl, A1⟩
  show m_W 148 221 [(1, .int (-1)), (0, .ref 77)] [.int ((k_read κ fi se).1)] ((n_tx I sp 6 nf nm fi se nu), (n_J J R1 G1)) _
  refine c_iflt 228 (Nat.le_of_ble_eq_true rfl) rfl rfl (fun h5 => ?_) (fun h5 => ?_)
  · skip
    refine c_run 1 (pc' := 229) (ls' := [(1, .int (-1)), (0, .ref 77)]) (st' := [.int 0]) (μ' := ((n_tx I sp 6 nf nm fi se nu), (n_J J R1 G1))) (Nat.le_of_ble_eq_true rfl) rfl ?_
    refine c_ret (Nat.le_of_ble_eq_true rfl) rfl rfl ⟨by decide, rfl⟩ ?_
    rw [hk]
    refine ⟨?_, R1, G1, rfl, A1⟩
    unfold k_ok
    dsimp only
    rw [if_pos h5]
  · skip
    refine c_run 2 (pc' := 229) (ls' := [(1, .int (-1)), (0, .ref 77)]) (st' := [.int 1]) (μ' := ((n_tx I sp 6 nf nm fi se nu), (n_J J R1 G1))) (Nat.le_of_ble_eq_true rfl) rfl ?_
    refine c_ret (Nat.le_of_ble_eq_true rfl) rfl rfl ⟨by decide, rfl⟩ ?_
    rw [hk]
    refine ⟨?_, R1, G1, rfl, A1⟩
    unfold k_ok
    dsimp only
    rw [if_neg h5]

set_option maxRecDepth 100000 in
theorem n_do_4 (I : Nat → Nat → Int32) (J : Nat → Nat → Int64) (lg : Prop) (κ : k_M) (R G : Nat → Int64) (u m : Nat) (B : Int64) (sp nf nm fi se nu : Int32) (a b : Nat) (hb6 : b ≤ 6) (hab : a + b ≤ 100) (hlt : ∀ k, k < b → 97 ≤ I 93 (a + k) ∧ I 93 (a + k) ≤ 122) (tk : Int32) (A : r_A lg κ (n_tx I sp 3 (nI a) (nI b) fi se nu) J R u m B) (gf : 1 ≤ fi ∧ fi ≤ 2000)  : m_W 148 0 (lv_args 0 [.ref 77]) [] ((n_tx I sp 3 (nI a) (nI b) fi se nu), (n_J J R G)) (r_Q lg (n_tx I sp 3 (nI a) (nI b) fi se nu) J u m B (k_do κ 4 (p_nm (I 93) a b) tk fi)) := by
  show m_W 148 0 [(0, .ref 77)] [] ((n_tx I sp 3 (nI a) (nI b) fi se nu), (n_J J R G)) _
  have hk : k_do κ 4 (p_nm (I 93) a b) tk fi = k_bfor κ (k_en κ (p_nm (I 93) a b)) fi := by
    unfold k_do
    rw [if_neg (by decide), if_neg (by decide), if_neg (by decide), if_pos rfl]
  have hE := r_ndb A.S hb6 hlt
  have hck := r_cki A.V gf
  have hchk : k_chk κ fi = if κ.1 0 3 ≤ 100000000 - fi then 0 else -3 := by
    unfold k_chk; rw [if_pos gf]
  refine c_run 3 (pc' := 5) (ls' := [(0, .ref 77)]) (st' := [.int 1, .int 3]) (μ' := ((n_tx I sp 3 (nI a) (nI b) fi se nu), (n_J J R G))) (Nat.le_of_ble_eq_true rfl) rfl ?_
  refine c_iceq 25 (Nat.le_of_ble_eq_true rfl) rfl rfl (fun h1 => absurd h1 (by decide)) (fun h1 => ?_)
  refine c_run 3 (pc' := 13) (ls' := [(0, .ref 77)]) (st' := [.int 2, .int 3]) (μ' := ((n_tx I sp 3 (nI a) (nI b) fi se nu), (n_J J R G))) (Nat.le_of_ble_eq_true rfl) rfl ?_
  refine c_iceq 25 (Nat.le_of_ble_eq_true rfl) rfl rfl (fun h2 => absurd h2 (by decide)) (fun h2 => ?_)
  refine c_run 3 (pc' := 22) (ls' := [(0, .ref 77)]) (st' := [.int 6, .int 3]) (μ' := ((n_tx I sp 3 (nI a) (nI b) fi se nu), (n_J J R G))) (Nat.le_of_ble_eq_true rfl) rfl ?_
  refine c_icne 29 (Nat.le_of_ble_eq_true rfl) rfl rfl (fun h3 => ?_) (fun h3 => absurd h3 (by decide))
  refine c_run 7 (pc' := 42) (ls' := [(0, .ref 77)]) (st' := [.int (nI b), .int (nI a), .ref 93, .ref 77]) (μ' := ((n_tx I sp 3 (nI a) (nI b) fi se nu), (n_J J R G))) (Nat.le_of_ble_eq_true rfl) rfl ?_
  refine c_cv 116 [.ref 93, .int (nI a), .int (nI b)] (b := 77) (r := []) (Nat.le_of_ble_eq_true rfl) rfl rfl rfl rfl rfl rfl (n_named93 (n_tx I sp 3 (nI a) (nI b) fi se nu) (n_J J R G) a b hab hb6 m A.S.mm A.S.m6) ?_
  rintro _ _ ⟨rfl, rfl⟩
  show m_W 148 45 [(0, .ref 77)] [.int (n_nd (n_tx I sp 3 (nI a) (nI b) fi se nu) (I 93) a b 0 m)] ((n_tx I sp 3 (nI a) (nI b) fi se nu), (n_J J R G)) _
  refine c_run 3 (pc' := 50) (ls' := [(1, .int (n_nd (n_tx I sp 3 (nI a) (nI b) fi se nu) (I 93) a b 0 m)), (0, .ref 77)]) (st' := [.int 3]) (μ' := ((n_tx I sp 3 (nI a) (nI b) fi se nu), (n_J J R G))) (Nat.le_of_ble_eq_true rfl) rfl ?_
  refine c_sw (Nat.le_of_ble_eq_true rfl) rfl 209 rfl (fun h4 => absurd h4 (by decide)) (fun j o ho h4 _ => ?_)
  obtain rfl : j = 3 := by
    have hjz : (3 : Int) = 0 + (j : Int) := h4
    omega
  have ho : (82 : Int) = o := by simpa using ho
  subst ho
  show m_W 148 132 [(1, .int (n_nd (n_tx I sp 3 (nI a) (nI b) fi se nu) (I 93) a b 0 m)), (0, .ref 77)] [] ((n_tx I sp 3 (nI a) (nI b) fi se nu), (n_J J R G)) _
  refine c_run 3 (pc' := 138) (ls' := [(1, .int (n_nd (n_tx I sp 3 (nI a) (nI b) fi se nu) (I 93) a b 0 m)), (0, .ref 77)]) (st' := [.int 38, .ref 78]) (μ' := ((n_tx I sp 3 (nI a) (nI b) fi se nu), (n_J J R G))) (Nat.le_of_ble_eq_true rfl) rfl ?_
  refine c_lal 38 140 (Nat.le_of_ble_eq_true rfl) rfl rfl rfl rfl rfl (by decide) ?_
  show m_W 148 139 [(1, .int (n_nd (n_tx I sp 3 (nI a) (nI b) fi se nu) (I 93) a b 0 m)), (0, .ref 77)] [.long (R 38)] ((n_tx I sp 3 (nI a) (nI b) fi se nu), (n_J J R G)) _
  refine c_run 6 (pc' := 149) (ls' := [(1, .int (n_nd (n_tx I sp 3 (nI a) (nI b) fi se nu) (I 93) a b 0 m)), (0, .ref 77)]) (st' := [.int (lg_cmp ((R 38) + ((fi : Int32).toInt64)) 100000000)]) (μ' := ((n_tx I sp 3 (nI a) (nI b) fi se nu), (n_J J R G))) (Nat.le_of_ble_eq_true rfl) rfl ?_
  refine c_ifgt 160 (Nat.le_of_ble_eq_true rfl) rfl rfl (fun h5 => ?_) (fun h5 => ?_)
  · replace h5 := lc_gt.mp h5
    refine c_run 1 (pc' := 161) (ls' := [(1, .int (n_nd (n_tx I sp 3 (nI a) (nI b) fi se nu) (I 93) a b 0 m)), (0, .ref 77)]) (st' := [.int 0]) (μ' := ((n_tx I sp 3 (nI a) (nI b) fi se nu), (n_J J R G))) (Nat.le_of_ble_eq_true rfl) rfl ?_
    refine c_ret (Nat.le_of_ble_eq_true rfl) rfl rfl ⟨by decide, rfl⟩ ?_
    have hgt : ¬ κ.1 0 3 ≤ 100000000 - fi := fun q => absurd (hck.mpr q) (Int64.not_le.mpr (by rw [← A.D.ti]; exact h5))
    rw [hk]
    unfold k_bfor
    rw [hchk, if_neg hgt, if_pos (by decide)]
    exact ⟨rfl, R, G, rfl, A⟩
  · replace h5 := mt lc_gt.mpr h5
    refine c_run 2 (pc' := 154) (ls' := [(1, .int (n_nd (n_tx I sp 3 (nI a) (nI b) fi se nu) (I 93) a b 0 m)), (0, .ref 77)]) (st' := [.int (n_nd (n_tx I sp 3 (nI a) (nI b) fi se nu) (I 93) a b 0 m), .ref 77]) (μ' := ((n_tx I sp 3 (nI a) (nI b) fi se nu), (n_J J R G))) (Nat.le_of_ble_eq_true rfl) rfl ?_
    refine c_cv 122 [.int (n_nd (n_tx I sp 3 (nI a) (nI b) fi se nu) (I 93) a b 0 m)] (b := 77) (r := []) (Nat.le_of_ble_eq_true rfl) rfl rfl rfl rfl rfl rfl (a_ignite G A (n_nd (n_tx I sp 3 (nI a) (nI b) fi se nu) (I 93) a b 0 m)) ?_
    rintro _ _ ⟨rfl, R1, G1, rfl, A1⟩
    show m_W 148 157 [(1, .int (n_nd (n_tx I sp 3 (nI a) (nI b) fi se nu) (I 93) a b 0 m)), (0, .ref 77)] [.int ((k_begin κ (n_nd (n_tx I sp 3 (nI a) (nI b) fi se nu) (I 93) a b 0 m)).1)] ((n_tx I sp 3 (nI a) (nI b) fi se nu), (n_J J R1 G1)) _
    refine c_ifge 162 (Nat.le_of_ble_eq_true rfl) rfl rfl (fun h6 => ?_) (fun h6 => ?_)
    · skip
      refine c_run 3 (pc' := 167) (ls' := [(1, .int (n_nd (n_tx I sp 3 (nI a) (nI b) fi se nu) (I 93) a b 0 m)), (0, .ref 77)]) (st' := [.int fi, .ref 77]) (μ' := ((n_tx I sp 3 (nI a) (nI b) fi se nu), (n_J J R1 G1))) (Nat.le_of_ble_eq_true rfl) rfl ?_
      refine c_cv 128 [.int fi] (b := 77) (r := []) (Nat.le_of_ble_eq_true rfl) rfl rfl rfl rfl rfl rfl (a_pass G1 A1 fi) ?_
      rintro _ _ ⟨rfl, R2, G2, rfl, A2⟩
      show m_W 148 170 [(1, .int (n_nd (n_tx I sp 3 (nI a) (nI b) fi se nu) (I 93) a b 0 m)), (0, .ref 77)] [.int ((k_passx (k_begin κ (n_nd (n_tx I sp 3 (nI a) (nI b) fi se nu) (I 93) a b 0 m)).2 fi).1)] ((n_tx I sp 3 (nI a) (nI b) fi se nu), (n_J J R2 G2)) _
      refine c_run 2 (pc' := 172) (ls' := [(1, .int (n_nd (n_tx I sp 3 (nI a) (nI b) fi se nu) (I 93) a b 0 m)), (0, .ref 77)]) (st' := [.ref 77]) (μ' := ((n_tx I sp 3 (nI a) (nI b) fi se nu), (n_J J R2 G2))) (Nat.le_of_ble_eq_true rfl) rfl ?_
      refine c_cv 123 [] (b := 77) (r := []) (Nat.le_of_ble_eq_true rfl) rfl rfl rfl rfl rfl rfl (a_cutoff G2 A2 ) ?_
      rintro _ _ ⟨rfl, R3, G3, rfl, A3⟩
      show m_W 148 175 [(1, .int (n_nd (n_tx I sp 3 (nI a) (nI b) fi se nu) (I 93) a b 0 m)), (0, .ref 77)] [.int ((k_endx (k_passx (k_begin κ (n_nd (n_tx I sp 3 (nI a) (nI b) fi se nu) (I 93) a b 0 m)).2 fi).2).1)] ((n_tx I sp 3 (nI a) (nI b) fi se nu), (n_J J R3 G3)) _
      refine c_run 2 (pc' := 177) (ls' := [(1, .int (n_nd (n_tx I sp 3 (nI a) (nI b) fi se nu) (I 93) a b 0 m)), (0, .ref 77)]) (st' := [.int 1]) (μ' := ((n_tx I sp 3 (nI a) (nI b) fi se nu), (n_J J R3 G3))) (Nat.le_of_ble_eq_true rfl) rfl ?_
      refine c_ret (Nat.le_of_ble_eq_true rfl) rfl rfl ⟨by decide, rfl⟩ ?_
      have hle : κ.1 0 3 ≤ 100000000 - fi := hck.mp (Int64.not_lt.mp (by rw [← A.D.ti]; exact h5))
      rw [hk]
      unfold k_bfor
      rw [hchk, if_pos hle, if_neg (by decide), ← hE]
      rw [if_pos h6]
      exact ⟨rfl, R3, G3, rfl, A3⟩
    · skip
      refine c_run 1 (pc' := 161) (ls' := [(1, .int (n_nd (n_tx I sp 3 (nI a) (nI b) fi se nu) (I 93) a b 0 m)), (0, .ref 77)]) (st' := [.int 0]) (μ' := ((n_tx I sp 3 (nI a) (nI b) fi se nu), (n_J J R1 G1))) (Nat.le_of_ble_eq_true rfl) rfl ?_
      refine c_ret (Nat.le_of_ble_eq_true rfl) rfl rfl ⟨by decide, rfl⟩ ?_
      have hle : κ.1 0 3 ≤ 100000000 - fi := hck.mp (Int64.not_lt.mp (by rw [← A.D.ti]; exact h5))
      rw [hk]
      unfold k_bfor
      rw [hchk, if_pos hle, if_neg (by decide), ← hE]
      rw [if_neg h6]
      exact ⟨rfl, R1, G1, rfl, A1⟩

