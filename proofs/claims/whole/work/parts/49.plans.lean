/-! PLANS of the model -/
section CP
variable {lg : Prop} {κ κr : k_M} {I : Nat → Nat → Int32} {J : Nat → Nat → Int64} {R : Nat → Int64} {n m : Nat} {B : Int64}
theorem r_S.cp (h : r_S κ I J n m) (hc : k_cp κ κr) : r_S κr I J n m := by
  obtain ⟨c0, c1, c2, c5, c11, c12, c13, c23, c24, c28, c35⟩ := hc
  have n4 := h.n4
  have m6 := h.m6
  exact r_S.mk (cn := by rw [c1]; exact h.cn) (n4 := h.n4) (mn := h.mn) (cm := by rw [c23]; exact h.cm) (m6 := h.m6) (mm := h.mm) (den := fun t ht => by rw [c2 2 (by omega) (by omega) t (by omega)]; exact h.den t ht) (res := fun t ht => by rw [c2 3 (by omega) (by omega) t (by omega)]; exact h.res t ht) (gau := fun t ht => by rw [c5 9 (by omega) (by omega) t (by omega)]; exact h.gau t ht) (lk := fun t ht => by rw [c2 4 (by omega) (by omega) t (by omega)]; exact h.lk t ht) (pts := fun t ht => by rw [c11 t ht]; exact h.pts t ht) (lvs := fun t ht i hi => by rw [c12 t ht i hi]; exact h.lvs t ht i hi) (vos := fun t ht i hi => by rw [c13 t ht i hi]; exact h.vos t ht i hi) (flo := fun e he => by rw [c24 25 (by omega) (by omega) e (by omega)]; exact h.flo e he) (dou := fun e he => by rw [c24 26 (by omega) (by omega) e (by omega)]; exact h.dou e he) (s0 := by rw [c0 4 (by omega) (by omega)]; exact h.s0) (s1 := by rw [c0 5 (by omega) (by omega)]; exact h.s1) (s2 := by rw [c0 6 (by omega) (by omega)]; exact h.s2) (nam := fun e he => by rw [c24 24 (by omega) (by omega) e (by omega)]; exact h.nam e he)
theorem k_ball_cp (hc : k_cp κ κr) : k_ball κr = k_ball κ := by
  obtain ⟨c0, c1, c2, c5, c11, c12, c13, c23, c24, c28, c35⟩ := hc
  unfold k_ball
  rw [c28 28 (by omega) (by omega) 0 (by omega), c28 28 (by omega) (by omega) 1 (by omega), c28 28 (by omega) (by omega) 2 (by omega), c28 28 (by omega) (by omega) 3 (by omega), c28 28 (by omega) (by omega) 4 (by omega), c28 28 (by omega) (by omega) 5 (by omega)]
theorem r_D.cp (h : r_D κ R B) (hc : k_cp κ κr) : r_D κr R B := by
  have hb := k_ball_cp hc
  obtain ⟨c0, c1, c2, c5, c11, c12, c13, c23, c24, c28, c35⟩ := hc
  exact r_D.mk (t0 := fun t ht => by rw [c5 5 (by omega) (by omega) t ht]; exact h.t0 t ht) (t1 := fun t ht => by rw [c5 6 (by omega) (by omega) t ht]; exact h.t1 t ht) (t2 := fun t ht => by rw [c5 7 (by omega) (by omega) t ht]; exact h.t2 t ht) (t3 := fun t ht => by rw [c5 8 (by omega) (by omega) t ht]; exact h.t3 t ht) (t4 := fun t ht => by rw [c35 t ht]; exact h.t4 t ht) (e0 := fun e he => by rw [k_open_cg (c24 27 (by omega) (by omega) e he) c1]; exact h.e0 e he) (e1 := fun e he => by rw [c28 28 (by omega) (by omega) e he]; exact h.e1 e he) (e2 := fun e he => by rw [c28 29 (by omega) (by omega) e he]; exact h.e2 e he) (ti := by rw [c0 3 (by omega) (by omega)]; exact h.ti) (bu := by rw [c0 7 (by omega) (by omega)]; exact h.bu) (la := by rw [k_len_cg (c0 3 (by omega) (by omega)) (c0 7 (by omega) (by omega)) (c0 9 (by omega) (by omega)) c23]; exact h.la) (sv := by rw [c0 8 (by omega) (by omega)]; exact h.sv) (bk := by rw [hb]; exact h.bk)
theorem r_V.cp (h : r_V κ n m) (hc : k_cp κ κr) (hn : n ≤ 4) (hm : m ≤ 6) (hw : k_lw κr) : r_V κr n m := by
  obtain ⟨c0, c1, c2, c5, c11, c12, c13, c23, c24, c28, c35⟩ := hc
  exact r_V.mk (m0 := fun t ht => by rw [c5 5 (by omega) (by omega) t ht]; exact h.m0 t ht) (m1 := fun t ht => by rw [c5 6 (by omega) (by omega) t ht]; exact h.m1 t ht) (va := fun t ht => by rw [c5 8 (by omega) (by omega) t ht]; exact h.va t ht) (gv := fun t ht => by rw [c5 9 (by omega) (by omega) t ht]; exact h.gv t ht) (g6 := fun t h1 h2 => by rw [c5 9 (by omega) (by omega) t h2]; exact h.g6 t h1 h2) (de := fun t ht => by rw [c2 2 (by omega) (by omega) t (by omega)]; exact h.de t ht) (lk := fun t ht => by rw [c2 4 (by omega) (by omega) t (by omega)]; exact h.lk t ht) (fl := fun e he => by rw [c24 25 (by omega) (by omega) e (by omega)]; exact h.fl e he) (dt := fun e he => by rw [c24 26 (by omega) (by omega) e (by omega)]; exact h.dt e he) (pt := fun t ht => by
      obtain ⟨p, a, b, c, d⟩ := h.pt t ht
      refine ⟨p, a, by rw [c11 t ht]; exact b, fun i hi => ?_, fun i hi => ?_⟩
      · rw [c12 t ht i (by omega), c13 t ht i (by omega)]; exact c i hi
      · rw [c12 t ht i (by omega), c13 t ht i (by omega), c12 t ht (i + 1) (by omega), c13 t ht (i + 1) (by omega)]; exact d i hi) (mg := by rw [c0 6 (by omega) (by omega)]; exact h.mg) (ti := by rw [c0 3 (by omega) (by omega)]; exact h.ti) (sv := by rw [c0 8 (by omega) (by omega)]; exact h.sv) (bu := by
      rw [c0 7 (by omega) (by omega), c0 8 (by omega) (by omega), c0 9 (by omega) (by omega), c0 3 (by omega) (by omega)]
      rcases h.bu with q | ⟨e, h1, h2, h3, h4, h5⟩
      · exact Or.inl q
      · exact Or.inr ⟨e, h1, h2, h3, h4, fun t ht => by rw [c35 t ht, c5 6 (by omega) (by omega) t ht]; exact h5 t ht⟩) (op := fun e he => by rw [c24 27 (by omega) (by omega) e he]; exact h.op e he) (lw := hw)
/-- only the first 140 places of the row count, and aside is not looked at -/
theorem r_D.rw (h : r_D κ R B) {R' : Nat → Int64} (hR : ∀ k, k < 140 → R' k = R k) : r_D κ R' B := r_D.mk (t0 := fun t ht => by rw [hR _ (by omega)]; exact h.t0 t ht) (t1 := fun t ht => by rw [hR _ (by omega)]; exact h.t1 t ht) (t2 := fun t ht => by rw [hR _ (by omega)]; exact h.t2 t ht) (t3 := fun t ht => by rw [hR _ (by omega)]; exact h.t3 t ht) (t4 := fun t ht => by rw [hR _ (by omega)]; exact h.t4 t ht) (e0 := fun e he => by rw [hR _ (by omega)]; exact h.e0 e he) (e1 := fun e he => by rw [hR _ (by omega)]; exact h.e1 e he) (e2 := fun e he => by rw [hR _ (by omega)]; exact h.e2 e he) (ti := by rw [hR _ (by omega)]; exact h.ti) (bu := by rw [hR _ (by omega)]; exact h.bu) (la := by rw [hR _ (by omega)]; exact h.la) (sv := by rw [hR _ (by omega)]; exact h.sv) (bk := by rw [hR _ (by omega)]; exact h.bk)
theorem r_A.rw (A : r_A lg κ I J R n m B) {J' : Nat → Nat → Int64} {R' : Nat → Int64} (hJ : ∀ c, c ≠ 79 → J' c = J c) (hR : ∀ k, k < 140 → R' k = R k) : r_A lg κ I J' R' n m B := ⟨A.S.ij (fun _ _ _ => rfl) rfl rfl (fun c h1 h2 => hJ c (by omega)), A.D.rw hR, A.V, fun l => (A.L l).cg (fun _ _ _ _ => rfl) (fun _ => rfl) (fun k h1 h2 => hR k (by omega)) A.V.lws.2.2.2⟩
/-- for what is planned: without the ledger, and booked from 0 on -/
theorem r_A.pl (A : r_A lg κ I J R n m B) (hc : k_cp κ κr) (hw : k_wf κr) {J' : Nat → Nat → Int64} (hJ : ∀ c, c ≠ 79 → J' c = J c) : r_A False κr I J' (r_u R 139 0) n m (k_ball κr) := by
  have D := A.D.cp hc
  refine ⟨(A.S.cp hc).ij (fun _ _ _ => rfl) rfl rfl (fun c h1 h2 => hJ c (by omega)), ?_, A.V.cp hc A.S.n4 A.S.m6 (k_wf_l hw), fun l => l.elim⟩
  exact r_D.mk (t0 := fun t ht => by rw [r_un (by omega)]; exact D.t0 t ht) (t1 := fun t ht => by rw [r_un (by omega)]; exact D.t1 t ht) (t2 := fun t ht => by rw [r_un (by omega)]; exact D.t2 t ht) (t3 := fun t ht => by rw [r_un (by omega)]; exact D.t3 t ht) (t4 := fun t ht => by rw [r_un (by omega)]; exact D.t4 t ht) (e0 := fun e he => by rw [r_un (by omega)]; exact D.e0 e he) (e1 := fun e he => by rw [r_un (by omega)]; exact D.e1 e he) (e2 := fun e he => by rw [r_un (by omega)]; exact D.e2 e he) (ti := by rw [r_un (by omega)]; exact D.ti) (bu := by rw [r_un (by omega)]; exact D.bu) (la := by rw [r_un (by omega)]; exact D.la) (sv := by rw [r_un (by omega)]; exact D.sv) (bk := by rw [r_us, Int64.sub_self])
end CP
def n_lQ (I : Nat → Nat → Int32) (J : Nat → Nat → Int64) (R : Nat → Int64) (x : Int32) : m_Q := fun v μ' => v = some (.int x) ∧ ∃ J' R' G', μ' = (I, n_J J' R' G') ∧ (∀ c, c ≠ 79 → J' c = J c) ∧ ∀ k, k < 140 → R' k = R k
def n_kQ (I : Nat → Nat → Int32) (J : Nat → Nat → Int64) (R : Nat → Int64) (x : Int64) : m_Q := fun v μ' => v = some (.long x) ∧ ∃ sp cm nf nm fi se nu J' R' G', μ' = (n_tx I sp cm nf nm fi se nu, n_J J' R' G') ∧ (∀ c, c ≠ 79 → J' c = J c) ∧ ∀ k, k < 140 → R' k = R k
theorem r_hopD {κ : k_M} {R : Nat → Int64} {B : Int64} {n e b : Nat} (D : r_D κ R B) (hn : κ.1 1 0 = nI n) (n4 : n ≤ 4) (he : e < 6) (hb : b < 16) (hbe : κ.1 27 e = nI b) : ∀ t, t < n → (n_op R e t ↔ ((κ.1 27 e >>> (nI t &&& 31)) &&& (1 : Int32)) = 1) := fun t ht => by
  have h : R (20 + 3 * e) = (nI b &&& b_all n).toInt64 := by
    rw [show R (20 + 3 * e) = _ from D.e0 e he, r_opn hn, hbe]
  unfold n_op
  rw [h, hbe]
  exact b_op n (by omega) b hb t (by omega) ht

set_option maxRecDepth 100000 in
theorem n_lb_1 (I : Nat → Nat → Int32) (J : Nat → Nat → Int64) (R G : Nat → Int64) (m : Nat) (hm : I 77 10 = nI m) (hm6 : m ≤ 6) (x : Int32) (hx : ¬ (0 ≤ x ∧ x < nI m)) : m_W 154 0 (lv_args 0 [.ref 77, .int x]) [] (I, (n_J J R G)) (m_E (some (.int (-1))) (I, n_J J R G)) := by
  show m_W 154 0 [(0, .ref 77), (1, .int x)] [] (I, (n_J J R G)) _
  refine c_run 2 (pc' := 2) (ls' := [(0, .ref 77), (1, .int x)]) (st' := [.int x, .ref 77]) (μ' := (I, (n_J J R G))) (Nat.le_of_ble_eq_true rfl) rfl ?_
  refine c_cv 99 [.int x] (b := 77) (r := []) (Nat.le_of_ble_eq_true rfl) rfl rfl rfl rfl rfl rfl (n_isE I (n_J J R G) x m hm hm6) ?_
  rintro _ _ ⟨rfl, rfl⟩
  show m_W 154 5 [(0, .ref 77), (1, .int x)] [.int (s01 (0 ≤ x ∧ x < nI m))] (I, (n_J J R G)) _
  refine c_ifne 10 (Nat.le_of_ble_eq_true rfl) rfl rfl (fun h1 => absurd (s01_1.mp h1) hx) (fun h1 => ?_)
  refine c_run 1 (pc' := 9) (ls' := [(0, .ref 77), (1, .int x)]) (st' := [.int (-1)]) (μ' := (I, (n_J J R G))) (Nat.le_of_ble_eq_true rfl) rfl ?_
  refine c_ret (Nat.le_of_ble_eq_true rfl) rfl rfl ⟨by decide, rfl⟩ ?_
  exact ⟨rfl, rfl⟩

set_option maxRecDepth 100000 in
theorem n_lb_2 (I : Nat → Nat → Int32) (J : Nat → Nat → Int64) (R G : Nat → Int64) (m : Nat) (hm : I 77 10 = nI m) (hm6 : m ≤ 6) (e : Nat) (he : e < m) (hb : 0 ≤ R 39) : m_W 154 0 (lv_args 0 [.ref 77, .int (nI e)]) [] (I, (n_J J R G)) (m_E (some (.int (-2))) (I, n_J J R G)) := by
  show m_W 154 0 [(0, .ref 77), (1, .int (nI e))] [] (I, (n_J J R G)) _
  refine c_run 2 (pc' := 2) (ls' := [(0, .ref 77), (1, .int (nI e))]) (st' := [.int (nI e), .ref 77]) (μ' := (I, (n_J J R G))) (Nat.le_of_ble_eq_true rfl) rfl ?_
  refine c_cv 99 [.int (nI e)] (b := 77) (r := []) (Nat.le_of_ble_eq_true rfl) rfl rfl rfl rfl rfl rfl (n_isE I (n_J J R G) (nI e) m hm hm6) ?_
  rintro _ _ ⟨rfl, rfl⟩
  show m_W 154 5 [(0, .ref 77), (1, .int (nI e))] [.int (s01 (0 ≤ (nI e) ∧ (nI e) < nI m))] (I, (n_J J R G)) _
  refine c_ifne 10 (Nat.le_of_ble_eq_true rfl) rfl rfl (fun h1 => ?_) (fun h1 => absurd h1 (s01_1.mpr (k_ixr he (by omega))))
  refine c_run 1 (pc' := 11) (ls' := [(0, .ref 77), (1, .int (nI e))]) (st' := [.ref 77]) (μ' := (I, (n_J J R G))) (Nat.le_of_ble_eq_true rfl) rfl ?_
  refine c_cv 100 [] (b := 77) (r := []) (Nat.le_of_ble_eq_true rfl) rfl rfl rfl rfl rfl rfl (n_burns I (n_J J R G)) ?_
  rintro _ _ ⟨rfl, rfl⟩
  show m_W 154 14 [(0, .ref 77), (1, .int (nI e))] [.int (s01 (0 ≤ (R 39)))] (I, (n_J J R G)) _
  refine c_ifeq 20 (Nat.le_of_ble_eq_true rfl) rfl rfl (fun h2 => absurd hb (s01_0.mp h2)) (fun h2 => ?_)
  refine c_run 1 (pc' := 19) (ls' := [(0, .ref 77), (1, .int (nI e))]) (st' := [.int (-2)]) (μ' := (I, (n_J J R G))) (Nat.le_of_ble_eq_true rfl) rfl ?_
  refine c_ret (Nat.le_of_ble_eq_true rfl) rfl rfl ⟨by decide, rfl⟩ ?_
  exact ⟨rfl, rfl⟩

set_option maxRecDepth 100000 in
theorem n_ws_l (I : Nat → Nat → Int32) (J : Nat → Nat → Int64) (R G : Nat → Int64) (n : Nat) (hn : I 77 2 = nI n) (hn4 : n ≤ 4) (e : Nat) (he : e < 6) (Q : m_Q) (H : m_W 154 68 [(0, .ref 77), (1, .int (nI e)), (2, .int (n_ws R e n))] [] (I, (n_J J R G)) Q)  : ∀ (r i : Nat), i + r = n → m_W 154 24 [(0, .ref 77), (1, .int (nI e)), (2, .int (n_ws R e i)), (3, .int (nI i))] [] (I, (n_J J R G)) Q := by
  intro r
  induction r with
  | zero =>
    intro i hir
    have hin : n = i := by omega
    subst hin
    refine c_run 3 (pc' := 29) (ls' := [(0, .ref 77), (1, .int (nI e)), (2, .int (n_ws R e n)), (3, .int (nI n))]) (st' := [.int (I 77 2), .int (nI n)]) (μ' := (I, (n_J J R G))) (Nat.le_of_ble_eq_true rfl) rfl ?_
    refine c_icge 68 (Nat.le_of_ble_eq_true rfl) rfl rfl (fun h1 => ?_) (fun h1 => absurd (by rw [hn]; exact nI_le (by omega) (by omega)) h1)
    refine c_w [0, 1, 2] (ls' := [(0, .ref 77), (1, .int (nI e)), (2, .int (n_ws R e n))]) rfl ?_
    exact H
  | succ r ih =>
    intro i hir
    refine c_run 3 (pc' := 29) (ls' := [(0, .ref 77), (1, .int (nI e)), (2, .int (n_ws R e i)), (3, .int (nI i))]) (st' := [.int (I 77 2), .int (nI i)]) (μ' := (I, (n_J J R G))) (Nat.le_of_ble_eq_true rfl) rfl ?_
    refine c_icge 68 (Nat.le_of_ble_eq_true rfl) rfl rfl (fun h1 => absurd h1 (by rw [hn]; exact nI_ge (by omega) (by omega))) (fun h1 => ?_)
    refine c_run 4 (pc' := 36) (ls' := [(0, .ref 77), (1, .int (nI e)), (2, .int (n_ws R e i)), (3, .int (nI i))]) (st' := [.int (nI i), .int (nI e), .ref 77, .int (n_ws R e i)]) (μ' := (I, (n_J J R G))) (Nat.le_of_ble_eq_true rfl) rfl ?_
    refine c_cv 125 [.int (nI e), .int (nI i)] (b := 77) (r := [.int (n_ws R e i)]) (Nat.le_of_ble_eq_true rfl) rfl rfl rfl rfl rfl rfl (n_isOpen I J R G e i (by omega)) ?_
    rintro _ _ ⟨rfl, rfl⟩
    show m_W 154 39 [(0, .ref 77), (1, .int (nI e)), (2, .int (n_ws R e i)), (3, .int (nI i))] [.int (s01 (n_op R e i)), .int (n_ws R e i)] (I, (n_J J R G)) _
    refine c_ifeq 59 (Nat.le_of_ble_eq_true rfl) rfl rfl (fun h2 => ?_) (fun h2 => ?_)
    · replace h2 := s01_0.mp h2
      refine c_run 5 (pc' := 24) (ls' := [(3, .int ((nI i) + (1 : Int32))), (2, .int ((n_ws R e i) ||| (0 : Int32))), (0, .ref 77), (1, .int (nI e))]) (st' := []) (μ' := (I, (n_J J R G))) (Nat.le_of_ble_eq_true rfl) rfl ?_
      refine c_w [2, 3, 1, 0] (ls' := [(0, .ref 77), (1, .int (nI e)), (2, .int ((n_ws R e i) ||| (0 : Int32))), (3, .int ((nI i) + (1 : Int32)))]) rfl ?_
      have hx : ((n_ws R e i) ||| (0 : Int32)) = n_ws R e (i + 1) := by
        rw [n_ws]
        first | rw [if_neg (fun q => absurd q.1 (by assumption))] | rw [if_neg (fun q => absurd q.2 (Int64.not_lt.mpr (by assumption)))]
      rw [nI_1 i, hx]
      exact ih (i + 1) (by omega)
    · replace h2 := s01_1.mp h2
      refine c_run 3 (pc' := 45) (ls' := [(0, .ref 77), (1, .int (nI e)), (2, .int (n_ws R e i)), (3, .int (nI i))]) (st' := [.int 1, .int (nI i), .ref 77, .int (n_ws R e i)]) (μ' := (I, (n_J J R G))) (Nat.le_of_ble_eq_true rfl) rfl ?_
      refine c_cv 101 [.int (nI i), .int 1] (b := 77) (r := [.int (n_ws R e i)]) (Nat.le_of_ble_eq_true rfl) rfl rfl rfl rfl rfl rfl (n_of I (n_J J R G) i 1 (by omega)) ?_
      rintro _ _ ⟨rfl, rfl⟩
      show m_W 154 48 [(0, .ref 77), (1, .int (nI e)), (2, .int (n_ws R e i)), (3, .int (nI i))] [.long (R (5 * i + 1)), .int (n_ws R e i)] (I, (n_J J R G)) _
      refine c_run 2 (pc' := 50) (ls' := [(0, .ref 77), (1, .int (nI e)), (2, .int (n_ws R e i)), (3, .int (nI i))]) (st' := [.int (lg_cmp (R (5 * i + 1)) 0), .int (n_ws R e i)]) (μ' := (I, (n_J J R G))) (Nat.le_of_ble_eq_true rfl) rfl ?_
      refine c_ifle 59 (Nat.le_of_ble_eq_true rfl) rfl rfl (fun h3 => ?_) (fun h3 => ?_)
      · replace h3 := lc_le.mp h3
        refine c_run 5 (pc' := 24) (ls' := [(3, .int ((nI i) + (1 : Int32))), (2, .int ((n_ws R e i) ||| (0 : Int32))), (0, .ref 77), (1, .int (nI e))]) (st' := []) (μ' := (I, (n_J J R G))) (Nat.le_of_ble_eq_true rfl) rfl ?_
        refine c_w [2, 3, 1, 0] (ls' := [(0, .ref 77), (1, .int (nI e)), (2, .int ((n_ws R e i) ||| (0 : Int32))), (3, .int ((nI i) + (1 : Int32)))]) rfl ?_
        have hx : ((n_ws R e i) ||| (0 : Int32)) = n_ws R e (i + 1) := by
          rw [n_ws]
          first | rw [if_neg (fun q => absurd q.1 (by assumption))] | rw [if_neg (fun q => absurd q.2 (Int64.not_lt.mpr (by assumption)))]
        rw [nI_1 i, hx]
        exact ih (i + 1) (by omega)
      · replace h3 := mt lc_le.mpr h3
        refine c_run 8 (pc' := 24) (ls' := [(3, .int ((nI i) + (1 : Int32))), (2, .int ((n_ws R e i) ||| ((1 : Int32) <<< ((nI i) &&& 31)))), (0, .ref 77), (1, .int (nI e))]) (st' := []) (μ' := (I, (n_J J R G))) (Nat.le_of_ble_eq_true rfl) rfl ?_
        refine c_w [2, 3, 1, 0] (ls' := [(0, .ref 77), (1, .int (nI e)), (2, .int ((n_ws R e i) ||| ((1 : Int32) <<< ((nI i) &&& 31)))), (3, .int ((nI i) + (1 : Int32)))]) rfl ?_
        have hx : ((n_ws R e i) ||| ((1 : Int32) <<< ((nI i) &&& 31))) = n_ws R e (i + 1) := by
          rw [n_ws, if_pos ⟨by assumption, Int64.not_le.mp (by assumption)⟩]
        rw [nI_1 i, hx]
        exact ih (i + 1) (by omega)

set_option maxRecDepth 100000 in
theorem n_lb_4 (I : Nat → Nat → Int32) (J : Nat → Nat → Int64) (R G : Nat → Int64) (n : Nat) (hn : I 77 2 = nI n) (hn4 : n ≤ 4) (m : Nat) (hm : I 77 10 = nI m) (hm6 : m ≤ 6) (e : Nat) (he : e < m) (h39 : ¬ 0 ≤ R 39) (hbw : ¬ n_bw R (J 81) (n_ws R e n) n = 0) : m_W 154 0 (lv_args 0 [.ref 77, .int (nI e)]) [] (I, (n_J J R G)) (m_E (some (.int (-4))) (I, n_J J R G)) := by
  show m_W 154 0 [(0, .ref 77), (1, .int (nI e))] [] (I, (n_J J R G)) _
  refine c_run 2 (pc' := 2) (ls' := [(0, .ref 77), (1, .int (nI e))]) (st' := [.int (nI e), .ref 77]) (μ' := (I, (n_J J R G))) (Nat.le_of_ble_eq_true rfl) rfl ?_
  refine c_cv 99 [.int (nI e)] (b := 77) (r := []) (Nat.le_of_ble_eq_true rfl) rfl rfl rfl rfl rfl rfl (n_isE I (n_J J R G) (nI e) m hm hm6) ?_
  rintro _ _ ⟨rfl, rfl⟩
  show m_W 154 5 [(0, .ref 77), (1, .int (nI e))] [.int (s01 (0 ≤ (nI e) ∧ (nI e) < nI m))] (I, (n_J J R G)) _
  refine c_ifne 10 (Nat.le_of_ble_eq_true rfl) rfl rfl (fun h1 => ?_) (fun h1 => absurd h1 (s01_1.mpr (k_ixr he (by omega))))
  refine c_run 1 (pc' := 11) (ls' := [(0, .ref 77), (1, .int (nI e))]) (st' := [.ref 77]) (μ' := (I, (n_J J R G))) (Nat.le_of_ble_eq_true rfl) rfl ?_
  refine c_cv 100 [] (b := 77) (r := []) (Nat.le_of_ble_eq_true rfl) rfl rfl rfl rfl rfl rfl (n_burns I (n_J J R G)) ?_
  rintro _ _ ⟨rfl, rfl⟩
  show m_W 154 14 [(0, .ref 77), (1, .int (nI e))] [.int (s01 (0 ≤ (R 39)))] (I, (n_J J R G)) _
  refine c_ifeq 20 (Nat.le_of_ble_eq_true rfl) rfl rfl (fun h2 => ?_) (fun h2 => absurd (s01_0.mpr h39) h2)
  refine c_run 4 (pc' := 24) (ls' := [(3, .int 0), (2, .int 0), (0, .ref 77), (1, .int (nI e))]) (st' := []) (μ' := (I, (n_J J R G))) (Nat.le_of_ble_eq_true rfl) rfl ?_
  refine c_w [2, 3, 1, 0] (ls' := [(0, .ref 77), (1, .int (nI e)), (2, .int 0), (3, .int 0)]) rfl ?_
  refine n_ws_l I J R G n hn hn4 e (by omega) _ ?_ n 0 (by omega)
  refine c_run 2 (pc' := 70) (ls' := [(0, .ref 77), (1, .int (nI e)), (2, .int (n_ws R e n))]) (st' := [.int (n_ws R e n), .ref 77]) (μ' := (I, (n_J J R G))) (Nat.le_of_ble_eq_true rfl) rfl ?_
  refine c_cv 153 [.int (n_ws R e n)] (b := 77) (r := []) (Nat.le_of_ble_eq_true rfl) rfl rfl rfl rfl rfl rfl (n_isBelow I J R G n hn hn4 (n_ws R e n)) ?_
  rintro _ _ ⟨rfl, rfl⟩
  show m_W 154 73 [(0, .ref 77), (1, .int (nI e)), (2, .int (n_ws R e n))] [.int (n_bw R (J 81) (n_ws R e n) n)] (I, (n_J J R G)) _
  refine c_ifeq 79 (Nat.le_of_ble_eq_true rfl) rfl rfl (fun h51 => absurd h51 hbw) (fun h51 => ?_)
  refine c_run 1 (pc' := 78) (ls' := [(0, .ref 77), (1, .int (nI e)), (2, .int (n_ws R e n))]) (st' := [.int (-4)]) (μ' := (I, (n_J J R G))) (Nat.le_of_ble_eq_true rfl) rfl ?_
  refine c_ret (Nat.le_of_ble_eq_true rfl) rfl rfl ⟨by decide, rfl⟩ ?_
  exact ⟨rfl, rfl⟩

set_option maxRecDepth 100000 in
theorem n_lb_l (I : Nat → Nat → Int32) (J : Nat → Nat → Int64) (n : Nat) (hn : I 77 2 = nI n) (hn4 : n ≤ 4) (e : Nat) (he : e < 6) (st : Int32) (κ0 : k_M) (B : Int64) (hcn : κ0.1 1 0 = nI n) (b : Nat) (hb16 : b < 16) (h27 : κ0.1 27 e = nI b) (hF : I 89 e = κ0.1 25 e) (hres : ∀ t, t < n → J 81 t = (κ0.1 3 t).toInt64)  : ∀ (r ms : Nat), ms + r = 5000 → ∀ (κ : k_M) (R G : Nat → Int64), r_D κ R B → κ.1 = κ0.1 → m_W 154 88 [(0, .ref 77), (1, .int (nI e)), (2, .int st), (3, .int (nI ms)), (4, .int 1)] [] (I, (n_J J R G)) (fun v μ' => v = some (.int (k_lb e n st r ms κ)) ∧ ∃ R' G', μ' = (I, n_J J R' G') ∧ ∀ k, k < 140 → R' k = J 79 k) := by
  intro r
  induction r with
  | zero =>
    intro ms hmr κ R G D hκ
    have hm5 : ms = 5000 := by omega
    subst hm5
    refine c_run 1 (pc' := 90) (ls' := [(0, .ref 77), (1, .int (nI e)), (2, .int st), (3, .int (nI 5000)), (4, .int 1)]) (st' := [.int 1]) (μ' := (I, (n_J J R G))) (Nat.le_of_ble_eq_true rfl) rfl ?_
    refine c_ifeq 136 (Nat.le_of_ble_eq_true rfl) rfl rfl (fun h1 => absurd h1 (by decide)) (fun h1 => ?_)
    refine c_run 2 (pc' := 97) (ls' := [(0, .ref 77), (1, .int (nI e)), (2, .int st), (3, .int (nI 5000)), (4, .int 1)]) (st' := [.int 5000, .int (nI 5000)]) (μ' := (I, (n_J J R G))) (Nat.le_of_ble_eq_true rfl) rfl ?_
    refine c_icge 136 (Nat.le_of_ble_eq_true rfl) rfl rfl (fun h2 => ?_) (fun h2 => absurd (show nI 5000 ≤ nI 5000 from nI_le (by omega) (by omega)) h2)
    refine c_run 1 (pc' := 137) (ls' := [(0, .ref 77), (1, .int (nI e)), (2, .int st), (3, .int (nI 5000)), (4, .int 1)]) (st' := [.ref 77]) (μ' := (I, (n_J J R G))) (Nat.le_of_ble_eq_true rfl) rfl ?_
    refine c_cv 152 [] (b := 77) (r := []) (Nat.le_of_ble_eq_true rfl) rfl rfl rfl rfl rfl rfl (n_putsB I J R G) ?_
    rintro _ _ ⟨rfl, rfl⟩
    show m_W 154 140 [(0, .ref 77), (1, .int (nI e)), (2, .int st), (3, .int (nI 5000)), (4, .int 1)] [] (I, (n_J J (n_pb J R 140) G)) _
    refine c_run 1 (pc' := 141) (ls' := [(0, .ref 77), (1, .int (nI e)), (2, .int st), (3, .int (nI 5000)), (4, .int 1)]) (st' := [.int (nI 5000)]) (μ' := (I, (n_J J (n_pb J R 140) G))) (Nat.le_of_ble_eq_true rfl) rfl ?_
    refine c_ret (Nat.le_of_ble_eq_true rfl) rfl rfl ⟨by decide, rfl⟩ ?_
    refine ⟨?_, _, _, rfl, fun k hk => if_pos hk⟩
    rfl
  | succ r ih =>
    intro ms hmr κ R G D hκ
    have hop := r_hopD (e := e) (b := b) D (by rw [hκ]; exact hcn) hn4 (by omega) hb16 (by rw [hκ]; exact h27)
    rw [hκ] at hop
    have D1 := r_book (G := G) (F := I 89 e) (e := e) D hn4 (show e < 6 by omega) (by rw [hκ]; exact hF)
    rw [hκ] at D1
    have hbl : n_bw (n_bk R (n_gv (κ0.1 27 e) (I 89 e) (n_m R 1) n G 4) e n) (J 81) st n = k_bl (k_book κ e n) st 0 n := r_bl (fun t ht => D1.t2 t (by omega)) (fun t ht => by rw [hres t ht, ← hκ]; rfl)
    refine c_run 1 (pc' := 90) (ls' := [(0, .ref 77), (1, .int (nI e)), (2, .int st), (3, .int (nI ms)), (4, .int 1)]) (st' := [.int 1]) (μ' := (I, (n_J J R G))) (Nat.le_of_ble_eq_true rfl) rfl ?_
    refine c_ifeq 136 (Nat.le_of_ble_eq_true rfl) rfl rfl (fun h1 => absurd h1 (by decide)) (fun h1 => ?_)
    refine c_run 2 (pc' := 97) (ls' := [(0, .ref 77), (1, .int (nI e)), (2, .int st), (3, .int (nI ms)), (4, .int 1)]) (st' := [.int 5000, .int (nI ms)]) (μ' := (I, (n_J J R G))) (Nat.le_of_ble_eq_true rfl) rfl ?_
    refine c_icge 136 (Nat.le_of_ble_eq_true rfl) rfl rfl (fun h2 => absurd h2 (show ¬ nI 5000 ≤ nI ms from nI_ge (by omega) (by omega))) (fun h2 => ?_)
    refine c_run 2 (pc' := 102) (ls' := [(0, .ref 77), (1, .int (nI e)), (2, .int st), (3, .int (nI ms)), (4, .int 1)]) (st' := [.int (nI e), .ref 77]) (μ' := (I, (n_J J R G))) (Nat.le_of_ble_eq_true rfl) rfl ?_
    refine c_cv 126 [.int (nI e)] (b := 77) (r := []) (Nat.le_of_ble_eq_true rfl) rfl rfl rfl rfl rfl rfl (n_books I J R G e (by omega) n hn hn4 (κ0.1 27 e) hop) ?_
    rintro _ _ ⟨rfl, rfl⟩
    show m_W 154 105 [(0, .ref 77), (1, .int (nI e)), (2, .int st), (3, .int (nI ms)), (4, .int 1)] [] (I, (n_J J (n_bk R (n_gv (κ0.1 27 e) (I 89 e) (n_m R 1) n G 4) e n) (n_gv (κ0.1 27 e) (I 89 e) (n_m R 1) n G 4))) _
    refine c_run 2 (pc' := 107) (ls' := [(0, .ref 77), (1, .int (nI e)), (2, .int st), (3, .int (nI ms)), (4, .int 1)]) (st' := [.int st, .ref 77]) (μ' := (I, (n_J J (n_bk R (n_gv (κ0.1 27 e) (I 89 e) (n_m R 1) n G 4) e n) (n_gv (κ0.1 27 e) (I 89 e) (n_m R 1) n G 4)))) (Nat.le_of_ble_eq_true rfl) rfl ?_
    refine c_cv 153 [.int st] (b := 77) (r := []) (Nat.le_of_ble_eq_true rfl) rfl rfl rfl rfl rfl rfl (n_isBelow I J (n_bk R (n_gv (κ0.1 27 e) (I 89 e) (n_m R 1) n G 4) e n) (n_gv (κ0.1 27 e) (I 89 e) (n_m R 1) n G 4) n hn hn4 st) ?_
    rintro _ _ ⟨rfl, rfl⟩
    rw [hbl]
    show m_W 154 110 [(0, .ref 77), (1, .int (nI e)), (2, .int st), (3, .int (nI ms)), (4, .int 1)] [.int (k_bl (k_book κ e n) st 0 n)] (I, (n_J J (n_bk R (n_gv (κ0.1 27 e) (I 89 e) (n_m R 1) n G 4) e n) (n_gv (κ0.1 27 e) (I 89 e) (n_m R 1) n G 4))) _
    refine c_ifne 117 (Nat.le_of_ble_eq_true rfl) rfl rfl (fun h3 => ?_) (fun h3 => ?_)
    · skip
      refine c_run 4 (pc' := 123) (ls' := [(4, .int 0), (0, .ref 77), (1, .int (nI e)), (2, .int st), (3, .int (nI ms))]) (st' := [.int 0, .int (nI ms)]) (μ' := (I, (n_J J (n_bk R (n_gv (κ0.1 27 e) (I 89 e) (n_m R 1) n G 4) e n) (n_gv (κ0.1 27 e) (I 89 e) (n_m R 1) n G 4)))) (Nat.le_of_ble_eq_true rfl) rfl ?_
      refine c_ifeq 130 (Nat.le_of_ble_eq_true rfl) rfl rfl (fun h4 => ?_) (fun h4 => absurd (by decide) h4)
      refine c_run 4 (pc' := 88) (ls' := [(3, .int ((nI ms) + (0 : Int32))), (4, .int 0), (0, .ref 77), (1, .int (nI e)), (2, .int st)]) (st' := []) (μ' := (I, (n_J J (n_bk R (n_gv (κ0.1 27 e) (I 89 e) (n_m R 1) n G 4) e n) (n_gv (κ0.1 27 e) (I 89 e) (n_m R 1) n G 4)))) (Nat.le_of_ble_eq_true rfl) rfl ?_
      refine c_run 1 (pc' := 90) (ls' := [(3, .int ((nI ms) + (0 : Int32))), (4, .int 0), (0, .ref 77), (1, .int (nI e)), (2, .int st)]) (st' := [.int 0]) (μ' := (I, (n_J J (n_bk R (n_gv (κ0.1 27 e) (I 89 e) (n_m R 1) n G 4) e n) (n_gv (κ0.1 27 e) (I 89 e) (n_m R 1) n G 4)))) (Nat.le_of_ble_eq_true rfl) rfl ?_
      refine c_ifeq 136 (Nat.le_of_ble_eq_true rfl) rfl rfl (fun h5 => ?_) (fun h5 => absurd (by decide) h5)
      refine c_run 1 (pc' := 137) (ls' := [(3, .int ((nI ms) + (0 : Int32))), (4, .int 0), (0, .ref 77), (1, .int (nI e)), (2, .int st)]) (st' := [.ref 77]) (μ' := (I, (n_J J (n_bk R (n_gv (κ0.1 27 e) (I 89 e) (n_m R 1) n G 4) e n) (n_gv (κ0.1 27 e) (I 89 e) (n_m R 1) n G 4)))) (Nat.le_of_ble_eq_true rfl) rfl ?_
      refine c_cv 152 [] (b := 77) (r := []) (Nat.le_of_ble_eq_true rfl) rfl rfl rfl rfl rfl rfl (n_putsB I J (n_bk R (n_gv (κ0.1 27 e) (I 89 e) (n_m R 1) n G 4) e n) (n_gv (κ0.1 27 e) (I 89 e) (n_m R 1) n G 4)) ?_
      rintro _ _ ⟨rfl, rfl⟩
      show m_W 154 140 [(3, .int ((nI ms) + (0 : Int32))), (4, .int 0), (0, .ref 77), (1, .int (nI e)), (2, .int st)] [] (I, (n_J J (n_pb J (n_bk R (n_gv (κ0.1 27 e) (I 89 e) (n_m R 1) n G 4) e n) 140) (n_gv (κ0.1 27 e) (I 89 e) (n_m R 1) n G 4))) _
      refine c_run 1 (pc' := 141) (ls' := [(3, .int ((nI ms) + (0 : Int32))), (4, .int 0), (0, .ref 77), (1, .int (nI e)), (2, .int st)]) (st' := [.int ((nI ms) + (0 : Int32))]) (μ' := (I, (n_J J (n_pb J (n_bk R (n_gv (κ0.1 27 e) (I 89 e) (n_m R 1) n G 4) e n) 140) (n_gv (κ0.1 27 e) (I 89 e) (n_m R 1) n G 4)))) (Nat.le_of_ble_eq_true rfl) rfl ?_
      refine c_ret (Nat.le_of_ble_eq_true rfl) rfl rfl ⟨by decide, rfl⟩ ?_
      refine ⟨?_, _, _, rfl, fun k hk => if_pos hk⟩
      rw [k_lb, if_neg (by assumption), Int32.add_zero]
    · skip
      refine c_run 5 (pc' := 123) (ls' := [(4, .int 1), (0, .ref 77), (1, .int (nI e)), (2, .int st), (3, .int (nI ms))]) (st' := [.int 1, .int (nI ms)]) (μ' := (I, (n_J J (n_bk R (n_gv (κ0.1 27 e) (I 89 e) (n_m R 1) n G 4) e n) (n_gv (κ0.1 27 e) (I 89 e) (n_m R 1) n G 4)))) (Nat.le_of_ble_eq_true rfl) rfl ?_
      refine c_ifeq 130 (Nat.le_of_ble_eq_true rfl) rfl rfl (fun h6 => absurd h6 (by decide)) (fun h6 => ?_)
      refine c_run 5 (pc' := 88) (ls' := [(3, .int ((nI ms) + (1 : Int32))), (4, .int 1), (0, .ref 77), (1, .int (nI e)), (2, .int st)]) (st' := []) (μ' := (I, (n_J J (n_bk R (n_gv (κ0.1 27 e) (I 89 e) (n_m R 1) n G 4) e n) (n_gv (κ0.1 27 e) (I 89 e) (n_m R 1) n G 4)))) (Nat.le_of_ble_eq_true rfl) rfl ?_
      refine c_w [2, 3, 4, 0, 1] (ls' := [(0, .ref 77), (1, .int (nI e)), (2, .int st), (3, .int ((nI ms) + (1 : Int32))), (4, .int 1)]) rfl ?_
      rw [nI_1 ms, k_lb, if_pos (by assumption)]
      exact ih (ms + 1) (by omega) (k_book κ e n) (n_bk R (n_gv (κ0.1 27 e) (I 89 e) (n_m R 1) n G 4) e n) (n_gv (κ0.1 27 e) (I 89 e) (n_m R 1) n G 4) D1 (by rw [← hκ]; rfl)

set_option maxRecDepth 100000 in
theorem n_lb_y (I : Nat → Nat → Int32) (J : Nat → Nat → Int64) (R G : Nat → Int64) (n : Nat) (hn : I 77 2 = nI n) (hn4 : n ≤ 4) (m : Nat) (hm : I 77 10 = nI m) (hm6 : m ≤ 6) (e : Nat) (he : e < m) (h39 : ¬ 0 ≤ R 39) (hbw : n_bw R (J 81) (n_ws R e n) n = 0) (κr : k_M) (B : Int64) (D : r_D κr R B) (hcn : κr.1 1 0 = nI n) (b : Nat) (hb16 : b < 16) (h27 : κr.1 27 e = nI b) (hF : I 89 e = κr.1 25 e) (hres : ∀ t, t < n → J 81 t = (κr.1 3 t).toInt64)  : m_W 154 0 (lv_args 0 [.ref 77, .int (nI e)]) [] (I, (n_J J R G)) (n_lQ I J R (k_lb e n (n_ws R e n) 5000 0 κr)) := by
  show m_W 154 0 [(0, .ref 77), (1, .int (nI e))] [] (I, (n_J J R G)) _
  refine c_run 2 (pc' := 2) (ls' := [(0, .ref 77), (1, .int (nI e))]) (st' := [.int (nI e), .ref 77]) (μ' := (I, (n_J J R G))) (Nat.le_of_ble_eq_true rfl) rfl ?_
  refine c_cv 99 [.int (nI e)] (b := 77) (r := []) (Nat.le_of_ble_eq_true rfl) rfl rfl rfl rfl rfl rfl (n_isE I (n_J J R G) (nI e) m hm hm6) ?_
  rintro _ _ ⟨rfl, rfl⟩
  show m_W 154 5 [(0, .ref 77), (1, .int (nI e))] [.int (s01 (0 ≤ (nI e) ∧ (nI e) < nI m))] (I, (n_J J R G)) _
  refine c_ifne 10 (Nat.le_of_ble_eq_true rfl) rfl rfl (fun h1 => ?_) (fun h1 => absurd h1 (s01_1.mpr (k_ixr he (by omega))))
  refine c_run 1 (pc' := 11) (ls' := [(0, .ref 77), (1, .int (nI e))]) (st' := [.ref 77]) (μ' := (I, (n_J J R G))) (Nat.le_of_ble_eq_true rfl) rfl ?_
  refine c_cv 100 [] (b := 77) (r := []) (Nat.le_of_ble_eq_true rfl) rfl rfl rfl rfl rfl rfl (n_burns I (n_J J R G)) ?_
  rintro _ _ ⟨rfl, rfl⟩
  show m_W 154 14 [(0, .ref 77), (1, .int (nI e))] [.int (s01 (0 ≤ (R 39)))] (I, (n_J J R G)) _
  refine c_ifeq 20 (Nat.le_of_ble_eq_true rfl) rfl rfl (fun h2 => ?_) (fun h2 => absurd (s01_0.mpr h39) h2)
  refine c_run 4 (pc' := 24) (ls' := [(3, .int 0), (2, .int 0), (0, .ref 77), (1, .int (nI e))]) (st' := []) (μ' := (I, (n_J J R G))) (Nat.le_of_ble_eq_true rfl) rfl ?_
  refine c_w [2, 3, 1, 0] (ls' := [(0, .ref 77), (1, .int (nI e)), (2, .int 0), (3, .int 0)]) rfl ?_
  refine n_ws_l I J R G n hn hn4 e (by omega) _ ?_ n 0 (by omega)
  refine c_run 2 (pc' := 70) (ls' := [(0, .ref 77), (1, .int (nI e)), (2, .int (n_ws R e n))]) (st' := [.int (n_ws R e n), .ref 77]) (μ' := (I, (n_J J R G))) (Nat.le_of_ble_eq_true rfl) rfl ?_
  refine c_cv 153 [.int (n_ws R e n)] (b := 77) (r := []) (Nat.le_of_ble_eq_true rfl) rfl rfl rfl rfl rfl rfl (n_isBelow I J R G n hn hn4 (n_ws R e n)) ?_
  rintro _ _ ⟨rfl, rfl⟩
  show m_W 154 73 [(0, .ref 77), (1, .int (nI e)), (2, .int (n_ws R e n))] [.int (n_bw R (J 81) (n_ws R e n) n)] (I, (n_J J R G)) _
  refine c_ifeq 79 (Nat.le_of_ble_eq_true rfl) rfl rfl (fun h51 => ?_) (fun h51 => absurd hbw h51)
  refine c_run 1 (pc' := 80) (ls' := [(0, .ref 77), (1, .int (nI e)), (2, .int (n_ws R e n))]) (st' := [.ref 77]) (μ' := (I, (n_J J R G))) (Nat.le_of_ble_eq_true rfl) rfl ?_
  refine c_cv 151 [] (b := 77) (r := []) (Nat.le_of_ble_eq_true rfl) rfl rfl rfl rfl rfl rfl (n_putsA I J R G) ?_
  rintro _ _ ⟨rfl, rfl⟩
  show m_W 154 83 [(0, .ref 77), (1, .int (nI e)), (2, .int (n_ws R e n))] [] (I, (n_J (m_cj J 79 (n_as J R 140)) R G)) _
  refine c_run 4 (pc' := 88) (ls' := [(4, .int 1), (3, .int 0), (0, .ref 77), (1, .int (nI e)), (2, .int (n_ws R e n))]) (st' := []) (μ' := (I, (n_J (m_cj J 79 (n_as J R 140)) R G))) (Nat.le_of_ble_eq_true rfl) rfl ?_
  refine c_w [2, 3, 4, 1, 0] (ls' := [(0, .ref 77), (1, .int (nI e)), (2, .int (n_ws R e n)), (3, .int 0), (4, .int 1)]) rfl ?_
  refine m_wk (n_lb_l I (m_cj J 79 (n_as J R 140)) n hn hn4 e (by omega) (n_ws R e n) κr B hcn b hb16 h27 hF hres 5000 0 (by omega) κr R G D rfl) ?_
  rintro _ _ ⟨rfl, R', G', rfl, hr⟩
  exact ⟨rfl, (m_cj J 79 (n_as J R 140)), R', G', rfl, fun c hc => m_cj_o hc, fun k hk => (hr k hk).trans (if_pos hk)⟩


theorem a_longest {κ κr : k_M} {I : Nat → Nat → Int32} {J : Nat → Nat → Int64} {R : Nat → Int64} {lg : Prop} {n m : Nat} {B : Int64} (G : Nat → Int64) (A : r_A lg κ I J R n m B) (hc : k_cp κ κr) (x : Int32) : m_W 154 0 (lv_args 0 [.ref 77, .int x]) [] (I, n_J J R G) (n_lQ I J R (x_lb κ κr x)) := by
  have n4 := A.S.n4
  have m6 := A.S.m6
  have hkn : kn κ = n := by show (κ.1 1 0).toNatClampNeg = n; rw [A.S.cn]; exact nI_clamp (by omega)
  unfold x_lb
  by_cases hx : 0 ≤ x ∧ x < nI m
  · rw [if_pos ((r_hE A.S.cm).mpr hx)]
    obtain ⟨e, he, rfl⟩ := k_ix hx (by omega)
    rw [show (nI e).toNatClampNeg = e from nI_clamp (by omega), hkn]
    by_cases hb : k_isB κ
    · rw [if_pos hb]
      refine m_wk (n_lb_2 I J R G m A.S.mm m6 e he (by rw [A.D.bu]; exact n_le64 (x := 0).mpr hb.1)) ?_
      rintro _ _ ⟨rfl, rfl⟩
      exact ⟨rfl, J, R, G, rfl, fun _ _ => rfl, fun _ _ => rfl⟩
    · rw [if_neg hb]
      have h39 : ¬ 0 ≤ R 39 := fun q => hb ((r_isB A.S.cm m6 A.V).mpr (by rw [A.D.bu] at q; exact n_le64 (x := 0).mp q))
      obtain ⟨b, b1, b2, -⟩ := A.V.op e (by omega)
      have hw : n_ws R e n = k_wd κ e := by
        show _ = κ.1 27 e &&& k_wb κ (kn κ)
        rw [hkn]
        exact r_ws b1 b2 (r_hopD A.D A.S.cn n4 (by omega) b1 b2) A.D.t1 (Nat.le_refl n) n4
      have hbl : n_bw R (J 81) (n_ws R e n) n = k_bl κ (k_wd κ e) 0 n := by
        rw [hw]
        exact r_bl (fun t ht => A.D.t2 t (by omega)) A.S.res
      by_cases h0 : k_bl κ (k_wd κ e) 0 n = 0
      · rw [if_pos h0]
        have D := A.D.cp hc
        have S := A.S.cp hc
        have hc' := hc
        obtain ⟨c0, c1, c2, c5, c11, c12, c13, c23, c24, c28, c35⟩ := hc'
        have h27 : κr.1 27 e = nI b := by rw [c24 27 (by omega) (by omega) e (by omega)]; exact b2
        have h := n_lb_y I J R G n A.S.mn n4 m A.S.mm m6 e he h39 (by rw [hbl]; exact h0) κr B D S.cn b b1 h27 (S.flo e he) S.res
        rw [hw] at h
        exact h
      · rw [if_neg h0]
        refine m_wk (n_lb_4 I J R G n A.S.mn n4 m A.S.mm m6 e he h39 (by rw [hbl]; exact h0)) ?_
        rintro _ _ ⟨rfl, rfl⟩
        exact ⟨rfl, J, R, G, rfl, fun _ _ => rfl, fun _ _ => rfl⟩
  · rw [if_neg (fun q => hx ((r_hE A.S.cm).mp q))]
    refine m_wk (n_lb_1 I J R G m A.S.mm m6 x hx) ?_
    rintro _ _ ⟨rfl, rfl⟩
    exact ⟨rfl, J, R, G, rfl, fun _ _ => rfl, fun _ _ => rfl⟩

set_option maxRecDepth 100000 in
theorem a_planned (I : Nat → Nat → Int32) (J : Nat → Nat → Int64) (N : Nat) (h0 : I 77 18 = nI N) (hN : N ≤ 100) (lg : Prop) (u m : Nat) (B : Int64) (κ κr : k_M) (R G : Nat → Int64) (A : r_A lg κ I J R u m B) (hcp : k_cp κ κr) (hwf : k_wf κr) (sp cm nf nm fi se nu : Int32) : m_W 155 0 (lv_args 0 [.ref 77]) [] ((n_tx I sp cm nf nm fi se nu), (n_J J R G)) (n_kQ I J R (if p_ff (s_ch (I 93) N) N 100 0 = -4 then k_ball (k_run (s_ch (I 93) N) N 100 0 0 κr).2 - k_ball κ else -2)) := by
  show m_W 155 0 [(0, .ref 77)] [] ((n_tx I sp cm nf nm fi se nu), (n_J J R G)) _
  refine c_run 1 (pc' := 1) (ls' := [(0, .ref 77)]) (st' := [.ref 77]) (μ' := ((n_tx I sp cm nf nm fi se nu), (n_J J R G))) (Nat.le_of_ble_eq_true rfl) rfl ?_
  refine c_cv 146 [] (b := 77) (r := []) (Nat.le_of_ble_eq_true rfl) rfl rfl rfl rfl rfl rfl (n_faultOf I (n_J J R G) N h0 hN sp cm nf nm fi se nu) ?_
  rintro _ _ ⟨rfl, sp1, cm1, nf1, nm1, fi1, se1, nu1, rfl⟩
  show m_W 155 4 [(0, .ref 77)] [.int (p_ff (s_ch (I 93) N) N 100 0)] ((n_tx I sp1 cm1 nf1 nm1 fi1 se1 nu1), (n_J J R G)) _
  refine c_run 1 (pc' := 6) (ls' := [(0, .ref 77)]) (st' := [.int (-4), .int (p_ff (s_ch (I 93) N) N 100 0)]) (μ' := ((n_tx I sp1 cm1 nf1 nm1 fi1 se1 nu1), (n_J J R G))) (Nat.le_of_ble_eq_true rfl) rfl ?_
  refine c_iceq 13 (Nat.le_of_ble_eq_true rfl) rfl rfl (fun h1 => ?_) (fun h1 => ?_)
  · skip
    refine c_run 1 (pc' := 14) (ls' := [(0, .ref 77)]) (st' := [.ref 77]) (μ' := ((n_tx I sp1 cm1 nf1 nm1 fi1 se1 nu1), (n_J J R G))) (Nat.le_of_ble_eq_true rfl) rfl ?_
    refine c_cv 151 [] (b := 77) (r := []) (Nat.le_of_ble_eq_true rfl) rfl rfl rfl rfl rfl rfl (n_putsA (n_tx I sp1 cm1 nf1 nm1 fi1 se1 nu1) J R G) ?_
    rintro _ _ ⟨rfl, rfl⟩
    show m_W 155 17 [(0, .ref 77)] [] ((n_tx I sp1 cm1 nf1 nm1 fi1 se1 nu1), (n_J (m_cj J 79 (n_as J R 140)) R G)) _
    refine c_run 4 (pc' := 25) (ls' := [(0, .ref 77)]) (st' := [.long 0, .int 139, .ref 78]) (μ' := ((n_tx I sp1 cm1 nf1 nm1 fi1 se1 nu1), (n_J (m_cj J 79 (n_as J R 140)) R G))) (Nat.le_of_ble_eq_true rfl) rfl ?_
    refine c_las 139 140 (Nat.le_of_ble_eq_true rfl) rfl rfl rfl rfl rfl (by decide) ?_
    show m_W 155 26 [(0, .ref 77)] [] ((n_tx I sp1 cm1 nf1 nm1 fi1 se1 nu1), m_uj (n_J (m_cj J 79 (n_as J R 140)) R G) 78 139 0) _
    rw [n_JR]
    show m_W 155 26 [(0, .ref 77)] [] ((n_tx I sp1 cm1 nf1 nm1 fi1 se1 nu1), (n_J (m_cj J 79 (n_as J R 140)) (r_u R 139 0) G)) _
    refine c_run 1 (pc' := 27) (ls' := [(0, .ref 77)]) (st' := [.ref 77]) (μ' := ((n_tx I sp1 cm1 nf1 nm1 fi1 se1 nu1), (n_J (m_cj J 79 (n_as J R 140)) (r_u R 139 0) G))) (Nat.le_of_ble_eq_true rfl) rfl ?_
    refine c_cv 149 [] (b := 77) (r := []) (Nat.le_of_ble_eq_true rfl) rfl rfl rfl rfl rfl rfl (n_executes I (m_cj J 79 (n_as J R 140)) N h0 hN False u m (k_ball κr) κr (r_u R 139 0) G (A.pl hcp hwf (fun c hc => m_cj_o hc)) sp1 cm1 nf1 nm1 fi1 se1 nu1) ?_
    rintro _ _ ⟨rfl, sp2, cm2, nf2, nm2, fi2, se2, nu2, R2, G2, rfl, A2⟩
    show m_W 155 30 [(0, .ref 77)] [.int ((k_run (s_ch (I 93) N) N 100 0 0 κr).1)] ((n_tx I sp2 cm2 nf2 nm2 fi2 se2 nu2), (n_J (m_cj J 79 (n_as J R 140)) R2 G2)) _
    refine c_run 4 (pc' := 38) (ls' := [(0, .ref 77)]) (st' := [.int 139, .ref 78]) (μ' := ((n_tx I sp2 cm2 nf2 nm2 fi2 se2 nu2), (n_J (m_cj J 79 (n_as J R 140)) R2 G2))) (Nat.le_of_ble_eq_true rfl) rfl ?_
    refine c_lal 139 140 (Nat.le_of_ble_eq_true rfl) rfl rfl rfl rfl rfl (by decide) ?_
    show m_W 155 39 [(0, .ref 77)] [.long (R2 139)] ((n_tx I sp2 cm2 nf2 nm2 fi2 se2 nu2), (n_J (m_cj J 79 (n_as J R 140)) R2 G2)) _
    refine c_run 2 (pc' := 41) (ls' := [(1, .long (R2 139)), (0, .ref 77)]) (st' := [.ref 77]) (μ' := ((n_tx I sp2 cm2 nf2 nm2 fi2 se2 nu2), (n_J (m_cj J 79 (n_as J R 140)) R2 G2))) (Nat.le_of_ble_eq_true rfl) rfl ?_
    refine c_cv 152 [] (b := 77) (r := []) (Nat.le_of_ble_eq_true rfl) rfl rfl rfl rfl rfl rfl (n_putsB (n_tx I sp2 cm2 nf2 nm2 fi2 se2 nu2) (m_cj J 79 (n_as J R 140)) R2 G2) ?_
    rintro _ _ ⟨rfl, rfl⟩
    show m_W 155 44 [(1, .long (R2 139)), (0, .ref 77)] [] ((n_tx I sp2 cm2 nf2 nm2 fi2 se2 nu2), (n_J (m_cj J 79 (n_as J R 140)) (n_pb (m_cj J 79 (n_as J R 140)) R2 140) G2)) _
    refine c_run 1 (pc' := 45) (ls' := [(1, .long (R2 139)), (0, .ref 77)]) (st' := [.long (R2 139)]) (μ' := ((n_tx I sp2 cm2 nf2 nm2 fi2 se2 nu2), (n_J (m_cj J 79 (n_as J R 140)) (n_pb (m_cj J 79 (n_as J R 140)) R2 140) G2))) (Nat.le_of_ble_eq_true rfl) rfl ?_
    refine c_lret (Nat.le_of_ble_eq_true rfl) rfl rfl ?_
    rw [if_pos h1]
    refine ⟨?_, _, _, _, _, _, _, _, (m_cj J 79 (n_as J R 140)), _, _, rfl, fun c hc => m_cj_o hc, fun k hk => (show n_pb (m_cj J 79 (n_as J R 140)) R2 140 k = R k from (if_pos hk).trans (if_pos hk))⟩
    rw [A2.D.bk, k_ball_cp hcp]
  · skip
    refine c_run 1 (pc' := 12) (ls' := [(0, .ref 77)]) (st' := [.long (-2)]) (μ' := ((n_tx I sp1 cm1 nf1 nm1 fi1 se1 nu1), (n_J J R G))) (Nat.le_of_ble_eq_true rfl) rfl ?_
    refine c_lret (Nat.le_of_ble_eq_true rfl) rfl rfl ?_
    rw [if_neg h1]
    exact ⟨rfl, _, _, _, _, _, _, _, J, R, G, rfl, fun _ _ => rfl, fun _ _ => rfl⟩

