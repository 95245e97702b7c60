/-! BURNS AND VALVES under the relation -/
theorem m_wk {k pc : Nat} {ls : m_Ls} {st : List Value} {μ : m_M} {Q Q' : m_Q} (h : m_W k pc ls st μ Q) (hq : ∀ v μ, Q v μ → Q' v μ) : m_W k pc ls st μ Q' := m_W_mono _ _ _ _ _ _ _ hq h
theorem r_V.kk {κ κ' : k_M} {n m : Nat} (h : r_V κ n m) (hn : n ≤ 4) (hm : m ≤ 6) (h1 : k_sc κ κ') (hmg : κ'.1 0 6 = κ.1 0 6) (hg : ∀ t, t < 4 → κ'.2 9 t = κ.2 9 t)
    (m0 : ∀ t, t < 4 → i_rg (κ'.2 5 t) 0 1000000000) (m1 : ∀ t, t < 4 → i_rg (κ'.2 6 t) 0 1000000000) (va : ∀ t, t < 4 → i_rg (κ'.2 8 t) 0 1000000000000000)
    (ti : i_rh (κ'.1 0 3) 0 100000000) (sv : κ'.1 0 8 = 0 ∨ κ'.1 0 8 = 1)
    (bu : (κ'.1 0 7 = -1 ∧ κ'.1 0 8 = 0) ∨ ∃ e, e < m ∧ κ'.1 0 7 = nI e ∧ 0 ≤ (κ'.1 0 9).toInt ∧ (κ'.1 0 9).toInt ≤ (κ'.1 0 3).toInt ∧ ∀ t, t < 4 → 0 ≤ (κ'.2 35 t).toInt ∧ (κ'.2 6 t).toInt + (κ'.2 35 t).toInt ≤ 1000000000)
    (op : ∀ e, e < 6 → ∃ b, b < 16 ∧ κ'.1 27 e = nI b ∧ (e < m → ∀ t, n ≤ t → t < 4 → b.testBit t = true) ∧ (m ≤ e → b = 0)) (lw : k_lw κ') : r_V κ' n m := r_V.mk (m0 := m0) (m1 := m1) (va := va) (gv := fun t ht => by rw [hg t ht]; exact h.gv t ht) (g6 := fun t h1 h2 => by rw [hg t h2]; exact h.g6 t h1 h2) (de := fun t ht => by rw [h1 2 t (by omega) (by omega)]; exact h.de t ht) (lk := fun t ht => by rw [h1 4 t (by omega) (by omega)]; exact h.lk t ht) (fl := fun e he => by rw [h1 25 e (by omega) (by omega)]; exact h.fl e he) (dt := fun e he => by rw [h1 26 e (by omega) (by omega)]; exact h.dt e he) (pt := fun t ht => by
    obtain ⟨p, a, b, c, d⟩ := h.pt t ht
    refine ⟨p, a, ?_, fun i hi => ?_, fun i hi => ?_⟩
    · rw [h1 _ _ (by omega) (by omega)]; exact b
    · rw [h1 _ _ (by omega) (by omega), h1 _ _ (by omega) (by omega)]; exact c i hi
    · rw [h1 _ _ (by omega) (by omega), h1 _ _ (by omega) (by omega), h1 _ _ (by omega) (by omega), h1 _ _ (by omega) (by omega)]; exact d i hi) (mg := by rw [hmg]; exact h.mg) (ti := ti) (sv := sv) (bu := bu) (op := op) (lw := lw)
theorem m_uin {f : Nat → Nat → Int32} {a k j : Nat} {v : Int32} (h : j ≠ k) : m_ui f a k v a j = f a j := by unfold m_ui; rw [if_pos rfl, if_neg h]
theorem m_ujn {f : Nat → Nat → Int64} {a k j : Nat} {v : Int64} (h : j ≠ k) : m_uj f a k v a j = f a j := by unfold m_uj; rw [if_pos rfl, if_neg h]
theorem r_hE {κ : k_M} {m : Nat} (hm : κ.1 23 0 = nI m) {e : Int32} : k_hasE κ e ↔ (0 ≤ e ∧ e < nI m) := by
  show (0 ≤ e ∧ e < κ.1 23 0) ↔ _
  rw [hm]
theorem r_hT {κ : k_M} {n : Nat} (hn : κ.1 1 0 = nI n) {t : Int32} : k_hasT κ t ↔ (0 ≤ t ∧ t < nI n) := by
  show (0 ≤ t ∧ t < κ.1 1 0) ↔ _
  rw [hn]
theorem n_ig_o {R : Nat → Int64} {e : Int32} {k : Nat} (h : k ≠ 39 ∧ k ≠ 40 ∧ k ≠ 41 ∧ k ≠ 4 ∧ k ≠ 9 ∧ k ≠ 14 ∧ k ≠ 19) : n_ig R e k = R k := by
  unfold n_ig; rw [r_un h.2.2.2.2.2.2, r_un h.2.2.2.2.2.1, r_un h.2.2.2.2.1, r_un h.2.2.2.1, r_un h.2.2.1, r_un h.2.1, r_un h.1]
section RA
variable {lg : Prop} {κ : k_M} {I : Nat → Nat → Int32} {J : Nat → Nat → Int64} {R : Nat → Int64} {n m : Nat} {B : Int64}
theorem r_sc27 {j : Nat} {v : Int32} : k_sc κ (m_ui κ.1 27 j v, κ.2) := fun c i _ h => by
  show m_ui κ.1 27 j v c i = _
  rw [m_ui_o (by omega)]
theorem r_A.opn (A : r_A lg κ I J R n m B) {j b : Nat} (hj : j < m) (hb : b < 16) (hu : ∀ t, n ≤ t → t < 4 → b.testBit t = true) : r_A lg (m_ui κ.1 27 j (nI b), κ.2) I J (r_u R (20 + 3 * j + 0) (nI b &&& b_all n).toInt64) n m B := by
  have m6 := A.S.m6
  refine ⟨A.S.kk r_sc27 (fun _ _ _ => rfl) (fun _ _ => rfl), ?_, ?_, fun l => ?_⟩
  · refine r_D.mk (t0 := fun t ht => by rw [r_un (by omega)]; exact A.D.t0 t ht) (t1 := fun t ht => by rw [r_un (by omega)]; exact A.D.t1 t ht) (t2 := fun t ht => by rw [r_un (by omega)]; exact A.D.t2 t ht) (t3 := fun t ht => by rw [r_un (by omega)]; exact A.D.t3 t ht) (t4 := fun t ht => by rw [r_un (by omega)]; exact A.D.t4 t ht) (e0 := fun e he => ?_) (e1 := fun e he => by rw [r_un (by omega)]; exact A.D.e1 e he) (e2 := fun e he => by rw [r_un (by omega)]; exact A.D.e2 e he) (ti := by rw [r_un (by omega)]; exact A.D.ti) (bu := by rw [r_un (by omega)]; exact A.D.bu) (la := by rw [r_un (by omega)]; exact A.D.la) (sv := by rw [r_un (by omega)]; exact A.D.sv) (bk := by rw [r_un (by omega)]; exact A.D.bk)
    rw [r_opn (κ := (m_ui κ.1 27 j (nI b), κ.2)) (n := n) A.S.cn]
    by_cases hej : e = j
    · subst hej
      rw [r_us]
      show _ = (m_ui κ.1 27 e (nI b) 27 e &&& b_all n).toInt64
      rw [m_uik]
    · rw [r_un (by omega), A.D.e0 e he, r_opn A.S.cn]
      show _ = (m_ui κ.1 27 j (nI b) 27 e &&& b_all n).toInt64
      rw [m_uin hej]
  · refine A.V.kk A.S.n4 m6 r_sc27 rfl (fun _ _ => rfl) A.V.m0 A.V.m1 A.V.va A.V.ti A.V.sv A.V.bu (fun e he => ?_) A.V.lw
    by_cases hej : e = j
    · subst hej
      exact ⟨b, hb, (m_uik : m_ui κ.1 27 e (nI b) 27 e = nI b), fun _ => hu, fun q => absurd hj (by omega)⟩
    · obtain ⟨c, h1, h2, h3⟩ := A.V.op e he
      refine ⟨c, h1, ?_, h3⟩
      show m_ui κ.1 27 j (nI b) 27 e = _
      rw [m_uin hej]
      exact h2
  · exact (A.L l).cg (fun c i h _ => by show m_ui κ.1 27 j (nI b) c i = _; rw [m_ui_o (by omega)]) (fun _ => rfl) (fun k h1 h2 => r_un (by omega)) A.V.lws.2.2.2
theorem r_valve (A : r_A lg κ I J R n m B) (e t o : Int32) : (w_valve R n m e t o).1 = (k_valve κ e t o).1 ∧ r_A lg (k_valve κ e t o).2 I J (w_valve R n m e t o).2 n m B := by
  have n4 := A.S.n4
  have m6 := A.S.m6
  unfold w_valve k_valve
  by_cases he : 0 ≤ e ∧ e < nI m
  · rw [if_pos he, if_pos ((r_hE A.S.cm).mpr he)]
    by_cases ht : 0 ≤ t ∧ t < nI n
    · rw [if_pos ht, if_pos ((r_hT A.S.cn).mpr ht)]
      by_cases ho : 0 ≤ o ∧ o ≤ 1
      · rw [if_pos ho, if_pos ho]
        by_cases hb : e = κ.1 0 7
        · rw [if_pos hb, if_pos (by rw [A.D.bu, hb])]
          exact ⟨rfl, A⟩
        · rw [if_neg hb, if_neg (by rw [A.D.bu]; exact fun q => hb (n_eq64.mp q).symm)]
          obtain ⟨i, hi, rfl⟩ := k_ix ht (by omega)
          obtain ⟨j, hj, rfl⟩ := k_ix he (by omega)
          have hci : (nI i).toNatClampNeg = i := nI_clamp (by omega)
          have hcj : (nI j).toNatClampNeg = j := nI_clamp (by omega)
          rw [hcj]
          obtain ⟨b, hb16, hbe, hbt, -⟩ := A.V.op j (by omega)
          have hR : R (20 + 3 * j + 0) = (nI b &&& b_all n).toInt64 := by rw [A.D.e0 j (by omega), r_opn A.S.cn, hbe]
          rw [hR]
          by_cases h1 : o = 1
          · subst h1
            rw [if_pos rfl, bb_or n (by omega) b hb16 i (by omega) hi, hbe, (b_or1 b hb16 i (by omega)).2, r_opn (κ := (m_ui κ.1 27 j _, κ.2)) (n := n) A.S.cn]
            refine ⟨?_, A.opn hj (b_or1 b hb16 i (by omega)).1 (fun u h1 h2 => by rw [b_or2 b hb16 i (by omega) u h2 (by omega)]; exact hbt hj u h1 h2)⟩
            rw [Int32.toInt32_toInt64]
            show _ = m_ui κ.1 27 j _ 27 j &&& b_all n
            rw [m_uik]
          · have h0 : o = 0 := by
              obtain ⟨k, hk, rfl⟩ := k_ix (x := o) (n := 2) ⟨ho.1, Int32.lt_of_le_of_lt ho.2 (by decide)⟩ (by omega)
              rcases (show k = 0 ∨ k = 1 by omega) with rfl | rfl
              · rfl
              · exact absurd rfl h1
            subst h0
            rw [if_neg (by decide), b_an n (by omega) b hb16 i (by omega) hi, hbe, (b_an1 b hb16 i (by omega)).2, r_opn (κ := (m_ui κ.1 27 j _, κ.2)) (n := n) A.S.cn]
            refine ⟨?_, A.opn hj (b_an1 b hb16 i (by omega)).1 (fun u h1 h2 => by rw [b_an2 b hb16 i (by omega) u h2 (by omega)]; exact hbt hj u h1 h2)⟩
            rw [Int32.toInt32_toInt64]
            show _ = m_ui κ.1 27 j _ 27 j &&& b_all n
            rw [m_uik]
      · rw [if_neg ho, if_neg ho]; exact ⟨rfl, A⟩
    · rw [if_neg ht, if_neg (fun q => ht ((r_hT A.S.cn).mp q))]; exact ⟨rfl, A⟩
  · rw [if_neg he, if_neg (fun q => he ((r_hE A.S.cm).mp q))]; exact ⟨rfl, A⟩
theorem a_valve (G : Nat → Int64) (A : r_A lg κ I J R n m B) (e t o : Int32) : m_W 119 0 (lv_args 0 [.ref 77, .int e, .int t, .int o]) [] (I, n_J J R G) (r_Q lg I J n m B (k_valve κ e t o)) := by
  refine m_wk (n_valve I J R G e t o n A.S.mn A.S.n4 m A.S.mm A.S.m6) ?_
  rintro _ _ ⟨rfl, rfl⟩
  have h := r_valve A e t o
  exact ⟨by rw [h.1], _, G, rfl, h.2⟩
theorem r_begin (A : r_A lg κ I J R n m B) (e : Int32) : (w_ign R m e).1 = (k_begin κ e).1 ∧ r_A lg (k_begin κ e).2 I J (w_ign R m e).2 n m B := by
  have n4 := A.S.n4
  have m6 := A.S.m6
  unfold w_ign k_begin
  by_cases he : 0 ≤ e ∧ e < nI m
  · rw [if_pos he, if_pos ((r_hE A.S.cm).mpr he)]
    have hB := r_isB A.S.cm m6 A.V
    have hB2 : (0 ≤ R 39) ↔ k_isB κ := by rw [hB, A.D.bu]; exact n_le64 (x := 0)
    by_cases hb : k_isB κ
    · rw [if_pos hb, if_pos (hB2.mpr hb)]; exact ⟨rfl, A⟩
    · rw [if_neg hb, if_neg (fun q => hb (hB2.mp q))]
      obtain ⟨j, hj, rfl⟩ := k_ix he (by omega)
      have hcj : (nI j).toNatClampNeg = j := nI_clamp (by omega)
      rw [hcj]
      by_cases ho : k_open κ j = 0
      · rw [if_pos ho, if_pos (by rw [A.D.e0 j (by omega), ho]; rfl)]; exact ⟨rfl, A⟩
      · rw [if_neg ho, if_neg (by rw [A.D.e0 j (by omega)]; exact fun q => ho (n_eq64 (y := 0).mp q))]
        have hs := (r_nb A.V hb A.S.cm m6).2
        refine ⟨by rw [A.D.ti]; exact Int32.toInt32_toInt64 _, A.S.kk (fun c i h _ => ?_) (fun i h1 h2 => ?_) (fun _ _ => rfl), ?_, ?_, fun l => ?_⟩
        · show m_ui (m_ui κ.1 0 7 (nI j)) 0 9 (κ.1 0 3) c i = _
          rw [m_ui_o (by omega), m_ui_o (by omega)]
        · show m_ui (m_ui κ.1 0 7 (nI j)) 0 9 (κ.1 0 3) 0 i = _
          rw [m_uin (by omega), m_uin (by omega)]
        · refine r_D.mk (t0 := fun t ht => (n_ig_o (by omega)).trans (A.D.t0 t ht)) (t1 := fun t ht => (n_ig_o (by omega)).trans (A.D.t1 t ht)) (t2 := fun t ht => (n_ig_o (by omega)).trans (A.D.t2 t ht)) (t3 := fun t ht => (n_ig_o (by omega)).trans (A.D.t3 t ht)) (t4 := fun t ht => by rcases (show t = 0 ∨ t = 1 ∨ t = 2 ∨ t = 3 by omega) with rfl | rfl | rfl | rfl <;> rfl) (e0 := fun e he => (n_ig_o (by omega)).trans (A.D.e0 e he)) (e1 := fun e he => (n_ig_o (by omega)).trans (A.D.e1 e he)) (e2 := fun e he => (n_ig_o (by omega)).trans (A.D.e2 e he)) (ti := A.D.ti) (bu := rfl) (la := ?_) (sv := (show (0 : Int64) = (κ.1 0 8).toInt64 from by rw [hs]; rfl)) (bk := A.D.bk)
          show (0 : Int64) = _
          unfold k_len
          split
          · show (0 : Int64) = (κ.1 0 3 - κ.1 0 3).toInt64
            rw [Int32.sub_self]; rfl
          · rfl
        · refine A.V.kk n4 m6 (fun c i h _ => ?_) rfl (fun _ _ => rfl) A.V.m0 A.V.m1 A.V.va A.V.ti A.V.sv (Or.inr ⟨j, hj, rfl, A.V.ti.1, Int.le_refl _, fun t ht => ?_⟩) A.V.op A.V.lw
          · show m_ui (m_ui κ.1 0 7 (nI j)) 0 9 (κ.1 0 3) c i = _
            rw [m_ui_o (by omega), m_ui_o (by omega)]
          · have h1 := A.V.m1 t ht
            have h0 : (m_uj (m_uj (m_uj (m_uj κ.2 35 0 0) 35 1 0) 35 2 0) 35 3 0) 35 t = 0 := by
              rcases (show t = 0 ∨ t = 1 ∨ t = 2 ∨ t = 3 by omega) with rfl | rfl | rfl | rfl <;> rfl
            show 0 ≤ ((m_uj (m_uj (m_uj (m_uj κ.2 35 0 0) 35 1 0) 35 2 0) 35 3 0) 35 t).toInt ∧ (κ.2 6 t).toInt + ((m_uj (m_uj (m_uj (m_uj κ.2 35 0 0) 35 1 0) 35 2 0) 35 3 0) 35 t).toInt ≤ 1000000000
            rw [h0]
            exact ⟨by decide, by rw [show (0 : Int64).toInt = 0 from rfl]; omega⟩
        · refine (A.L l).cg (fun c i h _ => ?_) (fun _ => rfl) (fun k h1 h2 => ?_) A.V.lws.2.2.2
          · show m_ui (m_ui κ.1 0 7 (nI j)) 0 9 (κ.1 0 3) c i = _
            rw [m_ui_o (by omega), m_ui_o (by omega)]
          · exact n_ig_o (by omega)
  · rw [if_neg he, if_neg (fun q => he ((r_hE A.S.cm).mp q))]; exact ⟨rfl, A⟩
theorem a_ignite (G : Nat → Int64) (A : r_A lg κ I J R n m B) (e : Int32) : m_W 122 0 (lv_args 0 [.ref 77, .int e]) [] (I, n_J J R G) (r_Q lg I J n m B (k_begin κ e)) := by
  refine m_wk (n_ignite I J R G e m A.S.mm A.S.m6) ?_
  rintro _ _ ⟨rfl, rfl⟩
  have h := r_begin A e
  exact ⟨by rw [h.1], _, G, rfl, h.2⟩
end RA
/-- division by 1000: cut off or rounded down, the same for what is not negative -/
theorem s_fl_pos {a b : Int64} (ha : 0 ≤ a.toInt) (hb : 0 < b.toInt) : s_fl a b = a / b := by
  apply Int64.toInt_inj.mp
  rw [s_fl_toInt hb, q_div hb, Int.tdiv_eq_ediv_of_nonneg ha]
theorem n_cap_k (y : Int64) : n_cap y = k_cap y := by
  unfold n_cap k_cap
  show (if y ≤ n_wd then y else n_wd) = (if y < n_wd then y else n_wd)
  by_cases h : y ≤ n_wd
  · rw [if_pos h]
    by_cases h2 : y < n_wd
    · rw [if_pos h2]
    · rw [if_neg h2]
      exact Int64.le_antisymm h (Int64.not_lt.mp h2)
  · rw [if_neg h, if_neg (fun q => h (Int64.le_of_lt q))]
theorem n_cut_v {R : Nat → Int64} {D : Int32} {t : Nat} : ∀ {i : Nat}, i ≤ 4 → n_cut R D i (5 * t + 3) = if t < i then n_cap (R (5 * t + 3) + n_of1 R D t * n_of1 R D t) else R (5 * t + 3)
  | 0, _ => (if_neg (Nat.not_lt_zero t)).symm
  | i + 1, hi => by
    rw [n_cut]
    by_cases h : t = i
    · subst h
      rw [r_us, if_pos (Nat.lt_succ_self t), n_cut_v (by omega), if_neg (Nat.lt_irrefl t)]
    · rw [r_un (by omega), n_cut_v (by omega)]
      by_cases h2 : t < i
      · rw [if_pos h2, if_pos (by omega)]
      · rw [if_neg h2, if_neg (by omega)]
theorem n_cs_k {κ : k_M} {R : Nat → Int64} (h : ∀ t, t < 4 → R (5 * t + 4) = κ.2 35 t) : ∀ {i : Nat}, i ≤ 4 → n_cs R i = k_bsum κ i
  | 0, _ => rfl
  | i + 1, hi => by rw [n_cs, k_bsum, n_cs_k h (by omega), h i (by omega)]
theorem k_cap_b {y : Int64} (h : 0 ≤ y.toInt) : i_rg (k_cap y) 0 1000000000000000 := by
  rw [← n_cap_k]
  unfold n_cap
  have hw : n_wd.toInt = 1000000000000000 := by decide +kernel
  by_cases q : y ≤ n_wd
  · rw [if_pos q]
    rw [Int64.le_iff_toInt_le, hw] at q
    exact ⟨h, q⟩
  · rw [if_neg q, i_rg, hw]; omega
theorem k_bsum_c {κ : k_M} {i : Nat} : k_bsum κ i = k_bsum κ i := rfl
theorem r_dv {κ : k_M} {e t : Nat} {b : Int} (h1 : 0 ≤ (κ.2 35 t).toInt) (h2 : (κ.2 35 t).toInt ≤ 1000000000) (hd : i_rh (κ.1 26 e) 0 500) : (κ.2 35 t * (κ.1 26 e).toInt64).toInt = (κ.2 35 t).toInt * (κ.1 26 e).toInt ∧ 0 ≤ (κ.2 35 t).toInt * (κ.1 26 e).toInt ∧ (κ.2 35 t).toInt * (κ.1 26 e).toInt ≤ 500000000000 := by
  have h0 : 0 ≤ (κ.2 35 t).toInt * (κ.1 26 e).toInt := Int.mul_nonneg h1 hd.1
  have h5 : (κ.2 35 t).toInt * (κ.1 26 e).toInt ≤ 1000000000 * 500 := Int.mul_le_mul h2 hd.2 hd.1 (by omega)
  refine ⟨?_, h0, by omega⟩
  rw [q_mul, Int32.toInt_toInt64]
  · rw [Int32.toInt_toInt64]; omega
  · rw [Int32.toInt_toInt64]; omega
theorem r_gr {κ : k_M} {e t : Nat} (h1 : 0 ≤ (κ.2 35 t).toInt) (h2 : (κ.2 35 t).toInt ≤ 1000000000) (hd : i_rh (κ.1 26 e) 0 500) (hv : i_rg (κ.2 8 t) 0 1000000000000000) : s_fl (κ.2 35 t * (κ.1 26 e).toInt64) 1000 = k_dv κ e t ∧ 0 ≤ (κ.2 8 t + k_dv κ e t * k_dv κ e t).toInt := by
  obtain ⟨q1, q2, q3⟩ := r_dv (b := 0) h1 h2 hd
  have e1 : s_fl (κ.2 35 t * (κ.1 26 e).toInt64) 1000 = k_dv κ e t := s_fl_pos (by rw [q1]; exact q2) (by decide)
  refine ⟨e1, ?_⟩
  have d1 : (k_dv κ e t).toInt = (κ.2 35 t).toInt * (κ.1 26 e).toInt / 1000 := by
    rw [← e1, s_fl_toInt (by decide), q1]; rfl
  have d2 : 0 ≤ (k_dv κ e t).toInt ∧ (k_dv κ e t).toInt ≤ 500000000 := by rw [d1]; omega
  have s0 : 0 ≤ (k_dv κ e t).toInt * (k_dv κ e t).toInt := Int.mul_nonneg d2.1 d2.1
  have s1 : (k_dv κ e t).toInt * (k_dv κ e t).toInt ≤ 500000000 * 500000000 := Int.mul_le_mul d2.2 d2.2 d2.1 (by omega)
  have s2 : (k_dv κ e t * k_dv κ e t).toInt = (k_dv κ e t).toInt * (k_dv κ e t).toInt := q_mul (by omega) (by omega)
  have := hv.1
  have := hv.2
  rw [q_add, s2]
  · omega
  · rw [s2]; omega
  · rw [s2]; omega
theorem k_lw_cg {κ κ' : k_M} (h : k_lw κ) (h0 : κ'.1 30 0 = κ.1 30 0) (h1 : κ'.1 30 1 = κ.1 30 1) : k_lw κ' := by
  unfold k_lw
  rw [h0, h1]
  exact h
section RB
variable {lg : Prop} {κ : k_M} {I : Nat → Nat → Int32} {J : Nat → Nat → Int64} {R : Nat → Int64} {n m : Nat} {B : Int64}
theorem n_fin_o {D : Int32} {k : Nat} (hn : n ≤ 4) (h : (k < 39 ∨ 138 < k) ∧ (20 ≤ k ∨ k % 5 ≠ 3)) : n_fin R D n k = R k := by
  unfold n_fin
  rw [r_un (by omega), r_un (by omega), n_ent_o (by omega), r_un (by omega)]
  exact n_cut_o hn h.2
theorem r_endS (A : r_A lg κ I J R n m B) {e : Nat} (he : e < m) (hb : k_isB κ) (hke : κ.1 0 7 = nI e) : r_S (k_end2 κ e n (kl κ) (kc κ)) I J n m := by
  have n4 := A.S.n4
  have m6 := A.S.m6
  obtain ⟨e', he', q1, q2, q3, q4⟩ := r_yb A.V hb
  have sh : ∀ t, t < 4 → 0 ≤ (κ.2 35 t).toInt ∧ (κ.2 35 t).toInt ≤ 1000000000 := fun t ht => by
    have a := A.V.m1 t ht; have b := q4 t ht; exact ⟨b.1, by have := a.1; omega⟩
  have gr : ∀ t, t < 4 → n_of1 R (I 90 e) t = k_dv κ e t ∧ 0 ≤ (κ.2 8 t + k_dv κ e t * k_dv κ e t).toInt := fun t ht => by
    have h := r_gr (κ := κ) (e := e) (sh t ht).1 (sh t ht).2 (A.V.dt e he) (A.V.va t ht)
    refine ⟨?_, h.2⟩
    unfold n_of1
    rw [A.S.dou e he, A.D.t4 t ht]; exact h.1
  have c1 : ∀ c j, 0 < c → (c < 30 ∨ 33 < c) → (k_end2 κ e n (kl κ) (kc κ)).1 c j = κ.1 c j := fun c j h0 h => by
    show m_ui (m_ui _ 0 7 (-1)) 0 8 0 c j = _
    rw [m_ui_o (by omega), m_ui_o (by omega)]
    exact k_app_o (κ := k_ev κ e n) h
  have v8 : ∀ t, t < 4 → (k_end2 κ e n (kl κ) (kc κ)).2 8 t = if t < n then k_gr κ e t else κ.2 8 t := fun t ht => rfl
  refine A.S.kk (fun c j h0 h => c1 c j h0 (by omega)) (fun j h1 h2 => ?_) (fun _ _ => rfl)
  show m_ui (m_ui (m_ui (m_ui (m_ui (m_ui (m_ui κ.1 30 1 _) 31 _ _) 32 _ _) 33 _ _) 30 0 _) 0 7 (-1)) 0 8 0 0 j = _
  rw [m_uin (by omega), m_uin (by omega)]
  rfl
theorem r_endD (A : r_A lg κ I J R n m B) {e : Nat} (he : e < m) (hb : k_isB κ) (hke : κ.1 0 7 = nI e) : r_D (k_end2 κ e n (kl κ) (kc κ)) (n_fin R (I 90 e) n) B := by
  have n4 := A.S.n4
  have m6 := A.S.m6
  obtain ⟨e', he', q1, q2, q3, q4⟩ := r_yb A.V hb
  have sh : ∀ t, t < 4 → 0 ≤ (κ.2 35 t).toInt ∧ (κ.2 35 t).toInt ≤ 1000000000 := fun t ht => by
    have a := A.V.m1 t ht; have b := q4 t ht; exact ⟨b.1, by have := a.1; omega⟩
  have gr : ∀ t, t < 4 → n_of1 R (I 90 e) t = k_dv κ e t ∧ 0 ≤ (κ.2 8 t + k_dv κ e t * k_dv κ e t).toInt := fun t ht => by
    have h := r_gr (κ := κ) (e := e) (sh t ht).1 (sh t ht).2 (A.V.dt e he) (A.V.va t ht)
    refine ⟨?_, h.2⟩
    unfold n_of1
    rw [A.S.dou e he, A.D.t4 t ht]; exact h.1
  have c1 : ∀ c j, 0 < c → (c < 30 ∨ 33 < c) → (k_end2 κ e n (kl κ) (kc κ)).1 c j = κ.1 c j := fun c j h0 h => by
    show m_ui (m_ui _ 0 7 (-1)) 0 8 0 c j = _
    rw [m_ui_o (by omega), m_ui_o (by omega)]
    exact k_app_o (κ := k_ev κ e n) h
  have v8 : ∀ t, t < 4 → (k_end2 κ e n (kl κ) (kc κ)).2 8 t = if t < n then k_gr κ e t else κ.2 8 t := fun t ht => rfl
  refine r_D.mk (t0 := fun t ht => (n_fin_o n4 (by omega)).trans (A.D.t0 t ht)) (t1 := fun t ht => (n_fin_o n4 (by omega)).trans (A.D.t1 t ht)) (t2 := fun t ht => (n_fin_o n4 (by omega)).trans (A.D.t2 t ht)) (t3 := fun t ht => ?_) (t4 := fun t ht => (n_fin_o n4 (by omega)).trans (A.D.t4 t ht)) (e0 := fun e he => (n_fin_o n4 (by omega)).trans (A.D.e0 e he)) (e1 := fun e he => (n_fin_o n4 (by omega)).trans (A.D.e1 e he)) (e2 := fun e he => (n_fin_o n4 (by omega)).trans (A.D.e2 e he)) (ti := (n_fin_o n4 (by omega)).trans A.D.ti) (bu := ?_) (la := ?_) (sv := rfl) (bk := (n_fin_o n4 (by omega)).trans A.D.bk)
  · rw [v8 t ht]
    unfold n_fin
    rw [r_un (by omega), r_un (by omega), n_ent_o (by omega), r_un (by omega), n_cut_v n4, A.D.t3 t ht, (gr t ht).1, n_cap_k]
    rfl
  · unfold n_fin
    rw [r_un (by omega), r_un (by omega), n_ent_o (by omega), r_us]
    rfl
  · unfold n_fin
    rw [r_un (by omega), r_us]
    unfold k_len
    rw [if_neg (fun q => absurd q.1 (show ¬ (0 : Int32) ≤ -1 by decide))]
    rfl
theorem r_endva (A : r_A lg κ I J R n m B) {e : Nat} (he : e < m) (hb : k_isB κ) : ∀ t, t < 4 → i_rg (k_gr κ e t) 0 1000000000000000 := by
  obtain ⟨e', he', q1, q2, q3, q4⟩ := r_yb A.V hb
  intro t ht
  have a := A.V.m1 t ht
  have b := q4 t ht
  have h := r_gr (κ := κ) (e := e) b.1 (by have := a.1; omega) (A.V.dt e he) (A.V.va t ht)
  unfold k_gr
  exact k_cap_b h.2
theorem r_endV (A : r_A lg κ I J R n m B) {e : Nat} (he : e < m) (hb : k_isB κ) (hke : κ.1 0 7 = nI e) : r_V (k_end2 κ e n (kl κ) (kc κ)) n m := by
  have n4 := A.S.n4
  have m6 := A.S.m6
  have c1 : ∀ c j, 0 < c → (c < 30 ∨ 33 < c) → (k_end2 κ e n (kl κ) (kc κ)).1 c j = κ.1 c j := fun c j h0 h => by
    show m_ui (m_ui _ 0 7 (-1)) 0 8 0 c j = _
    rw [m_ui_o (by omega), m_ui_o (by omega)]
    exact k_app_o (κ := k_ev κ e n) h
  have v8 : ∀ t, t < 4 → (k_end2 κ e n (kl κ) (kc κ)).2 8 t = if t < n then k_gr κ e t else κ.2 8 t := fun t ht => rfl
  have z2 : ∀ c t, c ≠ 8 → c ≠ 34 → (k_end2 κ e n (kl κ) (kc κ)).2 c t = κ.2 c t := fun c t h h' => by
    show m_uj (m_cj κ.2 8 _) 34 _ _ c t = _
    rw [m_uj_o h', m_cj_o h]
  have z3 : (k_end2 κ e n (kl κ) (kc κ)).1 0 3 = κ.1 0 3 := rfl
  have z6 : (k_end2 κ e n (kl κ) (kc κ)).1 0 6 = κ.1 0 6 := rfl
  have z7 : (k_end2 κ e n (kl κ) (kc κ)).1 0 7 = -1 := rfl
  have z8 : (k_end2 κ e n (kl κ) (kc κ)).1 0 8 = 0 := rfl
  have va := r_endva A he hb
  have v9 : ∀ t, t < 4 → i_rg ((k_end2 κ e n (kl κ) (kc κ)).2 8 t) 0 1000000000000000 := fun t ht => by
    rw [v8 t ht]
    split
    · exact va t ht
    · exact A.V.va t ht
  have lw : k_lw (k_end2 κ e n (kl κ) (kc κ)) := by
    refine k_lw_cg (k_app_lw (κ := k_ev κ e n) (l := kl κ) (c := kc κ) (w := κ.1 0 3) (kd := 1) (t := -1) (a := k_bsum κ n)) ?_ ?_
    · unfold k_end2
      dsimp only
      rw [m_ui_o (by omega), m_ui_o (by omega)]
    · unfold k_end2
      dsimp only
      rw [m_ui_o (by omega), m_ui_o (by omega)]
  exact A.V.kk n4 m6 (fun c j h0 h => c1 c j h0 (by omega)) z6 (fun t _ => z2 9 t (by omega) (by omega)) (fun t ht => by rw [z2 5 t (by omega) (by omega)]; exact A.V.m0 t ht) (fun t ht => by rw [z2 6 t (by omega) (by omega)]; exact A.V.m1 t ht) v9 (by rw [z3]; exact A.V.ti) (Or.inl z8) (Or.inl ⟨z7, z8⟩) (fun e he => by rw [c1 27 e (by omega) (by omega)]; exact A.V.op e he) lw
theorem r_endL (A : r_A lg κ I J R n m B) {e : Nat} (he : e < m) (hb : k_isB κ) (hke : κ.1 0 7 = nI e) : lg → r_L (k_end2 κ e n (kl κ) (kc κ)) (n_fin R (I 90 e) n) := by
  have n4 := A.S.n4
  have m6 := A.S.m6
  obtain ⟨e', he', q1, q2, q3, q4⟩ := r_yb A.V hb
  have sh : ∀ t, t < 4 → 0 ≤ (κ.2 35 t).toInt ∧ (κ.2 35 t).toInt ≤ 1000000000 := fun t ht => by
    have a := A.V.m1 t ht; have b := q4 t ht; exact ⟨b.1, by have := a.1; omega⟩
  have gr : ∀ t, t < 4 → n_of1 R (I 90 e) t = k_dv κ e t ∧ 0 ≤ (κ.2 8 t + k_dv κ e t * k_dv κ e t).toInt := fun t ht => by
    have h := r_gr (κ := κ) (e := e) (sh t ht).1 (sh t ht).2 (A.V.dt e he) (A.V.va t ht)
    refine ⟨?_, h.2⟩
    unfold n_of1
    rw [A.S.dou e he, A.D.t4 t ht]; exact h.1
  have c1 : ∀ c j, 0 < c → (c < 30 ∨ 33 < c) → (k_end2 κ e n (kl κ) (kc κ)).1 c j = κ.1 c j := fun c j h0 h => by
    show m_ui (m_ui _ 0 7 (-1)) 0 8 0 c j = _
    rw [m_ui_o (by omega), m_ui_o (by omega)]
    exact k_app_o (κ := k_ev κ e n) h
  have v8 : ∀ t, t < 4 → (k_end2 κ e n (kl κ) (kc κ)).2 8 t = if t < n then k_gr κ e t else κ.2 8 t := fun t ht => rfl
  intro l
  have h1 : r_L κ (r_u (n_cut R (I 90 e) n) 39 (-1)) := (A.L l).cg (fun _ _ _ _ => rfl) (fun _ => rfl) (fun k h1 h2 => by rw [r_un (by omega)]; exact n_cut_o n4 (by omega)) A.V.lws.2.2.2
  have h2 := h1.app (κ0 := k_ev κ e n) (w := κ.1 0 3) (kd := 1) (t := -1) (a := n_cs R n) A.V.lw (by rw [r_un (by omega), n_cut_o n4 (by omega)]; exact A.D.ti) (fun _ _ _ _ => rfl) (fun _ => rfl)
  have hc : kc (k_app (k_ev κ e n) (kl κ) (kc κ) (κ.1 0 3) 1 (-1) (n_cs R n)) ≤ 24 := (k_lw_c k_app_lw).2
  rw [n_cs_k A.D.t4 n4] at h2 hc
  have h3 := h2.cg (κ' := k_end2 κ e n (kl κ) (kc κ)) (R' := n_fin R (I 90 e) n) (fun c j h h' => by
    show m_ui (m_ui _ 0 7 (-1)) 0 8 0 c j = _
    rw [m_ui_o (by omega), m_ui_o (by omega)]) (fun _ => rfl) (fun k h1 h2 => by unfold n_fin; rw [r_un (by omega), r_un (by omega), n_cs_k A.D.t4 n4]) hc
  exact h3
theorem r_end (A : r_A lg κ I J R n m B) {e : Nat} (he : e < m) (hb : k_isB κ) (hke : κ.1 0 7 = nI e) : r_A lg (k_end2 κ e n (kl κ) (kc κ)) I J (n_fin R (I 90 e) n) n m B := ⟨r_endS A he hb hke, r_endD A he hb hke, r_endV A he hb hke, r_endL A he hb hke⟩
theorem a_cutoff (G : Nat → Int64) (A : r_A lg κ I J R n m B) : m_W 123 0 (lv_args 0 [.ref 77]) [] (I, n_J J R G) (r_Q lg I J n m B (k_endx κ)) := by
  have m6 := A.S.m6
  have hkn : kn κ = n := by show (κ.1 1 0).toNatClampNeg = n; rw [A.S.cn]; exact nI_clamp (by have := A.S.n4; omega)
  unfold k_endx k_end
  by_cases hb : k_isB κ
  · rw [if_pos hb, hkn]
    obtain ⟨e, he, q1, -⟩ := r_yb A.V hb
    have hke : ke κ = e := by show (κ.1 0 7).toNatClampNeg = e; rw [q1]; exact nI_clamp (by omega)
    rw [hke]
    refine m_wk (n_cutoff_b I J R G n A.S.mn A.S.n4 e (by omega) (by rw [A.D.bu, q1])) ?_
    rintro _ _ ⟨rfl, rfl⟩
    exact ⟨by rw [A.D.la, Int32.toInt32_toInt64], _, G, rfl, r_end A he hb q1⟩
  · rw [if_neg hb]
    refine m_wk (n_cutoff_n I J R G (fun q => hb ((r_isB A.S.cm m6 A.V).mpr (by rw [A.D.bu] at q; exact n_le64 (x := 0).mp q)))) ?_
    rintro _ _ ⟨rfl, rfl⟩
    exact ⟨rfl, R, G, rfl, A⟩
end RB
