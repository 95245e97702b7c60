/-! A STEP under the relation: leaking, delivering, all of it -/
theorem k_mx_i (y : Int64) : (k_mx y).toInt = if 0 < y.toInt then y.toInt else 0 := by
  unfold k_mx
  by_cases h : 0 < y
  · rw [if_pos h, if_pos (by rw [Int64.lt_iff_toInt_lt] at h; exact h)]
  · rw [if_neg h, if_neg (by rw [Int64.lt_iff_toInt_lt] at h; exact h)]
    rfl
theorem k_lk1_i {κ : k_M} {n m i t : Nat} (V : r_V κ n m) (ht : t < 4) (hi : i ≤ 2000) : (k_lk1 κ (nI i) t).toInt = if 0 < (κ.2 5 t).toInt - (κ.1 4 t).toInt * i then (κ.2 5 t).toInt - (κ.1 4 t).toInt * i else 0 := by
  have a := V.m0 t ht
  have b := V.lk t ht
  have c0 : 0 ≤ (κ.1 4 t).toInt * (i : Int) := Int.mul_nonneg b.1 (by omega)
  have c1 : (κ.1 4 t).toInt * (i : Int) ≤ 1000 * 2000 := Int.mul_le_mul b.2 (by omega) (by omega) (by omega)
  have hi2 : (nI i).toInt64.toInt = (i : Int) := by rw [Int32.toInt_toInt64]; exact nI_toInt (by omega)
  have e1 : ((κ.1 4 t).toInt64 * (nI i).toInt64).toInt = (κ.1 4 t).toInt * i := by
    rw [q_mul, hi2, Int32.toInt_toInt64]
    · rw [hi2, Int32.toInt_toInt64]; omega
    · rw [hi2, Int32.toInt_toInt64]; omega
  have e2 : (κ.2 5 t - (κ.1 4 t).toInt64 * (nI i).toInt64).toInt = (κ.2 5 t).toInt - (κ.1 4 t).toInt * i := by
    have := a.1
    have := a.2
    rw [q_sub, e1]
    · rw [e1]; omega
    · rw [e1]; omega
  have := k_mx_i (κ.2 5 t - (κ.1 4 t).toInt64 * (nI i).toInt64)
  rw [e2] at this
  exact this
theorem k_lk1_b {κ : k_M} {n m i t : Nat} (V : r_V κ n m) (ht : t < 4) (hi : i ≤ 2000) : i_rg (k_lk1 κ (nI i) t) 0 1000000000 := by
  have a := V.m0 t ht
  have b := V.lk t ht
  have c0 : 0 ≤ (κ.1 4 t).toInt * (i : Int) := Int.mul_nonneg b.1 (by omega)
  rw [i_rg, k_lk1_i V ht hi]
  have := a.1
  have := a.2
  split <;> omega
theorem k_lk1_1 {κ : k_M} {t : Nat} : k_lk1 κ 1 t = k_mx (κ.2 5 t - (κ.1 4 t).toInt64) := by
  have : (κ.1 4 t).toInt64 * (1 : Int32).toInt64 = (κ.1 4 t).toInt64 := Int64.mul_one _
  unfold k_lk1 k_mx
  rw [this]
theorem k_len_cg {κ κ' : k_M} (h3 : κ'.1 0 3 = κ.1 0 3) (h7 : κ'.1 0 7 = κ.1 0 7) (h9 : κ'.1 0 9 = κ.1 0 9) (hm : κ'.1 23 0 = κ.1 23 0) : k_len κ' = k_len κ := by
  have e : k_isB κ' ↔ k_isB κ := by
    show (0 ≤ κ'.1 0 7 ∧ κ'.1 0 7 < κ'.1 23 0) ↔ _
    rw [h7, hm]
  unfold k_len
  rw [h3, h9]
  by_cases q : k_isB κ
  · rw [if_pos q, if_pos (e.mpr q)]
  · rw [if_neg q, if_neg (fun x => q (e.mp x))]
theorem k_open_cg {κ κ' : k_M} {e : Nat} (h : κ'.1 27 e = κ.1 27 e) (h1 : κ'.1 1 0 = κ.1 1 0) : k_open κ' e = k_open κ e := by
  unfold k_open k_all
  rw [h, h1]
theorem r_leak {κ : k_M} {R : Nat → Int64} {B : Int64} {n : Nat} {L : Nat → Int32} (D : r_D κ R B) (hn : n ≤ 4) (hL : ∀ t, t < 4 → L t = κ.1 4 t) : r_D (k_leak κ n 1) (n_lk R L n) B := by
  refine r_D.mk (t0 := fun t ht => ?_) (t1 := fun t ht => by rw [n_lk_o hn (by omega)]; exact D.t1 t ht) (t2 := fun t ht => by rw [n_lk_o hn (by omega)]; exact D.t2 t ht) (t3 := fun t ht => by rw [n_lk_o hn (by omega)]; exact D.t3 t ht) (t4 := fun t ht => by rw [n_lk_o hn (by omega)]; exact D.t4 t ht) (e0 := fun j hj => by rw [n_lk_o hn (by omega)]; exact D.e0 j hj) (e1 := fun j hj => by rw [n_lk_o hn (by omega)]; exact D.e1 j hj) (e2 := fun j hj => by rw [n_lk_o hn (by omega)]; exact D.e2 j hj) (ti := by rw [n_lk_o hn (by omega)]; exact D.ti) (bu := by rw [n_lk_o hn (by omega)]; exact D.bu) (la := by rw [n_lk_o hn (by omega)]; exact D.la) (sv := by rw [n_lk_o hn (by omega)]; exact D.sv) (bk := by rw [n_lk_o hn (by omega)]; exact D.bk)
  rw [n_lk_v hn, D.t0 t ht, hL t ht, n_mx_k, ← k_lk1_1]
  rfl
theorem k_del_w {κ : k_M} {e n l c a t : Nat} (h : a ≠ 34) : (k_del κ e n l c).2 a t = m_uj (k_sub (k_div κ e n 5) n).2 29 e ((k_div κ e n 5).2 29 e + k_ssum κ e n 5) a t := by
  unfold k_del k_del2
  split
  · split
    · unfold k_app
      dsimp only
      rw [m_uj_o h]
    · rfl
  · rfl
theorem k_del_v {κ : k_M} {e n l c : Nat} (t : Nat) : (k_del κ e n l c).2 5 t = (if t < n then κ.2 5 t - k_shf κ e n 5 t else κ.2 5 t) ∧ (k_del κ e n l c).2 29 e = κ.2 29 e + k_ssum κ e n 5 ∧ (t ≠ e → (k_del κ e n l c).2 29 t = κ.2 29 t) := by
  refine ⟨?_, ?_, fun h => ?_⟩
  · rw [k_del_w (by omega)]
    show (if t < n then κ.2 5 t - d_w (κ.1 27 e) (κ.1 25 e) (κ.2 5) (κ.2 36) n n t else κ.2 5 t) = _
    by_cases h : t < n
    · rw [if_pos h, if_pos h, show d_w (κ.1 27 e) (κ.1 25 e) (κ.2 5) (κ.2 36) n n t = k_shf κ e n 5 t from if_pos h]
    · rw [if_neg h, if_neg h]
  · rw [k_del_w (by omega), m_ujk]
    rfl
  · rw [k_del_w (by omega), m_ujn h]
    rfl
theorem k_del_x {κ : k_M} {e n l c : Nat} (a t : Nat) (h : a ≠ 5 ∧ a ≠ 29 ∧ a ≠ 34 ∧ a ≠ 36) : (k_del κ e n l c).2 a t = κ.2 a t := by
  rw [k_del_w h.2.2.1, m_uj_o h.2.1]
  unfold k_sub k_div
  dsimp only
  rw [m_cj_o h.1, m_cj_o h.2.2.2]
theorem k_del_8 {κ : k_M} {e n l c : Nat} : (k_del κ e n l c).1 0 8 = if k_ssum κ e n 5 = 0 then (if κ.1 0 8 = 0 then 1 else κ.1 0 8) else κ.1 0 8 := by
  unfold k_del k_del2
  by_cases h : k_ssum κ e n 5 = 0
  · rw [if_pos h, if_pos h]
    by_cases h2 : κ.1 0 8 = 0
    · rw [if_pos h2, if_pos (show (k_div κ e n 5).1 0 8 = 0 from h2), k_app_o (by omega)]
      rfl
    · rw [if_neg h2, if_neg (show ¬ (k_div κ e n 5).1 0 8 = 0 from h2)]
      rfl
  · rw [if_neg h, if_neg h]
    rfl
theorem r_del {κ : k_M} {R1 R2 g : Nat → Int64} {B : Int64} {n e l c : Nat} (D : r_D κ R1 B) (hn : n ≤ 4) (he : e < 6) (h2 : ∀ k, k < 41 ∨ 138 < k → R2 k = R1 k) (h41 : R2 41 = ((k_del κ e n l c).1 0 8).toInt64) (gv : ∀ t, t < n → g t = k_shf κ e n 5 t) : r_D (k_del κ e n l c) (n_dl R2 g e n) B := by
  have oo : ∀ x j, x < 30 ∨ 33 < x → x ≠ 0 ∨ j ≠ 8 → (k_del κ e n l c).1 x j = κ.1 x j := fun x j a b => k_del_o a b
  have ball : k_ball (k_del κ e n l c) = k_ball κ := by
    unfold k_ball
    rw [k_del_x 28 0 (by omega), k_del_x 28 1 (by omega), k_del_x 28 2 (by omega), k_del_x 28 3 (by omega), k_del_x 28 4 (by omega), k_del_x 28 5 (by omega)]
  refine r_D.mk (t0 := fun t ht => ?_) (t1 := fun t ht => by rw [n_dl_o he hn (by omega) (by omega), h2 _ (by omega), k_del_x 6 t (by omega)]; exact D.t1 t ht) (t2 := fun t ht => by rw [n_dl_o he hn (by omega) (by omega), h2 _ (by omega), k_del_x 7 t (by omega)]; exact D.t2 t ht) (t3 := fun t ht => by rw [n_dl_o he hn (by omega) (by omega), h2 _ (by omega), k_del_x 8 t (by omega)]; exact D.t3 t ht) (t4 := fun t ht => by rw [n_dl_o he hn (by omega) (by omega), h2 _ (by omega), k_del_x 35 t (by omega)]; exact D.t4 t ht) (e0 := fun j hj => by rw [n_dl_o he hn (by omega) (by omega), h2 _ (by omega), k_open_cg (oo 27 j (by omega) (by omega)) (oo 1 0 (by omega) (by omega))]; exact D.e0 j hj) (e1 := fun j hj => by rw [n_dl_o he hn (by omega) (by omega), h2 _ (by omega), k_del_x 28 j (by omega)]; exact D.e1 j hj) (e2 := fun j hj => ?_) (ti := by rw [n_dl_o he hn (by omega) (by omega), h2 _ (by omega), oo 0 3 (by omega) (by omega)]; exact D.ti) (bu := by rw [n_dl_o he hn (by omega) (by omega), h2 _ (by omega), oo 0 7 (by omega) (by omega)]; exact D.bu) (la := by rw [n_dl_o he hn (by omega) (by omega), h2 _ (by omega), k_len_cg (oo 0 3 (by omega) (by omega)) (oo 0 7 (by omega) (by omega)) (oo 0 9 (by omega) (by omega)) (oo 23 0 (by omega) (by omega))]; exact D.la) (sv := by rw [n_dl_o he hn (by omega) (by omega)]; exact h41) (bk := by rw [n_dl_o he hn (by omega) (by omega), h2 _ (by omega), ball]; exact D.bk)
  · rw [n_dl_v he ht hn, h2 _ (by omega), D.t0 t ht, (k_del_v t).1]
    by_cases h : t < n
    · rw [if_pos h, if_pos h, gv t h]
    · rw [if_neg h, if_neg h]
  · by_cases h : j = e
    · subst h
      rw [n_dl_d he hn gv, h2 _ (by omega), D.e2 j hj, (k_del_v 0).2.1]
      rfl
    · rw [n_dl_o he hn (by omega) (by omega), h2 _ (by omega), (k_del_v j).2.2 h]; exact D.e2 j hj
theorem n_R2_1 {op F : Int32} {R : Nat → Int64} {L : Nat → Int32} {n k : Nat} (h : k < 41 ∨ 138 < k) : n_R2 op F R L n k = n_lk R L n k := by
  unfold n_R2
  split
  · rfl
  · split
    · rw [n_ent_o (by omega), r_un (by omega)]
    · rfl
section RC
variable {lg : Prop} {κ : k_M} {I : Nat → Nat → Int32} {J : Nat → Nat → Int64} {R : Nat → Int64} {n m : Nat} {B : Int64}
theorem r_lkb (A : r_A lg κ I J R n m B) : ∀ t, t < n → i_rg ((k_leak κ n 1).2 5 t) 0 1000000000 := fun t ht => by
  have n4 := A.S.n4
  have h := k_lk1_b (i := 1) A.V (show t < 4 by omega) (by omega)
  have e : (k_leak κ n 1).2 5 t = k_lk1 κ 1 t := if_pos ht
  rw [e]; exact h
theorem r_cnt (A : r_A lg κ I J R n m B) {e : Nat} (he : e < m) : (k_ssum (k_leak κ n 1) e n 5 = 0 ↔ ¬ 0 < d_cnt (κ.1 27 e) (n_m (n_lk R (I 83) n) 0) n) := by
  have n4 := A.S.n4
  have D1 := r_leak A.D n4 (L := I 83) A.S.lk
  rw [d_cnt_cg (g := (k_leak κ n 1).2 5) (fun t ht => D1.t0 t (by omega))]
  exact d_sum_0 (A.V.fl e he) n4 (r_lkb A)
theorem r_stepD (A : r_A lg κ I J R n m B) (G : Nat → Int64) {e : Nat} (he : e < m) (hb : κ.1 0 7 = nI e) (ht : (κ.1 0 3).toInt < 100000000) : r_D (k_stp κ e n) (n_R6 (κ.1 27 e) (I 89 e) R G (I 83) n e) B := by
  have n4 := A.S.n4
  have m6 := A.S.m6
  have D1 := r_leak A.D n4 (L := I 83) A.S.lk
  have F : I 89 e = κ.1 25 e := A.S.flo e he
  have hc := r_cnt A he
  have h8 := k_del_8 (κ := k_leak κ n 1) (e := e) (n := n) (l := kl κ) (c := kc κ)
  have D2 : r_D (k_del (k_leak κ n 1) e n (kl κ) (kc κ)) (n_R3 (κ.1 27 e) (I 89 e) R G (I 83) n e) B := by
    refine r_del D1 n4 (by omega) (fun k hk => n_R2_1 hk) ?_ (fun t ht => ?_)
    · rw [h8]
      unfold n_R2
      have e1 : n_lk R (I 83) n 41 = (κ.1 0 8).toInt64 := by rw [n_lk_o n4 (by omega)]; exact A.D.sv
      by_cases h : 0 < d_cnt (κ.1 27 e) (n_m (n_lk R (I 83) n) 0) n
      · rw [if_pos h, if_neg (fun q => hc.mp q h), e1]
        rfl
      · rw [if_neg h, if_pos (hc.mpr h)]
        by_cases h0 : κ.1 0 8 = 0
        · rw [if_pos (show R 41 = 0 by rw [A.D.sv, h0]; rfl), if_pos (show (k_leak κ n 1).1 0 8 = 0 from h0), n_ent_o (by omega), r_us]
          rfl
        · rw [if_neg (show ¬ R 41 = 0 by rw [A.D.sv]; exact fun q => h0 (n_eq64 (y := 0).mp q)), if_neg (show ¬ (k_leak κ n 1).1 0 8 = 0 from h0), e1]
          rfl
    · unfold n_G1
      rw [n_gv_v n4 ht, F]
      exact d_v_cg (fun u hu => D1.t0 u (by omega)) ht
  have e27 : (k_del (k_leak κ n 1) e n (kl κ) (kc κ)).1 27 e = κ.1 27 e := k_del_o (κ := k_leak κ n 1) (by omega) (by omega)
  have e25 : (k_del (k_leak κ n 1) e n (kl κ) (kc κ)).1 25 e = κ.1 25 e := k_del_o (κ := k_leak κ n 1) (by omega) (by omega)
  have D3 := r_book (G := n_G1 (κ.1 27 e) (I 89 e) R G (I 83) n) (F := I 89 e) D2 n4 (show e < 6 by omega) (by rw [e25]; exact F)
  rw [e27] at D3
  have D4 : r_D (k_book (k_del (k_leak κ n 1) e n (kl κ) (kc κ)) e n) (n_R4 (κ.1 27 e) (I 89 e) R G (I 83) n e) B := D3
  have k3 : (k_book (k_del (k_leak κ n 1) e n (kl κ) (kc κ)) e n).1 0 3 = κ.1 0 3 := k_del_o (κ := k_leak κ n 1) (by omega) (by omega)
  have k7 : (k_book (k_del (k_leak κ n 1) e n (kl κ) (kc κ)) e n).1 0 7 = κ.1 0 7 := k_del_o (κ := k_leak κ n 1) (by omega) (by omega)
  have k9 : (k_book (k_del (k_leak κ n 1) e n (kl κ) (kc κ)) e n).1 0 9 = κ.1 0 9 := k_del_o (κ := k_leak κ n 1) (by omega) (by omega)
  have km' : (k_book (k_del (k_leak κ n 1) e n (kl κ) (kc κ)) e n).1 23 0 = κ.1 23 0 := k_del_o (κ := k_leak κ n 1) (by omega) (by omega)
  have k9b : (k_stp κ e n).1 0 9 = κ.1 0 9 := k_stp_o (by omega) (by omega)
  have s7 : (k_stp κ e n).1 0 7 = κ.1 0 7 := k_stp_o (by omega) (by omega)
  have s23 : (k_stp κ e n).1 23 0 = κ.1 23 0 := k_stp_o (by omega) (by omega)
  have s3 : (k_stp κ e n).1 0 3 = κ.1 0 3 + 1 := by
    unfold k_stp
    dsimp only
    rw [m_uik, k3]
  have hB : k_isB κ := ⟨by rw [hb]; exact nI_pos' (by omega), by rw [hb, A.S.cm]; exact nI_lt he (by omega)⟩
  have hB' : k_isB (k_stp κ e n) := ⟨by rw [s7]; exact hB.1, by rw [s7, s23]; exact hB.2⟩
  obtain ⟨e', -, -, q2, q3, -⟩ := r_yb A.V hB
  have one : (1 : Int32).toInt = 1 := rfl
  have one' : (1 : Int64).toInt = 1 := rfl
  have t0 := A.V.ti.1
  have v3 : (κ.1 0 3 + 1).toInt = (κ.1 0 3).toInt + 1 := by rw [w_add, one] <;> rw [one] <;> omega
  generalize hX : n_R4 (κ.1 27 e) (I 89 e) R G (I 83) n e = X at D4
  have hR6 : n_R6 (κ.1 27 e) (I 89 e) R G (I 83) n e = r_u (r_u X 40 (X 40 + 1)) 38 (X 38 + 1) := by
    unfold n_R6; rw [hX]
  rw [hR6]
  refine r_D.mk (t0 := fun t ht => by rw [r_un (by omega), r_un (by omega)]; exact D4.t0 t ht) (t1 := fun t ht => by rw [r_un (by omega), r_un (by omega)]; exact D4.t1 t ht) (t2 := fun t ht => by rw [r_un (by omega), r_un (by omega)]; exact D4.t2 t ht) (t3 := fun t ht => by rw [r_un (by omega), r_un (by omega)]; exact D4.t3 t ht) (t4 := fun t ht => by rw [r_un (by omega), r_un (by omega)]; exact D4.t4 t ht) (e0 := fun j hj => by rw [r_un (by omega), r_un (by omega)]; exact D4.e0 j hj) (e1 := fun j hj => by rw [r_un (by omega), r_un (by omega)]; exact D4.e1 j hj) (e2 := fun j hj => by rw [r_un (by omega), r_un (by omega)]; exact D4.e2 j hj) (ti := ?_) (bu := by rw [r_un (by omega), r_un (by omega), s7, D4.bu, k7]) (la := ?_) (sv := by rw [r_un (by omega), r_un (by omega)]; exact D4.sv) (bk := by rw [r_un (by omega), r_un (by omega)]; exact D4.bk)
  · rw [r_us, D4.ti, k3, s3]
    apply Int64.toInt_inj.mp
    rw [q_add, Int32.toInt_toInt64, Int32.toInt_toInt64, v3, one']
    · rw [Int32.toInt_toInt64, one']; omega
    · rw [Int32.toInt_toInt64, one']; omega
  · rw [r_un (by omega), r_us, D4.la, k_len_cg k3 k7 k9 km']
    unfold k_len
    rw [if_pos hB, if_pos hB', s3, k9b]
    have w1 : (κ.1 0 3 - κ.1 0 9).toInt = (κ.1 0 3).toInt - (κ.1 0 9).toInt := w_sub (by omega) (by omega)
    have w2 : (κ.1 0 3 + 1 - κ.1 0 9).toInt = (κ.1 0 3).toInt + 1 - (κ.1 0 9).toInt := by rw [w_sub, v3] <;> rw [v3] <;> omega
    apply Int64.toInt_inj.mp
    rw [q_add, Int32.toInt_toInt64, Int32.toInt_toInt64, w1, w2, one']
    · omega
    · rw [Int32.toInt_toInt64, w1, one']; omega
    · rw [Int32.toInt_toInt64, w1, one']; omega
theorem k_stp_3 {e : Nat} : (k_stp κ e n).1 0 3 = κ.1 0 3 + 1 := by
  have k3 : (k_book (k_del (k_leak κ n 1) e n (kl κ) (kc κ)) e n).1 0 3 = κ.1 0 3 := k_del_o (κ := k_leak κ n 1) (by omega) (by omega)
  unfold k_stp
  dsimp only
  rw [m_uik, k3]
theorem r_stepV (A : r_A lg κ I J R n m B) {e : Nat} (he : e < m) (hb : κ.1 0 7 = nI e) (ht : (κ.1 0 3).toInt < 100000000) : r_V (k_stp κ e n) n m := by
  have n4 := A.S.n4
  have m6 := A.S.m6
  have hB : k_isB κ := ⟨by rw [hb]; exact nI_pos' (by omega), by rw [hb, A.S.cm]; exact nI_lt he (by omega)⟩
  obtain ⟨e', -, -, q2, q3, q4⟩ := r_yb A.V hB
  have h8 := k_del_8 (κ := k_leak κ n 1) (e := e) (n := n) (l := kl κ) (c := kc κ)
  have e25 : (k_del (k_leak κ n 1) e n (kl κ) (kc κ)).1 25 e = κ.1 25 e := k_del_o (κ := k_leak κ n 1) (by omega) (by omega)
  have x6 : ∀ t, (k_del (k_leak κ n 1) e n (kl κ) (kc κ)).2 6 t = κ.2 6 t := fun t => k_del_x 6 t (by omega)
  have x35 : ∀ t, (k_del (k_leak κ n 1) e n (kl κ) (kc κ)).2 35 t = κ.2 35 t := fun t => k_del_x 35 t (by omega)
  have x8 : ∀ t, (k_del (k_leak κ n 1) e n (kl κ) (kc κ)).2 8 t = κ.2 8 t := fun t => k_del_x 8 t (by omega)
  have x9 : ∀ t, (k_del (k_leak κ n 1) e n (kl κ) (kc κ)).2 9 t = κ.2 9 t := fun t => k_del_x 9 t (by omega)
  have x5 : ∀ t, (k_del (k_leak κ n 1) e n (kl κ) (kc κ)).2 5 t = _ := fun t => (k_del_v t).1
  have s8 : (k_stp κ e n).1 0 8 = (k_del (k_leak κ n 1) e n (kl κ) (kc κ)).1 0 8 := by
    unfold k_stp
    dsimp only
    rw [m_uin (by omega)]
    rfl
  have b1 : ∀ t, t < n → 0 ≤ (k_shf (k_leak κ n 1) e n 5 t).toInt ∧ (k_shf (k_leak κ n 1) e n 5 t).toInt ≤ ((k_leak κ n 1).2 5 t).toInt := fun t ht => by
    have h := d_v_b (op := κ.1 27 e) (A.V.fl e he) n4 ht (r_lkb A)
    exact ⟨h.1, h.2.1⟩
  have b2 : ∀ t, t < n → 0 ≤ (k_shf (k_del (k_leak κ n 1) e n (kl κ) (kc κ)) e n 6 t).toInt ∧ (k_shf (k_del (k_leak κ n 1) e n (kl κ) (kc κ)) e n 6 t).toInt ≤ (κ.2 6 t).toInt := fun t ht => by
    have h := d_v_b (op := (k_del (k_leak κ n 1) e n (kl κ) (kc κ)).1 27 e) (fl := (k_del (k_leak κ n 1) e n (kl κ) (kc κ)).1 25 e) (f := (k_del (k_leak κ n 1) e n (kl κ) (kc κ)).2 6) (by rw [e25]; exact A.V.fl e he) n4 ht (fun u hu => by rw [x6]; exact A.V.m1 u (by omega))
    rw [x6] at h
    exact ⟨h.1, h.2.1⟩
  generalize hX : k_del (k_leak κ n 1) e n (kl κ) (kc κ) = X at *
  have y : (k_stp κ e n).2 = (k_book X e n).2 := by unfold k_stp; rw [hX]
  have y9 : ∀ t, (k_book X e n).2 9 t = X.2 9 t := fun t => rfl
  have v3 : (κ.1 0 3 + 1).toInt = (κ.1 0 3).toInt + 1 := by
    have := A.V.ti.1
    rw [w_add, show (1 : Int32).toInt = 1 from rfl] <;> rw [show (1 : Int32).toInt = 1 from rfl] <;> omega
  have m1' : ∀ t, t < 4 → 0 ≤ ((k_book X e n).2 6 t).toInt ∧ ((k_book X e n).2 6 t).toInt ≤ 1000000000 ∧ 0 ≤ ((k_book X e n).2 35 t).toInt ∧ ((k_book X e n).2 6 t).toInt + ((k_book X e n).2 35 t).toInt ≤ 1000000000 := fun t ht => by
    have a := A.V.m1 t ht
    have a1 := a.1
    have a2 := a.2
    have b := q4 t ht
    rw [(k_book_v t).2.1, (k_book_v t).2.2.2.2.1, x6, x35]
    by_cases h : t < n
    · have c := b2 t h
      rw [if_pos h, if_pos h]
      have u1 : (κ.2 6 t - k_shf X e n 6 t).toInt = (κ.2 6 t).toInt - (k_shf X e n 6 t).toInt := q_sub (by omega) (by omega)
      have u2 : (κ.2 35 t + k_shf X e n 6 t).toInt = (κ.2 35 t).toInt + (k_shf X e n 6 t).toInt := q_add (by omega) (by omega)
      rw [u1, u2]
      omega
    · rw [if_neg h, if_neg h]
      omega
  refine A.V.kk n4 m6 (fun c j h0 h => k_stp_o (by omega) (by omega)) (k_stp_o (by omega) (by omega)) (fun t ht => by rw [y, y9, x9]) (fun t ht => ?_) (fun t ht => by rw [y]; exact ⟨(m1' t ht).1, (m1' t ht).2.1⟩) (fun t ht => by rw [y, (k_book_v t).2.2.2.1, x8]; exact A.V.va t ht) ?_ ?_ (Or.inr ⟨e, he, by rw [k_stp_o (by omega) (by omega)]; exact hb, ?_, ?_, fun t ht => by rw [y]; exact (m1' t ht).2.2⟩) (fun j hj => by rw [k_stp_o (by omega) (by omega)]; exact A.V.op j hj) (k_stp_lw A.V.lw)
  · rw [y, (k_book_v t).1, x5]
    by_cases h : t < n
    · have c := b1 t h
      have d := r_lkb A t h
      have d1 := d.1
      have d2 := d.2
      rw [if_pos h, i_rg, q_sub (by omega) (by omega)]
      omega
    · rw [if_neg h, show (k_leak κ n 1).2 5 t = κ.2 5 t from if_neg h]
      exact A.V.m0 t ht
  · rw [k_stp_3, i_rh, v3]
    have := A.V.ti.1
    omega
  · rw [s8, h8]
    split
    · split
      · exact Or.inr rfl
      · exact A.V.sv
    · exact A.V.sv
  · rw [k_stp_o (by omega) (by omega)]; exact q2
  · rw [k_stp_o (by omega) (by omega), k_stp_3, v3]; omega
theorem r_stepL (A : r_A lg κ I J R n m B) (G : Nat → Int64) {e : Nat} (he : e < m) (l : lg) : r_L (k_stp κ e n) (n_R6 (κ.1 27 e) (I 89 e) R G (I 83) n e) := by
  have n4 := A.S.n4
  have m6 := A.S.m6
  have hc := r_cnt A he
  have L1 : r_L (k_leak κ n 1) (n_lk R (I 83) n) := (A.L l).cg (fun _ _ _ _ => rfl) (fun _ => rfl) (fun k h1 h2 => n_lk_o n4 (by omega)) A.V.lws.2.2.2
  have LX : r_L (k_del (k_leak κ n 1) e n (kl κ) (kc κ)) (n_R2 (κ.1 27 e) (I 89 e) R (I 83) n) := by
    unfold n_R2 k_del k_del2
    by_cases h : 0 < d_cnt (κ.1 27 e) (n_m (n_lk R (I 83) n) 0) n
    · rw [if_pos h, if_neg (fun q => hc.mp q h)]
      exact L1.cg (fun _ _ _ _ => rfl) (fun j => by
        dsimp only
        rw [m_uj_o (by omega)]
        rfl) (fun _ _ _ => rfl) A.V.lws.2.2.2
    · rw [if_neg h, if_pos (hc.mpr h)]
      by_cases h0 : κ.1 0 8 = 0
      · rw [if_pos (show R 41 = 0 by rw [A.D.sv, h0]; rfl), if_pos (show (k_div (k_leak κ n 1) e n 5).1 0 8 = 0 from h0)]
        have L2 : r_L (k_leak κ n 1) (r_u (n_lk R (I 83) n) 41 1) := L1.cg (fun _ _ _ _ => rfl) (fun _ => rfl) (fun k h1 h2 => r_un (by omega)) A.V.lws.2.2.2
        exact L2.app A.V.lw (by rw [r_un (by omega), n_lk_o n4 (by omega)]; exact A.D.ti) (fun c j h1 h2 => by
          dsimp only
          rw [m_ui_o (by omega)]
          rfl) (fun j => by
          dsimp only
          rw [m_uj_o (by omega)]
          rfl)
      · rw [if_neg (show ¬ R 41 = 0 by rw [A.D.sv]; exact fun q => h0 (n_eq64 (y := 0).mp q)), if_neg (show ¬ (k_div (k_leak κ n 1) e n 5).1 0 8 = 0 from h0)]
        exact L1.cg (fun _ _ _ _ => rfl) (fun j => by
          dsimp only
          rw [m_uj_o (by omega)]
          rfl) (fun _ _ _ => rfl) A.V.lws.2.2.2
  refine LX.cg (fun c j h1 h2 => ?_) (fun j => rfl) (fun k h1 h2 => ?_) (k_lw_c (k_del_lw (κ := k_leak κ n 1) A.V.lw)).2
  · unfold k_stp
    dsimp only
    rw [m_ui_o (by omega)]
    rfl
  · unfold n_R6 n_R4 n_R3
    rw [r_un (by omega), r_un (by omega), n_bk_o (by omega) n4 (by omega) (by omega) (by omega), n_dl_o (by omega) n4 (by omega) (by omega)]
theorem r_step (A : r_A lg κ I J R n m B) (G : Nat → Int64) {e : Nat} (he : e < m) (hb : κ.1 0 7 = nI e) (ht : (κ.1 0 3).toInt < 100000000) : r_A lg (k_stp κ e n) I J (n_R6 (κ.1 27 e) (I 89 e) R G (I 83) n e) n m B := by
  have m6 := A.S.m6
  refine ⟨A.S.kk (fun c j h0 h => k_stp_o (by omega) (by omega)) (fun j h1 h2 => k_stp_o (by omega) (by omega)) (fun j hj => ?_), r_stepD A G he hb ht, r_stepV A he hb ht, r_stepL A G he⟩
  have h : (k_del (k_leak κ n 1) e n (kl κ) (kc κ)).2 9 j = κ.2 9 j := k_del_x 9 j (by omega)
  exact h
/-- the model's step does it -/
def r_Qn (lg : Prop) (κ : k_M) (I : Nat → Nat → Int32) (J : Nat → Nat → Int64) (n m : Nat) (B : Int64) : m_Q := fun v μ' => v = none ∧ ∃ R' G', μ' = (I, n_J J R' G') ∧ r_A lg κ I J R' n m B
theorem r_hop (A : r_A lg κ I J R n m B) {e : Nat} (he : e < 6) : ∀ t, t < n → (n_op R e t ↔ ((κ.1 27 e >>> (nI t &&& 31)) &&& (1 : Int32)) = 1) := fun t ht => by
  have n4 := A.S.n4
  obtain ⟨b, h1, h2, -⟩ := A.V.op e he
  have h : R (20 + 3 * e) = (nI b &&& b_all n).toInt64 := by
    rw [show R (20 + 3 * e) = _ from A.D.e0 e he, r_opn A.S.cn, h2]
  unfold n_op
  rw [h, h2]
  exact b_op n (by omega) b h1 t (by omega) ht
theorem a_step_b (A : r_A lg κ I J R n m B) (G : Nat → Int64) {e : Nat} (he : e < m) (hb : κ.1 0 7 = nI e) (ht : (κ.1 0 3).toInt < 100000000) : m_W 127 0 (lv_args 0 [.ref 77]) [] (I, n_J J R G) (r_Qn lg (k_stp κ e n) I J n m B) := by
  have m6 := A.S.m6
  refine m_wk (n_step_b I J R G e (by omega) n A.S.mn A.S.n4 (κ.1 27 e) (r_hop A (by omega)) (by rw [A.D.bu, hb])) ?_
  rintro _ _ ⟨rfl, rfl⟩
  exact ⟨rfl, _, _, rfl, r_step A G he hb ht⟩
/-- without a burn: leaks of some steps at once -/
def k_lks (κ : k_M) (n i : Nat) : k_M := (m_ui κ.1 0 3 (κ.1 0 3 + nI i), (k_leak κ n (nI i)).2)
theorem k_lks_0 (V : r_V κ n m) (hn : n ≤ 4) : k_lks κ n 0 = κ := by
  unfold k_lks k_leak
  refine Prod.ext ?_ ?_
  · funext c j
    show m_ui κ.1 0 3 (κ.1 0 3 + 0) c j = _
    rw [Int32.add_zero]
    unfold m_ui
    split
    · next h => split
                · next h2 => rw [h, h2]
                · rfl
    · rfl
  · refine m_cj0 (fun t => ?_)
    unfold k_lkf
    split
    · apply Int64.toInt_inj.mp
      rw [k_lk1_i V (by omega) (by omega)]
      have := (V.m0 t (by omega)).1
      rw [show (κ.1 4 t).toInt * ((0 : Nat) : Int) = 0 from Int.mul_zero _]
      split <;> omega
    · rfl
theorem k_lks_2 {i c t : Nat} (h : c ≠ 5) : (k_lks κ n i).2 c t = κ.2 c t := by
  unfold k_lks k_leak
  dsimp only
  rw [m_cj_o h]
theorem k_lks_1 {i c t : Nat} (h : c ≠ 0) : (k_lks κ n i).1 c t = κ.1 c t := by
  unfold k_lks
  dsimp only
  rw [m_ui_o h]
theorem k_lks_0x {i t : Nat} (h : t ≠ 3) : (k_lks κ n i).1 0 t = κ.1 0 t := by
  unfold k_lks
  dsimp only
  rw [m_uin h]
theorem k_lks_3 {i : Nat} : (k_lks κ n i).1 0 3 = κ.1 0 3 + nI i := rfl
theorem r_leaks {κ0 : k_M} (V0 : r_V κ0 n m) (h0 : κ0.1 0 7 = -1) {i : Nat} (hi : i < 2000) (ht : (κ0.1 0 3).toInt + i < 100000000) (A : r_A lg (k_lks κ0 n i) I J R n m B) : r_A lg (k_lks κ0 n (i + 1)) I J (r_u (n_lk R (I 83) n) 38 (R 38 + 1)) n m B := by
  have n4 := A.S.n4
  have m6 := A.S.m6
  have D1 := r_leak A.D n4 (L := I 83) A.S.lk
  have v5 : ∀ t, t < 4 → (k_leak (k_lks κ0 n i) n 1).2 5 t = (k_lks κ0 n (i + 1)).2 5 t := fun t ht => by
    show (if t < n then k_lk1 (k_lks κ0 n i) 1 t else (if t < n then k_lk1 κ0 (nI i) t else κ0.2 5 t)) = (if t < n then k_lk1 κ0 (nI (i + 1)) t else κ0.2 5 t)
    by_cases h : t < n
    · rw [if_pos h, if_pos h]
      apply Int64.toInt_inj.mp
      have a : (k_lks κ0 n i).2 5 t = k_lk1 κ0 (nI i) t := if_pos h
      have b : (k_lks κ0 n i).1 4 t = κ0.1 4 t := rfl
      have e1 := k_lk1_i (i := 1) A.V ht (by omega)
      have e2 := k_lk1_i (i := i) V0 ht (by omega)
      have e3 := k_lk1_i (i := i + 1) V0 ht (by omega)
      rw [a, b, e2] at e1
      have l0 := (V0.lk t ht).1
      rw [e3]
      refine Eq.trans e1 ?_
      have p0 : 0 ≤ (κ0.1 4 t).toInt * (i : Int) := Int.mul_nonneg l0 (by omega)
      have p1 : (κ0.1 4 t).toInt * ((i + 1 : Nat) : Int) = (κ0.1 4 t).toInt * (i : Int) + (κ0.1 4 t).toInt := by
        rw [show ((i + 1 : Nat) : Int) = (i : Int) + 1 by omega, Int.mul_add, Int.mul_one]
      have p2 : (κ0.1 4 t).toInt * ((1 : Nat) : Int) = (κ0.1 4 t).toInt := Int.mul_one _
      rw [p1, p2]
      split <;> split <;> (try split) <;> omega
    · rw [if_neg h, if_neg h, if_neg h]
  have b7 : (k_lks κ0 n (i + 1)).1 0 7 = -1 := by rw [k_lks_0x (by omega)]; exact h0
  have b7' : (k_lks κ0 n i).1 0 7 = -1 := by rw [k_lks_0x (by omega)]; exact h0
  have nb : ∀ κ : k_M, κ.1 0 7 = -1 → k_len κ = 0 := fun κ h => by
    unfold k_len
    rw [if_neg (fun q => by have := q.1; rw [h] at this; exact absurd this (by decide))]
  have v3 : (κ0.1 0 3 + nI i).toInt = (κ0.1 0 3).toInt + i := by
    have := V0.ti.1
    rw [w_add, nI_toInt (by omega)] <;> rw [nI_toInt (by omega)] <;> omega
  have v3' : (κ0.1 0 3 + nI (i + 1)).toInt = (κ0.1 0 3).toInt + (i + 1 : Nat) := by
    have := V0.ti.1
    rw [w_add, nI_toInt (by omega)] <;> rw [nI_toInt (by omega)] <;> omega
  have sc : k_sc (k_lks κ0 n i) (k_lks κ0 n (i + 1)) := fun c j h _ => by rw [k_lks_1 (by omega), k_lks_1 (by omega)]
  have z2 : ∀ c t, c ≠ 5 → (k_lks κ0 n (i + 1)).2 c t = (k_lks κ0 n i).2 c t := fun c t h => by rw [k_lks_2 h, k_lks_2 h]
  have z1 : ∀ c t, c ≠ 0 → (k_lks κ0 n (i + 1)).1 c t = (k_lks κ0 n i).1 c t := fun c t h => by rw [k_lks_1 h, k_lks_1 h]
  have z0 : ∀ t, t ≠ 3 → (k_lks κ0 n (i + 1)).1 0 t = (k_lks κ0 n i).1 0 t := fun t h => by rw [k_lks_0x h, k_lks_0x h]
  have l2 : ∀ c t, c ≠ 5 → (k_leak (k_lks κ0 n i) n 1).2 c t = (k_lks κ0 n i).2 c t := fun c t h => by
    unfold k_leak
    dsimp only
    rw [m_cj_o h]
  have ball : k_ball (k_lks κ0 n (i + 1)) = k_ball (k_lks κ0 n i) := by
    unfold k_ball
    rw [z2 28 0 (by omega), z2 28 1 (by omega), z2 28 2 (by omega), z2 28 3 (by omega), z2 28 4 (by omega), z2 28 5 (by omega)]
  refine ⟨A.S.kk sc (fun j h1 h2 => z0 j (by omega)) (fun j _ => z2 9 j (by omega)), ?_, ?_, fun l => ?_⟩
  · refine r_D.mk (t0 := fun t ht => by rw [r_un (by omega), ← v5 t ht]; exact D1.t0 t ht) (t1 := fun t ht => by rw [r_un (by omega), z2 6 t (by omega), n_lk_o n4 (by omega)]; exact A.D.t1 t ht) (t2 := fun t ht => by rw [r_un (by omega), z2 7 t (by omega), n_lk_o n4 (by omega)]; exact A.D.t2 t ht) (t3 := fun t ht => by rw [r_un (by omega), z2 8 t (by omega), n_lk_o n4 (by omega)]; exact A.D.t3 t ht) (t4 := fun t ht => by rw [r_un (by omega), z2 35 t (by omega), n_lk_o n4 (by omega)]; exact A.D.t4 t ht) (e0 := fun j hj => by rw [r_un (by omega), k_open_cg (z1 27 j (by omega)) (z1 1 0 (by omega)), n_lk_o n4 (by omega)]; exact A.D.e0 j hj) (e1 := fun j hj => by rw [r_un (by omega), z2 28 j (by omega), n_lk_o n4 (by omega)]; exact A.D.e1 j hj) (e2 := fun j hj => by rw [r_un (by omega), z2 29 j (by omega), n_lk_o n4 (by omega)]; exact A.D.e2 j hj) (ti := ?_) (bu := by rw [r_un (by omega), z0 7 (by omega), n_lk_o n4 (by omega)]; exact A.D.bu) (la := by rw [r_un (by omega), nb _ b7, n_lk_o n4 (by omega), A.D.la, nb _ b7']) (sv := by rw [r_un (by omega), z0 8 (by omega), n_lk_o n4 (by omega)]; exact A.D.sv) (bk := by rw [r_un (by omega), ball, n_lk_o n4 (by omega)]; exact A.D.bk)
    rw [r_us, A.D.ti, k_lks_3, k_lks_3]
    have := V0.ti.1
    apply Int64.toInt_inj.mp
    rw [q_add, Int32.toInt_toInt64, Int32.toInt_toInt64, v3, v3', show (1 : Int64).toInt = 1 from rfl]
    · omega
    · rw [Int32.toInt_toInt64, v3, show (1 : Int64).toInt = 1 from rfl]; omega
    · rw [Int32.toInt_toInt64, v3, show (1 : Int64).toInt = 1 from rfl]; omega
  · refine A.V.kk n4 m6 sc (z0 6 (by omega)) (fun j _ => z2 9 j (by omega)) (fun t ht => ?_) (fun t ht => by rw [z2 6 t (by omega)]; exact A.V.m1 t ht) (fun t ht => by rw [z2 8 t (by omega)]; exact A.V.va t ht) ?_ (by rw [z0 8 (by omega)]; exact A.V.sv) (Or.inl ⟨b7, ?_⟩) (fun j hj => by rw [z1 27 j (by omega)]; exact A.V.op j hj) (k_lw_cg A.V.lw (z1 30 0 (by omega)) (z1 30 1 (by omega)))
    · show i_rg (if t < n then k_lk1 κ0 (nI (i + 1)) t else κ0.2 5 t) 0 1000000000
      by_cases h : t < n
      · rw [if_pos h]; exact k_lk1_b V0 ht (by omega)
      · rw [if_neg h]; exact V0.m0 t ht
    · rw [k_lks_3, i_rh, v3']
      have := V0.ti.1
      omega
    · rw [k_lks_0x (by omega)]
      rcases V0.bu with q | ⟨e, he, q, -⟩
      · exact q.2
      · rw [h0] at q
        exact absurd q (by rcases (show e = 0 ∨ e = 1 ∨ e = 2 ∨ e = 3 ∨ e = 4 ∨ e = 5 by omega) with rfl | rfl | rfl | rfl | rfl | rfl <;> decide)
  · exact (A.L l).cg (fun c j h _ => z1 c j (by omega)) (fun j => z2 34 j (by omega)) (fun k h1 h2 => by rw [r_un (by omega)]; exact n_lk_o n4 (by omega)) A.V.lws.2.2.2
theorem a_step_n {κ0 : k_M} (V0 : r_V κ0 n m) (h0 : κ0.1 0 7 = -1) {i : Nat} (hi : i < 2000) (ht : (κ0.1 0 3).toInt + i < 100000000) (A : r_A lg (k_lks κ0 n i) I J R n m B) (G : Nat → Int64) : m_W 127 0 (lv_args 0 [.ref 77]) [] (I, n_J J R G) (r_Qn lg (k_lks κ0 n (i + 1)) I J n m B) := by
  refine m_wk (n_step_n I J R G n A.S.mn A.S.n4 ?_) ?_
  · rw [A.D.bu, show (k_lks κ0 n i).1 0 7 = -1 from by rw [k_lks_0x (by omega)]; exact h0]; decide
  · rintro _ _ ⟨rfl, rfl⟩
    exact ⟨rfl, _, _, rfl, r_leaks V0 h0 hi ht A⟩
end RC
