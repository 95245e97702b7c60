/-! READINGS under the relation -/
theorem s_bt_b {lv vo : Nat → Int32} {a b : Nat} {x : Int32} (hla : i_rh (lv a) 0 10000) (hlb : i_rh (lv b) 0 10000) (hva : i_rh (vo a) 0 1000000000) (hvb : i_rh (vo b) 0 1000000000) (hv : vo a ≤ vo b) (h1 : lv a < x) (h2 : x ≤ lv b) : i_rg (s_bt lv vo a b x) 0 1000000000 := by
  have l1 := hla.1
  have l2 := hla.2
  have l3 := hlb.1
  have l4 := hlb.2
  have v1 := hva.1
  have v2 := hva.2
  have v3 := hvb.1
  have v4 := hvb.2
  rw [Int32.lt_iff_toInt_lt] at h1
  rw [Int32.le_iff_toInt_le] at h2 hv
  have hl : (lv b - lv a).toInt64.toInt = (lv b).toInt - (lv a).toInt := i_sub64 (c := 0) ⟨by omega, by omega⟩ ⟨by omega, by omega⟩
  have hx : (x - lv a).toInt64.toInt = x.toInt - (lv a).toInt := i_sub64 (c := 0) ⟨by omega, by omega⟩ ⟨by omega, by omega⟩
  have hv' : (vo b - vo a).toInt64.toInt = (vo b).toInt - (vo a).toInt := i_sub64 (c := 0) hvb hva
  have hp : 0 < (lv b - lv a).toInt64.toInt := by rw [hl]; omega
  have m0 : 0 ≤ (vo b - vo a).toInt64.toInt * (x - lv a).toInt64.toInt := Int.mul_nonneg (by omega) (by omega)
  have m1 : (vo b - vo a).toInt64.toInt * (x - lv a).toInt64.toInt ≤ (vo b - vo a).toInt64.toInt * (lv b - lv a).toInt64.toInt := Int.mul_le_mul_of_nonneg_left (by omega) (by omega)
  have m2 : (vo b - vo a).toInt64.toInt * (x - lv a).toInt64.toInt ≤ 1000000000 * 10000 := Int.mul_le_mul (by omega) (by omega) (by omega) (by omega)
  have hm : ((vo b - vo a).toInt64 * (x - lv a).toInt64).toInt = (vo b - vo a).toInt64.toInt * (x - lv a).toInt64.toInt := q_mul (by omega) (by omega)
  have hf : (s_fl ((vo b - vo a).toInt64 * (x - lv a).toInt64) (lv b - lv a).toInt64).toInt = (vo b - vo a).toInt64.toInt * (x - lv a).toInt64.toInt / (lv b - lv a).toInt64.toInt := by rw [s_fl_toInt hp, hm]
  have f0 : 0 ≤ (vo b - vo a).toInt64.toInt * (x - lv a).toInt64.toInt / (lv b - lv a).toInt64.toInt := Int.ediv_nonneg m0 (by omega)
  have f1 : (vo b - vo a).toInt64.toInt * (x - lv a).toInt64.toInt / (lv b - lv a).toInt64.toInt ≤ (vo b - vo a).toInt64.toInt := Int.ediv_le_of_le_mul hp m1
  unfold s_bt
  rw [if_pos (by rw [Int64.lt_iff_toInt_lt]; exact hp), i_rg, q_add, hf, Int32.toInt_toInt64]
  · omega
  · rw [hf, Int32.toInt_toInt64]; omega
  · rw [hf, Int32.toInt_toInt64]; omega
theorem s_vl_b {lv vo : Nat → Int32} {p : Nat} {x : Int32} (hr : ∀ i, i < p → i_rh (lv i) 0 10000 ∧ i_rh (vo i) 0 1000000000) (hv : ∀ i, i + 1 < p → vo i ≤ vo (i + 1)) : ∀ r i, i + r = p → 1 ≤ i → lv (i - 1) < x → i_rg (s_vl lv vo p x i r) 0 1000000000
  | 0, i, h, h1, _ => by
    rw [s_vl, i_rg, Int32.toInt_toInt64]
    exact (hr (p - 1) (by omega)).2
  | r + 1, i, h, h1, hx => by
    rw [s_vl]
    by_cases hl : lv i < x
    · rw [if_pos hl]; exact s_vl_b hr hv r (i + 1) (by omega) (by omega) hl
    · rw [if_neg hl]
      have h3 := hv (i - 1) (by omega)
      rw [show i - 1 + 1 = i by omega] at h3
      exact s_bt_b (hr _ (by omega)).1 (hr _ (by omega)).1 (hr _ (by omega)).2 (hr _ (by omega)).2 h3 hx (Int32.not_lt.mp hl)
theorem s_vol_b {lv vo : Nat → Int32} {p : Nat} {x : Int32} (hp : 1 ≤ p) (hr : ∀ i, i < p → i_rh (lv i) 0 10000 ∧ i_rh (vo i) 0 1000000000) (hv : ∀ i, i + 1 < p → vo i ≤ vo (i + 1)) : i_rg (s_vol lv vo p x) 0 1000000000 := by
  unfold s_vol
  rw [if_neg (by omega)]
  by_cases h : lv 0 < x
  · rw [if_pos h]; exact s_vl_b hr hv (p - 1) 1 (by omega) (by omega) h
  · rw [if_neg h, i_rg, Int32.toInt_toInt64]; exact (hr 0 (by omega)).2
theorem i_back {x : Int64} (h : i_rg x (-2147483648) 2147483647) : x.toInt32.toInt64 = x := by
  apply Int64.toInt_inj.mp
  rw [Int32.toInt_toInt64, Int64.toInt_toInt32]
  have := h.1
  have := h.2
  exact w_bm (by omega) (by omega)
section RR
variable {lg : Prop} {κ : k_M} {I : Nat → Nat → Int32} {J : Nat → Nat → Int64} {R : Nat → Int64} {n m : Nat} {B : Int64}
theorem r_app (A : r_A lg κ I J R n m B) (kd t : Int32) (a : Int64) : r_A lg (k_app κ (kl κ) (kc κ) (κ.1 0 3) kd t a) I J (n_ent R kd t a) n m B := by
  have n4 := A.S.n4
  have m6 := A.S.m6
  have o1 : ∀ x j, x < 30 ∨ 33 < x → (k_app κ (kl κ) (kc κ) (κ.1 0 3) kd t a).1 x j = κ.1 x j := fun x j h => k_app_o h
  have o2 : ∀ x j, x ≠ 34 → (k_app κ (kl κ) (kc κ) (κ.1 0 3) kd t a).2 x j = κ.2 x j := fun x j h => by
    unfold k_app
    dsimp only
    rw [m_uj_o h]
  have lw : k_lw (k_app κ (kl κ) (kc κ) (κ.1 0 3) kd t a) := k_app_lw
  have L := fun l : lg => (A.L l).app (κ0 := κ) (w := κ.1 0 3) (kd := kd) (t := t) (a := a) A.V.lw A.D.ti (fun _ _ _ _ => rfl) (fun _ => rfl)
  generalize k_app κ (kl κ) (kc κ) (κ.1 0 3) kd t a = X at *
  have ball : k_ball X = k_ball κ := by
    unfold k_ball
    rw [o2 28 0 (by omega), o2 28 1 (by omega), o2 28 2 (by omega), o2 28 3 (by omega), o2 28 4 (by omega), o2 28 5 (by omega)]
  refine ⟨A.S.kk (fun c j h0 h => o1 c j (by omega)) (fun j _ _ => o1 0 j (by omega)) (fun j _ => o2 9 j (by omega)), ?_, ?_, L⟩
  · refine r_D.mk (t0 := fun t ht => by rw [n_ent_o (by omega), o2 5 t (by omega)]; exact A.D.t0 t ht) (t1 := fun t ht => by rw [n_ent_o (by omega), o2 6 t (by omega)]; exact A.D.t1 t ht) (t2 := fun t ht => by rw [n_ent_o (by omega), o2 7 t (by omega)]; exact A.D.t2 t ht) (t3 := fun t ht => by rw [n_ent_o (by omega), o2 8 t (by omega)]; exact A.D.t3 t ht) (t4 := fun t ht => by rw [n_ent_o (by omega), o2 35 t (by omega)]; exact A.D.t4 t ht) (e0 := fun j hj => by rw [n_ent_o (by omega), k_open_cg (o1 27 j (by omega)) (o1 1 0 (by omega))]; exact A.D.e0 j hj) (e1 := fun j hj => by rw [n_ent_o (by omega), o2 28 j (by omega)]; exact A.D.e1 j hj) (e2 := fun j hj => by rw [n_ent_o (by omega), o2 29 j (by omega)]; exact A.D.e2 j hj) (ti := by rw [n_ent_o (by omega), o1 0 3 (by omega)]; exact A.D.ti) (bu := by rw [n_ent_o (by omega), o1 0 7 (by omega)]; exact A.D.bu) (la := by rw [n_ent_o (by omega), k_len_cg (o1 0 3 (by omega)) (o1 0 7 (by omega)) (o1 0 9 (by omega)) (o1 23 0 (by omega))]; exact A.D.la) (sv := by rw [n_ent_o (by omega), o1 0 8 (by omega)]; exact A.D.sv) (bk := by rw [n_ent_o (by omega), ball]; exact A.D.bk)
  · refine A.V.kk n4 m6 (fun c j h0 h => o1 c j (by omega)) (o1 0 6 (by omega)) (fun j _ => o2 9 j (by omega)) (fun t ht => by rw [o2 5 t (by omega)]; exact A.V.m0 t ht) (fun t ht => by rw [o2 6 t (by omega)]; exact A.V.m1 t ht) (fun t ht => by rw [o2 8 t (by omega)]; exact A.V.va t ht) (by rw [o1 0 3 (by omega)]; exact A.V.ti) (by rw [o1 0 8 (by omega)]; exact A.V.sv) ?_ (fun j hj => by rw [o1 27 j (by omega)]; exact A.V.op j hj) lw
    rw [o1 0 7 (by omega), o1 0 8 (by omega), o1 0 9 (by omega), o1 0 3 (by omega)]
    rcases A.V.bu with q | ⟨e, h1, h2, h3, h4, h5⟩
    · exact Or.inl q
    · exact Or.inr ⟨e, h1, h2, h3, h4, fun t ht => by rw [o2 35 t (by omega), o2 6 t (by omega)]; exact h5 t ht⟩
/-- an estimate and its variance are set -/
theorem r_est (A : r_A lg κ I J R n m B) {t : Nat} (ht : t < 4) (x v : Int64) (hv : i_rg v 0 1000000000000000) : r_A lg (κ.1, m_uj (m_uj κ.2 7 t x) 8 t v) I J (r_u (r_u R (5 * t + 2) x) (5 * t + 3) v) n m B := by
  have n4 := A.S.n4
  have m6 := A.S.m6
  have o2 : ∀ c j, c ≠ 7 → c ≠ 8 → (κ.1, m_uj (m_uj κ.2 7 t x) 8 t v).2 c j = κ.2 c j := fun c j h1 h2 => by
    dsimp only
    rw [m_uj_o h2, m_uj_o h1]
  refine ⟨A.S.kk (fun _ _ _ _ => rfl) (fun _ _ _ => rfl) (fun _ _ => rfl), ?_, ?_, fun l => ?_⟩
  · refine r_D.mk (t0 := fun u hu => by rw [r_un (by omega), r_un (by omega)]; exact A.D.t0 u hu) (t1 := fun u hu => by rw [r_un (by omega), r_un (by omega)]; exact A.D.t1 u hu) (t2 := fun u hu => ?_) (t3 := fun u hu => ?_) (t4 := fun u hu => by rw [r_un (by omega), r_un (by omega)]; exact A.D.t4 u hu) (e0 := fun j hj => by rw [r_un (by omega), r_un (by omega)]; exact A.D.e0 j hj) (e1 := fun j hj => by rw [r_un (by omega), r_un (by omega)]; exact A.D.e1 j hj) (e2 := fun j hj => by rw [r_un (by omega), r_un (by omega)]; exact A.D.e2 j hj) (ti := by rw [r_un (by omega), r_un (by omega)]; exact A.D.ti) (bu := by rw [r_un (by omega), r_un (by omega)]; exact A.D.bu) (la := by rw [r_un (by omega), r_un (by omega)]; exact A.D.la) (sv := by rw [r_un (by omega), r_un (by omega)]; exact A.D.sv) (bk := by rw [r_un (by omega), r_un (by omega)]; exact A.D.bk)
    · dsimp only
      rw [r_un (by omega), m_uj_o (by omega)]
      by_cases h : u = t
      · subst h; rw [r_us, m_ujk]
      · rw [r_un (by omega), m_ujn h]; exact A.D.t2 u hu
    · dsimp only
      by_cases h : u = t
      · subst h; rw [r_us, m_ujk]
      · rw [r_un (by omega), r_un (by omega), m_ujn h, m_uj_o (by omega)]; exact A.D.t3 u hu
  · refine A.V.kk n4 m6 (fun _ _ _ _ => rfl) rfl (fun j _ => o2 9 j (by omega) (by omega)) (fun u hu => by rw [o2 5 u (by omega) (by omega)]; exact A.V.m0 u hu) (fun u hu => by rw [o2 6 u (by omega) (by omega)]; exact A.V.m1 u hu) (fun u hu => ?_) A.V.ti A.V.sv ?_ A.V.op A.V.lw
    · dsimp only
      by_cases h : u = t
      · subst h; rw [m_ujk]; exact hv
      · rw [m_ujn h, m_uj_o (by omega)]; exact A.V.va u hu
    · rcases A.V.bu with q | ⟨e, h1, h2, h3, h4, h5⟩
      · exact Or.inl q
      · exact Or.inr ⟨e, h1, h2, h3, h4, fun u hu => by rw [o2 35 u (by omega) (by omega), o2 6 u (by omega) (by omega)]; exact h5 u hu⟩
  · exact (A.L l).cg (fun _ _ _ _ => rfl) (fun j => o2 34 j (by omega) (by omega)) (fun k h1 h2 => by rw [r_un (by omega), r_un (by omega)]) A.V.lws.2.2.2
theorem r_iv (A : r_A lg κ I J R n m B) {t : Nat} (ht : t < n) : k_iv κ t = κ.2 8 t + κ.2 9 t ∧ R (5 * t + 3) + J 82 t = κ.2 8 t + κ.2 9 t ∧ (κ.2 8 t + κ.2 9 t).toInt = (κ.2 8 t).toInt + (κ.2 9 t).toInt := by
  have n4 := A.S.n4
  have a := A.V.va t (by omega)
  have b := A.V.gv t (by omega)
  have a1 := a.1
  have a2 := a.2
  have b1 := b.1
  have b2 := b.2
  have e : (κ.2 8 t + κ.2 9 t).toInt = (κ.2 8 t).toInt + (κ.2 9 t).toInt := q_add (by omega) (by omega)
  refine ⟨?_, by rw [A.D.t3 t (by omega), A.S.gau t ht], e⟩
  unfold k_iv
  by_cases h : 1 < κ.2 8 t + κ.2 9 t
  · rw [if_pos h]
  · rw [if_neg h]
    rw [Int64.lt_iff_toInt_lt, e, show (1 : Int64).toInt = 1 from rfl] at h
    apply Int64.toInt_inj.mp
    rw [e, show (1 : Int64).toInt = 1 from rfl]
    omega
theorem r_wt (A : r_A lg κ I J R n m B) {t : Nat} (ht : t < n) : n_wt R (J 82) t = (k_wt κ t).toInt64 ∧ i_rg (n_wt R (J 82) t) 0 1000 ∧ (n_wt R (J 82) t).toInt32 = k_wt κ t := by
  have n4 := A.S.n4
  have a := A.V.va t (by omega)
  have b := A.V.gv t (by omega)
  have a1 := a.1
  have a2 := a.2
  have b1 := b.1
  have b2 := b.2
  obtain ⟨i1, i2, i3⟩ := r_iv A ht
  have e : n_wt R (J 82) t = 1000 * κ.2 8 t / k_iv κ t := by
    unfold n_wt
    rw [i2, A.D.t3 t (by omega), i1]
  have hp : 0 < (k_iv κ t).toInt := by rw [i1, i3]; omega
  have hm : (1000 * κ.2 8 t).toInt = 1000 * (κ.2 8 t).toInt := by
    rw [q_mul, show (1000 : Int64).toInt = 1000 from rfl] <;> rw [show (1000 : Int64).toInt = 1000 from rfl] <;> omega
  have hr : i_rg (n_wt R (J 82) t) 0 1000 := by
    rw [e, i_rg, q_div hp, hm, Int.tdiv_eq_ediv_of_nonneg (by omega)]
    refine ⟨Int.ediv_nonneg (by omega) (by omega), Int.ediv_le_of_le_mul hp ?_⟩
    rw [i1, i3]
    omega
  have h32 : (n_wt R (J 82) t).toInt32 = k_wt κ t := by rw [e]; rfl
  refine ⟨?_, hr, h32⟩
  rw [← h32, i_back ⟨by have := hr.1; omega, by have := hr.2; omega⟩]
theorem r_set (A : r_A lg κ I J R n m B) : n_set R (I 91 0) ↔ k_set κ := by
  have hB := r_isB A.S.cm A.S.m6 A.V
  show (0 ≤ R 39 ∧ R 41 = 0 ∧ ¬ R 40 < (I 91 0).toInt64) ↔ (k_isB κ ∧ κ.1 0 8 = 0 ∧ ¬ k_len κ < κ.1 0 4)
  rw [hB, A.D.bu, A.D.sv, A.D.la, A.S.s0, n_lt64]
  have h1 : (0 : Int64) ≤ (κ.1 0 7).toInt64 ↔ 0 ≤ κ.1 0 7 := n_le64 (x := 0)
  have h2 : (κ.1 0 8).toInt64 = 0 ↔ κ.1 0 8 = 0 := n_eq64 (y := 0)
  rw [h1, h2]
theorem r_rd (A : r_A lg κ I J R n m B) {t p : Nat} {x : Int32} (ht : t < n) (hp1 : 1 ≤ p) (hr : ∀ i, i < p → i_rh (κ.1 (12 + 3 * t) i) 0 10000 ∧ i_rh (κ.1 (13 + 3 * t) i) 0 1000000000) (hv : ∀ i, i + 1 < p → κ.1 (13 + 3 * t) i ≤ κ.1 (13 + 3 * t) (i + 1)) :
    (n_rd R (J 80) (J 82) (I 91 1) (k_vol κ t p x) t).1 = (if k_inn κ t p x * k_inn κ t p x ≤ (κ.1 0 5).toInt64 * k_iv κ t then (1, k_acc κ t (k_inn κ t p x) (kl κ) (kc κ)) else (2, k_app κ (kl κ) (kc κ) (κ.1 0 3) 3 (nI t) (k_inn κ t p x)) : Int32 × k_M).1 ∧
    r_A lg (if k_inn κ t p x * k_inn κ t p x ≤ (κ.1 0 5).toInt64 * k_iv κ t then (1, k_acc κ t (k_inn κ t p x) (kl κ) (kc κ)) else (2, k_app κ (kl κ) (kc κ) (κ.1 0 3) 3 (nI t) (k_inn κ t p x)) : Int32 × k_M).2 I J (n_rd R (J 80) (J 82) (I 91 1) (k_vol κ t p x) t).2 n m B := by
  have n4 := A.S.n4
  obtain ⟨i1, i2, i3⟩ := r_iv A ht
  obtain ⟨w1, w2, w3⟩ := r_wt A ht
  have vb : i_rg (k_vol κ t p x) 0 1000000000 := s_vol_b hp1 hr hv
  have vb1 := vb.1
  have vb2 := vb.2
  have db := A.V.de t ht
  have hm0 : 0 ≤ (k_vol κ t p x).toInt * (κ.1 2 t).toInt := Int.mul_nonneg vb.1 (by have := db.1; omega)
  have hm1 : (k_vol κ t p x).toInt * (κ.1 2 t).toInt ≤ 1000000000 * 3000 := Int.mul_le_mul vb.2 db.2 (by have := db.1; omega) (by omega)
  have hm : (k_vol κ t p x * (κ.1 2 t).toInt64).toInt = (k_vol κ t p x).toInt * (κ.1 2 t).toInt := by
    rw [q_mul, Int32.toInt_toInt64] <;> rw [Int32.toInt_toInt64] <;> omega
  have off : n_off R (J 80) (k_vol κ t p x) t = k_inn κ t p x := by
    unfold n_off k_inn k_gm
    rw [A.S.den t ht, A.D.t2 t (by omega), s_fl_pos (by rw [hm]; exact hm0) (by decide)]
  unfold n_rd
  rw [off, i2, i1, A.S.s1]
  by_cases h : k_inn κ t p x * k_inn κ t p x ≤ (κ.1 0 5).toInt64 * (κ.2 8 t + κ.2 9 t)
  · rw [if_pos h, if_pos h]
    refine ⟨rfl, ?_⟩
    dsimp only
    have a := A.V.va t (by omega)
    have a1 := a.1
    have a2 := a.2
    have w21 := w2.1
    have w22 := w2.2
    have he : n_est R (J 82) (k_inn κ t p x) t = k_nest κ t (k_inn κ t p x) := by
      unfold n_est k_nest
      rw [A.D.t2 t (by omega), w1, n_mx_k]
    have hs : (1000 - n_wt R (J 82) t).toInt = 1000 - (n_wt R (J 82) t).toInt := by
      rw [q_sub, show (1000 : Int64).toInt = 1000 from rfl] <;> rw [show (1000 : Int64).toInt = 1000 from rfl] <;> omega
    have p0 : 0 ≤ (κ.2 8 t).toInt * (1000 - (n_wt R (J 82) t).toInt) := Int.mul_nonneg a.1 (by omega)
    have p1 : (κ.2 8 t).toInt * (1000 - (n_wt R (J 82) t).toInt) ≤ (κ.2 8 t).toInt * 1000 := Int.mul_le_mul_of_nonneg_left (by omega) a.1
    have hp : (κ.2 8 t * (1000 - n_wt R (J 82) t)).toInt = (κ.2 8 t).toInt * (1000 - (n_wt R (J 82) t).toInt) := by
      rw [q_mul, hs] <;> rw [hs] <;> omega
    have hvv : s_fl (R (5 * t + 3) * (1000 - n_wt R (J 82) t)) 1000 = κ.2 8 t * (1000 - (k_wt κ t).toInt64) / 1000 := by
      rw [A.D.t3 t (by omega), s_fl_pos (by rw [hp]; exact p0) (by decide), w1]
    have hvb : i_rg (κ.2 8 t * (1000 - (k_wt κ t).toInt64) / 1000) 0 1000000000000000 := by
      rw [← hvv, A.D.t3 t (by omega), i_rg, s_fl_toInt (by decide), hp, show (1000 : Int64).toInt = 1000 from rfl]
      omega
    have A1 := r_est A (show t < 4 by omega) (k_nest κ t (k_inn κ t p x)) _ hvb
    have A2 := r_app A1 2 (nI t) (k_nest κ t (k_inn κ t p x) - κ.2 7 t)
    unfold n_acc
    rw [he, hvv, A.D.t2 t (by omega)]
    exact A2
  · rw [if_neg h, if_neg h]
    exact ⟨rfl, r_app A 3 (nI t) (k_inn κ t p x)⟩
theorem r_pt (A : r_A lg κ I J R n m B) {t : Nat} (ht : t < n) : ∃ p, p ≤ 8 ∧ I 84 t = nI p ∧ kp κ t = p ∧ κ.1 (11 + 3 * t) 0 = nI p ∧ (∀ i, i < p → i_rh (κ.1 (12 + 3 * t) i) 0 10000 ∧ i_rh (κ.1 (13 + 3 * t) i) 0 1000000000) ∧ (∀ i, i + 1 < p → κ.1 (12 + 3 * t) i < κ.1 (12 + 3 * t) (i + 1) ∧ κ.1 (13 + 3 * t) i ≤ κ.1 (13 + 3 * t) (i + 1)) ∧ (∀ i, i < p → i_rh (n_lv I t i) 0 10000 ∧ i_rh (n_vo I t i) 0 1000000000) ∧ (∀ i, i + 1 < p → n_lv I t i < n_lv I t (i + 1)) ∧ ∀ x, s_vol (n_lv I t) (n_vo I t) p x = k_vol κ t p x := by
  have n4 := A.S.n4
  obtain ⟨p, h1, h2, h3, h4⟩ := A.V.pt t (by omega)
  have hl : ∀ i, i < p → n_lv I t i = κ.1 (12 + 3 * t) i := fun i hi => A.S.lvs t (by omega) i (by omega)
  have hv : ∀ i, i < p → n_vo I t i = κ.1 (13 + 3 * t) i := fun i hi => A.S.vos t (by omega) i (by omega)
  refine ⟨p, h1, by rw [A.S.pts t (by omega)]; exact h2, ?_, h2, h3, h4, fun i hi => ?_, fun i hi => ?_, fun x => s_vol_cg (fun i hi => ⟨hl i hi, hv i hi⟩)⟩
  · show (κ.1 (11 + 3 * t) 0).toNatClampNeg = p
    rw [h2]; exact nI_clamp (by omega)
  · rw [hl i hi, hv i hi]; exact h3 i hi
  · rw [hl i (by omega), hl (i + 1) hi]; exact (h4 i hi).1
theorem a_read (G : Nat → Int64) (A : r_A lg κ I J R n m B) (y x : Int32) : m_W 133 0 (lv_args 0 [.ref 77, .int y, .int x]) [] (I, n_J J R G) (r_Q lg I J n m B (k_read κ y x)) := by
  have n4 := A.S.n4
  have hT := r_hT A.S.cn (t := y)
  unfold k_read
  by_cases hh : (0 ≤ y ∧ y < nI n) ∧ (0 ≤ x ∧ x ≤ 10000)
  · rw [if_pos ⟨hT.mpr hh.1, hh.2⟩]
    obtain ⟨t, ht, rfl⟩ := k_ix hh.1 (by omega)
    rw [show (nI t).toNatClampNeg = t from nI_clamp (by omega)]
    obtain ⟨p, h1, h2, h3, h4, h5, h6, h7, h8, h9⟩ := r_pt A ht
    rw [h3]
    unfold k_rd
    by_cases h0 : κ.1 (11 + 3 * t) 0 = 0
    · rw [if_pos h0]
      refine m_wk (n_read_0 I J R G n A.S.mn n4 t ht (by rw [A.S.pts t (by omega)]; exact h0) x hh.2) ?_
      rintro _ _ ⟨rfl, rfl⟩
      exact ⟨rfl, R, G, rfl, A⟩
    · rw [if_neg h0]
      have hs := r_set A
      by_cases hk : k_set κ
      · rw [if_pos hk]
        have hp1 : 1 ≤ p := by
          rcases Nat.eq_zero_or_pos p with q | q
          · rw [q] at h4; exact absurd h4 h0
          · exact q
        obtain ⟨i1, i2, i3⟩ := r_iv A ht
        refine m_wk (n_read_y I J R G n A.S.mn n4 t p ht h1 hp1 h2 h7 h8 x (hs.mpr hk) hh.2 (by
          rw [i2]
          intro q
          have := congrArg Int64.toInt q
          rw [i3, show (0 : Int64).toInt = 0 from rfl] at this
          have a := (A.V.va t (by omega)).1
          have b := (A.V.gv t (by omega)).1
          omega)) ?_
        rintro _ _ ⟨rfl, rfl⟩
        rw [h9]
        have h := r_rd A (x := x) ht hp1 h5 (fun i hi => (h6 i hi).2)
        exact ⟨by rw [h.1], _, G, rfl, h.2⟩
      · rw [if_neg hk]
        refine m_wk (n_read_3 I J R G n A.S.mn n4 t ht (by rw [A.S.pts t (by omega)]; exact h0) x (fun q => hk (hs.mp q)) hh.2) ?_
        rintro _ _ ⟨rfl, rfl⟩
        exact ⟨rfl, R, G, rfl, A⟩
  · rw [if_neg (fun q => hh ⟨hT.mp q.1, q.2⟩)]
    refine m_wk (n_read_o I J R G n A.S.mn n4 y x hh) ?_
    rintro _ _ ⟨rfl, rfl⟩
    exact ⟨rfl, R, G, rfl, A⟩
end RR
