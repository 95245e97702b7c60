/-! PAIRS: points and engines are added -/
section AP
variable {lg : Prop} {κ : k_M} {I : Nat → Nat → Int32} {J : Nat → Nat → Int64} {R : Nat → Int64} {n m : Nat} {B : Int64}
def k_pnt (κ : k_M) (j p : Nat) (x v : Int32) : k_M := (m_ui (m_ui (m_ui κ.1 (12 + 3 * j) p x) (13 + 3 * j) p v) (11 + 3 * j) 0 (κ.1 (11 + 3 * j) 0 + 1), κ.2)
theorem r_addP (A : r_A lg κ I J R n m B) {j p : Nat} (hj : j < 4) (hp : p < 8) (hpe : κ.1 (11 + 3 * j) 0 = nI p) {x v : Int32} (hx : i_rh x 0 10000) (hv : i_rh v 0 1000000000) (hl : 1 ≤ p → κ.1 (12 + 3 * j) (p - 1) < x ∧ κ.1 (13 + 3 * j) (p - 1) ≤ v) : r_A lg (k_pnt κ j p x v) (n_pnt I j p x v) J R n m B := by
  have n4 := A.S.n4
  have m6 := A.S.m6
  have o1 : ∀ c k, c ≠ 11 + 3 * j → c ≠ 12 + 3 * j → c ≠ 13 + 3 * j → (k_pnt κ j p x v).1 c k = κ.1 c k := fun c k h1 h2 h3 => by
    unfold k_pnt
    dsimp only
    rw [m_ui_o h1, m_ui_o h3, m_ui_o h2]
  have v11 : ∀ t, (k_pnt κ j p x v).1 (11 + 3 * t) 0 = if t = j then nI (p + 1) else κ.1 (11 + 3 * t) 0 := fun t => by
    by_cases h : t = j
    · subst h
      rw [if_pos rfl]
      unfold k_pnt
      dsimp only
      rw [m_uik, hpe, nI_1]
    · rw [if_neg h, o1 _ _ (by omega) (by omega) (by omega)]
  have v12 : ∀ t i, (k_pnt κ j p x v).1 (12 + 3 * t) i = if t = j ∧ i = p then x else κ.1 (12 + 3 * t) i := fun t i => by
    by_cases h : t = j
    · subst h
      unfold k_pnt
      dsimp only
      rw [m_ui_o (by omega), m_ui_o (by omega)]
      by_cases hi : i = p
      · rw [if_pos ⟨rfl, hi⟩, hi, m_uik]
      · rw [if_neg (fun q => hi q.2), m_uin hi]
    · rw [if_neg (fun q => h q.1), o1 _ _ (by omega) (by omega) (by omega)]
  have v13 : ∀ t i, (k_pnt κ j p x v).1 (13 + 3 * t) i = if t = j ∧ i = p then v else κ.1 (13 + 3 * t) i := fun t i => by
    by_cases h : t = j
    · subst h
      unfold k_pnt
      dsimp only
      rw [m_ui_o (by omega)]
      by_cases hi : i = p
      · rw [if_pos ⟨rfl, hi⟩, hi, m_uik]
      · rw [if_neg (fun q => hi q.2), m_uin hi, m_ui_o (by omega)]
    · rw [if_neg (fun q => h q.1), o1 _ _ (by omega) (by omega) (by omega)]
  have i0 : ∀ c, c ≠ 84 → c ≠ 85 → c ≠ 86 → n_pnt I j p x v c = I c := fun c h1 h2 h3 => by
    unfold n_pnt
    rw [m_ui_o h1, m_ui_o h3, m_ui_o h2]
  have i84 : ∀ t, n_pnt I j p x v 84 t = if t = j then nI p + 1 else I 84 t := fun t => rfl
  have i85 : ∀ t, n_pnt I j p x v 85 t = if t = 8 * j + p then x else I 85 t := fun t => rfl
  have i86 : ∀ t, n_pnt I j p x v 86 t = if t = 8 * j + p then v else I 86 t := fun t => rfl
  have k2 : (k_pnt κ j p x v).2 = κ.2 := rfl
  generalize hK : k_pnt κ j p x v = K at *
  generalize hI : n_pnt I j p x v = I2 at *
  have ball : k_ball K = k_ball κ := by unfold k_ball; rw [k2]
  refine ⟨r_S.mk (cn := by rw [o1 1 0 (by omega) (by omega) (by omega)]; exact A.S.cn) (n4 := A.S.n4) (mn := by rw [i0 77 (by omega) (by omega) (by omega)]; exact A.S.mn) (cm := by rw [o1 23 0 (by omega) (by omega) (by omega)]; exact A.S.cm) (m6 := m6) (mm := by rw [i0 77 (by omega) (by omega) (by omega)]; exact A.S.mm) (den := fun t ht => by rw [o1 2 t (by omega) (by omega) (by omega)]; exact A.S.den t ht) (res := fun t ht => by rw [o1 3 t (by omega) (by omega) (by omega)]; exact A.S.res t ht) (gau := fun t ht => by rw [k2]; exact A.S.gau t ht) (lk := fun t ht => by rw [i0 83 (by omega) (by omega) (by omega), o1 4 t (by omega) (by omega) (by omega)]; exact A.S.lk t ht) (pts := fun t ht => ?_) (lvs := fun t ht i hi => ?_) (vos := fun t ht i hi => ?_) (flo := fun e he => by rw [i0 89 (by omega) (by omega) (by omega), o1 25 e (by omega) (by omega) (by omega)]; exact A.S.flo e he) (dou := fun e he => by rw [i0 90 (by omega) (by omega) (by omega), o1 26 e (by omega) (by omega) (by omega)]; exact A.S.dou e he) (s0 := by rw [i0 91 (by omega) (by omega) (by omega), o1 0 4 (by omega) (by omega) (by omega)]; exact A.S.s0) (s1 := by rw [i0 91 (by omega) (by omega) (by omega), o1 0 5 (by omega) (by omega) (by omega)]; exact A.S.s1) (s2 := by rw [i0 91 (by omega) (by omega) (by omega), o1 0 6 (by omega) (by omega) (by omega)]; exact A.S.s2) (nam := fun e he => by rw [i0 87 (by omega) (by omega) (by omega), i0 88 (by omega) (by omega) (by omega), o1 24 e (by omega) (by omega) (by omega)]; exact A.S.nam e he), r_D.mk (t0 := fun t ht => by rw [k2]; exact A.D.t0 t ht) (t1 := fun t ht => by rw [k2]; exact A.D.t1 t ht) (t2 := fun t ht => by rw [k2]; exact A.D.t2 t ht) (t3 := fun t ht => by rw [k2]; exact A.D.t3 t ht) (t4 := fun t ht => by rw [k2]; exact A.D.t4 t ht) (e0 := fun e he => by rw [k_open_cg (o1 27 e (by omega) (by omega) (by omega)) (o1 1 0 (by omega) (by omega) (by omega))]; exact A.D.e0 e he) (e1 := fun e he => by rw [k2]; exact A.D.e1 e he) (e2 := fun e he => by rw [k2]; exact A.D.e2 e he) (ti := by rw [o1 0 3 (by omega) (by omega) (by omega)]; exact A.D.ti) (bu := by rw [o1 0 7 (by omega) (by omega) (by omega)]; exact A.D.bu) (la := by rw [k_len_cg (o1 0 3 (by omega) (by omega) (by omega)) (o1 0 7 (by omega) (by omega) (by omega)) (o1 0 9 (by omega) (by omega) (by omega)) (o1 23 0 (by omega) (by omega) (by omega))]; exact A.D.la) (sv := by rw [o1 0 8 (by omega) (by omega) (by omega)]; exact A.D.sv) (bk := by rw [ball]; exact A.D.bk), r_V.mk (m0 := fun t ht => by rw [k2]; exact A.V.m0 t ht) (m1 := fun t ht => by rw [k2]; exact A.V.m1 t ht) (va := fun t ht => by rw [k2]; exact A.V.va t ht) (gv := fun t ht => by rw [k2]; exact A.V.gv t ht) (g6 := fun t h1 h2 => by rw [k2]; exact A.V.g6 t h1 h2) (de := fun t ht => by rw [o1 2 t (by omega) (by omega) (by omega)]; exact A.V.de t ht) (lk := fun t ht => by rw [o1 4 t (by omega) (by omega) (by omega)]; exact A.V.lk t ht) (fl := fun e he => by rw [o1 25 e (by omega) (by omega) (by omega)]; exact A.V.fl e he) (dt := fun e he => by rw [o1 26 e (by omega) (by omega) (by omega)]; exact A.V.dt e he) (pt := fun t ht => ?_) (mg := by rw [o1 0 6 (by omega) (by omega) (by omega)]; exact A.V.mg) (ti := by rw [o1 0 3 (by omega) (by omega) (by omega)]; exact A.V.ti) (sv := by rw [o1 0 8 (by omega) (by omega) (by omega)]; exact A.V.sv) (bu := by rw [o1 0 7 (by omega) (by omega) (by omega), o1 0 8 (by omega) (by omega) (by omega), o1 0 9 (by omega) (by omega) (by omega), o1 0 3 (by omega) (by omega) (by omega), k2]; exact A.V.bu) (op := fun e he => by rw [o1 27 e (by omega) (by omega) (by omega)]; exact A.V.op e he) (lw := k_lw_cg A.V.lw (o1 30 0 (by omega) (by omega) (by omega)) (o1 30 1 (by omega) (by omega) (by omega))), fun L => (A.L L).cg (fun c k h _ => o1 c k (by omega) (by omega) (by omega)) (fun j => by rw [k2]) (fun _ _ _ => rfl) A.V.lws.2.2.2⟩
  · rw [i84, v11]
    by_cases h : t = j
    · rw [if_pos h, if_pos h, nI_1]
    · rw [if_neg h, if_neg h]; exact A.S.pts t ht
  · rw [i85, v12]
    by_cases h : t = j ∧ i = p
    · rw [if_pos h, if_pos (by omega)]
    · rw [if_neg h, if_neg (by omega)]; exact A.S.lvs t ht i hi
  · rw [i86, v13]
    by_cases h : t = j ∧ i = p
    · rw [if_pos h, if_pos (by omega)]
    · rw [if_neg h, if_neg (by omega)]; exact A.S.vos t ht i hi
  · obtain ⟨p', a, b, c, d⟩ := A.V.pt t ht
    by_cases h : t = j
    · subst h
      have e : p' = p := (nI_eq (by omega) (by omega)).mp (b.symm.trans hpe)
      subst e
      refine ⟨p' + 1, by omega, by rw [v11, if_pos rfl], fun i hi => ?_, fun i hi => ?_⟩
      · rw [v12, v13]
        by_cases hi' : i = p'
        · rw [if_pos ⟨rfl, hi'⟩, if_pos ⟨rfl, hi'⟩]; exact ⟨hx, hv⟩
        · rw [if_neg (fun q => hi' q.2), if_neg (fun q => hi' q.2)]; exact c i (by omega)
      · rw [v12, v13, v12, v13, if_neg (show ¬ (t = t ∧ i = p') by omega), if_neg (show ¬ (t = t ∧ i = p') by omega)]
        by_cases hi' : i + 1 = p'
        · have g := hl (by omega)
          rw [show p' - 1 = i by omega] at g
          rw [if_pos ⟨rfl, hi'⟩, if_pos ⟨rfl, hi'⟩]; exact g
        · rw [if_neg (fun q => hi' q.2), if_neg (fun q => hi' q.2)]; exact d i (by omega)
    · refine ⟨p', a, by rw [v11, if_neg h]; exact b, fun i hi => ?_, fun i hi => ?_⟩
      · rw [v12, v13, if_neg (fun q => h q.1), if_neg (fun q => h q.1)]; exact c i hi
      · rw [v12, v13, v12, v13, if_neg (fun q => h q.1), if_neg (fun q => h q.1), if_neg (fun q => h q.1), if_neg (fun q => h q.1)]; exact d i hi
theorem r_addPs (A : r_A lg κ I J R n m B) {j p : Nat} (hj : j < n) (hp : p ≤ 8) (hpe : κ.1 (11 + 3 * j) 0 = nI p) {x v : Int32} (hx : i_rh x 0 10000) (hv : i_rh v 0 1000000000) : (w_addP I j p x v).1 = (k_addP κ j p x v).1 ∧ (∀ c, c < 84 ∨ 86 < c → (w_addP I j p x v).2 c = I c) ∧ r_A lg (k_addP κ j p x v).2 (w_addP I j p x v).2 J R n m B := by
  have n4 := A.S.n4
  have cell : ∀ c, c < 84 ∨ 86 < c → n_pnt I j p x v c = I c := fun c hc => by
    unfold n_pnt
    rw [m_ui_o (by omega), m_ui_o (by omega), m_ui_o (by omega)]
  have add : (1 ≤ p → κ.1 (12 + 3 * j) (p - 1) < x ∧ κ.1 (13 + 3 * j) (p - 1) ≤ v) → ((if nI p = 8 then (-3, I) else (nI p + 1, n_pnt I j p x v) : Int32 × (Nat → Nat → Int32)).1 = (k_addP2 κ j p x v).1 ∧ (∀ c, c < 84 ∨ 86 < c → (if nI p = 8 then (-3, I) else (nI p + 1, n_pnt I j p x v) : Int32 × (Nat → Nat → Int32)).2 c = I c) ∧ r_A lg (k_addP2 κ j p x v).2 (if nI p = 8 then (-3, I) else (nI p + 1, n_pnt I j p x v) : Int32 × (Nat → Nat → Int32)).2 J R n m B) := fun hl => by
    unfold k_addP2
    by_cases h8 : p < 8
    · rw [if_neg (show ¬ nI p = 8 from fun z => absurd ((nI_eq (b := 8) (by omega) (by omega)).mp z) (by omega)), if_pos (show κ.1 (11 + 3 * j) 0 < 8 by rw [hpe]; exact nI_lt (b := 8) h8 (by omega))]
      exact ⟨by rw [hpe], cell, r_addP A (by omega) h8 hpe hx hv hl⟩
    · have e8 : p = 8 := by omega
      rw [if_pos (show nI p = 8 by rw [e8]; rfl), if_neg (show ¬ κ.1 (11 + 3 * j) 0 < 8 by rw [hpe, e8]; decide)]
      exact ⟨rfl, fun _ _ => rfl, A⟩
  unfold w_addP k_addP
  by_cases h0 : p = 0
  · subst h0
    rw [if_pos (show nI 0 ≤ 0 by decide), if_pos (show κ.1 (11 + 3 * j) 0 ≤ 0 by rw [hpe]; decide)]
    exact add (fun q => absurd q (by omega))
  · have hp0 : ¬ nI p ≤ 0 := nI_nle (by omega) (by omega)
    rw [if_neg hp0, if_neg (show ¬ κ.1 (11 + 3 * j) 0 ≤ 0 by rw [hpe]; exact hp0), A.S.lvs j (by omega) (p - 1) (by omega), A.S.vos j (by omega) (p - 1) (by omega)]
    by_cases h1 : x ≤ κ.1 (12 + 3 * j) (p - 1)
    · rw [if_pos h1, if_pos h1]; exact ⟨rfl, fun _ _ => rfl, A⟩
    · rw [if_neg h1, if_neg h1]
      by_cases h2 : κ.1 (13 + 3 * j) (p - 1) ≤ v
      · rw [if_pos h2, if_pos h2]; exact add (fun _ => ⟨Int32.not_le.mp h1, h2⟩)
      · rw [if_neg h2, if_neg h2]; exact ⟨rfl, fun _ _ => rfl, A⟩
end AP
theorem z_addPoint (t x v : Int32) (μ : m_M) (hZ : Z μ) : zG 2 105 [.int t, .int x, .int v] μ := by
  obtain ⟨I, J⟩ := μ
  obtain ⟨κ, nm, l, N, tx, n, m, C, T, A⟩ := hZ
  have e1 := C.k1
  subst e1
  replace A : r_A True (k_sh 1 (I, J)) I J (J 78) n m 0 := A
  replace T : r_T nm l N tx I := T
  have n4 := A.S.n4
  have hc := t_addPoint I J t x v (r_wf A.S A.V)
  unfold x_addP at hc
  by_cases q : (0 ≤ t ∧ t < nI n) ∧ (0 ≤ x ∧ x ≤ 10000) ∧ (0 ≤ v ∧ v ≤ 1000000000)
  · rw [if_pos ((r_hT A.S.cn).mpr q.1), if_pos q.2.1, if_pos q.2.2] at hc
    obtain ⟨j, hj, rfl⟩ := k_ix q.1 (by omega)
    rw [show (nI j).toNatClampNeg = j from nI_clamp (by omega)] at hc
    obtain ⟨p, p1, p2, p3, p4, -⟩ := r_pt A hj
    rw [p3] at hc
    have x1 := q.2.1.1
    have x2 := q.2.1.2
    have y1 := q.2.2.1
    have y2 := q.2.2.2
    rw [Int32.le_iff_toInt_le, show (0 : Int32).toInt = 0 from rfl] at x1 y1
    rw [Int32.le_iff_toInt_le, show (10000 : Int32).toInt = 10000 from rfl] at x2
    rw [Int32.le_iff_toInt_le, show (1000000000 : Int32).toInt = 1000000000 from rfl] at y2
    refine zC C T A hc (fun I' J' A' T' => m_wk (n_addP_i I' _ n A'.S.mn n4 j p hj p1 (by rw [A'.S.pts j (by omega)]; exact p4) x v q.2.1 q.2.2) ?_)
    rintro _ _ ⟨rfl, rfl⟩
    have h := r_addPs A' hj p1 p4 (x := x) (v := v) ⟨x1, x2⟩ ⟨y1, y2⟩
    exact ⟨by rw [h.1], _, J', J' 78, J' 94, n, m, rfl, fun c hc => h.2.1 c (by omega), fun _ _ => rfl, T'.ij (by rw [h.2.1 77 (by omega)]) (by rw [h.2.1 77 (by omega)]) (h.2.1 92 (by omega)) (h.2.1 93 (by omega)), h.2.2⟩
  · have hk : (if k_hasT (k_sh 1 (I, J)) t then (if 0 ≤ x ∧ x ≤ 10000 then (if 0 ≤ v ∧ v ≤ 1000000000 then k_addP (k_sh 1 (I, J)) t.toNatClampNeg (kp (k_sh 1 (I, J)) t.toNatClampNeg) x v else (-1, k_sh 1 (I, J))) else (-1, k_sh 1 (I, J))) else (-1, k_sh 1 (I, J))) = (-1, k_sh 1 (I, J)) := by
      by_cases c1 : k_hasT (k_sh 1 (I, J)) t
      · rw [if_pos c1]
        by_cases c2 : 0 ≤ x ∧ x ≤ 10000
        · rw [if_pos c2, if_neg (fun c3 => q ⟨(r_hT A.S.cn).mp c1, c2, c3⟩)]
        · rw [if_neg c2]
      · rw [if_neg c1]
    rw [hk] at hc
    exact zC0 C T A hc (fun I' J' A' T' => n_addP_o I' _ n A'.S.mn n4 t x v q)
section AE
variable {lg : Prop} {κ : k_M} {I : Nat → Nat → Int32} {J : Nat → Nat → Int64} {R : Nat → Int64} {n m l : Nat} {B : Int64}
theorem r_addE (A : r_A lg κ I J R n m B) (hm : m < 6) (hl1 : 1 ≤ l) (hl6 : l ≤ 6) (hlt : ∀ k, k < l → 97 ≤ I 92 (0 + k) ∧ I 92 (0 + k) ≤ 122) {f u : Int32} (hf : i_rh f 1 100000) (hu : i_rh u 0 500) : r_A lg (m_ui (m_ui (m_ui (m_ui (m_ui κ.1 24 m (p_nm (I 92) 0 l)) 25 m f) 26 m u) 27 m 15) 23 0 (κ.1 23 0 + 1), κ.2) (n_eng I m l f u) J (r_u R (20 + 3 * m + 0) (n_opv n)) n (m + 1) B := by
  have n4 := A.S.n4
  generalize hK : (m_ui (m_ui (m_ui (m_ui (m_ui κ.1 24 m (p_nm (I 92) 0 l)) 25 m f) 26 m u) 27 m 15) 23 0 (κ.1 23 0 + 1), κ.2) = K
  have k2 : K.2 = κ.2 := by rw [← hK]
  have o1 : ∀ c k, c < 23 ∨ 27 < c → K.1 c k = κ.1 c k := fun c k h => by
    rw [← hK]
    dsimp only
    rw [m_ui_o (by omega), m_ui_o (by omega), m_ui_o (by omega), m_ui_o (by omega), m_ui_o (by omega)]
  have v23 : K.1 23 0 = nI (m + 1) := by
    rw [← hK]
    show κ.1 23 0 + 1 = _
    rw [A.S.cm, nI_1]
  have v24 : ∀ e, K.1 24 e = if e = m then p_nm (I 92) 0 l else κ.1 24 e := fun e => by rw [← hK]; rfl
  have v25 : ∀ e, K.1 25 e = if e = m then f else κ.1 25 e := fun e => by rw [← hK]; rfl
  have v26 : ∀ e, K.1 26 e = if e = m then u else κ.1 26 e := fun e => by rw [← hK]; rfl
  have v27 : ∀ e, K.1 27 e = if e = m then 15 else κ.1 27 e := fun e => by rw [← hK]; rfl
  have i0 : ∀ c, c ≠ 77 → c ≠ 87 → c ≠ 88 → c ≠ 89 → c ≠ 90 → n_eng I m l f u c = I c := fun c h1 h2 h3 h4 h5 => by
    unfold n_eng
    rw [m_ui_o h1, m_ui_o h1, m_ui_o h5, m_ui_o h4, m_ui_o h3, m_ci_o h2]
  have i77 : n_eng I m l f u 77 2 = I 77 2 := rfl
  have i7t : n_eng I m l f u 77 10 = nI (m + 1) := nI_1 m
  have i87 : ∀ j, n_eng I m l f u 87 j = if 6 * m ≤ j ∧ j < 6 * m + l then I 92 (j - 6 * m) else I 87 j := fun j => rfl
  have i88 : ∀ e, n_eng I m l f u 88 e = if e = m then nI l else I 88 e := fun e => rfl
  have i89 : ∀ e, n_eng I m l f u 89 e = if e = m then f else I 89 e := fun e => rfl
  have i90 : ∀ e, n_eng I m l f u 90 e = if e = m then u else I 90 e := fun e => rfl
  generalize hI : n_eng I m l f u = I2 at *
  have ball : k_ball K = k_ball κ := by unfold k_ball; rw [k2]
  have V : r_V K n (m + 1) := r_V.mk (m0 := fun t ht => by rw [k2]; exact A.V.m0 t ht) (m1 := fun t ht => by rw [k2]; exact A.V.m1 t ht) (va := fun t ht => by rw [k2]; exact A.V.va t ht) (gv := fun t ht => by rw [k2]; exact A.V.gv t ht) (g6 := fun t h1 h2 => by rw [k2]; exact A.V.g6 t h1 h2) (de := fun t ht => by rw [o1 2 t (by omega)]; exact A.V.de t ht) (lk := fun t ht => by rw [o1 4 t (by omega)]; exact A.V.lk t ht) (fl := fun e he => by
      rw [v25]
      by_cases h : e = m
      · rw [if_pos h]; exact hf
      · rw [if_neg h]; exact A.V.fl e (by omega)) (dt := fun e he => by
      rw [v26]
      by_cases h : e = m
      · rw [if_pos h]; exact hu
      · rw [if_neg h]; exact A.V.dt e (by omega)) (pt := fun t ht => by
      obtain ⟨p, a, b, c, d⟩ := A.V.pt t ht
      refine ⟨p, a, ?_, fun j hj => ?_, fun j hj => ?_⟩
      · rw [o1 _ _ (by omega)]; exact b
      · rw [o1 _ _ (by omega), o1 _ _ (by omega)]; exact c j hj
      · rw [o1 _ _ (by omega), o1 _ _ (by omega), o1 _ _ (by omega), o1 _ _ (by omega)]; exact d j hj) (mg := by rw [o1 0 6 (by omega)]; exact A.V.mg) (ti := by rw [o1 0 3 (by omega)]; exact A.V.ti) (sv := by rw [o1 0 8 (by omega)]; exact A.V.sv) (bu := by
      rw [o1 0 7 (by omega), o1 0 8 (by omega), o1 0 9 (by omega), o1 0 3 (by omega), k2]
      rcases A.V.bu with q | ⟨e, h1, h2, h3, h4, h5⟩
      · exact Or.inl q
      · exact Or.inr ⟨e, by omega, h2, h3, h4, h5⟩) (op := fun e he => by
      rw [v27]
      by_cases h : e = m
      · rw [if_pos h]
        exact ⟨15, by omega, rfl, fun _ t _ h2 => (by decide : ∀ t, t < 4 → (15 : Nat).testBit t = true) t h2, fun q => absurd q (by omega)⟩
      · rw [if_neg h]
        obtain ⟨b, b1, b2, b3, b4⟩ := A.V.op e he
        exact ⟨b, b1, b2, fun q => b3 (by omega), fun q => b4 (by omega)⟩) (lw := k_lw_cg A.V.lw (o1 30 0 (by omega)) (o1 30 1 (by omega)))
  have len : k_len K = k_len κ := by
    have a := r_isB v23 (by omega) V
    have b := r_isB A.S.cm A.S.m6 A.V
    have c : k_isB K ↔ k_isB κ := by rw [a, b, o1 0 7 (by omega)]
    unfold k_len
    rw [o1 0 3 (by omega), o1 0 9 (by omega)]
    exact if_c1 c
  refine ⟨r_S.mk (cn := by rw [o1 1 0 (by omega)]; exact A.S.cn) (n4 := n4) (mn := by rw [i77]; exact A.S.mn) (cm := v23) (m6 := by omega) (mm := i7t) (den := fun t ht => by rw [o1 2 t (by omega)]; exact A.S.den t ht) (res := fun t ht => by rw [o1 3 t (by omega)]; exact A.S.res t ht) (gau := fun t ht => by rw [k2]; exact A.S.gau t ht) (lk := fun t ht => by rw [i0 83 (by omega) (by omega) (by omega) (by omega) (by omega), o1 4 t (by omega)]; exact A.S.lk t ht) (pts := fun t ht => by rw [i0 84 (by omega) (by omega) (by omega) (by omega) (by omega), o1 _ _ (by omega)]; exact A.S.pts t ht) (lvs := fun t ht i hi => by rw [i0 85 (by omega) (by omega) (by omega) (by omega) (by omega), o1 _ _ (by omega)]; exact A.S.lvs t ht i hi) (vos := fun t ht i hi => by rw [i0 86 (by omega) (by omega) (by omega) (by omega) (by omega), o1 _ _ (by omega)]; exact A.S.vos t ht i hi) (flo := fun e he => ?_) (dou := fun e he => ?_) (s0 := by rw [i0 91 (by omega) (by omega) (by omega) (by omega) (by omega), o1 0 4 (by omega)]; exact A.S.s0) (s1 := by rw [i0 91 (by omega) (by omega) (by omega) (by omega) (by omega), o1 0 5 (by omega)]; exact A.S.s1) (s2 := by rw [i0 91 (by omega) (by omega) (by omega) (by omega) (by omega), o1 0 6 (by omega)]; exact A.S.s2) (nam := fun e he => ?_), r_D.mk (t0 := fun t ht => by rw [r_un (by omega), k2]; exact A.D.t0 t ht) (t1 := fun t ht => by rw [r_un (by omega), k2]; exact A.D.t1 t ht) (t2 := fun t ht => by rw [r_un (by omega), k2]; exact A.D.t2 t ht) (t3 := fun t ht => by rw [r_un (by omega), k2]; exact A.D.t3 t ht) (t4 := fun t ht => by rw [r_un (by omega), k2]; exact A.D.t4 t ht) (e0 := fun e he => ?_) (e1 := fun e he => by rw [r_un (by omega), k2]; exact A.D.e1 e he) (e2 := fun e he => by rw [r_un (by omega), k2]; exact A.D.e2 e he) (ti := by rw [r_un (by omega), o1 0 3 (by omega)]; exact A.D.ti) (bu := by rw [r_un (by omega), o1 0 7 (by omega)]; exact A.D.bu) (la := by rw [r_un (by omega), len]; exact A.D.la) (sv := by rw [r_un (by omega), o1 0 8 (by omega)]; exact A.D.sv) (bk := by rw [r_un (by omega), ball]; exact A.D.bk), V, fun L => (A.L L).cg (fun c k h _ => o1 c k (by omega)) (fun j => by rw [k2]) (fun k h1 h2 => r_un (by omega)) A.V.lws.2.2.2⟩
  · rw [i89, v25]
    by_cases h : e = m
    · rw [if_pos h, if_pos h]
    · rw [if_neg h, if_neg h]; exact A.S.flo e (by omega)
  · rw [i90, v26]
    by_cases h : e = m
    · rw [if_pos h, if_pos h]
    · rw [if_neg h, if_neg h]; exact A.S.dou e (by omega)
  · by_cases h : e = m
    · have g : ∀ k, k < l → I2 87 (6 * e + k) = I 92 (0 + k) := fun k hk => by
        rw [i87, if_pos (by omega), show 6 * e + k - 6 * m = 0 + k by omega]
      refine ⟨l, hl1, hl6, by rw [i88, if_pos h], fun k hk => ?_, ?_⟩
      · rw [g k hk]; exact hlt k hk
      · rw [v24, if_pos h]
        exact (nm_cg g).symm
    · obtain ⟨k', a, b, c, d, e'⟩ := A.S.nam e (by omega)
      have g : ∀ k, k < k' → I2 87 (6 * e + k) = I 87 (6 * e + k) := fun k hk => by
        rw [i87, if_neg (by omega)]
      refine ⟨k', a, b, by rw [i88, if_neg h]; exact c, fun k hk => ?_, ?_⟩
      · rw [g k hk]; exact d k hk
      · rw [v24, if_neg h, e']
        exact (nm_cg g).symm
  · rw [r_opn (κ := K) (n := n) (by rw [o1 1 0 (by omega)]; exact A.S.cn), v27]
    by_cases h : e = m
    · rw [if_pos h, h, r_us]
      exact b_15 n (by omega)
    · rw [if_neg h, r_un (by omega), A.D.e0 e he, r_opn A.S.cn]
end AE
theorem z_addEngine (f u : Int32) (μ : m_M) (hZ : Z μ) : zG 11 117 [.int f, .int u] μ := by
  obtain ⟨I, J⟩ := μ
  obtain ⟨κ, nm, l, N, tx, n, m, C, T, A⟩ := hZ
  have e1 := C.k1
  subst e1
  replace A : r_A True (k_sh 1 (I, J)) I J (J 78) n m 0 := A
  replace T : r_T nm l N tx I := T
  have n4 := A.S.n4
  have m6 := A.S.m6
  have nv : I 0 3 = nm := C.nv
  have l4 : I 0 4 = nI l := C.l4
  have hc := t_addEngine I J f u (r_wf A.S A.V)
  -- a refused call
  have no : ∀ y : Int32, y < 0 → x_addE (I, J) f u = (y, k_sh 1 (I, J)) → (∀ I' J', r_A True (k_sh 1 (I, J)) I' J' (J' 78) n m 0 → r_T nm l N tx I' → m_W 117 0 (lv_args 0 [.ref 77, .int f, .int u]) [] (I', n_J J' (J' 78) (J' 94)) (m_E (some (.int y)) (I', n_J J' (J' 78) (J' 94)))) → zG 11 117 [.int f, .int u] (I, J) := by
    intro y hy he hm
    rw [he] at hc
    refine zD (v := some (.int y)) (κ' := k_sh 1 (I, J)) (nm' := nm) (l' := l) (N' := N) (tx' := tx) T A (m_wk hc ?_) (fun I' J' A' T' => m_wk (hm I' J' A' T') ?_)
    · rintro _ ⟨I1, J1⟩ ⟨rfl, h1, h2, h3, -, h5⟩
      have h0 := h5 (fun q => q hy)
      exact ⟨rfl, r_C.mk (k1 := h1) (nv := by rw [h0]; exact C.nv) (l4 := by rw [h0]; exact C.l4) (tn := by rw [(h2 75 (by omega)).1]; exact C.tn) (tc := fun i hi => by rw [(h2 76 (by omega)).1]; exact C.tc i hi) (tv := fun i hi => by rw [(h2 76 (by omega)).1]; exact C.tv i hi) (lw := by rw [k_sh_c (μ := (I, J)) (fun c g1 g2 => h2 c (by omega))]; exact C.lw), fun c hc => h2 c (by omega)⟩
    · rintro _ _ ⟨rfl, rfl⟩
      exact ⟨rfl, I', J', J' 78, J' 94, n, m, rfl, fun _ _ => rfl, fun _ _ => rfl, T', A'⟩
  by_cases q : (1 ≤ f ∧ f ≤ 100000) ∧ (0 ≤ u ∧ u ≤ 500)
  · have ex : x_addE (I, J) f u = if I 0 4 = 0 then (-2, k_sh 1 (I, J)) else (if k_fd ((k_sh 1 (I, J)).1 24) (I 0 3) 0 (km (k_sh 1 (I, J))) < 0 then k_addE (k_sh 1 (I, J)) (km (k_sh 1 (I, J))) (I 0 3) f u else (-2, k_sh 1 (I, J))) := by
      unfold x_addE
      rw [if_pos q.1, if_pos q.2]
    rw [r_km A.S, nv] at ex
    by_cases hl : l = 0
    · subst hl
      exact no (-2) (by decide) (by rw [ex, if_pos (show I 0 4 = 0 from l4)]) (fun I' J' A' T' => n_addE_0 I' _ f u q.1 q.2 T'.le)
    · have hl1 : 1 ≤ l := by omega
      rw [if_neg (show ¬ I 0 4 = 0 by rw [l4]; exact nI_ne0 (by omega) (by have := T.l6; omega))] at ex
      have key : ∀ I' J', r_A True (k_sh 1 (I, J)) I' J' (J' 78) n m 0 → r_T nm l N tx I' → ((n_nd I' (I' 92) 0 l 0 m < 0) ↔ (k_fd ((k_sh 1 (I, J)).1 24) nm 0 m < 0)) := fun I' J' A' T' => by
        rw [T'.nv]
        rcases r_nd A'.S (f := I' 92) (s := 0) T'.l6 T'.lt m 0 (by omega) with ⟨a, b⟩ | ⟨j, hj, a, b⟩
        · rw [a, b]; decide
        · rw [a, b]
      by_cases hf : k_fd ((k_sh 1 (I, J)).1 24) nm 0 m < 0
      · rw [if_pos hf] at ex
        unfold k_addE at ex
        by_cases hm : m < 6
        · rw [if_pos (show (k_sh 1 (I, J)).1 23 0 < 6 by rw [A.S.cm]; exact nI_lt (b := 6) hm (by omega))] at ex
          rw [ex] at hc
          have hv : (k_sh 1 (I, J)).1 23 0 + 1 - 1 = nI m := by rw [A.S.cm]; exact Int32.add_sub_cancel _ _
          rw [hv] at hc
          have f1 := q.1.1
          have f2 := q.1.2
          have u1 := q.2.1
          have u2 := q.2.2
          rw [Int32.le_iff_toInt_le, show (1 : Int32).toInt = 1 from rfl] at f1
          rw [Int32.le_iff_toInt_le, show (100000 : Int32).toInt = 100000 from rfl] at f2
          rw [Int32.le_iff_toInt_le, show (0 : Int32).toInt = 0 from rfl] at u1
          rw [Int32.le_iff_toInt_le, show (500 : Int32).toInt = 500 from rfl] at u2
          refine zD (v := some (.int (nI m))) (κ' := (m_ui (m_ui (m_ui (m_ui (m_ui (k_sh 1 (I, J)).1 24 m nm) 25 m f) 26 m u) 27 m 15) 23 0 ((k_sh 1 (I, J)).1 23 0 + 1), (k_sh 1 (I, J)).2)) (nm' := 0) (l' := 0) (N' := N) (tx' := tx) T A (m_wk hc ?_) (fun I' J' A' T' => m_wk (n_addE_y I' J' (J' 78) (J' 94) f u q.1 q.2 n A'.S.mn n4 m A'.S.mm m6 l T'.le T'.l6 hm hl1 ((key I' J' A' T').mpr hf)) ?_)
          · rintro _ ⟨I1, J1⟩ ⟨rfl, h1, h2, h3, h4, -⟩
            have h0 := h4 (Int32.not_lt.mpr (nI_pos' (by omega)))
            exact ⟨rfl, r_C.mk (k1 := h1) (nv := h0.1) (l4 := h0.2) (tn := by rw [(h2 75 (by omega)).1]; exact C.tn) (tc := fun i hi => by rw [(h2 76 (by omega)).1]; exact C.tc i hi) (tv := fun i hi => by rw [(h2 76 (by omega)).1]; exact C.tv i hi) (lw := by rw [k_sh_c (μ := (I, J)) (fun c g1 g2 => h2 c (by omega))]; exact C.lw), fun c hc => h2 c (by omega)⟩
          · rintro _ _ ⟨rfl, rfl⟩
            have A2 := r_addE A' hm hl1 T'.l6 T'.lt (f := f) (u := u) ⟨f1, f2⟩ ⟨u1, u2⟩
            rw [← T'.nv] at A2
            refine ⟨rfl, _, J', _, J' 94, n, m + 1, rfl, fun c hc => ?_, fun _ _ => rfl, ?_, A2⟩
            · unfold n_eng
              rw [m_ui_o (by omega), m_ui_o (by omega), m_ui_o (by omega), m_ui_o (by omega), m_ui_o (by omega), m_ci_o (by omega)]
            · exact r_T.mk (l6 := by omega) (le := rfl) (lt := fun k hk => absurd hk (Nat.not_lt_zero k)) (nv := rfl) (n1 := T'.n1) (nl := T'.nl) (tv := T'.tv)
        · have e6 : m = 6 := by omega
          rw [if_neg (show ¬ (k_sh 1 (I, J)).1 23 0 < 6 by rw [A.S.cm, e6]; decide)] at ex
          exact no (-3) (by decide) ex (fun I' J' A' T' => n_addE_3 I' _ f u q.1 q.2 m A'.S.mm m6 l T'.le T'.l6 hl1 ((key I' J' A' T').mpr hf) e6)
      · rw [if_neg hf] at ex
        exact no (-2) (by decide) ex (fun I' J' A' T' => n_addE_2 I' _ f u q.1 q.2 m A'.S.mm m6 l T'.le T'.l6 hl1 (fun z => hf ((key I' J' A' T').mp z)))
  · have ex : x_addE (I, J) f u = (-1, k_sh 1 (I, J)) := by
      unfold x_addE
      by_cases c1 : 1 ≤ f ∧ f ≤ 100000
      · rw [if_pos c1, if_neg (fun c2 => q ⟨c1, c2⟩)]
      · rw [if_neg c1]
    exact no (-1) (by decide) ex (fun I' J' A' T' => n_addE_1 I' _ f u q)
