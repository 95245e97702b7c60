/-! PAIRS: calls that set -/
section ZC
variable {lg : Prop} {κ κ' : k_M} {I I' : Nat → Nat → Int32} {J J' : Nat → Nat → Int64} {R G : Nat → Int64} {n m l N : Nat} {B : Int64} {nm : Int32} {tx : Nat → Int32}
theorem zC {f g : Nat} {as : List Value} {v : Option Value} (C : r_C (I, J) κ nm l N tx) (T : r_T nm l N tx I) (A : r_A True κ I J (J 78) n m 0) (h1 : m_W f 0 (lv_args 0 (.ref 0 :: as)) [] (I, J) (k_E 1 (I, J) v κ'))
    (h2 : ∀ I' J', r_A True κ I' J' (J' 78) n m 0 → r_T nm l N tx I' → m_W g 0 (lv_args 0 (.ref 77 :: as)) [] (I', n_J J' (J' 78) (J' 94)) (fun v' μ2 => v' = v ∧ ∃ I2 J2 R2 G2 n2 m2, μ2 = (I2, n_J J2 R2 G2) ∧ (∀ c, c < 77 → I2 c = I' c) ∧ (∀ c, c < 77 → J2 c = J' c) ∧ r_T nm l N tx I2 ∧ r_A True κ' I2 J2 R2 n2 m2 0)) : zG f g as (I, J) := by
  refine m_wk h1 ?_
  rintro _ ⟨I1, J1⟩ ⟨rfl, hk, hf⟩
  have f1 : ∀ c, 77 ≤ c → I1 c = I c := fun c hc => (hf c (by omega)).1
  have f2 : ∀ c, 77 ≤ c → J1 c = J c := fun c hc => (hf c (by omega)).2
  have C1 := C.kE hk hf
  have A1 : r_A True κ I1 J1 (J1 78) n m 0 := by rw [f2 78 (by omega)]; exact A.ij f1 f2
  have T1 : r_T nm l N tx I1 := T.ij (by rw [f1 77 (by omega)]) (by rw [f1 77 (by omega)]) (f1 92 (by omega)) (f1 93 (by omega))
  have h3 := h2 I1 J1 A1 T1
  rw [n_J_id] at h3
  refine m_wk h3 ?_
  rintro _ _ ⟨rfl, I2, J2, R2, G2, n2, m2, rfl, hI, hJ, T2, A2⟩
  exact ⟨rfl, z_end C1 hI hJ T2 A2⟩
/-- nothing has changed -/
theorem zC0 {f g : Nat} {as : List Value} {v : Option Value} (C : r_C (I, J) κ nm l N tx) (T : r_T nm l N tx I) (A : r_A True κ I J (J 78) n m 0) (h1 : m_W f 0 (lv_args 0 (.ref 0 :: as)) [] (I, J) (k_E 1 (I, J) v κ))
    (h2 : ∀ I' J', r_A True κ I' J' (J' 78) n m 0 → r_T nm l N tx I' → m_W g 0 (lv_args 0 (.ref 77 :: as)) [] (I', n_J J' (J' 78) (J' 94)) (m_E v (I', n_J J' (J' 78) (J' 94)))) : zG f g as (I, J) :=
  zC C T A h1 (fun I' J' A' T' => m_wk (h2 I' J' A' T') (fun v' μ2 h => ⟨h.1, I', J', J' 78, J' 94, n, m, h.2, fun _ _ => rfl, fun _ _ => rfl, T', A'⟩))
theorem r_fill (A : r_A lg κ I J R n m B) {i : Nat} (hi : i < 4) {x u : Int32} (hx : 0 ≤ x ∧ x ≤ 1000000000) (hu : 0 ≤ u ∧ u ≤ 1000000) (hb : ¬ k_isB κ) : r_A lg (k_fill κ i x u) I J (n_ld R i x u) n m B := by
  have n4 := A.S.n4
  have m6 := A.S.m6
  have x1 := hx.1
  have x2 := hx.2
  rw [Int32.le_iff_toInt_le, show (0 : Int32).toInt = 0 from rfl] at x1
  rw [Int32.le_iff_toInt_le, show (1000000000 : Int32).toInt = 1000000000 from rfl] at x2
  have u1 := hu.1
  have u2 := hu.2
  rw [Int32.le_iff_toInt_le, show (0 : Int32).toInt = 0 from rfl] at u1
  rw [Int32.le_iff_toInt_le, show (1000000 : Int32).toInt = 1000000 from rfl] at u2
  have xr : i_rg x.toInt64 0 1000000000 := by rw [i_rg, Int32.toInt_toInt64]; exact ⟨x1, x2⟩
  have s0 : 0 ≤ u.toInt * u.toInt := Int.mul_nonneg u1 u1
  have s1 : u.toInt * u.toInt ≤ 1000000 * 1000000 := Int.mul_le_mul u2 u2 u1 (by omega)
  have ur : i_rg (u.toInt64 * u.toInt64) 0 1000000000000000 := by
    rw [i_rg, q_mul, Int32.toInt_toInt64]
    · omega
    · rw [Int32.toInt_toInt64]; omega
    · rw [Int32.toInt_toInt64]; omega
  have o2 : ∀ c j, c ≠ 5 → c ≠ 6 → c ≠ 7 → c ≠ 8 → (k_fill κ i x u).2 c j = κ.2 c j := fun c j h5 h6 h7 h8 => by
    unfold k_fill
    dsimp only
    rw [m_uj_o h8, m_uj_o h7, m_uj_o h6, m_uj_o h5]
  have v5 : ∀ j, (k_fill κ i x u).2 5 j = if j = i then x.toInt64 else κ.2 5 j := fun j => rfl
  have v6 : ∀ j, (k_fill κ i x u).2 6 j = if j = i then x.toInt64 else κ.2 6 j := fun j => rfl
  have v7 : ∀ j, (k_fill κ i x u).2 7 j = if j = i then x.toInt64 else κ.2 7 j := fun j => rfl
  have v8 : ∀ j, (k_fill κ i x u).2 8 j = if j = i then u.toInt64 * u.toInt64 else κ.2 8 j := fun j => rfl
  have ro : ∀ k, (k < 5 * i ∨ 5 * i + 3 < k) → n_ld R i x u k = R k := fun k hk => by
    unfold n_ld; rw [r_un (by omega), r_un (by omega), r_un (by omega), r_un (by omega)]
  refine ⟨A.S.kk (fun _ _ _ _ => rfl) (fun _ _ _ => rfl) (fun j _ => o2 9 j (by omega) (by omega) (by omega) (by omega)), ?_, ?_, fun L => ?_⟩
  · refine r_D.mk (t0 := fun t ht => ?_) (t1 := fun t ht => ?_) (t2 := fun t ht => ?_) (t3 := fun t ht => ?_) (t4 := fun t ht => by rw [ro _ (by omega)]; exact A.D.t4 t ht) (e0 := fun j hj => by rw [ro _ (by omega)]; exact A.D.e0 j hj) (e1 := fun j hj => by rw [ro _ (by omega)]; exact A.D.e1 j hj) (e2 := fun j hj => by rw [ro _ (by omega)]; exact A.D.e2 j hj) (ti := by rw [ro _ (by omega)]; exact A.D.ti) (bu := by rw [ro _ (by omega)]; exact A.D.bu) (la := by rw [ro _ (by omega)]; exact A.D.la) (sv := by rw [ro _ (by omega)]; exact A.D.sv) (bk := by rw [ro _ (by omega)]; exact A.D.bk)
    · rw [v5]
      by_cases h : t = i
      · subst h; unfold n_ld; rw [r_un (by omega), r_un (by omega), r_un (by omega), r_us, if_pos rfl]
      · rw [if_neg h, ro _ (by omega)]; exact A.D.t0 t ht
    · rw [v6]
      by_cases h : t = i
      · subst h; unfold n_ld; rw [r_un (by omega), r_un (by omega), r_us, if_pos rfl]
      · rw [if_neg h, ro _ (by omega)]; exact A.D.t1 t ht
    · rw [v7]
      by_cases h : t = i
      · subst h; unfold n_ld; rw [r_un (by omega), r_us, if_pos rfl]
      · rw [if_neg h, ro _ (by omega)]; exact A.D.t2 t ht
    · rw [v8]
      by_cases h : t = i
      · subst h; unfold n_ld; rw [r_us, if_pos rfl]
      · rw [if_neg h, ro _ (by omega)]; exact A.D.t3 t ht
  · refine A.V.kk n4 m6 (fun _ _ _ _ => rfl) rfl (fun j _ => o2 9 j (by omega) (by omega) (by omega) (by omega)) (fun t ht => ?_) (fun t ht => ?_) (fun t ht => ?_) A.V.ti A.V.sv (Or.inl (show κ.1 0 7 = -1 ∧ κ.1 0 8 = 0 from r_nb (κ := κ) A.V hb A.S.cm m6)) A.V.op A.V.lw
    · rw [v5]; split
      · exact xr
      · exact A.V.m0 t ht
    · rw [v6]; split
      · exact xr
      · exact A.V.m1 t ht
    · rw [v8]; split
      · exact ur
      · exact A.V.va t ht
  · exact (A.L L).cg (fun _ _ _ _ => rfl) (fun j => o2 34 j (by omega) (by omega) (by omega) (by omega)) (fun k h1 h2 => ro k (by omega)) A.V.lws.2.2.2
theorem r_leakset (A : r_A lg κ I J R n m B) {i : Nat} {x : Int32} (hx : i_rh x 0 1000) : r_A lg (m_ui κ.1 4 i x, κ.2) (m_ui I 83 i x) J R n m B := by
  refine ⟨r_S.mk (cn := A.S.cn) (n4 := A.S.n4) (mn := A.S.mn) (cm := A.S.cm) (m6 := A.S.m6) (mm := A.S.mm) (den := A.S.den) (res := A.S.res) (gau := A.S.gau) (lk := fun t ht => ?_) (pts := fun t ht => by dsimp only; rw [m_ui_o (by omega), m_ui_o (by omega)]; exact A.S.pts t ht) (lvs := fun t ht i hi => by dsimp only; rw [m_ui_o (by omega), m_ui_o (by omega)]; exact A.S.lvs t ht i hi) (vos := fun t ht i hi => by dsimp only; rw [m_ui_o (by omega), m_ui_o (by omega)]; exact A.S.vos t ht i hi) (flo := A.S.flo) (dou := A.S.dou) (s0 := A.S.s0) (s1 := A.S.s1) (s2 := A.S.s2) (nam := A.S.nam), A.D, r_V.mk (m0 := A.V.m0) (m1 := A.V.m1) (va := A.V.va) (gv := A.V.gv) (g6 := A.V.g6) (de := A.V.de) (lk := fun t ht => ?_) (fl := A.V.fl) (dt := A.V.dt) (pt := fun t ht => by
      obtain ⟨p, a, b, c, d⟩ := A.V.pt t ht
      refine ⟨p, a, ?_, fun j hj => ?_, fun j hj => ?_⟩
      · dsimp only; rw [m_ui_o (by omega)]; exact b
      · dsimp only; rw [m_ui_o (by omega), m_ui_o (by omega)]; exact c j hj
      · dsimp only; rw [m_ui_o (by omega), m_ui_o (by omega)]; exact d j hj) (mg := A.V.mg) (ti := A.V.ti) (sv := A.V.sv) (bu := A.V.bu) (op := A.V.op) (lw := A.V.lw), A.L⟩
  · dsimp only
    by_cases h : t = i
    · subst h; rw [m_uik, m_uik]
    · rw [m_uin h, m_uin h]; exact A.S.lk t ht
  · dsimp only
    by_cases h : t = i
    · subst h; rw [m_uik]; exact hx
    · rw [m_uin h]; exact A.V.lk t ht
theorem r_gvset (A : r_A lg κ I J R n m B) {i : Nat} (hi : i < n) {x : Int64} (hx : i_rg x 1 1000000000000) : r_A lg (κ.1, m_uj κ.2 9 i x) I (m_uj J 82 i x) R n m B := by
  refine ⟨r_S.mk (cn := A.S.cn) (n4 := A.S.n4) (mn := A.S.mn) (cm := A.S.cm) (m6 := A.S.m6) (mm := A.S.mm) (den := A.S.den) (res := A.S.res) (gau := fun t ht => ?_) (lk := A.S.lk) (pts := A.S.pts) (lvs := A.S.lvs) (vos := A.S.vos) (flo := A.S.flo) (dou := A.S.dou) (s0 := A.S.s0) (s1 := A.S.s1) (s2 := A.S.s2) (nam := A.S.nam), r_D.mk (t0 := A.D.t0) (t1 := A.D.t1) (t2 := A.D.t2) (t3 := A.D.t3) (t4 := A.D.t4) (e0 := A.D.e0) (e1 := A.D.e1) (e2 := A.D.e2) (ti := A.D.ti) (bu := A.D.bu) (la := A.D.la) (sv := A.D.sv) (bk := A.D.bk), r_V.mk (m0 := A.V.m0) (m1 := A.V.m1) (va := A.V.va) (gv := fun t ht => ?_) (g6 := fun t h1 h2 => ?_) (de := A.V.de) (lk := A.V.lk) (fl := A.V.fl) (dt := A.V.dt) (pt := A.V.pt) (mg := A.V.mg) (ti := A.V.ti) (sv := A.V.sv) (bu := A.V.bu) (op := A.V.op) (lw := A.V.lw), fun L => (A.L L).cg (fun _ _ _ _ => rfl) (fun _ => rfl) (fun _ _ _ => rfl) A.V.lws.2.2.2⟩
  · dsimp only
    by_cases h : t = i
    · subst h; rw [m_ujk, m_ujk]
    · rw [m_ujn h, m_ujn h]; exact A.S.gau t ht
  · dsimp only
    by_cases h : t = i
    · subst h; rw [m_ujk]; exact hx
    · rw [m_ujn h]; exact A.V.gv t ht
  · dsimp only
    rw [m_ujn (by omega)]; exact A.V.g6 t h1 h2
theorem r_setset (A : r_A lg κ I J R n m B) {w : Nat} (hw : w < 3) {x : Int32} (hx : w = 2 → i_rh x 0 100) : r_A lg (m_ui κ.1 0 (4 + w) x, κ.2) (m_ui I 91 w x) J R n m B := by
  have o1 : ∀ c k, c ≠ 0 ∨ k ≠ 4 + w → (m_ui κ.1 0 (4 + w) x, κ.2).1 c k = κ.1 c k := fun c k h => by
    dsimp only
    by_cases hc : c = 0
    · subst hc; rw [m_uin (by omega)]
    · rw [m_ui_o hc]
  have v : ∀ j, j < 3 → (m_ui κ.1 0 (4 + w) x, κ.2).1 0 (4 + j) = m_ui I 91 w x 91 j ∨ j ≠ w := fun j _ => by
    by_cases h : j = w
    · subst h; exact Or.inl (by dsimp only; rw [m_uik, m_uik])
    · exact Or.inr h
  have sv : ∀ j, I 91 j = κ.1 0 (4 + j) → m_ui I 91 w x 91 j = (m_ui κ.1 0 (4 + w) x, κ.2).1 0 (4 + j) := fun j h => by
    dsimp only
    by_cases hj : j = w
    · subst hj; rw [m_uik, m_uik]
    · rw [m_uin hj, m_uin (by omega)]; exact h
  refine ⟨r_S.mk (cn := A.S.cn) (n4 := A.S.n4) (mn := A.S.mn) (cm := A.S.cm) (m6 := A.S.m6) (mm := A.S.mm) (den := A.S.den) (res := A.S.res) (gau := A.S.gau) (lk := A.S.lk) (pts := fun t ht => by rw [o1 _ _ (by omega)]; exact A.S.pts t ht) (lvs := fun t ht i hi => by rw [o1 _ _ (by omega)]; exact A.S.lvs t ht i hi) (vos := fun t ht i hi => by rw [o1 _ _ (by omega)]; exact A.S.vos t ht i hi) (flo := A.S.flo) (dou := A.S.dou) (s0 := sv 0 A.S.s0) (s1 := sv 1 A.S.s1) (s2 := sv 2 A.S.s2) (nam := A.S.nam), r_D.mk (t0 := A.D.t0) (t1 := A.D.t1) (t2 := A.D.t2) (t3 := A.D.t3) (t4 := A.D.t4) (e0 := fun e he => by rw [k_open_cg (o1 27 e (by omega)) (o1 1 0 (by omega))]; exact A.D.e0 e he) (e1 := A.D.e1) (e2 := A.D.e2) (ti := by rw [o1 0 3 (by omega)]; exact A.D.ti) (bu := by rw [o1 0 7 (by omega)]; exact A.D.bu) (la := by rw [k_len_cg (o1 0 3 (by omega)) (o1 0 7 (by omega)) (o1 0 9 (by omega)) (o1 23 0 (by omega))]; exact A.D.la) (sv := by rw [o1 0 8 (by omega)]; exact A.D.sv) (bk := A.D.bk), r_V.mk (m0 := A.V.m0) (m1 := A.V.m1) (va := A.V.va) (gv := A.V.gv) (g6 := A.V.g6) (de := A.V.de) (lk := A.V.lk) (fl := A.V.fl) (dt := A.V.dt) (pt := fun t ht => by
      obtain ⟨p, a, b, c, d⟩ := A.V.pt t ht
      refine ⟨p, a, ?_, fun j hj => ?_, fun j hj => ?_⟩
      · rw [o1 _ _ (by omega)]; exact b
      · rw [o1 _ _ (by omega), o1 _ _ (by omega)]; exact c j hj
      · rw [o1 _ _ (by omega), o1 _ _ (by omega), o1 _ _ (by omega), o1 _ _ (by omega)]; exact d j hj) (mg := by
      by_cases h : w = 2
      · subst h; exact hx rfl
      · rw [o1 0 6 (by omega)]; exact A.V.mg) (ti := by rw [o1 0 3 (by omega)]; exact A.V.ti) (sv := by rw [o1 0 8 (by omega)]; exact A.V.sv) (bu := by rw [o1 0 7 (by omega), o1 0 8 (by omega), o1 0 9 (by omega), o1 0 3 (by omega)]; exact A.V.bu) (op := A.V.op) (lw := A.V.lw), fun L => (A.L L).cg (fun c k h _ => o1 c k (by omega)) (fun _ => rfl) (fun _ _ _ => rfl) A.V.lws.2.2.2⟩
end ZC
theorem z_load (t x u : Int32) (μ : m_M) (hZ : Z μ) : zG 4 108 [.int t, .int x, .int u] μ := by
  obtain ⟨I, J⟩ := μ
  obtain ⟨κ, nm, l, N, tx, n, m, C, T, A⟩ := hZ
  have e1 := C.k1
  subst e1
  replace A : r_A True (k_sh 1 (I, J)) I J (J 78) n m 0 := A
  replace T : r_T nm l N tx I := T
  have n4 := A.S.n4
  have m6 := A.S.m6
  refine zC C T A (t_load I J t x u n A.S.cn n4 A.V.lw) (fun I' J' A' T' => m_wk (n_load I' J' (J' 78) (J' 94) t x u n A'.S.mn n4) ?_)
  rintro _ _ ⟨rfl, rfl⟩
  have h : (w_load (J' 78) n t x u).1 = (x_load (k_sh 1 (I, J)) t x u).1 ∧ r_A True (x_load (k_sh 1 (I, J)) t x u).2 I' J' (w_load (J' 78) n t x u).2 n m 0 := by
    unfold w_load x_load
    by_cases q : 0 ≤ t ∧ t < nI n
    · rw [if_pos q, if_pos ((r_hT A.S.cn).mpr q)]
      by_cases hx : 0 ≤ x ∧ x ≤ 1000000000
      · rw [if_pos hx, if_pos hx]
        by_cases hu : 0 ≤ u ∧ u ≤ 1000000
        · rw [if_pos hu, if_pos hu]
          have hB2 : (0 ≤ (J' 78) 39) ↔ k_isB (k_sh 1 (I, J)) := by rw [r_isB A'.S.cm m6 A'.V, A'.D.bu]; exact n_le64 (x := 0)
          by_cases hb : k_isB (k_sh 1 (I, J))
          · rw [if_pos hb, if_pos (hB2.mpr hb)]; exact ⟨rfl, A'⟩
          · rw [if_neg hb, if_neg (fun z => hb (hB2.mp z))]
            obtain ⟨i, hi, rfl⟩ := k_ix q (by omega)
            rw [show (nI i).toNatClampNeg = i from nI_clamp (by omega)]
            refine ⟨A'.D.t0 i (by omega), ?_⟩
            exact r_app (r_fill A' (show i < 4 by omega) hx hu hb) 5 (nI i) x.toInt64
        · rw [if_neg hu, if_neg hu]; exact ⟨rfl, A'⟩
      · rw [if_neg hx, if_neg hx]; exact ⟨rfl, A'⟩
    · rw [if_neg q, if_neg (fun z => q ((r_hT A.S.cn).mp z))]; exact ⟨rfl, A'⟩
  exact ⟨by rw [h.1], I', J', _, _, n, m, rfl, fun _ _ => rfl, fun _ _ => rfl, T', h.2⟩
theorem z_setLeak (t x : Int32) (μ : m_M) (hZ : Z μ) : zG 5 109 [.int t, .int x] μ := by
  obtain ⟨I, J⟩ := μ
  obtain ⟨κ, nm, l, N, tx, n, m, C, T, A⟩ := hZ
  have e1 := C.k1
  subst e1
  replace A : r_A True (k_sh 1 (I, J)) I J (J 78) n m 0 := A
  replace T : r_T nm l N tx I := T
  have n4 := A.S.n4
  refine zC C T A (t_setLeak I J t x n A.S.cn n4) (fun I' J' A' T' => m_wk (n_setLeak I' J' (J' 78) (J' 94) t x n A'.S.mn n4) ?_)
  rintro _ _ ⟨rfl, rfl⟩
  have h : (w_leak I' n t x).1 = (x_setLeak (k_sh 1 (I, J)) t x).1 ∧ (∀ c, c ≠ 83 → (w_leak I' n t x).2 c = I' c) ∧ r_A True (x_setLeak (k_sh 1 (I, J)) t x).2 (w_leak I' n t x).2 J' (J' 78) n m 0 := by
    unfold w_leak x_setLeak
    by_cases q : 0 ≤ t ∧ t < nI n
    · rw [if_pos q, if_pos ((r_hT A.S.cn).mpr q)]
      by_cases hx : 0 ≤ x ∧ x ≤ 1000
      · rw [if_pos hx, if_pos hx]
        obtain ⟨i, hi, rfl⟩ := k_ix q (by omega)
        rw [show (nI i).toNatClampNeg = i from nI_clamp (by omega)]
        have x1 := hx.1
        have x2 := hx.2
        rw [Int32.le_iff_toInt_le, show (0 : Int32).toInt = 0 from rfl] at x1
        rw [Int32.le_iff_toInt_le, show (1000 : Int32).toInt = 1000 from rfl] at x2
        exact ⟨A'.S.lk i (by omega), fun c hc => m_ui_o hc, r_leakset A' ⟨x1, x2⟩⟩
      · rw [if_neg hx, if_neg hx]; exact ⟨rfl, fun _ _ => rfl, A'⟩
    · rw [if_neg q, if_neg (fun z => q ((r_hT A.S.cn).mp z))]; exact ⟨rfl, fun _ _ => rfl, A'⟩
  exact ⟨by rw [h.1], _, J', J' 78, J' 94, n, m, rfl, fun c hc => h.2.1 c (by omega), fun _ _ => rfl, T'.ij (by rw [h.2.1 77 (by omega)]) (by rw [h.2.1 77 (by omega)]) (h.2.1 92 (by omega)) (h.2.1 93 (by omega)), h.2.2⟩
theorem z_setGV (t : Int32) (x : Int64) (μ : m_M) (hZ : Z μ) : zG 6 110 [.int t, .long x] μ := by
  obtain ⟨I, J⟩ := μ
  obtain ⟨κ, nm, l, N, tx, n, m, C, T, A⟩ := hZ
  have e1 := C.k1
  subst e1
  replace A : r_A True (k_sh 1 (I, J)) I J (J 78) n m 0 := A
  replace T : r_T nm l N tx I := T
  have n4 := A.S.n4
  refine zC C T A (t_setGV I J t x n A.S.cn n4) (fun I' J' A' T' => m_wk (n_setGV I' J' (J' 78) (J' 94) t x n A'.S.mn n4) ?_)
  rintro _ _ ⟨rfl, rfl⟩
  have h : (w_gv J' n t x).1 = (x_setGV (k_sh 1 (I, J)) t x).1 ∧ (∀ c, c ≠ 82 → (w_gv J' n t x).2 c = J' c) ∧ r_A True (x_setGV (k_sh 1 (I, J)) t x).2 I' (w_gv J' n t x).2 (J' 78) n m 0 := by
    unfold w_gv x_setGV
    by_cases q : 0 ≤ t ∧ t < nI n
    · rw [if_pos q, if_pos ((r_hT A.S.cn).mpr q)]
      obtain ⟨i, hi, rfl⟩ := k_ix q (by omega)
      rw [show (nI i).toNatClampNeg = i from nI_clamp (by omega)]
      by_cases h1 : x < 1
      · rw [if_pos h1, if_neg (fun z => absurd z.1 (Int64.not_le.mpr h1))]; exact ⟨rfl, fun _ _ => rfl, A'⟩
      · rw [if_neg h1]
        by_cases h2 : x ≤ 1000000000000
        · have h3 := Int64.not_lt.mp h1
          rw [if_pos h2, if_pos ⟨h3, h2⟩]
          have y1 := h3
          have y2 := h2
          rw [Int64.le_iff_toInt_le, show (1 : Int64).toInt = 1 from rfl] at y1
          rw [Int64.le_iff_toInt_le, show (1000000000000 : Int64).toInt = 1000000000000 from by decide +kernel] at y2
          exact ⟨A'.S.gau i hi, fun c hc => m_uj_o hc, r_gvset A' hi ⟨y1, y2⟩⟩
        · rw [if_neg h2, if_neg (fun z => h2 z.2)]; exact ⟨rfl, fun _ _ => rfl, A'⟩
    · rw [if_neg q, if_neg (fun z => q ((r_hT A.S.cn).mp z))]; exact ⟨rfl, fun _ _ => rfl, A'⟩
  exact ⟨by rw [h.1], I', _, J' 78, J' 94, n, m, rfl, fun _ _ => rfl, fun c hc => h.2.1 c (by omega), T', h.2.2⟩
theorem z_set (w x : Int32) (μ : m_M) (hZ : Z μ) : zG 9 114 [.int w, .int x] μ := by
  obtain ⟨I, J⟩ := μ
  obtain ⟨κ, nm, l, N, tx, n, m, C, T, A⟩ := hZ
  have e1 := C.k1
  subst e1
  replace A : r_A True (k_sh 1 (I, J)) I J (J 78) n m 0 := A
  replace T : r_T nm l N tx I := T
  have hc := t_xset I J w x
  unfold x_set at hc
  have fin : ∀ I' : Nat → Nat → Int32, r_T nm l N tx I' → ∀ k y, r_T nm l N tx (m_ui I' 91 k y) := fun I' T' k y => T'.ij (by rw [m_ui_o (by omega)]) (by rw [m_ui_o (by omega)]) (m_ui_o (by omega)) (m_ui_o (by omega))
  by_cases h0 : w = 0
  · subst h0
    rw [if_pos rfl] at hc
    by_cases q : 0 ≤ x ∧ x ≤ 5000
    · rw [if_pos q] at hc
      refine zC C T A hc (fun I' J' A' T' => m_wk (n_set_0 I' _ x) ?_)
      rintro _ _ ⟨rfl, rfl⟩
      rw [if_pos q, if_pos q]
      exact ⟨by rw [A'.S.s0], _, J', J' 78, J' 94, n, m, rfl, fun c hc => m_ui_o (by omega), fun _ _ => rfl, fin I' T' 0 x, r_setset A' (w := 0) (by omega) (fun z => absurd z (by omega))⟩
    · rw [if_neg q] at hc
      refine zC0 C T A hc (fun I' J' A' T' => ?_)
      have h := n_set_0 I' (n_J J' (J' 78) (J' 94)) x
      rw [if_neg q, if_neg q] at h
      exact h
  · rw [if_neg h0] at hc
    by_cases h1 : w = 1
    · subst h1
      rw [if_pos rfl] at hc
      by_cases q : 1 ≤ x ∧ x ≤ 100
      · rw [if_pos q] at hc
        refine zC C T A hc (fun I' J' A' T' => m_wk (n_set_1 I' _ x) ?_)
        rintro _ _ ⟨rfl, rfl⟩
        rw [if_pos q, if_pos q]
        exact ⟨by rw [A'.S.s1], _, J', J' 78, J' 94, n, m, rfl, fun c hc => m_ui_o (by omega), fun _ _ => rfl, fin I' T' 1 x, r_setset A' (w := 1) (by omega) (fun z => absurd z (by omega))⟩
      · rw [if_neg q] at hc
        refine zC0 C T A hc (fun I' J' A' T' => ?_)
        have h := n_set_1 I' (n_J J' (J' 78) (J' 94)) x
        rw [if_neg q, if_neg q] at h
        exact h
    · rw [if_neg h1] at hc
      by_cases h2 : w = 2
      · subst h2
        rw [if_pos rfl] at hc
        by_cases q : 0 ≤ x ∧ x ≤ 100
        · rw [if_pos q] at hc
          have x1 := q.1
          have x2 := q.2
          rw [Int32.le_iff_toInt_le, show (0 : Int32).toInt = 0 from rfl] at x1
          rw [Int32.le_iff_toInt_le, show (100 : Int32).toInt = 100 from rfl] at x2
          refine zC C T A hc (fun I' J' A' T' => m_wk (n_set_2 I' _ x) ?_)
          rintro _ _ ⟨rfl, rfl⟩
          rw [if_pos q, if_pos q]
          exact ⟨by rw [A'.S.s2], _, J', J' 78, J' 94, n, m, rfl, fun c hc => m_ui_o (by omega), fun _ _ => rfl, fin I' T' 2 x, r_setset A' (w := 2) (by omega) (fun _ => ⟨x1, x2⟩)⟩
        · rw [if_neg q] at hc
          refine zC0 C T A hc (fun I' J' A' T' => ?_)
          have h := n_set_2 I' (n_J J' (J' 78) (J' 94)) x
          rw [if_neg q, if_neg q] at h
          exact h
      · rw [if_neg h2] at hc
        refine zC0 C T A hc (fun I' J' A' T' => n_set_o I' _ w x (fun z => ?_))
        obtain ⟨k, hk, rfl⟩ := k_ix (x := w) (n := 3) ⟨z.1, Int32.lt_of_le_of_lt z.2 (by decide)⟩ (by omega)
        rcases (show k = 0 ∨ k = 1 ∨ k = 2 by omega) with rfl | rfl | rfl
        · exact h0 rfl
        · exact h1 rfl
        · exact h2 rfl
