/-! PAIRS: tanks, points, engines are added -/
theorem n_opn_v {R : Nat → Int64} {n e : Nat} : ∀ {i : Nat}, n_opn R n i (20 + 3 * e + 0) = if e < i then R (20 + 3 * e + 0) ||| (1 : Int64) <<< ((nI n : Int32).toInt64 &&& 63) else R (20 + 3 * e + 0)
  | 0 => (if_neg (Nat.not_lt_zero e)).symm
  | i + 1 => by
    rw [n_opn]
    by_cases h : e = i
    · subst h
      rw [r_us, if_pos (Nat.lt_succ_self e), n_opn_v, if_neg (Nat.lt_irrefl e)]
    · rw [r_un (by omega), n_opn_v]
      by_cases h2 : e < i
      · rw [if_pos h2, if_pos (by omega)]
      · rw [if_neg h2, if_neg (by omega)]
theorem n_opn_o {R : Nat → Int64} {n k : Nat} : ∀ {i : Nat}, i ≤ 6 → (k < 20 ∨ 37 < k ∨ (k - 20) % 3 ≠ 0) → n_opn R n i k = R k
  | 0, _, _ => rfl
  | i + 1, hi, h => by rw [n_opn, r_un (by omega)]; exact n_opn_o (by omega) h
section AD
variable {lg : Prop} {κ : k_M} {I : Nat → Nat → Int32} {J : Nat → Nat → Int64} {R : Nat → Int64} {n m : Nat} {B : Int64}
theorem r_addT (A : r_A lg κ I J R n m B) (hn : n < 4) {d r : Int32} (hd : i_rh d 1 3000) : r_A lg (m_ui (m_ui (m_ui κ.1 2 n d) 3 n r) 1 0 (κ.1 1 0 + 1), κ.2) (m_ui I 77 2 (nI n + 1)) (m_uj (m_uj (m_uj J 80 n d.toInt64) 81 n r.toInt64) 82 n 1000000) (n_opn R n m) (n + 1) m B := by
  have m6 := A.S.m6
  have o1 : ∀ c k, c ≠ 1 → c ≠ 2 → c ≠ 3 → (m_ui (m_ui (m_ui κ.1 2 n d) 3 n r) 1 0 (κ.1 1 0 + 1), κ.2).1 c k = κ.1 c k := fun c k h1 h2 h3 => by
    dsimp only
    rw [m_ui_o h1, m_ui_o h3, m_ui_o h2]
  have v1 : (m_ui (m_ui (m_ui κ.1 2 n d) 3 n r) 1 0 (κ.1 1 0 + 1), κ.2).1 1 0 = nI (n + 1) := by
    show κ.1 1 0 + 1 = _
    rw [A.S.cn, nI_1]
  have v2 : ∀ t, (m_ui (m_ui (m_ui κ.1 2 n d) 3 n r) 1 0 (κ.1 1 0 + 1), κ.2).1 2 t = if t = n then d else κ.1 2 t := fun t => rfl
  have v3 : ∀ t, (m_ui (m_ui (m_ui κ.1 2 n d) 3 n r) 1 0 (κ.1 1 0 + 1), κ.2).1 3 t = if t = n then r else κ.1 3 t := fun t => rfl
  have j0 : ∀ t, m_uj (m_uj (m_uj J 80 n d.toInt64) 81 n r.toInt64) 82 n 1000000 80 t = if t = n then d.toInt64 else J 80 t := fun t => rfl
  have j1 : ∀ t, m_uj (m_uj (m_uj J 80 n d.toInt64) 81 n r.toInt64) 82 n 1000000 81 t = if t = n then r.toInt64 else J 81 t := fun t => rfl
  have j2 : ∀ t, m_uj (m_uj (m_uj J 80 n d.toInt64) 81 n r.toInt64) 82 n 1000000 82 t = if t = n then 1000000 else J 82 t := fun t => rfl
  generalize hK : (m_ui (m_ui (m_ui κ.1 2 n d) 3 n r) 1 0 (κ.1 1 0 + 1), κ.2) = K at *
  have k2 : K.2 = κ.2 := by rw [← hK]
  have i1 : ∀ c k, c ≠ 77 ∨ k ≠ 2 → m_ui I 77 2 (nI n + 1) c k = I c k := fun c k h => by
    by_cases hc : c = 77
    · subst hc; rw [m_uin (by omega)]
    · rw [m_ui_o hc]
  have i2 : ∀ c, c ≠ 77 → m_ui I 77 2 (nI n + 1) c = I c := fun c h => m_ui_o h
  refine ⟨r_S.mk (cn := v1) (n4 := by omega) (mn := nI_1 n) (cm := by rw [o1 23 0 (by omega) (by omega) (by omega)]; exact A.S.cm) (m6 := m6) (mm := by rw [i1 77 10 (by omega)]; exact A.S.mm) (den := fun t ht => ?_) (res := fun t ht => ?_) (gau := fun t ht => ?_) (lk := fun t ht => by rw [i1 83 t (by omega), o1 4 t (by omega) (by omega) (by omega)]; exact A.S.lk t ht) (pts := fun t ht => by rw [i1 84 t (by omega), o1 _ 0 (by omega) (by omega) (by omega)]; exact A.S.pts t ht) (lvs := fun t ht i hi => by rw [i1 85 _ (by omega), o1 _ i (by omega) (by omega) (by omega)]; exact A.S.lvs t ht i hi) (vos := fun t ht i hi => by rw [i1 86 _ (by omega), o1 _ i (by omega) (by omega) (by omega)]; exact A.S.vos t ht i hi) (flo := fun e he => by rw [i1 89 e (by omega), o1 25 e (by omega) (by omega) (by omega)]; exact A.S.flo e he) (dou := fun e he => by rw [i1 90 e (by omega), o1 26 e (by omega) (by omega) (by omega)]; exact A.S.dou e he) (s0 := by rw [i1 91 0 (by omega), o1 0 4 (by omega) (by omega) (by omega)]; exact A.S.s0) (s1 := by rw [i1 91 1 (by omega), o1 0 5 (by omega) (by omega) (by omega)]; exact A.S.s1) (s2 := by rw [i1 91 2 (by omega), o1 0 6 (by omega) (by omega) (by omega)]; exact A.S.s2) (nam := fun e he => by rw [i2 87 (by omega), i2 88 (by omega), o1 24 e (by omega) (by omega) (by omega)]; exact A.S.nam e he), ?_, r_V.mk (m0 := fun t ht => by rw [k2]; exact A.V.m0 t ht) (m1 := fun t ht => by rw [k2]; exact A.V.m1 t ht) (va := fun t ht => by rw [k2]; exact A.V.va t ht) (gv := fun t ht => by rw [k2]; exact A.V.gv t ht) (g6 := fun t h1 h2 => by rw [k2]; exact A.V.g6 t (by omega) h2) (de := fun t ht => ?_) (lk := fun t ht => by rw [o1 4 t (by omega) (by omega) (by omega)]; exact A.V.lk t ht) (fl := fun e he => by rw [o1 25 e (by omega) (by omega) (by omega)]; exact A.V.fl e he) (dt := fun e he => by rw [o1 26 e (by omega) (by omega) (by omega)]; exact A.V.dt e he) (pt := fun t ht => by
      obtain ⟨p, a, b, c, d⟩ := A.V.pt t ht
      refine ⟨p, a, ?_, fun j hj => ?_, fun j hj => ?_⟩
      · rw [o1 _ _ (by omega) (by omega) (by omega)]; exact b
      · rw [o1 _ _ (by omega) (by omega) (by omega), o1 _ _ (by omega) (by omega) (by omega)]; exact c j hj
      · rw [o1 _ _ (by omega) (by omega) (by omega), o1 _ _ (by omega) (by omega) (by omega), o1 _ _ (by omega) (by omega) (by omega), o1 _ _ (by omega) (by omega) (by omega)]; exact d j hj) (mg := by rw [o1 0 6 (by omega) (by omega) (by omega)]; exact A.V.mg) (ti := by rw [o1 0 3 (by omega) (by omega) (by omega)]; exact A.V.ti) (sv := by rw [o1 0 8 (by omega) (by omega) (by omega)]; exact A.V.sv) (bu := by rw [o1 0 7 (by omega) (by omega) (by omega), o1 0 8 (by omega) (by omega) (by omega), o1 0 9 (by omega) (by omega) (by omega), o1 0 3 (by omega) (by omega) (by omega), k2]; exact A.V.bu) (op := fun e he => by
      obtain ⟨b, b1, b2, b3, b4⟩ := A.V.op e he
      refine ⟨b, b1, ?_, fun h t h1 h2 => b3 h t (by omega) h2, b4⟩
      rw [o1 27 e (by omega) (by omega) (by omega)]; exact b2) (lw := k_lw_cg A.V.lw (o1 30 0 (by omega) (by omega) (by omega)) (o1 30 1 (by omega) (by omega) (by omega))), fun L => (A.L L).cg (fun c k h _ => o1 c k (by omega) (by omega) (by omega)) (fun j => by rw [k2]) (fun k h1 h2 => n_opn_o m6 (by omega)) A.V.lws.2.2.2⟩
  · rw [j0, v2]
    by_cases h : t = n
    · rw [if_pos h, if_pos h]
    · rw [if_neg h, if_neg h]; exact A.S.den t (by omega)
  · rw [j1, v3]
    by_cases h : t = n
    · rw [if_pos h, if_pos h]
    · rw [if_neg h, if_neg h]; exact A.S.res t (by omega)
  · rw [j2, k2]
    by_cases h : t = n
    · rw [if_pos h, h]; exact (A.V.g6 n (Nat.le_refl n) hn).symm
    · rw [if_neg h]; exact A.S.gau t (by omega)
  · have ball : k_ball K = k_ball κ := by unfold k_ball; rw [k2]
    refine r_D.mk (t0 := fun t ht => by rw [n_opn_o m6 (by omega), k2]; exact A.D.t0 t ht) (t1 := fun t ht => by rw [n_opn_o m6 (by omega), k2]; exact A.D.t1 t ht) (t2 := fun t ht => by rw [n_opn_o m6 (by omega), k2]; exact A.D.t2 t ht) (t3 := fun t ht => by rw [n_opn_o m6 (by omega), k2]; exact A.D.t3 t ht) (t4 := fun t ht => by rw [n_opn_o m6 (by omega), k2]; exact A.D.t4 t ht) (e0 := fun e he => ?_) (e1 := fun e he => by rw [n_opn_o m6 (by omega), k2]; exact A.D.e1 e he) (e2 := fun e he => by rw [n_opn_o m6 (by omega), k2]; exact A.D.e2 e he) (ti := by rw [n_opn_o m6 (by omega), o1 0 3 (by omega) (by omega) (by omega)]; exact A.D.ti) (bu := by rw [n_opn_o m6 (by omega), o1 0 7 (by omega) (by omega) (by omega)]; exact A.D.bu) (la := by rw [n_opn_o m6 (by omega), k_len_cg (o1 0 3 (by omega) (by omega) (by omega)) (o1 0 7 (by omega) (by omega) (by omega)) (o1 0 9 (by omega) (by omega) (by omega)) (o1 23 0 (by omega) (by omega) (by omega))]; exact A.D.la) (sv := by rw [n_opn_o m6 (by omega), o1 0 8 (by omega) (by omega) (by omega)]; exact A.D.sv) (bk := by rw [n_opn_o m6 (by omega), ball]; exact A.D.bk)
    obtain ⟨b, b1, b2, b3, b4⟩ := A.V.op e he
    rw [n_opn_v, A.D.e0 e he, r_opn A.S.cn, r_opn v1, o1 27 e (by omega) (by omega) (by omega), b2]
    by_cases h : e < m
    · rw [if_pos h]
      exact b_ad n hn b b1 (b3 h n (Nat.le_refl n) hn)
    · rw [if_neg h, b4 (by omega)]
      have : ∀ n, n < 4 → (nI 0 &&& b_all n).toInt64 = (nI 0 &&& b_all (n + 1)).toInt64 := by decide +kernel
      exact this n hn
  · rw [v2]
    by_cases h : t = n
    · rw [if_pos h]; exact hd
    · rw [if_neg h]; exact A.V.de t (by omega)
end AD
theorem z_addTank (d r : Int32) (μ : m_M) (hZ : Z μ) : zG 1 104 [.int d, .int r] μ := by
  obtain ⟨I, J⟩ := μ
  obtain ⟨κ, nm, l, N, tx, n, m, C, T, A⟩ := hZ
  have e1 := C.k1
  subst e1
  replace A : r_A True (k_sh 1 (I, J)) I J (J 78) n m 0 := A
  replace T : r_T nm l N tx I := T
  have n4 := A.S.n4
  have m6 := A.S.m6
  have hc := t_addTank I J d r n A.S.cn n4
  unfold x_addTank at hc
  by_cases hd : 1 ≤ d ∧ d ≤ 3000
  · rw [if_pos hd] at hc
    by_cases hr : 0 ≤ r ∧ r ≤ 1000000000
    · rw [if_pos hr] at hc
      have hB := r_isB A.S.cm m6 A.V
      by_cases hb : k_isB (k_sh 1 (I, J))
      · rw [if_pos hb] at hc
        refine zC0 C T A hc (fun I' J' A' T' => ?_)
        have h := n_addTank I' J' (J' 78) (J' 94) d r n A'.S.mn n4 m A'.S.mm m6
        unfold w_addT at h
        rw [if_pos hd, if_pos hr, if_pos (by rw [A'.D.bu]; exact n_le64 (x := 0).mpr hb.1)] at h
        exact h
      · rw [if_neg hb] at hc
        have h39 : ∀ J' : Nat → Nat → Int64, ∀ I', r_A True (k_sh 1 (I, J)) I' J' (J' 78) n m 0 → ¬ 0 ≤ (J' 78) 39 := fun J' I' A' q => hb (hB.mpr (by rw [A'.D.bu] at q; exact n_le64 (x := 0).mp q))
        unfold k_addT at hc
        by_cases hn : n < 4
        · rw [if_pos (show (k_sh 1 (I, J)).1 1 0 < 4 by rw [A.S.cn]; exact nI_lt (b := 4) hn (by omega))] at hc
          have d1 := hd.1
          have d2 := hd.2
          rw [Int32.le_iff_toInt_le, show (1 : Int32).toInt = 1 from rfl] at d1
          rw [Int32.le_iff_toInt_le, show (3000 : Int32).toInt = 3000 from rfl] at d2
          refine zC C T A hc (fun I' J' A' T' => m_wk (n_addTank I' J' (J' 78) (J' 94) d r n A'.S.mn n4 m A'.S.mm m6) ?_)
          rintro _ _ ⟨rfl, rfl⟩
          unfold w_addT
          rw [if_pos hd, if_pos hr, if_neg (h39 J' I' A'), if_neg (show ¬ nI n = 4 from fun z => absurd ((nI_eq (b := 4) (by omega) (by omega)).mp z) (by omega))]
          refine ⟨by rw [A.S.cn], _, _, _, _, n + 1, m, rfl, fun c hc => m_ui_o (by omega), fun c hc => by rw [m_uj_o (by omega), m_uj_o (by omega), m_uj_o (by omega)], T'.ij rfl rfl rfl rfl, r_addT A' hn ⟨d1, d2⟩⟩
        · have e4 : n = 4 := by omega
          rw [if_neg (show ¬ (k_sh 1 (I, J)).1 1 0 < 4 by rw [A.S.cn, e4]; decide)] at hc
          refine zC0 C T A hc (fun I' J' A' T' => ?_)
          have h := n_addTank I' J' (J' 78) (J' 94) d r n A'.S.mn n4 m A'.S.mm m6
          unfold w_addT at h
          rw [if_pos hd, if_pos hr, if_neg (h39 J' I' A'), if_pos (show nI n = 4 by rw [e4]; rfl)] at h
          exact h
    · rw [if_neg hr] at hc
      refine zC0 C T A hc (fun I' J' A' T' => ?_)
      have h := n_addTank I' J' (J' 78) (J' 94) d r n A'.S.mn n4 m A'.S.mm m6
      unfold w_addT at h
      rw [if_pos hd, if_neg hr] at h
      exact h
  · rw [if_neg hd] at hc
    refine zC0 C T A hc (fun I' J' A' T' => ?_)
    have h := n_addTank I' J' (J' 78) (J' 94) d r n A'.S.mn n4 m A'.S.mm m6
    unfold w_addT at h
    rw [if_neg hd] at h
    exact h
