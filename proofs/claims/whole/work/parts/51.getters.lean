/-! PAIRS: calls that only answer -/
section GB
variable {lg : Prop} {κ : k_M} {I : Nat → Nat → Int32} {J : Nat → Nat → Int64} {R : Nat → Int64} {n m : Nat} {B : Int64}
theorem s_isq_b {v : Nat} (h : v ≤ 1000000000000001) : s_isq v ≤ 31622777 := by
  have a := (s_isq_sp v).1
  rcases Nat.lt_or_ge 31622777 (s_isq v) with q | q
  · have := Nat.mul_le_mul (Nat.le_of_lt q) (Nat.le_of_lt q)
    omega
  · exact q
theorem lN_ti {v : Nat} (h : v < 9223372036854775808) : (lN v).toInt = (v : Int) := by
  show (Int64.ofNat v).toInt = _
  exact Int64.toInt_ofNat_of_lt (by omega)
theorem s_rt_lN {v : Nat} (h : v ≤ 1000000000000001) : s_rt (lN v) = lN (s_isq v) := by
  unfold s_rt
  rw [lN_ti (by omega)]
  rfl
theorem r_usb (A : r_A lg κ I J R n m B) {t : Nat} (ht : t < n) : n_us R (J 81) (I 91 2) t = k_us κ t (κ.1 0 6) := by
  have n4 := A.S.n4
  obtain ⟨v, v1, v2⟩ := i_nat (b := 1000000000000000) (A.V.va t (by omega)) (by omega)
  have g := A.V.mg
  have g1 := g.1
  have g2 := g.2
  unfold n_us k_us
  rw [A.D.t2 t (by omega), A.D.t3 t (by omega), A.S.res t ht, A.S.s2, n_mx_k, v2, s_rt_lN (by omega)]
  have hq := s_isq_b (v := v) (by omega)
  have e : (lN (s_isq v)).toInt = (s_isq v : Int) := lN_ti (by omega)
  have p0 : 0 ≤ (κ.1 0 6).toInt * (s_isq v : Int) := Int.mul_nonneg g1 (by omega)
  have p1 : (κ.1 0 6).toInt * (s_isq v : Int) ≤ 100 * 31622777 := Int.mul_le_mul g2 (by omega) (by omega) (by omega)
  have hm : ((κ.1 0 6).toInt64 * lN (s_isq v)).toInt = (κ.1 0 6).toInt * (s_isq v : Int) := by
    rw [q_mul, e, Int32.toInt_toInt64] <;> rw [e, Int32.toInt_toInt64] <;> omega
  rw [s_fl_pos (by rw [hm]; exact p0) (by decide)]
theorem r_un1 (A : r_A lg κ I J R n m B) {t : Nat} (ht : t < n) : k_un (κ.2 8 t) = s_rt (R (5 * t + 3) + 1) ∧ 0 < (s_rt (R (5 * t + 3) + 1)).toInt ∧ ∃ v, R (5 * t + 3) + 1 = lN v ∧ v ≤ 1000000000000001 := by
  have n4 := A.S.n4
  obtain ⟨v, v1, v2⟩ := i_nat (b := 1000000000000000) (A.V.va t (by omega)) (by omega)
  have e1 : κ.2 8 t + 1 = lN (v + 1) := by
    rw [v2]
    apply Int64.toInt_inj.mp
    rw [q_add, lN_ti (by omega), lN_ti (by omega), show (1 : Int64).toInt = 1 from rfl]
    · omega
    · rw [lN_ti (by omega), show (1 : Int64).toInt = 1 from rfl]; omega
    · rw [lN_ti (by omega), show (1 : Int64).toInt = 1 from rfl]; omega
  have hs := (s_isq_sp (v + 1)).2
  have hq := s_isq_b (v := v + 1) (by omega)
  have h1 : 1 ≤ s_isq (v + 1) := by
    rcases Nat.eq_zero_or_pos (s_isq (v + 1)) with q | q
    · rw [q] at hs; omega
    · exact q
  have e2 : s_rt (κ.2 8 t + 1) = lN (s_isq (v + 1)) := by rw [e1, s_rt_lN (by omega)]
  have e3 : (lN (s_isq (v + 1))).toInt = (s_isq (v + 1) : Int) := lN_ti (by omega)
  rw [A.D.t3 t (by omega)]
  refine ⟨?_, by rw [e2, e3]; omega, v + 1, e1, by omega⟩
  unfold k_un
  rw [e2]
  by_cases c : 1 < lN (s_isq (v + 1))
  · rw [if_pos c]
  · rw [if_neg c]
    rw [Int64.lt_iff_toInt_lt, e3, show (1 : Int64).toInt = 1 from rfl] at c
    apply Int64.toInt_inj.mp
    rw [e3, show (1 : Int64).toInt = 1 from rfl]
    omega
end GB
theorem z_tankCount (μ : m_M) (hZ : Z μ) : zG 7 111 [] μ := by
  have hZ' := hZ
  obtain ⟨I, J⟩ := μ
  obtain ⟨κ, nm, l, N, tx, n, m, C, T, A⟩ := hZ
  have e1 := C.k1
  subst e1
  replace A : r_A True (k_sh 1 (I, J)) I J (J 78) n m 0 := A
  replace T : r_T nm l N tx I := T
  exact zB hZ' (t_tankCount I J) (n_tankCount I J) (by rw [A.S.mn, A.S.cn])
theorem z_time (μ : m_M) (hZ : Z μ) : zG 19 129 [] μ := by
  have hZ' := hZ
  obtain ⟨I, J⟩ := μ
  obtain ⟨κ, nm, l, N, tx, n, m, C, T, A⟩ := hZ
  have e1 := C.k1
  subst e1
  replace A : r_A True (k_sh 1 (I, J)) I J (J 78) n m 0 := A
  replace T : r_T nm l N tx I := T
  have h := n_time I J (J 78) (J 94)
  rw [n_J_id] at h
  exact zB hZ' (t_time I J) h (by rw [A.D.ti, Int32.toInt32_toInt64])
theorem z_entryCount (μ : m_M) (hZ : Z μ) : zG 23 135 [] μ := by
  have hZ' := hZ
  obtain ⟨I, J⟩ := μ
  obtain ⟨κ, nm, l, N, tx, n, m, C, T, A⟩ := hZ
  have e1 := C.k1
  subst e1
  replace A : r_A True (k_sh 1 (I, J)) I J (J 78) n m 0 := A
  replace T : r_T nm l N tx I := T
  have h := n_entryCount I J (J 78) (J 94)
  rw [n_J_id] at h
  exact zB hZ' (t_entryCount I J) h (by rw [(A.L trivial).ct, Int32.toInt32_toInt64])
theorem z_used (e : Int32) (μ : m_M) (hZ : Z μ) : zG 14 120 [.int e] μ := by
  have hZ' := hZ
  obtain ⟨I, J⟩ := μ
  obtain ⟨κ, nm, l, N, tx, n, m, C, T, A⟩ := hZ
  have e1 := C.k1
  subst e1
  replace A : r_A True (k_sh 1 (I, J)) I J (J 78) n m 0 := A
  replace T : r_T nm l N tx I := T
  have m6 := A.S.m6
  have h := n_used I J (J 78) (J 94) e m A.S.mm m6
  rw [n_J_id] at h
  refine zB hZ' (t_used I J e m A.S.cm m6) h ?_
  unfold w_used x_used
  by_cases q : 0 ≤ e ∧ e < nI m
  · rw [if_pos q, if_pos ((r_hE A.S.cm).mpr q)]
    obtain ⟨j, hj, rfl⟩ := k_ix q (by omega)
    rw [show (nI j).toNatClampNeg = j from nI_clamp (by omega), A.D.e1 j (by omega)]
  · rw [if_neg q, if_neg (fun x => q ((r_hE A.S.cm).mp x))]
theorem z_delivered (e : Int32) (μ : m_M) (hZ : Z μ) : zG 15 121 [.int e] μ := by
  have hZ' := hZ
  obtain ⟨I, J⟩ := μ
  obtain ⟨κ, nm, l, N, tx, n, m, C, T, A⟩ := hZ
  have e1 := C.k1
  subst e1
  replace A : r_A True (k_sh 1 (I, J)) I J (J 78) n m 0 := A
  replace T : r_T nm l N tx I := T
  have m6 := A.S.m6
  have h := n_delivered I J (J 78) (J 94) e m A.S.mm m6
  rw [n_J_id] at h
  refine zB hZ' (t_delivered I J e m A.S.cm m6) h ?_
  unfold w_used x_used
  by_cases q : 0 ≤ e ∧ e < nI m
  · rw [if_pos q, if_pos ((r_hE A.S.cm).mpr q)]
    obtain ⟨j, hj, rfl⟩ := k_ix q (by omega)
    rw [show (nI j).toNatClampNeg = j from nI_clamp (by omega), A.D.e2 j (by omega)]
  · rw [if_neg q, if_neg (fun x => q ((r_hE A.S.cm).mp x))]
theorem z_burn (w : Int32) (μ : m_M) (hZ : Z μ) : zG 20 131 [.int w] μ := by
  have hZ' := hZ
  obtain ⟨I, J⟩ := μ
  obtain ⟨κ, nm, l, N, tx, n, m, C, T, A⟩ := hZ
  have e1 := C.k1
  subst e1
  replace A : r_A True (k_sh 1 (I, J)) I J (J 78) n m 0 := A
  replace T : r_T nm l N tx I := T
  have h := n_burn I J (J 78) (J 94) w
  rw [n_J_id] at h
  refine zB hZ' (t_burn I J w) h ?_
  have hs := r_set A
  have e0 : ((J 78) 39).toInt32 = (k_sh 1 (I, J)).1 0 7 := by rw [A.D.bu, Int32.toInt32_toInt64]
  have e2 : ((J 78) 40).toInt32 = k_len (k_sh 1 (I, J)) := by rw [A.D.la, Int32.toInt32_toInt64]
  have e3 : ((J 78) 41).toInt32 = (if (k_sh 1 (I, J)).1 0 8 = 0 then 0 else 1) := by
    rw [A.D.sv, Int32.toInt32_toInt64]
    rcases A.V.sv with q | q
    · rw [q]; rfl
    · rw [q]; rfl
  unfold w_burn x_burn
  rw [e0, e2, e3]
  by_cases c : k_set (k_sh 1 (I, J))
  · rw [if_pos c, if_pos (hs.mpr c)]
  · rw [if_neg c, if_neg (fun x => c (hs.mp x))]
theorem z_weight (t : Int32) (μ : m_M) (hZ : Z μ) : zG 22 134 [.int t] μ := by
  have hZ' := hZ
  obtain ⟨I, J⟩ := μ
  obtain ⟨κ, nm, l, N, tx, n, m, C, T, A⟩ := hZ
  have e1 := C.k1
  subst e1
  replace A : r_A True (k_sh 1 (I, J)) I J (J 78) n m 0 := A
  replace T : r_T nm l N tx I := T
  have n4 := A.S.n4
  have h1 := t_weight I J t n A.S.cn n4
  unfold x_weight at h1
  by_cases q : 0 ≤ t ∧ t < nI n
  · rw [if_pos ((r_hT A.S.cn).mpr q)] at h1
    obtain ⟨i, hi, rfl⟩ := k_ix q (by omega)
    rw [show (nI i).toNatClampNeg = i from nI_clamp (by omega)] at h1
    obtain ⟨i1, i2, i3⟩ := r_iv A hi
    obtain ⟨w1, w2, w3⟩ := r_wt A hi
    have h := n_weight_i I J (J 78) (J 94) n A.S.mn n4 i hi (by
      rw [i2]
      intro q
      have := congrArg Int64.toInt q
      rw [i3, show (0 : Int64).toInt = 0 from rfl] at this
      have a := (A.V.va i (by omega)).1
      have b := (A.V.gv i (by omega)).1
      omega)
    rw [n_J_id] at h
    exact zB hZ' h1 h (by rw [w3])
  · rw [if_neg (fun x => q ((r_hT A.S.cn).mp x))] at h1
    have h := n_weight_o I J (J 78) (J 94) n A.S.mn n4 t q
    rw [n_J_id] at h
    exact zB hZ' h1 h rfl
theorem z_drift (t : Int32) (μ : m_M) (hZ : Z μ) : zG 31 156 [.int t] μ := by
  have hZ' := hZ
  obtain ⟨I, J⟩ := μ
  obtain ⟨κ, nm, l, N, tx, n, m, C, T, A⟩ := hZ
  have e1 := C.k1
  subst e1
  replace A : r_A True (k_sh 1 (I, J)) I J (J 78) n m 0 := A
  replace T : r_T nm l N tx I := T
  have n4 := A.S.n4
  have h1 := t_drift I J t n A.S.cn n4 (fun t ht => i_nat (b := 1000000000000000) (A.V.va t (by omega)) (by omega))
  unfold x_drift at h1
  by_cases q : 0 ≤ t ∧ t < nI n
  · rw [if_pos ((r_hT A.S.cn).mpr q)] at h1
    obtain ⟨i, hi, rfl⟩ := k_ix q (by omega)
    rw [show (nI i).toNatClampNeg = i from nI_clamp (by omega)] at h1
    obtain ⟨u1, u2, v, u3, u4⟩ := r_un1 A hi
    have h := n_drift_i I J (J 78) (J 94) n A.S.mn n4 i hi v u3 u4 u2
    rw [n_J_id] at h
    refine zB hZ' h1 h ?_
    unfold k_dr
    rw [A.D.t2 i (by omega), A.D.t1 i (by omega), u1]
  · rw [if_neg (fun x => q ((r_hT A.S.cn).mp x))] at h1
    have h := n_drift_o I J (J 78) (J 94) n A.S.mn n4 t q
    rw [n_J_id] at h
    exact zB hZ' h1 h rfl
theorem z_mass (t w : Int32) (μ : m_M) (hZ : Z μ) : zG 8 113 [.int t, .int w] μ := by
  have hZ' := hZ
  obtain ⟨I, J⟩ := μ
  obtain ⟨κ, nm, l, N, tx, n, m, C, T, A⟩ := hZ
  have e1 := C.k1
  subst e1
  replace A : r_A True (k_sh 1 (I, J)) I J (J 78) n m 0 := A
  replace T : r_T nm l N tx I := T
  have n4 := A.S.n4
  have hv : ∀ t, t < 4 → ∃ v, v ≤ 1000000000000000 ∧ (k_sh 1 (I, J)).2 8 t = lN v := fun t ht => i_nat (b := 1000000000000000) (A.V.va t ht) (by omega)
  have h1 := t_mass I J t w (r_wf A.S A.V) hv
  unfold x_mass at h1
  by_cases q : (0 ≤ t ∧ t < nI n) ∧ (0 ≤ w ∧ w ≤ 5)
  · rw [if_pos ((r_hT A.S.cn).mpr q.1)] at h1
    obtain ⟨i, hi, rfl⟩ := k_ix q.1 (by omega)
    obtain ⟨k, hk, rfl⟩ := k_ix (x := w) (n := 6) ⟨q.2.1, Int32.lt_of_le_of_lt q.2.2 (by decide)⟩ (by omega)
    rw [show (nI i).toNatClampNeg = i from nI_clamp (by omega)] at h1
    obtain ⟨v, v1, v2⟩ := hv i (by omega)
    have v3 : (J 78) (5 * i + 3) = lN v := by rw [A.D.t3 i (by omega)]; exact v2
    rcases (show k = 0 ∨ k = 1 ∨ k = 2 ∨ k = 3 ∨ k = 4 ∨ k = 5 by omega) with rfl | rfl | rfl | rfl | rfl | rfl
    · rw [if_pos (by decide)] at h1
      have h := n_mass_0 I J (J 78) (J 94) i n A.S.mn n4 hi v v3 (by omega)
      rw [n_J_id] at h
      exact zB hZ' h1 h (by rw [A.D.t0 i (by omega)])
    · rw [if_neg (by decide), if_pos (by decide)] at h1
      have h := n_mass_1 I J (J 78) (J 94) i n A.S.mn n4 hi v v3 (by omega)
      rw [n_J_id] at h
      exact zB hZ' h1 h (by rw [A.D.t1 i (by omega)])
    · rw [if_neg (by decide), if_neg (by decide), if_pos (by decide)] at h1
      have h := n_mass_2 I J (J 78) (J 94) i n A.S.mn n4 hi v v3 (by omega)
      rw [n_J_id] at h
      exact zB hZ' h1 h (by rw [A.D.t2 i (by omega)])
    · rw [if_neg (by decide), if_neg (by decide), if_neg (by decide), if_pos (by decide)] at h1
      have h := n_mass_3 I J (J 78) (J 94) i n A.S.mn n4 hi v v3 (by omega)
      rw [n_J_id] at h
      exact zB hZ' h1 h (by rw [r_usb A hi])
    · rw [if_neg (by decide), if_neg (by decide), if_neg (by decide), if_neg (by decide), if_pos (by decide)] at h1
      have h := n_mass_4 I J (J 78) (J 94) i n A.S.mn n4 hi v v3 (by omega)
      rw [n_J_id] at h
      exact zB hZ' h1 h (by rw [A.S.res i hi])
    · rw [if_neg (by decide), if_neg (by decide), if_neg (by decide), if_neg (by decide), if_neg (by decide), if_pos (by decide)] at h1
      have h := n_mass_5 I J (J 78) (J 94) i n A.S.mn n4 hi v v3 (by omega)
      rw [n_J_id] at h
      exact zB hZ' h1 h (by rw [A.D.t3 i (by omega)])
  · have h := n_mass_o I J (J 78) (J 94) t w n A.S.mn n4 q
    rw [n_J_id] at h
    refine zB hZ' h1 h ?_
    by_cases c : 0 ≤ t ∧ t < nI n
    · have d : ¬ (0 ≤ w ∧ w ≤ 5) := fun x => q ⟨c, x⟩
      have g : ∀ a : Int32, 0 ≤ a ∧ a ≤ 5 → ¬ w = a := fun a ha x => d (by rw [x]; exact ha)
      rw [if_pos ((r_hT A.S.cn).mpr c), if_neg (g 0 (by decide)), if_neg (g 1 (by decide)), if_neg (g 2 (by decide)), if_neg (g 3 (by decide)), if_neg (g 4 (by decide)), if_neg (g 5 (by decide))]
    · rw [if_neg (fun x => c ((r_hT A.S.cn).mp x))]
theorem z_volume (t x : Int32) (μ : m_M) (hZ : Z μ) : zG 3 107 [.int t, .int x] μ := by
  have hZ' := hZ
  obtain ⟨I, J⟩ := μ
  obtain ⟨κ, nm, l, N, tx, n, m, C, T, A⟩ := hZ
  have e1 := C.k1
  subst e1
  replace A : r_A True (k_sh 1 (I, J)) I J (J 78) n m 0 := A
  replace T : r_T nm l N tx I := T
  have n4 := A.S.n4
  have h1 := t_volume I J t x (r_wf A.S A.V)
  unfold x_vol at h1
  by_cases q : (0 ≤ t ∧ t < nI n) ∧ (0 ≤ x ∧ x ≤ 10000)
  · rw [if_pos ((r_hT A.S.cn).mpr q.1), if_pos q.2] at h1
    obtain ⟨i, hi, rfl⟩ := k_ix q.1 (by omega)
    rw [show (nI i).toNatClampNeg = i from nI_clamp (by omega)] at h1
    obtain ⟨p, p1, p2, p3, p4, p5, p6, p7, p8, p9⟩ := r_pt A hi
    by_cases c : (k_sh 1 (I, J)).1 (11 + 3 * i) 0 = 0
    · rw [if_pos c] at h1
      exact zB hZ' h1 (n_volume_0 I J n A.S.mn n4 i hi (by rw [A.S.pts i (by omega)]; exact c) x q.2) rfl
    · rw [if_neg c] at h1
      have hp1 : 1 ≤ p := by
        rcases Nat.eq_zero_or_pos p with z | z
        · rw [z] at p4; exact absurd p4 c
        · exact z
      refine zB hZ' h1 (n_volume_y I J n A.S.mn n4 i p hi p1 hp1 p2 p7 p8 x q.2) ?_
      rw [p9, p3]
  · refine zB hZ' h1 (n_volume_o I J n A.S.mn n4 t x q) ?_
    by_cases c : 0 ≤ t ∧ t < nI n
    · rw [if_pos ((r_hT A.S.cn).mpr c), if_neg (fun d => q ⟨c, d⟩)]
    · rw [if_neg (fun y => c ((r_hT A.S.cn).mp y))]
theorem z_entry (x w : Int32) (μ : m_M) (hZ : Z μ) : zG 24 136 [.int x, .int w] μ := by
  have hZ' := hZ
  obtain ⟨I, J⟩ := μ
  obtain ⟨κ, nm, l, N, tx, n, m, C, T, A⟩ := hZ
  have e1 := C.k1
  subst e1
  replace A : r_A True (k_sh 1 (I, J)) I J (J 78) n m 0 := A
  replace T : r_T nm l N tx I := T
  have L := A.L trivial
  obtain ⟨l1, l2, l3, l4⟩ := A.V.lws
  have h1 := t_entry I J x w (r_wf A.S A.V)
  unfold k_val at h1
  have hct : (J 78) 42 = (nI (kc (k_sh 1 (I, J)))).toInt64 := by rw [L.ct]; exact congrArg Int32.toInt64 l3
  by_cases q : (0 ≤ x ∧ x < nI (kc (k_sh 1 (I, J)))) ∧ (0 ≤ w ∧ w ≤ 3)
  · rw [if_pos (show 0 ≤ x ∧ x < (k_sh 1 (I, J)).1 30 0 from by rw [l3]; exact q.1)] at h1
    obtain ⟨i, hi, rfl⟩ := k_ix q.1 (by omega)
    obtain ⟨k, hk, rfl⟩ := k_ix (x := w) (n := 4) ⟨q.2.1, Int32.lt_of_le_of_lt q.2.2 (by decide)⟩ (by omega)
    rw [show (nI i).toNatClampNeg = i from nI_clamp (by omega)] at h1
    have h := n_entry_i I J (J 78) (J 94) (kc (k_sh 1 (I, J))) i k hct l4 hi hk
    rw [n_J_id] at h
    obtain ⟨g0, g1, g2, g3⟩ := L.en i hi
    refine zB hZ' h1 h ?_
    rcases (show k = 0 ∨ k = 1 ∨ k = 2 ∨ k = 3 by omega) with rfl | rfl | rfl | rfl
    · rw [if_pos (by decide), g0]
    · rw [if_neg (by decide), if_pos (by decide), g1]
    · rw [if_neg (by decide), if_neg (by decide), if_pos (by decide), g2]
    · rw [if_neg (by decide), if_neg (by decide), if_neg (by decide), if_pos (by decide), g3]
  · have h := n_entry_o I J (J 78) (J 94) x w (kc (k_sh 1 (I, J))) hct l4 q
    rw [n_J_id] at h
    refine zB hZ' h1 h ?_
    by_cases c : 0 ≤ x ∧ x < nI (kc (k_sh 1 (I, J)))
    · have d : ¬ (0 ≤ w ∧ w ≤ 3) := fun y => q ⟨c, y⟩
      have g : ∀ a : Int32, 0 ≤ a ∧ a ≤ 3 → ¬ w = a := fun a ha y => d (by rw [y]; exact ha)
      rw [if_pos (show 0 ≤ x ∧ x < (k_sh 1 (I, J)).1 30 0 from by rw [l3]; exact c), if_neg (g 0 (by decide)), if_neg (g 1 (by decide)), if_neg (g 2 (by decide)), if_neg (g 3 (by decide))]
    · rw [if_neg (show ¬ (0 ≤ x ∧ x < (k_sh 1 (I, J)).1 30 0) from by rw [l3]; exact c)]
