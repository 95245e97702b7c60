/-! CLASS AND MODEL TOGETHER: what holds between calls -/
abbrev r_T (nm : Int32) (l N : Nat) (tx : Nat → Int32) (I : Nat → Nat → Int32) : Prop := (l ≤ 6) ∧ (I 77 16 = nI l) ∧ (∀ k, k < l → 97 ≤ I 92 (0 + k) ∧ I 92 (0 + k) ≤ 122) ∧ (nm = p_nm (I 92) 0 l) ∧ (N ≤ 100) ∧ (I 77 18 = nI N) ∧ (∀ i, i < N → I 93 i = tx i)
theorem r_T.l6 {nm : Int32} {l N : Nat} {tx : Nat → Int32} {I : Nat → Nat → Int32} (h : r_T nm l N tx I) : l ≤ 6 := h.1
theorem r_T.le {nm : Int32} {l N : Nat} {tx : Nat → Int32} {I : Nat → Nat → Int32} (h : r_T nm l N tx I) : I 77 16 = nI l := h.2.1
theorem r_T.lt {nm : Int32} {l N : Nat} {tx : Nat → Int32} {I : Nat → Nat → Int32} (h : r_T nm l N tx I) : ∀ k, k < l → 97 ≤ I 92 (0 + k) ∧ I 92 (0 + k) ≤ 122 := h.2.2.1
theorem r_T.nv {nm : Int32} {l N : Nat} {tx : Nat → Int32} {I : Nat → Nat → Int32} (h : r_T nm l N tx I) : nm = p_nm (I 92) 0 l := h.2.2.2.1
theorem r_T.n1 {nm : Int32} {l N : Nat} {tx : Nat → Int32} {I : Nat → Nat → Int32} (h : r_T nm l N tx I) : N ≤ 100 := h.2.2.2.2.1
theorem r_T.nl {nm : Int32} {l N : Nat} {tx : Nat → Int32} {I : Nat → Nat → Int32} (h : r_T nm l N tx I) : I 77 18 = nI N := h.2.2.2.2.2.1
theorem r_T.tv {nm : Int32} {l N : Nat} {tx : Nat → Int32} {I : Nat → Nat → Int32} (h : r_T nm l N tx I) : ∀ i, i < N → I 93 i = tx i := h.2.2.2.2.2.2
theorem r_T.mk {nm : Int32} {l N : Nat} {tx : Nat → Int32} {I : Nat → Nat → Int32} (l6 : l ≤ 6) (le : I 77 16 = nI l) (lt : ∀ k, k < l → 97 ≤ I 92 (0 + k) ∧ I 92 (0 + k) ≤ 122) (nv : nm = p_nm (I 92) 0 l) (n1 : N ≤ 100) (nl : I 77 18 = nI N) (tv : ∀ i, i < N → I 93 i = tx i) : r_T nm l N tx I := ⟨l6, le, lt, nv, n1, nl, tv⟩
abbrev r_C (μ : m_M) (κ : k_M) (nm : Int32) (l N : Nat) (tx : Nat → Int32) : Prop := (k_sh 1 μ = κ) ∧ (μ.1 0 3 = nm) ∧ (μ.1 0 4 = nI l) ∧ (μ.1 75 0 = nI N) ∧ (∀ i, i < N → 32 ≤ μ.1 76 i ∧ μ.1 76 i ≤ 126) ∧ (∀ i, i < N → μ.1 76 i = tx i) ∧ (k_lw (k_sh 38 μ))
theorem r_C.k1 {μ : m_M} {κ : k_M} {nm : Int32} {l N : Nat} {tx : Nat → Int32} (h : r_C μ κ nm l N tx) : k_sh 1 μ = κ := h.1
theorem r_C.nv {μ : m_M} {κ : k_M} {nm : Int32} {l N : Nat} {tx : Nat → Int32} (h : r_C μ κ nm l N tx) : μ.1 0 3 = nm := h.2.1
theorem r_C.l4 {μ : m_M} {κ : k_M} {nm : Int32} {l N : Nat} {tx : Nat → Int32} (h : r_C μ κ nm l N tx) : μ.1 0 4 = nI l := h.2.2.1
theorem r_C.tn {μ : m_M} {κ : k_M} {nm : Int32} {l N : Nat} {tx : Nat → Int32} (h : r_C μ κ nm l N tx) : μ.1 75 0 = nI N := h.2.2.2.1
theorem r_C.tc {μ : m_M} {κ : k_M} {nm : Int32} {l N : Nat} {tx : Nat → Int32} (h : r_C μ κ nm l N tx) : ∀ i, i < N → 32 ≤ μ.1 76 i ∧ μ.1 76 i ≤ 126 := h.2.2.2.2.1
theorem r_C.tv {μ : m_M} {κ : k_M} {nm : Int32} {l N : Nat} {tx : Nat → Int32} (h : r_C μ κ nm l N tx) : ∀ i, i < N → μ.1 76 i = tx i := h.2.2.2.2.2.1
theorem r_C.lw {μ : m_M} {κ : k_M} {nm : Int32} {l N : Nat} {tx : Nat → Int32} (h : r_C μ κ nm l N tx) : k_lw (k_sh 38 μ) := h.2.2.2.2.2.2
theorem r_C.mk {μ : m_M} {κ : k_M} {nm : Int32} {l N : Nat} {tx : Nat → Int32} (k1 : k_sh 1 μ = κ) (nv : μ.1 0 3 = nm) (l4 : μ.1 0 4 = nI l) (tn : μ.1 75 0 = nI N) (tc : ∀ i, i < N → 32 ≤ μ.1 76 i ∧ μ.1 76 i ≤ 126) (tv : ∀ i, i < N → μ.1 76 i = tx i) (lw : k_lw (k_sh 38 μ)) : r_C μ κ nm l N tx := ⟨k1, nv, l4, tn, tc, tv, lw⟩
def Z (μ : m_M) : Prop := ∃ κ nm l N tx n m, r_C μ κ nm l N tx ∧ r_T nm l N tx μ.1 ∧ r_A True κ μ.1 μ.2 (μ.2 78) n m 0
def zG (f g : Nat) (as : List Value) (μ : m_M) : Prop := m_W f 0 (lv_args 0 (.ref 0 :: as)) [] μ (fun v μ1 => m_W g 0 (lv_args 0 (.ref 77 :: as)) [] μ1 (fun v' μ2 => v' = v ∧ Z μ2))
section ZZ
variable {lg : Prop} {κ κ' : k_M} {I I' I1 I2 : Nat → Nat → Int32} {J J' J1 J2 : Nat → Nat → Int64} {R G : Nat → Int64} {n m l N : Nat} {B : Int64} {nm : Int32} {tx : Nat → Int32}
theorem r_A.ij (A : r_A lg κ I J R n m B) (h1 : ∀ c, 77 ≤ c → I' c = I c) (h2 : ∀ c, 77 ≤ c → J' c = J c) : r_A lg κ I' J' R n m B := ⟨A.S.ij (fun c h _ => h1 c (by omega)) (by rw [h1 77 (by omega)]) (by rw [h1 77 (by omega)]) (fun c h _ => h2 c (by omega)), A.D, A.V, A.L⟩
theorem r_T.ij (h : r_T nm l N tx I) (h16 : I' 77 16 = I 77 16) (h18 : I' 77 18 = I 77 18) (h92 : I' 92 = I 92) (h93 : I' 93 = I 93) : r_T nm l N tx I' := r_T.mk (l6 := h.l6) (le := by rw [h16]; exact h.le) (lt := fun k hk => by rw [h92]; exact h.lt k hk) (nv := by rw [h92]; exact h.nv) (n1 := h.n1) (nl := by rw [h18]; exact h.nl) (tv := fun i hi => by rw [h93]; exact h.tv i hi)
theorem k_sh_cg {b : Nat} {μ μ' : m_M} (hb : b + 37 ≤ 77) (h1 : ∀ c, c < 77 → μ'.1 c = μ.1 c) (h2 : ∀ c, c < 77 → μ'.2 c = μ.2 c) : k_sh b μ' = k_sh b μ := by
  unfold k_sh
  refine Prod.ext ?_ ?_
  · funext c j
    dsimp only
    by_cases h : c < 37
    · rw [if_pos h, if_pos h, h1 (b + c) (by omega)]
    · rw [if_neg h, if_neg h]
  · funext c j
    dsimp only
    by_cases h : c < 37
    · rw [if_pos h, if_pos h, h2 (b + c) (by omega)]
    · rw [if_neg h, if_neg h]
theorem r_C.cg {μ μ' : m_M} (h : r_C μ κ nm l N tx) (h1 : ∀ c, c < 77 → μ'.1 c = μ.1 c) (h2 : ∀ c, c < 77 → μ'.2 c = μ.2 c) : r_C μ' κ nm l N tx := r_C.mk (k1 := by rw [k_sh_cg (by omega) h1 h2]; exact h.k1) (nv := by rw [h1 0 (by omega)]; exact h.nv) (l4 := by rw [h1 0 (by omega)]; exact h.l4) (tn := by rw [h1 75 (by omega)]; exact h.tn) (tc := fun i hi => by rw [h1 76 (by omega)]; exact h.tc i hi) (tv := fun i hi => by rw [h1 76 (by omega)]; exact h.tv i hi) (lw := by rw [k_sh_cg (by omega) h1 h2]; exact h.lw)
/-- the craft alone has changed -/
theorem r_C.kE {μ μ' : m_M} (h : r_C μ κ nm l N tx) (hk : k_sh 1 μ' = κ') (hf : m_fr 1 μ μ') : r_C μ' κ' nm l N tx := by
  have f1 : ∀ c, c < 1 ∨ 38 ≤ c → μ'.1 c = μ.1 c := fun c hc => (hf c (by omega)).1
  have f2 : ∀ c, c < 1 ∨ 38 ≤ c → μ'.2 c = μ.2 c := fun c hc => (hf c (by omega)).2
  have h38 : k_sh 38 μ' = k_sh 38 μ := by
    unfold k_sh
    refine Prod.ext ?_ ?_
    · funext c j
      dsimp only
      by_cases h : c < 37
      · rw [if_pos h, if_pos h, f1 (38 + c) (by omega)]
      · rw [if_neg h, if_neg h]
    · funext c j
      dsimp only
      by_cases h : c < 37
      · rw [if_pos h, if_pos h, f2 (38 + c) (by omega)]
      · rw [if_neg h, if_neg h]
  exact r_C.mk (k1 := hk) (nv := by rw [f1 0 (by omega)]; exact h.nv) (l4 := by rw [f1 0 (by omega)]; exact h.l4) (tn := by rw [f1 75 (by omega)]; exact h.tn) (tc := fun i hi => by rw [f1 76 (by omega)]; exact h.tc i hi) (tv := fun i hi => by rw [f1 76 (by omega)]; exact h.tv i hi) (lw := by rw [h38]; exact h.lw)
theorem n_J_o {c : Nat} (h1 : c ≠ 78) (h2 : c ≠ 94) : n_J J R G c = J c := by
  unfold n_J
  rw [m_cj_o h2, m_cj_o h1]
theorem n_J_78 : n_J J R G 78 = R := rfl
/-- the end of a pair of calls -/
theorem z_end (C : r_C (I1, J1) κ nm l N tx) (hI : ∀ c, c < 77 → I2 c = I1 c) (hJ : ∀ c, c < 77 → J2 c = J1 c) (T : r_T nm l N tx I2) (A : r_A True κ I2 J2 R n m 0) : Z (I2, n_J J2 R G) := by
  refine ⟨κ, nm, l, N, tx, n, m, C.cg hI (fun c hc => ?_), T, ⟨A.S.ij (fun _ _ _ => rfl) rfl rfl (fun c h _ => ?_), A.D, A.V, A.L⟩⟩
  · show n_J J2 R G c = _
    rw [n_J_o (by omega) (by omega)]; exact hJ c hc
  · show n_J J2 R G c = _
    rw [n_J_o (by omega) (by omega)]
theorem r_wf (S : r_S κ I J n m) (V : r_V κ n m) : k_wf κ := ⟨⟨n, S.n4, S.cn⟩, ⟨m, S.m6, S.cm⟩, V.lw, fun j hj => by
  obtain ⟨p, h1, h2, -⟩ := V.pt j hj
  exact ⟨p, h1, h2⟩⟩
theorem i_nat {x : Int64} {b : Nat} (h : i_rg x 0 b) (hb : b ≤ 1000000000000000) : ∃ v, v ≤ b ∧ x = lN v := by
  have h1 := h.1
  have h2 := h.2
  refine ⟨x.toInt.toNat, by omega, ?_⟩
  apply Int64.toInt_inj.mp
  show x.toInt = (Int64.ofNat x.toInt.toNat).toInt
  rw [Int64.toInt_ofNat_of_lt (by omega)]
  omega
/-- getters -/
theorem zB {f g : Nat} {as : List Value} {μ : m_M} {v v' : Option Value} (hZ : Z μ) (h1 : m_W f 0 (lv_args 0 (.ref 0 :: as)) [] μ (m_E v μ)) (h2 : m_W g 0 (lv_args 0 (.ref 77 :: as)) [] μ (m_E v' μ)) (e : v' = v) : zG f g as μ := by
  refine m_wk h1 ?_
  rintro _ _ ⟨rfl, rfl⟩
  refine m_wk h2 ?_
  rintro _ _ ⟨rfl, rfl⟩
  exact ⟨e, hZ⟩
/-- calls that the craft does -/
theorem zA {f g : Nat} {as : List Value} {x : Int32 × k_M} (C : r_C (I, J) κ nm l N tx) (T : r_T nm l N tx I) (A : r_A True κ I J (J 78) n m 0) (h1 : m_W f 0 (lv_args 0 (.ref 0 :: as)) [] (I, J) (k_E 1 (I, J) (some (.int x.1)) x.2))
    (h2 : ∀ I' J' R' G', r_A True κ I' J' R' n m 0 → m_W g 0 (lv_args 0 (.ref 77 :: as)) [] (I', n_J J' R' G') (r_Q True I' J' n m 0 x)) : zG f g as (I, J) := by
  refine m_wk h1 ?_
  rintro _ ⟨I1, J1⟩ ⟨rfl, hk, hf⟩
  have f1 : ∀ c, 77 ≤ c → I1 c = I c := fun c hc => (hf c (by omega)).1
  have f2 : ∀ c, 77 ≤ c → J1 c = J c := fun c hc => (hf c (by omega)).2
  have C1 := C.kE hk hf
  have A1 : r_A True κ I1 J1 (J1 78) n m 0 := by rw [f2 78 (by omega)]; exact A.ij f1 f2
  have T1 : r_T nm l N tx I1 := T.ij (by rw [f1 77 (by omega)]) (by rw [f1 77 (by omega)]) (f1 92 (by omega)) (f1 93 (by omega))
  have h3 := h2 I1 J1 (J1 78) (J1 94) A1
  rw [n_J_id] at h3
  refine m_wk h3 ?_
  rintro _ _ ⟨rfl, R', G', rfl, A2⟩
  exact ⟨rfl, z_end C1 (fun _ _ => rfl) (fun _ _ => rfl) T1 A2⟩
end ZZ
theorem z_setValve (e t o : Int32) (μ : m_M) (hZ : Z μ) : zG 13 119 [.int e, .int t, .int o] μ := by
  obtain ⟨I, J⟩ := μ
  obtain ⟨κ, nm, l, N, tx, n, m, C, T, A⟩ := hZ
  have e1 := C.k1
  subst e1
  exact zA C T A (t_setValve I J e t o m A.S.cm A.S.m6) (fun I' J' R' G' A' => a_valve G' A' e t o)
theorem z_ignite (e : Int32) (μ : m_M) (hZ : Z μ) : zG 16 122 [.int e] μ := by
  obtain ⟨I, J⟩ := μ
  obtain ⟨κ, nm, l, N, tx, n, m, C, T, A⟩ := hZ
  have e1 := C.k1
  subst e1
  exact zA C T A (t_ignite I J e m A.S.cm A.S.m6) (fun I' J' R' G' A' => a_ignite G' A' e)
theorem r_kn {κ : k_M} {I : Nat → Nat → Int32} {J : Nat → Nat → Int64} {n m : Nat} (S : r_S κ I J n m) : kn κ = n := by
  show (κ.1 1 0).toNatClampNeg = n
  rw [S.cn]; exact nI_clamp (by have := S.n4; omega)
theorem z_cutoff (μ : m_M) (hZ : Z μ) : zG 17 123 [] μ := by
  obtain ⟨I, J⟩ := μ
  obtain ⟨κ, nm, l, N, tx, n, m, C, T, A⟩ := hZ
  have e1 := C.k1
  subst e1
  have h := t_cutoff I J m A.S.cm A.S.m6 n A.S.cn A.S.n4 A.V.lw
  refine zA (x := k_endx (k_sh 1 (I, J))) C T A ?_ (fun I' J' R' G' A' => a_cutoff G' A')
  unfold k_endx
  rw [r_kn A.S]
  exact h
theorem z_pass (x : Int32) (μ : m_M) (hZ : Z μ) : zG 18 128 [.int x] μ := by
  obtain ⟨I, J⟩ := μ
  obtain ⟨κ, nm, l, N, tx, n, m, C, T, A⟩ := hZ
  have e1 := C.k1
  subst e1
  have h := t_pass I J x m A.S.cm A.S.m6 n A.S.cn A.S.n4 A.V.lw
  refine zA (x := k_passx (k_sh 1 (I, J)) x) C T A ?_ (fun I' J' R' G' A' => a_pass G' A' x)
  unfold k_passx
  rw [r_kn A.S]
  exact h
theorem z_read (t x : Int32) (μ : m_M) (hZ : Z μ) : zG 21 133 [.int t, .int x] μ := by
  obtain ⟨I, J⟩ := μ
  obtain ⟨κ, nm, l, N, tx, n, m, C, T, A⟩ := hZ
  have e1 := C.k1
  subst e1
  exact zA C T A (t_read I J t x (r_wf A.S A.V)) (fun I' J' R' G' A' => a_read G' A' t x)
