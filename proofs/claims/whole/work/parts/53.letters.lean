/-! PAIRS: letters, texts, tanks, points, engines -/
theorem k_sh_c {b : Nat} {μ μ' : m_M} (h : ∀ c, b ≤ c → c < b + 37 → μ'.1 c = μ.1 c ∧ μ'.2 c = μ.2 c) : k_sh b μ' = k_sh b μ := by
  unfold k_sh
  refine Prod.ext ?_ ?_
  · funext c j
    dsimp only
    by_cases q : c < 37
    · rw [if_pos q, if_pos q, (h (b + c) (by omega) (by omega)).1]
    · rw [if_neg q, if_neg q]
  · funext c j
    dsimp only
    by_cases q : c < 37
    · rw [if_pos q, if_pos q, (h (b + c) (by omega) (by omega)).2]
    · rw [if_neg q, if_neg q]
theorem r_C.ot {μ μ' : m_M} {κ : k_M} {nm nm' : Int32} {l N l' N' : Nat} {tx tx' : Nat → Int32} (h : r_C μ κ nm l N tx) (hc : ∀ c, 1 ≤ c → c < 75 → μ'.1 c = μ.1 c ∧ μ'.2 c = μ.2 c) (nv : μ'.1 0 3 = nm') (l4 : μ'.1 0 4 = nI l') (tn : μ'.1 75 0 = nI N') (tc : ∀ i, i < N' → 32 ≤ μ'.1 76 i ∧ μ'.1 76 i ≤ 126) (tv : ∀ i, i < N' → μ'.1 76 i = tx' i) : r_C μ' κ nm' l' N' tx' := by
  have e1 : k_sh 1 μ' = k_sh 1 μ := k_sh_c (fun c h1 h2 => hc c (by omega) (by omega))
  have e2 : k_sh 38 μ' = k_sh 38 μ := k_sh_c (fun c h1 h2 => hc c (by omega) (by omega))
  exact r_C.mk (k1 := by rw [e1]; exact h.k1) (nv := nv) (l4 := l4) (tn := tn) (tc := tc) (tv := tv) (lw := by rw [e2]; exact h.lw)
section ZD
variable {lg : Prop} {κ κ' : k_M} {I I' : Nat → Nat → Int32} {J J' : Nat → Nat → Int64} {R G : Nat → Int64} {n m l N l' N' : Nat} {B : Int64} {nm nm' : Int32} {tx tx' : Nat → Int32}
def zDQ (I : Nat → Nat → Int32) (J : Nat → Nat → Int64) (v : Option Value) (κ' : k_M) (nm' : Int32) (l' N' : Nat) (tx' : Nat → Int32) : m_Q := fun v1 μ1 => v1 = v ∧ r_C μ1 κ' nm' l' N' tx' ∧ ∀ c, 77 ≤ c → μ1.1 c = I c ∧ μ1.2 c = J c
def zDR (I' : Nat → Nat → Int32) (J' : Nat → Nat → Int64) (v : Option Value) (κ' : k_M) (nm' : Int32) (l' N' : Nat) (tx' : Nat → Int32) : m_Q := fun v' μ2 => v' = v ∧ ∃ I2 J2 R2 G2 n2 m2, μ2 = (I2, n_J J2 R2 G2) ∧ (∀ c, c < 77 → I2 c = I' c) ∧ (∀ c, c < 77 → J2 c = J' c) ∧ r_T nm' l' N' tx' I2 ∧ r_A True κ' I2 J2 R2 n2 m2 0
theorem zD {f g : Nat} {as : List Value} {v : Option Value} (T : r_T nm l N tx I) (A : r_A True κ I J (J 78) n m 0) (h1 : m_W f 0 (lv_args 0 (.ref 0 :: as)) [] (I, J) (zDQ I J v κ' nm' l' N' tx'))
    (h2 : ∀ I' J', r_A True κ I' J' (J' 78) n m 0 → r_T nm l N tx I' → m_W g 0 (lv_args 0 (.ref 77 :: as)) [] (I', n_J J' (J' 78) (J' 94)) (zDR I' J' v κ' nm' l' N' tx')) : zG f g as (I, J) := by
  refine m_wk h1 ?_
  rintro _ ⟨I1, J1⟩ ⟨rfl, C1, hf⟩
  have f1 : ∀ c, 77 ≤ c → I1 c = I c := fun c hc => (hf c hc).1
  have f2 : ∀ c, 77 ≤ c → J1 c = J c := fun c hc => (hf c hc).2
  have A1 : r_A True κ I1 J1 (J1 78) n m 0 := by rw [f2 78 (by omega)]; exact A.ij f1 f2
  have T1 : r_T nm l N tx I1 := T.ij (by rw [f1 77 (by omega)]) (by rw [f1 77 (by omega)]) (f1 92 (by omega)) (f1 93 (by omega))
  have h3 := h2 I1 J1 A1 T1
  rw [n_J_id] at h3
  refine m_wk h3 ?_
  rintro _ _ ⟨rfl, I2, J2, R2, G2, n2, m2, rfl, hI, hJ, T2, A2⟩
  exact ⟨rfl, z_end C1 hI hJ T2 A2⟩
/-- the model's row of letters, its text, their lengths may change -/
theorem r_A.tt (A : r_A lg κ I J R n m B) (h1 : ∀ c, 83 ≤ c → c < 92 → I' c = I c) (h2 : I' 77 2 = I 77 2) (h3 : I' 77 10 = I 77 10) : r_A lg κ I' J R n m B := ⟨A.S.ij h1 h2 h3 (fun _ _ _ => rfl), A.D, A.V, A.L⟩
end ZD
theorem z_letter (x : Int32) (μ : m_M) (hZ : Z μ) : zG 10 115 [.int x] μ := by
  obtain ⟨I, J⟩ := μ
  obtain ⟨κ, nm, l, N, tx, n, m, C, T, A⟩ := hZ
  replace A : r_A True κ I J (J 78) n m 0 := A
  replace T : r_T nm l N tx I := T
  have l6 := T.l6
  have l4 : I 0 4 = nI l := C.l4
  have nv : I 0 3 = nm := C.nv
  have hc := t_letter I J x
  by_cases q : 97 ≤ x ∧ x ≤ 122
  · rw [if_pos q, if_pos q] at hc
    by_cases h6 : l < 6
    · have q6 : I 0 4 < 6 := by rw [l4]; exact nI_lt (b := 6) h6 (by omega)
      rw [if_pos q6, if_pos q6] at hc
      refine zD (v := some (.int (I 0 4 + 1))) (κ' := κ) (nm' := nm * 27 + (x - 97 + 1)) (l' := l + 1) (N' := N) (tx' := tx) T A (m_wk hc ?_) (fun I' J' A' T' => m_wk (n_letter I' _ x l T'.le l6) ?_)
      · rintro _ _ ⟨rfl, rfl⟩
        refine ⟨rfl, C.ot (fun c h1 h2 => ⟨by dsimp only; rw [m_ui_o (by omega), m_ui_o (by omega)], rfl⟩) ((show I 0 3 * 27 + (x - 97 + 1) = _ by rw [nv])) ((show I 0 4 + 1 = nI (l + 1) by rw [l4, nI_1])) (C.tn) (C.tc) (C.tv), fun c hc => ⟨by dsimp only; rw [m_ui_o (by omega), m_ui_o (by omega)], rfl⟩⟩
      · rintro _ _ ⟨rfl, rfl⟩
        unfold w_letter
        rw [if_pos q, if_neg (show ¬ nI l = 6 from fun z => absurd ((nI_eq (b := 6) (by omega) (by omega)).mp z) (by omega))]
        refine ⟨by rw [l4], m_ui (m_ui I' 92 l x) 77 16 (nI l + 1), J', J' 78, J' 94, n, m, rfl, fun c hc => by rw [m_ui_o (by omega), m_ui_o (by omega)], fun _ _ => rfl, ?_, A'.tt (fun c h1 h2 => by rw [m_ui_o (by omega), m_ui_o (by omega)]) rfl rfl⟩
        have e92 : ∀ k, m_ui (m_ui I' 92 l x) 77 16 (nI l + 1) 92 k = if k = l then x else I' 92 k := fun k => rfl
        refine r_T.mk (l6 := by omega) (le := nI_1 l) (lt := fun k hk => by
            rw [e92]
            by_cases h : 0 + k = l
            · rw [if_pos h]; exact q
            · rw [if_neg h]; exact T'.lt k (by omega)) (nv := ?_) (n1 := T'.n1) (nl := T'.nl) (tv := T'.tv)
        rw [p_nm, e92, if_pos (Nat.zero_add l), nm_cg (g := I' 92) (t := 0) (fun j hj => by rw [e92, if_neg (by omega)]), ← T'.nv]
    · have e6 : l = 6 := by omega
      have q6 : ¬ I 0 4 < 6 := by rw [l4, e6]; decide
      rw [if_neg q6, if_neg q6] at hc
      refine zD (v := some (.int (-3))) (κ' := κ) (nm' := nm) (l' := l) (N' := N) (tx' := tx) T A (m_wk hc ?_) (fun I' J' A' T' => m_wk (n_letter I' _ x l T'.le l6) ?_)
      · rintro _ _ ⟨rfl, rfl⟩
        exact ⟨rfl, C, fun _ _ => ⟨rfl, rfl⟩⟩
      · rintro _ _ ⟨rfl, rfl⟩
        unfold w_letter
        rw [if_pos q, if_pos (show nI l = 6 by rw [e6]; rfl)]
        exact ⟨rfl, I', J', J' 78, J' 94, n, m, rfl, fun _ _ => rfl, fun _ _ => rfl, T', A'⟩
  · rw [if_neg q, if_neg q] at hc
    refine zD (v := some (.int (-1))) (κ' := κ) (nm' := nm) (l' := l) (N' := N) (tx' := tx) T A (m_wk hc ?_) (fun I' J' A' T' => m_wk (n_letter I' _ x l T'.le l6) ?_)
    · rintro _ _ ⟨rfl, rfl⟩
      exact ⟨rfl, C, fun _ _ => ⟨rfl, rfl⟩⟩
    · rintro _ _ ⟨rfl, rfl⟩
      unfold w_letter
      rw [if_neg q]
      exact ⟨rfl, I', J', J' 78, J' 94, n, m, rfl, fun _ _ => rfl, fun _ _ => rfl, T', A'⟩
theorem z_type (x : Int32) (μ : m_M) (hZ : Z μ) : zG 25 137 [.int x] μ := by
  obtain ⟨I, J⟩ := μ
  obtain ⟨κ, nm, l, N, tx, n, m, C, T, A⟩ := hZ
  replace A : r_A True κ I J (J 78) n m 0 := A
  replace T : r_T nm l N tx I := T
  have n1 := T.n1
  have tn : I 75 0 = nI N := C.tn
  have hc := t_type I J N tn n1 C.tc x
  by_cases q : 32 ≤ x ∧ x ≤ 126
  · rw [if_pos q, if_pos q] at hc
    unfold c_typ at hc
    by_cases h6 : N < 100
    · rw [if_pos h6] at hc
      refine zD (v := some (.int (nI (N + 1)))) (κ' := κ) (nm' := nm) (l' := l) (N' := N + 1) (tx' := fun i => if i = N then x else tx i) T A (m_wk hc ?_) (fun I' J' A' T' => m_wk (n_type I' _ x N T'.nl n1) ?_)
      · rintro _ _ ⟨rfl, rfl⟩
        have e76 : ∀ k, m_ui (m_ui I 76 N x) 75 0 (nI (N + 1)) 76 k = if k = N then x else I 76 k := fun k => rfl
        refine ⟨rfl, C.ot (fun c h1 h2 => ⟨by dsimp only; rw [m_ui_o (by omega), m_ui_o (by omega)], rfl⟩) (C.nv) (C.l4) (rfl) (fun i hi => by
            dsimp only
            rw [e76]
            by_cases h : i = N
            · rw [if_pos h]; exact q
            · rw [if_neg h]; exact C.tc i (by omega)) (fun i hi => by
            dsimp only
            rw [e76]
            by_cases h : i = N
            · rw [if_pos h, if_pos h]
            · rw [if_neg h, if_neg h]; exact C.tv i (by omega)), fun c hc => ⟨by dsimp only; rw [m_ui_o (by omega), m_ui_o (by omega)], rfl⟩⟩
      · rintro _ _ ⟨rfl, rfl⟩
        unfold w_type
        rw [if_pos q, if_neg (show ¬ nI N = 100 from fun z => absurd ((nI_eq (b := 100) (by omega) (by omega)).mp z) (by omega))]
        refine ⟨by rw [nI_1], m_ui (m_ui I' 93 N x) 77 18 (nI N + 1), J', J' 78, J' 94, n, m, rfl, fun c hc => by rw [m_ui_o (by omega), m_ui_o (by omega)], fun _ _ => rfl, ?_, A'.tt (fun c h1 h2 => by rw [m_ui_o (by omega), m_ui_o (by omega)]) rfl rfl⟩
        have e93 : ∀ k, m_ui (m_ui I' 93 N x) 77 18 (nI N + 1) 93 k = if k = N then x else I' 93 k := fun k => rfl
        exact r_T.mk (l6 := T'.l6) (le := T'.le) (lt := T'.lt) (nv := T'.nv) (n1 := by omega) (nl := nI_1 N) (tv := fun i hi => by
            rw [e93]
            by_cases h : i = N
            · rw [if_pos h, if_pos h]
            · rw [if_neg h, if_neg h]; exact T'.tv i (by omega))
    · rw [if_neg h6] at hc
      have e6 : N = 100 := by omega
      refine zD (v := some (.int (-3))) (κ' := κ) (nm' := nm) (l' := l) (N' := N) (tx' := tx) T A (m_wk hc ?_) (fun I' J' A' T' => m_wk (n_type I' _ x N T'.nl n1) ?_)
      · rintro _ _ ⟨rfl, rfl⟩
        exact ⟨rfl, C, fun _ _ => ⟨rfl, rfl⟩⟩
      · rintro _ _ ⟨rfl, rfl⟩
        unfold w_type
        rw [if_pos q, if_pos (show nI N = 100 by rw [e6]; rfl)]
        exact ⟨rfl, I', J', J' 78, J' 94, n, m, rfl, fun _ _ => rfl, fun _ _ => rfl, T', A'⟩
  · rw [if_neg q, if_neg q] at hc
    refine zD (v := some (.int (-1))) (κ' := κ) (nm' := nm) (l' := l) (N' := N) (tx' := tx) T A (m_wk hc ?_) (fun I' J' A' T' => m_wk (n_type I' _ x N T'.nl n1) ?_)
    · rintro _ _ ⟨rfl, rfl⟩
      exact ⟨rfl, C, fun _ _ => ⟨rfl, rfl⟩⟩
    · rintro _ _ ⟨rfl, rfl⟩
      unfold w_type
      rw [if_neg q]
      exact ⟨rfl, I', J', J' 78, J' 94, n, m, rfl, fun _ _ => rfl, fun _ _ => rfl, T', A'⟩
theorem z_clear (μ : m_M) (hZ : Z μ) : zG 26 138 [] μ := by
  obtain ⟨I, J⟩ := μ
  obtain ⟨κ, nm, l, N, tx, n, m, C, T, A⟩ := hZ
  replace A : r_A True κ I J (J 78) n m 0 := A
  replace T : r_T nm l N tx I := T
  have tn : I 75 0 = nI N := C.tn
  refine zD (v := some (.int (nI N))) (κ' := κ) (nm' := nm) (l' := l) (N' := 0) (tx' := tx) T A (m_wk (t_clear I J) ?_) (fun I' J' A' T' => m_wk (n_clear I' _) ?_)
  · rintro _ _ ⟨rfl, rfl⟩
    exact ⟨by rw [tn], C.ot (fun c h1 h2 => ⟨by dsimp only; rw [m_ui_o (by omega)], rfl⟩) (C.nv) (C.l4) (rfl) (fun i hi => absurd hi (Nat.not_lt_zero i)) (fun i hi => absurd hi (Nat.not_lt_zero i)), fun c hc => ⟨by dsimp only; rw [m_ui_o (by omega)], rfl⟩⟩
  · rintro _ _ ⟨rfl, rfl⟩
    exact ⟨by rw [T'.nl], _, J', J' 78, J' 94, n, m, rfl, fun c hc => m_ui_o (by omega), fun _ _ => rfl, r_T.mk (l6 := T'.l6) (le := T'.le) (lt := T'.lt) (nv := T'.nv) (n1 := by omega) (nl := rfl) (tv := fun i hi => absurd hi (Nat.not_lt_zero i)), A'.tt (fun c h1 h2 => m_ui_o (by omega)) rfl rfl⟩
theorem z_eNamed (μ : m_M) (hZ : Z μ) : zG 12 118 [] μ := by
  obtain ⟨I, J⟩ := μ
  obtain ⟨κ, nm, l, N, tx, n, m, C, T, A⟩ := hZ
  have e1 := C.k1
  subst e1
  replace A : r_A True (k_sh 1 (I, J)) I J (J 78) n m 0 := A
  replace T : r_T nm l N tx I := T
  have m6 := A.S.m6
  have nv : I 0 3 = nm := C.nv
  have hc := t_engineNamed I J (r_wf A.S A.V)
  rw [r_km A.S, nv, T.nv] at hc
  rcases r_nd A.S (f := I 92) (s := 0) T.l6 T.lt m 0 (by omega) with ⟨a, b⟩ | ⟨j, hj, a, b⟩
  · rw [b] at hc
    refine zD (v := some (.int (-4))) (κ' := k_sh 1 (I, J)) (nm' := nm) (l' := l) (N' := N) (tx' := tx) T A (m_wk hc ?_) (fun I' J' A' T' => m_wk (n_eNamed I' _ m A'.S.mm m6 l T'.le T'.l6) ?_)
    · rintro _ ⟨I1, J1⟩ ⟨rfl, h1, h2, h3, -, h5⟩
      have h0 := h5 (by decide)
      exact ⟨rfl, r_C.mk (k1 := h1) (nv := by rw [h0]; exact C.nv) (l4 := by rw [h0]; exact C.l4) (tn := by rw [(h2 75 (by omega)).1]; exact C.tn) (tc := fun i hi => by rw [(h2 76 (by omega)).1]; exact C.tc i hi) (tv := fun i hi => by rw [(h2 76 (by omega)).1]; exact C.tv i hi) (lw := by rw [k_sh_c (μ := (I, J)) (fun c g1 g2 => h2 c (by omega))]; exact C.lw), fun c hc => h2 c (by omega)⟩
    · rintro _ _ ⟨rfl, rfl⟩
      have q : n_nd I' (I' 92) 0 l 0 m < 0 := by
        rcases r_nd A'.S (f := I' 92) (s := 0) T'.l6 T'.lt m 0 (by omega) with ⟨a', -⟩ | ⟨j, hj, -, b'⟩
        · rw [a']; decide
        · rw [← T'.nv, T.nv, b] at b'
          exact absurd b'.symm (by rcases (show j = 0 ∨ j = 1 ∨ j = 2 ∨ j = 3 ∨ j = 4 ∨ j = 5 by omega) with rfl | rfl | rfl | rfl | rfl | rfl <;> decide)
      rw [if_pos q, if_pos q]
      exact ⟨rfl, I', J', J' 78, J' 94, n, m, rfl, fun _ _ => rfl, fun _ _ => rfl, T', A'⟩
  · rw [b] at hc
    have hj0 : ¬ nI j < 0 := Int32.not_lt.mpr (nI_pos' (by omega))
    refine zD (v := some (.int (nI j))) (κ' := k_sh 1 (I, J)) (nm' := 0) (l' := 0) (N' := N) (tx' := tx) T A (m_wk hc ?_) (fun I' J' A' T' => m_wk (n_eNamed I' _ m A'.S.mm m6 l T'.le T'.l6) ?_)
    · rintro _ ⟨I1, J1⟩ ⟨rfl, h1, h2, h3, h4, -⟩
      have h0 := h4 hj0
      exact ⟨rfl, r_C.mk (k1 := h1) (nv := h0.1) (l4 := h0.2) (tn := by rw [(h2 75 (by omega)).1]; exact C.tn) (tc := fun i hi => by rw [(h2 76 (by omega)).1]; exact C.tc i hi) (tv := fun i hi => by rw [(h2 76 (by omega)).1]; exact C.tv i hi) (lw := by rw [k_sh_c (μ := (I, J)) (fun c g1 g2 => h2 c (by omega))]; exact C.lw), fun c hc => h2 c (by omega)⟩
    · rintro _ _ ⟨rfl, rfl⟩
      have q : n_nd I' (I' 92) 0 l 0 m = nI j := by
        rcases r_nd A'.S (f := I' 92) (s := 0) T'.l6 T'.lt m 0 (by omega) with ⟨-, b'⟩ | ⟨i, hi, a', b'⟩
        · rw [← T'.nv, T.nv, b] at b'
          exact absurd b' (by rcases (show j = 0 ∨ j = 1 ∨ j = 2 ∨ j = 3 ∨ j = 4 ∨ j = 5 by omega) with rfl | rfl | rfl | rfl | rfl | rfl <;> decide)
        · rw [← T'.nv, T.nv, b] at b'
          rw [a', ← b']
      rw [q, if_neg hj0, if_neg hj0]
      exact ⟨rfl, _, J', J' 78, J' 94, n, m, rfl, fun c hc => m_ui_o (by omega), fun _ _ => rfl, r_T.mk (l6 := by omega) (le := rfl) (lt := fun k hk => absurd hk (Nat.not_lt_zero k)) (nv := rfl) (n1 := T'.n1) (nl := T'.nl) (tv := T'.tv), A'.tt (fun c h1 h2 => m_ui_o (by omega)) rfl rfl⟩
