/-! TEXTS PERFORMED by the model: all of them; plans -/
theorem a_does (I : Nat → Nat → Int32) (J : Nat → Nat → Int64) (N : Nat) (hN : N ≤ 100) (lg : Prop) (κ : k_M) (R G : Nat → Int64) (u m : Nat) (B : Int64) (A : r_A lg κ I J R u m B) (s : Nat) (q : p_C) (hp : p_at (s_ch (I 93) N) s = some q) (sp nf nm fi se nu : Int32) (hus : n_usq (s_ch (I 93) N) N q nf nm fi se) : m_W 148 0 (lv_args 0 [.ref 77]) [] (n_tx I sp (q.2.1 - 1) nf nm fi se nu, n_J J R G) (r_Q lg (n_tx I sp (q.2.1 - 1) nf nm fi se nu) J u m B (k_doq κ q)) := by
  obtain ⟨hc, h4⟩ := p_at_c hp
  clear hp
  obtain ⟨e, c, nmq, tk, nuq⟩ := q
  obtain ⟨u1, u2, u3, u4⟩ := hus
  have nmx : ∀ {a b : Nat}, a + b ≤ N → p_nm (s_ch (I 93) N) a b = p_nm (I 93) a b := fun h => nm_cg (nm_T h)
  have ltx : ∀ {a b : Nat}, a + b ≤ N → (∀ k, k < b → 97 ≤ s_ch (I 93) N (a + k) ∧ s_ch (I 93) N (a + k) ≤ 122) → ∀ k, k < b → 97 ≤ I 93 (a + k) ∧ I 93 (a + k) ≤ 122 := fun h g k hk => by
    have := g k hk
    rw [nm_T h k hk] at this
    exact this
  dsimp only [k_doq] at *
  rcases hc with rfl | rfl | rfl | rfl | rfl | rfl | rfl
  · obtain ⟨a, b, rfl, rfl, hb6, hab, hlt, hn⟩ := u1 (by decide)
    rw [nmx hab] at hn
    subst hn
    rw [show (1 : Int32) - 1 = 0 from by decide]
    exact n_do_1 I J lg κ R G u m B sp 0 0 fi se nu a b hb6 (by omega) (ltx hab hlt) tk nuq (r_tx A _ _ _ _ _ _ _)
  · rw [show (2 : Int32) - 1 = 1 from by decide]
    exact n_do_2 I J lg κ R G u m B sp nf nm fi se nu nmq tk nuq (r_tx A _ _ _ _ _ _ _)
  · have hf := u3 (by decide)
    subst hf
    rw [show (3 : Int32) - 1 = 2 from by decide]
    exact n_do_3 I J lg κ R G u m B sp nf nm fi se nu nmq tk (r_tx A _ _ _ _ _ _ _)
  · obtain ⟨a, b, rfl, rfl, hb6, hab, hlt, hn⟩ := u1 (by decide)
    have hf := u3 (by decide)
    subst hf
    rw [nmx hab] at hn
    subst hn
    rw [show (4 : Int32) - 1 = 3 from by decide]
    exact n_do_4 I J lg κ R G u m B sp 0 0 fi se nu a b hb6 (by omega) (ltx hab hlt) tk (r_tx A _ _ _ _ _ _ _) (h4 rfl)
  · obtain ⟨a, b, rfl, rfl, hb6, hab, hlt, hn⟩ := u1 (by decide)
    have hf := u2 (by decide)
    subst hf
    rw [nmx hab] at hn
    subst hn
    rw [show (5 : Int32) - 1 = 4 from by decide]
    exact n_do_5 I J lg κ R G u m B sp 0 0 fi se nu a b hb6 (by omega) (ltx hab hlt) nuq (r_tx A _ _ _ _ _ _ _)
  · obtain ⟨a, b, rfl, rfl, hb6, hab, hlt, hn⟩ := u1 (by decide)
    have hf := u2 (by decide)
    subst hf
    rw [nmx hab] at hn
    subst hn
    rw [show (6 : Int32) - 1 = 5 from by decide]
    exact n_do_6 I J lg κ R G u m B sp 0 0 fi se nu a b hb6 (by omega) (ltx hab hlt) nuq (r_tx A _ _ _ _ _ _ _)
  · have hf := u2 (by decide)
    have hs := u4 (by decide)
    subst hf
    subst hs
    rw [show (7 : Int32) - 1 = 6 from by decide]
    exact n_do_7 I J lg κ R G u m B sp nf nm fi se nu nmq (r_tx A _ _ _ _ _ _ _)
/-- rows put aside and back -/
def n_as (J : Nat → Nat → Int64) (R : Nat → Int64) (k : Nat) : Nat → Int64 := fun j => if j < k then R j else J 79 j
def n_pb (J : Nat → Nat → Int64) (R : Nat → Int64) (k : Nat) : Nat → Int64 := fun j => if j < k then J 79 j else R j
theorem n_as_0 {J : Nat → Nat → Int64} {R : Nat → Int64} : m_cj J 79 (n_as J R 0) = J := m_cj0 (fun t => if_neg (Nat.not_lt_zero t))
theorem n_as_s {J : Nat → Nat → Int64} {R : Nat → Int64} {k : Nat} : m_uj (m_cj J 79 (n_as J R k)) 79 k (R k) = m_cj J 79 (n_as J R (k + 1)) := by
  funext c j
  unfold m_uj m_cj
  by_cases h : c = 79
  · subst h
    rw [if_pos rfl, if_pos rfl, if_pos rfl]
    unfold n_as
    by_cases hj : j = k
    · subst hj; rw [if_pos rfl, if_pos (by omega)]
    · rw [if_neg hj]
      by_cases h2 : j < k
      · rw [if_pos h2, if_pos (by omega)]
      · rw [if_neg h2, if_neg (by omega)]
  · rw [if_neg h, if_neg h, if_neg h]
theorem n_pb_0 {J : Nat → Nat → Int64} {R : Nat → Int64} : n_pb J R 0 = R := by
  funext j
  exact if_neg (Nat.not_lt_zero j)
theorem n_pb_s {J : Nat → Nat → Int64} {R : Nat → Int64} {k : Nat} : r_u (n_pb J R k) k (J 79 k) = n_pb J R (k + 1) := by
  funext j
  unfold r_u n_pb
  by_cases hj : j = k
  · subst hj; rw [if_pos rfl, if_pos (by omega)]
  · rw [if_neg hj]
    by_cases h2 : j < k
    · rw [if_pos h2, if_pos (by omega)]
    · rw [if_neg h2, if_neg (by omega)]
/-- whether an estimate is below its residual -/
abbrev n_b1 (R D : Nat → Int64) (st : Int32) (t : Nat) : Prop := ((st >>> (nI t &&& 31)) &&& (1 : Int32)) = 1 ∧ R (5 * t + 2) < D t
def n_bw (R D : Nat → Int64) (st : Int32) : Nat → Int32
  | 0 => 0
  | t + 1 => if n_bw R D st t = 0 then (if n_b1 R D st t then 1 else 0) else 1
theorem n_bw_01 (R D : Nat → Int64) (st : Int32) : ∀ t, n_bw R D st t = 0 ∨ n_bw R D st t = 1
  | 0 => Or.inl rfl
  | t + 1 => by
    rw [n_bw]
    split
    · split
      · exact Or.inr rfl
      · exact Or.inl rfl
    · exact Or.inr rfl
theorem n_bw_n (R D : Nat → Int64) (st : Int32) (t : Nat) : ¬ FieldType.boolean = .long ∧ narrow .boolean (.int (n_bw R D st t)) = .int (n_bw R D st t) := by
  refine ⟨by decide, ?_⟩
  rcases n_bw_01 R D st t with h | h <;> rw [h] <;> rfl
theorem n_bw_0 {R D : Nat → Int64} {st : Int32} : ∀ {t : Nat}, n_bw R D st t = 0 ↔ ∀ i, i < t → ¬ n_b1 R D st i
  | 0 => ⟨fun _ i hi => absurd hi (Nat.not_lt_zero i), fun _ => rfl⟩
  | t + 1 => by
    have ih := n_bw_0 (R := R) (D := D) (st := st) (t := t)
    rw [n_bw]
    by_cases h : n_bw R D st t = 0
    · rw [if_pos h]
      have g := ih.mp h
      by_cases c : n_b1 R D st t
      · rw [if_pos c]
        exact ⟨fun q => absurd q (by decide), fun q => absurd c (q t (Nat.lt_succ_self t))⟩
      · rw [if_neg c]
        refine ⟨fun _ i hi => ?_, fun _ => rfl⟩
        by_cases hit : i = t
        · subst hit; exact c
        · exact g i (by omega)
    · rw [if_neg h]
      exact ⟨fun q => absurd q (by decide), fun q => absurd (ih.mpr (fun i hi => q i (by omega))) h⟩
theorem k_bl_0 {κ : k_M} {st : Int32} : ∀ {r i : Nat}, k_bl κ st i r = 0 ↔ ∀ t, i ≤ t → t < i + r → ¬ k_bl1 κ st t
  | 0, i => ⟨fun _ t h1 h2 => absurd h2 (by omega), fun _ => rfl⟩
  | r + 1, i => by
    have ih := k_bl_0 (κ := κ) (st := st) (r := r) (i := i + 1)
    rw [k_bl]
    by_cases c : k_bl1 κ st i
    · rw [if_pos c]
      exact ⟨fun q => absurd q (by decide), fun q => absurd c (q i (Nat.le_refl i) (by omega))⟩
    · rw [if_neg c, ih]
      refine ⟨fun q t h1 h2 => ?_, fun q t h1 h2 => q t (by omega) (by omega)⟩
      by_cases ht : t = i
      · subst ht; exact c
      · exact q t (by omega) (by omega)
theorem r_bl {κ : k_M} {R D : Nat → Int64} {st : Int32} {n : Nat} (h1 : ∀ t, t < n → R (5 * t + 2) = κ.2 7 t) (h2 : ∀ t, t < n → D t = (κ.1 3 t).toInt64) : n_bw R D st n = k_bl κ st 0 n := by
  have e : ∀ t, t < n → (n_b1 R D st t ↔ k_bl1 κ st t) := fun t ht => by
    show (_ ∧ R (5 * t + 2) < D t) ↔ (_ ∧ κ.2 7 t < (κ.1 3 t).toInt64)
    rw [h1 t ht, h2 t ht]
  have a := n_bw_0 (R := R) (D := D) (st := st) (t := n)
  have b := k_bl_0 (κ := κ) (st := st) (r := n) (i := 0)
  have c : n_bw R D st n = 0 ↔ k_bl κ st 0 n = 0 := by
    rw [a, b]
    exact ⟨fun q t _ h => fun x => q t (by omega) ((e t (by omega)).mpr x), fun q t h x => q t (by omega) (by omega) ((e t h).mp x)⟩
  rcases n_bw_01 R D st n with h | h
  · rw [h, c.mp h]
  · rcases k_bl_01 κ st n 0 with g | g
    · rw [c.mpr g] at h; exact absurd h (by decide)
    · rw [h, g]
/-- the tanks that are watched -/
def n_ws (R : Nat → Int64) (e : Nat) : Nat → Int32
  | 0 => 0
  | t + 1 => n_ws R e t ||| (if n_op R e t ∧ 0 < R (5 * t + 1) then (1 : Int32) <<< (nI t &&& 31) else 0)
theorem bb_w1 : ∀ w, w < 16 → ∀ t, t < 4 → nI w ||| (1 : Int32) <<< (nI t &&& 31) = nI (w ||| 1 <<< t) ∧ (w ||| 1 <<< t) < 16 := by decide +kernel
theorem bb_w2 : ∀ b, b < 16 → ∀ w, w < 16 → ∀ t, t < 4 → nI b &&& (nI w ||| (1 : Int32) <<< (nI t &&& 31)) = (nI b &&& nI w) ||| (if ((nI b >>> (nI t &&& 31)) &&& (1 : Int32)) = 1 then (1 : Int32) <<< (nI t &&& 31) else 0) := by decide +kernel
theorem k_wb_16 {κ : k_M} : ∀ {t : Nat}, t ≤ 4 → ∃ w, w < 16 ∧ k_wb κ t = nI w
  | 0, _ => ⟨0, by omega, rfl⟩
  | t + 1, h => by
    obtain ⟨w, h1, h2⟩ := k_wb_16 (κ := κ) (t := t) (by omega)
    rw [k_wb]
    by_cases c : κ.2 6 t ≤ 0
    · rw [if_pos c]; exact ⟨w, h1, h2⟩
    · rw [if_neg c, h2]
      exact ⟨w ||| 1 <<< t, (bb_w1 w h1 t (by omega)).2, (bb_w1 w h1 t (by omega)).1⟩
theorem r_ws {κ : k_M} {R : Nat → Int64} {e b n : Nat} (hb : b < 16) (he : κ.1 27 e = nI b) (hop : ∀ t, t < n → (n_op R e t ↔ ((κ.1 27 e >>> (nI t &&& 31)) &&& (1 : Int32)) = 1)) (h1 : ∀ t, t < 4 → R (5 * t + 1) = κ.2 6 t) : ∀ {t : Nat}, t ≤ n → t ≤ 4 → n_ws R e t = κ.1 27 e &&& k_wb κ t
  | 0, _, _ => by
    rw [he]
    have : ∀ b, b < 16 → (0 : Int32) = nI b &&& 0 := by decide +kernel
    exact this b hb
  | t + 1, h, h4 => by
    rw [n_ws, r_ws hb he hop h1 (by omega) (by omega), k_wb]
    obtain ⟨w, w1, w2⟩ := k_wb_16 (κ := κ) (t := t) (by omega)
    have o := hop t (by omega)
    by_cases c : κ.2 6 t ≤ 0
    · rw [if_pos c, if_neg (fun q => absurd q.2 (by rw [h1 t (by omega)]; exact Int64.not_lt.mpr c))]
      exact Int32.or_zero
    · rw [if_neg c, w2, he, bb_w2 b hb w w1 t (by omega)]
      rw [he] at o
      by_cases d : ((nI b >>> (nI t &&& 31)) &&& (1 : Int32)) = 1
      · rw [if_pos d, if_pos ⟨o.mpr d, by rw [h1 t (by omega)]; exact Int64.not_le.mp c⟩]
      · rw [if_neg d, if_neg (fun q => d (o.mp q.1))]

set_option maxRecDepth 100000 in
theorem n_ex_l (I : Nat → Nat → Int32) (J : Nat → Nat → Int64) (N : Nat) (h0 : I 77 18 = nI N) (hN : N ≤ 100) (lg : Prop) (u m : Nat) (B : Int64)  : ∀ (r s : Nat), N ≤ s + r → s ≤ 200 → ∀ (p : Nat) (κ : k_M) (R G : Nat → Int64) (cm nf nm fi se nu : Int32), r_A lg κ I J R u m B → m_W 149 7 [(0, .ref 77), (1, .int (nI p))] [] ((n_tx I (nI s) cm nf nm fi se nu), (n_J J R G)) (n_xQ lg I J u m B (k_run (s_ch (I 93) N) N r s p κ)) := by
  intro r
  induction r with
  | zero =>
    intro s hsr hs1 p κ R G cm nf nm fi se nu A
    refine c_run 4 (pc' := 15) (ls' := [(0, .ref 77), (1, .int (nI p))]) (st' := [.int (I 77 18), .int (nI s)]) (μ' := ((n_tx I (nI s) cm nf nm fi se nu), (n_J J R G))) (Nat.le_of_ble_eq_true rfl) rfl ?_
    refine c_icge 38 (Nat.le_of_ble_eq_true rfl) rfl rfl (fun h1 => ?_) (fun h1 => absurd (by rw [h0]; exact nI_le (by omega) (by omega)) h1)
    refine c_run 1 (pc' := 39) (ls' := [(0, .ref 77), (1, .int (nI p))]) (st' := [.int (nI p)]) (μ' := ((n_tx I (nI s) cm nf nm fi se nu), (n_J J R G))) (Nat.le_of_ble_eq_true rfl) rfl ?_
    refine c_ret (Nat.le_of_ble_eq_true rfl) rfl rfl ⟨by decide, rfl⟩ ?_
    exact ⟨rfl, _, _, _, _, _, _, _, R, G, rfl, A⟩
  | succ r ih =>
    intro s hsr hs1 p κ R G cm nf nm fi se nu A
    refine c_run 4 (pc' := 15) (ls' := [(0, .ref 77), (1, .int (nI p))]) (st' := [.int (I 77 18), .int (nI s)]) (μ' := ((n_tx I (nI s) cm nf nm fi se nu), (n_J J R G))) (Nat.le_of_ble_eq_true rfl) rfl ?_
    refine c_icge 38 (Nat.le_of_ble_eq_true rfl) rfl rfl (fun h1 => ?_) (fun h1 => ?_)
    · skip
      refine c_run 1 (pc' := 39) (ls' := [(0, .ref 77), (1, .int (nI p))]) (st' := [.int (nI p)]) (μ' := ((n_tx I (nI s) cm nf nm fi se nu), (n_J J R G))) (Nat.le_of_ble_eq_true rfl) rfl ?_
      refine c_ret (Nat.le_of_ble_eq_true rfl) rfl rfl ⟨by decide, rfl⟩ ?_
      rw [k_run, if_neg (fun q => absurd (show I 77 18 ≤ nI s by assumption) (by rw [h0]; exact nI_ge q (by omega)))]
      exact ⟨rfl, _, _, _, _, _, _, _, R, G, rfl, A⟩
    · skip
      refine c_run 1 (pc' := 19) (ls' := [(0, .ref 77), (1, .int (nI p))]) (st' := [.ref 77]) (μ' := ((n_tx I (nI s) cm nf nm fi se nu), (n_J J R G))) (Nat.le_of_ble_eq_true rfl) rfl ?_
      have hsn : s < N := (nI_ltI (by omega) (by omega)).mp (by rw [← h0]; exact Int32.not_le.mp (by assumption))
      have hc := n_isCommand I (n_J J R G) N h0 hN s (by omega) cm nf nm fi se nu
      rcases hp : p_at (s_ch (I 93) N) s with _ | q
      · skip
        rw [hp] at hc
        show m_W 149 19 [(0, .ref 77), (1, .int (nI p))] [.ref 77] ((n_tx I (nI s) cm nf nm fi se nu), (n_J J R G)) _
        refine c_cv 145 [] (b := 77) (r := []) (Nat.le_of_ble_eq_true rfl) rfl rfl rfl rfl rfl rfl (hc) ?_
        rintro _ _ ⟨rfl, sp1, cm1, nf1, nm1, fi1, se1, nu1, rfl⟩
        show m_W 149 22 [(0, .ref 77), (1, .int (nI p))] [.int 0] ((n_tx I sp1 cm1 nf1 nm1 fi1 se1 nu1), (n_J J R G)) _
        refine c_ifeq 38 (Nat.le_of_ble_eq_true rfl) rfl rfl (fun h2 => ?_) (fun h2 => absurd (by decide) h2)
        refine c_run 1 (pc' := 39) (ls' := [(0, .ref 77), (1, .int (nI p))]) (st' := [.int (nI p)]) (μ' := ((n_tx I sp1 cm1 nf1 nm1 fi1 se1 nu1), (n_J J R G))) (Nat.le_of_ble_eq_true rfl) rfl ?_
        refine c_ret (Nat.le_of_ble_eq_true rfl) rfl rfl ⟨by decide, rfl⟩ ?_
        rw [k_run, if_pos hsn, hp]
        exact ⟨rfl, _, _, _, _, _, _, _, R, G, rfl, A⟩
      · skip
        rw [hp] at hc
        have hpb := p_at_b hp
        show m_W 149 19 [(0, .ref 77), (1, .int (nI p))] [.ref 77] ((n_tx I (nI s) cm nf nm fi se nu), (n_J J R G)) _
        refine c_cv 145 [] (b := 77) (r := []) (Nat.le_of_ble_eq_true rfl) rfl rfl rfl rfl rfl rfl (hc) ?_
        rintro _ _ ⟨rfl, nf1, nm1, fi1, se1, nu1, rfl, hus⟩
        show m_W 149 22 [(0, .ref 77), (1, .int (nI p))] [.int 1] ((n_tx I (nI q.1) (q.2.1 - 1) nf1 nm1 fi1 se1 nu1), (n_J J R G)) _
        refine c_ifeq 38 (Nat.le_of_ble_eq_true rfl) rfl rfl (fun h3 => absurd h3 (by decide)) (fun h3 => ?_)
        refine c_run 1 (pc' := 26) (ls' := [(0, .ref 77), (1, .int (nI p))]) (st' := [.ref 77]) (μ' := ((n_tx I (nI q.1) (q.2.1 - 1) nf1 nm1 fi1 se1 nu1), (n_J J R G))) (Nat.le_of_ble_eq_true rfl) rfl ?_
        refine c_cv 148 [] (b := 77) (r := []) (Nat.le_of_ble_eq_true rfl) rfl rfl rfl rfl rfl rfl (a_does I J N hN lg κ R G u m B A s q hp (nI q.1) nf1 nm1 fi1 se1 nu1 hus) ?_
        rintro _ _ ⟨rfl, R1, G1, rfl, A1⟩
        show m_W 149 29 [(0, .ref 77), (1, .int (nI p))] [.int ((k_doq κ q).1)] ((n_tx I (nI q.1) (q.2.1 - 1) nf1 nm1 fi1 se1 nu1), (n_J J R1 G1)) _
        refine c_ifeq 38 (Nat.le_of_ble_eq_true rfl) rfl rfl (fun h4 => ?_) (fun h4 => ?_)
        · skip
          refine c_run 1 (pc' := 39) (ls' := [(0, .ref 77), (1, .int (nI p))]) (st' := [.int (nI p)]) (μ' := ((n_tx I (nI q.1) (q.2.1 - 1) nf1 nm1 fi1 se1 nu1), (n_J J R1 G1))) (Nat.le_of_ble_eq_true rfl) rfl ?_
          refine c_ret (Nat.le_of_ble_eq_true rfl) rfl rfl ⟨by decide, rfl⟩ ?_
          rw [k_run, if_pos hsn, hp]
          dsimp only
          rw [if_pos (by assumption)]
          exact ⟨rfl, _, _, _, _, _, _, _, R1, G1, rfl, r_xt A1⟩
        · skip
          refine c_run 2 (pc' := 7) (ls' := [(1, .int ((nI p) + (1 : Int32))), (0, .ref 77)]) (st' := []) (μ' := ((n_tx I (nI q.1) (q.2.1 - 1) nf1 nm1 fi1 se1 nu1), (n_J J R1 G1))) (Nat.le_of_ble_eq_true rfl) rfl ?_
          refine c_w [1, 0] (ls' := [(0, .ref 77), (1, .int ((nI p) + (1 : Int32)))]) rfl ?_
          rw [k_run, if_pos hsn, hp]
          dsimp only
          rw [if_neg (by assumption), nI_1 p]
          exact ih q.1 (by omega) (by omega) (p + 1) (k_doq κ q).2 R1 G1 (q.2.1 - 1) nf1 nm1 fi1 se1 nu1 (r_xt A1)

set_option maxRecDepth 100000 in
theorem n_executes (I : Nat → Nat → Int32) (J : Nat → Nat → Int64) (N : Nat) (h0 : I 77 18 = nI N) (hN : N ≤ 100) (lg : Prop) (u m : Nat) (B : Int64) (κ : k_M) (R G : Nat → Int64) (A : r_A lg κ I J R u m B) (sp cm nf nm fi se nu : Int32) : m_W 149 0 (lv_args 0 [.ref 77]) [] ((n_tx I sp cm nf nm fi se nu), (n_J J R G)) (n_xQ lg I J u m B (k_run (s_ch (I 93) N) N 100 0 0 κ)) := by
  show m_W 149 0 [(0, .ref 77)] [] ((n_tx I sp cm nf nm fi se nu), (n_J J R G)) _
  refine c_run 5 (pc' := 7) (ls' := [(1, .int 0), (0, .ref 77)]) (st' := []) (μ' := ((m_ui (n_tx I sp cm nf nm fi se nu) 77 21 0), (n_J J R G))) (Nat.le_of_ble_eq_true rfl) rfl ?_
  refine c_w [1, 0] (ls' := [(0, .ref 77), (1, .int 0)]) rfl ?_
  rw [n_tx21]
  exact n_ex_l I J N h0 hN lg u m B 100 0 (by omega) (by omega) 0 κ R G cm nf nm fi se nu A

set_option maxRecDepth 100000 in
theorem n_execute (I : Nat → Nat → Int32) (J : Nat → Nat → Int64) (N : Nat) (h0 : I 77 18 = nI N) (hN : N ≤ 100) (lg : Prop) (u m : Nat) (B : Int64) (κ : k_M) (R G : Nat → Int64) (A : r_A lg κ I J R u m B) (sp cm nf nm fi se nu : Int32) : m_W 150 0 (lv_args 0 [.ref 77]) [] ((n_tx I sp cm nf nm fi se nu), (n_J J R G)) (n_xQ lg I J u m B (x_exec (s_ch (I 93) N) N κ)) := by
  show m_W 150 0 [(0, .ref 77)] [] ((n_tx I sp cm nf nm fi se nu), (n_J J R G)) _
  refine c_run 1 (pc' := 1) (ls' := [(0, .ref 77)]) (st' := [.ref 77]) (μ' := ((n_tx I sp cm nf nm fi se nu), (n_J J R G))) (Nat.le_of_ble_eq_true rfl) rfl ?_
  refine c_cv 146 [] (b := 77) (r := []) (Nat.le_of_ble_eq_true rfl) rfl rfl rfl rfl rfl rfl (n_faultOf I (n_J J R G) N h0 hN sp cm nf nm fi se nu) ?_
  rintro _ _ ⟨rfl, sp1, cm1, nf1, nm1, fi1, se1, nu1, rfl⟩
  show m_W 150 4 [(0, .ref 77)] [.int (p_ff (s_ch (I 93) N) N 100 0)] ((n_tx I sp1 cm1 nf1 nm1 fi1 se1 nu1), (n_J J R G)) _
  refine c_run 1 (pc' := 6) (ls' := [(0, .ref 77)]) (st' := [.int (-4), .int (p_ff (s_ch (I 93) N) N 100 0)]) (μ' := ((n_tx I sp1 cm1 nf1 nm1 fi1 se1 nu1), (n_J J R G))) (Nat.le_of_ble_eq_true rfl) rfl ?_
  refine c_iceq 14 (Nat.le_of_ble_eq_true rfl) rfl rfl (fun h1 => ?_) (fun h1 => ?_)
  · skip
    refine c_run 1 (pc' := 15) (ls' := [(0, .ref 77)]) (st' := [.ref 77]) (μ' := ((n_tx I sp1 cm1 nf1 nm1 fi1 se1 nu1), (n_J J R G))) (Nat.le_of_ble_eq_true rfl) rfl ?_
    refine c_cv 149 [] (b := 77) (r := []) (Nat.le_of_ble_eq_true rfl) rfl rfl rfl rfl rfl rfl (n_executes I J N h0 hN lg u m B κ R G A sp1 cm1 nf1 nm1 fi1 se1 nu1) ?_
    rintro _ _ ⟨rfl, sp2, cm2, nf2, nm2, fi2, se2, nu2, R2, G2, rfl, A2⟩
    show m_W 150 18 [(0, .ref 77)] [.int ((k_run (s_ch (I 93) N) N 100 0 0 κ).1)] ((n_tx I sp2 cm2 nf2 nm2 fi2 se2 nu2), (n_J J R2 G2)) _
    refine c_ret (Nat.le_of_ble_eq_true rfl) rfl rfl ⟨by decide, rfl⟩ ?_
    unfold x_exec
    rw [if_pos h1]
    exact ⟨rfl, _, _, _, _, _, _, _, R2, G2, rfl, A2⟩
  · skip
    refine c_run 2 (pc' := 18) (ls' := [(0, .ref 77)]) (st' := [.int (-2)]) (μ' := ((n_tx I sp1 cm1 nf1 nm1 fi1 se1 nu1), (n_J J R G))) (Nat.le_of_ble_eq_true rfl) rfl ?_
    refine c_ret (Nat.le_of_ble_eq_true rfl) rfl rfl ⟨by decide, rfl⟩ ?_
    unfold x_exec
    rw [if_neg h1]
    exact ⟨rfl, _, _, _, _, _, _, _, R, G, rfl, A⟩

set_option maxRecDepth 100000 in
theorem n_fault (I : Nat → Nat → Int32) (J : Nat → Nat → Int64) (N : Nat) (h0 : I 77 18 = nI N) (hN : N ≤ 100) (sp cm nf nm fi se nu : Int32) : m_W 147 0 (lv_args 0 [.ref 77]) [] ((n_tx I sp cm nf nm fi se nu), J) (n_fQ I J (p_ff (s_ch (I 93) N) N 100 0)) := by
  show m_W 147 0 [(0, .ref 77)] [] ((n_tx I sp cm nf nm fi se nu), J) _
  refine c_run 1 (pc' := 1) (ls' := [(0, .ref 77)]) (st' := [.ref 77]) (μ' := ((n_tx I sp cm nf nm fi se nu), J)) (Nat.le_of_ble_eq_true rfl) rfl ?_
  refine c_cv 146 [] (b := 77) (r := []) (Nat.le_of_ble_eq_true rfl) rfl rfl rfl rfl rfl rfl (n_faultOf I J N h0 hN sp cm nf nm fi se nu) ?_
  rintro _ _ ⟨rfl, sp1, cm1, nf1, nm1, fi1, se1, nu1, rfl⟩
  show m_W 147 4 [(0, .ref 77)] [.int (p_ff (s_ch (I 93) N) N 100 0)] ((n_tx I sp1 cm1 nf1 nm1 fi1 se1 nu1), J) _
  refine c_ret (Nat.le_of_ble_eq_true rfl) rfl rfl ⟨by decide, rfl⟩ ?_
  exact ⟨rfl, _, _, _, _, _, _, _, rfl⟩

set_option maxRecDepth 100000 in
theorem n_as_l (I : Nat → Nat → Int32) (J : Nat → Nat → Int64) (R G : Nat → Int64)  : ∀ (r k : Nat), k + r = 140 → m_W 151 2 [(0, .ref 77), (1, .int (nI k))] [] (I, (n_J (m_cj J 79 (n_as J R k)) R G)) (m_E none (I, n_J (m_cj J 79 (n_as J R 140)) R G)) := by
  intro r
  induction r with
  | zero =>
    intro k hkr
    have hk : 140 = k := by omega
    subst hk
    refine c_run 2 (pc' := 6) (ls' := [(0, .ref 77), (1, .int (nI 140))]) (st' := [.int 140, .int (nI 140)]) (μ' := (I, (n_J (m_cj J 79 (n_as J R 140)) R G))) (Nat.le_of_ble_eq_true rfl) rfl ?_
    refine c_icge 27 (Nat.le_of_ble_eq_true rfl) rfl rfl (fun h1 => ?_) (fun h1 => absurd (show nI 140 ≤ nI 140 from nI_le (by omega) (by omega)) h1)
    refine c_vret (Nat.le_of_ble_eq_true rfl) rfl rfl ?_
    exact ⟨rfl, rfl⟩
  | succ r ih =>
    intro k hkr
    refine c_run 2 (pc' := 6) (ls' := [(0, .ref 77), (1, .int (nI k))]) (st' := [.int 140, .int (nI k)]) (μ' := (I, (n_J (m_cj J 79 (n_as J R k)) R G))) (Nat.le_of_ble_eq_true rfl) rfl ?_
    refine c_icge 27 (Nat.le_of_ble_eq_true rfl) rfl rfl (fun h1 => absurd h1 (show ¬ nI 140 ≤ nI k from nI_ge (by omega) (by omega))) (fun h1 => ?_)
    refine c_run 6 (pc' := 19) (ls' := [(0, .ref 77), (1, .int (nI k))]) (st' := [.int (nI k), .ref 78, .int (nI k), .ref 79]) (μ' := (I, (n_J (m_cj J 79 (n_as J R k)) R G))) (Nat.le_of_ble_eq_true rfl) rfl ?_
    refine c_lal k 140 (Nat.le_of_ble_eq_true rfl) rfl rfl rfl rfl rfl (by omega) ?_
    show m_W 151 20 [(0, .ref 77), (1, .int (nI k))] [.long (R k), .int (nI k), .ref 79] (I, (n_J (m_cj J 79 (n_as J R k)) R G)) _
    refine c_las k 140 (Nat.le_of_ble_eq_true rfl) rfl rfl rfl rfl rfl (by omega) ?_
    show m_W 151 21 [(0, .ref 77), (1, .int (nI k))] [] (I, m_uj (n_J (m_cj J 79 (n_as J R k)) R G) 79 k (R k)) _
    rw [n_JO (by decide) (by decide)]
    show m_W 151 21 [(0, .ref 77), (1, .int (nI k))] [] (I, (n_J (m_uj (m_cj J 79 (n_as J R k)) 79 k (R k)) R G)) _
    refine c_run 2 (pc' := 2) (ls' := [(1, .int ((nI k) + (1 : Int32))), (0, .ref 77)]) (st' := []) (μ' := (I, (n_J (m_uj (m_cj J 79 (n_as J R k)) 79 k (R k)) R G))) (Nat.le_of_ble_eq_true rfl) rfl ?_
    refine c_w [1, 0] (ls' := [(0, .ref 77), (1, .int ((nI k) + (1 : Int32)))]) rfl ?_
    rw [nI_1 k, n_as_s]
    exact ih (k + 1) (by omega)

set_option maxRecDepth 100000 in
theorem n_putsA (I : Nat → Nat → Int32) (J : Nat → Nat → Int64) (R G : Nat → Int64)  : m_W 151 0 (lv_args 0 [.ref 77]) [] (I, (n_J J R G)) (m_E none (I, n_J (m_cj J 79 (n_as J R 140)) R G)) := by
  show m_W 151 0 [(0, .ref 77)] [] (I, (n_J J R G)) _
  refine c_run 2 (pc' := 2) (ls' := [(1, .int 0), (0, .ref 77)]) (st' := []) (μ' := (I, (n_J J R G))) (Nat.le_of_ble_eq_true rfl) rfl ?_
  refine c_w [1, 0] (ls' := [(0, .ref 77), (1, .int 0)]) rfl ?_
  have h := n_as_l I J R G 140 0 (by omega)
  rw [n_as_0] at h
  exact h

set_option maxRecDepth 100000 in
theorem n_pb_l (I : Nat → Nat → Int32) (J : Nat → Nat → Int64) (R G : Nat → Int64)  : ∀ (r k : Nat), k + r = 140 → m_W 152 2 [(0, .ref 77), (1, .int (nI k))] [] (I, (n_J J (n_pb J R k) G)) (m_E none (I, n_J J (n_pb J R 140) G)) := by
  intro r
  induction r with
  | zero =>
    intro k hkr
    have hk : 140 = k := by omega
    subst hk
    refine c_run 2 (pc' := 6) (ls' := [(0, .ref 77), (1, .int (nI 140))]) (st' := [.int 140, .int (nI 140)]) (μ' := (I, (n_J J (n_pb J R 140) G))) (Nat.le_of_ble_eq_true rfl) rfl ?_
    refine c_icge 27 (Nat.le_of_ble_eq_true rfl) rfl rfl (fun h1 => ?_) (fun h1 => absurd (show nI 140 ≤ nI 140 from nI_le (by omega) (by omega)) h1)
    refine c_vret (Nat.le_of_ble_eq_true rfl) rfl rfl ?_
    exact ⟨rfl, rfl⟩
  | succ r ih =>
    intro k hkr
    refine c_run 2 (pc' := 6) (ls' := [(0, .ref 77), (1, .int (nI k))]) (st' := [.int 140, .int (nI k)]) (μ' := (I, (n_J J (n_pb J R k) G))) (Nat.le_of_ble_eq_true rfl) rfl ?_
    refine c_icge 27 (Nat.le_of_ble_eq_true rfl) rfl rfl (fun h1 => absurd h1 (show ¬ nI 140 ≤ nI k from nI_ge (by omega) (by omega))) (fun h1 => ?_)
    refine c_run 6 (pc' := 19) (ls' := [(0, .ref 77), (1, .int (nI k))]) (st' := [.int (nI k), .ref 79, .int (nI k), .ref 78]) (μ' := (I, (n_J J (n_pb J R k) G))) (Nat.le_of_ble_eq_true rfl) rfl ?_
    refine c_lal k 140 (Nat.le_of_ble_eq_true rfl) rfl rfl rfl rfl rfl (by omega) ?_
    show m_W 152 20 [(0, .ref 77), (1, .int (nI k))] [.long (J 79 k), .int (nI k), .ref 78] (I, (n_J J (n_pb J R k) G)) _
    refine c_las k 140 (Nat.le_of_ble_eq_true rfl) rfl rfl rfl rfl rfl (by omega) ?_
    show m_W 152 21 [(0, .ref 77), (1, .int (nI k))] [] (I, m_uj (n_J J (n_pb J R k) G) 78 k (J 79 k)) _
    rw [n_JR]
    show m_W 152 21 [(0, .ref 77), (1, .int (nI k))] [] (I, (n_J J (r_u (n_pb J R k) k (J 79 k)) G)) _
    refine c_run 2 (pc' := 2) (ls' := [(1, .int ((nI k) + (1 : Int32))), (0, .ref 77)]) (st' := []) (μ' := (I, (n_J J (r_u (n_pb J R k) k (J 79 k)) G))) (Nat.le_of_ble_eq_true rfl) rfl ?_
    refine c_w [1, 0] (ls' := [(0, .ref 77), (1, .int ((nI k) + (1 : Int32)))]) rfl ?_
    rw [nI_1 k, n_pb_s]
    exact ih (k + 1) (by omega)

set_option maxRecDepth 100000 in
theorem n_putsB (I : Nat → Nat → Int32) (J : Nat → Nat → Int64) (R G : Nat → Int64)  : m_W 152 0 (lv_args 0 [.ref 77]) [] (I, (n_J J R G)) (m_E none (I, n_J J (n_pb J R 140) G)) := by
  show m_W 152 0 [(0, .ref 77)] [] (I, (n_J J R G)) _
  refine c_run 2 (pc' := 2) (ls' := [(1, .int 0), (0, .ref 77)]) (st' := []) (μ' := (I, (n_J J R G))) (Nat.le_of_ble_eq_true rfl) rfl ?_
  refine c_w [1, 0] (ls' := [(0, .ref 77), (1, .int 0)]) rfl ?_
  have h := n_pb_l I J R G 140 0 (by omega)
  rw [n_pb_0] at h
  exact h

set_option maxRecDepth 100000 in
theorem n_bl_l (I : Nat → Nat → Int32) (J : Nat → Nat → Int64) (R G : Nat → Int64) (n : Nat) (hn : I 77 2 = nI n) (hn4 : n ≤ 4) (st : Int32)  : ∀ (r i : Nat), i + r = n → m_W 153 4 [(0, .ref 77), (1, .int st), (2, .int (n_bw R (J 81) st i)), (3, .int (nI i))] [] (I, (n_J J R G)) (m_E (some (.int (n_bw R (J 81) st n))) (I, n_J J R G)) := by
  intro r
  induction r with
  | zero =>
    intro i hir
    have hin : n = i := by omega
    subst hin
    refine c_run 3 (pc' := 9) (ls' := [(0, .ref 77), (1, .int st), (2, .int (n_bw R (J 81) st n)), (3, .int (nI n))]) (st' := [.int (I 77 2), .int (nI n)]) (μ' := (I, (n_J J R G))) (Nat.le_of_ble_eq_true rfl) rfl ?_
    refine c_icge 53 (Nat.le_of_ble_eq_true rfl) rfl rfl (fun h1 => ?_) (fun h1 => absurd (by rw [hn]; exact nI_le (by omega) (by omega)) h1)
    refine c_run 1 (pc' := 54) (ls' := [(0, .ref 77), (1, .int st), (2, .int (n_bw R (J 81) st n)), (3, .int (nI n))]) (st' := [.int (n_bw R (J 81) st n)]) (μ' := (I, (n_J J R G))) (Nat.le_of_ble_eq_true rfl) rfl ?_
    refine c_ret (Nat.le_of_ble_eq_true rfl) rfl rfl (n_bw_n R (J 81) st n) ?_
    exact ⟨rfl, rfl⟩
  | succ r ih =>
    intro i hir
    refine c_run 3 (pc' := 9) (ls' := [(0, .ref 77), (1, .int st), (2, .int (n_bw R (J 81) st i)), (3, .int (nI i))]) (st' := [.int (I 77 2), .int (nI i)]) (μ' := (I, (n_J J R G))) (Nat.le_of_ble_eq_true rfl) rfl ?_
    refine c_icge 53 (Nat.le_of_ble_eq_true rfl) rfl rfl (fun h1 => absurd h1 (by rw [hn]; exact nI_ge (by omega) (by omega))) (fun h1 => ?_)
    refine c_run 1 (pc' := 13) (ls' := [(0, .ref 77), (1, .int st), (2, .int (n_bw R (J 81) st i)), (3, .int (nI i))]) (st' := [.int (n_bw R (J 81) st i)]) (μ' := (I, (n_J J R G))) (Nat.le_of_ble_eq_true rfl) rfl ?_
    refine c_ifne 41 (Nat.le_of_ble_eq_true rfl) rfl rfl (fun h2 => ?_) (fun h2 => ?_)
    · skip
      refine c_run 5 (pc' := 4) (ls' := [(3, .int ((nI i) + (1 : Int32))), (2, .int 1), (0, .ref 77), (1, .int st)]) (st' := []) (μ' := (I, (n_J J R G))) (Nat.le_of_ble_eq_true rfl) rfl ?_
      refine c_w [2, 3, 1, 0] (ls' := [(0, .ref 77), (1, .int st), (2, .int 1), (3, .int ((nI i) + (1 : Int32)))]) rfl ?_
      have hx : (1 : Int32) = n_bw R (J 81) st (i + 1) := by
        rw [n_bw]
        first
          | rw [if_neg (by assumption)]
          | rw [if_pos (Decidable.byContradiction (fun q => absurd q (by assumption))), if_pos ⟨by assumption, by assumption⟩]
          | rw [if_pos (by assumption), if_pos ⟨by assumption, Int64.not_le.mp (by assumption)⟩]
          | rw [if_pos (by assumption), if_neg (fun q => absurd q.1 (by assumption))]
          | rw [if_pos (by assumption), if_neg (fun q => absurd q.2 (Int64.not_lt.mpr (by assumption)))]
      rw [nI_1 i, hx]
      exact ih (i + 1) (by omega)
    · skip
      refine c_run 6 (pc' := 22) (ls' := [(0, .ref 77), (1, .int st), (2, .int (n_bw R (J 81) st i)), (3, .int (nI i))]) (st' := [.int 1, .int ((st >>> ((nI i) &&& 31)) &&& (1 : Int32))]) (μ' := (I, (n_J J R G))) (Nat.le_of_ble_eq_true rfl) rfl ?_
      refine c_icne 45 (Nat.le_of_ble_eq_true rfl) rfl rfl (fun h3 => ?_) (fun h3 => ?_)
      · skip
        refine c_run 4 (pc' := 4) (ls' := [(3, .int ((nI i) + (1 : Int32))), (2, .int 0), (0, .ref 77), (1, .int st)]) (st' := []) (μ' := (I, (n_J J R G))) (Nat.le_of_ble_eq_true rfl) rfl ?_
        refine c_w [2, 3, 1, 0] (ls' := [(0, .ref 77), (1, .int st), (2, .int 0), (3, .int ((nI i) + (1 : Int32)))]) rfl ?_
        have hx : (0 : Int32) = n_bw R (J 81) st (i + 1) := by
          rw [n_bw]
          first
            | rw [if_neg (by assumption)]
            | rw [if_pos (Decidable.byContradiction (fun q => absurd q (by assumption))), if_pos ⟨by assumption, by assumption⟩]
            | rw [if_pos (by assumption), if_pos ⟨by assumption, Int64.not_le.mp (by assumption)⟩]
            | rw [if_pos (by assumption), if_neg (fun q => absurd q.1 (by assumption))]
            | rw [if_pos (by assumption), if_neg (fun q => absurd q.2 (Int64.not_lt.mpr (by assumption)))]
        rw [nI_1 i, hx]
        exact ih (i + 1) (by omega)
      · skip
        refine c_run 3 (pc' := 28) (ls' := [(0, .ref 77), (1, .int st), (2, .int (n_bw R (J 81) st i)), (3, .int (nI i))]) (st' := [.int 2, .int (nI i), .ref 77]) (μ' := (I, (n_J J R G))) (Nat.le_of_ble_eq_true rfl) rfl ?_
        refine c_cv 101 [.int (nI i), .int 2] (b := 77) (r := []) (Nat.le_of_ble_eq_true rfl) rfl rfl rfl rfl rfl rfl (n_of I (n_J J R G) i 2 (by omega)) ?_
        rintro _ _ ⟨rfl, rfl⟩
        show m_W 153 31 [(0, .ref 77), (1, .int st), (2, .int (n_bw R (J 81) st i)), (3, .int (nI i))] [.long (R (5 * i + 2))] (I, (n_J J R G)) _
        refine c_run 3 (pc' := 36) (ls' := [(0, .ref 77), (1, .int st), (2, .int (n_bw R (J 81) st i)), (3, .int (nI i))]) (st' := [.int (nI i), .ref 81, .long (R (5 * i + 2))]) (μ' := (I, (n_J J R G))) (Nat.le_of_ble_eq_true rfl) rfl ?_
        refine c_lal i 4 (Nat.le_of_ble_eq_true rfl) rfl rfl rfl rfl rfl (by omega) ?_
        show m_W 153 37 [(0, .ref 77), (1, .int st), (2, .int (n_bw R (J 81) st i)), (3, .int (nI i))] [.long (J 81 i), .long (R (5 * i + 2))] (I, (n_J J R G)) _
        refine c_run 1 (pc' := 38) (ls' := [(0, .ref 77), (1, .int st), (2, .int (n_bw R (J 81) st i)), (3, .int (nI i))]) (st' := [.int (lg_cmp (R (5 * i + 2)) (J 81 i))]) (μ' := (I, (n_J J R G))) (Nat.le_of_ble_eq_true rfl) rfl ?_
        refine c_ifge 45 (Nat.le_of_ble_eq_true rfl) rfl rfl (fun h4 => ?_) (fun h4 => ?_)
        · replace h4 := lc_ge.mp h4
          refine c_run 4 (pc' := 4) (ls' := [(3, .int ((nI i) + (1 : Int32))), (2, .int 0), (0, .ref 77), (1, .int st)]) (st' := []) (μ' := (I, (n_J J R G))) (Nat.le_of_ble_eq_true rfl) rfl ?_
          refine c_w [2, 3, 1, 0] (ls' := [(0, .ref 77), (1, .int st), (2, .int 0), (3, .int ((nI i) + (1 : Int32)))]) rfl ?_
          have hx : (0 : Int32) = n_bw R (J 81) st (i + 1) := by
            rw [n_bw]
            first
              | rw [if_neg (by assumption)]
              | rw [if_pos (Decidable.byContradiction (fun q => absurd q (by assumption))), if_pos ⟨by assumption, by assumption⟩]
              | rw [if_pos (by assumption), if_pos ⟨by assumption, Int64.not_le.mp (by assumption)⟩]
              | rw [if_pos (by assumption), if_neg (fun q => absurd q.1 (by assumption))]
              | rw [if_pos (by assumption), if_neg (fun q => absurd q.2 (Int64.not_lt.mpr (by assumption)))]
          rw [nI_1 i, hx]
          exact ih (i + 1) (by omega)
        · replace h4 := mt lc_ge.mpr h4
          refine c_run 5 (pc' := 4) (ls' := [(3, .int ((nI i) + (1 : Int32))), (2, .int 1), (0, .ref 77), (1, .int st)]) (st' := []) (μ' := (I, (n_J J R G))) (Nat.le_of_ble_eq_true rfl) rfl ?_
          refine c_w [2, 3, 1, 0] (ls' := [(0, .ref 77), (1, .int st), (2, .int 1), (3, .int ((nI i) + (1 : Int32)))]) rfl ?_
          have hx : (1 : Int32) = n_bw R (J 81) st (i + 1) := by
            rw [n_bw]
            first
              | rw [if_neg (by assumption)]
              | rw [if_pos (Decidable.byContradiction (fun q => absurd q (by assumption))), if_pos ⟨by assumption, by assumption⟩]
              | rw [if_pos (by assumption), if_pos ⟨by assumption, Int64.not_le.mp (by assumption)⟩]
              | rw [if_pos (by assumption), if_neg (fun q => absurd q.1 (by assumption))]
              | rw [if_pos (by assumption), if_neg (fun q => absurd q.2 (Int64.not_lt.mpr (by assumption)))]
          rw [nI_1 i, hx]
          exact ih (i + 1) (by omega)

set_option maxRecDepth 100000 in
theorem n_isBelow (I : Nat → Nat → Int32) (J : Nat → Nat → Int64) (R G : Nat → Int64) (n : Nat) (hn : I 77 2 = nI n) (hn4 : n ≤ 4) (st : Int32) : m_W 153 0 (lv_args 0 [.ref 77, .int st]) [] (I, (n_J J R G)) (m_E (some (.int (n_bw R (J 81) st n))) (I, n_J J R G)) := by
  show m_W 153 0 [(0, .ref 77), (1, .int st)] [] (I, (n_J J R G)) _
  refine c_run 4 (pc' := 4) (ls' := [(3, .int 0), (2, .int 0), (0, .ref 77), (1, .int st)]) (st' := []) (μ' := (I, (n_J J R G))) (Nat.le_of_ble_eq_true rfl) rfl ?_
  refine c_w [2, 3, 1, 0] (ls' := [(0, .ref 77), (1, .int st), (2, .int 0), (3, .int 0)]) rfl ?_
  exact n_bl_l I J R G n hn hn4 st n 0 (by omega)

