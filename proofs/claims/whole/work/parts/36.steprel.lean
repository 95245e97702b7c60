/-! A STEP under the relation: arithmetic, the rows' values -/
theorem d_cnt_cg {op : Int32} {f g : Nat → Int64} : ∀ {i : Nat}, (∀ t, t < i → f t = g t) → d_cnt op f i = d_cnt op g i
  | 0, _ => rfl
  | i + 1, h => by
    have e : d_is op f i ↔ d_is op g i := by
      show (_ ∧ ¬ f i ≤ 0) ↔ (_ ∧ ¬ g i ≤ 0)
      rw [h i (Nat.lt_succ_self i)]
    rw [d_cnt, d_cnt, d_cnt_cg (fun t ht => h t (Nat.lt_succ_of_lt ht))]
    by_cases q : d_is op f i
    · rw [if_pos q, if_pos (e.mp q)]
    · rw [if_neg q, if_neg (fun x => q (e.mpr x))]
theorem d_v_cg {op fl : Int32} {f g : Nat → Int64} {n t : Nat} (h : ∀ t, t < n → f t = g t) (ht : t < n) : d_v op fl f n t = d_v op fl g n t := by
  have e : d_is op f t ↔ d_is op g t := by
    show (_ ∧ ¬ f t ≤ 0) ↔ (_ ∧ ¬ g t ≤ 0)
    rw [h t ht]
  unfold d_v d_re
  by_cases q : d_is op f t
  · rw [if_pos q, if_pos (e.mp q), h t ht, d_cnt_cg h, d_cnt_cg (i := t) (fun u hu => h u (by omega))]
  · rw [if_neg q, if_neg (fun x => q (e.mpr x))]
theorem d_v_b {op fl : Int32} {f : Nat → Int64} {n t : Nat} (hf : i_rh fl 1 100000) (hn : n ≤ 4) (ht : t < n) (hm : ∀ t, t < n → i_rg (f t) 0 1000000000) : 0 ≤ (d_v op fl f n t).toInt ∧ (d_v op fl f n t).toInt ≤ (f t).toInt ∧ (d_is op f t → d_cnt op f t = 0 → 1 ≤ (d_v op fl f n t).toInt) := by
  unfold d_v
  by_cases h : d_is op f t
  · rw [if_pos h]
    have hp : 0 < (f t).toInt := by
      have := h.2
      rw [Int64.le_iff_toInt_le, show (0 : Int64).toInt = 0 from rfl] at this
      omega
    have c0 := n_cnt_p ht h
    have c4 := d_cnt_le op f n
    generalize hc : d_cnt op f n = c at c0 c4
    have hci : (nI c).toInt = (c : Int) := nI_toInt (by omega)
    have hq := (q_tdiv_le (a := fl.toInt) (b := (c : Int)) (by omega)).1 (by have := hf.1; omega)
    have h1 : (d_part fl c).toInt = fl.toInt.tdiv c := by
      unfold d_part; rw [Int32.toInt_toInt64, w_div (by rw [hci]; omega), hci]
    have h2 : (d_rst fl c).toInt = fl.toInt - c * fl.toInt.tdiv c := by
      unfold d_rst; rw [Int32.toInt_toInt64, w_rem (by rw [hci]; omega), hci]
    generalize fl.toInt.tdiv c = q at hq h1 h2
    have f1 := hf.1
    have f2 := hf.2
    have h3 : 0 ≤ (d_re op fl f n t).toInt ∧ (d_re op fl f n t).toInt ≤ 100000 ∧ (d_cnt op f t = 0 → 1 ≤ q + (d_re op fl f n t).toInt) := by
      unfold d_re
      rw [hc]
      by_cases h0 : d_cnt op f t = 0
      · rw [if_pos h0, h2]
        have c1 : (0 : Int) < c := by omega
        have c5 : (c : Int) ≤ 4 := by omega
        have nn : 0 ≤ (c : Int) * q := Int.mul_nonneg (by omega) hq.1
        refine ⟨by omega, by omega, fun _ => ?_⟩
        by_cases hq0 : q = 0
        · subst hq0; omega
        · omega
      · rw [if_neg h0]
        exact ⟨by decide, by decide, fun x => absurd x h0⟩
    have hs : (d_part fl c + d_re op fl f n t).toInt = q + (d_re op fl f n t).toInt := by
      rw [q_add, h1] <;> rw [h1] <;> omega
    unfold d_mn
    by_cases hl : d_part fl c + d_re op fl f n t < f t
    · rw [if_pos hl, hs]
      rw [Int64.lt_iff_toInt_lt, hs] at hl
      exact ⟨by omega, by omega, fun _ x => h3.2.2 x⟩
    · rw [if_neg hl]
      exact ⟨by omega, by omega, fun _ _ => by omega⟩
  · rw [if_neg h]
    have := (hm t ht).1
    exact ⟨by decide, by rw [show (0 : Int64).toInt = 0 from rfl]; omega, fun x => absurd x h⟩
theorem d_sum_b {op fl : Int32} {f : Nat → Int64} {n : Nat} (hf : i_rh fl 1 100000) (hn : n ≤ 4) (hm : ∀ t, t < n → i_rg (f t) 0 1000000000) : ∀ i, i ≤ n → 0 ≤ (d_sum op fl f n i).toInt ∧ (d_sum op fl f n i).toInt ≤ i * 1000000000 ∧ (d_cnt op f i = 0 → d_sum op fl f n i = 0) ∧ (0 < d_cnt op f i → 1 ≤ (d_sum op fl f n i).toInt)
  | 0, _ => ⟨by show 0 ≤ (0 : Int64).toInt; decide, by show (0 : Int64).toInt ≤ _; decide, fun _ => rfl, fun h => absurd h (Nat.lt_irrefl 0)⟩
  | i + 1, hi => by
    obtain ⟨a, b, c, d⟩ := d_sum_b (op := op) hf hn hm i (by omega)
    obtain ⟨v0, v1, v2⟩ := d_v_b (op := op) hf hn (show i < n by omega) hm
    have m1 := (hm i (by omega)).2
    have e : (d_sum op fl f n (i + 1)).toInt = (d_sum op fl f n i).toInt + (d_v op fl f n i).toInt := by
      rw [d_sum, q_add] <;> omega
    refine ⟨by omega, by omega, fun h => ?_, fun h => ?_⟩
    · rw [d_cnt] at h
      by_cases q : d_is op f i
      · rw [if_pos q] at h; omega
      · rw [if_neg q] at h
        rw [d_sum, c h, d_v, if_neg q]
        rfl
    · rw [e]
      rw [d_cnt] at h
      by_cases q : d_is op f i
      · rw [if_pos q] at h
        by_cases h0 : d_cnt op f i = 0
        · have := v2 q h0; omega
        · have := d (by omega); omega
      · rw [if_neg q] at h
        have := d h; omega
theorem d_sum_0 {op fl : Int32} {f : Nat → Int64} {n : Nat} (hf : i_rh fl 1 100000) (hn : n ≤ 4) (hm : ∀ t, t < n → i_rg (f t) 0 1000000000) : d_sum op fl f n n = 0 ↔ ¬ 0 < d_cnt op f n := by
  obtain ⟨a, b, c, d⟩ := d_sum_b (op := op) hf hn hm n (Nat.le_refl n)
  refine ⟨fun h q => ?_, fun h => c (by omega)⟩
  have := d q
  rw [h, show (0 : Int64).toInt = 0 from rfl] at this
  omega
/-- values of the rows -/
theorem n_lk_v {R : Nat → Int64} {L : Nat → Int32} {t : Nat} : ∀ {i : Nat}, i ≤ 4 → n_lk R L i (5 * t + 0) = if t < i then n_mx (R (5 * t + 0) - (L t).toInt64) else R (5 * t + 0)
  | 0, _ => (if_neg (Nat.not_lt_zero t)).symm
  | i + 1, hi => by
    rw [n_lk]
    by_cases h : t = i
    · subst h
      rw [r_us, if_pos (Nat.lt_succ_self t), n_lk_v (by omega), if_neg (Nat.lt_irrefl t)]
    · rw [r_un (by omega), n_lk_v (by omega)]
      by_cases h2 : t < i
      · rw [if_pos h2, if_pos (by omega)]
      · rw [if_neg h2, if_neg (by omega)]
theorem n_dl_v {R g : Nat → Int64} {e t : Nat} (he : e < 6) (ht : t < 4) : ∀ {i : Nat}, i ≤ 4 → n_dl R g e i (5 * t + 0) = if t < i then R (5 * t + 0) - g t else R (5 * t + 0)
  | 0, _ => (if_neg (Nat.not_lt_zero t)).symm
  | i + 1, hi => by
    rw [n_dl, r_un (by omega)]
    by_cases h : t = i
    · subst h
      rw [r_us, if_pos (Nat.lt_succ_self t), n_dl_v he ht (by omega), if_neg (Nat.lt_irrefl t)]
    · rw [r_un (by omega), n_dl_v he ht (by omega)]
      by_cases h2 : t < i
      · rw [if_pos h2, if_pos (by omega)]
      · rw [if_neg h2, if_neg (by omega)]
theorem n_dl_d {R g f : Nat → Int64} {op fl : Int32} {n e : Nat} (he : e < 6) : ∀ {i : Nat}, i ≤ 4 → (∀ t, t < i → g t = d_v op fl f n t) → n_dl R g e i (20 + 3 * e + 2) = R (20 + 3 * e + 2) + d_sum op fl f n i
  | 0, _, _ => by show _ = _ + (0 : Int64); rw [Int64.add_zero]; rfl
  | i + 1, hi, h => by
    rw [n_dl, r_us, n_dl_d he (by omega) (fun t ht => h t (by omega)), d_sum, h i (by omega), Int64.add_assoc]
theorem n_bk_v1 {R g : Nat → Int64} {e t : Nat} (he : e < 6) (ht : t < 4) : ∀ {i : Nat}, i ≤ 4 → n_bk R g e i (5 * t + 1) = if t < i then R (5 * t + 1) - g t else R (5 * t + 1)
  | 0, _ => (if_neg (Nat.not_lt_zero t)).symm
  | i + 1, hi => by
    rw [n_bk, r_un (by omega), r_un (by omega), r_un (by omega), r_un (by omega)]
    by_cases h : t = i
    · subst h
      rw [r_us, if_pos (Nat.lt_succ_self t), n_bk_v1 he ht (by omega), if_neg (Nat.lt_irrefl t)]
    · rw [r_un (by omega), n_bk_v1 he ht (by omega)]
      by_cases h2 : t < i
      · rw [if_pos h2, if_pos (by omega)]
      · rw [if_neg h2, if_neg (by omega)]
theorem n_bk_v2 {R g : Nat → Int64} {e t : Nat} (he : e < 6) (ht : t < 4) : ∀ {i : Nat}, i ≤ 4 → n_bk R g e i (5 * t + 2) = if t < i then n_mx (R (5 * t + 2) - g t) else R (5 * t + 2)
  | 0, _ => (if_neg (Nat.not_lt_zero t)).symm
  | i + 1, hi => by
    rw [n_bk, r_un (by omega), r_un (by omega), r_un (by omega)]
    by_cases h : t = i
    · subst h
      rw [r_us, if_pos (Nat.lt_succ_self t), n_bk_v2 he ht (by omega), if_neg (Nat.lt_irrefl t)]
    · rw [r_un (by omega), r_un (by omega), n_bk_v2 he ht (by omega)]
      by_cases h2 : t < i
      · rw [if_pos h2, if_pos (by omega)]
      · rw [if_neg h2, if_neg (by omega)]
theorem n_bk_v4 {R g : Nat → Int64} {e t : Nat} (he : e < 6) (ht : t < 4) : ∀ {i : Nat}, i ≤ 4 → n_bk R g e i (5 * t + 4) = if t < i then R (5 * t + 4) + g t else R (5 * t + 4)
  | 0, _ => (if_neg (Nat.not_lt_zero t)).symm
  | i + 1, hi => by
    rw [n_bk, r_un (by omega), r_un (by omega)]
    by_cases h : t = i
    · subst h
      rw [r_us, if_pos (Nat.lt_succ_self t), n_bk_v4 he ht (by omega), if_neg (Nat.lt_irrefl t)]
    · rw [r_un (by omega), r_un (by omega), r_un (by omega), n_bk_v4 he ht (by omega)]
      by_cases h2 : t < i
      · rw [if_pos h2, if_pos (by omega)]
      · rw [if_neg h2, if_neg (by omega)]
theorem n_bk_u {R g f : Nat → Int64} {op fl : Int32} {n e : Nat} (he : e < 6) : ∀ {i : Nat}, i ≤ 4 → (∀ t, t < i → g t = d_v op fl f n t) → n_bk R g e i (20 + 3 * e + 1) = R (20 + 3 * e + 1) + d_sum op fl f n i ∧ n_bk R g e i 139 = R 139 + d_sum op fl f n i
  | 0, _, _ => by refine ⟨?_, ?_⟩ <;> (show _ = _ + (0 : Int64); rw [Int64.add_zero]; rfl)
  | i + 1, hi, h => by
    obtain ⟨a, b⟩ := n_bk_u he (R := R) (g := g) (i := i) (by omega) (fun t ht => h t (by omega))
    refine ⟨?_, ?_⟩
    · rw [n_bk, r_un (by omega), r_us, a, d_sum, h i (by omega), Int64.add_assoc]
    · rw [n_bk, r_us, b, d_sum, h i (by omega), Int64.add_assoc]
theorem n_gv_v {op F : Int32} {f G : Nat → Int64} {n t : Nat} (hn : n ≤ 4) (ht : t < n) : n_gv op F f n G 4 t = d_v op F f n t := by
  unfold n_gv n_g1
  rw [if_pos (by omega), if_pos ht]
theorem k_ball_up {κ : k_M} {e : Nat} {v s : Int64} {c : Nat → Nat → Int32} {d : Nat → Nat → Int64} (he : e < 6) (hv : d 28 e = κ.2 28 e + s) (ho : ∀ j, j < 6 → j ≠ e → d 28 j = κ.2 28 j) : k_ball (c, d) = k_ball κ + s := by
  have key : ∀ a b c d e f s : Int64, (((((0 + a) + b) + c) + d) + e) + f + s = (((((0 + a) + b) + c) + d) + e) + (f + s) := fun a b c d e f s => Int64.add_assoc _ _ _
  unfold k_ball
  dsimp only
  rcases (show e = 0 ∨ e = 1 ∨ e = 2 ∨ e = 3 ∨ e = 4 ∨ e = 5 by omega) with rfl | rfl | rfl | rfl | rfl | rfl
  · rw [hv, ho 1 (by omega) (by omega), ho 2 (by omega) (by omega), ho 3 (by omega) (by omega), ho 4 (by omega) (by omega), ho 5 (by omega) (by omega)]
    ac_rfl
  · rw [hv, ho 0 (by omega) (by omega), ho 2 (by omega) (by omega), ho 3 (by omega) (by omega), ho 4 (by omega) (by omega), ho 5 (by omega) (by omega)]
    ac_rfl
  · rw [hv, ho 0 (by omega) (by omega), ho 1 (by omega) (by omega), ho 3 (by omega) (by omega), ho 4 (by omega) (by omega), ho 5 (by omega) (by omega)]
    ac_rfl
  · rw [hv, ho 0 (by omega) (by omega), ho 1 (by omega) (by omega), ho 2 (by omega) (by omega), ho 4 (by omega) (by omega), ho 5 (by omega) (by omega)]
    ac_rfl
  · rw [hv, ho 0 (by omega) (by omega), ho 1 (by omega) (by omega), ho 2 (by omega) (by omega), ho 3 (by omega) (by omega), ho 5 (by omega) (by omega)]
    ac_rfl
  · rw [hv, ho 0 (by omega) (by omega), ho 1 (by omega) (by omega), ho 2 (by omega) (by omega), ho 3 (by omega) (by omega), ho 4 (by omega) (by omega)]
    ac_rfl
/-- booking -/
theorem k_book_v {κ : k_M} {e n : Nat} (t : Nat) : (k_book κ e n).2 5 t = κ.2 5 t ∧ (k_book κ e n).2 6 t = (if t < n then κ.2 6 t - k_shf κ e n 6 t else κ.2 6 t) ∧ (k_book κ e n).2 7 t = (if t < n then k_mx (κ.2 7 t - k_shf κ e n 6 t) else κ.2 7 t) ∧ (k_book κ e n).2 8 t = κ.2 8 t ∧ (k_book κ e n).2 35 t = (if t < n then κ.2 35 t + k_shf κ e n 6 t else κ.2 35 t) ∧ (k_book κ e n).2 29 t = κ.2 29 t ∧ (k_book κ e n).2 28 e = κ.2 28 e + k_ssum κ e n 6 ∧ (t ≠ e → (k_book κ e n).2 28 t = κ.2 28 t) := by
  have w : t < n → d_w (κ.1 27 e) (κ.1 25 e) (κ.2 6) (κ.2 36) n n t = k_shf κ e n 6 t := fun h => if_pos h
  refine ⟨rfl, ?_, ?_, rfl, ?_, rfl, ?_, fun h => ?_⟩
  · show (if t < n then κ.2 6 t - d_w (κ.1 27 e) (κ.1 25 e) (κ.2 6) (κ.2 36) n n t else κ.2 6 t) = _
    by_cases h : t < n
    · rw [if_pos h, if_pos h, w h]
    · rw [if_neg h, if_neg h]
  · show (if t < n then k_mx (κ.2 7 t - d_w (κ.1 27 e) (κ.1 25 e) (κ.2 6) (κ.2 36) n n t) else κ.2 7 t) = _
    by_cases h : t < n
    · rw [if_pos h, if_pos h, w h]
    · rw [if_neg h, if_neg h]
  · show (if t < n then κ.2 35 t + d_w (κ.1 27 e) (κ.1 25 e) (κ.2 6) (κ.2 36) n n t else κ.2 35 t) = _
    by_cases h : t < n
    · rw [if_pos h, if_pos h, w h]
    · rw [if_neg h, if_neg h]
  · unfold k_book k_bk2
    dsimp only
    rw [m_ujk]
    rfl
  · unfold k_book k_bk2
    dsimp only
    rw [m_ujn h]
    rfl
theorem r_book {κ : k_M} {R G : Nat → Int64} {B : Int64} {n e : Nat} {F : Int32} (D : r_D κ R B) (hn : n ≤ 4) (he : e < 6) (hF : F = κ.1 25 e) : r_D (k_book κ e n) (n_bk R (n_gv (κ.1 27 e) F (n_m R 1) n G 4) e n) B := by
  subst hF
  generalize hg : n_gv (κ.1 27 e) (κ.1 25 e) (n_m R 1) n G 4 = g
  have gv : ∀ t, t < n → g t = d_v (κ.1 27 e) (κ.1 25 e) (κ.2 6) n t := fun t ht => by
    rw [← hg, n_gv_v hn ht]
    exact d_v_cg (fun u hu => D.t1 u (by omega)) ht
  have gk : ∀ t, t < n → g t = k_shf κ e n 6 t := gv
  obtain ⟨su, sb⟩ := n_bk_u (R := R) (g := g) he hn gv
  refine r_D.mk (t0 := fun t ht => by rw [n_bk_o he hn (by omega) (by omega) (by omega), (k_book_v t).1]; exact D.t0 t ht) (t1 := fun t ht => ?_) (t2 := fun t ht => ?_) (t3 := fun t ht => by rw [n_bk_o he hn (by omega) (by omega) (by omega), (k_book_v t).2.2.2.1]; exact D.t3 t ht) (t4 := fun t ht => ?_) (e0 := fun j hj => by rw [n_bk_o he hn (by omega) (by omega) (by omega)]; exact D.e0 j hj) (e1 := fun j hj => ?_) (e2 := fun j hj => by rw [n_bk_o he hn (by omega) (by omega) (by omega), (k_book_v j).2.2.2.2.2.1]; exact D.e2 j hj) (ti := by rw [n_bk_o he hn (by omega) (by omega) (by omega)]; exact D.ti) (bu := by rw [n_bk_o he hn (by omega) (by omega) (by omega)]; exact D.bu) (la := by rw [n_bk_o he hn (by omega) (by omega) (by omega)]; exact D.la) (sv := by rw [n_bk_o he hn (by omega) (by omega) (by omega)]; exact D.sv) (bk := ?_)
  · rw [n_bk_v1 he ht hn, (k_book_v t).2.1, D.t1 t ht]
    by_cases h : t < n
    · rw [if_pos h, if_pos h, gk t h]
    · rw [if_neg h, if_neg h]
  · rw [n_bk_v2 he ht hn, (k_book_v t).2.2.1, D.t2 t ht]
    by_cases h : t < n
    · rw [if_pos h, if_pos h, gk t h, n_mx_k]
    · rw [if_neg h, if_neg h]
  · rw [n_bk_v4 he ht hn, (k_book_v t).2.2.2.2.1, D.t4 t ht]
    by_cases h : t < n
    · rw [if_pos h, if_pos h, gk t h]
    · rw [if_neg h, if_neg h]
  · by_cases h : j = e
    · subst h
      rw [su, D.e1 j hj, (k_book_v 0).2.2.2.2.2.2.1]
      rfl
    · rw [n_bk_o he hn (by omega) (by omega) (by omega), (k_book_v j).2.2.2.2.2.2.2 h]; exact D.e1 j hj
  · rw [sb, D.bk, k_ball_up (κ := κ) (e := e) (v := 0) (s := k_ssum κ e n 6) (c := (k_book κ e n).1) (d := (k_book κ e n).2) he (k_book_v 0).2.2.2.2.2.2.1 (fun j hj h => (k_book_v j).2.2.2.2.2.2.2 h)]
    show k_ball κ - B + k_ssum κ e n 6 = _
    rw [Int64.sub_eq_add_neg, Int64.sub_eq_add_neg]
    ac_rfl
