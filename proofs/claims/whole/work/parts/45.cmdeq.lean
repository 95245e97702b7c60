/-! COMMANDS of the model -/
theorem n_g1_ : ∀ j, j < 8 → j ≠ 1 → j ≠ 4 → g_sl.getD j 0 = n_wl.getD j 0 + 1 ∧ (g_sb.getD j []).getD (n_wl.getD j 0) 0 = 32 := by decide
def n_dp (i j : Nat) : Nat := if i ≤ 1 ∧ j ≤ 1 then 2 else 0
theorem n_g2a : ∀ i, i < 8 → ∀ j, j < 8 → i ≠ 4 ∧ j ≠ 4 ∧ i ≠ j → n_dp i j < g_sl.getD i 0 := by decide
theorem n_g2b : ∀ i, i < 8 → ∀ j, j < 8 → i ≠ 4 ∧ j ≠ 4 ∧ i ≠ j → n_dp i j < n_wl.getD j 0 := by decide
theorem n_g2c : ∀ i, i < 8 → ∀ j, j < 8 → i ≠ 4 ∧ j ≠ 4 ∧ i ≠ j → ¬ n_ww i (n_dp i j) = n_ww j (n_dp i j) := by decide
theorem n_ns {T : Nat → Int32} {s l i j : Nat} (h : n_is T s l j) (hi : i < 8) (hj : j < 8) (hi4 : i ≠ 4) (hj4 : j ≠ 4) (hij : i ≠ j) : ¬ p_sk T s i := by
  intro q
  have g : i ≠ 4 ∧ j ≠ 4 ∧ i ≠ j := ⟨hi4, hj4, hij⟩
  exact n_g2c i hi j hj g ((q _ (n_g2a i hi j hj g)).symm.trans (h.2 _ (n_g2b i hi j hj g)))
theorem n_sk {T : Nat → Int32} {s l j : Nat} (h : n_is T s l j) (hj : j < 8) (h1 : j ≠ 1) (h4 : j ≠ 4) : p_sk T s j ↔ T (s + l) = 32 := by
  obtain ⟨g1, g2⟩ := n_g1_ j hj h1 h4
  constructor
  · intro q
    rw [h.1, q (n_wl.getD j 0) (by omega)]
    exact g2
  · intro q i hi
    rw [g1] at hi
    by_cases hk : i = n_wl.getD j 0
    · rw [hk, g2, ← h.1]; exact q
    · exact h.2 i (by omega)
theorem p_W_eq {T : Nat → Int32} {s k : Nat} (h : ∀ i, i < k → 97 ≤ T (s + i) ∧ T (s + i) ≤ 122) (h2 : ¬ (97 ≤ T (s + k) ∧ T (s + k) ≤ 122)) (hk : k < 101) : p_W T s = k := by
  have a : ¬ k < p_W T s := fun q => h2 (p_r_in (m := 101) q)
  have b : ¬ p_W T s < k := fun q => p_r_out (T := T) (a := 97) (b := 122) (m := 101) (s := s) (show p_W T s < 101 by omega) (h (p_W T s) q)
  omega
theorem n_sk_is {T : Nat → Int32} {s j : Nat} (hj : j < 8) (h1 : j ≠ 1) (h4 : j ≠ 4) (h : p_sk T s j) : n_is T s (p_W T s) j := by
  obtain ⟨g1, g2⟩ := n_g1_ j hj h1 h4
  have hl : ∀ i, i < n_wl.getD j 0 → T (s + i) = n_ww j i := fun i hi => h i (by omega)
  have h5 : n_wl.getD j 0 < 101 := by
    have : ∀ j, j < 8 → n_wl.getD j 0 < 101 := by decide
    exact this j hj
  refine ⟨p_W_eq (fun i hi => ?_) ?_ h5, hl⟩
  · rw [hl i hi]
    have := n_wwl j hj i hi
    rw [Nat.zero_add] at this
    exact this
  · rw [h (n_wl.getD j 0) (by omega), g2]; decide
theorem n_sk_is1 {T : Nat → Int32} {s : Nat} (h : p_sk T s 1) (h2 : T (s + 4) = 59) : n_is T s (p_W T s) 1 := by
  have hl : ∀ i, i < n_wl.getD 1 0 → T (s + i) = n_ww 1 i := fun i hi => h i hi
  refine ⟨p_W_eq (k := 4) (fun i hi => ?_) ?_ (by omega), hl⟩
  · rw [hl i hi]
    have := n_wwl 1 (by omega) i hi
    rw [Nat.zero_add] at this
    exact this
  · rw [h2]; decide
theorem p_at_n {T : Nat → Int32} {s : Nat} (h : p_cmd T s = none) : p_at T s = none := by unfold p_at; rw [h]
theorem p_at_s {T : Nat → Int32} {s : Nat} {q : p_C} (h : p_cmd T s = some q) : p_at T s = if T q.1 = 59 then some (q.1 + 1, q.2) else none := by
  unfold p_at
  rw [h]
  dsimp only
  by_cases c : T q.1 = 59
  · rw [if_pos c, if_pos (p_sk8.mpr c)]
  · rw [if_neg c, if_neg (fun x => c (p_sk8.mp x))]
theorem br_num {α : Type} {T : Nat → Int32} {a D : Nat} {lo hi x : Int32} (hx : ¬ (48 ≤ x ∧ x ≤ 57)) (F : Nat → Option α) : (if p_ok T a D lo hi then (if T (a + p_D T a D) = x then F (p_D T a D) else none) else none) = (if (1 ≤ p_D T a (D + 1) ∧ p_D T a (D + 1) ≤ D) ∧ (lo ≤ p_nu T a (p_D T a (D + 1)) ∧ p_nu T a (p_D T a (D + 1)) ≤ hi) then (if T (a + p_D T a (D + 1)) = x then F (p_D T a (D + 1)) else none) else none) := by
  have hm : p_D T a D = min D (p_D T a (D + 1)) := p_r_min (by omega)
  by_cases hN : p_D T a (D + 1) ≤ D
  · have e : p_D T a D = p_D T a (D + 1) := by rw [hm]; omega
    by_cases c : (1 ≤ p_D T a (D + 1) ∧ p_D T a (D + 1) ≤ D) ∧ (lo ≤ p_nu T a (p_D T a (D + 1)) ∧ p_nu T a (p_D T a (D + 1)) ≤ hi)
    · rw [if_pos c, if_pos (show p_ok T a D lo hi from ⟨by rw [e]; exact c.1.1, by rw [e]; exact c.2⟩), e]
    · rw [if_neg c, if_neg (show ¬ p_ok T a D lo hi from fun q => c ⟨⟨by have := q.1; rw [e] at this; exact this, hN⟩, by have := q.2; rw [e] at this; exact this⟩)]
  · have e : p_D T a D = D := by rw [hm]; omega
    rw [if_neg (show ¬ ((1 ≤ p_D T a (D + 1) ∧ p_D T a (D + 1) ≤ D) ∧ (lo ≤ p_nu T a (p_D T a (D + 1)) ∧ p_nu T a (p_D T a (D + 1)) ≤ hi)) from fun q => hN q.1.2)]
    have d := p_r_in (T := T) (a := 48) (b := 57) (s := a) (m := D + 1) (i := D) (show D < p_D T a (D + 1) by omega)
    by_cases c : p_ok T a D lo hi
    · rw [if_pos c, e, if_neg (fun q => hx (by rw [← q]; exact d))]
    · rw [if_neg c]
theorem br_word {α : Type} {T : Nat → Int32} {a : Nat} {x : Int32} (hx : ¬ (97 ≤ x ∧ x ≤ 122)) (F : Nat → Option α) : (if 0 < p_L T a then (if T (a + p_L T a) = x then F (p_L T a) else none) else none) = (if 1 ≤ p_W T a ∧ p_W T a ≤ 6 then (if T (a + p_W T a) = x then F (p_W T a) else none) else none) := by
  have hm : p_L T a = min 6 (p_W T a) := p_r_min (by omega)
  by_cases hN : p_W T a ≤ 6
  · have e : p_L T a = p_W T a := by rw [hm]; omega
    by_cases c : 1 ≤ p_W T a ∧ p_W T a ≤ 6
    · rw [if_pos c, if_pos (show 0 < p_L T a by rw [e]; exact c.1), e]
    · rw [if_neg c, if_neg (show ¬ 0 < p_L T a by rw [e]; omega)]
  · have e : p_L T a = 6 := by rw [hm]; omega
    rw [if_neg (show ¬ (1 ≤ p_W T a ∧ p_W T a ≤ 6) from fun q => hN q.2)]
    have d := p_r_in (T := T) (a := 97) (b := 122) (s := a) (m := 101) (i := 6) (show 6 < p_W T a by omega)
    rw [if_pos (show 0 < p_L T a by omega), e, if_neg (fun q => hx (by rw [← q]; exact d))]
theorem p_at_if {T : Nat → Int32} {s e : Nat} {c : Prop} [Decidable c] {r : Int32 × Int32 × Int32 × Int32} (h : p_cmd T s = if c then some (e, r) else none) : p_at T s = if c then (if T e = 59 then some (e + 1, r) else none) else none := by
  by_cases q : c
  · rw [if_pos q] at h ⊢; exact p_at_s h
  · rw [if_neg q] at h ⊢; exact p_at_n h
theorem p_at_if2 {T : Nat → Int32} {s e : Nat} {c d : Prop} [Decidable c] [Decidable d] {r : Int32 × Int32 × Int32 × Int32} (h : p_cmd T s = if c then (if d then some (e, r) else none) else none) : p_at T s = if c then (if d then (if T e = 59 then some (e + 1, r) else none) else none) else none := by
  by_cases q : c
  · rw [if_pos q] at h ⊢; exact p_at_if h
  · rw [if_neg q] at h ⊢; exact p_at_n h
theorem p_at_if3 {T : Nat → Int32} {s e : Nat} {c d f : Prop} [Decidable c] [Decidable d] [Decidable f] {r : Int32 × Int32 × Int32 × Int32} (h : p_cmd T s = if c then (if d then (if f then some (e, r) else none) else none) else none) : p_at T s = if c then (if d then (if f then (if T e = 59 then some (e + 1, r) else none) else none) else none) else none := by
  by_cases q : c
  · rw [if_pos q] at h ⊢; exact p_at_if2 h
  · rw [if_neg q] at h ⊢; exact p_at_n h
theorem if_c1 {α : Type} {p q : Prop} [Decidable p] [Decidable q] (h : p ↔ q) {a b : α} : (if p then a else b) = (if q then a else b) := by
  by_cases c : p
  · rw [if_pos c, if_pos (h.mp c)]
  · rw [if_neg c, if_neg (fun x => c (h.mpr x))]
theorem if_c2 {α : Type} {p : Prop} [Decidable p] {a a' b : α} (h : p → a = a') : (if p then a else b) = (if p then a' else b) := by
  by_cases c : p
  · rw [if_pos c, if_pos c, h c]
  · rw [if_neg c, if_neg c]

theorem pm_0 {T : Nat → Int32} {s : Nat} (h : n_is T s (p_W T s) 0) : p_at T s = if T (s + (p_W T s)) = 32 then (if 1 ≤ (p_W T (s + p_W T s + 1)) ∧ (p_W T (s + p_W T s + 1)) ≤ 6 then (if T ((s + p_W T s + 1) + (p_W T (s + p_W T s + 1))) = 59 then some ((s + p_W T s + 1) + (p_W T (s + p_W T s + 1)) + 1, 1, p_nm T (s + p_W T s + 1) (p_W T (s + p_W T s + 1)), 0, 0) else none) else none) else none := by
  have hL : p_W T s = 5 := h.1
  have hs := n_sk h (by omega) (by omega) (by omega)
  by_cases c : T (s + p_W T s) = 32
  · rw [if_pos c]
    rw [hL]
    rw [show s + 5 + 1 = s + 6 from rfl]
    rw [p_at_if (c := 0 < p_L T (s + 6)) (e := s + 6 + p_L T (s + 6)) (r := (1, p_nm T (s + 6) (p_L T (s + 6)), 0, 0)) (by unfold p_cmd; rw [if_pos (hs.mpr c)])]
    exact br_word (T := T) (a := (s + 6)) (x := 59) (by decide) (fun W => some (s + 6 + W + 1, 1, p_nm T (s + 6) W, 0, 0))
  · rw [if_neg c]
    refine p_at_n ?_
    unfold p_cmd; rw [if_neg (fun q => c (hs.mp q)), if_neg (n_ns h (i := 1) (by omega) (by omega) (by omega) (by omega) (by omega)), if_neg (n_ns h (i := 2) (by omega) (by omega) (by omega) (by omega) (by omega)), if_neg (n_ns h (i := 3) (by omega) (by omega) (by omega) (by omega) (by omega)), if_neg (n_ns h (i := 5) (by omega) (by omega) (by omega) (by omega) (by omega)), if_neg (n_ns h (i := 6) (by omega) (by omega) (by omega) (by omega) (by omega)), if_neg (n_ns h (i := 7) (by omega) (by omega) (by omega) (by omega) (by omega))]
theorem pm_1 {T : Nat → Int32} {s : Nat} (h : n_is T s (p_W T s) 1) : p_at T s = if T (s + (p_W T s)) = 59 then some (s + (p_W T s) + 1, 2, 0, 0, 0) else none := by
  have hL : p_W T s = 4 := h.1
  have hs : p_sk T s 1 := h.2
  rw [p_at_s (q := (s + 4, 2, 0, 0, 0)) (by unfold p_cmd; rw [if_neg (n_ns h (i := 0) (by omega) (by omega) (by omega) (by omega) (by omega)), if_pos hs]), hL]
theorem pm_2 {T : Nat → Int32} {s : Nat} (h : n_is T s (p_W T s) 2) : p_at T s = if T (s + (p_W T s)) = 32 then (if ((1 ≤ (p_D T (s + p_W T s + 1) 5) ∧ (p_D T (s + p_W T s + 1) 5) ≤ 4) ∧ (1 ≤ p_nu T (s + p_W T s + 1) (p_D T (s + p_W T s + 1) 5) ∧ p_nu T (s + p_W T s + 1) (p_D T (s + p_W T s + 1) 5) ≤ 2000)) then (if T ((s + p_W T s + 1) + (p_D T (s + p_W T s + 1) 5)) = 59 then some ((s + p_W T s + 1) + (p_D T (s + p_W T s + 1) 5) + 1, 3, 0, 0, p_nu T (s + p_W T s + 1) (p_D T (s + p_W T s + 1) 5)) else none) else none) else none := by
  have hL : p_W T s = 4 := h.1
  have hs := n_sk h (by omega) (by omega) (by omega)
  by_cases c : T (s + p_W T s) = 32
  · rw [if_pos c]
    rw [hL]
    rw [show s + 4 + 1 = s + 5 from rfl]
    rw [p_at_if (c := p_ok T (s + 5) 4 1 2000) (e := s + 5 + p_D T (s + 5) 4) (r := (3, 0, 0, p_nu T (s + 5) (p_D T (s + 5) 4))) (by unfold p_cmd; rw [if_neg (n_ns h (i := 0) (by omega) (by omega) (by omega) (by omega) (by omega)), if_neg (n_ns h (i := 1) (by omega) (by omega) (by omega) (by omega) (by omega)), if_pos (hs.mpr c)])]
    exact br_num (T := T) (a := (s + 5)) (D := 4) (lo := 1) (hi := 2000) (x := 59) (by decide) (fun N => some (s + 5 + N + 1, 3, 0, 0, p_nu T (s + 5) N))
  · rw [if_neg c]
    refine p_at_n ?_
    unfold p_cmd; rw [if_neg (n_ns h (i := 0) (by omega) (by omega) (by omega) (by omega) (by omega)), if_neg (n_ns h (i := 1) (by omega) (by omega) (by omega) (by omega) (by omega)), if_neg (fun q => c (hs.mp q)), if_neg (n_ns h (i := 3) (by omega) (by omega) (by omega) (by omega) (by omega)), if_neg (n_ns h (i := 5) (by omega) (by omega) (by omega) (by omega) (by omega)), if_neg (n_ns h (i := 6) (by omega) (by omega) (by omega) (by omega) (by omega)), if_neg (n_ns h (i := 7) (by omega) (by omega) (by omega) (by omega) (by omega))]
theorem pm_3 {T : Nat → Int32} {s : Nat} (h : n_is T s (p_W T s) 3) : p_at T s = if T (s + (p_W T s)) = 32 then (if 1 ≤ (p_W T (s + p_W T s + 1)) ∧ (p_W T (s + p_W T s + 1)) ≤ 6 then (if T ((s + p_W T s + 1) + (p_W T (s + p_W T s + 1))) = 32 then (if ((1 ≤ (p_D T ((s + p_W T s + 1) + (p_W T (s + p_W T s + 1)) + 1) 5) ∧ (p_D T ((s + p_W T s + 1) + (p_W T (s + p_W T s + 1)) + 1) 5) ≤ 4) ∧ (1 ≤ p_nu T ((s + p_W T s + 1) + (p_W T (s + p_W T s + 1)) + 1) (p_D T ((s + p_W T s + 1) + (p_W T (s + p_W T s + 1)) + 1) 5) ∧ p_nu T ((s + p_W T s + 1) + (p_W T (s + p_W T s + 1)) + 1) (p_D T ((s + p_W T s + 1) + (p_W T (s + p_W T s + 1)) + 1) 5) ≤ 2000)) then (if T (((s + p_W T s + 1) + (p_W T (s + p_W T s + 1)) + 1) + (p_D T ((s + p_W T s + 1) + (p_W T (s + p_W T s + 1)) + 1) 5)) = 59 then some (((s + p_W T s + 1) + (p_W T (s + p_W T s + 1)) + 1) + (p_D T ((s + p_W T s + 1) + (p_W T (s + p_W T s + 1)) + 1) 5) + 1, 4, p_nm T (s + p_W T s + 1) (p_W T (s + p_W T s + 1)), 0, p_nu T ((s + p_W T s + 1) + (p_W T (s + p_W T s + 1)) + 1) (p_D T ((s + p_W T s + 1) + (p_W T (s + p_W T s + 1)) + 1) 5)) else none) else none) else none) else none) else none := by
  have hL : p_W T s = 4 := h.1
  have hs := n_sk h (by omega) (by omega) (by omega)
  by_cases c : T (s + p_W T s) = 32
  · rw [if_pos c]
    rw [hL]
    rw [show s + 4 + 1 = s + 5 from rfl]
    rw [p_at_if3 (c := 0 < p_L T (s + 5)) (d := p_sk T ((s + 5) + p_L T (s + 5)) 4) (f := p_ok T (s + 5 + p_L T (s + 5) + 1) 4 1 2000) (e := (s + 5 + p_L T (s + 5) + 1) + p_D T (s + 5 + p_L T (s + 5) + 1) 4) (r := (4, p_nm T (s + 5) (p_L T (s + 5)), 0, p_nu T (s + 5 + p_L T (s + 5) + 1) (p_D T (s + 5 + p_L T (s + 5) + 1) 4))) (by unfold p_cmd; rw [if_neg (n_ns h (i := 0) (by omega) (by omega) (by omega) (by omega) (by omega)), if_neg (n_ns h (i := 1) (by omega) (by omega) (by omega) (by omega) (by omega)), if_neg (n_ns h (i := 2) (by omega) (by omega) (by omega) (by omega) (by omega)), if_pos (hs.mpr c)])]
    refine Eq.trans (if_c2 (fun _ => if_c1 p_sk4)) ?_
    refine Eq.trans (br_word (α := p_C) (T := T) (a := (s + 5)) (x := 32) (by decide) (fun W => (if p_ok T (s + 5 + W + 1) 4 1 2000 then (if T ((s + 5 + W + 1) + p_D T (s + 5 + W + 1) 4) = 59 then some ((s + 5 + W + 1) + p_D T (s + 5 + W + 1) 4 + 1, 4, p_nm T (s + 5) W, 0, p_nu T (s + 5 + W + 1) (p_D T (s + 5 + W + 1) 4)) else none) else none))) ?_
    refine if_c2 (fun _ => if_c2 (fun _ => ?_))
    exact br_num (α := p_C) (T := T) (a := (s + 5 + p_W T (s + 5) + 1)) (D := 4) (lo := 1) (hi := 2000) (x := 59) (by decide) (fun N => some ((s + 5 + p_W T (s + 5) + 1) + N + 1, 4, p_nm T (s + 5) (p_W T (s + 5)), 0, p_nu T (s + 5 + p_W T (s + 5) + 1) N))
  · rw [if_neg c]
    refine p_at_n ?_
    unfold p_cmd; rw [if_neg (n_ns h (i := 0) (by omega) (by omega) (by omega) (by omega) (by omega)), if_neg (n_ns h (i := 1) (by omega) (by omega) (by omega) (by omega) (by omega)), if_neg (n_ns h (i := 2) (by omega) (by omega) (by omega) (by omega) (by omega)), if_neg (fun q => c (hs.mp q)), if_neg (n_ns h (i := 5) (by omega) (by omega) (by omega) (by omega) (by omega)), if_neg (n_ns h (i := 6) (by omega) (by omega) (by omega) (by omega) (by omega)), if_neg (n_ns h (i := 7) (by omega) (by omega) (by omega) (by omega) (by omega))]
theorem pm_5 {T : Nat → Int32} {s : Nat} (h : n_is T s (p_W T s) 5) : p_at T s = if T (s + (p_W T s)) = 32 then (if 1 ≤ (p_W T (s + p_W T s + 1)) ∧ (p_W T (s + p_W T s + 1)) ≤ 6 then (if T ((s + p_W T s + 1) + (p_W T (s + p_W T s + 1))) = 32 then (if ((1 ≤ (p_D T ((s + p_W T s + 1) + (p_W T (s + p_W T s + 1)) + 1) 2) ∧ (p_D T ((s + p_W T s + 1) + (p_W T (s + p_W T s + 1)) + 1) 2) ≤ 1) ∧ (0 ≤ p_nu T ((s + p_W T s + 1) + (p_W T (s + p_W T s + 1)) + 1) (p_D T ((s + p_W T s + 1) + (p_W T (s + p_W T s + 1)) + 1) 2) ∧ p_nu T ((s + p_W T s + 1) + (p_W T (s + p_W T s + 1)) + 1) (p_D T ((s + p_W T s + 1) + (p_W T (s + p_W T s + 1)) + 1) 2) ≤ 9)) then (if T (((s + p_W T s + 1) + (p_W T (s + p_W T s + 1)) + 1) + (p_D T ((s + p_W T s + 1) + (p_W T (s + p_W T s + 1)) + 1) 2)) = 59 then some (((s + p_W T s + 1) + (p_W T (s + p_W T s + 1)) + 1) + (p_D T ((s + p_W T s + 1) + (p_W T (s + p_W T s + 1)) + 1) 2) + 1, 5, p_nm T (s + p_W T s + 1) (p_W T (s + p_W T s + 1)), p_nu T ((s + p_W T s + 1) + (p_W T (s + p_W T s + 1)) + 1) (p_D T ((s + p_W T s + 1) + (p_W T (s + p_W T s + 1)) + 1) 2), 0) else none) else none) else none) else none) else none := by
  have hL : p_W T s = 4 := h.1
  have hs := n_sk h (by omega) (by omega) (by omega)
  by_cases c : T (s + p_W T s) = 32
  · rw [if_pos c]
    rw [hL]
    rw [show s + 4 + 1 = s + 5 from rfl]
    rw [p_at_if3 (c := 0 < p_L T (s + 5)) (d := p_sk T ((s + 5) + p_L T (s + 5)) 4) (f := p_ok T (s + 5 + p_L T (s + 5) + 1) 1 0 9) (e := (s + 5 + p_L T (s + 5) + 1) + p_D T (s + 5 + p_L T (s + 5) + 1) 1) (r := (5, p_nm T (s + 5) (p_L T (s + 5)), p_nu T (s + 5 + p_L T (s + 5) + 1) (p_D T (s + 5 + p_L T (s + 5) + 1) 1), 0)) (by unfold p_cmd; rw [if_neg (n_ns h (i := 0) (by omega) (by omega) (by omega) (by omega) (by omega)), if_neg (n_ns h (i := 1) (by omega) (by omega) (by omega) (by omega) (by omega)), if_neg (n_ns h (i := 2) (by omega) (by omega) (by omega) (by omega) (by omega)), if_neg (n_ns h (i := 3) (by omega) (by omega) (by omega) (by omega) (by omega)), if_pos (hs.mpr c)])]
    refine Eq.trans (if_c2 (fun _ => if_c1 p_sk4)) ?_
    refine Eq.trans (br_word (α := p_C) (T := T) (a := (s + 5)) (x := 32) (by decide) (fun W => (if p_ok T (s + 5 + W + 1) 1 0 9 then (if T ((s + 5 + W + 1) + p_D T (s + 5 + W + 1) 1) = 59 then some ((s + 5 + W + 1) + p_D T (s + 5 + W + 1) 1 + 1, 5, p_nm T (s + 5) W, p_nu T (s + 5 + W + 1) (p_D T (s + 5 + W + 1) 1), 0) else none) else none))) ?_
    refine if_c2 (fun _ => if_c2 (fun _ => ?_))
    exact br_num (α := p_C) (T := T) (a := (s + 5 + p_W T (s + 5) + 1)) (D := 1) (lo := 0) (hi := 9) (x := 59) (by decide) (fun N => some ((s + 5 + p_W T (s + 5) + 1) + N + 1, 5, p_nm T (s + 5) (p_W T (s + 5)), p_nu T (s + 5 + p_W T (s + 5) + 1) N, 0))
  · rw [if_neg c]
    refine p_at_n ?_
    unfold p_cmd; rw [if_neg (n_ns h (i := 0) (by omega) (by omega) (by omega) (by omega) (by omega)), if_neg (n_ns h (i := 1) (by omega) (by omega) (by omega) (by omega) (by omega)), if_neg (n_ns h (i := 2) (by omega) (by omega) (by omega) (by omega) (by omega)), if_neg (n_ns h (i := 3) (by omega) (by omega) (by omega) (by omega) (by omega)), if_neg (fun q => c (hs.mp q)), if_neg (n_ns h (i := 6) (by omega) (by omega) (by omega) (by omega) (by omega)), if_neg (n_ns h (i := 7) (by omega) (by omega) (by omega) (by omega) (by omega))]
theorem pm_6 {T : Nat → Int32} {s : Nat} (h : n_is T s (p_W T s) 6) : p_at T s = if T (s + (p_W T s)) = 32 then (if 1 ≤ (p_W T (s + p_W T s + 1)) ∧ (p_W T (s + p_W T s + 1)) ≤ 6 then (if T ((s + p_W T s + 1) + (p_W T (s + p_W T s + 1))) = 32 then (if ((1 ≤ (p_D T ((s + p_W T s + 1) + (p_W T (s + p_W T s + 1)) + 1) 2) ∧ (p_D T ((s + p_W T s + 1) + (p_W T (s + p_W T s + 1)) + 1) 2) ≤ 1) ∧ (0 ≤ p_nu T ((s + p_W T s + 1) + (p_W T (s + p_W T s + 1)) + 1) (p_D T ((s + p_W T s + 1) + (p_W T (s + p_W T s + 1)) + 1) 2) ∧ p_nu T ((s + p_W T s + 1) + (p_W T (s + p_W T s + 1)) + 1) (p_D T ((s + p_W T s + 1) + (p_W T (s + p_W T s + 1)) + 1) 2) ≤ 9)) then (if T (((s + p_W T s + 1) + (p_W T (s + p_W T s + 1)) + 1) + (p_D T ((s + p_W T s + 1) + (p_W T (s + p_W T s + 1)) + 1) 2)) = 59 then some (((s + p_W T s + 1) + (p_W T (s + p_W T s + 1)) + 1) + (p_D T ((s + p_W T s + 1) + (p_W T (s + p_W T s + 1)) + 1) 2) + 1, 6, p_nm T (s + p_W T s + 1) (p_W T (s + p_W T s + 1)), p_nu T ((s + p_W T s + 1) + (p_W T (s + p_W T s + 1)) + 1) (p_D T ((s + p_W T s + 1) + (p_W T (s + p_W T s + 1)) + 1) 2), 0) else none) else none) else none) else none) else none := by
  have hL : p_W T s = 5 := h.1
  have hs := n_sk h (by omega) (by omega) (by omega)
  by_cases c : T (s + p_W T s) = 32
  · rw [if_pos c]
    rw [hL]
    rw [show s + 5 + 1 = s + 6 from rfl]
    rw [p_at_if3 (c := 0 < p_L T (s + 6)) (d := p_sk T ((s + 6) + p_L T (s + 6)) 4) (f := p_ok T (s + 6 + p_L T (s + 6) + 1) 1 0 9) (e := (s + 6 + p_L T (s + 6) + 1) + p_D T (s + 6 + p_L T (s + 6) + 1) 1) (r := (6, p_nm T (s + 6) (p_L T (s + 6)), p_nu T (s + 6 + p_L T (s + 6) + 1) (p_D T (s + 6 + p_L T (s + 6) + 1) 1), 0)) (by unfold p_cmd; rw [if_neg (n_ns h (i := 0) (by omega) (by omega) (by omega) (by omega) (by omega)), if_neg (n_ns h (i := 1) (by omega) (by omega) (by omega) (by omega) (by omega)), if_neg (n_ns h (i := 2) (by omega) (by omega) (by omega) (by omega) (by omega)), if_neg (n_ns h (i := 3) (by omega) (by omega) (by omega) (by omega) (by omega)), if_neg (n_ns h (i := 5) (by omega) (by omega) (by omega) (by omega) (by omega)), if_pos (hs.mpr c)])]
    refine Eq.trans (if_c2 (fun _ => if_c1 p_sk4)) ?_
    refine Eq.trans (br_word (α := p_C) (T := T) (a := (s + 6)) (x := 32) (by decide) (fun W => (if p_ok T (s + 6 + W + 1) 1 0 9 then (if T ((s + 6 + W + 1) + p_D T (s + 6 + W + 1) 1) = 59 then some ((s + 6 + W + 1) + p_D T (s + 6 + W + 1) 1 + 1, 6, p_nm T (s + 6) W, p_nu T (s + 6 + W + 1) (p_D T (s + 6 + W + 1) 1), 0) else none) else none))) ?_
    refine if_c2 (fun _ => if_c2 (fun _ => ?_))
    exact br_num (α := p_C) (T := T) (a := (s + 6 + p_W T (s + 6) + 1)) (D := 1) (lo := 0) (hi := 9) (x := 59) (by decide) (fun N => some ((s + 6 + p_W T (s + 6) + 1) + N + 1, 6, p_nm T (s + 6) (p_W T (s + 6)), p_nu T (s + 6 + p_W T (s + 6) + 1) N, 0))
  · rw [if_neg c]
    refine p_at_n ?_
    unfold p_cmd; rw [if_neg (n_ns h (i := 0) (by omega) (by omega) (by omega) (by omega) (by omega)), if_neg (n_ns h (i := 1) (by omega) (by omega) (by omega) (by omega) (by omega)), if_neg (n_ns h (i := 2) (by omega) (by omega) (by omega) (by omega) (by omega)), if_neg (n_ns h (i := 3) (by omega) (by omega) (by omega) (by omega) (by omega)), if_neg (n_ns h (i := 5) (by omega) (by omega) (by omega) (by omega) (by omega)), if_neg (fun q => c (hs.mp q)), if_neg (n_ns h (i := 7) (by omega) (by omega) (by omega) (by omega) (by omega))]
theorem pm_7 {T : Nat → Int32} {s : Nat} (h : n_is T s (p_W T s) 7) : p_at T s = if T (s + (p_W T s)) = 32 then (if ((1 ≤ (p_D T (s + p_W T s + 1) 2) ∧ (p_D T (s + p_W T s + 1) 2) ≤ 1) ∧ (0 ≤ p_nu T (s + p_W T s + 1) (p_D T (s + p_W T s + 1) 2) ∧ p_nu T (s + p_W T s + 1) (p_D T (s + p_W T s + 1) 2) ≤ 9)) then (if T ((s + p_W T s + 1) + (p_D T (s + p_W T s + 1) 2)) = 32 then (if ((1 ≤ (p_D T ((s + p_W T s + 1) + (p_D T (s + p_W T s + 1) 2) + 1) 6) ∧ (p_D T ((s + p_W T s + 1) + (p_D T (s + p_W T s + 1) 2) + 1) 6) ≤ 5) ∧ (0 ≤ p_nu T ((s + p_W T s + 1) + (p_D T (s + p_W T s + 1) 2) + 1) (p_D T ((s + p_W T s + 1) + (p_D T (s + p_W T s + 1) 2) + 1) 6) ∧ p_nu T ((s + p_W T s + 1) + (p_D T (s + p_W T s + 1) 2) + 1) (p_D T ((s + p_W T s + 1) + (p_D T (s + p_W T s + 1) 2) + 1) 6) ≤ 10000)) then (if T (((s + p_W T s + 1) + (p_D T (s + p_W T s + 1) 2) + 1) + (p_D T ((s + p_W T s + 1) + (p_D T (s + p_W T s + 1) 2) + 1) 6)) = 59 then some (((s + p_W T s + 1) + (p_D T (s + p_W T s + 1) 2) + 1) + (p_D T ((s + p_W T s + 1) + (p_D T (s + p_W T s + 1) 2) + 1) 6) + 1, 7, 0, p_nu T (s + p_W T s + 1) (p_D T (s + p_W T s + 1) 2), p_nu T ((s + p_W T s + 1) + (p_D T (s + p_W T s + 1) 2) + 1) (p_D T ((s + p_W T s + 1) + (p_D T (s + p_W T s + 1) 2) + 1) 6)) else none) else none) else none) else none) else none := by
  have hL : p_W T s = 4 := h.1
  have hs := n_sk h (by omega) (by omega) (by omega)
  by_cases c : T (s + p_W T s) = 32
  · rw [if_pos c]
    rw [hL]
    rw [show s + 4 + 1 = s + 5 from rfl]
    rw [p_at_if3 (c := p_ok T (s + 5) 1 0 9) (d := p_sk T ((s + 5) + p_D T (s + 5) 1) 4) (f := p_ok T (s + 5 + p_D T (s + 5) 1 + 1) 5 0 10000) (e := (s + 5 + p_D T (s + 5) 1 + 1) + p_D T (s + 5 + p_D T (s + 5) 1 + 1) 5) (r := (7, 0, p_nu T (s + 5) (p_D T (s + 5) 1), p_nu T (s + 5 + p_D T (s + 5) 1 + 1) (p_D T (s + 5 + p_D T (s + 5) 1 + 1) 5))) (by unfold p_cmd; rw [if_neg (n_ns h (i := 0) (by omega) (by omega) (by omega) (by omega) (by omega)), if_neg (n_ns h (i := 1) (by omega) (by omega) (by omega) (by omega) (by omega)), if_neg (n_ns h (i := 2) (by omega) (by omega) (by omega) (by omega) (by omega)), if_neg (n_ns h (i := 3) (by omega) (by omega) (by omega) (by omega) (by omega)), if_neg (n_ns h (i := 5) (by omega) (by omega) (by omega) (by omega) (by omega)), if_neg (n_ns h (i := 6) (by omega) (by omega) (by omega) (by omega) (by omega)), if_pos (hs.mpr c)])]
    refine Eq.trans (if_c2 (fun _ => if_c1 p_sk4)) ?_
    refine Eq.trans (br_num (α := p_C) (T := T) (a := (s + 5)) (D := 1) (lo := 0) (hi := 9) (x := 32) (by decide) (fun N => (if p_ok T (s + 5 + N + 1) 5 0 10000 then (if T ((s + 5 + N + 1) + p_D T (s + 5 + N + 1) 5) = 59 then some ((s + 5 + N + 1) + p_D T (s + 5 + N + 1) 5 + 1, 7, 0, p_nu T (s + 5) N, p_nu T (s + 5 + N + 1) (p_D T (s + 5 + N + 1) 5)) else none) else none))) ?_
    refine if_c2 (fun _ => if_c2 (fun _ => ?_))
    exact br_num (α := p_C) (T := T) (a := (s + 5 + p_D T (s + 5) (1 + 1) + 1)) (D := 5) (lo := 0) (hi := 10000) (x := 59) (by decide) (fun M => some ((s + 5 + p_D T (s + 5) (1 + 1) + 1) + M + 1, 7, 0, p_nu T (s + 5) (p_D T (s + 5) (1 + 1)), p_nu T (s + 5 + p_D T (s + 5) (1 + 1) + 1) M))
  · rw [if_neg c]
    refine p_at_n ?_
    unfold p_cmd; rw [if_neg (n_ns h (i := 0) (by omega) (by omega) (by omega) (by omega) (by omega)), if_neg (n_ns h (i := 1) (by omega) (by omega) (by omega) (by omega) (by omega)), if_neg (n_ns h (i := 2) (by omega) (by omega) (by omega) (by omega) (by omega)), if_neg (n_ns h (i := 3) (by omega) (by omega) (by omega) (by omega) (by omega)), if_neg (n_ns h (i := 5) (by omega) (by omega) (by omega) (by omega) (by omega)), if_neg (n_ns h (i := 6) (by omega) (by omega) (by omega) (by omega) (by omega)), if_neg (fun q => c (hs.mp q))]
theorem pm_no {T : Nat → Int32} {s : Nat} (h : ∀ j, j < 8 → j ≠ 4 → ¬ n_is T s (p_W T s) j) : p_at T s = none := by
  have g : ∀ j, j < 8 → j ≠ 1 → j ≠ 4 → ¬ p_sk T s j := fun j h1 h2 h3 q => h j h1 h3 (n_sk_is h1 h2 h3 q)
  by_cases c : p_sk T s 1
  · rw [p_at_s (q := (s + 4, 2, 0, 0, 0)) (by unfold p_cmd; rw [if_neg (g 0 (by omega) (by omega) (by omega)), if_pos c])]
    exact if_neg (fun q => h 1 (by omega) (by omega) (n_sk_is1 c q))
  · refine p_at_n ?_
    unfold p_cmd; rw [if_neg (g 0 (by omega) (by omega) (by omega)), if_neg c, if_neg (g 2 (by omega) (by omega) (by omega)), if_neg (g 3 (by omega) (by omega) (by omega)), if_neg (g 5 (by omega) (by omega) (by omega)), if_neg (g 6 (by omega) (by omega) (by omega)), if_neg (g 7 (by omega) (by omega) (by omega))]
