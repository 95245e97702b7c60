/-! THE START: the first memory, the relation at it -/
def z_g : Nat → Int64 := vp_updL (vp_updL (vp_updL (vp_updL (fun _ => 0) 0 1000000) 1 1000000) 2 1000000) 3 1000000
def z_c : Nat → Int32 := fun j => if j = 4 then 500 else if j = 5 then 9 else if j = 6 then 20 else if j = 7 then -1 else 0
def z_l : Nat → Int32 := fun j => if j = 1 then 23 else 0
def z_I : Nat → Nat → Int32 := fun a => if a = 1 then z_c else if a = 38 then z_c else if a = 31 then z_l else if a = 68 then z_l else if a = 91 then upd (upd (upd (fun _ => 0) 0 500) 1 9) 2 20 else fun _ => 0
def z_J : Nat → Nat → Int64 := fun a => if a = 10 then z_g else if a = 47 then z_g else if a = 78 then vp_updL (fun _ => 0) 39 (-1) else fun _ => 0
def z_0 : m_M := (z_I, z_J)
theorem z_t4 {P : Nat → Prop} (h0 : P 0) (h1 : P 1) (h2 : P 2) (h3 : P 3) : ∀ t, t < 4 → P t := fun t ht => by
  rcases (show t = 0 ∨ t = 1 ∨ t = 2 ∨ t = 3 by omega) with rfl | rfl | rfl | rfl <;> assumption
theorem z_t6 {P : Nat → Prop} (h0 : P 0) (h1 : P 1) (h2 : P 2) (h3 : P 3) (h4 : P 4) (h5 : P 5) : ∀ t, t < 6 → P t := fun t ht => by
  rcases (show t = 0 ∨ t = 1 ∨ t = 2 ∨ t = 3 ∨ t = 4 ∨ t = 5 by omega) with rfl | rfl | rfl | rfl | rfl | rfl <;> assumption
theorem z_S0 : r_S (k_sh 1 z_0) z_I z_J 0 0 := r_S.mk (cn := rfl) (n4 := by omega) (mn := rfl) (cm := rfl) (m6 := by omega) (mm := rfl) (den := fun t ht => absurd ht (Nat.not_lt_zero t)) (res := fun t ht => absurd ht (Nat.not_lt_zero t)) (gau := fun t ht => absurd ht (Nat.not_lt_zero t)) (lk := z_t4 rfl rfl rfl rfl) (pts := z_t4 rfl rfl rfl rfl) (lvs := z_t4 (fun _ _ => rfl) (fun _ _ => rfl) (fun _ _ => rfl) (fun _ _ => rfl)) (vos := z_t4 (fun _ _ => rfl) (fun _ _ => rfl) (fun _ _ => rfl) (fun _ _ => rfl)) (flo := fun t ht => absurd ht (Nat.not_lt_zero t)) (dou := fun t ht => absurd ht (Nat.not_lt_zero t)) (s0 := rfl) (s1 := rfl) (s2 := rfl) (nam := fun t ht => absurd ht (Nat.not_lt_zero t))
theorem z_V0 : r_V (k_sh 1 z_0) 0 0 := r_V.mk (m0 := z_t4 ⟨by decide, by decide⟩ ⟨by decide, by decide⟩ ⟨by decide, by decide⟩ ⟨by decide, by decide⟩) (m1 := z_t4 ⟨by decide, by decide⟩ ⟨by decide, by decide⟩ ⟨by decide, by decide⟩ ⟨by decide, by decide⟩) (va := z_t4 ⟨by decide, by decide⟩ ⟨by decide, by decide⟩ ⟨by decide, by decide⟩ ⟨by decide, by decide⟩) (gv := z_t4 ⟨by decide, by decide⟩ ⟨by decide, by decide⟩ ⟨by decide, by decide⟩ ⟨by decide, by decide⟩) (g6 := fun t _ => z_t4 (P := fun t => (k_sh 1 z_0).2 9 t = 1000000) rfl rfl rfl rfl t) (de := fun t ht => absurd ht (Nat.not_lt_zero t)) (lk := z_t4 ⟨by decide, by decide⟩ ⟨by decide, by decide⟩ ⟨by decide, by decide⟩ ⟨by decide, by decide⟩) (fl := fun t ht => absurd ht (Nat.not_lt_zero t)) (dt := fun t ht => absurd ht (Nat.not_lt_zero t)) (pt := z_t4 ⟨0, by omega, rfl, fun i hi => absurd hi (Nat.not_lt_zero i), fun i hi => absurd hi (by omega)⟩ ⟨0, by omega, rfl, fun i hi => absurd hi (Nat.not_lt_zero i), fun i hi => absurd hi (by omega)⟩ ⟨0, by omega, rfl, fun i hi => absurd hi (Nat.not_lt_zero i), fun i hi => absurd hi (by omega)⟩ ⟨0, by omega, rfl, fun i hi => absurd hi (Nat.not_lt_zero i), fun i hi => absurd hi (by omega)⟩) (mg := ⟨by decide, by decide⟩) (ti := ⟨by decide, by decide⟩) (sv := Or.inl rfl) (bu := Or.inl ⟨rfl, rfl⟩) (op := fun e he => ⟨0, by omega, z_t6 (P := fun e => (k_sh 1 z_0).1 27 e = nI 0) rfl rfl rfl rfl rfl rfl e he, fun h => absurd h (Nat.not_lt_zero e), fun _ => rfl⟩) (lw := ⟨⟨23, by omega, rfl⟩, 0, by omega, rfl⟩)
theorem z_D0 : r_D (k_sh 1 z_0) (z_J 78) 0 := r_D.mk (t0 := z_t4 rfl rfl rfl rfl) (t1 := z_t4 rfl rfl rfl rfl) (t2 := z_t4 rfl rfl rfl rfl) (t3 := z_t4 rfl rfl rfl rfl) (t4 := z_t4 rfl rfl rfl rfl) (e0 := z_t6 rfl rfl rfl rfl rfl rfl) (e1 := z_t6 rfl rfl rfl rfl rfl rfl) (e2 := z_t6 rfl rfl rfl rfl rfl rfl) (ti := rfl) (bu := rfl) (la := by
    unfold k_len
    rw [if_neg (fun q => absurd q.1 (show ¬ (0 : Int32) ≤ -1 by decide))]
    rfl) (sv := rfl) (bk := rfl)
theorem z_start : Z z_0 := by
  refine ⟨k_sh 1 z_0, 0, 0, 0, fun _ => 0, 0, 0, r_C.mk (k1 := rfl) (nv := rfl) (l4 := rfl) (tn := rfl) (tc := fun i hi => absurd hi (Nat.not_lt_zero i)) (tv := fun i hi => absurd hi (Nat.not_lt_zero i)) (lw := ⟨⟨23, by omega, rfl⟩, 0, by omega, rfl⟩), r_T.mk (l6 := by omega) (le := rfl) (lt := fun k hk => absurd hk (Nat.not_lt_zero k)) (nv := rfl) (n1 := by omega) (nl := rfl) (tv := fun i hi => absurd hi (Nat.not_lt_zero i)), ⟨z_S0, z_D0, z_V0, fun _ => ⟨rfl, fun i hi => absurd hi (show ¬ i < 0 from Nat.not_lt_zero i)⟩⟩⟩
theorem va_P.setq {D : va_G} {cl : List vw_C} {ws : va_W} {H : Heap} (h : va_P D cl ws H) {i a : Nat} {e e' : va_E} (hi : ws[i]? = some (a, e)) (he : va_at D cl (a, e) H → va_at D cl (a, e') H) : va_P D cl (ws.set i (a, e')) H := fun k q hk => by
  by_cases c : k = i
  · subst c
    have hlt := (List.getElem?_eq_some_iff.mp hi).1
    rw [List.getElem?_set_self hlt] at hk
    cases hk
    exact he (h k _ hi)
  · rw [List.getElem?_set_ne (fun z => c z.symm)] at hk
    exact h k q hk
theorem va_refs {D : va_G} {cl : List vw_C} {H : Heap} {a n : Nat} {cR : ClassId} {f g : Nat → Option Nat} (h : ∀ j, j < n → f j = g j) : va_at D cl (a, .inl (cR, n, .inr (.inr (.inr (.inr f))))) H → va_at D cl (a, .inl (cR, n, .inr (.inr (.inr (.inr g))))) H := fun q => by
  have q : H[a]? = some (vp_cell cR (n, .inr (.inr (.inr (.inr f))))) := q
  show H[a]? = some (vp_cell cR (n, .inr (.inr (.inr (.inr g)))))
  rw [q, vp_cell_q, vp_cell_q]
  unfold arrV
  have : (fun j : Fin n => va_rf (f j.val)) = (fun j : Fin n => va_rf (g j.val)) := by
    funext j
    rw [h j.val j.isLt]
  rw [this]
def z_ad (q0 q1 : Nat) (u v aK : Nat → Nat) : Nat → Nat := fun a => if a = 0 then q0 else if a < 77 then u a else if a = 77 then q1 else if a < 95 then v (a - 77) else aK (a - 1000)
def z_cA (cI cC cJ cR : ClassId) : Nat → ClassId := fun a => if g_kd a = 2 then cI else if g_kd a = 3 then cC else if g_kd a = 4 then cJ else cR
