/-! THE SMALL MACHINE AGAINST THE REAL ONE: the relation, and what it needs -/
def m_rv (ad : Nat → Nat) (v : Value) : Value := match v with
  | .ref a => .ref (ad a)
  | v => v
def m_rl (ad : Nat → Nat) (q : Nat × Value) : Nat × Value := (q.1, m_rv ad q.2)
theorem m_rv_cat (ad : Nat → Nat) (v : Value) : (m_rv ad v).category = v.category := by cases v <;> rfl
def m_ent (ad : Nat → Nat) (cA : Nat → ClassId) (μ : m_M) (a : Nat) : va_E := match g_kd a with
  | 1 => .inr (g_ar a, (List.range (g_nf (g_ar a))).map (fun k => m_rv ad (m_fv μ a (g_ar a) k)))
  | 2 => .inl (cA a, g_ar a, .inl (μ.1 a))
  | 3 => .inl (cA a, g_ar a, .inl (μ.1 a))
  | 4 => .inl (cA a, g_ar a, .inr (.inl (μ.2 a)))
  | 5 => .inl (cA a, g_ar a, .inr (.inr (.inr (.inr (fun j => some (ad (g_rf a j)))))))
  | _ => .inr (0, [])
def m_ws (ad : Nat → Nat) (cA : Nat → ClassId) (μ : m_M) : va_W := (List.range g_N).map (fun a => (ad a, m_ent ad cA μ a))
section MR
variable {ad : Nat → Nat} {cA : Nat → ClassId} {μ μ' : m_M} {a : Nat}
theorem m_ent_1 (h : g_kd a = 1) : m_ent ad cA μ a = .inr (g_ar a, (List.range (g_nf (g_ar a))).map (fun k => m_rv ad (m_fv μ a (g_ar a) k))) := by unfold m_ent; simp only [h]
theorem m_ent_2 (h : g_kd a = 2) : m_ent ad cA μ a = .inl (cA a, g_ar a, .inl (μ.1 a)) := by unfold m_ent; simp only [h]
theorem m_ent_3 (h : g_kd a = 3) : m_ent ad cA μ a = .inl (cA a, g_ar a, .inl (μ.1 a)) := by unfold m_ent; simp only [h]
theorem m_ent_4 (h : g_kd a = 4) : m_ent ad cA μ a = .inl (cA a, g_ar a, .inr (.inl (μ.2 a))) := by unfold m_ent; simp only [h]
theorem m_ent_5 (h : g_kd a = 5) : m_ent ad cA μ a = .inl (cA a, g_ar a, .inr (.inr (.inr (.inr (fun j => some (ad (g_rf a j))))))) := by unfold m_ent; simp only [h]
theorem m_ent_c (h1 : μ.1 a = μ'.1 a) (h2 : μ.2 a = μ'.2 a) : m_ent ad cA μ a = m_ent ad cA μ' a := by
  have e : ∀ ci k, m_fv μ a ci k = m_fv μ' a ci k := fun ci k => by unfold m_fv; rw [h1]
  unfold m_ent
  simp only [h1, h2, e]
theorem m_ws_at (h : a < g_N) : (m_ws ad cA μ)[a]? = some (ad a, m_ent ad cA μ a) := by simp [m_ws, h]
theorem m_ws_set (h : a < g_N) (h1 : ∀ b, b ≠ a → μ'.1 b = μ.1 b) (h2 : ∀ b, b ≠ a → μ'.2 b = μ.2 b) : (m_ws ad cA μ).set a (ad a, m_ent ad cA μ' a) = m_ws ad cA μ' := by
  apply List.ext_getElem?
  intro b
  by_cases hb : b = a
  · subst hb
    rw [List.getElem?_set_self (by simp [m_ws, h]), m_ws_at h]
  · rw [List.getElem?_set_ne (Ne.symm hb)]
    by_cases hl : b < g_N
    · rw [m_ws_at hl, m_ws_at hl, m_ent_c (h1 b hb) (h2 b hb)]
    · simp [m_ws, hl]
theorem m_ui_o {f : Nat → Nat → Int32} {k : Nat} {v : Int32} {b : Nat} (h : b ≠ a) : m_ui f a k v b = f b := by funext j; simp [m_ui, h]
theorem m_uj_o {f : Nat → Nat → Int64} {k : Nat} {v : Int64} {b : Nat} (h : b ≠ a) : m_uj f a k v b = f b := by funext j; simp [m_uj, h]
theorem m_ui_s {f : Nat → Nat → Int32} {k : Nat} {v : Int32} : m_ui f a k v a = upd (f a) k v := by funext j; simp [m_ui, upd]
theorem m_uj_s {f : Nat → Nat → Int64} {k : Nat} {v : Int64} : m_uj f a k v a = vp_updL (f a) k v := by funext j; simp [m_uj, vp_updL]
theorem m_ci_o {f : Nat → Nat → Int32} {g : Nat → Int32} {b : Nat} (h : b ≠ a) : m_ci f a g b = f b := by funext j; simp [m_ci, h]
theorem m_cj_o {f : Nat → Nat → Int64} {g : Nat → Int64} {b : Nat} (h : b ≠ a) : m_cj f a g b = f b := by funext j; simp [m_cj, h]
theorem m_ci_s {f : Nat → Nat → Int32} {g : Nat → Int32} : m_ci f a g a = g := by funext j; simp [m_ci]
theorem m_cj_s {f : Nat → Nat → Int64} {g : Nat → Int64} : m_cj f a g a = g := by funext j; simp [m_cj]
theorem m_ob_sp {ci : Nat} (h : m_ob a ci = true) : g_kd a = 1 ∧ g_ar a = ci ∧ a < g_N := by
  unfold m_ob at h
  obtain ⟨h1, h3⟩ := Bool.and_eq_true_iff.mp h
  obtain ⟨h1, h2⟩ := Bool.and_eq_true_iff.mp h1
  exact ⟨Nat.eq_of_beq_eq_true h1, Nat.eq_of_beq_eq_true h2, Nat.le_of_ble_eq_true h3⟩
theorem m_isa_sp {kd : Nat} (h : m_isa a kd = true) : g_kd a = kd ∧ a < g_N := by
  unfold m_isa at h
  obtain ⟨h1, h3⟩ := Bool.and_eq_true_iff.mp h
  exact ⟨Nat.eq_of_beq_eq_true h1, Nat.le_of_ble_eq_true h3⟩
/-- an int field is written -/
theorem m_ws_putf {ci k : Nat} {v : Int32} (h : m_ob a ci = true) (hk : k < g_nf ci) (hf : g_ft ci k ≠ 2) : (m_ws ad cA μ).set a (ad a, .inr (ci, ((List.range (g_nf ci)).map (fun k => m_rv ad (m_fv μ a ci k))).set k (.int v))) = m_ws ad cA (m_ui μ.1 a k v, μ.2) := by
  obtain ⟨h1, rfl, h3⟩ := m_ob_sp h
  rw [← m_ws_set (μ := μ) (μ' := (m_ui μ.1 a k v, μ.2)) h3 (fun b hb => m_ui_o hb) (fun _ _ => rfl), m_ent_1 h1]
  congr 3
  congr 1
  apply List.ext_getElem?
  intro j
  by_cases hj : j = k
  · subst hj
    rw [List.getElem?_set_self (by simpa using hk)]
    have hf' : Nat.beq (g_ft (g_ar a) j) 2 = false := by
      cases hq : Nat.beq (g_ft (g_ar a) j) 2
      · rfl
      · exact absurd (Nat.eq_of_beq_eq_true hq) hf
    simp [hk, m_fv, hf', m_ui, m_rv]
  · rw [List.getElem?_set_ne (Ne.symm hj)]
    have e : m_fv μ a (g_ar a) j = m_fv (m_ui μ.1 a k v, μ.2) a (g_ar a) j := by
      unfold m_fv
      split
      · rfl
      · simp [m_ui, hj]
    by_cases hl : j < g_nf (g_ar a)
    · simp [hl, e]
    · simp [hl]
end MR

theorem m_get_at {ad : Nat → Nat} {la : Array Slot} {n j : Nat} {ls : m_Ls} {v : Value} (hl : lv_has la n (ls.map (m_rl ad))) (hg : m_get ls j = some v) : la[j]? = some (.val (m_rv ad v)) := by
  have hm : (j, v) ∈ ls := by
    clear hl
    induction ls with
    | nil => cases hg
    | cons q r ih =>
      unfold m_get at hg
      split at hg
      next h =>
        cases hg
        have := Nat.eq_of_beq_eq_true h
        subst this
        exact List.mem_cons_self
      next => exact List.mem_cons_of_mem _ (ih hg)
  exact hl.2.2 (j, m_rv ad v) (List.mem_map.mpr ⟨(j, v), hm, rfl⟩)
theorem m_s1_map (ad : Nat → Nat) (ls : m_Ls) (i : Nat) (v : Value) : (i, m_rv ad v) :: (ls.map (m_rl ad)).filter (fun q => !(q.1 == i) && !(q.1 + 1 == i && q.2.category == 2)) = (m_s1 ls i v).map (m_rl ad) := by
  unfold m_s1
  rw [List.map_cons, List.filter_map]
  congr 3
  funext q
  simp [m_rl, m_rv_cat]
theorem m_s2_map (ad : Nat → Nat) (ls : m_Ls) (i : Nat) (v : Value) : (i, m_rv ad v) :: (ls.map (m_rl ad)).filter (fun q => !(q.1 == i) && (!(q.1 == i + 1) && !(q.1 + 1 == i && q.2.category == 2))) = (m_s2 ls i v).map (m_rl ad) := by
  unfold m_s2
  rw [List.map_cons, List.filter_map]
  congr 3
  funext q
  simp [m_rl, m_rv_cat]
theorem m_args_map (ad : Nat → Nat) : ∀ (i : Nat) (vs : List Value), lv_args i (vs.map (m_rv ad)) = (lv_args i vs).map (m_rl ad)
  | _, [] => rfl
  | i, v :: vs => by
    rw [List.map_cons, lv_args, lv_args, List.map_cons, m_rv_cat, m_args_map ad _ vs]
    rfl
theorem m_sl_map (ad : Nat → Nat) (vs : List Value) : (lg_sl (vs.map (m_rv ad))).length = (lg_sl vs).length := by
  unfold lg_sl
  induction vs with
  | nil => rfl
  | cons v vs ih =>
    simp only [List.map_cons, List.flatMap_cons, List.length_append, ih, m_rv_cat]
    congr 1
    split <;> rfl
theorem m_cat_map (ad : Nat → Nat) (vs : List Value) : ((vs.map (m_rv ad)).map fun v => v.category).sum = m_cat vs := by
  unfold m_cat
  rw [List.map_map]
  congr 2
  funext v
  exact m_rv_cat ad v
/-- what the tables say of a class of ours -/
theorem m_cls : ∀ ci, ci < 8 → ∃ (C : String) (T : u_T) (ty : Nat → FieldType), g_cls[ci]? = some (C, T, g_nf ci) ∧ g_cn ci = C ∧ (∀ w ∈ u_ws C T (g_nf ci), w ∈ g_T) ∧ (∀ k, k < g_nf ci → parseFieldDescriptor (T k).2.2.1 = some (ty k)) ∧ (∀ a, a < g_nf ci → ∀ b, b < g_nf ci → a ≠ b → (T a).2.1 ≠ (T b).2.1) ∧ (∀ k, k < g_nf ci → (g_ft ci k = 0 → ty k = .int ∧ (T k).2.2.2 = false) ∧ (g_ft ci k = 1 → ty k = .boolean ∧ (T k).2.2.2 = false))
  | 0, _ => ⟨g_R0, g_T0, g_ty0, rfl, rfl, g_in0, g_tyok0, g_nm0, by decide⟩
  | 1, _ => ⟨g_R1, g_T1, g_ty1, rfl, rfl, g_in1, g_tyok1, g_nm1, by decide⟩
  | 2, _ => ⟨g_R2, g_T2, g_ty2, rfl, rfl, g_in2, g_tyok2, g_nm2, by decide⟩
  | 3, _ => ⟨g_R3, g_T3, g_ty3, rfl, rfl, g_in3, g_tyok3, g_nm3, by decide⟩
  | 4, _ => ⟨g_R4, g_T4, g_ty4, rfl, rfl, g_in4, g_tyok4, g_nm4, by decide⟩
  | 5, _ => ⟨g_R5, g_T5, g_ty5, rfl, rfl, g_in5, g_tyok5, g_nm5, by decide⟩
  | 6, _ => ⟨g_R6, g_T6, g_ty6, rfl, rfl, g_in6, g_tyok6, g_nm6, by decide⟩
  | 7, _ => ⟨g_R7, g_T7, g_ty7, rfl, rfl, g_in7, g_tyok7, g_nm7, by decide⟩
  | n + 8, h => absurd h (by omega)
/-- what stays of the tables through all calls -/
def m_St (D : va_G) (ad : Nat → Nat) (cA : Nat → ClassId) (s : State) : Prop := va_K D g_cls [] s ∧ (∀ a, a < g_N → (g_kd a = 2 → ArrOfT s (cA a) .int ∧ va_RA s (cA a) .int) ∧ (g_kd a = 3 → ArrOfT s (cA a) .char ∧ va_RA s (cA a) .char) ∧ (g_kd a = 4 → ArrOfT s (cA a) .long ∧ va_RA s (cA a) .long) ∧ (g_kd a = 5 → ArrOfT s (cA a) (.object g_R4) ∧ va_RA s (cA a) (.object g_R4))) ∧ (∀ q ∈ g_cnn, va_Nw (.methodLinkNest (g_cn q.1) q.2.1 (g_Y q.2.2) g_R6) s) ∧ ∀ q ∈ g_strs, vk_R (g_cn q.1) q.2.1 (g_stx.getD q.2.2 "") (ad (1000 + q.2.2)) s
theorem m_St.warm {D : va_G} {ad : Nat → Nat} {cA : Nat → ClassId} {s U : State} (hW : s.WarmedH U.vm) (h : m_St D ad cA s) : m_St D ad cA U :=
  ⟨va_K.moved hW.alike h.1, fun a ha => ⟨fun q => ⟨arrOfT_moved hW.alike ((h.2.1 a ha).1 q).1, ((h.2.1 a ha).1 q).2.moved hW.alike⟩, fun q => ⟨arrOfT_moved hW.alike ((h.2.1 a ha).2.1 q).1, ((h.2.1 a ha).2.1 q).2.moved hW.alike⟩, fun q => ⟨arrOfT_moved hW.alike ((h.2.1 a ha).2.2.1 q).1, ((h.2.1 a ha).2.2.1 q).2.moved hW.alike⟩, fun q => ⟨arrOfT_moved hW.alike ((h.2.1 a ha).2.2.2 q).1, ((h.2.1 a ha).2.2.2 q).2.moved hW.alike⟩⟩, fun q hq => va_Nw.warmM hW (h.2.2.1 q hq), fun q hq => vk_R.warm hW (h.2.2.2 q hq)⟩
theorem m_St.same {D : va_G} {ad : Nat → Nat} {cA : Nat → ClassId} {s U : State} (hv : s.vm = U.vm) (h : m_St D ad cA s) : m_St D ad cA U := by
  have hW : s.vm.Alike U.vm := by rw [← hv]; exact Vm.Alike.refl s.vm
  exact ⟨va_K.moved hW h.1, fun a ha => ⟨fun q => ⟨arrOfT_moved hW ((h.2.1 a ha).1 q).1, ((h.2.1 a ha).1 q).2.moved hW⟩, fun q => ⟨arrOfT_moved hW ((h.2.1 a ha).2.1 q).1, ((h.2.1 a ha).2.1 q).2.moved hW⟩, fun q => ⟨arrOfT_moved hW ((h.2.1 a ha).2.2.1 q).1, ((h.2.1 a ha).2.2.1 q).2.moved hW⟩, fun q => ⟨arrOfT_moved hW ((h.2.1 a ha).2.2.2 q).1, ((h.2.1 a ha).2.2.2 q).2.moved hW⟩⟩, fun q hq => va_Nw.same rfl hv (h.2.2.1 q hq), fun q hq => vk_R.same hv.symm (h.2.2.2 q hq)⟩
theorem m_K1 {D : va_G} {ad : Nat → Nat} {cA : Nat → ClassId} {s : State} {a : Nat} {ty : FieldType} (h : m_St D ad cA s) (hq : ArrOfT s (cA a) ty ∧ va_RA s (cA a) ty) : va_K D g_cls [(cA a, ty)] s := ⟨h.1.1, fun k q hk => by
  have hz : k < 1 := (List.getElem?_eq_some_iff.mp hk).1
  rw [show k = 0 by omega] at hk
  cases hk
  exact hq⟩
theorem m_dec {k pc n : Nat} {i : Instr} (hk : k < 162) (h : m_look (g_code k) pc = some (i, n)) : decode (g_B k) pc = .ok (i, n) ∧ g_jmp i pc = true ∧ (g_isw i || Nat.beq n (g_len i)) = true := by
  have hm : ∀ l : List (Nat × Instr × Nat), m_look l pc = some (i, n) → (pc, i, n) ∈ l := by
    intro l
    induction l with
    | nil => intro h; cases h
    | cons q r ih =>
      intro h
      unfold m_look at h
      split at h
      next hq =>
        have := Nat.eq_of_beq_eq_true hq
        obtain ⟨q1, q2⟩ := q
        cases h
        dsimp only at this
        subst this
        exact List.mem_cons_self
      next => exact List.mem_cons_of_mem _ (ih h)
  have h1 := List.all_eq_true.mp (g_code_ok k hk) _ (hm _ h)
  unfold g_chk at h1
  obtain ⟨h1, h3⟩ := Bool.and_eq_true_iff.mp h1
  obtain ⟨h1, h2⟩ := Bool.and_eq_true_iff.mp h1
  exact ⟨of_decide_eq_true h1, h2, h3⟩
