/-! A CRAFT'S OWN MEMORY (its 37 cells by their offsets), and what its methods do to it -/
abbrev k_M : Type := m_M
def k_sh (b : Nat) (μ : m_M) : k_M := (fun c j => if c < 37 then μ.1 (b + c) j else 0, fun c j => if c < 37 then μ.2 (b + c) j else 0)
/-- all outside the cells of the craft at b stays -/
def m_fr (b : Nat) (μ μ' : m_M) : Prop := ∀ c, c < b ∨ b + 37 ≤ c → μ'.1 c = μ.1 c ∧ μ'.2 c = μ.2 c
theorem m_fr.rf {b : Nat} {μ : m_M} : m_fr b μ μ := fun _ _ => ⟨rfl, rfl⟩
theorem m_fr.tr {b : Nat} {μ μ1 μ2 : m_M} (h : m_fr b μ μ1) (h2 : m_fr b μ1 μ2) : m_fr b μ μ2 := fun c hc => ⟨(h2 c hc).1.trans (h c hc).1, (h2 c hc).2.trans (h c hc).2⟩
theorem m_fr.ui {b : Nat} {μ : m_M} {I : Nat → Nat → Int32} {J : Nat → Nat → Int64} (h : m_fr b μ (I, J)) {c k : Nat} {v : Int32} (h1 : Nat.ble b c = true) (h2 : Nat.blt c (b + 37) = true) : m_fr b μ (m_ui I c k v, J) := fun a ha => by
  have h1 := Nat.le_of_ble_eq_true h1
  have h2 : c < b + 37 := Nat.le_of_ble_eq_true h2
  refine ⟨?_, (h a ha).2⟩
  rw [show (m_ui I c k v, J).1 a = I a from m_ui_o (by omega)]
  exact (h a ha).1
theorem m_fr.uj {b : Nat} {μ : m_M} {I : Nat → Nat → Int32} {J : Nat → Nat → Int64} (h : m_fr b μ (I, J)) {c k : Nat} {v : Int64} (h1 : Nat.ble b c = true) (h2 : Nat.blt c (b + 37) = true) : m_fr b μ (I, m_uj J c k v) := fun a ha => by
  have h1 := Nat.le_of_ble_eq_true h1
  have h2 : c < b + 37 := Nat.le_of_ble_eq_true h2
  refine ⟨(h a ha).1, ?_⟩
  rw [show (I, m_uj J c k v).2 a = J a from m_uj_o (by omega)]
  exact (h a ha).2
theorem m_fr.ci {b : Nat} {μ : m_M} {I : Nat → Nat → Int32} {J : Nat → Nat → Int64} (h : m_fr b μ (I, J)) {c : Nat} {g : Nat → Int32} (h1 : Nat.ble b c = true) (h2 : Nat.blt c (b + 37) = true) : m_fr b μ (m_ci I c g, J) := fun a ha => by
  have h1 := Nat.le_of_ble_eq_true h1
  have h2 : c < b + 37 := Nat.le_of_ble_eq_true h2
  refine ⟨?_, (h a ha).2⟩
  rw [show (m_ci I c g, J).1 a = I a from m_ci_o (by omega)]
  exact (h a ha).1
theorem m_fr.cj {b : Nat} {μ : m_M} {I : Nat → Nat → Int32} {J : Nat → Nat → Int64} (h : m_fr b μ (I, J)) {c : Nat} {g : Nat → Int64} (h1 : Nat.ble b c = true) (h2 : Nat.blt c (b + 37) = true) : m_fr b μ (I, m_cj J c g) := fun a ha => by
  have h1 := Nat.le_of_ble_eq_true h1
  have h2 : c < b + 37 := Nat.le_of_ble_eq_true h2
  refine ⟨(h a ha).1, ?_⟩
  rw [show (I, m_cj J c g).2 a = J a from m_cj_o (by omega)]
  exact (h a ha).2
section KS
variable {b c : Nat} {I : Nat → Nat → Int32} {J : Nat → Nat → Int64}
theorem k_ui (a : Nat) (h : c = b + a) (ha : Nat.blt a 37 = true) {k : Nat} {v : Int32} : k_sh b (m_ui I c k v, J) = (m_ui (k_sh b (I, J)).1 a k v, (k_sh b (I, J)).2) := by
  have ha : a < 37 := Nat.le_of_ble_eq_true ha
  subst h
  unfold k_sh
  refine Prod.ext ?_ rfl
  funext x j
  dsimp only
  by_cases hx : x = a
  · subst hx
    simp [m_ui, ha]
  · have : ¬ b + x = b + a := by omega
    simp [m_ui, hx]
theorem k_uj (a : Nat) (h : c = b + a) (ha : Nat.blt a 37 = true) {k : Nat} {v : Int64} : k_sh b (I, m_uj J c k v) = ((k_sh b (I, J)).1, m_uj (k_sh b (I, J)).2 a k v) := by
  have ha : a < 37 := Nat.le_of_ble_eq_true ha
  subst h
  unfold k_sh
  refine Prod.ext rfl ?_
  funext x j
  dsimp only
  by_cases hx : x = a
  · subst hx
    simp [m_uj, ha]
  · simp [m_uj, hx]
theorem k_ci (a : Nat) (h : c = b + a) (ha : Nat.blt a 37 = true) {g : Nat → Int32} : k_sh b (m_ci I c g, J) = (m_ci (k_sh b (I, J)).1 a g, (k_sh b (I, J)).2) := by
  have ha : a < 37 := Nat.le_of_ble_eq_true ha
  subst h
  unfold k_sh
  refine Prod.ext ?_ rfl
  funext x j
  dsimp only
  by_cases hx : x = a
  · subst hx
    simp [m_ci, ha]
  · simp [m_ci, hx]
theorem k_cj (a : Nat) (h : c = b + a) (ha : Nat.blt a 37 = true) {g : Nat → Int64} : k_sh b (I, m_cj J c g) = ((k_sh b (I, J)).1, m_cj (k_sh b (I, J)).2 a g) := by
  have ha : a < 37 := Nat.le_of_ble_eq_true ha
  subst h
  unfold k_sh
  refine Prod.ext rfl ?_
  funext x j
  dsimp only
  by_cases hx : x = a
  · subst hx
    simp [m_cj, ha]
  · simp [m_cj, hx]
end KS
/-- the post of a craft's method -/
abbrev k_E (b : Nat) (μ : m_M) (v : Option Value) (κ : k_M) : m_Q := fun v' μ' => v' = v ∧ k_sh b μ' = κ ∧ m_fr b μ μ'
