/-! RULES of the small machine, for its programs -/
theorem m_Sem_stp {k : Nat} {i : Instr} {pc : Nat} {ls : m_Ls} {st : List Value} {μ : m_M} {K : m_KT} {Cl : m_CT} {Q : m_Q} {q : m_C} (h : m_stp k i pc ls st μ = some q) (hK : K q.1 q.2.1 q.2.2.1 q.2.2.2) : m_Sem k i pc ls st μ K Cl Q := by
  unfold m_Sem
  cases i <;> dsimp only <;>
    first
      | (rw [h]; exact hK)
      | (unfold m_stp at h
         dsimp only at h
         split at h
         · split at h
           · next hb =>
             cases h
             obtain ⟨b1, b2⟩ := Bool.and_eq_true_iff.mp hb
             exact ⟨b1, Or.inl b2, hK⟩
           · cases h
         · cases h)
      | (exact absurd h (by unfold m_stp; simp))
def m_run : Nat → Nat → m_C → Option m_C
  | 0, _, c => some c
  | n + 1, k, c => match m_look (g_code k) c.1 with
    | some q => match m_stp k q.1 c.1 c.2.1 c.2.2.1 c.2.2.2 with
      | some c' => m_run n k c'
      | none => none
    | none => none
section CR
variable {k pc : Nat} {ls : m_Ls} {st r : List Value} {μ : m_M} {Q : m_Q}
theorem c_st (hk : k < 162) {q : Instr × Nat} (hl : m_look (g_code k) pc = some q) (h : m_Sem k q.1 pc ls st μ (fun pc ls st μ => m_W k pc ls st μ Q) (fun f as μ Q => m_W f 0 (lv_args 0 as) [] μ Q) Q) : m_W k pc ls st μ Q := by
  refine m_W_clsd.1 _ _ _ _ _ _ ⟨hk, ?_⟩
  rw [hl]
  exact h
/-- fewer locals, in any order: by their places -/
theorem c_w (ps : List Nat) {ls' : m_Ls} (h : lv_pick ls ps = ls') (kk : m_W k pc ls' st μ Q) : m_W k pc ls st μ Q := m_W_clsd.2 _ _ _ _ _ _ _ (fun q hq => by
  rw [← h] at hq
  obtain ⟨i, -, hi⟩ := List.mem_filterMap.mp hq
  exact List.mem_of_getElem? hi) kk
theorem c_run (n : Nat) {pc' : Nat} {ls' : m_Ls} {st' : List Value} {μ' : m_M} (hk : k < 162) (h : m_run n k (pc, ls, st, μ) = some (pc', ls', st', μ')) (kk : m_W k pc' ls' st' μ' Q) : m_W k pc ls st μ Q := by
  induction n generalizing pc ls st μ with
  | zero => cases h; exact kk
  | succ n ih =>
    unfold m_run at h
    dsimp only at h
    split at h
    · next q hl =>
      split at h
      · next c' hc =>
        obtain ⟨p1, p2, p3, p4⟩ := c'
        exact c_st hk hl (m_Sem_stp hc (ih h))
      · cases h
    · cases h
theorem c_ret {v : Int32} {ty : FieldType} (hk : k < 162) (hl : m_look (g_code k) pc = some (.ireturn, 1)) (hr : g_R k = some ty) (hn : ¬ ty = .long ∧ narrow ty (.int v) = .int v) (h : Q (some (.int v)) μ) : m_W k pc ls [.int v] μ Q := by
  refine c_st hk hl ?_
  unfold m_Sem
  dsimp only
  rw [hr]
  exact ⟨hn, h⟩
theorem c_lret {v : Int64} (hk : k < 162) (hl : m_look (g_code k) pc = some (.lreturn, 1)) (hr : g_R k = some .long) (h : Q (some (.long v)) μ) : m_W k pc ls [.long v] μ Q := c_st hk hl ⟨hr, h⟩
theorem c_vret (hk : k < 162) (hl : m_look (g_code k) pc = some (.return_, 1)) (hr : g_R k = none) (h : Q none μ) : m_W k pc ls [] μ Q := c_st hk hl ⟨hr, h⟩
theorem c_ifeq {x : Int32} {o : Int} (t : Nat) (hk : k < 162) (hl : m_look (g_code k) pc = some (.ifCond .eq o, 3)) (ht : ((pc : Int) + o).toNat = t) (h1 : x = 0 → m_W k t ls r μ Q) (h2 : ¬ x = 0 → m_W k (pc + 3) ls r μ Q) : m_W k pc ls (.int x :: r) μ Q := by
  subst ht
  exact c_st hk hl ⟨h1, h2⟩
theorem c_iceq {x y : Int32} {o : Int} (t : Nat) (hk : k < 162) (hl : m_look (g_code k) pc = some (.if_icmp .eq o, 3)) (ht : ((pc : Int) + o).toNat = t) (h1 : x = y → m_W k t ls r μ Q) (h2 : ¬ x = y → m_W k (pc + 3) ls r μ Q) : m_W k pc ls (.int y :: .int x :: r) μ Q := by
  subst ht
  exact c_st hk hl ⟨h1, h2⟩
theorem c_ifne {x : Int32} {o : Int} (t : Nat) (hk : k < 162) (hl : m_look (g_code k) pc = some (.ifCond .ne o, 3)) (ht : ((pc : Int) + o).toNat = t) (h1 : ¬ x = 0 → m_W k t ls r μ Q) (h2 : x = 0 → m_W k (pc + 3) ls r μ Q) : m_W k pc ls (.int x :: r) μ Q := by
  subst ht
  exact c_st hk hl ⟨h1, fun q => h2 (Classical.not_not.mp q)⟩
theorem c_icne {x y : Int32} {o : Int} (t : Nat) (hk : k < 162) (hl : m_look (g_code k) pc = some (.if_icmp .ne o, 3)) (ht : ((pc : Int) + o).toNat = t) (h1 : ¬ x = y → m_W k t ls r μ Q) (h2 : x = y → m_W k (pc + 3) ls r μ Q) : m_W k pc ls (.int y :: .int x :: r) μ Q := by
  subst ht
  exact c_st hk hl ⟨h1, fun q => h2 (Classical.not_not.mp q)⟩
theorem c_iflt {x : Int32} {o : Int} (t : Nat) (hk : k < 162) (hl : m_look (g_code k) pc = some (.ifCond .lt o, 3)) (ht : ((pc : Int) + o).toNat = t) (h1 : x < 0 → m_W k t ls r μ Q) (h2 : ¬ x < 0 → m_W k (pc + 3) ls r μ Q) : m_W k pc ls (.int x :: r) μ Q := by
  subst ht
  exact c_st hk hl ⟨h1, h2⟩
theorem c_iclt {x y : Int32} {o : Int} (t : Nat) (hk : k < 162) (hl : m_look (g_code k) pc = some (.if_icmp .lt o, 3)) (ht : ((pc : Int) + o).toNat = t) (h1 : x < y → m_W k t ls r μ Q) (h2 : ¬ x < y → m_W k (pc + 3) ls r μ Q) : m_W k pc ls (.int y :: .int x :: r) μ Q := by
  subst ht
  exact c_st hk hl ⟨h1, h2⟩
theorem c_ifge {x : Int32} {o : Int} (t : Nat) (hk : k < 162) (hl : m_look (g_code k) pc = some (.ifCond .ge o, 3)) (ht : ((pc : Int) + o).toNat = t) (h1 : 0 ≤ x → m_W k t ls r μ Q) (h2 : ¬ 0 ≤ x → m_W k (pc + 3) ls r μ Q) : m_W k pc ls (.int x :: r) μ Q := by
  subst ht
  exact c_st hk hl ⟨h1, h2⟩
theorem c_icge {x y : Int32} {o : Int} (t : Nat) (hk : k < 162) (hl : m_look (g_code k) pc = some (.if_icmp .ge o, 3)) (ht : ((pc : Int) + o).toNat = t) (h1 : y ≤ x → m_W k t ls r μ Q) (h2 : ¬ y ≤ x → m_W k (pc + 3) ls r μ Q) : m_W k pc ls (.int y :: .int x :: r) μ Q := by
  subst ht
  exact c_st hk hl ⟨h1, h2⟩
theorem c_ifgt {x : Int32} {o : Int} (t : Nat) (hk : k < 162) (hl : m_look (g_code k) pc = some (.ifCond .gt o, 3)) (ht : ((pc : Int) + o).toNat = t) (h1 : 0 < x → m_W k t ls r μ Q) (h2 : ¬ 0 < x → m_W k (pc + 3) ls r μ Q) : m_W k pc ls (.int x :: r) μ Q := by
  subst ht
  exact c_st hk hl ⟨h1, h2⟩
theorem c_icgt {x y : Int32} {o : Int} (t : Nat) (hk : k < 162) (hl : m_look (g_code k) pc = some (.if_icmp .gt o, 3)) (ht : ((pc : Int) + o).toNat = t) (h1 : y < x → m_W k t ls r μ Q) (h2 : ¬ y < x → m_W k (pc + 3) ls r μ Q) : m_W k pc ls (.int y :: .int x :: r) μ Q := by
  subst ht
  exact c_st hk hl ⟨h1, h2⟩
theorem c_ifle {x : Int32} {o : Int} (t : Nat) (hk : k < 162) (hl : m_look (g_code k) pc = some (.ifCond .le o, 3)) (ht : ((pc : Int) + o).toNat = t) (h1 : x ≤ 0 → m_W k t ls r μ Q) (h2 : ¬ x ≤ 0 → m_W k (pc + 3) ls r μ Q) : m_W k pc ls (.int x :: r) μ Q := by
  subst ht
  exact c_st hk hl ⟨h1, h2⟩
theorem c_icle {x y : Int32} {o : Int} (t : Nat) (hk : k < 162) (hl : m_look (g_code k) pc = some (.if_icmp .le o, 3)) (ht : ((pc : Int) + o).toNat = t) (h1 : x ≤ y → m_W k t ls r μ Q) (h2 : ¬ x ≤ y → m_W k (pc + 3) ls r μ Q) : m_W k pc ls (.int y :: .int x :: r) μ Q := by
  subst ht
  exact c_st hk hl ⟨h1, h2⟩
theorem c_idiv {x y : Int32} (hk : k < 162) (hl : m_look (g_code k) pc = some (.idiv, 1)) (hy : ¬ y = 0) (kk : m_W k (pc + 1) ls (.int (x / y) :: r) μ Q) : m_W k pc ls (.int y :: .int x :: r) μ Q := c_st hk hl ⟨hy, kk⟩
theorem c_irem {x y : Int32} (hk : k < 162) (hl : m_look (g_code k) pc = some (.irem, 1)) (hy : ¬ y = 0) (kk : m_W k (pc + 1) ls (.int (x - x / y * y) :: r) μ Q) : m_W k pc ls (.int y :: .int x :: r) μ Q := c_st hk hl ⟨hy, kk⟩
theorem c_ldiv {x y : Int64} (hk : k < 162) (hl : m_look (g_code k) pc = some (.ldiv, 1)) (hy : ¬ y = 0) (kk : m_W k (pc + 1) ls (.long (x / y) :: r) μ Q) : m_W k pc ls (.long y :: .long x :: r) μ Q := c_st hk hl ⟨hy, kk⟩
theorem c_in {j : Int32} {t n : Nat} (hj : j = nI t) (ht : t < n) (hn : Nat.ble n 2147483647 = true) : vp_in j n ∧ j.toNatClampNeg = t := by
  have hn := Nat.le_of_ble_eq_true hn
  subst hj
  exact ⟨vp_in_nI ht (by omega), nI_clamp (by omega)⟩
theorem c_ial {a : Nat} {j : Int32} (t n : Nat) (hk : k < 162) (hl : m_look (g_code k) pc = some (.iaload, 1)) (ha : m_isa a 2 = true) (hn : g_ar a = n) (hb : Nat.ble n 2147483647 = true) (hj : j = nI t) (ht : t < n) (kk : m_W k (pc + 1) ls (.int (μ.1 a t) :: r) μ Q) : m_W k pc ls (.int j :: .ref a :: r) μ Q := by
  obtain ⟨h1, h2⟩ := c_in hj ht hb
  refine c_st hk hl ⟨ha, by rw [hn]; exact h1, ?_⟩
  dsimp only
  rw [h2]
  exact kk
theorem c_cal {a : Nat} {j : Int32} (t n : Nat) (hk : k < 162) (hl : m_look (g_code k) pc = some (.caload, 1)) (ha : m_isa a 3 = true) (hn : g_ar a = n) (hb : Nat.ble n 2147483647 = true) (hj : j = nI t) (ht : t < n) (kk : m_W k (pc + 1) ls (.int (μ.1 a t) :: r) μ Q) : m_W k pc ls (.int j :: .ref a :: r) μ Q := by
  obtain ⟨h1, h2⟩ := c_in hj ht hb
  refine c_st hk hl ⟨ha, by rw [hn]; exact h1, ?_⟩
  dsimp only
  rw [h2]
  exact kk
theorem c_lal {a : Nat} {j : Int32} (t n : Nat) (hk : k < 162) (hl : m_look (g_code k) pc = some (.laload, 1)) (ha : m_isa a 4 = true) (hn : g_ar a = n) (hb : Nat.ble n 2147483647 = true) (hj : j = nI t) (ht : t < n) (kk : m_W k (pc + 1) ls (.long (μ.2 a t) :: r) μ Q) : m_W k pc ls (.int j :: .ref a :: r) μ Q := by
  obtain ⟨h1, h2⟩ := c_in hj ht hb
  refine c_st hk hl ⟨ha, by rw [hn]; exact h1, ?_⟩
  dsimp only
  rw [h2]
  exact kk
theorem c_aal {a : Nat} {j : Int32} (t n : Nat) (hk : k < 162) (hl : m_look (g_code k) pc = some (.aaload, 1)) (ha : m_isa a 5 = true) (hn : g_ar a = n) (hb : Nat.ble n 2147483647 = true) (hj : j = nI t) (ht : t < n) (kk : m_W k (pc + 1) ls (.ref (g_rf a t) :: r) μ Q) : m_W k pc ls (.int j :: .ref a :: r) μ Q := by
  obtain ⟨h1, h2⟩ := c_in hj ht hb
  refine c_st hk hl ⟨ha, by rw [hn]; exact h1, ?_⟩
  dsimp only
  rw [h2]
  exact kk
theorem c_ias {a : Nat} {j v : Int32} (t n : Nat) (hk : k < 162) (hl : m_look (g_code k) pc = some (.iastore, 1)) (ha : m_isa a 2 = true) (hn : g_ar a = n) (hb : Nat.ble n 2147483647 = true) (hj : j = nI t) (ht : t < n) (kk : m_W k (pc + 1) ls r (m_ui μ.1 a t v, μ.2) Q) : m_W k pc ls (.int v :: .int j :: .ref a :: r) μ Q := by
  obtain ⟨h1, h2⟩ := c_in hj ht hb
  refine c_st hk hl ⟨ha, by rw [hn]; exact h1, ?_⟩
  dsimp only
  rw [h2]
  exact kk
theorem c_cas {a : Nat} {j v : Int32} (t n : Nat) (hk : k < 162) (hl : m_look (g_code k) pc = some (.castore, 1)) (ha : m_isa a 3 = true) (hn : g_ar a = n) (hb : Nat.ble n 2147483647 = true) (hj : j = nI t) (ht : t < n) (kk : m_W k (pc + 1) ls r (m_ui μ.1 a t (vp_nar .char v), μ.2) Q) : m_W k pc ls (.int v :: .int j :: .ref a :: r) μ Q := by
  obtain ⟨h1, h2⟩ := c_in hj ht hb
  refine c_st hk hl ⟨ha, by rw [hn]; exact h1, ?_⟩
  dsimp only
  rw [h2]
  exact kk
theorem c_las {a : Nat} {j : Int32} {v : Int64} (t n : Nat) (hk : k < 162) (hl : m_look (g_code k) pc = some (.lastore, 1)) (ha : m_isa a 4 = true) (hn : g_ar a = n) (hb : Nat.ble n 2147483647 = true) (hj : j = nI t) (ht : t < n) (kk : m_W k (pc + 1) ls r (μ.1, m_uj μ.2 a t v) Q) : m_W k pc ls (.long v :: .int j :: .ref a :: r) μ Q := by
  obtain ⟨h1, h2⟩ := c_in hj ht hb
  refine c_st hk hl ⟨ha, by rw [hn]; exact h1, ?_⟩
  dsimp only
  rw [h2]
  exact kk
/-- a boolean field is written -/
theorem c_putz {x a ci kf : Nat} {v : Int32} (hk : k < 162) (hl : m_look (g_code k) pc = some (.putfield x, 3)) (hf : g_find g_fls (g_O k) x = some (ci, kf)) (ho : m_ob a ci = true) (hz : Nat.beq (g_ft ci kf) 1 = true) (hv : v = 0 ∨ v = 1) (kk : m_W k (pc + 3) ls r (m_ui μ.1 a kf v, μ.2) Q) : m_W k pc ls (.int v :: .ref a :: r) μ Q := by
  refine c_st hk hl ?_
  unfold m_Sem
  dsimp only
  rw [hf]
  exact ⟨ho, Or.inr ⟨hz, hv⟩, kk⟩
def m_gd (k f : Nat) (As r : List Value) : Bool := Nat.ble (lg_sl As).length (g_L f) && Nat.ble (m_cat r) 8 && Nat.ble (g_fr f + 1) (g_fr k) && Nat.ble (8 + (g_L f + 11) + g_lo f) (g_lo k)
theorem m_gd_sp {k f : Nat} {As r : List Value} (h : m_gd k f As r = true) : (lg_sl As).length ≤ g_L f ∧ m_cat r ≤ 8 ∧ g_fr f + 1 ≤ g_fr k ∧ 8 + (g_L f + 11) + g_lo f ≤ g_lo k := by
  unfold m_gd at h
  obtain ⟨h, h4⟩ := Bool.and_eq_true_iff.mp h
  obtain ⟨h, h3⟩ := Bool.and_eq_true_iff.mp h
  obtain ⟨h1, h2⟩ := Bool.and_eq_true_iff.mp h
  exact ⟨Nat.le_of_ble_eq_true h1, Nat.le_of_ble_eq_true h2, Nat.le_of_ble_eq_true h3, Nat.le_of_ble_eq_true h4⟩
/-- a call of an instance method -/
theorem c_cv {x b : Nat} (f : Nat) (As : List Value) {P : m_Q} (hk : k < 162) (hl : m_look (g_code k) pc = some (.invokevirtual x, 3)) (hf : g_find g_cv (g_O k) x = some f) (hn : As.length = g_na f) (hst : st = As.reverse ++ .ref b :: r) (ho : m_ob b (g_O f) = true) (hg : m_gd k f (.ref b :: As) r = true)
    (hW : m_W f 0 (lv_args 0 (.ref b :: As)) [] μ P) (kk : ∀ v μ', P v μ' → m_W k (pc + 3) ls (v.toList ++ r) μ' Q) : m_W k pc ls st μ Q := by
  obtain ⟨h1, h2, h3, h4⟩ := m_gd_sp hg
  refine c_st hk hl ?_
  show match g_find g_cv (g_O k) x with
    | some f => match st.drop (g_na f) with
      | .ref b :: r => (g_na f ≤ st.length ∧ m_ob b (g_O f) = true ∧ (lg_sl (.ref b :: (st.take (g_na f)).reverse)).length ≤ g_L f ∧ m_cat r ≤ 8 ∧ g_fr f + 1 ≤ g_fr k ∧ 8 + (g_L f + 11) + g_lo f ≤ g_lo k) ∧ m_W f 0 (lv_args 0 (.ref b :: (st.take (g_na f)).reverse)) [] μ (fun v μ' => m_W k (pc + 3) ls (v.toList ++ r) μ' Q)
      | _ => False
    | none => m_Str k (g_find g_sps (g_O k) x) pc ls st μ (fun pc ls st μ => m_W k pc ls st μ Q)
  rw [hf]
  subst hst
  have e1 : (As.reverse ++ .ref b :: r).drop (g_na f) = .ref b :: r := by rw [← hn, ← List.length_reverse]; simp
  have e2 : ((As.reverse ++ .ref b :: r).take (g_na f)).reverse = As := by rw [← hn, ← List.length_reverse]; simp
  dsimp only
  rw [e1]
  dsimp only
  rw [e2]
  exact ⟨⟨by simp; omega, ho, h1, h2, h3, h4⟩, m_W_mono _ _ _ _ _ _ _ kk hW⟩
/-- a call of a static method -/
theorem c_cs {x : Nat} (f : Nat) (As : List Value) {P : m_Q} (hk : k < 162) (hl : m_look (g_code k) pc = some (.invokestatic x, 3)) (hf : g_find g_cs (g_O k) x = some f ∨ (g_find g_cs (g_O k) x = none ∧ g_find g_cnn (g_O k) x = some f)) (hn : As.length = g_na f) (hst : st = As.reverse ++ r) (hg : m_gd k f As r = true)
    (hW : m_W f 0 (lv_args 0 As) [] μ P) (kk : ∀ v μ', P v μ' → m_W k (pc + 3) ls (v.toList ++ r) μ' Q) : m_W k pc ls st μ Q := by
  obtain ⟨h1, h2, h3, h4⟩ := m_gd_sp hg
  subst hst
  have e1 : (As.reverse ++ r).drop (g_na f) = r := by rw [← hn, ← List.length_reverse]; simp
  have e2 : ((As.reverse ++ r).take (g_na f)).reverse = As := by rw [← hn, ← List.length_reverse]; simp
  have key : (g_na f ≤ (As.reverse ++ r).length ∧ (lg_sl ((As.reverse ++ r).take (g_na f)).reverse).length ≤ g_L f ∧ m_cat ((As.reverse ++ r).drop (g_na f)) ≤ 8 ∧ g_fr f + 1 ≤ g_fr k ∧ 8 + (g_L f + 11) + g_lo f ≤ g_lo k) ∧ m_W f 0 (lv_args 0 ((As.reverse ++ r).take (g_na f)).reverse) [] μ (fun v μ' => m_W k (pc + 3) ls (v.toList ++ (As.reverse ++ r).drop (g_na f)) μ' Q) := by
    rw [e1, e2]
    exact ⟨⟨by simp; omega, h1, h2, h3, h4⟩, m_W_mono _ _ _ _ _ _ _ kk hW⟩
  refine c_st hk hl ?_
  show match g_find g_cs (g_O k) x with
    | some f => (g_na f ≤ (As.reverse ++ r).length ∧ (lg_sl ((As.reverse ++ r).take (g_na f)).reverse).length ≤ g_L f ∧ m_cat ((As.reverse ++ r).drop (g_na f)) ≤ 8 ∧ g_fr f + 1 ≤ g_fr k ∧ 8 + (g_L f + 11) + g_lo f ≤ g_lo k) ∧ m_W f 0 (lv_args 0 ((As.reverse ++ r).take (g_na f)).reverse) [] μ (fun v μ' => m_W k (pc + 3) ls (v.toList ++ (As.reverse ++ r).drop (g_na f)) μ' Q)
    | none => match g_find g_cnn (g_O k) x with
      | some f => (g_na f ≤ (As.reverse ++ r).length ∧ (lg_sl ((As.reverse ++ r).take (g_na f)).reverse).length ≤ g_L f ∧ m_cat ((As.reverse ++ r).drop (g_na f)) ≤ 8 ∧ g_fr f + 1 ≤ g_fr k ∧ 8 + (g_L f + 11) + g_lo f ≤ g_lo k) ∧ m_W f 0 (lv_args 0 ((As.reverse ++ r).take (g_na f)).reverse) [] μ (fun v μ' => m_W k (pc + 3) ls (v.toList ++ (As.reverse ++ r).drop (g_na f)) μ' Q)
      | none => m_Cpy k (g_find g_sps (g_O k) x) pc ls (As.reverse ++ r) μ (fun pc ls st μ => m_W k pc ls st μ Q)
  rcases hf with hf | ⟨hf, hf2⟩
  · rw [hf]
    exact key
  · rw [hf, hf2]
    exact key
theorem c_sw {d lo hi : Int} {os : Array Int} {n : Nat} {x : Int32} (hk : k < 162) (hl : m_look (g_code k) pc = some (.tableswitch d lo hi os, n)) (t : Nat) (ht : ((pc : Int) + d).toNat = t) (h1 : x.toInt < lo ∨ hi < x.toInt → m_W k t ls r μ Q) (h2 : ∀ (j : Nat) (o : Int), os[j]? = some o → x.toInt = lo + j → x.toInt ≤ hi → m_W k ((pc : Int) + o).toNat ls r μ Q) : m_W k pc ls (.int x :: r) μ Q := by
  subst ht
  exact c_st hk hl ⟨h1, h2⟩
end CR
/-- the equality form of a contract -/
abbrev m_E (v : Option Value) (μ : m_M) : m_Q := fun v' μ' => v' = v ∧ μ' = μ
