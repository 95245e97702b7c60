/-! THE SMALL MACHINE IS SOUND: what it comes to, the real one comes to -/
def m_sh (r : g_RT) (v : Option Value) : Prop := match r with
  | none => v = none
  | some ty => (ty = .long ∧ ∃ x, v = some (.long x)) ∨ (¬ ty = .long ∧ ∃ x, v = some (.int x))
def m_Ctx (k : Nat) (D : va_G) (ad aV : Nat → Nat) (cA : Nat → ClassId) (p : Program) (R : Room) (s : State) (m : MethodId) (args : Array Value) (meth : Method) (c : Code) (cells slots : Nat) (A : Nat → Prop) : Prop :=
  p.tables.exec = Jvm.exec ∧ c.code = g_B k ∧ meth.sig.returnType = g_R k ∧ c.maxLocals = g_L k ∧ s.vm.findClass (g_cn (g_O k)) = some m.cls ∧ (∀ w ∈ g_T, w.before args s = true) ∧ meth.locks = false ∧ m_St D ad cA s ∧ (g_fr k ≤ R.frames ∧ g_lo k ≤ R.locals) ∧ (cells ≤ R.cells ∧ slots ≤ R.slots) ∧ (∀ q, s.heap.size ≤ q → A q) ∧ j_S (fun j => ad (1000 + j)) aV A s s.heap
def m_X (l : Launch) (D : va_G) (ad aV : Nat → Nat) (cA : Nat → ClassId) : m_XT := fun k pc ls st μ Q =>
  ∀ (p : Program) (e : Env) (R : Room) (s : State) (m : MethodId) (args : Array Value) (below : List Frame) (meth : Method) (c : Code) (cells slots : Nat) (A : Nat → Prop) (Qc : Array Value → State → Outcome → State → Prop),
    m_Ctx k D ad aV cA p R s m args meth c cells slots A →
    (∀ (v : Option Value) (μ' : m_M) (t : State), m_sh (g_R k) v → Q v μ' → s.WarmedH t.vm → va_P D g_cls (m_ws ad cA μ') t.heap → va_D A (m_ws ad cA μ') → va_F A s t → Qc args s (.returned (v.map (m_rv ad))) t) →
    ∀ (H : Heap) (locs : List Loc) (la : Array Slot), lv_has la (g_L k) (ls.map (m_rl ad)) → va_P D g_cls (m_ws ad cA μ) H → va_D A (m_ws ad cA μ) → va_S A s.heap H locs →
      W p l e R s m args below meth c H locs cells slots (MQ below Qc args s cells slots A) (F0 m pc la (st.map (m_rv ad)))
theorem m_X_mono {l : Launch} {D : va_G} {ad aV : Nat → Nat} {cA : Nat → ClassId} : m_Mono (m_X l D ad aV cA) :=
  fun k pc ls st μ Q Q' hQ h p e R s m args below meth c cells slots A Qc C hq => h p e R s m args below meth c cells slots A Qc C (fun v μ' t h1 h2 => hq v μ' t h1 (hQ v μ' h2))
def m_Qc (ad : Nat → Nat) (cA : Nat → ClassId) (D : va_G) (A : Nat → Prop) (r : g_RT) (Q : m_Q) : Array Value → State → Outcome → State → Prop := fun _ st oc t => ∃ (v : Option Value) (μ' : m_M), oc = .returned (v.map (m_rv ad)) ∧ m_sh r v ∧ Q v μ' ∧ va_P D g_cls (m_ws ad cA μ') t.heap ∧ va_D A (m_ws ad cA μ') ∧ va_F A st t
abbrev m_Pc (ad aV : Nat → Nat) (cA : Nat → ClassId) (D : va_G) (As : List Value) (sz : Nat) (μ : m_M) : Array Value → State → Prop := va_Pc (As.map (m_rv ad)) (fun U => U.heap.size = sz ∧ va_P D g_cls (m_ws ad cA μ) U.heap ∧ m_St D ad cA U ∧ va_D (fun _ => True) (m_ws ad cA μ) ∧ j_S (fun j => ad (1000 + j)) aV (va_A (m_ws ad cA μ) sz) U U.heap)
abbrev m_rm (f : Nat) : Room := { frames := g_fr f, cells := 0, slots := 0, locals := g_lo f }
theorem m_met {l : Launch} {D : va_G} {ad aV : Nat → Nat} {cA : Nat → ClassId} {f : Nat} {As : List Value} {μ : m_M} {Q : m_Q} {sz : Nat} (hf : f < 162) (hlen : (lg_sl As).length ≤ g_L f) (hX : m_X l D ad aV cA f 0 (lv_args 0 As) [] μ Q) :
    Met l (g_Y f) (g_cw f :: g_T) (m_rm f) (m_Pc ad aV cA D As sz μ) (m_Qc ad cA D (va_A (m_ws ad cA μ) sz) (g_R f) Q) 0 0 (va_A (m_ws ad cA μ) sz) := by
  refine m_ofW (cc := g_B f) (maxL := g_L f) (ret := g_R f) (g_plain f hf).1 rfl ?_
  intro p e s m args below meth c s₁ B hml hv
  obtain ⟨rfl, hsz, hP, hSt, hD0, hE⟩ := hv
  subst hsz
  have hts := atoms_spec (ws := g_cw f :: g_T) B.pre
  have hown : s.vm.findClass (g_cn (g_O f)) = some m.cls := findClass_of_methodNamed B.named
  have hl := lv_entry (As.map (m_rv ad)) (n := g_L f) (by rw [m_sl_map]; exact hlen)
  rw [lg_entry_eq]
  rw [m_args_map] at hl
  exact hX p e _ s m _ below meth c 0 0 (va_A (m_ws ad cA μ) s.heap.size) _ ⟨B.exec, B.bytes, B.returns, hml, hown, fun w h => hts w (List.mem_cons_of_mem _ h), B.notSynchronized, hSt, ⟨Nat.le_refl _, Nat.le_refl _⟩, ⟨Nat.zero_le _, Nat.zero_le _⟩, fun q h => Or.inr h, hE⟩ (fun v μ' t h1 h2 h3 h4 h5 h6 => ⟨v, μ', rfl, h1, h2, h4, h5, h6⟩) s.heap [] _ hl hP hD0.self va_S.rf
section MC
variable {p : Program} {l : Launch} {e : Env} {R : Room} {s : State} {m : MethodId} {args : Array Value} {below : List Frame} {meth : Method} {c : Code} {H : Heap} {locs : List Loc} {cells slots : Nat} {Z : State → Prop}
variable {D : va_G} {ad aV : Nat → Nat} {cA : Nat → ClassId} {A : Nat → Prop} {k pc n : Nat} {ls : m_Ls} {st : List Value} {μ : m_M} {la : Array Slot}
theorem m_call {A1 free : Nat → Prop} {rest st0 : List Value} {r : g_RT} {Q : m_Q} {aa : Array Value} (hr : va_Run p l e R s m args below meth c H locs cells slots 0 0 (F0 m pc la st0) rest (m_Qc ad cA D A1 r Q aa) free) (hS : va_S A s.heap H locs) (hA : ∀ q, A1 q → A q) (hf : ∀ q, free q → A q)
    (kk : ∀ (w : Option Value) (μ' : m_M) (H1 : Heap) (locs1 : List Loc), m_sh r w → Q w μ' → va_P D g_cls (m_ws ad cA μ') H1 → va_D A (m_ws ad cA μ') → va_S A s.heap H1 locs1 → W p l e R s m args below meth c H1 locs1 cells slots Z (F0 m (pc + 3) la ((w.map (m_rv ad)).toList ++ rest))) : W p l e R s m args below meth c H locs cells slots Z (F0 m pc la st0) := by
  intro T hT X
  obtain ⟨v, st₀, t, T', L, h0, X', hL, e1, e2, ⟨w, μ', hv, hsh, hq, hP1, hD1, hz, hk⟩, st⟩ := hr T hT X
  cases hv
  rw [h0] at hz hk
  obtain ⟨t2, a1, b1⟩ := kk w μ' T'.heap (locs ++ L) hsh hq (by rw [e1]; exact hP1) (hD1.weaken (fun _ q _ h => hA q.1 h))
    ⟨Nat.le_trans hS.1 (by rw [e1]; exact hz), fun q h1 h2 => by rw [e1, hk q (Nat.lt_of_lt_of_le h1 hS.1) (fun z => h2 (hA q z))]; exact hS.2.1 q h1 h2, fun q hq => by
      rcases List.mem_append.mp hq with h | h
      · exact hS.2.2 q h
      · exact hf _ (hL q h)⟩ T' rfl X'
  exact ⟨t2, st t2 a1, b1⟩
theorem m_A1 (hD : va_D A (m_ws ad cA μ)) (hS : va_S A s.heap H locs) (hA : ∀ q, s.heap.size ≤ q → A q) : ∀ q, va_A (m_ws ad cA μ) H.size q → A q := by
  intro q h
  rcases h with ⟨k, e, h⟩ | h
  · exact hD.2 k _ h
  · exact hA q (Nat.le_trans hS.1 h)
theorem m_blind {As : List Value} {sz : Nat} : FrameBlind (m_Pc ad aV cA D As sz μ) := fun a U g mk q => by
  obtain ⟨q0, q1, qP, qK, qD, qE⟩ := q
  exact ⟨q0, q1, qP, m_St.same rfl qK, qD, qE.moved (U := U.calling g mk a) (Vm.Alike.refl U.vm)⟩
theorem m_pre {As : List Value} (hP : va_P D g_cls (m_ws ad cA μ) H) (hD : va_D A (m_ws ad cA μ)) (hSt : m_St D ad cA s) (hS : va_S A s.heap H locs) (hA1 : ∀ q, va_A (m_ws ad cA μ) H.size q → A q) (hE : j_S (fun j => ad (1000 + j)) aV A s s.heap) : ∀ U : State, U.heap = H → s.WarmedH U.vm → m_Pc ad aV cA D As H.size μ (As.map (m_rv ad)).toArray U := fun U hU hW => ⟨rfl, by rw [hU], by rw [hU]; exact hP, hSt.warm hW, hD.weaken (fun _ _ _ _ => trivial), by
  rw [hU]
  exact ((hE.kept hS.2.1).narrow hA1).moved hW.alike⟩
theorem m_tl (w : Option Value) (r : List Value) : (w.toList ++ r).map (m_rv ad) = (w.map (m_rv ad)).toList ++ r.map (m_rv ad) := by cases w <;> simp
theorem m_goodv {k f x : Nat} (h : g_find g_cv k x = some f) : f < 162 ∧ GoodIn g_T (wsV (g_cn k) x (g_Y f).cls (g_Y f) (g_cw f :: g_T)) := by
  have hm := g_find_mem h
  have hlt := g_cv_lt _ hm
  refine ⟨hlt, fun w hw => g_good ?_⟩
  unfold wsV at hw
  simp only [List.cons_append, List.nil_append, List.mem_cons] at hw
  rcases hw with rfl | rfl | rfl | rfl | rfl | hw
  · exact g_cv_link _ hm
  · exact g_cv_ins _ hm
  · exact g_cv_sel _ hm
  · exact g_cv_ini _ hm
  · exact g_cw_in f hlt
  · exact hw
theorem m_goods {k f x : Nat} (h : g_find g_cs k x = some f) : f < 162 ∧ GoodIn g_T (va_wsS (g_cn k) x (g_Y f) (g_cw f :: g_T)) := by
  have hm := g_find_mem h
  have hlt := g_cs_lt _ hm
  refine ⟨hlt, fun w hw => g_good ?_⟩
  unfold va_wsS at hw
  simp only [List.cons_append, List.nil_append, List.mem_cons] at hw
  rcases hw with rfl | rfl | rfl | rfl | hw
  · exact g_cs_link _ hm
  · exact g_cs_sta _ hm
  · exact g_cs_ini _ hm
  · exact g_cw_in f hlt
  · exact hw
theorem m_goodn {f : Nat} (hlt : f < 162) : GoodIn g_T (g_cw f :: g_T) := fun w hw => g_good (by
  rcases List.mem_cons.mp hw with rfl | hw
  · exact g_cw_in f hlt
  · exact hw)
end MC
