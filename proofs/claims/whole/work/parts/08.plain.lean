theorem m_get_mem {ad : Nat → Nat} {j : Nat} {ls : m_Ls} {v : Value} (hg : m_get ls j = some v) : (j, m_rv ad v) ∈ ls.map (m_rl ad) := by
  refine List.mem_map.mpr ⟨(j, v), ?_, rfl⟩
  induction ls with
  | nil => cases hg
  | cons q r ih =>
    unfold m_get at hg
    split at hg
    next h =>
      cases hg
      have := Nat.eq_of_beq_eq_true h
      subst this
      exact List.mem_cons_self
    next => exact List.mem_cons_of_mem _ (ih hg)
section MP
variable {p : Program} {l : Launch} {e : Env} {R : Room} {s : State} {m : MethodId} {args : Array Value} {below : List Frame} {meth : Method} {c : Code} {H : Heap} {locs : List Loc} {cells slots : Nat} {Z : State → Prop}
variable {D : va_G} {ad : Nat → Nat} {cA : Nat → ClassId} {A : Nat → Prop} {k pc n : Nat} {ls : m_Ls} {μ : m_M} {la : Array Slot}
theorem m_putf (hx : p.tables.exec = Jvm.exec) (hb : c.code = g_B k) (hown : s.vm.findClass (g_cn (g_O k)) = some m.cls) (hts : ∀ w ∈ g_T, w.before args s = true) (hSt : m_St D ad cA s) {x : Nat} (hdec : decode (g_B k) pc = .ok (.putfield x, 3))
    (hl : lv_has la (g_L k) (ls.map (m_rl ad))) (hP : va_P D g_cls (m_ws ad cA μ) H) (hD : va_D A (m_ws ad cA μ)) (hS : va_S A s.heap H locs) {f : Nat × Nat} {a : Nat} {v : Int32} {r : List Value} (hf : g_find g_fls (g_O k) x = some f) (ho : m_ob a f.1 = true) (hz : Nat.beq (g_ft f.1 f.2) 0 = true ∨ (Nat.beq (g_ft f.1 f.2) 1 = true ∧ (v = 0 ∨ v = 1)))
    (kk : ∀ (H' : Heap) (locs' : List Loc) (la' : Array Slot), lv_has la' (g_L k) (ls.map (m_rl ad)) → va_P D g_cls (m_ws ad cA (m_ui μ.1 a f.2 v, μ.2)) H' → va_D A (m_ws ad cA (m_ui μ.1 a f.2 v, μ.2)) → va_S A s.heap H' locs' → W p l e R s m args below meth c H' locs' cells slots Z (F0 m (pc + 3) la' (r.map (m_rv ad)))) :
    W p l e R s m args below meth c H locs cells slots Z (F0 m pc la ((.int v :: .ref a :: r).map (m_rv ad))) := by
  obtain ⟨ci, kf⟩ := f
  have hlt := g_fl_lt _ (g_find_mem hf)
  have hin := g_fl_in _ (g_find_mem hf)
  obtain ⟨C, T, ty, hcl, hcn, hi, hty, hnm, hft⟩ := m_cls ci hlt.1
  obtain ⟨h1, h2, h3⟩ := m_ob_sp ho
  dsimp only at h1 h2 h3 hlt hin hz
  have he := m_ws_at (ad := ad) (cA := cA) (μ := μ) h3
  rw [m_ent_1 h1, h2] at he
  have hgd : g_fd ci kf = T kf := by unfold g_fd; rw [hcl]
  unfold g_flw at hin
  dsimp only at hin
  rw [hgd] at hin
  have hn2 : g_ft ci kf ≠ 2 := by
    rcases hz with hz | ⟨hz, -⟩
    · rw [Nat.eq_of_beq_eq_true hz]; decide
    · rw [Nat.eq_of_beq_eq_true hz]; decide
  have hnf : (T kf).2.2.2 = false ∧ narrow (ty kf) (.int v) = .int v ∧ fits (ty kf) (.int v) = true := by
    rcases hz with hz | ⟨hz, hv⟩
    · obtain ⟨e1, e2⟩ := (hft kf hlt.2).1 (Nat.eq_of_beq_eq_true hz)
      rw [e1]
      exact ⟨e2, rfl, rfl⟩
    · obtain ⟨e1, e2⟩ := (hft kf hlt.2).2 (Nat.eq_of_beq_eq_true hz)
      rw [e1]
      rcases hv with rfl | rfl
      · exact ⟨e2, rfl, rfl⟩
      · exact ⟨e2, rfl, rfl⟩
  refine va_put (D := D) (ci := ci) (v := .int v) (ty := ty kf) (C := C) (T := T) (N := g_nf ci) hx hb hts hi ty hty hnm hown hSt.1 hP hD hS a he hcl kf hlt.2 (hts _ hin) (fun _ h => h) hnf.1 (hty kf hlt.2) hnf.2.1 hnf.2.2 (by simpa using hlt.2) hdec (fun H1 locs1 q1 q2 q3 => ?_)
  rw [m_ws_putf ho hlt.2 hn2] at q1 q2
  exact kk _ _ _ hl q1 q2 q3
end MP
/-! A PLAIN INSTRUCTION of the small machine is one of the real one -/
section MS
variable {p : Program} {l : Launch} {e : Env} {R : Room} {s : State} {m : MethodId} {args : Array Value} {below : List Frame} {meth : Method} {c : Code} {H : Heap} {locs : List Loc} {cells slots : Nat} {Z : State → Prop}
variable {D : va_G} {ad : Nat → Nat} {cA : Nat → ClassId} {A : Nat → Prop} {k pc n : Nat} {ls : m_Ls} {st : List Value} {μ : m_M} {la : Array Slot}
set_option maxHeartbeats 4000000 in
theorem m_stp_ok (hx : p.tables.exec = Jvm.exec) (hb : c.code = g_B k) (hown : s.vm.findClass (g_cn (g_O k)) = some m.cls) (hts : ∀ w ∈ g_T, w.before args s = true) (hSt : m_St D ad cA s) {i : Instr} (hdec : decode (g_B k) pc = .ok (i, n)) (hj : g_jmp i pc = true) (hn : (g_isw i || Nat.beq n (g_len i)) = true)
    (hl : lv_has la (g_L k) (ls.map (m_rl ad))) (hP : va_P D g_cls (m_ws ad cA μ) H) (hD : va_D A (m_ws ad cA μ)) (hS : va_S A s.heap H locs) {q : m_C} (hq : m_stp k i pc ls st μ = some q)
    (kk : ∀ (H' : Heap) (locs' : List Loc) (la' : Array Slot), lv_has la' (g_L k) (q.2.1.map (m_rl ad)) → va_P D g_cls (m_ws ad cA q.2.2.2) H' → va_D A (m_ws ad cA q.2.2.2) → va_S A s.heap H' locs' → W p l e R s m args below meth c H' locs' cells slots Z (F0 m q.1 la' (q.2.2.1.map (m_rv ad)))) :
    W p l e R s m args below meth c H locs cells slots Z (F0 m pc la (st.map (m_rv ad))) := by
  unfold m_stp at hq
  cases i

  case iconst v =>
    obtain rfl : n = 1 := Nat.eq_of_beq_eq_true hn
    cases hq
    exact lv_iconst hx hb hdec rfl (kk _ _ _ hl hP hD hS)
  case bipush v =>
    obtain rfl : n = 2 := Nat.eq_of_beq_eq_true hn
    cases hq
    exact lv_bipush hx hb hdec rfl (kk _ _ _ hl hP hD hS)
  case sipush v =>
    obtain rfl : n = 3 := Nat.eq_of_beq_eq_true hn
    cases hq
    exact lv_sipush hx hb hdec rfl (kk _ _ _ hl hP hD hS)
  case lconst v =>
    obtain rfl : n = 1 := Nat.eq_of_beq_eq_true hn
    cases hq
    exact lv_lconst hx hb hdec rfl (kk _ _ _ hl hP hD hS)
  case ldc x =>
    obtain rfl : n = 2 := Nat.eq_of_beq_eq_true hn
    dsimp only at hq
    split at hq
    next v hv =>
      cases hq
      exact lv_ldc hx hb hown (hts _ (g_ldc_in _ (g_find_mem hv))) hdec (kk _ _ _ hl hP hD hS)
    next =>
      split at hq
      next j hv =>
        cases hq
        have hz : vk_R (g_cn (g_O k)) x (g_stx.getD j "") (ad (1000 + j)) s := hSt.2.2.2 (g_O k, x, j) (g_find_mem hv)
        exact va_ldcS (q := ad (1000 + j)) (tx := g_stx.getD j "") (own := g_cn (g_O k)) hx hb hown hz hdec (kk _ _ _ hl hP hD hS)
      next => cases hq
  case ldc2_w x =>
    obtain rfl : n = 3 := Nat.eq_of_beq_eq_true hn
    dsimp only at hq
    split at hq
    next v hv =>
      cases hq
      exact lv_ldc2 hx hb hown (hts _ (g_ldc2_in _ (g_find_mem hv))) hdec (kk _ _ _ hl hP hD hS)
    next => cases hq
  case iload j =>
    obtain rfl : n = 2 := Nat.eq_of_beq_eq_true hn
    dsimp only at hq
    split at hq
    next v hg =>
      cases hq
      exact lv_iload hx hb hdec (m_get_at hl hg) (kk _ _ _ hl hP hD hS)
    next => cases hq
  case iload_n j =>
    obtain rfl : n = 1 := Nat.eq_of_beq_eq_true hn
    dsimp only at hq
    split at hq
    next v hg =>
      cases hq
      exact lv_iload_n hx hb hdec rfl (m_get_at hl hg) (kk _ _ _ hl hP hD hS)
    next => cases hq
  case lload j =>
    obtain rfl : n = 2 := Nat.eq_of_beq_eq_true hn
    dsimp only at hq
    split at hq
    next v hg =>
      cases hq
      exact lv_lload hx hb hdec (m_get_at hl hg) (kk _ _ _ hl hP hD hS)
    next => cases hq
  case lload_n j =>
    obtain rfl : n = 1 := Nat.eq_of_beq_eq_true hn
    dsimp only at hq
    split at hq
    next v hg =>
      cases hq
      exact lv_lload_n hx hb hdec rfl (m_get_at hl hg) (kk _ _ _ hl hP hD hS)
    next => cases hq
  case aload_n j =>
    obtain rfl : n = 1 := Nat.eq_of_beq_eq_true hn
    dsimp only at hq
    split at hq
    next v hg =>
      cases hq
      exact lv_aload_n hx hb hdec rfl (m_get_at hl hg) (kk _ _ _ hl hP hD hS)
    next => cases hq
  case istore j =>
    obtain rfl : n = 2 := Nat.eq_of_beq_eq_true hn
    dsimp only at hq
    split at hq
    next v r hlt =>
      cases hq
      exact lv_istore hx hb hdec hl (Nat.le_of_ble_eq_true hlt) (m_s1_map ad ls j (.int v)) (fun la hl => kk _ _ _ hl hP hD hS)
    next => cases hq
  case istore_n j =>
    obtain rfl : n = 1 := Nat.eq_of_beq_eq_true hn
    dsimp only at hq
    split at hq
    next v r hlt =>
      cases hq
      exact lv_istore_n hx hb hdec rfl hl (Nat.le_of_ble_eq_true hlt) (m_s1_map ad ls j.val (.int v)) (fun la hl => kk _ _ _ hl hP hD hS)
    next => cases hq
  case lstore j =>
    obtain rfl : n = 2 := Nat.eq_of_beq_eq_true hn
    dsimp only at hq
    split at hq
    next v r hlt =>
      cases hq
      exact lv_lstore hx hb hdec hl (Nat.le_of_ble_eq_true hlt) (m_s2_map ad ls j (.long v)) (fun la hl => kk _ _ _ hl hP hD hS)
    next => cases hq
  case lstore_n j =>
    obtain rfl : n = 1 := Nat.eq_of_beq_eq_true hn
    dsimp only at hq
    split at hq
    next v r hlt =>
      cases hq
      exact lv_lstore_n hx hb hdec rfl hl (Nat.le_of_ble_eq_true hlt) (m_s2_map ad ls j.val (.long v)) (fun la hl => kk _ _ _ hl hP hD hS)
    next => cases hq
  case iinc j d =>
    obtain rfl : n = 3 := Nat.eq_of_beq_eq_true hn
    dsimp only at hq
    split at hq
    next v hg hlt =>
      cases hq
      obtain ⟨x, hx1⟩ := List.getElem?_of_mem (m_get_mem (ad := ad) hg)
      exact lv_iinc (k := x) hx hb hdec hl hx1 rfl (Nat.le_of_ble_eq_true hlt) (m_s1_map ad ls j (.int (v + Int32.ofInt d))) (fun la hl => kk _ _ _ hl hP hD hS)
    next => cases hq
  case iadd =>
    obtain rfl : n = 1 := Nat.eq_of_beq_eq_true hn
    dsimp only at hq
    split at hq
    next y x r =>
      cases hq
      exact lv_iadd hx hb hdec (kk _ _ _ hl hP hD hS)
    next => cases hq
  case isub =>
    obtain rfl : n = 1 := Nat.eq_of_beq_eq_true hn
    dsimp only at hq
    split at hq
    next y x r =>
      cases hq
      exact lv_isub hx hb hdec (kk _ _ _ hl hP hD hS)
    next => cases hq
  case imul =>
    obtain rfl : n = 1 := Nat.eq_of_beq_eq_true hn
    dsimp only at hq
    split at hq
    next y x r =>
      cases hq
      exact lv_imul hx hb hdec (kk _ _ _ hl hP hD hS)
    next => cases hq
  case iand =>
    obtain rfl : n = 1 := Nat.eq_of_beq_eq_true hn
    dsimp only at hq
    split at hq
    next y x r =>
      cases hq
      exact lv_iand hx hb hdec (kk _ _ _ hl hP hD hS)
    next => cases hq
  case ior =>
    obtain rfl : n = 1 := Nat.eq_of_beq_eq_true hn
    dsimp only at hq
    split at hq
    next y x r =>
      cases hq
      exact lv_ior hx hb hdec (kk _ _ _ hl hP hD hS)
    next => cases hq
  case ixor =>
    obtain rfl : n = 1 := Nat.eq_of_beq_eq_true hn
    dsimp only at hq
    split at hq
    next y x r =>
      cases hq
      exact lv_ixor hx hb hdec (kk _ _ _ hl hP hD hS)
    next => cases hq
  case ishl =>
    obtain rfl : n = 1 := Nat.eq_of_beq_eq_true hn
    dsimp only at hq
    split at hq
    next y x r =>
      cases hq
      exact lv_ishl hx hb hdec (kk _ _ _ hl hP hD hS)
    next => cases hq
  case ishr =>
    obtain rfl : n = 1 := Nat.eq_of_beq_eq_true hn
    dsimp only at hq
    split at hq
    next y x r =>
      cases hq
      exact lv_ishr hx hb hdec (kk _ _ _ hl hP hD hS)
    next => cases hq
  case ladd =>
    obtain rfl : n = 1 := Nat.eq_of_beq_eq_true hn
    dsimp only at hq
    split at hq
    next y x r =>
      cases hq
      exact lv_ladd hx hb hdec (kk _ _ _ hl hP hD hS)
    next => cases hq
  case lsub =>
    obtain rfl : n = 1 := Nat.eq_of_beq_eq_true hn
    dsimp only at hq
    split at hq
    next y x r =>
      cases hq
      exact lv_lsub hx hb hdec (kk _ _ _ hl hP hD hS)
    next => cases hq
  case lmul =>
    obtain rfl : n = 1 := Nat.eq_of_beq_eq_true hn
    dsimp only at hq
    split at hq
    next y x r =>
      cases hq
      exact lv_lmul hx hb hdec (kk _ _ _ hl hP hD hS)
    next => cases hq
  case land =>
    obtain rfl : n = 1 := Nat.eq_of_beq_eq_true hn
    dsimp only at hq
    split at hq
    next y x r =>
      cases hq
      exact lv_land hx hb hdec (kk _ _ _ hl hP hD hS)
    next => cases hq
  case lor =>
    obtain rfl : n = 1 := Nat.eq_of_beq_eq_true hn
    dsimp only at hq
    split at hq
    next y x r =>
      cases hq
      exact lv_lor hx hb hdec (kk _ _ _ hl hP hD hS)
    next => cases hq
  case lxor =>
    obtain rfl : n = 1 := Nat.eq_of_beq_eq_true hn
    dsimp only at hq
    split at hq
    next y x r =>
      cases hq
      exact lv_lxor hx hb hdec (kk _ _ _ hl hP hD hS)
    next => cases hq
  case lshl =>
    obtain rfl : n = 1 := Nat.eq_of_beq_eq_true hn
    dsimp only at hq
    split at hq
    next y x r =>
      cases hq
      exact lv_lshl hx hb hdec rfl (kk _ _ _ hl hP hD hS)
    next => cases hq
  case lshr =>
    obtain rfl : n = 1 := Nat.eq_of_beq_eq_true hn
    dsimp only at hq
    split at hq
    next y x r =>
      cases hq
      exact lv_lshr hx hb hdec rfl (kk _ _ _ hl hP hD hS)
    next => cases hq
  case lcmp =>
    obtain rfl : n = 1 := Nat.eq_of_beq_eq_true hn
    dsimp only at hq
    split at hq
    next y x r =>
      cases hq
      exact W.lcmp hx hb hdec (kk _ _ _ hl hP hD hS)
    next => cases hq
  case i2l =>
    obtain rfl : n = 1 := Nat.eq_of_beq_eq_true hn
    dsimp only at hq
    split at hq
    next x r =>
      cases hq
      exact lv_i2l hx hb hdec rfl (kk _ _ _ hl hP hD hS)
    next => cases hq
  case l2i =>
    obtain rfl : n = 1 := Nat.eq_of_beq_eq_true hn
    dsimp only at hq
    split at hq
    next x r =>
      cases hq
      exact lv_l2i hx hb hdec rfl (kk _ _ _ hl hP hD hS)
    next => cases hq
  case i2c =>
    obtain rfl : n = 1 := Nat.eq_of_beq_eq_true hn
    dsimp only at hq
    split at hq
    next x r =>
      cases hq
      exact lv_i2c hx hb hdec rfl (kk _ _ _ hl hP hD hS)
    next => cases hq
  case dup =>
    obtain rfl : n = 1 := Nat.eq_of_beq_eq_true hn
    dsimp only at hq
    split at hq
    next v r =>
      split at hq
      next hc =>
        cases hq
        exact lv_dup hx hb hdec ((m_rv_cat ad v).trans (Nat.eq_of_beq_eq_true hc)) (kk _ _ _ hl hP hD hS)
      next => cases hq
    next => cases hq
  case pop =>
    obtain rfl : n = 1 := Nat.eq_of_beq_eq_true hn
    dsimp only at hq
    split at hq
    next v r =>
      split at hq
      next hc =>
        cases hq
        exact lv_pop hx hb hdec ((m_rv_cat ad v).trans (Nat.eq_of_beq_eq_true hc)) (kk _ _ _ hl hP hD hS)
      next => cases hq
    next => cases hq
  case dup2 =>
    obtain rfl : n = 1 := Nat.eq_of_beq_eq_true hn
    dsimp only at hq
    split at hq
    next v w r =>
      split at hq
      next hc =>
        cases hq
        obtain ⟨c1, c2⟩ := Bool.and_eq_true_iff.mp hc
        exact lv_dup2_11 hx hb hdec ((m_rv_cat ad v).trans (Nat.eq_of_beq_eq_true c1)) ((m_rv_cat ad w).trans (Nat.eq_of_beq_eq_true c2)) (kk _ _ _ hl hP hD hS)
      next => cases hq
    next => cases hq
  case goto o =>
    obtain rfl : n = 3 := Nat.eq_of_beq_eq_true hn
    cases hq
    have hj := of_decide_eq_true hj
    exact lv_goto hx hb hdec (Int.toNat_of_nonneg hj).symm (kk _ _ _ hl hP hD hS)
  case getfield x =>
    obtain rfl : n = 3 := Nat.eq_of_beq_eq_true hn
    dsimp only at hq
    split at hq
    next a r f hf =>
      split at hq
      next ho =>
        cases hq
        obtain ⟨ci, kf⟩ := f
        have hlt := g_fl_lt _ (g_find_mem hf)
        have hin := g_fl_in _ (g_find_mem hf)
        obtain ⟨C, T, ty, hcl, hcn, hi, hty, hnm, hft⟩ := m_cls ci hlt.1
        obtain ⟨h1, h2, h3⟩ := m_ob_sp ho
        dsimp only at h1 h2 h3 hlt hin
        have he := m_ws_at (ad := ad) (cA := cA) (μ := μ) h3
        rw [m_ent_1 h1, h2] at he
        have hgd : g_fd ci kf = T kf := by unfold g_fd; rw [hcl]
        unfold g_flw at hin
        dsimp only at hin
        rw [hgd] at hin
        exact va_get (D := D) (ci := ci) (v := m_rv ad (m_fv μ a ci kf)) (C := C) (T := T) (N := g_nf ci) hx hb hts hi hown hSt.1 hP a he hcl kf hlt.2 (hts _ hin) (fun _ h => h) (by simp [hlt.2]) hdec (kk _ _ _ hl hP hD hS)
      next => cases hq
    next => cases hq
  case putfield x =>
    obtain rfl : n = 3 := Nat.eq_of_beq_eq_true hn
    dsimp only at hq
    split at hq
    next v a r f hf =>
      split at hq
      next ho =>
        cases hq
        obtain ⟨ho, hz⟩ := Bool.and_eq_true_iff.mp ho
        exact m_putf hx hb hown hts hSt hdec hl hP hD hS hf ho (Or.inl hz) kk
      next => cases hq
    next => cases hq
  all_goals (first | cases hq | exact absurd hq (by simp))
end MS
