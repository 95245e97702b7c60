section MZ
variable {p : Program} {l : Launch} {e : Env} {R : Room} {s : State} {m : MethodId} {args : Array Value} {below : List Frame} {meth : Method} {c : Code} {H : Heap} {locs : List Loc} {cells slots : Nat} {Z : State → Prop}
variable {D : va_G} {ad aV : Nat → Nat} {cA : Nat → ClassId} {A : Nat → Prop} {k pc n : Nat} {ls : m_Ls} {st : List Value} {μ : m_M} {la : Array Slot} {K : m_KT} {x : Nat}
theorem m_sp4 : ∀ q ∈ g_sps, q.2.2 = 4 → q.1 = 0 ∧ q.2.1 = 74 := by decide
theorem m_sp5 : ∀ q ∈ g_sps, q.2.2 = 5 → q.1 = 0 ∧ q.2.1 = 83 := by decide
theorem m_sp3 : ∀ q ∈ g_sps, q.2.2 = 3 → Cond.methodLink (g_cn q.1) q.2.1 arraycopyName ∈ g_T := by
  intro q hq h3
  have : q = (4, 32, 3) ∨ q = (1, 197, 3) := by
    have h : ∀ q ∈ g_sps, q.2.2 = 3 → q = (4, 32, 3) ∨ q = (1, 197, 3) := by decide
    exact h q hq h3
  rcases this with rfl | rfl
  · exact g_mem 733 (by decide +kernel) rfl
  · exact g_mem 740 (by decide +kernel) rfl
theorem m_gv_len : GoodIn g_T (wsV (g_cn 0) 74 "java/lang/String" y_len (w_len :: g_T)) := fun w hw => g_good (by
  unfold wsV at hw
  simp only [List.cons_append, List.nil_append, List.mem_cons] at hw
  rcases hw with rfl | rfl | rfl | rfl | rfl | hw
  · exact g_mem 614 (by decide +kernel) rfl
  · exact g_mem 615 (by decide +kernel) rfl
  · exact g_mem 616 (by decide +kernel) rfl
  · exact g_mem 50 (by decide +kernel) rfl
  · exact w_len_in
  · exact hw)
theorem m_gv_chat : GoodIn g_T (wsV (g_cn 0) 83 "java/lang/String" y_chat (w_chat :: g_T)) := fun w hw => g_good (by
  unfold wsV at hw
  simp only [List.cons_append, List.nil_append, List.mem_cons] at hw
  rcases hw with rfl | rfl | rfl | rfl | rfl | hw
  · exact g_mem 628 (by decide +kernel) rfl
  · exact g_mem 629 (by decide +kernel) rfl
  · exact g_mem 630 (by decide +kernel) rfl
  · exact g_mem 50 (by decide +kernel) rfl
  · exact w_chat_in
  · exact hw)
theorem j_pre2 {aK : Nat → Nat} {As : List Value} (hE : j_S aK aV A s s.heap) (hS : va_S A s.heap H locs) : ∀ U : State, U.heap = H → s.WarmedH U.vm → va_Pc As (fun U => j_S aK aV A U U.heap) As.toArray U := fun U hU hW => ⟨rfl, by show j_S aK aV A U U.heap; rw [hU]; exact (hE.kept hS.2.1).moved hW.alike⟩
theorem m_Str_ok (hx : p.tables.exec = Jvm.exec) (hb : c.code = g_B k) (hml : c.maxLocals = g_L k) (hown : s.vm.findClass (g_cn (g_O k)) = some m.cls) (hts : ∀ w ∈ g_T, w.before args s = true) (hSt : m_St D ad cA s) (hR : g_fr k ≤ R.frames ∧ g_lo k ≤ R.locals) (hcs : cells ≤ R.cells ∧ slots ≤ R.slots) (hE : j_S (fun j => ad (1000 + j)) aV A s s.heap) (hS : va_S A s.heap H locs) (hdec : decode (g_B k) pc = .ok (.invokevirtual x, 3)) (hl : lv_has la (g_L k) (ls.map (m_rl ad)))
    (h : m_Str k (g_find g_sps (g_O k) x) pc ls st μ K) (kk : ∀ {st' : List Value}, K (pc + 3) ls st' μ → W p l e R s m args below meth c H locs cells slots Z (F0 m (pc + 3) la (st'.map (m_rv ad)))) : W p l e R s m args below meth c H locs cells slots Z (F0 m pc la (st.map (m_rv ad))) := by
  unfold m_Str at h
  split at h
  next hf =>
    obtain ⟨q1, q2⟩ := m_sp4 _ (g_find_mem hf) rfl
    dsimp only at q1 q2
    subst q2
    rw [q1] at hown
    split at h
    next a r =>
      obtain ⟨⟨h1, h2, h3, h4, h5⟩, hK⟩ := h
      obtain ⟨j, rfl⟩ : ∃ j : Nat, a = 1000 + j := ⟨a - 1000, (Nat.add_sub_of_le h1).symm⟩
      have hj9 : j < 9 := Nat.lt_of_add_lt_add_left (show 1000 + j < 1000 + 9 from h2)
      have e9 : 1000 + j - 1000 = j := Nat.add_sub_cancel_left 1000 j
      rw [e9] at hK
      refine j_call (post := fun r => r = nI (g_sl.getD j 0)) (va_runV (C := "java/lang/String") (As := []) (rest := r.map (m_rv ad)) (b := ad (1000 + j)) ⟨hx, hb, hml, hown, hts⟩ (j_len l (fun j => ad (1000 + j)) aV A j hj9) (cwV 0 hts m_gv_len rfl rfl rfl (by decide +kernel) ⟨Nat.le_trans h4 hR.1, Nat.le_trans h5 hR.2⟩) ⟨j_blind, vk_recv (i := j) hE.1 hj9 hS, j_pre2 hE hS⟩ rfl rfl hl.1 ?_ ?_ hdec hcs) (fun r9 hr9 => ?_)
      · rfl
      · exact lv_room (by rw [m_cat_map]; exact h3)
      · subst hr9
        exact kk hK
    next => exact h.elim
  next hf =>
    obtain ⟨q1, q2⟩ := m_sp5 _ (g_find_mem hf) rfl
    dsimp only at q1 q2
    subst q2
    rw [q1] at hown
    split at h
    next i a r =>
      obtain ⟨⟨h1, h2, h6, h3, h4, h5⟩, hK⟩ := h
      obtain ⟨j, rfl⟩ : ∃ j : Nat, a = 1000 + j := ⟨a - 1000, (Nat.add_sub_of_le h1).symm⟩
      have hj9 : j < 9 := Nat.lt_of_add_lt_add_left (show 1000 + j < 1000 + 9 from h2)
      have e9 : 1000 + j - 1000 = j := Nat.add_sub_cancel_left 1000 j
      rw [e9] at h6 hK
      refine j_call (post := fun r => r = (g_sb.getD j []).getD i.toNatClampNeg 0) (va_runV (C := "java/lang/String") (As := [.int i]) (rest := r.map (m_rv ad)) (b := ad (1000 + j)) ⟨hx, hb, hml, hown, hts⟩ (j_chat l (fun j => ad (1000 + j)) aV A j hj9 i h6) (cwV 1 hts m_gv_chat rfl rfl rfl (by decide +kernel) ⟨Nat.le_trans h4 hR.1, Nat.le_trans h5 hR.2⟩) ⟨j_blind, vk_recv (i := j) hE.1 hj9 hS, j_pre2 hE hS⟩ rfl rfl hl.1 ?_ ?_ hdec hcs) (fun r9 hr9 => ?_)
      · rfl
      · exact lv_room (by rw [m_cat_map]; exact h3)
      · subst hr9
        exact kk hK
    next => exact h.elim
  next => exact h.elim
theorem m_Cpy_ok (hx : p.tables.exec = Jvm.exec) (hb : c.code = g_B k) (hml : c.maxLocals = g_L k) (hown : s.vm.findClass (g_cn (g_O k)) = some m.cls) (hts : ∀ w ∈ g_T, w.before args s = true) (hSt : m_St D ad cA s) (hR : g_fr k ≤ R.frames ∧ g_lo k ≤ R.locals) (hP : va_P D g_cls (m_ws ad cA μ) H) (hD : va_D A (m_ws ad cA μ)) (hS : va_S A s.heap H locs) (hdec : decode (g_B k) pc = .ok (.invokestatic x, 3)) (hl : lv_has la (g_L k) (ls.map (m_rl ad)))
    (h : m_Cpy k (g_find g_sps (g_O k) x) pc ls st μ K) (kk : ∀ {st' : List Value} {μ' : m_M} {H' : Heap} {locs' : List Loc}, K (pc + 3) ls st' μ' → va_P D g_cls (m_ws ad cA μ') H' → va_D A (m_ws ad cA μ') → va_S A s.heap H' locs' → W p l e R s m args below meth c H' locs' cells slots Z (F0 m (pc + 3) la (st'.map (m_rv ad)))) : W p l e R s m args below meth c H locs cells slots Z (F0 m pc la (st.map (m_rv ad))) := by
  unfold m_Cpy at h
  split at h
  next hf =>
    have hlk := hts _ (m_sp3 _ (g_find_mem hf) rfl)
    have hnat := hts (.native arraycopyName) (g_mem 735 (by decide +kernel) rfl)
    have hsta := hts (.static arraycopyName) (g_mem 734 (by decide +kernel) rfl)
    have hini := hts (.initialized "java/lang/System") (g_mem 54 (by decide +kernel) rfl)
    split at h
    next n dp d sp a r =>
      obtain ⟨⟨⟨h1, h2, h3⟩, h4, h5, h6, h7⟩, hK1, hK2⟩ := h
      by_cases ha2 : m_isa a 2 = true
      · obtain ⟨hd2, hK⟩ := hK1 ha2
        obtain ⟨a1, a2⟩ := m_isa_sp ha2
        obtain ⟨d1, d2⟩ := m_isa_sp hd2
        have he := m_ws_at (ad := ad) (cA := cA) (μ := μ) a2
        have he2 := m_ws_at (ad := ad) (cA := cA) (μ := μ) d2
        rw [m_ent_2 a1] at he
        rw [m_ent_2 d1] at he2
        have hset := m_ws_set (ad := ad) (cA := cA) (μ := μ) (μ' := (m_ci μ.1 d (va_cpy (μ.1 a) (μ.1 d) sp.toNatClampNeg dp.toNatClampNeg n.toNatClampNeg), μ.2)) d2 (fun b hb => m_ci_o hb) (fun _ _ => rfl)
        rw [m_ent_2 d1] at hset
        dsimp only at hset
        rw [m_ci_s] at hset
        have hK9 : va_K D g_cls [(cA a, .int), (cA d, .int)] s := (m_K1 hSt ((hSt.2.1 a a2).1 a1)).app (m_K1 hSt ((hSt.2.1 d d2).1 d1))
        refine va_copyi hx hb (hml.trans hl.1.symm) hown hlk hnat hsta hini hK9 hP hD hS a d 0 1 he he2 rfl rfl rfl h1 h2 h3 h4 h5 (fun _ _ => rfl) (Nat.le_trans h6 hR.1) (by rw [m_cat_map]; exact Nat.le_trans h7 hR.2) hdec (fun H1 locs1 q1 q2 q3 => ?_)
        rw [hset] at q1 q2
        exact kk hK q1 q2 q3
      · obtain ⟨ha4, hd4, hK⟩ := hK2 ha2
        obtain ⟨a1, a2⟩ := m_isa_sp ha4
        obtain ⟨d1, d2⟩ := m_isa_sp hd4
        have he := m_ws_at (ad := ad) (cA := cA) (μ := μ) a2
        have he2 := m_ws_at (ad := ad) (cA := cA) (μ := μ) d2
        rw [m_ent_4 a1] at he
        rw [m_ent_4 d1] at he2
        have hset := m_ws_set (ad := ad) (cA := cA) (μ := μ) (μ' := (μ.1, m_cj μ.2 d (va_cpy (μ.2 a) (μ.2 d) sp.toNatClampNeg dp.toNatClampNeg n.toNatClampNeg))) d2 (fun _ _ => rfl) (fun b hb => m_cj_o hb)
        rw [m_ent_4 d1] at hset
        dsimp only at hset
        rw [m_cj_s] at hset
        have hK9 : va_K D g_cls [(cA a, .long), (cA d, .long)] s := (m_K1 hSt ((hSt.2.1 a a2).2.2.1 a1)).app (m_K1 hSt ((hSt.2.1 d d2).2.2.1 d1))
        refine va_copyl hx hb (hml.trans hl.1.symm) hown hlk hnat hsta hini hK9 hP hD hS a d 0 1 he he2 rfl rfl rfl h1 h2 h3 h4 h5 (fun _ _ => rfl) (Nat.le_trans h6 hR.1) (by rw [m_cat_map]; exact Nat.le_trans h7 hR.2) hdec (fun H1 locs1 q1 q2 q3 => ?_)
        rw [hset] at q1 q2
        exact kk hK q1 q2 q3
    next => exact h.elim
  next => exact h.elim
end MZ
theorem m_ob_lt {a ci : Nat} (h : m_ob a ci = true) : ci < 8 := by
  obtain ⟨h1, rfl, h3⟩ := m_ob_sp h
  have : ∀ a, a < g_N → g_kd a = 1 → g_ar a < 8 := by decide +kernel
  exact this a h3 h1
/-! THE SMALL MACHINE IS SOUND: its states are closed under its steps -/
set_option maxHeartbeats 4000000 in
theorem m_X_clsd {l : Launch} {D : va_G} {ad aV : Nat → Nat} {cA : Nat → ClassId} : m_Clsd (m_X l D ad aV cA) := by
  refine ⟨?_, fun k pc ls ls' st μ Q hs h p e R s m args below meth c cells slots A Qc C hQ H locs la hl => h p e R s m args below meth c cells slots A Qc C hQ H locs la ⟨hl.1, hl.2.1, fun q hq => by
    obtain ⟨x, hx, rfl⟩ := List.mem_map.mp hq
    exact hl.2.2 _ (List.mem_map.mpr ⟨x, hs x hx, rfl⟩)⟩⟩
  intro k pc ls st μ Q h p e R s m args below meth c cells slots A Qc C hQ H locs la hl hP hD hS
  obtain ⟨hk, h⟩ := h
  have hk : k < 162 := hk
  obtain ⟨hx, hb, hr, hml, hown, hts, hlocks, hSt, hR, hcs, hA, hE⟩ := id C
  split at h
  next => 
    rename_i q hq
    obtain ⟨i, n⟩ := q
    obtain ⟨hdec, hj, hn⟩ := m_dec hk hq
    dsimp only at h
    unfold m_Sem at h
    have go : ∀ {pc' : Nat} {ls' : m_Ls} {st' : List Value} {μ' : m_M} {H' : Heap} {locs' : List Loc} {la' : Array Slot}, m_X l D ad aV cA k pc' ls' st' μ' Q → lv_has la' (g_L k) (ls'.map (m_rl ad)) → va_P D g_cls (m_ws ad cA μ') H' → va_D A (m_ws ad cA μ') → va_S A s.heap H' locs' → W p l e R s m args below meth c H' locs' cells slots (MQ below Qc args s cells slots A) (F0 m pc' la' (st'.map (m_rv ad))) := fun hX a b d f => hX p e R s m args below meth c cells slots A Qc C hQ _ _ _ a b d f
    have hA1 := m_A1 hD hS hA
    cases i
    case ifCond cd o =>
      obtain rfl : n = 3 := Nat.eq_of_beq_eq_true hn
      have hj0 : (0 : Int) ≤ (pc : Int) + o := of_decide_eq_true hj
      dsimp only at h
      split at h
      next =>
        cases cd
        case eq => exact lv_if_eq hx hb hdec (Int.toNat_of_nonneg hj0).symm (fun z => go (h.1 z) hl hP hD hS) (fun z => go (h.2 z) hl hP hD hS)
        case ne => exact lv_if_ne hx hb hdec (Int.toNat_of_nonneg hj0).symm (fun z => go (h.1 z) hl hP hD hS) (fun z => go (h.2 (fun y => y z)) hl hP hD hS)
        case lt => exact lv_if_lt hx hb hdec (Int.toNat_of_nonneg hj0).symm (fun z => go (h.1 z) hl hP hD hS) (fun z => go (h.2 z) hl hP hD hS)
        case ge => exact lv_if_ge hx hb hdec (Int.toNat_of_nonneg hj0).symm (fun z => go (h.1 z) hl hP hD hS) (fun z => go (h.2 z) hl hP hD hS)
        case gt => exact lv_if_gt hx hb hdec (Int.toNat_of_nonneg hj0).symm (fun z => go (h.1 z) hl hP hD hS) (fun z => go (h.2 z) hl hP hD hS)
        case le => exact lv_if_le hx hb hdec (Int.toNat_of_nonneg hj0).symm (fun z => go (h.1 z) hl hP hD hS) (fun z => go (h.2 z) hl hP hD hS)
      next => exact h.elim
    case if_icmp cd o =>
      obtain rfl : n = 3 := Nat.eq_of_beq_eq_true hn
      have hj0 : (0 : Int) ≤ (pc : Int) + o := of_decide_eq_true hj
      dsimp only at h
      split at h
      next =>
        cases cd
        case eq => exact lv_icmp_eq hx hb hdec (Int.toNat_of_nonneg hj0).symm (fun z => go (h.1 z) hl hP hD hS) (fun z => go (h.2 z) hl hP hD hS)
        case ne => exact lv_icmp_ne hx hb hdec (Int.toNat_of_nonneg hj0).symm (fun z => go (h.1 z) hl hP hD hS) (fun z => go (h.2 (fun y => y z)) hl hP hD hS)
        case lt => exact lv_icmp_lt hx hb hdec (Int.toNat_of_nonneg hj0).symm (fun z => go (h.1 z) hl hP hD hS) (fun z => go (h.2 z) hl hP hD hS)
        case ge => exact lv_icmp_ge hx hb hdec (Int.toNat_of_nonneg hj0).symm (fun z => go (h.1 z) hl hP hD hS) (fun z => go (h.2 z) hl hP hD hS)
        case gt => exact lv_icmp_gt hx hb hdec (Int.toNat_of_nonneg hj0).symm (fun z => go (h.1 z) hl hP hD hS) (fun z => go (h.2 z) hl hP hD hS)
        case le => exact lv_icmp_le hx hb hdec (Int.toNat_of_nonneg hj0).symm (fun z => go (h.1 z) hl hP hD hS) (fun z => go (h.2 z) hl hP hD hS)
      next => exact h.elim
    case tableswitch d lo hi os =>
      obtain ⟨hj1, hj2⟩ := Bool.and_eq_true_iff.mp hj
      obtain ⟨hj0, hj1⟩ := Bool.and_eq_true_iff.mp hj1
      have hj0 : (os.size : Int) = hi - lo + 1 := of_decide_eq_true hj0
      have hj1 : (0 : Int) ≤ (pc : Int) + d := of_decide_eq_true hj1
      dsimp only at h
      split at h
      next x r =>
        by_cases hout : x.toInt < lo ∨ hi < x.toInt
        · exact lv_tableOut hx hb hdec hout (Int.toNat_of_nonneg hj1).symm (go (h.1 hout) hl hP hD hS)
        · have h1 : ¬ x.toInt < lo := fun z => hout (Or.inl z)
          have h2 : ¬ hi < x.toInt := fun z => hout (Or.inr z)
          cases ho : os[(x.toInt - lo).toNat]? with
          | none =>
          have := Array.getElem?_eq_none_iff.mp ho
          omega
          | some o =>
            have hj3 : (0 : Int) ≤ (pc : Int) + o := of_decide_eq_true (List.all_eq_true.mp hj2 o (by rw [Array.getElem?_eq_some_iff] at ho; obtain ⟨q1, q2⟩ := ho; rw [← q2]; exact Array.getElem_mem_toList q1))
            exact lv_tableIn hx hb hdec h1 h2 ho (Int.toNat_of_nonneg hj3).symm (go (h.2 (x.toInt - lo).toNat o ho (by omega) (by omega)) hl hP hD hS)
      next => exact h.elim
    case idiv =>
      obtain rfl : n = 1 := Nat.eq_of_beq_eq_true hn
      dsimp only at h
      split at h
      next y x r => exact lv_idiv hx hb hdec h.1 (go h.2 hl hP hD hS)
      next => exact h.elim
    case irem =>
      obtain rfl : n = 1 := Nat.eq_of_beq_eq_true hn
      dsimp only at h
      split at h
      next y x r => exact lv_irem hx hb hdec h.1 (go h.2 hl hP hD hS)
      next => exact h.elim
    case ldiv =>
      obtain rfl : n = 1 := Nat.eq_of_beq_eq_true hn
      dsimp only at h
      split at h
      next y x r => exact lv_ldiv hx hb hdec h.1 (go h.2 hl hP hD hS)
      next => exact h.elim
    case iaload =>
      obtain rfl : n = 1 := Nat.eq_of_beq_eq_true hn
      dsimp only at h
      split at h
      next j a r =>
        obtain ⟨h0, h1, h2⟩ := h
        obtain ⟨k1, k2⟩ := m_isa_sp h0
        have he := m_ws_at (ad := ad) (cA := cA) (μ := μ) k2
        rw [m_ent_2 k1] at he
        exact va_iald hx hb (m_K1 hSt ((hSt.2.1 a k2).1 k1)) hP a 0 he rfl h1 hdec (go h2 hl hP hD hS)
      next => exact h.elim
    case caload =>
      obtain rfl : n = 1 := Nat.eq_of_beq_eq_true hn
      dsimp only at h
      split at h
      next j a r =>
        obtain ⟨h0, h1, h2⟩ := h
        obtain ⟨k1, k2⟩ := m_isa_sp h0
        have he := m_ws_at (ad := ad) (cA := cA) (μ := μ) k2
        rw [m_ent_3 k1] at he
        exact va_cald hx hb (m_K1 hSt ((hSt.2.1 a k2).2.1 k1)) hP a 0 he rfl h1 hdec (go h2 hl hP hD hS)
      next => exact h.elim
    case laload =>
      obtain rfl : n = 1 := Nat.eq_of_beq_eq_true hn
      dsimp only at h
      split at h
      next j a r =>
        obtain ⟨h0, h1, h2⟩ := h
        obtain ⟨k1, k2⟩ := m_isa_sp h0
        have he := m_ws_at (ad := ad) (cA := cA) (μ := μ) k2
        rw [m_ent_4 k1] at he
        exact va_lald hx hb (m_K1 hSt ((hSt.2.1 a k2).2.2.1 k1)) hP a 0 he rfl h1 hdec (go h2 hl hP hD hS)
      next => exact h.elim
    case aaload =>
      obtain rfl : n = 1 := Nat.eq_of_beq_eq_true hn
      dsimp only at h
      split at h
      next j a r =>
        obtain ⟨h0, h1, h2⟩ := h
        obtain ⟨k1, k2⟩ := m_isa_sp h0
        have he := m_ws_at (ad := ad) (cA := cA) (μ := μ) k2
        rw [m_ent_5 k1] at he
        exact va_aldq hx hb (m_K1 hSt ((hSt.2.1 a k2).2.2.2 k1)) hP a 0 he rfl h1 hdec (go h2 hl hP hD hS)
      next => exact h.elim
    case iastore =>
      obtain rfl : n = 1 := Nat.eq_of_beq_eq_true hn
      dsimp only at h
      split at h
      next v j a r =>
        obtain ⟨h0, h1, h2⟩ := h
        obtain ⟨k1, k2⟩ := m_isa_sp h0
        have he := m_ws_at (ad := ad) (cA := cA) (μ := μ) k2
        rw [m_ent_2 k1] at he
        have hset := m_ws_set (ad := ad) (cA := cA) (μ := μ) (μ' := (m_ui μ.1 a j.toNatClampNeg v, μ.2)) k2 (fun b hb => m_ui_o hb) (fun _ _ => rfl)
        rw [m_ent_2 k1] at hset
        dsimp only at hset
        rw [m_ui_s] at hset
        refine va_iast hx hb (m_K1 hSt ((hSt.2.1 a k2).1 k1)) hP hD hS a 0 he rfl h1 hdec (fun H1 locs1 q1 q2 q3 => ?_)
        rw [hset] at q1 q2
        exact go h2 hl q1 q2 q3
      next => exact h.elim
    case castore =>
      obtain rfl : n = 1 := Nat.eq_of_beq_eq_true hn
      dsimp only at h
      split at h
      next v j a r =>
        obtain ⟨h0, h1, h2⟩ := h
        obtain ⟨k1, k2⟩ := m_isa_sp h0
        have he := m_ws_at (ad := ad) (cA := cA) (μ := μ) k2
        rw [m_ent_3 k1] at he
        have hset := m_ws_set (ad := ad) (cA := cA) (μ := μ) (μ' := (m_ui μ.1 a j.toNatClampNeg (vp_nar .char v), μ.2)) k2 (fun b hb => m_ui_o hb) (fun _ _ => rfl)
        rw [m_ent_3 k1] at hset
        dsimp only at hset
        rw [m_ui_s] at hset
        refine va_cast hx hb (m_K1 hSt ((hSt.2.1 a k2).2.1 k1)) hP hD hS a 0 he rfl h1 hdec (fun H1 locs1 q1 q2 q3 => ?_)
        rw [hset] at q1 q2
        exact go h2 hl q1 q2 q3
      next => exact h.elim
    case lastore =>
      obtain rfl : n = 1 := Nat.eq_of_beq_eq_true hn
      dsimp only at h
      split at h
      next v j a r =>
        obtain ⟨h0, h1, h2⟩ := h
        obtain ⟨k1, k2⟩ := m_isa_sp h0
        have he := m_ws_at (ad := ad) (cA := cA) (μ := μ) k2
        rw [m_ent_4 k1] at he
        have hset := m_ws_set (ad := ad) (cA := cA) (μ := μ) (μ' := (μ.1, m_uj μ.2 a j.toNatClampNeg v)) k2 (fun _ _ => rfl) (fun b hb => m_uj_o hb)
        rw [m_ent_4 k1] at hset
        dsimp only at hset
        rw [m_uj_s] at hset
        refine va_last hx hb (m_K1 hSt ((hSt.2.1 a k2).2.2.1 k1)) hP hD hS a 0 he rfl h1 hdec (fun H1 locs1 q1 q2 q3 => ?_)
        rw [hset] at q1 q2
        exact go h2 hl q1 q2 q3
      next => exact h.elim
    case putfield x =>
      obtain rfl : n = 3 := Nat.eq_of_beq_eq_true hn
      dsimp only at h
      split at h
      next v a r f hf =>
        exact m_putf hx hb hown hts hSt hdec hl hP hD hS hf h.1 h.2.1 (fun H' locs' la' a b d f => go h.2.2 a b d f)
      next => exact h.elim
    case invokevirtual x =>
      obtain rfl : n = 3 := Nat.eq_of_beq_eq_true hn
      dsimp only at h
      split at h
      next f hf =>
        split at h
        next b r hdr =>
          obtain ⟨⟨g1, g2, g3, g4, g5, g6⟩, hX⟩ := h
          obtain ⟨hlt, hG⟩ := m_goodv hf
          obtain ⟨k1, k2, k3⟩ := m_ob_sp g2
          have hst : st = (st.take (g_na f)).reverse.reverse ++ .ref b :: r := by rw [List.reverse_reverse, ← hdr, List.take_append_drop]
          have hci : g_O f < 8 := m_ob_lt g2
          obtain ⟨C, T, ty, hcl, hcn, -⟩ := m_cls (g_O f) hci
          have he := m_ws_at (ad := ad) (cA := cA) (μ := μ) k3
          rw [m_ent_1 k1, k2] at he
          have hrc := va_recv hSt.1 hP hcl he
          have hcn2 : C = (g_Y f).cls := hcn.symm
          rw [hcn2] at hrc
          dsimp only at hrc
          refine m_call (va_runV (C := (g_Y f).cls) (As := ((st.take (g_na f)).reverse).map (m_rv ad)) (rest := r.map (m_rv ad)) (b := ad b) ⟨hx, hb, hml, hown, hts⟩ (m_met (sz := H.size) hlt g3 hX) (cwV (g_na f) hts hG rfl rfl rfl ⟨rfl, (g_plain f hlt).2⟩ ⟨Nat.le_trans g5 hR.1, Nat.le_trans g6 hR.2⟩) ⟨m_blind, hrc, m_pre hP hD hSt hS hA1 hE⟩ rfl ?_ hl.1 ?_ ?_ hdec hcs) hS hA1 hA1 (fun w μ' H1 locs1 q1 q2 q3 q4 q5 => ?_)
          · simp; omega
          · have hst2 := congrArg (List.map (m_rv ad)) hst
            rw [List.map_append, List.map_cons] at hst2
            rw [← List.map_reverse]
            exact hst2
          · exact lv_room (by rw [m_cat_map]; exact g4)
          · have z := go q2 hl q3 q4 q5
            rw [m_tl] at z
            exact z
        next => exact h.elim
      next => exact m_Str_ok hx hb hml hown hts hSt hR hcs hE hS hdec hl h (fun h2 => go h2 hl hP hD hS)
    case invokestatic x =>
      obtain rfl : n = 3 := Nat.eq_of_beq_eq_true hn
      dsimp only at h
      split at h
      next f hf =>
        obtain ⟨⟨g1, g3, g4, g5, g6⟩, hX⟩ := h
        obtain ⟨hlt, hG⟩ := m_goods hf
        have hst : st = (st.take (g_na f)).reverse.reverse ++ st.drop (g_na f) := by rw [List.reverse_reverse, List.take_append_drop]
        refine m_call (va_runS (As := ((st.take (g_na f)).reverse).map (m_rv ad)) (rest := (st.drop (g_na f)).map (m_rv ad)) ⟨hx, hb, hml, hown, hts⟩ (m_met (sz := H.size) hlt g3 hX) (va_cwS (g_na f) hts hG rfl rfl rfl (g_plain f hlt).2 ⟨Nat.le_trans g5 hR.1, Nat.le_trans g6 hR.2⟩) ⟨m_blind, m_pre hP hD hSt hS hA1 hE⟩ rfl ?_ hl.1 ?_ ?_ hdec hcs) hS hA1 hA1 (fun w μ' H1 locs1 q1 q2 q3 q4 q5 => ?_)
        · simp; omega
        · show st.map (m_rv ad) = _
          rw [← List.map_reverse, ← List.map_append, ← hst]
        · exact lv_room (by rw [m_cat_map]; exact g4)
        · have z := go q2 hl q3 q4 q5
          rw [m_tl] at z
          exact z
      next =>
        split at h
        next f hf =>
          have hm := g_find_mem hf
          obtain ⟨⟨g1, g3, g4, g5, g6⟩, hX⟩ := h
          have hlt : f < 162 := g_cnn_lt _ hm
          have hst : st = (st.take (g_na f)).reverse.reverse ++ st.drop (g_na f) := by rw [List.reverse_reverse, List.take_append_drop]
          refine m_call (va_runSN (host := g_R6) (As := ((st.take (g_na f)).reverse).map (m_rv ad)) (rest := (st.drop (g_na f)).map (m_rv ad)) ⟨hx, hb, hml, hown, hts⟩ (m_met (sz := H.size) hlt g3 hX) ⟨va_cnB (g_na f) hts (m_goodn hlt) rfl rfl rfl (hSt.2.2.1 _ hm) (hts _ (g_cnn_ini _ hm)) (g_plain f hlt).2 ⟨Nat.le_trans g5 hR.1, Nat.le_trans g6 hR.2⟩, hts _ (g_cnn_sta _ hm), trivial⟩ ⟨m_blind, m_pre hP hD hSt hS hA1 hE⟩ rfl ?_ hl.1 ?_ ?_ hdec hcs) hS hA1 hA1 (fun w μ' H1 locs1 q1 q2 q3 q4 q5 => ?_)
          · simp; omega
          · show st.map (m_rv ad) = _
            rw [← List.map_reverse, ← List.map_append, ← hst]
          · exact lv_room (by rw [m_cat_map]; exact g4)
          · have z := go q2 hl q3 q4 q5
            rw [m_tl] at z
            exact z
        next => exact m_Cpy_ok hx hb hml hown hts hSt hR hP hD hS hdec hl h (fun h2 a b d => go h2 hl a b d)
    case ireturn =>
      obtain rfl : n = 1 := Nat.eq_of_beq_eq_true hn
      dsimp only at h
      split at h
      next v ty hty =>
        rw [hty] at hr
        exact W.zret hx hb hr h.1.2 (fun t ht hW => hQ (some (.int v)) μ t (by rw [hty]; exact Or.inr ⟨h.1.1, v, rfl⟩) h.2 hW (by rw [ht]; exact hP) hD (hS.F ht)) hS.2.2 hdec hlocks
      next => exact h.elim
    case lreturn =>
      obtain rfl : n = 1 := Nat.eq_of_beq_eq_true hn
      dsimp only at h
      split at h
      next v =>
        exact W.lret hx hb (hr.trans h.1) (fun t ht hW => hQ (some (.long v)) μ t (by rw [h.1]; exact Or.inl ⟨rfl, v, rfl⟩) h.2 hW (by rw [ht]; exact hP) hD (hS.F ht)) hS.2.2 hdec hlocks
      next => exact h.elim
    case return_ =>
      obtain rfl : n = 1 := Nat.eq_of_beq_eq_true hn
      dsimp only at h
      split at h
      next =>
        exact W.vret hx hb (hr.trans h.1) (fun t ht hW => hQ none μ t (by rw [h.1]; rfl) h.2 hW (by rw [ht]; exact hP) hD (hS.F ht)) hS.2.2 hdec hlocks
      next => exact h.elim
    all_goals (
      dsimp only at h
      split at h
      next q9 hq9 => exact m_stp_ok hx hb hown hts hSt hdec hj hn hl hP hD hS hq9 (fun H' locs' la' a b d f => go h a b d f)
      next => exact h.elim)
  next => exact h.elim
/-- THE SMALL MACHINE IS SOUND -/
theorem m_sound {l : Launch} {D : va_G} {ad aV : Nat → Nat} {cA : Nat → ClassId} {f : Nat} {As : List Value} {μ : m_M} {Q : m_Q} {sz : Nat} (hf : f < 162) (hlen : (lg_sl As).length ≤ g_L f) (h : m_W f 0 (lv_args 0 As) [] μ Q) :
    Met l (g_Y f) (g_cw f :: g_T) (m_rm f) (m_Pc ad aV cA D As sz μ) (m_Qc ad cA D (va_A (m_ws ad cA μ) sz) (g_R f) Q) 0 0 (va_A (m_ws ad cA μ) sz) := m_met hf hlen (h _ m_X_mono m_X_clsd)
