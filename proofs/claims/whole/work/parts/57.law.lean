/-! THE LAW: its links -/
def k_law : List (Nat × Instr × Nat) := k_lw0 ++ (k_lw1 ++ (k_lw2 ++ (k_lw3 ++ (k_lw4 ++ (k_lw5)))))
theorem k_law_ok : k_law.all (g_chd code) = true := by
  unfold k_law
  rw [List.all_append, List.all_append, List.all_append, List.all_append, List.all_append]
  rw [k_lw0_ok, k_lw1_ok, k_lw2_ok, k_lw3_ok, k_lw4_ok, k_lw5_ok]
  rfl
theorem g_dech {bt : ByteArray} {pc n : Nat} {i : Instr} {ks : List (Nat × Instr × Nat)} (hk : ks.all (g_chd bt) = true) (h : m_look ks pc = some (i, n)) : decode bt pc = .ok (i, n) := by
  have hm : ∀ l : List (Nat × Instr × Nat), m_look l pc = some (i, n) → (pc, i, n) ∈ l := by
    intro l
    induction l with
    | nil => intro h; cases h
    | cons q r ih =>
      intro h
      unfold m_look at h
      split at h
      next hq =>
        have := Nat.eq_of_beq_eq_true hq
        obtain ⟨q1, q2⟩ := q
        cases h
        dsimp only at this
        subst this
        exact List.mem_cons_self
      next => exact List.mem_cons_of_mem _ (ih h)
  have h1 := List.all_eq_true.mp hk _ (hm _ h)
  exact of_decide_eq_true h1
theorem lw_dec {pc n : Nat} {i : Instr} (h : m_look k_law pc = some (i, n)) : decode code pc = .ok (i, n) := g_dech k_law_ok h
def lw_cvs : List (Nat × Nat) := [(13, 1), (18, 2), (23, 3), (28, 4), (33, 5), (39, 6), (44, 7), (49, 8), (53, 9), (57, 10), (62, 11), (66, 12), (70, 13), (74, 14), (79, 15), (83, 16), (87, 17), (91, 18), (95, 19), (99, 20), (103, 21), (107, 22), (111, 23), (115, 24), (119, 25), (123, 26), (127, 27), (131, 28), (135, 29), (139, 30), (144, 31), (17, 104), (22, 105), (27, 107), (32, 108), (36, 109), (43, 110), (48, 111), (52, 113), (56, 114), (61, 115), (65, 117), (69, 118), (73, 119), (78, 120), (82, 121), (86, 122), (90, 123), (94, 128), (98, 129), (102, 131), (106, 133), (110, 134), (114, 135), (118, 136), (122, 137), (126, 138), (130, 147), (134, 150), (138, 154), (143, 155), (147, 156)]
theorem lw_link : ∀ q ∈ lw_cvs, Cond.methodLink R_law q.1 (g_Y q.2) ∈ g_T := fun q hq => g_memL (ws := lw_cvs.map (fun q => Cond.methodLink R_law q.1 (g_Y q.2))) [302, 322, 334, 351, 371, 375, 380, 384, 400, 404, 411, 428, 432, 450, 455, 459, 468, 490, 521, 525, 534, 563, 568, 572, 581, 589, 593, 689, 709, 742, 750, 852, 869, 878, 890, 904, 909, 914, 918, 933, 939, 945, 955, 959, 967, 971, 975, 979, 984, 1006, 1010, 1018, 1026, 1030, 1034, 1040, 1046, 1050, 1087, 1104, 1120, 1124] (by decide +kernel) (by decide +kernel) _ (List.mem_map_of_mem hq)
theorem lw_ini : ∀ q ∈ lw_cvs, Cond.initialized (g_Y q.2).cls ∈ g_T := fun q hq => g_memL (ws := lw_cvs.map (fun q => Cond.initialized (g_Y q.2).cls)) [41, 41, 41, 41, 41, 41, 41, 41, 41, 41, 41, 41, 41, 41, 41, 41, 41, 41, 41, 41, 41, 41, 41, 41, 41, 41, 41, 41, 41, 41, 41, 48, 48, 48, 48, 48, 48, 48, 48, 48, 48, 48, 48, 48, 48, 48, 48, 48, 48, 48, 48, 48, 48, 48, 48, 48, 48, 48, 48, 48, 48, 48] (by decide +kernel) (by decide +kernel) _ (List.mem_map_of_mem hq)
theorem lw_ins : ∀ q ∈ lw_cvs, Cond.instanceMethod (g_Y q.2) ∈ g_T := fun q hq => g_memL (ws := lw_cvs.map (fun q => Cond.instanceMethod (g_Y q.2))) [303, 323, 335, 352, 372, 376, 381, 385, 401, 405, 412, 429, 433, 451, 456, 460, 469, 491, 522, 526, 535, 564, 569, 573, 582, 590, 594, 690, 710, 743, 751, 853, 870, 879, 891, 905, 910, 915, 919, 934, 940, 946, 956, 960, 968, 972, 976, 980, 985, 1007, 1011, 1019, 1027, 1031, 1035, 1041, 1047, 1051, 1088, 1105, 1121, 1125] (by decide +kernel) (by decide +kernel) _ (List.mem_map_of_mem hq)
theorem lw_sel : ∀ q ∈ lw_cvs, Cond.selects (g_Y q.2).cls (g_Y q.2) (g_Y q.2) ∈ g_T := fun q hq => g_memL (ws := lw_cvs.map (fun q => Cond.selects (g_Y q.2).cls (g_Y q.2) (g_Y q.2))) [304, 324, 336, 353, 373, 377, 382, 386, 402, 406, 413, 430, 434, 452, 457, 461, 470, 492, 523, 527, 536, 565, 570, 574, 583, 591, 595, 691, 711, 744, 752, 854, 871, 880, 892, 906, 911, 916, 920, 935, 941, 947, 957, 961, 969, 973, 977, 981, 986, 1008, 1012, 1020, 1028, 1032, 1036, 1042, 1048, 1052, 1089, 1106, 1122, 1126] (by decide +kernel) (by decide +kernel) _ (List.mem_map_of_mem hq)
/-- what a call of the law needs of a method, all decided -/
def lw_ok (f : Nat) (na : Nat) (sl : Nat) (b : Nat) : Bool := Nat.blt f 162 && Nat.ble sl (g_L f) && Nat.beq na (g_na f) && m_ob b (g_O f) && Nat.ble (g_fr f + 1) 12 && Nat.ble (8 + (g_L f + 11) + g_lo f) 430
theorem lw_goodv {idx f : Nat} (h : (idx, f) ∈ lw_cvs) (hf : f < 162) : GoodIn g_T (wsV R_law idx (g_Y f).cls (g_Y f) (g_cw f :: g_T)) := fun w hw => g_good (by
  unfold wsV at hw
  simp only [List.cons_append, List.nil_append, List.mem_cons] at hw
  rcases hw with rfl | rfl | rfl | rfl | rfl | hw
  · exact lw_link _ h
  · exact lw_ins _ h
  · exact lw_sel _ h
  · exact lw_ini _ h
  · exact g_cw_in f hf
  · exact hw)
theorem m_sh_i {r : g_RT} {v : Option Value} (h : m_sh r v) (hr : r = some .int) : ∃ x, v = some (.int x) := by
  subst hr
  rcases h with h | h
  · exact absurd h.1 (by decide)
  · exact h.2
theorem m_sh_l {r : g_RT} {v : Option Value} (h : m_sh r v) (hr : r = some .long) : ∃ x, v = some (.long x) := by
  subst hr
  rcases h with h | h
  · exact h.2
  · exact absurd rfl h.1
section LWC
variable {p : Program} {l : Launch} {e : Env} {s : State} {m : MethodId} {below : List Frame} {meth : Method} {c : Code} {H : Heap} {locs : List Loc} {cells slots : Nat}
variable {D : va_G} {ad aV : Nat → Nat} {cA : Nat → ClassId} {pc : Nat} {μ : m_M} {la : Array Slot} {b0 L : Nat} {xs : Nat → Int32}
abbrev lw_A (s : State) : Nat → Prop := fun q => s.heap.size ≤ q
theorem lw_cv {f idx b sl : Nat} {As rest st0 : List Value} {Q : m_Q} {Z : State → Prop} (C0 : lw_At p s m meth c b0 L xs) (hSt : m_St D ad cA s) (hE : j_S (fun j => ad (1000 + j)) aV (lw_A s) s s.heap) (hcs : cells ≤ 600000 ∧ slots ≤ 7302250) (hla : la.size = 4) (hmem : (idx, f) ∈ lw_cvs) (hsl : (lg_sl (.ref b :: As)).length = sl) (hok : lw_ok f As.length sl b = true) (hcat : m_cat rest ≤ 8) (hst : st0 = (As.map (m_rv ad)).reverse ++ .ref (ad b) :: rest.map (m_rv ad)) (hdec : decode code pc = .ok (.invokevirtual idx, 3))
    (hP : va_P D g_cls (m_ws ad cA μ) H) (hD : va_D (lw_A s) (m_ws ad cA μ)) (hS : va_S (lw_A s) s.heap H locs) (h : m_W f 0 (lv_args 0 (.ref b :: As)) [] μ Q)
    (kk : ∀ (w : Option Value) (μ' : m_M) (H1 : Heap) (locs1 : List Loc), m_sh (g_R f) w → Q w μ' → va_P D g_cls (m_ws ad cA μ') H1 → va_D (lw_A s) (m_ws ad cA μ') → va_S (lw_A s) s.heap H1 locs1 → W p l e room_1 s m #[Value.ref b0] below meth c H1 locs1 cells slots Z (F0 m (pc + 3) la ((w.map (m_rv ad)).toList ++ rest.map (m_rv ad)))) : W p l e room_1 s m #[Value.ref b0] below meth c H locs cells slots Z (F0 m pc la st0) := by
  obtain ⟨hx, hb, hr, hml, hown, hts, hX, hbl, hlocks, hgv⟩ := C0
  unfold lw_ok at hok
  simp only [Bool.and_eq_true] at hok
  obtain ⟨⟨⟨⟨⟨o1, o2⟩, o3⟩, o4⟩, o5⟩, o6⟩ := hok
  have hlt : f < 162 := Nat.le_of_ble_eq_true o1
  have hlen : (lg_sl (.ref b :: As)).length ≤ g_L f := by rw [hsl]; exact Nat.le_of_ble_eq_true o2
  have hna : As.length = g_na f := Nat.eq_of_beq_eq_true o3
  obtain ⟨k1, k2, k3⟩ := m_ob_sp o4
  have hci : g_O f < 8 := m_ob_lt o4
  obtain ⟨C, T, ty, hcl, hcn, -⟩ := m_cls (g_O f) hci
  have he := m_ws_at (ad := ad) (cA := cA) (μ := μ) k3
  rw [m_ent_1 k1, k2] at he
  have hrc := va_recv hSt.1 hP hcl he
  have hcn2 : C = (g_Y f).cls := hcn.symm
  rw [hcn2] at hrc
  dsimp only at hrc
  have hA1 := m_A1 hD hS (fun q h => h)
  have hml4 : c.maxLocals = 4 := hml
  refine m_call (va_runV (C := (g_Y f).cls) (As := As.map (m_rv ad)) (rest := rest.map (m_rv ad)) (b := ad b) ⟨hx, hb, hml, hown, g_sub hts⟩ (m_sound (sz := H.size) hlt hlen h) (cwV (g_na f) (g_sub hts) (lw_goodv hmem hlt) rfl rfl rfl ⟨rfl, (g_plain f hlt).2⟩ ⟨Nat.le_of_ble_eq_true o5, Nat.le_of_ble_eq_true o6⟩) ⟨m_blind, hrc, m_pre hP hD hSt hS hA1 hE⟩ rfl ?_ hla ?_ ?_ hdec hcs) hS hA1 hA1 kk
  · rw [List.length_map]; exact hna
  · exact hst
  · exact lv_room (by rw [m_cat_map]; exact hcat)
theorem lw_and (x : Int32) : ∃ k, k < 32 ∧ x &&& 31 = nI k := by
  refine ⟨(x.toBitVec &&& 31#32).toNat, ?_, ?_⟩
  · rw [BitVec.toNat_and]
    have := Nat.and_le_right (n := x.toBitVec.toNat) (m := (31#32).toNat)
    have e : (31#32 : BitVec 32).toNat = 31 := rfl
    omega
  · apply Int32.toBitVec_inj.mp
    show x.toBitVec &&& 31#32 = BitVec.ofNat 32 _
    rw [BitVec.ofNat_toNat, BitVec.setWidth_eq]
theorem lw_lim {i : Nat} (hL : L ≤ 2048) (hi : i ≤ 3000) : (Int32.ofNat L - 4 < nI i) ↔ L < i + 4 := by
  have e : (Int32.ofNat L).toInt = (L : Int) := nI_toInt (by omega)
  rw [Int32.lt_iff_toInt_lt, w_sub, nI_toInt (by omega), e, show (4 : Int32).toInt = 4 from rfl]
  · omega
  · rw [e, show (4 : Int32).toInt = 4 from rfl]; omega
  · rw [e, show (4 : Int32).toInt = 4 from rfl]; omega
end LWC
