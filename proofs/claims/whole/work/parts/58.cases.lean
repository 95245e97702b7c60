/-! THE LAW: its cases -/
section CS
variable {p : Program} {l : Launch} {e : Env} {s : State} {m : MethodId} {below : List Frame} {meth : Method} {c : Code} {cells slots : Nat}
variable {D : va_G} {ad aV : Nat → Nat} {cA : Nat → ClassId} {b L : Nat} {xs : Nat → Int32}
set_option maxRecDepth 100000 in
theorem lw_c0 (hL : L ≤ 2048) (C0 : lw_At p s m meth c b L xs) (hSt : m_St D ad cA s) (hE : j_S (fun j => ad (1000 + j)) aV (lw_A s) s s.heap) (hcs : cells ≤ 600000 ∧ slots ≤ 7302250) {i : Nat} (hi : i + 3 < L) {μ : m_M} {H : Heap} {locs : List Loc} {ls : Array Slot} (hZ : Z μ) (hP : va_P D g_cls (m_ws ad cA μ) H) (hD : va_D (lw_A s) (m_ws ad cA μ)) (hS : va_S (lw_A s) s.heap H locs) (hl : lv_has ls 4 [(0, .ref b), (1, .ref (ad 0)), (2, .ref (ad 77)), (3, .int (nI i))]) (nx : ∀ (μ2 : m_M) (H2 : Heap) (locs2 : List Loc), Z μ2 → va_P D g_cls (m_ws ad cA μ2) H2 → va_D (lw_A s) (m_ws ad cA μ2) → va_S (lw_A s) s.heap H2 locs2 → W p l e room_1 s m #[Value.ref b] below meth c H2 locs2 cells slots (lw_Z below #[Value.ref b] s) (F0 m 984 ls [])) : W p l e room_1 s m #[Value.ref b] below meth c H locs cells slots (lw_Z below #[Value.ref b] s) (F0 m 172 ls []) := by
  obtain ⟨hx, hb, hr, hml, hown, hts, hX, hbl, hlocks, hgv⟩ := id C0
  have hbA : ¬ lw_A s b := Nat.not_le.mpr hbl
  have h1 : vp_in (nI i + 1) L := by rw [show nI i + (1 : Int32) = nI (i + 1) from nI_add i 1]; exact vp_in_nI (by omega) (by omega)
  have h2 : vp_in (nI i + 2) L := by rw [show nI i + (2 : Int32) = nI (i + 2) from nI_add i 2]; exact vp_in_nI (by omega) (by omega)
  have h3 : vp_in (nI i + 3) L := by rw [show nI i + (3 : Int32) = nI (i + 3) from nI_add i 3]; exact vp_in_nI (by omega) (by omega)
  refine lv_aload_n hx hb (lw_dec rfl) rfl (lv_at hl 1 rfl) ?_
  refine lv_aload_n hx hb (lw_dec rfl) rfl (lv_at hl 0 rfl) ?_
  refine lv_iload_n hx hb (lw_dec rfl) rfl (lv_at hl 3 rfl) ?_
  refine lv_iconst (v := 1) hx hb (lw_dec rfl) (by decide) ?_
  refine lv_iadd hx hb (lw_dec rfl) ?_
  refine va_sld hx hb hX hbl hbA hS h1 (lw_dec rfl) ?_
  refine lv_aload_n hx hb (lw_dec rfl) rfl (lv_at hl 0 rfl) ?_
  refine lv_iload_n hx hb (lw_dec rfl) rfl (lv_at hl 3 rfl) ?_
  refine lv_iconst (v := 2) hx hb (lw_dec rfl) (by decide) ?_
  refine lv_iadd hx hb (lw_dec rfl) ?_
  refine va_sld hx hb hX hbl hbA hS h2 (lw_dec rfl) ?_
  refine lw_cv (f := 1) (idx := 13) (b := 0) (sl := 3) (As := [.int (xs (nI i + 1).toNatClampNeg), .int (xs (nI i + 2).toNatClampNeg)]) (rest := []) C0 hSt hE hcs hl.1 (by decide) rfl rfl (Nat.le_of_ble_eq_true rfl) rfl (lw_dec rfl) hP hD hS (z_addTank ((xs (nI i + 1).toNatClampNeg)) ((xs (nI i + 2).toNatClampNeg)) μ hZ) (fun w0 μ1 H locs hsh hq hP hD hS => ?_)
  obtain ⟨x0, rfl⟩ := m_sh_i hsh rfl
  show W p l e room_1 s m #[Value.ref b] below meth c H locs cells slots (lw_Z below #[Value.ref b] s) (F0 m 186 ls [.int x0])
  refine lv_aload_n hx hb (lw_dec rfl) rfl (lv_at hl 2 rfl) ?_
  refine lv_aload_n hx hb (lw_dec rfl) rfl (lv_at hl 0 rfl) ?_
  refine lv_iload_n hx hb (lw_dec rfl) rfl (lv_at hl 3 rfl) ?_
  refine lv_iconst (v := 1) hx hb (lw_dec rfl) (by decide) ?_
  refine lv_iadd hx hb (lw_dec rfl) ?_
  refine va_sld hx hb hX hbl hbA hS h1 (lw_dec rfl) ?_
  refine lv_aload_n hx hb (lw_dec rfl) rfl (lv_at hl 0 rfl) ?_
  refine lv_iload_n hx hb (lw_dec rfl) rfl (lv_at hl 3 rfl) ?_
  refine lv_iconst (v := 2) hx hb (lw_dec rfl) (by decide) ?_
  refine lv_iadd hx hb (lw_dec rfl) ?_
  refine va_sld hx hb hX hbl hbA hS h2 (lw_dec rfl) ?_
  refine lw_cv (f := 104) (idx := 17) (b := 77) (sl := 3) (As := [.int (xs (nI i + 1).toNatClampNeg), .int (xs (nI i + 2).toNatClampNeg)]) (rest := [.int x0]) C0 hSt hE hcs hl.1 (by decide) rfl rfl (Nat.le_of_ble_eq_true rfl) rfl (lw_dec rfl) hP hD hS hq (fun w1 μ2 H locs hsh hq hP hD hS => ?_)
  obtain ⟨rfl, hZ2⟩ := hq
  show W p l e room_1 s m #[Value.ref b] below meth c H locs cells slots (lw_Z below #[Value.ref b] s) (F0 m 200 ls [.int x0, .int x0])
  refine lv_icmp_eq (tgt := 984) hx hb (lw_dec rfl) (by decide) (fun _ => ?_) (fun q => absurd rfl q)
  exact nx _ _ _ hZ2 hP hD hS
set_option maxRecDepth 100000 in
theorem lw_c1 (hL : L ≤ 2048) (C0 : lw_At p s m meth c b L xs) (hSt : m_St D ad cA s) (hE : j_S (fun j => ad (1000 + j)) aV (lw_A s) s s.heap) (hcs : cells ≤ 600000 ∧ slots ≤ 7302250) {i : Nat} (hi : i + 3 < L) {μ : m_M} {H : Heap} {locs : List Loc} {ls : Array Slot} (hZ : Z μ) (hP : va_P D g_cls (m_ws ad cA μ) H) (hD : va_D (lw_A s) (m_ws ad cA μ)) (hS : va_S (lw_A s) s.heap H locs) (hl : lv_has ls 4 [(0, .ref b), (1, .ref (ad 0)), (2, .ref (ad 77)), (3, .int (nI i))]) (nx : ∀ (μ2 : m_M) (H2 : Heap) (locs2 : List Loc), Z μ2 → va_P D g_cls (m_ws ad cA μ2) H2 → va_D (lw_A s) (m_ws ad cA μ2) → va_S (lw_A s) s.heap H2 locs2 → W p l e room_1 s m #[Value.ref b] below meth c H2 locs2 cells slots (lw_Z below #[Value.ref b] s) (F0 m 984 ls [])) : W p l e room_1 s m #[Value.ref b] below meth c H locs cells slots (lw_Z below #[Value.ref b] s) (F0 m 205 ls []) := by
  obtain ⟨hx, hb, hr, hml, hown, hts, hX, hbl, hlocks, hgv⟩ := id C0
  have hbA : ¬ lw_A s b := Nat.not_le.mpr hbl
  have h1 : vp_in (nI i + 1) L := by rw [show nI i + (1 : Int32) = nI (i + 1) from nI_add i 1]; exact vp_in_nI (by omega) (by omega)
  have h2 : vp_in (nI i + 2) L := by rw [show nI i + (2 : Int32) = nI (i + 2) from nI_add i 2]; exact vp_in_nI (by omega) (by omega)
  have h3 : vp_in (nI i + 3) L := by rw [show nI i + (3 : Int32) = nI (i + 3) from nI_add i 3]; exact vp_in_nI (by omega) (by omega)
  refine lv_aload_n hx hb (lw_dec rfl) rfl (lv_at hl 1 rfl) ?_
  refine lv_aload_n hx hb (lw_dec rfl) rfl (lv_at hl 0 rfl) ?_
  refine lv_iload_n hx hb (lw_dec rfl) rfl (lv_at hl 3 rfl) ?_
  refine lv_iconst (v := 1) hx hb (lw_dec rfl) (by decide) ?_
  refine lv_iadd hx hb (lw_dec rfl) ?_
  refine va_sld hx hb hX hbl hbA hS h1 (lw_dec rfl) ?_
  refine lv_aload_n hx hb (lw_dec rfl) rfl (lv_at hl 0 rfl) ?_
  refine lv_iload_n hx hb (lw_dec rfl) rfl (lv_at hl 3 rfl) ?_
  refine lv_iconst (v := 2) hx hb (lw_dec rfl) (by decide) ?_
  refine lv_iadd hx hb (lw_dec rfl) ?_
  refine va_sld hx hb hX hbl hbA hS h2 (lw_dec rfl) ?_
  refine lv_aload_n hx hb (lw_dec rfl) rfl (lv_at hl 0 rfl) ?_
  refine lv_iload_n hx hb (lw_dec rfl) rfl (lv_at hl 3 rfl) ?_
  refine lv_iconst (v := 3) hx hb (lw_dec rfl) (by decide) ?_
  refine lv_iadd hx hb (lw_dec rfl) ?_
  refine va_sld hx hb hX hbl hbA hS h3 (lw_dec rfl) ?_
  refine lw_cv (f := 2) (idx := 18) (b := 0) (sl := 4) (As := [.int (xs (nI i + 1).toNatClampNeg), .int (xs (nI i + 2).toNatClampNeg), .int (xs (nI i + 3).toNatClampNeg)]) (rest := []) C0 hSt hE hcs hl.1 (by decide) rfl rfl (Nat.le_of_ble_eq_true rfl) rfl (lw_dec rfl) hP hD hS (z_addPoint ((xs (nI i + 1).toNatClampNeg)) ((xs (nI i + 2).toNatClampNeg)) ((xs (nI i + 3).toNatClampNeg)) μ hZ) (fun w0 μ1 H locs hsh hq hP hD hS => ?_)
  obtain ⟨x0, rfl⟩ := m_sh_i hsh rfl
  show W p l e room_1 s m #[Value.ref b] below meth c H locs cells slots (lw_Z below #[Value.ref b] s) (F0 m 224 ls [.int x0])
  refine lv_aload_n hx hb (lw_dec rfl) rfl (lv_at hl 2 rfl) ?_
  refine lv_aload_n hx hb (lw_dec rfl) rfl (lv_at hl 0 rfl) ?_
  refine lv_iload_n hx hb (lw_dec rfl) rfl (lv_at hl 3 rfl) ?_
  refine lv_iconst (v := 1) hx hb (lw_dec rfl) (by decide) ?_
  refine lv_iadd hx hb (lw_dec rfl) ?_
  refine va_sld hx hb hX hbl hbA hS h1 (lw_dec rfl) ?_
  refine lv_aload_n hx hb (lw_dec rfl) rfl (lv_at hl 0 rfl) ?_
  refine lv_iload_n hx hb (lw_dec rfl) rfl (lv_at hl 3 rfl) ?_
  refine lv_iconst (v := 2) hx hb (lw_dec rfl) (by decide) ?_
  refine lv_iadd hx hb (lw_dec rfl) ?_
  refine va_sld hx hb hX hbl hbA hS h2 (lw_dec rfl) ?_
  refine lv_aload_n hx hb (lw_dec rfl) rfl (lv_at hl 0 rfl) ?_
  refine lv_iload_n hx hb (lw_dec rfl) rfl (lv_at hl 3 rfl) ?_
  refine lv_iconst (v := 3) hx hb (lw_dec rfl) (by decide) ?_
  refine lv_iadd hx hb (lw_dec rfl) ?_
  refine va_sld hx hb hX hbl hbA hS h3 (lw_dec rfl) ?_
  refine lw_cv (f := 105) (idx := 22) (b := 77) (sl := 4) (As := [.int (xs (nI i + 1).toNatClampNeg), .int (xs (nI i + 2).toNatClampNeg), .int (xs (nI i + 3).toNatClampNeg)]) (rest := [.int x0]) C0 hSt hE hcs hl.1 (by decide) rfl rfl (Nat.le_of_ble_eq_true rfl) rfl (lw_dec rfl) hP hD hS hq (fun w1 μ2 H locs hsh hq hP hD hS => ?_)
  obtain ⟨rfl, hZ2⟩ := hq
  show W p l e room_1 s m #[Value.ref b] below meth c H locs cells slots (lw_Z below #[Value.ref b] s) (F0 m 243 ls [.int x0, .int x0])
  refine lv_icmp_eq (tgt := 984) hx hb (lw_dec rfl) (by decide) (fun _ => ?_) (fun q => absurd rfl q)
  exact nx _ _ _ hZ2 hP hD hS
set_option maxRecDepth 100000 in
theorem lw_c2 (hL : L ≤ 2048) (C0 : lw_At p s m meth c b L xs) (hSt : m_St D ad cA s) (hE : j_S (fun j => ad (1000 + j)) aV (lw_A s) s s.heap) (hcs : cells ≤ 600000 ∧ slots ≤ 7302250) {i : Nat} (hi : i + 3 < L) {μ : m_M} {H : Heap} {locs : List Loc} {ls : Array Slot} (hZ : Z μ) (hP : va_P D g_cls (m_ws ad cA μ) H) (hD : va_D (lw_A s) (m_ws ad cA μ)) (hS : va_S (lw_A s) s.heap H locs) (hl : lv_has ls 4 [(0, .ref b), (1, .ref (ad 0)), (2, .ref (ad 77)), (3, .int (nI i))]) (nx : ∀ (μ2 : m_M) (H2 : Heap) (locs2 : List Loc), Z μ2 → va_P D g_cls (m_ws ad cA μ2) H2 → va_D (lw_A s) (m_ws ad cA μ2) → va_S (lw_A s) s.heap H2 locs2 → W p l e room_1 s m #[Value.ref b] below meth c H2 locs2 cells slots (lw_Z below #[Value.ref b] s) (F0 m 984 ls [])) : W p l e room_1 s m #[Value.ref b] below meth c H locs cells slots (lw_Z below #[Value.ref b] s) (F0 m 248 ls []) := by
  obtain ⟨hx, hb, hr, hml, hown, hts, hX, hbl, hlocks, hgv⟩ := id C0
  have hbA : ¬ lw_A s b := Nat.not_le.mpr hbl
  have h1 : vp_in (nI i + 1) L := by rw [show nI i + (1 : Int32) = nI (i + 1) from nI_add i 1]; exact vp_in_nI (by omega) (by omega)
  have h2 : vp_in (nI i + 2) L := by rw [show nI i + (2 : Int32) = nI (i + 2) from nI_add i 2]; exact vp_in_nI (by omega) (by omega)
  have h3 : vp_in (nI i + 3) L := by rw [show nI i + (3 : Int32) = nI (i + 3) from nI_add i 3]; exact vp_in_nI (by omega) (by omega)
  refine lv_aload_n hx hb (lw_dec rfl) rfl (lv_at hl 1 rfl) ?_
  refine lv_aload_n hx hb (lw_dec rfl) rfl (lv_at hl 0 rfl) ?_
  refine lv_iload_n hx hb (lw_dec rfl) rfl (lv_at hl 3 rfl) ?_
  refine lv_iconst (v := 1) hx hb (lw_dec rfl) (by decide) ?_
  refine lv_iadd hx hb (lw_dec rfl) ?_
  refine va_sld hx hb hX hbl hbA hS h1 (lw_dec rfl) ?_
  refine lv_aload_n hx hb (lw_dec rfl) rfl (lv_at hl 0 rfl) ?_
  refine lv_iload_n hx hb (lw_dec rfl) rfl (lv_at hl 3 rfl) ?_
  refine lv_iconst (v := 2) hx hb (lw_dec rfl) (by decide) ?_
  refine lv_iadd hx hb (lw_dec rfl) ?_
  refine va_sld hx hb hX hbl hbA hS h2 (lw_dec rfl) ?_
  refine lw_cv (f := 3) (idx := 23) (b := 0) (sl := 3) (As := [.int (xs (nI i + 1).toNatClampNeg), .int (xs (nI i + 2).toNatClampNeg)]) (rest := []) C0 hSt hE hcs hl.1 (by decide) rfl rfl (Nat.le_of_ble_eq_true rfl) rfl (lw_dec rfl) hP hD hS (z_volume ((xs (nI i + 1).toNatClampNeg)) ((xs (nI i + 2).toNatClampNeg)) μ hZ) (fun w0 μ1 H locs hsh hq hP hD hS => ?_)
  obtain ⟨x0, rfl⟩ := m_sh_l hsh rfl
  show W p l e room_1 s m #[Value.ref b] below meth c H locs cells slots (lw_Z below #[Value.ref b] s) (F0 m 262 ls [.long x0])
  refine lv_aload_n hx hb (lw_dec rfl) rfl (lv_at hl 2 rfl) ?_
  refine lv_aload_n hx hb (lw_dec rfl) rfl (lv_at hl 0 rfl) ?_
  refine lv_iload_n hx hb (lw_dec rfl) rfl (lv_at hl 3 rfl) ?_
  refine lv_iconst (v := 1) hx hb (lw_dec rfl) (by decide) ?_
  refine lv_iadd hx hb (lw_dec rfl) ?_
  refine va_sld hx hb hX hbl hbA hS h1 (lw_dec rfl) ?_
  refine lv_aload_n hx hb (lw_dec rfl) rfl (lv_at hl 0 rfl) ?_
  refine lv_iload_n hx hb (lw_dec rfl) rfl (lv_at hl 3 rfl) ?_
  refine lv_iconst (v := 2) hx hb (lw_dec rfl) (by decide) ?_
  refine lv_iadd hx hb (lw_dec rfl) ?_
  refine va_sld hx hb hX hbl hbA hS h2 (lw_dec rfl) ?_
  refine lw_cv (f := 107) (idx := 27) (b := 77) (sl := 3) (As := [.int (xs (nI i + 1).toNatClampNeg), .int (xs (nI i + 2).toNatClampNeg)]) (rest := [.long x0]) C0 hSt hE hcs hl.1 (by decide) rfl rfl (Nat.le_of_ble_eq_true rfl) rfl (lw_dec rfl) hP hD hS hq (fun w1 μ2 H locs hsh hq hP hD hS => ?_)
  obtain ⟨rfl, hZ2⟩ := hq
  show W p l e room_1 s m #[Value.ref b] below meth c H locs cells slots (lw_Z below #[Value.ref b] s) (F0 m 276 ls [.long x0, .long x0])
  refine W.lcmp hx hb (lw_dec rfl) ?_
  refine lv_if_eq (tgt := 984) hx hb (lw_dec rfl) (by decide) (fun _ => ?_) (fun q => absurd (lc_eq.mpr rfl) q)
  exact nx _ _ _ hZ2 hP hD hS
set_option maxRecDepth 100000 in
theorem lw_c3 (hL : L ≤ 2048) (C0 : lw_At p s m meth c b L xs) (hSt : m_St D ad cA s) (hE : j_S (fun j => ad (1000 + j)) aV (lw_A s) s s.heap) (hcs : cells ≤ 600000 ∧ slots ≤ 7302250) {i : Nat} (hi : i + 3 < L) {μ : m_M} {H : Heap} {locs : List Loc} {ls : Array Slot} (hZ : Z μ) (hP : va_P D g_cls (m_ws ad cA μ) H) (hD : va_D (lw_A s) (m_ws ad cA μ)) (hS : va_S (lw_A s) s.heap H locs) (hl : lv_has ls 4 [(0, .ref b), (1, .ref (ad 0)), (2, .ref (ad 77)), (3, .int (nI i))]) (nx : ∀ (μ2 : m_M) (H2 : Heap) (locs2 : List Loc), Z μ2 → va_P D g_cls (m_ws ad cA μ2) H2 → va_D (lw_A s) (m_ws ad cA μ2) → va_S (lw_A s) s.heap H2 locs2 → W p l e room_1 s m #[Value.ref b] below meth c H2 locs2 cells slots (lw_Z below #[Value.ref b] s) (F0 m 984 ls [])) : W p l e room_1 s m #[Value.ref b] below meth c H locs cells slots (lw_Z below #[Value.ref b] s) (F0 m 282 ls []) := by
  obtain ⟨hx, hb, hr, hml, hown, hts, hX, hbl, hlocks, hgv⟩ := id C0
  have hbA : ¬ lw_A s b := Nat.not_le.mpr hbl
  have h1 : vp_in (nI i + 1) L := by rw [show nI i + (1 : Int32) = nI (i + 1) from nI_add i 1]; exact vp_in_nI (by omega) (by omega)
  have h2 : vp_in (nI i + 2) L := by rw [show nI i + (2 : Int32) = nI (i + 2) from nI_add i 2]; exact vp_in_nI (by omega) (by omega)
  have h3 : vp_in (nI i + 3) L := by rw [show nI i + (3 : Int32) = nI (i + 3) from nI_add i 3]; exact vp_in_nI (by omega) (by omega)
  refine lv_aload_n hx hb (lw_dec rfl) rfl (lv_at hl 1 rfl) ?_
  refine lv_aload_n hx hb (lw_dec rfl) rfl (lv_at hl 0 rfl) ?_
  refine lv_iload_n hx hb (lw_dec rfl) rfl (lv_at hl 3 rfl) ?_
  refine lv_iconst (v := 1) hx hb (lw_dec rfl) (by decide) ?_
  refine lv_iadd hx hb (lw_dec rfl) ?_
  refine va_sld hx hb hX hbl hbA hS h1 (lw_dec rfl) ?_
  refine lv_aload_n hx hb (lw_dec rfl) rfl (lv_at hl 0 rfl) ?_
  refine lv_iload_n hx hb (lw_dec rfl) rfl (lv_at hl 3 rfl) ?_
  refine lv_iconst (v := 2) hx hb (lw_dec rfl) (by decide) ?_
  refine lv_iadd hx hb (lw_dec rfl) ?_
  refine va_sld hx hb hX hbl hbA hS h2 (lw_dec rfl) ?_
  refine lv_aload_n hx hb (lw_dec rfl) rfl (lv_at hl 0 rfl) ?_
  refine lv_iload_n hx hb (lw_dec rfl) rfl (lv_at hl 3 rfl) ?_
  refine lv_iconst (v := 3) hx hb (lw_dec rfl) (by decide) ?_
  refine lv_iadd hx hb (lw_dec rfl) ?_
  refine va_sld hx hb hX hbl hbA hS h3 (lw_dec rfl) ?_
  refine lw_cv (f := 4) (idx := 28) (b := 0) (sl := 4) (As := [.int (xs (nI i + 1).toNatClampNeg), .int (xs (nI i + 2).toNatClampNeg), .int (xs (nI i + 3).toNatClampNeg)]) (rest := []) C0 hSt hE hcs hl.1 (by decide) rfl rfl (Nat.le_of_ble_eq_true rfl) rfl (lw_dec rfl) hP hD hS (z_load ((xs (nI i + 1).toNatClampNeg)) ((xs (nI i + 2).toNatClampNeg)) ((xs (nI i + 3).toNatClampNeg)) μ hZ) (fun w0 μ1 H locs hsh hq hP hD hS => ?_)
  obtain ⟨x0, rfl⟩ := m_sh_l hsh rfl
  show W p l e room_1 s m #[Value.ref b] below meth c H locs cells slots (lw_Z below #[Value.ref b] s) (F0 m 301 ls [.long x0])
  refine lv_aload_n hx hb (lw_dec rfl) rfl (lv_at hl 2 rfl) ?_
  refine lv_aload_n hx hb (lw_dec rfl) rfl (lv_at hl 0 rfl) ?_
  refine lv_iload_n hx hb (lw_dec rfl) rfl (lv_at hl 3 rfl) ?_
  refine lv_iconst (v := 1) hx hb (lw_dec rfl) (by decide) ?_
  refine lv_iadd hx hb (lw_dec rfl) ?_
  refine va_sld hx hb hX hbl hbA hS h1 (lw_dec rfl) ?_
  refine lv_aload_n hx hb (lw_dec rfl) rfl (lv_at hl 0 rfl) ?_
  refine lv_iload_n hx hb (lw_dec rfl) rfl (lv_at hl 3 rfl) ?_
  refine lv_iconst (v := 2) hx hb (lw_dec rfl) (by decide) ?_
  refine lv_iadd hx hb (lw_dec rfl) ?_
  refine va_sld hx hb hX hbl hbA hS h2 (lw_dec rfl) ?_
  refine lv_aload_n hx hb (lw_dec rfl) rfl (lv_at hl 0 rfl) ?_
  refine lv_iload_n hx hb (lw_dec rfl) rfl (lv_at hl 3 rfl) ?_
  refine lv_iconst (v := 3) hx hb (lw_dec rfl) (by decide) ?_
  refine lv_iadd hx hb (lw_dec rfl) ?_
  refine va_sld hx hb hX hbl hbA hS h3 (lw_dec rfl) ?_
  refine lw_cv (f := 108) (idx := 32) (b := 77) (sl := 4) (As := [.int (xs (nI i + 1).toNatClampNeg), .int (xs (nI i + 2).toNatClampNeg), .int (xs (nI i + 3).toNatClampNeg)]) (rest := [.long x0]) C0 hSt hE hcs hl.1 (by decide) rfl rfl (Nat.le_of_ble_eq_true rfl) rfl (lw_dec rfl) hP hD hS hq (fun w1 μ2 H locs hsh hq hP hD hS => ?_)
  obtain ⟨rfl, hZ2⟩ := hq
  show W p l e room_1 s m #[Value.ref b] below meth c H locs cells slots (lw_Z below #[Value.ref b] s) (F0 m 320 ls [.long x0, .long x0])
  refine W.lcmp hx hb (lw_dec rfl) ?_
  refine lv_if_eq (tgt := 984) hx hb (lw_dec rfl) (by decide) (fun _ => ?_) (fun q => absurd (lc_eq.mpr rfl) q)
  exact nx _ _ _ hZ2 hP hD hS
set_option maxRecDepth 100000 in
theorem lw_c4 (hL : L ≤ 2048) (C0 : lw_At p s m meth c b L xs) (hSt : m_St D ad cA s) (hE : j_S (fun j => ad (1000 + j)) aV (lw_A s) s s.heap) (hcs : cells ≤ 600000 ∧ slots ≤ 7302250) {i : Nat} (hi : i + 3 < L) {μ : m_M} {H : Heap} {locs : List Loc} {ls : Array Slot} (hZ : Z μ) (hP : va_P D g_cls (m_ws ad cA μ) H) (hD : va_D (lw_A s) (m_ws ad cA μ)) (hS : va_S (lw_A s) s.heap H locs) (hl : lv_has ls 4 [(0, .ref b), (1, .ref (ad 0)), (2, .ref (ad 77)), (3, .int (nI i))]) (nx : ∀ (μ2 : m_M) (H2 : Heap) (locs2 : List Loc), Z μ2 → va_P D g_cls (m_ws ad cA μ2) H2 → va_D (lw_A s) (m_ws ad cA μ2) → va_S (lw_A s) s.heap H2 locs2 → W p l e room_1 s m #[Value.ref b] below meth c H2 locs2 cells slots (lw_Z below #[Value.ref b] s) (F0 m 984 ls [])) : W p l e room_1 s m #[Value.ref b] below meth c H locs cells slots (lw_Z below #[Value.ref b] s) (F0 m 326 ls []) := by
  obtain ⟨hx, hb, hr, hml, hown, hts, hX, hbl, hlocks, hgv⟩ := id C0
  have hbA : ¬ lw_A s b := Nat.not_le.mpr hbl
  have h1 : vp_in (nI i + 1) L := by rw [show nI i + (1 : Int32) = nI (i + 1) from nI_add i 1]; exact vp_in_nI (by omega) (by omega)
  have h2 : vp_in (nI i + 2) L := by rw [show nI i + (2 : Int32) = nI (i + 2) from nI_add i 2]; exact vp_in_nI (by omega) (by omega)
  have h3 : vp_in (nI i + 3) L := by rw [show nI i + (3 : Int32) = nI (i + 3) from nI_add i 3]; exact vp_in_nI (by omega) (by omega)
  refine lv_aload_n hx hb (lw_dec rfl) rfl (lv_at hl 1 rfl) ?_
  refine lv_aload_n hx hb (lw_dec rfl) rfl (lv_at hl 0 rfl) ?_
  refine lv_iload_n hx hb (lw_dec rfl) rfl (lv_at hl 3 rfl) ?_
  refine lv_iconst (v := 1) hx hb (lw_dec rfl) (by decide) ?_
  refine lv_iadd hx hb (lw_dec rfl) ?_
  refine va_sld hx hb hX hbl hbA hS h1 (lw_dec rfl) ?_
  refine lv_aload_n hx hb (lw_dec rfl) rfl (lv_at hl 0 rfl) ?_
  refine lv_iload_n hx hb (lw_dec rfl) rfl (lv_at hl 3 rfl) ?_
  refine lv_iconst (v := 2) hx hb (lw_dec rfl) (by decide) ?_
  refine lv_iadd hx hb (lw_dec rfl) ?_
  refine va_sld hx hb hX hbl hbA hS h2 (lw_dec rfl) ?_
  refine lw_cv (f := 5) (idx := 33) (b := 0) (sl := 3) (As := [.int (xs (nI i + 1).toNatClampNeg), .int (xs (nI i + 2).toNatClampNeg)]) (rest := []) C0 hSt hE hcs hl.1 (by decide) rfl rfl (Nat.le_of_ble_eq_true rfl) rfl (lw_dec rfl) hP hD hS (z_setLeak ((xs (nI i + 1).toNatClampNeg)) ((xs (nI i + 2).toNatClampNeg)) μ hZ) (fun w0 μ1 H locs hsh hq hP hD hS => ?_)
  obtain ⟨x0, rfl⟩ := m_sh_i hsh rfl
  show W p l e room_1 s m #[Value.ref b] below meth c H locs cells slots (lw_Z below #[Value.ref b] s) (F0 m 340 ls [.int x0])
  refine lv_aload_n hx hb (lw_dec rfl) rfl (lv_at hl 2 rfl) ?_
  refine lv_aload_n hx hb (lw_dec rfl) rfl (lv_at hl 0 rfl) ?_
  refine lv_iload_n hx hb (lw_dec rfl) rfl (lv_at hl 3 rfl) ?_
  refine lv_iconst (v := 1) hx hb (lw_dec rfl) (by decide) ?_
  refine lv_iadd hx hb (lw_dec rfl) ?_
  refine va_sld hx hb hX hbl hbA hS h1 (lw_dec rfl) ?_
  refine lv_aload_n hx hb (lw_dec rfl) rfl (lv_at hl 0 rfl) ?_
  refine lv_iload_n hx hb (lw_dec rfl) rfl (lv_at hl 3 rfl) ?_
  refine lv_iconst (v := 2) hx hb (lw_dec rfl) (by decide) ?_
  refine lv_iadd hx hb (lw_dec rfl) ?_
  refine va_sld hx hb hX hbl hbA hS h2 (lw_dec rfl) ?_
  refine lw_cv (f := 109) (idx := 36) (b := 77) (sl := 3) (As := [.int (xs (nI i + 1).toNatClampNeg), .int (xs (nI i + 2).toNatClampNeg)]) (rest := [.int x0]) C0 hSt hE hcs hl.1 (by decide) rfl rfl (Nat.le_of_ble_eq_true rfl) rfl (lw_dec rfl) hP hD hS hq (fun w1 μ2 H locs hsh hq hP hD hS => ?_)
  obtain ⟨rfl, hZ2⟩ := hq
  show W p l e room_1 s m #[Value.ref b] below meth c H locs cells slots (lw_Z below #[Value.ref b] s) (F0 m 354 ls [.int x0, .int x0])
  refine lv_icmp_eq (tgt := 984) hx hb (lw_dec rfl) (by decide) (fun _ => ?_) (fun q => absurd rfl q)
  exact nx _ _ _ hZ2 hP hD hS
set_option maxRecDepth 100000 in
theorem lw_c5 (hL : L ≤ 2048) (C0 : lw_At p s m meth c b L xs) (hSt : m_St D ad cA s) (hE : j_S (fun j => ad (1000 + j)) aV (lw_A s) s s.heap) (hcs : cells ≤ 600000 ∧ slots ≤ 7302250) {i : Nat} (hi : i + 3 < L) {μ : m_M} {H : Heap} {locs : List Loc} {ls : Array Slot} (hZ : Z μ) (hP : va_P D g_cls (m_ws ad cA μ) H) (hD : va_D (lw_A s) (m_ws ad cA μ)) (hS : va_S (lw_A s) s.heap H locs) (hl : lv_has ls 4 [(0, .ref b), (1, .ref (ad 0)), (2, .ref (ad 77)), (3, .int (nI i))]) (nx : ∀ (μ2 : m_M) (H2 : Heap) (locs2 : List Loc), Z μ2 → va_P D g_cls (m_ws ad cA μ2) H2 → va_D (lw_A s) (m_ws ad cA μ2) → va_S (lw_A s) s.heap H2 locs2 → W p l e room_1 s m #[Value.ref b] below meth c H2 locs2 cells slots (lw_Z below #[Value.ref b] s) (F0 m 984 ls [])) : W p l e room_1 s m #[Value.ref b] below meth c H locs cells slots (lw_Z below #[Value.ref b] s) (F0 m 359 ls []) := by
  obtain ⟨hx, hb, hr, hml, hown, hts, hX, hbl, hlocks, hgv⟩ := id C0
  have hbA : ¬ lw_A s b := Nat.not_le.mpr hbl
  have h1 : vp_in (nI i + 1) L := by rw [show nI i + (1 : Int32) = nI (i + 1) from nI_add i 1]; exact vp_in_nI (by omega) (by omega)
  have h2 : vp_in (nI i + 2) L := by rw [show nI i + (2 : Int32) = nI (i + 2) from nI_add i 2]; exact vp_in_nI (by omega) (by omega)
  have h3 : vp_in (nI i + 3) L := by rw [show nI i + (3 : Int32) = nI (i + 3) from nI_add i 3]; exact vp_in_nI (by omega) (by omega)
  refine lv_aload_n hx hb (lw_dec rfl) rfl (lv_at hl 1 rfl) ?_
  refine lv_aload_n hx hb (lw_dec rfl) rfl (lv_at hl 0 rfl) ?_
  refine lv_iload_n hx hb (lw_dec rfl) rfl (lv_at hl 3 rfl) ?_
  refine lv_iconst (v := 1) hx hb (lw_dec rfl) (by decide) ?_
  refine lv_iadd hx hb (lw_dec rfl) ?_
  refine va_sld hx hb hX hbl hbA hS h1 (lw_dec rfl) ?_
  refine lv_aload_n hx hb (lw_dec rfl) rfl (lv_at hl 0 rfl) ?_
  refine lv_iload_n hx hb (lw_dec rfl) rfl (lv_at hl 3 rfl) ?_
  refine lv_iconst (v := 2) hx hb (lw_dec rfl) (by decide) ?_
  refine lv_iadd hx hb (lw_dec rfl) ?_
  refine va_sld hx hb hX hbl hbA hS h2 (lw_dec rfl) ?_
  refine lv_i2l (v := ((xs (nI i + 2).toNatClampNeg) : Int32).toInt64) hx hb (lw_dec rfl) rfl ?_
  refine lv_bipush (v := 32) hx hb (lw_dec rfl) (by decide) ?_
  refine lv_lshl (v := (((xs (nI i + 2).toNatClampNeg) : Int32).toInt64 <<< ((32 : Int32).toInt64 &&& 63))) hx hb (lw_dec rfl) rfl ?_
  refine lv_aload_n hx hb (lw_dec rfl) rfl (lv_at hl 0 rfl) ?_
  refine lv_iload_n hx hb (lw_dec rfl) rfl (lv_at hl 3 rfl) ?_
  refine lv_iconst (v := 3) hx hb (lw_dec rfl) (by decide) ?_
  refine lv_iadd hx hb (lw_dec rfl) ?_
  refine va_sld hx hb hX hbl hbA hS h3 (lw_dec rfl) ?_
  refine lv_i2l (v := ((xs (nI i + 3).toNatClampNeg) : Int32).toInt64) hx hb (lw_dec rfl) rfl ?_
  refine lv_ldc2 (own := R_law) (v := 4294967295) hx hb hown (hts _ (List.mem_of_getElem? (i := 1128) (by decide +kernel))) (lw_dec rfl) ?_
  refine lv_land hx hb (lw_dec rfl) ?_
  refine lv_lor hx hb (lw_dec rfl) ?_
  refine lw_cv (f := 6) (idx := 39) (b := 0) (sl := 4) (As := [.int (xs (nI i + 1).toNatClampNeg), .long ((((xs (nI i + 2).toNatClampNeg) : Int32).toInt64 <<< ((32 : Int32).toInt64 &&& 63)) ||| (((xs (nI i + 3).toNatClampNeg) : Int32).toInt64 &&& 4294967295))]) (rest := []) C0 hSt hE hcs hl.1 (by decide) rfl rfl (Nat.le_of_ble_eq_true rfl) rfl (lw_dec rfl) hP hD hS (z_setGV ((xs (nI i + 1).toNatClampNeg)) (((((xs (nI i + 2).toNatClampNeg) : Int32).toInt64 <<< ((32 : Int32).toInt64 &&& 63)) ||| (((xs (nI i + 3).toNatClampNeg) : Int32).toInt64 &&& 4294967295))) μ hZ) (fun w0 μ1 H locs hsh hq hP hD hS => ?_)
  obtain ⟨x0, rfl⟩ := m_sh_l hsh rfl
  show W p l e room_1 s m #[Value.ref b] below meth c H locs cells slots (lw_Z below #[Value.ref b] s) (F0 m 388 ls [.long x0])
  refine lv_aload_n hx hb (lw_dec rfl) rfl (lv_at hl 2 rfl) ?_
  refine lv_aload_n hx hb (lw_dec rfl) rfl (lv_at hl 0 rfl) ?_
  refine lv_iload_n hx hb (lw_dec rfl) rfl (lv_at hl 3 rfl) ?_
  refine lv_iconst (v := 1) hx hb (lw_dec rfl) (by decide) ?_
  refine lv_iadd hx hb (lw_dec rfl) ?_
  refine va_sld hx hb hX hbl hbA hS h1 (lw_dec rfl) ?_
  refine lv_aload_n hx hb (lw_dec rfl) rfl (lv_at hl 0 rfl) ?_
  refine lv_iload_n hx hb (lw_dec rfl) rfl (lv_at hl 3 rfl) ?_
  refine lv_iconst (v := 2) hx hb (lw_dec rfl) (by decide) ?_
  refine lv_iadd hx hb (lw_dec rfl) ?_
  refine va_sld hx hb hX hbl hbA hS h2 (lw_dec rfl) ?_
  refine lv_i2l (v := ((xs (nI i + 2).toNatClampNeg) : Int32).toInt64) hx hb (lw_dec rfl) rfl ?_
  refine lv_bipush (v := 32) hx hb (lw_dec rfl) (by decide) ?_
  refine lv_lshl (v := (((xs (nI i + 2).toNatClampNeg) : Int32).toInt64 <<< ((32 : Int32).toInt64 &&& 63))) hx hb (lw_dec rfl) rfl ?_
  refine lv_aload_n hx hb (lw_dec rfl) rfl (lv_at hl 0 rfl) ?_
  refine lv_iload_n hx hb (lw_dec rfl) rfl (lv_at hl 3 rfl) ?_
  refine lv_iconst (v := 3) hx hb (lw_dec rfl) (by decide) ?_
  refine lv_iadd hx hb (lw_dec rfl) ?_
  refine va_sld hx hb hX hbl hbA hS h3 (lw_dec rfl) ?_
  refine lv_i2l (v := ((xs (nI i + 3).toNatClampNeg) : Int32).toInt64) hx hb (lw_dec rfl) rfl ?_
  refine lv_ldc2 (own := R_law) (v := 4294967295) hx hb hown (hts _ (List.mem_of_getElem? (i := 1128) (by decide +kernel))) (lw_dec rfl) ?_
  refine lv_land hx hb (lw_dec rfl) ?_
  refine lv_lor hx hb (lw_dec rfl) ?_
  refine lw_cv (f := 110) (idx := 43) (b := 77) (sl := 4) (As := [.int (xs (nI i + 1).toNatClampNeg), .long ((((xs (nI i + 2).toNatClampNeg) : Int32).toInt64 <<< ((32 : Int32).toInt64 &&& 63)) ||| (((xs (nI i + 3).toNatClampNeg) : Int32).toInt64 &&& 4294967295))]) (rest := [.long x0]) C0 hSt hE hcs hl.1 (by decide) rfl rfl (Nat.le_of_ble_eq_true rfl) rfl (lw_dec rfl) hP hD hS hq (fun w1 μ2 H locs hsh hq hP hD hS => ?_)
  obtain ⟨rfl, hZ2⟩ := hq
  show W p l e room_1 s m #[Value.ref b] below meth c H locs cells slots (lw_Z below #[Value.ref b] s) (F0 m 417 ls [.long x0, .long x0])
  refine W.lcmp hx hb (lw_dec rfl) ?_
  refine lv_if_eq (tgt := 984) hx hb (lw_dec rfl) (by decide) (fun _ => ?_) (fun q => absurd (lc_eq.mpr rfl) q)
  exact nx _ _ _ hZ2 hP hD hS
set_option maxRecDepth 100000 in
theorem lw_c6 (hL : L ≤ 2048) (C0 : lw_At p s m meth c b L xs) (hSt : m_St D ad cA s) (hE : j_S (fun j => ad (1000 + j)) aV (lw_A s) s s.heap) (hcs : cells ≤ 600000 ∧ slots ≤ 7302250) {i : Nat} (hi : i + 3 < L) {μ : m_M} {H : Heap} {locs : List Loc} {ls : Array Slot} (hZ : Z μ) (hP : va_P D g_cls (m_ws ad cA μ) H) (hD : va_D (lw_A s) (m_ws ad cA μ)) (hS : va_S (lw_A s) s.heap H locs) (hl : lv_has ls 4 [(0, .ref b), (1, .ref (ad 0)), (2, .ref (ad 77)), (3, .int (nI i))]) (nx : ∀ (μ2 : m_M) (H2 : Heap) (locs2 : List Loc), Z μ2 → va_P D g_cls (m_ws ad cA μ2) H2 → va_D (lw_A s) (m_ws ad cA μ2) → va_S (lw_A s) s.heap H2 locs2 → W p l e room_1 s m #[Value.ref b] below meth c H2 locs2 cells slots (lw_Z below #[Value.ref b] s) (F0 m 984 ls [])) : W p l e room_1 s m #[Value.ref b] below meth c H locs cells slots (lw_Z below #[Value.ref b] s) (F0 m 423 ls []) := by
  obtain ⟨hx, hb, hr, hml, hown, hts, hX, hbl, hlocks, hgv⟩ := id C0
  have hbA : ¬ lw_A s b := Nat.not_le.mpr hbl
  have h1 : vp_in (nI i + 1) L := by rw [show nI i + (1 : Int32) = nI (i + 1) from nI_add i 1]; exact vp_in_nI (by omega) (by omega)
  have h2 : vp_in (nI i + 2) L := by rw [show nI i + (2 : Int32) = nI (i + 2) from nI_add i 2]; exact vp_in_nI (by omega) (by omega)
  have h3 : vp_in (nI i + 3) L := by rw [show nI i + (3 : Int32) = nI (i + 3) from nI_add i 3]; exact vp_in_nI (by omega) (by omega)
  refine lv_aload_n hx hb (lw_dec rfl) rfl (lv_at hl 1 rfl) ?_
  refine lw_cv (f := 7) (idx := 44) (b := 0) (sl := 1) (As := []) (rest := []) C0 hSt hE hcs hl.1 (by decide) rfl rfl (Nat.le_of_ble_eq_true rfl) rfl (lw_dec rfl) hP hD hS (z_tankCount  μ hZ) (fun w0 μ1 H locs hsh hq hP hD hS => ?_)
  obtain ⟨x0, rfl⟩ := m_sh_i hsh rfl
  show W p l e room_1 s m #[Value.ref b] below meth c H locs cells slots (lw_Z below #[Value.ref b] s) (F0 m 427 ls [.int x0])
  refine lv_aload_n hx hb (lw_dec rfl) rfl (lv_at hl 2 rfl) ?_
  refine lw_cv (f := 111) (idx := 48) (b := 77) (sl := 1) (As := []) (rest := [.int x0]) C0 hSt hE hcs hl.1 (by decide) rfl rfl (Nat.le_of_ble_eq_true rfl) rfl (lw_dec rfl) hP hD hS hq (fun w1 μ2 H locs hsh hq hP hD hS => ?_)
  obtain ⟨rfl, hZ2⟩ := hq
  show W p l e room_1 s m #[Value.ref b] below meth c H locs cells slots (lw_Z below #[Value.ref b] s) (F0 m 431 ls [.int x0, .int x0])
  refine lv_icmp_eq (tgt := 984) hx hb (lw_dec rfl) (by decide) (fun _ => ?_) (fun q => absurd rfl q)
  exact nx _ _ _ hZ2 hP hD hS
set_option maxRecDepth 100000 in
theorem lw_c7 (hL : L ≤ 2048) (C0 : lw_At p s m meth c b L xs) (hSt : m_St D ad cA s) (hE : j_S (fun j => ad (1000 + j)) aV (lw_A s) s s.heap) (hcs : cells ≤ 600000 ∧ slots ≤ 7302250) {i : Nat} (hi : i + 3 < L) {μ : m_M} {H : Heap} {locs : List Loc} {ls : Array Slot} (hZ : Z μ) (hP : va_P D g_cls (m_ws ad cA μ) H) (hD : va_D (lw_A s) (m_ws ad cA μ)) (hS : va_S (lw_A s) s.heap H locs) (hl : lv_has ls 4 [(0, .ref b), (1, .ref (ad 0)), (2, .ref (ad 77)), (3, .int (nI i))]) (nx : ∀ (μ2 : m_M) (H2 : Heap) (locs2 : List Loc), Z μ2 → va_P D g_cls (m_ws ad cA μ2) H2 → va_D (lw_A s) (m_ws ad cA μ2) → va_S (lw_A s) s.heap H2 locs2 → W p l e room_1 s m #[Value.ref b] below meth c H2 locs2 cells slots (lw_Z below #[Value.ref b] s) (F0 m 984 ls [])) : W p l e room_1 s m #[Value.ref b] below meth c H locs cells slots (lw_Z below #[Value.ref b] s) (F0 m 436 ls []) := by
  obtain ⟨hx, hb, hr, hml, hown, hts, hX, hbl, hlocks, hgv⟩ := id C0
  have hbA : ¬ lw_A s b := Nat.not_le.mpr hbl
  have h1 : vp_in (nI i + 1) L := by rw [show nI i + (1 : Int32) = nI (i + 1) from nI_add i 1]; exact vp_in_nI (by omega) (by omega)
  have h2 : vp_in (nI i + 2) L := by rw [show nI i + (2 : Int32) = nI (i + 2) from nI_add i 2]; exact vp_in_nI (by omega) (by omega)
  have h3 : vp_in (nI i + 3) L := by rw [show nI i + (3 : Int32) = nI (i + 3) from nI_add i 3]; exact vp_in_nI (by omega) (by omega)
  refine lv_aload_n hx hb (lw_dec rfl) rfl (lv_at hl 1 rfl) ?_
  refine lv_aload_n hx hb (lw_dec rfl) rfl (lv_at hl 0 rfl) ?_
  refine lv_iload_n hx hb (lw_dec rfl) rfl (lv_at hl 3 rfl) ?_
  refine lv_iconst (v := 1) hx hb (lw_dec rfl) (by decide) ?_
  refine lv_iadd hx hb (lw_dec rfl) ?_
  refine va_sld hx hb hX hbl hbA hS h1 (lw_dec rfl) ?_
  refine lv_aload_n hx hb (lw_dec rfl) rfl (lv_at hl 0 rfl) ?_
  refine lv_iload_n hx hb (lw_dec rfl) rfl (lv_at hl 3 rfl) ?_
  refine lv_iconst (v := 2) hx hb (lw_dec rfl) (by decide) ?_
  refine lv_iadd hx hb (lw_dec rfl) ?_
  refine va_sld hx hb hX hbl hbA hS h2 (lw_dec rfl) ?_
  refine lw_cv (f := 8) (idx := 49) (b := 0) (sl := 3) (As := [.int (xs (nI i + 1).toNatClampNeg), .int (xs (nI i + 2).toNatClampNeg)]) (rest := []) C0 hSt hE hcs hl.1 (by decide) rfl rfl (Nat.le_of_ble_eq_true rfl) rfl (lw_dec rfl) hP hD hS (z_mass ((xs (nI i + 1).toNatClampNeg)) ((xs (nI i + 2).toNatClampNeg)) μ hZ) (fun w0 μ1 H locs hsh hq hP hD hS => ?_)
  obtain ⟨x0, rfl⟩ := m_sh_l hsh rfl
  show W p l e room_1 s m #[Value.ref b] below meth c H locs cells slots (lw_Z below #[Value.ref b] s) (F0 m 450 ls [.long x0])
  refine lv_aload_n hx hb (lw_dec rfl) rfl (lv_at hl 2 rfl) ?_
  refine lv_aload_n hx hb (lw_dec rfl) rfl (lv_at hl 0 rfl) ?_
  refine lv_iload_n hx hb (lw_dec rfl) rfl (lv_at hl 3 rfl) ?_
  refine lv_iconst (v := 1) hx hb (lw_dec rfl) (by decide) ?_
  refine lv_iadd hx hb (lw_dec rfl) ?_
  refine va_sld hx hb hX hbl hbA hS h1 (lw_dec rfl) ?_
  refine lv_aload_n hx hb (lw_dec rfl) rfl (lv_at hl 0 rfl) ?_
  refine lv_iload_n hx hb (lw_dec rfl) rfl (lv_at hl 3 rfl) ?_
  refine lv_iconst (v := 2) hx hb (lw_dec rfl) (by decide) ?_
  refine lv_iadd hx hb (lw_dec rfl) ?_
  refine va_sld hx hb hX hbl hbA hS h2 (lw_dec rfl) ?_
  refine lw_cv (f := 113) (idx := 52) (b := 77) (sl := 3) (As := [.int (xs (nI i + 1).toNatClampNeg), .int (xs (nI i + 2).toNatClampNeg)]) (rest := [.long x0]) C0 hSt hE hcs hl.1 (by decide) rfl rfl (Nat.le_of_ble_eq_true rfl) rfl (lw_dec rfl) hP hD hS hq (fun w1 μ2 H locs hsh hq hP hD hS => ?_)
  obtain ⟨rfl, hZ2⟩ := hq
  show W p l e room_1 s m #[Value.ref b] below meth c H locs cells slots (lw_Z below #[Value.ref b] s) (F0 m 464 ls [.long x0, .long x0])
  refine W.lcmp hx hb (lw_dec rfl) ?_
  refine lv_if_eq (tgt := 984) hx hb (lw_dec rfl) (by decide) (fun _ => ?_) (fun q => absurd (lc_eq.mpr rfl) q)
  exact nx _ _ _ hZ2 hP hD hS
set_option maxRecDepth 100000 in
theorem lw_c8 (hL : L ≤ 2048) (C0 : lw_At p s m meth c b L xs) (hSt : m_St D ad cA s) (hE : j_S (fun j => ad (1000 + j)) aV (lw_A s) s s.heap) (hcs : cells ≤ 600000 ∧ slots ≤ 7302250) {i : Nat} (hi : i + 3 < L) {μ : m_M} {H : Heap} {locs : List Loc} {ls : Array Slot} (hZ : Z μ) (hP : va_P D g_cls (m_ws ad cA μ) H) (hD : va_D (lw_A s) (m_ws ad cA μ)) (hS : va_S (lw_A s) s.heap H locs) (hl : lv_has ls 4 [(0, .ref b), (1, .ref (ad 0)), (2, .ref (ad 77)), (3, .int (nI i))]) (nx : ∀ (μ2 : m_M) (H2 : Heap) (locs2 : List Loc), Z μ2 → va_P D g_cls (m_ws ad cA μ2) H2 → va_D (lw_A s) (m_ws ad cA μ2) → va_S (lw_A s) s.heap H2 locs2 → W p l e room_1 s m #[Value.ref b] below meth c H2 locs2 cells slots (lw_Z below #[Value.ref b] s) (F0 m 984 ls [])) : W p l e room_1 s m #[Value.ref b] below meth c H locs cells slots (lw_Z below #[Value.ref b] s) (F0 m 470 ls []) := by
  obtain ⟨hx, hb, hr, hml, hown, hts, hX, hbl, hlocks, hgv⟩ := id C0
  have hbA : ¬ lw_A s b := Nat.not_le.mpr hbl
  have h1 : vp_in (nI i + 1) L := by rw [show nI i + (1 : Int32) = nI (i + 1) from nI_add i 1]; exact vp_in_nI (by omega) (by omega)
  have h2 : vp_in (nI i + 2) L := by rw [show nI i + (2 : Int32) = nI (i + 2) from nI_add i 2]; exact vp_in_nI (by omega) (by omega)
  have h3 : vp_in (nI i + 3) L := by rw [show nI i + (3 : Int32) = nI (i + 3) from nI_add i 3]; exact vp_in_nI (by omega) (by omega)
  refine lv_aload_n hx hb (lw_dec rfl) rfl (lv_at hl 1 rfl) ?_
  refine lv_aload_n hx hb (lw_dec rfl) rfl (lv_at hl 0 rfl) ?_
  refine lv_iload_n hx hb (lw_dec rfl) rfl (lv_at hl 3 rfl) ?_
  refine lv_iconst (v := 1) hx hb (lw_dec rfl) (by decide) ?_
  refine lv_iadd hx hb (lw_dec rfl) ?_
  refine va_sld hx hb hX hbl hbA hS h1 (lw_dec rfl) ?_
  refine lv_aload_n hx hb (lw_dec rfl) rfl (lv_at hl 0 rfl) ?_
  refine lv_iload_n hx hb (lw_dec rfl) rfl (lv_at hl 3 rfl) ?_
  refine lv_iconst (v := 2) hx hb (lw_dec rfl) (by decide) ?_
  refine lv_iadd hx hb (lw_dec rfl) ?_
  refine va_sld hx hb hX hbl hbA hS h2 (lw_dec rfl) ?_
  refine lw_cv (f := 9) (idx := 53) (b := 0) (sl := 3) (As := [.int (xs (nI i + 1).toNatClampNeg), .int (xs (nI i + 2).toNatClampNeg)]) (rest := []) C0 hSt hE hcs hl.1 (by decide) rfl rfl (Nat.le_of_ble_eq_true rfl) rfl (lw_dec rfl) hP hD hS (z_set ((xs (nI i + 1).toNatClampNeg)) ((xs (nI i + 2).toNatClampNeg)) μ hZ) (fun w0 μ1 H locs hsh hq hP hD hS => ?_)
  obtain ⟨x0, rfl⟩ := m_sh_i hsh rfl
  show W p l e room_1 s m #[Value.ref b] below meth c H locs cells slots (lw_Z below #[Value.ref b] s) (F0 m 484 ls [.int x0])
  refine lv_aload_n hx hb (lw_dec rfl) rfl (lv_at hl 2 rfl) ?_
  refine lv_aload_n hx hb (lw_dec rfl) rfl (lv_at hl 0 rfl) ?_
  refine lv_iload_n hx hb (lw_dec rfl) rfl (lv_at hl 3 rfl) ?_
  refine lv_iconst (v := 1) hx hb (lw_dec rfl) (by decide) ?_
  refine lv_iadd hx hb (lw_dec rfl) ?_
  refine va_sld hx hb hX hbl hbA hS h1 (lw_dec rfl) ?_
  refine lv_aload_n hx hb (lw_dec rfl) rfl (lv_at hl 0 rfl) ?_
  refine lv_iload_n hx hb (lw_dec rfl) rfl (lv_at hl 3 rfl) ?_
  refine lv_iconst (v := 2) hx hb (lw_dec rfl) (by decide) ?_
  refine lv_iadd hx hb (lw_dec rfl) ?_
  refine va_sld hx hb hX hbl hbA hS h2 (lw_dec rfl) ?_
  refine lw_cv (f := 114) (idx := 56) (b := 77) (sl := 3) (As := [.int (xs (nI i + 1).toNatClampNeg), .int (xs (nI i + 2).toNatClampNeg)]) (rest := [.int x0]) C0 hSt hE hcs hl.1 (by decide) rfl rfl (Nat.le_of_ble_eq_true rfl) rfl (lw_dec rfl) hP hD hS hq (fun w1 μ2 H locs hsh hq hP hD hS => ?_)
  obtain ⟨rfl, hZ2⟩ := hq
  show W p l e room_1 s m #[Value.ref b] below meth c H locs cells slots (lw_Z below #[Value.ref b] s) (F0 m 498 ls [.int x0, .int x0])
  refine lv_icmp_eq (tgt := 984) hx hb (lw_dec rfl) (by decide) (fun _ => ?_) (fun q => absurd rfl q)
  exact nx _ _ _ hZ2 hP hD hS
set_option maxRecDepth 100000 in
theorem lw_c9 (hL : L ≤ 2048) (C0 : lw_At p s m meth c b L xs) (hSt : m_St D ad cA s) (hE : j_S (fun j => ad (1000 + j)) aV (lw_A s) s s.heap) (hcs : cells ≤ 600000 ∧ slots ≤ 7302250) {i : Nat} (hi : i + 3 < L) {μ : m_M} {H : Heap} {locs : List Loc} {ls : Array Slot} (hZ : Z μ) (hP : va_P D g_cls (m_ws ad cA μ) H) (hD : va_D (lw_A s) (m_ws ad cA μ)) (hS : va_S (lw_A s) s.heap H locs) (hl : lv_has ls 4 [(0, .ref b), (1, .ref (ad 0)), (2, .ref (ad 77)), (3, .int (nI i))]) (nx : ∀ (μ2 : m_M) (H2 : Heap) (locs2 : List Loc), Z μ2 → va_P D g_cls (m_ws ad cA μ2) H2 → va_D (lw_A s) (m_ws ad cA μ2) → va_S (lw_A s) s.heap H2 locs2 → W p l e room_1 s m #[Value.ref b] below meth c H2 locs2 cells slots (lw_Z below #[Value.ref b] s) (F0 m 984 ls [])) : W p l e room_1 s m #[Value.ref b] below meth c H locs cells slots (lw_Z below #[Value.ref b] s) (F0 m 503 ls []) := by
  obtain ⟨hx, hb, hr, hml, hown, hts, hX, hbl, hlocks, hgv⟩ := id C0
  have hbA : ¬ lw_A s b := Nat.not_le.mpr hbl
  have h1 : vp_in (nI i + 1) L := by rw [show nI i + (1 : Int32) = nI (i + 1) from nI_add i 1]; exact vp_in_nI (by omega) (by omega)
  have h2 : vp_in (nI i + 2) L := by rw [show nI i + (2 : Int32) = nI (i + 2) from nI_add i 2]; exact vp_in_nI (by omega) (by omega)
  have h3 : vp_in (nI i + 3) L := by rw [show nI i + (3 : Int32) = nI (i + 3) from nI_add i 3]; exact vp_in_nI (by omega) (by omega)
  refine lv_aload_n hx hb (lw_dec rfl) rfl (lv_at hl 1 rfl) ?_
  refine lv_aload_n hx hb (lw_dec rfl) rfl (lv_at hl 0 rfl) ?_
  refine lv_iload_n hx hb (lw_dec rfl) rfl (lv_at hl 3 rfl) ?_
  refine lv_iconst (v := 1) hx hb (lw_dec rfl) (by decide) ?_
  refine lv_iadd hx hb (lw_dec rfl) ?_
  refine va_sld hx hb hX hbl hbA hS h1 (lw_dec rfl) ?_
  refine lw_cv (f := 10) (idx := 57) (b := 0) (sl := 2) (As := [.int (xs (nI i + 1).toNatClampNeg)]) (rest := []) C0 hSt hE hcs hl.1 (by decide) rfl rfl (Nat.le_of_ble_eq_true rfl) rfl (lw_dec rfl) hP hD hS (z_letter ((xs (nI i + 1).toNatClampNeg)) μ hZ) (fun w0 μ1 H locs hsh hq hP hD hS => ?_)
  obtain ⟨x0, rfl⟩ := m_sh_i hsh rfl
  show W p l e room_1 s m #[Value.ref b] below meth c H locs cells slots (lw_Z below #[Value.ref b] s) (F0 m 512 ls [.int x0])
  refine lv_aload_n hx hb (lw_dec rfl) rfl (lv_at hl 2 rfl) ?_
  refine lv_aload_n hx hb (lw_dec rfl) rfl (lv_at hl 0 rfl) ?_
  refine lv_iload_n hx hb (lw_dec rfl) rfl (lv_at hl 3 rfl) ?_
  refine lv_iconst (v := 1) hx hb (lw_dec rfl) (by decide) ?_
  refine lv_iadd hx hb (lw_dec rfl) ?_
  refine va_sld hx hb hX hbl hbA hS h1 (lw_dec rfl) ?_
  refine lw_cv (f := 115) (idx := 61) (b := 77) (sl := 2) (As := [.int (xs (nI i + 1).toNatClampNeg)]) (rest := [.int x0]) C0 hSt hE hcs hl.1 (by decide) rfl rfl (Nat.le_of_ble_eq_true rfl) rfl (lw_dec rfl) hP hD hS hq (fun w1 μ2 H locs hsh hq hP hD hS => ?_)
  obtain ⟨rfl, hZ2⟩ := hq
  show W p l e room_1 s m #[Value.ref b] below meth c H locs cells slots (lw_Z below #[Value.ref b] s) (F0 m 521 ls [.int x0, .int x0])
  refine lv_icmp_eq (tgt := 984) hx hb (lw_dec rfl) (by decide) (fun _ => ?_) (fun q => absurd rfl q)
  exact nx _ _ _ hZ2 hP hD hS
set_option maxRecDepth 100000 in
theorem lw_c10 (hL : L ≤ 2048) (C0 : lw_At p s m meth c b L xs) (hSt : m_St D ad cA s) (hE : j_S (fun j => ad (1000 + j)) aV (lw_A s) s s.heap) (hcs : cells ≤ 600000 ∧ slots ≤ 7302250) {i : Nat} (hi : i + 3 < L) {μ : m_M} {H : Heap} {locs : List Loc} {ls : Array Slot} (hZ : Z μ) (hP : va_P D g_cls (m_ws ad cA μ) H) (hD : va_D (lw_A s) (m_ws ad cA μ)) (hS : va_S (lw_A s) s.heap H locs) (hl : lv_has ls 4 [(0, .ref b), (1, .ref (ad 0)), (2, .ref (ad 77)), (3, .int (nI i))]) (nx : ∀ (μ2 : m_M) (H2 : Heap) (locs2 : List Loc), Z μ2 → va_P D g_cls (m_ws ad cA μ2) H2 → va_D (lw_A s) (m_ws ad cA μ2) → va_S (lw_A s) s.heap H2 locs2 → W p l e room_1 s m #[Value.ref b] below meth c H2 locs2 cells slots (lw_Z below #[Value.ref b] s) (F0 m 984 ls [])) : W p l e room_1 s m #[Value.ref b] below meth c H locs cells slots (lw_Z below #[Value.ref b] s) (F0 m 526 ls []) := by
  obtain ⟨hx, hb, hr, hml, hown, hts, hX, hbl, hlocks, hgv⟩ := id C0
  have hbA : ¬ lw_A s b := Nat.not_le.mpr hbl
  have h1 : vp_in (nI i + 1) L := by rw [show nI i + (1 : Int32) = nI (i + 1) from nI_add i 1]; exact vp_in_nI (by omega) (by omega)
  have h2 : vp_in (nI i + 2) L := by rw [show nI i + (2 : Int32) = nI (i + 2) from nI_add i 2]; exact vp_in_nI (by omega) (by omega)
  have h3 : vp_in (nI i + 3) L := by rw [show nI i + (3 : Int32) = nI (i + 3) from nI_add i 3]; exact vp_in_nI (by omega) (by omega)
  refine lv_aload_n hx hb (lw_dec rfl) rfl (lv_at hl 1 rfl) ?_
  refine lv_aload_n hx hb (lw_dec rfl) rfl (lv_at hl 0 rfl) ?_
  refine lv_iload_n hx hb (lw_dec rfl) rfl (lv_at hl 3 rfl) ?_
  refine lv_iconst (v := 1) hx hb (lw_dec rfl) (by decide) ?_
  refine lv_iadd hx hb (lw_dec rfl) ?_
  refine va_sld hx hb hX hbl hbA hS h1 (lw_dec rfl) ?_
  refine lv_aload_n hx hb (lw_dec rfl) rfl (lv_at hl 0 rfl) ?_
  refine lv_iload_n hx hb (lw_dec rfl) rfl (lv_at hl 3 rfl) ?_
  refine lv_iconst (v := 2) hx hb (lw_dec rfl) (by decide) ?_
  refine lv_iadd hx hb (lw_dec rfl) ?_
  refine va_sld hx hb hX hbl hbA hS h2 (lw_dec rfl) ?_
  refine lw_cv (f := 11) (idx := 62) (b := 0) (sl := 3) (As := [.int (xs (nI i + 1).toNatClampNeg), .int (xs (nI i + 2).toNatClampNeg)]) (rest := []) C0 hSt hE hcs hl.1 (by decide) rfl rfl (Nat.le_of_ble_eq_true rfl) rfl (lw_dec rfl) hP hD hS (z_addEngine ((xs (nI i + 1).toNatClampNeg)) ((xs (nI i + 2).toNatClampNeg)) μ hZ) (fun w0 μ1 H locs hsh hq hP hD hS => ?_)
  obtain ⟨x0, rfl⟩ := m_sh_i hsh rfl
  show W p l e room_1 s m #[Value.ref b] below meth c H locs cells slots (lw_Z below #[Value.ref b] s) (F0 m 540 ls [.int x0])
  refine lv_aload_n hx hb (lw_dec rfl) rfl (lv_at hl 2 rfl) ?_
  refine lv_aload_n hx hb (lw_dec rfl) rfl (lv_at hl 0 rfl) ?_
  refine lv_iload_n hx hb (lw_dec rfl) rfl (lv_at hl 3 rfl) ?_
  refine lv_iconst (v := 1) hx hb (lw_dec rfl) (by decide) ?_
  refine lv_iadd hx hb (lw_dec rfl) ?_
  refine va_sld hx hb hX hbl hbA hS h1 (lw_dec rfl) ?_
  refine lv_aload_n hx hb (lw_dec rfl) rfl (lv_at hl 0 rfl) ?_
  refine lv_iload_n hx hb (lw_dec rfl) rfl (lv_at hl 3 rfl) ?_
  refine lv_iconst (v := 2) hx hb (lw_dec rfl) (by decide) ?_
  refine lv_iadd hx hb (lw_dec rfl) ?_
  refine va_sld hx hb hX hbl hbA hS h2 (lw_dec rfl) ?_
  refine lw_cv (f := 117) (idx := 65) (b := 77) (sl := 3) (As := [.int (xs (nI i + 1).toNatClampNeg), .int (xs (nI i + 2).toNatClampNeg)]) (rest := [.int x0]) C0 hSt hE hcs hl.1 (by decide) rfl rfl (Nat.le_of_ble_eq_true rfl) rfl (lw_dec rfl) hP hD hS hq (fun w1 μ2 H locs hsh hq hP hD hS => ?_)
  obtain ⟨rfl, hZ2⟩ := hq
  show W p l e room_1 s m #[Value.ref b] below meth c H locs cells slots (lw_Z below #[Value.ref b] s) (F0 m 554 ls [.int x0, .int x0])
  refine lv_icmp_eq (tgt := 984) hx hb (lw_dec rfl) (by decide) (fun _ => ?_) (fun q => absurd rfl q)
  exact nx _ _ _ hZ2 hP hD hS
set_option maxRecDepth 100000 in
theorem lw_c11 (hL : L ≤ 2048) (C0 : lw_At p s m meth c b L xs) (hSt : m_St D ad cA s) (hE : j_S (fun j => ad (1000 + j)) aV (lw_A s) s s.heap) (hcs : cells ≤ 600000 ∧ slots ≤ 7302250) {i : Nat} (hi : i + 3 < L) {μ : m_M} {H : Heap} {locs : List Loc} {ls : Array Slot} (hZ : Z μ) (hP : va_P D g_cls (m_ws ad cA μ) H) (hD : va_D (lw_A s) (m_ws ad cA μ)) (hS : va_S (lw_A s) s.heap H locs) (hl : lv_has ls 4 [(0, .ref b), (1, .ref (ad 0)), (2, .ref (ad 77)), (3, .int (nI i))]) (nx : ∀ (μ2 : m_M) (H2 : Heap) (locs2 : List Loc), Z μ2 → va_P D g_cls (m_ws ad cA μ2) H2 → va_D (lw_A s) (m_ws ad cA μ2) → va_S (lw_A s) s.heap H2 locs2 → W p l e room_1 s m #[Value.ref b] below meth c H2 locs2 cells slots (lw_Z below #[Value.ref b] s) (F0 m 984 ls [])) : W p l e room_1 s m #[Value.ref b] below meth c H locs cells slots (lw_Z below #[Value.ref b] s) (F0 m 559 ls []) := by
  obtain ⟨hx, hb, hr, hml, hown, hts, hX, hbl, hlocks, hgv⟩ := id C0
  have hbA : ¬ lw_A s b := Nat.not_le.mpr hbl
  have h1 : vp_in (nI i + 1) L := by rw [show nI i + (1 : Int32) = nI (i + 1) from nI_add i 1]; exact vp_in_nI (by omega) (by omega)
  have h2 : vp_in (nI i + 2) L := by rw [show nI i + (2 : Int32) = nI (i + 2) from nI_add i 2]; exact vp_in_nI (by omega) (by omega)
  have h3 : vp_in (nI i + 3) L := by rw [show nI i + (3 : Int32) = nI (i + 3) from nI_add i 3]; exact vp_in_nI (by omega) (by omega)
  refine lv_aload_n hx hb (lw_dec rfl) rfl (lv_at hl 1 rfl) ?_
  refine lw_cv (f := 12) (idx := 66) (b := 0) (sl := 1) (As := []) (rest := []) C0 hSt hE hcs hl.1 (by decide) rfl rfl (Nat.le_of_ble_eq_true rfl) rfl (lw_dec rfl) hP hD hS (z_eNamed  μ hZ) (fun w0 μ1 H locs hsh hq hP hD hS => ?_)
  obtain ⟨x0, rfl⟩ := m_sh_i hsh rfl
  show W p l e room_1 s m #[Value.ref b] below meth c H locs cells slots (lw_Z below #[Value.ref b] s) (F0 m 563 ls [.int x0])
  refine lv_aload_n hx hb (lw_dec rfl) rfl (lv_at hl 2 rfl) ?_
  refine lw_cv (f := 118) (idx := 69) (b := 77) (sl := 1) (As := []) (rest := [.int x0]) C0 hSt hE hcs hl.1 (by decide) rfl rfl (Nat.le_of_ble_eq_true rfl) rfl (lw_dec rfl) hP hD hS hq (fun w1 μ2 H locs hsh hq hP hD hS => ?_)
  obtain ⟨rfl, hZ2⟩ := hq
  show W p l e room_1 s m #[Value.ref b] below meth c H locs cells slots (lw_Z below #[Value.ref b] s) (F0 m 567 ls [.int x0, .int x0])
  refine lv_icmp_eq (tgt := 984) hx hb (lw_dec rfl) (by decide) (fun _ => ?_) (fun q => absurd rfl q)
  exact nx _ _ _ hZ2 hP hD hS
set_option maxRecDepth 100000 in
theorem lw_c12 (hL : L ≤ 2048) (C0 : lw_At p s m meth c b L xs) (hSt : m_St D ad cA s) (hE : j_S (fun j => ad (1000 + j)) aV (lw_A s) s s.heap) (hcs : cells ≤ 600000 ∧ slots ≤ 7302250) {i : Nat} (hi : i + 3 < L) {μ : m_M} {H : Heap} {locs : List Loc} {ls : Array Slot} (hZ : Z μ) (hP : va_P D g_cls (m_ws ad cA μ) H) (hD : va_D (lw_A s) (m_ws ad cA μ)) (hS : va_S (lw_A s) s.heap H locs) (hl : lv_has ls 4 [(0, .ref b), (1, .ref (ad 0)), (2, .ref (ad 77)), (3, .int (nI i))]) (nx : ∀ (μ2 : m_M) (H2 : Heap) (locs2 : List Loc), Z μ2 → va_P D g_cls (m_ws ad cA μ2) H2 → va_D (lw_A s) (m_ws ad cA μ2) → va_S (lw_A s) s.heap H2 locs2 → W p l e room_1 s m #[Value.ref b] below meth c H2 locs2 cells slots (lw_Z below #[Value.ref b] s) (F0 m 984 ls [])) : W p l e room_1 s m #[Value.ref b] below meth c H locs cells slots (lw_Z below #[Value.ref b] s) (F0 m 572 ls []) := by
  obtain ⟨hx, hb, hr, hml, hown, hts, hX, hbl, hlocks, hgv⟩ := id C0
  have hbA : ¬ lw_A s b := Nat.not_le.mpr hbl
  have h1 : vp_in (nI i + 1) L := by rw [show nI i + (1 : Int32) = nI (i + 1) from nI_add i 1]; exact vp_in_nI (by omega) (by omega)
  have h2 : vp_in (nI i + 2) L := by rw [show nI i + (2 : Int32) = nI (i + 2) from nI_add i 2]; exact vp_in_nI (by omega) (by omega)
  have h3 : vp_in (nI i + 3) L := by rw [show nI i + (3 : Int32) = nI (i + 3) from nI_add i 3]; exact vp_in_nI (by omega) (by omega)
  refine lv_aload_n hx hb (lw_dec rfl) rfl (lv_at hl 1 rfl) ?_
  refine lv_aload_n hx hb (lw_dec rfl) rfl (lv_at hl 0 rfl) ?_
  refine lv_iload_n hx hb (lw_dec rfl) rfl (lv_at hl 3 rfl) ?_
  refine lv_iconst (v := 1) hx hb (lw_dec rfl) (by decide) ?_
  refine lv_iadd hx hb (lw_dec rfl) ?_
  refine va_sld hx hb hX hbl hbA hS h1 (lw_dec rfl) ?_
  refine lv_aload_n hx hb (lw_dec rfl) rfl (lv_at hl 0 rfl) ?_
  refine lv_iload_n hx hb (lw_dec rfl) rfl (lv_at hl 3 rfl) ?_
  refine lv_iconst (v := 2) hx hb (lw_dec rfl) (by decide) ?_
  refine lv_iadd hx hb (lw_dec rfl) ?_
  refine va_sld hx hb hX hbl hbA hS h2 (lw_dec rfl) ?_
  refine lv_aload_n hx hb (lw_dec rfl) rfl (lv_at hl 0 rfl) ?_
  refine lv_iload_n hx hb (lw_dec rfl) rfl (lv_at hl 3 rfl) ?_
  refine lv_iconst (v := 3) hx hb (lw_dec rfl) (by decide) ?_
  refine lv_iadd hx hb (lw_dec rfl) ?_
  refine va_sld hx hb hX hbl hbA hS h3 (lw_dec rfl) ?_
  refine lw_cv (f := 13) (idx := 70) (b := 0) (sl := 4) (As := [.int (xs (nI i + 1).toNatClampNeg), .int (xs (nI i + 2).toNatClampNeg), .int (xs (nI i + 3).toNatClampNeg)]) (rest := []) C0 hSt hE hcs hl.1 (by decide) rfl rfl (Nat.le_of_ble_eq_true rfl) rfl (lw_dec rfl) hP hD hS (z_setValve ((xs (nI i + 1).toNatClampNeg)) ((xs (nI i + 2).toNatClampNeg)) ((xs (nI i + 3).toNatClampNeg)) μ hZ) (fun w0 μ1 H locs hsh hq hP hD hS => ?_)
  obtain ⟨x0, rfl⟩ := m_sh_i hsh rfl
  show W p l e room_1 s m #[Value.ref b] below meth c H locs cells slots (lw_Z below #[Value.ref b] s) (F0 m 591 ls [.int x0])
  refine lv_aload_n hx hb (lw_dec rfl) rfl (lv_at hl 2 rfl) ?_
  refine lv_aload_n hx hb (lw_dec rfl) rfl (lv_at hl 0 rfl) ?_
  refine lv_iload_n hx hb (lw_dec rfl) rfl (lv_at hl 3 rfl) ?_
  refine lv_iconst (v := 1) hx hb (lw_dec rfl) (by decide) ?_
  refine lv_iadd hx hb (lw_dec rfl) ?_
  refine va_sld hx hb hX hbl hbA hS h1 (lw_dec rfl) ?_
  refine lv_aload_n hx hb (lw_dec rfl) rfl (lv_at hl 0 rfl) ?_
  refine lv_iload_n hx hb (lw_dec rfl) rfl (lv_at hl 3 rfl) ?_
  refine lv_iconst (v := 2) hx hb (lw_dec rfl) (by decide) ?_
  refine lv_iadd hx hb (lw_dec rfl) ?_
  refine va_sld hx hb hX hbl hbA hS h2 (lw_dec rfl) ?_
  refine lv_aload_n hx hb (lw_dec rfl) rfl (lv_at hl 0 rfl) ?_
  refine lv_iload_n hx hb (lw_dec rfl) rfl (lv_at hl 3 rfl) ?_
  refine lv_iconst (v := 3) hx hb (lw_dec rfl) (by decide) ?_
  refine lv_iadd hx hb (lw_dec rfl) ?_
  refine va_sld hx hb hX hbl hbA hS h3 (lw_dec rfl) ?_
  refine lw_cv (f := 119) (idx := 73) (b := 77) (sl := 4) (As := [.int (xs (nI i + 1).toNatClampNeg), .int (xs (nI i + 2).toNatClampNeg), .int (xs (nI i + 3).toNatClampNeg)]) (rest := [.int x0]) C0 hSt hE hcs hl.1 (by decide) rfl rfl (Nat.le_of_ble_eq_true rfl) rfl (lw_dec rfl) hP hD hS hq (fun w1 μ2 H locs hsh hq hP hD hS => ?_)
  obtain ⟨rfl, hZ2⟩ := hq
  show W p l e room_1 s m #[Value.ref b] below meth c H locs cells slots (lw_Z below #[Value.ref b] s) (F0 m 610 ls [.int x0, .int x0])
  refine lv_icmp_eq (tgt := 984) hx hb (lw_dec rfl) (by decide) (fun _ => ?_) (fun q => absurd rfl q)
  exact nx _ _ _ hZ2 hP hD hS
set_option maxRecDepth 100000 in
theorem lw_c13 (hL : L ≤ 2048) (C0 : lw_At p s m meth c b L xs) (hSt : m_St D ad cA s) (hE : j_S (fun j => ad (1000 + j)) aV (lw_A s) s s.heap) (hcs : cells ≤ 600000 ∧ slots ≤ 7302250) {i : Nat} (hi : i + 3 < L) {μ : m_M} {H : Heap} {locs : List Loc} {ls : Array Slot} (hZ : Z μ) (hP : va_P D g_cls (m_ws ad cA μ) H) (hD : va_D (lw_A s) (m_ws ad cA μ)) (hS : va_S (lw_A s) s.heap H locs) (hl : lv_has ls 4 [(0, .ref b), (1, .ref (ad 0)), (2, .ref (ad 77)), (3, .int (nI i))]) (nx : ∀ (μ2 : m_M) (H2 : Heap) (locs2 : List Loc), Z μ2 → va_P D g_cls (m_ws ad cA μ2) H2 → va_D (lw_A s) (m_ws ad cA μ2) → va_S (lw_A s) s.heap H2 locs2 → W p l e room_1 s m #[Value.ref b] below meth c H2 locs2 cells slots (lw_Z below #[Value.ref b] s) (F0 m 984 ls [])) : W p l e room_1 s m #[Value.ref b] below meth c H locs cells slots (lw_Z below #[Value.ref b] s) (F0 m 615 ls []) := by
  obtain ⟨hx, hb, hr, hml, hown, hts, hX, hbl, hlocks, hgv⟩ := id C0
  have hbA : ¬ lw_A s b := Nat.not_le.mpr hbl
  have h1 : vp_in (nI i + 1) L := by rw [show nI i + (1 : Int32) = nI (i + 1) from nI_add i 1]; exact vp_in_nI (by omega) (by omega)
  have h2 : vp_in (nI i + 2) L := by rw [show nI i + (2 : Int32) = nI (i + 2) from nI_add i 2]; exact vp_in_nI (by omega) (by omega)
  have h3 : vp_in (nI i + 3) L := by rw [show nI i + (3 : Int32) = nI (i + 3) from nI_add i 3]; exact vp_in_nI (by omega) (by omega)
  refine lv_aload_n hx hb (lw_dec rfl) rfl (lv_at hl 1 rfl) ?_
  refine lv_aload_n hx hb (lw_dec rfl) rfl (lv_at hl 0 rfl) ?_
  refine lv_iload_n hx hb (lw_dec rfl) rfl (lv_at hl 3 rfl) ?_
  refine lv_iconst (v := 1) hx hb (lw_dec rfl) (by decide) ?_
  refine lv_iadd hx hb (lw_dec rfl) ?_
  refine va_sld hx hb hX hbl hbA hS h1 (lw_dec rfl) ?_
  refine lw_cv (f := 14) (idx := 74) (b := 0) (sl := 2) (As := [.int (xs (nI i + 1).toNatClampNeg)]) (rest := []) C0 hSt hE hcs hl.1 (by decide) rfl rfl (Nat.le_of_ble_eq_true rfl) rfl (lw_dec rfl) hP hD hS (z_used ((xs (nI i + 1).toNatClampNeg)) μ hZ) (fun w0 μ1 H locs hsh hq hP hD hS => ?_)
  obtain ⟨x0, rfl⟩ := m_sh_l hsh rfl
  show W p l e room_1 s m #[Value.ref b] below meth c H locs cells slots (lw_Z below #[Value.ref b] s) (F0 m 624 ls [.long x0])
  refine lv_aload_n hx hb (lw_dec rfl) rfl (lv_at hl 2 rfl) ?_
  refine lv_aload_n hx hb (lw_dec rfl) rfl (lv_at hl 0 rfl) ?_
  refine lv_iload_n hx hb (lw_dec rfl) rfl (lv_at hl 3 rfl) ?_
  refine lv_iconst (v := 1) hx hb (lw_dec rfl) (by decide) ?_
  refine lv_iadd hx hb (lw_dec rfl) ?_
  refine va_sld hx hb hX hbl hbA hS h1 (lw_dec rfl) ?_
  refine lw_cv (f := 120) (idx := 78) (b := 77) (sl := 2) (As := [.int (xs (nI i + 1).toNatClampNeg)]) (rest := [.long x0]) C0 hSt hE hcs hl.1 (by decide) rfl rfl (Nat.le_of_ble_eq_true rfl) rfl (lw_dec rfl) hP hD hS hq (fun w1 μ2 H locs hsh hq hP hD hS => ?_)
  obtain ⟨rfl, hZ2⟩ := hq
  show W p l e room_1 s m #[Value.ref b] below meth c H locs cells slots (lw_Z below #[Value.ref b] s) (F0 m 633 ls [.long x0, .long x0])
  refine W.lcmp hx hb (lw_dec rfl) ?_
  refine lv_if_eq (tgt := 984) hx hb (lw_dec rfl) (by decide) (fun _ => ?_) (fun q => absurd (lc_eq.mpr rfl) q)
  exact nx _ _ _ hZ2 hP hD hS
set_option maxRecDepth 100000 in
theorem lw_c14 (hL : L ≤ 2048) (C0 : lw_At p s m meth c b L xs) (hSt : m_St D ad cA s) (hE : j_S (fun j => ad (1000 + j)) aV (lw_A s) s s.heap) (hcs : cells ≤ 600000 ∧ slots ≤ 7302250) {i : Nat} (hi : i + 3 < L) {μ : m_M} {H : Heap} {locs : List Loc} {ls : Array Slot} (hZ : Z μ) (hP : va_P D g_cls (m_ws ad cA μ) H) (hD : va_D (lw_A s) (m_ws ad cA μ)) (hS : va_S (lw_A s) s.heap H locs) (hl : lv_has ls 4 [(0, .ref b), (1, .ref (ad 0)), (2, .ref (ad 77)), (3, .int (nI i))]) (nx : ∀ (μ2 : m_M) (H2 : Heap) (locs2 : List Loc), Z μ2 → va_P D g_cls (m_ws ad cA μ2) H2 → va_D (lw_A s) (m_ws ad cA μ2) → va_S (lw_A s) s.heap H2 locs2 → W p l e room_1 s m #[Value.ref b] below meth c H2 locs2 cells slots (lw_Z below #[Value.ref b] s) (F0 m 984 ls [])) : W p l e room_1 s m #[Value.ref b] below meth c H locs cells slots (lw_Z below #[Value.ref b] s) (F0 m 639 ls []) := by
  obtain ⟨hx, hb, hr, hml, hown, hts, hX, hbl, hlocks, hgv⟩ := id C0
  have hbA : ¬ lw_A s b := Nat.not_le.mpr hbl
  have h1 : vp_in (nI i + 1) L := by rw [show nI i + (1 : Int32) = nI (i + 1) from nI_add i 1]; exact vp_in_nI (by omega) (by omega)
  have h2 : vp_in (nI i + 2) L := by rw [show nI i + (2 : Int32) = nI (i + 2) from nI_add i 2]; exact vp_in_nI (by omega) (by omega)
  have h3 : vp_in (nI i + 3) L := by rw [show nI i + (3 : Int32) = nI (i + 3) from nI_add i 3]; exact vp_in_nI (by omega) (by omega)
  refine lv_aload_n hx hb (lw_dec rfl) rfl (lv_at hl 1 rfl) ?_
  refine lv_aload_n hx hb (lw_dec rfl) rfl (lv_at hl 0 rfl) ?_
  refine lv_iload_n hx hb (lw_dec rfl) rfl (lv_at hl 3 rfl) ?_
  refine lv_iconst (v := 1) hx hb (lw_dec rfl) (by decide) ?_
  refine lv_iadd hx hb (lw_dec rfl) ?_
  refine va_sld hx hb hX hbl hbA hS h1 (lw_dec rfl) ?_
  refine lw_cv (f := 15) (idx := 79) (b := 0) (sl := 2) (As := [.int (xs (nI i + 1).toNatClampNeg)]) (rest := []) C0 hSt hE hcs hl.1 (by decide) rfl rfl (Nat.le_of_ble_eq_true rfl) rfl (lw_dec rfl) hP hD hS (z_delivered ((xs (nI i + 1).toNatClampNeg)) μ hZ) (fun w0 μ1 H locs hsh hq hP hD hS => ?_)
  obtain ⟨x0, rfl⟩ := m_sh_l hsh rfl
  show W p l e room_1 s m #[Value.ref b] below meth c H locs cells slots (lw_Z below #[Value.ref b] s) (F0 m 648 ls [.long x0])
  refine lv_aload_n hx hb (lw_dec rfl) rfl (lv_at hl 2 rfl) ?_
  refine lv_aload_n hx hb (lw_dec rfl) rfl (lv_at hl 0 rfl) ?_
  refine lv_iload_n hx hb (lw_dec rfl) rfl (lv_at hl 3 rfl) ?_
  refine lv_iconst (v := 1) hx hb (lw_dec rfl) (by decide) ?_
  refine lv_iadd hx hb (lw_dec rfl) ?_
  refine va_sld hx hb hX hbl hbA hS h1 (lw_dec rfl) ?_
  refine lw_cv (f := 121) (idx := 82) (b := 77) (sl := 2) (As := [.int (xs (nI i + 1).toNatClampNeg)]) (rest := [.long x0]) C0 hSt hE hcs hl.1 (by decide) rfl rfl (Nat.le_of_ble_eq_true rfl) rfl (lw_dec rfl) hP hD hS hq (fun w1 μ2 H locs hsh hq hP hD hS => ?_)
  obtain ⟨rfl, hZ2⟩ := hq
  show W p l e room_1 s m #[Value.ref b] below meth c H locs cells slots (lw_Z below #[Value.ref b] s) (F0 m 657 ls [.long x0, .long x0])
  refine W.lcmp hx hb (lw_dec rfl) ?_
  refine lv_if_eq (tgt := 984) hx hb (lw_dec rfl) (by decide) (fun _ => ?_) (fun q => absurd (lc_eq.mpr rfl) q)
  exact nx _ _ _ hZ2 hP hD hS
set_option maxRecDepth 100000 in
theorem lw_c15 (hL : L ≤ 2048) (C0 : lw_At p s m meth c b L xs) (hSt : m_St D ad cA s) (hE : j_S (fun j => ad (1000 + j)) aV (lw_A s) s s.heap) (hcs : cells ≤ 600000 ∧ slots ≤ 7302250) {i : Nat} (hi : i + 3 < L) {μ : m_M} {H : Heap} {locs : List Loc} {ls : Array Slot} (hZ : Z μ) (hP : va_P D g_cls (m_ws ad cA μ) H) (hD : va_D (lw_A s) (m_ws ad cA μ)) (hS : va_S (lw_A s) s.heap H locs) (hl : lv_has ls 4 [(0, .ref b), (1, .ref (ad 0)), (2, .ref (ad 77)), (3, .int (nI i))]) (nx : ∀ (μ2 : m_M) (H2 : Heap) (locs2 : List Loc), Z μ2 → va_P D g_cls (m_ws ad cA μ2) H2 → va_D (lw_A s) (m_ws ad cA μ2) → va_S (lw_A s) s.heap H2 locs2 → W p l e room_1 s m #[Value.ref b] below meth c H2 locs2 cells slots (lw_Z below #[Value.ref b] s) (F0 m 984 ls [])) : W p l e room_1 s m #[Value.ref b] below meth c H locs cells slots (lw_Z below #[Value.ref b] s) (F0 m 663 ls []) := by
  obtain ⟨hx, hb, hr, hml, hown, hts, hX, hbl, hlocks, hgv⟩ := id C0
  have hbA : ¬ lw_A s b := Nat.not_le.mpr hbl
  have h1 : vp_in (nI i + 1) L := by rw [show nI i + (1 : Int32) = nI (i + 1) from nI_add i 1]; exact vp_in_nI (by omega) (by omega)
  have h2 : vp_in (nI i + 2) L := by rw [show nI i + (2 : Int32) = nI (i + 2) from nI_add i 2]; exact vp_in_nI (by omega) (by omega)
  have h3 : vp_in (nI i + 3) L := by rw [show nI i + (3 : Int32) = nI (i + 3) from nI_add i 3]; exact vp_in_nI (by omega) (by omega)
  refine lv_aload_n hx hb (lw_dec rfl) rfl (lv_at hl 1 rfl) ?_
  refine lv_aload_n hx hb (lw_dec rfl) rfl (lv_at hl 0 rfl) ?_
  refine lv_iload_n hx hb (lw_dec rfl) rfl (lv_at hl 3 rfl) ?_
  refine lv_iconst (v := 1) hx hb (lw_dec rfl) (by decide) ?_
  refine lv_iadd hx hb (lw_dec rfl) ?_
  refine va_sld hx hb hX hbl hbA hS h1 (lw_dec rfl) ?_
  refine lw_cv (f := 16) (idx := 83) (b := 0) (sl := 2) (As := [.int (xs (nI i + 1).toNatClampNeg)]) (rest := []) C0 hSt hE hcs hl.1 (by decide) rfl rfl (Nat.le_of_ble_eq_true rfl) rfl (lw_dec rfl) hP hD hS (z_ignite ((xs (nI i + 1).toNatClampNeg)) μ hZ) (fun w0 μ1 H locs hsh hq hP hD hS => ?_)
  obtain ⟨x0, rfl⟩ := m_sh_i hsh rfl
  show W p l e room_1 s m #[Value.ref b] below meth c H locs cells slots (lw_Z below #[Value.ref b] s) (F0 m 672 ls [.int x0])
  refine lv_aload_n hx hb (lw_dec rfl) rfl (lv_at hl 2 rfl) ?_
  refine lv_aload_n hx hb (lw_dec rfl) rfl (lv_at hl 0 rfl) ?_
  refine lv_iload_n hx hb (lw_dec rfl) rfl (lv_at hl 3 rfl) ?_
  refine lv_iconst (v := 1) hx hb (lw_dec rfl) (by decide) ?_
  refine lv_iadd hx hb (lw_dec rfl) ?_
  refine va_sld hx hb hX hbl hbA hS h1 (lw_dec rfl) ?_
  refine lw_cv (f := 122) (idx := 86) (b := 77) (sl := 2) (As := [.int (xs (nI i + 1).toNatClampNeg)]) (rest := [.int x0]) C0 hSt hE hcs hl.1 (by decide) rfl rfl (Nat.le_of_ble_eq_true rfl) rfl (lw_dec rfl) hP hD hS hq (fun w1 μ2 H locs hsh hq hP hD hS => ?_)
  obtain ⟨rfl, hZ2⟩ := hq
  show W p l e room_1 s m #[Value.ref b] below meth c H locs cells slots (lw_Z below #[Value.ref b] s) (F0 m 681 ls [.int x0, .int x0])
  refine lv_icmp_eq (tgt := 984) hx hb (lw_dec rfl) (by decide) (fun _ => ?_) (fun q => absurd rfl q)
  exact nx _ _ _ hZ2 hP hD hS
end CS
