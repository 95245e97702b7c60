/-! THE LAW: its cases -/
section CS
variable {p : Program} {l : Launch} {e : Env} {s : State} {m : MethodId} {below : List Frame} {meth : Method} {c : Code} {cells slots : Nat}
variable {D : va_G} {ad aV : Nat → Nat} {cA : Nat → ClassId} {b L : Nat} {xs : Nat → Int32}
set_option maxRecDepth 100000 in
theorem lw_c16 (hL : L ≤ 2048) (C0 : lw_At p s m meth c b L xs) (hSt : m_St D ad cA s) (hE : j_S (fun j => ad (1000 + j)) aV (lw_A s) s s.heap) (hcs : cells ≤ 600000 ∧ slots ≤ 7302250) {i : Nat} (hi : i + 3 < L) {μ : m_M} {H : Heap} {locs : List Loc} {ls : Array Slot} (hZ : Z μ) (hP : va_P D g_cls (m_ws ad cA μ) H) (hD : va_D (lw_A s) (m_ws ad cA μ)) (hS : va_S (lw_A s) s.heap H locs) (hl : lv_has ls 4 [(0, .ref b), (1, .ref (ad 0)), (2, .ref (ad 77)), (3, .int (nI i))]) (nx : ∀ (μ2 : m_M) (H2 : Heap) (locs2 : List Loc), Z μ2 → va_P D g_cls (m_ws ad cA μ2) H2 → va_D (lw_A s) (m_ws ad cA μ2) → va_S (lw_A s) s.heap H2 locs2 → W p l e room_1 s m #[Value.ref b] below meth c H2 locs2 cells slots (lw_Z below #[Value.ref b] s) (F0 m 984 ls [])) : W p l e room_1 s m #[Value.ref b] below meth c H locs cells slots (lw_Z below #[Value.ref b] s) (F0 m 686 ls []) := by
  obtain ⟨hx, hb, hr, hml, hown, hts, hX, hbl, hlocks, hgv⟩ := id C0
  have hbA : ¬ lw_A s b := Nat.not_le.mpr hbl
  have h1 : vp_in (nI i + 1) L := by rw [show nI i + (1 : Int32) = nI (i + 1) from nI_add i 1]; exact vp_in_nI (by omega) (by omega)
  have h2 : vp_in (nI i + 2) L := by rw [show nI i + (2 : Int32) = nI (i + 2) from nI_add i 2]; exact vp_in_nI (by omega) (by omega)
  have h3 : vp_in (nI i + 3) L := by rw [show nI i + (3 : Int32) = nI (i + 3) from nI_add i 3]; exact vp_in_nI (by omega) (by omega)
  refine lv_aload_n hx hb (lw_dec rfl) rfl (lv_at hl 1 rfl) ?_
  refine lw_cv (f := 17) (idx := 87) (b := 0) (sl := 1) (As := []) (rest := []) C0 hSt hE hcs hl.1 (by decide) rfl rfl (Nat.le_of_ble_eq_true rfl) rfl (lw_dec rfl) hP hD hS (z_cutoff  μ hZ) (fun w0 μ1 H locs hsh hq hP hD hS => ?_)
  obtain ⟨x0, rfl⟩ := m_sh_i hsh rfl
  show W p l e room_1 s m #[Value.ref b] below meth c H locs cells slots (lw_Z below #[Value.ref b] s) (F0 m 690 ls [.int x0])
  refine lv_aload_n hx hb (lw_dec rfl) rfl (lv_at hl 2 rfl) ?_
  refine lw_cv (f := 123) (idx := 90) (b := 77) (sl := 1) (As := []) (rest := [.int x0]) C0 hSt hE hcs hl.1 (by decide) rfl rfl (Nat.le_of_ble_eq_true rfl) rfl (lw_dec rfl) hP hD hS hq (fun w1 μ2 H locs hsh hq hP hD hS => ?_)
  obtain ⟨rfl, hZ2⟩ := hq
  show W p l e room_1 s m #[Value.ref b] below meth c H locs cells slots (lw_Z below #[Value.ref b] s) (F0 m 694 ls [.int x0, .int x0])
  refine lv_icmp_eq (tgt := 984) hx hb (lw_dec rfl) (by decide) (fun _ => ?_) (fun q => absurd rfl q)
  exact nx _ _ _ hZ2 hP hD hS
set_option maxRecDepth 100000 in
theorem lw_c17 (hL : L ≤ 2048) (C0 : lw_At p s m meth c b L xs) (hSt : m_St D ad cA s) (hE : j_S (fun j => ad (1000 + j)) aV (lw_A s) s s.heap) (hcs : cells ≤ 600000 ∧ slots ≤ 7302250) {i : Nat} (hi : i + 3 < L) {μ : m_M} {H : Heap} {locs : List Loc} {ls : Array Slot} (hZ : Z μ) (hP : va_P D g_cls (m_ws ad cA μ) H) (hD : va_D (lw_A s) (m_ws ad cA μ)) (hS : va_S (lw_A s) s.heap H locs) (hl : lv_has ls 4 [(0, .ref b), (1, .ref (ad 0)), (2, .ref (ad 77)), (3, .int (nI i))]) (nx : ∀ (μ2 : m_M) (H2 : Heap) (locs2 : List Loc), Z μ2 → va_P D g_cls (m_ws ad cA μ2) H2 → va_D (lw_A s) (m_ws ad cA μ2) → va_S (lw_A s) s.heap H2 locs2 → W p l e room_1 s m #[Value.ref b] below meth c H2 locs2 cells slots (lw_Z below #[Value.ref b] s) (F0 m 984 ls [])) : W p l e room_1 s m #[Value.ref b] below meth c H locs cells slots (lw_Z below #[Value.ref b] s) (F0 m 699 ls []) := by
  obtain ⟨hx, hb, hr, hml, hown, hts, hX, hbl, hlocks, hgv⟩ := id C0
  have hbA : ¬ lw_A s b := Nat.not_le.mpr hbl
  have h1 : vp_in (nI i + 1) L := by rw [show nI i + (1 : Int32) = nI (i + 1) from nI_add i 1]; exact vp_in_nI (by omega) (by omega)
  have h2 : vp_in (nI i + 2) L := by rw [show nI i + (2 : Int32) = nI (i + 2) from nI_add i 2]; exact vp_in_nI (by omega) (by omega)
  have h3 : vp_in (nI i + 3) L := by rw [show nI i + (3 : Int32) = nI (i + 3) from nI_add i 3]; exact vp_in_nI (by omega) (by omega)
  refine lv_aload_n hx hb (lw_dec rfl) rfl (lv_at hl 1 rfl) ?_
  refine lv_aload_n hx hb (lw_dec rfl) rfl (lv_at hl 0 rfl) ?_
  refine lv_iload_n hx hb (lw_dec rfl) rfl (lv_at hl 3 rfl) ?_
  refine lv_iconst (v := 1) hx hb (lw_dec rfl) (by decide) ?_
  refine lv_iadd hx hb (lw_dec rfl) ?_
  refine va_sld hx hb hX hbl hbA hS h1 (lw_dec rfl) ?_
  refine lw_cv (f := 18) (idx := 91) (b := 0) (sl := 2) (As := [.int (xs (nI i + 1).toNatClampNeg)]) (rest := []) C0 hSt hE hcs hl.1 (by decide) rfl rfl (Nat.le_of_ble_eq_true rfl) rfl (lw_dec rfl) hP hD hS (z_pass ((xs (nI i + 1).toNatClampNeg)) μ hZ) (fun w0 μ1 H locs hsh hq hP hD hS => ?_)
  obtain ⟨x0, rfl⟩ := m_sh_i hsh rfl
  show W p l e room_1 s m #[Value.ref b] below meth c H locs cells slots (lw_Z below #[Value.ref b] s) (F0 m 708 ls [.int x0])
  refine lv_aload_n hx hb (lw_dec rfl) rfl (lv_at hl 2 rfl) ?_
  refine lv_aload_n hx hb (lw_dec rfl) rfl (lv_at hl 0 rfl) ?_
  refine lv_iload_n hx hb (lw_dec rfl) rfl (lv_at hl 3 rfl) ?_
  refine lv_iconst (v := 1) hx hb (lw_dec rfl) (by decide) ?_
  refine lv_iadd hx hb (lw_dec rfl) ?_
  refine va_sld hx hb hX hbl hbA hS h1 (lw_dec rfl) ?_
  refine lw_cv (f := 128) (idx := 94) (b := 77) (sl := 2) (As := [.int (xs (nI i + 1).toNatClampNeg)]) (rest := [.int x0]) C0 hSt hE hcs hl.1 (by decide) rfl rfl (Nat.le_of_ble_eq_true rfl) rfl (lw_dec rfl) hP hD hS hq (fun w1 μ2 H locs hsh hq hP hD hS => ?_)
  obtain ⟨rfl, hZ2⟩ := hq
  show W p l e room_1 s m #[Value.ref b] below meth c H locs cells slots (lw_Z below #[Value.ref b] s) (F0 m 717 ls [.int x0, .int x0])
  refine lv_icmp_eq (tgt := 984) hx hb (lw_dec rfl) (by decide) (fun _ => ?_) (fun q => absurd rfl q)
  exact nx _ _ _ hZ2 hP hD hS
set_option maxRecDepth 100000 in
theorem lw_c18 (hL : L ≤ 2048) (C0 : lw_At p s m meth c b L xs) (hSt : m_St D ad cA s) (hE : j_S (fun j => ad (1000 + j)) aV (lw_A s) s s.heap) (hcs : cells ≤ 600000 ∧ slots ≤ 7302250) {i : Nat} (hi : i + 3 < L) {μ : m_M} {H : Heap} {locs : List Loc} {ls : Array Slot} (hZ : Z μ) (hP : va_P D g_cls (m_ws ad cA μ) H) (hD : va_D (lw_A s) (m_ws ad cA μ)) (hS : va_S (lw_A s) s.heap H locs) (hl : lv_has ls 4 [(0, .ref b), (1, .ref (ad 0)), (2, .ref (ad 77)), (3, .int (nI i))]) (nx : ∀ (μ2 : m_M) (H2 : Heap) (locs2 : List Loc), Z μ2 → va_P D g_cls (m_ws ad cA μ2) H2 → va_D (lw_A s) (m_ws ad cA μ2) → va_S (lw_A s) s.heap H2 locs2 → W p l e room_1 s m #[Value.ref b] below meth c H2 locs2 cells slots (lw_Z below #[Value.ref b] s) (F0 m 984 ls [])) : W p l e room_1 s m #[Value.ref b] below meth c H locs cells slots (lw_Z below #[Value.ref b] s) (F0 m 722 ls []) := by
  obtain ⟨hx, hb, hr, hml, hown, hts, hX, hbl, hlocks, hgv⟩ := id C0
  have hbA : ¬ lw_A s b := Nat.not_le.mpr hbl
  have h1 : vp_in (nI i + 1) L := by rw [show nI i + (1 : Int32) = nI (i + 1) from nI_add i 1]; exact vp_in_nI (by omega) (by omega)
  have h2 : vp_in (nI i + 2) L := by rw [show nI i + (2 : Int32) = nI (i + 2) from nI_add i 2]; exact vp_in_nI (by omega) (by omega)
  have h3 : vp_in (nI i + 3) L := by rw [show nI i + (3 : Int32) = nI (i + 3) from nI_add i 3]; exact vp_in_nI (by omega) (by omega)
  refine lv_aload_n hx hb (lw_dec rfl) rfl (lv_at hl 1 rfl) ?_
  refine lw_cv (f := 19) (idx := 95) (b := 0) (sl := 1) (As := []) (rest := []) C0 hSt hE hcs hl.1 (by decide) rfl rfl (Nat.le_of_ble_eq_true rfl) rfl (lw_dec rfl) hP hD hS (z_time  μ hZ) (fun w0 μ1 H locs hsh hq hP hD hS => ?_)
  obtain ⟨x0, rfl⟩ := m_sh_i hsh rfl
  show W p l e room_1 s m #[Value.ref b] below meth c H locs cells slots (lw_Z below #[Value.ref b] s) (F0 m 726 ls [.int x0])
  refine lv_aload_n hx hb (lw_dec rfl) rfl (lv_at hl 2 rfl) ?_
  refine lw_cv (f := 129) (idx := 98) (b := 77) (sl := 1) (As := []) (rest := [.int x0]) C0 hSt hE hcs hl.1 (by decide) rfl rfl (Nat.le_of_ble_eq_true rfl) rfl (lw_dec rfl) hP hD hS hq (fun w1 μ2 H locs hsh hq hP hD hS => ?_)
  obtain ⟨rfl, hZ2⟩ := hq
  show W p l e room_1 s m #[Value.ref b] below meth c H locs cells slots (lw_Z below #[Value.ref b] s) (F0 m 730 ls [.int x0, .int x0])
  refine lv_icmp_eq (tgt := 984) hx hb (lw_dec rfl) (by decide) (fun _ => ?_) (fun q => absurd rfl q)
  exact nx _ _ _ hZ2 hP hD hS
set_option maxRecDepth 100000 in
theorem lw_c19 (hL : L ≤ 2048) (C0 : lw_At p s m meth c b L xs) (hSt : m_St D ad cA s) (hE : j_S (fun j => ad (1000 + j)) aV (lw_A s) s s.heap) (hcs : cells ≤ 600000 ∧ slots ≤ 7302250) {i : Nat} (hi : i + 3 < L) {μ : m_M} {H : Heap} {locs : List Loc} {ls : Array Slot} (hZ : Z μ) (hP : va_P D g_cls (m_ws ad cA μ) H) (hD : va_D (lw_A s) (m_ws ad cA μ)) (hS : va_S (lw_A s) s.heap H locs) (hl : lv_has ls 4 [(0, .ref b), (1, .ref (ad 0)), (2, .ref (ad 77)), (3, .int (nI i))]) (nx : ∀ (μ2 : m_M) (H2 : Heap) (locs2 : List Loc), Z μ2 → va_P D g_cls (m_ws ad cA μ2) H2 → va_D (lw_A s) (m_ws ad cA μ2) → va_S (lw_A s) s.heap H2 locs2 → W p l e room_1 s m #[Value.ref b] below meth c H2 locs2 cells slots (lw_Z below #[Value.ref b] s) (F0 m 984 ls [])) : W p l e room_1 s m #[Value.ref b] below meth c H locs cells slots (lw_Z below #[Value.ref b] s) (F0 m 735 ls []) := by
  obtain ⟨hx, hb, hr, hml, hown, hts, hX, hbl, hlocks, hgv⟩ := id C0
  have hbA : ¬ lw_A s b := Nat.not_le.mpr hbl
  have h1 : vp_in (nI i + 1) L := by rw [show nI i + (1 : Int32) = nI (i + 1) from nI_add i 1]; exact vp_in_nI (by omega) (by omega)
  have h2 : vp_in (nI i + 2) L := by rw [show nI i + (2 : Int32) = nI (i + 2) from nI_add i 2]; exact vp_in_nI (by omega) (by omega)
  have h3 : vp_in (nI i + 3) L := by rw [show nI i + (3 : Int32) = nI (i + 3) from nI_add i 3]; exact vp_in_nI (by omega) (by omega)
  refine lv_aload_n hx hb (lw_dec rfl) rfl (lv_at hl 1 rfl) ?_
  refine lv_aload_n hx hb (lw_dec rfl) rfl (lv_at hl 0 rfl) ?_
  refine lv_iload_n hx hb (lw_dec rfl) rfl (lv_at hl 3 rfl) ?_
  refine lv_iconst (v := 1) hx hb (lw_dec rfl) (by decide) ?_
  refine lv_iadd hx hb (lw_dec rfl) ?_
  refine va_sld hx hb hX hbl hbA hS h1 (lw_dec rfl) ?_
  refine lw_cv (f := 20) (idx := 99) (b := 0) (sl := 2) (As := [.int (xs (nI i + 1).toNatClampNeg)]) (rest := []) C0 hSt hE hcs hl.1 (by decide) rfl rfl (Nat.le_of_ble_eq_true rfl) rfl (lw_dec rfl) hP hD hS (z_burn ((xs (nI i + 1).toNatClampNeg)) μ hZ) (fun w0 μ1 H locs hsh hq hP hD hS => ?_)
  obtain ⟨x0, rfl⟩ := m_sh_i hsh rfl
  show W p l e room_1 s m #[Value.ref b] below meth c H locs cells slots (lw_Z below #[Value.ref b] s) (F0 m 744 ls [.int x0])
  refine lv_aload_n hx hb (lw_dec rfl) rfl (lv_at hl 2 rfl) ?_
  refine lv_aload_n hx hb (lw_dec rfl) rfl (lv_at hl 0 rfl) ?_
  refine lv_iload_n hx hb (lw_dec rfl) rfl (lv_at hl 3 rfl) ?_
  refine lv_iconst (v := 1) hx hb (lw_dec rfl) (by decide) ?_
  refine lv_iadd hx hb (lw_dec rfl) ?_
  refine va_sld hx hb hX hbl hbA hS h1 (lw_dec rfl) ?_
  refine lw_cv (f := 131) (idx := 102) (b := 77) (sl := 2) (As := [.int (xs (nI i + 1).toNatClampNeg)]) (rest := [.int x0]) C0 hSt hE hcs hl.1 (by decide) rfl rfl (Nat.le_of_ble_eq_true rfl) rfl (lw_dec rfl) hP hD hS hq (fun w1 μ2 H locs hsh hq hP hD hS => ?_)
  obtain ⟨rfl, hZ2⟩ := hq
  show W p l e room_1 s m #[Value.ref b] below meth c H locs cells slots (lw_Z below #[Value.ref b] s) (F0 m 753 ls [.int x0, .int x0])
  refine lv_icmp_eq (tgt := 984) hx hb (lw_dec rfl) (by decide) (fun _ => ?_) (fun q => absurd rfl q)
  exact nx _ _ _ hZ2 hP hD hS
set_option maxRecDepth 100000 in
theorem lw_c20 (hL : L ≤ 2048) (C0 : lw_At p s m meth c b L xs) (hSt : m_St D ad cA s) (hE : j_S (fun j => ad (1000 + j)) aV (lw_A s) s s.heap) (hcs : cells ≤ 600000 ∧ slots ≤ 7302250) {i : Nat} (hi : i + 3 < L) {μ : m_M} {H : Heap} {locs : List Loc} {ls : Array Slot} (hZ : Z μ) (hP : va_P D g_cls (m_ws ad cA μ) H) (hD : va_D (lw_A s) (m_ws ad cA μ)) (hS : va_S (lw_A s) s.heap H locs) (hl : lv_has ls 4 [(0, .ref b), (1, .ref (ad 0)), (2, .ref (ad 77)), (3, .int (nI i))]) (nx : ∀ (μ2 : m_M) (H2 : Heap) (locs2 : List Loc), Z μ2 → va_P D g_cls (m_ws ad cA μ2) H2 → va_D (lw_A s) (m_ws ad cA μ2) → va_S (lw_A s) s.heap H2 locs2 → W p l e room_1 s m #[Value.ref b] below meth c H2 locs2 cells slots (lw_Z below #[Value.ref b] s) (F0 m 984 ls [])) : W p l e room_1 s m #[Value.ref b] below meth c H locs cells slots (lw_Z below #[Value.ref b] s) (F0 m 758 ls []) := by
  obtain ⟨hx, hb, hr, hml, hown, hts, hX, hbl, hlocks, hgv⟩ := id C0
  have hbA : ¬ lw_A s b := Nat.not_le.mpr hbl
  have h1 : vp_in (nI i + 1) L := by rw [show nI i + (1 : Int32) = nI (i + 1) from nI_add i 1]; exact vp_in_nI (by omega) (by omega)
  have h2 : vp_in (nI i + 2) L := by rw [show nI i + (2 : Int32) = nI (i + 2) from nI_add i 2]; exact vp_in_nI (by omega) (by omega)
  have h3 : vp_in (nI i + 3) L := by rw [show nI i + (3 : Int32) = nI (i + 3) from nI_add i 3]; exact vp_in_nI (by omega) (by omega)
  refine lv_aload_n hx hb (lw_dec rfl) rfl (lv_at hl 1 rfl) ?_
  refine lv_aload_n hx hb (lw_dec rfl) rfl (lv_at hl 0 rfl) ?_
  refine lv_iload_n hx hb (lw_dec rfl) rfl (lv_at hl 3 rfl) ?_
  refine lv_iconst (v := 1) hx hb (lw_dec rfl) (by decide) ?_
  refine lv_iadd hx hb (lw_dec rfl) ?_
  refine va_sld hx hb hX hbl hbA hS h1 (lw_dec rfl) ?_
  refine lv_aload_n hx hb (lw_dec rfl) rfl (lv_at hl 0 rfl) ?_
  refine lv_iload_n hx hb (lw_dec rfl) rfl (lv_at hl 3 rfl) ?_
  refine lv_iconst (v := 2) hx hb (lw_dec rfl) (by decide) ?_
  refine lv_iadd hx hb (lw_dec rfl) ?_
  refine va_sld hx hb hX hbl hbA hS h2 (lw_dec rfl) ?_
  refine lw_cv (f := 21) (idx := 103) (b := 0) (sl := 3) (As := [.int (xs (nI i + 1).toNatClampNeg), .int (xs (nI i + 2).toNatClampNeg)]) (rest := []) C0 hSt hE hcs hl.1 (by decide) rfl rfl (Nat.le_of_ble_eq_true rfl) rfl (lw_dec rfl) hP hD hS (z_read ((xs (nI i + 1).toNatClampNeg)) ((xs (nI i + 2).toNatClampNeg)) μ hZ) (fun w0 μ1 H locs hsh hq hP hD hS => ?_)
  obtain ⟨x0, rfl⟩ := m_sh_i hsh rfl
  show W p l e room_1 s m #[Value.ref b] below meth c H locs cells slots (lw_Z below #[Value.ref b] s) (F0 m 772 ls [.int x0])
  refine lv_aload_n hx hb (lw_dec rfl) rfl (lv_at hl 2 rfl) ?_
  refine lv_aload_n hx hb (lw_dec rfl) rfl (lv_at hl 0 rfl) ?_
  refine lv_iload_n hx hb (lw_dec rfl) rfl (lv_at hl 3 rfl) ?_
  refine lv_iconst (v := 1) hx hb (lw_dec rfl) (by decide) ?_
  refine lv_iadd hx hb (lw_dec rfl) ?_
  refine va_sld hx hb hX hbl hbA hS h1 (lw_dec rfl) ?_
  refine lv_aload_n hx hb (lw_dec rfl) rfl (lv_at hl 0 rfl) ?_
  refine lv_iload_n hx hb (lw_dec rfl) rfl (lv_at hl 3 rfl) ?_
  refine lv_iconst (v := 2) hx hb (lw_dec rfl) (by decide) ?_
  refine lv_iadd hx hb (lw_dec rfl) ?_
  refine va_sld hx hb hX hbl hbA hS h2 (lw_dec rfl) ?_
  refine lw_cv (f := 133) (idx := 106) (b := 77) (sl := 3) (As := [.int (xs (nI i + 1).toNatClampNeg), .int (xs (nI i + 2).toNatClampNeg)]) (rest := [.int x0]) C0 hSt hE hcs hl.1 (by decide) rfl rfl (Nat.le_of_ble_eq_true rfl) rfl (lw_dec rfl) hP hD hS hq (fun w1 μ2 H locs hsh hq hP hD hS => ?_)
  obtain ⟨rfl, hZ2⟩ := hq
  show W p l e room_1 s m #[Value.ref b] below meth c H locs cells slots (lw_Z below #[Value.ref b] s) (F0 m 786 ls [.int x0, .int x0])
  refine lv_icmp_eq (tgt := 984) hx hb (lw_dec rfl) (by decide) (fun _ => ?_) (fun q => absurd rfl q)
  exact nx _ _ _ hZ2 hP hD hS
set_option maxRecDepth 100000 in
theorem lw_c21 (hL : L ≤ 2048) (C0 : lw_At p s m meth c b L xs) (hSt : m_St D ad cA s) (hE : j_S (fun j => ad (1000 + j)) aV (lw_A s) s s.heap) (hcs : cells ≤ 600000 ∧ slots ≤ 7302250) {i : Nat} (hi : i + 3 < L) {μ : m_M} {H : Heap} {locs : List Loc} {ls : Array Slot} (hZ : Z μ) (hP : va_P D g_cls (m_ws ad cA μ) H) (hD : va_D (lw_A s) (m_ws ad cA μ)) (hS : va_S (lw_A s) s.heap H locs) (hl : lv_has ls 4 [(0, .ref b), (1, .ref (ad 0)), (2, .ref (ad 77)), (3, .int (nI i))]) (nx : ∀ (μ2 : m_M) (H2 : Heap) (locs2 : List Loc), Z μ2 → va_P D g_cls (m_ws ad cA μ2) H2 → va_D (lw_A s) (m_ws ad cA μ2) → va_S (lw_A s) s.heap H2 locs2 → W p l e room_1 s m #[Value.ref b] below meth c H2 locs2 cells slots (lw_Z below #[Value.ref b] s) (F0 m 984 ls [])) : W p l e room_1 s m #[Value.ref b] below meth c H locs cells slots (lw_Z below #[Value.ref b] s) (F0 m 791 ls []) := by
  obtain ⟨hx, hb, hr, hml, hown, hts, hX, hbl, hlocks, hgv⟩ := id C0
  have hbA : ¬ lw_A s b := Nat.not_le.mpr hbl
  have h1 : vp_in (nI i + 1) L := by rw [show nI i + (1 : Int32) = nI (i + 1) from nI_add i 1]; exact vp_in_nI (by omega) (by omega)
  have h2 : vp_in (nI i + 2) L := by rw [show nI i + (2 : Int32) = nI (i + 2) from nI_add i 2]; exact vp_in_nI (by omega) (by omega)
  have h3 : vp_in (nI i + 3) L := by rw [show nI i + (3 : Int32) = nI (i + 3) from nI_add i 3]; exact vp_in_nI (by omega) (by omega)
  refine lv_aload_n hx hb (lw_dec rfl) rfl (lv_at hl 1 rfl) ?_
  refine lv_aload_n hx hb (lw_dec rfl) rfl (lv_at hl 0 rfl) ?_
  refine lv_iload_n hx hb (lw_dec rfl) rfl (lv_at hl 3 rfl) ?_
  refine lv_iconst (v := 1) hx hb (lw_dec rfl) (by decide) ?_
  refine lv_iadd hx hb (lw_dec rfl) ?_
  refine va_sld hx hb hX hbl hbA hS h1 (lw_dec rfl) ?_
  refine lw_cv (f := 22) (idx := 107) (b := 0) (sl := 2) (As := [.int (xs (nI i + 1).toNatClampNeg)]) (rest := []) C0 hSt hE hcs hl.1 (by decide) rfl rfl (Nat.le_of_ble_eq_true rfl) rfl (lw_dec rfl) hP hD hS (z_weight ((xs (nI i + 1).toNatClampNeg)) μ hZ) (fun w0 μ1 H locs hsh hq hP hD hS => ?_)
  obtain ⟨x0, rfl⟩ := m_sh_i hsh rfl
  show W p l e room_1 s m #[Value.ref b] below meth c H locs cells slots (lw_Z below #[Value.ref b] s) (F0 m 800 ls [.int x0])
  refine lv_aload_n hx hb (lw_dec rfl) rfl (lv_at hl 2 rfl) ?_
  refine lv_aload_n hx hb (lw_dec rfl) rfl (lv_at hl 0 rfl) ?_
  refine lv_iload_n hx hb (lw_dec rfl) rfl (lv_at hl 3 rfl) ?_
  refine lv_iconst (v := 1) hx hb (lw_dec rfl) (by decide) ?_
  refine lv_iadd hx hb (lw_dec rfl) ?_
  refine va_sld hx hb hX hbl hbA hS h1 (lw_dec rfl) ?_
  refine lw_cv (f := 134) (idx := 110) (b := 77) (sl := 2) (As := [.int (xs (nI i + 1).toNatClampNeg)]) (rest := [.int x0]) C0 hSt hE hcs hl.1 (by decide) rfl rfl (Nat.le_of_ble_eq_true rfl) rfl (lw_dec rfl) hP hD hS hq (fun w1 μ2 H locs hsh hq hP hD hS => ?_)
  obtain ⟨rfl, hZ2⟩ := hq
  show W p l e room_1 s m #[Value.ref b] below meth c H locs cells slots (lw_Z below #[Value.ref b] s) (F0 m 809 ls [.int x0, .int x0])
  refine lv_icmp_eq (tgt := 984) hx hb (lw_dec rfl) (by decide) (fun _ => ?_) (fun q => absurd rfl q)
  exact nx _ _ _ hZ2 hP hD hS
set_option maxRecDepth 100000 in
theorem lw_c22 (hL : L ≤ 2048) (C0 : lw_At p s m meth c b L xs) (hSt : m_St D ad cA s) (hE : j_S (fun j => ad (1000 + j)) aV (lw_A s) s s.heap) (hcs : cells ≤ 600000 ∧ slots ≤ 7302250) {i : Nat} (hi : i + 3 < L) {μ : m_M} {H : Heap} {locs : List Loc} {ls : Array Slot} (hZ : Z μ) (hP : va_P D g_cls (m_ws ad cA μ) H) (hD : va_D (lw_A s) (m_ws ad cA μ)) (hS : va_S (lw_A s) s.heap H locs) (hl : lv_has ls 4 [(0, .ref b), (1, .ref (ad 0)), (2, .ref (ad 77)), (3, .int (nI i))]) (nx : ∀ (μ2 : m_M) (H2 : Heap) (locs2 : List Loc), Z μ2 → va_P D g_cls (m_ws ad cA μ2) H2 → va_D (lw_A s) (m_ws ad cA μ2) → va_S (lw_A s) s.heap H2 locs2 → W p l e room_1 s m #[Value.ref b] below meth c H2 locs2 cells slots (lw_Z below #[Value.ref b] s) (F0 m 984 ls [])) : W p l e room_1 s m #[Value.ref b] below meth c H locs cells slots (lw_Z below #[Value.ref b] s) (F0 m 814 ls []) := by
  obtain ⟨hx, hb, hr, hml, hown, hts, hX, hbl, hlocks, hgv⟩ := id C0
  have hbA : ¬ lw_A s b := Nat.not_le.mpr hbl
  have h1 : vp_in (nI i + 1) L := by rw [show nI i + (1 : Int32) = nI (i + 1) from nI_add i 1]; exact vp_in_nI (by omega) (by omega)
  have h2 : vp_in (nI i + 2) L := by rw [show nI i + (2 : Int32) = nI (i + 2) from nI_add i 2]; exact vp_in_nI (by omega) (by omega)
  have h3 : vp_in (nI i + 3) L := by rw [show nI i + (3 : Int32) = nI (i + 3) from nI_add i 3]; exact vp_in_nI (by omega) (by omega)
  refine lv_aload_n hx hb (lw_dec rfl) rfl (lv_at hl 1 rfl) ?_
  refine lw_cv (f := 23) (idx := 111) (b := 0) (sl := 1) (As := []) (rest := []) C0 hSt hE hcs hl.1 (by decide) rfl rfl (Nat.le_of_ble_eq_true rfl) rfl (lw_dec rfl) hP hD hS (z_entryCount  μ hZ) (fun w0 μ1 H locs hsh hq hP hD hS => ?_)
  obtain ⟨x0, rfl⟩ := m_sh_i hsh rfl
  show W p l e room_1 s m #[Value.ref b] below meth c H locs cells slots (lw_Z below #[Value.ref b] s) (F0 m 818 ls [.int x0])
  refine lv_aload_n hx hb (lw_dec rfl) rfl (lv_at hl 2 rfl) ?_
  refine lw_cv (f := 135) (idx := 114) (b := 77) (sl := 1) (As := []) (rest := [.int x0]) C0 hSt hE hcs hl.1 (by decide) rfl rfl (Nat.le_of_ble_eq_true rfl) rfl (lw_dec rfl) hP hD hS hq (fun w1 μ2 H locs hsh hq hP hD hS => ?_)
  obtain ⟨rfl, hZ2⟩ := hq
  show W p l e room_1 s m #[Value.ref b] below meth c H locs cells slots (lw_Z below #[Value.ref b] s) (F0 m 822 ls [.int x0, .int x0])
  refine lv_icmp_eq (tgt := 984) hx hb (lw_dec rfl) (by decide) (fun _ => ?_) (fun q => absurd rfl q)
  exact nx _ _ _ hZ2 hP hD hS
set_option maxRecDepth 100000 in
theorem lw_c23 (hL : L ≤ 2048) (C0 : lw_At p s m meth c b L xs) (hSt : m_St D ad cA s) (hE : j_S (fun j => ad (1000 + j)) aV (lw_A s) s s.heap) (hcs : cells ≤ 600000 ∧ slots ≤ 7302250) {i : Nat} (hi : i + 3 < L) {μ : m_M} {H : Heap} {locs : List Loc} {ls : Array Slot} (hZ : Z μ) (hP : va_P D g_cls (m_ws ad cA μ) H) (hD : va_D (lw_A s) (m_ws ad cA μ)) (hS : va_S (lw_A s) s.heap H locs) (hl : lv_has ls 4 [(0, .ref b), (1, .ref (ad 0)), (2, .ref (ad 77)), (3, .int (nI i))]) (nx : ∀ (μ2 : m_M) (H2 : Heap) (locs2 : List Loc), Z μ2 → va_P D g_cls (m_ws ad cA μ2) H2 → va_D (lw_A s) (m_ws ad cA μ2) → va_S (lw_A s) s.heap H2 locs2 → W p l e room_1 s m #[Value.ref b] below meth c H2 locs2 cells slots (lw_Z below #[Value.ref b] s) (F0 m 984 ls [])) : W p l e room_1 s m #[Value.ref b] below meth c H locs cells slots (lw_Z below #[Value.ref b] s) (F0 m 827 ls []) := by
  obtain ⟨hx, hb, hr, hml, hown, hts, hX, hbl, hlocks, hgv⟩ := id C0
  have hbA : ¬ lw_A s b := Nat.not_le.mpr hbl
  have h1 : vp_in (nI i + 1) L := by rw [show nI i + (1 : Int32) = nI (i + 1) from nI_add i 1]; exact vp_in_nI (by omega) (by omega)
  have h2 : vp_in (nI i + 2) L := by rw [show nI i + (2 : Int32) = nI (i + 2) from nI_add i 2]; exact vp_in_nI (by omega) (by omega)
  have h3 : vp_in (nI i + 3) L := by rw [show nI i + (3 : Int32) = nI (i + 3) from nI_add i 3]; exact vp_in_nI (by omega) (by omega)
  refine lv_aload_n hx hb (lw_dec rfl) rfl (lv_at hl 1 rfl) ?_
  refine lv_aload_n hx hb (lw_dec rfl) rfl (lv_at hl 0 rfl) ?_
  refine lv_iload_n hx hb (lw_dec rfl) rfl (lv_at hl 3 rfl) ?_
  refine lv_iconst (v := 1) hx hb (lw_dec rfl) (by decide) ?_
  refine lv_iadd hx hb (lw_dec rfl) ?_
  refine va_sld hx hb hX hbl hbA hS h1 (lw_dec rfl) ?_
  refine lv_aload_n hx hb (lw_dec rfl) rfl (lv_at hl 0 rfl) ?_
  refine lv_iload_n hx hb (lw_dec rfl) rfl (lv_at hl 3 rfl) ?_
  refine lv_iconst (v := 2) hx hb (lw_dec rfl) (by decide) ?_
  refine lv_iadd hx hb (lw_dec rfl) ?_
  refine va_sld hx hb hX hbl hbA hS h2 (lw_dec rfl) ?_
  refine lw_cv (f := 24) (idx := 115) (b := 0) (sl := 3) (As := [.int (xs (nI i + 1).toNatClampNeg), .int (xs (nI i + 2).toNatClampNeg)]) (rest := []) C0 hSt hE hcs hl.1 (by decide) rfl rfl (Nat.le_of_ble_eq_true rfl) rfl (lw_dec rfl) hP hD hS (z_entry ((xs (nI i + 1).toNatClampNeg)) ((xs (nI i + 2).toNatClampNeg)) μ hZ) (fun w0 μ1 H locs hsh hq hP hD hS => ?_)
  obtain ⟨x0, rfl⟩ := m_sh_l hsh rfl
  show W p l e room_1 s m #[Value.ref b] below meth c H locs cells slots (lw_Z below #[Value.ref b] s) (F0 m 841 ls [.long x0])
  refine lv_aload_n hx hb (lw_dec rfl) rfl (lv_at hl 2 rfl) ?_
  refine lv_aload_n hx hb (lw_dec rfl) rfl (lv_at hl 0 rfl) ?_
  refine lv_iload_n hx hb (lw_dec rfl) rfl (lv_at hl 3 rfl) ?_
  refine lv_iconst (v := 1) hx hb (lw_dec rfl) (by decide) ?_
  refine lv_iadd hx hb (lw_dec rfl) ?_
  refine va_sld hx hb hX hbl hbA hS h1 (lw_dec rfl) ?_
  refine lv_aload_n hx hb (lw_dec rfl) rfl (lv_at hl 0 rfl) ?_
  refine lv_iload_n hx hb (lw_dec rfl) rfl (lv_at hl 3 rfl) ?_
  refine lv_iconst (v := 2) hx hb (lw_dec rfl) (by decide) ?_
  refine lv_iadd hx hb (lw_dec rfl) ?_
  refine va_sld hx hb hX hbl hbA hS h2 (lw_dec rfl) ?_
  refine lw_cv (f := 136) (idx := 118) (b := 77) (sl := 3) (As := [.int (xs (nI i + 1).toNatClampNeg), .int (xs (nI i + 2).toNatClampNeg)]) (rest := [.long x0]) C0 hSt hE hcs hl.1 (by decide) rfl rfl (Nat.le_of_ble_eq_true rfl) rfl (lw_dec rfl) hP hD hS hq (fun w1 μ2 H locs hsh hq hP hD hS => ?_)
  obtain ⟨rfl, hZ2⟩ := hq
  show W p l e room_1 s m #[Value.ref b] below meth c H locs cells slots (lw_Z below #[Value.ref b] s) (F0 m 855 ls [.long x0, .long x0])
  refine W.lcmp hx hb (lw_dec rfl) ?_
  refine lv_if_eq (tgt := 984) hx hb (lw_dec rfl) (by decide) (fun _ => ?_) (fun q => absurd (lc_eq.mpr rfl) q)
  exact nx _ _ _ hZ2 hP hD hS
set_option maxRecDepth 100000 in
theorem lw_c24 (hL : L ≤ 2048) (C0 : lw_At p s m meth c b L xs) (hSt : m_St D ad cA s) (hE : j_S (fun j => ad (1000 + j)) aV (lw_A s) s s.heap) (hcs : cells ≤ 600000 ∧ slots ≤ 7302250) {i : Nat} (hi : i + 3 < L) {μ : m_M} {H : Heap} {locs : List Loc} {ls : Array Slot} (hZ : Z μ) (hP : va_P D g_cls (m_ws ad cA μ) H) (hD : va_D (lw_A s) (m_ws ad cA μ)) (hS : va_S (lw_A s) s.heap H locs) (hl : lv_has ls 4 [(0, .ref b), (1, .ref (ad 0)), (2, .ref (ad 77)), (3, .int (nI i))]) (nx : ∀ (μ2 : m_M) (H2 : Heap) (locs2 : List Loc), Z μ2 → va_P D g_cls (m_ws ad cA μ2) H2 → va_D (lw_A s) (m_ws ad cA μ2) → va_S (lw_A s) s.heap H2 locs2 → W p l e room_1 s m #[Value.ref b] below meth c H2 locs2 cells slots (lw_Z below #[Value.ref b] s) (F0 m 984 ls [])) : W p l e room_1 s m #[Value.ref b] below meth c H locs cells slots (lw_Z below #[Value.ref b] s) (F0 m 861 ls []) := by
  obtain ⟨hx, hb, hr, hml, hown, hts, hX, hbl, hlocks, hgv⟩ := id C0
  have hbA : ¬ lw_A s b := Nat.not_le.mpr hbl
  have h1 : vp_in (nI i + 1) L := by rw [show nI i + (1 : Int32) = nI (i + 1) from nI_add i 1]; exact vp_in_nI (by omega) (by omega)
  have h2 : vp_in (nI i + 2) L := by rw [show nI i + (2 : Int32) = nI (i + 2) from nI_add i 2]; exact vp_in_nI (by omega) (by omega)
  have h3 : vp_in (nI i + 3) L := by rw [show nI i + (3 : Int32) = nI (i + 3) from nI_add i 3]; exact vp_in_nI (by omega) (by omega)
  refine lv_aload_n hx hb (lw_dec rfl) rfl (lv_at hl 1 rfl) ?_
  refine lv_aload_n hx hb (lw_dec rfl) rfl (lv_at hl 0 rfl) ?_
  refine lv_iload_n hx hb (lw_dec rfl) rfl (lv_at hl 3 rfl) ?_
  refine lv_iconst (v := 1) hx hb (lw_dec rfl) (by decide) ?_
  refine lv_iadd hx hb (lw_dec rfl) ?_
  refine va_sld hx hb hX hbl hbA hS h1 (lw_dec rfl) ?_
  refine lw_cv (f := 25) (idx := 119) (b := 0) (sl := 2) (As := [.int (xs (nI i + 1).toNatClampNeg)]) (rest := []) C0 hSt hE hcs hl.1 (by decide) rfl rfl (Nat.le_of_ble_eq_true rfl) rfl (lw_dec rfl) hP hD hS (z_type ((xs (nI i + 1).toNatClampNeg)) μ hZ) (fun w0 μ1 H locs hsh hq hP hD hS => ?_)
  obtain ⟨x0, rfl⟩ := m_sh_i hsh rfl
  show W p l e room_1 s m #[Value.ref b] below meth c H locs cells slots (lw_Z below #[Value.ref b] s) (F0 m 870 ls [.int x0])
  refine lv_aload_n hx hb (lw_dec rfl) rfl (lv_at hl 2 rfl) ?_
  refine lv_aload_n hx hb (lw_dec rfl) rfl (lv_at hl 0 rfl) ?_
  refine lv_iload_n hx hb (lw_dec rfl) rfl (lv_at hl 3 rfl) ?_
  refine lv_iconst (v := 1) hx hb (lw_dec rfl) (by decide) ?_
  refine lv_iadd hx hb (lw_dec rfl) ?_
  refine va_sld hx hb hX hbl hbA hS h1 (lw_dec rfl) ?_
  refine lw_cv (f := 137) (idx := 122) (b := 77) (sl := 2) (As := [.int (xs (nI i + 1).toNatClampNeg)]) (rest := [.int x0]) C0 hSt hE hcs hl.1 (by decide) rfl rfl (Nat.le_of_ble_eq_true rfl) rfl (lw_dec rfl) hP hD hS hq (fun w1 μ2 H locs hsh hq hP hD hS => ?_)
  obtain ⟨rfl, hZ2⟩ := hq
  show W p l e room_1 s m #[Value.ref b] below meth c H locs cells slots (lw_Z below #[Value.ref b] s) (F0 m 879 ls [.int x0, .int x0])
  refine lv_icmp_eq (tgt := 984) hx hb (lw_dec rfl) (by decide) (fun _ => ?_) (fun q => absurd rfl q)
  exact nx _ _ _ hZ2 hP hD hS
set_option maxRecDepth 100000 in
theorem lw_c25 (hL : L ≤ 2048) (C0 : lw_At p s m meth c b L xs) (hSt : m_St D ad cA s) (hE : j_S (fun j => ad (1000 + j)) aV (lw_A s) s s.heap) (hcs : cells ≤ 600000 ∧ slots ≤ 7302250) {i : Nat} (hi : i + 3 < L) {μ : m_M} {H : Heap} {locs : List Loc} {ls : Array Slot} (hZ : Z μ) (hP : va_P D g_cls (m_ws ad cA μ) H) (hD : va_D (lw_A s) (m_ws ad cA μ)) (hS : va_S (lw_A s) s.heap H locs) (hl : lv_has ls 4 [(0, .ref b), (1, .ref (ad 0)), (2, .ref (ad 77)), (3, .int (nI i))]) (nx : ∀ (μ2 : m_M) (H2 : Heap) (locs2 : List Loc), Z μ2 → va_P D g_cls (m_ws ad cA μ2) H2 → va_D (lw_A s) (m_ws ad cA μ2) → va_S (lw_A s) s.heap H2 locs2 → W p l e room_1 s m #[Value.ref b] below meth c H2 locs2 cells slots (lw_Z below #[Value.ref b] s) (F0 m 984 ls [])) : W p l e room_1 s m #[Value.ref b] below meth c H locs cells slots (lw_Z below #[Value.ref b] s) (F0 m 884 ls []) := by
  obtain ⟨hx, hb, hr, hml, hown, hts, hX, hbl, hlocks, hgv⟩ := id C0
  have hbA : ¬ lw_A s b := Nat.not_le.mpr hbl
  have h1 : vp_in (nI i + 1) L := by rw [show nI i + (1 : Int32) = nI (i + 1) from nI_add i 1]; exact vp_in_nI (by omega) (by omega)
  have h2 : vp_in (nI i + 2) L := by rw [show nI i + (2 : Int32) = nI (i + 2) from nI_add i 2]; exact vp_in_nI (by omega) (by omega)
  have h3 : vp_in (nI i + 3) L := by rw [show nI i + (3 : Int32) = nI (i + 3) from nI_add i 3]; exact vp_in_nI (by omega) (by omega)
  refine lv_aload_n hx hb (lw_dec rfl) rfl (lv_at hl 1 rfl) ?_
  refine lw_cv (f := 26) (idx := 123) (b := 0) (sl := 1) (As := []) (rest := []) C0 hSt hE hcs hl.1 (by decide) rfl rfl (Nat.le_of_ble_eq_true rfl) rfl (lw_dec rfl) hP hD hS (z_clear  μ hZ) (fun w0 μ1 H locs hsh hq hP hD hS => ?_)
  obtain ⟨x0, rfl⟩ := m_sh_i hsh rfl
  show W p l e room_1 s m #[Value.ref b] below meth c H locs cells slots (lw_Z below #[Value.ref b] s) (F0 m 888 ls [.int x0])
  refine lv_aload_n hx hb (lw_dec rfl) rfl (lv_at hl 2 rfl) ?_
  refine lw_cv (f := 138) (idx := 126) (b := 77) (sl := 1) (As := []) (rest := [.int x0]) C0 hSt hE hcs hl.1 (by decide) rfl rfl (Nat.le_of_ble_eq_true rfl) rfl (lw_dec rfl) hP hD hS hq (fun w1 μ2 H locs hsh hq hP hD hS => ?_)
  obtain ⟨rfl, hZ2⟩ := hq
  show W p l e room_1 s m #[Value.ref b] below meth c H locs cells slots (lw_Z below #[Value.ref b] s) (F0 m 892 ls [.int x0, .int x0])
  refine lv_icmp_eq (tgt := 984) hx hb (lw_dec rfl) (by decide) (fun _ => ?_) (fun q => absurd rfl q)
  exact nx _ _ _ hZ2 hP hD hS
set_option maxRecDepth 100000 in
theorem lw_c26 (hL : L ≤ 2048) (C0 : lw_At p s m meth c b L xs) (hSt : m_St D ad cA s) (hE : j_S (fun j => ad (1000 + j)) aV (lw_A s) s s.heap) (hcs : cells ≤ 600000 ∧ slots ≤ 7302250) {i : Nat} (hi : i + 3 < L) {μ : m_M} {H : Heap} {locs : List Loc} {ls : Array Slot} (hZ : Z μ) (hP : va_P D g_cls (m_ws ad cA μ) H) (hD : va_D (lw_A s) (m_ws ad cA μ)) (hS : va_S (lw_A s) s.heap H locs) (hl : lv_has ls 4 [(0, .ref b), (1, .ref (ad 0)), (2, .ref (ad 77)), (3, .int (nI i))]) (nx : ∀ (μ2 : m_M) (H2 : Heap) (locs2 : List Loc), Z μ2 → va_P D g_cls (m_ws ad cA μ2) H2 → va_D (lw_A s) (m_ws ad cA μ2) → va_S (lw_A s) s.heap H2 locs2 → W p l e room_1 s m #[Value.ref b] below meth c H2 locs2 cells slots (lw_Z below #[Value.ref b] s) (F0 m 984 ls [])) : W p l e room_1 s m #[Value.ref b] below meth c H locs cells slots (lw_Z below #[Value.ref b] s) (F0 m 897 ls []) := by
  obtain ⟨hx, hb, hr, hml, hown, hts, hX, hbl, hlocks, hgv⟩ := id C0
  have hbA : ¬ lw_A s b := Nat.not_le.mpr hbl
  have h1 : vp_in (nI i + 1) L := by rw [show nI i + (1 : Int32) = nI (i + 1) from nI_add i 1]; exact vp_in_nI (by omega) (by omega)
  have h2 : vp_in (nI i + 2) L := by rw [show nI i + (2 : Int32) = nI (i + 2) from nI_add i 2]; exact vp_in_nI (by omega) (by omega)
  have h3 : vp_in (nI i + 3) L := by rw [show nI i + (3 : Int32) = nI (i + 3) from nI_add i 3]; exact vp_in_nI (by omega) (by omega)
  refine lv_aload_n hx hb (lw_dec rfl) rfl (lv_at hl 1 rfl) ?_
  refine lw_cv (f := 27) (idx := 127) (b := 0) (sl := 1) (As := []) (rest := []) C0 hSt hE hcs hl.1 (by decide) rfl rfl (Nat.le_of_ble_eq_true rfl) rfl (lw_dec rfl) hP hD hS (z_fault  μ hZ) (fun w0 μ1 H locs hsh hq hP hD hS => ?_)
  obtain ⟨x0, rfl⟩ := m_sh_i hsh rfl
  show W p l e room_1 s m #[Value.ref b] below meth c H locs cells slots (lw_Z below #[Value.ref b] s) (F0 m 901 ls [.int x0])
  refine lv_aload_n hx hb (lw_dec rfl) rfl (lv_at hl 2 rfl) ?_
  refine lw_cv (f := 147) (idx := 130) (b := 77) (sl := 1) (As := []) (rest := [.int x0]) C0 hSt hE hcs hl.1 (by decide) rfl rfl (Nat.le_of_ble_eq_true rfl) rfl (lw_dec rfl) hP hD hS hq (fun w1 μ2 H locs hsh hq hP hD hS => ?_)
  obtain ⟨rfl, hZ2⟩ := hq
  show W p l e room_1 s m #[Value.ref b] below meth c H locs cells slots (lw_Z below #[Value.ref b] s) (F0 m 905 ls [.int x0, .int x0])
  refine lv_icmp_eq (tgt := 984) hx hb (lw_dec rfl) (by decide) (fun _ => ?_) (fun q => absurd rfl q)
  exact nx _ _ _ hZ2 hP hD hS
set_option maxRecDepth 100000 in
theorem lw_c27 (hL : L ≤ 2048) (C0 : lw_At p s m meth c b L xs) (hSt : m_St D ad cA s) (hE : j_S (fun j => ad (1000 + j)) aV (lw_A s) s s.heap) (hcs : cells ≤ 600000 ∧ slots ≤ 7302250) {i : Nat} (hi : i + 3 < L) {μ : m_M} {H : Heap} {locs : List Loc} {ls : Array Slot} (hZ : Z μ) (hP : va_P D g_cls (m_ws ad cA μ) H) (hD : va_D (lw_A s) (m_ws ad cA μ)) (hS : va_S (lw_A s) s.heap H locs) (hl : lv_has ls 4 [(0, .ref b), (1, .ref (ad 0)), (2, .ref (ad 77)), (3, .int (nI i))]) (nx : ∀ (μ2 : m_M) (H2 : Heap) (locs2 : List Loc), Z μ2 → va_P D g_cls (m_ws ad cA μ2) H2 → va_D (lw_A s) (m_ws ad cA μ2) → va_S (lw_A s) s.heap H2 locs2 → W p l e room_1 s m #[Value.ref b] below meth c H2 locs2 cells slots (lw_Z below #[Value.ref b] s) (F0 m 984 ls [])) : W p l e room_1 s m #[Value.ref b] below meth c H locs cells slots (lw_Z below #[Value.ref b] s) (F0 m 910 ls []) := by
  obtain ⟨hx, hb, hr, hml, hown, hts, hX, hbl, hlocks, hgv⟩ := id C0
  have hbA : ¬ lw_A s b := Nat.not_le.mpr hbl
  have h1 : vp_in (nI i + 1) L := by rw [show nI i + (1 : Int32) = nI (i + 1) from nI_add i 1]; exact vp_in_nI (by omega) (by omega)
  have h2 : vp_in (nI i + 2) L := by rw [show nI i + (2 : Int32) = nI (i + 2) from nI_add i 2]; exact vp_in_nI (by omega) (by omega)
  have h3 : vp_in (nI i + 3) L := by rw [show nI i + (3 : Int32) = nI (i + 3) from nI_add i 3]; exact vp_in_nI (by omega) (by omega)
  refine lv_aload_n hx hb (lw_dec rfl) rfl (lv_at hl 1 rfl) ?_
  refine lw_cv (f := 28) (idx := 131) (b := 0) (sl := 1) (As := []) (rest := []) C0 hSt hE hcs hl.1 (by decide) rfl rfl (Nat.le_of_ble_eq_true rfl) rfl (lw_dec rfl) hP hD hS (z_execute  μ hZ) (fun w0 μ1 H locs hsh hq hP hD hS => ?_)
  obtain ⟨x0, rfl⟩ := m_sh_i hsh rfl
  show W p l e room_1 s m #[Value.ref b] below meth c H locs cells slots (lw_Z below #[Value.ref b] s) (F0 m 914 ls [.int x0])
  refine lv_aload_n hx hb (lw_dec rfl) rfl (lv_at hl 2 rfl) ?_
  refine lw_cv (f := 150) (idx := 134) (b := 77) (sl := 1) (As := []) (rest := [.int x0]) C0 hSt hE hcs hl.1 (by decide) rfl rfl (Nat.le_of_ble_eq_true rfl) rfl (lw_dec rfl) hP hD hS hq (fun w1 μ2 H locs hsh hq hP hD hS => ?_)
  obtain ⟨rfl, hZ2⟩ := hq
  show W p l e room_1 s m #[Value.ref b] below meth c H locs cells slots (lw_Z below #[Value.ref b] s) (F0 m 918 ls [.int x0, .int x0])
  refine lv_icmp_eq (tgt := 984) hx hb (lw_dec rfl) (by decide) (fun _ => ?_) (fun q => absurd rfl q)
  exact nx _ _ _ hZ2 hP hD hS
set_option maxRecDepth 100000 in
theorem lw_c28 (hL : L ≤ 2048) (C0 : lw_At p s m meth c b L xs) (hSt : m_St D ad cA s) (hE : j_S (fun j => ad (1000 + j)) aV (lw_A s) s s.heap) (hcs : cells ≤ 600000 ∧ slots ≤ 7302250) {i : Nat} (hi : i + 3 < L) {μ : m_M} {H : Heap} {locs : List Loc} {ls : Array Slot} (hZ : Z μ) (hP : va_P D g_cls (m_ws ad cA μ) H) (hD : va_D (lw_A s) (m_ws ad cA μ)) (hS : va_S (lw_A s) s.heap H locs) (hl : lv_has ls 4 [(0, .ref b), (1, .ref (ad 0)), (2, .ref (ad 77)), (3, .int (nI i))]) (nx : ∀ (μ2 : m_M) (H2 : Heap) (locs2 : List Loc), Z μ2 → va_P D g_cls (m_ws ad cA μ2) H2 → va_D (lw_A s) (m_ws ad cA μ2) → va_S (lw_A s) s.heap H2 locs2 → W p l e room_1 s m #[Value.ref b] below meth c H2 locs2 cells slots (lw_Z below #[Value.ref b] s) (F0 m 984 ls [])) : W p l e room_1 s m #[Value.ref b] below meth c H locs cells slots (lw_Z below #[Value.ref b] s) (F0 m 923 ls []) := by
  obtain ⟨hx, hb, hr, hml, hown, hts, hX, hbl, hlocks, hgv⟩ := id C0
  have hbA : ¬ lw_A s b := Nat.not_le.mpr hbl
  have h1 : vp_in (nI i + 1) L := by rw [show nI i + (1 : Int32) = nI (i + 1) from nI_add i 1]; exact vp_in_nI (by omega) (by omega)
  have h2 : vp_in (nI i + 2) L := by rw [show nI i + (2 : Int32) = nI (i + 2) from nI_add i 2]; exact vp_in_nI (by omega) (by omega)
  have h3 : vp_in (nI i + 3) L := by rw [show nI i + (3 : Int32) = nI (i + 3) from nI_add i 3]; exact vp_in_nI (by omega) (by omega)
  refine lv_aload_n hx hb (lw_dec rfl) rfl (lv_at hl 1 rfl) ?_
  refine lv_aload_n hx hb (lw_dec rfl) rfl (lv_at hl 0 rfl) ?_
  refine lv_iload_n hx hb (lw_dec rfl) rfl (lv_at hl 3 rfl) ?_
  refine lv_iconst (v := 1) hx hb (lw_dec rfl) (by decide) ?_
  refine lv_iadd hx hb (lw_dec rfl) ?_
  refine va_sld hx hb hX hbl hbA hS h1 (lw_dec rfl) ?_
  refine lw_cv (f := 29) (idx := 135) (b := 0) (sl := 2) (As := [.int (xs (nI i + 1).toNatClampNeg)]) (rest := []) C0 hSt hE hcs hl.1 (by decide) rfl rfl (Nat.le_of_ble_eq_true rfl) rfl (lw_dec rfl) hP hD hS (z_longest ((xs (nI i + 1).toNatClampNeg)) μ hZ) (fun w0 μ1 H locs hsh hq hP hD hS => ?_)
  obtain ⟨x0, rfl⟩ := m_sh_i hsh rfl
  show W p l e room_1 s m #[Value.ref b] below meth c H locs cells slots (lw_Z below #[Value.ref b] s) (F0 m 932 ls [.int x0])
  refine lv_aload_n hx hb (lw_dec rfl) rfl (lv_at hl 2 rfl) ?_
  refine lv_aload_n hx hb (lw_dec rfl) rfl (lv_at hl 0 rfl) ?_
  refine lv_iload_n hx hb (lw_dec rfl) rfl (lv_at hl 3 rfl) ?_
  refine lv_iconst (v := 1) hx hb (lw_dec rfl) (by decide) ?_
  refine lv_iadd hx hb (lw_dec rfl) ?_
  refine va_sld hx hb hX hbl hbA hS h1 (lw_dec rfl) ?_
  refine lw_cv (f := 154) (idx := 138) (b := 77) (sl := 2) (As := [.int (xs (nI i + 1).toNatClampNeg)]) (rest := [.int x0]) C0 hSt hE hcs hl.1 (by decide) rfl rfl (Nat.le_of_ble_eq_true rfl) rfl (lw_dec rfl) hP hD hS hq (fun w1 μ2 H locs hsh hq hP hD hS => ?_)
  obtain ⟨rfl, hZ2⟩ := hq
  show W p l e room_1 s m #[Value.ref b] below meth c H locs cells slots (lw_Z below #[Value.ref b] s) (F0 m 941 ls [.int x0, .int x0])
  refine lv_icmp_eq (tgt := 984) hx hb (lw_dec rfl) (by decide) (fun _ => ?_) (fun q => absurd rfl q)
  exact nx _ _ _ hZ2 hP hD hS
set_option maxRecDepth 100000 in
theorem lw_c29 (hL : L ≤ 2048) (C0 : lw_At p s m meth c b L xs) (hSt : m_St D ad cA s) (hE : j_S (fun j => ad (1000 + j)) aV (lw_A s) s s.heap) (hcs : cells ≤ 600000 ∧ slots ≤ 7302250) {i : Nat} (hi : i + 3 < L) {μ : m_M} {H : Heap} {locs : List Loc} {ls : Array Slot} (hZ : Z μ) (hP : va_P D g_cls (m_ws ad cA μ) H) (hD : va_D (lw_A s) (m_ws ad cA μ)) (hS : va_S (lw_A s) s.heap H locs) (hl : lv_has ls 4 [(0, .ref b), (1, .ref (ad 0)), (2, .ref (ad 77)), (3, .int (nI i))]) (nx : ∀ (μ2 : m_M) (H2 : Heap) (locs2 : List Loc), Z μ2 → va_P D g_cls (m_ws ad cA μ2) H2 → va_D (lw_A s) (m_ws ad cA μ2) → va_S (lw_A s) s.heap H2 locs2 → W p l e room_1 s m #[Value.ref b] below meth c H2 locs2 cells slots (lw_Z below #[Value.ref b] s) (F0 m 984 ls [])) : W p l e room_1 s m #[Value.ref b] below meth c H locs cells slots (lw_Z below #[Value.ref b] s) (F0 m 946 ls []) := by
  obtain ⟨hx, hb, hr, hml, hown, hts, hX, hbl, hlocks, hgv⟩ := id C0
  have hbA : ¬ lw_A s b := Nat.not_le.mpr hbl
  have h1 : vp_in (nI i + 1) L := by rw [show nI i + (1 : Int32) = nI (i + 1) from nI_add i 1]; exact vp_in_nI (by omega) (by omega)
  have h2 : vp_in (nI i + 2) L := by rw [show nI i + (2 : Int32) = nI (i + 2) from nI_add i 2]; exact vp_in_nI (by omega) (by omega)
  have h3 : vp_in (nI i + 3) L := by rw [show nI i + (3 : Int32) = nI (i + 3) from nI_add i 3]; exact vp_in_nI (by omega) (by omega)
  refine lv_aload_n hx hb (lw_dec rfl) rfl (lv_at hl 1 rfl) ?_
  refine lw_cv (f := 30) (idx := 139) (b := 0) (sl := 1) (As := []) (rest := []) C0 hSt hE hcs hl.1 (by decide) rfl rfl (Nat.le_of_ble_eq_true rfl) rfl (lw_dec rfl) hP hD hS (z_planned  μ hZ) (fun w0 μ1 H locs hsh hq hP hD hS => ?_)
  obtain ⟨x0, rfl⟩ := m_sh_l hsh rfl
  show W p l e room_1 s m #[Value.ref b] below meth c H locs cells slots (lw_Z below #[Value.ref b] s) (F0 m 950 ls [.long x0])
  refine lv_aload_n hx hb (lw_dec rfl) rfl (lv_at hl 2 rfl) ?_
  refine lw_cv (f := 155) (idx := 143) (b := 77) (sl := 1) (As := []) (rest := [.long x0]) C0 hSt hE hcs hl.1 (by decide) rfl rfl (Nat.le_of_ble_eq_true rfl) rfl (lw_dec rfl) hP hD hS hq (fun w1 μ2 H locs hsh hq hP hD hS => ?_)
  obtain ⟨rfl, hZ2⟩ := hq
  show W p l e room_1 s m #[Value.ref b] below meth c H locs cells slots (lw_Z below #[Value.ref b] s) (F0 m 954 ls [.long x0, .long x0])
  refine W.lcmp hx hb (lw_dec rfl) ?_
  refine lv_if_eq (tgt := 984) hx hb (lw_dec rfl) (by decide) (fun _ => ?_) (fun q => absurd (lc_eq.mpr rfl) q)
  exact nx _ _ _ hZ2 hP hD hS
set_option maxRecDepth 100000 in
theorem lw_c30 (hL : L ≤ 2048) (C0 : lw_At p s m meth c b L xs) (hSt : m_St D ad cA s) (hE : j_S (fun j => ad (1000 + j)) aV (lw_A s) s s.heap) (hcs : cells ≤ 600000 ∧ slots ≤ 7302250) {i : Nat} (hi : i + 3 < L) {μ : m_M} {H : Heap} {locs : List Loc} {ls : Array Slot} (hZ : Z μ) (hP : va_P D g_cls (m_ws ad cA μ) H) (hD : va_D (lw_A s) (m_ws ad cA μ)) (hS : va_S (lw_A s) s.heap H locs) (hl : lv_has ls 4 [(0, .ref b), (1, .ref (ad 0)), (2, .ref (ad 77)), (3, .int (nI i))]) (nx : ∀ (μ2 : m_M) (H2 : Heap) (locs2 : List Loc), Z μ2 → va_P D g_cls (m_ws ad cA μ2) H2 → va_D (lw_A s) (m_ws ad cA μ2) → va_S (lw_A s) s.heap H2 locs2 → W p l e room_1 s m #[Value.ref b] below meth c H2 locs2 cells slots (lw_Z below #[Value.ref b] s) (F0 m 984 ls [])) : W p l e room_1 s m #[Value.ref b] below meth c H locs cells slots (lw_Z below #[Value.ref b] s) (F0 m 960 ls []) := by
  obtain ⟨hx, hb, hr, hml, hown, hts, hX, hbl, hlocks, hgv⟩ := id C0
  have hbA : ¬ lw_A s b := Nat.not_le.mpr hbl
  have h1 : vp_in (nI i + 1) L := by rw [show nI i + (1 : Int32) = nI (i + 1) from nI_add i 1]; exact vp_in_nI (by omega) (by omega)
  have h2 : vp_in (nI i + 2) L := by rw [show nI i + (2 : Int32) = nI (i + 2) from nI_add i 2]; exact vp_in_nI (by omega) (by omega)
  have h3 : vp_in (nI i + 3) L := by rw [show nI i + (3 : Int32) = nI (i + 3) from nI_add i 3]; exact vp_in_nI (by omega) (by omega)
  refine lv_aload_n hx hb (lw_dec rfl) rfl (lv_at hl 1 rfl) ?_
  refine lv_aload_n hx hb (lw_dec rfl) rfl (lv_at hl 0 rfl) ?_
  refine lv_iload_n hx hb (lw_dec rfl) rfl (lv_at hl 3 rfl) ?_
  refine lv_iconst (v := 1) hx hb (lw_dec rfl) (by decide) ?_
  refine lv_iadd hx hb (lw_dec rfl) ?_
  refine va_sld hx hb hX hbl hbA hS h1 (lw_dec rfl) ?_
  refine lw_cv (f := 31) (idx := 144) (b := 0) (sl := 2) (As := [.int (xs (nI i + 1).toNatClampNeg)]) (rest := []) C0 hSt hE hcs hl.1 (by decide) rfl rfl (Nat.le_of_ble_eq_true rfl) rfl (lw_dec rfl) hP hD hS (z_drift ((xs (nI i + 1).toNatClampNeg)) μ hZ) (fun w0 μ1 H locs hsh hq hP hD hS => ?_)
  obtain ⟨x0, rfl⟩ := m_sh_l hsh rfl
  show W p l e room_1 s m #[Value.ref b] below meth c H locs cells slots (lw_Z below #[Value.ref b] s) (F0 m 969 ls [.long x0])
  refine lv_aload_n hx hb (lw_dec rfl) rfl (lv_at hl 2 rfl) ?_
  refine lv_aload_n hx hb (lw_dec rfl) rfl (lv_at hl 0 rfl) ?_
  refine lv_iload_n hx hb (lw_dec rfl) rfl (lv_at hl 3 rfl) ?_
  refine lv_iconst (v := 1) hx hb (lw_dec rfl) (by decide) ?_
  refine lv_iadd hx hb (lw_dec rfl) ?_
  refine va_sld hx hb hX hbl hbA hS h1 (lw_dec rfl) ?_
  refine lw_cv (f := 156) (idx := 147) (b := 77) (sl := 2) (As := [.int (xs (nI i + 1).toNatClampNeg)]) (rest := [.long x0]) C0 hSt hE hcs hl.1 (by decide) rfl rfl (Nat.le_of_ble_eq_true rfl) rfl (lw_dec rfl) hP hD hS hq (fun w1 μ2 H locs hsh hq hP hD hS => ?_)
  obtain ⟨rfl, hZ2⟩ := hq
  show W p l e room_1 s m #[Value.ref b] below meth c H locs cells slots (lw_Z below #[Value.ref b] s) (F0 m 978 ls [.long x0, .long x0])
  refine W.lcmp hx hb (lw_dec rfl) ?_
  refine lv_if_eq (tgt := 984) hx hb (lw_dec rfl) (by decide) (fun _ => ?_) (fun q => absurd (lc_eq.mpr rfl) q)
  exact nx _ _ _ hZ2 hP hD hS
end CS
