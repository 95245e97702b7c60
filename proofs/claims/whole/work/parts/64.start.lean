/-! THE WALK from the law's entry -/
def z_tm (i : Nat) : Term := .string g_R0 ([48, 53, 55, 61, 63, 65, 70, 72, 42].getD i 0)
set_option maxRecDepth 100000 in
theorem z_strs {s : State} {b : Nat} (hgv : (Jvm.Cond.and given_1 narrow_1).before #[Value.ref b] s = true) : ∃ aK aV : Nat → Nat, vk_S 9 g_sl g_sb aK aV (lw_A s) s s.heap ∧ ∀ i : Nat, i < 9 → (z_tm i).eval #[Value.ref b] s none [] s = some (.ref (aK i)) := by
  have hs := flat_of_before _ hgv
  refine vk_Sof (tm := z_tm) ?_ ?_ ?_ ?_ ?_ ?_ ?_ (fun a ha h => Nat.not_le.mpr ha h)
  · intro i hi
    rcases (show i = 0 ∨ i = 1 ∨ i = 2 ∨ i = 3 ∨ i = 4 ∨ i = 5 ∨ i = 6 ∨ i = 7 ∨ i = 8 by omega) with rfl | rfl | rfl | rfl | rfl | rfl | rfl | rfl | rfl <;> decide
  · intro i hi
    rcases (show i = 0 ∨ i = 1 ∨ i = 2 ∨ i = 3 ∨ i = 4 ∨ i = 5 ∨ i = 6 ∨ i = 7 ∨ i = 8 by omega) with rfl | rfl | rfl | rfl | rfl | rfl | rfl | rfl | rfl <;> exact hs _ (by decide +kernel)
  · intro i hi
    rcases (show i = 0 ∨ i = 1 ∨ i = 2 ∨ i = 3 ∨ i = 4 ∨ i = 5 ∨ i = 6 ∨ i = 7 ∨ i = 8 by omega) with rfl | rfl | rfl | rfl | rfl | rfl | rfl | rfl | rfl <;> exact hs _ (by decide +kernel)
  · intro i hi
    rcases (show i = 0 ∨ i = 1 ∨ i = 2 ∨ i = 3 ∨ i = 4 ∨ i = 5 ∨ i = 6 ∨ i = 7 ∨ i = 8 by omega) with rfl | rfl | rfl | rfl | rfl | rfl | rfl | rfl | rfl <;> exact hs _ (by decide +kernel)
  · intro i hi
    rcases (show i = 0 ∨ i = 1 ∨ i = 2 ∨ i = 3 ∨ i = 4 ∨ i = 5 ∨ i = 6 ∨ i = 7 ∨ i = 8 by omega) with rfl | rfl | rfl | rfl | rfl | rfl | rfl | rfl | rfl <;> exact hs _ (by decide +kernel)
  · intro i hi j hj
    rcases (show i = 0 ∨ i = 1 ∨ i = 2 ∨ i = 3 ∨ i = 4 ∨ i = 5 ∨ i = 6 ∨ i = 7 ∨ i = 8 by omega) with rfl | rfl | rfl | rfl | rfl | rfl | rfl | rfl | rfl
    · have hj : j < 6 := hj
      rcases (show j = 0 ∨ j = 1 ∨ j = 2 ∨ j = 3 ∨ j = 4 ∨ j = 5 by omega) with rfl | rfl | rfl | rfl | rfl | rfl <;> exact hs _ (by decide +kernel)
    · have hj : j < 4 := hj
      rcases (show j = 0 ∨ j = 1 ∨ j = 2 ∨ j = 3 by omega) with rfl | rfl | rfl | rfl <;> exact hs _ (by decide +kernel)
    · have hj : j < 5 := hj
      rcases (show j = 0 ∨ j = 1 ∨ j = 2 ∨ j = 3 ∨ j = 4 by omega) with rfl | rfl | rfl | rfl | rfl <;> exact hs _ (by decide +kernel)
    · have hj : j < 5 := hj
      rcases (show j = 0 ∨ j = 1 ∨ j = 2 ∨ j = 3 ∨ j = 4 by omega) with rfl | rfl | rfl | rfl | rfl <;> exact hs _ (by decide +kernel)
    · have hj : j < 1 := hj
      obtain rfl : j = 0 := by omega
      exact hs _ (by decide +kernel)
    · have hj : j < 5 := hj
      rcases (show j = 0 ∨ j = 1 ∨ j = 2 ∨ j = 3 ∨ j = 4 by omega) with rfl | rfl | rfl | rfl | rfl <;> exact hs _ (by decide +kernel)
    · have hj : j < 6 := hj
      rcases (show j = 0 ∨ j = 1 ∨ j = 2 ∨ j = 3 ∨ j = 4 ∨ j = 5 by omega) with rfl | rfl | rfl | rfl | rfl | rfl <;> exact hs _ (by decide +kernel)
    · have hj : j < 5 := hj
      rcases (show j = 0 ∨ j = 1 ∨ j = 2 ∨ j = 3 ∨ j = 4 by omega) with rfl | rfl | rfl | rfl | rfl <;> exact hs _ (by decide +kernel)
    · have hj : j < 1 := hj
      obtain rfl : j = 0 := by omega
      exact hs _ (by decide +kernel)
  · intro i j hi hj hij
    rcases (show i = 0 ∨ i = 1 ∨ i = 2 ∨ i = 3 ∨ i = 4 ∨ i = 5 ∨ i = 6 ∨ i = 7 ∨ i = 8 by omega) with rfl | rfl | rfl | rfl | rfl | rfl | rfl | rfl | rfl <;> rcases (show j = 0 ∨ j = 1 ∨ j = 2 ∨ j = 3 ∨ j = 4 ∨ j = 5 ∨ j = 6 ∨ j = 7 ∨ j = 8 by omega) with rfl | rfl | rfl | rfl | rfl | rfl | rfl | rfl | rfl <;> first | exact absurd rfl hij | exact Or.inl (hs _ (by decide +kernel)) | exact Or.inr (hs _ (by decide +kernel))
theorem z_jS {s : State} {b : Nat} (hts : ∀ w ∈ lw_tbl, w.before #[Value.ref b] s = true) (hgv : (Jvm.Cond.and given_1 narrow_1).before #[Value.ref b] s = true) {aK aV : Nat → Nat} (h : vk_S 9 g_sl g_sb aK aV (lw_A s) s s.heap) : j_S aK aV (lw_A s) s s.heap := by
  have hs := flat_of_before _ hgv
  refine ⟨h, va_Zof (hts _ (List.mem_of_getElem? (i := 623) (by decide +kernel))) (hts _ (List.mem_of_getElem? (i := 50) (by decide +kernel))) (va_eqt (hs _ (by decide +kernel))) (fun a ha h => Nat.not_le.mpr ha h), va_Zqof (hts _ (List.mem_of_getElem? (i := 643) (by decide +kernel))) (hts _ (List.mem_of_getElem? (i := 52) (by decide +kernel))) (hs _ (by decide +kernel)) (fun a ha h => Nat.not_le.mpr ha h)⟩
theorem z_St {s : State} {b : Nat} (hts : ∀ w ∈ lw_tbl, w.before #[Value.ref b] s = true) {D : va_G} {cI cC cJ cR : ClassId} (hK : va_K D g_cls (i_tys cI cC cJ cR) s) {q0 q1 : Nat} {u v aK : Nat → Nat} (hm : ∀ i : Nat, i < 9 → (z_tm i).eval #[Value.ref b] s none [] s = some (.ref (aK i))) : m_St D (z_ad q0 q1 u v aK) (z_cA cI cC cJ cR) s := by
  refine ⟨hK.sub [] rfl, fun a ha => ⟨fun h => ?_, fun h => ?_, fun h => ?_, fun h => ?_⟩, ?_, ?_⟩
  · have e : z_cA cI cC cJ cR a = cI := by unfold z_cA; rw [if_pos h]
    rw [e]; exact hK.2 0 _ rfl
  · have e : z_cA cI cC cJ cR a = cC := by unfold z_cA; rw [h]; rfl
    rw [e]; exact hK.2 1 _ rfl
  · have e : z_cA cI cC cJ cR a = cJ := by unfold z_cA; rw [h]; rfl
    rw [e]; exact hK.2 2 _ rfl
  · have e : z_cA cI cC cJ cR a = cR := by unfold z_cA; rw [h]; rfl
    rw [e]; exact hK.2 3 _ rfl
  · intro q hq
    have hq : q ∈ [(5, 70, 37), (1, 82, 35), (0, 86, 35), (0, 89, 36)] := hq
    simp only [List.mem_cons, List.not_mem_nil, or_false] at hq
    rcases hq with rfl | rfl | rfl | rfl
    · exact va_Nw.of rfl (hts _ (List.mem_of_getElem? (i := 392) (by decide +kernel)))
    · exact va_Nw.of rfl (hts _ (List.mem_of_getElem? (i := 441) (by decide +kernel)))
    · exact va_Nw.of rfl (hts _ (List.mem_of_getElem? (i := 670) (by decide +kernel)))
    · exact va_Nw.of rfl (hts _ (List.mem_of_getElem? (i := 671) (by decide +kernel)))
  · intro q hq
    have hq : q ∈ [(0, 48, 0), (0, 53, 1), (0, 55, 2), (0, 61, 3), (0, 63, 4), (0, 65, 5), (0, 70, 6), (0, 72, 7), (0, 42, 8)] := hq
    simp only [List.mem_cons, List.not_mem_nil, or_false] at hq
    rcases hq with rfl | rfl | rfl | rfl | rfl | rfl | rfl | rfl | rfl
    · exact vk_R.of (hts _ (List.mem_of_getElem? (i := 609) (by decide +kernel))) (hm 0 (by omega))
    · exact vk_R.of (hts _ (List.mem_of_getElem? (i := 672) (by decide +kernel))) (hm 1 (by omega))
    · exact vk_R.of (hts _ (List.mem_of_getElem? (i := 673) (by decide +kernel))) (hm 2 (by omega))
    · exact vk_R.of (hts _ (List.mem_of_getElem? (i := 678) (by decide +kernel))) (hm 3 (by omega))
    · exact vk_R.of (hts _ (List.mem_of_getElem? (i := 679) (by decide +kernel))) (hm 4 (by omega))
    · exact vk_R.of (hts _ (List.mem_of_getElem? (i := 680) (by decide +kernel))) (hm 5 (by omega))
    · exact vk_R.of (hts _ (List.mem_of_getElem? (i := 685) (by decide +kernel))) (hm 6 (by omega))
    · exact vk_R.of (hts _ (List.mem_of_getElem? (i := 686) (by decide +kernel))) (hm 7 (by omega))
    · exact vk_R.of (hts _ (List.mem_of_getElem? (i := 687) (by decide +kernel))) (hm 8 (by omega))
