/-! THE LAW: its loop -/
section LP
variable {p : Program} {l : Launch} {e : Env} {s : State} {m : MethodId} {below : List Frame} {meth : Method} {c : Code} {cells slots : Nat}
variable {D : va_G} {ad aV : Nat → Nat} {cA : Nat → ClassId} {b L : Nat} {xs : Nat → Int32}
set_option maxRecDepth 100000 in
theorem lw_loop (hL : L ≤ 2048) (C0 : lw_At p s m meth c b L xs) (hSt : m_St D ad cA s) (hE : j_S (fun j => ad (1000 + j)) aV (lw_A s) s s.heap) (hcs : cells ≤ 600000 ∧ slots ≤ 7302250) : ∀ (n i : Nat), L + 1 ≤ i + n → i ≤ L + 4 → ∀ (μ : m_M) (H : Heap) (locs : List Loc) (ls : Array Slot), Z μ → va_P D g_cls (m_ws ad cA μ) H → va_D (lw_A s) (m_ws ad cA μ) → va_S (lw_A s) s.heap H locs → lv_has ls 4 [(0, .ref b), (1, .ref (ad 0)), (2, .ref (ad 77)), (3, .int (nI i))] → W p l e room_1 s m #[Value.ref b] below meth c H locs cells slots (lw_Z below #[Value.ref b] s) (F0 m 18 ls []) := by
  obtain ⟨hx, hb, hr, hml, hown, hts, hX, hbl, hlocks, hgv⟩ := id C0
  have hbA : ¬ lw_A s b := Nat.not_le.mpr hbl
  intro n
  induction n with
  | zero =>
    intro i h1 h2 μ H locs ls hZ hP hD hS hl
    refine lv_iload_n hx hb (lw_dec rfl) rfl (lv_at hl 3 rfl) ?_
    refine lv_aload_n hx hb (lw_dec rfl) rfl (lv_at hl 0 rfl) ?_
    refine va_slen hx hb hX hbl hbA hS (lw_dec rfl) ?_
    refine lv_iconst (v := 4) hx hb (lw_dec rfl) (by decide) ?_
    refine lv_isub hx hb (lw_dec rfl) ?_
    refine lv_icmp_gt (tgt := 990) hx hb (lw_dec rfl) (by decide) (fun cg => ?_) (fun cg => ?_)
    · refine lv_iconst (v := 1) hx hb (lw_dec rfl) (by decide) ?_
      refine va_forget (fun q hq => hS.2.2 q hq) ?_
      refine W.widen (k := 600000) (n := 7302250) hcs.1 hcs.2 ?_
      exact lw_ret hx hb hr hlocks (lw_dec rfl)
    · exact absurd ((lw_lim hL (by omega)).mpr (by omega)) cg
  | succ n ih =>
    intro i h1 h2 μ H locs ls hZ hP hD hS hl
    refine lv_iload_n hx hb (lw_dec rfl) rfl (lv_at hl 3 rfl) ?_
    refine lv_aload_n hx hb (lw_dec rfl) rfl (lv_at hl 0 rfl) ?_
    refine va_slen hx hb hX hbl hbA hS (lw_dec rfl) ?_
    refine lv_iconst (v := 4) hx hb (lw_dec rfl) (by decide) ?_
    refine lv_isub hx hb (lw_dec rfl) ?_
    refine lv_icmp_gt (tgt := 990) hx hb (lw_dec rfl) (by decide) (fun cg => ?_) (fun cg => ?_)
    · refine lv_iconst (v := 1) hx hb (lw_dec rfl) (by decide) ?_
      refine va_forget (fun q hq => hS.2.2 q hq) ?_
      refine W.widen (k := 600000) (n := 7302250) hcs.1 hcs.2 ?_
      exact lw_ret hx hb hr hlocks (lw_dec rfl)
    · have hi : i + 3 < L := by
        rcases Nat.lt_or_ge L (i + 4) with q | q
        · exact absurd ((lw_lim hL (by omega)).mpr q) cg
        · omega
      have h0 : vp_in (nI i) L := vp_in_nI (by omega) (by omega)
      refine lv_aload_n hx hb (lw_dec rfl) rfl (lv_at hl 0 rfl) ?_
      refine lv_iload_n hx hb (lw_dec rfl) rfl (lv_at hl 3 rfl) ?_
      refine va_sld hx hb hX hbl hbA hS h0 (lw_dec rfl) ?_
      refine lv_bipush (v := 31) hx hb (lw_dec rfl) (by decide) ?_
      refine lv_iand hx hb (lw_dec rfl) ?_
      obtain ⟨k, hk, ek⟩ := lw_and (xs (nI i).toNatClampNeg)
      rw [ek]
      have nx : ∀ (μ2 : m_M) (H2 : Heap) (locs2 : List Loc), Z μ2 → va_P D g_cls (m_ws ad cA μ2) H2 → va_D (lw_A s) (m_ws ad cA μ2) → va_S (lw_A s) s.heap H2 locs2 → W p l e room_1 s m #[Value.ref b] below meth c H2 locs2 cells slots (lw_Z below #[Value.ref b] s) (F0 m 984 ls []) := fun μ2 H2 locs2 hZ2 hP2 hD2 hS2 => by
        refine lv_iinc (v := nI (i + 4)) (lv' := [(3, .int (nI (i + 4))), (0, .ref b), (1, .ref (ad 0)), (2, .ref (ad 77))]) hx hb (lw_dec rfl) hl (k := 3) rfl (nI_add i 4) (by decide) rfl (fun ls hl => ?_)
        refine lv_goto (tgt := 18) hx hb (lw_dec rfl) (by decide) ?_
        exact ih (i + 4) (by omega) (by omega) μ2 H2 locs2 ls hZ2 hP2 hD2 hS2 (lv_sub hl [1, 2, 3, 0] rfl)
      rcases (show k = 0 ∨ k = 1 ∨ k = 2 ∨ k = 3 ∨ k = 4 ∨ k = 5 ∨ k = 6 ∨ k = 7 ∨ k = 8 ∨ k = 9 ∨ k = 10 ∨ k = 11 ∨ k = 12 ∨ k = 13 ∨ k = 14 ∨ k = 15 ∨ k = 16 ∨ k = 17 ∨ k = 18 ∨ k = 19 ∨ k = 20 ∨ k = 21 ∨ k = 22 ∨ k = 23 ∨ k = 24 ∨ k = 25 ∨ k = 26 ∨ k = 27 ∨ k = 28 ∨ k = 29 ∨ k = 30 ∨ k = 31 by omega) with rfl | rfl | rfl | rfl | rfl | rfl | rfl | rfl | rfl | rfl | rfl | rfl | rfl | rfl | rfl | rfl | rfl | rfl | rfl | rfl | rfl | rfl | rfl | rfl | rfl | rfl | rfl | rfl | rfl | rfl | rfl | rfl
      · refine lv_tableIn (tgt := 172) hx hb (lw_dec rfl) (by decide) (by decide) (off := 140) (by decide) (by decide) ?_
        exact lw_c0 hL C0 hSt hE hcs hi hZ hP hD hS hl nx
      · refine lv_tableIn (tgt := 205) hx hb (lw_dec rfl) (by decide) (by decide) (off := 173) (by decide) (by decide) ?_
        exact lw_c1 hL C0 hSt hE hcs hi hZ hP hD hS hl nx
      · refine lv_tableIn (tgt := 248) hx hb (lw_dec rfl) (by decide) (by decide) (off := 216) (by decide) (by decide) ?_
        exact lw_c2 hL C0 hSt hE hcs hi hZ hP hD hS hl nx
      · refine lv_tableIn (tgt := 282) hx hb (lw_dec rfl) (by decide) (by decide) (off := 250) (by decide) (by decide) ?_
        exact lw_c3 hL C0 hSt hE hcs hi hZ hP hD hS hl nx
      · refine lv_tableIn (tgt := 326) hx hb (lw_dec rfl) (by decide) (by decide) (off := 294) (by decide) (by decide) ?_
        exact lw_c4 hL C0 hSt hE hcs hi hZ hP hD hS hl nx
      · refine lv_tableIn (tgt := 359) hx hb (lw_dec rfl) (by decide) (by decide) (off := 327) (by decide) (by decide) ?_
        exact lw_c5 hL C0 hSt hE hcs hi hZ hP hD hS hl nx
      · refine lv_tableIn (tgt := 423) hx hb (lw_dec rfl) (by decide) (by decide) (off := 391) (by decide) (by decide) ?_
        exact lw_c6 hL C0 hSt hE hcs hi hZ hP hD hS hl nx
      · refine lv_tableIn (tgt := 436) hx hb (lw_dec rfl) (by decide) (by decide) (off := 404) (by decide) (by decide) ?_
        exact lw_c7 hL C0 hSt hE hcs hi hZ hP hD hS hl nx
      · refine lv_tableIn (tgt := 470) hx hb (lw_dec rfl) (by decide) (by decide) (off := 438) (by decide) (by decide) ?_
        exact lw_c8 hL C0 hSt hE hcs hi hZ hP hD hS hl nx
      · refine lv_tableIn (tgt := 503) hx hb (lw_dec rfl) (by decide) (by decide) (off := 471) (by decide) (by decide) ?_
        exact lw_c9 hL C0 hSt hE hcs hi hZ hP hD hS hl nx
      · refine lv_tableIn (tgt := 526) hx hb (lw_dec rfl) (by decide) (by decide) (off := 494) (by decide) (by decide) ?_
        exact lw_c10 hL C0 hSt hE hcs hi hZ hP hD hS hl nx
      · refine lv_tableIn (tgt := 559) hx hb (lw_dec rfl) (by decide) (by decide) (off := 527) (by decide) (by decide) ?_
        exact lw_c11 hL C0 hSt hE hcs hi hZ hP hD hS hl nx
      · refine lv_tableIn (tgt := 572) hx hb (lw_dec rfl) (by decide) (by decide) (off := 540) (by decide) (by decide) ?_
        exact lw_c12 hL C0 hSt hE hcs hi hZ hP hD hS hl nx
      · refine lv_tableIn (tgt := 615) hx hb (lw_dec rfl) (by decide) (by decide) (off := 583) (by decide) (by decide) ?_
        exact lw_c13 hL C0 hSt hE hcs hi hZ hP hD hS hl nx
      · refine lv_tableIn (tgt := 639) hx hb (lw_dec rfl) (by decide) (by decide) (off := 607) (by decide) (by decide) ?_
        exact lw_c14 hL C0 hSt hE hcs hi hZ hP hD hS hl nx
      · refine lv_tableIn (tgt := 663) hx hb (lw_dec rfl) (by decide) (by decide) (off := 631) (by decide) (by decide) ?_
        exact lw_c15 hL C0 hSt hE hcs hi hZ hP hD hS hl nx
      · refine lv_tableIn (tgt := 686) hx hb (lw_dec rfl) (by decide) (by decide) (off := 654) (by decide) (by decide) ?_
        exact lw_c16 hL C0 hSt hE hcs hi hZ hP hD hS hl nx
      · refine lv_tableIn (tgt := 699) hx hb (lw_dec rfl) (by decide) (by decide) (off := 667) (by decide) (by decide) ?_
        exact lw_c17 hL C0 hSt hE hcs hi hZ hP hD hS hl nx
      · refine lv_tableIn (tgt := 722) hx hb (lw_dec rfl) (by decide) (by decide) (off := 690) (by decide) (by decide) ?_
        exact lw_c18 hL C0 hSt hE hcs hi hZ hP hD hS hl nx
      · refine lv_tableIn (tgt := 735) hx hb (lw_dec rfl) (by decide) (by decide) (off := 703) (by decide) (by decide) ?_
        exact lw_c19 hL C0 hSt hE hcs hi hZ hP hD hS hl nx
      · refine lv_tableIn (tgt := 758) hx hb (lw_dec rfl) (by decide) (by decide) (off := 726) (by decide) (by decide) ?_
        exact lw_c20 hL C0 hSt hE hcs hi hZ hP hD hS hl nx
      · refine lv_tableIn (tgt := 791) hx hb (lw_dec rfl) (by decide) (by decide) (off := 759) (by decide) (by decide) ?_
        exact lw_c21 hL C0 hSt hE hcs hi hZ hP hD hS hl nx
      · refine lv_tableIn (tgt := 814) hx hb (lw_dec rfl) (by decide) (by decide) (off := 782) (by decide) (by decide) ?_
        exact lw_c22 hL C0 hSt hE hcs hi hZ hP hD hS hl nx
      · refine lv_tableIn (tgt := 827) hx hb (lw_dec rfl) (by decide) (by decide) (off := 795) (by decide) (by decide) ?_
        exact lw_c23 hL C0 hSt hE hcs hi hZ hP hD hS hl nx
      · refine lv_tableIn (tgt := 861) hx hb (lw_dec rfl) (by decide) (by decide) (off := 829) (by decide) (by decide) ?_
        exact lw_c24 hL C0 hSt hE hcs hi hZ hP hD hS hl nx
      · refine lv_tableIn (tgt := 884) hx hb (lw_dec rfl) (by decide) (by decide) (off := 852) (by decide) (by decide) ?_
        exact lw_c25 hL C0 hSt hE hcs hi hZ hP hD hS hl nx
      · refine lv_tableIn (tgt := 897) hx hb (lw_dec rfl) (by decide) (by decide) (off := 865) (by decide) (by decide) ?_
        exact lw_c26 hL C0 hSt hE hcs hi hZ hP hD hS hl nx
      · refine lv_tableIn (tgt := 910) hx hb (lw_dec rfl) (by decide) (by decide) (off := 878) (by decide) (by decide) ?_
        exact lw_c27 hL C0 hSt hE hcs hi hZ hP hD hS hl nx
      · refine lv_tableIn (tgt := 923) hx hb (lw_dec rfl) (by decide) (by decide) (off := 891) (by decide) (by decide) ?_
        exact lw_c28 hL C0 hSt hE hcs hi hZ hP hD hS hl nx
      · refine lv_tableIn (tgt := 946) hx hb (lw_dec rfl) (by decide) (by decide) (off := 914) (by decide) (by decide) ?_
        exact lw_c29 hL C0 hSt hE hcs hi hZ hP hD hS hl nx
      · refine lv_tableIn (tgt := 960) hx hb (lw_dec rfl) (by decide) (by decide) (off := 928) (by decide) (by decide) ?_
        exact lw_c30 hL C0 hSt hE hcs hi hZ hP hD hS hl nx
      · refine lv_tableOut (tgt := 984) hx hb (lw_dec rfl) (by decide) (by decide) ?_
        exact nx μ H locs hZ hP hD hS
end LP
