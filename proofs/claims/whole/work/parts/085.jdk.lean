theorem m_ofW {l : Launch} {y : MethodName} {ws ws' : List Cond} {rm : Room} {Pc : Array Value → State → Prop} {Qc : Array Value → State → Outcome → State → Prop} {mc ms : Nat} {free : Addr → Prop} {cc : ByteArray} {maxL : Nat} {ret : Option FieldType}
    (hy : plainFor y = true) (hw : ws = Cond.code y cc maxL ret :: ws')
    (body : ∀ p e s m args below meth c s₁, BodyLoose p l y (headSpec ws rm) cc maxL ret e s m args below meth c s₁ → c.maxLocals = maxL → Pc args s →
      W p l e (headSpec ws rm).room s m args below meth c s.heap [] 0 0 (MQ below Qc args s mc ms free) (entryFrame m args maxL)) : Met l y ws rm Pc Qc mc ms free := by
  refine MetFree.of_bodySF (code := cc) (maxLocals := maxL) (ret := ret) hy ?_ ?_
  · intro args s m h hn
    obtain ⟨meth, c, h1, h2, h3, h4, h5, h6, -, -⟩ := Cond.code_spec hn (atoms_spec (ws := ws) h _ (by rw [hw]; exact List.mem_cons_self))
    exact ⟨meth, c, h1, h2, h3, h4, h5, h6⟩
  · intro p e s m args below meth c s₁ B hml hP _
    have hh0 : s₁.heap = s.heap := by rw [B.state]; rfl
    obtain ⟨t, a1, o, b1, b2, b3⟩ := body p e s m args below meth c s₁ B hml hP s₁ hh0 (Stand.of_body B)
    exact ⟨t, o, a1, b1, b2, ⟨b3.1, b3.2⟩⟩
def y_len : MethodName := ⟨"java/lang/String", "length", "()I"⟩
abbrev b_len : ByteArray := prog_11_method_54_code
abbrev w_len : Cond := .code y_len b_len 1 (some .int)
set_option maxRecDepth 200000 in
theorem w_len_in : w_len ∈ g_T := g_mem 617 rfl rfl
theorem d_len_0 : decode b_len 0 = .ok (.aload_n 0, 1) := by decide +kernel
theorem d_len_1 : decode b_len 1 = .ok (.getfield 9, 3) := by decide +kernel
theorem d_len_4 : decode b_len 4 = .ok (.arraylength, 1) := by decide +kernel
theorem d_len_5 : decode b_len 5 = .ok (.aload_n 0, 1) := by decide +kernel
theorem d_len_6 : decode b_len 6 = .ok (.invokevirtual 335, 3) := by decide +kernel
theorem d_len_9 : decode b_len 9 = .ok (.ishr, 1) := by decide +kernel
theorem d_len_10 : decode b_len 10 = .ok (.ireturn, 1) := by decide +kernel
def y_coder : MethodName := ⟨"java/lang/String", "coder", "()B"⟩
abbrev b_coder : ByteArray := prog_11_method_152_code
abbrev w_coder : Cond := .code y_coder b_coder 1 (some .byte)
set_option maxRecDepth 200000 in
theorem w_coder_in : w_coder ∈ g_T := g_mem 621 rfl rfl
theorem d_coder_0 : decode b_coder 0 = .ok (.getstatic 38, 3) := by decide +kernel
theorem d_coder_3 : decode b_coder 3 = .ok (.ifCond .eq 10, 3) := by decide +kernel
theorem d_coder_6 : decode b_coder 6 = .ok (.aload_n 0, 1) := by decide +kernel
theorem d_coder_7 : decode b_coder 7 = .ok (.getfield 15, 3) := by decide +kernel
theorem d_coder_10 : decode b_coder 10 = .ok (.goto 4, 3) := by decide +kernel
theorem d_coder_13 : decode b_coder 13 = .ok (.iconst 1, 1) := by decide +kernel
theorem d_coder_14 : decode b_coder 14 = .ok (.ireturn, 1) := by decide +kernel
def y_chat : MethodName := ⟨"java/lang/String", "charAt", "(I)C"⟩
abbrev b_chat : ByteArray := prog_11_method_56_code
abbrev w_chat : Cond := .code y_chat b_chat 2 (some .char)
set_option maxRecDepth 200000 in
theorem w_chat_in : w_chat ∈ g_T := g_mem 631 rfl rfl
theorem d_chat_0 : decode b_chat 0 = .ok (.aload_n 0, 1) := by decide +kernel
theorem d_chat_1 : decode b_chat 1 = .ok (.invokevirtual 492, 3) := by decide +kernel
theorem d_chat_4 : decode b_chat 4 = .ok (.ifCond .eq 12, 3) := by decide +kernel
theorem d_chat_7 : decode b_chat 7 = .ok (.aload_n 0, 1) := by decide +kernel
theorem d_chat_8 : decode b_chat 8 = .ok (.getfield 9, 3) := by decide +kernel
theorem d_chat_11 : decode b_chat 11 = .ok (.iload_n 1, 1) := by decide +kernel
theorem d_chat_12 : decode b_chat 12 = .ok (.invokestatic 495, 3) := by decide +kernel
theorem d_chat_15 : decode b_chat 15 = .ok (.ireturn, 1) := by decide +kernel
theorem d_chat_16 : decode b_chat 16 = .ok (.aload_n 0, 1) := by decide +kernel
theorem d_chat_17 : decode b_chat 17 = .ok (.getfield 9, 3) := by decide +kernel
theorem d_chat_20 : decode b_chat 20 = .ok (.iload_n 1, 1) := by decide +kernel
theorem d_chat_21 : decode b_chat 21 = .ok (.invokestatic 498, 3) := by decide +kernel
theorem d_chat_24 : decode b_chat 24 = .ok (.ireturn, 1) := by decide +kernel
def y_lat : MethodName := ⟨"java/lang/String", "isLatin1", "()Z"⟩
abbrev b_lat : ByteArray := prog_11_method_154_code
abbrev w_lat : Cond := .code y_lat b_lat 1 (some .boolean)
set_option maxRecDepth 200000 in
theorem w_lat_in : w_lat ∈ g_T := g_mem 635 rfl rfl
theorem d_lat_0 : decode b_lat 0 = .ok (.getstatic 38, 3) := by decide +kernel
theorem d_lat_3 : decode b_lat 3 = .ok (.ifCond .eq 14, 3) := by decide +kernel
theorem d_lat_6 : decode b_lat 6 = .ok (.aload_n 0, 1) := by decide +kernel
theorem d_lat_7 : decode b_lat 7 = .ok (.getfield 15, 3) := by decide +kernel
theorem d_lat_10 : decode b_lat 10 = .ok (.ifCond .ne 7, 3) := by decide +kernel
theorem d_lat_13 : decode b_lat 13 = .ok (.iconst 1, 1) := by decide +kernel
theorem d_lat_14 : decode b_lat 14 = .ok (.goto 4, 3) := by decide +kernel
theorem d_lat_17 : decode b_lat 17 = .ok (.iconst 0, 1) := by decide +kernel
theorem d_lat_18 : decode b_lat 18 = .ok (.ireturn, 1) := by decide +kernel
def y_l1 : MethodName := ⟨"java/lang/StringLatin1", "charAt", "([BI)C"⟩
abbrev b_l1 : ByteArray := prog_12_method_2_code
abbrev w_l1 : Cond := .code y_l1 b_l1 2 (some .char)
set_option maxRecDepth 200000 in
theorem w_l1_in : w_l1 ∈ g_T := g_mem 638 rfl rfl
theorem d_l1_0 : decode b_l1 0 = .ok (.iload_n 1, 1) := by decide +kernel
theorem d_l1_1 : decode b_l1 1 = .ok (.aload_n 0, 1) := by decide +kernel
theorem d_l1_2 : decode b_l1 2 = .ok (.arraylength, 1) := by decide +kernel
theorem d_l1_3 : decode b_l1 3 = .ok (.invokestatic 9, 3) := by decide +kernel
theorem d_l1_6 : decode b_l1 6 = .ok (.aload_n 0, 1) := by decide +kernel
theorem d_l1_7 : decode b_l1 7 = .ok (.iload_n 1, 1) := by decide +kernel
theorem d_l1_8 : decode b_l1 8 = .ok (.baload, 1) := by decide +kernel
theorem d_l1_9 : decode b_l1 9 = .ok (.sipush 255, 3) := by decide +kernel
theorem d_l1_12 : decode b_l1 12 = .ok (.iand, 1) := by decide +kernel
theorem d_l1_13 : decode b_l1 13 = .ok (.i2c, 1) := by decide +kernel
theorem d_l1_14 : decode b_l1 14 = .ok (.ireturn, 1) := by decide +kernel
def y_ci : MethodName := ⟨"java/lang/String", "checkIndex", "(II)V"⟩
abbrev b_ci : ByteArray := prog_11_method_155_code
abbrev w_ci : Cond := .code y_ci b_ci 2 none
set_option maxRecDepth 200000 in
theorem w_ci_in : w_ci ∈ g_T := g_mem 641 rfl rfl
theorem d_ci_0 : decode b_ci 0 = .ok (.iload_n 0, 1) := by decide +kernel
theorem d_ci_1 : decode b_ci 1 = .ok (.iload_n 1, 1) := by decide +kernel
theorem d_ci_2 : decode b_ci 2 = .ok (.getstatic 1053, 3) := by decide +kernel
theorem d_ci_5 : decode b_ci 5 = .ok (.invokestatic 1059, 3) := by decide +kernel
theorem d_ci_8 : decode b_ci 8 = .ok (.pop, 1) := by decide +kernel
theorem d_ci_9 : decode b_ci 9 = .ok (.return_, 1) := by decide +kernel
def y_pc : MethodName := ⟨"jdk/internal/util/Preconditions", "checkIndex", "(IILjava/util/function/BiFunction;)I"⟩
abbrev b_pc : ByteArray := prog_15_method_11_code
abbrev w_pc : Cond := .code y_pc b_pc 3 (some .int)
set_option maxRecDepth 200000 in
theorem w_pc_in : w_pc ∈ g_T := g_mem 646 rfl rfl
theorem d_pc_0 : decode b_pc 0 = .ok (.iload_n 0, 1) := by decide +kernel
theorem d_pc_1 : decode b_pc 1 = .ok (.ifCond .lt 8, 3) := by decide +kernel
theorem d_pc_4 : decode b_pc 4 = .ok (.iload_n 0, 1) := by decide +kernel
theorem d_pc_5 : decode b_pc 5 = .ok (.iload_n 1, 1) := by decide +kernel
theorem d_pc_6 : decode b_pc 6 = .ok (.if_icmp .lt 10, 3) := by decide +kernel
theorem d_pc_9 : decode b_pc 9 = .ok (.aload_n 2, 1) := by decide +kernel
theorem d_pc_10 : decode b_pc 10 = .ok (.iload_n 0, 1) := by decide +kernel
theorem d_pc_11 : decode b_pc 11 = .ok (.iload_n 1, 1) := by decide +kernel
theorem d_pc_12 : decode b_pc 12 = .ok (.invokestatic 95, 3) := by decide +kernel
theorem d_pc_16 : decode b_pc 16 = .ok (.iload_n 0, 1) := by decide +kernel
theorem d_pc_17 : decode b_pc 17 = .ok (.ireturn, 1) := by decide +kernel
def j_S (aK aV : Nat → Nat) (A : Nat → Prop) (U : State) (H : Heap) : Prop := vk_S 9 g_sl g_sb aK aV A U H ∧ va_Z "java/lang/String" "COMPACT_STRINGS" "Z" (.int 1) A U H ∧ va_Zq "jdk/internal/util/Preconditions" "SIOOBE_FORMATTER" "Ljava/util/function/BiFunction;" A U H
theorem j_S.moved {aK aV : Nat → Nat} {A : Nat → Prop} {u U : State} {H : Heap} (hv : u.vm.Alike U.vm) (h : j_S aK aV A u H) : j_S aK aV A U H := ⟨vk_S.moved hv h.1, va_Z.moved hv h.2.1, va_Zq.moved hv h.2.2⟩
theorem j_S.kept {aK aV : Nat → Nat} {A : Nat → Prop} {U : State} {H H1 : Heap} (h : j_S aK aV A U H) (hq : ∀ a : Nat, a < H.size → ¬ A a → H1[a]? = H[a]?) : j_S aK aV A U H1 := ⟨h.1.kept hq, h.2.1.kept hq, h.2.2.kept hq⟩
theorem j_S.narrow {aK aV : Nat → Nat} {A B : Nat → Prop} {U : State} {H : Heap} (h : j_S aK aV A U H) (hAB : ∀ q, B q → A q) : j_S aK aV B U H := ⟨h.1.narrow hAB, h.2.1.narrow hAB, h.2.2.narrow hAB⟩
abbrev j_rm (f n : Nat) : Room := { frames := f, cells := 0, slots := 0, locals := n }
abbrev j_Q (post : Int32 → Prop) : Array Value → State → Outcome → State → Prop := vp_Si post
def j_V : Array Value → State → Outcome → State → Prop := fun _ st oc t => oc = .returned none ∧ t.heap = st.heap
section JC
variable {p : Program} {l : Launch} {e : Env} {R : Room} {s : State} {m : MethodId} {args : Array Value} {below : List Frame} {meth : Method} {c : Code} {H : Heap} {locs : List Loc} {cells slots : Nat} {Z : State → Prop} {pc : Nat} {la : Array Slot}
theorem j_call {rest st0 : List Value} {post : Int32 → Prop} {aa : Array Value} (hr : va_Run p l e R s m args below meth c H locs cells slots 0 0 (F0 m pc la st0) rest (j_Q post aa) (fun _ => False))
    (kk : ∀ r : Int32, post r → W p l e R s m args below meth c H locs cells slots Z (F0 m (pc + 3) la (.int r :: rest))) : W p l e R s m args below meth c H locs cells slots Z (F0 m pc la st0) := by
  intro T hT X
  obtain ⟨v, st₀, t, T', L, h0, X', hL, e1, e2, ⟨r, hv, hp, hh⟩, st⟩ := hr T hT X
  cases hv
  obtain ⟨t2, a1, b1⟩ := kk r hp T' (by rw [e1, hh, h0]) (Stand.forget X' (fun q h => (hL q h).elim))
  exact ⟨t2, st t2 a1, b1⟩
theorem j_callv {rest st0 : List Value} {aa : Array Value} (hr : va_Run p l e R s m args below meth c H locs cells slots 0 0 (F0 m pc la st0) rest (j_V aa) (fun _ => False))
    (kk : W p l e R s m args below meth c H locs cells slots Z (F0 m (pc + 3) la rest)) : W p l e R s m args below meth c H locs cells slots Z (F0 m pc la st0) := by
  intro T hT X
  obtain ⟨v, st₀, t, T', L, h0, X', hL, e1, e2, ⟨hv, hh⟩, st⟩ := hr T hT X
  cases hv
  obtain ⟨t2, a1, b1⟩ := kk T' (by rw [e1, hh, h0]) (Stand.forget X' (fun q h => (hL q h).elim))
  exact ⟨t2, st t2 a1, b1⟩
end JC
theorem j_good {w : Cond} (h : w ∈ g_T) : GoodIn g_T (w :: g_T) := fun x hx => g_good (by
  rcases List.mem_cons.mp hx with rfl | hx
  · exact h
  · exact hx)
theorem j_pre {aK aV : Nat → Nat} {A : Nat → Prop} {s : State} {As : List Value} (hE : j_S aK aV A s s.heap) : ∀ U : State, U.heap = s.heap → s.WarmedH U.vm → va_Pc As (fun U => j_S aK aV A U U.heap) As.toArray U := fun U hU hW => ⟨rfl, by show j_S aK aV A U U.heap; rw [hU]; exact hE.moved hW.alike⟩
theorem j_blind {aK aV : Nat → Nat} {A : Nat → Prop} {As : List Value} : FrameBlind (va_Pc As (fun U => j_S aK aV A U U.heap)) := fun a U g mk q => ⟨q.1, q.2.moved (U := U.calling g mk a) (Vm.Alike.refl U.vm)⟩
theorem j_A0 : ∀ i : Nat, i < 9 → (g_sb.getD i []).length = g_sl.getD i 0 ∧ g_sl.getD i 0 ≤ 6 ∧ ∀ b ∈ g_sb.getD i [], (b &&& 255) = b ∧ ((b &&& 255).toUInt32 % 65536).toInt32 = b ∧ narrow .char (.int b) = .int b := by decide +kernel
theorem j_ch {i : Nat} {x : Int32} (hi : i < 9) (hx : vp_in x (g_sl.getD i 0)) : ((((g_sb.getD i []).getD x.toNatClampNeg 0) &&& 255).toUInt32 % 65536).toInt32 = (g_sb.getD i []).getD x.toNatClampNeg 0 ∧ narrow .char (.int ((g_sb.getD i []).getD x.toNatClampNeg 0)) = .int ((g_sb.getD i []).getD x.toNatClampNeg 0) := by
  obtain ⟨h1, h2, h3⟩ := j_A0 i hi
  have hlt : x.toNatClampNeg < (g_sb.getD i []).length := by rw [h1]; exact Nat.not_le.mp fun q => hx (Or.inr q)
  have := h3 _ (List.getElem_mem hlt)
  rw [List.getD_eq_getElem?_getD, List.getElem?_eq_getElem hlt]
  exact ⟨this.2.1, this.2.2⟩
set_option maxHeartbeats 4000000 in
theorem j_coder (l : Launch) (aK aV : Nat → Nat) (A : Nat → Prop) (i : Nat) (hi : i < 9) : Met l y_coder (w_coder :: g_T) (j_rm 0 0) (va_Pc [.ref (aK i)] (fun U => j_S aK aV A U U.heap)) (j_Q (fun r => r = 0)) 0 0 (fun _ => False) := by
  refine m_ofW (cc := b_coder) (maxL := 1) (ret := (some .byte)) (by decide +kernel) rfl ?_
  intro p e s m args below meth c s₁ B hml hv
  obtain ⟨rfl, hE⟩ := hv
  have hx := B.exec
  have hb := B.bytes
  have hr := B.returns
  have hts0 := atoms_spec (ws := w_coder :: g_T) B.pre
  have hts : ∀ w ∈ g_T, w.before _ s = true := fun w h => hts0 w (List.mem_cons_of_mem _ h)
  have hown : s.vm.findClass "java/lang/String" = some m.cls := findClass_of_methodNamed B.named
  have hlocks := B.notSynchronized
  have hS : va_S A s.heap s.heap [] := va_S.rf
  have hl := lv_entry [.ref (aK i)] (n := 1) (Nat.le_of_ble_eq_true rfl)
  rw [lg_entry_eq]
  generalize (lg_sl [.ref (aK i)] ++ List.replicate (1 - (lg_sl [.ref (aK i)]).length) Slot.unset).toArray = ls at hl ⊢
  have hl : lv_has ls 1 [(0, .ref (aK i))] := hl
  refine va_gets hx hb hE.2.1 hS hown (hts (.fieldLink "java/lang/String" 38 "java/lang/String" "COMPACT_STRINGS" "Z") (g_mem 622 (by decide +kernel) rfl)) (fun _ h => h) d_coder_0 ?_
  refine lv_if_eq (tgt := 13) hx hb d_coder_3 (by decide) (fun z => absurd z (by decide)) (fun _ => ?_)
  refine lv_aload_n hx hb d_coder_6 rfl (lv_at hl 0 rfl) ?_
  refine vk_getf hx hb (hE.1.1 i hi).2.1 hS hown (hts (.fieldLink "java/lang/String" 15 "java/lang/String" "coder" "B") (g_mem 1130 (by decide +kernel) rfl)) (fun _ h => h) d_coder_7 ?_
  refine lv_goto (tgt := 14) hx hb d_coder_10 (by decide) ?_
  exact W.zret hx hb hr rfl (fun t ht hW => ⟨_, rfl, rfl, ht⟩) (fun q h => by cases h) d_coder_14 hlocks
set_option maxHeartbeats 4000000 in
theorem j_lat (l : Launch) (aK aV : Nat → Nat) (A : Nat → Prop) (i : Nat) (hi : i < 9) : Met l y_lat (w_lat :: g_T) (j_rm 0 0) (va_Pc [.ref (aK i)] (fun U => j_S aK aV A U U.heap)) (j_Q (fun r => r = 1)) 0 0 (fun _ => False) := by
  refine m_ofW (cc := b_lat) (maxL := 1) (ret := (some .boolean)) (by decide +kernel) rfl ?_
  intro p e s m args below meth c s₁ B hml hv
  obtain ⟨rfl, hE⟩ := hv
  have hx := B.exec
  have hb := B.bytes
  have hr := B.returns
  have hts0 := atoms_spec (ws := w_lat :: g_T) B.pre
  have hts : ∀ w ∈ g_T, w.before _ s = true := fun w h => hts0 w (List.mem_cons_of_mem _ h)
  have hown : s.vm.findClass "java/lang/String" = some m.cls := findClass_of_methodNamed B.named
  have hlocks := B.notSynchronized
  have hS : va_S A s.heap s.heap [] := va_S.rf
  have hl := lv_entry [.ref (aK i)] (n := 1) (Nat.le_of_ble_eq_true rfl)
  rw [lg_entry_eq]
  generalize (lg_sl [.ref (aK i)] ++ List.replicate (1 - (lg_sl [.ref (aK i)]).length) Slot.unset).toArray = ls at hl ⊢
  have hl : lv_has ls 1 [(0, .ref (aK i))] := hl
  refine va_gets hx hb hE.2.1 hS hown (hts (.fieldLink "java/lang/String" 38 "java/lang/String" "COMPACT_STRINGS" "Z") (g_mem 622 (by decide +kernel) rfl)) (fun _ h => h) d_lat_0 ?_
  refine lv_if_eq (tgt := 17) hx hb d_lat_3 (by decide) (fun z => absurd z (by decide)) (fun _ => ?_)
  refine lv_aload_n hx hb d_lat_6 rfl (lv_at hl 0 rfl) ?_
  refine vk_getf hx hb (hE.1.1 i hi).2.1 hS hown (hts (.fieldLink "java/lang/String" 15 "java/lang/String" "coder" "B") (g_mem 1130 (by decide +kernel) rfl)) (fun _ h => h) d_lat_7 ?_
  refine lv_if_ne (tgt := 17) hx hb d_lat_10 (by decide) (fun z => absurd rfl z) (fun _ => ?_)
  refine lv_iconst (v := 1) hx hb d_lat_13 (by decide) ?_
  refine lv_goto (tgt := 18) hx hb d_lat_14 (by decide) ?_
  exact W.zret hx hb hr rfl (fun t ht hW => ⟨_, rfl, rfl, ht⟩) (fun q h => by cases h) d_lat_18 hlocks
theorem j_gv_coder : GoodIn g_T (wsV "java/lang/String" 335 "java/lang/String" y_coder (w_coder :: g_T)) := fun w hw => g_good (by
  unfold wsV at hw
  simp only [List.cons_append, List.nil_append, List.mem_cons] at hw
  rcases hw with rfl | rfl | rfl | rfl | rfl | hw
  · exact g_mem 618 (by decide +kernel) rfl
  · exact g_mem 619 (by decide +kernel) rfl
  · exact g_mem 620 (by decide +kernel) rfl
  · exact g_mem 50 (by decide +kernel) rfl
  · exact w_coder_in
  · exact hw)
theorem j_gv_lat : GoodIn g_T (wsV "java/lang/String" 492 "java/lang/String" y_lat (w_lat :: g_T)) := fun w hw => g_good (by
  unfold wsV at hw
  simp only [List.cons_append, List.nil_append, List.mem_cons] at hw
  rcases hw with rfl | rfl | rfl | rfl | rfl | hw
  · exact g_mem 632 (by decide +kernel) rfl
  · exact g_mem 633 (by decide +kernel) rfl
  · exact g_mem 634 (by decide +kernel) rfl
  · exact g_mem 50 (by decide +kernel) rfl
  · exact w_lat_in
  · exact hw)
theorem j_gs_l1 : GoodIn g_T (va_wsS "java/lang/String" 495 y_l1 (w_l1 :: g_T)) := fun w hw => g_good (by
  unfold va_wsS at hw
  simp only [List.cons_append, List.nil_append, List.mem_cons] at hw
  rcases hw with rfl | rfl | rfl | rfl | hw
  · exact g_mem 636 (by decide +kernel) rfl
  · exact g_mem 637 (by decide +kernel) rfl
  · exact g_mem 51 (by decide +kernel) rfl
  · exact w_l1_in
  · exact hw)
theorem j_gs_ci : GoodIn g_T (va_wsS "java/lang/StringLatin1" 9 y_ci (w_ci :: g_T)) := fun w hw => g_good (by
  unfold va_wsS at hw
  simp only [List.cons_append, List.nil_append, List.mem_cons] at hw
  rcases hw with rfl | rfl | rfl | rfl | hw
  · exact g_mem 639 (by decide +kernel) rfl
  · exact g_mem 640 (by decide +kernel) rfl
  · exact g_mem 50 (by decide +kernel) rfl
  · exact w_ci_in
  · exact hw)
theorem j_gs_pc : GoodIn g_T (va_wsS "java/lang/String" 1059 y_pc (w_pc :: g_T)) := fun w hw => g_good (by
  unfold va_wsS at hw
  simp only [List.cons_append, List.nil_append, List.mem_cons] at hw
  rcases hw with rfl | rfl | rfl | rfl | hw
  · exact g_mem 644 (by decide +kernel) rfl
  · exact g_mem 645 (by decide +kernel) rfl
  · exact g_mem 52 (by decide +kernel) rfl
  · exact w_pc_in
  · exact hw)
set_option maxHeartbeats 4000000 in
theorem j_len (l : Launch) (aK aV : Nat → Nat) (A : Nat → Prop) (i : Nat) (hi : i < 9) : Met l y_len (w_len :: g_T) (j_rm 1 20) (va_Pc [.ref (aK i)] (fun U => j_S aK aV A U U.heap)) (j_Q (fun r => r = nI (g_sl.getD i 0))) 0 0 (fun _ => False) := by
  refine m_ofW (cc := b_len) (maxL := 1) (ret := (some .int)) (by decide +kernel) rfl ?_
  intro p e s m args below meth c s₁ B hml hv
  obtain ⟨rfl, hE⟩ := hv
  have hx := B.exec
  have hb := B.bytes
  have hr := B.returns
  have hts0 := atoms_spec (ws := w_len :: g_T) B.pre
  have hts : ∀ w ∈ g_T, w.before _ s = true := fun w h => hts0 w (List.mem_cons_of_mem _ h)
  have hown : s.vm.findClass "java/lang/String" = some m.cls := findClass_of_methodNamed B.named
  have hlocks := B.notSynchronized
  have hS : va_S A s.heap s.heap [] := va_S.rf
  have hl := lv_entry [.ref (aK i)] (n := 1) (Nat.le_of_ble_eq_true rfl)
  rw [lg_entry_eq]
  generalize (lg_sl [.ref (aK i)] ++ List.replicate (1 - (lg_sl [.ref (aK i)]).length) Slot.unset).toArray = ls at hl ⊢
  have hl : lv_has ls 1 [(0, .ref (aK i))] := hl
  refine lv_aload_n hx hb d_len_0 rfl (lv_at hl 0 rfl) ?_
  refine vk_getf hx hb (hE.1.1 i hi).2.2.1 hS hown (hts (.fieldLink "java/lang/String" 9 "java/lang/String" "value" "[B") (g_mem 1129 (by decide +kernel) rfl)) (fun _ h => h) d_len_1 ?_
  refine va_tlen hx hb (hE.1.1 i hi).2.2.2 hS rfl d_len_4 ?_
  refine lv_aload_n hx hb d_len_5 rfl (lv_at hl 0 rfl) ?_
  refine j_call (va_runV (C := "java/lang/String") (As := []) (rest := [.int (Int32.ofNat (g_sl.getD i 0))]) ⟨hx, hb, hml, hown, hts⟩ (j_coder l aK aV A i hi) (cwV 0 hts j_gv_coder rfl rfl rfl (by decide +kernel) ⟨Nat.le_of_ble_eq_true rfl, Nat.le_of_ble_eq_true rfl⟩) ⟨j_blind, vk_recv hE.1 hi hS, j_pre hE⟩ rfl rfl hl.1 rfl (lv_room (Nat.le_of_ble_eq_true rfl)) d_len_6 ⟨Nat.le_refl _, Nat.le_refl _⟩) (fun r hr0 => ?_)
  subst hr0
  refine lv_ishr hx hb d_len_9 ?_
  refine W.iret (v := Int32.ofNat (g_sl.getD i 0) >>> ((0 : Int32) &&& 31)) hx hb hr (fun t ht hW => ⟨_, rfl, ?_, ht⟩) (fun q h => by cases h) d_len_10 hlocks
  have : ∀ i : Nat, i < 9 → Int32.ofNat (g_sl.getD i 0) >>> ((0 : Int32) &&& 31) = nI (g_sl.getD i 0) := by decide +kernel
  exact this i hi
set_option maxHeartbeats 4000000 in
theorem j_pc (l : Launch) (aK aV : Nat → Nat) (A : Nat → Prop) (x n : Int32) (z : Value) (hz : z = .null ∨ ∃ a, z = .ref a) (N : Nat) (hin : vp_in x N) (hlt : x < n) : Met l y_pc (w_pc :: g_T) (j_rm 0 0) (va_Pc [.int x, .int n, z] (fun U => j_S aK aV A U U.heap)) (j_Q (fun r => True)) 0 0 (fun _ => False) := by
  refine m_ofW (cc := b_pc) (maxL := 3) (ret := (some .int)) (by decide +kernel) rfl ?_
  intro p e s m args below meth c s₁ B hml hv
  obtain ⟨rfl, hE⟩ := hv
  have hx := B.exec
  have hb := B.bytes
  have hr := B.returns
  have hts0 := atoms_spec (ws := w_pc :: g_T) B.pre
  have hts : ∀ w ∈ g_T, w.before _ s = true := fun w h => hts0 w (List.mem_cons_of_mem _ h)
  have hown : s.vm.findClass "jdk/internal/util/Preconditions" = some m.cls := findClass_of_methodNamed B.named
  have hlocks := B.notSynchronized
  have hS : va_S A s.heap s.heap [] := va_S.rf
  have hl := lv_entry [.int x, .int n, z] (n := 3) (by rcases hz with rfl | ⟨a, rfl⟩ <;> exact Nat.le_of_ble_eq_true rfl)
  rw [lg_entry_eq]
  generalize (lg_sl [.int x, .int n, z] ++ List.replicate (3 - (lg_sl [.int x, .int n, z]).length) Slot.unset).toArray = ls at hl ⊢
  have hl : lv_has ls 3 [(0, .int x), (1, .int n)] := lv_sub hl [0, 1] rfl
  have h0 : ¬ x < 0 := fun q => hin (Or.inl q)
  refine lv_iload_n hx hb d_pc_0 rfl (lv_at hl 0 rfl) ?_
  refine lv_if_lt (tgt := 9) hx hb d_pc_1 (by decide) (fun q => absurd q h0) (fun _ => ?_)
  refine lv_iload_n hx hb d_pc_4 rfl (lv_at hl 0 rfl) ?_
  refine lv_iload_n hx hb d_pc_5 rfl (lv_at hl 1 rfl) ?_
  refine lv_icmp_lt (tgt := 16) hx hb d_pc_6 (by decide) (fun _ => ?_) (fun q => absurd hlt q)
  refine lv_iload_n hx hb d_pc_16 rfl (lv_at hl 0 rfl) ?_
  exact W.iret hx hb hr (fun t ht hW => ⟨_, rfl, trivial, ht⟩) (fun q h => by cases h) d_pc_17 hlocks
set_option maxHeartbeats 4000000 in
theorem j_ci (l : Launch) (aK aV : Nat → Nat) (A : Nat → Prop) (x n : Int32) (N : Nat) (hin : vp_in x N) (hlt : x < n) : Met l y_ci (w_ci :: g_T) (j_rm 1 22) (va_Pc [.int x, .int n] (fun U => j_S aK aV A U U.heap)) j_V 0 0 (fun _ => False) := by
  refine m_ofW (cc := b_ci) (maxL := 2) (ret := none) (by decide +kernel) rfl ?_
  intro p e s m args below meth c s₁ B hml hv
  obtain ⟨rfl, hE⟩ := hv
  have hx := B.exec
  have hb := B.bytes
  have hr := B.returns
  have hts0 := atoms_spec (ws := w_ci :: g_T) B.pre
  have hts : ∀ w ∈ g_T, w.before _ s = true := fun w h => hts0 w (List.mem_cons_of_mem _ h)
  have hown : s.vm.findClass "java/lang/String" = some m.cls := findClass_of_methodNamed B.named
  have hlocks := B.notSynchronized
  have hS : va_S A s.heap s.heap [] := va_S.rf
  have hl := lv_entry [.int x, .int n] (n := 2) (Nat.le_of_ble_eq_true rfl)
  rw [lg_entry_eq]
  generalize (lg_sl [.int x, .int n] ++ List.replicate (2 - (lg_sl [.int x, .int n]).length) Slot.unset).toArray = ls at hl ⊢
  have hl : lv_has ls 2 [(0, .int x), (1, .int n)] := hl
  refine lv_iload_n hx hb d_ci_0 rfl (lv_at hl 0 rfl) ?_
  refine lv_iload_n hx hb d_ci_1 rfl (lv_at hl 1 rfl) ?_
  have key : ∀ z : Value, (z = .null ∨ ∃ a, z = .ref a) → va_Z "jdk/internal/util/Preconditions" "SIOOBE_FORMATTER" "Ljava/util/function/BiFunction;" z A s s.heap → W p l e (headSpec (w_ci :: g_T) (j_rm 1 22)).room s m #[Value.int x, Value.int n] below meth c s.heap [] 0 0 (MQ below j_V #[Value.int x, Value.int n] s 0 0 (fun _ => False)) (F0 m 2 ls [.int n, .int x]) := by
    intro z hz hZ
    refine va_gets hx hb hZ hS hown (hts (.fieldLink "java/lang/String" 1053 "jdk/internal/util/Preconditions" "SIOOBE_FORMATTER" "Ljava/util/function/BiFunction;") (g_mem 642 (by decide +kernel) rfl)) (fun _ h => h) d_ci_2 ?_
    refine j_call (va_runS (As := [.int x, .int n, z]) (rest := []) ⟨hx, hb, hml, hown, hts⟩ (j_pc l aK aV A x n z hz N hin hlt) (va_cwS 3 hts j_gs_pc rfl rfl rfl (by decide +kernel) ⟨Nat.le_of_ble_eq_true rfl, Nat.le_of_ble_eq_true rfl⟩) ⟨j_blind, j_pre hE⟩ rfl rfl hl.1 rfl (lv_room (Nat.le_of_ble_eq_true rfl)) d_ci_5 ⟨Nat.le_refl _, Nat.le_refl _⟩) (fun r _ => ?_)
    refine lv_pop hx hb d_ci_8 rfl ?_
    exact W.vret hx hb hr (fun t ht hW => ⟨rfl, ht⟩) (fun q h => by cases h) d_ci_9 hlocks
  rcases hE.2.2 with hZ | ⟨a, hZ⟩
  · exact key _ (Or.inl rfl) hZ
  · exact key _ (Or.inr ⟨a, rfl⟩) hZ
set_option maxHeartbeats 4000000 in
theorem j_l1 (l : Launch) (aK aV : Nat → Nat) (A : Nat → Prop) (i : Nat) (hi : i < 9) (x : Int32) (hin : vp_in x (g_sl.getD i 0)) : Met l y_l1 (w_l1 :: g_T) (j_rm 2 43) (va_Pc [.ref (aV i), .int x] (fun U => j_S aK aV A U U.heap)) (j_Q (fun r => r = (g_sb.getD i []).getD x.toNatClampNeg 0)) 0 0 (fun _ => False) := by
  refine m_ofW (cc := b_l1) (maxL := 2) (ret := (some .char)) (by decide +kernel) rfl ?_
  intro p e s m args below meth c s₁ B hml hv
  obtain ⟨rfl, hE⟩ := hv
  have hx := B.exec
  have hb := B.bytes
  have hr := B.returns
  have hts0 := atoms_spec (ws := w_l1 :: g_T) B.pre
  have hts : ∀ w ∈ g_T, w.before _ s = true := fun w h => hts0 w (List.mem_cons_of_mem _ h)
  have hown : s.vm.findClass "java/lang/StringLatin1" = some m.cls := findClass_of_methodNamed B.named
  have hlocks := B.notSynchronized
  have hS : va_S A s.heap s.heap [] := va_S.rf
  have hl := lv_entry [.ref (aV i), .int x] (n := 2) (Nat.le_of_ble_eq_true rfl)
  rw [lg_entry_eq]
  generalize (lg_sl [.ref (aV i), .int x] ++ List.replicate (2 - (lg_sl [.ref (aV i), .int x]).length) Slot.unset).toArray = ls at hl ⊢
  have hl : lv_has ls 2 [(0, .ref (aV i)), (1, .int x)] := hl
  have hlt : x < nI (g_sl.getD i 0) := by
    have h2 := (j_A0 i hi).2.1
    obtain ⟨j, hj, rfl⟩ := vp_in_of hin (by omega)
    exact nI_lt hj (by omega)
  refine lv_iload_n hx hb d_l1_0 rfl (lv_at hl 1 rfl) ?_
  refine lv_aload_n hx hb d_l1_1 rfl (lv_at hl 0 rfl) ?_
  refine va_tlen hx hb (hE.1.1 i hi).2.2.2 hS rfl d_l1_2 ?_
  refine j_callv (va_runS (As := [.int x, .int (Int32.ofNat (g_sl.getD i 0))]) (rest := []) ⟨hx, hb, hml, hown, hts⟩ (j_ci l aK aV A x _ _ hin hlt) (va_cwS 2 hts j_gs_ci rfl rfl rfl (by decide +kernel) ⟨Nat.le_of_ble_eq_true rfl, Nat.le_of_ble_eq_true rfl⟩) ⟨j_blind, j_pre hE⟩ rfl rfl hl.1 rfl (lv_room (Nat.le_of_ble_eq_true rfl)) d_l1_3 ⟨Nat.le_refl _, Nat.le_refl _⟩) ?_
  refine lv_aload_n hx hb d_l1_6 rfl (lv_at hl 0 rfl) ?_
  refine lv_iload_n hx hb d_l1_7 rfl (lv_at hl 1 rfl) ?_
  refine va_tb hx hb (hE.1.1 i hi).2.2.2 hS hin rfl d_l1_8 ?_
  refine lv_sipush (v := 255) hx hb d_l1_9 (by decide) ?_
  refine lv_iand hx hb d_l1_12 ?_
  refine lv_i2c hx hb d_l1_13 (j_ch hi hin).1 ?_
  exact W.zret hx hb hr (j_ch hi hin).2 (fun t ht hW => ⟨_, rfl, rfl, ht⟩) (fun q h => by cases h) d_l1_14 hlocks
set_option maxHeartbeats 4000000 in
theorem j_chat (l : Launch) (aK aV : Nat → Nat) (A : Nat → Prop) (i : Nat) (hi : i < 9) (x : Int32) (hin : vp_in x (g_sl.getD i 0)) : Met l y_chat (w_chat :: g_T) (j_rm 3 64) (va_Pc [.ref (aK i), .int x] (fun U => j_S aK aV A U U.heap)) (j_Q (fun r => r = (g_sb.getD i []).getD x.toNatClampNeg 0)) 0 0 (fun _ => False) := by
  refine m_ofW (cc := b_chat) (maxL := 2) (ret := (some .char)) (by decide +kernel) rfl ?_
  intro p e s m args below meth c s₁ B hml hv
  obtain ⟨rfl, hE⟩ := hv
  have hx := B.exec
  have hb := B.bytes
  have hr := B.returns
  have hts0 := atoms_spec (ws := w_chat :: g_T) B.pre
  have hts : ∀ w ∈ g_T, w.before _ s = true := fun w h => hts0 w (List.mem_cons_of_mem _ h)
  have hown : s.vm.findClass "java/lang/String" = some m.cls := findClass_of_methodNamed B.named
  have hlocks := B.notSynchronized
  have hS : va_S A s.heap s.heap [] := va_S.rf
  have hl := lv_entry [.ref (aK i), .int x] (n := 2) (Nat.le_of_ble_eq_true rfl)
  rw [lg_entry_eq]
  generalize (lg_sl [.ref (aK i), .int x] ++ List.replicate (2 - (lg_sl [.ref (aK i), .int x]).length) Slot.unset).toArray = ls at hl ⊢
  have hl : lv_has ls 2 [(0, .ref (aK i)), (1, .int x)] := hl
  refine lv_aload_n hx hb d_chat_0 rfl (lv_at hl 0 rfl) ?_
  refine j_call (va_runV (C := "java/lang/String") (As := []) (rest := []) ⟨hx, hb, hml, hown, hts⟩ (j_lat l aK aV A i hi) (cwV 0 hts j_gv_lat rfl rfl rfl (by decide +kernel) ⟨Nat.le_of_ble_eq_true rfl, Nat.le_of_ble_eq_true rfl⟩) ⟨j_blind, vk_recv hE.1 hi hS, j_pre hE⟩ rfl rfl hl.1 rfl (lv_room (Nat.le_of_ble_eq_true rfl)) d_chat_1 ⟨Nat.le_refl _, Nat.le_refl _⟩) (fun r hr0 => ?_)
  subst hr0
  refine lv_if_eq (tgt := 16) hx hb d_chat_4 (by decide) (fun z => absurd z (by decide)) (fun _ => ?_)
  refine lv_aload_n hx hb d_chat_7 rfl (lv_at hl 0 rfl) ?_
  refine vk_getf hx hb (hE.1.1 i hi).2.2.1 hS hown (hts (.fieldLink "java/lang/String" 9 "java/lang/String" "value" "[B") (g_mem 1129 (by decide +kernel) rfl)) (fun _ h => h) d_chat_8 ?_
  refine lv_iload_n hx hb d_chat_11 rfl (lv_at hl 1 rfl) ?_
  refine j_call (va_runS (As := [.ref (aV i), .int x]) (rest := []) ⟨hx, hb, hml, hown, hts⟩ (j_l1 l aK aV A i hi x hin) (va_cwS 2 hts j_gs_l1 rfl rfl rfl (by decide +kernel) ⟨Nat.le_of_ble_eq_true rfl, Nat.le_of_ble_eq_true rfl⟩) ⟨j_blind, j_pre hE⟩ rfl rfl hl.1 rfl (lv_room (Nat.le_of_ble_eq_true rfl)) d_chat_12 ⟨Nat.le_refl _, Nat.le_refl _⟩) (fun r hr0 => ?_)
  subst hr0
  exact W.zret hx hb hr (j_ch hi hin).2 (fun t ht hW => ⟨_, rfl, rfl, ht⟩) (fun q h => by cases h) d_chat_15 hlocks
