/-! THE SMALL MACHINE: methods over a flat memory (a cell, a place: an int or a long). References are cell numbers. -/
abbrev m_M : Type := (Nat → Nat → Int32) × (Nat → Nat → Int64)
def m_ui (f : Nat → Nat → Int32) (a k : Nat) (v : Int32) : Nat → Nat → Int32 := fun c j => if c = a then (if j = k then v else f c j) else f c j
def m_uj (f : Nat → Nat → Int64) (a k : Nat) (v : Int64) : Nat → Nat → Int64 := fun c j => if c = a then (if j = k then v else f c j) else f c j
def m_ci (f : Nat → Nat → Int32) (a : Nat) (g : Nat → Int32) : Nat → Nat → Int32 := fun c j => if c = a then g j else f c j
def m_cj (f : Nat → Nat → Int64) (a : Nat) (g : Nat → Int64) : Nat → Nat → Int64 := fun c j => if c = a then g j else f c j
abbrev m_Ls : Type := List (Nat × Value)
abbrev m_Q : Type := Option Value → m_M → Prop
def m_get (ls : m_Ls) (i : Nat) : Option Value := match ls with
  | [] => none
  | q :: r => match Nat.beq q.1 i with
    | true => some q.2
    | false => m_get r i
def m_s1 (ls : m_Ls) (i : Nat) (v : Value) : m_Ls := (i, v) :: ls.filter (fun q => !(q.1 == i) && !(q.1 + 1 == i && q.2.category == 2))
def m_s2 (ls : m_Ls) (i : Nat) (v : Value) : m_Ls := (i, v) :: ls.filter (fun q => !(q.1 == i) && (!(q.1 == i + 1) && !(q.1 + 1 == i && q.2.category == 2)))
def m_look (l : List (Nat × Instr × Nat)) (pc : Nat) : Option (Instr × Nat) := match l with
  | [] => none
  | q :: r => match Nat.beq q.1 pc with
    | true => some q.2
    | false => m_look r pc
def m_ob (a ci : Nat) : Bool := Nat.beq (g_kd a) 1 && Nat.beq (g_ar a) ci && Nat.blt a g_N
def m_isa (a kd : Nat) : Bool := Nat.beq (g_kd a) kd && Nat.blt a g_N
def m_fv (μ : m_M) (a ci k : Nat) : Value := match Nat.beq (g_ft ci k) 2 with
  | true => .ref (g_rf a k)
  | false => .int (μ.1 a k)
abbrev m_C : Type := Nat × m_Ls × List Value × m_M
/-- one plain instruction: no branch, no guard, no call -/
def m_stp (k : Nat) (i : Instr) (pc : Nat) (ls : m_Ls) (st : List Value) (μ : m_M) : Option m_C := match i with
  | .iconst v => some (pc + 1, ls, .int (Int32.ofInt v) :: st, μ)
  | .bipush v => some (pc + 2, ls, .int (Int8.ofInt v).toInt32 :: st, μ)
  | .sipush v => some (pc + 3, ls, .int (Int16.ofInt v).toInt32 :: st, μ)
  | .lconst v => some (pc + 1, ls, .long (Int64.ofNat v.val) :: st, μ)
  | .ldc x => match g_find g_ldcs (g_O k) x with
    | some v => some (pc + 2, ls, .int v :: st, μ)
    | none => match g_find g_strs (g_O k) x with
      | some j => some (pc + 2, ls, .ref (1000 + j) :: st, μ)
      | none => none
  | .ldc2_w x => match g_find g_ldc2s (g_O k) x with
    | some v => some (pc + 3, ls, .long v :: st, μ)
    | none => none
  | .iload j => match m_get ls j with
    | some (.int v) => some (pc + 2, ls, .int v :: st, μ)
    | _ => none
  | .iload_n j => match m_get ls j.val with
    | some (.int v) => some (pc + 1, ls, .int v :: st, μ)
    | _ => none
  | .lload j => match m_get ls j with
    | some (.long v) => some (pc + 2, ls, .long v :: st, μ)
    | _ => none
  | .lload_n j => match m_get ls j.val with
    | some (.long v) => some (pc + 1, ls, .long v :: st, μ)
    | _ => none
  | .aload_n j => match m_get ls j.val with
    | some (.ref v) => some (pc + 1, ls, .ref v :: st, μ)
    | _ => none
  | .istore j => match st, Nat.blt j (g_L k) with
    | .int v :: r, true => some (pc + 2, m_s1 ls j (.int v), r, μ)
    | _, _ => none
  | .istore_n j => match st, Nat.blt j.val (g_L k) with
    | .int v :: r, true => some (pc + 1, m_s1 ls j.val (.int v), r, μ)
    | _, _ => none
  | .lstore j => match st, Nat.blt (j + 1) (g_L k) with
    | .long v :: r, true => some (pc + 2, m_s2 ls j (.long v), r, μ)
    | _, _ => none
  | .lstore_n j => match st, Nat.blt (j.val + 1) (g_L k) with
    | .long v :: r, true => some (pc + 1, m_s2 ls j.val (.long v), r, μ)
    | _, _ => none
  | .iinc j n => match m_get ls j, Nat.blt j (g_L k) with
    | some (.int v), true => some (pc + 3, m_s1 ls j (.int (v + Int32.ofInt n)), st, μ)
    | _, _ => none
  | .iadd => match st with
    | .int y :: .int x :: r => some (pc + 1, ls, .int (x + y) :: r, μ)
    | _ => none
  | .isub => match st with
    | .int y :: .int x :: r => some (pc + 1, ls, .int (x - y) :: r, μ)
    | _ => none
  | .imul => match st with
    | .int y :: .int x :: r => some (pc + 1, ls, .int (x * y) :: r, μ)
    | _ => none
  | .iand => match st with
    | .int y :: .int x :: r => some (pc + 1, ls, .int (x &&& y) :: r, μ)
    | _ => none
  | .ior => match st with
    | .int y :: .int x :: r => some (pc + 1, ls, .int (x ||| y) :: r, μ)
    | _ => none
  | .ixor => match st with
    | .int y :: .int x :: r => some (pc + 1, ls, .int (x ^^^ y) :: r, μ)
    | _ => none
  | .ishl => match st with
    | .int y :: .int x :: r => some (pc + 1, ls, .int (x <<< (y &&& 31)) :: r, μ)
    | _ => none
  | .ishr => match st with
    | .int y :: .int x :: r => some (pc + 1, ls, .int (x >>> (y &&& 31)) :: r, μ)
    | _ => none
  | .ladd => match st with
    | .long y :: .long x :: r => some (pc + 1, ls, .long (x + y) :: r, μ)
    | _ => none
  | .lsub => match st with
    | .long y :: .long x :: r => some (pc + 1, ls, .long (x - y) :: r, μ)
    | _ => none
  | .lmul => match st with
    | .long y :: .long x :: r => some (pc + 1, ls, .long (x * y) :: r, μ)
    | _ => none
  | .land => match st with
    | .long y :: .long x :: r => some (pc + 1, ls, .long (x &&& y) :: r, μ)
    | _ => none
  | .lor => match st with
    | .long y :: .long x :: r => some (pc + 1, ls, .long (x ||| y) :: r, μ)
    | _ => none
  | .lxor => match st with
    | .long y :: .long x :: r => some (pc + 1, ls, .long (x ^^^ y) :: r, μ)
    | _ => none
  | .lshl => match st with
    | .int y :: .long x :: r => some (pc + 1, ls, .long (x <<< (y.toInt64 &&& 63)) :: r, μ)
    | _ => none
  | .lshr => match st with
    | .int y :: .long x :: r => some (pc + 1, ls, .long (x >>> (y.toInt64 &&& 63)) :: r, μ)
    | _ => none
  | .lcmp => match st with
    | .long y :: .long x :: r => some (pc + 1, ls, .int (lg_cmp x y) :: r, μ)
    | _ => none
  | .i2l => match st with
    | .int x :: r => some (pc + 1, ls, .long x.toInt64 :: r, μ)
    | _ => none
  | .l2i => match st with
    | .long x :: r => some (pc + 1, ls, .int x.toInt32 :: r, μ)
    | _ => none
  | .i2c => match st with
    | .int x :: r => some (pc + 1, ls, .int (x.toUInt32 % 65536).toInt32 :: r, μ)
    | _ => none
  | .dup => match st with
    | v :: r => match Nat.beq v.category 1 with
      | true => some (pc + 1, ls, v :: v :: r, μ)
      | false => none
    | _ => none
  | .dup2 => match st with
    | v :: w :: r => match Nat.beq v.category 1 && Nat.beq w.category 1 with
      | true => some (pc + 1, ls, v :: w :: v :: w :: r, μ)
      | false => none
    | _ => none
  | .pop => match st with
    | v :: r => match Nat.beq v.category 1 with
      | true => some (pc + 1, ls, r, μ)
      | false => none
    | _ => none
  | .goto o => some (((pc : Int) + o).toNat, ls, st, μ)
  | .getfield x => match st, g_find g_fls (g_O k) x with
    | .ref a :: r, some q => match m_ob a q.1 with
      | true => some (pc + 3, ls, m_fv μ a q.1 q.2 :: r, μ)
      | false => none
    | _, _ => none
  | .putfield x => match st, g_find g_fls (g_O k) x with
    | .int v :: .ref a :: r, some q => match m_ob a q.1 && Nat.beq (g_ft q.1 q.2) 0 with
      | true => some (pc + 3, ls, r, (m_ui μ.1 a q.2 v, μ.2))
      | false => none
    | _, _ => none
  | _ => none
def m_cat (st : List Value) : Nat := (st.map fun v => v.category).sum
abbrev m_KT : Type := Nat → m_Ls → List Value → m_M → Prop
abbrev m_CT : Type := Nat → List Value → m_M → m_Q → Prop
def m_cd (c : ClassFile.Cond) (x y : Int32) : Prop := match c with
  | .eq => x = y
  | .ne => x ≠ y
  | .lt => x < y
  | .ge => y ≤ x
  | .gt => y < x
  | .le => x ≤ y
/-- String.length (4) and String.charAt (5) of a constant -/
def m_Str (k : Nat) (sp : Option Nat) (pc : Nat) (ls : m_Ls) (st : List Value) (μ : m_M) (K : m_KT) : Prop := match sp with
  | some 4 => match st with
    | .ref a :: r => (1000 ≤ a ∧ a < 1009 ∧ m_cat r ≤ 8 ∧ 2 ≤ g_fr k ∧ 40 ≤ g_lo k) ∧ K (pc + 3) ls (.int (nI (g_sl.getD (a - 1000) 0)) :: r) μ
    | _ => False
  | some 5 => match st with
    | .int i :: .ref a :: r => (1000 ≤ a ∧ a < 1009 ∧ vp_in i (g_sl.getD (a - 1000) 0) ∧ m_cat r ≤ 8 ∧ 4 ≤ g_fr k ∧ 85 ≤ g_lo k) ∧ K (pc + 3) ls (.int ((g_sb.getD (a - 1000) []).getD i.toNatClampNeg 0) :: r) μ
    | _ => False
  | _ => False
/-- System.arraycopy (3), of ints or of longs -/
def m_Cpy (k : Nat) (sp : Option Nat) (pc : Nat) (ls : m_Ls) (st : List Value) (μ : m_M) (K : m_KT) : Prop := match sp with
  | some 3 => match st with
    | .int n :: .int dp :: .ref d :: .int sp :: .ref a :: r => ((¬ sp < 0 ∧ ¬ dp < 0 ∧ ¬ n < 0) ∧ sp.toNatClampNeg + n.toNatClampNeg ≤ g_ar a ∧ dp.toNatClampNeg + n.toNatClampNeg ≤ g_ar d ∧ 1 ≤ g_fr k ∧ m_cat r + (nativeFrameWords "java/lang/System" "arraycopy" 5 + 11) ≤ g_lo k) ∧
        ((m_isa a 2 = true → m_isa d 2 = true ∧ K (pc + 3) ls r (m_ci μ.1 d (va_cpy (μ.1 a) (μ.1 d) sp.toNatClampNeg dp.toNatClampNeg n.toNatClampNeg), μ.2)) ∧ (¬ m_isa a 2 = true → m_isa a 4 = true ∧ m_isa d 4 = true ∧ K (pc + 3) ls r (μ.1, m_cj μ.2 d (va_cpy (μ.2 a) (μ.2 d) sp.toNatClampNeg dp.toNatClampNeg n.toNatClampNeg))))
    | _ => False
  | _ => False
/-- what one instruction asks of what comes behind it -/
def m_Sem (k : Nat) (i : Instr) (pc : Nat) (ls : m_Ls) (st : List Value) (μ : m_M) (K : m_KT) (Cl : m_CT) (Q : m_Q) : Prop := match i with
  | .ifCond c o => match st with
    | .int x :: r => (m_cd c x 0 → K ((pc : Int) + o).toNat ls r μ) ∧ (¬ m_cd c x 0 → K (pc + 3) ls r μ)
    | _ => False
  | .if_icmp c o => match st with
    | .int y :: .int x :: r => (m_cd c x y → K ((pc : Int) + o).toNat ls r μ) ∧ (¬ m_cd c x y → K (pc + 3) ls r μ)
    | _ => False
  | .tableswitch d lo hi os => match st with
    | .int x :: r => (x.toInt < lo ∨ hi < x.toInt → K ((pc : Int) + d).toNat ls r μ) ∧ ∀ (j : Nat) (o : Int), os[j]? = some o → x.toInt = lo + j → x.toInt ≤ hi → K ((pc : Int) + o).toNat ls r μ
    | _ => False
  | .idiv => match st with
    | .int y :: .int x :: r => ¬ y = 0 ∧ K (pc + 1) ls (.int (x / y) :: r) μ
    | _ => False
  | .irem => match st with
    | .int y :: .int x :: r => ¬ y = 0 ∧ K (pc + 1) ls (.int (x - x / y * y) :: r) μ
    | _ => False
  | .ldiv => match st with
    | .long y :: .long x :: r => ¬ y = 0 ∧ K (pc + 1) ls (.long (x / y) :: r) μ
    | _ => False
  | .iaload => match st with
    | .int j :: .ref a :: r => m_isa a 2 = true ∧ vp_in j (g_ar a) ∧ K (pc + 1) ls (.int (μ.1 a j.toNatClampNeg) :: r) μ
    | _ => False
  | .caload => match st with
    | .int j :: .ref a :: r => m_isa a 3 = true ∧ vp_in j (g_ar a) ∧ K (pc + 1) ls (.int (μ.1 a j.toNatClampNeg) :: r) μ
    | _ => False
  | .laload => match st with
    | .int j :: .ref a :: r => m_isa a 4 = true ∧ vp_in j (g_ar a) ∧ K (pc + 1) ls (.long (μ.2 a j.toNatClampNeg) :: r) μ
    | _ => False
  | .aaload => match st with
    | .int j :: .ref a :: r => m_isa a 5 = true ∧ vp_in j (g_ar a) ∧ K (pc + 1) ls (.ref (g_rf a j.toNatClampNeg) :: r) μ
    | _ => False
  | .iastore => match st with
    | .int v :: .int j :: .ref a :: r => m_isa a 2 = true ∧ vp_in j (g_ar a) ∧ K (pc + 1) ls r (m_ui μ.1 a j.toNatClampNeg v, μ.2)
    | _ => False
  | .castore => match st with
    | .int v :: .int j :: .ref a :: r => m_isa a 3 = true ∧ vp_in j (g_ar a) ∧ K (pc + 1) ls r (m_ui μ.1 a j.toNatClampNeg (vp_nar .char v), μ.2)
    | _ => False
  | .lastore => match st with
    | .long v :: .int j :: .ref a :: r => m_isa a 4 = true ∧ vp_in j (g_ar a) ∧ K (pc + 1) ls r (μ.1, m_uj μ.2 a j.toNatClampNeg v)
    | _ => False
  | .putfield x => match st, g_find g_fls (g_O k) x with
    | .int v :: .ref a :: r, some q => m_ob a q.1 = true ∧ ((Nat.beq (g_ft q.1 q.2) 0 = true ∨ (Nat.beq (g_ft q.1 q.2) 1 = true ∧ (v = 0 ∨ v = 1))) ∧ K (pc + 3) ls r (m_ui μ.1 a q.2 v, μ.2))
    | _, _ => False
  | .invokevirtual x => match g_find g_cv (g_O k) x with
    | some f => match st.drop (g_na f) with
      | .ref b :: r => (g_na f ≤ st.length ∧ m_ob b (g_O f) = true ∧ (lg_sl (.ref b :: (st.take (g_na f)).reverse)).length ≤ g_L f ∧ m_cat r ≤ 8 ∧ g_fr f + 1 ≤ g_fr k ∧ 8 + (g_L f + 11) + g_lo f ≤ g_lo k) ∧ Cl f (.ref b :: (st.take (g_na f)).reverse) μ (fun v μ' => K (pc + 3) ls (v.toList ++ r) μ')
      | _ => False
    | none => m_Str k (g_find g_sps (g_O k) x) pc ls st μ K
  | .invokestatic x => match g_find g_cs (g_O k) x with
    | some f => (g_na f ≤ st.length ∧ (lg_sl (st.take (g_na f)).reverse).length ≤ g_L f ∧ m_cat (st.drop (g_na f)) ≤ 8 ∧ g_fr f + 1 ≤ g_fr k ∧ 8 + (g_L f + 11) + g_lo f ≤ g_lo k) ∧ Cl f (st.take (g_na f)).reverse μ (fun v μ' => K (pc + 3) ls (v.toList ++ st.drop (g_na f)) μ')
    | none => match g_find g_cnn (g_O k) x with
      | some f => (g_na f ≤ st.length ∧ (lg_sl (st.take (g_na f)).reverse).length ≤ g_L f ∧ m_cat (st.drop (g_na f)) ≤ 8 ∧ g_fr f + 1 ≤ g_fr k ∧ 8 + (g_L f + 11) + g_lo f ≤ g_lo k) ∧ Cl f (st.take (g_na f)).reverse μ (fun v μ' => K (pc + 3) ls (v.toList ++ st.drop (g_na f)) μ')
      | none => m_Cpy k (g_find g_sps (g_O k) x) pc ls st μ K
  | .ireturn => match st, g_R k with
    | [.int v], some ty => (¬ ty = .long ∧ narrow ty (.int v) = .int v) ∧ Q (some (.int v)) μ
    | _, _ => False
  | .lreturn => match st with
    | [.long v] => g_R k = some .long ∧ Q (some (.long v)) μ
    | _ => False
  | .return_ => match st with
    | [] => g_R k = none ∧ Q none μ
    | _ => False
  | i => match m_stp k i pc ls st μ with
    | some q => K q.1 q.2.1 q.2.2.1 q.2.2.2
    | none => False
/-- what a set of states must have that is closed under the machine's steps -/
abbrev m_XT : Type := Nat → Nat → m_Ls → List Value → m_M → m_Q → Prop
def m_Step (X : m_XT) (k pc : Nat) (ls : m_Ls) (st : List Value) (μ : m_M) (Q : m_Q) : Prop := k < g_ms.length ∧ match m_look (g_code k) pc with
  | some q => m_Sem k q.1 pc ls st μ (fun pc ls st μ => X k pc ls st μ Q) (fun f as μ Q => X f 0 (lv_args 0 as) [] μ Q) Q
  | none => False
def m_Mono (X : m_XT) : Prop := ∀ (k pc : Nat) (ls : m_Ls) (st : List Value) (μ : m_M) (Q Q' : m_Q), (∀ v μ', Q v μ' → Q' v μ') → X k pc ls st μ Q → X k pc ls st μ Q'
def m_Clsd (X : m_XT) : Prop := (∀ (k pc : Nat) (ls : m_Ls) (st : List Value) (μ : m_M) (Q : m_Q), m_Step X k pc ls st μ Q → X k pc ls st μ Q) ∧ ∀ (k pc : Nat) (ls ls' : m_Ls) (st : List Value) (μ : m_M) (Q : m_Q), (∀ q ∈ ls', q ∈ ls) → X k pc ls' st μ Q → X k pc ls st μ Q
/-- from here the method comes to its end, with Q -/
def m_W (k pc : Nat) (ls : m_Ls) (st : List Value) (μ : m_M) (Q : m_Q) : Prop := ∀ X : m_XT, m_Mono X → m_Clsd X → X k pc ls st μ Q
theorem m_Str_mono {k : Nat} {sp : Option Nat} {pc : Nat} {ls : m_Ls} {st : List Value} {μ : m_M} {K K' : m_KT} (hK : ∀ a b c d, K a b c d → K' a b c d) (h : m_Str k sp pc ls st μ K) : m_Str k sp pc ls st μ K' := by
  unfold m_Str at h ⊢
  split at h
  · split at h
    · exact ⟨h.1, hK _ _ _ _ h.2⟩
    · exact h.elim
  · split at h
    · exact ⟨h.1, hK _ _ _ _ h.2⟩
    · exact h.elim
  · exact h.elim
theorem m_Cpy_mono {k : Nat} {sp : Option Nat} {pc : Nat} {ls : m_Ls} {st : List Value} {μ : m_M} {K K' : m_KT} (hK : ∀ a b c d, K a b c d → K' a b c d) (h : m_Cpy k sp pc ls st μ K) : m_Cpy k sp pc ls st μ K' := by
  unfold m_Cpy at h ⊢
  split at h
  · split at h
    · exact ⟨h.1, fun q => ⟨(h.2.1 q).1, hK _ _ _ _ (h.2.1 q).2⟩, fun q => ⟨(h.2.2 q).1, (h.2.2 q).2.1, hK _ _ _ _ (h.2.2 q).2.2⟩⟩
    · exact h.elim
  · exact h.elim
theorem m_Sem_mono {k : Nat} {i : Instr} {pc : Nat} {ls : m_Ls} {st : List Value} {μ : m_M} {K K' : m_KT} {Cl Cl' : m_CT} {Q Q' : m_Q} (hK : ∀ a b c d, K a b c d → K' a b c d) (hQ : ∀ v μ', Q v μ' → Q' v μ')
    (hC : ∀ f as μ (P P' : m_Q), (∀ v μ', P v μ' → P' v μ') → Cl f as μ P → Cl' f as μ P') (h : m_Sem k i pc ls st μ K Cl Q) : m_Sem k i pc ls st μ K' Cl' Q' := by
  unfold m_Sem at h ⊢
  cases i <;> dsimp only at h ⊢ <;>
    first
      | (split at h
         · exact hK _ _ _ _ h
         · exact h.elim)
      | (split at h
         · exact ⟨fun q => hK _ _ _ _ (h.1 q), fun q => hK _ _ _ _ (h.2 q)⟩
         · exact h.elim)
      | (split at h
         · exact ⟨h.1, hK _ _ _ _ h.2⟩
         · exact h.elim)
      | (split at h
         · exact ⟨h.1, h.2.1, hK _ _ _ _ h.2.2⟩
         · exact h.elim)
      | (split at h
         · exact ⟨h.1, hQ _ _ h.2⟩
         · exact h.elim)
      | (split at h
         · exact ⟨fun q => hK _ _ _ _ (h.1 q), fun j o q1 q2 q3 => hK _ _ _ _ (h.2 j o q1 q2 q3)⟩
         · exact h.elim)
      | (split at h
         · split at h
           · exact ⟨h.1, hC _ _ _ _ _ (fun v μ' q => hK _ _ _ _ q) h.2⟩
           · exact h.elim
         · exact m_Str_mono hK h)
      | (split at h
         · exact ⟨h.1, hC _ _ _ _ _ (fun v μ' q => hK _ _ _ _ q) h.2⟩
         · split at h
           · exact ⟨h.1, hC _ _ _ _ _ (fun v μ' q => hK _ _ _ _ q) h.2⟩
           · exact m_Cpy_mono hK h)
theorem m_W_mono : m_Mono m_W := fun k pc ls st μ Q Q' hQ h X hM hX => hM k pc ls st μ Q Q' hQ (h X hM hX)
theorem m_W_clsd : m_Clsd m_W := by
  refine ⟨?_, fun k pc ls ls' st μ Q hs h X hM hX => hX.2 _ _ _ _ _ _ _ hs (h X hM hX)⟩
  intro k pc ls st μ Q h X hM hX
  refine hX.1 _ _ _ _ _ _ ⟨h.1, ?_⟩
  have h := h.2
  split at h
  · exact m_Sem_mono (fun _ _ _ _ q => q X hM hX) (fun _ _ q => q) (fun f as μ P P' hP q => hM _ _ _ _ _ _ _ hP (q X hM hX)) h
  · exact h
