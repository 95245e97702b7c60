abbrev g_RT : Type := Option FieldType
/-- a method: class, name, descriptor, maxLocals, answer, frames, locals, arguments -/
def g_ms : List (Nat × String × String × Nat × g_RT × Nat × Nat × Nat) := [(6, "<init>", "()V", 1, none, 0, 0, 0),
  (6, "addTank", "(II)I", 3, some .int, 2, 41, 2),
  (6, "addPoint", "(III)I", 4, some .int, 1, 22, 3),
  (6, "volume", "(II)J", 3, some .long, 3, 74, 2),
  (6, "load", "(III)J", 6, some .long, 2, 47, 3),
  (6, "setLeak", "(II)I", 4, some .int, 1, 22, 2),
  (6, "setGaugeVariance", "(IJ)J", 6, some .long, 1, 21, 2),
  (6, "tankCount", "()I", 1, some .int, 0, 0, 0),
  (6, "mass", "(II)J", 3, some .long, 2, 51, 2),
  (6, "set", "(II)I", 4, some .int, 1, 22, 2),
  (6, "letter", "(I)I", 2, some .int, 1, 22, 1),
  (6, "addEngine", "(II)I", 4, some .int, 1, 23, 2),
  (6, "engineNamed", "()I", 2, some .int, 1, 22, 0),
  (6, "setValve", "(III)I", 4, some .int, 3, 65, 3),
  (6, "used", "(I)J", 2, some .long, 1, 21, 1),
  (6, "delivered", "(I)J", 2, some .long, 1, 21, 1),
  (6, "ignite", "(I)I", 2, some .int, 3, 63, 1),
  (6, "cutoff", "()I", 1, some .int, 4, 85, 0),
  (6, "pass", "(I)I", 2, some .int, 4, 101, 1),
  (6, "time", "()I", 1, some .int, 0, 0, 0),
  (6, "burn", "(I)I", 2, some .int, 4, 81, 1),
  (6, "read", "(II)I", 3, some .int, 5, 120, 2),
  (6, "weight", "(I)I", 2, some .int, 3, 65, 1),
  (6, "entryCount", "()I", 1, some .int, 0, 0, 0),
  (6, "entry", "(II)J", 3, some .long, 2, 45, 2),
  (6, "type", "(I)I", 2, some .int, 1, 22, 1),
  (6, "clearText", "()I", 2, some .int, 0, 0, 0),
  (6, "fault", "()I", 1, some .int, 8, 175, 0),
  (6, "execute", "()I", 1, some .int, 8, 177, 0),
  (6, "longestBurn", "(I)I", 4, some .int, 4, 104, 1),
  (6, "planned", "()J", 1, some .long, 8, 177, 0),
  (6, "drift", "(I)J", 2, some .long, 2, 50, 1),
  (6, "emptyNameBuffer", "()V", 1, none, 0, 0, 0),
  (6, "performText", "(LPropellantGauge$Craft;)I", 5, some .int, 7, 153, 1),
  (6, "performCommand", "(LPropellantGauge$Craft;)Z", 2, some .boolean, 5, 123, 1),
  (6, "isWithin", "(III)Z", 3, some .boolean, 0, 0, 3),
  (6, "nameWith", "(II)I", 2, some .int, 0, 0, 2),
  (6, "squareRoot", "(J)J", 8, some .long, 0, 0, 1),
  (0, "<init>", "()V", 1, none, 0, 0, 0),
  (0, "append", "(C)I", 2, some .int, 0, 0, 1),
  (0, "findFault", "()I", 3, some .int, 7, 153, 0),
  (0, "parseAt", "(I)Z", 2, some .boolean, 6, 132, 1),
  (0, "parseCommand", "()Z", 1, some .boolean, 5, 112, 0),
  (0, "skip", "(Ljava/lang/String;)Z", 3, some .boolean, 4, 90, 1),
  (0, "parseName", "()Z", 2, some .boolean, 1, 22, 0),
  (0, "parseTank", "()Z", 2, some .boolean, 2, 46, 0),
  (0, "parseNumber", "(III)Z", 5, some .boolean, 1, 22, 3),
  (0, "characterAt", "(I)C", 2, some .char, 0, 0, 1),
  (1, "<init>", "()V", 1, none, 0, 0, 0),
  (1, "isBurning", "()Z", 1, some .boolean, 1, 21, 0),
  (1, "burnLength", "()I", 1, some .int, 2, 41, 0),
  (1, "isSettled", "()Z", 1, some .boolean, 3, 61, 0),
  (1, "openTanks", "(I)I", 2, some .int, 1, 20, 1),
  (1, "turnValve", "(III)I", 5, some .int, 2, 41, 3),
  (1, "beginBurn", "(I)I", 3, some .int, 2, 41, 1),
  (1, "endBurn", "()I", 5, some .int, 3, 61, 0),
  (1, "burnFor", "(II)Z", 3, some .boolean, 4, 101, 2),
  (1, "checkPass", "(I)I", 2, some .int, 1, 22, 1),
  (1, "letTimePass", "(I)I", 4, some .int, 3, 78, 1),
  (1, "deliver", "(I)V", 5, none, 2, 54, 1),
  (1, "book", "(I)V", 5, none, 2, 54, 1),
  (1, "divideFlow", "(I[J)J", 12, some .long, 1, 23, 2),
  (1, "takeReading", "(II)I", 5, some .int, 4, 96, 2),
  (1, "acceptReading", "(IJ)V", 8, none, 3, 65, 2),
  (1, "copyFrom", "(LPropellantGauge$Craft;)V", 2, none, 3, 83, 1),
  (2, "<init>", "()V", 1, none, 0, 0, 0),
  (2, "has", "(I)Z", 2, some .boolean, 0, 0, 1),
  (2, "find", "(I)I", 3, some .int, 0, 0, 1),
  (2, "append", "(III)I", 4, some .int, 0, 0, 3),
  (2, "bookedInAll", "()J", 4, some .long, 0, 0, 0),
  (2, "copyFrom", "(LPropellantGauge$Engines;)V", 3, none, 0, 0, 1),
  (3, "<init>", "()V", 1, none, 0, 0, 0),
  (3, "append", "(IIIJ)V", 6, none, 1, 22, 4),
  (3, "valueOf", "(II)J", 4, some .long, 1, 22, 2),
  (4, "<init>", "()V", 1, none, 0, 0, 0),
  (4, "append", "(II)I", 3, some .int, 0, 0, 2),
  (4, "volumeAt", "(I)J", 3, some .long, 2, 52, 1),
  (4, "between", "(III)J", 8, some .long, 1, 25, 3),
  (4, "copyFrom", "(LPropellantGauge$LevelTable;)V", 2, none, 1, 40, 1),
  (5, "<init>", "()V", 2, none, 0, 0, 0),
  (5, "has", "(I)Z", 2, some .boolean, 0, 0, 1),
  (5, "all", "()I", 1, some .int, 0, 0, 0),
  (5, "append", "(II)I", 3, some .int, 0, 0, 2),
  (5, "fill", "(III)V", 4, none, 0, 0, 3),
  (5, "leakOut", "(I)V", 3, none, 1, 23, 1),
  (5, "growVariance", "(IJ)V", 4, none, 1, 23, 2),
  (5, "gaugedMass", "(II)J", 3, some .long, 3, 74, 2),
  (5, "innovationVariance", "(I)J", 2, some .long, 1, 23, 1),
  (5, "readingWeight", "(I)I", 2, some .int, 2, 44, 1),
  (5, "usableMass", "(II)J", 5, some .long, 1, 27, 2),
  (5, "driftOf", "(I)J", 4, some .long, 1, 27, 1),
  (5, "withBookedMass", "()I", 3, some .int, 0, 0, 0),
  (5, "isOneBelowResidual", "(I)Z", 3, some .boolean, 0, 0, 1),
  (5, "copyFrom", "(LPropellantGauge$Tanks;)V", 3, none, 2, 61, 1),
  (7, "<init>", "()V", 1, none, 0, 0, 0),
  (7, "in", "(JJJ)Z", 6, some .boolean, 0, 0, 3),
  (7, "floor", "(JJ)J", 6, some .long, 0, 0, 2),
  (7, "root", "(J)J", 8, some .long, 0, 0, 1),
  (7, "isTank", "(I)Z", 2, some .boolean, 1, 25, 1),
  (7, "isEngine", "(I)Z", 2, some .boolean, 1, 25, 1),
  (7, "burns", "()Z", 1, some .boolean, 0, 0, 0),
  (7, "of", "(II)J", 3, some .long, 0, 0, 2),
  (7, "at", "(II)I", 2, some .int, 0, 0, 2),
  (7, "enters", "(IIJ)V", 6, none, 0, 0, 3),
  (7, "addTank", "(II)I", 4, some .int, 1, 25, 2),
  (7, "addPoint", "(III)I", 6, some .int, 2, 46, 3),
  (7, "volumeOf", "(II)J", 6, some .long, 1, 25, 2),
  (7, "volume", "(II)J", 3, some .long, 2, 50, 2),
  (7, "load", "(III)J", 6, some .long, 2, 46, 3),
  (7, "setLeak", "(II)I", 4, some .int, 2, 46, 2),
  (7, "setGaugeVariance", "(IJ)J", 6, some .long, 2, 46, 2),
  (7, "tankCount", "()I", 1, some .int, 0, 0, 0),
  (7, "usable", "(I)J", 4, some .long, 1, 27, 1),
  (7, "mass", "(II)J", 3, some .long, 2, 50, 2),
  (7, "set", "(II)I", 4, some .int, 1, 25, 2),
  (7, "letter", "(I)I", 2, some .int, 1, 25, 1),
  (7, "named", "([III)I", 7, some .int, 0, 0, 3),
  (7, "addEngine", "(II)I", 5, some .int, 1, 26, 2),
  (7, "engineNamed", "()I", 2, some .int, 1, 26, 0),
  (7, "setValve", "(III)I", 6, some .int, 2, 46, 3),
  (7, "used", "(I)J", 2, some .long, 2, 46, 1),
  (7, "delivered", "(I)J", 2, some .long, 2, 46, 1),
  (7, "ignite", "(I)I", 3, some .int, 2, 46, 1),
  (7, "cutoff", "()I", 8, some .int, 1, 25, 0),
  (7, "isGiven", "(II)Z", 9, some .boolean, 2, 43, 2),
  (7, "isOpen", "(II)Z", 3, some .boolean, 1, 21, 2),
  (7, "books", "(I)V", 5, none, 3, 71, 1),
  (7, "step", "()V", 4, none, 4, 95, 0),
  (7, "pass", "(I)I", 3, some .int, 5, 118, 1),
  (7, "time", "()I", 1, some .int, 0, 0, 0),
  (7, "isSettled", "()Z", 1, some .boolean, 1, 20, 0),
  (7, "burn", "(I)I", 2, some .int, 2, 40, 1),
  (7, "weightOf", "(I)J", 2, some .long, 1, 22, 1),
  (7, "read", "(II)I", 11, some .int, 2, 50, 2),
  (7, "weight", "(I)I", 2, some .int, 2, 46, 1),
  (7, "entryCount", "()I", 1, some .int, 0, 0, 0),
  (7, "entry", "(II)J", 3, some .long, 1, 25, 2),
  (7, "type", "(I)I", 2, some .int, 1, 25, 1),
  (7, "clearText", "()I", 2, some .int, 0, 0, 0),
  (7, "charAt", "(I)I", 2, some .int, 0, 0, 1),
  (7, "isWord", "(I)Z", 2, some .boolean, 1, 25, 1),
  (7, "isNext", "(I)Z", 2, some .boolean, 1, 21, 1),
  (7, "isNumber", "(III)Z", 5, some .boolean, 1, 25, 3),
  (7, "commandOf", "()I", 3, some .int, 1, 25, 0),
  (7, "word", "(IIIII)I", 6, some .int, 0, 0, 5),
  (7, "isCommand", "()Z", 3, some .boolean, 2, 49, 0),
  (7, "faultOf", "()I", 2, some .int, 3, 71, 0),
  (7, "fault", "()I", 1, some .int, 4, 92, 0),
  (7, "does", "()Z", 2, some .boolean, 6, 140, 0),
  (7, "executes", "()I", 2, some .int, 7, 161, 0),
  (7, "execute", "()I", 1, some .int, 8, 182, 0),
  (7, "putsAside", "()V", 2, none, 0, 0, 0),
  (7, "putsBack", "()V", 2, none, 0, 0, 0),
  (7, "isBelow", "(I)Z", 4, some .boolean, 1, 22, 1),
  (7, "longestBurn", "(I)I", 5, some .int, 4, 95, 1),
  (7, "planned", "()J", 3, some .long, 8, 182, 0),
  (7, "drift", "(I)J", 2, some .long, 2, 46, 1),
  (8, "floorDiv", "(JJ)J", 6, some .long, 0, 0, 2),
  (8, "floorMod", "(II)I", 3, some .int, 0, 0, 2),
  (8, "max", "(JJ)J", 4, some .long, 0, 0, 2),
  (8, "min", "(II)I", 2, some .int, 0, 0, 2),
  (8, "min", "(JJ)J", 4, some .long, 0, 0, 2)]
def g_bs : List ByteArray := [prog_1_method_1_code, prog_1_method_2_code, prog_1_method_3_code, prog_1_method_4_code, prog_1_method_5_code, prog_1_method_6_code, prog_1_method_7_code, prog_1_method_8_code, prog_1_method_9_code, prog_1_method_10_code, prog_1_method_11_code, prog_1_method_12_code, prog_1_method_13_code, prog_1_method_14_code, prog_1_method_15_code, prog_1_method_16_code, prog_1_method_17_code, prog_1_method_18_code, prog_1_method_19_code, prog_1_method_20_code, prog_1_method_21_code, prog_1_method_22_code, prog_1_method_23_code, prog_1_method_24_code, prog_1_method_25_code, prog_1_method_26_code, prog_1_method_27_code, prog_1_method_28_code, prog_1_method_29_code, prog_1_method_30_code, prog_1_method_31_code, prog_1_method_32_code, prog_1_method_33_code, prog_1_method_34_code, prog_1_method_35_code, prog_1_method_36_code, prog_1_method_37_code, prog_1_method_38_code, prog_2_method_1_code, prog_2_method_2_code, prog_2_method_3_code, prog_2_method_4_code, prog_2_method_5_code, prog_2_method_6_code, prog_2_method_7_code, prog_2_method_8_code, prog_2_method_9_code, prog_2_method_10_code, prog_3_method_1_code, prog_3_method_2_code, prog_3_method_3_code, prog_3_method_4_code, prog_3_method_5_code, prog_3_method_6_code, prog_3_method_7_code, prog_3_method_8_code, prog_3_method_9_code, prog_3_method_10_code, prog_3_method_11_code, prog_3_method_12_code, prog_3_method_13_code, prog_3_method_14_code, prog_3_method_15_code, prog_3_method_16_code, prog_3_method_17_code, prog_4_method_1_code, prog_4_method_2_code, prog_4_method_3_code, prog_4_method_4_code, prog_4_method_5_code, prog_4_method_6_code, prog_5_method_1_code, prog_5_method_2_code, prog_5_method_3_code, prog_6_method_1_code, prog_6_method_2_code, prog_6_method_3_code, prog_6_method_4_code, prog_6_method_5_code, prog_7_method_1_code, prog_7_method_2_code, prog_7_method_3_code, prog_7_method_4_code, prog_7_method_5_code, prog_7_method_6_code, prog_7_method_7_code, prog_7_method_8_code, prog_7_method_9_code, prog_7_method_10_code, prog_7_method_11_code, prog_7_method_12_code, prog_7_method_13_code, prog_7_method_14_code, prog_7_method_15_code, prog_9_method_1_code, prog_9_method_2_code, prog_9_method_3_code, prog_9_method_4_code, prog_9_method_5_code, prog_9_method_6_code, prog_9_method_7_code, prog_9_method_8_code, prog_9_method_9_code, prog_9_method_10_code, prog_9_method_11_code, prog_9_method_12_code, prog_9_method_13_code, prog_9_method_14_code, prog_9_method_15_code, prog_9_method_16_code, prog_9_method_17_code, prog_9_method_18_code, prog_9_method_19_code, prog_9_method_20_code, prog_9_method_21_code, prog_9_method_22_code, prog_9_method_23_code, prog_9_method_24_code, prog_9_method_25_code, prog_9_method_26_code, prog_9_method_27_code, prog_9_method_28_code, prog_9_method_29_code, prog_9_method_30_code, prog_9_method_31_code, prog_9_method_32_code, prog_9_method_33_code, prog_9_method_34_code, prog_9_method_35_code, prog_9_method_36_code, prog_9_method_37_code, prog_9_method_38_code, prog_9_method_39_code, prog_9_method_40_code, prog_9_method_41_code, prog_9_method_42_code, prog_9_method_43_code, prog_9_method_44_code, prog_9_method_45_code, prog_9_method_46_code, prog_9_method_47_code, prog_9_method_48_code, prog_9_method_49_code, prog_9_method_50_code, prog_9_method_51_code, prog_9_method_52_code, prog_9_method_53_code, prog_9_method_54_code, prog_9_method_55_code, prog_9_method_56_code, prog_9_method_57_code, prog_9_method_58_code, prog_9_method_59_code, prog_9_method_60_code, prog_9_method_61_code, prog_9_method_62_code, prog_9_method_63_code, prog_10_method_49_code, prog_10_method_50_code, prog_10_method_66_code, prog_10_method_69_code, prog_10_method_70_code]
def g_m (k : Nat) : Nat × String × String × Nat × g_RT × Nat × Nat × Nat := g_ms.getD k (0, "", "", 0, none, 0, 0, 0)
def g_O (k : Nat) : Nat := (g_m k).1
def g_Y (k : Nat) : MethodName := ⟨g_cn (g_m k).1, (g_m k).2.1, (g_m k).2.2.1⟩
def g_L (k : Nat) : Nat := (g_m k).2.2.2.1
def g_R (k : Nat) : g_RT := (g_m k).2.2.2.2.1
def g_fr (k : Nat) : Nat := (g_m k).2.2.2.2.2.1
def g_lo (k : Nat) : Nat := (g_m k).2.2.2.2.2.2.1
def g_na (k : Nat) : Nat := (g_m k).2.2.2.2.2.2.2
def g_B (k : Nat) : ByteArray := g_bs.getD k ⟨#[]⟩
abbrev g_cw (k : Nat) : Cond := .code (g_Y k) (g_B k) (g_L k) (g_R k)
set_option maxRecDepth 200000 in
theorem g_cw_in : ∀ k, k < 162 → g_cw k ∈ g_T := by
  intro k hk
  refine g_memL (ws := (List.range 162).map g_cw) [59, 305, 325, 337, 354, 374, 378, 383, 387, 403, 407, 414, 431, 435, 453, 458, 462, 471, 493, 524, 528, 537, 566, 571, 575, 584, 592, 596, 692, 712, 745, 753, 427, 696, 701, 308, 410, 394, 255, 588, 600, 604, 608, 613, 669, 684, 677, 627, 67, 313, 479, 533, 445, 439, 466, 475, 705, 501, 497, 510, 519, 514, 541, 556, 724, 147, 317, 419, 423, 749, 739, 183, 364, 579, 81, 333, 343, 347, 732, 73, 329, 449, 321, 360, 506, 484, 546, 552, 560, 391, 757, 716, 720, 728, 764, 859, 889, 929, 876, 966, 864, 898, 868, 902, 855, 872, 886, 881, 893, 907, 912, 917, 926, 921, 936, 942, 954, 948, 958, 962, 970, 974, 978, 982, 997, 1001, 1005, 993, 987, 1009, 1017, 1013, 1025, 1021, 1029, 1033, 1037, 1043, 1049, 1069, 1065, 1080, 1084, 1073, 1076, 1061, 1057, 1053, 1098, 1094, 1090, 1115, 1119, 1111, 1107, 1123, 1127, 350, 367, 399, 370, 488] rfl (by decide +kernel) _ (List.mem_map.mpr ⟨k, List.mem_range.mpr hk, rfl⟩)
theorem g_plain : ∀ k, k < 162 → plainFor (g_Y k) = true ∧ (g_Y k).cls ≠ "java/lang/invoke/MethodHandle" ∧ (g_Y k).cls ≠ "java/lang/invoke/VarHandle" ∧ (parseMethodDescriptor (g_Y k).desc).map (fun d => d.parameters.length) = some (g_na k) := by decide +kernel
def g_find {β : Type} (l : List (Nat × Nat × β)) (o x : Nat) : Option β := match l with
  | [] => none
  | q :: r => match Nat.beq q.1 o && Nat.beq q.2.1 x with
    | true => some q.2.2
    | false => g_find r o x
theorem g_find_mem {β : Type} {l : List (Nat × Nat × β)} {o x : Nat} {b : β} (h : g_find l o x = some b) : (o, x, b) ∈ l := by
  induction l with
  | nil => cases h
  | cons q r ih =>
    unfold g_find at h
    split at h
    next hq =>
      obtain ⟨q1, q2, q3⟩ := q
      obtain ⟨h1, h2⟩ := Bool.and_eq_true_iff.mp hq
      have h1 := Nat.eq_of_beq_eq_true h1
      have h2 := Nat.eq_of_beq_eq_true h2
      dsimp only at h1 h2
      subst h1; subst h2
      cases h
      exact List.mem_cons_self
    next => exact List.mem_cons_of_mem _ (ih h)
def g_fls : List (Nat × Nat × Nat × Nat) := [(4, 9, 4, 0), (6, 65, 4, 0), (1, 164, 4, 0), (4, 15, 4, 1), (4, 19, 4, 2), (5, 9, 5, 0), (6, 106, 5, 0), (1, 90, 5, 0), (5, 15, 5, 1), (5, 19, 5, 2), (6, 120, 5, 2), (5, 22, 5, 3), (6, 97, 5, 3), (5, 25, 5, 4), (6, 77, 5, 4), (1, 129, 5, 4), (5, 29, 5, 5), (6, 107, 5, 5), (1, 139, 5, 5), (5, 32, 5, 6), (6, 110, 5, 6), (1, 142, 5, 6), (5, 35, 5, 7), (6, 123, 5, 7), (1, 187, 5, 7), (5, 38, 5, 8), (6, 103, 5, 8), (5, 43, 5, 9), (6, 56, 5, 9), (1, 160, 5, 9), (2, 9, 2, 0), (2, 15, 2, 1), (2, 19, 2, 2), (1, 154, 2, 2), (2, 22, 2, 3), (1, 93, 2, 3), (2, 25, 2, 4), (1, 74, 2, 4), (6, 208, 2, 4), (2, 28, 2, 5), (1, 151, 2, 5), (6, 156, 2, 5), (2, 32, 2, 6), (1, 136, 2, 6), (6, 159, 2, 6), (3, 9, 3, 0), (6, 191, 3, 0), (3, 15, 3, 1), (3, 18, 3, 2), (3, 22, 3, 3), (3, 25, 3, 4), (3, 28, 3, 5), (1, 12, 1, 0), (6, 42, 1, 0), (1, 21, 1, 1), (6, 136, 1, 1), (1, 28, 1, 2), (6, 85, 1, 2), (1, 32, 1, 3), (6, 89, 1, 3), (1, 36, 1, 4), (6, 126, 1, 4), (1, 39, 1, 5), (6, 129, 1, 5), (1, 42, 1, 6), (6, 113, 1, 6), (1, 45, 1, 7), (6, 172, 1, 7), (1, 48, 1, 8), (6, 181, 1, 8), (1, 52, 1, 9), (1, 55, 1, 10), (1, 59, 1, 11), (0, 9, 0, 0), (6, 198, 0, 0), (0, 15, 0, 1), (6, 241, 0, 1), (0, 18, 0, 2), (6, 244, 0, 2), (0, 21, 0, 3), (6, 247, 0, 3), (0, 24, 0, 4), (6, 257, 0, 4), (0, 27, 0, 5), (6, 250, 0, 5), (0, 30, 0, 6), (6, 10, 6, 0), (6, 16, 6, 1), (6, 22, 6, 2), (6, 26, 6, 3), (6, 30, 6, 4), (7, 7, 7, 0), (7, 13, 7, 1), (7, 68, 7, 2), (7, 16, 7, 3), (7, 19, 7, 4), (7, 22, 7, 5), (7, 25, 7, 6), (7, 29, 7, 7), (7, 32, 7, 8), (7, 35, 7, 9), (7, 76, 7, 10), (7, 38, 7, 11), (7, 41, 7, 12), (7, 44, 7, 13), (7, 47, 7, 14), (7, 50, 7, 15), (7, 144, 7, 16), (7, 53, 7, 17), (7, 192, 7, 18), (7, 56, 7, 19), (7, 59, 7, 20), (7, 195, 7, 21), (7, 226, 7, 22), (7, 198, 7, 23), (7, 205, 7, 24), (7, 236, 7, 25), (7, 239, 7, 26), (7, 208, 7, 27)]
def g_fd (ci k : Nat) : String × String × String × Bool := match g_cls[ci]? with
  | some q => q.2.1 k
  | none => ("", "", "", false)
abbrev g_flw (q : Nat × Nat × Nat × Nat) : Cond := .fieldLink (g_cn q.1) q.2.1 (g_fd q.2.2.1 q.2.2.2).1 (g_fd q.2.2.1 q.2.2.2).2.1 (g_fd q.2.2.1 q.2.2.2).2.2.1
theorem g_fl_in : ∀ q ∈ g_fls, g_flw q ∈ g_T := fun q hq => g_memL (ws := g_fls.map g_flw) [83, 84, 85, 86, 87, 97, 98, 99, 100, 101, 102, 103, 104, 105, 106, 107, 108, 109, 110, 111, 112, 113, 114, 115, 116, 117, 118, 119, 120, 121, 149, 150, 151, 152, 153, 154, 155, 156, 157, 158, 159, 160, 161, 162, 163, 185, 186, 187, 188, 189, 190, 191, 205, 206, 207, 208, 209, 210, 211, 212, 213, 214, 215, 216, 217, 218, 219, 220, 221, 222, 223, 224, 225, 257, 258, 259, 260, 261, 262, 263, 264, 265, 266, 267, 268, 269, 286, 287, 288, 289, 290, 767, 768, 769, 770, 771, 772, 773, 774, 775, 776, 777, 778, 779, 780, 781, 782, 783, 784, 785, 786, 787, 788, 789, 790, 791, 792, 793, 794] (by decide +kernel) (by decide +kernel) _ (List.mem_map.mpr ⟨q, hq, rfl⟩)
theorem g_fl_lt : ∀ q ∈ g_fls, q.2.2.1 < 8 ∧ q.2.2.2 < g_nf q.2.2.1 := by decide +kernel
def g_ldcs : List (Nat × Nat × Int32) := [(6, 37, 1000000000), (6, 74, 1000000), (6, 135, 100000), (1, 118, 100000000)]
theorem g_ldc_in : ∀ q ∈ g_ldcs, Cond.constant (g_cn q.1) q.2.1 q.2.2 ∈ g_T := fun q hq => g_memL (ws := g_ldcs.map (fun q => Cond.constant (g_cn q.1) q.2.1 q.2.2)) [309, 355, 415, 502] (by decide +kernel) (by decide +kernel) _ (List.mem_map.mpr ⟨q, hq, rfl⟩)
def g_ldc2s : List (Nat × Nat × Int64) := [(5, 47, 1000000), (6, 63, -1), (6, 68, -4), (6, 75, -2), (6, 101, 1000000000000), (6, 260, 33554432), (5, 74, 10), (1, 96, 1000), (5, 56, 1000000000000000), (5, 65, 1000), (3, 41, -1000000000000000000), (6, 232, -1000000000000000000), (7, 62, -1), (7, 81, 3000), (7, 83, 1000000000), (7, 89, 1000000), (7, 99, 10000), (7, 105, -4), (7, 111, -2), (7, 79, 24), (7, 120, 1000), (7, 122, 1000000000000), (7, 130, 5), (7, 64, 67108864), (7, 66, 2), (7, 128, 10), (7, 136, 5000), (7, 138, 100), (7, 140, 97), (7, 142, 122), (7, 147, 100000), (7, 149, 500), (7, 158, 1000000000000000), (7, 171, 2000), (7, 173, 100000000), (7, 184, 3), (7, 186, -1000000000000000000), (7, 188, 32), (7, 190, 126), (7, 211, 48), (7, 213, 57)]
theorem g_ldc2_in : ∀ q ∈ g_ldc2s, Cond.constantLong (g_cn q.1) q.2.1 q.2.2 ∈ g_T := fun q hq => g_memL (ws := g_ldc2s.map (fun q => Cond.constantLong (g_cn q.1) q.2.1 q.2.2)) [77, 338, 339, 356, 379, 395, 396, 480, 485, 548, 580, 759, 766, 856, 860, 865, 877, 882, 894, 903, 908, 913, 922, 930, 931, 932, 937, 938, 943, 944, 949, 950, 983, 988, 989, 1038, 1039, 1044, 1045, 1085, 1086] (by decide +kernel) (by decide +kernel) _ (List.mem_map.mpr ⟨q, hq, rfl⟩)
def g_strs : List (Nat × Nat × Nat) := [(0, 48, 0), (0, 53, 1), (0, 55, 2), (0, 61, 3), (0, 63, 4), (0, 65, 5), (0, 70, 6), (0, 72, 7), (0, 42, 8)]
def g_stx : List String := ["start ", "stop", "wait ", "burn ", " ", "open ", "close ", "read ", ";"]
def g_sl : List Nat := [6, 4, 5, 5, 1, 5, 6, 5, 1]
def g_sb : List (List Int32) := [[115, 116, 97, 114, 116, 32], [115, 116, 111, 112], [119, 97, 105, 116, 32], [98, 117, 114, 110, 32], [32], [111, 112, 101, 110, 32], [99, 108, 111, 115, 101, 32], [114, 101, 97, 100, 32], [59]]
def g_sps : List (Nat × Nat × Nat) := [(0, 74, 4), (0, 83, 5), (4, 32, 3), (1, 197, 3)]
def g_cv : List (Nat × Nat × Nat) := [(6, 38, 49), (1, 62, 66), (6, 46, 82), (6, 52, 80), (6, 60, 75), (6, 70, 76), (4, 22, 77), (6, 81, 83), (6, 92, 72), (6, 116, 89), (6, 140, 67), (6, 146, 68), (6, 149, 32), (6, 152, 53), (1, 81, 80), (1, 86, 52), (1, 78, 81), (6, 155, 66), (6, 162, 54), (1, 66, 49), (6, 165, 55), (1, 70, 50), (1, 98, 85), (1, 102, 72), (6, 169, 58), (1, 106, 57), (1, 119, 84), (1, 123, 59), (1, 132, 61), (1, 126, 60), (6, 175, 50), (6, 178, 51), (6, 185, 62), (1, 167, 51), (1, 170, 86), (5, 61, 76), (1, 174, 87), (1, 178, 63), (1, 181, 88), (5, 67, 87), (6, 188, 88), (6, 192, 73), (6, 195, 39), (6, 201, 40), (0, 34, 41), (0, 38, 42), (0, 44, 43), (0, 79, 47), (0, 50, 44), (0, 57, 46), (0, 67, 45), (6, 204, 33), (6, 234, 41), (6, 237, 34), (6, 253, 56), (1, 109, 54), (1, 112, 58), (1, 115, 55), (6, 211, 91), (6, 214, 92), (6, 217, 64), (1, 190, 93), (5, 79, 78), (1, 194, 70), (6, 221, 60), (6, 225, 69), (6, 229, 90), (7, 85, 100), (7, 95, 98), (7, 107, 106), (7, 113, 101), (7, 116, 103), (7, 132, 112), (7, 151, 116), (7, 155, 99), (7, 175, 127), (7, 164, 124), (7, 160, 125), (7, 167, 126), (7, 178, 130), (7, 181, 132), (7, 245, 146), (7, 242, 145), (7, 219, 140), (7, 201, 139), (7, 222, 143), (7, 229, 141), (7, 232, 142), (7, 267, 149), (7, 264, 148), (7, 248, 122), (7, 251, 123), (7, 254, 128), (7, 257, 119), (7, 261, 133), (7, 270, 153), (7, 273, 151), (7, 276, 152)]
theorem g_cv_lt : ∀ q ∈ g_cv, q.2.2 < 162 := by decide +kernel
theorem g_cv_link : ∀ q ∈ g_cv, Cond.methodLink (g_cn q.1) q.2.1 (g_Y q.2.2) ∈ g_T := fun q hq => g_memL (ws := g_cv.map (fun q => Cond.methodLink (g_cn q.1) q.2.1 (g_Y q.2.2))) [310, 314, 318, 326, 330, 340, 344, 357, 361, 388, 416, 420, 424, 436, 440, 442, 446, 454, 463, 467, 472, 476, 481, 489, 494, 498, 503, 507, 511, 516, 529, 530, 538, 542, 543, 547, 549, 553, 557, 561, 567, 576, 585, 597, 601, 605, 610, 624, 666, 674, 681, 693, 697, 698, 702, 706, 707, 708, 713, 717, 721, 725, 729, 736, 741, 746, 754, 861, 873, 883, 895, 899, 923, 951, 963, 990, 994, 998, 1002, 1014, 1022, 1054, 1058, 1062, 1066, 1070, 1077, 1081, 1091, 1095, 1099, 1100, 1101, 1102, 1103, 1108, 1112, 1116] (by decide +kernel) (by decide +kernel) _ (List.mem_map.mpr ⟨q, hq, rfl⟩)
theorem g_cv_ini : ∀ q ∈ g_cv, Cond.initialized (g_Y q.2.2).cls ∈ g_T := fun q hq => g_memL (ws := g_cv.map (fun q => Cond.initialized (g_Y q.2.2).cls)) [42, 45, 43, 43, 44, 44, 44, 43, 46, 43, 45, 45, 41, 42, 43, 42, 43, 45, 42, 42, 42, 42, 43, 46, 42, 42, 43, 42, 42, 42, 42, 42, 42, 42, 43, 44, 43, 42, 43, 43, 43, 46, 47, 47, 47, 47, 47, 47, 47, 47, 47, 41, 47, 41, 42, 42, 42, 42, 43, 43, 42, 43, 44, 45, 42, 45, 43, 48, 48, 48, 48, 48, 48, 48, 48, 48, 48, 48, 48, 48, 48, 48, 48, 48, 48, 48, 48, 48, 48, 48, 48, 48, 48, 48, 48, 48, 48, 48] (by decide +kernel) (by decide +kernel) _ (List.mem_map.mpr ⟨q, hq, rfl⟩)
theorem g_cv_ins : ∀ q ∈ g_cv, Cond.instanceMethod (g_Y q.2.2) ∈ g_T := fun q hq => g_memL (ws := g_cv.map (fun q => Cond.instanceMethod (g_Y q.2.2))) [311, 315, 319, 327, 331, 341, 346, 358, 362, 389, 417, 421, 426, 437, 327, 443, 447, 315, 464, 311, 473, 477, 482, 362, 495, 500, 504, 509, 513, 517, 477, 531, 539, 531, 544, 341, 550, 555, 558, 550, 558, 577, 586, 598, 602, 607, 612, 626, 668, 676, 683, 695, 602, 700, 703, 464, 495, 473, 714, 718, 722, 726, 730, 737, 517, 747, 755, 863, 875, 885, 897, 901, 925, 953, 965, 992, 996, 1000, 1004, 1016, 1024, 1056, 1060, 1064, 1068, 1072, 1079, 1083, 1093, 1097, 976, 980, 985, 960, 1019, 1110, 1114, 1118] (by decide +kernel) (by decide +kernel) _ (List.mem_map.mpr ⟨q, hq, rfl⟩)
theorem g_cv_sel : ∀ q ∈ g_cv, Cond.selects (g_Y q.2.2).cls (g_Y q.2.2) (g_Y q.2.2) ∈ g_T := fun q hq => g_memL (ws := g_cv.map (fun q => Cond.selects (g_Y q.2.2).cls (g_Y q.2.2) (g_Y q.2.2))) [312, 316, 320, 328, 332, 342, 0, 359, 363, 390, 418, 422, 1, 438, 328, 444, 448, 316, 465, 312, 474, 478, 483, 363, 496, 2, 505, 3, 4, 518, 478, 532, 540, 532, 545, 342, 551, 5, 559, 551, 559, 578, 587, 599, 603, 6, 7, 8, 9, 10, 11, 12, 603, 13, 704, 465, 496, 474, 715, 719, 723, 727, 731, 738, 518, 748, 756, 14, 15, 16, 17, 18, 19, 20, 21, 22, 23, 24, 25, 26, 27, 28, 29, 30, 31, 32, 33, 34, 35, 36, 977, 981, 986, 961, 1020, 37, 38, 39] (by decide +kernel) (by decide +kernel) _ (List.mem_map.mpr ⟨q, hq, rfl⟩)
def g_cs : List (Nat × Nat × Nat) := [(6, 33, 35), (4, 26, 157), (3, 32, 158), (3, 38, 160), (5, 50, 159), (6, 132, 36), (5, 58, 161), (1, 157, 161), (1, 145, 159), (1, 184, 157), (5, 76, 157), (7, 72, 95), (7, 91, 102), (7, 101, 96), (7, 124, 97), (7, 215, 144)]
theorem g_cs_lt : ∀ q ∈ g_cs, q.2.2 < 162 := by decide +kernel
theorem g_cs_link : ∀ q ∈ g_cs, Cond.methodLink (g_cn q.1) q.2.1 (g_Y q.2.2) ∈ g_T := fun q hq => g_memL (ws := g_cs.map (fun q => Cond.methodLink (g_cn q.1) q.2.1 (g_Y q.2.2))) [306, 348, 365, 368, 397, 408, 486, 515, 520, 562, 758, 857, 866, 887, 927, 1074] (by decide +kernel) (by decide +kernel) _ (List.mem_map.mpr ⟨q, hq, rfl⟩)
theorem g_cs_ini : ∀ q ∈ g_cs, Cond.initialized (g_Y q.2.2).cls ∈ g_T := fun q hq => g_memL (ws := g_cs.map (fun q => Cond.initialized (g_Y q.2.2).cls)) [41, 49, 49, 49, 49, 41, 49, 49, 49, 49, 49, 48, 48, 48, 48, 48] (by decide +kernel) (by decide +kernel) _ (List.mem_map.mpr ⟨q, hq, rfl⟩)
theorem g_cs_sta : ∀ q ∈ g_cs, Cond.static (g_Y q.2.2) ∈ g_T := fun q hq => g_memL (ws := g_cs.map (fun q => Cond.static (g_Y q.2.2))) [307, 349, 366, 369, 398, 409, 487, 487, 398, 349, 349, 858, 867, 888, 928, 1075] (by decide +kernel) (by decide +kernel) _ (List.mem_map.mpr ⟨q, hq, rfl⟩)
def g_cnn : List (Nat × Nat × Nat) := [(5, 70, 37), (1, 82, 35), (0, 86, 35), (0, 89, 36)]
theorem g_cnn_lt : ∀ q ∈ g_cnn, q.2.2 < 162 := by decide +kernel
theorem g_cnn_ini : ∀ q ∈ g_cnn, Cond.initialized (g_Y q.2.2).cls ∈ g_T := fun q hq => g_memL (ws := g_cnn.map (fun q => Cond.initialized (g_Y q.2.2).cls)) [41, 41, 41, 41] (by decide +kernel) (by decide +kernel) _ (List.mem_map.mpr ⟨q, hq, rfl⟩)
theorem g_cnn_sta : ∀ q ∈ g_cnn, Cond.static (g_Y q.2.2) ∈ g_T := fun q hq => g_memL (ws := g_cnn.map (fun q => Cond.static (g_Y q.2.2))) [393, 307, 307, 409] (by decide +kernel) (by decide +kernel) _ (List.mem_map.mpr ⟨q, hq, rfl⟩)
theorem g_nestIn : ∀ q ∈ g_cnn, Cond.methodLinkNest (g_cn q.1) q.2.1 (g_Y q.2.2) g_R6 ∈ lw_tbl := List.forall_mem_cons.mpr ⟨List.mem_of_getElem? (i := 392) (by decide +kernel), List.forall_mem_cons.mpr ⟨List.mem_of_getElem? (i := 441) (by decide +kernel), List.forall_mem_cons.mpr ⟨List.mem_of_getElem? (i := 670) (by decide +kernel), List.forall_mem_cons.mpr ⟨List.mem_of_getElem? (i := 671) (by decide +kernel), fun _ h => absurd h List.not_mem_nil⟩⟩⟩⟩
