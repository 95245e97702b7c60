/-! CONSTRUCTORS -/
abbrev i_tys (cI cC cJ cR : ClassId) : List (ClassId × FieldType) := [(cI, .int), (cC, .char), (cJ, .long), (cR, .object g_R4)]
theorem va_RA.inj {s : State} {a b : ClassId} {ty : FieldType} (h1 : va_RA s a ty) (h2 : va_RA s b ty) : a = b := by
  cases ty with
  | object C =>
    obtain ⟨_, _, -, -, -, x1⟩ := h1
    obtain ⟨_, _, -, -, -, x2⟩ := h2
    exact Option.some.inj (x1.symm.trans x2)
  | _ => exact Option.some.inj ((show _ = some a from h1).symm.trans (show _ = some b from h2))
section INW
variable {p : Program} {l : Launch} {e : Env} {R : Room} {s : State} {m : MethodId} {args : Array Value} {below : List Frame} {meth : Method} {c : Code} {H H0 : Heap} {locs : List Loc} {cells slots : Nat} {Q : State → Prop}
variable {cc : ByteArray} {pc : Nat} {ls : Array Slot} {rest : List Value} {D : va_G} {cl : List vw_C} {A : Nat → Prop} {tys : List (ClassId × FieldType)} {ws : va_W}
theorem i_newa (hexec : p.tables.exec = Jvm.exec) (hb : c.code = cc) {atype : ArrayType} (harr : (Cond.arrayClass (newarray.typeOf atype)).before args s = true) {ty : FieldType} (hty : newarray.typeOf atype = ty) (hK : va_K D cl tys s) (hP : va_P D cl ws H) (hD : va_D A ws) (hS : va_S A H0 H locs) (hA : ∀ q, H0.size ≤ q → A q) (t0 : Nat) {cX : ClassId} (ht : tys[t0]? = some (cX, ty))
    {n : Int32} {N' : Nat} {a0 : vp_A} (ha : ∀ cA : ClassId, vp_cell cA a0 = arrV cA N' (fun _ => defaultValue ty)) (hn : ¬ n < 0) (hN : n.toNatClampNeg = N') (hbytes : N' * componentBytes ty ≤ 536870912) (hcells : cells + 1 ≤ R.cells) (hslots : slots + N' ≤ R.slots) (hdg : decode cc pc = .ok (.newarray atype, 2))
    (kk : ∀ (q : Nat) (H1 : Heap), va_P D cl (ws ++ [(q, .inl (cX, a0))]) H1 → va_D A (ws ++ [(q, .inl (cX, a0))]) → va_S A H0 H1 locs →
      W p l e R s m args below meth c H1 locs (cells + 1) (slots + N') Q (F0 m (pc + 2) ls (.ref q :: rest))) : W p l e R s m args below meth c H locs cells slots Q (F0 m pc ls (.int n :: rest)) := by
  refine va_newa hexec hb harr hty hK hP hD hS hA ha hn hN hbytes hcells hslots hdg (fun q cA H1 hK1 hP1 hD1 hS1 => ?_)
  have e1 := (hK1.2 tys.length (cA, ty) (by simp)).2
  have e2 := (hK.2 t0 _ ht).2
  have e3 : cA = cX := va_RA.inj e1 e2
  subst e3
  exact kk q H1 hP1 hD1 hS1
theorem i_newq (hexec : p.tables.exec = Jvm.exec) (hb : c.code = cc) {own C : String} {index : Nat} (hown : s.vm.findClass own = some m.cls) (hclink : (Cond.classLink own index C).before args s = true) (hover : va_AO C s) (hK : va_K D cl tys s) (hP : va_P D cl ws H) (hD : va_D A ws) (hS : va_S A H0 H locs) (hA : ∀ q, H0.size ≤ q → A q) (t0 : Nat) {cX : ClassId} (ht : tys[t0]? = some (cX, .object C))
    {n : Int32} {N' : Nat} (hn : ¬ n < 0) (hN : n.toNatClampNeg = N') (hbytes : N' * 4 ≤ 536870912) (hcells : cells + 1 ≤ R.cells) (hslots : slots + N' ≤ R.slots) (hdg : decode cc pc = .ok (.anewarray index, 3))
    (kk : ∀ (q : Nat) (H1 : Heap), va_P D cl (ws ++ [(q, .inl (cX, N', .inr (.inr (.inr (.inr (fun _ => none))))))]) H1 → va_D A (ws ++ [(q, .inl (cX, N', .inr (.inr (.inr (.inr (fun _ => none))))))]) → va_S A H0 H1 locs →
      W p l e R s m args below meth c H1 locs (cells + 1) (slots + N') Q (F0 m (pc + 3) ls (.ref q :: rest))) : W p l e R s m args below meth c H locs cells slots Q (F0 m pc ls (.int n :: rest)) := by
  refine va_newq hexec hb hown hclink hover hK hP hD hS hA hn hN hbytes hcells hslots hdg (fun q cA H1 hK1 hP1 hD1 hS1 => ?_)
  have e1 := (hK1.2 tys.length (cA, .object C) (by simp)).2
  have e2 := (hK.2 t0 _ ht).2
  have e3 : cA = cX := va_RA.inj e1 e2
  subst e3
  exact kk q H1 hP1 hD1 hS1
end INW
theorem i_w42 : (.initialized g_R1 : Cond) ∈ g_T := g_mem 42 (by decide +kernel) (by decide +kernel)
theorem i_w43 : (.initialized g_R5 : Cond) ∈ g_T := g_mem 43 (by decide +kernel) (by decide +kernel)
theorem i_w44 : (.initialized g_R4 : Cond) ∈ g_T := g_mem 44 (by decide +kernel) (by decide +kernel)
theorem i_w45 : (.initialized g_R2 : Cond) ∈ g_T := g_mem 45 (by decide +kernel) (by decide +kernel)
theorem i_w46 : (.initialized g_R3 : Cond) ∈ g_T := g_mem 46 (by decide +kernel) (by decide +kernel)
theorem i_w47 : (.initialized g_R0 : Cond) ∈ g_T := g_mem 47 (by decide +kernel) (by decide +kernel)
theorem i_w60 : (.methodLink g_R6 1 objectInit : Cond) ∈ g_T := g_mem 60 (by decide +kernel) (by decide +kernel)
theorem i_w61 : (.instanceMethod objectInit : Cond) ∈ g_T := g_mem 61 (by decide +kernel) (by decide +kernel)
theorem i_w62 : (.code objectInit ⟨#[0xb1]⟩ 1 none : Cond) ∈ g_T := g_mem 62 (by decide +kernel) (by decide +kernel)
theorem i_w63 : (.classLink g_R6 7 g_R1 : Cond) ∈ g_T := g_mem 63 (by decide +kernel) (by decide +kernel)
theorem i_w64 : (.instantiable g_R1 12 : Cond) ∈ g_T := g_mem 64 (by decide +kernel) (by decide +kernel)
theorem i_w65 : (.methodLink g_R6 9 (g_Y 48) : Cond) ∈ g_T := g_mem 65 (by decide +kernel) (by decide +kernel)
theorem i_w66 : (.instanceMethod (g_Y 48) : Cond) ∈ g_T := g_mem 66 (by decide +kernel) (by decide +kernel)
theorem i_w68 : (.methodLink g_R1 3 objectInit : Cond) ∈ g_T := g_mem 68 (by decide +kernel) (by decide +kernel)
theorem i_w69 : (.classLink g_R1 9 g_R5 : Cond) ∈ g_T := g_mem 69 (by decide +kernel) (by decide +kernel)
theorem i_w70 : (.instantiable g_R5 10 : Cond) ∈ g_T := g_mem 70 (by decide +kernel) (by decide +kernel)
theorem i_w71 : (.methodLink g_R1 11 (g_Y 79) : Cond) ∈ g_T := g_mem 71 (by decide +kernel) (by decide +kernel)
theorem i_w72 : (.instanceMethod (g_Y 79) : Cond) ∈ g_T := g_mem 72 (by decide +kernel) (by decide +kernel)
theorem i_w74 : (.methodLink g_R5 3 objectInit : Cond) ∈ g_T := g_mem 74 (by decide +kernel) (by decide +kernel)
theorem i_w75 : (.classLink g_R5 41 g_R4 : Cond) ∈ g_T := g_mem 75 (by decide +kernel) (by decide +kernel)
theorem i_w77 : (.constantLong g_R5 47 1000000 : Cond) ∈ g_T := g_mem 77 (by decide +kernel) (by decide +kernel)
theorem i_w78 : (.instantiable g_R4 3 : Cond) ∈ g_T := g_mem 78 (by decide +kernel) (by decide +kernel)
theorem i_w79 : (.methodLink g_R5 49 (g_Y 74) : Cond) ∈ g_T := g_mem 79 (by decide +kernel) (by decide +kernel)
theorem i_w80 : (.instanceMethod (g_Y 74) : Cond) ∈ g_T := g_mem 80 (by decide +kernel) (by decide +kernel)
theorem i_w82 : (.methodLink g_R4 3 objectInit : Cond) ∈ g_T := g_mem 82 (by decide +kernel) (by decide +kernel)
theorem i_w83 : (.fieldLink g_R4 9 "PropellantGauge$LevelTable" "count" "I" : Cond) ∈ g_T := g_mem 83 (by decide +kernel) (by decide +kernel)
theorem i_w86 : (.fieldLink g_R4 15 "PropellantGauge$LevelTable" "levels" "[I" : Cond) ∈ g_T := g_mem 86 (by decide +kernel) (by decide +kernel)
theorem i_w87 : (.fieldLink g_R4 19 "PropellantGauge$LevelTable" "volumes" "[I" : Cond) ∈ g_T := g_mem 87 (by decide +kernel) (by decide +kernel)
theorem i_w95 : (.arrayClass .int : Cond) ∈ g_T := g_mem 95 (by decide +kernel) (by decide +kernel)
theorem i_w96 : (.arrayClass .long : Cond) ∈ g_T := g_mem 96 (by decide +kernel) (by decide +kernel)
theorem i_w97 : (.fieldLink g_R5 9 "PropellantGauge$Tanks" "count" "I" : Cond) ∈ g_T := g_mem 97 (by decide +kernel) (by decide +kernel)
theorem i_w100 : (.fieldLink g_R5 15 "PropellantGauge$Tanks" "density" "[I" : Cond) ∈ g_T := g_mem 100 (by decide +kernel) (by decide +kernel)
theorem i_w101 : (.fieldLink g_R5 19 "PropellantGauge$Tanks" "residual" "[I" : Cond) ∈ g_T := g_mem 101 (by decide +kernel) (by decide +kernel)
theorem i_w103 : (.fieldLink g_R5 22 "PropellantGauge$Tanks" "leak" "[I" : Cond) ∈ g_T := g_mem 103 (by decide +kernel) (by decide +kernel)
theorem i_w105 : (.fieldLink g_R5 25 "PropellantGauge$Tanks" "trueMass" "[J" : Cond) ∈ g_T := g_mem 105 (by decide +kernel) (by decide +kernel)
theorem i_w108 : (.fieldLink g_R5 29 "PropellantGauge$Tanks" "booked" "[J" : Cond) ∈ g_T := g_mem 108 (by decide +kernel) (by decide +kernel)
theorem i_w111 : (.fieldLink g_R5 32 "PropellantGauge$Tanks" "estimate" "[J" : Cond) ∈ g_T := g_mem 111 (by decide +kernel) (by decide +kernel)
theorem i_w114 : (.fieldLink g_R5 35 "PropellantGauge$Tanks" "variance" "[J" : Cond) ∈ g_T := g_mem 114 (by decide +kernel) (by decide +kernel)
theorem i_w117 : (.fieldLink g_R5 38 "PropellantGauge$Tanks" "gaugeVariance" "[J" : Cond) ∈ g_T := g_mem 117 (by decide +kernel) (by decide +kernel)
theorem i_w119 : (.fieldLink g_R5 43 "PropellantGauge$Tanks" "tables" "[LPropellantGauge$LevelTable;" : Cond) ∈ g_T := g_mem 119 (by decide +kernel) (by decide +kernel)
theorem i_w143 : (.classLink g_R1 18 g_R2 : Cond) ∈ g_T := g_mem 143 (by decide +kernel) (by decide +kernel)
theorem i_w144 : (.instantiable g_R2 7 : Cond) ∈ g_T := g_mem 144 (by decide +kernel) (by decide +kernel)
theorem i_w145 : (.methodLink g_R1 20 (g_Y 65) : Cond) ∈ g_T := g_mem 145 (by decide +kernel) (by decide +kernel)
theorem i_w146 : (.instanceMethod (g_Y 65) : Cond) ∈ g_T := g_mem 146 (by decide +kernel) (by decide +kernel)
theorem i_w148 : (.methodLink g_R2 3 objectInit : Cond) ∈ g_T := g_mem 148 (by decide +kernel) (by decide +kernel)
theorem i_w149 : (.fieldLink g_R2 9 "PropellantGauge$Engines" "count" "I" : Cond) ∈ g_T := g_mem 149 (by decide +kernel) (by decide +kernel)
theorem i_w150 : (.fieldLink g_R2 15 "PropellantGauge$Engines" "names" "[I" : Cond) ∈ g_T := g_mem 150 (by decide +kernel) (by decide +kernel)
theorem i_w151 : (.fieldLink g_R2 19 "PropellantGauge$Engines" "flow" "[I" : Cond) ∈ g_T := g_mem 151 (by decide +kernel) (by decide +kernel)
theorem i_w153 : (.fieldLink g_R2 22 "PropellantGauge$Engines" "uncertainty" "[I" : Cond) ∈ g_T := g_mem 153 (by decide +kernel) (by decide +kernel)
theorem i_w155 : (.fieldLink g_R2 25 "PropellantGauge$Engines" "open" "[I" : Cond) ∈ g_T := g_mem 155 (by decide +kernel) (by decide +kernel)
theorem i_w158 : (.fieldLink g_R2 28 "PropellantGauge$Engines" "bookedSum" "[J" : Cond) ∈ g_T := g_mem 158 (by decide +kernel) (by decide +kernel)
theorem i_w161 : (.fieldLink g_R2 32 "PropellantGauge$Engines" "deliveredSum" "[J" : Cond) ∈ g_T := g_mem 161 (by decide +kernel) (by decide +kernel)
theorem i_w179 : (.classLink g_R1 25 g_R3 : Cond) ∈ g_T := g_mem 179 (by decide +kernel) (by decide +kernel)
theorem i_w180 : (.instantiable g_R3 6 : Cond) ∈ g_T := g_mem 180 (by decide +kernel) (by decide +kernel)
theorem i_w181 : (.methodLink g_R1 27 (g_Y 71) : Cond) ∈ g_T := g_mem 181 (by decide +kernel) (by decide +kernel)
theorem i_w182 : (.instanceMethod (g_Y 71) : Cond) ∈ g_T := g_mem 182 (by decide +kernel) (by decide +kernel)
theorem i_w184 : (.methodLink g_R3 3 objectInit : Cond) ∈ g_T := g_mem 184 (by decide +kernel) (by decide +kernel)
theorem i_w185 : (.fieldLink g_R3 9 "PropellantGauge$Ledger" "count" "I" : Cond) ∈ g_T := g_mem 185 (by decide +kernel) (by decide +kernel)
theorem i_w187 : (.fieldLink g_R3 15 "PropellantGauge$Ledger" "latest" "I" : Cond) ∈ g_T := g_mem 187 (by decide +kernel) (by decide +kernel)
theorem i_w188 : (.fieldLink g_R3 18 "PropellantGauge$Ledger" "times" "[I" : Cond) ∈ g_T := g_mem 188 (by decide +kernel) (by decide +kernel)
theorem i_w189 : (.fieldLink g_R3 22 "PropellantGauge$Ledger" "kinds" "[I" : Cond) ∈ g_T := g_mem 189 (by decide +kernel) (by decide +kernel)
theorem i_w190 : (.fieldLink g_R3 25 "PropellantGauge$Ledger" "tanks" "[I" : Cond) ∈ g_T := g_mem 190 (by decide +kernel) (by decide +kernel)
theorem i_w191 : (.fieldLink g_R3 28 "PropellantGauge$Ledger" "amounts" "[J" : Cond) ∈ g_T := g_mem 191 (by decide +kernel) (by decide +kernel)
theorem i_w205 : (.fieldLink g_R1 12 "PropellantGauge$Craft" "tanks" "LPropellantGauge$Tanks;" : Cond) ∈ g_T := g_mem 205 (by decide +kernel) (by decide +kernel)
theorem i_w207 : (.fieldLink g_R1 21 "PropellantGauge$Craft" "engines" "LPropellantGauge$Engines;" : Cond) ∈ g_T := g_mem 207 (by decide +kernel) (by decide +kernel)
theorem i_w209 : (.fieldLink g_R1 28 "PropellantGauge$Craft" "ledger" "LPropellantGauge$Ledger;" : Cond) ∈ g_T := g_mem 209 (by decide +kernel) (by decide +kernel)
theorem i_w211 : (.fieldLink g_R1 32 "PropellantGauge$Craft" "now" "I" : Cond) ∈ g_T := g_mem 211 (by decide +kernel) (by decide +kernel)
theorem i_w213 : (.fieldLink g_R1 36 "PropellantGauge$Craft" "settlingTime" "I" : Cond) ∈ g_T := g_mem 213 (by decide +kernel) (by decide +kernel)
theorem i_w215 : (.fieldLink g_R1 39 "PropellantGauge$Craft" "gate" "I" : Cond) ∈ g_T := g_mem 215 (by decide +kernel) (by decide +kernel)
theorem i_w217 : (.fieldLink g_R1 42 "PropellantGauge$Craft" "margin" "I" : Cond) ∈ g_T := g_mem 217 (by decide +kernel) (by decide +kernel)
theorem i_w219 : (.fieldLink g_R1 45 "PropellantGauge$Craft" "burning" "I" : Cond) ∈ g_T := g_mem 219 (by decide +kernel) (by decide +kernel)
theorem i_w221 : (.fieldLink g_R1 48 "PropellantGauge$Craft" "starved" "Z" : Cond) ∈ g_T := g_mem 221 (by decide +kernel) (by decide +kernel)
theorem i_w223 : (.fieldLink g_R1 52 "PropellantGauge$Craft" "burnStart" "I" : Cond) ∈ g_T := g_mem 223 (by decide +kernel) (by decide +kernel)
theorem i_w224 : (.fieldLink g_R1 55 "PropellantGauge$Craft" "burnShares" "[J" : Cond) ∈ g_T := g_mem 224 (by decide +kernel) (by decide +kernel)
theorem i_w225 : (.fieldLink g_R1 59 "PropellantGauge$Craft" "stepShares" "[J" : Cond) ∈ g_T := g_mem 225 (by decide +kernel) (by decide +kernel)
theorem i_w251 : (.classLink g_R6 19 g_R0 : Cond) ∈ g_T := g_mem 251 (by decide +kernel) (by decide +kernel)
theorem i_w252 : (.instantiable g_R0 7 : Cond) ∈ g_T := g_mem 252 (by decide +kernel) (by decide +kernel)
theorem i_w253 : (.methodLink g_R6 21 (g_Y 38) : Cond) ∈ g_T := g_mem 253 (by decide +kernel) (by decide +kernel)
theorem i_w254 : (.instanceMethod (g_Y 38) : Cond) ∈ g_T := g_mem 254 (by decide +kernel) (by decide +kernel)
theorem i_w256 : (.methodLink g_R0 3 objectInit : Cond) ∈ g_T := g_mem 256 (by decide +kernel) (by decide +kernel)
theorem i_w257 : (.fieldLink g_R0 9 "PropellantGauge$CommandText" "length" "I" : Cond) ∈ g_T := g_mem 257 (by decide +kernel) (by decide +kernel)
theorem i_w259 : (.fieldLink g_R0 15 "PropellantGauge$CommandText" "at" "I" : Cond) ∈ g_T := g_mem 259 (by decide +kernel) (by decide +kernel)
theorem i_w261 : (.fieldLink g_R0 18 "PropellantGauge$CommandText" "command" "I" : Cond) ∈ g_T := g_mem 261 (by decide +kernel) (by decide +kernel)
theorem i_w263 : (.fieldLink g_R0 21 "PropellantGauge$CommandText" "name" "I" : Cond) ∈ g_T := g_mem 263 (by decide +kernel) (by decide +kernel)
theorem i_w265 : (.fieldLink g_R0 24 "PropellantGauge$CommandText" "tank" "I" : Cond) ∈ g_T := g_mem 265 (by decide +kernel) (by decide +kernel)
theorem i_w267 : (.fieldLink g_R0 27 "PropellantGauge$CommandText" "number" "I" : Cond) ∈ g_T := g_mem 267 (by decide +kernel) (by decide +kernel)
theorem i_w269 : (.fieldLink g_R0 30 "PropellantGauge$CommandText" "characters" "[C" : Cond) ∈ g_T := g_mem 269 (by decide +kernel) (by decide +kernel)
theorem i_w285 : (.arrayClass .char : Cond) ∈ g_T := g_mem 285 (by decide +kernel) (by decide +kernel)
theorem i_w286 : (.fieldLink g_R6 10 "PropellantGauge" "craft" "LPropellantGauge$Craft;" : Cond) ∈ g_T := g_mem 286 (by decide +kernel) (by decide +kernel)
theorem i_w287 : (.fieldLink g_R6 16 "PropellantGauge" "rehearsal" "LPropellantGauge$Craft;" : Cond) ∈ g_T := g_mem 287 (by decide +kernel) (by decide +kernel)
theorem i_w288 : (.fieldLink g_R6 22 "PropellantGauge" "text" "LPropellantGauge$CommandText;" : Cond) ∈ g_T := g_mem 288 (by decide +kernel) (by decide +kernel)
theorem i_w289 : (.fieldLink g_R6 26 "PropellantGauge" "bufferedName" "I" : Cond) ∈ g_T := g_mem 289 (by decide +kernel) (by decide +kernel)
theorem i_w290 : (.fieldLink g_R6 30 "PropellantGauge" "bufferedLetters" "I" : Cond) ∈ g_T := g_mem 290 (by decide +kernel) (by decide +kernel)
theorem i_w765 : (.methodLink g_R7 1 objectInit : Cond) ∈ g_T := g_mem 765 (by decide +kernel) (by decide +kernel)
theorem i_w766 : (.constantLong g_R7 62 (-1) : Cond) ∈ g_T := g_mem 766 (by decide +kernel) (by decide +kernel)
theorem i_w767 : (.fieldLink g_R7 7 "PropellantGaugeModel" "now" "[J" : Cond) ∈ g_T := g_mem 767 (by decide +kernel) (by decide +kernel)
theorem i_w768 : (.fieldLink g_R7 13 "PropellantGaugeModel" "aside" "[J" : Cond) ∈ g_T := g_mem 768 (by decide +kernel) (by decide +kernel)
theorem i_w770 : (.fieldLink g_R7 16 "PropellantGaugeModel" "density" "[J" : Cond) ∈ g_T := g_mem 770 (by decide +kernel) (by decide +kernel)
theorem i_w771 : (.fieldLink g_R7 19 "PropellantGaugeModel" "residual" "[J" : Cond) ∈ g_T := g_mem 771 (by decide +kernel) (by decide +kernel)
theorem i_w772 : (.fieldLink g_R7 22 "PropellantGaugeModel" "gauging" "[J" : Cond) ∈ g_T := g_mem 772 (by decide +kernel) (by decide +kernel)
theorem i_w773 : (.fieldLink g_R7 25 "PropellantGaugeModel" "leak" "[I" : Cond) ∈ g_T := g_mem 773 (by decide +kernel) (by decide +kernel)
theorem i_w774 : (.fieldLink g_R7 29 "PropellantGaugeModel" "points" "[I" : Cond) ∈ g_T := g_mem 774 (by decide +kernel) (by decide +kernel)
theorem i_w775 : (.fieldLink g_R7 32 "PropellantGaugeModel" "levels" "[I" : Cond) ∈ g_T := g_mem 775 (by decide +kernel) (by decide +kernel)
theorem i_w776 : (.fieldLink g_R7 35 "PropellantGaugeModel" "volumes" "[I" : Cond) ∈ g_T := g_mem 776 (by decide +kernel) (by decide +kernel)
theorem i_w778 : (.fieldLink g_R7 38 "PropellantGaugeModel" "name" "[I" : Cond) ∈ g_T := g_mem 778 (by decide +kernel) (by decide +kernel)
theorem i_w779 : (.fieldLink g_R7 41 "PropellantGaugeModel" "nameLong" "[I" : Cond) ∈ g_T := g_mem 779 (by decide +kernel) (by decide +kernel)
theorem i_w780 : (.fieldLink g_R7 44 "PropellantGaugeModel" "flow" "[I" : Cond) ∈ g_T := g_mem 780 (by decide +kernel) (by decide +kernel)
theorem i_w781 : (.fieldLink g_R7 47 "PropellantGaugeModel" "doubt" "[I" : Cond) ∈ g_T := g_mem 781 (by decide +kernel) (by decide +kernel)
theorem i_w782 : (.fieldLink g_R7 50 "PropellantGaugeModel" "settings" "[I" : Cond) ∈ g_T := g_mem 782 (by decide +kernel) (by decide +kernel)
theorem i_w784 : (.fieldLink g_R7 53 "PropellantGaugeModel" "letters" "[I" : Cond) ∈ g_T := g_mem 784 (by decide +kernel) (by decide +kernel)
theorem i_w786 : (.fieldLink g_R7 56 "PropellantGaugeModel" "text" "[I" : Cond) ∈ g_T := g_mem 786 (by decide +kernel) (by decide +kernel)
theorem i_w787 : (.fieldLink g_R7 59 "PropellantGaugeModel" "gives" "[J" : Cond) ∈ g_T := g_mem 787 (by decide +kernel) (by decide +kernel)
abbrev jl_V (cI cC cJ cR : ClassId) (h0 : Nat) (u : Nat → Nat) : va_W := [(h0, .inr (4, [.int 0, .ref (u 1), .ref (u 2)])), ((u 1), .inl (cI, 8, .inl (fun _ => 0))), ((u 2), .inl (cI, 8, .inl (fun _ => 0)))]
def k_i74 : List (Nat × Instr × Nat) := [(0, .aload_n 0, 1), (1, .invokespecial 3, 3), (4, .aload_n 0, 1), (5, .iconst 0, 1), (6, .putfield 9, 3), (9, .aload_n 0, 1), (10, .bipush 8, 2), (12, .newarray .int, 2), (14, .putfield 15, 3), (17, .aload_n 0, 1), (18, .bipush 8, 2), (20, .newarray .int, 2), (22, .putfield 19, 3), (25, .return_, 1)]
theorem k_i74_ok : k_i74.all (g_chd (g_B 74)) = true := by decide +kernel
set_option maxHeartbeats 4000000 in
set_option maxRecDepth 100000 in
theorem i_V (l : Launch) (D : va_G) (cI cC cJ cR : ClassId) (h0 sz : Nat) : Met l (g_Y 74) (g_cw 74 :: g_T) ({ frames := 1, cells := 2, slots := 16, locals := 20 }) (va_Pc [.ref h0] (fun U => U.heap.size = sz ∧ va_P D g_cls [(h0, .inr (4, [.int 0, .null, .null]))] U.heap ∧ va_K D g_cls (i_tys cI cC cJ cR) U ∧ va_D (fun _ => True) [(h0, .inr (4, [.int 0, .null, .null]))] ∧ va_AO g_R4 U)) (va_Qv (fun _ : Nat → Nat => True) (fun u t => va_P D g_cls (jl_V cI cC cJ cR h0 u) t.heap ∧ va_K D g_cls (i_tys cI cC cJ cR) t ∧ va_D (va_A [(h0, .inr (4, [.int 0, .null, .null]))] sz) (jl_V cI cC cJ cR h0 u)) (va_A [(h0, .inr (4, [.int 0, .null, .null]))] sz)) 2 16 (va_A [(h0, .inr (4, [.int 0, .null, .null]))] sz) := by
  refine m_ofW (cc := g_B 74) (maxL := 1) (ret := none) (g_plain 74 (by decide)).1 rfl ?_
  intro p e s m args below meth c s₁ B hml hv
  obtain ⟨rfl, hsz, hP, hK, hD0, hov⟩ := hv
  have hx := B.exec
  have hb := B.bytes
  have hr := B.returns
  have hts0 := atoms_spec (ws := g_cw 74 :: g_T) B.pre
  have hts : ∀ w ∈ g_T, w.before _ s = true := fun w h => hts0 w (List.mem_cons_of_mem _ h)
  have hown : s.vm.findClass g_R4 = some m.cls := findClass_of_methodNamed B.named
  have hin : meth.name = "<init>" := (name_of_methodNamed B.named B.method).1
  subst hsz
  have hD := hD0.self (sz := s.heap.size)
  generalize hAe : va_A [(h0, .inr (4, [.int 0, .null, .null]))] s.heap.size = A at hD ⊢
  have hA : ∀ q : Nat, s.heap.size ≤ q → A q := fun q h => by rw [← hAe]; exact Or.inr h
  have hS : va_S A s.heap s.heap [] := va_S.rf
  have hP : va_P D g_cls [(h0, .inr (4, [.int 0, .null, .null]))] s.heap := hP
  have hl := lv_entry ([.ref h0]) (n := 1) (Nat.le_of_ble_eq_true rfl)
  rw [lg_entry_eq]
  generalize (lg_sl ([.ref h0]) ++ List.replicate (1 - (lg_sl ([.ref h0])).length) Slot.unset).toArray = ls at hl ⊢
  have hl : lv_has ls 1 [(0, .ref h0)] := hl
  refine lv_aload_n hx hb (g_dech k_i74_ok rfl) rfl (lv_at hl 0 rfl) ?_
  refine W.objInit hx hb hown (hts (.methodLink g_R4 3 objectInit) i_w82) (hts (.instanceMethod objectInit) i_w61) (hts _ i_w62) rfl (by rw [hml]; exact hl.1) rfl (g_dech k_i74_ok rfl) (Nat.le_of_ble_eq_true rfl) (Nat.le_of_ble_eq_true rfl) ?_
  refine W.eq (g2 := F0 m 4 ls []) rfl ?_
  refine lv_aload_n hx hb (g_dech k_i74_ok rfl) rfl (lv_at hl 0 rfl) ?_
  refine lv_iconst (v := 0) hx hb (g_dech k_i74_ok rfl) (by decide) ?_
  refine va_put (D := D) (ci := 4) (v := .int 0) (ty := .int) (C := g_R4) (T := g_T4) (N := 3) hx hb hts g_in4 g_ty4 g_tyok4 g_nm4 hown hK hP hD hS 0 rfl rfl 0 (by decide) (hts (.fieldLink g_R4 9 "PropellantGauge$LevelTable" "count" "I") i_w83) (fun _ h9 => h9) rfl (by decide +kernel) rfl rfl (Nat.le_of_ble_eq_true rfl) (g_dech k_i74_ok rfl) (fun H locs hP hD hS => ?_)
  have hP : va_P D g_cls [(h0, .inr (4, [.int 0, .null, .null]))] H := hP
  have hD : va_D A [(h0, .inr (4, [.int 0, .null, .null]))] := hD
  refine lv_aload_n hx hb (g_dech k_i74_ok rfl) rfl (lv_at hl 0 rfl) ?_
  refine lv_bipush (v := 8) hx hb (g_dech k_i74_ok rfl) (by decide) ?_
  refine i_newa (atype := .int) (a0 := (8, .inl (fun _ => 0))) (cX := cI) hx hb (hts (.arrayClass .int) i_w95) rfl hK hP hD hS hA 0 rfl (fun _ => rfl) (by decide) (N' := 8) rfl (Nat.le_of_ble_eq_true rfl) (Nat.le_of_ble_eq_true rfl) (Nat.le_of_ble_eq_true rfl) (g_dech k_i74_ok rfl) (fun q1 H hP hD hS => ?_)
  have hP : va_P D g_cls [(h0, .inr (4, [.int 0, .null, .null])), (q1, .inl (cI, 8, .inl (fun _ => 0)))] H := hP
  have hD : va_D A [(h0, .inr (4, [.int 0, .null, .null])), (q1, .inl (cI, 8, .inl (fun _ => 0)))] := hD
  refine W.widen (k := 1) (n := 8) (Nat.le_of_ble_eq_true rfl) (Nat.le_of_ble_eq_true rfl) ?_
  refine va_putF (D := D) (ci := 4) (v := .ref q1) (ty := .array .int) (C := g_R4) (T := g_T4) (N := 3) hx hb hts g_in4 g_ty4 g_tyok4 g_nm4 hown hK hP hD hS 0 rfl rfl 1 (by decide) (hts (.fieldLink g_R4 15 "PropellantGauge$LevelTable" "levels" "[I") i_w86) (fun _ h9 => h9) rfl hin rfl (by decide +kernel) rfl rfl (Nat.le_of_ble_eq_true rfl) (g_dech k_i74_ok rfl) (fun H locs hP hD hS => ?_)
  have hP : va_P D g_cls [(h0, .inr (4, [.int 0, .ref q1, .null])), (q1, .inl (cI, 8, .inl (fun _ => 0)))] H := hP
  have hD : va_D A [(h0, .inr (4, [.int 0, .ref q1, .null])), (q1, .inl (cI, 8, .inl (fun _ => 0)))] := hD
  refine lv_aload_n hx hb (g_dech k_i74_ok rfl) rfl (lv_at hl 0 rfl) ?_
  refine lv_bipush (v := 8) hx hb (g_dech k_i74_ok rfl) (by decide) ?_
  refine i_newa (atype := .int) (a0 := (8, .inl (fun _ => 0))) (cX := cI) hx hb (hts (.arrayClass .int) i_w95) rfl hK hP hD hS hA 0 rfl (fun _ => rfl) (by decide) (N' := 8) rfl (Nat.le_of_ble_eq_true rfl) (Nat.le_of_ble_eq_true rfl) (Nat.le_of_ble_eq_true rfl) (g_dech k_i74_ok rfl) (fun q2 H hP hD hS => ?_)
  have hP : va_P D g_cls [(h0, .inr (4, [.int 0, .ref q1, .null])), (q1, .inl (cI, 8, .inl (fun _ => 0))), (q2, .inl (cI, 8, .inl (fun _ => 0)))] H := hP
  have hD : va_D A [(h0, .inr (4, [.int 0, .ref q1, .null])), (q1, .inl (cI, 8, .inl (fun _ => 0))), (q2, .inl (cI, 8, .inl (fun _ => 0)))] := hD
  refine W.widen (k := 2) (n := 16) (Nat.le_of_ble_eq_true rfl) (Nat.le_of_ble_eq_true rfl) ?_
  refine va_putF (D := D) (ci := 4) (v := .ref q2) (ty := .array .int) (C := g_R4) (T := g_T4) (N := 3) hx hb hts g_in4 g_ty4 g_tyok4 g_nm4 hown hK hP hD hS 0 rfl rfl 2 (by decide) (hts (.fieldLink g_R4 19 "PropellantGauge$LevelTable" "volumes" "[I") i_w87) (fun _ h9 => h9) rfl hin rfl (by decide +kernel) rfl rfl (Nat.le_of_ble_eq_true rfl) (g_dech k_i74_ok rfl) (fun H locs hP hD hS => ?_)
  have hP : va_P D g_cls [(h0, .inr (4, [.int 0, .ref q1, .ref q2])), (q1, .inl (cI, 8, .inl (fun _ => 0))), (q2, .inl (cI, 8, .inl (fun _ => 0)))] H := hP
  have hD : va_D A [(h0, .inr (4, [.int 0, .ref q1, .ref q2])), (q1, .inl (cI, 8, .inl (fun _ => 0))), (q2, .inl (cI, 8, .inl (fun _ => 0)))] := hD
  have hP9 := hP.sub (ws' := jl_V cI cC cJ cR h0 (fun i => [h0, q1, q2].getD i 0)) [0, 1, 2] rfl
  have hD9 := hD.sub (ws' := jl_V cI cC cJ cR h0 (fun i => [h0, q1, q2].getD i 0)) [0, 1, 2] (by decide) rfl
  exact W.vret hx hb hr (fun t ht hW => ⟨⟨fun i => [h0, q1, q2].getD i 0, rfl, trivial, by rw [ht]; exact hP9, va_K.moved hW.alike hK, hD9⟩, hS.F ht⟩) hS.2.2 (g_dech k_i74_ok rfl)
abbrev jl_E (cI cC cJ cR : ClassId) (h0 : Nat) (u : Nat → Nat) : va_W := [(h0, .inr (2, [.int 0, .ref (u 1), .ref (u 2), .ref (u 3), .ref (u 4), .ref (u 5), .ref (u 6)])), ((u 1), .inl (cI, 6, .inl (fun _ => 0))), ((u 2), .inl (cI, 6, .inl (fun _ => 0))), ((u 3), .inl (cI, 6, .inl (fun _ => 0))), ((u 4), .inl (cI, 6, .inl (fun _ => 0))), ((u 5), .inl (cJ, 6, .inr (.inl (fun _ => 0)))), ((u 6), .inl (cJ, 6, .inr (.inl (fun _ => 0))))]
def k_i65 : List (Nat × Instr × Nat) := [(0, .aload_n 0, 1), (1, .invokespecial 3, 3), (4, .aload_n 0, 1), (5, .iconst 0, 1), (6, .putfield 9, 3), (9, .aload_n 0, 1), (10, .bipush 6, 2), (12, .newarray .int, 2), (14, .putfield 15, 3), (17, .aload_n 0, 1), (18, .bipush 6, 2), (20, .newarray .int, 2), (22, .putfield 19, 3), (25, .aload_n 0, 1), (26, .bipush 6, 2), (28, .newarray .int, 2), (30, .putfield 22, 3), (33, .aload_n 0, 1), (34, .bipush 6, 2), (36, .newarray .int, 2), (38, .putfield 25, 3), (41, .aload_n 0, 1), (42, .bipush 6, 2), (44, .newarray .long, 2), (46, .putfield 28, 3), (49, .aload_n 0, 1), (50, .bipush 6, 2), (52, .newarray .long, 2), (54, .putfield 32, 3), (57, .return_, 1)]
theorem k_i65_ok : k_i65.all (g_chd (g_B 65)) = true := by decide +kernel
set_option maxHeartbeats 4000000 in
set_option maxRecDepth 100000 in
theorem i_E (l : Launch) (D : va_G) (cI cC cJ cR : ClassId) (h0 sz : Nat) : Met l (g_Y 65) (g_cw 65 :: g_T) ({ frames := 1, cells := 6, slots := 36, locals := 20 }) (va_Pc [.ref h0] (fun U => U.heap.size = sz ∧ va_P D g_cls [(h0, .inr (2, [.int 0, .null, .null, .null, .null, .null, .null]))] U.heap ∧ va_K D g_cls (i_tys cI cC cJ cR) U ∧ va_D (fun _ => True) [(h0, .inr (2, [.int 0, .null, .null, .null, .null, .null, .null]))] ∧ va_AO g_R4 U)) (va_Qv (fun _ : Nat → Nat => True) (fun u t => va_P D g_cls (jl_E cI cC cJ cR h0 u) t.heap ∧ va_K D g_cls (i_tys cI cC cJ cR) t ∧ va_D (va_A [(h0, .inr (2, [.int 0, .null, .null, .null, .null, .null, .null]))] sz) (jl_E cI cC cJ cR h0 u)) (va_A [(h0, .inr (2, [.int 0, .null, .null, .null, .null, .null, .null]))] sz)) 6 36 (va_A [(h0, .inr (2, [.int 0, .null, .null, .null, .null, .null, .null]))] sz) := by
  refine m_ofW (cc := g_B 65) (maxL := 1) (ret := none) (g_plain 65 (by decide)).1 rfl ?_
  intro p e s m args below meth c s₁ B hml hv
  obtain ⟨rfl, hsz, hP, hK, hD0, hov⟩ := hv
  have hx := B.exec
  have hb := B.bytes
  have hr := B.returns
  have hts0 := atoms_spec (ws := g_cw 65 :: g_T) B.pre
  have hts : ∀ w ∈ g_T, w.before _ s = true := fun w h => hts0 w (List.mem_cons_of_mem _ h)
  have hown : s.vm.findClass g_R2 = some m.cls := findClass_of_methodNamed B.named
  have hin : meth.name = "<init>" := (name_of_methodNamed B.named B.method).1
  subst hsz
  have hD := hD0.self (sz := s.heap.size)
  generalize hAe : va_A [(h0, .inr (2, [.int 0, .null, .null, .null, .null, .null, .null]))] s.heap.size = A at hD ⊢
  have hA : ∀ q : Nat, s.heap.size ≤ q → A q := fun q h => by rw [← hAe]; exact Or.inr h
  have hS : va_S A s.heap s.heap [] := va_S.rf
  have hP : va_P D g_cls [(h0, .inr (2, [.int 0, .null, .null, .null, .null, .null, .null]))] s.heap := hP
  have hl := lv_entry ([.ref h0]) (n := 1) (Nat.le_of_ble_eq_true rfl)
  rw [lg_entry_eq]
  generalize (lg_sl ([.ref h0]) ++ List.replicate (1 - (lg_sl ([.ref h0])).length) Slot.unset).toArray = ls at hl ⊢
  have hl : lv_has ls 1 [(0, .ref h0)] := hl
  refine lv_aload_n hx hb (g_dech k_i65_ok rfl) rfl (lv_at hl 0 rfl) ?_
  refine W.objInit hx hb hown (hts (.methodLink g_R2 3 objectInit) i_w148) (hts (.instanceMethod objectInit) i_w61) (hts _ i_w62) rfl (by rw [hml]; exact hl.1) rfl (g_dech k_i65_ok rfl) (Nat.le_of_ble_eq_true rfl) (Nat.le_of_ble_eq_true rfl) ?_
  refine W.eq (g2 := F0 m 4 ls []) rfl ?_
  refine lv_aload_n hx hb (g_dech k_i65_ok rfl) rfl (lv_at hl 0 rfl) ?_
  refine lv_iconst (v := 0) hx hb (g_dech k_i65_ok rfl) (by decide) ?_
  refine va_put (D := D) (ci := 2) (v := .int 0) (ty := .int) (C := g_R2) (T := g_T2) (N := 7) hx hb hts g_in2 g_ty2 g_tyok2 g_nm2 hown hK hP hD hS 0 rfl rfl 0 (by decide) (hts (.fieldLink g_R2 9 "PropellantGauge$Engines" "count" "I") i_w149) (fun _ h9 => h9) rfl (by decide +kernel) rfl rfl (Nat.le_of_ble_eq_true rfl) (g_dech k_i65_ok rfl) (fun H locs hP hD hS => ?_)
  have hP : va_P D g_cls [(h0, .inr (2, [.int 0, .null, .null, .null, .null, .null, .null]))] H := hP
  have hD : va_D A [(h0, .inr (2, [.int 0, .null, .null, .null, .null, .null, .null]))] := hD
  refine lv_aload_n hx hb (g_dech k_i65_ok rfl) rfl (lv_at hl 0 rfl) ?_
  refine lv_bipush (v := 6) hx hb (g_dech k_i65_ok rfl) (by decide) ?_
  refine i_newa (atype := .int) (a0 := (6, .inl (fun _ => 0))) (cX := cI) hx hb (hts (.arrayClass .int) i_w95) rfl hK hP hD hS hA 0 rfl (fun _ => rfl) (by decide) (N' := 6) rfl (Nat.le_of_ble_eq_true rfl) (Nat.le_of_ble_eq_true rfl) (Nat.le_of_ble_eq_true rfl) (g_dech k_i65_ok rfl) (fun q1 H hP hD hS => ?_)
  have hP : va_P D g_cls [(h0, .inr (2, [.int 0, .null, .null, .null, .null, .null, .null])), (q1, .inl (cI, 6, .inl (fun _ => 0)))] H := hP
  have hD : va_D A [(h0, .inr (2, [.int 0, .null, .null, .null, .null, .null, .null])), (q1, .inl (cI, 6, .inl (fun _ => 0)))] := hD
  refine W.widen (k := 1) (n := 6) (Nat.le_of_ble_eq_true rfl) (Nat.le_of_ble_eq_true rfl) ?_
  refine va_putF (D := D) (ci := 2) (v := .ref q1) (ty := .array .int) (C := g_R2) (T := g_T2) (N := 7) hx hb hts g_in2 g_ty2 g_tyok2 g_nm2 hown hK hP hD hS 0 rfl rfl 1 (by decide) (hts (.fieldLink g_R2 15 "PropellantGauge$Engines" "names" "[I") i_w150) (fun _ h9 => h9) rfl hin rfl (by decide +kernel) rfl rfl (Nat.le_of_ble_eq_true rfl) (g_dech k_i65_ok rfl) (fun H locs hP hD hS => ?_)
  have hP : va_P D g_cls [(h0, .inr (2, [.int 0, .ref q1, .null, .null, .null, .null, .null])), (q1, .inl (cI, 6, .inl (fun _ => 0)))] H := hP
  have hD : va_D A [(h0, .inr (2, [.int 0, .ref q1, .null, .null, .null, .null, .null])), (q1, .inl (cI, 6, .inl (fun _ => 0)))] := hD
  refine lv_aload_n hx hb (g_dech k_i65_ok rfl) rfl (lv_at hl 0 rfl) ?_
  refine lv_bipush (v := 6) hx hb (g_dech k_i65_ok rfl) (by decide) ?_
  refine i_newa (atype := .int) (a0 := (6, .inl (fun _ => 0))) (cX := cI) hx hb (hts (.arrayClass .int) i_w95) rfl hK hP hD hS hA 0 rfl (fun _ => rfl) (by decide) (N' := 6) rfl (Nat.le_of_ble_eq_true rfl) (Nat.le_of_ble_eq_true rfl) (Nat.le_of_ble_eq_true rfl) (g_dech k_i65_ok rfl) (fun q2 H hP hD hS => ?_)
  have hP : va_P D g_cls [(h0, .inr (2, [.int 0, .ref q1, .null, .null, .null, .null, .null])), (q1, .inl (cI, 6, .inl (fun _ => 0))), (q2, .inl (cI, 6, .inl (fun _ => 0)))] H := hP
  have hD : va_D A [(h0, .inr (2, [.int 0, .ref q1, .null, .null, .null, .null, .null])), (q1, .inl (cI, 6, .inl (fun _ => 0))), (q2, .inl (cI, 6, .inl (fun _ => 0)))] := hD
  refine W.widen (k := 2) (n := 12) (Nat.le_of_ble_eq_true rfl) (Nat.le_of_ble_eq_true rfl) ?_
  refine va_putF (D := D) (ci := 2) (v := .ref q2) (ty := .array .int) (C := g_R2) (T := g_T2) (N := 7) hx hb hts g_in2 g_ty2 g_tyok2 g_nm2 hown hK hP hD hS 0 rfl rfl 2 (by decide) (hts (.fieldLink g_R2 19 "PropellantGauge$Engines" "flow" "[I") i_w151) (fun _ h9 => h9) rfl hin rfl (by decide +kernel) rfl rfl (Nat.le_of_ble_eq_true rfl) (g_dech k_i65_ok rfl) (fun H locs hP hD hS => ?_)
  have hP : va_P D g_cls [(h0, .inr (2, [.int 0, .ref q1, .ref q2, .null, .null, .null, .null])), (q1, .inl (cI, 6, .inl (fun _ => 0))), (q2, .inl (cI, 6, .inl (fun _ => 0)))] H := hP
  have hD : va_D A [(h0, .inr (2, [.int 0, .ref q1, .ref q2, .null, .null, .null, .null])), (q1, .inl (cI, 6, .inl (fun _ => 0))), (q2, .inl (cI, 6, .inl (fun _ => 0)))] := hD
  refine lv_aload_n hx hb (g_dech k_i65_ok rfl) rfl (lv_at hl 0 rfl) ?_
  refine lv_bipush (v := 6) hx hb (g_dech k_i65_ok rfl) (by decide) ?_
  refine i_newa (atype := .int) (a0 := (6, .inl (fun _ => 0))) (cX := cI) hx hb (hts (.arrayClass .int) i_w95) rfl hK hP hD hS hA 0 rfl (fun _ => rfl) (by decide) (N' := 6) rfl (Nat.le_of_ble_eq_true rfl) (Nat.le_of_ble_eq_true rfl) (Nat.le_of_ble_eq_true rfl) (g_dech k_i65_ok rfl) (fun q3 H hP hD hS => ?_)
  have hP : va_P D g_cls [(h0, .inr (2, [.int 0, .ref q1, .ref q2, .null, .null, .null, .null])), (q1, .inl (cI, 6, .inl (fun _ => 0))), (q2, .inl (cI, 6, .inl (fun _ => 0))), (q3, .inl (cI, 6, .inl (fun _ => 0)))] H := hP
  have hD : va_D A [(h0, .inr (2, [.int 0, .ref q1, .ref q2, .null, .null, .null, .null])), (q1, .inl (cI, 6, .inl (fun _ => 0))), (q2, .inl (cI, 6, .inl (fun _ => 0))), (q3, .inl (cI, 6, .inl (fun _ => 0)))] := hD
  refine W.widen (k := 3) (n := 18) (Nat.le_of_ble_eq_true rfl) (Nat.le_of_ble_eq_true rfl) ?_
  refine va_putF (D := D) (ci := 2) (v := .ref q3) (ty := .array .int) (C := g_R2) (T := g_T2) (N := 7) hx hb hts g_in2 g_ty2 g_tyok2 g_nm2 hown hK hP hD hS 0 rfl rfl 3 (by decide) (hts (.fieldLink g_R2 22 "PropellantGauge$Engines" "uncertainty" "[I") i_w153) (fun _ h9 => h9) rfl hin rfl (by decide +kernel) rfl rfl (Nat.le_of_ble_eq_true rfl) (g_dech k_i65_ok rfl) (fun H locs hP hD hS => ?_)
  have hP : va_P D g_cls [(h0, .inr (2, [.int 0, .ref q1, .ref q2, .ref q3, .null, .null, .null])), (q1, .inl (cI, 6, .inl (fun _ => 0))), (q2, .inl (cI, 6, .inl (fun _ => 0))), (q3, .inl (cI, 6, .inl (fun _ => 0)))] H := hP
  have hD : va_D A [(h0, .inr (2, [.int 0, .ref q1, .ref q2, .ref q3, .null, .null, .null])), (q1, .inl (cI, 6, .inl (fun _ => 0))), (q2, .inl (cI, 6, .inl (fun _ => 0))), (q3, .inl (cI, 6, .inl (fun _ => 0)))] := hD
  refine lv_aload_n hx hb (g_dech k_i65_ok rfl) rfl (lv_at hl 0 rfl) ?_
  refine lv_bipush (v := 6) hx hb (g_dech k_i65_ok rfl) (by decide) ?_
  refine i_newa (atype := .int) (a0 := (6, .inl (fun _ => 0))) (cX := cI) hx hb (hts (.arrayClass .int) i_w95) rfl hK hP hD hS hA 0 rfl (fun _ => rfl) (by decide) (N' := 6) rfl (Nat.le_of_ble_eq_true rfl) (Nat.le_of_ble_eq_true rfl) (Nat.le_of_ble_eq_true rfl) (g_dech k_i65_ok rfl) (fun q4 H hP hD hS => ?_)
  have hP : va_P D g_cls [(h0, .inr (2, [.int 0, .ref q1, .ref q2, .ref q3, .null, .null, .null])), (q1, .inl (cI, 6, .inl (fun _ => 0))), (q2, .inl (cI, 6, .inl (fun _ => 0))), (q3, .inl (cI, 6, .inl (fun _ => 0))), (q4, .inl (cI, 6, .inl (fun _ => 0)))] H := hP
  have hD : va_D A [(h0, .inr (2, [.int 0, .ref q1, .ref q2, .ref q3, .null, .null, .null])), (q1, .inl (cI, 6, .inl (fun _ => 0))), (q2, .inl (cI, 6, .inl (fun _ => 0))), (q3, .inl (cI, 6, .inl (fun _ => 0))), (q4, .inl (cI, 6, .inl (fun _ => 0)))] := hD
  refine W.widen (k := 4) (n := 24) (Nat.le_of_ble_eq_true rfl) (Nat.le_of_ble_eq_true rfl) ?_
  refine va_putF (D := D) (ci := 2) (v := .ref q4) (ty := .array .int) (C := g_R2) (T := g_T2) (N := 7) hx hb hts g_in2 g_ty2 g_tyok2 g_nm2 hown hK hP hD hS 0 rfl rfl 4 (by decide) (hts (.fieldLink g_R2 25 "PropellantGauge$Engines" "open" "[I") i_w155) (fun _ h9 => h9) rfl hin rfl (by decide +kernel) rfl rfl (Nat.le_of_ble_eq_true rfl) (g_dech k_i65_ok rfl) (fun H locs hP hD hS => ?_)
  have hP : va_P D g_cls [(h0, .inr (2, [.int 0, .ref q1, .ref q2, .ref q3, .ref q4, .null, .null])), (q1, .inl (cI, 6, .inl (fun _ => 0))), (q2, .inl (cI, 6, .inl (fun _ => 0))), (q3, .inl (cI, 6, .inl (fun _ => 0))), (q4, .inl (cI, 6, .inl (fun _ => 0)))] H := hP
  have hD : va_D A [(h0, .inr (2, [.int 0, .ref q1, .ref q2, .ref q3, .ref q4, .null, .null])), (q1, .inl (cI, 6, .inl (fun _ => 0))), (q2, .inl (cI, 6, .inl (fun _ => 0))), (q3, .inl (cI, 6, .inl (fun _ => 0))), (q4, .inl (cI, 6, .inl (fun _ => 0)))] := hD
  refine lv_aload_n hx hb (g_dech k_i65_ok rfl) rfl (lv_at hl 0 rfl) ?_
  refine lv_bipush (v := 6) hx hb (g_dech k_i65_ok rfl) (by decide) ?_
  refine i_newa (atype := .long) (a0 := (6, .inr (.inl (fun _ => 0)))) (cX := cJ) hx hb (hts (.arrayClass .long) i_w96) rfl hK hP hD hS hA 2 rfl (fun _ => rfl) (by decide) (N' := 6) rfl (Nat.le_of_ble_eq_true rfl) (Nat.le_of_ble_eq_true rfl) (Nat.le_of_ble_eq_true rfl) (g_dech k_i65_ok rfl) (fun q5 H hP hD hS => ?_)
  have hP : va_P D g_cls [(h0, .inr (2, [.int 0, .ref q1, .ref q2, .ref q3, .ref q4, .null, .null])), (q1, .inl (cI, 6, .inl (fun _ => 0))), (q2, .inl (cI, 6, .inl (fun _ => 0))), (q3, .inl (cI, 6, .inl (fun _ => 0))), (q4, .inl (cI, 6, .inl (fun _ => 0))), (q5, .inl (cJ, 6, .inr (.inl (fun _ => 0))))] H := hP
  have hD : va_D A [(h0, .inr (2, [.int 0, .ref q1, .ref q2, .ref q3, .ref q4, .null, .null])), (q1, .inl (cI, 6, .inl (fun _ => 0))), (q2, .inl (cI, 6, .inl (fun _ => 0))), (q3, .inl (cI, 6, .inl (fun _ => 0))), (q4, .inl (cI, 6, .inl (fun _ => 0))), (q5, .inl (cJ, 6, .inr (.inl (fun _ => 0))))] := hD
  refine W.widen (k := 5) (n := 30) (Nat.le_of_ble_eq_true rfl) (Nat.le_of_ble_eq_true rfl) ?_
  refine va_putF (D := D) (ci := 2) (v := .ref q5) (ty := .array .long) (C := g_R2) (T := g_T2) (N := 7) hx hb hts g_in2 g_ty2 g_tyok2 g_nm2 hown hK hP hD hS 0 rfl rfl 5 (by decide) (hts (.fieldLink g_R2 28 "PropellantGauge$Engines" "bookedSum" "[J") i_w158) (fun _ h9 => h9) rfl hin rfl (by decide +kernel) rfl rfl (Nat.le_of_ble_eq_true rfl) (g_dech k_i65_ok rfl) (fun H locs hP hD hS => ?_)
  have hP : va_P D g_cls [(h0, .inr (2, [.int 0, .ref q1, .ref q2, .ref q3, .ref q4, .ref q5, .null])), (q1, .inl (cI, 6, .inl (fun _ => 0))), (q2, .inl (cI, 6, .inl (fun _ => 0))), (q3, .inl (cI, 6, .inl (fun _ => 0))), (q4, .inl (cI, 6, .inl (fun _ => 0))), (q5, .inl (cJ, 6, .inr (.inl (fun _ => 0))))] H := hP
  have hD : va_D A [(h0, .inr (2, [.int 0, .ref q1, .ref q2, .ref q3, .ref q4, .ref q5, .null])), (q1, .inl (cI, 6, .inl (fun _ => 0))), (q2, .inl (cI, 6, .inl (fun _ => 0))), (q3, .inl (cI, 6, .inl (fun _ => 0))), (q4, .inl (cI, 6, .inl (fun _ => 0))), (q5, .inl (cJ, 6, .inr (.inl (fun _ => 0))))] := hD
  refine lv_aload_n hx hb (g_dech k_i65_ok rfl) rfl (lv_at hl 0 rfl) ?_
  refine lv_bipush (v := 6) hx hb (g_dech k_i65_ok rfl) (by decide) ?_
  refine i_newa (atype := .long) (a0 := (6, .inr (.inl (fun _ => 0)))) (cX := cJ) hx hb (hts (.arrayClass .long) i_w96) rfl hK hP hD hS hA 2 rfl (fun _ => rfl) (by decide) (N' := 6) rfl (Nat.le_of_ble_eq_true rfl) (Nat.le_of_ble_eq_true rfl) (Nat.le_of_ble_eq_true rfl) (g_dech k_i65_ok rfl) (fun q6 H hP hD hS => ?_)
  have hP : va_P D g_cls [(h0, .inr (2, [.int 0, .ref q1, .ref q2, .ref q3, .ref q4, .ref q5, .null])), (q1, .inl (cI, 6, .inl (fun _ => 0))), (q2, .inl (cI, 6, .inl (fun _ => 0))), (q3, .inl (cI, 6, .inl (fun _ => 0))), (q4, .inl (cI, 6, .inl (fun _ => 0))), (q5, .inl (cJ, 6, .inr (.inl (fun _ => 0)))), (q6, .inl (cJ, 6, .inr (.inl (fun _ => 0))))] H := hP
  have hD : va_D A [(h0, .inr (2, [.int 0, .ref q1, .ref q2, .ref q3, .ref q4, .ref q5, .null])), (q1, .inl (cI, 6, .inl (fun _ => 0))), (q2, .inl (cI, 6, .inl (fun _ => 0))), (q3, .inl (cI, 6, .inl (fun _ => 0))), (q4, .inl (cI, 6, .inl (fun _ => 0))), (q5, .inl (cJ, 6, .inr (.inl (fun _ => 0)))), (q6, .inl (cJ, 6, .inr (.inl (fun _ => 0))))] := hD
  refine W.widen (k := 6) (n := 36) (Nat.le_of_ble_eq_true rfl) (Nat.le_of_ble_eq_true rfl) ?_
  refine va_putF (D := D) (ci := 2) (v := .ref q6) (ty := .array .long) (C := g_R2) (T := g_T2) (N := 7) hx hb hts g_in2 g_ty2 g_tyok2 g_nm2 hown hK hP hD hS 0 rfl rfl 6 (by decide) (hts (.fieldLink g_R2 32 "PropellantGauge$Engines" "deliveredSum" "[J") i_w161) (fun _ h9 => h9) rfl hin rfl (by decide +kernel) rfl rfl (Nat.le_of_ble_eq_true rfl) (g_dech k_i65_ok rfl) (fun H locs hP hD hS => ?_)
  have hP : va_P D g_cls [(h0, .inr (2, [.int 0, .ref q1, .ref q2, .ref q3, .ref q4, .ref q5, .ref q6])), (q1, .inl (cI, 6, .inl (fun _ => 0))), (q2, .inl (cI, 6, .inl (fun _ => 0))), (q3, .inl (cI, 6, .inl (fun _ => 0))), (q4, .inl (cI, 6, .inl (fun _ => 0))), (q5, .inl (cJ, 6, .inr (.inl (fun _ => 0)))), (q6, .inl (cJ, 6, .inr (.inl (fun _ => 0))))] H := hP
  have hD : va_D A [(h0, .inr (2, [.int 0, .ref q1, .ref q2, .ref q3, .ref q4, .ref q5, .ref q6])), (q1, .inl (cI, 6, .inl (fun _ => 0))), (q2, .inl (cI, 6, .inl (fun _ => 0))), (q3, .inl (cI, 6, .inl (fun _ => 0))), (q4, .inl (cI, 6, .inl (fun _ => 0))), (q5, .inl (cJ, 6, .inr (.inl (fun _ => 0)))), (q6, .inl (cJ, 6, .inr (.inl (fun _ => 0))))] := hD
  have hP9 := hP.sub (ws' := jl_E cI cC cJ cR h0 (fun i => [h0, q1, q2, q3, q4, q5, q6].getD i 0)) [0, 1, 2, 3, 4, 5, 6] rfl
  have hD9 := hD.sub (ws' := jl_E cI cC cJ cR h0 (fun i => [h0, q1, q2, q3, q4, q5, q6].getD i 0)) [0, 1, 2, 3, 4, 5, 6] (by decide) rfl
  exact W.vret hx hb hr (fun t ht hW => ⟨⟨fun i => [h0, q1, q2, q3, q4, q5, q6].getD i 0, rfl, trivial, by rw [ht]; exact hP9, va_K.moved hW.alike hK, hD9⟩, hS.F ht⟩) hS.2.2 (g_dech k_i65_ok rfl)
abbrev jl_L (cI cC cJ cR : ClassId) (h0 : Nat) (u : Nat → Nat) : va_W := [(h0, .inr (3, [.int 0, .int 23, .ref (u 1), .ref (u 2), .ref (u 3), .ref (u 4)])), ((u 1), .inl (cI, 24, .inl (fun _ => 0))), ((u 2), .inl (cI, 24, .inl (fun _ => 0))), ((u 3), .inl (cI, 24, .inl (fun _ => 0))), ((u 4), .inl (cJ, 24, .inr (.inl (fun _ => 0))))]
def k_i71 : List (Nat × Instr × Nat) := [(0, .aload_n 0, 1), (1, .invokespecial 3, 3), (4, .aload_n 0, 1), (5, .iconst 0, 1), (6, .putfield 9, 3), (9, .aload_n 0, 1), (10, .bipush 23, 2), (12, .putfield 15, 3), (15, .aload_n 0, 1), (16, .bipush 24, 2), (18, .newarray .int, 2), (20, .putfield 18, 3), (23, .aload_n 0, 1), (24, .bipush 24, 2), (26, .newarray .int, 2), (28, .putfield 22, 3), (31, .aload_n 0, 1), (32, .bipush 24, 2), (34, .newarray .int, 2), (36, .putfield 25, 3), (39, .aload_n 0, 1), (40, .bipush 24, 2), (42, .newarray .long, 2), (44, .putfield 28, 3), (47, .return_, 1)]
theorem k_i71_ok : k_i71.all (g_chd (g_B 71)) = true := by decide +kernel
set_option maxHeartbeats 4000000 in
set_option maxRecDepth 100000 in
theorem i_L (l : Launch) (D : va_G) (cI cC cJ cR : ClassId) (h0 sz : Nat) : Met l (g_Y 71) (g_cw 71 :: g_T) ({ frames := 1, cells := 4, slots := 96, locals := 20 }) (va_Pc [.ref h0] (fun U => U.heap.size = sz ∧ va_P D g_cls [(h0, .inr (3, [.int 0, .int 0, .null, .null, .null, .null]))] U.heap ∧ va_K D g_cls (i_tys cI cC cJ cR) U ∧ va_D (fun _ => True) [(h0, .inr (3, [.int 0, .int 0, .null, .null, .null, .null]))] ∧ va_AO g_R4 U)) (va_Qv (fun _ : Nat → Nat => True) (fun u t => va_P D g_cls (jl_L cI cC cJ cR h0 u) t.heap ∧ va_K D g_cls (i_tys cI cC cJ cR) t ∧ va_D (va_A [(h0, .inr (3, [.int 0, .int 0, .null, .null, .null, .null]))] sz) (jl_L cI cC cJ cR h0 u)) (va_A [(h0, .inr (3, [.int 0, .int 0, .null, .null, .null, .null]))] sz)) 4 96 (va_A [(h0, .inr (3, [.int 0, .int 0, .null, .null, .null, .null]))] sz) := by
  refine m_ofW (cc := g_B 71) (maxL := 1) (ret := none) (g_plain 71 (by decide)).1 rfl ?_
  intro p e s m args below meth c s₁ B hml hv
  obtain ⟨rfl, hsz, hP, hK, hD0, hov⟩ := hv
  have hx := B.exec
  have hb := B.bytes
  have hr := B.returns
  have hts0 := atoms_spec (ws := g_cw 71 :: g_T) B.pre
  have hts : ∀ w ∈ g_T, w.before _ s = true := fun w h => hts0 w (List.mem_cons_of_mem _ h)
  have hown : s.vm.findClass g_R3 = some m.cls := findClass_of_methodNamed B.named
  have hin : meth.name = "<init>" := (name_of_methodNamed B.named B.method).1
  subst hsz
  have hD := hD0.self (sz := s.heap.size)
  generalize hAe : va_A [(h0, .inr (3, [.int 0, .int 0, .null, .null, .null, .null]))] s.heap.size = A at hD ⊢
  have hA : ∀ q : Nat, s.heap.size ≤ q → A q := fun q h => by rw [← hAe]; exact Or.inr h
  have hS : va_S A s.heap s.heap [] := va_S.rf
  have hP : va_P D g_cls [(h0, .inr (3, [.int 0, .int 0, .null, .null, .null, .null]))] s.heap := hP
  have hl := lv_entry ([.ref h0]) (n := 1) (Nat.le_of_ble_eq_true rfl)
  rw [lg_entry_eq]
  generalize (lg_sl ([.ref h0]) ++ List.replicate (1 - (lg_sl ([.ref h0])).length) Slot.unset).toArray = ls at hl ⊢
  have hl : lv_has ls 1 [(0, .ref h0)] := hl
  refine lv_aload_n hx hb (g_dech k_i71_ok rfl) rfl (lv_at hl 0 rfl) ?_
  refine W.objInit hx hb hown (hts (.methodLink g_R3 3 objectInit) i_w184) (hts (.instanceMethod objectInit) i_w61) (hts _ i_w62) rfl (by rw [hml]; exact hl.1) rfl (g_dech k_i71_ok rfl) (Nat.le_of_ble_eq_true rfl) (Nat.le_of_ble_eq_true rfl) ?_
  refine W.eq (g2 := F0 m 4 ls []) rfl ?_
  refine lv_aload_n hx hb (g_dech k_i71_ok rfl) rfl (lv_at hl 0 rfl) ?_
  refine lv_iconst (v := 0) hx hb (g_dech k_i71_ok rfl) (by decide) ?_
  refine va_put (D := D) (ci := 3) (v := .int 0) (ty := .int) (C := g_R3) (T := g_T3) (N := 6) hx hb hts g_in3 g_ty3 g_tyok3 g_nm3 hown hK hP hD hS 0 rfl rfl 0 (by decide) (hts (.fieldLink g_R3 9 "PropellantGauge$Ledger" "count" "I") i_w185) (fun _ h9 => h9) rfl (by decide +kernel) rfl rfl (Nat.le_of_ble_eq_true rfl) (g_dech k_i71_ok rfl) (fun H locs hP hD hS => ?_)
  have hP : va_P D g_cls [(h0, .inr (3, [.int 0, .int 0, .null, .null, .null, .null]))] H := hP
  have hD : va_D A [(h0, .inr (3, [.int 0, .int 0, .null, .null, .null, .null]))] := hD
  refine lv_aload_n hx hb (g_dech k_i71_ok rfl) rfl (lv_at hl 0 rfl) ?_
  refine lv_bipush (v := 23) hx hb (g_dech k_i71_ok rfl) (by decide) ?_
  refine va_put (D := D) (ci := 3) (v := .int 23) (ty := .int) (C := g_R3) (T := g_T3) (N := 6) hx hb hts g_in3 g_ty3 g_tyok3 g_nm3 hown hK hP hD hS 0 rfl rfl 1 (by decide) (hts (.fieldLink g_R3 15 "PropellantGauge$Ledger" "latest" "I") i_w187) (fun _ h9 => h9) rfl (by decide +kernel) rfl rfl (Nat.le_of_ble_eq_true rfl) (g_dech k_i71_ok rfl) (fun H locs hP hD hS => ?_)
  have hP : va_P D g_cls [(h0, .inr (3, [.int 0, .int 23, .null, .null, .null, .null]))] H := hP
  have hD : va_D A [(h0, .inr (3, [.int 0, .int 23, .null, .null, .null, .null]))] := hD
  refine lv_aload_n hx hb (g_dech k_i71_ok rfl) rfl (lv_at hl 0 rfl) ?_
  refine lv_bipush (v := 24) hx hb (g_dech k_i71_ok rfl) (by decide) ?_
  refine i_newa (atype := .int) (a0 := (24, .inl (fun _ => 0))) (cX := cI) hx hb (hts (.arrayClass .int) i_w95) rfl hK hP hD hS hA 0 rfl (fun _ => rfl) (by decide) (N' := 24) rfl (Nat.le_of_ble_eq_true rfl) (Nat.le_of_ble_eq_true rfl) (Nat.le_of_ble_eq_true rfl) (g_dech k_i71_ok rfl) (fun q1 H hP hD hS => ?_)
  have hP : va_P D g_cls [(h0, .inr (3, [.int 0, .int 23, .null, .null, .null, .null])), (q1, .inl (cI, 24, .inl (fun _ => 0)))] H := hP
  have hD : va_D A [(h0, .inr (3, [.int 0, .int 23, .null, .null, .null, .null])), (q1, .inl (cI, 24, .inl (fun _ => 0)))] := hD
  refine W.widen (k := 1) (n := 24) (Nat.le_of_ble_eq_true rfl) (Nat.le_of_ble_eq_true rfl) ?_
  refine va_putF (D := D) (ci := 3) (v := .ref q1) (ty := .array .int) (C := g_R3) (T := g_T3) (N := 6) hx hb hts g_in3 g_ty3 g_tyok3 g_nm3 hown hK hP hD hS 0 rfl rfl 2 (by decide) (hts (.fieldLink g_R3 18 "PropellantGauge$Ledger" "times" "[I") i_w188) (fun _ h9 => h9) rfl hin rfl (by decide +kernel) rfl rfl (Nat.le_of_ble_eq_true rfl) (g_dech k_i71_ok rfl) (fun H locs hP hD hS => ?_)
  have hP : va_P D g_cls [(h0, .inr (3, [.int 0, .int 23, .ref q1, .null, .null, .null])), (q1, .inl (cI, 24, .inl (fun _ => 0)))] H := hP
  have hD : va_D A [(h0, .inr (3, [.int 0, .int 23, .ref q1, .null, .null, .null])), (q1, .inl (cI, 24, .inl (fun _ => 0)))] := hD
  refine lv_aload_n hx hb (g_dech k_i71_ok rfl) rfl (lv_at hl 0 rfl) ?_
  refine lv_bipush (v := 24) hx hb (g_dech k_i71_ok rfl) (by decide) ?_
  refine i_newa (atype := .int) (a0 := (24, .inl (fun _ => 0))) (cX := cI) hx hb (hts (.arrayClass .int) i_w95) rfl hK hP hD hS hA 0 rfl (fun _ => rfl) (by decide) (N' := 24) rfl (Nat.le_of_ble_eq_true rfl) (Nat.le_of_ble_eq_true rfl) (Nat.le_of_ble_eq_true rfl) (g_dech k_i71_ok rfl) (fun q2 H hP hD hS => ?_)
  have hP : va_P D g_cls [(h0, .inr (3, [.int 0, .int 23, .ref q1, .null, .null, .null])), (q1, .inl (cI, 24, .inl (fun _ => 0))), (q2, .inl (cI, 24, .inl (fun _ => 0)))] H := hP
  have hD : va_D A [(h0, .inr (3, [.int 0, .int 23, .ref q1, .null, .null, .null])), (q1, .inl (cI, 24, .inl (fun _ => 0))), (q2, .inl (cI, 24, .inl (fun _ => 0)))] := hD
  refine W.widen (k := 2) (n := 48) (Nat.le_of_ble_eq_true rfl) (Nat.le_of_ble_eq_true rfl) ?_
  refine va_putF (D := D) (ci := 3) (v := .ref q2) (ty := .array .int) (C := g_R3) (T := g_T3) (N := 6) hx hb hts g_in3 g_ty3 g_tyok3 g_nm3 hown hK hP hD hS 0 rfl rfl 3 (by decide) (hts (.fieldLink g_R3 22 "PropellantGauge$Ledger" "kinds" "[I") i_w189) (fun _ h9 => h9) rfl hin rfl (by decide +kernel) rfl rfl (Nat.le_of_ble_eq_true rfl) (g_dech k_i71_ok rfl) (fun H locs hP hD hS => ?_)
  have hP : va_P D g_cls [(h0, .inr (3, [.int 0, .int 23, .ref q1, .ref q2, .null, .null])), (q1, .inl (cI, 24, .inl (fun _ => 0))), (q2, .inl (cI, 24, .inl (fun _ => 0)))] H := hP
  have hD : va_D A [(h0, .inr (3, [.int 0, .int 23, .ref q1, .ref q2, .null, .null])), (q1, .inl (cI, 24, .inl (fun _ => 0))), (q2, .inl (cI, 24, .inl (fun _ => 0)))] := hD
  refine lv_aload_n hx hb (g_dech k_i71_ok rfl) rfl (lv_at hl 0 rfl) ?_
  refine lv_bipush (v := 24) hx hb (g_dech k_i71_ok rfl) (by decide) ?_
  refine i_newa (atype := .int) (a0 := (24, .inl (fun _ => 0))) (cX := cI) hx hb (hts (.arrayClass .int) i_w95) rfl hK hP hD hS hA 0 rfl (fun _ => rfl) (by decide) (N' := 24) rfl (Nat.le_of_ble_eq_true rfl) (Nat.le_of_ble_eq_true rfl) (Nat.le_of_ble_eq_true rfl) (g_dech k_i71_ok rfl) (fun q3 H hP hD hS => ?_)
  have hP : va_P D g_cls [(h0, .inr (3, [.int 0, .int 23, .ref q1, .ref q2, .null, .null])), (q1, .inl (cI, 24, .inl (fun _ => 0))), (q2, .inl (cI, 24, .inl (fun _ => 0))), (q3, .inl (cI, 24, .inl (fun _ => 0)))] H := hP
  have hD : va_D A [(h0, .inr (3, [.int 0, .int 23, .ref q1, .ref q2, .null, .null])), (q1, .inl (cI, 24, .inl (fun _ => 0))), (q2, .inl (cI, 24, .inl (fun _ => 0))), (q3, .inl (cI, 24, .inl (fun _ => 0)))] := hD
  refine W.widen (k := 3) (n := 72) (Nat.le_of_ble_eq_true rfl) (Nat.le_of_ble_eq_true rfl) ?_
  refine va_putF (D := D) (ci := 3) (v := .ref q3) (ty := .array .int) (C := g_R3) (T := g_T3) (N := 6) hx hb hts g_in3 g_ty3 g_tyok3 g_nm3 hown hK hP hD hS 0 rfl rfl 4 (by decide) (hts (.fieldLink g_R3 25 "PropellantGauge$Ledger" "tanks" "[I") i_w190) (fun _ h9 => h9) rfl hin rfl (by decide +kernel) rfl rfl (Nat.le_of_ble_eq_true rfl) (g_dech k_i71_ok rfl) (fun H locs hP hD hS => ?_)
  have hP : va_P D g_cls [(h0, .inr (3, [.int 0, .int 23, .ref q1, .ref q2, .ref q3, .null])), (q1, .inl (cI, 24, .inl (fun _ => 0))), (q2, .inl (cI, 24, .inl (fun _ => 0))), (q3, .inl (cI, 24, .inl (fun _ => 0)))] H := hP
  have hD : va_D A [(h0, .inr (3, [.int 0, .int 23, .ref q1, .ref q2, .ref q3, .null])), (q1, .inl (cI, 24, .inl (fun _ => 0))), (q2, .inl (cI, 24, .inl (fun _ => 0))), (q3, .inl (cI, 24, .inl (fun _ => 0)))] := hD
  refine lv_aload_n hx hb (g_dech k_i71_ok rfl) rfl (lv_at hl 0 rfl) ?_
  refine lv_bipush (v := 24) hx hb (g_dech k_i71_ok rfl) (by decide) ?_
  refine i_newa (atype := .long) (a0 := (24, .inr (.inl (fun _ => 0)))) (cX := cJ) hx hb (hts (.arrayClass .long) i_w96) rfl hK hP hD hS hA 2 rfl (fun _ => rfl) (by decide) (N' := 24) rfl (Nat.le_of_ble_eq_true rfl) (Nat.le_of_ble_eq_true rfl) (Nat.le_of_ble_eq_true rfl) (g_dech k_i71_ok rfl) (fun q4 H hP hD hS => ?_)
  have hP : va_P D g_cls [(h0, .inr (3, [.int 0, .int 23, .ref q1, .ref q2, .ref q3, .null])), (q1, .inl (cI, 24, .inl (fun _ => 0))), (q2, .inl (cI, 24, .inl (fun _ => 0))), (q3, .inl (cI, 24, .inl (fun _ => 0))), (q4, .inl (cJ, 24, .inr (.inl (fun _ => 0))))] H := hP
  have hD : va_D A [(h0, .inr (3, [.int 0, .int 23, .ref q1, .ref q2, .ref q3, .null])), (q1, .inl (cI, 24, .inl (fun _ => 0))), (q2, .inl (cI, 24, .inl (fun _ => 0))), (q3, .inl (cI, 24, .inl (fun _ => 0))), (q4, .inl (cJ, 24, .inr (.inl (fun _ => 0))))] := hD
  refine W.widen (k := 4) (n := 96) (Nat.le_of_ble_eq_true rfl) (Nat.le_of_ble_eq_true rfl) ?_
  refine va_putF (D := D) (ci := 3) (v := .ref q4) (ty := .array .long) (C := g_R3) (T := g_T3) (N := 6) hx hb hts g_in3 g_ty3 g_tyok3 g_nm3 hown hK hP hD hS 0 rfl rfl 5 (by decide) (hts (.fieldLink g_R3 28 "PropellantGauge$Ledger" "amounts" "[J") i_w191) (fun _ h9 => h9) rfl hin rfl (by decide +kernel) rfl rfl (Nat.le_of_ble_eq_true rfl) (g_dech k_i71_ok rfl) (fun H locs hP hD hS => ?_)
  have hP : va_P D g_cls [(h0, .inr (3, [.int 0, .int 23, .ref q1, .ref q2, .ref q3, .ref q4])), (q1, .inl (cI, 24, .inl (fun _ => 0))), (q2, .inl (cI, 24, .inl (fun _ => 0))), (q3, .inl (cI, 24, .inl (fun _ => 0))), (q4, .inl (cJ, 24, .inr (.inl (fun _ => 0))))] H := hP
  have hD : va_D A [(h0, .inr (3, [.int 0, .int 23, .ref q1, .ref q2, .ref q3, .ref q4])), (q1, .inl (cI, 24, .inl (fun _ => 0))), (q2, .inl (cI, 24, .inl (fun _ => 0))), (q3, .inl (cI, 24, .inl (fun _ => 0))), (q4, .inl (cJ, 24, .inr (.inl (fun _ => 0))))] := hD
  have hP9 := hP.sub (ws' := jl_L cI cC cJ cR h0 (fun i => [h0, q1, q2, q3, q4].getD i 0)) [0, 1, 2, 3, 4] rfl
  have hD9 := hD.sub (ws' := jl_L cI cC cJ cR h0 (fun i => [h0, q1, q2, q3, q4].getD i 0)) [0, 1, 2, 3, 4] (by decide) rfl
  exact W.vret hx hb hr (fun t ht hW => ⟨⟨fun i => [h0, q1, q2, q3, q4].getD i 0, rfl, trivial, by rw [ht]; exact hP9, va_K.moved hW.alike hK, hD9⟩, hS.F ht⟩) hS.2.2 (g_dech k_i71_ok rfl)
abbrev jl_X (cI cC cJ cR : ClassId) (h0 : Nat) (u : Nat → Nat) : va_W := [(h0, .inr (0, [.int 0, .int 0, .int 0, .int 0, .int 0, .int 0, .ref (u 1)])), ((u 1), .inl (cC, 100, .inl (fun _ => 0)))]
def k_i38 : List (Nat × Instr × Nat) := [(0, .aload_n 0, 1), (1, .invokespecial 3, 3), (4, .aload_n 0, 1), (5, .iconst 0, 1), (6, .putfield 9, 3), (9, .aload_n 0, 1), (10, .iconst 0, 1), (11, .putfield 15, 3), (14, .aload_n 0, 1), (15, .iconst 0, 1), (16, .putfield 18, 3), (19, .aload_n 0, 1), (20, .iconst 0, 1), (21, .putfield 21, 3), (24, .aload_n 0, 1), (25, .iconst 0, 1), (26, .putfield 24, 3), (29, .aload_n 0, 1), (30, .iconst 0, 1), (31, .putfield 27, 3), (34, .aload_n 0, 1), (35, .bipush 100, 2), (37, .newarray .char, 2), (39, .putfield 30, 3), (42, .return_, 1)]
theorem k_i38_ok : k_i38.all (g_chd (g_B 38)) = true := by decide +kernel
set_option maxHeartbeats 4000000 in
set_option maxRecDepth 100000 in
theorem i_X (l : Launch) (D : va_G) (cI cC cJ cR : ClassId) (h0 sz : Nat) : Met l (g_Y 38) (g_cw 38 :: g_T) ({ frames := 1, cells := 1, slots := 100, locals := 20 }) (va_Pc [.ref h0] (fun U => U.heap.size = sz ∧ va_P D g_cls [(h0, .inr (0, [.int 0, .int 0, .int 0, .int 0, .int 0, .int 0, .null]))] U.heap ∧ va_K D g_cls (i_tys cI cC cJ cR) U ∧ va_D (fun _ => True) [(h0, .inr (0, [.int 0, .int 0, .int 0, .int 0, .int 0, .int 0, .null]))] ∧ va_AO g_R4 U)) (va_Qv (fun _ : Nat → Nat => True) (fun u t => va_P D g_cls (jl_X cI cC cJ cR h0 u) t.heap ∧ va_K D g_cls (i_tys cI cC cJ cR) t ∧ va_D (va_A [(h0, .inr (0, [.int 0, .int 0, .int 0, .int 0, .int 0, .int 0, .null]))] sz) (jl_X cI cC cJ cR h0 u)) (va_A [(h0, .inr (0, [.int 0, .int 0, .int 0, .int 0, .int 0, .int 0, .null]))] sz)) 1 100 (va_A [(h0, .inr (0, [.int 0, .int 0, .int 0, .int 0, .int 0, .int 0, .null]))] sz) := by
  refine m_ofW (cc := g_B 38) (maxL := 1) (ret := none) (g_plain 38 (by decide)).1 rfl ?_
  intro p e s m args below meth c s₁ B hml hv
  obtain ⟨rfl, hsz, hP, hK, hD0, hov⟩ := hv
  have hx := B.exec
  have hb := B.bytes
  have hr := B.returns
  have hts0 := atoms_spec (ws := g_cw 38 :: g_T) B.pre
  have hts : ∀ w ∈ g_T, w.before _ s = true := fun w h => hts0 w (List.mem_cons_of_mem _ h)
  have hown : s.vm.findClass g_R0 = some m.cls := findClass_of_methodNamed B.named
  have hin : meth.name = "<init>" := (name_of_methodNamed B.named B.method).1
  subst hsz
  have hD := hD0.self (sz := s.heap.size)
  generalize hAe : va_A [(h0, .inr (0, [.int 0, .int 0, .int 0, .int 0, .int 0, .int 0, .null]))] s.heap.size = A at hD ⊢
  have hA : ∀ q : Nat, s.heap.size ≤ q → A q := fun q h => by rw [← hAe]; exact Or.inr h
  have hS : va_S A s.heap s.heap [] := va_S.rf
  have hP : va_P D g_cls [(h0, .inr (0, [.int 0, .int 0, .int 0, .int 0, .int 0, .int 0, .null]))] s.heap := hP
  have hl := lv_entry ([.ref h0]) (n := 1) (Nat.le_of_ble_eq_true rfl)
  rw [lg_entry_eq]
  generalize (lg_sl ([.ref h0]) ++ List.replicate (1 - (lg_sl ([.ref h0])).length) Slot.unset).toArray = ls at hl ⊢
  have hl : lv_has ls 1 [(0, .ref h0)] := hl
  refine lv_aload_n hx hb (g_dech k_i38_ok rfl) rfl (lv_at hl 0 rfl) ?_
  refine W.objInit hx hb hown (hts (.methodLink g_R0 3 objectInit) i_w256) (hts (.instanceMethod objectInit) i_w61) (hts _ i_w62) rfl (by rw [hml]; exact hl.1) rfl (g_dech k_i38_ok rfl) (Nat.le_of_ble_eq_true rfl) (Nat.le_of_ble_eq_true rfl) ?_
  refine W.eq (g2 := F0 m 4 ls []) rfl ?_
  refine lv_aload_n hx hb (g_dech k_i38_ok rfl) rfl (lv_at hl 0 rfl) ?_
  refine lv_iconst (v := 0) hx hb (g_dech k_i38_ok rfl) (by decide) ?_
  refine va_put (D := D) (ci := 0) (v := .int 0) (ty := .int) (C := g_R0) (T := g_T0) (N := 7) hx hb hts g_in0 g_ty0 g_tyok0 g_nm0 hown hK hP hD hS 0 rfl rfl 0 (by decide) (hts (.fieldLink g_R0 9 "PropellantGauge$CommandText" "length" "I") i_w257) (fun _ h9 => h9) rfl (by decide +kernel) rfl rfl (Nat.le_of_ble_eq_true rfl) (g_dech k_i38_ok rfl) (fun H locs hP hD hS => ?_)
  have hP : va_P D g_cls [(h0, .inr (0, [.int 0, .int 0, .int 0, .int 0, .int 0, .int 0, .null]))] H := hP
  have hD : va_D A [(h0, .inr (0, [.int 0, .int 0, .int 0, .int 0, .int 0, .int 0, .null]))] := hD
  refine lv_aload_n hx hb (g_dech k_i38_ok rfl) rfl (lv_at hl 0 rfl) ?_
  refine lv_iconst (v := 0) hx hb (g_dech k_i38_ok rfl) (by decide) ?_
  refine va_put (D := D) (ci := 0) (v := .int 0) (ty := .int) (C := g_R0) (T := g_T0) (N := 7) hx hb hts g_in0 g_ty0 g_tyok0 g_nm0 hown hK hP hD hS 0 rfl rfl 1 (by decide) (hts (.fieldLink g_R0 15 "PropellantGauge$CommandText" "at" "I") i_w259) (fun _ h9 => h9) rfl (by decide +kernel) rfl rfl (Nat.le_of_ble_eq_true rfl) (g_dech k_i38_ok rfl) (fun H locs hP hD hS => ?_)
  have hP : va_P D g_cls [(h0, .inr (0, [.int 0, .int 0, .int 0, .int 0, .int 0, .int 0, .null]))] H := hP
  have hD : va_D A [(h0, .inr (0, [.int 0, .int 0, .int 0, .int 0, .int 0, .int 0, .null]))] := hD
  refine lv_aload_n hx hb (g_dech k_i38_ok rfl) rfl (lv_at hl 0 rfl) ?_
  refine lv_iconst (v := 0) hx hb (g_dech k_i38_ok rfl) (by decide) ?_
  refine va_put (D := D) (ci := 0) (v := .int 0) (ty := .int) (C := g_R0) (T := g_T0) (N := 7) hx hb hts g_in0 g_ty0 g_tyok0 g_nm0 hown hK hP hD hS 0 rfl rfl 2 (by decide) (hts (.fieldLink g_R0 18 "PropellantGauge$CommandText" "command" "I") i_w261) (fun _ h9 => h9) rfl (by decide +kernel) rfl rfl (Nat.le_of_ble_eq_true rfl) (g_dech k_i38_ok rfl) (fun H locs hP hD hS => ?_)
  have hP : va_P D g_cls [(h0, .inr (0, [.int 0, .int 0, .int 0, .int 0, .int 0, .int 0, .null]))] H := hP
  have hD : va_D A [(h0, .inr (0, [.int 0, .int 0, .int 0, .int 0, .int 0, .int 0, .null]))] := hD
  refine lv_aload_n hx hb (g_dech k_i38_ok rfl) rfl (lv_at hl 0 rfl) ?_
  refine lv_iconst (v := 0) hx hb (g_dech k_i38_ok rfl) (by decide) ?_
  refine va_put (D := D) (ci := 0) (v := .int 0) (ty := .int) (C := g_R0) (T := g_T0) (N := 7) hx hb hts g_in0 g_ty0 g_tyok0 g_nm0 hown hK hP hD hS 0 rfl rfl 3 (by decide) (hts (.fieldLink g_R0 21 "PropellantGauge$CommandText" "name" "I") i_w263) (fun _ h9 => h9) rfl (by decide +kernel) rfl rfl (Nat.le_of_ble_eq_true rfl) (g_dech k_i38_ok rfl) (fun H locs hP hD hS => ?_)
  have hP : va_P D g_cls [(h0, .inr (0, [.int 0, .int 0, .int 0, .int 0, .int 0, .int 0, .null]))] H := hP
  have hD : va_D A [(h0, .inr (0, [.int 0, .int 0, .int 0, .int 0, .int 0, .int 0, .null]))] := hD
  refine lv_aload_n hx hb (g_dech k_i38_ok rfl) rfl (lv_at hl 0 rfl) ?_
  refine lv_iconst (v := 0) hx hb (g_dech k_i38_ok rfl) (by decide) ?_
  refine va_put (D := D) (ci := 0) (v := .int 0) (ty := .int) (C := g_R0) (T := g_T0) (N := 7) hx hb hts g_in0 g_ty0 g_tyok0 g_nm0 hown hK hP hD hS 0 rfl rfl 4 (by decide) (hts (.fieldLink g_R0 24 "PropellantGauge$CommandText" "tank" "I") i_w265) (fun _ h9 => h9) rfl (by decide +kernel) rfl rfl (Nat.le_of_ble_eq_true rfl) (g_dech k_i38_ok rfl) (fun H locs hP hD hS => ?_)
  have hP : va_P D g_cls [(h0, .inr (0, [.int 0, .int 0, .int 0, .int 0, .int 0, .int 0, .null]))] H := hP
  have hD : va_D A [(h0, .inr (0, [.int 0, .int 0, .int 0, .int 0, .int 0, .int 0, .null]))] := hD
  refine lv_aload_n hx hb (g_dech k_i38_ok rfl) rfl (lv_at hl 0 rfl) ?_
  refine lv_iconst (v := 0) hx hb (g_dech k_i38_ok rfl) (by decide) ?_
  refine va_put (D := D) (ci := 0) (v := .int 0) (ty := .int) (C := g_R0) (T := g_T0) (N := 7) hx hb hts g_in0 g_ty0 g_tyok0 g_nm0 hown hK hP hD hS 0 rfl rfl 5 (by decide) (hts (.fieldLink g_R0 27 "PropellantGauge$CommandText" "number" "I") i_w267) (fun _ h9 => h9) rfl (by decide +kernel) rfl rfl (Nat.le_of_ble_eq_true rfl) (g_dech k_i38_ok rfl) (fun H locs hP hD hS => ?_)
  have hP : va_P D g_cls [(h0, .inr (0, [.int 0, .int 0, .int 0, .int 0, .int 0, .int 0, .null]))] H := hP
  have hD : va_D A [(h0, .inr (0, [.int 0, .int 0, .int 0, .int 0, .int 0, .int 0, .null]))] := hD
  refine lv_aload_n hx hb (g_dech k_i38_ok rfl) rfl (lv_at hl 0 rfl) ?_
  refine lv_bipush (v := 100) hx hb (g_dech k_i38_ok rfl) (by decide) ?_
  refine i_newa (atype := .char) (a0 := (100, .inl (fun _ => 0))) (cX := cC) hx hb (hts (.arrayClass .char) i_w285) rfl hK hP hD hS hA 1 rfl (fun _ => rfl) (by decide) (N' := 100) rfl (Nat.le_of_ble_eq_true rfl) (Nat.le_of_ble_eq_true rfl) (Nat.le_of_ble_eq_true rfl) (g_dech k_i38_ok rfl) (fun q1 H hP hD hS => ?_)
  have hP : va_P D g_cls [(h0, .inr (0, [.int 0, .int 0, .int 0, .int 0, .int 0, .int 0, .null])), (q1, .inl (cC, 100, .inl (fun _ => 0)))] H := hP
  have hD : va_D A [(h0, .inr (0, [.int 0, .int 0, .int 0, .int 0, .int 0, .int 0, .null])), (q1, .inl (cC, 100, .inl (fun _ => 0)))] := hD
  refine W.widen (k := 1) (n := 100) (Nat.le_of_ble_eq_true rfl) (Nat.le_of_ble_eq_true rfl) ?_
  refine va_putF (D := D) (ci := 0) (v := .ref q1) (ty := .array .char) (C := g_R0) (T := g_T0) (N := 7) hx hb hts g_in0 g_ty0 g_tyok0 g_nm0 hown hK hP hD hS 0 rfl rfl 6 (by decide) (hts (.fieldLink g_R0 30 "PropellantGauge$CommandText" "characters" "[C") i_w269) (fun _ h9 => h9) rfl hin rfl (by decide +kernel) rfl rfl (Nat.le_of_ble_eq_true rfl) (g_dech k_i38_ok rfl) (fun H locs hP hD hS => ?_)
  have hP : va_P D g_cls [(h0, .inr (0, [.int 0, .int 0, .int 0, .int 0, .int 0, .int 0, .ref q1])), (q1, .inl (cC, 100, .inl (fun _ => 0)))] H := hP
  have hD : va_D A [(h0, .inr (0, [.int 0, .int 0, .int 0, .int 0, .int 0, .int 0, .ref q1])), (q1, .inl (cC, 100, .inl (fun _ => 0)))] := hD
  have hP9 := hP.sub (ws' := jl_X cI cC cJ cR h0 (fun i => [h0, q1].getD i 0)) [0, 1] rfl
  have hD9 := hD.sub (ws' := jl_X cI cC cJ cR h0 (fun i => [h0, q1].getD i 0)) [0, 1] (by decide) rfl
  exact W.vret hx hb hr (fun t ht hW => ⟨⟨fun i => [h0, q1].getD i 0, rfl, trivial, by rw [ht]; exact hP9, va_K.moved hW.alike hK, hD9⟩, hS.F ht⟩) hS.2.2 (g_dech k_i38_ok rfl)
