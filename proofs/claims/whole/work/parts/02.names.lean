def g_R0 : String := "PropellantGauge$CommandText"
def g_T0 : u_T := fun k => match k with
  | 0 => ("PropellantGauge$CommandText", "length", "I", false)
  | 1 => ("PropellantGauge$CommandText", "at", "I", false)
  | 2 => ("PropellantGauge$CommandText", "command", "I", false)
  | 3 => ("PropellantGauge$CommandText", "name", "I", false)
  | 4 => ("PropellantGauge$CommandText", "tank", "I", false)
  | 5 => ("PropellantGauge$CommandText", "number", "I", false)
  | _ => ("PropellantGauge$CommandText", "characters", "[C", true)
def g_ty0 : Nat → FieldType := fun k => match k with
  | 0 => .int
  | 1 => .int
  | 2 => .int
  | 3 => .int
  | 4 => .int
  | 5 => .int
  | _ => .array .char
theorem g_nm0 : ∀ a, a < 7 → ∀ b, b < 7 → a ≠ b → (g_T0 a).2.1 ≠ (g_T0 b).2.1 := by decide +kernel
theorem g_tyok0 : ∀ k, k < 7 → parseFieldDescriptor (g_T0 k).2.2.1 = some (g_ty0 k) := by decide +kernel
theorem g_in0 : ∀ w ∈ u_ws g_R0 g_T0 7, w ∈ g_T := g_memL [270, 272, 274, 276, 278, 280, 282] (by decide +kernel) (by decide +kernel)
def g_R1 : String := "PropellantGauge$Craft"
def g_T1 : u_T := fun k => match k with
  | 0 => ("PropellantGauge$Craft", "tanks", "LPropellantGauge$Tanks;", true)
  | 1 => ("PropellantGauge$Craft", "engines", "LPropellantGauge$Engines;", true)
  | 2 => ("PropellantGauge$Craft", "ledger", "LPropellantGauge$Ledger;", true)
  | 3 => ("PropellantGauge$Craft", "now", "I", false)
  | 4 => ("PropellantGauge$Craft", "settlingTime", "I", false)
  | 5 => ("PropellantGauge$Craft", "gate", "I", false)
  | 6 => ("PropellantGauge$Craft", "margin", "I", false)
  | 7 => ("PropellantGauge$Craft", "burning", "I", false)
  | 8 => ("PropellantGauge$Craft", "starved", "Z", false)
  | 9 => ("PropellantGauge$Craft", "burnStart", "I", false)
  | 10 => ("PropellantGauge$Craft", "burnShares", "[J", true)
  | _ => ("PropellantGauge$Craft", "stepShares", "[J", true)
def g_ty1 : Nat → FieldType := fun k => match k with
  | 0 => .object "PropellantGauge$Tanks"
  | 1 => .object "PropellantGauge$Engines"
  | 2 => .object "PropellantGauge$Ledger"
  | 3 => .int
  | 4 => .int
  | 5 => .int
  | 6 => .int
  | 7 => .int
  | 8 => .boolean
  | 9 => .int
  | 10 => .array .long
  | _ => .array .long
theorem g_nm1 : ∀ a, a < 12 → ∀ b, b < 12 → a ≠ b → (g_T1 a).2.1 ≠ (g_T1 b).2.1 := by decide +kernel
theorem g_tyok1 : ∀ k, k < 12 → parseFieldDescriptor (g_T1 k).2.2.1 = some (g_ty1 k) := by decide +kernel
theorem g_in1 : ∀ w ∈ u_ws g_R1 g_T1 12, w ∈ g_T := g_memL [226, 228, 230, 232, 234, 236, 238, 240, 242, 244, 246, 248] (by decide +kernel) (by decide +kernel)
def g_R2 : String := "PropellantGauge$Engines"
def g_T2 : u_T := fun k => match k with
  | 0 => ("PropellantGauge$Engines", "count", "I", false)
  | 1 => ("PropellantGauge$Engines", "names", "[I", true)
  | 2 => ("PropellantGauge$Engines", "flow", "[I", true)
  | 3 => ("PropellantGauge$Engines", "uncertainty", "[I", true)
  | 4 => ("PropellantGauge$Engines", "open", "[I", true)
  | 5 => ("PropellantGauge$Engines", "bookedSum", "[J", true)
  | _ => ("PropellantGauge$Engines", "deliveredSum", "[J", true)
def g_ty2 : Nat → FieldType := fun k => match k with
  | 0 => .int
  | 1 => .array .int
  | 2 => .array .int
  | 3 => .array .int
  | 4 => .array .int
  | 5 => .array .long
  | _ => .array .long
theorem g_nm2 : ∀ a, a < 7 → ∀ b, b < 7 → a ≠ b → (g_T2 a).2.1 ≠ (g_T2 b).2.1 := by decide +kernel
theorem g_tyok2 : ∀ k, k < 7 → parseFieldDescriptor (g_T2 k).2.2.1 = some (g_ty2 k) := by decide +kernel
theorem g_in2 : ∀ w ∈ u_ws g_R2 g_T2 7, w ∈ g_T := g_memL [164, 166, 168, 170, 172, 174, 176] (by decide +kernel) (by decide +kernel)
def g_R3 : String := "PropellantGauge$Ledger"
def g_T3 : u_T := fun k => match k with
  | 0 => ("PropellantGauge$Ledger", "count", "I", false)
  | 1 => ("PropellantGauge$Ledger", "latest", "I", false)
  | 2 => ("PropellantGauge$Ledger", "times", "[I", true)
  | 3 => ("PropellantGauge$Ledger", "kinds", "[I", true)
  | 4 => ("PropellantGauge$Ledger", "tanks", "[I", true)
  | _ => ("PropellantGauge$Ledger", "amounts", "[J", true)
def g_ty3 : Nat → FieldType := fun k => match k with
  | 0 => .int
  | 1 => .int
  | 2 => .array .int
  | 3 => .array .int
  | 4 => .array .int
  | _ => .array .long
theorem g_nm3 : ∀ a, a < 6 → ∀ b, b < 6 → a ≠ b → (g_T3 a).2.1 ≠ (g_T3 b).2.1 := by decide +kernel
theorem g_tyok3 : ∀ k, k < 6 → parseFieldDescriptor (g_T3 k).2.2.1 = some (g_ty3 k) := by decide +kernel
theorem g_in3 : ∀ w ∈ u_ws g_R3 g_T3 6, w ∈ g_T := g_memL [192, 194, 196, 198, 200, 202] (by decide +kernel) (by decide +kernel)
def g_R4 : String := "PropellantGauge$LevelTable"
def g_T4 : u_T := fun k => match k with
  | 0 => ("PropellantGauge$LevelTable", "count", "I", false)
  | 1 => ("PropellantGauge$LevelTable", "levels", "[I", true)
  | _ => ("PropellantGauge$LevelTable", "volumes", "[I", true)
def g_ty4 : Nat → FieldType := fun k => match k with
  | 0 => .int
  | 1 => .array .int
  | _ => .array .int
theorem g_nm4 : ∀ a, a < 3 → ∀ b, b < 3 → a ≠ b → (g_T4 a).2.1 ≠ (g_T4 b).2.1 := by decide +kernel
theorem g_tyok4 : ∀ k, k < 3 → parseFieldDescriptor (g_T4 k).2.2.1 = some (g_ty4 k) := by decide +kernel
theorem g_in4 : ∀ w ∈ u_ws g_R4 g_T4 3, w ∈ g_T := g_memL [88, 90, 92] (by decide +kernel) (by decide +kernel)
def g_R5 : String := "PropellantGauge$Tanks"
def g_T5 : u_T := fun k => match k with
  | 0 => ("PropellantGauge$Tanks", "count", "I", false)
  | 1 => ("PropellantGauge$Tanks", "density", "[I", true)
  | 2 => ("PropellantGauge$Tanks", "residual", "[I", true)
  | 3 => ("PropellantGauge$Tanks", "leak", "[I", true)
  | 4 => ("PropellantGauge$Tanks", "trueMass", "[J", true)
  | 5 => ("PropellantGauge$Tanks", "booked", "[J", true)
  | 6 => ("PropellantGauge$Tanks", "estimate", "[J", true)
  | 7 => ("PropellantGauge$Tanks", "variance", "[J", true)
  | 8 => ("PropellantGauge$Tanks", "gaugeVariance", "[J", true)
  | _ => ("PropellantGauge$Tanks", "tables", "[LPropellantGauge$LevelTable;", true)
def g_ty5 : Nat → FieldType := fun k => match k with
  | 0 => .int
  | 1 => .array .int
  | 2 => .array .int
  | 3 => .array .int
  | 4 => .array .long
  | 5 => .array .long
  | 6 => .array .long
  | 7 => .array .long
  | 8 => .array .long
  | _ => .array (.object "PropellantGauge$LevelTable")
theorem g_nm5 : ∀ a, a < 10 → ∀ b, b < 10 → a ≠ b → (g_T5 a).2.1 ≠ (g_T5 b).2.1 := by decide +kernel
theorem g_tyok5 : ∀ k, k < 10 → parseFieldDescriptor (g_T5 k).2.2.1 = some (g_ty5 k) := by decide +kernel
theorem g_in5 : ∀ w ∈ u_ws g_R5 g_T5 10, w ∈ g_T := g_memL [122, 124, 126, 128, 130, 132, 134, 136, 138, 140] (by decide +kernel) (by decide +kernel)
def g_R6 : String := "PropellantGauge"
def g_T6 : u_T := fun k => match k with
  | 0 => ("PropellantGauge", "craft", "LPropellantGauge$Craft;", true)
  | 1 => ("PropellantGauge", "rehearsal", "LPropellantGauge$Craft;", true)
  | 2 => ("PropellantGauge", "text", "LPropellantGauge$CommandText;", true)
  | 3 => ("PropellantGauge", "bufferedName", "I", false)
  | _ => ("PropellantGauge", "bufferedLetters", "I", false)
def g_ty6 : Nat → FieldType := fun k => match k with
  | 0 => .object "PropellantGauge$Craft"
  | 1 => .object "PropellantGauge$Craft"
  | 2 => .object "PropellantGauge$CommandText"
  | 3 => .int
  | _ => .int
theorem g_nm6 : ∀ a, a < 5 → ∀ b, b < 5 → a ≠ b → (g_T6 a).2.1 ≠ (g_T6 b).2.1 := by decide +kernel
theorem g_tyok6 : ∀ k, k < 5 → parseFieldDescriptor (g_T6 k).2.2.1 = some (g_ty6 k) := by decide +kernel
theorem g_in6 : ∀ w ∈ u_ws g_R6 g_T6 5, w ∈ g_T := g_memL [291, 293, 295, 297, 299] (by decide +kernel) (by decide +kernel)
def g_R7 : String := "PropellantGaugeModel"
def g_T7 : u_T := fun k => match k with
  | 0 => ("PropellantGaugeModel", "now", "[J", true)
  | 1 => ("PropellantGaugeModel", "aside", "[J", true)
  | 2 => ("PropellantGaugeModel", "tanks", "I", false)
  | 3 => ("PropellantGaugeModel", "density", "[J", true)
  | 4 => ("PropellantGaugeModel", "residual", "[J", true)
  | 5 => ("PropellantGaugeModel", "gauging", "[J", true)
  | 6 => ("PropellantGaugeModel", "leak", "[I", true)
  | 7 => ("PropellantGaugeModel", "points", "[I", true)
  | 8 => ("PropellantGaugeModel", "levels", "[I", true)
  | 9 => ("PropellantGaugeModel", "volumes", "[I", true)
  | 10 => ("PropellantGaugeModel", "engines", "I", false)
  | 11 => ("PropellantGaugeModel", "name", "[I", true)
  | 12 => ("PropellantGaugeModel", "nameLong", "[I", true)
  | 13 => ("PropellantGaugeModel", "flow", "[I", true)
  | 14 => ("PropellantGaugeModel", "doubt", "[I", true)
  | 15 => ("PropellantGaugeModel", "settings", "[I", true)
  | 16 => ("PropellantGaugeModel", "lettered", "I", false)
  | 17 => ("PropellantGaugeModel", "letters", "[I", true)
  | 18 => ("PropellantGaugeModel", "length", "I", false)
  | 19 => ("PropellantGaugeModel", "text", "[I", true)
  | 20 => ("PropellantGaugeModel", "gives", "[J", true)
  | 21 => ("PropellantGaugeModel", "spot", "I", false)
  | 22 => ("PropellantGaugeModel", "command", "I", false)
  | 23 => ("PropellantGaugeModel", "nameFrom", "I", false)
  | 24 => ("PropellantGaugeModel", "nameMany", "I", false)
  | 25 => ("PropellantGaugeModel", "first", "I", false)
  | 26 => ("PropellantGaugeModel", "second", "I", false)
  | _ => ("PropellantGaugeModel", "number", "I", false)
def g_ty7 : Nat → FieldType := fun k => match k with
  | 0 => .array .long
  | 1 => .array .long
  | 2 => .int
  | 3 => .array .long
  | 4 => .array .long
  | 5 => .array .long
  | 6 => .array .int
  | 7 => .array .int
  | 8 => .array .int
  | 9 => .array .int
  | 10 => .int
  | 11 => .array .int
  | 12 => .array .int
  | 13 => .array .int
  | 14 => .array .int
  | 15 => .array .int
  | 16 => .int
  | 17 => .array .int
  | 18 => .int
  | 19 => .array .int
  | 20 => .array .long
  | 21 => .int
  | 22 => .int
  | 23 => .int
  | 24 => .int
  | 25 => .int
  | 26 => .int
  | _ => .int
theorem g_nm7 : ∀ a, a < 28 → ∀ b, b < 28 → a ≠ b → (g_T7 a).2.1 ≠ (g_T7 b).2.1 := by decide +kernel
theorem g_tyok7 : ∀ k, k < 28 → parseFieldDescriptor (g_T7 k).2.2.1 = some (g_ty7 k) := by decide +kernel
theorem g_in7 : ∀ w ∈ u_ws g_R7 g_T7 28, w ∈ g_T := g_memL [795, 797, 799, 801, 803, 805, 807, 809, 811, 813, 815, 817, 819, 821, 823, 825, 827, 829, 831, 833, 835, 837, 839, 841, 843, 845, 847, 849] (by decide +kernel) (by decide +kernel)
def g_R8 : String := "java/lang/Math"
abbrev g_cls : List vw_C := [(g_R0, g_T0, 7), (g_R1, g_T1, 12), (g_R2, g_T2, 7), (g_R3, g_T3, 6), (g_R4, g_T4, 3), (g_R5, g_T5, 10), (g_R6, g_T6, 5), (g_R7, g_T7, 28)]
def g_cn (o : Nat) : String := [g_R0, g_R1, g_R2, g_R3, g_R4, g_R5, g_R6, g_R7, g_R8].getD o ""
/-- the kind of a field: 0 an int, 1 a boolean, 2 a reference -/
def g_ft (ci k : Nat) : Nat := ([[0, 0, 0, 0, 0, 0, 2], [2, 2, 2, 0, 0, 0, 0, 0, 1, 0, 2, 2], [0, 2, 2, 2, 2, 2, 2], [0, 0, 2, 2, 2, 2], [0, 2, 2], [0, 2, 2, 2, 2, 2, 2, 2, 2, 2], [2, 2, 2, 0, 0], [2, 2, 0, 2, 2, 2, 2, 2, 2, 2, 0, 2, 2, 2, 2, 2, 0, 2, 0, 2, 2, 0, 0, 0, 0, 0, 0, 0]].getD ci []).getD k 0
def g_nf (ci : Nat) : Nat := [7, 12, 7, 6, 3, 10, 5, 28].getD ci 0
/-- the cells: kind (1 an object, 2 int[], 3 char[], 4 long[], 5 LevelTable[]), class or length -/
def g_N : Nat := 95
def g_lay : List (Nat × Nat) := [(1, 6), (1, 1), (1, 5), (2, 4), (2, 4), (2, 4), (4, 4), (4, 4), (4, 4), (4, 4), (4, 4), (5, 4), (1, 4), (2, 8), (2, 8), (1, 4), (2, 8), (2, 8), (1, 4), (2, 8), (2, 8), (1, 4), (2, 8), (2, 8), (1, 2), (2, 6), (2, 6), (2, 6), (2, 6), (4, 6), (4, 6), (1, 3), (2, 24), (2, 24), (2, 24), (4, 24), (4, 4), (4, 4), (1, 1), (1, 5), (2, 4), (2, 4), (2, 4), (4, 4), (4, 4), (4, 4), (4, 4), (4, 4), (5, 4), (1, 4), (2, 8), (2, 8), (1, 4), (2, 8), (2, 8), (1, 4), (2, 8), (2, 8), (1, 4), (2, 8), (2, 8), (1, 2), (2, 6), (2, 6), (2, 6), (2, 6), (4, 6), (4, 6), (1, 3), (2, 24), (2, 24), (2, 24), (4, 24), (4, 4), (4, 4), (1, 0), (3, 100), (1, 7), (4, 140), (4, 140), (4, 4), (4, 4), (4, 4), (2, 4), (2, 4), (2, 32), (2, 32), (2, 36), (2, 6), (2, 6), (2, 6), (2, 3), (2, 6), (2, 100), (4, 4)]
def g_kd (a : Nat) : Nat := (g_lay.getD a (0, 0)).1
def g_ar (a : Nat) : Nat := (g_lay.getD a (0, 0)).2
def g_rfs : List (List Nat) := [[1, 38, 75], [2, 24, 31, 0, 0, 0, 0, 0, 0, 0, 36, 37], [0, 3, 4, 5, 6, 7, 8, 9, 10, 11], [], [], [], [], [], [], [], [], [12, 15, 18, 21], [0, 13, 14], [], [], [0, 16, 17], [], [], [0, 19, 20], [], [], [0, 22, 23], [], [], [0, 25, 26, 27, 28, 29, 30], [], [], [], [], [], [], [0, 0, 32, 33, 34, 35], [], [], [], [], [], [], [39, 61, 68, 0, 0, 0, 0, 0, 0, 0, 73, 74], [0, 40, 41, 42, 43, 44, 45, 46, 47, 48], [], [], [], [], [], [], [], [], [49, 52, 55, 58], [0, 50, 51], [], [], [0, 53, 54], [], [], [0, 56, 57], [], [], [0, 59, 60], [], [], [0, 62, 63, 64, 65, 66, 67], [], [], [], [], [], [], [0, 0, 69, 70, 71, 72], [], [], [], [], [], [], [0, 0, 0, 0, 0, 0, 76], [], [78, 79, 0, 80, 81, 82, 83, 84, 85, 86, 0, 87, 88, 89, 90, 91, 0, 92, 0, 93, 94], [], [], [], [], [], [], [], [], [], [], [], [], [], [], [], [], []]
def g_rf (a k : Nat) : Nat := (g_rfs.getD a []).getD k 0
-- cell 0: gauge
-- cell 1: craft
-- cell 2: craft.tanks
-- cell 3: craft.tanks.density
-- cell 4: craft.tanks.residual
-- cell 5: craft.tanks.leak
-- cell 6: craft.tanks.trueMass
-- cell 7: craft.tanks.booked
-- cell 8: craft.tanks.estimate
-- cell 9: craft.tanks.variance
-- cell 10: craft.tanks.gaugeVariance
-- cell 11: craft.tanks.tables
-- cell 12: craft.tanks.table0
-- cell 13: craft.tanks.table0.levels
-- cell 14: craft.tanks.table0.volumes
-- cell 15: craft.tanks.table1
-- cell 16: craft.tanks.table1.levels
-- cell 17: craft.tanks.table1.volumes
-- cell 18: craft.tanks.table2
-- cell 19: craft.tanks.table2.levels
-- cell 20: craft.tanks.table2.volumes
-- cell 21: craft.tanks.table3
-- cell 22: craft.tanks.table3.levels
-- cell 23: craft.tanks.table3.volumes
-- cell 24: craft.engines
-- cell 25: craft.engines.names
-- cell 26: craft.engines.flow
-- cell 27: craft.engines.uncertainty
-- cell 28: craft.engines.open
-- cell 29: craft.engines.bookedSum
-- cell 30: craft.engines.deliveredSum
-- cell 31: craft.ledger
-- cell 32: craft.ledger.times
-- cell 33: craft.ledger.kinds
-- cell 34: craft.ledger.tanks
-- cell 35: craft.ledger.amounts
-- cell 36: craft.burnShares
-- cell 37: craft.stepShares
-- cell 38: rehearsal
-- cell 39: rehearsal.tanks
-- cell 40: rehearsal.tanks.density
-- cell 41: rehearsal.tanks.residual
-- cell 42: rehearsal.tanks.leak
-- cell 43: rehearsal.tanks.trueMass
-- cell 44: rehearsal.tanks.booked
-- cell 45: rehearsal.tanks.estimate
-- cell 46: rehearsal.tanks.variance
-- cell 47: rehearsal.tanks.gaugeVariance
-- cell 48: rehearsal.tanks.tables
-- cell 49: rehearsal.tanks.table0
-- cell 50: rehearsal.tanks.table0.levels
-- cell 51: rehearsal.tanks.table0.volumes
-- cell 52: rehearsal.tanks.table1
-- cell 53: rehearsal.tanks.table1.levels
-- cell 54: rehearsal.tanks.table1.volumes
-- cell 55: rehearsal.tanks.table2
-- cell 56: rehearsal.tanks.table2.levels
-- cell 57: rehearsal.tanks.table2.volumes
-- cell 58: rehearsal.tanks.table3
-- cell 59: rehearsal.tanks.table3.levels
-- cell 60: rehearsal.tanks.table3.volumes
-- cell 61: rehearsal.engines
-- cell 62: rehearsal.engines.names
-- cell 63: rehearsal.engines.flow
-- cell 64: rehearsal.engines.uncertainty
-- cell 65: rehearsal.engines.open
-- cell 66: rehearsal.engines.bookedSum
-- cell 67: rehearsal.engines.deliveredSum
-- cell 68: rehearsal.ledger
-- cell 69: rehearsal.ledger.times
-- cell 70: rehearsal.ledger.kinds
-- cell 71: rehearsal.ledger.tanks
-- cell 72: rehearsal.ledger.amounts
-- cell 73: rehearsal.burnShares
-- cell 74: rehearsal.stepShares
-- cell 75: ct
-- cell 76: ct.characters
-- cell 77: model
-- cell 78: model.now
-- cell 79: model.aside
-- cell 80: model.density
-- cell 81: model.residual
-- cell 82: model.gauging
-- cell 83: model.leak
-- cell 84: model.points
-- cell 85: model.levels
-- cell 86: model.volumes
-- cell 87: model.name
-- cell 88: model.nameLong
-- cell 89: model.flow
-- cell 90: model.doubt
-- cell 91: model.settings
-- cell 92: model.letters
-- cell 93: model.text
-- cell 94: model.gives
