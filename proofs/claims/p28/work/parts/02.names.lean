def RX0 : String := "Slewyard$Crane"
def TX0 : u_T := fun k => match k with
  | 0 => ("Slewyard$Crane", "ground", "LSlewyard$Ground;", true)
  | 1 => ("Slewyard$Crane", "number", "I", false)
  | 2 => ("Slewyard$Crane", "tower", "I", false)
  | 3 => ("Slewyard$Crane", "row", "I", false)
  | 4 => ("Slewyard$Crane", "column", "I", false)
  | 5 => ("Slewyard$Crane", "mast", "I", false)
  | 6 => ("Slewyard$Crane", "reach", "I", false)
  | 7 => ("Slewyard$Crane", "moment", "I", false)
  | 8 => ("Slewyard$Crane", "bearing", "I", false)
  | 9 => ("Slewyard$Crane", "arm", "I", false)
  | 10 => ("Slewyard$Crane", "radius", "I", false)
  | 11 => ("Slewyard$Crane", "hook", "I", false)
  | 12 => ("Slewyard$Crane", "sway", "I", false)
  | 13 => ("Slewyard$Crane", "work", "I", false)
  | 14 => ("Slewyard$Crane", "load", "LSlewyard$Load;", false)
  | _ => ("Slewyard$Crane", "nearMisses", "I", false)
def tyX0 : Nat → FieldType := fun k => match k with
  | 0 => .object "Slewyard$Ground"
  | 1 => .int
  | 2 => .int
  | 3 => .int
  | 4 => .int
  | 5 => .int
  | 6 => .int
  | 7 => .int
  | 8 => .int
  | 9 => .int
  | 10 => .int
  | 11 => .int
  | 12 => .int
  | 13 => .int
  | 14 => .object "Slewyard$Load"
  | _ => .int
abbrev wsX00 : List Cond := u_ws RX0 TX0 16
theorem nmX0 : ∀ a, a < 16 → ∀ b, b < 16 → a ≠ b → (TX0 a).2.1 ≠ (TX0 b).2.1 := by decide +kernel
theorem tyX0_ok : ∀ k, k < 16 → parseFieldDescriptor (TX0 k).2.2.1 = some (tyX0 k) := by decide +kernel
abbrev cX0_init : ByteArray := prog_2_method_1_code
def yX0_init : MethodName := ⟨RX0, "<init>", "(LSlewyard$Ground;IIIII)V"⟩
abbrev cX0_mimic : ByteArray := prog_2_method_2_code
def yX0_mimic : MethodName := ⟨RX0, "mimic", "(LSlewyard$Crane;)V"⟩
abbrev cX0_face : ByteArray := prog_2_method_3_code
def yX0_face : MethodName := ⟨RX0, "face", "(I)V"⟩
abbrev cX0_drawIn : ByteArray := prog_2_method_4_code
def yX0_drawIn : MethodName := ⟨RX0, "drawIn", "(I)V"⟩
abbrev cX0_move : ByteArray := prog_2_method_5_code
def yX0_move : MethodName := ⟨RX0, "move", "(I)V"⟩
abbrev cX0_tire : ByteArray := prog_2_method_6_code
def yX0_tire : MethodName := ⟨RX0, "tire", "(I)V"⟩
abbrev cX0_settle : ByteArray := prog_2_method_7_code
def yX0_settle : MethodName := ⟨RX0, "settle", "(I)V"⟩
abbrev cX0_rowAt : ByteArray := prog_2_method_8_code
def yX0_rowAt : MethodName := ⟨RX0, "rowAt", "(I)I"⟩
abbrev cX0_columnAt : ByteArray := prog_2_method_9_code
def yX0_columnAt : MethodName := ⟨RX0, "columnAt", "(I)I"⟩
abbrev cX0_plumb : ByteArray := prog_2_method_10_code
def yX0_plumb : MethodName := ⟨RX0, "plumb", "()I"⟩
abbrev cX0_above : ByteArray := prog_2_method_11_code
def yX0_above : MethodName := ⟨RX0, "above", "()I"⟩
abbrev cX0_isCalm : ByteArray := prog_2_method_12_code
def yX0_isCalm : MethodName := ⟨RX0, "isCalm", "()Z"⟩
abbrev cX0_isJustAbove : ByteArray := prog_2_method_13_code
def yX0_isJustAbove : MethodName := ⟨RX0, "isJustAbove", "()Z"⟩
abbrev cX0_isPossible : ByteArray := prog_2_method_14_code
def yX0_isPossible : MethodName := ⟨RX0, "isPossible", "()Z"⟩
abbrev cX0_canMeet : ByteArray := prog_2_method_15_code
def yX0_canMeet : MethodName := ⟨RX0, "canMeet", "(LSlewyard$Crane;)Z"⟩
abbrev cX0_weight : ByteArray := prog_2_method_16_code
def yX0_weight : MethodName := ⟨RX0, "weight", "()I"⟩
abbrev cX0_apartFromJib : ByteArray := prog_2_method_17_code
def yX0_apartFromJib : MethodName := ⟨RX0, "apartFromJib", "(II)I"⟩
abbrev cX0_apartFromJibOf : ByteArray := prog_2_method_18_code
def yX0_apartFromJibOf : MethodName := ⟨RX0, "apartFromJibOf", "(LSlewyard$Crane;)I"⟩
abbrev cX0_clashRule : ByteArray := prog_2_method_19_code
def yX0_clashRule : MethodName := ⟨RX0, "clashRule", "(LSlewyard$Crane;I)I"⟩
abbrev cX0_sweepsOn : ByteArray := prog_2_method_20_code
def yX0_sweepsOn : MethodName := ⟨RX0, "sweepsOn", "(LSlewyard$Crane;I)Z"⟩
abbrev cX0_isWithinBounds : ByteArray := prog_2_method_21_code
def yX0_isWithinBounds : MethodName := ⟨RX0, "isWithinBounds", "()Z"⟩
def RX1 : String := "Slewyard$Ground"
def TX1 : u_T := fun k => match k with
  | 0 => ("Slewyard$Ground", "levels", "[I", true)
  | 1 => ("Slewyard$Ground", "wide", "I", false)
  | _ => ("Slewyard$Ground", "high", "I", false)
def tyX1 : Nat → FieldType := fun k => match k with
  | 0 => .array .int
  | 1 => .int
  | _ => .int
abbrev wsX10 : List Cond := u_ws RX1 TX1 3
theorem nmX1 : ∀ a, a < 3 → ∀ b, b < 3 → a ≠ b → (TX1 a).2.1 ≠ (TX1 b).2.1 := by decide +kernel
theorem tyX1_ok : ∀ k, k < 3 → parseFieldDescriptor (TX1 k).2.2.1 = some (tyX1 k) := by decide +kernel
abbrev cX1_init : ByteArray := prog_3_method_1_code
def yX1_init : MethodName := ⟨RX1, "<init>", "()V"⟩
abbrev cX1_lay : ByteArray := prog_3_method_2_code
def yX1_lay : MethodName := ⟨RX1, "lay", "(II)V"⟩
abbrev cX1_cells : ByteArray := prog_3_method_3_code
def yX1_cells : MethodName := ⟨RX1, "cells", "()I"⟩
abbrev cX1_hasCell : ByteArray := prog_3_method_4_code
def yX1_hasCell : MethodName := ⟨RX1, "hasCell", "(I)Z"⟩
abbrev cX1_hasPlace : ByteArray := prog_3_method_5_code
def yX1_hasPlace : MethodName := ⟨RX1, "hasPlace", "(II)Z"⟩
abbrev cX1_cellAt : ByteArray := prog_3_method_6_code
def yX1_cellAt : MethodName := ⟨RX1, "cellAt", "(II)I"⟩
abbrev cX1_rowOf : ByteArray := prog_3_method_7_code
def yX1_rowOf : MethodName := ⟨RX1, "rowOf", "(I)I"⟩
abbrev cX1_columnOf : ByteArray := prog_3_method_8_code
def yX1_columnOf : MethodName := ⟨RX1, "columnOf", "(I)I"⟩
abbrev cX1_levelOf : ByteArray := prog_3_method_9_code
def yX1_levelOf : MethodName := ⟨RX1, "levelOf", "(I)I"⟩
abbrev cX1_build : ByteArray := prog_3_method_10_code
def yX1_build : MethodName := ⟨RX1, "build", "(II)V"⟩
def RX2 : String := "Slewyard$Load"
def TX2 : u_T := fun k => match k with
  | 0 => ("Slewyard$Load", "number", "I", true)
  | 1 => ("Slewyard$Load", "weight", "I", true)
  | 2 => ("Slewyard$Load", "cell", "I", false)
  | _ => ("Slewyard$Load", "carrier", "LSlewyard$Crane;", false)
def tyX2 : Nat → FieldType := fun k => match k with
  | 0 => .int
  | 1 => .int
  | 2 => .int
  | _ => .object "Slewyard$Crane"
abbrev wsX20 : List Cond := u_ws RX2 TX2 4
theorem nmX2 : ∀ a, a < 4 → ∀ b, b < 4 → a ≠ b → (TX2 a).2.1 ≠ (TX2 b).2.1 := by decide +kernel
theorem tyX2_ok : ∀ k, k < 4 → parseFieldDescriptor (TX2 k).2.2.1 = some (tyX2 k) := by decide +kernel
abbrev cX2_init : ByteArray := prog_4_method_1_code
def yX2_init : MethodName := ⟨RX2, "<init>", "(III)V"⟩
abbrev cX2_liesOn : ByteArray := prog_4_method_2_code
def yX2_liesOn : MethodName := ⟨RX2, "liesOn", "(I)Z"⟩
abbrev cX2_place : ByteArray := prog_4_method_3_code
def yX2_place : MethodName := ⟨RX2, "place", "()I"⟩
abbrev cX2_hangOn : ByteArray := prog_4_method_4_code
def yX2_hangOn : MethodName := ⟨RX2, "hangOn", "(LSlewyard$Crane;)V"⟩
abbrev cX2_lieOn : ByteArray := prog_4_method_5_code
def yX2_lieOn : MethodName := ⟨RX2, "lieOn", "(I)V"⟩
def RX3 : String := "Slewyard$Plans"
def TX3 : u_T := fun k => match k with
  | 0 => ("Slewyard$Plans", "site", "LSlewyard$Site;", true)
  | 1 => ("Slewyard$Plans", "trial", "LSlewyard$Crane;", true)
  | 2 => ("Slewyard$Plans", "steps", "[I", true)
  | 3 => ("Slewyard$Plans", "poses", "[I", true)
  | 4 => ("Slewyard$Plans", "takers", "[I", true)
  | _ => ("Slewyard$Plans", "leaving", "[I", true)
def tyX3 : Nat → FieldType := fun k => match k with
  | 0 => .object "Slewyard$Site"
  | 1 => .object "Slewyard$Crane"
  | 2 => .array .int
  | 3 => .array .int
  | 4 => .array .int
  | _ => .array .int
abbrev wsX30 : List Cond := u_ws RX3 TX3 6
theorem nmX3 : ∀ a, a < 6 → ∀ b, b < 6 → a ≠ b → (TX3 a).2.1 ≠ (TX3 b).2.1 := by decide +kernel
theorem tyX3_ok : ∀ k, k < 6 → parseFieldDescriptor (TX3 k).2.2.1 = some (tyX3 k) := by decide +kernel
abbrev cX3_init : ByteArray := prog_5_method_1_code
def yX3_init : MethodName := ⟨RX3, "<init>", "(LSlewyard$Site;)V"⟩
abbrev cX3_explore : ByteArray := prog_5_method_2_code
def yX3_explore : MethodName := ⟨RX3, "explore", "(LSlewyard$Crane;)I"⟩
abbrev cX3_poseOf : ByteArray := prog_5_method_3_code
def yX3_poseOf : MethodName := ⟨RX3, "poseOf", "(LSlewyard$Crane;)I"⟩
abbrev cX3_assume : ByteArray := prog_5_method_4_code
def yX3_assume : MethodName := ⟨RX3, "assume", "(I)V"⟩
abbrev cX3_stepsTo : ByteArray := prog_5_method_5_code
def yX3_stepsTo : MethodName := ⟨RX3, "stepsTo", "(I)I"⟩
abbrev cX3_swings : ByteArray := prog_5_method_6_code
def yX3_swings : MethodName := ⟨RX3, "swings", "(LSlewyard$Crane;I)I"⟩
abbrev cX3_liftersFrom : ByteArray := prog_5_method_7_code
def yX3_liftersFrom : MethodName := ⟨RX3, "liftersFrom", "(II)I"⟩
abbrev cX3_canLift : ByteArray := prog_5_method_8_code
def yX3_canLift : MethodName := ⟨RX3, "canLift", "(LSlewyard$Crane;II)Z"⟩
abbrev cX3_takeDown : ByteArray := prog_5_method_9_code
def yX3_takeDown : MethodName := ⟨RX3, "takeDown", "()I"⟩
abbrev cX3_leaverAt : ByteArray := prog_5_method_10_code
def yX3_leaverAt : MethodName := ⟨RX3, "leaverAt", "(I)I"⟩
abbrev cX3_nextToGo : ByteArray := prog_5_method_11_code
def yX3_nextToGo : MethodName := ⟨RX3, "nextToGo", "(I)I"⟩
abbrev cX3_takersOf : ByteArray := prog_5_method_12_code
def yX3_takersOf : MethodName := ⟨RX3, "takersOf", "(LSlewyard$Crane;)I"⟩
def RX4 : String := "Slewyard$Report"
def TX4 : u_T := fun k => match k with
  | 0 => ("Slewyard$Report", "time", "I", true)
  | 1 => ("Slewyard$Report", "force", "I", true)
  | _ => ("Slewyard$Report", "bearing", "I", true)
def tyX4 : Nat → FieldType := fun k => match k with
  | 0 => .int
  | 1 => .int
  | _ => .int
abbrev wsX40 : List Cond := u_ws RX4 TX4 3
theorem nmX4 : ∀ a, a < 3 → ∀ b, b < 3 → a ≠ b → (TX4 a).2.1 ≠ (TX4 b).2.1 := by decide +kernel
theorem tyX4_ok : ∀ k, k < 3 → parseFieldDescriptor (TX4 k).2.2.1 = some (tyX4 k) := by decide +kernel
abbrev cX4_init : ByteArray := prog_6_method_1_code
def yX4_init : MethodName := ⟨RX4, "<init>", "(III)V"⟩
def RX5 : String := "Slewyard$Site"
def TX5 : u_T := fun k => match k with
  | 0 => ("Slewyard$Site", "ground", "LSlewyard$Ground;", true)
  | 1 => ("Slewyard$Site", "reports", "Ljava/util/ArrayList;", true)
  | 2 => ("Slewyard$Site", "zones", "Ljava/util/ArrayList;", true)
  | 3 => ("Slewyard$Site", "cranes", "Ljava/util/ArrayList;", true)
  | 4 => ("Slewyard$Site", "loads", "Ljava/util/ArrayList;", true)
  | 5 => ("Slewyard$Site", "calm", "LSlewyard$Report;", true)
  | 6 => ("Slewyard$Site", "trial", "LSlewyard$Crane;", true)
  | 7 => ("Slewyard$Site", "time", "I", false)
  | 8 => ("Slewyard$Site", "taken", "I", false)
  | _ => ("Slewyard$Site", "notTaken", "I", false)
def tyX5 : Nat → FieldType := fun k => match k with
  | 0 => .object "Slewyard$Ground"
  | 1 => .object "java/util/ArrayList"
  | 2 => .object "java/util/ArrayList"
  | 3 => .object "java/util/ArrayList"
  | 4 => .object "java/util/ArrayList"
  | 5 => .object "Slewyard$Report"
  | 6 => .object "Slewyard$Crane"
  | 7 => .int
  | 8 => .int
  | _ => .int
abbrev wsX50 : List Cond := u_ws RX5 TX5 10
theorem nmX5 : ∀ a, a < 10 → ∀ b, b < 10 → a ≠ b → (TX5 a).2.1 ≠ (TX5 b).2.1 := by decide +kernel
theorem tyX5_ok : ∀ k, k < 10 → parseFieldDescriptor (TX5 k).2.2.1 = some (tyX5 k) := by decide +kernel
abbrev cX5_init : ByteArray := prog_7_method_1_code
def yX5_init : MethodName := ⟨RX5, "<init>", "(LSlewyard$Ground;)V"⟩
abbrev cX5_lay : ByteArray := prog_7_method_2_code
def yX5_lay : MethodName := ⟨RX5, "lay", "(II)V"⟩
abbrev cX5_hour : ByteArray := prog_7_method_3_code
def yX5_hour : MethodName := ⟨RX5, "hour", "()I"⟩
abbrev cX5_windNow : ByteArray := prog_7_method_4_code
def yX5_windNow : MethodName := ⟨RX5, "windNow", "()LSlewyard$Report;"⟩
abbrev cX5_force : ByteArray := prog_7_method_5_code
def yX5_force : MethodName := ⟨RX5, "force", "()I"⟩
abbrev cX5_windBearing : ByteArray := prog_7_method_6_code
def yX5_windBearing : MethodName := ⟨RX5, "windBearing", "()I"⟩
abbrev cX5_isShut : ByteArray := prog_7_method_7_code
def yX5_isShut : MethodName := ⟨RX5, "isShut", "(I)Z"⟩
abbrev cX5_towerOn : ByteArray := prog_7_method_8_code
def yX5_towerOn : MethodName := ⟨RX5, "towerOn", "(I)I"⟩
abbrev cX5_loadsOn : ByteArray := prog_7_method_9_code
def yX5_loadsOn : MethodName := ⟨RX5, "loadsOn", "(I)I"⟩
abbrev cX5_firstLoadOn : ByteArray := prog_7_method_10_code
def yX5_firstLoadOn : MethodName := ⟨RX5, "firstLoadOn", "(I)LSlewyard$Load;"⟩
abbrev cX5_hangingLoads : ByteArray := prog_7_method_11_code
def yX5_hangingLoads : MethodName := ⟨RX5, "hangingLoads", "()I"⟩
abbrev cX5_jibsOver : ByteArray := prog_7_method_12_code
def yX5_jibsOver : MethodName := ⟨RX5, "jibsOver", "(I)I"⟩
abbrev cX5_canBuild : ByteArray := prog_7_method_14_code
def yX5_canBuild : MethodName := ⟨RX5, "canBuild", "(II)Z"⟩
abbrev cX5_canFound : ByteArray := prog_7_method_15_code
def yX5_canFound : MethodName := ⟨RX5, "canFound", "(I)Z"⟩
abbrev cX5_capacityOf : ByteArray := prog_7_method_16_code
def yX5_capacityOf : MethodName := ⟨RX5, "capacityOf", "(LSlewyard$Crane;I)I"⟩
abbrev cX5_clashesOf : ByteArray := prog_7_method_17_code
def yX5_clashesOf : MethodName := ⟨RX5, "clashesOf", "(LSlewyard$Crane;)I"⟩
abbrev cX5_clashingPairs : ByteArray := prog_7_method_18_code
def yX5_clashingPairs : MethodName := ⟨RX5, "clashingPairs", "()I"⟩
abbrev cX5_nearMisses : ByteArray := prog_7_method_19_code
def yX5_nearMisses : MethodName := ⟨RX5, "nearMisses", "()I"⟩
abbrev cX5_hindrance : ByteArray := prog_7_method_20_code
def yX5_hindrance : MethodName := ⟨RX5, "hindrance", "(LSlewyard$Crane;ZI)I"⟩
abbrev cX5_reasonAgainst : ByteArray := prog_7_method_21_code
def yX5_reasonAgainst : MethodName := ⟨RX5, "reasonAgainst", "(LSlewyard$Crane;I)I"⟩
abbrev cX5_take : ByteArray := prog_7_method_22_code
def yX5_take : MethodName := ⟨RX5, "take", "(LSlewyard$Crane;I)V"⟩
abbrev cX5_missesNow : ByteArray := prog_7_method_23_code
def yX5_missesNow : MethodName := ⟨RX5, "missesNow", "(LSlewyard$Crane;)I"⟩
abbrev cX5_idle : ByteArray := prog_7_method_24_code
def yX5_idle : MethodName := ⟨RX5, "idle", "(I)V"⟩
abbrev cX5_turnToWind : ByteArray := prog_7_method_25_code
def yX5_turnToWind : MethodName := ⟨RX5, "turnToWind", "()I"⟩
abbrev cX5_areCranesSound : ByteArray := prog_7_method_27_code
def yX5_areCranesSound : MethodName := ⟨RX5, "areCranesSound", "()Z"⟩
abbrev cX5_areLoadsSound : ByteArray := prog_7_method_28_code
def yX5_areLoadsSound : MethodName := ⟨RX5, "areLoadsSound", "()Z"⟩
def RX6 : String := "Slewyard$Zone"
def TX6 : u_T := fun k => match k with
  | 0 => ("Slewyard$Zone", "top", "I", true)
  | 1 => ("Slewyard$Zone", "left", "I", true)
  | 2 => ("Slewyard$Zone", "bottom", "I", true)
  | 3 => ("Slewyard$Zone", "right", "I", true)
  | 4 => ("Slewyard$Zone", "from", "I", true)
  | _ => ("Slewyard$Zone", "to", "I", true)
def tyX6 : Nat → FieldType := fun k => match k with
  | 0 => .int
  | 1 => .int
  | 2 => .int
  | 3 => .int
  | 4 => .int
  | _ => .int
abbrev wsX60 : List Cond := u_ws RX6 TX6 6
theorem nmX6 : ∀ a, a < 6 → ∀ b, b < 6 → a ≠ b → (TX6 a).2.1 ≠ (TX6 b).2.1 := by decide +kernel
theorem tyX6_ok : ∀ k, k < 6 → parseFieldDescriptor (TX6 k).2.2.1 = some (tyX6 k) := by decide +kernel
abbrev cX6_init : ByteArray := prog_8_method_1_code
def yX6_init : MethodName := ⟨RX6, "<init>", "(IIIIII)V"⟩
abbrev cX6_covers : ByteArray := prog_8_method_2_code
def yX6_covers : MethodName := ⟨RX6, "covers", "(II)Z"⟩
abbrev cX6_isShutAt : ByteArray := prog_8_method_3_code
def yX6_isShutAt : MethodName := ⟨RX6, "isShutAt", "(I)Z"⟩
def RX7 : String := "Slewyard"
def TX7 : u_T := fun k => match k with
  | 0 => ("Slewyard", "site", "LSlewyard$Site;", true)
  | 1 => ("Slewyard", "plans", "LSlewyard$Plans;", true)
  | _ => ("Slewyard", "refused", "I", false)
def tyX7 : Nat → FieldType := fun k => match k with
  | 0 => .object "Slewyard$Site"
  | 1 => .object "Slewyard$Plans"
  | _ => .int
abbrev wsX70 : List Cond := u_ws RX7 TX7 3
theorem nmX7 : ∀ a, a < 3 → ∀ b, b < 3 → a ≠ b → (TX7 a).2.1 ≠ (TX7 b).2.1 := by decide +kernel
theorem tyX7_ok : ∀ k, k < 3 → parseFieldDescriptor (TX7 k).2.2.1 = some (tyX7 k) := by decide +kernel
abbrev cX7_init : ByteArray := prog_1_method_1_code
def yX7_init : MethodName := ⟨RX7, "<init>", "()V"⟩
abbrev cX7_yard : ByteArray := prog_1_method_2_code
def yX7_yard : MethodName := ⟨RX7, "yard", "(II)I"⟩
abbrev cX7_level : ByteArray := prog_1_method_3_code
def yX7_level : MethodName := ⟨RX7, "level", "(II)I"⟩
abbrev cX7_wind : ByteArray := prog_1_method_4_code
def yX7_wind : MethodName := ⟨RX7, "wind", "(III)I"⟩
abbrev cX7_zone : ByteArray := prog_1_method_5_code
def yX7_zone : MethodName := ⟨RX7, "zone", "(IIIII)I"⟩
abbrev cX7_load : ByteArray := prog_1_method_6_code
def yX7_load : MethodName := ⟨RX7, "load", "(II)I"⟩
abbrev cX7_crane : ByteArray := prog_1_method_7_code
def yX7_crane : MethodName := ⟨RX7, "crane", "(IIIII)I"⟩
abbrev cX7_step : ByteArray := prog_1_method_8_code
def yX7_step : MethodName := ⟨RX7, "step", "(II)I"⟩
abbrev cX7_hang : ByteArray := prog_1_method_9_code
def yX7_hang : MethodName := ⟨RX7, "hang", "(I)I"⟩
abbrev cX7_set : ByteArray := prog_1_method_10_code
def yX7_set : MethodName := ⟨RX7, "set", "(I)I"⟩
abbrev cX7_hand : ByteArray := prog_1_method_11_code
def yX7_hand : MethodName := ⟨RX7, "hand", "(II)I"⟩
abbrev cX7_rest : ByteArray := prog_1_method_12_code
def yX7_rest : MethodName := ⟨RX7, "rest", "(I)I"⟩
abbrev cX7_ofCrane : ByteArray := prog_1_method_13_code
def yX7_ofCrane : MethodName := ⟨RX7, "ofCrane", "(II)I"⟩
abbrev cX7_ofLoad : ByteArray := prog_1_method_14_code
def yX7_ofLoad : MethodName := ⟨RX7, "ofLoad", "(II)I"⟩
abbrev cX7_ofCell : ByteArray := prog_1_method_15_code
def yX7_ofCell : MethodName := ⟨RX7, "ofCell", "(II)I"⟩
abbrev cX7_would : ByteArray := prog_1_method_16_code
def yX7_would : MethodName := ⟨RX7, "would", "(II)I"⟩
abbrev cX7_clash : ByteArray := prog_1_method_17_code
def yX7_clash : MethodName := ⟨RX7, "clash", "(II)I"⟩
abbrev cX7_way : ByteArray := prog_1_method_18_code
def yX7_way : MethodName := ⟨RX7, "way", "(II)I"⟩
abbrev cX7_field : ByteArray := prog_1_method_19_code
def yX7_field : MethodName := ⟨RX7, "field", "(I)I"⟩
abbrev cX7_swing : ByteArray := prog_1_method_20_code
def yX7_swing : MethodName := ⟨RX7, "swing", "(IZ)I"⟩
abbrev cX7_order : ByteArray := prog_1_method_21_code
def yX7_order : MethodName := ⟨RX7, "order", "(I)I"⟩
abbrev cX7_many : ByteArray := prog_1_method_22_code
def yX7_many : MethodName := ⟨RX7, "many", "(I)I"⟩
abbrev cX7_isSound : ByteArray := prog_1_method_24_code
def yX7_isSound : MethodName := ⟨RX7, "isSound", "()Z"⟩
abbrev cX7_digest : ByteArray := prog_1_method_26_code
def yX7_digest : MethodName := ⟨RX7, "digest", "()J"⟩
abbrev cX7_needWithin : ByteArray := prog_1_method_27_code
def yX7_needWithin : MethodName := ⟨RX7, "needWithin", "(III)V"⟩
abbrev cX7_needCell : ByteArray := prog_1_method_28_code
def yX7_needCell : MethodName := ⟨RX7, "needCell", "(I)V"⟩
abbrev cX7_needCrane : ByteArray := prog_1_method_29_code
def yX7_needCrane : MethodName := ⟨RX7, "needCrane", "(I)LSlewyard$Crane;"⟩
def RX8 : String := "SlewyardModel$Crane"
def TX8 : u_T := fun k => match k with
  | _ => ("", "", "", false)
def tyX8 : Nat → FieldType := fun k => match k with
  | _ => .int
abbrev wsX80 : List Cond := u_ws RX8 TX8 0
theorem nmX8 : ∀ a, a < 0 → ∀ b, b < 0 → a ≠ b → (TX8 a).2.1 ≠ (TX8 b).2.1 := by decide +kernel
theorem tyX8_ok : ∀ k, k < 0 → parseFieldDescriptor (TX8 k).2.2.1 = some (tyX8 k) := by decide +kernel
def RX9 : String := "SlewyardModel"
def TX9 : u_T := fun k => match k with
  | _ => ("", "", "", false)
def tyX9 : Nat → FieldType := fun k => match k with
  | _ => .int
abbrev wsX90 : List Cond := u_ws RX9 TX9 0
theorem nmX9 : ∀ a, a < 0 → ∀ b, b < 0 → a ≠ b → (TX9 a).2.1 ≠ (TX9 b).2.1 := by decide +kernel
theorem tyX9_ok : ∀ k, k < 0 → parseFieldDescriptor (TX9 k).2.2.1 = some (tyX9 k) := by decide +kernel
def RJx145de : String := "java/io/Serializable"
def TJx145de : u_T := fun k => match k with
  | _ => ("", "", "", false)
def tyJx145de : Nat → FieldType := fun k => match k with
  | _ => .int
def RJx8e188 : String := "java/lang/Cloneable"
def TJx8e188 : u_T := fun k => match k with
  | _ => ("", "", "", false)
def tyJx8e188 : Nat → FieldType := fun k => match k with
  | _ => .int
def RJ6 : String := "java/lang/Integer"
def TJ6 : u_T := fun k => match k with
  | _ => ("", "", "", false)
def tyJ6 : Nat → FieldType := fun k => match k with
  | _ => .int
abbrev cJ6_bitCount_0f7a4 : ByteArray := prog_18_method_49_code
def yJ6_bitCount_0f7a4 : MethodName := ⟨RJ6, "bitCount", "(I)I"⟩
def RJxab1ab : String := "java/lang/Iterable"
def TJxab1ab : u_T := fun k => match k with
  | _ => ("", "", "", false)
def tyJxab1ab : Nat → FieldType := fun k => match k with
  | _ => .int
def RJ9 : String := "java/lang/Math"
def TJ9 : u_T := fun k => match k with
  | _ => ("", "", "", false)
def tyJ9 : Nat → FieldType := fun k => match k with
  | _ => .int
abbrev cJ9_abs_0f7a4 : ByteArray := prog_20_method_59_code
def yJ9_abs_0f7a4 : MethodName := ⟨RJ9, "abs", "(I)I"⟩
abbrev cJ9_max_7cf53 : ByteArray := prog_20_method_65_code
def yJ9_max_7cf53 : MethodName := ⟨RJ9, "max", "(II)I"⟩
abbrev cJ9_min_7cf53 : ByteArray := prog_20_method_69_code
def yJ9_min_7cf53 : MethodName := ⟨RJ9, "min", "(II)I"⟩
def RJ0 : String := "java/lang/String"
def TJ0 : u_T := fun k => match k with
  | _ => ("", "", "", false)
def tyJ0 : Nat → FieldType := fun k => match k with
  | _ => .int
def RJ10 : String := "java/lang/System"
def TJ10 : u_T := fun k => match k with
  | _ => ("", "", "", false)
def tyJ10 : Nat → FieldType := fun k => match k with
  | _ => .int
def RJxa1e45 : String := "java/util/AbstractCollection"
def TJxa1e45 : u_T := fun k => match k with
  | _ => ("", "", "", false)
def tyJxa1e45 : Nat → FieldType := fun k => match k with
  | _ => .int
abbrev cJxa1e45_init_da8c8 : ByteArray := prog_25_method_1_code
def yJxa1e45_init_da8c8 : MethodName := ⟨RJxa1e45, "<init>", "()V"⟩
def RJxc12de : String := "java/util/AbstractList"
def TJxc12de : u_T := fun k => match k with
  | _ => ("", "", "", false)
def tyJxc12de : Nat → FieldType := fun k => match k with
  | _ => .int
abbrev cJxc12de_init_da8c8 : ByteArray := prog_26_method_1_code
def yJxc12de_init_da8c8 : MethodName := ⟨RJxc12de, "<init>", "()V"⟩
def RJx4a65c : String := "java/util/ArrayList"
def TJx4a65c : u_T := fun k => match k with
  | 0 => ("java/util/AbstractList", "modCount", "I", false)
  | 1 => ("java/util/ArrayList", "elementData", "[Ljava/lang/Object;", false)
  | _ => ("java/util/ArrayList", "size", "I", false)
def tyJx4a65c : Nat → FieldType := fun k => match k with
  | 0 => .int
  | 1 => .array (.object "java/lang/Object")
  | _ => .int
abbrev wsJx4a65c0 : List Cond := u_ws RJx4a65c TJx4a65c 3
theorem nmJx4a65c : ∀ a, a < 3 → ∀ b, b < 3 → a ≠ b → (TJx4a65c a).2.1 ≠ (TJx4a65c b).2.1 := by decide +kernel
theorem tyJx4a65c_ok : ∀ k, k < 3 → parseFieldDescriptor (TJx4a65c k).2.2.1 = some (tyJx4a65c k) := by decide +kernel
abbrev cJx4a65c_init_da8c8 : ByteArray := prog_27_method_2_code
def yJx4a65c_init_da8c8 : MethodName := ⟨RJx4a65c, "<init>", "()V"⟩
abbrev cJx4a65c_grow_92f84 : ByteArray := prog_27_method_6_code
def yJx4a65c_grow_92f84 : MethodName := ⟨RJx4a65c, "grow", "(I)[Ljava/lang/Object;"⟩
abbrev cJx4a65c_grow_d5877 : ByteArray := prog_27_method_7_code
def yJx4a65c_grow_d5877 : MethodName := ⟨RJx4a65c, "grow", "()[Ljava/lang/Object;"⟩
abbrev cJx4a65c_size_8abf5 : ByteArray := prog_27_method_8_code
def yJx4a65c_size_8abf5 : MethodName := ⟨RJx4a65c, "size", "()I"⟩
abbrev cJx4a65c_elementData_915e3 : ByteArray := prog_27_method_18_code
def yJx4a65c_elementData_915e3 : MethodName := ⟨RJx4a65c, "elementData", "(I)Ljava/lang/Object;"⟩
abbrev cJx4a65c_get_915e3 : ByteArray := prog_27_method_20_code
def yJx4a65c_get_915e3 : MethodName := ⟨RJx4a65c, "get", "(I)Ljava/lang/Object;"⟩
abbrev cJx4a65c_add_72be8 : ByteArray := prog_27_method_24_code
def yJx4a65c_add_72be8 : MethodName := ⟨RJx4a65c, "add", "(Ljava/lang/Object;[Ljava/lang/Object;I)V"⟩
abbrev cJx4a65c_add_9ea2d : ByteArray := prog_27_method_25_code
def yJx4a65c_add_9ea2d : MethodName := ⟨RJx4a65c, "add", "(Ljava/lang/Object;)Z"⟩
abbrev cJx4a65c_clear_da8c8 : ByteArray := prog_27_method_40_code
def yJx4a65c_clear_da8c8 : MethodName := ⟨RJx4a65c, "clear", "()V"⟩
def RJ7 : String := "java/util/Arrays"
def TJ7 : u_T := fun k => match k with
  | _ => ("", "", "", false)
def tyJ7 : Nat → FieldType := fun k => match k with
  | _ => .int
abbrev cJ7_fill_53178 : ByteArray := prog_28_method_103_code
def yJ7_fill_53178 : MethodName := ⟨RJ7, "fill", "([II)V"⟩
abbrev cJ7_copyOf_1904c : ByteArray := prog_28_method_119_code
def yJ7_copyOf_1904c : MethodName := ⟨RJ7, "copyOf", "([Ljava/lang/Object;I)[Ljava/lang/Object;"⟩
abbrev cJ7_copyOf_6403c : ByteArray := prog_28_method_120_code
def yJ7_copyOf_6403c : MethodName := ⟨RJ7, "copyOf", "([Ljava/lang/Object;ILjava/lang/Class;)[Ljava/lang/Object;"⟩
def RJx5ef63 : String := "java/util/Collection"
def TJx5ef63 : u_T := fun k => match k with
  | _ => ("", "", "", false)
def tyJx5ef63 : Nat → FieldType := fun k => match k with
  | _ => .int
def RJxbd725 : String := "java/util/List"
def TJxbd725 : u_T := fun k => match k with
  | _ => ("", "", "", false)
def tyJxbd725 : Nat → FieldType := fun k => match k with
  | _ => .int
def RJ15 : String := "java/util/Objects"
def TJ15 : u_T := fun k => match k with
  | _ => ("", "", "", false)
def tyJ15 : Nat → FieldType := fun k => match k with
  | _ => .int
abbrev cJ15_checkIndex_7cf53 : ByteArray := prog_31_method_17_code
def yJ15_checkIndex_7cf53 : MethodName := ⟨RJ15, "checkIndex", "(II)I"⟩
def RJxf0a74 : String := "java/util/RandomAccess"
def TJxf0a74 : u_T := fun k => match k with
  | _ => ("", "", "", false)
def tyJxf0a74 : Nat → FieldType := fun k => match k with
  | _ => .int
def RJxa66e6 : String := "java/util/SequencedCollection"
def TJxa66e6 : u_T := fun k => match k with
  | _ => ("", "", "", false)
def tyJxa66e6 : Nat → FieldType := fun k => match k with
  | _ => .int
def RJ8 : String := "jdk/internal/util/ArraysSupport"
def TJ8 : u_T := fun k => match k with
  | _ => ("", "", "", false)
def tyJ8 : Nat → FieldType := fun k => match k with
  | _ => .int
abbrev cJ8_newLength_cabcc : ByteArray := prog_34_method_27_code
def yJ8_newLength_cabcc : MethodName := ⟨RJ8, "newLength", "(III)I"⟩
abbrev cJ8_hugeLength_7cf53 : ByteArray := prog_34_method_28_code
def yJ8_hugeLength_7cf53 : MethodName := ⟨RJ8, "hugeLength", "(II)I"⟩
def RJ3 : String := "jdk/internal/util/Preconditions"
def TJ3 : u_T := fun k => match k with
  | _ => ("", "", "", false)
def tyJ3 : Nat → FieldType := fun k => match k with
  | _ => .int
abbrev cJ3_checkIndex_8e157 : ByteArray := prog_35_method_11_code
def yJ3_checkIndex_8e157 : MethodName := ⟨RJ3, "checkIndex", "(IILjava/util/function/BiFunction;)I"⟩
def RL : String := "SlewyardLaw"
abbrev cL_below : ByteArray := method_2_code
def yL_below : MethodName := ⟨RL, "below", "(II)I"⟩
abbrev cL_cell : ByteArray := method_3_code
def yL_cell : MethodName := ⟨RL, "cell", "([II)I"⟩
abbrev cL_law : ByteArray := code
def yL_law : MethodName := ⟨RL, "law", "([I)Z"⟩
abbrev cL_met : ByteArray := method_5_code
def yL_met : MethodName := ⟨RL, "met", "(LSlewyard;)I"⟩
abbrev cL_build : ByteArray := method_6_code
def yL_build : MethodName := ⟨RL, "build", "(LSlewyard;II)V"⟩
abbrev cL_act : ByteArray := method_7_code
def yL_act : MethodName := ⟨RL, "act", "(LSlewyard;III[I)V"⟩
abbrev cL_isWhole : ByteArray := method_8_code
def yL_isWhole : MethodName := ⟨RL, "isWhole", "(LSlewyard;I)Z"⟩
abbrev cL_isAsked : ByteArray := method_9_code
def yL_isAsked : MethodName := ⟨RL, "isAsked", "(LSlewyard;II)Z"⟩
abbrev vwCl : List vw_C := [(RJx4a65c, TJx4a65c, 3), (RX0, TX0, 16), (RX1, TX1, 3), (RX2, TX2, 4), (RX3, TX3, 6), (RX4, TX4, 3), (RX5, TX5, 10), (RX6, TX6, 6), (RX7, TX7, 3)]
