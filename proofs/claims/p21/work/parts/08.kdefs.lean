/-! The tables of this program, printed by a text program of mine (wip/pm/gen1.py) out of what TURN printed: kinds of objects, methods, links -/
noncomputable def kF0 : Fin 4 := ⟨0, Nat.le_of_ble_eq_true rfl⟩
noncomputable def kF1 : Fin 4 := ⟨1, Nat.le_of_ble_eq_true rfl⟩
noncomputable def kF2 : Fin 4 := ⟨2, Nat.le_of_ble_eq_true rfl⟩
noncomputable def kF3 : Fin 4 := ⟨3, Nat.le_of_ble_eq_true rfl⟩
noncomputable def kG0 : Fin 2 := ⟨0, Nat.le_of_ble_eq_true rfl⟩
noncomputable def kG1 : Fin 2 := ⟨1, Nat.le_of_ble_eq_true rfl⟩
noncomputable def kT_0 : u_T := fun k => match k with
  | 0 => ("BonnetValley$Formula", "code", "[I", true)
  | 1 => ("BonnetValley$Formula", "size", "I", false)
  | 2 => ("BonnetValley$Formula", "waiting", "[I", true)
  | 3 => ("BonnetValley$Formula", "waits", "I", false)
  | 4 => ("BonnetValley$Formula", "compared", "[Z", true)
  | 5 => ("BonnetValley$Formula", "depth", "I", false)
  | 6 => ("BonnetValley$Formula", "digits", "I", false)
  | 7 => ("BonnetValley$Formula", "wantsThing", "Z", false)
  | _ => ("BonnetValley$Formula", "stack", "[I", true)
noncomputable def kT_1 : u_T := fun k => match k with
  | 0 => ("BonnetValley$Games", "chance", "[J", true)
  | 1 => ("BonnetValley$Games", "parts", "J", false)
  | 2 => ("BonnetValley$Games", "wins", "[I", true)
  | _ => ("BonnetValley$Games", "drawn", "I", false)
noncomputable def kT_2 : u_T := fun k => match k with
  | 0 => ("BonnetValley$History", "past", "[LBonnetValley$State;", true)
  | 1 => ("BonnetValley$History", "next", "I", false)
  | 2 => ("BonnetValley$History", "size", "I", false)
  | 3 => ("BonnetValley$History", "shelf", "[LBonnetValley$State;", true)
  | _ => ("BonnetValley$History", "filled", "I", false)
noncomputable def kT_3 : u_T := fun k => match k with
  | 0 => ("BonnetValley$Land", "rows", "I", false)
  | 1 => ("BonnetValley$Land", "columns", "I", false)
  | 2 => ("BonnetValley$Land", "size", "I", false)
  | 3 => ("BonnetValley$Land", "rocks", "J", false)
  | 4 => ("BonnetValley$Land", "surveyed", "J", false)
  | 5 => ("BonnetValley$Land", "rowOf", "[I", true)
  | 6 => ("BonnetValley$Land", "columnOf", "[I", true)
  | 7 => ("BonnetValley$Land", "toward", "[J", true)
  | _ => ("BonnetValley$Land", "within", "[J", true)
noncomputable def kT_4 : u_T := fun k => match k with
  | 0 => ("BonnetValley$Lines", "digit", "[I", true)
  | 1 => ("BonnetValley$Lines", "bound", "[I", true)
  | _ => ("BonnetValley$Lines", "width", "I", false)
noncomputable def kT_5 : u_T := fun k => match k with
  | 0 => ("BonnetValley$Numbers", "number", "[J", true)
  | _ => ("BonnetValley$Numbers", "size", "I", false)
noncomputable def kT_6 : u_T := fun k => match k with
  | 0 => ("BonnetValley$Plan", "kind", "[I", true)
  | 1 => ("BonnetValley$Plan", "digit", "[I", true)
  | _ => ("BonnetValley$Plan", "acts", "I", false)
noncomputable def kT_7 : u_T := fun k => match k with
  | 0 => ("BonnetValley$Route", "away", "[I", true)
  | 1 => ("BonnetValley$Route", "queue", "[I", true)
  | _ => ("BonnetValley$Route", "path", "[I", true)
noncomputable def kT_8 : u_T := fun k => match k with
  | 0 => ("BonnetValley$Sight", "land", "LBonnetValley$Land;", true)
  | 1 => ("BonnetValley$Sight", "rule", "LBonnetValley$Formula;", false)
  | 2 => ("BonnetValley$Sight", "other", "LBonnetValley$Formula;", false)
  | 3 => ("BonnetValley$Sight", "light", "[I", true)
  | 4 => ("BonnetValley$Sight", "lights", "I", false)
  | 5 => ("BonnetValley$Sight", "given", "[I", true)
  | 6 => ("BonnetValley$Sight", "view", "[J", true)
  | _ => ("BonnetValley$Sight", "learned", "[I", true)
noncomputable def kT_9 : u_T := fun k => match k with
  | 0 => ("BonnetValley$Signs", "sign", "[I", true)
  | _ => ("BonnetValley$Signs", "size", "I", false)
noncomputable def kT_10 : u_T := fun k => match k with
  | 0 => ("BonnetValley$State", "persons", "I", false)
  | 1 => ("BonnetValley$State", "goods", "I", false)
  | 2 => ("BonnetValley$State", "hour", "I", false)
  | 3 => ("BonnetValley$State", "field", "[I", true)
  | 4 => ("BonnetValley$State", "facing", "[I", true)
  | 5 => ("BonnetValley$State", "brim", "[I", true)
  | 6 => ("BonnetValley$State", "knows", "[I", true)
  | _ => ("BonnetValley$State", "place", "[I", true)
noncomputable def kT_11 : u_T := fun k => match k with
  | 0 => ("BonnetValley$Turning", "seen", "[I", true)
  | _ => ("BonnetValley$Turning", "need", "[I", true)
noncomputable def kT_12 : u_T := fun k => match k with
  | 0 => ("BonnetValley", "text", "LBonnetValley$Signs;", true)
  | 1 => ("BonnetValley", "told", "LBonnetValley$Numbers;", true)
  | 2 => ("BonnetValley", "land", "LBonnetValley$Land;", true)
  | 3 => ("BonnetValley", "sight", "LBonnetValley$Sight;", true)
  | 4 => ("BonnetValley", "now", "LBonnetValley$State;", true)
  | 5 => ("BonnetValley", "before", "LBonnetValley$State;", true)
  | 6 => ("BonnetValley", "trial", "LBonnetValley$State;", true)
  | 7 => ("BonnetValley", "history", "LBonnetValley$History;", true)
  | 8 => ("BonnetValley", "lines", "LBonnetValley$Lines;", true)
  | 9 => ("BonnetValley", "plan", "LBonnetValley$Plan;", true)
  | 10 => ("BonnetValley", "route", "LBonnetValley$Route;", true)
  | 11 => ("BonnetValley", "turning", "LBonnetValley$Turning;", true)
  | 12 => ("BonnetValley", "games", "LBonnetValley$Games;", true)
  | 13 => ("BonnetValley", "maybe", "J", false)
  | _ => ("BonnetValley", "hearings", "I", false)
noncomputable def kT_13 : u_T := fun k => match k with
  | 0 => ("BonnetValleyModel", "thrown", "I", false)
  | 1 => ("BonnetValleyModel", "told", "I", false)
  | 2 => ("BonnetValleyModel", "row", "[J", true)
  | 3 => ("BonnetValleyModel", "rows", "I", false)
  | 4 => ("BonnetValleyModel", "columns", "I", false)
  | 5 => ("BonnetValleyModel", "people", "I", false)
  | 6 => ("BonnetValleyModel", "things", "I", false)
  | 7 => ("BonnetValleyModel", "changes", "I", false)
  | 8 => ("BonnetValleyModel", "skyLong", "I", false)
  | 9 => ("BonnetValleyModel", "isRock", "[Z", true)
  | 10 => ("BonnetValleyModel", "sky", "[I", true)
  | 11 => ("BonnetValleyModel", "now", "[I", true)
  | 12 => ("BonnetValleyModel", "then", "[I", true)
  | 13 => ("BonnetValleyModel", "tape", "[I", true)
  | 14 => ("BonnetValleyModel", "taped", "I", false)
  | 15 => ("BonnetValleyModel", "at", "I", false)
  | 16 => ("BonnetValleyModel", "to", "I", false)
  | 17 => ("BonnetValleyModel", "nest", "I", false)
  | 18 => ("BonnetValleyModel", "readRock", "[Z", true)
  | 19 => ("BonnetValleyModel", "read", "[I", true)
  | 20 => ("BonnetValleyModel", "readMany", "I", false)
  | 21 => ("BonnetValleyModel", "code", "[I", true)
  | 22 => ("BonnetValleyModel", "readCode", "[I", true)
  | 23 => ("BonnetValleyModel", "codeLong", "I", false)
  | 24 => ("BonnetValleyModel", "codesRead", "I", false)
  | 25 => ("BonnetValleyModel", "stack", "[I", true)
  | 26 => ("BonnetValleyModel", "asked", "[I", true)
  | 27 => ("BonnetValleyModel", "undos", "I", false)
  | 28 => ("BonnetValleyModel", "undone", "[I", true)
  | 29 => ("BonnetValleyModel", "learnt", "[I", true)
  | 30 => ("BonnetValleyModel", "actSign", "[I", true)
  | 31 => ("BonnetValleyModel", "actOne", "[I", true)
  | 32 => ("BonnetValleyModel", "actTwo", "[I", true)
  | 33 => ("BonnetValleyModel", "actThree", "[I", true)
  | 34 => ("BonnetValleyModel", "acts", "I", false)
  | 35 => ("BonnetValleyModel", "view", "[J", true)
  | 36 => ("BonnetValleyModel", "shown", "[I", true)
  | 37 => ("BonnetValleyModel", "few", "[I", true)
  | 38 => ("BonnetValleyModel", "far", "[I", true)
  | 39 => ("BonnetValleyModel", "heardMany", "I", false)
  | 40 => ("BonnetValleyModel", "heardOf", "[I", true)
  | 41 => ("BonnetValleyModel", "heardIs", "[I", true)
  | 42 => ("BonnetValleyModel", "storms", "[J", true)
  | 43 => ("BonnetValleyModel", "winning", "[I", true)
  | 44 => ("BonnetValleyModel", "wasCode", "[I", true)
  | 45 => ("BonnetValleyModel", "random", "I", false)
  | 46 => ("BonnetValleyModel", "isKept", "[Z", true)
  | 47 => ("BonnetValleyModel", "keptChanges", "[I", true)
  | _ => ("BonnetValleyModel", "kept", "[I", true)
noncomputable def kcl : List vw_C := [("BonnetValley$Formula", kT_0, 9), ("BonnetValley$Games", kT_1, 4), ("BonnetValley$History", kT_2, 5), ("BonnetValley$Land", kT_3, 9), ("BonnetValley$Lines", kT_4, 3), ("BonnetValley$Numbers", kT_5, 2), ("BonnetValley$Plan", kT_6, 3), ("BonnetValley$Route", kT_7, 3), ("BonnetValley$Sight", kT_8, 8), ("BonnetValley$Signs", kT_9, 2), ("BonnetValley$State", kT_10, 8), ("BonnetValley$Turning", kT_11, 2), ("BonnetValley", kT_12, 15), ("BonnetValleyModel", kT_13, 49)]
noncomputable def kFt_0 (k : Nat) : FieldType := match k with
  | 0 => .array .int
  | 1 => .int
  | 2 => .array .int
  | 3 => .int
  | 4 => .array .boolean
  | 5 => .int
  | 6 => .int
  | 7 => .boolean
  | _ => .array .int
noncomputable def kFt_1 (k : Nat) : FieldType := match k with
  | 0 => .array .long
  | 1 => .long
  | 2 => .array .int
  | _ => .int
noncomputable def kFt_2 (k : Nat) : FieldType := match k with
  | 0 => .array (.object "BonnetValley$State")
  | 1 => .int
  | 2 => .int
  | 3 => .array (.object "BonnetValley$State")
  | _ => .int
noncomputable def kFt_3 (k : Nat) : FieldType := match k with
  | 0 => .int
  | 1 => .int
  | 2 => .int
  | 3 => .long
  | 4 => .long
  | 5 => .array .int
  | 6 => .array .int
  | 7 => .array .long
  | _ => .array .long
noncomputable def kFt_4 (k : Nat) : FieldType := match k with
  | 0 => .array .int
  | 1 => .array .int
  | _ => .int
noncomputable def kFt_5 (k : Nat) : FieldType := match k with
  | 0 => .array .long
  | _ => .int
noncomputable def kFt_6 (k : Nat) : FieldType := match k with
  | 0 => .array .int
  | 1 => .array .int
  | _ => .int
noncomputable def kFt_7 (k : Nat) : FieldType := match k with
  | 0 => .array .int
  | 1 => .array .int
  | _ => .array .int
noncomputable def kFt_8 (k : Nat) : FieldType := match k with
  | 0 => .object "BonnetValley$Land"
  | 1 => .object "BonnetValley$Formula"
  | 2 => .object "BonnetValley$Formula"
  | 3 => .array .int
  | 4 => .int
  | 5 => .array .int
  | 6 => .array .long
  | _ => .array .int
noncomputable def kFt_9 (k : Nat) : FieldType := match k with
  | 0 => .array .int
  | _ => .int
noncomputable def kFt_10 (k : Nat) : FieldType := match k with
  | 0 => .int
  | 1 => .int
  | 2 => .int
  | 3 => .array .int
  | 4 => .array .int
  | 5 => .array .int
  | 6 => .array .int
  | _ => .array .int
noncomputable def kFt_11 (k : Nat) : FieldType := match k with
  | 0 => .array .int
  | _ => .array .int
noncomputable def kFt_12 (k : Nat) : FieldType := match k with
  | 0 => .object "BonnetValley$Signs"
  | 1 => .object "BonnetValley$Numbers"
  | 2 => .object "BonnetValley$Land"
  | 3 => .object "BonnetValley$Sight"
  | 4 => .object "BonnetValley$State"
  | 5 => .object "BonnetValley$State"
  | 6 => .object "BonnetValley$State"
  | 7 => .object "BonnetValley$History"
  | 8 => .object "BonnetValley$Lines"
  | 9 => .object "BonnetValley$Plan"
  | 10 => .object "BonnetValley$Route"
  | 11 => .object "BonnetValley$Turning"
  | 12 => .object "BonnetValley$Games"
  | 13 => .long
  | _ => .int
noncomputable def kFt_13 (k : Nat) : FieldType := match k with
  | 0 => .int
  | 1 => .int
  | 2 => .array .long
  | 3 => .int
  | 4 => .int
  | 5 => .int
  | 6 => .int
  | 7 => .int
  | 8 => .int
  | 9 => .array .boolean
  | 10 => .array .int
  | 11 => .array .int
  | 12 => .array .int
  | 13 => .array .int
  | 14 => .int
  | 15 => .int
  | 16 => .int
  | 17 => .int
  | 18 => .array .boolean
  | 19 => .array .int
  | 20 => .int
  | 21 => .array .int
  | 22 => .array .int
  | 23 => .int
  | 24 => .int
  | 25 => .array .int
  | 26 => .array .int
  | 27 => .int
  | 28 => .array .int
  | 29 => .array .int
  | 30 => .array .int
  | 31 => .array .int
  | 32 => .array .int
  | 33 => .array .int
  | 34 => .int
  | 35 => .array .long
  | 36 => .array .int
  | 37 => .array .int
  | 38 => .array .int
  | 39 => .int
  | 40 => .array .int
  | 41 => .array .int
  | 42 => .array .long
  | 43 => .array .int
  | 44 => .array .int
  | 45 => .int
  | 46 => .array .boolean
  | 47 => .array .int
  | _ => .array .int
noncomputable def kft (c k : Nat) : FieldType := match c with
  | 0 => kFt_0 k
  | 1 => kFt_1 k
  | 2 => kFt_2 k
  | 3 => kFt_3 k
  | 4 => kFt_4 k
  | 5 => kFt_5 k
  | 6 => kFt_6 k
  | 7 => kFt_7 k
  | 8 => kFt_8 k
  | 9 => kFt_9 k
  | 10 => kFt_10 k
  | 11 => kFt_11 k
  | 12 => kFt_12 k
  | _ => kFt_13 k
noncomputable def knw (c : Nat) : List Value := match c with
  | 0 => [.null, .int 0, .null, .int 0, .null, .int 0, .int 0, .int 0, .null]
  | 1 => [.null, .long 0, .null, .int 0]
  | 2 => [.null, .int 0, .int 0, .null, .int 0]
  | 3 => [.int 0, .int 0, .int 0, .long 0, .long 0, .null, .null, .null, .null]
  | 4 => [.null, .null, .int 0]
  | 5 => [.null, .int 0]
  | 6 => [.null, .null, .int 0]
  | 7 => [.null, .null, .null]
  | 8 => [.null, .null, .null, .null, .int 0, .null, .null, .null]
  | 9 => [.null, .int 0]
  | 10 => [.int 0, .int 0, .int 0, .null, .null, .null, .null, .null]
  | 11 => [.null, .null]
  | 12 => [.null, .null, .null, .null, .null, .null, .null, .null, .null, .null, .null, .null, .null, .long 0, .int 0]
  | _ => [.int 0, .int 0, .null, .int 0, .int 0, .int 0, .int 0, .int 0, .int 0, .null, .null, .null, .null, .null, .int 0, .int 0, .int 0, .int 0, .null, .null, .int 0, .null, .null, .int 0, .int 0, .null, .null, .int 0, .null, .null, .null, .null, .null, .null, .int 0, .null, .null, .null, .null, .int 0, .null, .null, .null, .null, .null, .int 0, .null, .null, .null]
noncomputable def kraL : List (Nat × Nat × Nat × List Int32) := [(0, 0, 8, [-1, -1, 0, 1, 1, 1, 0, -1]), (1, 0, 8, [0, 1, 1, 1, 0, -1, -1, -1]), (10, 3, 8, [98, 108, 107, 102, 114, 99, 110, 112]), (11, 3, 2, [46, 35]), (12, 3, 8, [98, 108, 107, 102, 114, 99, 110, 112]), (13, 3, 3, [60, 62, 61]), (14, 3, 2, [43, 45]), (15, 3, 2, [42, 47]), (16, 3, 5, [110, 102, 103, 98, 112])]
noncomputable def kra (a : Nat) : Option (Nat × Nat × (Nat → Value)) := match pm_lu kraL a with
  | some (c, n, l) => some (c, n, fun j => .int (l.getD j 0))
  | none => none
noncomputable def kro (a j : Nat) : Option Value := bif Nat.ble 50 a && Nat.blt a 57 then (match j with
  | 0 => some (.ref (1048536 + a))
  | 1 => some (.int 0)
  | _ => none) else none
noncomputable def krof (j : Nat) : String × String × String := match j with
  | 0 => ("java/lang/String", "value", "[B")
  | _ => ("java/lang/String", "coder", "B")
noncomputable def kzs : List (String × String × String × Value) := [("java/lang/String", "COMPACT_STRINGS", "Z", .int 1), ("BonnetValley$Land", "DOWN", "[I", .ref 1048576), ("BonnetValley$Land", "RIGHT", "[I", .ref 1048577), ("jdk/internal/util/Preconditions", "SIOOBE_FORMATTER", "Ljava/util/function/BiFunction;", .ref 1048579)]
noncomputable def krs : List (String × Nat × String × Nat) := [("BonnetValley$Formula", 63, "blkfrcnp", 1048626), ("BonnetValleyModel", 182, ".#", 1048627), ("BonnetValleyModel", 237, "blkfrcnp", 1048628), ("BonnetValleyModel", 242, "<>=", 1048629), ("BonnetValleyModel", 244, "+-", 1048630), ("BonnetValleyModel", 246, "*/", 1048631), ("BonnetValleyModel", 395, "nfgbp", 1048632)]
noncomputable def kaos : List String := ["BonnetValley$State"]
noncomputable def knws : List Cond := [(Jvm.Cond.methodLinkNest "BonnetValley$Land" (68 : Nat) ({ cls := "BonnetValley", name := "hasField", desc := "(JI)Z" } : Jvm.MethodName) "BonnetValley"), (Jvm.Cond.methodLinkNest "BonnetValley$Sight" (125 : Nat) ({ cls := "BonnetValley", name := "hasField", desc := "(JI)Z" } : Jvm.MethodName) "BonnetValley"), (Jvm.Cond.methodLinkNest "BonnetValley$Route" (48 : Nat) ({ cls := "BonnetValley", name := "hasField", desc := "(JI)Z" } : Jvm.MethodName) "BonnetValley")]
noncomputable def kLk_0_0 : List (Nat × pm_L) := [(1, 4, 0, 0, .null), (9, 6, 0, 0, .null), (13, 6, 0, 2, .null)]
noncomputable def kLk_0_1 : List (Nat × pm_L) := [(16, 6, 0, 4, .null), (20, 6, 0, 8, .null), (23, 2, 2, 0, .ref 0), (26, 2, 3, 0, .ref 0), (29, 2, 99, 0, .ref 9)]
noncomputable def kLk_0_2 : List (Nat × pm_L) := [(35, 2, 97, 1, .ref 9), (39, 2, 4, 1, .ref 0), (43, 6, 0, 7, .null), (47, 6, 0, 5, .null)]
noncomputable def kLk_0_3 : List (Nat × pm_L) := [(51, 2, 10, 1, .ref 0), (55, 6, 0, 1, .null), (57, 6, 0, 3, .null), (60, 6, 0, 6, .null), (63, 12, 0, 0, .ref 1048626)]
noncomputable def kLk_0_4 : List (Nat × pm_L) := [(65, 2, 308, 1, .null), (70, 2, 11, 1, .ref 0), (73, 2, 5, 1, .ref 0), (76, 2, 6, 1, .ref 0), (79, 2, 7, 1, .ref 0)]
noncomputable def kLk_0_5 : List (Nat × pm_L) := [(82, 2, 12, 1, .ref 0), (85, 2, 8, 0, .ref 0), (89, 1, 9, 1, .null), (92, 1, 14, 3, .null)]
noncomputable def kLo_0 : List (List (Nat × pm_L)) := [kLk_0_0, kLk_0_1, kLk_0_2, kLk_0_3, kLk_0_4, kLk_0_5]
noncomputable def kLk_1_0 : List (Nat × pm_L) := [(3, 4, 0, 0, .null), (9, 6, 1, 0, .null), (15, 6, 1, 2, .null)]
noncomputable def kLk_1_1 : List (Nat × pm_L) := [(19, 6, 1, 1, .null), (23, 6, 1, 3, .null), (27, 1, 327, 2, .null)]
noncomputable def kLk_1_2 : List (Nat × pm_L) := [(33, 11, 0, 0, .long (10)), (35, 15, 0, 0, .null), (41, 1, 19, 2, .null), (45, 2, 58, 1, .ref 5)]
noncomputable def kLk_1_3 : List (Nat × pm_L) := [(51, 1, 22, 3, .null), (55, 1, 23, 3, .null), (59, 16, 0, 0, .null), (62, 10, 0, 0, .int (1103515245))]
noncomputable def kLo_1 : List (List (Nat × pm_L)) := [kLk_1_0, kLk_1_1, kLk_1_2, kLk_1_3]
noncomputable def kLk_2_0 : List (Nat × pm_L) := [(1, 4, 0, 0, .null), (9, 9, 10, 8, .null), (11, 6, 2, 0, .null), (15, 3, 101, 0, .null)]
noncomputable def kLk_2_1 : List (Nat × pm_L) := [(16, 6, 2, 3, .null), (19, 6, 2, 4, .null), (23, 6, 2, 1, .null), (26, 6, 2, 2, .null), (29, 2, 103, 1, .ref 10)]
noncomputable def kLk_2_2 : List (Nat × pm_L) := [(33, 16, 0, 0, .null)]
noncomputable def kLo_2 : List (List (Nat × pm_L)) := [kLk_2_0, kLk_2_1, kLk_2_2]
noncomputable def kLk_3_0 : List (Nat × pm_L) := [(3, 4, 0, 0, .null), (9, 6, 3, 5, .null), (15, 6, 3, 6, .null)]
noncomputable def kLk_3_1 : List (Nat × pm_L) := [(18, 6, 3, 7, .null), (22, 6, 3, 8, .null), (25, 2, 36, 3, .ref 3), (29, 1, 35, 2, .null)]
noncomputable def kLk_3_2 : List (Nat × pm_L) := [(33, 2, 97, 1, .ref 9), (39, 2, 99, 0, .ref 9), (43, 2, 98, 1, .ref 9), (46, 6, 3, 0, .null)]
noncomputable def kLk_3_3 : List (Nat × pm_L) := [(50, 6, 3, 1, .null), (53, 6, 3, 3, .null), (57, 6, 3, 4, .null), (60, 6, 3, 2, .null), (62, 11, 0, 0, .long (-1))]
noncomputable def kLk_3_4 : List (Nat × pm_L) := [(64, 2, 40, 1, .ref 3), (68, 1, 163, 2, .null), (72, 8, 0, 0, .ref 1048576), (75, 8, 0, 0, .ref 1048577), (78, 2, 44, 2, .ref 3)]
noncomputable def kLk_3_5 : List (Nat × pm_L) := [(82, 2, 45, 1, .ref 3), (85, 16, 0, 0, .null), (90, 2, 49, 1, .ref 3), (94, 1, 47, 2, .null)]
noncomputable def kLk_3_6 : List (Nat × pm_L) := [(97, 15, 0, 0, .null), (100, 17, 0, 0, .null), (103, 2, 50, 3, .ref 3), (107, 1, 51, 2, .null)]
noncomputable def kLo_3 : List (List (Nat × pm_L)) := [kLk_3_0, kLk_3_1, kLk_3_2, kLk_3_3, kLk_3_4, kLk_3_5, kLk_3_6]
noncomputable def kLk_4_0 : List (Nat × pm_L) := [(3, 4, 0, 0, .null), (11, 6, 4, 0, .null), (15, 6, 4, 1, .null)]
noncomputable def kLk_4_1 : List (Nat × pm_L) := [(18, 6, 4, 2, .null), (22, 2, 37, 0, .ref 3), (28, 2, 38, 0, .ref 3), (31, 2, 99, 0, .ref 9)]
noncomputable def kLk_4_2 : List (Nat × pm_L) := [(36, 2, 98, 1, .ref 9), (40, 2, 55, 4, .ref 4), (44, 2, 97, 1, .ref 9), (47, 2, 44, 2, .ref 3)]
noncomputable def kLk_4_3 : List (Nat × pm_L) := [(51, 2, 45, 1, .ref 3)]
noncomputable def kLo_4 : List (List (Nat × pm_L)) := [kLk_4_0, kLk_4_1, kLk_4_2, kLk_4_3]
noncomputable def kLk_5_0 : List (Nat × pm_L) := [(3, 4, 0, 0, .null), (11, 6, 5, 0, .null), (15, 6, 5, 1, .null)]
noncomputable def kLk_5_1 : List (Nat × pm_L) := [(19, 11, 0, 0, .long (-1))]
noncomputable def kLo_5 : List (List (Nat × pm_L)) := [kLk_5_0, kLk_5_1]
noncomputable def kLk_6_0 : List (Nat × pm_L) := [(3, 4, 0, 0, .null), (11, 6, 6, 0, .null), (15, 6, 6, 1, .null)]
noncomputable def kLk_6_1 : List (Nat × pm_L) := [(18, 6, 6, 2, .null), (22, 2, 99, 0, .ref 9), (28, 2, 98, 1, .ref 9)]
noncomputable def kLk_6_2 : List (Nat × pm_L) := [(32, 2, 68, 2, .ref 6), (36, 2, 97, 1, .ref 9), (39, 1, 66, 1, .null), (42, 2, 67, 1, .ref 6)]
noncomputable def kLo_6 : List (List (Nat × pm_L)) := [kLk_6_0, kLk_6_1, kLk_6_2]
noncomputable def kLk_7_0 : List (Nat × pm_L) := [(3, 4, 0, 0, .null), (9, 6, 7, 0, .null), (15, 6, 7, 1, .null)]
noncomputable def kLk_7_1 : List (Nat × pm_L) := [(18, 6, 7, 2, .null), (21, 2, 40, 1, .ref 3), (27, 2, 45, 1, .ref 3), (30, 2, 72, 3, .ref 7)]
noncomputable def kLk_7_2 : List (Nat × pm_L) := [(34, 2, 73, 3, .ref 7), (38, 1, 328, 2, .null), (44, 2, 46, 2, .ref 3)]
noncomputable def kLk_7_3 : List (Nat × pm_L) := [(48, 1, 163, 2, .null)]
noncomputable def kLo_7 : List (List (Nat × pm_L)) := [kLk_7_0, kLk_7_1, kLk_7_2, kLk_7_3]
noncomputable def kLk_8_0 : List (Nat × pm_L) := [(3, 4, 0, 0, .null), (9, 6, 8, 0, .null), (15, 9, 0, 9, .null)]
noncomputable def kLk_8_1 : List (Nat × pm_L) := [(17, 3, 0, 0, .null), (18, 6, 8, 1, .null), (22, 6, 8, 2, .null), (25, 6, 8, 3, .null), (29, 6, 8, 4, .null)]
noncomputable def kLk_8_2 : List (Nat × pm_L) := [(33, 6, 8, 5, .null), (36, 6, 8, 6, .null), (40, 6, 8, 7, .null), (43, 2, 99, 0, .ref 9)]
noncomputable def kLk_8_3 : List (Nat × pm_L) := [(49, 2, 98, 1, .ref 9), (53, 2, 106, 1, .ref 10), (59, 6, 10, 5, .null), (62, 2, 81, 4, .ref 8)]
noncomputable def kLk_8_4 : List (Nat × pm_L) := [(66, 6, 10, 3, .null), (69, 6, 10, 2, .null), (72, 2, 76, 1, .ref 8), (75, 6, 10, 6, .null), (78, 1, 303, 1, .null)]
noncomputable def kLk_8_5 : List (Nat × pm_L) := [(83, 6, 10, 4, .null), (86, 2, 42, 1, .ref 3), (91, 2, 43, 1, .ref 3), (94, 2, 113, 1, .ref 10)]
noncomputable def kLk_8_6 : List (Nat × pm_L) := [(98, 2, 13, 1, .ref 0), (102, 16, 0, 0, .null), (108, 15, 0, 0, .null), (111, 2, 83, 3, .ref 8)]
noncomputable def kLk_8_7 : List (Nat × pm_L) := [(115, 2, 48, 4, .ref 3), (118, 2, 85, 2, .ref 8), (122, 6, 10, 0, .null), (125, 1, 163, 2, .null)]
noncomputable def kLk_8_8 : List (Nat × pm_L) := [(129, 2, 89, 3, .ref 8), (133, 17, 0, 0, .null), (136, 2, 90, 3, .ref 8), (139, 2, 93, 2, .ref 8), (143, 2, 108, 0, .ref 10)]
noncomputable def kLk_8_9 : List (Nat × pm_L) := [(146, 2, 114, 1, .ref 10)]
noncomputable def kLo_8 : List (List (Nat × pm_L)) := [kLk_8_0, kLk_8_1, kLk_8_2, kLk_8_3, kLk_8_4, kLk_8_5, kLk_8_6, kLk_8_7, kLk_8_8, kLk_8_9]
noncomputable def kLk_9_0 : List (Nat × pm_L) := [(1, 4, 0, 0, .null), (9, 6, 9, 0, .null), (13, 6, 9, 1, .null)]
noncomputable def kLk_9_1 : List (Nat × pm_L) := [(17, 2, 97, 1, .ref 9)]
noncomputable def kLo_9 : List (List (Nat × pm_L)) := [kLk_9_0, kLk_9_1]
noncomputable def kLk_10_0 : List (Nat × pm_L) := [(3, 4, 0, 0, .null), (9, 6, 10, 3, .null), (15, 6, 10, 4, .null)]
noncomputable def kLk_10_1 : List (Nat × pm_L) := [(18, 6, 10, 5, .null), (21, 6, 10, 6, .null), (24, 6, 10, 7, .null), (27, 2, 102, 0, .ref 10), (30, 6, 10, 0, .null)]
noncomputable def kLk_10_2 : List (Nat × pm_L) := [(34, 6, 10, 1, .null), (37, 6, 10, 2, .null), (40, 5, 0, 0, .null), (46, 1, 303, 1, .null)]
noncomputable def kLo_10 : List (List (Nat × pm_L)) := [kLk_10_0, kLk_10_1, kLk_10_2]
noncomputable def kLk_11_0 : List (Nat × pm_L) := [(3, 4, 0, 0, .null), (9, 6, 11, 0, .null), (15, 6, 11, 1, .null)]
noncomputable def kLk_11_1 : List (Nat × pm_L) := [(18, 6, 10, 1, .null), (24, 6, 10, 0, .null), (27, 16, 0, 0, .null)]
noncomputable def kLk_11_2 : List (Nat × pm_L) := [(33, 15, 0, 0, .null), (36, 2, 118, 3, .ref 11), (40, 2, 119, 4, .ref 11), (44, 6, 10, 4, .null), (47, 2, 58, 1, .ref 5)]
noncomputable def kLo_11 : List (List (Nat × pm_L)) := [kLk_11_0, kLk_11_1, kLk_11_2]
noncomputable def kLk_12_0 : List (Nat × pm_L) := [(1, 4, 0, 0, .null), (7, 9, 9, 2, .null), (9, 3, 94, 0, .null), (10, 6, 12, 0, .null)]
noncomputable def kLk_12_1 : List (Nat × pm_L) := [(16, 9, 5, 2, .null), (18, 3, 56, 0, .null), (19, 6, 12, 1, .null), (23, 9, 3, 9, .null), (25, 3, 33, 0, .null), (26, 6, 12, 2, .null), (30, 9, 8, 8, .null)]
noncomputable def kLk_12_2 : List (Nat × pm_L) := [(32, 3, 74, 1, .null), (35, 6, 12, 3, .null), (39, 9, 10, 8, .null), (41, 3, 101, 0, .null), (42, 6, 12, 4, .null), (46, 6, 12, 5, .null)]
noncomputable def kLk_12_3 : List (Nat × pm_L) := [(49, 6, 12, 6, .null), (52, 9, 2, 5, .null), (54, 3, 26, 0, .null), (55, 6, 12, 7, .null), (59, 9, 4, 3, .null), (61, 3, 52, 0, .null), (62, 6, 12, 8, .null)]
noncomputable def kLk_12_4 : List (Nat × pm_L) := [(66, 9, 6, 3, .null), (68, 3, 61, 0, .null), (69, 6, 12, 9, .null), (73, 9, 7, 3, .null), (75, 3, 69, 0, .null), (76, 6, 12, 10, .null)]
noncomputable def kLk_12_5 : List (Nat × pm_L) := [(80, 9, 11, 2, .null), (82, 3, 115, 0, .null), (83, 6, 12, 11, .null), (87, 9, 1, 4, .null), (89, 3, 15, 0, .null), (90, 6, 12, 12, .null), (94, 11, 0, 0, .long (-1))]
noncomputable def kLk_12_6 : List (Nat × pm_L) := [(96, 6, 12, 13, .null), (100, 6, 12, 14, .null), (104, 2, 95, 1, .ref 9), (108, 2, 99, 0, .ref 9)]
noncomputable def kLk_12_7 : List (Nat × pm_L) := [(112, 2, 96, 1, .ref 9), (115, 2, 34, 1, .ref 3), (119, 2, 100, 0, .ref 9), (122, 2, 102, 0, .ref 10), (123, 2, 30, 0, .ref 2), (124, 2, 170, 0, .ref 12), (127, 2, 39, 0, .ref 3)]
noncomputable def kLk_12_8 : List (Nat × pm_L) := [(130, 6, 10, 0, .null), (133, 2, 54, 4, .ref 4), (136, 2, 53, 2, .ref 4), (140, 2, 44, 2, .ref 3), (143, 2, 104, 3, .ref 10)]
noncomputable def kLk_12_9 : List (Nat × pm_L) := [(147, 6, 10, 1, .null), (150, 2, 105, 1, .ref 10), (154, 2, 75, 1, .ref 8), (157, 2, 77, 0, .ref 8)]
noncomputable def kLk_12_10 : List (Nat × pm_L) := [(161, 2, 1, 1, .ref 0), (164, 2, 78, 0, .ref 8), (167, 2, 106, 1, .ref 10), (173, 6, 10, 3, .null)]
noncomputable def kLk_12_11 : List (Nat × pm_L) := [(177, 6, 10, 4, .null), (180, 6, 10, 5, .null), (183, 6, 10, 6, .null), (186, 2, 79, 2, .ref 8), (190, 2, 82, 2, .ref 8)]
noncomputable def kLk_12_12 : List (Nat × pm_L) := [(194, 2, 114, 1, .ref 10), (198, 2, 107, 1, .ref 10), (201, 6, 10, 7, .null), (204, 2, 110, 1, .ref 10)]
noncomputable def kLk_12_13 : List (Nat × pm_L) := [(208, 2, 84, 1, .ref 8), (212, 2, 88, 2, .ref 8), (215, 1, 328, 2, .null), (221, 1, 132, 2, .null)]
noncomputable def kLk_12_14 : List (Nat × pm_L) := [(224, 2, 112, 0, .ref 10), (227, 16, 0, 0, .null), (232, 15, 0, 0, .null), (235, 2, 103, 1, .ref 10), (239, 2, 92, 2, .ref 8)]
noncomputable def kLk_12_15 : List (Nat × pm_L) := [(242, 2, 140, 1, .ref 12), (245, 2, 57, 0, .ref 5), (249, 2, 108, 0, .ref 10), (252, 2, 58, 1, .ref 5)]
noncomputable def kLk_12_16 : List (Nat × pm_L) := [(256, 2, 109, 0, .ref 10), (259, 2, 142, 2, .ref 12), (262, 2, 143, 2, .ref 12), (265, 2, 144, 2, .ref 12), (268, 2, 145, 2, .ref 12), (271, 2, 65, 1, .ref 6)]
noncomputable def kLk_12_17 : List (Nat × pm_L) := [(272, 2, 62, 0, .ref 6), (275, 2, 141, 1, .ref 12), (278, 2, 28, 1, .ref 2), (281, 6, 10, 2, .null), (284, 2, 29, 1, .ref 2)]
noncomputable def kLk_12_18 : List (Nat × pm_L) := [(288, 2, 27, 0, .ref 2), (289, 2, 64, 2, .ref 6), (290, 2, 63, 1, .ref 6), (293, 1, 146, 1, .null), (296, 1, 47, 2, .null), (299, 2, 46, 2, .ref 3), (302, 2, 40, 1, .ref 3)]
noncomputable def kLk_12_19 : List (Nat × pm_L) := [(305, 1, 305, 1, .null), (310, 2, 113, 1, .ref 10), (313, 1, 303, 1, .null), (317, 2, 41, 0, .ref 3)]
noncomputable def kLk_12_20 : List (Nat × pm_L) := [(321, 2, 89, 3, .ref 8), (325, 2, 90, 3, .ref 8), (328, 2, 86, 1, .ref 8), (332, 2, 87, 2, .ref 8), (335, 2, 111, 0, .ref 10)]
noncomputable def kLk_12_21 : List (Nat × pm_L) := [(338, 2, 91, 2, .ref 8), (341, 2, 162, 3, .ref 12), (345, 1, 163, 2, .null), (349, 2, 116, 3, .ref 11)]
noncomputable def kLk_12_22 : List (Nat × pm_L) := [(352, 2, 117, 1, .ref 11), (356, 2, 120, 2, .ref 11), (360, 2, 83, 3, .ref 8), (364, 2, 80, 3, .ref 8)]
noncomputable def kLk_12_23 : List (Nat × pm_L) := [(368, 2, 48, 4, .ref 3), (371, 2, 71, 4, .ref 7), (375, 2, 70, 1, .ref 7), (377, 2, 16, 0, .ref 1), (380, 2, 17, 1, .ref 1), (383, 2, 18, 2, .ref 1)]
noncomputable def kLk_12_24 : List (Nat × pm_L) := [(387, 2, 20, 2, .ref 1), (390, 2, 85, 2, .ref 8), (394, 2, 21, 2, .ref 1), (398, 2, 24, 1, .ref 1)]
noncomputable def kLk_12_25 : List (Nat × pm_L) := [(401, 2, 176, 1, .ref 12), (404, 2, 25, 1, .ref 1), (407, 2, 31, 2, .ref 2), (411, 2, 32, 2, .ref 2), (414, 2, 37, 0, .ref 3)]
noncomputable def kLk_12_26 : List (Nat × pm_L) := [(417, 2, 38, 0, .ref 3), (420, 2, 76, 1, .ref 8), (423, 2, 59, 0, .ref 5), (424, 2, 60, 1, .ref 5)]
noncomputable def kLo_12 : List (List (Nat × pm_L)) := [kLk_12_0, kLk_12_1, kLk_12_2, kLk_12_3, kLk_12_4, kLk_12_5, kLk_12_6, kLk_12_7, kLk_12_8, kLk_12_9, kLk_12_10, kLk_12_11, kLk_12_12, kLk_12_13, kLk_12_14, kLk_12_15, kLk_12_16, kLk_12_17, kLk_12_18, kLk_12_19, kLk_12_20, kLk_12_21, kLk_12_22, kLk_12_23, kLk_12_24, kLk_12_25, kLk_12_26]
noncomputable def kLk_13_0 : List (Nat × pm_L) := [(3, 6, 13, 0, .null), (7, 1, 185, 2, .null), (11, 6, 13, 2, .null), (15, 6, 13, 1, .null)]
noncomputable def kLk_13_1 : List (Nat × pm_L) := [(18, 4, 0, 0, .null), (24, 6, 13, 3, .null), (27, 6, 13, 4, .null), (30, 6, 13, 8, .null)]
noncomputable def kLk_13_2 : List (Nat × pm_L) := [(33, 6, 13, 9, .null), (37, 6, 13, 10, .null), (41, 6, 13, 11, .null), (44, 6, 13, 12, .null), (47, 6, 13, 13, .null)]
noncomputable def kLk_13_3 : List (Nat × pm_L) := [(50, 6, 13, 18, .null), (53, 6, 13, 19, .null), (56, 6, 13, 21, .null), (59, 6, 13, 22, .null), (62, 6, 13, 25, .null)]
noncomputable def kLk_13_4 : List (Nat × pm_L) := [(65, 6, 13, 26, .null), (68, 6, 13, 28, .null), (71, 6, 13, 29, .null), (74, 6, 13, 30, .null), (77, 6, 13, 31, .null)]
noncomputable def kLk_13_5 : List (Nat × pm_L) := [(80, 6, 13, 32, .null), (83, 6, 13, 33, .null), (86, 6, 13, 35, .null), (89, 6, 13, 36, .null), (92, 6, 13, 37, .null), (95, 6, 13, 38, .null)]
noncomputable def kLk_13_6 : List (Nat × pm_L) := [(98, 6, 13, 40, .null), (101, 6, 13, 41, .null), (104, 6, 13, 42, .null), (107, 6, 13, 43, .null), (110, 6, 13, 44, .null)]
noncomputable def kLk_13_7 : List (Nat × pm_L) := [(113, 6, 13, 46, .null), (116, 6, 13, 47, .null), (119, 6, 13, 48, .null), (122, 2, 188, 0, .ref 13), (126, 1, 182, 3, .null)]
noncomputable def kLk_13_8 : List (Nat × pm_L) := [(130, 6, 13, 5, .null), (133, 6, 13, 6, .null), (136, 6, 13, 14, .null), (139, 6, 13, 15, .null), (142, 6, 13, 17, .null)]
noncomputable def kLk_13_9 : List (Nat × pm_L) := [(145, 16, 0, 0, .null), (151, 6, 13, 16, .null), (154, 1, 184, 1, .null), (158, 11, 0, 0, .long (48))]
noncomputable def kLk_13_10 : List (Nat × pm_L) := [(160, 11, 0, 0, .long (57)), (162, 2, 306, 0, .null), (167, 2, 307, 1, .null), (171, 2, 197, 0, .ref 13), (175, 2, 195, 1, .ref 13)]
noncomputable def kLk_13_11 : List (Nat × pm_L) := [(179, 2, 200, 2, .ref 13), (182, 12, 0, 0, .ref 1048627), (184, 2, 198, 1, .ref 13), (188, 6, 13, 27, .null), (191, 6, 13, 7, .null)]
noncomputable def kLk_13_12 : List (Nat × pm_L) := [(194, 6, 13, 39, .null), (197, 6, 13, 20, .null), (200, 2, 203, 0, .ref 13), (203, 2, 204, 0, .ref 13), (206, 2, 205, 0, .ref 13)]
noncomputable def kLk_13_13 : List (Nat × pm_L) := [(209, 2, 196, 1, .ref 13), (213, 2, 201, 3, .ref 13), (217, 2, 206, 2, .ref 13), (221, 2, 207, 0, .ref 13)]
noncomputable def kLk_13_14 : List (Nat × pm_L) := [(224, 2, 199, 1, .ref 13), (227, 6, 13, 24, .null), (230, 2, 213, 0, .ref 13), (233, 2, 212, 1, .ref 13), (237, 12, 0, 0, .ref 1048628), (239, 2, 214, 1, .ref 13)]
noncomputable def kLk_13_15 : List (Nat × pm_L) := [(242, 12, 0, 0, .ref 1048629), (244, 12, 0, 0, .ref 1048630), (246, 12, 0, 0, .ref 1048631), (248, 6, 13, 23, .null), (251, 2, 215, 0, .ref 13), (254, 2, 216, 2, .ref 13)]
noncomputable def kLk_13_16 : List (Nat × pm_L) := [(258, 1, 218, 3, .null), (262, 2, 211, 1, .ref 13), (265, 1, 303, 1, .null), (270, 2, 219, 0, .ref 13)]
noncomputable def kLk_13_17 : List (Nat × pm_L) := [(273, 15, 0, 0, .null), (276, 17, 0, 0, .null), (279, 1, 304, 1, .null), (282, 1, 221, 2, .null), (285, 1, 222, 2, .null)]
noncomputable def kLk_13_18 : List (Nat × pm_L) := [(288, 2, 223, 2, .ref 13), (292, 2, 220, 3, .ref 13), (296, 2, 224, 5, .ref 13), (300, 2, 226, 2, .ref 13)]
noncomputable def kLk_13_19 : List (Nat × pm_L) := [(304, 1, 183, 2, .null), (308, 2, 225, 3, .ref 13), (312, 2, 231, 3, .ref 13), (315, 2, 190, 1, .ref 13), (318, 11, 0, 0, .long (5))]
noncomputable def kLk_13_20 : List (Nat × pm_L) := [(320, 2, 181, 0, .ref 13), (323, 2, 228, 2, .ref 13), (327, 2, 191, 1, .ref 13), (330, 11, 0, 0, .long (2)), (332, 2, 233, 2, .ref 13)]
noncomputable def kLk_13_21 : List (Nat × pm_L) := [(336, 2, 230, 2, .ref 13), (339, 11, 0, 0, .long (3)), (341, 2, 239, 1, .ref 13), (344, 2, 232, 3, .ref 13), (347, 2, 242, 1, .ref 13), (351, 11, 0, 0, .long (7))]
noncomputable def kLk_13_22 : List (Nat × pm_L) := [(353, 2, 192, 2, .ref 13), (356, 11, 0, 0, .long (4)), (358, 2, 189, 1, .ref 13), (361, 11, 0, 0, .long (60)), (363, 2, 238, 0, .ref 13), (366, 2, 234, 1, .ref 13)]
noncomputable def kLk_13_23 : List (Nat × pm_L) := [(370, 2, 243, 2, .ref 13), (373, 2, 186, 1, .ref 13), (377, 2, 244, 3, .ref 13), (380, 2, 240, 1, .ref 13), (383, 2, 245, 3, .ref 13)]
noncomputable def kLk_13_24 : List (Nat × pm_L) := [(386, 2, 246, 2, .ref 13), (389, 2, 247, 2, .ref 13), (392, 6, 13, 34, .null), (395, 12, 0, 0, .ref 1048632), (397, 2, 253, 0, .ref 13)]
noncomputable def kLk_13_25 : List (Nat × pm_L) := [(400, 2, 254, 1, .ref 13), (403, 11, 0, 0, .long (-1)), (405, 1, 305, 1, .null), (410, 2, 229, 2, .ref 13), (413, 2, 259, 0, .ref 13)]
noncomputable def kLk_13_26 : List (Nat × pm_L) := [(417, 2, 227, 1, .ref 13), (421, 1, 264, 2, .null), (424, 2, 256, 0, .ref 13), (427, 2, 267, 1, .ref 13), (430, 11, 0, 0, .long (99))]
noncomputable def kLk_13_27 : List (Nat × pm_L) := [(432, 10, 0, 0, .int (1000000)), (433, 2, 271, 3, .ref 13), (437, 1, 274, 2, .null), (440, 2, 273, 2, .ref 13), (443, 2, 275, 3, .ref 13), (446, 2, 279, 3, .ref 13)]
noncomputable def kLk_13_28 : List (Nat × pm_L) := [(450, 2, 280, 3, .ref 13), (454, 2, 285, 0, .ref 13), (457, 11, 0, 0, .long (8)), (459, 11, 0, 0, .long (10)), (461, 11, 0, 0, .long (9)), (463, 1, 291, 3, .null)]
noncomputable def kLk_13_29 : List (Nat × pm_L) := [(466, 11, 0, 0, .long (20)), (468, 1, 292, 3, .null), (471, 6, 13, 45, .null), (474, 10, 0, 0, .int (1103515245)), (475, 2, 294, 1, .ref 13)]
noncomputable def kLo_13 : List (List (Nat × pm_L)) := [kLk_13_0, kLk_13_1, kLk_13_2, kLk_13_3, kLk_13_4, kLk_13_5, kLk_13_6, kLk_13_7, kLk_13_8, kLk_13_9, kLk_13_10, kLk_13_11, kLk_13_12, kLk_13_13, kLk_13_14, kLk_13_15, kLk_13_16, kLk_13_17, kLk_13_18, kLk_13_19, kLk_13_20, kLk_13_21, kLk_13_22, kLk_13_23, kLk_13_24, kLk_13_25, kLk_13_26, kLk_13_27, kLk_13_28, kLk_13_29]
noncomputable def kLk_14_0 : List (Nat × pm_L) := []
noncomputable def kLk_14_1 : List (Nat × pm_L) := []
noncomputable def kLk_14_2 : List (Nat × pm_L) := []
noncomputable def kLk_14_3 : List (Nat × pm_L) := []
noncomputable def kLk_14_4 : List (Nat × pm_L) := [(76, 10, 0, 0, .int (56320))]
noncomputable def kLk_14_5 : List (Nat × pm_L) := []
noncomputable def kLk_14_6 : List (Nat × pm_L) := [(110, 10, 0, 0, .int (55232))]
noncomputable def kLo_14 : List (List (Nat × pm_L)) := [kLk_14_0, kLk_14_1, kLk_14_2, kLk_14_3, kLk_14_4, kLk_14_5, kLk_14_6]
noncomputable def kLk_15_0 : List (Nat × pm_L) := []
noncomputable def kLk_15_1 : List (Nat × pm_L) := []
noncomputable def kLk_15_2 : List (Nat × pm_L) := []
noncomputable def kLk_15_3 : List (Nat × pm_L) := []
noncomputable def kLk_15_4 : List (Nat × pm_L) := []
noncomputable def kLk_15_5 : List (Nat × pm_L) := []
noncomputable def kLk_15_6 : List (Nat × pm_L) := []
noncomputable def kLk_15_7 : List (Nat × pm_L) := []
noncomputable def kLk_15_8 : List (Nat × pm_L) := []
noncomputable def kLk_15_9 : List (Nat × pm_L) := []
noncomputable def kLk_15_10 : List (Nat × pm_L) := []
noncomputable def kLk_15_11 : List (Nat × pm_L) := []
noncomputable def kLk_15_12 : List (Nat × pm_L) := []
noncomputable def kLk_15_13 : List (Nat × pm_L) := []
noncomputable def kLk_15_14 : List (Nat × pm_L) := []
noncomputable def kLk_15_15 : List (Nat × pm_L) := []
noncomputable def kLk_15_16 : List (Nat × pm_L) := [(265, 10, 0, 0, .int (1431655765)), (266, 10, 0, 0, .int (858993459)), (267, 10, 0, 0, .int (252645135))]
noncomputable def kLo_15 : List (List (Nat × pm_L)) := [kLk_15_0, kLk_15_1, kLk_15_2, kLk_15_3, kLk_15_4, kLk_15_5, kLk_15_6, kLk_15_7, kLk_15_8, kLk_15_9, kLk_15_10, kLk_15_11, kLk_15_12, kLk_15_13, kLk_15_14, kLk_15_15, kLk_15_16]
noncomputable def kLk_16_0 : List (Nat × pm_L) := []
noncomputable def kLk_16_1 : List (Nat × pm_L) := []
noncomputable def kLk_16_2 : List (Nat × pm_L) := []
noncomputable def kLk_16_3 : List (Nat × pm_L) := []
noncomputable def kLk_16_4 : List (Nat × pm_L) := []
noncomputable def kLk_16_5 : List (Nat × pm_L) := []
noncomputable def kLk_16_6 : List (Nat × pm_L) := []
noncomputable def kLk_16_7 : List (Nat × pm_L) := []
noncomputable def kLk_16_8 : List (Nat × pm_L) := []
noncomputable def kLk_16_9 : List (Nat × pm_L) := []
noncomputable def kLk_16_10 : List (Nat × pm_L) := []
noncomputable def kLk_16_11 : List (Nat × pm_L) := []
noncomputable def kLk_16_12 : List (Nat × pm_L) := []
noncomputable def kLk_16_13 : List (Nat × pm_L) := []
noncomputable def kLk_16_14 : List (Nat × pm_L) := []
noncomputable def kLk_16_15 : List (Nat × pm_L) := []
noncomputable def kLk_16_16 : List (Nat × pm_L) := []
noncomputable def kLk_16_17 : List (Nat × pm_L) := []
noncomputable def kLk_16_18 : List (Nat × pm_L) := []
noncomputable def kLk_16_19 : List (Nat × pm_L) := [(314, 11, 0, 0, .long (6148914691236517205)), (316, 11, 0, 0, .long (3689348814741910323)), (318, 11, 0, 0, .long (1085102592571150095))]
noncomputable def kLo_16 : List (List (Nat × pm_L)) := [kLk_16_0, kLk_16_1, kLk_16_2, kLk_16_3, kLk_16_4, kLk_16_5, kLk_16_6, kLk_16_7, kLk_16_8, kLk_16_9, kLk_16_10, kLk_16_11, kLk_16_12, kLk_16_13, kLk_16_14, kLk_16_15, kLk_16_16, kLk_16_17, kLk_16_18, kLk_16_19]
noncomputable def kLk_17_0 : List (Nat × pm_L) := [(9, 7, 0, 0, .null), (15, 7, 1, 0, .null)]
noncomputable def kLk_17_1 : List (Nat × pm_L) := []
noncomputable def kLk_17_2 : List (Nat × pm_L) := [(38, 8, 0, 0, .int 1)]
noncomputable def kLk_17_3 : List (Nat × pm_L) := []
noncomputable def kLk_17_4 : List (Nat × pm_L) := []
noncomputable def kLk_17_5 : List (Nat × pm_L) := []
noncomputable def kLk_17_6 : List (Nat × pm_L) := []
noncomputable def kLk_17_7 : List (Nat × pm_L) := []
noncomputable def kLk_17_8 : List (Nat × pm_L) := []
noncomputable def kLk_17_9 : List (Nat × pm_L) := []
noncomputable def kLk_17_10 : List (Nat × pm_L) := []
noncomputable def kLk_17_11 : List (Nat × pm_L) := []
noncomputable def kLk_17_12 : List (Nat × pm_L) := []
noncomputable def kLk_17_13 : List (Nat × pm_L) := []
noncomputable def kLk_17_14 : List (Nat × pm_L) := []
noncomputable def kLk_17_15 : List (Nat × pm_L) := []
noncomputable def kLk_17_16 : List (Nat × pm_L) := []
noncomputable def kLk_17_17 : List (Nat × pm_L) := []
noncomputable def kLk_17_18 : List (Nat × pm_L) := []
noncomputable def kLk_17_19 : List (Nat × pm_L) := []
noncomputable def kLk_17_20 : List (Nat × pm_L) := [(335, 2, 310, 0, .null)]
noncomputable def kLk_17_21 : List (Nat × pm_L) := []
noncomputable def kLk_17_22 : List (Nat × pm_L) := []
noncomputable def kLk_17_23 : List (Nat × pm_L) := []
noncomputable def kLk_17_24 : List (Nat × pm_L) := []
noncomputable def kLk_17_25 : List (Nat × pm_L) := []
noncomputable def kLk_17_26 : List (Nat × pm_L) := []
noncomputable def kLk_17_27 : List (Nat × pm_L) := []
noncomputable def kLk_17_28 : List (Nat × pm_L) := []
noncomputable def kLk_17_29 : List (Nat × pm_L) := []
noncomputable def kLk_17_30 : List (Nat × pm_L) := [(492, 2, 311, 0, .null), (495, 1, 314, 2, .null)]
noncomputable def kLk_17_31 : List (Nat × pm_L) := [(498, 1, 324, 2, .null), (505, 2, 306, 0, .null)]
noncomputable def kLk_17_32 : List (Nat × pm_L) := []
noncomputable def kLk_17_33 : List (Nat × pm_L) := []
noncomputable def kLk_17_34 : List (Nat × pm_L) := []
noncomputable def kLk_17_35 : List (Nat × pm_L) := []
noncomputable def kLk_17_36 : List (Nat × pm_L) := []
noncomputable def kLk_17_37 : List (Nat × pm_L) := []
noncomputable def kLk_17_38 : List (Nat × pm_L) := []
noncomputable def kLk_17_39 : List (Nat × pm_L) := [(633, 2, 309, 2, .null), (637, 1, 316, 4, .null)]
noncomputable def kLk_17_40 : List (Nat × pm_L) := [(640, 1, 320, 4, .null)]
noncomputable def kLk_17_41 : List (Nat × pm_L) := []
noncomputable def kLk_17_42 : List (Nat × pm_L) := []
noncomputable def kLk_17_43 : List (Nat × pm_L) := []
noncomputable def kLk_17_44 : List (Nat × pm_L) := []
noncomputable def kLk_17_45 : List (Nat × pm_L) := []
noncomputable def kLk_17_46 : List (Nat × pm_L) := []
noncomputable def kLk_17_47 : List (Nat × pm_L) := []
noncomputable def kLk_17_48 : List (Nat × pm_L) := []
noncomputable def kLk_17_49 : List (Nat × pm_L) := []
noncomputable def kLk_17_50 : List (Nat × pm_L) := []
noncomputable def kLk_17_51 : List (Nat × pm_L) := []
noncomputable def kLk_17_52 : List (Nat × pm_L) := []
noncomputable def kLk_17_53 : List (Nat × pm_L) := []
noncomputable def kLk_17_54 : List (Nat × pm_L) := []
noncomputable def kLk_17_55 : List (Nat × pm_L) := []
noncomputable def kLk_17_56 : List (Nat × pm_L) := []
noncomputable def kLk_17_57 : List (Nat × pm_L) := []
noncomputable def kLk_17_58 : List (Nat × pm_L) := []
noncomputable def kLk_17_59 : List (Nat × pm_L) := []
noncomputable def kLk_17_60 : List (Nat × pm_L) := []
noncomputable def kLk_17_61 : List (Nat × pm_L) := []
noncomputable def kLk_17_62 : List (Nat × pm_L) := []
noncomputable def kLk_17_63 : List (Nat × pm_L) := []
noncomputable def kLk_17_64 : List (Nat × pm_L) := []
noncomputable def kLk_17_65 : List (Nat × pm_L) := []
noncomputable def kLk_17_66 : List (Nat × pm_L) := [(1059, 1, 329, 3, .null), (1062, 1, 330, 4, .null)]
noncomputable def kLo_17 : List (List (Nat × pm_L)) := [kLk_17_0, kLk_17_1, kLk_17_2, kLk_17_3, kLk_17_4, kLk_17_5, kLk_17_6, kLk_17_7, kLk_17_8, kLk_17_9, kLk_17_10, kLk_17_11, kLk_17_12, kLk_17_13, kLk_17_14, kLk_17_15, kLk_17_16, kLk_17_17, kLk_17_18, kLk_17_19, kLk_17_20, kLk_17_21, kLk_17_22, kLk_17_23, kLk_17_24, kLk_17_25, kLk_17_26, kLk_17_27, kLk_17_28, kLk_17_29, kLk_17_30, kLk_17_31, kLk_17_32, kLk_17_33, kLk_17_34, kLk_17_35, kLk_17_36, kLk_17_37, kLk_17_38, kLk_17_39, kLk_17_40, kLk_17_41, kLk_17_42, kLk_17_43, kLk_17_44, kLk_17_45, kLk_17_46, kLk_17_47, kLk_17_48, kLk_17_49, kLk_17_50, kLk_17_51, kLk_17_52, kLk_17_53, kLk_17_54, kLk_17_55, kLk_17_56, kLk_17_57, kLk_17_58, kLk_17_59, kLk_17_60, kLk_17_61, kLk_17_62, kLk_17_63, kLk_17_64, kLk_17_65, kLk_17_66]
noncomputable def kLk_18_0 : List (Nat × pm_L) := [(9, 1, 312, 2, .null)]
noncomputable def kLk_18_1 : List (Nat × pm_L) := []
noncomputable def kLk_18_2 : List (Nat × pm_L) := [(38, 16, 0, 0, .null)]
noncomputable def kLk_18_3 : List (Nat × pm_L) := []
noncomputable def kLk_18_4 : List (Nat × pm_L) := []
noncomputable def kLk_18_5 : List (Nat × pm_L) := [(88, 1, 315, 1, .null), (92, 15, 0, 0, .null), (95, 1, 317, 4, .null)]
noncomputable def kLo_18 : List (List (Nat × pm_L)) := [kLk_18_0, kLk_18_1, kLk_18_2, kLk_18_3, kLk_18_4, kLk_18_5]
noncomputable def kLk_19_0 : List (Nat × pm_L) := []
noncomputable def kLk_19_1 : List (Nat × pm_L) := []
noncomputable def kLk_19_2 : List (Nat × pm_L) := []
noncomputable def kLk_19_3 : List (Nat × pm_L) := [(48, 1, 319, 1, .null)]
noncomputable def kLk_19_4 : List (Nat × pm_L) := [(67, 1, 325, 2, .null), (71, 1, 318, 2, .null)]
noncomputable def kLk_19_5 : List (Nat × pm_L) := []
noncomputable def kLk_19_6 : List (Nat × pm_L) := [(96, 1, 326, 3, .null)]
noncomputable def kLk_19_7 : List (Nat × pm_L) := []
noncomputable def kLk_19_8 : List (Nat × pm_L) := []
noncomputable def kLk_19_9 : List (Nat × pm_L) := [(157, 1, 301, 1, .null)]
noncomputable def kLk_19_10 : List (Nat × pm_L) := [(161, 1, 302, 1, .null), (164, 1, 300, 1, .null)]
noncomputable def kLk_19_11 : List (Nat × pm_L) := [(183, 16, 0, 0, .null)]
noncomputable def kLk_19_12 : List (Nat × pm_L) := []
noncomputable def kLk_19_13 : List (Nat × pm_L) := []
noncomputable def kLk_19_14 : List (Nat × pm_L) := [(224, 15, 0, 0, .null), (227, 10, 0, 0, .int (65536)), (228, 1, 321, 4, .null), (232, 1, 323, 4, .null)]
noncomputable def kLk_19_15 : List (Nat × pm_L) := [(241, 1, 313, 3, .null), (244, 1, 322, 4, .null)]
noncomputable def kLk_19_16 : List (Nat × pm_L) := []
noncomputable def kLk_19_17 : List (Nat × pm_L) := []
noncomputable def kLk_19_18 : List (Nat × pm_L) := []
noncomputable def kLk_19_19 : List (Nat × pm_L) := []
noncomputable def kLk_19_20 : List (Nat × pm_L) := []
noncomputable def kLk_19_21 : List (Nat × pm_L) := []
noncomputable def kLk_19_22 : List (Nat × pm_L) := []
noncomputable def kLk_19_23 : List (Nat × pm_L) := []
noncomputable def kLk_19_24 : List (Nat × pm_L) := []
noncomputable def kLk_19_25 : List (Nat × pm_L) := [(414, 1, 312, 2, .null)]
noncomputable def kLo_19 : List (List (Nat × pm_L)) := [kLk_19_0, kLk_19_1, kLk_19_2, kLk_19_3, kLk_19_4, kLk_19_5, kLk_19_6, kLk_19_7, kLk_19_8, kLk_19_9, kLk_19_10, kLk_19_11, kLk_19_12, kLk_19_13, kLk_19_14, kLk_19_15, kLk_19_16, kLk_19_17, kLk_19_18, kLk_19_19, kLk_19_20, kLk_19_21, kLk_19_22, kLk_19_23, kLk_19_24, kLk_19_25]
noncomputable def kLk_20_0 : List (Nat × pm_L) := []
noncomputable def kLo_20 : List (List (Nat × pm_L)) := [kLk_20_0]
noncomputable def kLk_21_0 : List (Nat × pm_L) := []
noncomputable def kLo_21 : List (List (Nat × pm_L)) := [kLk_21_0]
noncomputable def kLk_22_0 : List (Nat × pm_L) := [(8, 9, 12, 15, .null)]
noncomputable def kLk_22_1 : List (Nat × pm_L) := [(22, 3, 121, 0, .null), (23, 9, 13, 49, .null), (25, 3, 187, 0, .null), (26, 2, 122, 1, .ref 12), (30, 2, 193, 1, .ref 13), (31, 2, 123, 1, .ref 12)]
noncomputable def kLk_22_2 : List (Nat × pm_L) := [(35, 2, 194, 1, .ref 13), (36, 2, 124, 0, .ref 12), (40, 2, 202, 0, .ref 13), (41, 2, 125, 0, .ref 12), (44, 2, 208, 0, .ref 13), (45, 2, 126, 0, .ref 12)]
noncomputable def kLk_22_3 : List (Nat × pm_L) := [(48, 2, 209, 0, .ref 13), (49, 2, 127, 0, .ref 12), (52, 2, 210, 0, .ref 13), (53, 2, 128, 0, .ref 12), (56, 2, 217, 0, .ref 13), (62, 2, 235, 2, .ref 13)]
noncomputable def kLk_22_4 : List (Nat × pm_L) := [(65, 2, 236, 2, .ref 13), (66, 2, 131, 4, .ref 12), (70, 2, 237, 4, .ref 13), (71, 2, 133, 1, .ref 12), (74, 2, 248, 1, .ref 13), (75, 2, 134, 2, .ref 12), (78, 2, 249, 2, .ref 13), (79, 2, 135, 2, .ref 12)]
noncomputable def kLk_22_5 : List (Nat × pm_L) := [(82, 2, 250, 2, .ref 13), (83, 2, 136, 2, .ref 12), (86, 2, 251, 2, .ref 13), (87, 2, 137, 2, .ref 12), (90, 2, 252, 2, .ref 13), (91, 2, 138, 0, .ref 12), (94, 2, 255, 0, .ref 13), (95, 2, 139, 0, .ref 12)]
noncomputable def kLk_22_6 : List (Nat × pm_L) := [(98, 2, 241, 0, .ref 13), (99, 2, 147, 1, .ref 12), (102, 2, 257, 1, .ref 13), (103, 2, 148, 1, .ref 12), (106, 2, 258, 1, .ref 13), (107, 2, 149, 0, .ref 12), (111, 2, 260, 0, .ref 13)]
noncomputable def kLk_22_7 : List (Nat × pm_L) := [(112, 2, 150, 0, .ref 12), (115, 2, 261, 0, .ref 13), (116, 2, 151, 1, .ref 12), (119, 2, 262, 1, .ref 13), (120, 2, 152, 0, .ref 12), (123, 2, 263, 0, .ref 13), (124, 2, 153, 0, .ref 12), (127, 2, 265, 0, .ref 13)]
noncomputable def kLk_22_8 : List (Nat × pm_L) := [(128, 2, 154, 2, .ref 12), (131, 2, 266, 2, .ref 13), (132, 2, 155, 0, .ref 12), (135, 2, 268, 0, .ref 13), (136, 2, 156, 1, .ref 12), (139, 2, 269, 1, .ref 13), (140, 2, 157, 1, .ref 12), (143, 2, 270, 1, .ref 13)]
noncomputable def kLk_22_9 : List (Nat × pm_L) := [(144, 2, 158, 2, .ref 12), (147, 2, 272, 2, .ref 13), (148, 2, 159, 0, .ref 12), (151, 2, 276, 0, .ref 13), (152, 2, 160, 1, .ref 12), (155, 2, 277, 1, .ref 13), (156, 2, 161, 2, .ref 12), (159, 2, 278, 2, .ref 13)]
noncomputable def kLk_22_10 : List (Nat × pm_L) := [(160, 2, 164, 2, .ref 12), (163, 2, 281, 2, .ref 13), (164, 2, 165, 2, .ref 12), (167, 2, 282, 2, .ref 13), (168, 2, 166, 2, .ref 12), (171, 2, 283, 2, .ref 13), (172, 2, 167, 0, .ref 12), (175, 2, 284, 0, .ref 13)]
noncomputable def kLk_22_11 : List (Nat × pm_L) := [(176, 2, 168, 0, .ref 12), (179, 2, 286, 0, .ref 13), (180, 2, 169, 0, .ref 12), (183, 2, 287, 0, .ref 13), (184, 2, 171, 3, .ref 12), (188, 2, 288, 3, .ref 13), (189, 2, 172, 2, .ref 12)]
noncomputable def kLk_22_12 : List (Nat × pm_L) := [(192, 2, 289, 2, .ref 13), (193, 2, 173, 0, .ref 12), (196, 2, 290, 0, .ref 13), (197, 2, 174, 1, .ref 12), (200, 2, 293, 1, .ref 13), (201, 2, 175, 2, .ref 12), (204, 2, 295, 2, .ref 13), (205, 2, 177, 1, .ref 12)]
noncomputable def kLk_22_13 : List (Nat × pm_L) := [(208, 2, 296, 1, .ref 13), (209, 2, 178, 1, .ref 12), (212, 2, 297, 1, .ref 13), (213, 2, 179, 1, .ref 12), (216, 2, 298, 1, .ref 13), (220, 2, 299, 1, .ref 13)]
noncomputable def kLo_22 : List (List (Nat × pm_L)) := [kLk_22_0, kLk_22_1, kLk_22_2, kLk_22_3, kLk_22_4, kLk_22_5, kLk_22_6, kLk_22_7, kLk_22_8, kLk_22_9, kLk_22_10, kLk_22_11, kLk_22_12, kLk_22_13]
noncomputable def klks : pm_Lks := [("BonnetValley$Formula", kLo_0), ("BonnetValley$Games", kLo_1), ("BonnetValley$History", kLo_2), ("BonnetValley$Land", kLo_3), ("BonnetValley$Lines", kLo_4), ("BonnetValley$Numbers", kLo_5), ("BonnetValley$Plan", kLo_6), ("BonnetValley$Route", kLo_7), ("BonnetValley$Sight", kLo_8), ("BonnetValley$Signs", kLo_9), ("BonnetValley$State", kLo_10), ("BonnetValley$Turning", kLo_11), ("BonnetValley", kLo_12), ("BonnetValleyModel", kLo_13), ("java/lang/Character", kLo_14), ("java/lang/Integer", kLo_15), ("java/lang/Long", kLo_16), ("java/lang/String", kLo_17), ("java/lang/StringLatin1", kLo_18), ("java/lang/StringUTF16", kLo_19), ("java/util/Arrays", kLo_20), ("jdk/internal/util/Preconditions", kLo_21), ("BonnetValleyLaw", kLo_22)]
/-- BV$Formula.new -/
noncomputable def kc_0 : List (List (Nat × Nat × Instr × Nat)) := [[(0, 2, .aload_n kF0, 0), (1, 5, .invokespecial 1, 0), (4, 2, .aload_n kF0, 0), (5, 1, .bipush 40, 0), (7, 5, .newarray .int, 0), (9, 5, .putfield 9, 0), (12, 2, .aload_n kF0, 0), (13, 1, .bipush 40, 0), (15, 5, .newarray .int, 0)],
  [(17, 5, .putfield 13, 0), (20, 2, .aload_n kF0, 0), (21, 0, .iconst 5, 0), (22, 5, .newarray .boolean, 0), (24, 5, .putfield 16, 0), (27, 2, .aload_n kF0, 0), (28, 1, .bipush 40, 0), (30, 5, .newarray .int, 0)],
  [(32, 5, .putfield 20, 0), (35, 2, .aload_n kF0, 0), (36, 6, .invokevirtual 23, 0), (39, 2, .aload_n kF0, 0), (40, 6, .invokevirtual 26, 0), (43, 7, .return_, 0)]]
noncomputable def ky_0 : MethodName := ({ cls := "BonnetValley$Formula", name := "<init>", desc := "()V" } : Jvm.MethodName)
noncomputable def kRow_0 : pm_Row := ((ky_0, prog_2_method_1_code, 1, (Option.none : Option Jvm.ClassFile.FieldType)), 0, (0, 1, 0), kc_0)
/-- BV$Formula.read -/
noncomputable def kc_1 : List (List (Nat × Nat × Instr × Nat)) := [[(0, 2, .aload_n kF0, 0), (1, 6, .invokevirtual 23, 0), (4, 2, .aload_n kF1, 0), (5, 6, .invokevirtual 29, 0), (8, 3, .istore_n kF2, 0), (9, 2, .iload_n kF2, 0), (10, 4, .ifCond .ne 9, 19), (13, 2, .aload_n kF0, 0), (14, 6, .invokevirtual 26, 0)],
  [(17, 0, .iconst (-1), 0), (18, 7, .ireturn, 0), (19, 0, .iconst 0, 0), (20, 3, .istore_n kF3, 0), (21, 2, .iload_n kF3, 0), (22, 2, .iload_n kF2, 0), (23, 4, .if_icmp .ge 29, 52), (26, 2, .iload_n kF3, 0), (27, 1, .bipush 40, 0), (29, 4, .if_icmp .eq 15, 44)],
  [(32, 2, .aload_n kF0, 0), (33, 2, .aload_n kF1, 0), (34, 2, .iload_n kF3, 0), (35, 6, .invokevirtual 35, 0), (38, 6, .invokevirtual 39, 0), (41, 4, .ifCond .ne 5, 46), (44, 2, .iload_n kF3, 0), (45, 7, .ireturn, 0), (46, 3, .iinc 3 1, 0)],
  [(49, 4, .goto (-28), 21), (52, 2, .aload_n kF0, 0), (53, 5, .getfield 43, 0), (56, 4, .ifCond .ne 10, 66), (59, 2, .aload_n kF0, 0), (60, 5, .getfield 47, 0), (63, 4, .ifCond .le 5, 68)],
  [(66, 2, .iload_n kF2, 0), (67, 7, .ireturn, 0), (68, 2, .aload_n kF0, 0), (69, 0, .iconst 1, 0), (70, 6, .invokevirtual 51, 0), (73, 0, .iconst (-1), 0), (74, 7, .ireturn, 0)]]
noncomputable def ky_1 : MethodName := ({ cls := "BonnetValley$Formula", name := "read", desc := "(LBonnetValley$Signs;)I" } : Jvm.MethodName)
noncomputable def kRow_1 : pm_Row := ((ky_1, prog_2_method_2_code, 4, (Option.some Jvm.ClassFile.FieldType.int)), 0, (1, 4, 1), kc_1)
/-- BV$Formula.start -/
noncomputable def kc_2 : List (List (Nat × Nat × Instr × Nat)) := [[(0, 2, .aload_n kF0, 0), (1, 0, .iconst 0, 0), (2, 5, .putfield 55, 0), (5, 2, .aload_n kF0, 0), (6, 0, .iconst 0, 0), (7, 5, .putfield 57, 0), (10, 2, .aload_n kF0, 0), (11, 0, .iconst 0, 0), (12, 5, .putfield 47, 0), (15, 2, .aload_n kF0, 0)],
  [(16, 0, .iconst 0, 0), (17, 5, .putfield 60, 0), (20, 2, .aload_n kF0, 0), (21, 0, .iconst 1, 0), (22, 5, .putfield 43, 0), (25, 2, .aload_n kF0, 0), (26, 5, .getfield 16, 0), (29, 0, .iconst 0, 0), (30, 0, .iconst 0, 0), (31, 5, .bastore, 0)],
  [(32, 7, .return_, 0)]]
noncomputable def ky_2 : MethodName := ({ cls := "BonnetValley$Formula", name := "start", desc := "()V" } : Jvm.MethodName)
noncomputable def kRow_2 : pm_Row := ((ky_2, prog_2_method_3_code, 1, (Option.none : Option Jvm.ClassFile.FieldType)), 0, (0, 1, 0), kc_2)
/-- BV$Formula.takeDefault -/
noncomputable def kc_3 : List (List (Nat × Nat × Instr × Nat)) := [[(0, 2, .aload_n kF0, 0), (1, 1, .sipush 1000, 0), (4, 1, .ldc 63, 0), (6, 1, .bipush 108, 0), (8, 6, .invokevirtual 65, 0), (11, 0, .iadd, 0), (12, 6, .invokevirtual 70, 0), (15, 2, .aload_n kF0, 0)],
  [(16, 1, .sipush 1000, 0), (19, 1, .ldc 63, 0), (21, 1, .bipush 98, 0), (23, 6, .invokevirtual 65, 0), (26, 0, .iadd, 0), (27, 6, .invokevirtual 70, 0), (30, 2, .aload_n kF0, 0), (31, 1, .bipush (-45), 0)],
  [(33, 6, .invokevirtual 70, 0), (36, 7, .return_, 0)]]
noncomputable def ky_3 : MethodName := ({ cls := "BonnetValley$Formula", name := "takeDefault", desc := "()V" } : Jvm.MethodName)
noncomputable def kRow_3 : pm_Row := ((ky_3, prog_2_method_4_code, 1, (Option.none : Option Jvm.ClassFile.FieldType)), 0, (0, 1, 0), kc_3)
/-- BV$Formula.take -/
noncomputable def kc_4 : List (List (Nat × Nat × Instr × Nat)) := [[(0, 2, .iload_n kF1, 0), (1, 1, .bipush 48, 0), (3, 4, .if_icmp .lt 18, 21), (6, 2, .iload_n kF1, 0), (7, 1, .bipush 57, 0), (9, 4, .if_icmp .gt 12, 21), (12, 2, .aload_n kF0, 0), (13, 2, .iload_n kF1, 0), (14, 1, .bipush 48, 0)],
  [(16, 0, .isub, 0), (17, 6, .invokevirtual 73, 0), (20, 7, .ireturn, 0), (21, 2, .aload_n kF0, 0), (22, 0, .iconst 0, 0), (23, 5, .putfield 60, 0), (26, 2, .aload_n kF0, 0), (27, 5, .getfield 43, 0), (30, 4, .ifCond .eq 11, 41)],
  [(33, 2, .aload_n kF0, 0), (34, 2, .iload_n kF1, 0), (35, 6, .invokevirtual 76, 0), (38, 4, .goto 8, 46), (41, 2, .aload_n kF0, 0), (42, 2, .iload_n kF1, 0), (43, 6, .invokevirtual 79, 0), (46, 7, .ireturn, 0)]]
noncomputable def ky_4 : MethodName := ({ cls := "BonnetValley$Formula", name := "take", desc := "(I)Z" } : Jvm.MethodName)
noncomputable def kRow_4 : pm_Row := ((ky_4, prog_2_method_5_code, 2, (Option.some Jvm.ClassFile.FieldType.boolean)), 0, (1, 2, 2), kc_4)
/-- BV$Formula.takeDigit -/
noncomputable def kc_5 : List (List (Nat × Nat × Instr × Nat)) := [[(0, 2, .aload_n kF0, 0), (1, 5, .getfield 43, 0), (4, 4, .ifCond .eq 20, 24), (7, 2, .aload_n kF0, 0), (8, 2, .iload_n kF1, 0), (9, 6, .invokevirtual 70, 0), (12, 2, .aload_n kF0, 0), (13, 0, .iconst 1, 0), (14, 5, .putfield 60, 0)],
  [(17, 2, .aload_n kF0, 0), (18, 0, .iconst 0, 0), (19, 5, .putfield 43, 0), (22, 0, .iconst 1, 0), (23, 7, .ireturn, 0), (24, 2, .aload_n kF0, 0), (25, 5, .getfield 60, 0), (28, 0, .iconst 1, 0), (29, 4, .if_icmp .lt 19, 48)],
  [(32, 2, .aload_n kF0, 0), (33, 5, .getfield 60, 0), (36, 0, .iconst 2, 0), (37, 4, .if_icmp .gt 11, 48), (40, 2, .aload_n kF0, 0), (41, 5, .getfield 55, 0), (44, 0, .iconst 1, 0), (45, 4, .if_icmp .ge 5, 50)],
  [(48, 0, .iconst 0, 0), (49, 7, .ireturn, 0), (50, 2, .aload_n kF0, 0), (51, 5, .getfield 9, 0), (54, 2, .aload_n kF0, 0), (55, 5, .getfield 55, 0), (58, 0, .iconst 1, 0), (59, 0, .isub, 0), (60, 2, .aload_n kF0, 0), (61, 5, .getfield 9, 0)],
  [(64, 2, .aload_n kF0, 0), (65, 5, .getfield 55, 0), (68, 0, .iconst 1, 0), (69, 0, .isub, 0), (70, 5, .iaload, 0), (71, 1, .bipush 10, 0), (73, 0, .imul, 0), (74, 2, .iload_n kF1, 0), (75, 0, .iadd, 0), (76, 5, .iastore, 0), (77, 2, .aload_n kF0, 0), (78, 0, .dup, 0), (79, 5, .getfield 60, 0)],
  [(82, 0, .iconst 1, 0), (83, 0, .iadd, 0), (84, 5, .putfield 60, 0), (87, 0, .iconst 1, 0), (88, 7, .ireturn, 0)]]
noncomputable def ky_5 : MethodName := ({ cls := "BonnetValley$Formula", name := "takeDigit", desc := "(I)Z" } : Jvm.MethodName)
noncomputable def kRow_5 : pm_Row := ((ky_5, prog_2_method_6_code, 2, (Option.some Jvm.ClassFile.FieldType.boolean)), 0, (1, 2, 2), kc_5)
/-- BV$Formula.takeThing -/
noncomputable def kc_6 : List (List (Nat × Nat × Instr × Nat)) := [[(0, 2, .iload_n kF1, 0), (1, 1, .bipush 45, 0), (3, 4, .if_icmp .ne 11, 14), (6, 2, .aload_n kF0, 0), (7, 1, .bipush 109, 0), (9, 6, .invokevirtual 82, 0), (12, 0, .iconst 1, 0), (13, 7, .ireturn, 0), (14, 2, .iload_n kF1, 0), (15, 1, .bipush 40, 0)],
  [(17, 4, .if_icmp .ne 48, 65), (20, 2, .aload_n kF0, 0), (21, 5, .getfield 47, 0), (24, 4, .ifCond .lt 11, 35), (27, 2, .aload_n kF0, 0), (28, 5, .getfield 47, 0), (31, 0, .iconst 4, 0)],
  [(32, 4, .if_icmp .lt 5, 37), (35, 0, .iconst 0, 0), (36, 7, .ireturn, 0), (37, 2, .aload_n kF0, 0), (38, 0, .dup, 0), (39, 5, .getfield 47, 0), (42, 0, .iconst 1, 0), (43, 0, .iadd, 0), (44, 5, .putfield 47, 0), (47, 2, .aload_n kF0, 0)],
  [(48, 5, .getfield 16, 0), (51, 2, .aload_n kF0, 0), (52, 5, .getfield 47, 0), (55, 0, .iconst 0, 0), (56, 5, .bastore, 0), (57, 2, .aload_n kF0, 0), (58, 1, .bipush 40, 0), (60, 6, .invokevirtual 82, 0), (63, 0, .iconst 1, 0)],
  [(64, 7, .ireturn, 0), (65, 1, .ldc 63, 0), (67, 2, .iload_n kF1, 0), (68, 0, .i2c, 0), (69, 6, .invokevirtual 65, 0), (72, 3, .istore_n kF2, 0), (73, 2, .iload_n kF2, 0), (74, 4, .ifCond .ge 5, 79), (77, 0, .iconst 0, 0), (78, 7, .ireturn, 0), (79, 2, .aload_n kF0, 0)],
  [(80, 1, .sipush 1000, 0), (83, 2, .iload_n kF2, 0), (84, 0, .iadd, 0), (85, 6, .invokevirtual 70, 0), (88, 2, .aload_n kF0, 0), (89, 0, .iconst 0, 0), (90, 5, .putfield 43, 0), (93, 0, .iconst 1, 0), (94, 7, .ireturn, 0)]]
noncomputable def ky_6 : MethodName := ({ cls := "BonnetValley$Formula", name := "takeThing", desc := "(I)Z" } : Jvm.MethodName)
noncomputable def kRow_6 : pm_Row := ((ky_6, prog_2_method_7_code, 3, (Option.some Jvm.ClassFile.FieldType.boolean)), 0, (1, 3, 2), kc_6)
/-- BV$Formula.takeOperator -/
noncomputable def kc_7 : List (List (Nat × Nat × Instr × Nat)) := [[(0, 2, .iload_n kF1, 0), (1, 1, .bipush 41, 0), (3, 4, .if_icmp .ne 8, 11), (6, 2, .aload_n kF0, 0), (7, 6, .invokevirtual 85, 0), (10, 7, .ireturn, 0), (11, 2, .iload_n kF1, 0), (12, 6, .invokestatic 89, 0), (15, 3, .istore_n kF2, 0)],
  [(16, 2, .iload_n kF2, 0), (17, 4, .ifCond .eq 23, 40), (20, 2, .iload_n kF2, 0), (21, 0, .iconst 3, 0), (22, 4, .if_icmp .gt 18, 40), (25, 2, .aload_n kF0, 0), (26, 5, .getfield 47, 0), (29, 4, .ifCond .lt 11, 40)],
  [(32, 2, .aload_n kF0, 0), (33, 5, .getfield 47, 0), (36, 0, .iconst 4, 0), (37, 4, .if_icmp .le 5, 42), (40, 0, .iconst 0, 0), (41, 7, .ireturn, 0), (42, 2, .iload_n kF2, 0), (43, 0, .iconst 1, 0), (44, 4, .if_icmp .ne 27, 71), (47, 2, .aload_n kF0, 0)],
  [(48, 5, .getfield 16, 0), (51, 2, .aload_n kF0, 0), (52, 5, .getfield 47, 0), (55, 5, .baload, 0), (56, 4, .ifCond .eq 5, 61), (59, 0, .iconst 0, 0), (60, 7, .ireturn, 0), (61, 2, .aload_n kF0, 0), (62, 5, .getfield 16, 0)],
  [(65, 2, .aload_n kF0, 0), (66, 5, .getfield 47, 0), (69, 0, .iconst 1, 0), (70, 5, .bastore, 0), (71, 2, .aload_n kF0, 0), (72, 2, .iload_n kF2, 0), (73, 6, .invokevirtual 51, 0), (76, 2, .aload_n kF0, 0), (77, 2, .iload_n kF1, 0), (78, 6, .invokevirtual 82, 0)],
  [(81, 2, .aload_n kF0, 0), (82, 0, .iconst 1, 0), (83, 5, .putfield 43, 0), (86, 0, .iconst 1, 0), (87, 7, .ireturn, 0)]]
noncomputable def ky_7 : MethodName := ({ cls := "BonnetValley$Formula", name := "takeOperator", desc := "(I)Z" } : Jvm.MethodName)
noncomputable def kRow_7 : pm_Row := ((ky_7, prog_2_method_8_code, 3, (Option.some Jvm.ClassFile.FieldType.boolean)), 0, (1, 3, 2), kc_7)
/-- BV$Formula.closeBracket -/
noncomputable def kc_8 : List (List (Nat × Nat × Instr × Nat)) := [[(0, 2, .aload_n kF0, 0), (1, 5, .getfield 47, 0), (4, 4, .ifCond .ne 5, 9), (7, 0, .iconst 0, 0), (8, 7, .ireturn, 0), (9, 2, .aload_n kF0, 0), (10, 0, .dup, 0), (11, 5, .getfield 47, 0), (14, 0, .iconst 1, 0), (15, 0, .isub, 0)],
  [(16, 5, .putfield 47, 0), (19, 2, .aload_n kF0, 0), (20, 0, .iconst 1, 0), (21, 6, .invokevirtual 51, 0), (24, 2, .aload_n kF0, 0), (25, 5, .getfield 57, 0), (28, 4, .ifCond .le 13, 41), (31, 2, .aload_n kF0, 0)],
  [(32, 0, .dup, 0), (33, 5, .getfield 57, 0), (36, 0, .iconst 1, 0), (37, 0, .isub, 0), (38, 5, .putfield 57, 0), (41, 0, .iconst 1, 0), (42, 7, .ireturn, 0)]]
noncomputable def ky_8 : MethodName := ({ cls := "BonnetValley$Formula", name := "closeBracket", desc := "()Z" } : Jvm.MethodName)
noncomputable def kRow_8 : pm_Row := ((ky_8, prog_2_method_9_code, 1, (Option.some Jvm.ClassFile.FieldType.boolean)), 0, (0, 1, 2), kc_8)
/-- BV$Formula.bindingOf -/
noncomputable def kc_9 : List (List (Nat × Nat × Instr × Nat)) := [[(0, 2, .iload_n kF0, 0), (1, 4, .lookupswitch 83 #[(42, 79), (43, 77), (45, 77), (47, 79), (60, 75), (61, 75), (62, 75), (109, 81)], 75)],
  [],
  [],
  [],
  [(76, 0, .iconst 1, 0), (77, 7, .ireturn, 0), (78, 0, .iconst 2, 0), (79, 7, .ireturn, 0)],
  [(80, 0, .iconst 3, 0), (81, 7, .ireturn, 0), (82, 0, .iconst 4, 0), (83, 7, .ireturn, 0), (84, 0, .iconst 0, 0), (85, 7, .ireturn, 0)]]
noncomputable def ky_9 : MethodName := ({ cls := "BonnetValley$Formula", name := "bindingOf", desc := "(I)I" } : Jvm.MethodName)
noncomputable def kRow_9 : pm_Row := ((ky_9, prog_2_method_10_code, 1, (Option.some Jvm.ClassFile.FieldType.int)), 0, (1, 1, 1), kc_9)
/-- BV$Formula.release -/
noncomputable def kc_10 : List (List (Nat × Nat × Instr × Nat)) := [[(0, 2, .aload_n kF0, 0), (1, 5, .getfield 57, 0), (4, 4, .ifCond .le 48, 52), (7, 2, .aload_n kF0, 0), (8, 5, .getfield 13, 0), (11, 2, .aload_n kF0, 0), (12, 5, .getfield 57, 0), (15, 0, .iconst 1, 0)],
  [(16, 0, .isub, 0), (17, 5, .iaload, 0), (18, 6, .invokestatic 89, 0), (21, 2, .iload_n kF1, 0), (22, 4, .if_icmp .lt 30, 52), (25, 2, .aload_n kF0, 0), (26, 0, .dup, 0), (27, 5, .getfield 57, 0), (30, 0, .iconst 1, 0), (31, 0, .isub, 0)],
  [(32, 5, .putfield 57, 0), (35, 2, .aload_n kF0, 0), (36, 2, .aload_n kF0, 0), (37, 5, .getfield 13, 0), (40, 2, .aload_n kF0, 0), (41, 5, .getfield 57, 0), (44, 5, .iaload, 0), (45, 0, .ineg, 0), (46, 6, .invokevirtual 70, 0)],
  [(49, 4, .goto (-49), 0), (52, 7, .return_, 0)]]
noncomputable def ky_10 : MethodName := ({ cls := "BonnetValley$Formula", name := "release", desc := "(I)V" } : Jvm.MethodName)
noncomputable def kRow_10 : pm_Row := ((ky_10, prog_2_method_11_code, 2, (Option.none : Option Jvm.ClassFile.FieldType)), 0, (1, 2, 0), kc_10)
/-- BV$Formula.emit -/
noncomputable def kc_11 : List (List (Nat × Nat × Instr × Nat)) := [[(0, 2, .aload_n kF0, 0), (1, 5, .getfield 55, 0), (4, 4, .ifCond .lt 32, 36), (7, 2, .aload_n kF0, 0), (8, 5, .getfield 55, 0), (11, 1, .bipush 40, 0), (13, 4, .if_icmp .ge 23, 36)],
  [(16, 2, .aload_n kF0, 0), (17, 5, .getfield 9, 0), (20, 2, .aload_n kF0, 0), (21, 5, .getfield 55, 0), (24, 2, .iload_n kF1, 0), (25, 5, .iastore, 0), (26, 2, .aload_n kF0, 0), (27, 0, .dup, 0), (28, 5, .getfield 55, 0), (31, 0, .iconst 1, 0)],
  [(32, 0, .iadd, 0), (33, 5, .putfield 55, 0), (36, 7, .return_, 0)]]
noncomputable def ky_11 : MethodName := ({ cls := "BonnetValley$Formula", name := "emit", desc := "(I)V" } : Jvm.MethodName)
noncomputable def kRow_11 : pm_Row := ((ky_11, prog_2_method_12_code, 2, (Option.none : Option Jvm.ClassFile.FieldType)), 0, (1, 2, 0), kc_11)
/-- BV$Formula.hold -/
noncomputable def kc_12 : List (List (Nat × Nat × Instr × Nat)) := [[(0, 2, .aload_n kF0, 0), (1, 5, .getfield 57, 0), (4, 4, .ifCond .lt 32, 36), (7, 2, .aload_n kF0, 0), (8, 5, .getfield 57, 0), (11, 1, .bipush 40, 0), (13, 4, .if_icmp .ge 23, 36)],
  [(16, 2, .aload_n kF0, 0), (17, 5, .getfield 13, 0), (20, 2, .aload_n kF0, 0), (21, 5, .getfield 57, 0), (24, 2, .iload_n kF1, 0), (25, 5, .iastore, 0), (26, 2, .aload_n kF0, 0), (27, 0, .dup, 0), (28, 5, .getfield 57, 0), (31, 0, .iconst 1, 0)],
  [(32, 0, .iadd, 0), (33, 5, .putfield 57, 0), (36, 7, .return_, 0)]]
noncomputable def ky_12 : MethodName := ({ cls := "BonnetValley$Formula", name := "hold", desc := "(I)V" } : Jvm.MethodName)
noncomputable def kRow_12 : pm_Row := ((ky_12, prog_2_method_13_code, 2, (Option.none : Option Jvm.ClassFile.FieldType)), 0, (1, 2, 0), kc_12)
/-- BV$Formula.value -/
noncomputable def kc_13 : List (List (Nat × Nat × Instr × Nat)) := [[(0, 0, .iconst 0, 0), (1, 3, .istore_n kF2, 0), (2, 0, .iconst 0, 0), (3, 3, .istore_n kF3, 0), (4, 2, .iload_n kF3, 0), (5, 2, .aload_n kF0, 0), (6, 5, .getfield 55, 0), (9, 4, .if_icmp .ge 157, 166), (12, 2, .iload_n kF3, 0), (13, 1, .bipush 40, 0), (15, 4, .if_icmp .ge 151, 166)],
  [(18, 2, .aload_n kF0, 0), (19, 5, .getfield 9, 0), (22, 2, .iload_n kF3, 0), (23, 5, .iaload, 0), (24, 3, .istore 4, 0), (26, 2, .iload 4, 0), (28, 4, .ifCond .lt 65, 93), (31, 2, .iload_n kF2, 0)],
  [(32, 1, .bipush 40, 0), (34, 4, .if_icmp .ge 59, 93), (37, 2, .iload 4, 0), (39, 1, .sipush 1000, 0), (42, 4, .if_icmp .lt 18, 60), (45, 2, .iload 4, 0), (47, 1, .sipush 1000, 0)],
  [(50, 0, .isub, 0), (51, 2, .aload_n kF1, 0), (52, 5, .arraylength, 0), (53, 4, .if_icmp .ge 7, 60), (56, 0, .iconst 1, 0), (57, 4, .goto 4, 61), (60, 0, .iconst 0, 0), (61, 3, .istore 5, 0), (63, 2, .aload_n kF0, 0)],
  [(64, 5, .getfield 20, 0), (67, 2, .iload_n kF2, 0), (68, 2, .iload 5, 0), (70, 4, .ifCond .eq 14, 84), (73, 2, .aload_n kF1, 0), (74, 2, .iload 4, 0), (76, 1, .sipush 1000, 0), (79, 0, .isub, 0)],
  [(80, 5, .iaload, 0), (81, 4, .goto 5, 86), (84, 2, .iload 4, 0), (86, 5, .iastore, 0), (87, 3, .iinc 2 1, 0), (90, 4, .goto 70, 160), (93, 2, .iload 4, 0), (95, 1, .bipush (-109), 0)],
  [(97, 4, .if_icmp .ne 27, 124), (100, 2, .iload_n kF2, 0), (101, 4, .ifCond .le 23, 124), (104, 2, .aload_n kF0, 0), (105, 5, .getfield 20, 0), (108, 2, .iload_n kF2, 0), (109, 0, .iconst 1, 0), (110, 0, .isub, 0), (111, 2, .aload_n kF0, 0)],
  [(112, 5, .getfield 20, 0), (115, 2, .iload_n kF2, 0), (116, 0, .iconst 1, 0), (117, 0, .isub, 0), (118, 5, .iaload, 0), (119, 0, .ineg, 0), (120, 5, .iastore, 0), (121, 4, .goto 39, 160), (124, 2, .iload_n kF2, 0), (125, 0, .iconst 1, 0), (126, 4, .if_icmp .le 34, 160)],
  [(129, 3, .iinc 2 (-1), 0), (132, 2, .aload_n kF0, 0), (133, 5, .getfield 20, 0), (136, 2, .iload_n kF2, 0), (137, 0, .iconst 1, 0), (138, 0, .isub, 0), (139, 2, .iload 4, 0), (141, 0, .ineg, 0), (142, 2, .aload_n kF0, 0), (143, 5, .getfield 20, 0)],
  [(146, 2, .iload_n kF2, 0), (147, 0, .iconst 1, 0), (148, 0, .isub, 0), (149, 5, .iaload, 0), (150, 2, .aload_n kF0, 0), (151, 5, .getfield 20, 0), (154, 2, .iload_n kF2, 0), (155, 5, .iaload, 0), (156, 6, .invokestatic 92, 0), (159, 5, .iastore, 0)],
  [(160, 3, .iinc 3 1, 0), (163, 4, .goto (-159), 4), (166, 2, .aload_n kF0, 0), (167, 5, .getfield 20, 0), (170, 0, .iconst 0, 0), (171, 5, .iaload, 0), (172, 7, .ireturn, 0)]]
noncomputable def ky_13 : MethodName := ({ cls := "BonnetValley$Formula", name := "value", desc := "([I)I" } : Jvm.MethodName)
noncomputable def kRow_13 : pm_Row := ((ky_13, prog_2_method_14_code, 6, (Option.some Jvm.ClassFile.FieldType.int)), 0, (1, 6, 1), kc_13)
/-- BV$Formula.combine -/
noncomputable def kc_14 : List (List (Nat × Nat × Instr × Nat)) := [[(0, 2, .iload_n kF0, 0), (1, 4, .tableswitch 156 42 62 #[140, 132, 156, 136, 156, 144, 156, 156, 156, 156, 156, 156, 156, 156, 156, 156, 156, 156, 99, 121, 110], 99)],
  [],
  [],
  [],
  [],
  [],
  [(100, 2, .iload_n kF1, 0), (101, 2, .iload_n kF2, 0), (102, 4, .if_icmp .ge 7, 109), (105, 0, .iconst 1, 0), (106, 4, .goto 4, 110), (109, 0, .iconst 0, 0), (110, 7, .ireturn, 0), (111, 2, .iload_n kF1, 0)],
  [(112, 2, .iload_n kF2, 0), (113, 4, .if_icmp .le 7, 120), (116, 0, .iconst 1, 0), (117, 4, .goto 4, 121), (120, 0, .iconst 0, 0), (121, 7, .ireturn, 0), (122, 2, .iload_n kF1, 0), (123, 2, .iload_n kF2, 0), (124, 4, .if_icmp .ne 7, 131), (127, 0, .iconst 1, 0)],
  [(128, 4, .goto 4, 132), (131, 0, .iconst 0, 0), (132, 7, .ireturn, 0), (133, 2, .iload_n kF1, 0), (134, 2, .iload_n kF2, 0), (135, 0, .iadd, 0), (136, 7, .ireturn, 0), (137, 2, .iload_n kF1, 0), (138, 2, .iload_n kF2, 0), (139, 0, .isub, 0), (140, 7, .ireturn, 0), (141, 2, .iload_n kF1, 0), (142, 2, .iload_n kF2, 0), (143, 0, .imul, 0)],
  [(144, 7, .ireturn, 0), (145, 2, .iload_n kF2, 0), (146, 4, .ifCond .ne 7, 153), (149, 0, .iconst 0, 0), (150, 4, .goto 6, 156), (153, 2, .iload_n kF1, 0), (154, 2, .iload_n kF2, 0), (155, 0, .idiv, 0), (156, 7, .ireturn, 0), (157, 0, .iconst 0, 0), (158, 7, .ireturn, 0)]]
noncomputable def ky_14 : MethodName := ({ cls := "BonnetValley$Formula", name := "combine", desc := "(III)I" } : Jvm.MethodName)
noncomputable def kRow_14 : pm_Row := ((ky_14, prog_2_method_15_code, 3, (Option.some Jvm.ClassFile.FieldType.int)), 0, (3, 3, 1), kc_14)
/-- BV$Games.new -/
noncomputable def kc_15 : List (List (Nat × Nat × Instr × Nat)) := [[(0, 2, .aload_n kF0, 0), (1, 5, .invokespecial 3, 0), (4, 2, .aload_n kF0, 0), (5, 1, .bipush 9, 0), (7, 5, .newarray .long, 0), (9, 5, .putfield 9, 0), (12, 2, .aload_n kF0, 0), (13, 1, .bipush 61, 0), (15, 5, .newarray .int, 0)],
  [(17, 5, .putfield 15, 0), (20, 2, .aload_n kF0, 0), (21, 0, .lconst kG1, 0), (22, 5, .putfield 19, 0), (25, 2, .aload_n kF0, 0), (26, 0, .iconst 0, 0), (27, 5, .putfield 23, 0), (30, 7, .return_, 0)]]
noncomputable def ky_15 : MethodName := ({ cls := "BonnetValley$Games", name := "<init>", desc := "()V" } : Jvm.MethodName)
noncomputable def kRow_15 : pm_Row := ((ky_15, prog_3_method_1_code, 1, (Option.none : Option Jvm.ClassFile.FieldType)), 1, (0, 1, 0), kc_15)
/-- BV$Games.startStorm -/
noncomputable def kc_16 : List (List (Nat × Nat × Instr × Nat)) := [[(0, 2, .aload_n kF0, 0), (1, 5, .getfield 9, 0), (4, 0, .lconst kG0, 0), (5, 6, .invokestatic 27, 0), (8, 2, .aload_n kF0, 0), (9, 5, .getfield 9, 0), (12, 0, .iconst 0, 0), (13, 0, .lconst kG1, 0), (14, 5, .lastore, 0), (15, 2, .aload_n kF0, 0)],
  [(16, 0, .lconst kG1, 0), (17, 5, .putfield 19, 0), (20, 7, .return_, 0)]]
noncomputable def ky_16 : MethodName := ({ cls := "BonnetValley$Games", name := "startStorm", desc := "()V" } : Jvm.MethodName)
noncomputable def kRow_16 : pm_Row := ((ky_16, prog_3_method_2_code, 1, (Option.none : Option Jvm.ClassFile.FieldType)), 1, (0, 1, 0), kc_16)
/-- BV$Games.addLooker -/
noncomputable def kc_17 : List (List (Nat × Nat × Instr × Nat)) := [[(0, 1, .bipush 8, 0), (2, 3, .istore_n kF2, 0), (3, 2, .iload_n kF2, 0), (4, 4, .ifCond .le 39, 43), (7, 2, .aload_n kF0, 0), (8, 5, .getfield 9, 0), (11, 2, .iload_n kF2, 0), (12, 2, .aload_n kF0, 0), (13, 5, .getfield 9, 0)],
  [(16, 2, .iload_n kF2, 0), (17, 5, .laload, 0), (18, 1, .bipush 10, 0), (20, 2, .iload_n kF1, 0), (21, 0, .isub, 0), (22, 0, .i2l, 0), (23, 0, .lmul, 0), (24, 2, .aload_n kF0, 0), (25, 5, .getfield 9, 0), (28, 2, .iload_n kF2, 0), (29, 0, .iconst 1, 0), (30, 0, .isub, 0), (31, 5, .laload, 0)],
  [(32, 2, .iload_n kF1, 0), (33, 0, .i2l, 0), (34, 0, .lmul, 0), (35, 0, .ladd, 0), (36, 5, .lastore, 0), (37, 3, .iinc 2 (-1), 0), (40, 4, .goto (-37), 3), (43, 2, .aload_n kF0, 0), (44, 5, .getfield 9, 0), (47, 0, .iconst 0, 0)],
  [(48, 0, .dup2, 0), (49, 5, .laload, 0), (50, 1, .bipush 10, 0), (52, 2, .iload_n kF1, 0), (53, 0, .isub, 0), (54, 0, .i2l, 0), (55, 0, .lmul, 0), (56, 5, .lastore, 0), (57, 2, .aload_n kF0, 0), (58, 0, .dup, 0), (59, 5, .getfield 19, 0), (62, 1, .ldc2_w 33, 0)],
  [(65, 0, .lmul, 0), (66, 5, .putfield 19, 0), (69, 7, .return_, 0)]]
noncomputable def ky_17 : MethodName := ({ cls := "BonnetValley$Games", name := "addLooker", desc := "(I)V" } : Jvm.MethodName)
noncomputable def kRow_17 : pm_Row := ((ky_17, prog_3_method_3_code, 3, (Option.none : Option Jvm.ClassFile.FieldType)), 1, (1, 3, 0), kc_17)
/-- BV$Games.tellChance -/
noncomputable def kc_18 : List (List (Nat × Nat × Instr × Nat)) := [[(0, 0, .lconst kG0, 0), (1, 3, .lstore_n kF3, 0), (2, 0, .iconst 0, 0), (3, 2, .iload_n kF1, 0), (4, 5, .invokestatic 35, 0), (7, 3, .istore 5, 0), (9, 2, .iload 5, 0), (11, 1, .bipush 8, 0), (13, 4, .if_icmp .gt 19, 32)],
  [(16, 2, .lload_n kF3, 0), (17, 2, .aload_n kF0, 0), (18, 5, .getfield 9, 0), (21, 2, .iload 5, 0), (23, 5, .laload, 0), (24, 0, .ladd, 0), (25, 3, .lstore_n kF3, 0), (26, 3, .iinc 5 1, 0), (29, 4, .goto (-20), 9)],
  [(32, 2, .aload_n kF0, 0), (33, 5, .getfield 19, 0), (36, 2, .lload_n kF3, 0), (37, 6, .invokestatic 41, 0), (40, 3, .lstore 5, 0), (42, 2, .lload 5, 0), (44, 0, .lconst kG0, 0), (45, 0, .lcmp, 0), (46, 4, .ifCond .le 22, 68)],
  [(49, 2, .aload_n kF2, 0), (50, 2, .lload_n kF3, 0), (51, 2, .lload 5, 0), (53, 0, .ldiv, 0), (54, 6, .invokevirtual 45, 0), (57, 2, .aload_n kF0, 0), (58, 5, .getfield 19, 0), (61, 2, .lload 5, 0), (63, 0, .ldiv, 0)],
  [(64, 6, .invokevirtual 45, 0), (67, 0, .pop, 0), (68, 7, .return_, 0)]]
noncomputable def ky_18 : MethodName := ({ cls := "BonnetValley$Games", name := "tellChance", desc := "(ILBonnetValley$Numbers;)V" } : Jvm.MethodName)
noncomputable def kRow_18 : pm_Row := ((ky_18, prog_3_method_4_code, 7, (Option.none : Option Jvm.ClassFile.FieldType)), 1, (2, 7, 0), kc_18)
/-- BV$Games.commonDivisor -/
noncomputable def kc_19 : List (List (Nat × Nat × Instr × Nat)) := [[(0, 2, .lload_n kF0, 0), (1, 3, .lstore 4, 0), (3, 2, .lload_n kF2, 0), (4, 3, .lstore 6, 0), (6, 0, .iconst 0, 0), (7, 3, .istore 8, 0), (9, 2, .iload 8, 0), (11, 1, .sipush 1000, 0), (14, 4, .if_icmp .ge 31, 45)],
  [(17, 2, .lload 6, 0), (19, 0, .lconst kG0, 0), (20, 0, .lcmp, 0), (21, 4, .ifCond .le 24, 45), (24, 2, .lload 4, 0), (26, 2, .lload 6, 0), (28, 0, .lrem, 0), (29, 3, .lstore 9, 0), (31, 2, .lload 6, 0)],
  [(33, 3, .lstore 4, 0), (35, 2, .lload 9, 0), (37, 3, .lstore 6, 0), (39, 3, .iinc 8 1, 0), (42, 4, .goto (-33), 9), (45, 2, .lload 4, 0), (47, 7, .lreturn, 0)]]
noncomputable def ky_19 : MethodName := ({ cls := "BonnetValley$Games", name := "commonDivisor", desc := "(JJ)J" } : Jvm.MethodName)
noncomputable def kRow_19 : pm_Row := ((ky_19, prog_3_method_5_code, 11, (Option.some Jvm.ClassFile.FieldType.long)), 1, (2, 11, 3), kc_19)
/-- BV$Games.winningTurn -/
noncomputable def kc_20 : List (List (Nat × Nat × Instr × Nat)) := [[(0, 2, .aload_n kF0, 0), (1, 5, .getfield 15, 0), (4, 0, .iconst 0, 0), (5, 0, .iconst 0, 0), (6, 5, .iastore, 0), (7, 0, .iconst 1, 0), (8, 3, .istore_n kF3, 0), (9, 2, .iload_n kF3, 0), (10, 2, .iload_n kF1, 0), (11, 4, .if_icmp .gt 75, 86), (14, 2, .iload_n kF3, 0), (15, 1, .bipush 60, 0)],
  [(17, 4, .if_icmp .gt 69, 86), (20, 2, .aload_n kF0, 0), (21, 5, .getfield 15, 0), (24, 2, .iload_n kF3, 0), (25, 0, .iconst 0, 0), (26, 5, .iastore, 0), (27, 0, .iconst 1, 0), (28, 3, .istore 4, 0), (30, 2, .iload 4, 0)],
  [(32, 2, .iload_n kF2, 0), (33, 4, .if_icmp .gt 47, 80), (36, 2, .iload 4, 0), (38, 2, .iload_n kF3, 0), (39, 4, .if_icmp .gt 41, 80), (42, 2, .aload_n kF0, 0), (43, 5, .getfield 15, 0), (46, 2, .iload_n kF3, 0), (47, 2, .iload 4, 0)],
  [(49, 0, .isub, 0), (50, 5, .iaload, 0), (51, 0, .iconst 1, 0), (52, 2, .iload 4, 0), (54, 0, .ishl, 0), (55, 0, .iconst (-1), 0), (56, 0, .ixor, 0), (57, 0, .iand, 0), (58, 4, .ifCond .ne 16, 74), (61, 2, .aload_n kF0, 0), (62, 5, .getfield 15, 0)],
  [(65, 2, .iload_n kF3, 0), (66, 0, .dup2, 0), (67, 5, .iaload, 0), (68, 0, .iconst 1, 0), (69, 2, .iload 4, 0), (71, 0, .ishl, 0), (72, 0, .ior, 0), (73, 5, .iastore, 0), (74, 3, .iinc 4 1, 0), (77, 4, .goto (-47), 30)],
  [(80, 3, .iinc 3 1, 0), (83, 4, .goto (-74), 9), (86, 0, .iconst 1, 0), (87, 3, .istore_n kF3, 0), (88, 2, .iload_n kF3, 0), (89, 2, .iload_n kF2, 0), (90, 4, .if_icmp .gt 35, 125), (93, 2, .iload_n kF1, 0), (94, 4, .ifCond .lt 31, 125)],
  [(97, 2, .iload_n kF1, 0), (98, 1, .bipush 60, 0), (100, 4, .if_icmp .gt 25, 125), (103, 2, .aload_n kF0, 0), (104, 5, .getfield 15, 0), (107, 2, .iload_n kF1, 0), (108, 5, .iaload, 0), (109, 2, .iload_n kF3, 0), (110, 0, .ishr, 0), (111, 0, .iconst 1, 0)],
  [(112, 0, .iand, 0), (113, 0, .iconst 1, 0), (114, 4, .if_icmp .ne 5, 119), (117, 2, .iload_n kF3, 0), (118, 7, .ireturn, 0), (119, 3, .iinc 3 1, 0), (122, 4, .goto (-34), 88), (125, 0, .iconst 0, 0), (126, 7, .ireturn, 0)]]
noncomputable def ky_20 : MethodName := ({ cls := "BonnetValley$Games", name := "winningTurn", desc := "(II)I" } : Jvm.MethodName)
noncomputable def kRow_20 : pm_Row := ((ky_20, prog_3_method_6_code, 5, (Option.some Jvm.ClassFile.FieldType.int)), 1, (2, 5, 1), kc_20)
/-- BV$Games.restingPairs -/
noncomputable def kc_21 : List (List (Nat × Nat × Instr × Nat)) := [[(0, 0, .iconst 0, 0), (1, 3, .istore_n kF3, 0), (2, 0, .iconst 0, 0), (3, 3, .istore 4, 0), (5, 2, .iload 4, 0), (7, 1, .bipush 9, 0), (9, 4, .if_icmp .gt 71, 80), (12, 0, .iconst 0, 0), (13, 3, .istore 5, 0), (15, 2, .iload 5, 0)],
  [(17, 1, .bipush 9, 0), (19, 4, .if_icmp .gt 55, 74), (22, 2, .iload_n kF1, 0), (23, 2, .iload 4, 0), (25, 2, .iload 5, 0), (27, 6, .invokestatic 51, 0), (30, 4, .ifCond .eq 38, 68)],
  [(33, 2, .iload_n kF1, 0), (34, 2, .iload 5, 0), (36, 2, .iload 4, 0), (38, 6, .invokestatic 51, 0), (41, 4, .ifCond .ne 6, 47), (44, 4, .goto 24, 68), (47, 2, .iload_n kF3, 0)],
  [(48, 4, .ifCond .ne 17, 65), (51, 2, .aload_n kF2, 0), (52, 2, .iload 4, 0), (54, 0, .i2l, 0), (55, 6, .invokevirtual 45, 0), (58, 2, .iload 5, 0), (60, 0, .i2l, 0), (61, 6, .invokevirtual 45, 0)],
  [(64, 0, .pop, 0), (65, 3, .iinc 3 1, 0), (68, 3, .iinc 5 1, 0), (71, 4, .goto (-56), 15), (74, 3, .iinc 4 1, 0), (77, 4, .goto (-72), 5)],
  [(80, 2, .iload_n kF3, 0), (81, 7, .ireturn, 0)]]
noncomputable def ky_21 : MethodName := ({ cls := "BonnetValley$Games", name := "restingPairs", desc := "(ILBonnetValley$Numbers;)I" } : Jvm.MethodName)
noncomputable def kRow_21 : pm_Row := ((ky_21, prog_3_method_7_code, 6, (Option.some Jvm.ClassFile.FieldType.int)), 1, (2, 6, 1), kc_21)
/-- BV$Games.isBest -/
noncomputable def kc_22 : List (List (Nat × Nat × Instr × Nat)) := [[(0, 0, .iconst 0, 0), (1, 3, .istore_n kF3, 0), (2, 2, .iload_n kF3, 0), (3, 1, .bipush 9, 0), (5, 4, .if_icmp .gt 26, 31), (8, 2, .iload_n kF0, 0), (9, 2, .iload_n kF3, 0), (10, 2, .iload_n kF2, 0), (11, 6, .invokestatic 55, 0), (14, 2, .iload_n kF0, 0), (15, 2, .iload_n kF1, 0)],
  [(16, 2, .iload_n kF2, 0), (17, 6, .invokestatic 55, 0), (20, 4, .if_icmp .le 5, 25), (23, 0, .iconst 0, 0), (24, 7, .ireturn, 0), (25, 3, .iinc 3 1, 0), (28, 4, .goto (-26), 2), (31, 0, .iconst 1, 0)],
  [(32, 7, .ireturn, 0)]]
noncomputable def ky_22 : MethodName := ({ cls := "BonnetValley$Games", name := "isBest", desc := "(III)Z" } : Jvm.MethodName)
noncomputable def kRow_22 : pm_Row := ((ky_22, prog_3_method_8_code, 4, (Option.some Jvm.ClassFile.FieldType.boolean)), 1, (3, 4, 2), kc_22)
/-- BV$Games.gain -/
noncomputable def kc_23 : List (List (Nat × Nat × Instr × Nat)) := [[(0, 2, .iload_n kF0, 0), (1, 2, .iload_n kF1, 0), (2, 2, .iload_n kF2, 0), (3, 5, .invokestatic 59, 0), (6, 0, .imul, 0), (7, 0, .iconst 4, 0), (8, 0, .idiv, 0), (9, 2, .iload_n kF1, 0), (10, 0, .isub, 0), (11, 0, .iconst 0, 0), (12, 2, .iload_n kF1, 0), (13, 0, .iconst 4, 0), (14, 0, .isub, 0), (15, 5, .invokestatic 35, 0)],
  [(18, 0, .isub, 0), (19, 7, .ireturn, 0)]]
noncomputable def ky_23 : MethodName := ({ cls := "BonnetValley$Games", name := "gain", desc := "(III)I" } : Jvm.MethodName)
noncomputable def kRow_23 : pm_Row := ((ky_23, prog_3_method_9_code, 3, (Option.some Jvm.ClassFile.FieldType.int)), 1, (3, 3, 1), kc_23)
/-- BV$Games.startDraws -/
noncomputable def kc_24 : List (List (Nat × Nat × Instr × Nat)) := [[(0, 2, .aload_n kF0, 0), (1, 2, .iload_n kF1, 0), (2, 5, .putfield 23, 0), (5, 7, .return_, 0)]]
noncomputable def ky_24 : MethodName := ({ cls := "BonnetValley$Games", name := "startDraws", desc := "(I)V" } : Jvm.MethodName)
noncomputable def kRow_24 : pm_Row := ((ky_24, prog_3_method_10_code, 2, (Option.none : Option Jvm.ClassFile.FieldType)), 1, (1, 2, 0), kc_24)
/-- BV$Games.draw -/
noncomputable def kc_25 : List (List (Nat × Nat × Instr × Nat)) := [[(0, 2, .aload_n kF0, 0), (1, 2, .aload_n kF0, 0), (2, 5, .getfield 23, 0), (5, 1, .ldc 62, 0), (7, 0, .imul, 0), (8, 1, .sipush 12345, 0), (11, 0, .iadd, 0), (12, 5, .putfield 23, 0), (15, 2, .iload_n kF1, 0)],
  [(16, 4, .ifCond .le 15, 31), (19, 2, .aload_n kF0, 0), (20, 5, .getfield 23, 0), (23, 1, .bipush 16, 0), (25, 0, .iushr, 0), (26, 2, .iload_n kF1, 0), (27, 0, .irem, 0), (28, 4, .goto 4, 32), (31, 0, .iconst 0, 0)],
  [(32, 7, .ireturn, 0)]]
noncomputable def ky_25 : MethodName := ({ cls := "BonnetValley$Games", name := "draw", desc := "(I)I" } : Jvm.MethodName)
noncomputable def kRow_25 : pm_Row := ((ky_25, prog_3_method_11_code, 2, (Option.some Jvm.ClassFile.FieldType.int)), 1, (1, 2, 1), kc_25)
/-- BV$History.new -/
noncomputable def kc_26 : List (List (Nat × Nat × Instr × Nat)) := [[(0, 2, .aload_n kF0, 0), (1, 5, .invokespecial 1, 0), (4, 2, .aload_n kF0, 0), (5, 1, .bipush 15, 0), (7, 5, .anewarray 9, 0), (10, 5, .putfield 11, 0), (13, 0, .iconst 0, 0), (14, 3, .istore_n kF1, 0), (15, 2, .iload_n kF1, 0)],
  [(16, 1, .bipush 15, 0), (18, 4, .if_icmp .ge 22, 40), (21, 2, .aload_n kF0, 0), (22, 5, .getfield 11, 0), (25, 2, .iload_n kF1, 0), (26, 5, .new 9, 0), (29, 0, .dup, 0), (30, 6, .invokespecial 15, 0)],
  [(33, 5, .aastore, 0), (34, 3, .iinc 1 1, 0), (37, 4, .goto (-22), 15), (40, 2, .aload_n kF0, 0), (41, 0, .iconst 3, 0), (42, 5, .anewarray 9, 0), (45, 5, .putfield 16, 0)],
  [(48, 0, .iconst 0, 0), (49, 3, .istore_n kF1, 0), (50, 2, .iload_n kF1, 0), (51, 0, .iconst 3, 0), (52, 4, .if_icmp .ge 22, 74), (55, 2, .aload_n kF0, 0), (56, 5, .getfield 16, 0), (59, 2, .iload_n kF1, 0), (60, 5, .new 9, 0), (63, 0, .dup, 0)],
  [(64, 6, .invokespecial 15, 0), (67, 5, .aastore, 0), (68, 3, .iinc 1 1, 0), (71, 4, .goto (-21), 50), (74, 2, .aload_n kF0, 0), (75, 0, .iconst 0, 0), (76, 5, .putfield 19, 0), (79, 2, .aload_n kF0, 0)],
  [(80, 0, .iconst 0, 0), (81, 5, .putfield 23, 0), (84, 2, .aload_n kF0, 0), (85, 0, .iconst 0, 0), (86, 5, .putfield 26, 0), (89, 7, .return_, 0)]]
noncomputable def ky_26 : MethodName := ({ cls := "BonnetValley$History", name := "<init>", desc := "()V" } : Jvm.MethodName)
noncomputable def kRow_26 : pm_Row := ((ky_26, prog_4_method_1_code, 2, (Option.none : Option Jvm.ClassFile.FieldType)), 2, (0, 2, 0), kc_26)
/-- BV$History.size -/
noncomputable def kc_27 : List (List (Nat × Nat × Instr × Nat)) := [[(0, 2, .aload_n kF0, 0), (1, 5, .getfield 26, 0), (4, 7, .ireturn, 0)]]
noncomputable def ky_27 : MethodName := ({ cls := "BonnetValley$History", name := "size", desc := "()I" } : Jvm.MethodName)
noncomputable def kRow_27 : pm_Row := ((ky_27, prog_4_method_2_code, 1, (Option.some Jvm.ClassFile.FieldType.int)), 2, (0, 1, 1), kc_27)
/-- BV$History.push -/
noncomputable def kc_28 : List (List (Nat × Nat × Instr × Nat)) := [[(0, 2, .aload_n kF0, 0), (1, 5, .getfield 23, 0), (4, 4, .ifCond .lt 12, 16), (7, 2, .aload_n kF0, 0), (8, 5, .getfield 23, 0), (11, 1, .bipush 15, 0), (13, 4, .if_icmp .lt 4, 17)],
  [(16, 7, .return_, 0), (17, 2, .aload_n kF0, 0), (18, 5, .getfield 11, 0), (21, 2, .aload_n kF0, 0), (22, 5, .getfield 23, 0), (25, 5, .aaload, 0), (26, 2, .aload_n kF1, 0), (27, 6, .invokevirtual 29, 0), (30, 2, .aload_n kF0, 0), (31, 2, .aload_n kF0, 0)],
  [(32, 5, .getfield 23, 0), (35, 0, .iconst 1, 0), (36, 0, .iadd, 0), (37, 1, .bipush 15, 0), (39, 4, .if_icmp .ge 12, 51), (42, 2, .aload_n kF0, 0), (43, 5, .getfield 23, 0), (46, 0, .iconst 1, 0), (47, 0, .iadd, 0)],
  [(48, 4, .goto 4, 52), (51, 0, .iconst 0, 0), (52, 5, .putfield 23, 0), (55, 2, .aload_n kF0, 0), (56, 1, .bipush 15, 0), (58, 2, .aload_n kF0, 0), (59, 5, .getfield 26, 0), (62, 0, .iconst 1, 0), (63, 0, .iadd, 0)],
  [(64, 5, .invokestatic 33, 0), (67, 5, .putfield 26, 0), (70, 7, .return_, 0)]]
noncomputable def ky_28 : MethodName := ({ cls := "BonnetValley$History", name := "push", desc := "(LBonnetValley$State;)V" } : Jvm.MethodName)
noncomputable def kRow_28 : pm_Row := ((ky_28, prog_4_method_3_code, 2, (Option.none : Option Jvm.ClassFile.FieldType)), 2, (1, 2, 0), kc_28)
/-- BV$History.pop -/
noncomputable def kc_29 : List (List (Nat × Nat × Instr × Nat)) := [[(0, 2, .aload_n kF0, 0), (1, 5, .getfield 23, 0), (4, 4, .ifCond .le 12, 16), (7, 2, .aload_n kF0, 0), (8, 5, .getfield 23, 0), (11, 0, .iconst 1, 0), (12, 0, .isub, 0), (13, 4, .goto 5, 18)],
  [(16, 1, .bipush 14, 0), (18, 3, .istore_n kF2, 0), (19, 2, .aload_n kF0, 0), (20, 5, .getfield 26, 0), (23, 4, .ifCond .eq 9, 32), (26, 2, .iload_n kF2, 0), (27, 1, .bipush 15, 0), (29, 4, .if_icmp .lt 5, 34)],
  [(32, 0, .iconst 0, 0), (33, 7, .ireturn, 0), (34, 2, .aload_n kF1, 0), (35, 2, .aload_n kF0, 0), (36, 5, .getfield 11, 0), (39, 2, .iload_n kF2, 0), (40, 5, .aaload, 0), (41, 6, .invokevirtual 29, 0), (44, 2, .aload_n kF0, 0), (45, 2, .iload_n kF2, 0), (46, 5, .putfield 23, 0)],
  [(49, 2, .aload_n kF0, 0), (50, 0, .dup, 0), (51, 5, .getfield 26, 0), (54, 0, .iconst 1, 0), (55, 0, .isub, 0), (56, 5, .putfield 26, 0), (59, 0, .iconst 1, 0), (60, 7, .ireturn, 0)]]
noncomputable def ky_29 : MethodName := ({ cls := "BonnetValley$History", name := "pop", desc := "(LBonnetValley$State;)Z" } : Jvm.MethodName)
noncomputable def kRow_29 : pm_Row := ((ky_29, prog_4_method_4_code, 3, (Option.some Jvm.ClassFile.FieldType.boolean)), 2, (1, 3, 2), kc_29)
/-- BV$History.clear -/
noncomputable def kc_30 : List (List (Nat × Nat × Instr × Nat)) := [[(0, 2, .aload_n kF0, 0), (1, 0, .iconst 0, 0), (2, 5, .putfield 26, 0), (5, 2, .aload_n kF0, 0), (6, 0, .iconst 0, 0), (7, 5, .putfield 19, 0), (10, 7, .return_, 0)]]
noncomputable def ky_30 : MethodName := ({ cls := "BonnetValley$History", name := "clear", desc := "()V" } : Jvm.MethodName)
noncomputable def kRow_30 : pm_Row := ((ky_30, prog_4_method_5_code, 1, (Option.none : Option Jvm.ClassFile.FieldType)), 2, (0, 1, 0), kc_30)
/-- BV$History.hold -/
noncomputable def kc_31 : List (List (Nat × Nat × Instr × Nat)) := [[(0, 2, .iload_n kF1, 0), (1, 4, .ifCond .lt 8, 9), (4, 2, .iload_n kF1, 0), (5, 0, .iconst 3, 0), (6, 4, .if_icmp .lt 5, 11), (9, 0, .iconst 0, 0), (10, 7, .ireturn, 0), (11, 2, .aload_n kF0, 0), (12, 5, .getfield 16, 0), (15, 2, .iload_n kF1, 0)],
  [(16, 5, .aaload, 0), (17, 2, .aload_n kF2, 0), (18, 6, .invokevirtual 29, 0), (21, 2, .aload_n kF0, 0), (22, 0, .dup, 0), (23, 5, .getfield 19, 0), (26, 0, .iconst 1, 0), (27, 2, .iload_n kF1, 0), (28, 0, .ishl, 0), (29, 0, .ior, 0), (30, 5, .putfield 19, 0)],
  [(33, 0, .iconst 1, 0), (34, 7, .ireturn, 0)]]
noncomputable def ky_31 : MethodName := ({ cls := "BonnetValley$History", name := "hold", desc := "(ILBonnetValley$State;)Z" } : Jvm.MethodName)
noncomputable def kRow_31 : pm_Row := ((ky_31, prog_4_method_6_code, 3, (Option.some Jvm.ClassFile.FieldType.boolean)), 2, (2, 3, 2), kc_31)
/-- BV$History.bring -/
noncomputable def kc_32 : List (List (Nat × Nat × Instr × Nat)) := [[(0, 2, .iload_n kF1, 0), (1, 4, .ifCond .lt 19, 20), (4, 2, .iload_n kF1, 0), (5, 0, .iconst 3, 0), (6, 4, .if_icmp .ge 14, 20), (9, 2, .aload_n kF0, 0), (10, 5, .getfield 19, 0), (13, 2, .iload_n kF1, 0), (14, 0, .ishr, 0), (15, 0, .iconst 1, 0)],
  [(16, 0, .iand, 0), (17, 4, .ifCond .ne 5, 22), (20, 0, .iconst 0, 0), (21, 7, .ireturn, 0), (22, 2, .aload_n kF2, 0), (23, 2, .aload_n kF0, 0), (24, 5, .getfield 16, 0), (27, 2, .iload_n kF1, 0), (28, 5, .aaload, 0), (29, 6, .invokevirtual 29, 0)],
  [(32, 2, .aload_n kF0, 0), (33, 0, .iconst 0, 0), (34, 5, .putfield 26, 0), (37, 0, .iconst 1, 0), (38, 7, .ireturn, 0)]]
noncomputable def ky_32 : MethodName := ({ cls := "BonnetValley$History", name := "bring", desc := "(ILBonnetValley$State;)Z" } : Jvm.MethodName)
noncomputable def kRow_32 : pm_Row := ((ky_32, prog_4_method_7_code, 3, (Option.some Jvm.ClassFile.FieldType.boolean)), 2, (2, 3, 2), kc_32)
/-- BV$Land.new -/
noncomputable def kc_33 : List (List (Nat × Nat × Instr × Nat)) := [[(0, 2, .aload_n kF0, 0), (1, 5, .invokespecial 3, 0), (4, 2, .aload_n kF0, 0), (5, 1, .bipush 49, 0), (7, 5, .newarray .int, 0), (9, 5, .putfield 9, 0), (12, 2, .aload_n kF0, 0), (13, 1, .bipush 49, 0), (15, 5, .newarray .int, 0)],
  [(17, 5, .putfield 15, 0), (20, 2, .aload_n kF0, 0), (21, 1, .sipush 392, 0), (24, 5, .newarray .long, 0), (26, 5, .putfield 18, 0), (29, 2, .aload_n kF0, 0), (30, 1, .sipush 343, 0)],
  [(33, 5, .newarray .long, 0), (35, 5, .putfield 22, 0), (38, 2, .aload_n kF0, 0), (39, 0, .iconst 3, 0), (40, 0, .iconst 3, 0), (41, 0, .lconst kG0, 0), (42, 6, .invokevirtual 25, 0), (45, 7, .return_, 0)]]
noncomputable def ky_33 : MethodName := ({ cls := "BonnetValley$Land", name := "<init>", desc := "()V" } : Jvm.MethodName)
noncomputable def kRow_33 : pm_Row := ((ky_33, prog_5_method_1_code, 1, (Option.none : Option Jvm.ClassFile.FieldType)), 3, (0, 1, 0), kc_33)
/-- BV$Land.read -/
noncomputable def kc_34 : List (List (Nat × Nat × Instr × Nat)) := [[(0, 2, .aload_n kF1, 0), (1, 0, .iconst 0, 0), (2, 6, .invokestatic 29, 0), (5, 3, .istore_n kF2, 0), (6, 2, .iload_n kF2, 0), (7, 4, .ifCond .ge 5, 12), (10, 0, .iconst 0, 0), (11, 7, .ireturn, 0), (12, 2, .aload_n kF1, 0), (13, 0, .iconst 1, 0), (14, 6, .invokestatic 29, 0)],
  [(17, 3, .istore_n kF3, 0), (18, 2, .iload_n kF3, 0), (19, 4, .ifCond .ge 5, 24), (22, 0, .iconst 1, 0), (23, 7, .ireturn, 0), (24, 0, .lconst kG0, 0), (25, 3, .lstore 4, 0), (27, 2, .iload_n kF2, 0), (28, 2, .iload_n kF3, 0), (29, 0, .imul, 0), (30, 3, .istore 6, 0)],
  [(32, 0, .iconst 0, 0), (33, 3, .istore 7, 0), (35, 2, .iload 7, 0), (37, 2, .iload 6, 0), (39, 4, .if_icmp .ge 54, 93), (42, 2, .aload_n kF1, 0), (43, 0, .iconst 2, 0), (44, 2, .iload 7, 0), (46, 0, .iadd, 0), (47, 6, .invokevirtual 33, 0)],
  [(50, 3, .istore 8, 0), (52, 2, .iload 8, 0), (54, 1, .bipush 46, 0), (56, 4, .if_icmp .eq 15, 71), (59, 2, .iload 8, 0), (61, 1, .bipush 35, 0), (63, 4, .if_icmp .eq 8, 71)],
  [(66, 0, .iconst 2, 0), (67, 2, .iload 7, 0), (69, 0, .iadd, 0), (70, 7, .ireturn, 0), (71, 2, .iload 8, 0), (73, 1, .bipush 35, 0), (75, 4, .if_icmp .ne 12, 87), (78, 2, .lload 4, 0)],
  [(80, 0, .lconst kG1, 0), (81, 2, .iload 7, 0), (83, 0, .lshl, 0), (84, 0, .lor, 0), (85, 3, .lstore 4, 0), (87, 3, .iinc 7 1, 0), (90, 4, .goto (-55), 35), (93, 2, .aload_n kF1, 0), (94, 6, .invokevirtual 39, 0)],
  [(97, 0, .iconst 2, 0), (98, 2, .iload 6, 0), (100, 0, .iadd, 0), (101, 4, .if_icmp .le 8, 109), (104, 0, .iconst 2, 0), (105, 2, .iload 6, 0), (107, 0, .iadd, 0), (108, 7, .ireturn, 0), (109, 2, .aload_n kF0, 0), (110, 2, .iload_n kF2, 0), (111, 2, .iload_n kF3, 0)],
  [(112, 2, .lload 4, 0), (114, 6, .invokevirtual 25, 0), (117, 0, .iconst (-1), 0), (118, 7, .ireturn, 0)]]
noncomputable def ky_34 : MethodName := ({ cls := "BonnetValley$Land", name := "read", desc := "(LBonnetValley$Signs;)I" } : Jvm.MethodName)
noncomputable def kRow_34 : pm_Row := ((ky_34, prog_5_method_2_code, 9, (Option.some Jvm.ClassFile.FieldType.int)), 3, (1, 9, 1), kc_34)
/-- BV$Land.side -/
noncomputable def kc_35 : List (List (Nat × Nat × Instr × Nat)) := [[(0, 2, .aload_n kF0, 0), (1, 2, .iload_n kF1, 0), (2, 6, .invokevirtual 43, 0), (5, 3, .istore_n kF2, 0), (6, 2, .iload_n kF2, 0), (7, 0, .iconst 3, 0), (8, 4, .if_icmp .lt 13, 21), (11, 2, .iload_n kF2, 0), (12, 1, .bipush 7, 0), (14, 4, .if_icmp .gt 7, 21)],
  [(17, 2, .iload_n kF2, 0), (18, 4, .goto 4, 22), (21, 0, .iconst (-1), 0), (22, 7, .ireturn, 0)]]
noncomputable def ky_35 : MethodName := ({ cls := "BonnetValley$Land", name := "side", desc := "(LBonnetValley$Signs;I)I" } : Jvm.MethodName)
noncomputable def kRow_35 : pm_Row := ((ky_35, prog_5_method_3_code, 3, (Option.some Jvm.ClassFile.FieldType.int)), 3, (2, 3, 1), kc_35)
/-- BV$Land.shape -/
noncomputable def kc_36 : List (List (Nat × Nat × Instr × Nat)) := [[(0, 2, .aload_n kF0, 0), (1, 2, .iload_n kF1, 0), (2, 5, .putfield 46, 0), (5, 2, .aload_n kF0, 0), (6, 2, .iload_n kF2, 0), (7, 5, .putfield 50, 0), (10, 2, .aload_n kF0, 0), (11, 2, .lload_n kF3, 0), (12, 5, .putfield 53, 0), (15, 2, .aload_n kF0, 0)],
  [(16, 0, .lconst kG0, 0), (17, 5, .putfield 57, 0), (20, 2, .aload_n kF0, 0), (21, 0, .iconst 0, 0), (22, 5, .putfield 60, 0), (25, 0, .iconst 0, 0), (26, 3, .istore 5, 0), (28, 2, .iload 5, 0), (30, 2, .aload_n kF0, 0), (31, 5, .getfield 46, 0)],
  [(34, 4, .if_icmp .ge 68, 102), (37, 0, .iconst 0, 0), (38, 3, .istore 6, 0), (40, 2, .iload 6, 0), (42, 2, .aload_n kF0, 0), (43, 5, .getfield 50, 0), (46, 4, .if_icmp .ge 50, 96)],
  [(49, 2, .aload_n kF0, 0), (50, 5, .getfield 60, 0), (53, 1, .bipush 49, 0), (55, 4, .if_icmp .ge 41, 96), (58, 2, .aload_n kF0, 0), (59, 5, .getfield 9, 0), (62, 2, .aload_n kF0, 0), (63, 5, .getfield 60, 0)],
  [(66, 2, .iload 5, 0), (68, 5, .iastore, 0), (69, 2, .aload_n kF0, 0), (70, 5, .getfield 15, 0), (73, 2, .aload_n kF0, 0), (74, 5, .getfield 60, 0), (77, 2, .iload 6, 0), (79, 5, .iastore, 0)],
  [(80, 2, .aload_n kF0, 0), (81, 0, .dup, 0), (82, 5, .getfield 60, 0), (85, 0, .iconst 1, 0), (86, 0, .iadd, 0), (87, 5, .putfield 60, 0), (90, 3, .iinc 6 1, 0), (93, 4, .goto (-53), 40)],
  [(96, 3, .iinc 5 1, 0), (99, 4, .goto (-71), 28), (102, 7, .return_, 0)]]
noncomputable def ky_36 : MethodName := ({ cls := "BonnetValley$Land", name := "shape", desc := "(IIJ)V" } : Jvm.MethodName)
noncomputable def kRow_36 : pm_Row := ((ky_36, prog_5_method_4_code, 7, (Option.none : Option Jvm.ClassFile.FieldType)), 3, (3, 7, 0), kc_36)
/-- BV$Land.rows -/
noncomputable def kc_37 : List (List (Nat × Nat × Instr × Nat)) := [[(0, 2, .aload_n kF0, 0), (1, 5, .getfield 46, 0), (4, 7, .ireturn, 0)]]
noncomputable def ky_37 : MethodName := ({ cls := "BonnetValley$Land", name := "rows", desc := "()I" } : Jvm.MethodName)
noncomputable def kRow_37 : pm_Row := ((ky_37, prog_5_method_5_code, 1, (Option.some Jvm.ClassFile.FieldType.int)), 3, (0, 1, 1), kc_37)
/-- BV$Land.columns -/
noncomputable def kc_38 : List (List (Nat × Nat × Instr × Nat)) := [[(0, 2, .aload_n kF0, 0), (1, 5, .getfield 50, 0), (4, 7, .ireturn, 0)]]
noncomputable def ky_38 : MethodName := ({ cls := "BonnetValley$Land", name := "columns", desc := "()I" } : Jvm.MethodName)
noncomputable def kRow_38 : pm_Row := ((ky_38, prog_5_method_6_code, 1, (Option.some Jvm.ClassFile.FieldType.int)), 3, (0, 1, 1), kc_38)
/-- BV$Land.fields -/
noncomputable def kc_39 : List (List (Nat × Nat × Instr × Nat)) := [[(0, 2, .aload_n kF0, 0), (1, 5, .getfield 60, 0), (4, 7, .ireturn, 0)]]
noncomputable def ky_39 : MethodName := ({ cls := "BonnetValley$Land", name := "fields", desc := "()I" } : Jvm.MethodName)
noncomputable def kRow_39 : pm_Row := ((ky_39, prog_5_method_7_code, 1, (Option.some Jvm.ClassFile.FieldType.int)), 3, (0, 1, 1), kc_39)
/-- BV$Land.holds -/
noncomputable def kc_40 : List (List (Nat × Nat × Instr × Nat)) := [[(0, 2, .iload_n kF1, 0), (1, 4, .ifCond .lt 21, 22), (4, 2, .iload_n kF1, 0), (5, 2, .aload_n kF0, 0), (6, 5, .getfield 60, 0), (9, 4, .if_icmp .ge 13, 22), (12, 2, .iload_n kF1, 0), (13, 1, .bipush 49, 0), (15, 4, .if_icmp .ge 7, 22)],
  [(18, 0, .iconst 1, 0), (19, 4, .goto 4, 23), (22, 0, .iconst 0, 0), (23, 7, .ireturn, 0)]]
noncomputable def ky_40 : MethodName := ({ cls := "BonnetValley$Land", name := "holds", desc := "(I)Z" } : Jvm.MethodName)
noncomputable def kRow_40 : pm_Row := ((ky_40, prog_5_method_8_code, 2, (Option.some Jvm.ClassFile.FieldType.boolean)), 3, (1, 2, 2), kc_40)
/-- BV$Land.free -/
noncomputable def kc_41 : List (List (Nat × Nat × Instr × Nat)) := [[(0, 0, .lconst kG1, 0), (1, 2, .aload_n kF0, 0), (2, 5, .getfield 60, 0), (5, 0, .lshl, 0), (6, 0, .lconst kG1, 0), (7, 0, .lsub, 0), (8, 2, .aload_n kF0, 0), (9, 5, .getfield 53, 0), (12, 1, .ldc2_w 62, 0), (15, 0, .lxor, 0)],
  [(16, 0, .land, 0), (17, 7, .lreturn, 0)]]
noncomputable def ky_41 : MethodName := ({ cls := "BonnetValley$Land", name := "free", desc := "()J" } : Jvm.MethodName)
noncomputable def kRow_41 : pm_Row := ((ky_41, prog_5_method_9_code, 1, (Option.some Jvm.ClassFile.FieldType.long)), 3, (0, 1, 3), kc_41)
/-- BV$Land.rowOf -/
noncomputable def kc_42 : List (List (Nat × Nat × Instr × Nat)) := [[(0, 2, .aload_n kF0, 0), (1, 2, .iload_n kF1, 0), (2, 6, .invokevirtual 64, 0), (5, 4, .ifCond .eq 12, 17), (8, 2, .aload_n kF0, 0), (9, 5, .getfield 9, 0), (12, 2, .iload_n kF1, 0), (13, 5, .iaload, 0), (14, 4, .goto 4, 18)],
  [(17, 0, .iconst (-1), 0), (18, 7, .ireturn, 0)]]
noncomputable def ky_42 : MethodName := ({ cls := "BonnetValley$Land", name := "rowOf", desc := "(I)I" } : Jvm.MethodName)
noncomputable def kRow_42 : pm_Row := ((ky_42, prog_5_method_10_code, 2, (Option.some Jvm.ClassFile.FieldType.int)), 3, (1, 2, 1), kc_42)
/-- BV$Land.columnOf -/
noncomputable def kc_43 : List (List (Nat × Nat × Instr × Nat)) := [[(0, 2, .aload_n kF0, 0), (1, 2, .iload_n kF1, 0), (2, 6, .invokevirtual 64, 0), (5, 4, .ifCond .eq 12, 17), (8, 2, .aload_n kF0, 0), (9, 5, .getfield 15, 0), (12, 2, .iload_n kF1, 0), (13, 5, .iaload, 0), (14, 4, .goto 4, 18)],
  [(17, 0, .iconst (-1), 0), (18, 7, .ireturn, 0)]]
noncomputable def ky_43 : MethodName := ({ cls := "BonnetValley$Land", name := "columnOf", desc := "(I)I" } : Jvm.MethodName)
noncomputable def kRow_43 : pm_Row := ((ky_43, prog_5_method_11_code, 2, (Option.some Jvm.ClassFile.FieldType.int)), 3, (1, 2, 1), kc_43)
/-- BV$Land.fieldAt -/
noncomputable def kc_44 : List (List (Nat × Nat × Instr × Nat)) := [[(0, 2, .iload_n kF1, 0), (1, 4, .ifCond .lt 27, 28), (4, 2, .iload_n kF1, 0), (5, 2, .aload_n kF0, 0), (6, 5, .getfield 46, 0), (9, 4, .if_icmp .ge 19, 28), (12, 2, .iload_n kF2, 0), (13, 4, .ifCond .lt 15, 28)],
  [(16, 2, .iload_n kF2, 0), (17, 2, .aload_n kF0, 0), (18, 5, .getfield 50, 0), (21, 4, .if_icmp .ge 7, 28), (24, 0, .iconst 1, 0), (25, 4, .goto 4, 29), (28, 0, .iconst 0, 0), (29, 3, .istore_n kF3, 0), (30, 2, .iload_n kF3, 0), (31, 4, .ifCond .eq 14, 45)],
  [(34, 2, .iload_n kF1, 0), (35, 2, .aload_n kF0, 0), (36, 5, .getfield 50, 0), (39, 0, .imul, 0), (40, 2, .iload_n kF2, 0), (41, 0, .iadd, 0), (42, 4, .goto 4, 46), (45, 0, .iconst (-1), 0), (46, 7, .ireturn, 0)]]
noncomputable def ky_44 : MethodName := ({ cls := "BonnetValley$Land", name := "fieldAt", desc := "(II)I" } : Jvm.MethodName)
noncomputable def kRow_44 : pm_Row := ((ky_44, prog_5_method_12_code, 4, (Option.some Jvm.ClassFile.FieldType.int)), 3, (2, 4, 1), kc_44)
/-- BV$Land.isRock -/
noncomputable def kc_45 : List (List (Nat × Nat × Instr × Nat)) := [[(0, 2, .iload_n kF1, 0), (1, 4, .ifCond .lt 18, 19), (4, 2, .aload_n kF0, 0), (5, 5, .getfield 53, 0), (8, 2, .iload_n kF1, 0), (9, 6, .invokestatic 68, 0), (12, 4, .ifCond .eq 7, 19), (15, 0, .iconst 1, 0)],
  [(16, 4, .goto 4, 20), (19, 0, .iconst 0, 0), (20, 7, .ireturn, 0)]]
noncomputable def ky_45 : MethodName := ({ cls := "BonnetValley$Land", name := "isRock", desc := "(I)Z" } : Jvm.MethodName)
noncomputable def kRow_45 : pm_Row := ((ky_45, prog_5_method_13_code, 2, (Option.some Jvm.ClassFile.FieldType.boolean)), 3, (1, 2, 2), kc_45)
/-- BV$Land.beside -/
noncomputable def kc_46 : List (List (Nat × Nat × Instr × Nat)) := [[(0, 2, .aload_n kF0, 0), (1, 2, .iload_n kF1, 0), (2, 6, .invokevirtual 64, 0), (5, 4, .ifCond .eq 13, 18), (8, 2, .iload_n kF2, 0), (9, 4, .ifCond .lt 9, 18), (12, 2, .iload_n kF2, 0), (13, 1, .bipush 8, 0), (15, 4, .if_icmp .lt 5, 20)],
  [(18, 0, .iconst (-1), 0), (19, 7, .ireturn, 0), (20, 2, .aload_n kF0, 0), (21, 2, .aload_n kF0, 0), (22, 5, .getfield 9, 0), (25, 2, .iload_n kF1, 0), (26, 5, .iaload, 0), (27, 1, .getstatic 72, 0), (30, 2, .iload_n kF2, 0), (31, 5, .iaload, 0)],
  [(32, 0, .iadd, 0), (33, 2, .aload_n kF0, 0), (34, 5, .getfield 15, 0), (37, 2, .iload_n kF1, 0), (38, 5, .iaload, 0), (39, 1, .getstatic 75, 0), (42, 2, .iload_n kF2, 0), (43, 5, .iaload, 0), (44, 0, .iadd, 0), (45, 6, .invokevirtual 78, 0)],
  [(48, 3, .istore_n kF3, 0), (49, 2, .aload_n kF0, 0), (50, 2, .iload_n kF3, 0), (51, 6, .invokevirtual 82, 0), (54, 4, .ifCond .eq 7, 61), (57, 0, .iconst (-1), 0), (58, 4, .goto 4, 62), (61, 2, .iload_n kF3, 0), (62, 7, .ireturn, 0)]]
noncomputable def ky_46 : MethodName := ({ cls := "BonnetValley$Land", name := "beside", desc := "(II)I" } : Jvm.MethodName)
noncomputable def kRow_46 : pm_Row := ((ky_46, prog_5_method_14_code, 4, (Option.some Jvm.ClassFile.FieldType.int)), 3, (2, 4, 1), kc_46)
/-- BV$Land.eighthsBetween -/
noncomputable def kc_47 : List (List (Nat × Nat × Instr × Nat)) := [[(0, 2, .iload_n kF0, 0), (1, 2, .iload_n kF1, 0), (2, 0, .isub, 0), (3, 1, .bipush 7, 0), (5, 0, .iand, 0), (6, 3, .istore_n kF2, 0), (7, 2, .iload_n kF2, 0), (8, 1, .bipush 8, 0), (10, 2, .iload_n kF2, 0), (11, 0, .isub, 0), (12, 5, .invokestatic 85, 0), (15, 7, .ireturn, 0)]]
noncomputable def ky_47 : MethodName := ({ cls := "BonnetValley$Land", name := "eighthsBetween", desc := "(II)I" } : Jvm.MethodName)
noncomputable def kRow_47 : pm_Row := ((ky_47, prog_5_method_15_code, 3, (Option.some Jvm.ClassFile.FieldType.int)), 3, (2, 3, 1), kc_47)
/-- BV$Land.view -/
noncomputable def kc_48 : List (List (Nat × Nat × Instr × Nat)) := [[(0, 2, .aload_n kF0, 0), (1, 2, .iload_n kF1, 0), (2, 6, .invokevirtual 64, 0), (5, 4, .ifCond .ne 5, 10), (8, 0, .lconst kG0, 0), (9, 7, .lreturn, 0), (10, 2, .aload_n kF0, 0), (11, 5, .getfield 57, 0), (14, 2, .iload_n kF1, 0), (15, 6, .invokestatic 68, 0)],
  [(18, 4, .ifCond .ne 8, 26), (21, 2, .aload_n kF0, 0), (22, 2, .iload_n kF1, 0), (23, 6, .invokevirtual 90, 0), (26, 0, .lconst kG0, 0), (27, 3, .lstore 5, 0), (29, 0, .iconst 0, 0), (30, 3, .istore 7, 0)],
  [(32, 2, .iload 7, 0), (34, 1, .bipush 8, 0), (36, 4, .if_icmp .ge 38, 74), (39, 2, .iload 7, 0), (41, 2, .iload_n kF2, 0), (42, 6, .invokestatic 94, 0), (45, 0, .iconst 4, 0), (46, 2, .iload_n kF3, 0), (47, 0, .isub, 0)],
  [(48, 4, .if_icmp .gt 20, 68), (51, 2, .lload 5, 0), (53, 2, .aload_n kF0, 0), (54, 5, .getfield 18, 0), (57, 2, .iload_n kF1, 0), (58, 1, .bipush 8, 0), (60, 0, .imul, 0), (61, 2, .iload 7, 0), (63, 0, .iadd, 0)],
  [(64, 5, .laload, 0), (65, 0, .lor, 0), (66, 3, .lstore 5, 0), (68, 3, .iinc 7 1, 0), (71, 4, .goto (-39), 32), (74, 0, .iconst 0, 0), (75, 1, .bipush 6, 0), (77, 2, .iload 4, 0), (79, 5, .invokestatic 85, 0)],
  [(82, 5, .invokestatic 97, 0), (85, 3, .istore 7, 0), (87, 2, .lload 5, 0), (89, 2, .aload_n kF0, 0), (90, 5, .getfield 22, 0), (93, 2, .iload_n kF1, 0), (94, 1, .bipush 7, 0)],
  [(96, 0, .imul, 0), (97, 2, .iload 7, 0), (99, 0, .iadd, 0), (100, 5, .laload, 0), (101, 0, .land, 0), (102, 0, .lconst kG1, 0), (103, 2, .iload_n kF1, 0), (104, 0, .lshl, 0), (105, 0, .lor, 0), (106, 7, .lreturn, 0)]]
noncomputable def ky_48 : MethodName := ({ cls := "BonnetValley$Land", name := "view", desc := "(IIII)J" } : Jvm.MethodName)
noncomputable def kRow_48 : pm_Row := ((ky_48, prog_5_method_16_code, 8, (Option.some Jvm.ClassFile.FieldType.long)), 3, (4, 8, 3), kc_48)
/-- BV$Land.survey -/
noncomputable def kc_49 : List (List (Nat × Nat × Instr × Nat)) := [[(0, 2, .aload_n kF0, 0), (1, 0, .dup, 0), (2, 5, .getfield 57, 0), (5, 0, .lconst kG1, 0), (6, 2, .iload_n kF1, 0), (7, 0, .lshl, 0), (8, 0, .lor, 0), (9, 5, .putfield 57, 0), (12, 0, .iconst 0, 0), (13, 3, .istore_n kF2, 0), (14, 2, .iload_n kF2, 0), (15, 1, .bipush 8, 0)],
  [(17, 4, .if_icmp .ge 21, 38), (20, 2, .aload_n kF0, 0), (21, 5, .getfield 18, 0), (24, 2, .iload_n kF1, 0), (25, 1, .bipush 8, 0), (27, 0, .imul, 0), (28, 2, .iload_n kF2, 0), (29, 0, .iadd, 0), (30, 0, .lconst kG0, 0), (31, 5, .lastore, 0)],
  [(32, 3, .iinc 2 1, 0), (35, 4, .goto (-21), 14), (38, 0, .iconst 0, 0), (39, 3, .istore_n kF2, 0), (40, 2, .iload_n kF2, 0), (41, 1, .bipush 7, 0), (43, 4, .if_icmp .ge 21, 64), (46, 2, .aload_n kF0, 0), (47, 5, .getfield 22, 0)],
  [(50, 2, .iload_n kF1, 0), (51, 1, .bipush 7, 0), (53, 0, .imul, 0), (54, 2, .iload_n kF2, 0), (55, 0, .iadd, 0), (56, 0, .lconst kG0, 0), (57, 5, .lastore, 0), (58, 3, .iinc 2 1, 0), (61, 4, .goto (-21), 40)],
  [(64, 0, .iconst 0, 0), (65, 3, .istore_n kF2, 0), (66, 2, .iload_n kF2, 0), (67, 2, .aload_n kF0, 0), (68, 5, .getfield 60, 0), (71, 4, .if_icmp .ge 134, 205), (74, 2, .iload_n kF2, 0), (75, 1, .bipush 49, 0), (77, 4, .if_icmp .ge 128, 205)],
  [(80, 2, .iload_n kF2, 0), (81, 2, .iload_n kF1, 0), (82, 4, .if_icmp .ne 6, 88), (85, 4, .goto 114, 199), (88, 2, .aload_n kF0, 0), (89, 5, .getfield 9, 0), (92, 2, .iload_n kF2, 0), (93, 5, .iaload, 0), (94, 2, .aload_n kF0, 0), (95, 5, .getfield 9, 0)],
  [(98, 2, .iload_n kF1, 0), (99, 5, .iaload, 0), (100, 0, .isub, 0), (101, 3, .istore_n kF3, 0), (102, 2, .aload_n kF0, 0), (103, 5, .getfield 15, 0), (106, 2, .iload_n kF2, 0), (107, 5, .iaload, 0), (108, 2, .aload_n kF0, 0), (109, 5, .getfield 15, 0)],
  [(112, 2, .iload_n kF1, 0), (113, 5, .iaload, 0), (114, 0, .isub, 0), (115, 3, .istore 4, 0), (117, 2, .iload_n kF3, 0), (118, 5, .invokestatic 100, 0), (121, 2, .iload 4, 0), (123, 5, .invokestatic 100, 0), (126, 5, .invokestatic 97, 0)],
  [(129, 3, .istore 5, 0), (131, 2, .iload 5, 0), (133, 3, .istore 6, 0), (135, 2, .iload 6, 0), (137, 1, .bipush 7, 0), (139, 4, .if_icmp .ge 27, 166), (142, 2, .aload_n kF0, 0), (143, 5, .getfield 22, 0)],
  [(146, 2, .iload_n kF1, 0), (147, 1, .bipush 7, 0), (149, 0, .imul, 0), (150, 2, .iload 6, 0), (152, 0, .iadd, 0), (153, 0, .dup2, 0), (154, 5, .laload, 0), (155, 0, .lconst kG1, 0), (156, 2, .iload_n kF2, 0), (157, 0, .lshl, 0), (158, 0, .lor, 0), (159, 5, .lastore, 0)],
  [(160, 3, .iinc 6 1, 0), (163, 4, .goto (-28), 135), (166, 2, .aload_n kF0, 0), (167, 2, .iload_n kF1, 0), (168, 2, .iload_n kF3, 0), (169, 2, .iload 4, 0), (171, 6, .invokevirtual 103, 0), (174, 4, .ifCond .eq 25, 199)],
  [(177, 2, .aload_n kF0, 0), (178, 5, .getfield 18, 0), (181, 2, .iload_n kF1, 0), (182, 1, .bipush 8, 0), (184, 0, .imul, 0), (185, 2, .iload_n kF3, 0), (186, 2, .iload 4, 0), (188, 6, .invokestatic 107, 0), (191, 0, .iadd, 0)],
  [(192, 0, .dup2, 0), (193, 5, .laload, 0), (194, 0, .lconst kG1, 0), (195, 2, .iload_n kF2, 0), (196, 0, .lshl, 0), (197, 0, .lor, 0), (198, 5, .lastore, 0), (199, 3, .iinc 2 1, 0), (202, 4, .goto (-136), 66), (205, 7, .return_, 0)]]
noncomputable def ky_49 : MethodName := ({ cls := "BonnetValley$Land", name := "survey", desc := "(I)V" } : Jvm.MethodName)
noncomputable def kRow_49 : pm_Row := ((ky_49, prog_5_method_17_code, 7, (Option.none : Option Jvm.ClassFile.FieldType)), 3, (1, 7, 0), kc_49)
/-- BV$Land.isClear -/
noncomputable def kc_50 : List (List (Nat × Nat × Instr × Nat)) := [[(0, 2, .iload_n kF2, 0), (1, 5, .invokestatic 100, 0), (4, 2, .iload_n kF3, 0), (5, 5, .invokestatic 100, 0), (8, 5, .invokestatic 97, 0), (11, 3, .istore 4, 0), (13, 0, .iconst 1, 0), (14, 3, .istore 5, 0)],
  [(16, 2, .iload 5, 0), (18, 2, .iload 4, 0), (20, 4, .if_icmp .ge 75, 95), (23, 2, .aload_n kF0, 0), (24, 5, .getfield 9, 0), (27, 2, .iload_n kF1, 0), (28, 5, .iaload, 0), (29, 2, .iload 5, 0), (31, 0, .ineg, 0)],
  [(32, 2, .iload 5, 0), (34, 2, .iload_n kF2, 0), (35, 5, .invokestatic 85, 0), (38, 5, .invokestatic 97, 0), (41, 0, .iadd, 0), (42, 3, .istore 6, 0), (44, 2, .aload_n kF0, 0), (45, 5, .getfield 15, 0)],
  [(48, 2, .iload_n kF1, 0), (49, 5, .iaload, 0), (50, 2, .iload 5, 0), (52, 0, .ineg, 0), (53, 2, .iload 5, 0), (55, 2, .iload_n kF3, 0), (56, 5, .invokestatic 85, 0), (59, 5, .invokestatic 97, 0), (62, 0, .iadd, 0), (63, 3, .istore 7, 0)],
  [(65, 2, .aload_n kF0, 0), (66, 5, .getfield 53, 0), (69, 2, .iload 6, 0), (71, 2, .aload_n kF0, 0), (72, 5, .getfield 50, 0), (75, 0, .imul, 0), (76, 2, .iload 7, 0), (78, 0, .iadd, 0), (79, 0, .lshr, 0)],
  [(80, 0, .lconst kG1, 0), (81, 0, .land, 0), (82, 0, .lconst kG1, 0), (83, 0, .lcmp, 0), (84, 4, .ifCond .ne 5, 89), (87, 0, .iconst 0, 0), (88, 7, .ireturn, 0), (89, 3, .iinc 5 1, 0), (92, 4, .goto (-76), 16), (95, 0, .iconst 1, 0)],
  [(96, 7, .ireturn, 0)]]
noncomputable def ky_50 : MethodName := ({ cls := "BonnetValley$Land", name := "isClear", desc := "(III)Z" } : Jvm.MethodName)
noncomputable def kRow_50 : pm_Row := ((ky_50, prog_5_method_18_code, 8, (Option.some Jvm.ClassFile.FieldType.boolean)), 3, (3, 8, 2), kc_50)
/-- BV$Land.wayOf -/
noncomputable def kc_51 : List (List (Nat × Nat × Instr × Nat)) := [[(0, 2, .iload_n kF0, 0), (1, 5, .invokestatic 100, 0), (4, 0, .iconst 2, 0), (5, 2, .iload_n kF1, 0), (6, 5, .invokestatic 100, 0), (9, 0, .imul, 0), (10, 4, .if_icmp .le 13, 23), (13, 2, .iload_n kF0, 0), (14, 4, .ifCond .ge 7, 21)],
  [(17, 0, .iconst 0, 0), (18, 4, .goto 4, 22), (21, 0, .iconst 4, 0), (22, 7, .ireturn, 0), (23, 2, .iload_n kF1, 0), (24, 5, .invokestatic 100, 0), (27, 0, .iconst 2, 0), (28, 2, .iload_n kF0, 0), (29, 5, .invokestatic 100, 0)],
  [(32, 0, .imul, 0), (33, 4, .if_icmp .le 14, 47), (36, 2, .iload_n kF1, 0), (37, 4, .ifCond .le 7, 44), (40, 0, .iconst 2, 0), (41, 4, .goto 5, 46), (44, 1, .bipush 6, 0), (46, 7, .ireturn, 0), (47, 2, .iload_n kF0, 0)],
  [(48, 4, .ifCond .ge 14, 62), (51, 2, .iload_n kF1, 0), (52, 4, .ifCond .le 7, 59), (55, 0, .iconst 1, 0), (56, 4, .goto 5, 61), (59, 1, .bipush 7, 0), (61, 7, .ireturn, 0), (62, 2, .iload_n kF1, 0), (63, 4, .ifCond .le 7, 70)],
  [(66, 0, .iconst 3, 0), (67, 4, .goto 4, 71), (70, 0, .iconst 5, 0), (71, 7, .ireturn, 0)]]
noncomputable def ky_51 : MethodName := ({ cls := "BonnetValley$Land", name := "wayOf", desc := "(II)I" } : Jvm.MethodName)
noncomputable def kRow_51 : pm_Row := ((ky_51, prog_5_method_19_code, 2, (Option.some Jvm.ClassFile.FieldType.int)), 3, (2, 2, 1), kc_51)
/-- BV$Lines.new -/
noncomputable def kc_52 : List (List (Nat × Nat × Instr × Nat)) := [[(0, 2, .aload_n kF0, 0), (1, 5, .invokespecial 3, 0), (4, 2, .aload_n kF0, 0), (5, 1, .bipush 32, 0), (7, 5, .newarray .int, 0), (9, 5, .putfield 11, 0), (12, 2, .aload_n kF0, 0), (13, 0, .iconst 4, 0), (14, 5, .newarray .int, 0)],
  [(16, 5, .putfield 15, 0), (19, 2, .aload_n kF0, 0), (20, 5, .getfield 15, 0), (23, 0, .iconst 2, 0), (24, 1, .bipush 8, 0), (26, 5, .iastore, 0), (27, 2, .aload_n kF0, 0), (28, 5, .getfield 15, 0), (31, 0, .iconst 3, 0)],
  [(32, 0, .iconst 5, 0), (33, 5, .iastore, 0), (34, 2, .aload_n kF0, 0), (35, 0, .iconst 4, 0), (36, 5, .putfield 18, 0), (39, 7, .return_, 0)]]
noncomputable def ky_52 : MethodName := ({ cls := "BonnetValley$Lines", name := "<init>", desc := "()V" } : Jvm.MethodName)
noncomputable def kRow_52 : pm_Row := ((ky_52, prog_6_method_1_code, 1, (Option.none : Option Jvm.ClassFile.FieldType)), 4, (0, 1, 0), kc_52)
/-- BV$Lines.digit -/
noncomputable def kc_53 : List (List (Nat × Nat × Instr × Nat)) := [[(0, 2, .iload_n kF1, 0), (1, 2, .aload_n kF0, 0), (2, 5, .getfield 18, 0), (5, 0, .imul, 0), (6, 2, .iload_n kF2, 0), (7, 0, .iadd, 0), (8, 3, .istore_n kF3, 0), (9, 2, .iload_n kF3, 0), (10, 4, .ifCond .lt 21, 31), (13, 2, .iload_n kF3, 0), (14, 2, .aload_n kF0, 0), (15, 5, .getfield 11, 0)],
  [(18, 5, .arraylength, 0), (19, 4, .if_icmp .ge 12, 31), (22, 2, .aload_n kF0, 0), (23, 5, .getfield 11, 0), (26, 2, .iload_n kF3, 0), (27, 5, .iaload, 0), (28, 4, .goto 4, 32), (31, 0, .iconst (-1), 0)],
  [(32, 7, .ireturn, 0)]]
noncomputable def ky_53 : MethodName := ({ cls := "BonnetValley$Lines", name := "digit", desc := "(II)I" } : Jvm.MethodName)
noncomputable def kRow_53 : pm_Row := ((ky_53, prog_6_method_2_code, 4, (Option.some Jvm.ClassFile.FieldType.int)), 4, (2, 4, 1), kc_53)
/-- BV$Lines.read -/
noncomputable def kc_54 : List (List (Nat × Nat × Instr × Nat)) := [[(0, 2, .aload_n kF0, 0), (1, 2, .iload_n kF3, 0), (2, 5, .putfield 18, 0), (5, 2, .aload_n kF0, 0), (6, 5, .getfield 15, 0), (9, 0, .iconst 0, 0), (10, 2, .aload_n kF2, 0), (11, 6, .invokevirtual 22, 0), (14, 5, .iastore, 0), (15, 2, .aload_n kF0, 0)],
  [(16, 5, .getfield 15, 0), (19, 0, .iconst 1, 0), (20, 2, .aload_n kF2, 0), (21, 6, .invokevirtual 28, 0), (24, 5, .iastore, 0), (25, 2, .aload_n kF1, 0), (26, 6, .invokevirtual 31, 0), (29, 3, .istore 5, 0), (31, 2, .iload 5, 0)],
  [(33, 4, .ifCond .ne 5, 38), (36, 0, .iconst 0, 0), (37, 7, .ireturn, 0), (38, 0, .iconst 0, 0), (39, 3, .istore 6, 0), (41, 0, .iconst 0, 0), (42, 3, .istore 7, 0), (44, 2, .iload 7, 0), (46, 1, .bipush 8, 0)],
  [(48, 4, .if_icmp .ge 100, 148), (51, 2, .iload 7, 0), (53, 2, .iload 4, 0), (55, 4, .if_icmp .ge 93, 148), (58, 0, .iconst 0, 0), (59, 3, .istore 8, 0), (61, 2, .iload 8, 0), (63, 2, .aload_n kF0, 0)],
  [(64, 5, .getfield 18, 0), (67, 4, .if_icmp .ge 35, 102), (70, 2, .aload_n kF0, 0), (71, 2, .aload_n kF1, 0), (72, 2, .iload 6, 0), (74, 6, .invokevirtual 36, 0), (77, 2, .iload 7, 0), (79, 2, .iload 8, 0)],
  [(81, 2, .aload_n kF2, 0), (82, 6, .invokevirtual 40, 0), (85, 4, .ifCond .ne 8, 93), (88, 0, .iconst (-1), 0), (89, 2, .iload 6, 0), (91, 0, .isub, 0), (92, 7, .ireturn, 0), (93, 3, .iinc 6 1, 0)],
  [(96, 3, .iinc 8 1, 0), (99, 4, .goto (-38), 61), (102, 2, .iload 6, 0), (104, 2, .iload 5, 0), (106, 4, .if_icmp .ne 8, 114), (109, 2, .iload 7, 0), (111, 0, .iconst 1, 0)],
  [(112, 0, .iadd, 0), (113, 7, .ireturn, 0), (114, 2, .iload 7, 0), (116, 0, .iconst 1, 0), (117, 0, .iadd, 0), (118, 1, .bipush 8, 0), (120, 4, .if_icmp .eq 14, 134), (123, 2, .aload_n kF1, 0), (124, 2, .iload 6, 0), (126, 6, .invokevirtual 44, 0)],
  [(129, 1, .bipush 59, 0), (131, 4, .if_icmp .eq 8, 139), (134, 0, .iconst (-1), 0), (135, 2, .iload 6, 0), (137, 0, .isub, 0), (138, 7, .ireturn, 0), (139, 3, .iinc 6 1, 0), (142, 3, .iinc 7 1, 0)],
  [(145, 4, .goto (-101), 44), (148, 0, .iconst (-1), 0), (149, 2, .iload 6, 0), (151, 0, .isub, 0), (152, 7, .ireturn, 0)]]
noncomputable def ky_54 : MethodName := ({ cls := "BonnetValley$Lines", name := "read", desc := "(LBonnetValley$Signs;LBonnetValley$Land;II)I" } : Jvm.MethodName)
noncomputable def kRow_54 : pm_Row := ((ky_54, prog_6_method_3_code, 9, (Option.some Jvm.ClassFile.FieldType.int)), 4, (4, 9, 1), kc_54)
/-- BV$Lines.takeDigit -/
noncomputable def kc_55 : List (List (Nat × Nat × Instr × Nat)) := [[(0, 2, .iload_n kF2, 0), (1, 2, .aload_n kF0, 0), (2, 5, .getfield 18, 0), (5, 0, .imul, 0), (6, 2, .iload_n kF3, 0), (7, 0, .iadd, 0), (8, 3, .istore 5, 0), (10, 2, .iload_n kF3, 0), (11, 4, .ifCond .lt 27, 38), (14, 2, .iload_n kF3, 0), (15, 2, .aload_n kF0, 0)],
  [(16, 5, .getfield 15, 0), (19, 5, .arraylength, 0), (20, 4, .if_icmp .ge 18, 38), (23, 2, .iload 5, 0), (25, 4, .ifCond .lt 13, 38), (28, 2, .iload 5, 0), (30, 2, .aload_n kF0, 0), (31, 5, .getfield 11, 0)],
  [(34, 5, .arraylength, 0), (35, 4, .if_icmp .lt 5, 40), (38, 0, .iconst 0, 0), (39, 7, .ireturn, 0), (40, 2, .iload_n kF1, 0), (41, 4, .ifCond .lt 13, 54), (44, 2, .iload_n kF1, 0), (45, 2, .aload_n kF0, 0), (46, 5, .getfield 15, 0)],
  [(49, 2, .iload_n kF3, 0), (50, 5, .iaload, 0), (51, 4, .if_icmp .lt 5, 56), (54, 0, .iconst 0, 0), (55, 7, .ireturn, 0), (56, 2, .aload_n kF0, 0), (57, 5, .getfield 11, 0), (60, 2, .iload 5, 0), (62, 2, .iload_n kF1, 0), (63, 5, .iastore, 0)],
  [(64, 2, .aload_n kF0, 0), (65, 5, .getfield 18, 0), (68, 0, .iconst 4, 0), (69, 4, .if_icmp .ne 17, 86), (72, 2, .iload_n kF3, 0), (73, 0, .iconst 1, 0), (74, 4, .if_icmp .ne 12, 86), (77, 2, .iload 5, 0), (79, 4, .ifCond .le 7, 86)],
  [(82, 0, .iconst 1, 0), (83, 4, .goto 4, 87), (86, 0, .iconst 0, 0), (87, 3, .istore 6, 0), (89, 2, .iload 6, 0), (91, 4, .ifCond .eq 26, 117), (94, 2, .aload 4, 0)],
  [(96, 2, .aload 4, 0), (98, 2, .aload_n kF0, 0), (99, 5, .getfield 11, 0), (102, 2, .iload 5, 0), (104, 0, .iconst 1, 0), (105, 0, .isub, 0), (106, 5, .iaload, 0), (107, 2, .iload_n kF1, 0), (108, 6, .invokevirtual 47, 0), (111, 6, .invokevirtual 51, 0)],
  [(114, 4, .ifCond .ne 7, 121), (117, 0, .iconst 1, 0), (118, 4, .goto 4, 122), (121, 0, .iconst 0, 0), (122, 7, .ireturn, 0)]]
noncomputable def ky_55 : MethodName := ({ cls := "BonnetValley$Lines", name := "takeDigit", desc := "(IIILBonnetValley$Land;)Z" } : Jvm.MethodName)
noncomputable def kRow_55 : pm_Row := ((ky_55, prog_6_method_4_code, 7, (Option.some Jvm.ClassFile.FieldType.boolean)), 4, (4, 7, 2), kc_55)
/-- BV$Numbers.new -/
noncomputable def kc_56 : List (List (Nat × Nat × Instr × Nat)) := [[(0, 2, .aload_n kF0, 0), (1, 5, .invokespecial 3, 0), (4, 2, .aload_n kF0, 0), (5, 1, .bipush 49, 0), (7, 5, .newarray .long, 0), (9, 5, .putfield 11, 0), (12, 2, .aload_n kF0, 0), (13, 0, .iconst 0, 0), (14, 5, .putfield 15, 0)],
  [(17, 7, .return_, 0)]]
noncomputable def ky_56 : MethodName := ({ cls := "BonnetValley$Numbers", name := "<init>", desc := "()V" } : Jvm.MethodName)
noncomputable def kRow_56 : pm_Row := ((ky_56, prog_7_method_1_code, 1, (Option.none : Option Jvm.ClassFile.FieldType)), 5, (0, 1, 0), kc_56)
/-- BV$Numbers.anew -/
noncomputable def kc_57 : List (List (Nat × Nat × Instr × Nat)) := [[(0, 2, .aload_n kF0, 0), (1, 0, .iconst 0, 0), (2, 5, .putfield 15, 0), (5, 2, .aload_n kF0, 0), (6, 7, .areturn, 0)]]
noncomputable def ky_57 : MethodName := ({ cls := "BonnetValley$Numbers", name := "anew", desc := "()LBonnetValley$Numbers;" } : Jvm.MethodName)
noncomputable def kRow_57 : pm_Row := ((ky_57, prog_7_method_2_code, 1, (Option.some (Jvm.ClassFile.FieldType.object "BonnetValley$Numbers"))), 5, (0, 1, 4), kc_57)
/-- BV$Numbers.add -/
noncomputable def kc_58 : List (List (Nat × Nat × Instr × Nat)) := [[(0, 2, .aload_n kF0, 0), (1, 5, .getfield 15, 0), (4, 4, .ifCond .lt 32, 36), (7, 2, .aload_n kF0, 0), (8, 5, .getfield 15, 0), (11, 1, .bipush 49, 0), (13, 4, .if_icmp .ge 23, 36)],
  [(16, 2, .aload_n kF0, 0), (17, 5, .getfield 11, 0), (20, 2, .aload_n kF0, 0), (21, 5, .getfield 15, 0), (24, 2, .lload_n kF1, 0), (25, 5, .lastore, 0), (26, 2, .aload_n kF0, 0), (27, 0, .dup, 0), (28, 5, .getfield 15, 0), (31, 0, .iconst 1, 0)],
  [(32, 0, .iadd, 0), (33, 5, .putfield 15, 0), (36, 2, .aload_n kF0, 0), (37, 7, .areturn, 0)]]
noncomputable def ky_58 : MethodName := ({ cls := "BonnetValley$Numbers", name := "add", desc := "(J)LBonnetValley$Numbers;" } : Jvm.MethodName)
noncomputable def kRow_58 : pm_Row := ((ky_58, prog_7_method_3_code, 3, (Option.some (Jvm.ClassFile.FieldType.object "BonnetValley$Numbers"))), 5, (1, 3, 4), kc_58)
/-- BV$Numbers.size -/
noncomputable def kc_59 : List (List (Nat × Nat × Instr × Nat)) := [[(0, 2, .aload_n kF0, 0), (1, 5, .getfield 15, 0), (4, 7, .ireturn, 0)]]
noncomputable def ky_59 : MethodName := ({ cls := "BonnetValley$Numbers", name := "size", desc := "()I" } : Jvm.MethodName)
noncomputable def kRow_59 : pm_Row := ((ky_59, prog_7_method_4_code, 1, (Option.some Jvm.ClassFile.FieldType.int)), 5, (0, 1, 1), kc_59)
/-- BV$Numbers.at -/
noncomputable def kc_60 : List (List (Nat × Nat × Instr × Nat)) := [[(0, 2, .iload_n kF1, 0), (1, 4, .ifCond .lt 20, 21), (4, 2, .iload_n kF1, 0), (5, 2, .aload_n kF0, 0), (6, 5, .getfield 15, 0), (9, 4, .if_icmp .ge 12, 21), (12, 2, .aload_n kF0, 0), (13, 5, .getfield 11, 0)],
  [(16, 2, .iload_n kF1, 0), (17, 5, .laload, 0), (18, 4, .goto 6, 24), (21, 1, .ldc2_w 19, 0), (24, 7, .lreturn, 0)]]
noncomputable def ky_60 : MethodName := ({ cls := "BonnetValley$Numbers", name := "at", desc := "(I)J" } : Jvm.MethodName)
noncomputable def kRow_60 : pm_Row := ((ky_60, prog_7_method_5_code, 2, (Option.some Jvm.ClassFile.FieldType.long)), 5, (1, 2, 3), kc_60)
/-- BV$Plan.new -/
noncomputable def kc_61 : List (List (Nat × Nat × Instr × Nat)) := [[(0, 2, .aload_n kF0, 0), (1, 5, .invokespecial 3, 0), (4, 2, .aload_n kF0, 0), (5, 1, .bipush 30, 0), (7, 5, .newarray .int, 0), (9, 5, .putfield 11, 0), (12, 2, .aload_n kF0, 0), (13, 1, .bipush 90, 0), (15, 5, .newarray .int, 0)],
  [(17, 5, .putfield 15, 0), (20, 2, .aload_n kF0, 0), (21, 0, .iconst 0, 0), (22, 5, .putfield 18, 0), (25, 7, .return_, 0)]]
noncomputable def ky_61 : MethodName := ({ cls := "BonnetValley$Plan", name := "<init>", desc := "()V" } : Jvm.MethodName)
noncomputable def kRow_61 : pm_Row := ((ky_61, prog_8_method_1_code, 1, (Option.none : Option Jvm.ClassFile.FieldType)), 6, (0, 1, 0), kc_61)
/-- BV$Plan.acts -/
noncomputable def kc_62 : List (List (Nat × Nat × Instr × Nat)) := [[(0, 2, .aload_n kF0, 0), (1, 5, .getfield 18, 0), (4, 7, .ireturn, 0)]]
noncomputable def ky_62 : MethodName := ({ cls := "BonnetValley$Plan", name := "acts", desc := "()I" } : Jvm.MethodName)
noncomputable def kRow_62 : pm_Row := ((ky_62, prog_8_method_2_code, 1, (Option.some Jvm.ClassFile.FieldType.int)), 6, (0, 1, 1), kc_62)
/-- BV$Plan.kind -/
noncomputable def kc_63 : List (List (Nat × Nat × Instr × Nat)) := [[(0, 2, .iload_n kF1, 0), (1, 4, .ifCond .lt 26, 27), (4, 2, .iload_n kF1, 0), (5, 2, .aload_n kF0, 0), (6, 5, .getfield 18, 0), (9, 4, .if_icmp .ge 18, 27), (12, 2, .iload_n kF1, 0), (13, 1, .bipush 30, 0), (15, 4, .if_icmp .ge 12, 27)],
  [(18, 2, .aload_n kF0, 0), (19, 5, .getfield 11, 0), (22, 2, .iload_n kF1, 0), (23, 5, .iaload, 0), (24, 4, .goto 4, 28), (27, 0, .iconst (-1), 0), (28, 7, .ireturn, 0)]]
noncomputable def ky_63 : MethodName := ({ cls := "BonnetValley$Plan", name := "kind", desc := "(I)I" } : Jvm.MethodName)
noncomputable def kRow_63 : pm_Row := ((ky_63, prog_8_method_3_code, 2, (Option.some Jvm.ClassFile.FieldType.int)), 6, (1, 2, 1), kc_63)
/-- BV$Plan.digit -/
noncomputable def kc_64 : List (List (Nat × Nat × Instr × Nat)) := [[(0, 2, .iload_n kF1, 0), (1, 4, .ifCond .lt 30, 31), (4, 2, .iload_n kF1, 0), (5, 2, .aload_n kF0, 0), (6, 5, .getfield 18, 0), (9, 4, .if_icmp .ge 22, 31), (12, 2, .iload_n kF1, 0), (13, 1, .bipush 30, 0), (15, 4, .if_icmp .ge 16, 31)],
  [(18, 2, .iload_n kF2, 0), (19, 4, .ifCond .lt 12, 31), (22, 2, .iload_n kF2, 0), (23, 0, .iconst 3, 0), (24, 4, .if_icmp .ge 7, 31), (27, 0, .iconst 1, 0), (28, 4, .goto 4, 32), (31, 0, .iconst 0, 0)],
  [(32, 3, .istore_n kF3, 0), (33, 2, .iload_n kF3, 0), (34, 4, .ifCond .eq 16, 50), (37, 2, .aload_n kF0, 0), (38, 5, .getfield 15, 0), (41, 2, .iload_n kF1, 0), (42, 0, .iconst 3, 0), (43, 0, .imul, 0), (44, 2, .iload_n kF2, 0), (45, 0, .iadd, 0), (46, 5, .iaload, 0), (47, 4, .goto 4, 51)],
  [(50, 0, .iconst (-1), 0), (51, 7, .ireturn, 0)]]
noncomputable def ky_64 : MethodName := ({ cls := "BonnetValley$Plan", name := "digit", desc := "(II)I" } : Jvm.MethodName)
noncomputable def kRow_64 : pm_Row := ((ky_64, prog_8_method_4_code, 4, (Option.some Jvm.ClassFile.FieldType.int)), 6, (2, 4, 1), kc_64)
/-- BV$Plan.read -/
noncomputable def kc_65 : List (List (Nat × Nat × Instr × Nat)) := [[(0, 2, .aload_n kF0, 0), (1, 0, .iconst 0, 0), (2, 5, .putfield 18, 0), (5, 0, .iconst 0, 0), (6, 3, .istore_n kF2, 0), (7, 0, .iconst 0, 0), (8, 3, .istore_n kF3, 0), (9, 2, .aload_n kF1, 0), (10, 6, .invokevirtual 22, 0), (13, 3, .istore 4, 0), (15, 0, .iconst 0, 0)],
  [(16, 3, .istore 5, 0), (18, 2, .iload 5, 0), (20, 2, .iload 4, 0), (22, 4, .if_icmp .ge 79, 101), (25, 2, .iload 5, 0), (27, 1, .bipush 60, 0), (29, 4, .if_icmp .ne 6, 35)],
  [(32, 2, .iload 5, 0), (34, 7, .ireturn, 0), (35, 2, .iload_n kF3, 0), (36, 2, .iload_n kF2, 0), (37, 4, .if_icmp .ge 26, 63), (40, 2, .aload_n kF0, 0), (41, 2, .aload_n kF1, 0), (42, 2, .iload 5, 0), (44, 6, .invokevirtual 28, 0), (47, 2, .iload_n kF3, 0)],
  [(48, 6, .invokevirtual 32, 0), (51, 4, .ifCond .ne 6, 57), (54, 2, .iload 5, 0), (56, 7, .ireturn, 0), (57, 3, .iinc 3 1, 0), (60, 4, .goto 35, 95), (63, 2, .aload_n kF1, 0)],
  [(64, 2, .iload 5, 0), (66, 6, .invokevirtual 36, 0), (69, 6, .invokestatic 39, 0), (72, 3, .istore_n kF2, 0), (73, 2, .iload_n kF2, 0), (74, 4, .ifCond .eq 16, 90), (77, 2, .aload_n kF0, 0), (78, 2, .aload_n kF1, 0), (79, 2, .iload 5, 0)],
  [(81, 6, .invokevirtual 36, 0), (84, 6, .invokevirtual 42, 0), (87, 4, .ifCond .ne 6, 93), (90, 2, .iload 5, 0), (92, 7, .ireturn, 0), (93, 0, .iconst 0, 0), (94, 3, .istore_n kF3, 0), (95, 3, .iinc 5 1, 0)],
  [(98, 4, .goto (-80), 18), (101, 2, .iload_n kF3, 0), (102, 2, .iload_n kF2, 0), (103, 4, .if_icmp .ge 8, 111), (106, 2, .iload 4, 0), (108, 4, .goto 4, 112), (111, 0, .iconst (-1), 0)],
  [(112, 7, .ireturn, 0)]]
noncomputable def ky_65 : MethodName := ({ cls := "BonnetValley$Plan", name := "read", desc := "(LBonnetValley$Signs;)I" } : Jvm.MethodName)
noncomputable def kRow_65 : pm_Row := ((ky_65, prog_8_method_5_code, 6, (Option.some Jvm.ClassFile.FieldType.int)), 6, (1, 6, 1), kc_65)
/-- BV$Plan.digitsOf -/
noncomputable def kc_66 : List (List (Nat × Nat × Instr × Nat)) := [[(0, 2, .iload_n kF0, 0), (1, 4, .tableswitch 81 98 112 #[77, 81, 81, 81, 77, 77, 81, 81, 81, 81, 81, 81, 75, 81, 79], 75)],
  [],
  [],
  [],
  [(76, 0, .iconst 1, 0), (77, 7, .ireturn, 0), (78, 0, .iconst 2, 0), (79, 7, .ireturn, 0)],
  [(80, 0, .iconst 3, 0), (81, 7, .ireturn, 0), (82, 0, .iconst 0, 0), (83, 7, .ireturn, 0)]]
noncomputable def ky_66 : MethodName := ({ cls := "BonnetValley$Plan", name := "digitsOf", desc := "(I)I" } : Jvm.MethodName)
noncomputable def kRow_66 : pm_Row := ((ky_66, prog_8_method_6_code, 1, (Option.some Jvm.ClassFile.FieldType.int)), 6, (1, 1, 1), kc_66)
/-- BV$Plan.takeKind -/
noncomputable def kc_67 : List (List (Nat × Nat × Instr × Nat)) := [[(0, 2, .aload_n kF0, 0), (1, 5, .getfield 18, 0), (4, 4, .ifCond .lt 12, 16), (7, 2, .aload_n kF0, 0), (8, 5, .getfield 18, 0), (11, 1, .bipush 30, 0), (13, 4, .if_icmp .lt 5, 18)],
  [(16, 0, .iconst 0, 0), (17, 7, .ireturn, 0), (18, 2, .aload_n kF0, 0), (19, 5, .getfield 11, 0), (22, 2, .aload_n kF0, 0), (23, 5, .getfield 18, 0), (26, 2, .iload_n kF1, 0), (27, 5, .iastore, 0), (28, 2, .aload_n kF0, 0), (29, 0, .dup, 0), (30, 5, .getfield 18, 0)],
  [(33, 0, .iconst 1, 0), (34, 0, .iadd, 0), (35, 5, .putfield 18, 0), (38, 0, .iconst 1, 0), (39, 7, .ireturn, 0)]]
noncomputable def ky_67 : MethodName := ({ cls := "BonnetValley$Plan", name := "takeKind", desc := "(I)Z" } : Jvm.MethodName)
noncomputable def kRow_67 : pm_Row := ((ky_67, prog_8_method_7_code, 2, (Option.some Jvm.ClassFile.FieldType.boolean)), 6, (1, 2, 2), kc_67)
/-- BV$Plan.takeDigit -/
noncomputable def kc_68 : List (List (Nat × Nat × Instr × Nat)) := [[(0, 2, .aload_n kF0, 0), (1, 5, .getfield 18, 0), (4, 0, .iconst 1, 0), (5, 0, .isub, 0), (6, 0, .iconst 3, 0), (7, 0, .imul, 0), (8, 2, .iload_n kF2, 0), (9, 0, .iadd, 0), (10, 3, .istore_n kF3, 0), (11, 2, .iload_n kF1, 0), (12, 4, .ifCond .lt 16, 28), (15, 2, .iload_n kF3, 0)],
  [(16, 4, .ifCond .lt 12, 28), (19, 2, .iload_n kF3, 0), (20, 2, .aload_n kF0, 0), (21, 5, .getfield 15, 0), (24, 5, .arraylength, 0), (25, 4, .if_icmp .lt 5, 30), (28, 0, .iconst 0, 0), (29, 7, .ireturn, 0), (30, 2, .aload_n kF0, 0), (31, 5, .getfield 15, 0)],
  [(34, 2, .iload_n kF3, 0), (35, 2, .iload_n kF1, 0), (36, 5, .iastore, 0), (37, 0, .iconst 1, 0), (38, 7, .ireturn, 0)]]
noncomputable def ky_68 : MethodName := ({ cls := "BonnetValley$Plan", name := "takeDigit", desc := "(II)Z" } : Jvm.MethodName)
noncomputable def kRow_68 : pm_Row := ((ky_68, prog_8_method_8_code, 4, (Option.some Jvm.ClassFile.FieldType.boolean)), 6, (2, 4, 2), kc_68)
/-- BV$Route.new -/
noncomputable def kc_69 : List (List (Nat × Nat × Instr × Nat)) := [[(0, 2, .aload_n kF0, 0), (1, 5, .invokespecial 3, 0), (4, 2, .aload_n kF0, 0), (5, 1, .bipush 49, 0), (7, 5, .newarray .int, 0), (9, 5, .putfield 9, 0), (12, 2, .aload_n kF0, 0), (13, 1, .bipush 49, 0), (15, 5, .newarray .int, 0)],
  [(17, 5, .putfield 15, 0), (20, 2, .aload_n kF0, 0), (21, 1, .bipush 49, 0), (23, 5, .newarray .int, 0), (25, 5, .putfield 18, 0), (28, 7, .return_, 0)]]
noncomputable def ky_69 : MethodName := ({ cls := "BonnetValley$Route", name := "<init>", desc := "()V" } : Jvm.MethodName)
noncomputable def kRow_69 : pm_Row := ((ky_69, prog_9_method_1_code, 1, (Option.none : Option Jvm.ClassFile.FieldType)), 7, (0, 1, 0), kc_69)
/-- BV$Route.field -/
noncomputable def kc_70 : List (List (Nat × Nat × Instr × Nat)) := [[(0, 2, .iload_n kF1, 0), (1, 4, .ifCond .lt 18, 19), (4, 2, .iload_n kF1, 0), (5, 1, .bipush 49, 0), (7, 4, .if_icmp .ge 12, 19), (10, 2, .aload_n kF0, 0), (11, 5, .getfield 18, 0), (14, 2, .iload_n kF1, 0), (15, 5, .iaload, 0)],
  [(16, 4, .goto 4, 20), (19, 0, .iconst (-1), 0), (20, 7, .ireturn, 0)]]
noncomputable def ky_70 : MethodName := ({ cls := "BonnetValley$Route", name := "field", desc := "(I)I" } : Jvm.MethodName)
noncomputable def kRow_70 : pm_Row := ((ky_70, prog_9_method_2_code, 2, (Option.some Jvm.ClassFile.FieldType.int)), 7, (1, 2, 1), kc_70)
/-- BV$Route.find -/
noncomputable def kc_71 : List (List (Nat × Nat × Instr × Nat)) := [[(0, 2, .aload_n kF1, 0), (1, 2, .iload_n kF2, 0), (2, 6, .invokevirtual 21, 0), (5, 4, .ifCond .eq 15, 20), (8, 2, .aload_n kF1, 0), (9, 2, .iload_n kF3, 0), (10, 6, .invokevirtual 21, 0), (13, 4, .ifCond .eq 7, 20)],
  [(16, 0, .iconst 1, 0), (17, 4, .goto 4, 21), (20, 0, .iconst 0, 0), (21, 3, .istore 6, 0), (23, 2, .iload 6, 0), (25, 4, .ifCond .eq 19, 44), (28, 2, .aload_n kF1, 0), (29, 2, .iload_n kF2, 0), (30, 6, .invokevirtual 27, 0)],
  [(33, 4, .ifCond .ne 11, 44), (36, 2, .aload_n kF1, 0), (37, 2, .iload_n kF3, 0), (38, 6, .invokevirtual 27, 0), (41, 4, .ifCond .eq 5, 46), (44, 0, .iconst (-1), 0), (45, 7, .ireturn, 0), (46, 2, .aload_n kF0, 0), (47, 2, .aload_n kF1, 0)],
  [(48, 2, .iload_n kF3, 0), (49, 2, .lload 4, 0), (51, 0, .lconst kG1, 0), (52, 2, .iload_n kF2, 0), (53, 0, .lshl, 0), (54, 0, .lor, 0), (55, 6, .invokevirtual 30, 0), (58, 2, .aload_n kF0, 0), (59, 5, .getfield 9, 0), (62, 2, .iload_n kF2, 0), (63, 5, .iaload, 0)],
  [(64, 3, .istore 7, 0), (66, 2, .iload 7, 0), (68, 1, .sipush 1000, 0), (71, 4, .if_icmp .lt 5, 76), (74, 0, .iconst (-1), 0), (75, 7, .ireturn, 0), (76, 2, .aload_n kF0, 0), (77, 5, .getfield 18, 0)],
  [(80, 0, .iconst 0, 0), (81, 2, .iload_n kF2, 0), (82, 5, .iastore, 0), (83, 0, .iconst 1, 0), (84, 3, .istore 8, 0), (86, 2, .iload 8, 0), (88, 2, .iload 7, 0), (90, 4, .if_icmp .gt 42, 132), (93, 2, .iload 8, 0), (95, 1, .bipush 49, 0)],
  [(97, 4, .if_icmp .ge 35, 132), (100, 2, .aload_n kF0, 0), (101, 5, .getfield 18, 0), (104, 2, .iload 8, 0), (106, 2, .aload_n kF0, 0), (107, 2, .aload_n kF1, 0), (108, 2, .aload_n kF0, 0), (109, 5, .getfield 18, 0)],
  [(112, 2, .iload 8, 0), (114, 0, .iconst 1, 0), (115, 0, .isub, 0), (116, 5, .iaload, 0), (117, 2, .iload 7, 0), (119, 2, .iload 8, 0), (121, 0, .isub, 0), (122, 6, .invokevirtual 34, 0), (125, 5, .iastore, 0), (126, 3, .iinc 8 1, 0)],
  [(129, 4, .goto (-43), 86), (132, 2, .iload 7, 0), (134, 7, .ireturn, 0)]]
noncomputable def ky_71 : MethodName := ({ cls := "BonnetValley$Route", name := "find", desc := "(LBonnetValley$Land;IIJ)I" } : Jvm.MethodName)
noncomputable def kRow_71 : pm_Row := ((ky_71, prog_9_method_3_code, 9, (Option.some Jvm.ClassFile.FieldType.int)), 7, (4, 9, 1), kc_71)
/-- BV$Route.measure -/
noncomputable def kc_72 : List (List (Nat × Nat × Instr × Nat)) := [[(0, 2, .aload_n kF0, 0), (1, 5, .getfield 9, 0), (4, 1, .sipush 1000, 0), (7, 6, .invokestatic 38, 0), (10, 2, .aload_n kF0, 0), (11, 5, .getfield 9, 0), (14, 2, .iload_n kF2, 0), (15, 0, .iconst 0, 0)],
  [(16, 5, .iastore, 0), (17, 2, .aload_n kF0, 0), (18, 5, .getfield 15, 0), (21, 0, .iconst 0, 0), (22, 2, .iload_n kF2, 0), (23, 5, .iastore, 0), (24, 0, .iconst 1, 0), (25, 3, .istore 5, 0), (27, 0, .iconst 0, 0), (28, 3, .istore 6, 0), (30, 2, .iload 6, 0)],
  [(32, 2, .iload 5, 0), (34, 4, .if_icmp .ge 133, 167), (37, 2, .iload 6, 0), (39, 1, .bipush 49, 0), (41, 4, .if_icmp .ge 126, 167), (44, 0, .iconst 0, 0), (45, 3, .istore 7, 0), (47, 2, .iload 7, 0)],
  [(49, 1, .bipush 8, 0), (51, 4, .if_icmp .ge 110, 161), (54, 2, .aload_n kF1, 0), (55, 2, .aload_n kF0, 0), (56, 5, .getfield 15, 0), (59, 2, .iload 6, 0), (61, 5, .iaload, 0), (62, 2, .iload 7, 0)],
  [(64, 6, .invokevirtual 44, 0), (67, 3, .istore 8, 0), (69, 2, .iload 8, 0), (71, 4, .ifCond .lt 27, 98), (74, 2, .iload 8, 0), (76, 1, .bipush 49, 0), (78, 4, .if_icmp .ge 20, 98)],
  [(81, 2, .aload_n kF0, 0), (82, 5, .getfield 9, 0), (85, 2, .iload 8, 0), (87, 5, .iaload, 0), (88, 1, .sipush 1000, 0), (91, 4, .if_icmp .ne 7, 98), (94, 0, .iconst 1, 0), (95, 4, .goto 4, 99)],
  [(98, 0, .iconst 0, 0), (99, 3, .istore 9, 0), (101, 2, .iload 9, 0), (103, 4, .ifCond .eq 52, 155), (106, 2, .iload 5, 0), (108, 1, .bipush 49, 0), (110, 4, .if_icmp .ge 45, 155)],
  [(113, 2, .lload_n kF3, 0), (114, 2, .iload 8, 0), (116, 6, .invokestatic 48, 0), (119, 4, .ifCond .eq 36, 155), (122, 2, .aload_n kF0, 0), (123, 5, .getfield 9, 0), (126, 2, .iload 8, 0)],
  [(128, 2, .aload_n kF0, 0), (129, 5, .getfield 9, 0), (132, 2, .aload_n kF0, 0), (133, 5, .getfield 15, 0), (136, 2, .iload 6, 0), (138, 5, .iaload, 0), (139, 5, .iaload, 0), (140, 0, .iconst 1, 0), (141, 0, .iadd, 0), (142, 5, .iastore, 0), (143, 2, .aload_n kF0, 0)],
  [(144, 5, .getfield 15, 0), (147, 2, .iload 5, 0), (149, 2, .iload 8, 0), (151, 5, .iastore, 0), (152, 3, .iinc 5 1, 0), (155, 3, .iinc 7 1, 0), (158, 4, .goto (-111), 47)],
  [(161, 3, .iinc 6 1, 0), (164, 4, .goto (-134), 30), (167, 7, .return_, 0)]]
noncomputable def ky_72 : MethodName := ({ cls := "BonnetValley$Route", name := "measure", desc := "(LBonnetValley$Land;IJ)V" } : Jvm.MethodName)
noncomputable def kRow_72 : pm_Row := ((ky_72, prog_9_method_4_code, 10, (Option.none : Option Jvm.ClassFile.FieldType)), 7, (3, 10, 0), kc_72)
/-- BV$Route.leastNearer -/
noncomputable def kc_73 : List (List (Nat × Nat × Instr × Nat)) := [[(0, 1, .bipush 49, 0), (2, 3, .istore 4, 0), (4, 0, .iconst 0, 0), (5, 3, .istore 5, 0), (7, 2, .iload 5, 0), (9, 1, .bipush 8, 0), (11, 4, .if_icmp .ge 45, 56), (14, 2, .aload_n kF1, 0), (15, 2, .iload_n kF2, 0)],
  [(16, 2, .iload 5, 0), (18, 6, .invokevirtual 44, 0), (21, 3, .istore 6, 0), (23, 2, .iload 6, 0), (25, 4, .ifCond .lt 25, 50), (28, 2, .iload 6, 0), (30, 2, .iload 4, 0)],
  [(32, 4, .if_icmp .ge 18, 50), (35, 2, .aload_n kF0, 0), (36, 5, .getfield 9, 0), (39, 2, .iload 6, 0), (41, 5, .iaload, 0), (42, 2, .iload_n kF3, 0), (43, 4, .if_icmp .ne 7, 50), (46, 2, .iload 6, 0)],
  [(48, 3, .istore 4, 0), (50, 3, .iinc 5 1, 0), (53, 4, .goto (-46), 7), (56, 2, .iload 4, 0), (58, 1, .bipush 49, 0), (60, 4, .if_icmp .ge 8, 68), (63, 2, .iload 4, 0)],
  [(65, 4, .goto 4, 69), (68, 2, .iload_n kF2, 0), (69, 7, .ireturn, 0)]]
noncomputable def ky_73 : MethodName := ({ cls := "BonnetValley$Route", name := "leastNearer", desc := "(LBonnetValley$Land;II)I" } : Jvm.MethodName)
noncomputable def kRow_73 : pm_Row := ((ky_73, prog_9_method_5_code, 7, (Option.some Jvm.ClassFile.FieldType.int)), 7, (3, 7, 1), kc_73)
/-- BV$Sight.new -/
noncomputable def kc_74 : List (List (Nat × Nat × Instr × Nat)) := [[(0, 2, .aload_n kF0, 0), (1, 5, .invokespecial 3, 0), (4, 2, .aload_n kF0, 0), (5, 2, .aload_n kF1, 0), (6, 5, .putfield 9, 0), (9, 2, .aload_n kF0, 0), (10, 5, .new 15, 0), (13, 0, .dup, 0), (14, 6, .invokespecial 17, 0)],
  [(17, 5, .putfield 18, 0), (20, 2, .aload_n kF0, 0), (21, 5, .new 15, 0), (24, 0, .dup, 0), (25, 6, .invokespecial 17, 0), (28, 5, .putfield 22, 0), (31, 2, .aload_n kF0, 0)],
  [(32, 1, .bipush 20, 0), (34, 5, .newarray .int, 0), (36, 5, .putfield 25, 0), (39, 2, .aload_n kF0, 0), (40, 5, .getfield 25, 0), (43, 0, .iconst 0, 0), (44, 1, .bipush 9, 0), (46, 5, .iastore, 0), (47, 2, .aload_n kF0, 0)],
  [(48, 0, .iconst 1, 0), (49, 5, .putfield 29, 0), (52, 2, .aload_n kF0, 0), (53, 1, .bipush 8, 0), (55, 5, .newarray .int, 0), (57, 5, .putfield 33, 0), (60, 2, .aload_n kF0, 0), (61, 1, .bipush 8, 0), (63, 5, .newarray .long, 0)],
  [(65, 5, .putfield 36, 0), (68, 2, .aload_n kF0, 0), (69, 1, .bipush 8, 0), (71, 5, .newarray .int, 0), (73, 5, .putfield 40, 0), (76, 7, .return_, 0)]]
noncomputable def ky_74 : MethodName := ({ cls := "BonnetValley$Sight", name := "<init>", desc := "(LBonnetValley$Land;)V" } : Jvm.MethodName)
noncomputable def kRow_74 : pm_Row := ((ky_74, prog_10_method_1_code, 2, (Option.none : Option Jvm.ClassFile.FieldType)), 8, (1, 2, 0), kc_74)
/-- BV$Sight.readLight -/
noncomputable def kc_75 : List (List (Nat × Nat × Instr × Nat)) := [[(0, 2, .aload_n kF1, 0), (1, 6, .invokevirtual 43, 0), (4, 3, .istore_n kF2, 0), (5, 2, .iload_n kF2, 0), (6, 4, .ifCond .ne 5, 11), (9, 0, .iconst 0, 0), (10, 7, .ireturn, 0), (11, 0, .iconst 0, 0), (12, 3, .istore_n kF3, 0), (13, 2, .iload_n kF3, 0), (14, 2, .iload_n kF2, 0), (15, 4, .if_icmp .ge 25, 40)],
  [(18, 2, .iload_n kF3, 0), (19, 1, .bipush 20, 0), (21, 4, .if_icmp .eq 11, 32), (24, 2, .aload_n kF1, 0), (25, 2, .iload_n kF3, 0), (26, 6, .invokevirtual 49, 0), (29, 4, .ifCond .ge 5, 34)],
  [(32, 2, .iload_n kF3, 0), (33, 7, .ireturn, 0), (34, 3, .iinc 3 1, 0), (37, 4, .goto (-24), 13), (40, 0, .iconst 0, 0), (41, 3, .istore_n kF3, 0), (42, 2, .iload_n kF3, 0), (43, 2, .iload_n kF2, 0), (44, 4, .if_icmp .ge 26, 70), (47, 2, .iload_n kF3, 0)],
  [(48, 1, .bipush 20, 0), (50, 4, .if_icmp .ge 20, 70), (53, 2, .aload_n kF0, 0), (54, 5, .getfield 25, 0), (57, 2, .iload_n kF3, 0), (58, 2, .aload_n kF1, 0), (59, 2, .iload_n kF3, 0), (60, 6, .invokevirtual 49, 0), (63, 5, .iastore, 0)],
  [(64, 3, .iinc 3 1, 0), (67, 4, .goto (-25), 42), (70, 2, .aload_n kF0, 0), (71, 2, .iload_n kF2, 0), (72, 5, .putfield 29, 0), (75, 0, .iconst (-1), 0), (76, 7, .ireturn, 0)]]
noncomputable def ky_75 : MethodName := ({ cls := "BonnetValley$Sight", name := "readLight", desc := "(LBonnetValley$Signs;)I" } : Jvm.MethodName)
noncomputable def kRow_75 : pm_Row := ((ky_75, prog_10_method_2_code, 4, (Option.some Jvm.ClassFile.FieldType.int)), 8, (1, 4, 1), kc_75)
/-- BV$Sight.lightAt -/
noncomputable def kc_76 : List (List (Nat × Nat × Instr × Nat)) := [[(0, 2, .aload_n kF0, 0), (1, 5, .getfield 29, 0), (4, 0, .iconst 1, 0), (5, 4, .if_icmp .lt 16, 21), (8, 2, .aload_n kF0, 0), (9, 5, .getfield 29, 0), (12, 1, .bipush 20, 0), (14, 4, .if_icmp .gt 7, 21)],
  [(17, 2, .iload_n kF1, 0), (18, 4, .ifCond .ge 5, 23), (21, 0, .iconst 0, 0), (22, 7, .ireturn, 0), (23, 2, .aload_n kF0, 0), (24, 5, .getfield 25, 0), (27, 2, .iload_n kF1, 0), (28, 2, .aload_n kF0, 0), (29, 5, .getfield 29, 0)],
  [(32, 0, .irem, 0), (33, 5, .iaload, 0), (34, 7, .ireturn, 0)]]
noncomputable def ky_76 : MethodName := ({ cls := "BonnetValley$Sight", name := "lightAt", desc := "(I)I" } : Jvm.MethodName)
noncomputable def kRow_76 : pm_Row := ((ky_76, prog_10_method_3_code, 2, (Option.some Jvm.ClassFile.FieldType.int)), 8, (1, 2, 1), kc_76)
/-- BV$Sight.other -/
noncomputable def kc_77 : List (List (Nat × Nat × Instr × Nat)) := [[(0, 2, .aload_n kF0, 0), (1, 5, .getfield 22, 0), (4, 7, .areturn, 0)]]
noncomputable def ky_77 : MethodName := ({ cls := "BonnetValley$Sight", name := "other", desc := "()LBonnetValley$Formula;" } : Jvm.MethodName)
noncomputable def kRow_77 : pm_Row := ((ky_77, prog_10_method_4_code, 1, (Option.some (Jvm.ClassFile.FieldType.object "BonnetValley$Formula"))), 8, (0, 1, 4), kc_77)
/-- BV$Sight.takeOther -/
noncomputable def kc_78 : List (List (Nat × Nat × Instr × Nat)) := [[(0, 2, .aload_n kF0, 0), (1, 5, .getfield 18, 0), (4, 3, .astore_n kF1, 0), (5, 2, .aload_n kF0, 0), (6, 2, .aload_n kF0, 0), (7, 5, .getfield 22, 0), (10, 5, .putfield 18, 0), (13, 2, .aload_n kF0, 0), (14, 2, .aload_n kF1, 0), (15, 5, .putfield 22, 0)],
  [(18, 7, .return_, 0)]]
noncomputable def ky_78 : MethodName := ({ cls := "BonnetValley$Sight", name := "takeOther", desc := "()V" } : Jvm.MethodName)
noncomputable def kRow_78 : pm_Row := ((ky_78, prog_10_method_5_code, 2, (Option.none : Option Jvm.ClassFile.FieldType)), 8, (0, 2, 0), kc_78)
/-- BV$Sight.reach -/
noncomputable def kc_79 : List (List (Nat × Nat × Instr × Nat)) := [[(0, 2, .aload_n kF1, 0), (1, 2, .iload_n kF2, 0), (2, 6, .invokevirtual 53, 0), (5, 4, .ifCond .eq 22, 27), (8, 2, .aload_n kF0, 0), (9, 2, .aload_n kF0, 0), (10, 5, .getfield 18, 0), (13, 2, .aload_n kF1, 0), (14, 2, .iload_n kF2, 0), (15, 2, .aload_n kF1, 0)],
  [(16, 5, .getfield 59, 0), (19, 2, .iload_n kF2, 0), (20, 5, .iaload, 0), (21, 6, .invokevirtual 62, 0), (24, 4, .goto 4, 28), (27, 0, .iconst 0, 0), (28, 7, .ireturn, 0)]]
noncomputable def ky_79 : MethodName := ({ cls := "BonnetValley$Sight", name := "reach", desc := "(LBonnetValley$State;I)I" } : Jvm.MethodName)
noncomputable def kRow_79 : pm_Row := ((ky_79, prog_10_method_6_code, 3, (Option.some Jvm.ClassFile.FieldType.int)), 8, (2, 3, 1), kc_79)
/-- BV$Sight.reachUnder -/
noncomputable def kc_80 : List (List (Nat × Nat × Instr × Nat)) := [[(0, 2, .aload_n kF1, 0), (1, 2, .iload_n kF2, 0), (2, 6, .invokevirtual 53, 0), (5, 4, .ifCond .eq 17, 22), (8, 2, .aload_n kF0, 0), (9, 2, .aload_n kF0, 0), (10, 5, .getfield 18, 0), (13, 2, .aload_n kF1, 0), (14, 2, .iload_n kF2, 0), (15, 2, .iload_n kF3, 0)],
  [(16, 6, .invokevirtual 62, 0), (19, 4, .goto 4, 23), (22, 0, .iconst 0, 0), (23, 7, .ireturn, 0)]]
noncomputable def ky_80 : MethodName := ({ cls := "BonnetValley$Sight", name := "reachUnder", desc := "(LBonnetValley$State;II)I" } : Jvm.MethodName)
noncomputable def kRow_80 : pm_Row := ((ky_80, prog_10_method_7_code, 4, (Option.some Jvm.ClassFile.FieldType.int)), 8, (3, 4, 1), kc_80)
/-- BV$Sight.reachBy -/
noncomputable def kc_81 : List (List (Nat × Nat × Instr × Nat)) := [[(0, 2, .aload_n kF2, 0), (1, 5, .getfield 66, 0), (4, 2, .iload_n kF3, 0), (5, 5, .iaload, 0), (6, 3, .istore 5, 0), (8, 2, .aload_n kF0, 0), (9, 5, .getfield 33, 0), (12, 0, .iconst 0, 0), (13, 2, .iload 4, 0), (15, 5, .iastore, 0)],
  [(16, 2, .aload_n kF0, 0), (17, 5, .getfield 33, 0), (20, 0, .iconst 1, 0), (21, 2, .aload_n kF0, 0), (22, 2, .aload_n kF2, 0), (23, 5, .getfield 69, 0), (26, 6, .invokevirtual 72, 0), (29, 5, .iastore, 0), (30, 2, .aload_n kF0, 0), (31, 5, .getfield 33, 0)],
  [(34, 0, .iconst 2, 0), (35, 2, .aload_n kF2, 0), (36, 5, .getfield 75, 0), (39, 2, .iload_n kF3, 0), (40, 5, .iaload, 0), (41, 6, .invokestatic 78, 0), (44, 5, .iastore, 0), (45, 2, .aload_n kF0, 0), (46, 5, .getfield 33, 0)],
  [(49, 0, .iconst 3, 0), (50, 2, .aload_n kF2, 0), (51, 5, .getfield 83, 0), (54, 2, .iload_n kF3, 0), (55, 5, .iaload, 0), (56, 5, .iastore, 0), (57, 2, .aload_n kF0, 0), (58, 5, .getfield 33, 0), (61, 0, .iconst 4, 0), (62, 2, .aload_n kF0, 0), (63, 5, .getfield 9, 0)],
  [(66, 2, .iload 5, 0), (68, 6, .invokevirtual 86, 0), (71, 5, .iastore, 0), (72, 2, .aload_n kF0, 0), (73, 5, .getfield 33, 0), (76, 0, .iconst 5, 0), (77, 2, .aload_n kF0, 0), (78, 5, .getfield 9, 0)],
  [(81, 2, .iload 5, 0), (83, 6, .invokevirtual 91, 0), (86, 5, .iastore, 0), (87, 2, .aload_n kF0, 0), (88, 5, .getfield 33, 0), (91, 1, .bipush 6, 0), (93, 2, .aload_n kF2, 0), (94, 5, .getfield 69, 0)],
  [(97, 1, .bipush 7, 0), (99, 0, .irem, 0), (100, 5, .iastore, 0), (101, 2, .aload_n kF0, 0), (102, 5, .getfield 33, 0), (105, 1, .bipush 7, 0), (107, 2, .aload_n kF2, 0), (108, 0, .lconst kG1, 0), (109, 2, .iload 5, 0), (111, 0, .lshl, 0)],
  [(112, 6, .invokevirtual 94, 0), (115, 6, .invokestatic 78, 0), (118, 5, .iastore, 0), (119, 0, .iconst 0, 0), (120, 1, .bipush 9, 0), (122, 2, .aload_n kF1, 0), (123, 2, .aload_n kF0, 0), (124, 5, .getfield 33, 0), (127, 6, .invokevirtual 98, 0)],
  [(130, 5, .invokestatic 102, 0), (133, 5, .invokestatic 108, 0), (136, 7, .ireturn, 0)]]
noncomputable def ky_81 : MethodName := ({ cls := "BonnetValley$Sight", name := "reachBy", desc := "(LBonnetValley$Formula;LBonnetValley$State;II)I" } : Jvm.MethodName)
noncomputable def kRow_81 : pm_Row := ((ky_81, prog_10_method_8_code, 6, (Option.some Jvm.ClassFile.FieldType.int)), 8, (4, 6, 1), kc_81)
/-- BV$Sight.viewOf -/
noncomputable def kc_82 : List (List (Nat × Nat × Instr × Nat)) := [[(0, 2, .aload_n kF1, 0), (1, 2, .iload_n kF2, 0), (2, 6, .invokevirtual 53, 0), (5, 4, .ifCond .eq 18, 23), (8, 2, .aload_n kF0, 0), (9, 2, .aload_n kF1, 0), (10, 2, .iload_n kF2, 0), (11, 2, .aload_n kF1, 0), (12, 5, .getfield 59, 0), (15, 2, .iload_n kF2, 0)],
  [(16, 5, .iaload, 0), (17, 6, .invokevirtual 111, 0), (20, 4, .goto 4, 24), (23, 0, .lconst kG0, 0), (24, 7, .lreturn, 0)]]
noncomputable def ky_82 : MethodName := ({ cls := "BonnetValley$Sight", name := "viewOf", desc := "(LBonnetValley$State;I)J" } : Jvm.MethodName)
noncomputable def kRow_82 : pm_Row := ((ky_82, prog_10_method_9_code, 3, (Option.some Jvm.ClassFile.FieldType.long)), 8, (2, 3, 3), kc_82)
/-- BV$Sight.viewUnder -/
noncomputable def kc_83 : List (List (Nat × Nat × Instr × Nat)) := [[(0, 2, .aload_n kF1, 0), (1, 2, .iload_n kF2, 0), (2, 6, .invokevirtual 53, 0), (5, 4, .ifCond .ne 5, 10), (8, 0, .lconst kG0, 0), (9, 7, .lreturn, 0), (10, 2, .aload_n kF0, 0), (11, 2, .aload_n kF0, 0), (12, 5, .getfield 18, 0), (15, 2, .aload_n kF1, 0)],
  [(16, 2, .iload_n kF2, 0), (17, 2, .iload_n kF3, 0), (18, 6, .invokevirtual 62, 0), (21, 3, .istore 4, 0), (23, 2, .aload_n kF0, 0), (24, 5, .getfield 9, 0), (27, 2, .aload_n kF1, 0), (28, 5, .getfield 66, 0), (31, 2, .iload_n kF2, 0)],
  [(32, 5, .iaload, 0), (33, 2, .aload_n kF1, 0), (34, 5, .getfield 83, 0), (37, 2, .iload_n kF2, 0), (38, 5, .iaload, 0), (39, 2, .iload_n kF3, 0), (40, 2, .iload 4, 0), (42, 6, .invokevirtual 115, 0), (45, 7, .lreturn, 0)]]
noncomputable def ky_83 : MethodName := ({ cls := "BonnetValley$Sight", name := "viewUnder", desc := "(LBonnetValley$State;II)J" } : Jvm.MethodName)
noncomputable def kRow_83 : pm_Row := ((ky_83, prog_10_method_10_code, 5, (Option.some Jvm.ClassFile.FieldType.long)), 8, (3, 5, 3), kc_83)
/-- BV$Sight.look -/
noncomputable def kc_84 : List (List (Nat × Nat × Instr × Nat)) := [[(0, 2, .aload_n kF0, 0), (1, 2, .aload_n kF0, 0), (2, 5, .getfield 18, 0), (5, 2, .aload_n kF1, 0), (6, 6, .invokevirtual 118, 0), (9, 7, .lreturn, 0)]]
noncomputable def ky_84 : MethodName := ({ cls := "BonnetValley$Sight", name := "look", desc := "(LBonnetValley$State;)J" } : Jvm.MethodName)
noncomputable def kRow_84 : pm_Row := ((ky_84, prog_10_method_11_code, 2, (Option.some Jvm.ClassFile.FieldType.long)), 8, (1, 2, 3), kc_84)
/-- BV$Sight.lookBy -/
noncomputable def kc_85 : List (List (Nat × Nat × Instr × Nat)) := [[(0, 0, .lconst kG0, 0), (1, 3, .lstore_n kF3, 0), (2, 0, .iconst 0, 0), (3, 3, .istore 5, 0), (5, 2, .iload 5, 0), (7, 2, .aload_n kF2, 0), (8, 5, .getfield 122, 0), (11, 4, .if_icmp .ge 80, 91), (14, 2, .iload 5, 0)],
  [(16, 1, .bipush 8, 0), (18, 4, .if_icmp .ge 73, 91), (21, 2, .aload_n kF0, 0), (22, 2, .aload_n kF1, 0), (23, 2, .aload_n kF2, 0), (24, 2, .iload 5, 0), (26, 2, .aload_n kF2, 0), (27, 5, .getfield 59, 0), (30, 2, .iload 5, 0)],
  [(32, 5, .iaload, 0), (33, 6, .invokevirtual 62, 0), (36, 3, .istore 6, 0), (38, 2, .aload_n kF0, 0), (39, 5, .getfield 36, 0), (42, 2, .iload 5, 0), (44, 2, .aload_n kF0, 0), (45, 5, .getfield 9, 0)],
  [(48, 2, .aload_n kF2, 0), (49, 5, .getfield 66, 0), (52, 2, .iload 5, 0), (54, 5, .iaload, 0), (55, 2, .aload_n kF2, 0), (56, 5, .getfield 83, 0), (59, 2, .iload 5, 0), (61, 5, .iaload, 0), (62, 2, .aload_n kF2, 0), (63, 5, .getfield 59, 0)],
  [(66, 2, .iload 5, 0), (68, 5, .iaload, 0), (69, 2, .iload 6, 0), (71, 6, .invokevirtual 115, 0), (74, 5, .lastore, 0), (75, 2, .lload_n kF3, 0), (76, 2, .aload_n kF0, 0), (77, 5, .getfield 36, 0)],
  [(80, 2, .iload 5, 0), (82, 5, .laload, 0), (83, 0, .lor, 0), (84, 3, .lstore_n kF3, 0), (85, 3, .iinc 5 1, 0), (88, 4, .goto (-83), 5), (91, 2, .lload_n kF3, 0), (92, 7, .lreturn, 0)]]
noncomputable def ky_85 : MethodName := ({ cls := "BonnetValley$Sight", name := "lookBy", desc := "(LBonnetValley$Formula;LBonnetValley$State;)J" } : Jvm.MethodName)
noncomputable def kRow_85 : pm_Row := ((ky_85, prog_10_method_12_code, 7, (Option.some Jvm.ClassFile.FieldType.long)), 8, (2, 7, 3), kc_85)
/-- BV$Sight.view -/
noncomputable def kc_86 : List (List (Nat × Nat × Instr × Nat)) := [[(0, 2, .iload_n kF1, 0), (1, 4, .ifCond .lt 18, 19), (4, 2, .iload_n kF1, 0), (5, 1, .bipush 8, 0), (7, 4, .if_icmp .ge 12, 19), (10, 2, .aload_n kF0, 0), (11, 5, .getfield 36, 0), (14, 2, .iload_n kF1, 0), (15, 5, .laload, 0)],
  [(16, 4, .goto 4, 20), (19, 0, .lconst kG0, 0), (20, 7, .lreturn, 0)]]
noncomputable def ky_86 : MethodName := ({ cls := "BonnetValley$Sight", name := "view", desc := "(I)J" } : Jvm.MethodName)
noncomputable def kRow_86 : pm_Row := ((ky_86, prog_10_method_13_code, 2, (Option.some Jvm.ClassFile.FieldType.long)), 8, (1, 2, 3), kc_86)
/-- BV$Sight.viewTogether -/
noncomputable def kc_87 : List (List (Nat × Nat × Instr × Nat)) := [[(0, 0, .lconst kG0, 0), (1, 3, .lstore_n kF3, 0), (2, 0, .iconst 0, 0), (3, 3, .istore 5, 0), (5, 2, .iload 5, 0), (7, 2, .aload_n kF1, 0), (8, 5, .getfield 122, 0), (11, 4, .if_icmp .ge 36, 47), (14, 2, .iload 5, 0)],
  [(16, 1, .bipush 8, 0), (18, 4, .if_icmp .ge 29, 47), (21, 2, .iload_n kF2, 0), (22, 2, .iload 5, 0), (24, 0, .ishr, 0), (25, 0, .iconst 1, 0), (26, 0, .iand, 0), (27, 0, .iconst 1, 0), (28, 4, .if_icmp .ne 13, 41), (31, 2, .lload_n kF3, 0)],
  [(32, 2, .aload_n kF0, 0), (33, 5, .getfield 36, 0), (36, 2, .iload 5, 0), (38, 5, .laload, 0), (39, 0, .lor, 0), (40, 3, .lstore_n kF3, 0), (41, 3, .iinc 5 1, 0), (44, 4, .goto (-39), 5), (47, 2, .lload_n kF3, 0)],
  [(48, 7, .lreturn, 0)]]
noncomputable def ky_87 : MethodName := ({ cls := "BonnetValley$Sight", name := "viewTogether", desc := "(LBonnetValley$State;I)J" } : Jvm.MethodName)
noncomputable def kRow_87 : pm_Row := ((ky_87, prog_10_method_14_code, 6, (Option.some Jvm.ClassFile.FieldType.long)), 8, (2, 6, 3), kc_87)
/-- BV$Sight.seersOf -/
noncomputable def kc_88 : List (List (Nat × Nat × Instr × Nat)) := [[(0, 0, .iconst 0, 0), (1, 3, .istore_n kF3, 0), (2, 0, .iconst 0, 0), (3, 3, .istore 4, 0), (5, 2, .iload 4, 0), (7, 2, .aload_n kF1, 0), (8, 5, .getfield 122, 0), (11, 4, .if_icmp .ge 34, 45), (14, 2, .iload 4, 0)],
  [(16, 1, .bipush 8, 0), (18, 4, .if_icmp .ge 27, 45), (21, 2, .iload_n kF3, 0), (22, 2, .aload_n kF0, 0), (23, 5, .getfield 36, 0), (26, 2, .iload 4, 0), (28, 5, .laload, 0), (29, 2, .iload_n kF2, 0), (30, 0, .lshr, 0), (31, 0, .lconst kG1, 0)],
  [(32, 0, .land, 0), (33, 0, .l2i, 0), (34, 2, .iload 4, 0), (36, 0, .ishl, 0), (37, 0, .ior, 0), (38, 3, .istore_n kF3, 0), (39, 3, .iinc 4 1, 0), (42, 4, .goto (-37), 5), (45, 2, .iload_n kF3, 0), (46, 7, .ireturn, 0)]]
noncomputable def ky_88 : MethodName := ({ cls := "BonnetValley$Sight", name := "seersOf", desc := "(LBonnetValley$State;I)I" } : Jvm.MethodName)
noncomputable def kRow_88 : pm_Row := ((ky_88, prog_10_method_15_code, 5, (Option.some Jvm.ClassFile.FieldType.int)), 8, (2, 5, 1), kc_88)
/-- BV$Sight.meet -/
noncomputable def kc_89 : List (List (Nat × Nat × Instr × Nat)) := [[(0, 2, .aload_n kF1, 0), (1, 2, .iload_n kF2, 0), (2, 6, .invokevirtual 53, 0), (5, 4, .ifCond .eq 11, 16), (8, 2, .aload_n kF1, 0), (9, 2, .iload_n kF3, 0), (10, 6, .invokevirtual 53, 0), (13, 4, .ifCond .ne 5, 18)],
  [(16, 0, .iconst 0, 0), (17, 7, .ireturn, 0), (18, 2, .aload_n kF0, 0), (19, 5, .getfield 36, 0), (22, 2, .iload_n kF2, 0), (23, 5, .laload, 0), (24, 2, .aload_n kF1, 0), (25, 5, .getfield 66, 0), (28, 2, .iload_n kF3, 0), (29, 5, .iaload, 0), (30, 6, .invokestatic 125, 0)],
  [(33, 4, .ifCond .eq 25, 58), (36, 2, .aload_n kF0, 0), (37, 5, .getfield 36, 0), (40, 2, .iload_n kF3, 0), (41, 5, .laload, 0), (42, 2, .aload_n kF1, 0), (43, 5, .getfield 66, 0), (46, 2, .iload_n kF2, 0), (47, 5, .iaload, 0)],
  [(48, 6, .invokestatic 125, 0), (51, 4, .ifCond .eq 7, 58), (54, 0, .iconst 1, 0), (55, 4, .goto 4, 59), (58, 0, .iconst 0, 0), (59, 7, .ireturn, 0)]]
noncomputable def ky_89 : MethodName := ({ cls := "BonnetValley$Sight", name := "meet", desc := "(LBonnetValley$State;II)Z" } : Jvm.MethodName)
noncomputable def kRow_89 : pm_Row := ((ky_89, prog_10_method_16_code, 4, (Option.some Jvm.ClassFile.FieldType.boolean)), 8, (3, 4, 2), kc_89)
/-- BV$Sight.tell -/
noncomputable def kc_90 : List (List (Nat × Nat × Instr × Nat)) := [[(0, 2, .aload_n kF0, 0), (1, 2, .aload_n kF1, 0), (2, 2, .iload_n kF2, 0), (3, 2, .iload_n kF3, 0), (4, 6, .invokevirtual 129, 0), (7, 4, .ifCond .ne 5, 12), (10, 0, .iconst 0, 0), (11, 7, .ireturn, 0), (12, 2, .aload_n kF0, 0), (13, 5, .getfield 9, 0)],
  [(16, 2, .aload_n kF1, 0), (17, 5, .getfield 66, 0), (20, 2, .iload_n kF2, 0), (21, 5, .iaload, 0), (22, 6, .invokevirtual 86, 0), (25, 2, .aload_n kF0, 0), (26, 5, .getfield 9, 0), (29, 2, .aload_n kF1, 0), (30, 5, .getfield 66, 0)],
  [(33, 2, .iload_n kF3, 0), (34, 5, .iaload, 0), (35, 6, .invokevirtual 86, 0), (38, 0, .isub, 0), (39, 3, .istore 4, 0), (41, 2, .aload_n kF0, 0), (42, 5, .getfield 9, 0), (45, 2, .aload_n kF1, 0), (46, 5, .getfield 66, 0)],
  [(49, 2, .iload_n kF2, 0), (50, 5, .iaload, 0), (51, 6, .invokevirtual 91, 0), (54, 2, .aload_n kF0, 0), (55, 5, .getfield 9, 0), (58, 2, .aload_n kF1, 0), (59, 5, .getfield 66, 0), (62, 2, .iload_n kF3, 0), (63, 5, .iaload, 0)],
  [(64, 6, .invokevirtual 91, 0), (67, 0, .isub, 0), (68, 3, .istore 5, 0), (70, 2, .iload 4, 0), (72, 5, .invokestatic 133, 0), (75, 0, .iconst 1, 0), (76, 4, .if_icmp .gt 16, 92), (79, 2, .iload 5, 0)],
  [(81, 5, .invokestatic 133, 0), (84, 0, .iconst 1, 0), (85, 4, .if_icmp .gt 7, 92), (88, 0, .iconst 1, 0), (89, 4, .goto 4, 93), (92, 0, .iconst 0, 0), (93, 7, .ireturn, 0)]]
noncomputable def ky_90 : MethodName := ({ cls := "BonnetValley$Sight", name := "tell", desc := "(LBonnetValley$State;II)Z" } : Jvm.MethodName)
noncomputable def kRow_90 : pm_Row := ((ky_90, prog_10_method_17_code, 6, (Option.some Jvm.ClassFile.FieldType.boolean)), 8, (3, 6, 2), kc_90)
/-- BV$Sight.toldBy -/
noncomputable def kc_91 : List (List (Nat × Nat × Instr × Nat)) := [[(0, 2, .iload_n kF2, 0), (1, 3, .istore_n kF3, 0), (2, 0, .iconst 0, 0), (3, 3, .istore 4, 0), (5, 2, .iload 4, 0), (7, 2, .aload_n kF1, 0), (8, 5, .getfield 122, 0), (11, 4, .if_icmp .ge 56, 67), (14, 0, .iconst 0, 0), (15, 3, .istore 5, 0)],
  [(17, 2, .iload 5, 0), (19, 2, .aload_n kF1, 0), (20, 5, .getfield 122, 0), (23, 4, .if_icmp .ge 38, 61), (26, 2, .iload_n kF2, 0), (27, 2, .iload 4, 0), (29, 0, .ishr, 0), (30, 0, .iconst 1, 0), (31, 0, .iand, 0)],
  [(32, 0, .iconst 1, 0), (33, 4, .if_icmp .ne 22, 55), (36, 2, .aload_n kF0, 0), (37, 2, .aload_n kF1, 0), (38, 2, .iload 4, 0), (40, 2, .iload 5, 0), (42, 6, .invokevirtual 136, 0), (45, 4, .ifCond .eq 10, 55)],
  [(48, 2, .iload_n kF3, 0), (49, 0, .iconst 1, 0), (50, 2, .iload 5, 0), (52, 0, .ishl, 0), (53, 0, .ior, 0), (54, 3, .istore_n kF3, 0), (55, 3, .iinc 5 1, 0), (58, 4, .goto (-41), 17), (61, 3, .iinc 4 1, 0)],
  [(64, 4, .goto (-59), 5), (67, 2, .iload_n kF3, 0), (68, 7, .ireturn, 0)]]
noncomputable def ky_91 : MethodName := ({ cls := "BonnetValley$Sight", name := "toldBy", desc := "(LBonnetValley$State;I)I" } : Jvm.MethodName)
noncomputable def kRow_91 : pm_Row := ((ky_91, prog_10_method_18_code, 6, (Option.some Jvm.ClassFile.FieldType.int)), 8, (2, 6, 1), kc_91)
/-- BV$Sight.pass -/
noncomputable def kc_92 : List (List (Nat × Nat × Instr × Nat)) := [[(0, 0, .iconst 0, 0), (1, 3, .istore_n kF3, 0), (2, 2, .iload_n kF3, 0), (3, 2, .iload_n kF2, 0), (4, 4, .if_icmp .ge 107, 111), (7, 2, .aload_n kF0, 0), (8, 2, .aload_n kF0, 0), (9, 5, .getfield 18, 0), (12, 2, .aload_n kF1, 0), (13, 6, .invokevirtual 118, 0)],
  [(16, 0, .pop2, 0), (17, 0, .iconst 0, 0), (18, 3, .istore 4, 0), (20, 2, .iload 4, 0), (22, 2, .aload_n kF1, 0), (23, 5, .getfield 122, 0), (26, 4, .if_icmp .ge 30, 56), (29, 2, .iload 4, 0), (31, 1, .bipush 8, 0)],
  [(33, 4, .if_icmp .ge 23, 56), (36, 2, .aload_n kF0, 0), (37, 5, .getfield 40, 0), (40, 2, .iload 4, 0), (42, 2, .aload_n kF0, 0), (43, 2, .aload_n kF1, 0), (44, 2, .iload 4, 0), (46, 6, .invokevirtual 139, 0)],
  [(49, 5, .iastore, 0), (50, 3, .iinc 4 1, 0), (53, 4, .goto (-33), 20), (56, 0, .iconst 0, 0), (57, 3, .istore 4, 0), (59, 2, .iload 4, 0), (61, 2, .aload_n kF1, 0), (62, 5, .getfield 122, 0)],
  [(65, 4, .if_icmp .ge 30, 95), (68, 2, .iload 4, 0), (70, 1, .bipush 8, 0), (72, 4, .if_icmp .ge 23, 95), (75, 2, .aload_n kF1, 0), (76, 5, .getfield 75, 0), (79, 2, .iload 4, 0)],
  [(81, 2, .aload_n kF0, 0), (82, 5, .getfield 40, 0), (85, 2, .iload 4, 0), (87, 5, .iaload, 0), (88, 5, .iastore, 0), (89, 3, .iinc 4 1, 0), (92, 4, .goto (-33), 59), (95, 2, .aload_n kF1, 0)],
  [(96, 0, .dup, 0), (97, 5, .getfield 69, 0), (100, 0, .iconst 1, 0), (101, 0, .iadd, 0), (102, 5, .putfield 69, 0), (105, 3, .iinc 3 1, 0), (108, 4, .goto (-106), 2), (111, 2, .aload_n kF1, 0)],
  [(112, 6, .invokevirtual 143, 0), (115, 7, .ireturn, 0)]]
noncomputable def ky_92 : MethodName := ({ cls := "BonnetValley$Sight", name := "pass", desc := "(LBonnetValley$State;I)I" } : Jvm.MethodName)
noncomputable def kRow_92 : pm_Row := ((ky_92, prog_10_method_19_code, 5, (Option.some Jvm.ClassFile.FieldType.int)), 8, (2, 5, 1), kc_92)
/-- BV$Sight.learnedBy -/
noncomputable def kc_93 : List (List (Nat × Nat × Instr × Nat)) := [[(0, 2, .aload_n kF1, 0), (1, 5, .getfield 75, 0), (4, 2, .iload_n kF2, 0), (5, 5, .iaload, 0), (6, 2, .aload_n kF1, 0), (7, 2, .aload_n kF0, 0), (8, 5, .getfield 36, 0), (11, 2, .iload_n kF2, 0), (12, 5, .laload, 0), (13, 6, .invokevirtual 146, 0)],
  [(16, 0, .ior, 0), (17, 3, .istore_n kF3, 0), (18, 0, .iconst 0, 0), (19, 3, .istore 4, 0), (21, 2, .iload 4, 0), (23, 2, .aload_n kF1, 0), (24, 5, .getfield 122, 0), (27, 4, .if_icmp .ge 51, 78), (30, 2, .iload 4, 0)],
  [(32, 1, .bipush 8, 0), (34, 4, .if_icmp .ge 44, 78), (37, 2, .aload_n kF1, 0), (38, 5, .getfield 75, 0), (41, 2, .iload 4, 0), (43, 5, .iaload, 0), (44, 2, .iload_n kF3, 0), (45, 0, .iconst (-1), 0), (46, 0, .ixor, 0), (47, 0, .iand, 0)],
  [(48, 4, .ifCond .eq 24, 72), (51, 2, .aload_n kF0, 0), (52, 2, .aload_n kF1, 0), (53, 2, .iload_n kF2, 0), (54, 2, .iload 4, 0), (56, 6, .invokevirtual 136, 0), (59, 4, .ifCond .eq 13, 72), (62, 2, .iload_n kF3, 0), (63, 2, .aload_n kF1, 0)],
  [(64, 5, .getfield 75, 0), (67, 2, .iload 4, 0), (69, 5, .iaload, 0), (70, 0, .ior, 0), (71, 3, .istore_n kF3, 0), (72, 3, .iinc 4 1, 0), (75, 4, .goto (-54), 21), (78, 2, .iload_n kF3, 0), (79, 7, .ireturn, 0)]]
noncomputable def ky_93 : MethodName := ({ cls := "BonnetValley$Sight", name := "learnedBy", desc := "(LBonnetValley$State;I)I" } : Jvm.MethodName)
noncomputable def kRow_93 : pm_Row := ((ky_93, prog_10_method_20_code, 5, (Option.some Jvm.ClassFile.FieldType.int)), 8, (2, 5, 1), kc_93)
/-- BV$Signs.new -/
noncomputable def kc_94 : List (List (Nat × Nat × Instr × Nat)) := [[(0, 2, .aload_n kF0, 0), (1, 5, .invokespecial 1, 0), (4, 2, .aload_n kF0, 0), (5, 1, .bipush 80, 0), (7, 5, .newarray .int, 0), (9, 5, .putfield 9, 0), (12, 2, .aload_n kF0, 0), (13, 0, .iconst 0, 0), (14, 5, .putfield 13, 0)],
  [(17, 7, .return_, 0)]]
noncomputable def ky_94 : MethodName := ({ cls := "BonnetValley$Signs", name := "<init>", desc := "()V" } : Jvm.MethodName)
noncomputable def kRow_94 : pm_Row := ((ky_94, prog_11_method_1_code, 1, (Option.none : Option Jvm.ClassFile.FieldType)), 9, (0, 1, 0), kc_94)
/-- BV$Signs.append -/
noncomputable def kc_95 : List (List (Nat × Nat × Instr × Nat)) := [[(0, 2, .aload_n kF0, 0), (1, 5, .getfield 13, 0), (4, 4, .ifCond .lt 14, 18), (7, 2, .aload_n kF0, 0), (8, 5, .getfield 13, 0), (11, 0, .iconst 4, 0), (12, 0, .iadd, 0), (13, 1, .bipush 80, 0), (15, 4, .if_icmp .le 5, 20)],
  [(18, 0, .iconst 0, 0), (19, 7, .ireturn, 0), (20, 0, .iconst 0, 0), (21, 3, .istore_n kF2, 0), (22, 2, .iload_n kF2, 0), (23, 0, .iconst 4, 0), (24, 4, .if_icmp .ge 33, 57), (27, 2, .aload_n kF0, 0), (28, 5, .getfield 9, 0), (31, 2, .aload_n kF0, 0)],
  [(32, 5, .getfield 13, 0), (35, 2, .iload_n kF2, 0), (36, 0, .iadd, 0), (37, 2, .iload_n kF1, 0), (38, 1, .bipush 24, 0), (40, 1, .bipush 8, 0), (42, 2, .iload_n kF2, 0), (43, 0, .imul, 0), (44, 0, .isub, 0), (45, 0, .iushr, 0), (46, 1, .sipush 255, 0)],
  [(49, 0, .iand, 0), (50, 5, .iastore, 0), (51, 3, .iinc 2 1, 0), (54, 4, .goto (-32), 22), (57, 2, .aload_n kF0, 0), (58, 0, .dup, 0), (59, 5, .getfield 13, 0), (62, 0, .iconst 4, 0), (63, 0, .iadd, 0)],
  [(64, 5, .putfield 13, 0), (67, 0, .iconst 1, 0), (68, 7, .ireturn, 0)]]
noncomputable def ky_95 : MethodName := ({ cls := "BonnetValley$Signs", name := "append", desc := "(I)Z" } : Jvm.MethodName)
noncomputable def kRow_95 : pm_Row := ((ky_95, prog_11_method_2_code, 3, (Option.some Jvm.ClassFile.FieldType.boolean)), 9, (1, 3, 2), kc_95)
/-- BV$Signs.cut -/
noncomputable def kc_96 : List (List (Nat × Nat × Instr × Nat)) := [[(0, 2, .iload_n kF1, 0), (1, 4, .ifCond .lt 11, 12), (4, 2, .iload_n kF1, 0), (5, 2, .aload_n kF0, 0), (6, 5, .getfield 13, 0), (9, 4, .if_icmp .le 5, 14), (12, 0, .iconst 0, 0), (13, 7, .ireturn, 0), (14, 2, .aload_n kF0, 0), (15, 2, .iload_n kF1, 0)],
  [(16, 5, .putfield 13, 0), (19, 0, .iconst 1, 0), (20, 7, .ireturn, 0)]]
noncomputable def ky_96 : MethodName := ({ cls := "BonnetValley$Signs", name := "cut", desc := "(I)Z" } : Jvm.MethodName)
noncomputable def kRow_96 : pm_Row := ((ky_96, prog_11_method_3_code, 2, (Option.some Jvm.ClassFile.FieldType.boolean)), 9, (1, 2, 2), kc_96)
/-- BV$Signs.at -/
noncomputable def kc_97 : List (List (Nat × Nat × Instr × Nat)) := [[(0, 2, .iload_n kF1, 0), (1, 4, .ifCond .lt 20, 21), (4, 2, .iload_n kF1, 0), (5, 2, .aload_n kF0, 0), (6, 5, .getfield 13, 0), (9, 4, .if_icmp .ge 12, 21), (12, 2, .aload_n kF0, 0), (13, 5, .getfield 9, 0)],
  [(16, 2, .iload_n kF1, 0), (17, 5, .iaload, 0), (18, 4, .goto 4, 22), (21, 0, .iconst (-1), 0), (22, 7, .ireturn, 0)]]
noncomputable def ky_97 : MethodName := ({ cls := "BonnetValley$Signs", name := "at", desc := "(I)I" } : Jvm.MethodName)
noncomputable def kRow_97 : pm_Row := ((ky_97, prog_11_method_4_code, 2, (Option.some Jvm.ClassFile.FieldType.int)), 9, (1, 2, 1), kc_97)
/-- BV$Signs.digitAt -/
noncomputable def kc_98 : List (List (Nat × Nat × Instr × Nat)) := [[(0, 2, .aload_n kF0, 0), (1, 2, .iload_n kF1, 0), (2, 6, .invokevirtual 17, 0), (5, 3, .istore_n kF2, 0), (6, 2, .iload_n kF2, 0), (7, 1, .bipush 48, 0), (9, 4, .if_icmp .lt 16, 25), (12, 2, .iload_n kF2, 0), (13, 1, .bipush 57, 0), (15, 4, .if_icmp .gt 10, 25)],
  [(18, 2, .iload_n kF2, 0), (19, 1, .bipush 48, 0), (21, 0, .isub, 0), (22, 4, .goto 4, 26), (25, 0, .iconst (-1), 0), (26, 7, .ireturn, 0)]]
noncomputable def ky_98 : MethodName := ({ cls := "BonnetValley$Signs", name := "digitAt", desc := "(I)I" } : Jvm.MethodName)
noncomputable def kRow_98 : pm_Row := ((ky_98, prog_11_method_5_code, 3, (Option.some Jvm.ClassFile.FieldType.int)), 9, (1, 3, 1), kc_98)
/-- BV$Signs.size -/
noncomputable def kc_99 : List (List (Nat × Nat × Instr × Nat)) := [[(0, 2, .aload_n kF0, 0), (1, 5, .getfield 13, 0), (4, 7, .ireturn, 0)]]
noncomputable def ky_99 : MethodName := ({ cls := "BonnetValley$Signs", name := "size", desc := "()I" } : Jvm.MethodName)
noncomputable def kRow_99 : pm_Row := ((ky_99, prog_11_method_6_code, 1, (Option.some Jvm.ClassFile.FieldType.int)), 9, (0, 1, 1), kc_99)
/-- BV$Signs.clear -/
noncomputable def kc_100 : List (List (Nat × Nat × Instr × Nat)) := [[(0, 2, .aload_n kF0, 0), (1, 0, .iconst 0, 0), (2, 5, .putfield 13, 0), (5, 7, .return_, 0)]]
noncomputable def ky_100 : MethodName := ({ cls := "BonnetValley$Signs", name := "clear", desc := "()V" } : Jvm.MethodName)
noncomputable def kRow_100 : pm_Row := ((ky_100, prog_11_method_7_code, 1, (Option.none : Option Jvm.ClassFile.FieldType)), 9, (0, 1, 0), kc_100)
/-- BV$State.new -/
noncomputable def kc_101 : List (List (Nat × Nat × Instr × Nat)) := [[(0, 2, .aload_n kF0, 0), (1, 5, .invokespecial 3, 0), (4, 2, .aload_n kF0, 0), (5, 1, .bipush 8, 0), (7, 5, .newarray .int, 0), (9, 5, .putfield 9, 0), (12, 2, .aload_n kF0, 0), (13, 1, .bipush 8, 0), (15, 5, .newarray .int, 0)],
  [(17, 5, .putfield 15, 0), (20, 2, .aload_n kF0, 0), (21, 1, .bipush 8, 0), (23, 5, .newarray .int, 0), (25, 5, .putfield 18, 0), (28, 2, .aload_n kF0, 0), (29, 1, .bipush 8, 0), (31, 5, .newarray .int, 0)],
  [(33, 5, .putfield 21, 0), (36, 2, .aload_n kF0, 0), (37, 1, .bipush 8, 0), (39, 5, .newarray .int, 0), (41, 5, .putfield 24, 0), (44, 2, .aload_n kF0, 0), (45, 6, .invokevirtual 27, 0)],
  [(48, 7, .return_, 0)]]
noncomputable def ky_101 : MethodName := ({ cls := "BonnetValley$State", name := "<init>", desc := "()V" } : Jvm.MethodName)
noncomputable def kRow_101 : pm_Row := ((ky_101, prog_12_method_1_code, 1, (Option.none : Option Jvm.ClassFile.FieldType)), 10, (0, 1, 0), kc_101)
/-- BV$State.clear -/
noncomputable def kc_102 : List (List (Nat × Nat × Instr × Nat)) := [[(0, 2, .aload_n kF0, 0), (1, 0, .iconst 0, 0), (2, 5, .putfield 30, 0), (5, 2, .aload_n kF0, 0), (6, 0, .iconst 0, 0), (7, 5, .putfield 34, 0), (10, 2, .aload_n kF0, 0), (11, 0, .iconst 0, 0), (12, 5, .putfield 37, 0), (15, 7, .return_, 0)]]
noncomputable def ky_102 : MethodName := ({ cls := "BonnetValley$State", name := "clear", desc := "()V" } : Jvm.MethodName)
noncomputable def kRow_102 : pm_Row := ((ky_102, prog_12_method_2_code, 1, (Option.none : Option Jvm.ClassFile.FieldType)), 10, (0, 1, 0), kc_102)
/-- BV$State.copy -/
noncomputable def kc_103 : List (List (Nat × Nat × Instr × Nat)) := [[(0, 2, .aload_n kF0, 0), (1, 2, .aload_n kF1, 0), (2, 5, .getfield 30, 0), (5, 5, .putfield 30, 0), (8, 2, .aload_n kF0, 0), (9, 2, .aload_n kF1, 0), (10, 5, .getfield 34, 0), (13, 5, .putfield 34, 0)],
  [(16, 2, .aload_n kF0, 0), (17, 2, .aload_n kF1, 0), (18, 5, .getfield 37, 0), (21, 5, .putfield 37, 0), (24, 2, .aload_n kF1, 0), (25, 5, .getfield 9, 0), (28, 0, .iconst 0, 0), (29, 2, .aload_n kF0, 0), (30, 5, .getfield 9, 0)],
  [(33, 0, .iconst 0, 0), (34, 1, .bipush 8, 0), (36, 5, .invokestatic 40, 0), (39, 2, .aload_n kF1, 0), (40, 5, .getfield 15, 0), (43, 0, .iconst 0, 0), (44, 2, .aload_n kF0, 0), (45, 5, .getfield 15, 0)],
  [(48, 0, .iconst 0, 0), (49, 1, .bipush 8, 0), (51, 5, .invokestatic 40, 0), (54, 2, .aload_n kF1, 0), (55, 5, .getfield 18, 0), (58, 0, .iconst 0, 0), (59, 2, .aload_n kF0, 0), (60, 5, .getfield 18, 0), (63, 0, .iconst 0, 0)],
  [(64, 1, .bipush 8, 0), (66, 5, .invokestatic 40, 0), (69, 2, .aload_n kF1, 0), (70, 5, .getfield 21, 0), (73, 0, .iconst 0, 0), (74, 2, .aload_n kF0, 0), (75, 5, .getfield 21, 0), (78, 0, .iconst 0, 0), (79, 1, .bipush 8, 0)],
  [(81, 5, .invokestatic 40, 0), (84, 2, .aload_n kF1, 0), (85, 5, .getfield 24, 0), (88, 0, .iconst 0, 0), (89, 2, .aload_n kF0, 0), (90, 5, .getfield 24, 0), (93, 0, .iconst 0, 0), (94, 1, .bipush 8, 0)],
  [(96, 5, .invokestatic 40, 0), (99, 7, .return_, 0)]]
noncomputable def ky_103 : MethodName := ({ cls := "BonnetValley$State", name := "copy", desc := "(LBonnetValley$State;)V" } : Jvm.MethodName)
noncomputable def kRow_103 : pm_Row := ((ky_103, prog_12_method_3_code, 2, (Option.none : Option Jvm.ClassFile.FieldType)), 10, (1, 2, 0), kc_103)
/-- BV$State.addPerson -/
noncomputable def kc_104 : List (List (Nat × Nat × Instr × Nat)) := [[(0, 2, .aload_n kF0, 0), (1, 5, .getfield 30, 0), (4, 4, .ifCond .lt 12, 16), (7, 2, .aload_n kF0, 0), (8, 5, .getfield 30, 0), (11, 1, .bipush 8, 0), (13, 4, .if_icmp .lt 4, 17)],
  [(16, 7, .return_, 0), (17, 2, .aload_n kF0, 0), (18, 5, .getfield 9, 0), (21, 2, .aload_n kF0, 0), (22, 5, .getfield 30, 0), (25, 2, .iload_n kF1, 0), (26, 5, .iastore, 0), (27, 2, .aload_n kF0, 0), (28, 5, .getfield 15, 0), (31, 2, .aload_n kF0, 0)],
  [(32, 5, .getfield 30, 0), (35, 2, .iload_n kF2, 0), (36, 5, .iastore, 0), (37, 2, .aload_n kF0, 0), (38, 5, .getfield 18, 0), (41, 2, .aload_n kF0, 0), (42, 5, .getfield 30, 0), (45, 2, .iload_n kF3, 0), (46, 5, .iastore, 0), (47, 2, .aload_n kF0, 0)],
  [(48, 5, .getfield 21, 0), (51, 2, .aload_n kF0, 0), (52, 5, .getfield 30, 0), (55, 0, .iconst 0, 0), (56, 5, .iastore, 0), (57, 2, .aload_n kF0, 0), (58, 0, .dup, 0), (59, 5, .getfield 30, 0), (62, 0, .iconst 1, 0), (63, 0, .iadd, 0)],
  [(64, 5, .putfield 30, 0), (67, 7, .return_, 0)]]
noncomputable def ky_104 : MethodName := ({ cls := "BonnetValley$State", name := "addPerson", desc := "(III)V" } : Jvm.MethodName)
noncomputable def kRow_104 : pm_Row := ((ky_104, prog_12_method_4_code, 4, (Option.none : Option Jvm.ClassFile.FieldType)), 10, (3, 4, 0), kc_104)
/-- BV$State.addThing -/
noncomputable def kc_105 : List (List (Nat × Nat × Instr × Nat)) := [[(0, 2, .aload_n kF0, 0), (1, 5, .getfield 34, 0), (4, 4, .ifCond .lt 12, 16), (7, 2, .aload_n kF0, 0), (8, 5, .getfield 34, 0), (11, 1, .bipush 8, 0), (13, 4, .if_icmp .lt 4, 17)],
  [(16, 7, .return_, 0), (17, 2, .aload_n kF0, 0), (18, 5, .getfield 24, 0), (21, 2, .aload_n kF0, 0), (22, 5, .getfield 34, 0), (25, 2, .iload_n kF1, 0), (26, 5, .iastore, 0), (27, 2, .aload_n kF0, 0), (28, 0, .dup, 0), (29, 5, .getfield 34, 0)],
  [(32, 0, .iconst 1, 0), (33, 0, .iadd, 0), (34, 5, .putfield 34, 0), (37, 7, .return_, 0)]]
noncomputable def ky_105 : MethodName := ({ cls := "BonnetValley$State", name := "addThing", desc := "(I)V" } : Jvm.MethodName)
noncomputable def kRow_105 : pm_Row := ((ky_105, prog_12_method_5_code, 2, (Option.none : Option Jvm.ClassFile.FieldType)), 10, (1, 2, 0), kc_105)
/-- BV$State.hasPerson -/
noncomputable def kc_106 : List (List (Nat × Nat × Instr × Nat)) := [[(0, 2, .iload_n kF1, 0), (1, 4, .ifCond .lt 21, 22), (4, 2, .iload_n kF1, 0), (5, 2, .aload_n kF0, 0), (6, 5, .getfield 30, 0), (9, 4, .if_icmp .ge 13, 22), (12, 2, .iload_n kF1, 0), (13, 1, .bipush 8, 0), (15, 4, .if_icmp .ge 7, 22)],
  [(18, 0, .iconst 1, 0), (19, 4, .goto 4, 23), (22, 0, .iconst 0, 0), (23, 7, .ireturn, 0)]]
noncomputable def ky_106 : MethodName := ({ cls := "BonnetValley$State", name := "hasPerson", desc := "(I)Z" } : Jvm.MethodName)
noncomputable def kRow_106 : pm_Row := ((ky_106, prog_12_method_6_code, 2, (Option.some Jvm.ClassFile.FieldType.boolean)), 10, (1, 2, 2), kc_106)
/-- BV$State.hasThing -/
noncomputable def kc_107 : List (List (Nat × Nat × Instr × Nat)) := [[(0, 2, .iload_n kF1, 0), (1, 4, .ifCond .lt 21, 22), (4, 2, .iload_n kF1, 0), (5, 2, .aload_n kF0, 0), (6, 5, .getfield 34, 0), (9, 4, .if_icmp .ge 13, 22), (12, 2, .iload_n kF1, 0), (13, 1, .bipush 8, 0), (15, 4, .if_icmp .ge 7, 22)],
  [(18, 0, .iconst 1, 0), (19, 4, .goto 4, 23), (22, 0, .iconst 0, 0), (23, 7, .ireturn, 0)]]
noncomputable def ky_107 : MethodName := ({ cls := "BonnetValley$State", name := "hasThing", desc := "(I)Z" } : Jvm.MethodName)
noncomputable def kRow_107 : pm_Row := ((ky_107, prog_12_method_7_code, 2, (Option.some Jvm.ClassFile.FieldType.boolean)), 10, (1, 2, 2), kc_107)
/-- BV$State.known -/
noncomputable def kc_108 : List (List (Nat × Nat × Instr × Nat)) := [[(0, 0, .iconst 0, 0), (1, 3, .istore_n kF1, 0), (2, 0, .iconst 0, 0), (3, 3, .istore_n kF2, 0), (4, 2, .iload_n kF2, 0), (5, 2, .aload_n kF0, 0), (6, 5, .getfield 30, 0), (9, 4, .if_icmp .ge 27, 36), (12, 2, .iload_n kF2, 0), (13, 1, .bipush 8, 0), (15, 4, .if_icmp .ge 21, 36)],
  [(18, 2, .iload_n kF1, 0), (19, 2, .aload_n kF0, 0), (20, 5, .getfield 21, 0), (23, 2, .iload_n kF2, 0), (24, 5, .iaload, 0), (25, 6, .invokestatic 46, 0), (28, 0, .iadd, 0), (29, 3, .istore_n kF1, 0), (30, 3, .iinc 2 1, 0)],
  [(33, 4, .goto (-29), 4), (36, 2, .iload_n kF1, 0), (37, 7, .ireturn, 0)]]
noncomputable def ky_108 : MethodName := ({ cls := "BonnetValley$State", name := "known", desc := "()I" } : Jvm.MethodName)
noncomputable def kRow_108 : pm_Row := ((ky_108, prog_12_method_8_code, 3, (Option.some Jvm.ClassFile.FieldType.int)), 10, (0, 3, 1), kc_108)
/-- BV$State.knownBySomebody -/
noncomputable def kc_109 : List (List (Nat × Nat × Instr × Nat)) := [[(0, 0, .iconst 0, 0), (1, 3, .istore_n kF1, 0), (2, 0, .iconst 0, 0), (3, 3, .istore_n kF2, 0), (4, 2, .iload_n kF2, 0), (5, 2, .aload_n kF0, 0), (6, 5, .getfield 30, 0), (9, 4, .if_icmp .ge 24, 33), (12, 2, .iload_n kF2, 0), (13, 1, .bipush 8, 0), (15, 4, .if_icmp .ge 18, 33)],
  [(18, 2, .iload_n kF1, 0), (19, 2, .aload_n kF0, 0), (20, 5, .getfield 21, 0), (23, 2, .iload_n kF2, 0), (24, 5, .iaload, 0), (25, 0, .ior, 0), (26, 3, .istore_n kF1, 0), (27, 3, .iinc 2 1, 0), (30, 4, .goto (-26), 4)],
  [(33, 2, .iload_n kF1, 0), (34, 7, .ireturn, 0)]]
noncomputable def ky_109 : MethodName := ({ cls := "BonnetValley$State", name := "knownBySomebody", desc := "()I" } : Jvm.MethodName)
noncomputable def kRow_109 : pm_Row := ((ky_109, prog_12_method_9_code, 3, (Option.some Jvm.ClassFile.FieldType.int)), 10, (0, 3, 1), kc_109)
/-- BV$State.knowersOf -/
noncomputable def kc_110 : List (List (Nat × Nat × Instr × Nat)) := [[(0, 0, .iconst 0, 0), (1, 3, .istore_n kF2, 0), (2, 0, .iconst 0, 0), (3, 3, .istore_n kF3, 0), (4, 2, .iload_n kF3, 0), (5, 2, .aload_n kF0, 0), (6, 5, .getfield 30, 0), (9, 4, .if_icmp .ge 30, 39), (12, 2, .iload_n kF3, 0), (13, 1, .bipush 8, 0), (15, 4, .if_icmp .ge 24, 39)],
  [(18, 2, .iload_n kF2, 0), (19, 2, .aload_n kF0, 0), (20, 5, .getfield 21, 0), (23, 2, .iload_n kF3, 0), (24, 5, .iaload, 0), (25, 2, .iload_n kF1, 0), (26, 0, .ishr, 0), (27, 0, .iconst 1, 0), (28, 0, .iand, 0), (29, 2, .iload_n kF3, 0), (30, 0, .ishl, 0), (31, 0, .ior, 0)],
  [(32, 3, .istore_n kF2, 0), (33, 3, .iinc 3 1, 0), (36, 4, .goto (-32), 4), (39, 2, .iload_n kF2, 0), (40, 7, .ireturn, 0)]]
noncomputable def ky_110 : MethodName := ({ cls := "BonnetValley$State", name := "knowersOf", desc := "(I)I" } : Jvm.MethodName)
noncomputable def kRow_110 : pm_Row := ((ky_110, prog_12_method_10_code, 4, (Option.some Jvm.ClassFile.FieldType.int)), 10, (1, 4, 1), kc_110)
/-- BV$State.firstWhoLacks -/
noncomputable def kc_111 : List (List (Nat × Nat × Instr × Nat)) := [[(0, 0, .iconst 0, 0), (1, 3, .istore_n kF1, 0), (2, 2, .iload_n kF1, 0), (3, 2, .aload_n kF0, 0), (4, 5, .getfield 30, 0), (7, 4, .if_icmp .ge 34, 41), (10, 2, .iload_n kF1, 0), (11, 1, .bipush 8, 0), (13, 4, .if_icmp .ge 28, 41)],
  [(16, 2, .aload_n kF0, 0), (17, 5, .getfield 21, 0), (20, 2, .iload_n kF1, 0), (21, 5, .iaload, 0), (22, 0, .iconst 1, 0), (23, 2, .aload_n kF0, 0), (24, 5, .getfield 34, 0), (27, 0, .ishl, 0), (28, 0, .iconst 1, 0), (29, 0, .isub, 0), (30, 4, .if_icmp .eq 5, 35)],
  [(33, 2, .iload_n kF1, 0), (34, 7, .ireturn, 0), (35, 3, .iinc 1 1, 0), (38, 4, .goto (-36), 2), (41, 0, .iconst (-1), 0), (42, 7, .ireturn, 0)]]
noncomputable def ky_111 : MethodName := ({ cls := "BonnetValley$State", name := "firstWhoLacks", desc := "()I" } : Jvm.MethodName)
noncomputable def kRow_111 : pm_Row := ((ky_111, prog_12_method_11_code, 2, (Option.some Jvm.ClassFile.FieldType.int)), 10, (0, 2, 1), kc_111)
/-- BV$State.brims -/
noncomputable def kc_112 : List (List (Nat × Nat × Instr × Nat)) := [[(0, 0, .iconst 0, 0), (1, 3, .istore_n kF1, 0), (2, 0, .iconst 0, 0), (3, 3, .istore_n kF2, 0), (4, 2, .iload_n kF2, 0), (5, 2, .aload_n kF0, 0), (6, 5, .getfield 30, 0), (9, 4, .if_icmp .ge 24, 33), (12, 2, .iload_n kF2, 0), (13, 1, .bipush 8, 0), (15, 4, .if_icmp .ge 18, 33)],
  [(18, 2, .iload_n kF1, 0), (19, 2, .aload_n kF0, 0), (20, 5, .getfield 18, 0), (23, 2, .iload_n kF2, 0), (24, 5, .iaload, 0), (25, 0, .iadd, 0), (26, 3, .istore_n kF1, 0), (27, 3, .iinc 2 1, 0), (30, 4, .goto (-26), 4)],
  [(33, 2, .iload_n kF1, 0), (34, 7, .ireturn, 0)]]
noncomputable def ky_112 : MethodName := ({ cls := "BonnetValley$State", name := "brims", desc := "()I" } : Jvm.MethodName)
noncomputable def kRow_112 : pm_Row := ((ky_112, prog_12_method_12_code, 3, (Option.some Jvm.ClassFile.FieldType.int)), 10, (0, 3, 1), kc_112)
/-- BV$State.peopleOn -/
noncomputable def kc_113 : List (List (Nat × Nat × Instr × Nat)) := [[(0, 0, .iconst 0, 0), (1, 3, .istore_n kF3, 0), (2, 0, .iconst 0, 0), (3, 3, .istore 4, 0), (5, 2, .iload 4, 0), (7, 2, .aload_n kF0, 0), (8, 5, .getfield 30, 0), (11, 4, .if_icmp .ge 34, 45), (14, 2, .iload 4, 0)],
  [(16, 1, .bipush 8, 0), (18, 4, .if_icmp .ge 27, 45), (21, 2, .iload_n kF3, 0), (22, 2, .lload_n kF1, 0), (23, 2, .aload_n kF0, 0), (24, 5, .getfield 9, 0), (27, 2, .iload 4, 0), (29, 5, .iaload, 0), (30, 0, .lshr, 0), (31, 0, .lconst kG1, 0)],
  [(32, 0, .land, 0), (33, 0, .l2i, 0), (34, 2, .iload 4, 0), (36, 0, .ishl, 0), (37, 0, .ior, 0), (38, 3, .istore_n kF3, 0), (39, 3, .iinc 4 1, 0), (42, 4, .goto (-37), 5), (45, 2, .iload_n kF3, 0), (46, 7, .ireturn, 0)]]
noncomputable def ky_113 : MethodName := ({ cls := "BonnetValley$State", name := "peopleOn", desc := "(J)I" } : Jvm.MethodName)
noncomputable def kRow_113 : pm_Row := ((ky_113, prog_12_method_13_code, 5, (Option.some Jvm.ClassFile.FieldType.int)), 10, (1, 5, 1), kc_113)
/-- BV$State.thingsOn -/
noncomputable def kc_114 : List (List (Nat × Nat × Instr × Nat)) := [[(0, 0, .iconst 0, 0), (1, 3, .istore_n kF3, 0), (2, 0, .iconst 0, 0), (3, 3, .istore 4, 0), (5, 2, .iload 4, 0), (7, 2, .aload_n kF0, 0), (8, 5, .getfield 34, 0), (11, 4, .if_icmp .ge 34, 45), (14, 2, .iload 4, 0)],
  [(16, 1, .bipush 8, 0), (18, 4, .if_icmp .ge 27, 45), (21, 2, .iload_n kF3, 0), (22, 2, .lload_n kF1, 0), (23, 2, .aload_n kF0, 0), (24, 5, .getfield 24, 0), (27, 2, .iload 4, 0), (29, 5, .iaload, 0), (30, 0, .lshr, 0), (31, 0, .lconst kG1, 0)],
  [(32, 0, .land, 0), (33, 0, .l2i, 0), (34, 2, .iload 4, 0), (36, 0, .ishl, 0), (37, 0, .ior, 0), (38, 3, .istore_n kF3, 0), (39, 3, .iinc 4 1, 0), (42, 4, .goto (-37), 5), (45, 2, .iload_n kF3, 0), (46, 7, .ireturn, 0)]]
noncomputable def ky_114 : MethodName := ({ cls := "BonnetValley$State", name := "thingsOn", desc := "(J)I" } : Jvm.MethodName)
noncomputable def kRow_114 : pm_Row := ((ky_114, prog_12_method_14_code, 5, (Option.some Jvm.ClassFile.FieldType.int)), 10, (1, 5, 1), kc_114)
/-- BV$Turning.new -/
noncomputable def kc_115 : List (List (Nat × Nat × Instr × Nat)) := [[(0, 2, .aload_n kF0, 0), (1, 5, .invokespecial 3, 0), (4, 2, .aload_n kF0, 0), (5, 1, .bipush 64, 0), (7, 5, .newarray .int, 0), (9, 5, .putfield 9, 0), (12, 2, .aload_n kF0, 0), (13, 1, .sipush 2304, 0)],
  [(16, 5, .newarray .int, 0), (18, 5, .putfield 15, 0), (21, 7, .return_, 0)]]
noncomputable def ky_115 : MethodName := ({ cls := "BonnetValley$Turning", name := "<init>", desc := "()V" } : Jvm.MethodName)
noncomputable def kRow_115 : pm_Row := ((ky_115, prog_13_method_1_code, 1, (Option.none : Option Jvm.ClassFile.FieldType)), 11, (0, 1, 0), kc_115)
/-- BV$Turning.set -/
noncomputable def kc_116 : List (List (Nat × Nat × Instr × Nat)) := [[(0, 2, .iload_n kF1, 0), (1, 1, .bipush 8, 0), (3, 0, .imul, 0), (4, 2, .iload_n kF2, 0), (5, 0, .iadd, 0), (6, 3, .istore 4, 0), (8, 2, .iload 4, 0), (10, 4, .ifCond .lt 25, 35), (13, 2, .iload 4, 0), (15, 2, .aload_n kF0, 0)],
  [(16, 5, .getfield 9, 0), (19, 5, .arraylength, 0), (20, 4, .if_icmp .ge 15, 35), (23, 2, .aload_n kF0, 0), (24, 5, .getfield 9, 0), (27, 2, .iload 4, 0), (29, 2, .iload_n kF3, 0), (30, 1, .sipush 255, 0)],
  [(33, 0, .iand, 0), (34, 5, .iastore, 0), (35, 7, .return_, 0)]]
noncomputable def ky_116 : MethodName := ({ cls := "BonnetValley$Turning", name := "set", desc := "(III)V" } : Jvm.MethodName)
noncomputable def kRow_116 : pm_Row := ((ky_116, prog_13_method_2_code, 5, (Option.none : Option Jvm.ClassFile.FieldType)), 11, (3, 5, 0), kc_116)
/-- BV$Turning.fewest -/
noncomputable def kc_117 : List (List (Nat × Nat × Instr × Nat)) := [[(0, 0, .iconst 1, 0), (1, 2, .aload_n kF1, 0), (2, 5, .getfield 18, 0), (5, 0, .ishl, 0), (6, 0, .iconst 1, 0), (7, 0, .isub, 0), (8, 1, .sipush 255, 0), (11, 0, .iand, 0), (12, 3, .istore_n kF2, 0), (13, 0, .iconst 0, 0), (14, 1, .bipush 8, 0)],
  [(16, 2, .aload_n kF1, 0), (17, 5, .getfield 24, 0), (20, 5, .invokestatic 27, 0), (23, 5, .invokestatic 33, 0), (26, 3, .istore_n kF3, 0), (27, 0, .iconst 0, 0), (28, 3, .istore 4, 0), (30, 2, .iload 4, 0)],
  [(32, 2, .iload_n kF2, 0), (33, 4, .if_icmp .gt 34, 67), (36, 2, .aload_n kF0, 0), (37, 5, .getfield 15, 0), (40, 2, .iload_n kF3, 0), (41, 1, .sipush 256, 0), (44, 0, .imul, 0), (45, 2, .iload 4, 0), (47, 0, .iadd, 0)],
  [(48, 2, .iload 4, 0), (50, 2, .iload_n kF2, 0), (51, 4, .if_icmp .ne 7, 58), (54, 0, .iconst 0, 0), (55, 4, .goto 5, 60), (58, 1, .bipush 100, 0), (60, 5, .iastore, 0), (61, 3, .iinc 4 1, 0)],
  [(64, 4, .goto (-34), 30), (67, 2, .iload_n kF3, 0), (68, 0, .iconst 1, 0), (69, 0, .isub, 0), (70, 3, .istore 4, 0), (72, 2, .iload 4, 0), (74, 4, .ifCond .lt 47, 121), (77, 0, .iconst 0, 0), (78, 3, .istore 5, 0)],
  [(80, 2, .iload 5, 0), (82, 2, .iload_n kF2, 0), (83, 4, .if_icmp .gt 32, 115), (86, 2, .aload_n kF0, 0), (87, 5, .getfield 15, 0), (90, 2, .iload 4, 0), (92, 1, .sipush 256, 0), (95, 0, .imul, 0)],
  [(96, 2, .iload 5, 0), (98, 0, .iadd, 0), (99, 2, .aload_n kF0, 0), (100, 2, .aload_n kF1, 0), (101, 2, .iload 4, 0), (103, 2, .iload 5, 0), (105, 6, .invokevirtual 36, 0), (108, 5, .iastore, 0), (109, 3, .iinc 5 1, 0)],
  [(112, 4, .goto (-32), 80), (115, 3, .iinc 4 (-1), 0), (118, 4, .goto (-46), 72), (121, 2, .aload_n kF0, 0), (122, 5, .getfield 15, 0), (125, 0, .iconst 0, 0), (126, 5, .iaload, 0), (127, 1, .bipush 100, 0)],
  [(129, 4, .if_icmp .ge 12, 141), (132, 2, .aload_n kF0, 0), (133, 5, .getfield 15, 0), (136, 0, .iconst 0, 0), (137, 5, .iaload, 0), (138, 4, .goto 4, 142), (141, 0, .iconst (-1), 0), (142, 7, .ireturn, 0)]]
noncomputable def ky_117 : MethodName := ({ cls := "BonnetValley$Turning", name := "fewest", desc := "(LBonnetValley$State;)I" } : Jvm.MethodName)
noncomputable def kRow_117 : pm_Row := ((ky_117, prog_13_method_3_code, 6, (Option.some Jvm.ClassFile.FieldType.int)), 11, (1, 6, 1), kc_117)
/-- BV$Turning.least -/
noncomputable def kc_118 : List (List (Nat × Nat × Instr × Nat)) := [[(0, 1, .bipush 100, 0), (2, 3, .istore 4, 0), (4, 0, .iconst 0, 0), (5, 3, .istore 5, 0), (7, 2, .iload 5, 0), (9, 1, .bipush 8, 0), (11, 4, .if_icmp .ge 25, 36), (14, 2, .iload 4, 0)],
  [(16, 2, .aload_n kF0, 0), (17, 2, .aload_n kF1, 0), (18, 2, .iload_n kF2, 0), (19, 2, .iload_n kF3, 0), (20, 2, .iload 5, 0), (22, 6, .invokevirtual 40, 0), (25, 5, .invokestatic 27, 0), (28, 3, .istore 4, 0), (30, 3, .iinc 5 1, 0)],
  [(33, 4, .goto (-26), 7), (36, 2, .iload 4, 0), (38, 7, .ireturn, 0)]]
noncomputable def ky_118 : MethodName := ({ cls := "BonnetValley$Turning", name := "least", desc := "(LBonnetValley$State;II)I" } : Jvm.MethodName)
noncomputable def kRow_118 : pm_Row := ((ky_118, prog_13_method_4_code, 6, (Option.some Jvm.ClassFile.FieldType.int)), 11, (3, 6, 1), kc_118)
/-- BV$Turning.withFacing -/
noncomputable def kc_119 : List (List (Nat × Nat × Instr × Nat)) := [[(0, 2, .iload_n kF3, 0), (1, 2, .aload_n kF0, 0), (2, 5, .getfield 9, 0), (5, 2, .iload_n kF2, 0), (6, 1, .bipush 8, 0), (8, 0, .imul, 0), (9, 2, .iload 4, 0), (11, 0, .iadd, 0), (12, 5, .iaload, 0), (13, 0, .ior, 0), (14, 3, .istore 5, 0)],
  [(16, 2, .iload 4, 0), (18, 2, .aload_n kF1, 0), (19, 5, .getfield 44, 0), (22, 2, .iload_n kF2, 0), (23, 5, .iaload, 0), (24, 4, .if_icmp .ne 7, 31), (27, 0, .iconst 0, 0), (28, 4, .goto 4, 32), (31, 0, .iconst 1, 0)],
  [(32, 2, .aload_n kF0, 0), (33, 5, .getfield 15, 0), (36, 2, .iload_n kF2, 0), (37, 0, .iconst 1, 0), (38, 0, .iadd, 0), (39, 1, .sipush 256, 0), (42, 0, .imul, 0), (43, 2, .iload 5, 0), (45, 0, .iadd, 0), (46, 5, .iaload, 0), (47, 0, .iadd, 0)],
  [(48, 7, .ireturn, 0)]]
noncomputable def ky_119 : MethodName := ({ cls := "BonnetValley$Turning", name := "withFacing", desc := "(LBonnetValley$State;III)I" } : Jvm.MethodName)
noncomputable def kRow_119 : pm_Row := ((ky_119, prog_13_method_5_code, 6, (Option.some Jvm.ClassFile.FieldType.int)), 11, (4, 6, 1), kc_119)
/-- BV$Turning.tellLeast -/
noncomputable def kc_120 : List (List (Nat × Nat × Instr × Nat)) := [[(0, 0, .iconst 0, 0), (1, 3, .istore_n kF3, 0), (2, 0, .iconst 0, 0), (3, 3, .istore 4, 0), (5, 2, .iload 4, 0), (7, 2, .aload_n kF1, 0), (8, 5, .getfield 24, 0), (11, 4, .if_icmp .ge 82, 93), (14, 2, .iload 4, 0)],
  [(16, 1, .bipush 8, 0), (18, 4, .if_icmp .ge 75, 93), (21, 0, .iconst 0, 0), (22, 3, .istore 5, 0), (24, 2, .iload 5, 0), (26, 1, .bipush 7, 0), (28, 4, .if_icmp .ge 35, 63), (31, 2, .aload_n kF0, 0)],
  [(32, 2, .aload_n kF1, 0), (33, 2, .iload 4, 0), (35, 2, .iload_n kF3, 0), (36, 2, .iload 5, 0), (38, 6, .invokevirtual 40, 0), (41, 2, .aload_n kF0, 0), (42, 5, .getfield 15, 0), (45, 2, .iload 4, 0), (47, 1, .sipush 256, 0)],
  [(50, 0, .imul, 0), (51, 2, .iload_n kF3, 0), (52, 0, .iadd, 0), (53, 5, .iaload, 0), (54, 4, .if_icmp .eq 9, 63), (57, 3, .iinc 5 1, 0), (60, 4, .goto (-36), 24), (63, 2, .aload_n kF2, 0)],
  [(64, 2, .iload 5, 0), (66, 0, .i2l, 0), (67, 6, .invokevirtual 47, 0), (70, 0, .pop, 0), (71, 2, .iload_n kF3, 0), (72, 2, .aload_n kF0, 0), (73, 5, .getfield 9, 0), (76, 2, .iload 4, 0), (78, 1, .bipush 8, 0)],
  [(80, 0, .imul, 0), (81, 2, .iload 5, 0), (83, 0, .iadd, 0), (84, 5, .iaload, 0), (85, 0, .ior, 0), (86, 3, .istore_n kF3, 0), (87, 3, .iinc 4 1, 0), (90, 4, .goto (-85), 5), (93, 7, .return_, 0)]]
noncomputable def ky_120 : MethodName := ({ cls := "BonnetValley$Turning", name := "tellLeast", desc := "(LBonnetValley$State;LBonnetValley$Numbers;)V" } : Jvm.MethodName)
noncomputable def kRow_120 : pm_Row := ((ky_120, prog_13_method_6_code, 6, (Option.none : Option Jvm.ClassFile.FieldType)), 11, (2, 6, 0), kc_120)
/-- BV.new -/
noncomputable def kc_121 : List (List (Nat × Nat × Instr × Nat)) := [[(0, 2, .aload_n kF0, 0), (1, 5, .invokespecial 1, 0), (4, 2, .aload_n kF0, 0), (5, 5, .new 7, 0), (8, 0, .dup, 0), (9, 6, .invokespecial 9, 0), (12, 5, .putfield 10, 0), (15, 2, .aload_n kF0, 0)],
  [(16, 5, .new 16, 0), (19, 0, .dup, 0), (20, 6, .invokespecial 18, 0), (23, 5, .putfield 19, 0), (26, 2, .aload_n kF0, 0), (27, 5, .new 23, 0), (30, 0, .dup, 0), (31, 6, .invokespecial 25, 0)],
  [(34, 5, .putfield 26, 0), (37, 2, .aload_n kF0, 0), (38, 5, .new 30, 0), (41, 0, .dup, 0), (42, 2, .aload_n kF0, 0), (43, 5, .getfield 26, 0), (46, 6, .invokespecial 32, 0)],
  [(49, 5, .putfield 35, 0), (52, 2, .aload_n kF0, 0), (53, 5, .new 39, 0), (56, 0, .dup, 0), (57, 6, .invokespecial 41, 0), (60, 5, .putfield 42, 0), (63, 2, .aload_n kF0, 0)],
  [(64, 5, .new 39, 0), (67, 0, .dup, 0), (68, 6, .invokespecial 41, 0), (71, 5, .putfield 46, 0), (74, 2, .aload_n kF0, 0), (75, 5, .new 39, 0), (78, 0, .dup, 0), (79, 6, .invokespecial 41, 0)],
  [(82, 5, .putfield 49, 0), (85, 2, .aload_n kF0, 0), (86, 5, .new 52, 0), (89, 0, .dup, 0), (90, 6, .invokespecial 54, 0), (93, 5, .putfield 55, 0)],
  [(96, 2, .aload_n kF0, 0), (97, 5, .new 59, 0), (100, 0, .dup, 0), (101, 6, .invokespecial 61, 0), (104, 5, .putfield 62, 0), (107, 2, .aload_n kF0, 0), (108, 5, .new 66, 0), (111, 0, .dup, 0)],
  [(112, 6, .invokespecial 68, 0), (115, 5, .putfield 69, 0), (118, 2, .aload_n kF0, 0), (119, 5, .new 73, 0), (122, 0, .dup, 0), (123, 6, .invokespecial 75, 0), (126, 5, .putfield 76, 0)],
  [(129, 2, .aload_n kF0, 0), (130, 5, .new 80, 0), (133, 0, .dup, 0), (134, 6, .invokespecial 82, 0), (137, 5, .putfield 83, 0), (140, 2, .aload_n kF0, 0), (141, 5, .new 87, 0)],
  [(144, 0, .dup, 0), (145, 6, .invokespecial 89, 0), (148, 5, .putfield 90, 0), (151, 2, .aload_n kF0, 0), (152, 1, .ldc2_w 94, 0), (155, 5, .putfield 96, 0), (158, 2, .aload_n kF0, 0), (159, 0, .iconst 0, 0)],
  [(160, 5, .putfield 100, 0), (163, 7, .return_, 0)]]
noncomputable def ky_121 : MethodName := ({ cls := "BonnetValley", name := "<init>", desc := "()V" } : Jvm.MethodName)
noncomputable def kRow_121 : pm_Row := ((ky_121, prog_1_method_1_code, 1, (Option.none : Option Jvm.ClassFile.FieldType)), 12, (0, 1, 0), kc_121)
/-- BV.sign -/
noncomputable def kc_122 : List (List (Nat × Nat × Instr × Nat)) := [[(0, 2, .aload_n kF0, 0), (1, 5, .getfield 10, 0), (4, 2, .iload_n kF1, 0), (5, 6, .invokevirtual 104, 0), (8, 4, .ifCond .eq 13, 21), (11, 2, .aload_n kF0, 0), (12, 5, .getfield 10, 0), (15, 6, .invokevirtual 108, 0)],
  [(18, 4, .goto 4, 22), (21, 0, .iconst (-1), 0), (22, 7, .ireturn, 0)]]
noncomputable def ky_122 : MethodName := ({ cls := "BonnetValley", name := "sign", desc := "(I)I" } : Jvm.MethodName)
noncomputable def kRow_122 : pm_Row := ((ky_122, prog_1_method_2_code, 2, (Option.some Jvm.ClassFile.FieldType.int)), 12, (1, 2, 1), kc_122)
/-- BV.end -/
noncomputable def kc_123 : List (List (Nat × Nat × Instr × Nat)) := [[(0, 2, .aload_n kF0, 0), (1, 5, .getfield 10, 0), (4, 2, .iload_n kF1, 0), (5, 6, .invokevirtual 112, 0), (8, 7, .ireturn, 0)]]
noncomputable def ky_123 : MethodName := ({ cls := "BonnetValley", name := "end", desc := "(I)Z" } : Jvm.MethodName)
noncomputable def kRow_123 : pm_Row := ((ky_123, prog_1_method_3_code, 2, (Option.some Jvm.ClassFile.FieldType.boolean)), 12, (1, 2, 2), kc_123)
/-- BV.valley -/
noncomputable def kc_124 : List (List (Nat × Nat × Instr × Nat)) := [[(0, 2, .aload_n kF0, 0), (1, 5, .getfield 26, 0), (4, 2, .aload_n kF0, 0), (5, 5, .getfield 10, 0), (8, 6, .invokevirtual 115, 0), (11, 3, .istore_n kF1, 0), (12, 2, .aload_n kF0, 0), (13, 5, .getfield 10, 0)],
  [(16, 6, .invokevirtual 119, 0), (19, 2, .iload_n kF1, 0), (20, 4, .ifCond .lt 7, 27), (23, 0, .iconst (-1), 0), (24, 2, .iload_n kF1, 0), (25, 0, .isub, 0), (26, 7, .ireturn, 0), (27, 2, .aload_n kF0, 0), (28, 5, .getfield 42, 0), (31, 6, .invokevirtual 122, 0)],
  [(34, 2, .aload_n kF0, 0), (35, 5, .getfield 55, 0), (38, 6, .invokevirtual 123, 0), (41, 2, .aload_n kF0, 0), (42, 6, .invokevirtual 124, 0), (45, 2, .aload_n kF0, 0), (46, 5, .getfield 26, 0)],
  [(49, 6, .invokevirtual 127, 0), (52, 7, .ireturn, 0)]]
noncomputable def ky_124 : MethodName := ({ cls := "BonnetValley", name := "valley", desc := "()I" } : Jvm.MethodName)
noncomputable def kRow_124 : pm_Row := ((ky_124, prog_1_method_4_code, 2, (Option.some Jvm.ClassFile.FieldType.int)), 12, (0, 2, 1), kc_124)
/-- BV.people -/
noncomputable def kc_125 : List (List (Nat × Nat × Instr × Nat)) := [[(0, 2, .aload_n kF0, 0), (1, 5, .getfield 62, 0), (4, 2, .aload_n kF0, 0), (5, 5, .getfield 10, 0), (8, 2, .aload_n kF0, 0), (9, 5, .getfield 26, 0), (12, 0, .iconst 4, 0), (13, 1, .bipush 8, 0), (15, 2, .aload_n kF0, 0)],
  [(16, 5, .getfield 42, 0), (19, 5, .getfield 130, 0), (22, 0, .isub, 0), (23, 6, .invokevirtual 133, 0), (26, 3, .istore_n kF1, 0), (27, 2, .aload_n kF0, 0), (28, 5, .getfield 10, 0), (31, 6, .invokevirtual 119, 0)],
  [(34, 0, .iconst 0, 0), (35, 3, .istore_n kF2, 0), (36, 2, .iload_n kF2, 0), (37, 2, .iload_n kF1, 0), (38, 4, .if_icmp .ge 61, 99), (41, 2, .aload_n kF0, 0), (42, 5, .getfield 26, 0), (45, 2, .aload_n kF0, 0), (46, 5, .getfield 62, 0)],
  [(49, 2, .iload_n kF2, 0), (50, 0, .iconst 0, 0), (51, 6, .invokevirtual 136, 0), (54, 2, .aload_n kF0, 0), (55, 5, .getfield 62, 0), (58, 2, .iload_n kF2, 0), (59, 0, .iconst 1, 0), (60, 6, .invokevirtual 136, 0), (63, 6, .invokevirtual 140, 0)],
  [(66, 3, .istore_n kF3, 0), (67, 2, .aload_n kF0, 0), (68, 5, .getfield 42, 0), (71, 2, .iload_n kF3, 0), (72, 2, .aload_n kF0, 0), (73, 5, .getfield 62, 0), (76, 2, .iload_n kF2, 0), (77, 0, .iconst 2, 0), (78, 6, .invokevirtual 136, 0)],
  [(81, 2, .aload_n kF0, 0), (82, 5, .getfield 62, 0), (85, 2, .iload_n kF2, 0), (86, 0, .iconst 3, 0), (87, 6, .invokevirtual 136, 0), (90, 6, .invokevirtual 143, 0), (93, 3, .iinc 2 1, 0)],
  [(96, 4, .goto (-60), 36), (99, 2, .iload_n kF1, 0), (100, 4, .ifCond .le 10, 110), (103, 2, .aload_n kF0, 0), (104, 5, .getfield 55, 0), (107, 6, .invokevirtual 123, 0), (110, 2, .iload_n kF1, 0), (111, 7, .ireturn, 0)]]
noncomputable def ky_125 : MethodName := ({ cls := "BonnetValley", name := "people", desc := "()I" } : Jvm.MethodName)
noncomputable def kRow_125 : pm_Row := ((ky_125, prog_1_method_5_code, 4, (Option.some Jvm.ClassFile.FieldType.int)), 12, (0, 4, 1), kc_125)
/-- BV.things -/
noncomputable def kc_126 : List (List (Nat × Nat × Instr × Nat)) := [[(0, 2, .aload_n kF0, 0), (1, 5, .getfield 62, 0), (4, 2, .aload_n kF0, 0), (5, 5, .getfield 10, 0), (8, 2, .aload_n kF0, 0), (9, 5, .getfield 26, 0), (12, 0, .iconst 2, 0), (13, 1, .bipush 8, 0), (15, 2, .aload_n kF0, 0)],
  [(16, 5, .getfield 42, 0), (19, 5, .getfield 147, 0), (22, 0, .isub, 0), (23, 6, .invokevirtual 133, 0), (26, 3, .istore_n kF1, 0), (27, 2, .aload_n kF0, 0), (28, 5, .getfield 10, 0), (31, 6, .invokevirtual 119, 0)],
  [(34, 0, .iconst 0, 0), (35, 3, .istore_n kF2, 0), (36, 2, .iload_n kF2, 0), (37, 2, .iload_n kF1, 0), (38, 4, .if_icmp .ge 41, 79), (41, 2, .aload_n kF0, 0), (42, 5, .getfield 42, 0), (45, 2, .aload_n kF0, 0), (46, 5, .getfield 26, 0)],
  [(49, 2, .aload_n kF0, 0), (50, 5, .getfield 62, 0), (53, 2, .iload_n kF2, 0), (54, 0, .iconst 0, 0), (55, 6, .invokevirtual 136, 0), (58, 2, .aload_n kF0, 0), (59, 5, .getfield 62, 0), (62, 2, .iload_n kF2, 0), (63, 0, .iconst 1, 0)],
  [(64, 6, .invokevirtual 136, 0), (67, 6, .invokevirtual 140, 0), (70, 6, .invokevirtual 150, 0), (73, 3, .iinc 2 1, 0), (76, 4, .goto (-40), 36), (79, 2, .iload_n kF1, 0)],
  [(80, 4, .ifCond .le 10, 90), (83, 2, .aload_n kF0, 0), (84, 5, .getfield 55, 0), (87, 6, .invokevirtual 123, 0), (90, 2, .iload_n kF1, 0), (91, 7, .ireturn, 0)]]
noncomputable def ky_126 : MethodName := ({ cls := "BonnetValley", name := "things", desc := "()I" } : Jvm.MethodName)
noncomputable def kRow_126 : pm_Row := ((ky_126, prog_1_method_6_code, 3, (Option.some Jvm.ClassFile.FieldType.int)), 12, (0, 3, 1), kc_126)
/-- BV.light -/
noncomputable def kc_127 : List (List (Nat × Nat × Instr × Nat)) := [[(0, 2, .aload_n kF0, 0), (1, 5, .getfield 10, 0), (4, 6, .invokevirtual 108, 0), (7, 3, .istore_n kF1, 0), (8, 2, .aload_n kF0, 0), (9, 5, .getfield 35, 0), (12, 2, .aload_n kF0, 0), (13, 5, .getfield 10, 0)],
  [(16, 6, .invokevirtual 154, 0), (19, 3, .istore_n kF2, 0), (20, 2, .aload_n kF0, 0), (21, 5, .getfield 10, 0), (24, 6, .invokevirtual 119, 0), (27, 2, .iload_n kF2, 0), (28, 4, .ifCond .lt 9, 37), (31, 0, .iconst (-1), 0)],
  [(32, 2, .iload_n kF2, 0), (33, 0, .isub, 0), (34, 4, .goto 4, 38), (37, 2, .iload_n kF1, 0), (38, 7, .ireturn, 0)]]
noncomputable def ky_127 : MethodName := ({ cls := "BonnetValley", name := "light", desc := "()I" } : Jvm.MethodName)
noncomputable def kRow_127 : pm_Row := ((ky_127, prog_1_method_7_code, 3, (Option.some Jvm.ClassFile.FieldType.int)), 12, (0, 3, 1), kc_127)
/-- BV.rule -/
noncomputable def kc_128 : List (List (Nat × Nat × Instr × Nat)) := [[(0, 2, .aload_n kF0, 0), (1, 5, .getfield 35, 0), (4, 6, .invokevirtual 157, 0), (7, 2, .aload_n kF0, 0), (8, 5, .getfield 10, 0), (11, 6, .invokevirtual 161, 0), (14, 3, .istore_n kF1, 0), (15, 2, .aload_n kF0, 0)],
  [(16, 5, .getfield 10, 0), (19, 6, .invokevirtual 119, 0), (22, 2, .iload_n kF1, 0), (23, 4, .ifCond .lt 7, 30), (26, 0, .iconst (-1), 0), (27, 2, .iload_n kF1, 0), (28, 0, .isub, 0), (29, 7, .ireturn, 0), (30, 2, .aload_n kF0, 0), (31, 5, .getfield 35, 0)],
  [(34, 6, .invokevirtual 164, 0), (37, 0, .iconst 0, 0), (38, 7, .ireturn, 0)]]
noncomputable def ky_128 : MethodName := ({ cls := "BonnetValley", name := "rule", desc := "()I" } : Jvm.MethodName)
noncomputable def kRow_128 : pm_Row := ((ky_128, prog_1_method_8_code, 2, (Option.some Jvm.ClassFile.FieldType.int)), 12, (0, 2, 1), kc_128)
/-- BV.person -/
noncomputable def kc_129 : List (List (Nat × Nat × Instr × Nat)) := [[(0, 2, .aload_n kF0, 0), (1, 5, .getfield 42, 0), (4, 2, .iload_n kF1, 0), (5, 6, .invokevirtual 167, 0), (8, 4, .ifCond .ne 11, 19), (14, 0, .dup, 0)],
  [(19, 2, .iload_n kF2, 0), (20, 4, .tableswitch 113 0 5 #[40, 50, 60, 70, 80, 93], 40)],
  [],
  [(60, 2, .aload_n kF0, 0), (61, 5, .getfield 42, 0)],
  [(64, 5, .getfield 173, 0), (67, 2, .iload_n kF1, 0), (68, 5, .iaload, 0), (69, 7, .ireturn, 0), (70, 2, .aload_n kF0, 0), (71, 5, .getfield 42, 0), (74, 5, .getfield 177, 0), (77, 2, .iload_n kF1, 0), (78, 5, .iaload, 0), (79, 7, .ireturn, 0)],
  [(80, 2, .aload_n kF0, 0), (81, 5, .getfield 42, 0), (84, 5, .getfield 180, 0), (87, 2, .iload_n kF1, 0), (88, 5, .iaload, 0), (89, 7, .ireturn, 0), (90, 2, .aload_n kF0, 0), (91, 5, .getfield 42, 0), (94, 5, .getfield 183, 0)],
  [(97, 2, .iload_n kF1, 0), (98, 5, .iaload, 0), (99, 7, .ireturn, 0), (100, 2, .aload_n kF0, 0), (101, 5, .getfield 35, 0), (104, 2, .aload_n kF0, 0), (105, 5, .getfield 42, 0), (108, 2, .iload_n kF1, 0), (109, 6, .invokevirtual 186, 0)],
  [(112, 7, .ireturn, 0), (113, 2, .aload_n kF0, 0), (114, 5, .getfield 42, 0), (117, 2, .aload_n kF0, 0), (118, 5, .getfield 35, 0), (121, 2, .aload_n kF0, 0), (122, 5, .getfield 42, 0), (125, 2, .iload_n kF1, 0), (126, 6, .invokevirtual 190, 0)],
  [(129, 6, .invokevirtual 194, 0), (132, 7, .ireturn, 0), (136, 0, .dup, 0)]]
noncomputable def ky_129 : MethodName := ({ cls := "BonnetValley", name := "person", desc := "(II)I" } : Jvm.MethodName)
noncomputable def kRow_129 : pm_Row := ((ky_129, prog_1_method_9_code, 3, (Option.some Jvm.ClassFile.FieldType.int)), 12, (2, 3, 1), kc_129)
/-- BV.thing -/
noncomputable def kc_130 : List (List (Nat × Nat × Instr × Nat)) := [[(0, 2, .aload_n kF0, 0), (1, 5, .getfield 42, 0), (4, 2, .iload_n kF1, 0), (5, 6, .invokevirtual 198, 0), (8, 4, .ifCond .ne 11, 19), (14, 0, .dup, 0)],
  [(19, 2, .iload_n kF2, 0), (20, 4, .tableswitch 80 0 2 #[28, 38, 47], 28)],
  [],
  [(48, 2, .aload_n kF0, 0), (49, 5, .getfield 42, 0), (52, 5, .getfield 201, 0), (55, 2, .iload_n kF1, 0), (56, 5, .iaload, 0), (57, 7, .ireturn, 0), (58, 2, .aload_n kF0, 0), (59, 5, .getfield 42, 0), (62, 2, .iload_n kF1, 0), (63, 6, .invokevirtual 204, 0)],
  [(66, 7, .ireturn, 0), (67, 2, .aload_n kF0, 0), (68, 5, .getfield 35, 0), (71, 2, .aload_n kF0, 0), (72, 5, .getfield 42, 0), (75, 6, .invokevirtual 208, 0), (78, 0, .pop2, 0), (79, 2, .aload_n kF0, 0)],
  [(80, 5, .getfield 35, 0), (83, 2, .aload_n kF0, 0), (84, 5, .getfield 42, 0), (87, 2, .aload_n kF0, 0), (88, 5, .getfield 42, 0), (91, 5, .getfield 201, 0), (94, 2, .iload_n kF1, 0), (95, 5, .iaload, 0)],
  [(96, 6, .invokevirtual 212, 0), (99, 7, .ireturn, 0), (103, 0, .dup, 0)]]
noncomputable def ky_130 : MethodName := ({ cls := "BonnetValley", name := "thing", desc := "(II)I" } : Jvm.MethodName)
noncomputable def kRow_130 : pm_Row := ((ky_130, prog_1_method_10_code, 3, (Option.some Jvm.ClassFile.FieldType.int)), 12, (2, 3, 1), kc_130)
/-- BV.sheet -/
noncomputable def kc_131 : List (List (Nat × Nat × Instr × Nat)) := [[(0, 2, .iload_n kF1, 0), (1, 4, .ifCond .lt 14, 15), (4, 2, .iload_n kF1, 0), (5, 0, .iconst 3, 0), (6, 4, .if_icmp .gt 9, 15), (9, 2, .iload_n kF2, 0), (10, 1, .bipush 8, 0), (12, 4, .if_icmp .le 5, 17), (15, 0, .iconst (-1), 0)],
  [(16, 7, .ireturn, 0), (17, 2, .iload_n kF1, 0), (18, 0, .iconst 3, 0), (19, 4, .if_icmp .ne 17, 36), (22, 2, .aload_n kF0, 0), (23, 5, .getfield 42, 0), (26, 5, .getfield 180, 0), (29, 0, .iconst 0, 0), (30, 6, .invokestatic 215, 0)],
  [(33, 1, .bipush (-3), 0), (35, 7, .ireturn, 0), (36, 2, .iload_n kF2, 0), (37, 4, .ifCond .ge 6, 43), (40, 1, .bipush (-2), 0), (42, 7, .ireturn, 0), (43, 0, .iconst 0, 0), (44, 3, .istore 5, 0), (46, 2, .iload 5, 0)],
  [(48, 2, .aload_n kF0, 0), (49, 5, .getfield 42, 0), (52, 5, .getfield 130, 0), (55, 4, .if_icmp .ge 47, 102), (58, 2, .iload 5, 0), (60, 1, .bipush 8, 0), (62, 4, .if_icmp .ge 40, 102)],
  [(65, 2, .aload_n kF0, 0), (66, 5, .getfield 42, 0), (69, 5, .getfield 180, 0), (72, 2, .iload 5, 0), (74, 2, .iload 5, 0), (76, 2, .iload_n kF2, 0), (77, 4, .if_icmp .ge 17, 94)],
  [(80, 2, .iload_n kF1, 0), (81, 2, .iload_n kF3, 0), (82, 2, .iload 5, 0), (84, 2, .iload 4, 0), (86, 0, .imul, 0), (87, 0, .iadd, 0), (88, 6, .invokestatic 221, 0), (91, 4, .goto 4, 95), (94, 0, .iconst 0, 0), (95, 5, .iastore, 0)],
  [(96, 3, .iinc 5 1, 0), (99, 4, .goto (-53), 46), (102, 2, .aload_n kF0, 0), (103, 5, .getfield 42, 0), (106, 6, .invokevirtual 224, 0), (109, 7, .ireturn, 0)]]
noncomputable def ky_131 : MethodName := ({ cls := "BonnetValley", name := "sheet", desc := "(IIII)I" } : Jvm.MethodName)
noncomputable def kRow_131 : pm_Row := ((ky_131, prog_1_method_11_code, 6, (Option.some Jvm.ClassFile.FieldType.int)), 12, (4, 6, 1), kc_131)
/-- BV.sheetEntry -/
noncomputable def kc_132 : List (List (Nat × Nat × Instr × Nat)) := [[(0, 2, .iload_n kF0, 0), (1, 4, .ifCond .ne 8, 9), (4, 2, .iload_n kF1, 0), (5, 0, .i2b, 0), (6, 4, .goto 14, 20), (9, 2, .iload_n kF0, 0), (10, 0, .iconst 1, 0), (11, 4, .if_icmp .ne 8, 19), (14, 2, .iload_n kF1, 0), (15, 0, .i2s, 0)],
  [(16, 4, .goto 4, 20), (19, 2, .iload_n kF1, 0), (20, 3, .istore_n kF2, 0), (21, 0, .iconst 0, 0), (22, 0, .iconst 4, 0), (23, 2, .iload_n kF2, 0), (24, 5, .invokestatic 227, 0), (27, 5, .invokestatic 232, 0), (30, 7, .ireturn, 0)]]
noncomputable def ky_132 : MethodName := ({ cls := "BonnetValley", name := "sheetEntry", desc := "(II)I" } : Jvm.MethodName)
noncomputable def kRow_132 : pm_Row := ((ky_132, prog_1_method_12_code, 3, (Option.some Jvm.ClassFile.FieldType.int)), 12, (2, 3, 1), kc_132)
/-- BV.hours -/
noncomputable def kc_133 : List (List (Nat × Nat × Instr × Nat)) := [[(0, 2, .iload_n kF1, 0), (1, 4, .ifCond .lt 9, 10), (4, 2, .iload_n kF1, 0), (5, 1, .bipush 60, 0), (7, 4, .if_icmp .le 5, 12), (10, 0, .iconst (-1), 0), (11, 7, .ireturn, 0), (12, 2, .aload_n kF0, 0), (13, 5, .getfield 46, 0)],
  [(16, 2, .aload_n kF0, 0), (17, 5, .getfield 42, 0), (20, 6, .invokevirtual 235, 0), (23, 2, .aload_n kF0, 0), (24, 2, .aload_n kF0, 0), (25, 5, .getfield 35, 0), (28, 2, .aload_n kF0, 0), (29, 5, .getfield 42, 0)],
  [(32, 2, .iload_n kF1, 0), (33, 6, .invokevirtual 239, 0), (36, 6, .invokevirtual 242, 0), (39, 3, .istore_n kF2, 0), (40, 2, .aload_n kF0, 0), (41, 5, .getfield 19, 0), (44, 6, .invokevirtual 245, 0), (47, 2, .iload_n kF2, 0)],
  [(48, 2, .aload_n kF0, 0), (49, 5, .getfield 46, 0), (52, 6, .invokevirtual 249, 0), (55, 0, .isub, 0), (56, 0, .i2l, 0), (57, 6, .invokevirtual 252, 0), (60, 2, .aload_n kF0, 0), (61, 5, .getfield 42, 0)],
  [(64, 6, .invokevirtual 256, 0), (67, 0, .i2l, 0), (68, 6, .invokevirtual 252, 0), (71, 0, .pop, 0), (72, 2, .iload_n kF2, 0), (73, 7, .ireturn, 0)]]
noncomputable def ky_133 : MethodName := ({ cls := "BonnetValley", name := "hours", desc := "(I)I" } : Jvm.MethodName)
noncomputable def kRow_133 : pm_Row := ((ky_133, prog_1_method_13_code, 3, (Option.some Jvm.ClassFile.FieldType.int)), 12, (1, 3, 1), kc_133)
/-- BV.faces -/
noncomputable def kc_134 : List (List (Nat × Nat × Instr × Nat)) := [[(0, 2, .aload_n kF0, 0), (1, 5, .getfield 46, 0), (4, 2, .aload_n kF0, 0), (5, 5, .getfield 42, 0), (8, 6, .invokevirtual 235, 0), (11, 2, .aload_n kF0, 0), (12, 2, .aload_n kF0, 0), (13, 2, .iload_n kF1, 0), (14, 2, .iload_n kF2, 0), (15, 6, .invokevirtual 259, 0)],
  [(18, 6, .invokevirtual 242, 0), (21, 7, .ireturn, 0)]]
noncomputable def ky_134 : MethodName := ({ cls := "BonnetValley", name := "faces", desc := "(II)I" } : Jvm.MethodName)
noncomputable def kRow_134 : pm_Row := ((ky_134, prog_1_method_14_code, 3, (Option.some Jvm.ClassFile.FieldType.int)), 12, (2, 3, 1), kc_134)
/-- BV.steps -/
noncomputable def kc_135 : List (List (Nat × Nat × Instr × Nat)) := [[(0, 2, .aload_n kF0, 0), (1, 5, .getfield 46, 0), (4, 2, .aload_n kF0, 0), (5, 5, .getfield 42, 0), (8, 6, .invokevirtual 235, 0), (11, 2, .aload_n kF0, 0), (12, 2, .aload_n kF0, 0), (13, 2, .iload_n kF1, 0), (14, 2, .iload_n kF2, 0), (15, 6, .invokevirtual 262, 0)],
  [(18, 6, .invokevirtual 242, 0), (21, 7, .ireturn, 0)]]
noncomputable def ky_135 : MethodName := ({ cls := "BonnetValley", name := "steps", desc := "(II)I" } : Jvm.MethodName)
noncomputable def kRow_135 : pm_Row := ((ky_135, prog_1_method_15_code, 3, (Option.some Jvm.ClassFile.FieldType.int)), 12, (2, 3, 1), kc_135)
/-- BV.trims -/
noncomputable def kc_136 : List (List (Nat × Nat × Instr × Nat)) := [[(0, 2, .aload_n kF0, 0), (1, 5, .getfield 46, 0), (4, 2, .aload_n kF0, 0), (5, 5, .getfield 42, 0), (8, 6, .invokevirtual 235, 0), (11, 2, .aload_n kF0, 0), (12, 2, .aload_n kF0, 0), (13, 2, .iload_n kF1, 0), (14, 2, .iload_n kF2, 0), (15, 6, .invokevirtual 265, 0)],
  [(18, 6, .invokevirtual 242, 0), (21, 7, .ireturn, 0)]]
noncomputable def ky_136 : MethodName := ({ cls := "BonnetValley", name := "trims", desc := "(II)I" } : Jvm.MethodName)
noncomputable def kRow_136 : pm_Row := ((ky_136, prog_1_method_16_code, 3, (Option.some Jvm.ClassFile.FieldType.int)), 12, (2, 3, 1), kc_136)
/-- BV.puts -/
noncomputable def kc_137 : List (List (Nat × Nat × Instr × Nat)) := [[(0, 2, .aload_n kF0, 0), (1, 5, .getfield 46, 0), (4, 2, .aload_n kF0, 0), (5, 5, .getfield 42, 0), (8, 6, .invokevirtual 235, 0), (11, 2, .aload_n kF0, 0), (12, 2, .aload_n kF0, 0), (13, 2, .iload_n kF1, 0), (14, 2, .iload_n kF2, 0), (15, 6, .invokevirtual 268, 0)],
  [(18, 6, .invokevirtual 242, 0), (21, 7, .ireturn, 0)]]
noncomputable def ky_137 : MethodName := ({ cls := "BonnetValley", name := "puts", desc := "(II)I" } : Jvm.MethodName)
noncomputable def kRow_137 : pm_Row := ((ky_137, prog_1_method_17_code, 3, (Option.some Jvm.ClassFile.FieldType.int)), 12, (2, 3, 1), kc_137)
/-- BV.day -/
noncomputable def kc_138 : List (List (Nat × Nat × Instr × Nat)) := [[(0, 2, .aload_n kF0, 0), (1, 5, .getfield 69, 0), (4, 2, .aload_n kF0, 0), (5, 5, .getfield 10, 0), (8, 6, .invokevirtual 271, 0), (11, 3, .istore_n kF1, 0), (12, 2, .aload_n kF0, 0), (13, 5, .getfield 10, 0)],
  [(16, 6, .invokevirtual 119, 0), (19, 2, .iload_n kF1, 0), (20, 4, .ifCond .lt 7, 27), (23, 0, .iconst (-1), 0), (24, 2, .iload_n kF1, 0), (25, 0, .isub, 0), (26, 7, .ireturn, 0), (27, 2, .aload_n kF0, 0), (28, 5, .getfield 46, 0), (31, 2, .aload_n kF0, 0)],
  [(32, 5, .getfield 42, 0), (35, 6, .invokevirtual 235, 0), (38, 0, .iconst 0, 0), (39, 3, .istore_n kF2, 0), (40, 2, .iload_n kF2, 0), (41, 2, .aload_n kF0, 0), (42, 5, .getfield 69, 0), (45, 6, .invokevirtual 272, 0)],
  [(48, 4, .if_icmp .ge 17, 65), (51, 2, .aload_n kF0, 0), (52, 2, .iload_n kF2, 0), (53, 6, .invokevirtual 275, 0), (56, 4, .ifCond .lt 9, 65), (59, 3, .iinc 2 1, 0), (62, 4, .goto (-22), 40)],
  [(65, 2, .iload_n kF2, 0), (66, 4, .ifCond .le 14, 80), (69, 2, .aload_n kF0, 0), (70, 5, .getfield 55, 0), (73, 2, .aload_n kF0, 0), (74, 5, .getfield 46, 0), (77, 6, .invokevirtual 278, 0)],
  [(80, 2, .aload_n kF0, 0), (81, 5, .getfield 19, 0), (84, 6, .invokevirtual 245, 0), (87, 2, .iload_n kF2, 0), (88, 2, .aload_n kF0, 0), (89, 5, .getfield 69, 0), (92, 6, .invokevirtual 272, 0), (95, 4, .if_icmp .ge 7, 102)],
  [(98, 0, .lconst kG1, 0), (99, 4, .goto 4, 103), (102, 0, .lconst kG0, 0), (103, 6, .invokevirtual 252, 0), (106, 2, .aload_n kF0, 0), (107, 5, .getfield 42, 0), (110, 5, .getfield 281, 0)],
  [(113, 0, .i2l, 0), (114, 6, .invokevirtual 252, 0), (117, 0, .pop, 0), (118, 2, .iload_n kF2, 0), (119, 7, .ireturn, 0)]]
noncomputable def ky_138 : MethodName := ({ cls := "BonnetValley", name := "day", desc := "()I" } : Jvm.MethodName)
noncomputable def kRow_138 : pm_Row := ((ky_138, prog_1_method_18_code, 3, (Option.some Jvm.ClassFile.FieldType.int)), 12, (0, 3, 1), kc_138)
/-- BV.undo -/
noncomputable def kc_139 : List (List (Nat × Nat × Instr × Nat)) := [[(0, 2, .aload_n kF0, 0), (1, 5, .getfield 55, 0), (4, 2, .aload_n kF0, 0), (5, 5, .getfield 42, 0), (8, 6, .invokevirtual 284, 0), (11, 4, .ifCond .eq 13, 24), (14, 2, .aload_n kF0, 0), (15, 5, .getfield 55, 0)],
  [(18, 6, .invokevirtual 288, 0), (21, 4, .goto 4, 25), (24, 0, .iconst (-1), 0), (25, 7, .ireturn, 0)]]
noncomputable def ky_139 : MethodName := ({ cls := "BonnetValley", name := "undo", desc := "()I" } : Jvm.MethodName)
noncomputable def kRow_139 : pm_Row := ((ky_139, prog_1_method_19_code, 1, (Option.some Jvm.ClassFile.FieldType.int)), 12, (0, 1, 1), kc_139)
/-- BV.remember -/
noncomputable def kc_140 : List (List (Nat × Nat × Instr × Nat)) := [[(0, 2, .iload_n kF1, 0), (1, 4, .ifCond .lt 14, 15), (4, 2, .aload_n kF0, 0), (5, 5, .getfield 55, 0), (8, 2, .aload_n kF0, 0), (9, 5, .getfield 46, 0), (12, 6, .invokevirtual 278, 0), (15, 2, .iload_n kF1, 0)],
  [(16, 7, .ireturn, 0)]]
noncomputable def ky_140 : MethodName := ({ cls := "BonnetValley", name := "remember", desc := "(I)I" } : Jvm.MethodName)
noncomputable def kRow_140 : pm_Row := ((ky_140, prog_1_method_20_code, 2, (Option.some Jvm.ClassFile.FieldType.int)), 12, (1, 2, 1), kc_140)
/-- BV.act -/
noncomputable def kc_141 : List (List (Nat × Nat × Instr × Nat)) := [[(0, 2, .aload_n kF0, 0), (1, 5, .getfield 69, 0), (4, 2, .iload_n kF1, 0), (5, 0, .iconst 0, 0), (6, 6, .invokevirtual 289, 0), (9, 3, .istore_n kF2, 0), (10, 2, .aload_n kF0, 0), (11, 5, .getfield 69, 0), (14, 2, .iload_n kF1, 0), (15, 0, .iconst 1, 0)],
  [(16, 6, .invokevirtual 289, 0), (19, 3, .istore_n kF3, 0), (20, 2, .aload_n kF0, 0), (21, 5, .getfield 69, 0), (24, 2, .iload_n kF1, 0), (25, 6, .invokevirtual 290, 0), (28, 4, .tableswitch 133 98 112 #[103, 133, 133, 133, 89, 96, 133, 133, 133, 133, 133, 133, 76, 133, 110], 76)],
  [],
  [],
  [],
  [],
  [(104, 2, .aload_n kF0, 0), (105, 5, .getfield 35, 0), (108, 2, .aload_n kF0, 0), (109, 5, .getfield 42, 0)],
  [(112, 2, .iload_n kF2, 0), (113, 6, .invokevirtual 239, 0), (116, 7, .ireturn, 0), (117, 2, .aload_n kF0, 0), (118, 2, .iload_n kF2, 0), (119, 2, .iload_n kF3, 0), (120, 6, .invokevirtual 259, 0), (123, 7, .ireturn, 0), (124, 2, .aload_n kF0, 0), (125, 2, .iload_n kF2, 0), (126, 2, .iload_n kF3, 0), (127, 6, .invokevirtual 262, 0)],
  [(130, 7, .ireturn, 0), (131, 2, .aload_n kF0, 0), (132, 2, .iload_n kF2, 0), (133, 2, .iload_n kF3, 0), (134, 6, .invokevirtual 265, 0), (137, 7, .ireturn, 0), (138, 2, .aload_n kF0, 0), (139, 2, .iload_n kF2, 0), (140, 2, .aload_n kF0, 0), (141, 5, .getfield 26, 0)],
  [(144, 2, .iload_n kF3, 0), (145, 2, .aload_n kF0, 0), (146, 5, .getfield 69, 0), (149, 2, .iload_n kF1, 0), (150, 0, .iconst 2, 0), (151, 6, .invokevirtual 289, 0), (154, 6, .invokevirtual 140, 0), (157, 6, .invokevirtual 268, 0)],
  [(160, 7, .ireturn, 0), (161, 0, .iconst (-1), 0), (162, 7, .ireturn, 0)]]
noncomputable def ky_141 : MethodName := ({ cls := "BonnetValley", name := "act", desc := "(I)I" } : Jvm.MethodName)
noncomputable def kRow_141 : pm_Row := ((ky_141, prog_1_method_21_code, 4, (Option.some Jvm.ClassFile.FieldType.int)), 12, (1, 4, 1), kc_141)
/-- BV.turnTo -/
noncomputable def kc_142 : List (List (Nat × Nat × Instr × Nat)) := [[(0, 2, .aload_n kF0, 0), (1, 5, .getfield 42, 0), (4, 2, .iload_n kF1, 0), (5, 6, .invokevirtual 167, 0), (8, 4, .ifCond .eq 10, 18), (11, 2, .iload_n kF2, 0), (12, 6, .invokestatic 293, 0), (15, 4, .ifCond .ne 5, 20)],
  [(18, 0, .iconst (-1), 0), (19, 7, .ireturn, 0), (20, 2, .aload_n kF0, 0), (21, 5, .getfield 42, 0), (24, 5, .getfield 177, 0), (27, 2, .iload_n kF1, 0), (28, 5, .iaload, 0), (29, 2, .iload_n kF2, 0), (30, 6, .invokestatic 296, 0)],
  [(33, 3, .istore_n kF3, 0), (34, 2, .aload_n kF0, 0), (35, 5, .getfield 42, 0), (38, 5, .getfield 177, 0), (41, 2, .iload_n kF1, 0), (42, 2, .iload_n kF2, 0), (43, 5, .iastore, 0), (44, 2, .iload_n kF3, 0), (45, 7, .ireturn, 0)]]
noncomputable def ky_142 : MethodName := ({ cls := "BonnetValley", name := "turnTo", desc := "(II)I" } : Jvm.MethodName)
noncomputable def kRow_142 : pm_Row := ((ky_142, prog_1_method_22_code, 4, (Option.some Jvm.ClassFile.FieldType.int)), 12, (2, 4, 1), kc_142)
/-- BV.walk -/
noncomputable def kc_143 : List (List (Nat × Nat × Instr × Nat)) := [[(0, 2, .aload_n kF0, 0), (1, 5, .getfield 42, 0), (4, 2, .iload_n kF1, 0), (5, 6, .invokevirtual 167, 0), (8, 4, .ifCond .eq 10, 18), (11, 2, .iload_n kF2, 0), (12, 6, .invokestatic 293, 0), (15, 4, .ifCond .ne 5, 20)],
  [(18, 0, .iconst (-1), 0), (19, 7, .ireturn, 0), (20, 2, .aload_n kF0, 0), (21, 5, .getfield 26, 0), (24, 2, .aload_n kF0, 0), (25, 5, .getfield 42, 0), (28, 5, .getfield 173, 0), (31, 2, .iload_n kF1, 0)],
  [(32, 5, .iaload, 0), (33, 2, .iload_n kF2, 0), (34, 6, .invokevirtual 299, 0), (37, 3, .istore_n kF3, 0), (38, 2, .iload_n kF3, 0), (39, 4, .ifCond .ge 6, 45), (42, 1, .bipush (-2), 0), (44, 7, .ireturn, 0), (45, 2, .aload_n kF0, 0), (46, 5, .getfield 42, 0)],
  [(49, 5, .getfield 173, 0), (52, 2, .iload_n kF1, 0), (53, 2, .iload_n kF3, 0), (54, 5, .iastore, 0), (55, 2, .iload_n kF3, 0), (56, 7, .ireturn, 0)]]
noncomputable def ky_143 : MethodName := ({ cls := "BonnetValley", name := "walk", desc := "(II)I" } : Jvm.MethodName)
noncomputable def kRow_143 : pm_Row := ((ky_143, prog_1_method_23_code, 4, (Option.some Jvm.ClassFile.FieldType.int)), 12, (2, 4, 1), kc_143)
/-- BV.trimTo -/
noncomputable def kc_144 : List (List (Nat × Nat × Instr × Nat)) := [[(0, 2, .aload_n kF0, 0), (1, 5, .getfield 42, 0), (4, 2, .iload_n kF1, 0), (5, 6, .invokevirtual 167, 0), (8, 4, .ifCond .eq 12, 20), (11, 2, .iload_n kF2, 0), (12, 4, .ifCond .lt 8, 20), (15, 2, .iload_n kF2, 0)],
  [(16, 0, .iconst 4, 0), (17, 4, .if_icmp .le 5, 22), (20, 0, .iconst (-1), 0), (21, 7, .ireturn, 0), (22, 2, .aload_n kF0, 0), (23, 5, .getfield 42, 0), (26, 5, .getfield 180, 0), (29, 2, .iload_n kF1, 0), (30, 5, .iaload, 0), (31, 3, .istore_n kF3, 0)],
  [(32, 2, .aload_n kF0, 0), (33, 5, .getfield 42, 0), (36, 5, .getfield 180, 0), (39, 2, .iload_n kF1, 0), (40, 2, .iload_n kF2, 0), (41, 5, .iastore, 0), (42, 2, .iload_n kF3, 0), (43, 7, .ireturn, 0)]]
noncomputable def ky_144 : MethodName := ({ cls := "BonnetValley", name := "trimTo", desc := "(II)I" } : Jvm.MethodName)
noncomputable def kRow_144 : pm_Row := ((ky_144, prog_1_method_24_code, 4, (Option.some Jvm.ClassFile.FieldType.int)), 12, (2, 4, 1), kc_144)
/-- BV.putOn -/
noncomputable def kc_145 : List (List (Nat × Nat × Instr × Nat)) := [[(0, 2, .aload_n kF0, 0), (1, 5, .getfield 42, 0), (4, 2, .iload_n kF1, 0), (5, 6, .invokevirtual 198, 0), (8, 4, .ifCond .eq 14, 22), (11, 2, .aload_n kF0, 0), (12, 5, .getfield 26, 0), (15, 2, .iload_n kF2, 0)],
  [(16, 6, .invokevirtual 302, 0), (19, 4, .ifCond .ne 5, 24), (22, 0, .iconst (-1), 0), (23, 7, .ireturn, 0), (24, 2, .aload_n kF0, 0), (25, 5, .getfield 42, 0), (28, 5, .getfield 201, 0), (31, 2, .iload_n kF1, 0)],
  [(32, 5, .iaload, 0), (33, 3, .istore_n kF3, 0), (34, 2, .iload_n kF3, 0), (35, 2, .iload_n kF2, 0), (36, 4, .if_icmp .ne 6, 42), (39, 1, .bipush (-2), 0), (41, 7, .ireturn, 0), (42, 2, .aload_n kF0, 0), (43, 5, .getfield 42, 0), (46, 5, .getfield 201, 0)],
  [(49, 2, .iload_n kF1, 0), (50, 2, .iload_n kF2, 0), (51, 5, .iastore, 0), (52, 2, .iload_n kF3, 0), (53, 7, .ireturn, 0)]]
noncomputable def ky_145 : MethodName := ({ cls := "BonnetValley", name := "putOn", desc := "(II)I" } : Jvm.MethodName)
noncomputable def kRow_145 : pm_Row := ((ky_145, prog_1_method_25_code, 4, (Option.some Jvm.ClassFile.FieldType.int)), 12, (2, 4, 1), kc_145)
/-- BV.isWay -/
noncomputable def kc_146 : List (List (Nat × Nat × Instr × Nat)) := [[(0, 2, .iload_n kF0, 0), (1, 4, .ifCond .lt 13, 14), (4, 2, .iload_n kF0, 0), (5, 1, .bipush 8, 0), (7, 4, .if_icmp .ge 7, 14), (10, 0, .iconst 1, 0), (11, 4, .goto 4, 15), (14, 0, .iconst 0, 0), (15, 7, .ireturn, 0)]]
noncomputable def ky_146 : MethodName := ({ cls := "BonnetValley", name := "isWay", desc := "(I)Z" } : Jvm.MethodName)
noncomputable def kRow_146 : pm_Row := ((ky_146, prog_1_method_26_code, 1, (Option.some Jvm.ClassFile.FieldType.boolean)), 12, (1, 1, 2), kc_146)
/-- BV.sees -/
noncomputable def kc_147 : List (List (Nat × Nat × Instr × Nat)) := [[(0, 2, .aload_n kF0, 0), (1, 5, .getfield 42, 0), (4, 2, .iload_n kF1, 0), (5, 6, .invokevirtual 167, 0), (8, 4, .ifCond .ne 7, 15), (11, 1, .ldc2_w 94, 0), (14, 7, .lreturn, 0), (15, 2, .aload_n kF0, 0)],
  [(16, 5, .getfield 35, 0), (19, 2, .aload_n kF0, 0), (20, 5, .getfield 42, 0), (23, 2, .iload_n kF1, 0), (24, 6, .invokevirtual 190, 0), (27, 3, .lstore_n kF2, 0), (28, 2, .aload_n kF0, 0), (29, 5, .getfield 19, 0)],
  [(32, 6, .invokevirtual 245, 0), (35, 2, .lload_n kF2, 0), (36, 6, .invokestatic 305, 0), (39, 0, .i2l, 0), (40, 6, .invokevirtual 252, 0), (43, 2, .aload_n kF0, 0), (44, 5, .getfield 42, 0), (47, 2, .lload_n kF2, 0)],
  [(48, 6, .invokevirtual 310, 0), (51, 0, .iconst 1, 0), (52, 2, .iload_n kF1, 0), (53, 0, .ishl, 0), (54, 0, .iconst (-1), 0), (55, 0, .ixor, 0), (56, 0, .iand, 0), (57, 0, .i2l, 0), (58, 6, .invokevirtual 252, 0), (61, 0, .pop, 0), (62, 2, .lload_n kF2, 0), (63, 7, .lreturn, 0)]]
noncomputable def ky_147 : MethodName := ({ cls := "BonnetValley", name := "sees", desc := "(I)J" } : Jvm.MethodName)
noncomputable def kRow_147 : pm_Row := ((ky_147, prog_1_method_27_code, 4, (Option.some Jvm.ClassFile.FieldType.long)), 12, (1, 4, 3), kc_147)
/-- BV.seers -/
noncomputable def kc_148 : List (List (Nat × Nat × Instr × Nat)) := [[(0, 2, .aload_n kF0, 0), (1, 5, .getfield 26, 0), (4, 2, .iload_n kF1, 0), (5, 6, .invokevirtual 302, 0), (8, 4, .ifCond .ne 5, 13), (11, 0, .iconst (-1), 0), (12, 7, .ireturn, 0), (13, 2, .aload_n kF0, 0), (14, 5, .getfield 35, 0)],
  [(17, 2, .aload_n kF0, 0), (18, 5, .getfield 42, 0), (21, 6, .invokevirtual 208, 0), (24, 0, .pop2, 0), (25, 2, .aload_n kF0, 0), (26, 5, .getfield 35, 0), (29, 2, .aload_n kF0, 0), (30, 5, .getfield 42, 0)],
  [(33, 2, .iload_n kF1, 0), (34, 6, .invokevirtual 212, 0), (37, 3, .istore_n kF2, 0), (38, 2, .aload_n kF0, 0), (39, 5, .getfield 19, 0), (42, 6, .invokevirtual 245, 0), (45, 2, .iload_n kF2, 0), (46, 6, .invokestatic 313, 0)],
  [(49, 0, .i2l, 0), (50, 6, .invokevirtual 252, 0), (53, 2, .aload_n kF0, 0), (54, 5, .getfield 42, 0), (57, 0, .lconst kG1, 0), (58, 2, .iload_n kF1, 0), (59, 0, .lshl, 0), (60, 6, .invokevirtual 194, 0), (63, 0, .i2l, 0)],
  [(64, 6, .invokevirtual 252, 0), (67, 0, .pop, 0), (68, 2, .iload_n kF2, 0), (69, 7, .ireturn, 0)]]
noncomputable def ky_148 : MethodName := ({ cls := "BonnetValley", name := "seers", desc := "(I)I" } : Jvm.MethodName)
noncomputable def kRow_148 : pm_Row := ((ky_148, prog_1_method_28_code, 3, (Option.some Jvm.ClassFile.FieldType.int)), 12, (1, 3, 1), kc_148)
/-- BV.hidden -/
noncomputable def kc_149 : List (List (Nat × Nat × Instr × Nat)) := [[(0, 2, .aload_n kF0, 0), (1, 5, .getfield 26, 0), (4, 6, .invokevirtual 317, 0), (7, 2, .aload_n kF0, 0), (8, 5, .getfield 35, 0), (11, 2, .aload_n kF0, 0), (12, 5, .getfield 42, 0), (15, 6, .invokevirtual 208, 0)],
  [(18, 1, .ldc2_w 94, 0), (21, 0, .lxor, 0), (22, 0, .land, 0), (23, 3, .lstore_n kF1, 0), (24, 2, .aload_n kF0, 0), (25, 5, .getfield 19, 0), (28, 6, .invokevirtual 245, 0), (31, 2, .lload_n kF1, 0)],
  [(32, 6, .invokestatic 305, 0), (35, 0, .i2l, 0), (36, 6, .invokevirtual 252, 0), (39, 2, .aload_n kF0, 0), (40, 5, .getfield 42, 0), (43, 2, .lload_n kF1, 0), (44, 6, .invokevirtual 194, 0), (47, 0, .i2l, 0)],
  [(48, 6, .invokevirtual 252, 0), (51, 0, .pop, 0), (52, 2, .lload_n kF1, 0), (53, 7, .lreturn, 0)]]
noncomputable def ky_149 : MethodName := ({ cls := "BonnetValley", name := "hidden", desc := "()J" } : Jvm.MethodName)
noncomputable def kRow_149 : pm_Row := ((ky_149, prog_1_method_29_code, 3, (Option.some Jvm.ClassFile.FieldType.long)), 12, (0, 3, 3), kc_149)
/-- BV.pairs -/
noncomputable def kc_150 : List (List (Nat × Nat × Instr × Nat)) := [[(0, 2, .aload_n kF0, 0), (1, 5, .getfield 35, 0), (4, 2, .aload_n kF0, 0), (5, 5, .getfield 42, 0), (8, 6, .invokevirtual 208, 0), (11, 0, .pop2, 0), (12, 0, .iconst 0, 0), (13, 3, .istore_n kF1, 0), (14, 0, .iconst 0, 0), (15, 3, .istore_n kF2, 0)],
  [(16, 0, .iconst (-1), 0), (17, 3, .istore_n kF3, 0), (18, 0, .iconst (-1), 0), (19, 3, .istore 4, 0), (21, 0, .iconst 0, 0), (22, 3, .istore 5, 0), (24, 2, .iload 5, 0), (26, 2, .aload_n kF0, 0), (27, 5, .getfield 42, 0), (30, 5, .getfield 130, 0)],
  [(33, 4, .if_icmp .ge 94, 127), (36, 2, .iload 5, 0), (38, 0, .iconst 1, 0), (39, 0, .iadd, 0), (40, 3, .istore 6, 0), (42, 2, .iload 6, 0), (44, 2, .aload_n kF0, 0), (45, 5, .getfield 42, 0)],
  [(48, 5, .getfield 130, 0), (51, 4, .if_icmp .ge 70, 121), (54, 2, .aload_n kF0, 0), (55, 5, .getfield 35, 0), (58, 2, .aload_n kF0, 0), (59, 5, .getfield 42, 0), (62, 2, .iload 5, 0)],
  [(64, 2, .iload 6, 0), (66, 6, .invokevirtual 321, 0), (69, 4, .ifCond .ne 6, 75), (72, 4, .goto 43, 115), (75, 2, .iload_n kF1, 0), (76, 4, .ifCond .ne 10, 86), (79, 2, .iload 5, 0)],
  [(81, 3, .istore_n kF3, 0), (82, 2, .iload 6, 0), (84, 3, .istore 4, 0), (86, 3, .iinc 1 1, 0), (89, 2, .iload_n kF2, 0), (90, 2, .aload_n kF0, 0), (91, 5, .getfield 35, 0), (94, 2, .aload_n kF0, 0), (95, 5, .getfield 42, 0)],
  [(98, 2, .iload 5, 0), (100, 2, .iload 6, 0), (102, 6, .invokevirtual 325, 0), (105, 4, .ifCond .eq 7, 112), (108, 0, .iconst 1, 0), (109, 4, .goto 4, 113)],
  [(112, 0, .iconst 0, 0), (113, 0, .iadd, 0), (114, 3, .istore_n kF2, 0), (115, 3, .iinc 6 1, 0), (118, 4, .goto (-76), 42), (121, 3, .iinc 5 1, 0), (124, 4, .goto (-100), 24), (127, 2, .aload_n kF0, 0)],
  [(128, 5, .getfield 19, 0), (131, 6, .invokevirtual 245, 0), (134, 2, .iload_n kF2, 0), (135, 0, .i2l, 0), (136, 6, .invokevirtual 252, 0), (139, 0, .pop, 0), (140, 2, .iload_n kF1, 0), (141, 4, .ifCond .le 19, 160)],
  [(144, 2, .aload_n kF0, 0), (145, 5, .getfield 19, 0), (148, 2, .iload_n kF3, 0), (149, 0, .i2l, 0), (150, 6, .invokevirtual 252, 0), (153, 2, .iload 4, 0), (155, 0, .i2l, 0), (156, 6, .invokevirtual 252, 0), (159, 0, .pop, 0)],
  [(160, 2, .iload_n kF1, 0), (161, 7, .ireturn, 0)]]
noncomputable def ky_150 : MethodName := ({ cls := "BonnetValley", name := "pairs", desc := "()I" } : Jvm.MethodName)
noncomputable def kRow_150 : pm_Row := ((ky_150, prog_1_method_30_code, 7, (Option.some Jvm.ClassFile.FieldType.int)), 12, (0, 7, 1), kc_150)
/-- BV.behind -/
noncomputable def kc_151 : List (List (Nat × Nat × Instr × Nat)) := [[(0, 2, .aload_n kF0, 0), (1, 5, .getfield 42, 0), (4, 2, .iload_n kF1, 0), (5, 6, .invokevirtual 167, 0), (8, 4, .ifCond .ne 5, 13), (11, 0, .iconst (-1), 0), (12, 7, .ireturn, 0), (13, 2, .aload_n kF0, 0), (14, 5, .getfield 35, 0)],
  [(17, 2, .aload_n kF0, 0), (18, 5, .getfield 42, 0), (21, 6, .invokevirtual 208, 0), (24, 0, .pop2, 0), (25, 2, .aload_n kF0, 0), (26, 5, .getfield 35, 0), (29, 2, .aload_n kF0, 0), (30, 5, .getfield 42, 0)],
  [(33, 2, .aload_n kF0, 0), (34, 5, .getfield 42, 0), (37, 5, .getfield 173, 0), (40, 2, .iload_n kF1, 0), (41, 5, .iaload, 0), (42, 6, .invokevirtual 212, 0), (45, 3, .istore_n kF2, 0), (46, 2, .iload_n kF2, 0), (47, 2, .aload_n kF0, 0)],
  [(48, 5, .getfield 42, 0), (51, 2, .aload_n kF0, 0), (52, 5, .getfield 35, 0), (55, 2, .iload_n kF1, 0), (56, 6, .invokevirtual 328, 0), (59, 6, .invokevirtual 310, 0), (62, 0, .iconst (-1), 0), (63, 0, .ixor, 0)],
  [(64, 0, .iand, 0), (65, 3, .istore_n kF3, 0), (66, 2, .aload_n kF0, 0), (67, 5, .getfield 19, 0), (70, 6, .invokevirtual 245, 0), (73, 2, .iload_n kF3, 0), (74, 6, .invokestatic 313, 0), (77, 0, .i2l, 0), (78, 6, .invokevirtual 252, 0)],
  [(81, 0, .pop, 0), (82, 2, .iload_n kF3, 0), (83, 7, .ireturn, 0)]]
noncomputable def ky_151 : MethodName := ({ cls := "BonnetValley", name := "behind", desc := "(I)I" } : Jvm.MethodName)
noncomputable def kRow_151 : pm_Row := ((ky_151, prog_1_method_31_code, 4, (Option.some Jvm.ClassFile.FieldType.int)), 12, (1, 4, 1), kc_151)
/-- BV.widest -/
noncomputable def kc_152 : List (List (Nat × Nat × Instr × Nat)) := [[(0, 2, .aload_n kF0, 0), (1, 5, .getfield 42, 0), (4, 5, .getfield 130, 0), (7, 4, .ifCond .ne 6, 13), (10, 1, .bipush (-2), 0), (12, 7, .ireturn, 0), (13, 2, .aload_n kF0, 0), (14, 5, .getfield 35, 0)],
  [(17, 2, .aload_n kF0, 0), (18, 5, .getfield 42, 0), (21, 6, .invokevirtual 208, 0), (24, 0, .pop2, 0), (25, 0, .iconst 0, 0), (26, 3, .istore_n kF1, 0), (27, 0, .iconst 0, 0), (28, 3, .istore_n kF2, 0), (29, 0, .iconst 1, 0), (30, 3, .istore_n kF3, 0), (31, 2, .iload_n kF3, 0)],
  [(32, 2, .aload_n kF0, 0), (33, 5, .getfield 42, 0), (36, 5, .getfield 130, 0), (39, 4, .if_icmp .ge 58, 97), (42, 2, .aload_n kF0, 0), (43, 5, .getfield 35, 0), (46, 2, .iload_n kF3, 0), (47, 6, .invokevirtual 328, 0)],
  [(50, 6, .invokestatic 305, 0), (53, 3, .istore 4, 0), (55, 2, .iload 4, 0), (57, 2, .aload_n kF0, 0), (58, 5, .getfield 35, 0), (61, 2, .iload_n kF1, 0), (62, 6, .invokevirtual 328, 0)],
  [(65, 6, .invokestatic 305, 0), (68, 4, .if_icmp .le 5, 73), (71, 2, .iload_n kF3, 0), (72, 3, .istore_n kF1, 0), (73, 2, .iload 4, 0), (75, 2, .aload_n kF0, 0), (76, 5, .getfield 35, 0), (79, 2, .iload_n kF2, 0)],
  [(80, 6, .invokevirtual 328, 0), (83, 6, .invokestatic 305, 0), (86, 4, .if_icmp .ge 5, 91), (89, 2, .iload_n kF3, 0), (90, 3, .istore_n kF2, 0), (91, 3, .iinc 3 1, 0), (94, 4, .goto (-63), 31)],
  [(97, 2, .aload_n kF0, 0), (98, 5, .getfield 19, 0), (101, 6, .invokevirtual 245, 0), (104, 2, .aload_n kF0, 0), (105, 5, .getfield 35, 0), (108, 2, .iload_n kF1, 0), (109, 6, .invokevirtual 328, 0)],
  [(112, 6, .invokestatic 305, 0), (115, 0, .i2l, 0), (116, 6, .invokevirtual 252, 0), (119, 0, .pop, 0), (120, 2, .aload_n kF0, 0), (121, 5, .getfield 19, 0), (124, 2, .iload_n kF2, 0), (125, 0, .i2l, 0), (126, 6, .invokevirtual 252, 0)],
  [(129, 2, .aload_n kF0, 0), (130, 5, .getfield 35, 0), (133, 2, .iload_n kF2, 0), (134, 6, .invokevirtual 328, 0), (137, 6, .invokestatic 305, 0), (140, 0, .i2l, 0), (141, 6, .invokevirtual 252, 0)],
  [(144, 0, .pop, 0), (145, 2, .iload_n kF1, 0), (146, 7, .ireturn, 0)]]
noncomputable def ky_152 : MethodName := ({ cls := "BonnetValley", name := "widest", desc := "()I" } : Jvm.MethodName)
noncomputable def kRow_152 : pm_Row := ((ky_152, prog_1_method_32_code, 5, (Option.some Jvm.ClassFile.FieldType.int)), 12, (0, 5, 1), kc_152)
/-- BV.watch -/
noncomputable def kc_153 : List (List (Nat × Nat × Instr × Nat)) := [[(0, 2, .aload_n kF0, 0), (1, 5, .getfield 35, 0), (4, 2, .aload_n kF0, 0), (5, 5, .getfield 42, 0), (8, 6, .invokevirtual 208, 0), (11, 3, .lstore_n kF1, 0), (12, 0, .iconst 1, 0), (13, 2, .aload_n kF0, 0), (14, 5, .getfield 42, 0)],
  [(17, 5, .getfield 130, 0), (20, 0, .ishl, 0), (21, 0, .iconst 1, 0), (22, 0, .isub, 0), (23, 3, .istore_n kF3, 0), (24, 2, .iload_n kF3, 0), (25, 0, .iconst 1, 0), (26, 0, .isub, 0), (27, 3, .istore 4, 0), (29, 2, .iload 4, 0), (31, 4, .ifCond .lt 54, 85)],
  [(34, 2, .iload 4, 0), (36, 6, .invokestatic 313, 0), (39, 2, .iload_n kF3, 0), (40, 6, .invokestatic 313, 0), (43, 4, .if_icmp .gt 7, 50), (46, 0, .iconst 1, 0), (47, 4, .goto 4, 51)],
  [(50, 0, .iconst 0, 0), (51, 3, .istore 5, 0), (53, 2, .iload 5, 0), (55, 4, .ifCond .eq 24, 79), (58, 2, .aload_n kF0, 0), (59, 5, .getfield 35, 0), (62, 2, .aload_n kF0, 0), (63, 5, .getfield 42, 0)],
  [(66, 2, .iload 4, 0), (68, 6, .invokevirtual 332, 0), (71, 2, .lload_n kF1, 0), (72, 0, .lcmp, 0), (73, 4, .ifCond .ne 6, 79), (76, 2, .iload 4, 0), (78, 3, .istore_n kF3, 0), (79, 3, .iinc 4 (-1), 0)],
  [(82, 4, .goto (-53), 29), (85, 2, .aload_n kF0, 0), (86, 5, .getfield 19, 0), (89, 6, .invokevirtual 245, 0), (92, 2, .iload_n kF3, 0), (93, 0, .i2l, 0), (94, 6, .invokevirtual 252, 0)],
  [(97, 0, .pop, 0), (98, 2, .iload_n kF3, 0), (99, 6, .invokestatic 313, 0), (102, 7, .ireturn, 0)]]
noncomputable def ky_153 : MethodName := ({ cls := "BonnetValley", name := "watch", desc := "()I" } : Jvm.MethodName)
noncomputable def kRow_153 : pm_Row := ((ky_153, prog_1_method_33_code, 6, (Option.some Jvm.ClassFile.FieldType.int)), 12, (0, 6, 1), kc_153)
/-- BV.learns -/
noncomputable def kc_154 : List (List (Nat × Nat × Instr × Nat)) := [[(0, 2, .aload_n kF0, 0), (1, 5, .getfield 42, 0), (4, 2, .iload_n kF1, 0), (5, 6, .invokevirtual 167, 0), (8, 4, .ifCond .eq 14, 22), (11, 2, .aload_n kF0, 0), (12, 5, .getfield 42, 0), (15, 2, .iload_n kF2, 0)],
  [(16, 6, .invokevirtual 198, 0), (19, 4, .ifCond .ne 5, 24), (22, 0, .iconst (-1), 0), (23, 7, .ireturn, 0), (24, 2, .aload_n kF0, 0), (25, 5, .getfield 49, 0), (28, 2, .aload_n kF0, 0), (29, 5, .getfield 42, 0)],
  [(32, 6, .invokevirtual 235, 0), (35, 0, .iconst 0, 0), (36, 3, .istore_n kF3, 0), (37, 2, .iload_n kF3, 0), (38, 1, .bipush 99, 0), (40, 4, .if_icmp .gt 61, 101), (43, 2, .aload_n kF0, 0), (44, 5, .getfield 49, 0), (47, 2, .iload_n kF2, 0)],
  [(48, 6, .invokevirtual 204, 0), (51, 3, .istore 4, 0), (53, 2, .iload 4, 0), (55, 2, .iload_n kF1, 0), (56, 0, .ishr, 0), (57, 0, .iconst 1, 0), (58, 0, .iand, 0), (59, 0, .iconst 1, 0), (60, 4, .if_icmp .ne 22, 82), (63, 2, .aload_n kF0, 0)],
  [(64, 5, .getfield 19, 0), (67, 6, .invokevirtual 245, 0), (70, 2, .iload 4, 0), (72, 6, .invokestatic 313, 0), (75, 0, .i2l, 0), (76, 6, .invokevirtual 252, 0), (79, 0, .pop, 0)],
  [(80, 2, .iload_n kF3, 0), (81, 7, .ireturn, 0), (82, 2, .aload_n kF0, 0), (83, 5, .getfield 35, 0), (86, 2, .aload_n kF0, 0), (87, 5, .getfield 49, 0), (90, 0, .iconst 1, 0), (91, 6, .invokevirtual 239, 0), (94, 0, .pop, 0), (95, 3, .iinc 3 1, 0)],
  [(98, 4, .goto (-61), 37), (101, 1, .bipush (-2), 0), (103, 7, .ireturn, 0)]]
noncomputable def ky_154 : MethodName := ({ cls := "BonnetValley", name := "learns", desc := "(II)I" } : Jvm.MethodName)
noncomputable def kRow_154 : pm_Row := ((ky_154, prog_1_method_34_code, 5, (Option.some Jvm.ClassFile.FieldType.int)), 12, (2, 5, 1), kc_154)
/-- BV.all -/
noncomputable def kc_155 : List (List (Nat × Nat × Instr × Nat)) := [[(0, 2, .aload_n kF0, 0), (1, 5, .getfield 49, 0), (4, 2, .aload_n kF0, 0), (5, 5, .getfield 42, 0), (8, 6, .invokevirtual 235, 0), (11, 0, .iconst (-1), 0), (12, 3, .istore_n kF1, 0), (13, 0, .iconst 0, 0), (14, 3, .istore_n kF2, 0), (15, 2, .iload_n kF2, 0)],
  [(16, 1, .bipush 99, 0), (18, 4, .if_icmp .gt 51, 69), (21, 2, .aload_n kF0, 0), (22, 5, .getfield 49, 0), (25, 6, .invokevirtual 335, 0), (28, 3, .istore_n kF3, 0), (29, 2, .iload_n kF3, 0), (30, 4, .ifCond .ge 18, 48)],
  [(33, 2, .aload_n kF0, 0), (34, 5, .getfield 19, 0), (37, 6, .invokevirtual 245, 0), (40, 2, .iload_n kF1, 0), (41, 0, .i2l, 0), (42, 6, .invokevirtual 252, 0), (45, 0, .pop, 0), (46, 2, .iload_n kF2, 0), (47, 7, .ireturn, 0)],
  [(48, 2, .iload_n kF3, 0), (49, 3, .istore_n kF1, 0), (50, 2, .aload_n kF0, 0), (51, 5, .getfield 35, 0), (54, 2, .aload_n kF0, 0), (55, 5, .getfield 49, 0), (58, 0, .iconst 1, 0), (59, 6, .invokevirtual 239, 0), (62, 0, .pop, 0), (63, 3, .iinc 2 1, 0)],
  [(66, 4, .goto (-51), 15), (69, 1, .bipush (-2), 0), (71, 7, .ireturn, 0)]]
noncomputable def ky_155 : MethodName := ({ cls := "BonnetValley", name := "all", desc := "()I" } : Jvm.MethodName)
noncomputable def kRow_155 : pm_Row := ((ky_155, prog_1_method_35_code, 4, (Option.some Jvm.ClassFile.FieldType.int)), 12, (0, 4, 1), kc_155)
/-- BV.ahead -/
noncomputable def kc_156 : List (List (Nat × Nat × Instr × Nat)) := [[(0, 2, .iload_n kF1, 0), (1, 4, .ifCond .lt 9, 10), (4, 2, .iload_n kF1, 0), (5, 1, .bipush 99, 0), (7, 4, .if_icmp .le 5, 12), (10, 0, .iconst (-1), 0), (11, 7, .ireturn, 0), (12, 2, .aload_n kF0, 0), (13, 5, .getfield 49, 0)],
  [(16, 2, .aload_n kF0, 0), (17, 5, .getfield 42, 0), (20, 6, .invokevirtual 235, 0), (23, 2, .aload_n kF0, 0), (24, 5, .getfield 35, 0), (27, 2, .aload_n kF0, 0), (28, 5, .getfield 49, 0), (31, 2, .iload_n kF1, 0)],
  [(32, 6, .invokevirtual 239, 0), (35, 3, .istore_n kF2, 0), (36, 2, .aload_n kF0, 0), (37, 5, .getfield 19, 0), (40, 6, .invokevirtual 245, 0), (43, 0, .pop, 0), (44, 0, .iconst 0, 0), (45, 3, .istore_n kF3, 0), (46, 2, .iload_n kF3, 0), (47, 2, .aload_n kF0, 0)],
  [(48, 5, .getfield 49, 0), (51, 5, .getfield 130, 0), (54, 4, .if_icmp .ge 33, 87), (57, 2, .iload_n kF3, 0), (58, 1, .bipush 8, 0), (60, 4, .if_icmp .ge 27, 87), (63, 2, .aload_n kF0, 0)],
  [(64, 5, .getfield 19, 0), (67, 2, .aload_n kF0, 0), (68, 5, .getfield 49, 0), (71, 5, .getfield 183, 0), (74, 2, .iload_n kF3, 0), (75, 5, .iaload, 0), (76, 0, .i2l, 0), (77, 6, .invokevirtual 252, 0)],
  [(80, 0, .pop, 0), (81, 3, .iinc 3 1, 0), (84, 4, .goto (-38), 46), (87, 2, .iload_n kF2, 0), (88, 7, .ireturn, 0)]]
noncomputable def ky_156 : MethodName := ({ cls := "BonnetValley", name := "ahead", desc := "(I)I" } : Jvm.MethodName)
noncomputable def kRow_156 : pm_Row := ((ky_156, prog_1_method_36_code, 4, (Option.some Jvm.ClassFile.FieldType.int)), 12, (1, 4, 1), kc_156)
/-- BV.gossip -/
noncomputable def kc_157 : List (List (Nat × Nat × Instr × Nat)) := [[(0, 2, .aload_n kF0, 0), (1, 5, .getfield 42, 0), (4, 2, .iload_n kF1, 0), (5, 6, .invokevirtual 167, 0), (8, 4, .ifCond .ne 5, 13), (11, 0, .iconst (-1), 0), (12, 7, .ireturn, 0), (13, 2, .aload_n kF0, 0), (14, 5, .getfield 35, 0)],
  [(17, 2, .aload_n kF0, 0), (18, 5, .getfield 42, 0), (21, 6, .invokevirtual 208, 0), (24, 0, .pop2, 0), (25, 0, .iconst 1, 0), (26, 2, .iload_n kF1, 0), (27, 0, .ishl, 0), (28, 3, .istore_n kF2, 0), (29, 0, .iconst 0, 0), (30, 3, .istore_n kF3, 0), (31, 0, .iconst 0, 0)],
  [(32, 3, .istore 4, 0), (34, 2, .iload 4, 0), (36, 2, .aload_n kF0, 0), (37, 5, .getfield 42, 0), (40, 5, .getfield 130, 0), (43, 4, .if_icmp .ge 35, 78), (46, 2, .aload_n kF0, 0), (47, 5, .getfield 35, 0)],
  [(50, 2, .aload_n kF0, 0), (51, 5, .getfield 42, 0), (54, 2, .iload_n kF2, 0), (55, 6, .invokevirtual 338, 0), (58, 3, .istore 5, 0), (60, 2, .iload 5, 0), (62, 2, .iload_n kF2, 0), (63, 4, .if_icmp .eq 6, 69)],
  [(66, 3, .iinc 3 1, 0), (69, 2, .iload 5, 0), (71, 3, .istore_n kF2, 0), (72, 3, .iinc 4 1, 0), (75, 4, .goto (-41), 34), (78, 2, .aload_n kF0, 0), (79, 5, .getfield 19, 0)],
  [(82, 6, .invokevirtual 245, 0), (85, 2, .iload_n kF3, 0), (86, 0, .i2l, 0), (87, 6, .invokevirtual 252, 0), (90, 0, .pop, 0), (91, 2, .iload_n kF2, 0), (92, 7, .ireturn, 0)]]
noncomputable def ky_157 : MethodName := ({ cls := "BonnetValley", name := "gossip", desc := "(I)I" } : Jvm.MethodName)
noncomputable def kRow_157 : pm_Row := ((ky_157, prog_1_method_37_code, 6, (Option.some Jvm.ClassFile.FieldType.int)), 12, (1, 6, 1), kc_157)
/-- BV.eighths -/
noncomputable def kc_158 : List (List (Nat × Nat × Instr × Nat)) := [[(0, 2, .aload_n kF0, 0), (1, 5, .getfield 42, 0), (4, 2, .iload_n kF1, 0), (5, 6, .invokevirtual 167, 0), (8, 4, .ifCond .eq 14, 22), (11, 2, .aload_n kF0, 0), (12, 5, .getfield 26, 0), (15, 2, .iload_n kF2, 0)],
  [(16, 6, .invokevirtual 302, 0), (19, 4, .ifCond .ne 5, 24), (22, 0, .iconst (-1), 0), (23, 7, .ireturn, 0), (24, 2, .aload_n kF0, 0), (25, 5, .getfield 35, 0), (28, 2, .aload_n kF0, 0), (29, 5, .getfield 42, 0)],
  [(32, 2, .iload_n kF1, 0), (33, 6, .invokevirtual 186, 0), (36, 3, .istore_n kF3, 0), (37, 1, .bipush 8, 0), (39, 3, .istore 4, 0), (41, 0, .iconst (-1), 0), (42, 3, .istore 5, 0), (44, 0, .iconst 0, 0), (45, 3, .istore 6, 0), (47, 2, .iload 6, 0)],
  [(49, 1, .bipush 8, 0), (51, 4, .if_icmp .ge 55, 106), (54, 2, .aload_n kF0, 0), (55, 5, .getfield 42, 0), (58, 5, .getfield 177, 0), (61, 2, .iload_n kF1, 0), (62, 5, .iaload, 0), (63, 2, .iload 6, 0)],
  [(65, 6, .invokestatic 296, 0), (68, 3, .istore 7, 0), (70, 2, .iload 7, 0), (72, 2, .iload 4, 0), (74, 4, .if_icmp .ge 26, 100), (77, 2, .aload_n kF0, 0), (78, 2, .iload_n kF1, 0), (79, 2, .iload 6, 0)],
  [(81, 2, .iload_n kF3, 0), (82, 6, .invokevirtual 341, 0), (85, 2, .iload_n kF2, 0), (86, 6, .invokestatic 345, 0), (89, 4, .ifCond .eq 11, 100), (92, 2, .iload 7, 0), (94, 3, .istore 4, 0)],
  [(96, 2, .iload 6, 0), (98, 3, .istore 5, 0), (100, 3, .iinc 6 1, 0), (103, 4, .goto (-56), 47), (106, 2, .iload 5, 0), (108, 4, .ifCond .ge 6, 114), (111, 1, .bipush (-2), 0)],
  [(113, 7, .ireturn, 0), (114, 2, .aload_n kF0, 0), (115, 5, .getfield 19, 0), (118, 6, .invokevirtual 245, 0), (121, 2, .iload 5, 0), (123, 0, .i2l, 0), (124, 6, .invokevirtual 252, 0), (127, 0, .pop, 0)],
  [(128, 2, .iload 4, 0), (130, 7, .ireturn, 0)]]
noncomputable def ky_158 : MethodName := ({ cls := "BonnetValley", name := "eighths", desc := "(II)I" } : Jvm.MethodName)
noncomputable def kRow_158 : pm_Row := ((ky_158, prog_1_method_38_code, 8, (Option.some Jvm.ClassFile.FieldType.int)), 12, (2, 8, 1), kc_158)
/-- BV.turned -/
noncomputable def kc_159 : List (List (Nat × Nat × Instr × Nat)) := [[(0, 0, .iconst 0, 0), (1, 3, .istore_n kF1, 0), (2, 2, .iload_n kF1, 0), (3, 2, .aload_n kF0, 0), (4, 5, .getfield 42, 0), (7, 5, .getfield 130, 0), (10, 4, .if_icmp .ge 59, 69), (13, 2, .aload_n kF0, 0), (14, 5, .getfield 35, 0)],
  [(17, 2, .aload_n kF0, 0), (18, 5, .getfield 42, 0), (21, 2, .iload_n kF1, 0), (22, 6, .invokevirtual 186, 0), (25, 3, .istore_n kF2, 0), (26, 0, .iconst 0, 0), (27, 3, .istore_n kF3, 0), (28, 2, .iload_n kF3, 0), (29, 1, .bipush 8, 0), (31, 4, .if_icmp .ge 32, 63)],
  [(34, 2, .aload_n kF0, 0), (35, 5, .getfield 83, 0), (38, 2, .iload_n kF1, 0), (39, 2, .iload_n kF3, 0), (40, 2, .aload_n kF0, 0), (41, 5, .getfield 42, 0), (44, 2, .aload_n kF0, 0), (45, 2, .iload_n kF1, 0), (46, 2, .iload_n kF3, 0), (47, 2, .iload_n kF2, 0)],
  [(48, 6, .invokevirtual 341, 0), (51, 6, .invokevirtual 194, 0), (54, 6, .invokevirtual 349, 0), (57, 3, .iinc 3 1, 0), (60, 4, .goto (-32), 28), (63, 3, .iinc 1 1, 0)],
  [(66, 4, .goto (-64), 2), (69, 2, .aload_n kF0, 0), (70, 5, .getfield 83, 0), (73, 2, .aload_n kF0, 0), (74, 5, .getfield 42, 0), (77, 6, .invokevirtual 352, 0)],
  [(80, 3, .istore_n kF1, 0), (81, 2, .iload_n kF1, 0), (82, 4, .ifCond .ge 6, 88), (85, 1, .bipush (-2), 0), (87, 7, .ireturn, 0), (88, 2, .aload_n kF0, 0), (89, 5, .getfield 83, 0), (92, 2, .aload_n kF0, 0), (93, 5, .getfield 42, 0)],
  [(96, 2, .aload_n kF0, 0), (97, 5, .getfield 19, 0), (100, 6, .invokevirtual 245, 0), (103, 6, .invokevirtual 356, 0), (106, 2, .iload_n kF1, 0), (107, 7, .ireturn, 0)]]
noncomputable def ky_159 : MethodName := ({ cls := "BonnetValley", name := "turned", desc := "()I" } : Jvm.MethodName)
noncomputable def kRow_159 : pm_Row := ((ky_159, prog_1_method_39_code, 4, (Option.some Jvm.ClassFile.FieldType.int)), 12, (0, 4, 1), kc_159)
/-- BV.best -/
noncomputable def kc_160 : List (List (Nat × Nat × Instr × Nat)) := [[(0, 2, .aload_n kF0, 0), (1, 5, .getfield 42, 0), (4, 2, .iload_n kF1, 0), (5, 6, .invokevirtual 167, 0), (8, 4, .ifCond .ne 5, 13), (11, 0, .iconst (-1), 0), (12, 7, .ireturn, 0), (13, 2, .aload_n kF0, 0), (14, 5, .getfield 35, 0)],
  [(17, 2, .aload_n kF0, 0), (18, 5, .getfield 42, 0), (21, 2, .iload_n kF1, 0), (22, 6, .invokevirtual 186, 0), (25, 3, .istore_n kF2, 0), (26, 0, .iconst 0, 0), (27, 3, .istore_n kF3, 0), (28, 2, .aload_n kF0, 0), (29, 5, .getfield 42, 0)],
  [(32, 2, .aload_n kF0, 0), (33, 2, .iload_n kF1, 0), (34, 0, .iconst 0, 0), (35, 2, .iload_n kF2, 0), (36, 6, .invokevirtual 341, 0), (39, 6, .invokevirtual 194, 0), (42, 3, .istore 4, 0), (44, 0, .iconst 1, 0), (45, 3, .istore 5, 0), (47, 2, .iload 5, 0)],
  [(49, 1, .bipush 8, 0), (51, 4, .if_icmp .ge 46, 97), (54, 2, .aload_n kF0, 0), (55, 5, .getfield 42, 0), (58, 2, .aload_n kF0, 0), (59, 2, .iload_n kF1, 0), (60, 2, .iload 5, 0), (62, 2, .iload_n kF2, 0), (63, 6, .invokevirtual 341, 0)],
  [(66, 6, .invokevirtual 194, 0), (69, 3, .istore 6, 0), (71, 2, .iload 6, 0), (73, 6, .invokestatic 313, 0), (76, 2, .iload 4, 0), (78, 6, .invokestatic 313, 0)],
  [(81, 4, .if_icmp .le 10, 91), (84, 2, .iload 5, 0), (86, 3, .istore_n kF3, 0), (87, 2, .iload 6, 0), (89, 3, .istore 4, 0), (91, 3, .iinc 5 1, 0), (94, 4, .goto (-47), 47)],
  [(97, 2, .aload_n kF0, 0), (98, 5, .getfield 19, 0), (101, 6, .invokevirtual 245, 0), (104, 2, .iload 4, 0), (106, 0, .i2l, 0), (107, 6, .invokevirtual 252, 0), (110, 0, .pop, 0), (111, 2, .iload_n kF3, 0)],
  [(112, 7, .ireturn, 0)]]
noncomputable def ky_160 : MethodName := ({ cls := "BonnetValley", name := "best", desc := "(I)I" } : Jvm.MethodName)
noncomputable def kRow_160 : pm_Row := ((ky_160, prog_1_method_40_code, 7, (Option.some Jvm.ClassFile.FieldType.int)), 12, (1, 7, 1), kc_160)
/-- BV.bears -/
noncomputable def kc_161 : List (List (Nat × Nat × Instr × Nat)) := [[(0, 2, .aload_n kF0, 0), (1, 5, .getfield 42, 0), (4, 2, .iload_n kF1, 0), (5, 6, .invokevirtual 167, 0), (8, 4, .ifCond .eq 14, 22), (11, 2, .aload_n kF0, 0), (12, 5, .getfield 26, 0), (15, 2, .iload_n kF2, 0)],
  [(16, 6, .invokevirtual 302, 0), (19, 4, .ifCond .ne 5, 24), (22, 0, .iconst (-1), 0), (23, 7, .ireturn, 0), (24, 0, .iconst 4, 0), (25, 3, .istore_n kF3, 0), (26, 2, .iload_n kF3, 0), (27, 4, .ifCond .lt 56, 83), (30, 2, .aload_n kF0, 0), (31, 5, .getfield 35, 0)],
  [(34, 2, .aload_n kF0, 0), (35, 5, .getfield 42, 0), (38, 2, .iload_n kF1, 0), (39, 2, .iload_n kF3, 0), (40, 6, .invokevirtual 360, 0), (43, 2, .iload_n kF2, 0), (44, 6, .invokestatic 345, 0), (47, 4, .ifCond .eq 30, 77)],
  [(50, 2, .aload_n kF0, 0), (51, 5, .getfield 19, 0), (54, 6, .invokevirtual 245, 0), (57, 2, .aload_n kF0, 0), (58, 5, .getfield 35, 0), (61, 2, .aload_n kF0, 0), (62, 5, .getfield 42, 0)],
  [(65, 2, .iload_n kF1, 0), (66, 2, .iload_n kF3, 0), (67, 6, .invokevirtual 364, 0), (70, 0, .i2l, 0), (71, 6, .invokevirtual 252, 0), (74, 0, .pop, 0), (75, 2, .iload_n kF3, 0), (76, 7, .ireturn, 0), (77, 3, .iinc 3 (-1), 0)],
  [(80, 4, .goto (-54), 26), (83, 1, .bipush (-2), 0), (85, 7, .ireturn, 0)]]
noncomputable def ky_161 : MethodName := ({ cls := "BonnetValley", name := "bears", desc := "(II)I" } : Jvm.MethodName)
noncomputable def kRow_161 : pm_Row := ((ky_161, prog_1_method_41_code, 4, (Option.some Jvm.ClassFile.FieldType.int)), 12, (2, 4, 1), kc_161)
/-- BV.viewFacing -/
noncomputable def kc_162 : List (List (Nat × Nat × Instr × Nat)) := [[(0, 2, .aload_n kF0, 0), (1, 5, .getfield 42, 0), (4, 2, .iload_n kF1, 0), (5, 6, .invokevirtual 167, 0), (8, 4, .ifCond .ne 5, 13), (11, 0, .lconst kG0, 0), (12, 7, .lreturn, 0), (13, 2, .aload_n kF0, 0), (14, 5, .getfield 26, 0)],
  [(17, 2, .aload_n kF0, 0), (18, 5, .getfield 42, 0), (21, 5, .getfield 173, 0), (24, 2, .iload_n kF1, 0), (25, 5, .iaload, 0), (26, 2, .iload_n kF2, 0), (27, 2, .aload_n kF0, 0), (28, 5, .getfield 42, 0), (31, 5, .getfield 180, 0)],
  [(34, 2, .iload_n kF1, 0), (35, 5, .iaload, 0), (36, 2, .iload_n kF3, 0), (37, 6, .invokevirtual 368, 0), (40, 7, .lreturn, 0)]]
noncomputable def ky_162 : MethodName := ({ cls := "BonnetValley", name := "viewFacing", desc := "(III)J" } : Jvm.MethodName)
noncomputable def kRow_162 : pm_Row := ((ky_162, prog_1_method_42_code, 4, (Option.some Jvm.ClassFile.FieldType.long)), 12, (3, 4, 3), kc_162)
/-- BV.hasField -/
noncomputable def kc_163 : List (List (Nat × Nat × Instr × Nat)) := [[(0, 2, .lload_n kF0, 0), (1, 2, .iload_n kF2, 0), (2, 0, .lshr, 0), (3, 0, .lconst kG1, 0), (4, 0, .land, 0), (5, 0, .lconst kG1, 0), (6, 0, .lcmp, 0), (7, 4, .ifCond .ne 7, 14), (10, 0, .iconst 1, 0), (11, 4, .goto 4, 15), (14, 0, .iconst 0, 0), (15, 7, .ireturn, 0)]]
noncomputable def ky_163 : MethodName := ({ cls := "BonnetValley", name := "hasField", desc := "(JI)Z" } : Jvm.MethodName)
noncomputable def kRow_163 : pm_Row := ((ky_163, prog_1_method_43_code, 3, (Option.some Jvm.ClassFile.FieldType.boolean)), 12, (2, 3, 2), kc_163)
/-- BV.back -/
noncomputable def kc_164 : List (List (Nat × Nat × Instr × Nat)) := [[(0, 2, .aload_n kF0, 0), (1, 5, .getfield 26, 0), (4, 2, .iload_n kF1, 0), (5, 6, .invokevirtual 302, 0), (8, 4, .ifCond .eq 14, 22), (11, 2, .aload_n kF0, 0), (12, 5, .getfield 26, 0), (15, 2, .iload_n kF2, 0)],
  [(16, 6, .invokevirtual 302, 0), (19, 4, .ifCond .ne 5, 24), (22, 0, .iconst (-1), 0), (23, 7, .ireturn, 0), (24, 2, .aload_n kF0, 0), (25, 5, .getfield 76, 0), (28, 2, .aload_n kF0, 0), (29, 5, .getfield 26, 0)],
  [(32, 2, .iload_n kF1, 0), (33, 2, .iload_n kF2, 0), (34, 2, .aload_n kF0, 0), (35, 5, .getfield 35, 0), (38, 2, .aload_n kF0, 0), (39, 5, .getfield 42, 0), (42, 6, .invokevirtual 208, 0), (45, 1, .ldc2_w 94, 0)],
  [(48, 0, .lxor, 0), (49, 6, .invokevirtual 371, 0), (52, 3, .istore_n kF3, 0), (53, 2, .iload_n kF3, 0), (54, 4, .ifCond .ge 6, 60), (57, 1, .bipush (-2), 0), (59, 7, .ireturn, 0), (60, 2, .aload_n kF0, 0), (61, 5, .getfield 19, 0)],
  [(64, 6, .invokevirtual 245, 0), (67, 0, .pop, 0), (68, 0, .iconst 0, 0), (69, 3, .istore 4, 0), (71, 2, .iload 4, 0), (73, 2, .iload_n kF3, 0), (74, 4, .if_icmp .gt 27, 101), (77, 2, .aload_n kF0, 0), (78, 5, .getfield 19, 0)],
  [(81, 2, .aload_n kF0, 0), (82, 5, .getfield 76, 0), (85, 2, .iload 4, 0), (87, 6, .invokevirtual 375, 0), (90, 0, .i2l, 0), (91, 6, .invokevirtual 252, 0), (94, 0, .pop, 0), (95, 3, .iinc 4 1, 0)],
  [(98, 4, .goto (-27), 71), (101, 2, .iload_n kF3, 0), (102, 7, .ireturn, 0)]]
noncomputable def ky_164 : MethodName := ({ cls := "BonnetValley", name := "back", desc := "(II)I" } : Jvm.MethodName)
noncomputable def kRow_164 : pm_Row := ((ky_164, prog_1_method_44_code, 5, (Option.some Jvm.ClassFile.FieldType.int)), 12, (2, 5, 1), kc_164)
/-- BV.0pen -/
noncomputable def kc_165 : List (List (Nat × Nat × Instr × Nat)) := [[(0, 2, .aload_n kF0, 0), (1, 5, .getfield 26, 0), (4, 2, .iload_n kF1, 0), (5, 6, .invokevirtual 302, 0), (8, 4, .ifCond .eq 14, 22), (11, 2, .aload_n kF0, 0), (12, 5, .getfield 26, 0), (15, 2, .iload_n kF2, 0)],
  [(16, 6, .invokevirtual 302, 0), (19, 4, .ifCond .ne 5, 24), (22, 0, .iconst (-1), 0), (23, 7, .ireturn, 0), (24, 2, .aload_n kF0, 0), (25, 5, .getfield 76, 0), (28, 2, .aload_n kF0, 0), (29, 5, .getfield 26, 0)],
  [(32, 2, .iload_n kF1, 0), (33, 2, .iload_n kF2, 0), (34, 1, .ldc2_w 94, 0), (37, 6, .invokevirtual 371, 0), (40, 3, .istore_n kF3, 0), (41, 2, .iload_n kF3, 0), (42, 4, .ifCond .ge 6, 48), (45, 1, .bipush (-2), 0), (47, 7, .ireturn, 0)],
  [(48, 2, .aload_n kF0, 0), (49, 5, .getfield 35, 0), (52, 2, .aload_n kF0, 0), (53, 5, .getfield 42, 0), (56, 6, .invokevirtual 208, 0), (59, 3, .lstore 4, 0), (61, 0, .iconst 0, 0), (62, 3, .istore 6, 0)],
  [(64, 0, .iconst 0, 0), (65, 3, .istore 7, 0), (67, 2, .iload 7, 0), (69, 2, .iload_n kF3, 0), (70, 4, .if_icmp .gt 36, 106), (73, 2, .iload 6, 0), (75, 2, .lload 4, 0), (77, 2, .aload_n kF0, 0), (78, 5, .getfield 76, 0)],
  [(81, 2, .iload 7, 0), (83, 6, .invokevirtual 375, 0), (86, 6, .invokestatic 345, 0), (89, 4, .ifCond .eq 7, 96), (92, 0, .iconst 1, 0), (93, 4, .goto 4, 97)],
  [(96, 0, .iconst 0, 0), (97, 0, .iadd, 0), (98, 3, .istore 6, 0), (100, 3, .iinc 7 1, 0), (103, 4, .goto (-36), 67), (106, 2, .aload_n kF0, 0), (107, 5, .getfield 19, 0), (110, 6, .invokevirtual 245, 0)],
  [(113, 2, .iload 6, 0), (115, 0, .i2l, 0), (116, 6, .invokevirtual 252, 0), (119, 0, .pop, 0), (120, 2, .iload_n kF3, 0), (121, 7, .ireturn, 0)]]
noncomputable def ky_165 : MethodName := ({ cls := "BonnetValley", name := "open", desc := "(II)I" } : Jvm.MethodName)
noncomputable def kRow_165 : pm_Row := ((ky_165, prog_1_method_45_code, 8, (Option.some Jvm.ClassFile.FieldType.int)), 12, (2, 8, 1), kc_165)
/-- BV.heard -/
noncomputable def kc_166 : List (List (Nat × Nat × Instr × Nat)) := [[(0, 2, .aload_n kF0, 0), (1, 5, .getfield 42, 0), (4, 2, .iload_n kF1, 0), (5, 6, .invokevirtual 167, 0), (8, 4, .ifCond .eq 21, 29), (11, 2, .iload_n kF2, 0), (12, 4, .ifCond .lt 17, 29), (15, 2, .iload_n kF2, 0)],
  [(16, 0, .iconst 1, 0), (17, 4, .if_icmp .gt 12, 29), (20, 2, .aload_n kF0, 0), (21, 5, .getfield 100, 0), (24, 1, .bipush 10, 0), (26, 4, .if_icmp .lt 5, 31), (29, 0, .iconst (-1), 0), (30, 7, .ireturn, 0), (31, 2, .aload_n kF0, 0)],
  [(32, 5, .getfield 35, 0), (35, 2, .aload_n kF0, 0), (36, 5, .getfield 42, 0), (39, 2, .iload_n kF1, 0), (40, 6, .invokevirtual 190, 0), (43, 3, .lstore_n kF3, 0), (44, 2, .aload_n kF0, 0), (45, 0, .dup, 0), (46, 5, .getfield 96, 0)],
  [(49, 2, .iload_n kF2, 0), (50, 0, .iconst 1, 0), (51, 4, .if_icmp .ne 7, 58), (54, 2, .lload_n kF3, 0), (55, 4, .goto 8, 63), (58, 2, .lload_n kF3, 0), (59, 1, .ldc2_w 94, 0), (62, 0, .lxor, 0), (63, 0, .land, 0)],
  [(64, 5, .putfield 96, 0), (67, 2, .aload_n kF0, 0), (68, 0, .dup, 0), (69, 5, .getfield 100, 0), (72, 0, .iconst 1, 0), (73, 0, .iadd, 0), (74, 5, .putfield 100, 0), (77, 2, .aload_n kF0, 0), (78, 5, .getfield 100, 0)],
  [(81, 7, .ireturn, 0)]]
noncomputable def ky_166 : MethodName := ({ cls := "BonnetValley", name := "heard", desc := "(II)I" } : Jvm.MethodName)
noncomputable def kRow_166 : pm_Row := ((ky_166, prog_1_method_46_code, 5, (Option.some Jvm.ClassFile.FieldType.int)), 12, (2, 5, 1), kc_166)
/-- BV.forget -/
noncomputable def kc_167 : List (List (Nat × Nat × Instr × Nat)) := [[(0, 2, .aload_n kF0, 0), (1, 5, .getfield 100, 0), (4, 3, .istore_n kF1, 0), (5, 2, .aload_n kF0, 0), (6, 6, .invokevirtual 124, 0), (9, 2, .iload_n kF1, 0), (10, 7, .ireturn, 0)]]
noncomputable def ky_167 : MethodName := ({ cls := "BonnetValley", name := "forget", desc := "()I" } : Jvm.MethodName)
noncomputable def kRow_167 : pm_Row := ((ky_167, prog_1_method_47_code, 2, (Option.some Jvm.ClassFile.FieldType.int)), 12, (0, 2, 1), kc_167)
/-- BV.lost -/
noncomputable def kc_168 : List (List (Nat × Nat × Instr × Nat)) := [[(0, 2, .aload_n kF0, 0), (1, 5, .getfield 96, 0), (4, 2, .aload_n kF0, 0), (5, 5, .getfield 26, 0), (8, 6, .invokevirtual 317, 0), (11, 0, .land, 0), (12, 3, .lstore_n kF1, 0), (13, 2, .aload_n kF0, 0), (14, 5, .getfield 19, 0)],
  [(17, 6, .invokevirtual 245, 0), (20, 2, .lload_n kF1, 0), (21, 6, .invokestatic 305, 0), (24, 0, .i2l, 0), (25, 6, .invokevirtual 252, 0), (28, 0, .pop, 0), (29, 2, .lload_n kF1, 0), (30, 7, .lreturn, 0)]]
noncomputable def ky_168 : MethodName := ({ cls := "BonnetValley", name := "lost", desc := "()J" } : Jvm.MethodName)
noncomputable def kRow_168 : pm_Row := ((ky_168, prog_1_method_48_code, 3, (Option.some Jvm.ClassFile.FieldType.long)), 12, (0, 3, 3), kc_168)
/-- BV.asks -/
noncomputable def kc_169 : List (List (Nat × Nat × Instr × Nat)) := [[(0, 2, .aload_n kF0, 0), (1, 5, .getfield 96, 0), (4, 2, .aload_n kF0, 0), (5, 5, .getfield 26, 0), (8, 6, .invokevirtual 317, 0), (11, 0, .land, 0), (12, 3, .lstore_n kF1, 0), (13, 2, .lload_n kF1, 0), (14, 0, .lconst kG0, 0), (15, 0, .lcmp, 0)],
  [(16, 4, .ifCond .eq 13, 29), (19, 2, .aload_n kF0, 0), (20, 5, .getfield 42, 0), (23, 5, .getfield 130, 0), (26, 4, .ifCond .ne 6, 32), (29, 1, .bipush (-2), 0), (31, 7, .ireturn, 0)],
  [(32, 2, .aload_n kF0, 0), (33, 5, .getfield 35, 0), (36, 2, .aload_n kF0, 0), (37, 5, .getfield 42, 0), (40, 6, .invokevirtual 208, 0), (43, 0, .pop2, 0), (44, 0, .iconst 0, 0), (45, 3, .istore_n kF3, 0), (46, 1, .bipush 50, 0)],
  [(48, 3, .istore 4, 0), (50, 0, .iconst 0, 0), (51, 3, .istore 5, 0), (53, 2, .iload 5, 0), (55, 2, .aload_n kF0, 0), (56, 5, .getfield 42, 0), (59, 5, .getfield 130, 0), (62, 4, .if_icmp .ge 53, 115)],
  [(65, 2, .lload_n kF1, 0), (66, 2, .aload_n kF0, 0), (67, 5, .getfield 35, 0), (70, 2, .iload 5, 0), (72, 6, .invokevirtual 328, 0), (75, 0, .land, 0), (76, 6, .invokestatic 305, 0), (79, 3, .istore 6, 0)],
  [(81, 2, .iload 6, 0), (83, 2, .lload_n kF1, 0), (84, 6, .invokestatic 305, 0), (87, 2, .iload 6, 0), (89, 0, .isub, 0), (90, 5, .invokestatic 232, 0), (93, 3, .istore 7, 0), (95, 2, .iload 7, 0)],
  [(97, 2, .iload 4, 0), (99, 4, .if_icmp .ge 10, 109), (102, 2, .iload 7, 0), (104, 3, .istore 4, 0), (106, 2, .iload 5, 0), (108, 3, .istore_n kF3, 0), (109, 3, .iinc 5 1, 0)],
  [(112, 4, .goto (-59), 53), (115, 2, .aload_n kF0, 0), (116, 5, .getfield 19, 0), (119, 6, .invokevirtual 245, 0), (122, 2, .iload 4, 0), (124, 0, .i2l, 0), (125, 6, .invokevirtual 252, 0)],
  [(128, 0, .pop, 0), (129, 2, .iload_n kF3, 0), (130, 7, .ireturn, 0)]]
noncomputable def ky_169 : MethodName := ({ cls := "BonnetValley", name := "asks", desc := "()I" } : Jvm.MethodName)
noncomputable def kRow_169 : pm_Row := ((ky_169, prog_1_method_49_code, 8, (Option.some Jvm.ClassFile.FieldType.int)), 12, (0, 8, 1), kc_169)
/-- BV.forgetHearings -/
noncomputable def kc_170 : List (List (Nat × Nat × Instr × Nat)) := [[(0, 2, .aload_n kF0, 0), (1, 1, .ldc2_w 94, 0), (4, 5, .putfield 96, 0), (7, 2, .aload_n kF0, 0), (8, 0, .iconst 0, 0), (9, 5, .putfield 100, 0), (12, 7, .return_, 0)]]
noncomputable def ky_170 : MethodName := ({ cls := "BonnetValley", name := "forgetHearings", desc := "()V" } : Jvm.MethodName)
noncomputable def kRow_170 : pm_Row := ((ky_170, prog_1_method_50_code, 1, (Option.none : Option Jvm.ClassFile.FieldType)), 12, (0, 1, 0), kc_170)
/-- BV.storm -/
noncomputable def kc_171 : List (List (Nat × Nat × Instr × Nat)) := [[(0, 2, .aload_n kF0, 0), (1, 5, .getfield 26, 0), (4, 2, .iload_n kF1, 0), (5, 6, .invokevirtual 302, 0), (8, 4, .ifCond .eq 23, 31), (11, 2, .iload_n kF2, 0), (12, 4, .ifCond .lt 19, 31), (15, 2, .iload_n kF2, 0)],
  [(16, 1, .bipush 8, 0), (18, 4, .if_icmp .gt 13, 31), (21, 2, .iload_n kF3, 0), (22, 4, .ifCond .lt 9, 31), (25, 2, .iload_n kF3, 0), (26, 1, .bipush 10, 0), (28, 4, .if_icmp .le 5, 33), (31, 0, .iconst (-1), 0)],
  [(32, 7, .ireturn, 0), (33, 2, .aload_n kF0, 0), (34, 5, .getfield 90, 0), (37, 6, .invokevirtual 377, 0), (40, 0, .iconst 0, 0), (41, 3, .istore 4, 0), (43, 2, .iload 4, 0), (45, 2, .aload_n kF0, 0), (46, 5, .getfield 42, 0)],
  [(49, 5, .getfield 130, 0), (52, 4, .if_icmp .ge 79, 131), (55, 2, .aload_n kF0, 0), (56, 5, .getfield 35, 0), (59, 2, .aload_n kF0, 0), (60, 5, .getfield 42, 0), (63, 2, .iload 4, 0)],
  [(65, 6, .invokevirtual 190, 0), (68, 2, .iload_n kF1, 0), (69, 6, .invokestatic 345, 0), (72, 4, .ifCond .eq 10, 82), (75, 1, .bipush 10, 0), (77, 2, .iload_n kF3, 0), (78, 0, .isub, 0), (79, 4, .goto 4, 83)],
  [(82, 0, .iconst 0, 0), (83, 3, .istore 5, 0), (85, 2, .aload_n kF0, 0), (86, 5, .getfield 35, 0), (89, 2, .aload_n kF0, 0), (90, 5, .getfield 42, 0), (93, 2, .iload 4, 0), (95, 0, .iconst 0, 0)],
  [(96, 6, .invokevirtual 360, 0), (99, 2, .iload_n kF1, 0), (100, 6, .invokestatic 345, 0), (103, 4, .ifCond .eq 7, 110), (106, 2, .iload_n kF3, 0), (107, 4, .goto 4, 111), (110, 0, .iconst 0, 0), (111, 3, .istore 6, 0)],
  [(113, 2, .aload_n kF0, 0), (114, 5, .getfield 90, 0), (117, 2, .iload 5, 0), (119, 2, .iload 6, 0), (121, 0, .iadd, 0), (122, 6, .invokevirtual 380, 0), (125, 3, .iinc 4 1, 0)],
  [(128, 4, .goto (-85), 43), (131, 2, .aload_n kF0, 0), (132, 5, .getfield 90, 0), (135, 2, .iload_n kF2, 0), (136, 2, .aload_n kF0, 0), (137, 5, .getfield 19, 0), (140, 6, .invokevirtual 245, 0), (143, 6, .invokevirtual 383, 0)],
  [(146, 0, .iconst 0, 0), (147, 7, .ireturn, 0)]]
noncomputable def ky_171 : MethodName := ({ cls := "BonnetValley", name := "storm", desc := "(III)I" } : Jvm.MethodName)
noncomputable def kRow_171 : pm_Row := ((ky_171, prog_1_method_51_code, 7, (Option.some Jvm.ClassFile.FieldType.int)), 12, (3, 7, 1), kc_171)
/-- BV.cock -/
noncomputable def kc_172 : List (List (Nat × Nat × Instr × Nat)) := [[(0, 2, .iload_n kF1, 0), (1, 4, .ifCond .lt 20, 21), (4, 2, .iload_n kF1, 0), (5, 1, .bipush 60, 0), (7, 4, .if_icmp .gt 14, 21), (10, 2, .iload_n kF2, 0), (11, 0, .iconst 2, 0), (12, 4, .if_icmp .lt 9, 21), (15, 2, .iload_n kF2, 0)],
  [(16, 1, .bipush 9, 0), (18, 4, .if_icmp .le 5, 23), (21, 0, .iconst (-1), 0), (22, 7, .ireturn, 0), (23, 2, .aload_n kF0, 0), (24, 5, .getfield 90, 0), (27, 2, .iload_n kF1, 0), (28, 2, .iload_n kF2, 0), (29, 6, .invokevirtual 387, 0)],
  [(32, 7, .ireturn, 0)]]
noncomputable def ky_172 : MethodName := ({ cls := "BonnetValley", name := "cock", desc := "(II)I" } : Jvm.MethodName)
noncomputable def kRow_172 : pm_Row := ((ky_172, prog_1_method_52_code, 3, (Option.some Jvm.ClassFile.FieldType.int)), 12, (2, 3, 1), kc_172)
/-- BV.law -/
noncomputable def kc_173 : List (List (Nat × Nat × Instr × Nat)) := [[(0, 2, .aload_n kF0, 0), (1, 5, .getfield 35, 0), (4, 6, .invokevirtual 157, 0), (7, 2, .aload_n kF0, 0), (8, 5, .getfield 10, 0), (11, 6, .invokevirtual 161, 0), (14, 3, .istore_n kF1, 0), (15, 2, .aload_n kF0, 0)],
  [(16, 5, .getfield 10, 0), (19, 6, .invokevirtual 119, 0), (22, 2, .iload_n kF1, 0), (23, 4, .ifCond .lt 9, 32), (26, 1, .sipush (-10000), 0), (29, 2, .iload_n kF1, 0), (30, 0, .isub, 0), (31, 7, .ireturn, 0)],
  [(32, 2, .aload_n kF0, 0), (33, 5, .getfield 35, 0), (36, 2, .aload_n kF0, 0), (37, 5, .getfield 35, 0), (40, 6, .invokevirtual 157, 0), (43, 2, .aload_n kF0, 0), (44, 5, .getfield 42, 0), (47, 6, .invokevirtual 390, 0)],
  [(50, 6, .invokestatic 305, 0), (53, 3, .istore_n kF2, 0), (54, 2, .aload_n kF0, 0), (55, 5, .getfield 35, 0), (58, 2, .aload_n kF0, 0), (59, 5, .getfield 42, 0), (62, 6, .invokevirtual 208, 0)],
  [(65, 6, .invokestatic 305, 0), (68, 3, .istore_n kF3, 0), (69, 2, .aload_n kF0, 0), (70, 5, .getfield 19, 0), (73, 6, .invokevirtual 245, 0), (76, 2, .iload_n kF2, 0), (77, 0, .i2l, 0), (78, 6, .invokevirtual 252, 0)],
  [(81, 2, .iload_n kF3, 0), (82, 0, .i2l, 0), (83, 6, .invokevirtual 252, 0), (86, 0, .pop, 0), (87, 2, .iload_n kF2, 0), (88, 2, .iload_n kF3, 0), (89, 0, .isub, 0), (90, 7, .ireturn, 0)]]
noncomputable def ky_173 : MethodName := ({ cls := "BonnetValley", name := "law", desc := "()I" } : Jvm.MethodName)
noncomputable def kRow_173 : pm_Row := ((ky_173, prog_1_method_53_code, 4, (Option.some Jvm.ClassFile.FieldType.int)), 12, (0, 4, 1), kc_173)
/-- BV.rests -/
noncomputable def kc_174 : List (List (Nat × Nat × Instr × Nat)) := [[(0, 2, .iload_n kF1, 0), (1, 4, .ifCond .lt 9, 10), (4, 2, .iload_n kF1, 0), (5, 1, .bipush 20, 0), (7, 4, .if_icmp .le 5, 12), (10, 0, .iconst (-1), 0), (11, 7, .ireturn, 0), (12, 2, .aload_n kF0, 0), (13, 5, .getfield 90, 0)],
  [(16, 2, .iload_n kF1, 0), (17, 2, .aload_n kF0, 0), (18, 5, .getfield 19, 0), (21, 6, .invokevirtual 245, 0), (24, 6, .invokevirtual 394, 0), (27, 7, .ireturn, 0)]]
noncomputable def ky_174 : MethodName := ({ cls := "BonnetValley", name := "rests", desc := "(I)I" } : Jvm.MethodName)
noncomputable def kRow_174 : pm_Row := ((ky_174, prog_1_method_54_code, 2, (Option.some Jvm.ClassFile.FieldType.int)), 12, (1, 2, 1), kc_174)
/-- BV.years -/
noncomputable def kc_175 : List (List (Nat × Nat × Instr × Nat)) := [[(0, 2, .iload_n kF2, 0), (1, 0, .iconst 1, 0), (2, 4, .if_icmp .lt 9, 11), (5, 2, .iload_n kF2, 0), (6, 1, .bipush 60, 0), (8, 4, .if_icmp .le 5, 13), (11, 0, .iconst (-1), 0), (12, 7, .ireturn, 0), (13, 2, .aload_n kF0, 0), (14, 5, .getfield 49, 0)],
  [(17, 2, .aload_n kF0, 0), (18, 5, .getfield 42, 0), (21, 6, .invokevirtual 235, 0), (24, 2, .aload_n kF0, 0), (25, 5, .getfield 90, 0), (28, 2, .iload_n kF1, 0), (29, 6, .invokevirtual 398, 0)],
  [(32, 0, .iconst 0, 0), (33, 3, .istore_n kF3, 0), (34, 2, .iload_n kF3, 0), (35, 2, .iload_n kF2, 0), (36, 4, .if_icmp .ge 17, 53), (39, 2, .aload_n kF0, 0), (40, 2, .aload_n kF0, 0), (41, 5, .getfield 49, 0), (44, 6, .invokevirtual 401, 0), (47, 3, .iinc 3 1, 0)],
  [(50, 4, .goto (-16), 34), (53, 2, .aload_n kF0, 0), (54, 5, .getfield 19, 0), (57, 6, .invokevirtual 245, 0), (60, 2, .aload_n kF0, 0), (61, 5, .getfield 35, 0)],
  [(64, 2, .aload_n kF0, 0), (65, 5, .getfield 49, 0), (68, 6, .invokevirtual 208, 0), (71, 6, .invokestatic 305, 0), (74, 0, .i2l, 0), (75, 6, .invokevirtual 252, 0), (78, 2, .aload_n kF0, 0), (79, 5, .getfield 49, 0)],
  [(82, 6, .invokevirtual 224, 0), (85, 0, .i2l, 0), (86, 6, .invokevirtual 252, 0), (89, 0, .pop, 0), (90, 2, .aload_n kF0, 0), (91, 5, .getfield 49, 0), (94, 6, .invokevirtual 249, 0)],
  [(97, 7, .ireturn, 0)]]
noncomputable def ky_175 : MethodName := ({ cls := "BonnetValley", name := "years", desc := "(II)I" } : Jvm.MethodName)
noncomputable def kRow_175 : pm_Row := ((ky_175, prog_1_method_55_code, 4, (Option.some Jvm.ClassFile.FieldType.int)), 12, (2, 4, 1), kc_175)
/-- BV.liveYear -/
noncomputable def kc_176 : List (List (Nat × Nat × Instr × Nat)) := [[(0, 2, .aload_n kF0, 0), (1, 5, .getfield 90, 0), (4, 0, .iconst 4, 0), (5, 6, .invokevirtual 404, 0), (8, 3, .istore_n kF2, 0), (9, 2, .iload_n kF2, 0), (10, 0, .iconst 2, 0), (11, 4, .if_icmp .ge 14, 25), (14, 2, .aload_n kF0, 0), (15, 5, .getfield 35, 0)],
  [(18, 2, .aload_n kF1, 0), (19, 0, .iconst 1, 0), (20, 6, .invokevirtual 239, 0), (23, 0, .pop, 0), (24, 7, .return_, 0), (25, 2, .aload_n kF1, 0), (26, 5, .getfield 130, 0), (29, 4, .ifCond .ne 4, 33)],
  [(32, 7, .return_, 0), (33, 2, .aload_n kF0, 0), (34, 5, .getfield 90, 0), (37, 2, .aload_n kF1, 0), (38, 5, .getfield 130, 0), (41, 6, .invokevirtual 404, 0), (44, 3, .istore_n kF3, 0), (45, 2, .aload_n kF0, 0), (46, 5, .getfield 90, 0)],
  [(49, 1, .bipush 8, 0), (51, 6, .invokevirtual 404, 0), (54, 3, .istore 4, 0), (56, 2, .aload_n kF1, 0), (57, 2, .iload_n kF3, 0), (58, 6, .invokevirtual 167, 0), (61, 4, .ifCond .ne 4, 65)],
  [(64, 7, .return_, 0), (65, 2, .iload_n kF2, 0), (66, 0, .iconst 2, 0), (67, 4, .if_icmp .ne 12, 79), (70, 2, .aload_n kF1, 0), (71, 5, .getfield 177, 0), (74, 2, .iload_n kF3, 0), (75, 2, .iload 4, 0), (77, 5, .iastore, 0), (78, 7, .return_, 0), (79, 2, .aload_n kF0, 0)],
  [(80, 5, .getfield 26, 0), (83, 2, .aload_n kF1, 0), (84, 5, .getfield 173, 0), (87, 2, .iload_n kF3, 0), (88, 5, .iaload, 0), (89, 2, .iload 4, 0), (91, 6, .invokevirtual 299, 0), (94, 3, .istore 5, 0)],
  [(96, 2, .iload 5, 0), (98, 4, .ifCond .lt 11, 109), (101, 2, .aload_n kF1, 0), (102, 5, .getfield 173, 0), (105, 2, .iload_n kF3, 0), (106, 2, .iload 5, 0), (108, 5, .iastore, 0), (109, 7, .return_, 0)]]
noncomputable def ky_176 : MethodName := ({ cls := "BonnetValley", name := "liveYear", desc := "(LBonnetValley$State;)V" } : Jvm.MethodName)
noncomputable def kRow_176 : pm_Row := ((ky_176, prog_1_method_56_code, 6, (Option.none : Option Jvm.ClassFile.FieldType)), 12, (1, 6, 0), kc_176)
/-- BV.keep -/
noncomputable def kc_177 : List (List (Nat × Nat × Instr × Nat)) := [[(0, 2, .aload_n kF0, 0), (1, 5, .getfield 55, 0), (4, 2, .iload_n kF1, 0), (5, 2, .aload_n kF0, 0), (6, 5, .getfield 42, 0), (9, 6, .invokevirtual 407, 0), (12, 7, .ireturn, 0)]]
noncomputable def ky_177 : MethodName := ({ cls := "BonnetValley", name := "keep", desc := "(I)Z" } : Jvm.MethodName)
noncomputable def kRow_177 : pm_Row := ((ky_177, prog_1_method_57_code, 2, (Option.some Jvm.ClassFile.FieldType.boolean)), 12, (1, 2, 2), kc_177)
/-- BV.again -/
noncomputable def kc_178 : List (List (Nat × Nat × Instr × Nat)) := [[(0, 2, .aload_n kF0, 0), (1, 5, .getfield 55, 0), (4, 2, .iload_n kF1, 0), (5, 2, .aload_n kF0, 0), (6, 5, .getfield 42, 0), (9, 6, .invokevirtual 411, 0), (12, 7, .ireturn, 0)]]
noncomputable def ky_178 : MethodName := ({ cls := "BonnetValley", name := "again", desc := "(I)Z" } : Jvm.MethodName)
noncomputable def kRow_178 : pm_Row := ((ky_178, prog_1_method_58_code, 2, (Option.some Jvm.ClassFile.FieldType.boolean)), 12, (1, 2, 2), kc_178)
/-- BV.count -/
noncomputable def kc_179 : List (List (Nat × Nat × Instr × Nat)) := [[(0, 2, .iload_n kF1, 0), (1, 4, .tableswitch 193 0 12 #[67, 75, 83, 91, 99, 107, 122, 130, 149, 164, 169, 177, 185], 67)],
  [],
  [],
  [],
  [(68, 2, .aload_n kF0, 0), (69, 5, .getfield 26, 0), (72, 6, .invokevirtual 414, 0), (75, 7, .ireturn, 0), (76, 2, .aload_n kF0, 0), (77, 5, .getfield 26, 0)],
  [(80, 6, .invokevirtual 417, 0), (83, 7, .ireturn, 0), (84, 2, .aload_n kF0, 0), (85, 5, .getfield 42, 0), (88, 5, .getfield 130, 0), (91, 7, .ireturn, 0), (92, 2, .aload_n kF0, 0), (93, 5, .getfield 42, 0)],
  [(96, 5, .getfield 147, 0), (99, 7, .ireturn, 0), (100, 2, .aload_n kF0, 0), (101, 5, .getfield 42, 0), (104, 5, .getfield 281, 0), (107, 7, .ireturn, 0), (108, 2, .aload_n kF0, 0), (109, 5, .getfield 35, 0)],
  [(112, 2, .aload_n kF0, 0), (113, 5, .getfield 42, 0), (116, 5, .getfield 281, 0), (119, 6, .invokevirtual 420, 0), (122, 7, .ireturn, 0), (123, 2, .aload_n kF0, 0), (124, 5, .getfield 42, 0), (127, 6, .invokevirtual 249, 0)],
  [(130, 7, .ireturn, 0), (131, 2, .aload_n kF0, 0), (132, 5, .getfield 26, 0), (135, 6, .invokevirtual 127, 0), (138, 2, .aload_n kF0, 0), (139, 5, .getfield 26, 0), (142, 6, .invokevirtual 317, 0)],
  [(145, 6, .invokestatic 305, 0), (148, 0, .isub, 0), (149, 7, .ireturn, 0), (150, 2, .aload_n kF0, 0), (151, 5, .getfield 35, 0), (154, 2, .aload_n kF0, 0), (155, 5, .getfield 42, 0), (158, 6, .invokevirtual 208, 0)],
  [(161, 6, .invokestatic 305, 0), (164, 7, .ireturn, 0), (165, 2, .aload_n kF0, 0), (166, 5, .getfield 100, 0), (169, 7, .ireturn, 0), (170, 2, .aload_n kF0, 0), (171, 5, .getfield 55, 0), (174, 6, .invokevirtual 288, 0)],
  [(177, 7, .ireturn, 0), (178, 2, .aload_n kF0, 0), (179, 5, .getfield 19, 0), (182, 6, .invokevirtual 423, 0), (185, 7, .ireturn, 0), (186, 2, .aload_n kF0, 0), (187, 5, .getfield 10, 0), (190, 6, .invokevirtual 108, 0)],
  [(193, 7, .ireturn, 0), (194, 1, .bipush (-100), 0), (196, 7, .ireturn, 0)]]
noncomputable def ky_179 : MethodName := ({ cls := "BonnetValley", name := "count", desc := "(I)I" } : Jvm.MethodName)
noncomputable def kRow_179 : pm_Row := ((ky_179, prog_1_method_59_code, 2, (Option.some Jvm.ClassFile.FieldType.int)), 12, (1, 2, 1), kc_179)
/-- BV.row -/
noncomputable def kc_180 : List (List (Nat × Nat × Instr × Nat)) := [[(0, 2, .iload_n kF1, 0), (1, 4, .ifCond .lt 14, 15), (4, 2, .iload_n kF1, 0), (5, 2, .aload_n kF0, 0), (6, 5, .getfield 19, 0), (9, 6, .invokevirtual 423, 0), (12, 4, .if_icmp .lt 11, 23)],
  [(18, 0, .dup, 0), (23, 2, .aload_n kF0, 0), (24, 5, .getfield 19, 0), (27, 2, .iload_n kF1, 0), (28, 6, .invokevirtual 424, 0), (31, 7, .lreturn, 0)]]
noncomputable def ky_180 : MethodName := ({ cls := "BonnetValley", name := "row", desc := "(I)J" } : Jvm.MethodName)
noncomputable def kRow_180 : pm_Row := ((ky_180, prog_1_method_60_code, 2, (Option.some Jvm.ClassFile.FieldType.long)), 12, (1, 2, 3), kc_180)
/-- BVModel.refuse -/
noncomputable def kc_181 : List (List (Nat × Nat × Instr × Nat)) := [[(0, 2, .aload_n kF0, 0), (1, 0, .iconst 1, 0), (2, 5, .putfield 3, 0), (5, 0, .iconst 0, 0), (6, 7, .ireturn, 0)]]
noncomputable def ky_181 : MethodName := ({ cls := "BonnetValleyModel", name := "refuse", desc := "()I" } : Jvm.MethodName)
noncomputable def kRow_181 : pm_Row := ((ky_181, prog_15_method_2_code, 1, (Option.some Jvm.ClassFile.FieldType.int)), 13, (0, 1, 1), kc_181)
/-- BVModel.in -/
noncomputable def kc_182 : List (List (Nat × Nat × Instr × Nat)) := [[(0, 2, .lload_n kF0, 0), (1, 2, .lload_n kF2, 0), (2, 0, .lcmp, 0), (3, 4, .ifCond .lt 14, 17), (6, 2, .lload_n kF0, 0), (7, 2, .lload 4, 0), (9, 0, .lcmp, 0), (10, 4, .ifCond .gt 7, 17), (13, 0, .iconst 1, 0), (14, 4, .goto 4, 18)],
  [(17, 0, .iconst 0, 0), (18, 7, .ireturn, 0)]]
noncomputable def ky_182 : MethodName := ({ cls := "BonnetValleyModel", name := "in", desc := "(JJJ)Z" } : Jvm.MethodName)
noncomputable def kRow_182 : pm_Row := ((ky_182, prog_15_method_3_code, 6, (Option.some Jvm.ClassFile.FieldType.boolean)), 13, (3, 6, 2), kc_182)
/-- BVModel.has -/
noncomputable def kc_183 : List (List (Nat × Nat × Instr × Nat)) := [[(0, 2, .lload_n kF0, 0), (1, 2, .iload_n kF2, 0), (2, 0, .lshr, 0), (3, 0, .lconst kG1, 0), (4, 0, .land, 0), (5, 0, .lconst kG1, 0), (6, 0, .lcmp, 0), (7, 4, .ifCond .ne 7, 14), (10, 0, .iconst 1, 0), (11, 4, .goto 4, 15), (14, 0, .iconst 0, 0), (15, 7, .ireturn, 0)]]
noncomputable def ky_183 : MethodName := ({ cls := "BonnetValleyModel", name := "has", desc := "(JI)Z" } : Jvm.MethodName)
noncomputable def kRow_183 : pm_Row := ((ky_183, prog_15_method_4_code, 3, (Option.some Jvm.ClassFile.FieldType.boolean)), 13, (2, 3, 2), kc_183)
/-- BVModel.flag -/
noncomputable def kc_184 : List (List (Nat × Nat × Instr × Nat)) := [[(0, 2, .iload_n kF0, 0), (1, 4, .ifCond .eq 7, 8), (4, 0, .iconst 1, 0), (5, 4, .goto 4, 9), (8, 0, .iconst 0, 0), (9, 7, .ireturn, 0)]]
noncomputable def ky_184 : MethodName := ({ cls := "BonnetValleyModel", name := "flag", desc := "(Z)I" } : Jvm.MethodName)
noncomputable def kRow_184 : pm_Row := ((ky_184, prog_15_method_5_code, 1, (Option.some Jvm.ClassFile.FieldType.int)), 13, (1, 1, 1), kc_184)
/-- BVModel.common -/
noncomputable def kc_185 : List (List (Nat × Nat × Instr × Nat)) := [[(0, 2, .lload_n kF2, 0), (1, 0, .lconst kG0, 0), (2, 0, .lcmp, 0), (3, 4, .ifCond .ne 7, 10), (6, 2, .lload_n kF0, 0), (7, 4, .goto 10, 17), (10, 2, .lload_n kF2, 0), (11, 2, .lload_n kF0, 0), (12, 2, .lload_n kF2, 0), (13, 0, .lrem, 0), (14, 6, .invokestatic 7, 0)],
  [(17, 7, .lreturn, 0)]]
noncomputable def ky_185 : MethodName := ({ cls := "BonnetValleyModel", name := "common", desc := "(JJ)J" } : Jvm.MethodName)
noncomputable def kRow_185 : pm_Row := ((ky_185, prog_15_method_6_code, 4, (Option.some Jvm.ClassFile.FieldType.long)), 13, (2, 4, 3), kc_185)
/-- BVModel.enters -/
noncomputable def kc_186 : List (List (Nat × Nat × Instr × Nat)) := [[(0, 2, .aload_n kF0, 0), (1, 5, .getfield 11, 0), (4, 2, .aload_n kF0, 0), (5, 5, .getfield 15, 0), (8, 2, .lload_n kF1, 0), (9, 5, .lastore, 0), (10, 2, .aload_n kF0, 0), (11, 0, .dup, 0), (12, 5, .getfield 15, 0), (15, 0, .iconst 1, 0)],
  [(16, 0, .iadd, 0), (17, 5, .putfield 15, 0), (20, 7, .return_, 0)]]
noncomputable def ky_186 : MethodName := ({ cls := "BonnetValleyModel", name := "enters", desc := "(J)V" } : Jvm.MethodName)
noncomputable def kRow_186 : pm_Row := ((ky_186, prog_15_method_7_code, 3, (Option.none : Option Jvm.ClassFile.FieldType)), 13, (1, 3, 0), kc_186)
/-- BVModel.new -/
noncomputable def kc_187 : List (List (Nat × Nat × Instr × Nat)) := [[(0, 2, .aload_n kF0, 0), (1, 5, .invokespecial 18, 0), (4, 2, .aload_n kF0, 0), (5, 1, .bipush 53, 0), (7, 5, .newarray .long, 0), (9, 5, .putfield 11, 0), (12, 2, .aload_n kF0, 0), (13, 0, .iconst 3, 0), (14, 5, .putfield 24, 0)],
  [(17, 2, .aload_n kF0, 0), (18, 0, .iconst 3, 0), (19, 5, .putfield 27, 0), (22, 2, .aload_n kF0, 0), (23, 0, .iconst 1, 0), (24, 5, .putfield 30, 0), (27, 2, .aload_n kF0, 0), (28, 1, .bipush 49, 0), (30, 5, .newarray .boolean, 0)],
  [(32, 5, .putfield 33, 0), (35, 2, .aload_n kF0, 0), (36, 1, .bipush 20, 0), (38, 5, .newarray .int, 0), (40, 5, .putfield 37, 0), (43, 2, .aload_n kF0, 0), (44, 1, .bipush 41, 0), (46, 5, .newarray .int, 0)],
  [(48, 5, .putfield 41, 0), (51, 2, .aload_n kF0, 0), (52, 1, .bipush 41, 0), (54, 5, .newarray .int, 0), (56, 5, .putfield 44, 0), (59, 2, .aload_n kF0, 0), (60, 1, .bipush 80, 0), (62, 5, .newarray .int, 0)],
  [(64, 5, .putfield 47, 0), (67, 2, .aload_n kF0, 0), (68, 1, .bipush 49, 0), (70, 5, .newarray .boolean, 0), (72, 5, .putfield 50, 0), (75, 2, .aload_n kF0, 0), (76, 1, .bipush 24, 0), (78, 5, .newarray .int, 0)],
  [(80, 5, .putfield 53, 0), (83, 2, .aload_n kF0, 0), (84, 1, .bipush 80, 0), (86, 5, .newarray .int, 0), (88, 5, .putfield 56, 0), (91, 2, .aload_n kF0, 0), (92, 1, .bipush 80, 0), (94, 5, .newarray .int, 0)],
  [(96, 5, .putfield 59, 0), (99, 2, .aload_n kF0, 0), (100, 1, .bipush 80, 0), (102, 5, .newarray .int, 0), (104, 5, .putfield 62, 0), (107, 2, .aload_n kF0, 0), (108, 1, .bipush 8, 0), (110, 5, .newarray .int, 0)],
  [(112, 5, .putfield 65, 0), (115, 2, .aload_n kF0, 0), (116, 1, .sipush 656, 0), (119, 5, .newarray .int, 0), (121, 5, .putfield 68, 0), (124, 2, .aload_n kF0, 0), (125, 1, .bipush 8, 0), (127, 5, .newarray .int, 0)],
  [(129, 5, .putfield 71, 0), (132, 2, .aload_n kF0, 0), (133, 1, .bipush 60, 0), (135, 5, .newarray .int, 0), (137, 5, .putfield 74, 0), (140, 2, .aload_n kF0, 0), (141, 1, .bipush 60, 0), (143, 5, .newarray .int, 0)],
  [(145, 5, .putfield 77, 0), (148, 2, .aload_n kF0, 0), (149, 1, .bipush 60, 0), (151, 5, .newarray .int, 0), (153, 5, .putfield 80, 0), (156, 2, .aload_n kF0, 0), (157, 1, .bipush 60, 0), (159, 5, .newarray .int, 0)],
  [(161, 5, .putfield 83, 0), (164, 2, .aload_n kF0, 0), (165, 1, .bipush 8, 0), (167, 5, .newarray .long, 0), (169, 5, .putfield 86, 0), (172, 2, .aload_n kF0, 0), (173, 1, .bipush 64, 0), (175, 5, .newarray .int, 0)],
  [(177, 5, .putfield 89, 0), (180, 2, .aload_n kF0, 0), (181, 1, .sipush 2304, 0), (184, 5, .newarray .int, 0), (186, 5, .putfield 92, 0), (189, 2, .aload_n kF0, 0), (190, 1, .bipush 49, 0)],
  [(192, 5, .newarray .int, 0), (194, 5, .putfield 95, 0), (197, 2, .aload_n kF0, 0), (198, 1, .bipush 10, 0), (200, 5, .newarray .int, 0), (202, 5, .putfield 98, 0), (205, 2, .aload_n kF0, 0), (206, 1, .bipush 10, 0)],
  [(208, 5, .newarray .int, 0), (210, 5, .putfield 101, 0), (213, 2, .aload_n kF0, 0), (214, 1, .bipush 10, 0), (216, 5, .newarray .long, 0), (218, 5, .putfield 104, 0), (221, 2, .aload_n kF0, 0), (222, 1, .sipush 610, 0)],
  [(225, 5, .newarray .int, 0), (227, 5, .putfield 107, 0), (230, 2, .aload_n kF0, 0), (231, 1, .bipush 80, 0), (233, 5, .newarray .int, 0), (235, 5, .putfield 110, 0), (238, 2, .aload_n kF0, 0), (239, 0, .iconst 3, 0)],
  [(240, 5, .newarray .boolean, 0), (242, 5, .putfield 113, 0), (245, 2, .aload_n kF0, 0), (246, 0, .iconst 3, 0), (247, 5, .newarray .int, 0), (249, 5, .putfield 116, 0), (252, 2, .aload_n kF0, 0), (253, 1, .bipush 123, 0), (255, 5, .newarray .int, 0)],
  [(257, 5, .putfield 119, 0), (260, 2, .aload_n kF0, 0), (261, 5, .getfield 37, 0), (264, 0, .iconst 0, 0), (265, 1, .bipush 9, 0), (267, 5, .iastore, 0), (268, 7, .return_, 0)]]
noncomputable def ky_187 : MethodName := ({ cls := "BonnetValleyModel", name := "<init>", desc := "()V" } : Jvm.MethodName)
noncomputable def kRow_187 : pm_Row := ((ky_187, prog_15_method_8_code, 1, (Option.none : Option Jvm.ClassFile.FieldType)), 13, (0, 1, 0), kc_187)
/-- BVModel.fields -/
noncomputable def kc_188 : List (List (Nat × Nat × Instr × Nat)) := [[(0, 2, .aload_n kF0, 0), (1, 5, .getfield 24, 0), (4, 2, .aload_n kF0, 0), (5, 5, .getfield 27, 0), (8, 0, .imul, 0), (9, 7, .ireturn, 0)]]
noncomputable def ky_188 : MethodName := ({ cls := "BonnetValleyModel", name := "fields", desc := "()I" } : Jvm.MethodName)
noncomputable def kRow_188 : pm_Row := ((ky_188, prog_15_method_9_code, 1, (Option.some Jvm.ClassFile.FieldType.int)), 13, (0, 1, 1), kc_188)
/-- BVModel.isField -/
noncomputable def kc_189 : List (List (Nat × Nat × Instr × Nat)) := [[(0, 2, .iload_n kF1, 0), (1, 0, .i2l, 0), (2, 0, .lconst kG0, 0), (3, 2, .aload_n kF0, 0), (4, 6, .invokevirtual 122, 0), (7, 0, .iconst 1, 0), (8, 0, .isub, 0), (9, 0, .i2l, 0), (10, 6, .invokestatic 126, 0), (13, 7, .ireturn, 0)]]
noncomputable def ky_189 : MethodName := ({ cls := "BonnetValleyModel", name := "isField", desc := "(I)Z" } : Jvm.MethodName)
noncomputable def kRow_189 : pm_Row := ((ky_189, prog_15_method_10_code, 2, (Option.some Jvm.ClassFile.FieldType.boolean)), 13, (1, 2, 2), kc_189)
/-- BVModel.isPerson -/
noncomputable def kc_190 : List (List (Nat × Nat × Instr × Nat)) := [[(0, 2, .iload_n kF1, 0), (1, 0, .i2l, 0), (2, 0, .lconst kG0, 0), (3, 2, .aload_n kF0, 0), (4, 5, .getfield 130, 0), (7, 0, .iconst 1, 0), (8, 0, .isub, 0), (9, 0, .i2l, 0), (10, 6, .invokestatic 126, 0), (13, 7, .ireturn, 0)]]
noncomputable def ky_190 : MethodName := ({ cls := "BonnetValleyModel", name := "isPerson", desc := "(I)Z" } : Jvm.MethodName)
noncomputable def kRow_190 : pm_Row := ((ky_190, prog_15_method_11_code, 2, (Option.some Jvm.ClassFile.FieldType.boolean)), 13, (1, 2, 2), kc_190)
/-- BVModel.isThing -/
noncomputable def kc_191 : List (List (Nat × Nat × Instr × Nat)) := [[(0, 2, .iload_n kF1, 0), (1, 0, .i2l, 0), (2, 0, .lconst kG0, 0), (3, 2, .aload_n kF0, 0), (4, 5, .getfield 133, 0), (7, 0, .iconst 1, 0), (8, 0, .isub, 0), (9, 0, .i2l, 0), (10, 6, .invokestatic 126, 0), (13, 7, .ireturn, 0)]]
noncomputable def ky_191 : MethodName := ({ cls := "BonnetValleyModel", name := "isThing", desc := "(I)Z" } : Jvm.MethodName)
noncomputable def kRow_191 : pm_Row := ((ky_191, prog_15_method_12_code, 2, (Option.some Jvm.ClassFile.FieldType.boolean)), 13, (1, 2, 2), kc_191)
/-- BVModel.beside -/
noncomputable def kc_192 : List (List (Nat × Nat × Instr × Nat)) := [[(0, 2, .iload_n kF1, 0), (1, 2, .aload_n kF0, 0), (2, 5, .getfield 27, 0), (5, 0, .idiv, 0), (6, 2, .iload_n kF2, 0), (7, 1, .bipush 7, 0), (9, 4, .if_icmp .eq 8, 17), (12, 2, .iload_n kF2, 0), (13, 0, .iconst 2, 0), (14, 4, .if_icmp .ge 7, 21)],
  [(17, 0, .iconst (-1), 0), (18, 4, .goto 19, 37), (21, 2, .iload_n kF2, 0), (22, 0, .iconst 2, 0), (23, 4, .if_icmp .le 13, 36), (26, 2, .iload_n kF2, 0), (27, 1, .bipush 6, 0), (29, 4, .if_icmp .ge 7, 36)],
  [(32, 0, .iconst 1, 0), (33, 4, .goto 4, 37), (36, 0, .iconst 0, 0), (37, 0, .iadd, 0), (38, 3, .istore_n kF3, 0), (39, 2, .iload_n kF1, 0), (40, 2, .aload_n kF0, 0), (41, 5, .getfield 27, 0), (44, 0, .irem, 0), (45, 2, .iload_n kF2, 0), (46, 4, .ifCond .le 12, 58)],
  [(49, 2, .iload_n kF2, 0), (50, 0, .iconst 4, 0), (51, 4, .if_icmp .ge 7, 58), (54, 0, .iconst 1, 0), (55, 4, .goto 13, 68), (58, 2, .iload_n kF2, 0), (59, 0, .iconst 4, 0), (60, 4, .if_icmp .le 7, 67), (63, 0, .iconst (-1), 0)],
  [(64, 4, .goto 4, 68), (67, 0, .iconst 0, 0), (68, 0, .iadd, 0), (69, 3, .istore 4, 0), (71, 2, .iload_n kF3, 0), (72, 0, .i2l, 0), (73, 0, .lconst kG0, 0), (74, 2, .aload_n kF0, 0), (75, 5, .getfield 24, 0), (78, 0, .iconst 1, 0), (79, 0, .isub, 0)],
  [(80, 0, .i2l, 0), (81, 6, .invokestatic 126, 0), (84, 4, .ifCond .eq 32, 116), (87, 2, .iload 4, 0), (89, 0, .i2l, 0), (90, 0, .lconst kG0, 0), (91, 2, .aload_n kF0, 0), (92, 5, .getfield 27, 0), (95, 0, .iconst 1, 0)],
  [(96, 0, .isub, 0), (97, 0, .i2l, 0), (98, 6, .invokestatic 126, 0), (101, 4, .ifCond .eq 15, 116), (104, 2, .aload_n kF0, 0), (105, 5, .getfield 27, 0), (108, 2, .iload_n kF3, 0), (109, 0, .imul, 0), (110, 2, .iload 4, 0)],
  [(112, 0, .iadd, 0), (113, 4, .goto 4, 117), (116, 0, .iconst (-1), 0), (117, 7, .ireturn, 0)]]
noncomputable def ky_192 : MethodName := ({ cls := "BonnetValleyModel", name := "beside", desc := "(II)I" } : Jvm.MethodName)
noncomputable def kRow_192 : pm_Row := ((ky_192, prog_15_method_13_code, 5, (Option.some Jvm.ClassFile.FieldType.int)), 13, (2, 5, 1), kc_192)
/-- BVModel.sign -/
noncomputable def kc_193 : List (List (Nat × Nat × Instr × Nat)) := [[(0, 2, .aload_n kF0, 0), (1, 0, .iconst 0, 0), (2, 5, .putfield 3, 0), (5, 2, .aload_n kF0, 0), (6, 5, .getfield 136, 0), (9, 1, .bipush 76, 0), (11, 4, .if_icmp .le 5, 16), (14, 0, .iconst (-1), 0), (15, 7, .ireturn, 0)],
  [(16, 0, .iconst 0, 0), (17, 3, .istore_n kF2, 0), (18, 2, .iload_n kF2, 0), (19, 0, .iconst 4, 0), (20, 4, .if_icmp .ge 33, 53), (23, 2, .aload_n kF0, 0), (24, 5, .getfield 47, 0), (27, 2, .aload_n kF0, 0), (28, 5, .getfield 136, 0), (31, 2, .iload_n kF2, 0)],
  [(32, 0, .iadd, 0), (33, 2, .iload_n kF1, 0), (34, 1, .bipush 24, 0), (36, 1, .bipush 8, 0), (38, 2, .iload_n kF2, 0), (39, 0, .imul, 0), (40, 0, .isub, 0), (41, 0, .ishr, 0), (42, 1, .sipush 255, 0), (45, 0, .iand, 0), (46, 5, .iastore, 0), (47, 3, .iinc 2 1, 0)],
  [(50, 4, .goto (-32), 18), (53, 2, .aload_n kF0, 0), (54, 0, .dup, 0), (55, 5, .getfield 136, 0), (58, 0, .iconst 4, 0), (59, 0, .iadd, 0), (60, 5, .putfield 136, 0), (63, 2, .aload_n kF0, 0)],
  [(64, 5, .getfield 136, 0), (67, 7, .ireturn, 0)]]
noncomputable def ky_193 : MethodName := ({ cls := "BonnetValleyModel", name := "sign", desc := "(I)I" } : Jvm.MethodName)
noncomputable def kRow_193 : pm_Row := ((ky_193, prog_15_method_14_code, 3, (Option.some Jvm.ClassFile.FieldType.int)), 13, (1, 3, 1), kc_193)
/-- BVModel.end -/
noncomputable def kc_194 : List (List (Nat × Nat × Instr × Nat)) := [[(0, 2, .aload_n kF0, 0), (1, 0, .iconst 0, 0), (2, 5, .putfield 3, 0), (5, 2, .iload_n kF1, 0), (6, 0, .i2l, 0), (7, 0, .lconst kG0, 0), (8, 2, .aload_n kF0, 0), (9, 5, .getfield 136, 0), (12, 0, .i2l, 0), (13, 6, .invokestatic 126, 0)],
  [(16, 4, .ifCond .ne 5, 21), (19, 0, .iconst 0, 0), (20, 7, .ireturn, 0), (21, 2, .aload_n kF0, 0), (22, 2, .iload_n kF1, 0), (23, 5, .putfield 136, 0), (26, 0, .iconst 1, 0), (27, 7, .ireturn, 0)]]
noncomputable def ky_194 : MethodName := ({ cls := "BonnetValleyModel", name := "end", desc := "(I)Z" } : Jvm.MethodName)
noncomputable def kRow_194 : pm_Row := ((ky_194, prog_15_method_15_code, 2, (Option.some Jvm.ClassFile.FieldType.boolean)), 13, (1, 2, 2), kc_194)
/-- BVModel.begins -/
noncomputable def kc_195 : List (List (Nat × Nat × Instr × Nat)) := [[(0, 2, .aload_n kF0, 0), (1, 5, .getfield 136, 0), (4, 3, .istore_n kF2, 0), (5, 2, .aload_n kF0, 0), (6, 0, .iconst 0, 0), (7, 5, .putfield 136, 0), (10, 2, .aload_n kF0, 0), (11, 0, .iconst 0, 0), (12, 5, .putfield 139, 0), (15, 2, .aload_n kF0, 0)],
  [(16, 0, .iconst 0, 0), (17, 5, .putfield 142, 0), (20, 2, .aload_n kF0, 0), (21, 2, .iload_n kF2, 0), (22, 2, .iload_n kF1, 0), (23, 5, .invokestatic 145, 0), (26, 5, .putfield 151, 0), (29, 2, .iload_n kF2, 0), (30, 7, .ireturn, 0)]]
noncomputable def ky_195 : MethodName := ({ cls := "BonnetValleyModel", name := "begins", desc := "(I)I" } : Jvm.MethodName)
noncomputable def kRow_195 : pm_Row := ((ky_195, prog_15_method_16_code, 3, (Option.some Jvm.ClassFile.FieldType.int)), 13, (1, 3, 1), kc_195)
/-- BVModel.takes -/
noncomputable def kc_196 : List (List (Nat × Nat × Instr × Nat)) := [[(0, 2, .aload_n kF0, 0), (1, 5, .getfield 139, 0), (4, 2, .aload_n kF0, 0), (5, 5, .getfield 151, 0), (8, 4, .if_icmp .ge 20, 28), (11, 2, .aload_n kF0, 0), (12, 5, .getfield 47, 0), (15, 2, .aload_n kF0, 0)],
  [(16, 5, .getfield 139, 0), (19, 5, .iaload, 0), (20, 2, .iload_n kF1, 0), (21, 4, .if_icmp .ne 7, 28), (24, 0, .iconst 1, 0), (25, 4, .goto 4, 29), (28, 0, .iconst 0, 0), (29, 3, .istore_n kF2, 0), (30, 2, .aload_n kF0, 0), (31, 0, .dup, 0)],
  [(32, 5, .getfield 139, 0), (35, 2, .iload_n kF2, 0), (36, 6, .invokestatic 154, 0), (39, 0, .iadd, 0), (40, 5, .putfield 139, 0), (43, 2, .iload_n kF2, 0), (44, 7, .ireturn, 0)]]
noncomputable def ky_196 : MethodName := ({ cls := "BonnetValleyModel", name := "takes", desc := "(I)Z" } : Jvm.MethodName)
noncomputable def kRow_196 : pm_Row := ((ky_196, prog_15_method_17_code, 3, (Option.some Jvm.ClassFile.FieldType.boolean)), 13, (1, 3, 2), kc_196)
/-- BVModel.isDigit -/
noncomputable def kc_197 : List (List (Nat × Nat × Instr × Nat)) := [[(0, 2, .aload_n kF0, 0), (1, 5, .getfield 139, 0), (4, 2, .aload_n kF0, 0), (5, 5, .getfield 151, 0), (8, 4, .if_icmp .ge 29, 37), (11, 2, .aload_n kF0, 0), (12, 5, .getfield 47, 0), (15, 2, .aload_n kF0, 0)],
  [(16, 5, .getfield 139, 0), (19, 5, .iaload, 0), (20, 0, .i2l, 0), (21, 1, .ldc2_w 158, 0), (24, 1, .ldc2_w 160, 0), (27, 6, .invokestatic 126, 0), (30, 4, .ifCond .eq 7, 37)],
  [(33, 0, .iconst 1, 0), (34, 4, .goto 4, 38), (37, 0, .iconst 0, 0), (38, 7, .ireturn, 0)]]
noncomputable def ky_197 : MethodName := ({ cls := "BonnetValleyModel", name := "isDigit", desc := "()Z" } : Jvm.MethodName)
noncomputable def kRow_197 : pm_Row := ((ky_197, prog_15_method_18_code, 1, (Option.some Jvm.ClassFile.FieldType.boolean)), 13, (0, 1, 2), kc_197)
/-- BVModel.takesOf -/
noncomputable def kc_198 : List (List (Nat × Nat × Instr × Nat)) := [[(0, 0, .iconst 0, 0), (1, 3, .istore_n kF2, 0), (2, 2, .iload_n kF2, 0), (3, 2, .aload_n kF1, 0), (4, 6, .invokevirtual 162, 0), (7, 4, .if_icmp .ge 49, 56), (10, 2, .aload_n kF0, 0), (11, 5, .getfield 139, 0), (14, 2, .aload_n kF0, 0), (15, 5, .getfield 151, 0)],
  [(18, 4, .if_icmp .ge 38, 56), (21, 2, .aload_n kF1, 0), (22, 2, .iload_n kF2, 0), (23, 6, .invokevirtual 167, 0), (26, 2, .aload_n kF0, 0), (27, 5, .getfield 47, 0), (30, 2, .aload_n kF0, 0), (31, 5, .getfield 139, 0)],
  [(34, 5, .iaload, 0), (35, 4, .if_icmp .ne 15, 50), (38, 2, .aload_n kF0, 0), (39, 0, .dup, 0), (40, 5, .getfield 139, 0), (43, 0, .iconst 1, 0), (44, 0, .iadd, 0), (45, 5, .putfield 139, 0)],
  [(48, 2, .iload_n kF2, 0), (49, 7, .ireturn, 0), (50, 3, .iinc 2 1, 0), (53, 4, .goto (-51), 2), (56, 0, .iconst (-1), 0), (57, 7, .ireturn, 0)]]
noncomputable def ky_198 : MethodName := ({ cls := "BonnetValleyModel", name := "takesOf", desc := "(Ljava/lang/String;)I" } : Jvm.MethodName)
noncomputable def kRow_198 : pm_Row := ((ky_198, prog_15_method_19_code, 3, (Option.some Jvm.ClassFile.FieldType.int)), 13, (1, 3, 1), kc_198)
/-- BVModel.number -/
noncomputable def kc_199 : List (List (Nat × Nat × Instr × Nat)) := [[(0, 2, .aload_n kF0, 0), (1, 6, .invokevirtual 171, 0), (4, 4, .ifCond .ne 5, 9), (7, 0, .iconst (-1), 0), (8, 7, .ireturn, 0), (9, 0, .iconst 0, 0), (10, 3, .istore_n kF2, 0), (11, 0, .iconst 0, 0), (12, 3, .istore_n kF3, 0), (13, 2, .iload_n kF3, 0), (14, 2, .iload_n kF1, 0), (15, 4, .if_icmp .ge 44, 59)],
  [(18, 2, .aload_n kF0, 0), (19, 6, .invokevirtual 171, 0), (22, 4, .ifCond .eq 37, 59), (25, 1, .bipush 10, 0), (27, 2, .iload_n kF2, 0), (28, 0, .imul, 0), (29, 2, .aload_n kF0, 0), (30, 5, .getfield 47, 0)],
  [(33, 2, .aload_n kF0, 0), (34, 5, .getfield 139, 0), (37, 5, .iaload, 0), (38, 0, .iadd, 0), (39, 1, .bipush 48, 0), (41, 0, .isub, 0), (42, 3, .istore_n kF2, 0), (43, 2, .aload_n kF0, 0), (44, 0, .dup, 0), (45, 5, .getfield 139, 0)],
  [(48, 0, .iconst 1, 0), (49, 0, .iadd, 0), (50, 5, .putfield 139, 0), (53, 3, .iinc 3 1, 0), (56, 4, .goto (-43), 13), (59, 2, .iload_n kF2, 0), (60, 7, .ireturn, 0)]]
noncomputable def ky_199 : MethodName := ({ cls := "BonnetValleyModel", name := "number", desc := "(I)I" } : Jvm.MethodName)
noncomputable def kRow_199 : pm_Row := ((ky_199, prog_15_method_20_code, 4, (Option.some Jvm.ClassFile.FieldType.int)), 13, (1, 4, 1), kc_199)
/-- BVModel.digitIn -/
noncomputable def kc_200 : List (List (Nat × Nat × Instr × Nat)) := [[(0, 2, .aload_n kF0, 0), (1, 5, .getfield 139, 0), (4, 2, .aload_n kF0, 0), (5, 5, .getfield 151, 0), (8, 4, .if_icmp .ge 26, 34), (11, 2, .aload_n kF0, 0), (12, 5, .getfield 47, 0), (15, 2, .aload_n kF0, 0)],
  [(16, 5, .getfield 139, 0), (19, 5, .iaload, 0), (20, 1, .bipush 48, 0), (22, 0, .isub, 0), (23, 0, .i2l, 0), (24, 2, .iload_n kF1, 0), (25, 0, .i2l, 0), (26, 2, .iload_n kF2, 0), (27, 0, .i2l, 0), (28, 6, .invokestatic 126, 0), (31, 4, .ifCond .ne 5, 36)],
  [(34, 0, .iconst (-1), 0), (35, 7, .ireturn, 0), (36, 2, .aload_n kF0, 0), (37, 0, .dup, 0), (38, 5, .getfield 139, 0), (41, 0, .iconst 1, 0), (42, 0, .iadd, 0), (43, 5, .putfield 139, 0), (46, 2, .aload_n kF0, 0), (47, 5, .getfield 47, 0)],
  [(50, 2, .aload_n kF0, 0), (51, 5, .getfield 139, 0), (54, 0, .iconst 1, 0), (55, 0, .isub, 0), (56, 5, .iaload, 0), (57, 1, .bipush 48, 0), (59, 0, .isub, 0), (60, 7, .ireturn, 0)]]
noncomputable def ky_200 : MethodName := ({ cls := "BonnetValleyModel", name := "digitIn", desc := "(II)I" } : Jvm.MethodName)
noncomputable def kRow_200 : pm_Row := ((ky_200, prog_15_method_21_code, 3, (Option.some Jvm.ClassFile.FieldType.int)), 13, (2, 3, 1), kc_200)
/-- BVModel.faultOf -/
noncomputable def kc_201 : List (List (Nat × Nat × Instr × Nat)) := [[(0, 2, .iload_n kF3, 0), (1, 4, .ifCond .eq 18, 19), (4, 2, .aload_n kF0, 0), (5, 5, .getfield 139, 0), (8, 2, .aload_n kF0, 0), (9, 5, .getfield 151, 0), (12, 4, .if_icmp .ne 7, 19), (15, 0, .iconst 1, 0)],
  [(16, 4, .goto 4, 20), (19, 0, .iconst 0, 0), (20, 3, .istore 4, 0), (22, 2, .iload_n kF1, 0), (23, 2, .iload_n kF2, 0), (24, 4, .if_icmp .le 20, 44), (27, 2, .iload 4, 0), (29, 4, .ifCond .ne 11, 40)],
  [(32, 2, .aload_n kF0, 0), (33, 5, .getfield 139, 0), (36, 2, .iload_n kF2, 0), (37, 4, .if_icmp .lt 7, 44), (40, 0, .iconst (-1), 0), (41, 2, .iload_n kF2, 0), (42, 0, .isub, 0), (43, 7, .ireturn, 0), (44, 2, .iload 4, 0), (46, 4, .ifCond .eq 7, 53)],
  [(49, 0, .iconst 0, 0), (50, 4, .goto 9, 59), (53, 0, .iconst (-1), 0), (54, 2, .aload_n kF0, 0), (55, 5, .getfield 139, 0), (58, 0, .isub, 0), (59, 7, .ireturn, 0)]]
noncomputable def ky_201 : MethodName := ({ cls := "BonnetValleyModel", name := "faultOf", desc := "(IIZ)I" } : Jvm.MethodName)
noncomputable def kRow_201 : pm_Row := ((ky_201, prog_15_method_22_code, 5, (Option.some Jvm.ClassFile.FieldType.int)), 13, (3, 5, 1), kc_201)
/-- BVModel.valley -/
noncomputable def kc_202 : List (List (Nat × Nat × Instr × Nat)) := [[(0, 2, .aload_n kF0, 0), (1, 0, .iconst 0, 0), (2, 5, .putfield 3, 0), (5, 2, .aload_n kF0, 0), (6, 1, .bipush 80, 0), (8, 6, .invokevirtual 175, 0), (11, 0, .pop, 0), (12, 2, .aload_n kF0, 0), (13, 0, .iconst 3, 0), (14, 1, .bipush 7, 0)],
  [(16, 6, .invokevirtual 179, 0), (19, 3, .istore_n kF1, 0), (20, 2, .iload_n kF1, 0), (21, 4, .ifCond .ge 7, 28), (24, 0, .iconst (-1), 0), (25, 4, .goto 10, 35), (28, 2, .aload_n kF0, 0), (29, 0, .iconst 3, 0), (30, 1, .bipush 7, 0)],
  [(32, 6, .invokevirtual 179, 0), (35, 3, .istore_n kF2, 0), (36, 2, .iload_n kF2, 0), (37, 4, .ifCond .le 7, 44), (40, 0, .iconst 1, 0), (41, 4, .goto 4, 45), (44, 0, .iconst 0, 0), (45, 3, .istore_n kF3, 0), (46, 0, .iconst 0, 0), (47, 3, .istore 4, 0)],
  [(49, 2, .iload_n kF3, 0), (50, 4, .ifCond .eq 54, 104), (53, 2, .iload 4, 0), (55, 2, .iload_n kF1, 0), (56, 2, .iload_n kF2, 0), (57, 0, .imul, 0), (58, 4, .if_icmp .ge 46, 104), (61, 2, .aload_n kF0, 0), (62, 1, .ldc 182, 0)],
  [(64, 6, .invokevirtual 184, 0), (67, 3, .istore 5, 0), (69, 2, .aload_n kF0, 0), (70, 5, .getfield 50, 0), (73, 2, .iload 4, 0), (75, 2, .iload 5, 0), (77, 0, .iconst 1, 0), (78, 4, .if_icmp .ne 7, 85)],
  [(81, 0, .iconst 1, 0), (82, 4, .goto 4, 86), (85, 0, .iconst 0, 0), (86, 5, .bastore, 0), (87, 2, .iload 5, 0), (89, 4, .ifCond .lt 7, 96), (92, 0, .iconst 1, 0), (93, 4, .goto 4, 97)],
  [(96, 0, .iconst 0, 0), (97, 3, .istore_n kF3, 0), (98, 3, .iinc 4 1, 0), (101, 4, .goto (-52), 49), (104, 2, .iload_n kF3, 0), (105, 4, .ifCond .eq 14, 119), (108, 2, .aload_n kF0, 0), (109, 5, .getfield 139, 0)],
  [(112, 2, .aload_n kF0, 0), (113, 5, .getfield 151, 0), (116, 4, .if_icmp .ge 10, 126), (119, 0, .iconst (-1), 0), (120, 2, .aload_n kF0, 0), (121, 5, .getfield 139, 0), (124, 0, .isub, 0), (125, 7, .ireturn, 0), (126, 2, .aload_n kF0, 0), (127, 2, .iload_n kF1, 0)],
  [(128, 5, .putfield 24, 0), (131, 2, .aload_n kF0, 0), (132, 2, .iload_n kF2, 0), (133, 5, .putfield 27, 0), (136, 0, .iconst 0, 0), (137, 3, .istore 4, 0), (139, 2, .iload 4, 0), (141, 2, .aload_n kF0, 0), (142, 6, .invokevirtual 122, 0)],
  [(145, 4, .if_icmp .ge 23, 168), (148, 2, .aload_n kF0, 0), (149, 5, .getfield 33, 0), (152, 2, .iload 4, 0), (154, 2, .aload_n kF0, 0), (155, 5, .getfield 50, 0), (158, 2, .iload 4, 0)],
  [(160, 5, .baload, 0), (161, 5, .bastore, 0), (162, 3, .iinc 4 1, 0), (165, 4, .goto (-26), 139), (168, 2, .aload_n kF0, 0), (169, 0, .iconst 0, 0), (170, 5, .putfield 130, 0), (173, 2, .aload_n kF0, 0), (174, 0, .iconst 0, 0), (175, 5, .putfield 133, 0)],
  [(178, 2, .aload_n kF0, 0), (179, 5, .getfield 41, 0), (182, 1, .bipush 40, 0), (184, 0, .iconst 0, 0), (185, 5, .iastore, 0), (186, 2, .aload_n kF0, 0), (187, 0, .iconst 0, 0), (188, 5, .putfield 188, 0), (191, 2, .aload_n kF0, 0)],
  [(192, 0, .dup, 0), (193, 5, .getfield 191, 0), (196, 0, .iconst 1, 0), (197, 0, .iadd, 0), (198, 5, .putfield 191, 0), (201, 2, .aload_n kF0, 0), (202, 0, .iconst 0, 0), (203, 5, .putfield 194, 0), (206, 2, .aload_n kF0, 0), (207, 6, .invokevirtual 122, 0)],
  [(210, 7, .ireturn, 0)]]
noncomputable def ky_202 : MethodName := ({ cls := "BonnetValleyModel", name := "valley", desc := "()I" } : Jvm.MethodName)
noncomputable def kRow_202 : pm_Row := ((ky_202, prog_15_method_23_code, 6, (Option.some Jvm.ClassFile.FieldType.int)), 13, (0, 6, 1), kc_202)
/-- BVModel.readsField -/
noncomputable def kc_203 : List (List (Nat × Nat × Instr × Nat)) := [[(0, 2, .aload_n kF0, 0), (1, 0, .iconst 0, 0), (2, 2, .aload_n kF0, 0), (3, 5, .getfield 24, 0), (6, 0, .iconst 1, 0), (7, 0, .isub, 0), (8, 6, .invokevirtual 179, 0), (11, 3, .istore_n kF1, 0), (12, 2, .iload_n kF1, 0), (13, 4, .ifCond .ge 7, 20)],
  [(16, 0, .iconst (-1), 0), (17, 4, .goto 14, 31), (20, 2, .aload_n kF0, 0), (21, 0, .iconst 0, 0), (22, 2, .aload_n kF0, 0), (23, 5, .getfield 27, 0), (26, 0, .iconst 1, 0), (27, 0, .isub, 0), (28, 6, .invokevirtual 179, 0), (31, 3, .istore_n kF2, 0)],
  [(32, 2, .iload_n kF2, 0), (33, 4, .ifCond .ge 7, 40), (36, 0, .iconst (-1), 0), (37, 4, .goto 11, 48), (40, 2, .aload_n kF0, 0), (41, 5, .getfield 27, 0), (44, 2, .iload_n kF1, 0), (45, 0, .imul, 0), (46, 2, .iload_n kF2, 0), (47, 0, .iadd, 0)],
  [(48, 7, .ireturn, 0)]]
noncomputable def ky_203 : MethodName := ({ cls := "BonnetValleyModel", name := "readsField", desc := "()I" } : Jvm.MethodName)
noncomputable def kRow_203 : pm_Row := ((ky_203, prog_15_method_24_code, 3, (Option.some Jvm.ClassFile.FieldType.int)), 13, (0, 3, 1), kc_203)
/-- BVModel.readsPerson -/
noncomputable def kc_204 : List (List (Nat × Nat × Instr × Nat)) := [[(0, 2, .aload_n kF0, 0), (1, 5, .getfield 130, 0), (4, 2, .aload_n kF0, 0), (5, 5, .getfield 197, 0), (8, 0, .iadd, 0), (9, 1, .bipush 8, 0), (11, 4, .if_icmp .ne 5, 16), (14, 0, .iconst 0, 0), (15, 7, .ireturn, 0)],
  [(16, 0, .iconst 3, 0), (17, 2, .aload_n kF0, 0), (18, 5, .getfield 197, 0), (21, 0, .imul, 0), (22, 3, .istore_n kF1, 0), (23, 2, .aload_n kF0, 0), (24, 5, .getfield 53, 0), (27, 2, .iload_n kF1, 0), (28, 2, .aload_n kF0, 0), (29, 6, .invokevirtual 200, 0)],
  [(32, 5, .iastore, 0), (33, 2, .aload_n kF0, 0), (34, 5, .getfield 53, 0), (37, 2, .iload_n kF1, 0), (38, 5, .iaload, 0), (39, 4, .ifCond .lt 34, 73), (42, 2, .aload_n kF0, 0), (43, 5, .getfield 33, 0), (46, 2, .aload_n kF0, 0), (47, 5, .getfield 53, 0)],
  [(50, 2, .iload_n kF1, 0), (51, 5, .iaload, 0), (52, 5, .baload, 0), (53, 4, .ifCond .eq 20, 73), (56, 2, .aload_n kF0, 0), (57, 0, .dup, 0), (58, 5, .getfield 139, 0), (61, 0, .iconst 1, 0), (62, 0, .isub, 0), (63, 5, .putfield 139, 0)],
  [(66, 2, .aload_n kF0, 0), (67, 5, .getfield 53, 0), (70, 2, .iload_n kF1, 0), (71, 0, .iconst (-1), 0), (72, 5, .iastore, 0), (73, 2, .aload_n kF0, 0), (74, 5, .getfield 53, 0), (77, 2, .iload_n kF1, 0), (78, 0, .iconst 1, 0), (79, 0, .iadd, 0)],
  [(80, 2, .aload_n kF0, 0), (81, 5, .getfield 53, 0), (84, 2, .iload_n kF1, 0), (85, 5, .iaload, 0), (86, 4, .ifCond .ge 7, 93), (89, 0, .iconst (-1), 0), (90, 4, .goto 10, 100), (93, 2, .aload_n kF0, 0), (94, 0, .iconst 0, 0), (95, 1, .bipush 7, 0)],
  [(97, 6, .invokevirtual 179, 0), (100, 5, .iastore, 0), (101, 2, .aload_n kF0, 0), (102, 5, .getfield 53, 0), (105, 2, .iload_n kF1, 0), (106, 0, .iconst 2, 0), (107, 0, .iadd, 0), (108, 2, .aload_n kF0, 0), (109, 5, .getfield 53, 0)],
  [(112, 2, .iload_n kF1, 0), (113, 0, .iconst 1, 0), (114, 0, .iadd, 0), (115, 5, .iaload, 0), (116, 4, .ifCond .ge 7, 123), (119, 0, .iconst (-1), 0), (120, 4, .goto 9, 129), (123, 2, .aload_n kF0, 0), (124, 0, .iconst 0, 0), (125, 0, .iconst 4, 0), (126, 6, .invokevirtual 179, 0)],
  [(129, 5, .iastore, 0), (130, 2, .aload_n kF0, 0), (131, 0, .dup, 0), (132, 5, .getfield 197, 0), (135, 0, .iconst 1, 0), (136, 0, .iadd, 0), (137, 5, .putfield 197, 0), (140, 2, .aload_n kF0, 0), (141, 5, .getfield 53, 0)],
  [(144, 2, .iload_n kF1, 0), (145, 0, .iconst 2, 0), (146, 0, .iadd, 0), (147, 5, .iaload, 0), (148, 4, .ifCond .lt 7, 155), (151, 0, .iconst 1, 0), (152, 4, .goto 4, 156), (155, 0, .iconst 0, 0), (156, 7, .ireturn, 0)]]
noncomputable def ky_204 : MethodName := ({ cls := "BonnetValleyModel", name := "readsPerson", desc := "()Z" } : Jvm.MethodName)
noncomputable def kRow_204 : pm_Row := ((ky_204, prog_15_method_25_code, 2, (Option.some Jvm.ClassFile.FieldType.boolean)), 13, (0, 2, 2), kc_204)
/-- BVModel.readsThing -/
noncomputable def kc_205 : List (List (Nat × Nat × Instr × Nat)) := [[(0, 2, .aload_n kF0, 0), (1, 5, .getfield 133, 0), (4, 2, .aload_n kF0, 0), (5, 5, .getfield 197, 0), (8, 0, .iadd, 0), (9, 1, .bipush 8, 0), (11, 4, .if_icmp .ne 5, 16), (14, 0, .iconst 0, 0), (15, 7, .ireturn, 0)],
  [(16, 2, .aload_n kF0, 0), (17, 5, .getfield 53, 0), (20, 2, .aload_n kF0, 0), (21, 5, .getfield 197, 0), (24, 2, .aload_n kF0, 0), (25, 6, .invokevirtual 200, 0), (28, 5, .iastore, 0), (29, 2, .aload_n kF0, 0), (30, 0, .dup, 0), (31, 5, .getfield 197, 0)],
  [(34, 0, .iconst 1, 0), (35, 0, .iadd, 0), (36, 5, .putfield 197, 0), (39, 2, .aload_n kF0, 0), (40, 5, .getfield 53, 0), (43, 2, .aload_n kF0, 0), (44, 5, .getfield 197, 0), (47, 0, .iconst 1, 0)],
  [(48, 0, .isub, 0), (49, 5, .iaload, 0), (50, 4, .ifCond .lt 7, 57), (53, 0, .iconst 1, 0), (54, 4, .goto 4, 58), (57, 0, .iconst 0, 0), (58, 7, .ireturn, 0)]]
noncomputable def ky_205 : MethodName := ({ cls := "BonnetValleyModel", name := "readsThing", desc := "()Z" } : Jvm.MethodName)
noncomputable def kRow_205 : pm_Row := ((ky_205, prog_15_method_26_code, 1, (Option.some Jvm.ClassFile.FieldType.boolean)), 13, (0, 1, 2), kc_205)
/-- BVModel.readsLines -/
noncomputable def kc_206 : List (List (Nat × Nat × Instr × Nat)) := [[(0, 2, .aload_n kF0, 0), (1, 2, .iload_n kF2, 0), (2, 6, .invokevirtual 175, 0), (5, 3, .istore_n kF3, 0), (6, 2, .aload_n kF0, 0), (7, 0, .iconst 0, 0), (8, 5, .putfield 197, 0), (11, 0, .iconst 1, 0), (12, 3, .istore 4, 0), (14, 2, .iload_n kF3, 0), (15, 4, .ifCond .le 7, 22)],
  [(18, 0, .iconst 1, 0), (19, 4, .goto 4, 23), (22, 0, .iconst 0, 0), (23, 3, .istore 5, 0), (25, 2, .iload 5, 0), (27, 4, .ifCond .eq 44, 71), (30, 2, .iload_n kF1, 0), (31, 4, .ifCond .eq 10, 41)],
  [(34, 2, .aload_n kF0, 0), (35, 6, .invokevirtual 203, 0), (38, 4, .goto 7, 45), (41, 2, .aload_n kF0, 0), (42, 6, .invokevirtual 206, 0), (45, 3, .istore 4, 0), (47, 2, .iload 4, 0)],
  [(49, 4, .ifCond .eq 16, 65), (52, 2, .aload_n kF0, 0), (53, 1, .bipush 59, 0), (55, 6, .invokevirtual 209, 0), (58, 4, .ifCond .eq 7, 65), (61, 0, .iconst 1, 0), (62, 4, .goto 4, 66)],
  [(65, 0, .iconst 0, 0), (66, 3, .istore 5, 0), (68, 4, .goto (-43), 25), (71, 2, .aload_n kF0, 0), (72, 2, .iload_n kF3, 0), (73, 2, .iload_n kF2, 0), (74, 2, .iload 4, 0), (76, 6, .invokevirtual 213, 0), (79, 7, .ireturn, 0)]]
noncomputable def ky_206 : MethodName := ({ cls := "BonnetValleyModel", name := "readsLines", desc := "(ZI)I" } : Jvm.MethodName)
noncomputable def kRow_206 : pm_Row := ((ky_206, prog_15_method_27_code, 6, (Option.some Jvm.ClassFile.FieldType.int)), 13, (2, 6, 1), kc_206)
/-- BVModel.isNew -/
noncomputable def kc_207 : List (List (Nat × Nat × Instr × Nat)) := [[(0, 2, .aload_n kF0, 0), (1, 2, .aload_n kF0, 0), (2, 5, .getfield 197, 0), (5, 4, .ifCond .le 7, 12), (8, 0, .iconst 0, 0), (9, 4, .goto 7, 16), (12, 2, .aload_n kF0, 0), (13, 5, .getfield 188, 0)],
  [(16, 5, .putfield 188, 0), (19, 2, .aload_n kF0, 0), (20, 0, .dup, 0), (21, 5, .getfield 191, 0), (24, 2, .aload_n kF0, 0), (25, 5, .getfield 197, 0), (28, 4, .ifCond .le 7, 35), (31, 0, .iconst 1, 0)],
  [(32, 4, .goto 4, 36), (35, 0, .iconst 0, 0), (36, 6, .invokestatic 154, 0), (39, 0, .iadd, 0), (40, 5, .putfield 191, 0), (43, 2, .aload_n kF0, 0), (44, 5, .getfield 197, 0), (47, 7, .ireturn, 0)]]
noncomputable def ky_207 : MethodName := ({ cls := "BonnetValleyModel", name := "isNew", desc := "()I" } : Jvm.MethodName)
noncomputable def kRow_207 : pm_Row := ((ky_207, prog_15_method_28_code, 1, (Option.some Jvm.ClassFile.FieldType.int)), 13, (0, 1, 1), kc_207)
/-- BVModel.people -/
noncomputable def kc_208 : List (List (Nat × Nat × Instr × Nat)) := [[(0, 2, .aload_n kF0, 0), (1, 0, .iconst 0, 0), (2, 5, .putfield 3, 0), (5, 2, .aload_n kF0, 0), (6, 0, .iconst 1, 0), (7, 1, .bipush 39, 0), (9, 6, .invokevirtual 217, 0), (12, 3, .istore_n kF1, 0), (13, 2, .iload_n kF1, 0), (14, 4, .ifCond .ge 5, 19)],
  [(17, 2, .iload_n kF1, 0), (18, 7, .ireturn, 0), (19, 0, .iconst 0, 0), (20, 3, .istore_n kF2, 0), (21, 2, .iload_n kF2, 0), (22, 2, .aload_n kF0, 0), (23, 5, .getfield 197, 0), (26, 4, .if_icmp .ge 93, 119), (29, 2, .aload_n kF0, 0), (30, 5, .getfield 41, 0)],
  [(33, 2, .aload_n kF0, 0), (34, 5, .getfield 130, 0), (37, 2, .aload_n kF0, 0), (38, 5, .getfield 53, 0), (41, 0, .iconst 3, 0), (42, 2, .iload_n kF2, 0), (43, 0, .imul, 0), (44, 5, .iaload, 0), (45, 5, .iastore, 0), (46, 2, .aload_n kF0, 0), (47, 5, .getfield 41, 0)],
  [(50, 1, .bipush 8, 0), (52, 2, .aload_n kF0, 0), (53, 5, .getfield 130, 0), (56, 0, .iadd, 0), (57, 2, .aload_n kF0, 0), (58, 5, .getfield 53, 0), (61, 0, .iconst 3, 0), (62, 2, .iload_n kF2, 0), (63, 0, .imul, 0)],
  [(64, 0, .iconst 1, 0), (65, 0, .iadd, 0), (66, 5, .iaload, 0), (67, 5, .iastore, 0), (68, 2, .aload_n kF0, 0), (69, 5, .getfield 41, 0), (72, 1, .bipush 16, 0), (74, 2, .aload_n kF0, 0), (75, 5, .getfield 130, 0), (78, 0, .iadd, 0), (79, 2, .aload_n kF0, 0)],
  [(80, 5, .getfield 53, 0), (83, 0, .iconst 3, 0), (84, 2, .iload_n kF2, 0), (85, 0, .imul, 0), (86, 0, .iconst 2, 0), (87, 0, .iadd, 0), (88, 5, .iaload, 0), (89, 5, .iastore, 0), (90, 2, .aload_n kF0, 0), (91, 5, .getfield 41, 0), (94, 1, .bipush 24, 0)],
  [(96, 2, .aload_n kF0, 0), (97, 5, .getfield 130, 0), (100, 0, .iadd, 0), (101, 0, .iconst 0, 0), (102, 5, .iastore, 0), (103, 2, .aload_n kF0, 0), (104, 0, .dup, 0), (105, 5, .getfield 130, 0), (108, 0, .iconst 1, 0), (109, 0, .iadd, 0), (110, 5, .putfield 130, 0)],
  [(113, 3, .iinc 2 1, 0), (116, 4, .goto (-95), 21), (119, 2, .aload_n kF0, 0), (120, 6, .invokevirtual 221, 0), (123, 7, .ireturn, 0)]]
noncomputable def ky_208 : MethodName := ({ cls := "BonnetValleyModel", name := "people", desc := "()I" } : Jvm.MethodName)
noncomputable def kRow_208 : pm_Row := ((ky_208, prog_15_method_29_code, 3, (Option.some Jvm.ClassFile.FieldType.int)), 13, (0, 3, 1), kc_208)
/-- BVModel.things -/
noncomputable def kc_209 : List (List (Nat × Nat × Instr × Nat)) := [[(0, 2, .aload_n kF0, 0), (1, 0, .iconst 0, 0), (2, 5, .putfield 3, 0), (5, 2, .aload_n kF0, 0), (6, 0, .iconst 0, 0), (7, 1, .bipush 23, 0), (9, 6, .invokevirtual 217, 0), (12, 3, .istore_n kF1, 0), (13, 2, .iload_n kF1, 0), (14, 4, .ifCond .ge 5, 19)],
  [(17, 2, .iload_n kF1, 0), (18, 7, .ireturn, 0), (19, 0, .iconst 0, 0), (20, 3, .istore_n kF2, 0), (21, 2, .iload_n kF2, 0), (22, 2, .aload_n kF0, 0), (23, 5, .getfield 197, 0), (26, 4, .if_icmp .ge 37, 63), (29, 2, .aload_n kF0, 0), (30, 5, .getfield 41, 0)],
  [(33, 1, .bipush 32, 0), (35, 2, .aload_n kF0, 0), (36, 5, .getfield 133, 0), (39, 0, .iadd, 0), (40, 2, .aload_n kF0, 0), (41, 5, .getfield 53, 0), (44, 2, .iload_n kF2, 0), (45, 5, .iaload, 0), (46, 5, .iastore, 0), (47, 2, .aload_n kF0, 0)],
  [(48, 0, .dup, 0), (49, 5, .getfield 133, 0), (52, 0, .iconst 1, 0), (53, 0, .iadd, 0), (54, 5, .putfield 133, 0), (57, 3, .iinc 2 1, 0), (60, 4, .goto (-39), 21), (63, 2, .aload_n kF0, 0)],
  [(64, 6, .invokevirtual 221, 0), (67, 7, .ireturn, 0)]]
noncomputable def ky_209 : MethodName := ({ cls := "BonnetValleyModel", name := "things", desc := "()I" } : Jvm.MethodName)
noncomputable def kRow_209 : pm_Row := ((ky_209, prog_15_method_30_code, 3, (Option.some Jvm.ClassFile.FieldType.int)), 13, (0, 3, 1), kc_209)
/-- BVModel.light -/
noncomputable def kc_210 : List (List (Nat × Nat × Instr × Nat)) := [[(0, 2, .aload_n kF0, 0), (1, 0, .iconst 0, 0), (2, 5, .putfield 3, 0), (5, 2, .aload_n kF0, 0), (6, 1, .bipush 80, 0), (8, 6, .invokevirtual 175, 0), (11, 0, .pop, 0), (12, 0, .iconst 0, 0), (13, 3, .istore_n kF1, 0), (14, 2, .iload_n kF1, 0), (15, 1, .bipush 20, 0)],
  [(17, 4, .if_icmp .ge 27, 44), (20, 2, .aload_n kF0, 0), (21, 6, .invokevirtual 171, 0), (24, 4, .ifCond .eq 20, 44), (27, 2, .aload_n kF0, 0), (28, 5, .getfield 53, 0), (31, 2, .iload_n kF1, 0)],
  [(32, 2, .aload_n kF0, 0), (33, 0, .iconst 1, 0), (34, 6, .invokevirtual 224, 0), (37, 5, .iastore, 0), (38, 3, .iinc 1 1, 0), (41, 4, .goto (-27), 14), (44, 2, .iload_n kF1, 0), (45, 4, .ifCond .eq 14, 59)],
  [(48, 2, .aload_n kF0, 0), (49, 5, .getfield 139, 0), (52, 2, .aload_n kF0, 0), (53, 5, .getfield 151, 0), (56, 4, .if_icmp .ge 10, 66), (59, 0, .iconst (-1), 0), (60, 2, .aload_n kF0, 0), (61, 5, .getfield 139, 0)],
  [(64, 0, .isub, 0), (65, 7, .ireturn, 0), (66, 2, .aload_n kF0, 0), (67, 2, .iload_n kF1, 0), (68, 5, .putfield 30, 0), (71, 0, .iconst 0, 0), (72, 3, .istore_n kF2, 0), (73, 2, .iload_n kF2, 0), (74, 2, .iload_n kF1, 0), (75, 4, .if_icmp .ge 21, 96), (78, 2, .aload_n kF0, 0), (79, 5, .getfield 37, 0)],
  [(82, 2, .iload_n kF2, 0), (83, 2, .aload_n kF0, 0), (84, 5, .getfield 53, 0), (87, 2, .iload_n kF2, 0), (88, 5, .iaload, 0), (89, 5, .iastore, 0), (90, 3, .iinc 2 1, 0), (93, 4, .goto (-20), 73)],
  [(96, 2, .iload_n kF1, 0), (97, 7, .ireturn, 0)]]
noncomputable def ky_210 : MethodName := ({ cls := "BonnetValleyModel", name := "light", desc := "()I" } : Jvm.MethodName)
noncomputable def kRow_210 : pm_Row := ((ky_210, prog_15_method_31_code, 3, (Option.some Jvm.ClassFile.FieldType.int)), 13, (0, 3, 1), kc_210)
/-- BVModel.lightOn -/
noncomputable def kc_211 : List (List (Nat × Nat × Instr × Nat)) := [[(0, 2, .aload_n kF0, 0), (1, 5, .getfield 37, 0), (4, 2, .iload_n kF1, 0), (5, 2, .aload_n kF0, 0), (6, 5, .getfield 30, 0), (9, 0, .irem, 0), (10, 5, .iaload, 0), (11, 7, .ireturn, 0)]]
noncomputable def ky_211 : MethodName := ({ cls := "BonnetValleyModel", name := "lightOn", desc := "(I)I" } : Jvm.MethodName)
noncomputable def kRow_211 : pm_Row := ((ky_211, prog_15_method_32_code, 2, (Option.some Jvm.ClassFile.FieldType.int)), 13, (1, 2, 1), kc_211)
/-- BVModel.codes -/
noncomputable def kc_212 : List (List (Nat × Nat × Instr × Nat)) := [[(0, 2, .aload_n kF0, 0), (1, 5, .getfield 59, 0), (4, 2, .aload_n kF0, 0), (5, 5, .getfield 227, 0), (8, 2, .iload_n kF1, 0), (9, 5, .iastore, 0), (10, 2, .aload_n kF0, 0), (11, 0, .dup, 0), (12, 5, .getfield 227, 0), (15, 0, .iconst 1, 0)],
  [(16, 0, .iadd, 0), (17, 5, .putfield 227, 0), (20, 7, .return_, 0)]]
noncomputable def ky_212 : MethodName := ({ cls := "BonnetValleyModel", name := "codes", desc := "(I)V" } : Jvm.MethodName)
noncomputable def kRow_212 : pm_Row := ((ky_212, prog_15_method_33_code, 2, (Option.none : Option Jvm.ClassFile.FieldType)), 13, (1, 2, 0), kc_212)
/-- BVModel.readsAsked -/
noncomputable def kc_213 : List (List (Nat × Nat × Instr × Nat)) := [[(0, 2, .aload_n kF0, 0), (1, 1, .bipush 45, 0), (3, 6, .invokevirtual 209, 0), (6, 4, .ifCond .eq 17, 23), (9, 2, .aload_n kF0, 0), (10, 6, .invokevirtual 230, 0), (13, 3, .istore_n kF1, 0), (14, 2, .aload_n kF0, 0), (15, 1, .sipush 3000, 0)],
  [(18, 6, .invokevirtual 233, 0), (21, 2, .iload_n kF1, 0), (22, 7, .ireturn, 0), (23, 2, .aload_n kF0, 0), (24, 6, .invokevirtual 171, 0), (27, 4, .ifCond .eq 14, 41), (30, 2, .aload_n kF0, 0), (31, 2, .aload_n kF0, 0)],
  [(32, 0, .iconst 3, 0), (33, 6, .invokevirtual 224, 0), (36, 6, .invokevirtual 233, 0), (39, 0, .iconst 1, 0), (40, 7, .ireturn, 0), (41, 2, .aload_n kF0, 0), (42, 1, .ldc 237, 0), (44, 6, .invokevirtual 184, 0), (47, 3, .istore_n kF1, 0)],
  [(48, 2, .iload_n kF1, 0), (49, 4, .ifCond .lt 14, 63), (52, 2, .aload_n kF0, 0), (53, 1, .sipush 1000, 0), (56, 2, .iload_n kF1, 0), (57, 0, .iadd, 0), (58, 6, .invokevirtual 233, 0), (61, 0, .iconst 1, 0), (62, 7, .ireturn, 0), (63, 2, .aload_n kF0, 0)],
  [(64, 5, .getfield 142, 0), (67, 0, .iconst 4, 0), (68, 4, .if_icmp .eq 12, 80), (71, 2, .aload_n kF0, 0), (72, 1, .bipush 40, 0), (74, 6, .invokevirtual 209, 0), (77, 4, .ifCond .ne 5, 82)],
  [(80, 0, .iconst 0, 0), (81, 7, .ireturn, 0), (82, 2, .aload_n kF0, 0), (83, 0, .dup, 0), (84, 5, .getfield 142, 0), (87, 0, .iconst 1, 0), (88, 0, .iadd, 0), (89, 5, .putfield 142, 0), (92, 2, .aload_n kF0, 0), (93, 0, .iconst 0, 0), (94, 6, .invokevirtual 239, 0)],
  [(97, 4, .ifCond .eq 12, 109), (100, 2, .aload_n kF0, 0), (101, 1, .bipush 41, 0), (103, 6, .invokevirtual 209, 0), (106, 4, .ifCond .ne 5, 111), (109, 0, .iconst 0, 0), (110, 7, .ireturn, 0), (111, 2, .aload_n kF0, 0)],
  [(112, 0, .dup, 0), (113, 5, .getfield 142, 0), (116, 0, .iconst 1, 0), (117, 0, .isub, 0), (118, 5, .putfield 142, 0), (121, 0, .iconst 1, 0), (122, 7, .ireturn, 0)]]
noncomputable def ky_213 : MethodName := ({ cls := "BonnetValleyModel", name := "readsAsked", desc := "()Z" } : Jvm.MethodName)
noncomputable def kRow_213 : pm_Row := ((ky_213, prog_15_method_34_code, 2, (Option.some Jvm.ClassFile.FieldType.boolean)), 13, (0, 2, 2), kc_213)
/-- BVModel.readsRank -/
noncomputable def kc_214 : List (List (Nat × Nat × Instr × Nat)) := [[(0, 2, .iload_n kF1, 0), (1, 0, .iconst 3, 0), (2, 4, .if_icmp .ne 8, 10), (5, 2, .aload_n kF0, 0), (6, 6, .invokevirtual 230, 0), (9, 7, .ireturn, 0), (10, 2, .aload_n kF0, 0), (11, 2, .iload_n kF1, 0), (12, 0, .iconst 1, 0), (13, 0, .iadd, 0), (14, 6, .invokevirtual 239, 0)],
  [(17, 4, .ifCond .ne 5, 22), (20, 0, .iconst 0, 0), (21, 7, .ireturn, 0), (22, 0, .iconst 1, 0), (23, 3, .istore_n kF2, 0), (24, 2, .iload_n kF2, 0), (25, 4, .ifCond .eq 88, 113), (28, 2, .aload_n kF0, 0), (29, 2, .iload_n kF1, 0), (30, 4, .ifCond .ne 8, 38)],
  [(33, 1, .ldc 242, 0), (35, 4, .goto 15, 50), (38, 2, .iload_n kF1, 0), (39, 0, .iconst 1, 0), (40, 4, .if_icmp .ne 8, 48), (43, 1, .ldc 244, 0), (45, 4, .goto 5, 50)],
  [(48, 1, .ldc 246, 0), (50, 6, .invokevirtual 184, 0), (53, 3, .istore_n kF3, 0), (54, 2, .iload_n kF3, 0), (55, 4, .ifCond .ge 5, 60), (58, 0, .iconst 1, 0), (59, 7, .ireturn, 0), (60, 2, .aload_n kF0, 0), (61, 2, .iload_n kF1, 0), (62, 0, .iconst 1, 0), (63, 0, .iadd, 0)],
  [(64, 6, .invokevirtual 239, 0), (67, 4, .ifCond .ne 5, 72), (70, 0, .iconst 0, 0), (71, 7, .ireturn, 0), (72, 2, .aload_n kF0, 0), (73, 1, .sipush 2000, 0), (76, 2, .iload_n kF3, 0), (77, 0, .iadd, 0), (78, 2, .iload_n kF1, 0), (79, 4, .ifCond .ne 7, 86)],
  [(82, 0, .iconst 0, 0), (83, 4, .goto 13, 96), (86, 2, .iload_n kF1, 0), (87, 0, .iconst 1, 0), (88, 4, .if_icmp .ne 7, 95), (91, 0, .iconst 3, 0), (92, 4, .goto 4, 96), (95, 0, .iconst 5, 0)],
  [(96, 0, .iadd, 0), (97, 6, .invokevirtual 233, 0), (100, 2, .iload_n kF1, 0), (101, 4, .ifCond .le 7, 108), (104, 0, .iconst 1, 0), (105, 4, .goto 4, 109), (108, 0, .iconst 0, 0), (109, 3, .istore_n kF2, 0), (110, 4, .goto (-86), 24)],
  [(113, 0, .iconst 1, 0), (114, 7, .ireturn, 0)]]
noncomputable def ky_214 : MethodName := ({ cls := "BonnetValleyModel", name := "readsRank", desc := "(I)Z" } : Jvm.MethodName)
noncomputable def kRow_214 : pm_Row := ((ky_214, prog_15_method_35_code, 4, (Option.some Jvm.ClassFile.FieldType.boolean)), 13, (1, 4, 2), kc_214)
/-- BVModel.readsRule -/
noncomputable def kc_215 : List (List (Nat × Nat × Instr × Nat)) := [[(0, 2, .aload_n kF0, 0), (1, 1, .bipush 40, 0), (3, 6, .invokevirtual 175, 0), (6, 3, .istore_n kF1, 0), (7, 2, .aload_n kF0, 0), (8, 0, .iconst 0, 0), (9, 5, .putfield 227, 0), (12, 2, .iload_n kF1, 0), (13, 4, .ifCond .eq 11, 24)],
  [(16, 2, .aload_n kF0, 0), (17, 0, .iconst 0, 0), (18, 6, .invokevirtual 239, 0), (21, 4, .ifCond .eq 7, 28), (24, 0, .iconst 1, 0), (25, 4, .goto 4, 29), (28, 0, .iconst 0, 0), (29, 3, .istore_n kF2, 0), (30, 2, .aload_n kF0, 0), (31, 2, .iload_n kF1, 0)],
  [(32, 1, .bipush 40, 0), (34, 2, .iload_n kF2, 0), (35, 6, .invokevirtual 213, 0), (38, 7, .ireturn, 0)]]
noncomputable def ky_215 : MethodName := ({ cls := "BonnetValleyModel", name := "readsRule", desc := "()I" } : Jvm.MethodName)
noncomputable def kRow_215 : pm_Row := ((ky_215, prog_15_method_36_code, 3, (Option.some Jvm.ClassFile.FieldType.int)), 13, (0, 3, 1), kc_215)
/-- BVModel.laysCode -/
noncomputable def kc_216 : List (List (Nat × Nat × Instr × Nat)) := [[(0, 2, .aload_n kF0, 0), (1, 2, .iload_n kF2, 0), (2, 5, .putfield 248, 0), (5, 0, .iconst 0, 0), (6, 3, .istore_n kF3, 0), (7, 2, .iload_n kF3, 0), (8, 2, .iload_n kF2, 0), (9, 4, .if_icmp .ge 18, 27), (12, 2, .aload_n kF0, 0), (13, 5, .getfield 56, 0)],
  [(16, 2, .iload_n kF3, 0), (17, 2, .aload_n kF1, 0), (18, 2, .iload_n kF3, 0), (19, 5, .iaload, 0), (20, 5, .iastore, 0), (21, 3, .iinc 3 1, 0), (24, 4, .goto (-17), 7), (27, 7, .return_, 0)]]
noncomputable def ky_216 : MethodName := ({ cls := "BonnetValleyModel", name := "laysCode", desc := "([II)V" } : Jvm.MethodName)
noncomputable def kRow_216 : pm_Row := ((ky_216, prog_15_method_37_code, 4, (Option.none : Option Jvm.ClassFile.FieldType)), 13, (2, 4, 0), kc_216)
/-- BVModel.rule -/
noncomputable def kc_217 : List (List (Nat × Nat × Instr × Nat)) := [[(0, 2, .aload_n kF0, 0), (1, 0, .iconst 0, 0), (2, 5, .putfield 3, 0), (5, 2, .aload_n kF0, 0), (6, 6, .invokevirtual 251, 0), (9, 3, .istore_n kF1, 0), (10, 2, .iload_n kF1, 0), (11, 4, .ifCond .ne 15, 26), (14, 2, .aload_n kF0, 0), (15, 2, .aload_n kF0, 0)],
  [(16, 5, .getfield 59, 0), (19, 2, .aload_n kF0, 0), (20, 5, .getfield 227, 0), (23, 6, .invokevirtual 254, 0), (26, 2, .iload_n kF1, 0), (27, 7, .ireturn, 0)]]
noncomputable def ky_217 : MethodName := ({ cls := "BonnetValleyModel", name := "rule", desc := "()I" } : Jvm.MethodName)
noncomputable def kRow_217 : pm_Row := ((ky_217, prog_15_method_38_code, 2, (Option.some Jvm.ClassFile.FieldType.int)), 13, (0, 2, 1), kc_217)
/-- BVModel.worked -/
noncomputable def kc_218 : List (List (Nat × Nat × Instr × Nat)) := [[(0, 2, .iload_n kF0, 0), (1, 4, .tableswitch 93 0 5 #[39, 53, 67, 81, 85, 89], 39)],
  [],
  [(40, 2, .iload_n kF1, 0), (41, 2, .iload_n kF2, 0), (42, 4, .if_icmp .ge 7, 49), (45, 0, .iconst 1, 0), (46, 4, .goto 4, 50)],
  [(49, 0, .iconst 0, 0), (50, 6, .invokestatic 154, 0), (53, 7, .ireturn, 0), (54, 2, .iload_n kF1, 0), (55, 2, .iload_n kF2, 0), (56, 4, .if_icmp .le 7, 63), (59, 0, .iconst 1, 0), (60, 4, .goto 4, 64), (63, 0, .iconst 0, 0)],
  [(64, 6, .invokestatic 154, 0), (67, 7, .ireturn, 0), (68, 2, .iload_n kF1, 0), (69, 2, .iload_n kF2, 0), (70, 4, .if_icmp .ne 7, 77), (73, 0, .iconst 1, 0), (74, 4, .goto 4, 78), (77, 0, .iconst 0, 0), (78, 6, .invokestatic 154, 0)],
  [(81, 7, .ireturn, 0), (82, 2, .iload_n kF1, 0), (83, 2, .iload_n kF2, 0), (84, 0, .iadd, 0), (85, 7, .ireturn, 0), (86, 2, .iload_n kF1, 0), (87, 2, .iload_n kF2, 0), (88, 0, .isub, 0), (89, 7, .ireturn, 0), (90, 2, .iload_n kF1, 0), (91, 2, .iload_n kF2, 0), (92, 0, .imul, 0), (93, 7, .ireturn, 0), (94, 2, .iload_n kF2, 0), (95, 4, .ifCond .ne 7, 102)],
  [(98, 0, .iconst 0, 0), (99, 4, .goto 6, 105), (102, 2, .iload_n kF1, 0), (103, 2, .iload_n kF2, 0), (104, 0, .idiv, 0), (105, 7, .ireturn, 0)]]
noncomputable def ky_218 : MethodName := ({ cls := "BonnetValleyModel", name := "worked", desc := "(III)I" } : Jvm.MethodName)
noncomputable def kRow_218 : pm_Row := ((ky_218, prog_15_method_39_code, 3, (Option.some Jvm.ClassFile.FieldType.int)), 13, (3, 3, 1), kc_218)
/-- BVModel.ruled -/
noncomputable def kc_219 : List (List (Nat × Nat × Instr × Nat)) := [[(0, 0, .iconst 0, 0), (1, 3, .istore_n kF1, 0), (2, 0, .iconst 0, 0), (3, 3, .istore_n kF2, 0), (4, 2, .iload_n kF2, 0), (5, 2, .aload_n kF0, 0), (6, 5, .getfield 248, 0), (9, 4, .if_icmp .ge 116, 125), (12, 2, .aload_n kF0, 0), (13, 5, .getfield 56, 0)],
  [(16, 2, .iload_n kF2, 0), (17, 5, .iaload, 0), (18, 3, .istore_n kF3, 0), (19, 2, .iload_n kF3, 0), (20, 1, .sipush 3000, 0), (23, 4, .if_icmp .ne 23, 46), (26, 2, .aload_n kF0, 0), (27, 5, .getfield 62, 0), (30, 2, .iload_n kF1, 0), (31, 0, .iconst 1, 0)],
  [(32, 0, .isub, 0), (33, 2, .aload_n kF0, 0), (34, 5, .getfield 62, 0), (37, 2, .iload_n kF1, 0), (38, 0, .iconst 1, 0), (39, 0, .isub, 0), (40, 5, .iaload, 0), (41, 0, .ineg, 0), (42, 5, .iastore, 0), (43, 4, .goto 76, 119), (46, 2, .iload_n kF3, 0), (47, 1, .sipush 2000, 0)],
  [(50, 4, .if_icmp .lt 39, 89), (53, 3, .iinc 1 (-1), 0), (56, 2, .aload_n kF0, 0), (57, 5, .getfield 62, 0), (60, 2, .iload_n kF1, 0), (61, 0, .iconst 1, 0), (62, 0, .isub, 0), (63, 2, .iload_n kF3, 0)],
  [(64, 1, .sipush 2000, 0), (67, 0, .isub, 0), (68, 2, .aload_n kF0, 0), (69, 5, .getfield 62, 0), (72, 2, .iload_n kF1, 0), (73, 0, .iconst 1, 0), (74, 0, .isub, 0), (75, 5, .iaload, 0), (76, 2, .aload_n kF0, 0), (77, 5, .getfield 62, 0)],
  [(80, 2, .iload_n kF1, 0), (81, 5, .iaload, 0), (82, 6, .invokestatic 258, 0), (85, 5, .iastore, 0), (86, 4, .goto 33, 119), (89, 2, .aload_n kF0, 0), (90, 5, .getfield 62, 0), (93, 2, .iload_n kF1, 0), (94, 2, .iload_n kF3, 0), (95, 1, .sipush 1000, 0)],
  [(98, 4, .if_icmp .lt 16, 114), (101, 2, .aload_n kF0, 0), (102, 5, .getfield 65, 0), (105, 2, .iload_n kF3, 0), (106, 1, .sipush 1000, 0), (109, 0, .isub, 0), (110, 5, .iaload, 0), (111, 4, .goto 4, 115)],
  [(114, 2, .iload_n kF3, 0), (115, 5, .iastore, 0), (116, 3, .iinc 1 1, 0), (119, 3, .iinc 2 1, 0), (122, 4, .goto (-118), 4), (125, 2, .aload_n kF0, 0), (126, 5, .getfield 248, 0)],
  [(129, 4, .ifCond .ne 19, 148), (132, 2, .aload_n kF0, 0), (133, 5, .getfield 65, 0), (136, 0, .iconst 1, 0), (137, 5, .iaload, 0), (138, 2, .aload_n kF0, 0), (139, 5, .getfield 65, 0), (142, 0, .iconst 0, 0), (143, 5, .iaload, 0)],
  [(144, 0, .isub, 0), (145, 4, .goto 9, 154), (148, 2, .aload_n kF0, 0), (149, 5, .getfield 62, 0), (152, 0, .iconst 0, 0), (153, 5, .iaload, 0), (154, 7, .ireturn, 0)]]
noncomputable def ky_219 : MethodName := ({ cls := "BonnetValleyModel", name := "ruled", desc := "()I" } : Jvm.MethodName)
noncomputable def kRow_219 : pm_Row := ((ky_219, prog_15_method_40_code, 4, (Option.some Jvm.ClassFile.FieldType.int)), 13, (0, 4, 1), kc_219)
/-- BVModel.reachBy -/
noncomputable def kc_220 : List (List (Nat × Nat × Instr × Nat)) := [[(0, 0, .iconst 0, 0), (1, 3, .istore 4, 0), (3, 0, .iconst 0, 0), (4, 3, .istore 5, 0), (6, 2, .iload 5, 0), (8, 2, .aload_n kF0, 0), (9, 5, .getfield 130, 0), (12, 4, .if_icmp .ge 32, 44), (15, 2, .iload 4, 0)],
  [(17, 2, .aload_n kF1, 0), (18, 2, .iload 5, 0), (20, 5, .iaload, 0), (21, 2, .aload_n kF1, 0), (22, 2, .iload_n kF2, 0), (23, 5, .iaload, 0), (24, 4, .if_icmp .ne 7, 31), (27, 0, .iconst 1, 0), (28, 4, .goto 4, 32), (31, 0, .iconst 0, 0)],
  [(32, 6, .invokestatic 154, 0), (35, 0, .iadd, 0), (36, 3, .istore 4, 0), (38, 3, .iinc 5 1, 0), (41, 4, .goto (-35), 6), (44, 2, .aload_n kF0, 0), (45, 5, .getfield 65, 0)],
  [(48, 0, .iconst 0, 0), (49, 2, .iload_n kF3, 0), (50, 5, .iastore, 0), (51, 2, .aload_n kF0, 0), (52, 5, .getfield 65, 0), (55, 0, .iconst 1, 0), (56, 2, .aload_n kF0, 0), (57, 2, .aload_n kF1, 0), (58, 1, .bipush 40, 0), (60, 5, .iaload, 0), (61, 6, .invokevirtual 262, 0)],
  [(64, 5, .iastore, 0), (65, 2, .aload_n kF0, 0), (66, 5, .getfield 65, 0), (69, 0, .iconst 2, 0), (70, 2, .aload_n kF1, 0), (71, 1, .bipush 24, 0), (73, 2, .iload_n kF2, 0), (74, 0, .iadd, 0), (75, 5, .iaload, 0), (76, 6, .invokestatic 265, 0), (79, 5, .iastore, 0)],
  [(80, 2, .aload_n kF0, 0), (81, 5, .getfield 65, 0), (84, 0, .iconst 3, 0), (85, 2, .aload_n kF1, 0), (86, 1, .bipush 8, 0), (88, 2, .iload_n kF2, 0), (89, 0, .iadd, 0), (90, 5, .iaload, 0), (91, 5, .iastore, 0), (92, 2, .aload_n kF0, 0), (93, 5, .getfield 65, 0)],
  [(96, 0, .iconst 4, 0), (97, 2, .aload_n kF1, 0), (98, 2, .iload_n kF2, 0), (99, 5, .iaload, 0), (100, 2, .aload_n kF0, 0), (101, 5, .getfield 27, 0), (104, 0, .idiv, 0), (105, 5, .iastore, 0), (106, 2, .aload_n kF0, 0), (107, 5, .getfield 65, 0), (110, 0, .iconst 5, 0), (111, 2, .aload_n kF1, 0)],
  [(112, 2, .iload_n kF2, 0), (113, 5, .iaload, 0), (114, 2, .aload_n kF0, 0), (115, 5, .getfield 27, 0), (118, 0, .irem, 0), (119, 5, .iastore, 0), (120, 2, .aload_n kF0, 0), (121, 5, .getfield 65, 0), (124, 1, .bipush 6, 0), (126, 2, .aload_n kF1, 0), (127, 1, .bipush 40, 0)],
  [(129, 5, .iaload, 0), (130, 1, .bipush 7, 0), (132, 0, .irem, 0), (133, 5, .iastore, 0), (134, 2, .aload_n kF0, 0), (135, 5, .getfield 65, 0), (138, 1, .bipush 7, 0), (140, 2, .iload 4, 0), (142, 5, .iastore, 0), (143, 0, .iconst 0, 0)],
  [(144, 1, .bipush 9, 0), (146, 2, .aload_n kF0, 0), (147, 6, .invokevirtual 270, 0), (150, 5, .invokestatic 145, 0), (153, 5, .invokestatic 273, 0), (156, 7, .ireturn, 0)]]
noncomputable def ky_220 : MethodName := ({ cls := "BonnetValleyModel", name := "reachBy", desc := "([III)I" } : Jvm.MethodName)
noncomputable def kRow_220 : pm_Row := ((ky_220, prog_15_method_41_code, 6, (Option.some Jvm.ClassFile.FieldType.int)), 13, (3, 6, 1), kc_220)
/-- BVModel.way -/
noncomputable def kc_221 : List (List (Nat × Nat × Instr × Nat)) := [[(0, 2, .iload_n kF0, 0), (1, 5, .invokestatic 276, 0), (4, 0, .iconst 2, 0), (5, 2, .iload_n kF1, 0), (6, 5, .invokestatic 276, 0), (9, 0, .imul, 0), (10, 4, .if_icmp .le 13, 23), (13, 2, .iload_n kF0, 0), (14, 4, .ifCond .ge 7, 21)],
  [(17, 0, .iconst 0, 0), (18, 4, .goto 4, 22), (21, 0, .iconst 4, 0), (22, 7, .ireturn, 0), (23, 2, .iload_n kF1, 0), (24, 5, .invokestatic 276, 0), (27, 0, .iconst 2, 0), (28, 2, .iload_n kF0, 0), (29, 5, .invokestatic 276, 0)],
  [(32, 0, .imul, 0), (33, 4, .if_icmp .le 14, 47), (36, 2, .iload_n kF1, 0), (37, 4, .ifCond .ge 8, 45), (40, 1, .bipush 6, 0), (42, 4, .goto 4, 46), (45, 0, .iconst 2, 0), (46, 7, .ireturn, 0), (47, 2, .iload_n kF0, 0)],
  [(48, 4, .ifCond .ge 16, 64), (51, 2, .iload_n kF1, 0), (52, 4, .ifCond .ge 8, 60), (55, 1, .bipush 7, 0), (57, 4, .goto 16, 73), (60, 0, .iconst 1, 0), (61, 4, .goto 12, 73)],
  [(64, 2, .iload_n kF1, 0), (65, 4, .ifCond .ge 7, 72), (68, 0, .iconst 5, 0), (69, 4, .goto 4, 73), (72, 0, .iconst 3, 0), (73, 7, .ireturn, 0)]]
noncomputable def ky_221 : MethodName := ({ cls := "BonnetValleyModel", name := "way", desc := "(II)I" } : Jvm.MethodName)
noncomputable def kRow_221 : pm_Row := ((ky_221, prog_15_method_42_code, 2, (Option.some Jvm.ClassFile.FieldType.int)), 13, (2, 2, 1), kc_221)
/-- BVModel.eighthsBetween -/
noncomputable def kc_222 : List (List (Nat × Nat × Instr × Nat)) := [[(0, 2, .iload_n kF0, 0), (1, 2, .iload_n kF1, 0), (2, 0, .isub, 0), (3, 5, .invokestatic 276, 0), (6, 3, .istore_n kF2, 0), (7, 2, .iload_n kF2, 0), (8, 1, .bipush 8, 0), (10, 2, .iload_n kF2, 0), (11, 0, .isub, 0), (12, 5, .invokestatic 145, 0), (15, 7, .ireturn, 0)]]
noncomputable def ky_222 : MethodName := ({ cls := "BonnetValleyModel", name := "eighthsBetween", desc := "(II)I" } : Jvm.MethodName)
noncomputable def kRow_222 : pm_Row := ((ky_222, prog_15_method_43_code, 3, (Option.some Jvm.ClassFile.FieldType.int)), 13, (2, 3, 1), kc_222)
/-- BVModel.isClear -/
noncomputable def kc_223 : List (List (Nat × Nat × Instr × Nat)) := [[(0, 2, .iload_n kF1, 0), (1, 2, .aload_n kF0, 0), (2, 5, .getfield 27, 0), (5, 0, .idiv, 0), (6, 3, .istore_n kF3, 0), (7, 2, .iload_n kF1, 0), (8, 2, .aload_n kF0, 0), (9, 5, .getfield 27, 0), (12, 0, .irem, 0), (13, 3, .istore 4, 0), (15, 0, .iconst 1, 0)],
  [(16, 3, .istore 5, 0), (18, 0, .iconst 1, 0), (19, 3, .istore 6, 0), (21, 2, .iload 6, 0), (23, 4, .ifCond .eq 91, 114), (26, 2, .iload_n kF3, 0), (27, 2, .iload_n kF2, 0), (28, 2, .aload_n kF0, 0), (29, 5, .getfield 27, 0)],
  [(32, 0, .idiv, 0), (33, 2, .iload_n kF3, 0), (34, 0, .isub, 0), (35, 6, .invokestatic 279, 0), (38, 0, .iadd, 0), (39, 3, .istore_n kF3, 0), (40, 2, .iload 4, 0), (42, 2, .iload_n kF2, 0), (43, 2, .aload_n kF0, 0), (44, 5, .getfield 27, 0), (47, 0, .irem, 0)],
  [(48, 2, .iload 4, 0), (50, 0, .isub, 0), (51, 6, .invokestatic 279, 0), (54, 0, .iadd, 0), (55, 3, .istore 4, 0), (57, 2, .aload_n kF0, 0), (58, 5, .getfield 27, 0), (61, 2, .iload_n kF3, 0), (62, 0, .imul, 0), (63, 2, .iload 4, 0)],
  [(65, 0, .iadd, 0), (66, 2, .iload_n kF2, 0), (67, 4, .if_icmp .eq 7, 74), (70, 0, .iconst 1, 0), (71, 4, .goto 4, 75), (74, 0, .iconst 0, 0), (75, 3, .istore 6, 0), (77, 2, .iload 5, 0), (79, 4, .ifCond .eq 29, 108)],
  [(82, 2, .iload 6, 0), (84, 4, .ifCond .eq 20, 104), (87, 2, .aload_n kF0, 0), (88, 5, .getfield 33, 0), (91, 2, .aload_n kF0, 0), (92, 5, .getfield 27, 0), (95, 2, .iload_n kF3, 0)],
  [(96, 0, .imul, 0), (97, 2, .iload 4, 0), (99, 0, .iadd, 0), (100, 5, .baload, 0), (101, 4, .ifCond .ne 7, 108), (104, 0, .iconst 1, 0), (105, 4, .goto 4, 109), (108, 0, .iconst 0, 0), (109, 3, .istore 5, 0), (111, 4, .goto (-90), 21)],
  [(114, 2, .iload 5, 0), (116, 7, .ireturn, 0)]]
noncomputable def ky_223 : MethodName := ({ cls := "BonnetValleyModel", name := "isClear", desc := "(II)Z" } : Jvm.MethodName)
noncomputable def kRow_223 : pm_Row := ((ky_223, prog_15_method_44_code, 7, (Option.some Jvm.ClassFile.FieldType.boolean)), 13, (2, 7, 2), kc_223)
/-- BVModel.seesBy -/
noncomputable def kc_224 : List (List (Nat × Nat × Instr × Nat)) := [[(0, 2, .iload_n kF1, 0), (1, 2, .iload_n kF2, 0), (2, 4, .if_icmp .ne 5, 7), (5, 0, .iconst 1, 0), (6, 7, .ireturn, 0), (7, 2, .iload_n kF2, 0), (8, 2, .aload_n kF0, 0), (9, 5, .getfield 27, 0), (12, 0, .idiv, 0), (13, 2, .iload_n kF1, 0), (14, 2, .aload_n kF0, 0), (15, 5, .getfield 27, 0)],
  [(18, 0, .idiv, 0), (19, 0, .isub, 0), (20, 3, .istore 6, 0), (22, 2, .iload_n kF2, 0), (23, 2, .aload_n kF0, 0), (24, 5, .getfield 27, 0), (27, 0, .irem, 0), (28, 2, .iload_n kF1, 0), (29, 2, .aload_n kF0, 0), (30, 5, .getfield 27, 0)],
  [(33, 0, .irem, 0), (34, 0, .isub, 0), (35, 3, .istore 7, 0), (37, 2, .iload 6, 0), (39, 5, .invokestatic 276, 0), (42, 2, .iload 7, 0), (44, 5, .invokestatic 276, 0), (47, 5, .invokestatic 273, 0)],
  [(50, 2, .iload 5, 0), (52, 4, .if_icmp .gt 7, 59), (55, 0, .iconst 1, 0), (56, 4, .goto 4, 60), (59, 0, .iconst 0, 0), (60, 3, .istore 8, 0), (62, 2, .iload 8, 0)],
  [(64, 4, .ifCond .eq 34, 98), (67, 2, .iload 6, 0), (69, 2, .iload 7, 0), (71, 6, .invokestatic 282, 0), (74, 2, .iload_n kF3, 0), (75, 6, .invokestatic 285, 0), (78, 0, .iconst 4, 0), (79, 2, .iload 4, 0)],
  [(81, 0, .isub, 0), (82, 4, .if_icmp .gt 16, 98), (85, 2, .aload_n kF0, 0), (86, 2, .iload_n kF1, 0), (87, 2, .iload_n kF2, 0), (88, 6, .invokevirtual 288, 0), (91, 4, .ifCond .eq 7, 98), (94, 0, .iconst 1, 0), (95, 4, .goto 4, 99)],
  [(98, 0, .iconst 0, 0), (99, 7, .ireturn, 0)]]
noncomputable def ky_224 : MethodName := ({ cls := "BonnetValleyModel", name := "seesBy", desc := "(IIIII)Z" } : Jvm.MethodName)
noncomputable def kRow_224 : pm_Row := ((ky_224, prog_15_method_45_code, 9, (Option.some Jvm.ClassFile.FieldType.boolean)), 13, (5, 9, 2), kc_224)
/-- BVModel.doesSee -/
noncomputable def kc_225 : List (List (Nat × Nat × Instr × Nat)) := [[(0, 2, .aload_n kF0, 0), (1, 2, .aload_n kF1, 0), (2, 2, .iload_n kF2, 0), (3, 5, .iaload, 0), (4, 2, .iload_n kF3, 0), (5, 2, .aload_n kF1, 0), (6, 1, .bipush 8, 0), (8, 2, .iload_n kF2, 0), (9, 0, .iadd, 0), (10, 5, .iaload, 0), (11, 2, .aload_n kF1, 0), (12, 1, .bipush 16, 0), (14, 2, .iload_n kF2, 0), (15, 0, .iadd, 0)],
  [(16, 5, .iaload, 0), (17, 2, .aload_n kF0, 0), (18, 2, .aload_n kF1, 0), (19, 2, .iload_n kF2, 0), (20, 2, .aload_n kF1, 0), (21, 1, .bipush 16, 0), (23, 2, .iload_n kF2, 0), (24, 0, .iadd, 0), (25, 5, .iaload, 0), (26, 6, .invokevirtual 292, 0), (29, 6, .invokevirtual 296, 0)],
  [(32, 7, .ireturn, 0)]]
noncomputable def ky_225 : MethodName := ({ cls := "BonnetValleyModel", name := "doesSee", desc := "([III)Z" } : Jvm.MethodName)
noncomputable def kRow_225 : pm_Row := ((ky_225, prog_15_method_46_code, 4, (Option.some Jvm.ClassFile.FieldType.boolean)), 13, (3, 4, 2), kc_225)
/-- BVModel.fieldsSeen -/
noncomputable def kc_226 : List (List (Nat × Nat × Instr × Nat)) := [[(0, 2, .aload_n kF0, 0), (1, 2, .aload_n kF1, 0), (2, 2, .iload_n kF2, 0), (3, 2, .aload_n kF1, 0), (4, 1, .bipush 16, 0), (6, 2, .iload_n kF2, 0), (7, 0, .iadd, 0), (8, 5, .iaload, 0), (9, 6, .invokevirtual 292, 0), (12, 3, .istore_n kF3, 0), (13, 0, .lconst kG0, 0), (14, 3, .lstore 4, 0)],
  [(16, 0, .iconst 0, 0), (17, 3, .istore 6, 0), (19, 2, .iload 6, 0), (21, 2, .aload_n kF0, 0), (22, 6, .invokevirtual 122, 0), (25, 4, .if_icmp .ge 47, 72), (28, 2, .lload 4, 0), (30, 2, .aload_n kF0, 0), (31, 2, .aload_n kF1, 0)],
  [(32, 2, .iload_n kF2, 0), (33, 5, .iaload, 0), (34, 2, .iload 6, 0), (36, 2, .aload_n kF1, 0), (37, 1, .bipush 8, 0), (39, 2, .iload_n kF2, 0), (40, 0, .iadd, 0), (41, 5, .iaload, 0), (42, 2, .aload_n kF1, 0), (43, 1, .bipush 16, 0), (45, 2, .iload_n kF2, 0), (46, 0, .iadd, 0), (47, 5, .iaload, 0)],
  [(48, 2, .iload_n kF3, 0), (49, 6, .invokevirtual 296, 0), (52, 4, .ifCond .eq 10, 62), (55, 0, .lconst kG1, 0), (56, 2, .iload 6, 0), (58, 0, .lshl, 0), (59, 4, .goto 4, 63), (62, 0, .lconst kG0, 0), (63, 0, .lor, 0)],
  [(64, 3, .lstore 4, 0), (66, 3, .iinc 6 1, 0), (69, 4, .goto (-50), 19), (72, 2, .lload 4, 0), (74, 7, .lreturn, 0)]]
noncomputable def ky_226 : MethodName := ({ cls := "BonnetValleyModel", name := "fieldsSeen", desc := "([II)J" } : Jvm.MethodName)
noncomputable def kRow_226 : pm_Row := ((ky_226, prog_15_method_47_code, 7, (Option.some Jvm.ClassFile.FieldType.long)), 13, (2, 7, 3), kc_226)
/-- BVModel.allSeen -/
noncomputable def kc_227 : List (List (Nat × Nat × Instr × Nat)) := [[(0, 0, .lconst kG0, 0), (1, 3, .lstore_n kF2, 0), (2, 0, .iconst 0, 0), (3, 3, .istore 4, 0), (5, 2, .iload 4, 0), (7, 2, .aload_n kF0, 0), (8, 5, .getfield 130, 0), (11, 4, .if_icmp .ge 19, 30), (14, 2, .lload_n kF2, 0), (15, 2, .aload_n kF0, 0)],
  [(16, 2, .aload_n kF1, 0), (17, 2, .iload 4, 0), (19, 6, .invokevirtual 300, 0), (22, 0, .lor, 0), (23, 3, .lstore_n kF2, 0), (24, 3, .iinc 4 1, 0), (27, 4, .goto (-22), 5), (30, 2, .lload_n kF2, 0), (31, 7, .lreturn, 0)]]
noncomputable def ky_227 : MethodName := ({ cls := "BonnetValleyModel", name := "allSeen", desc := "([I)J" } : Jvm.MethodName)
noncomputable def kRow_227 : pm_Row := ((ky_227, prog_15_method_48_code, 5, (Option.some Jvm.ClassFile.FieldType.long)), 13, (1, 5, 3), kc_227)
/-- BVModel.thingsOn -/
noncomputable def kc_228 : List (List (Nat × Nat × Instr × Nat)) := [[(0, 0, .iconst 0, 0), (1, 3, .istore 4, 0), (3, 0, .iconst 0, 0), (4, 3, .istore 5, 0), (6, 2, .iload 5, 0), (8, 2, .aload_n kF0, 0), (9, 5, .getfield 133, 0), (12, 4, .if_icmp .ge 36, 48), (15, 2, .iload 4, 0)],
  [(17, 2, .lload_n kF2, 0), (18, 2, .aload_n kF1, 0), (19, 1, .bipush 32, 0), (21, 2, .iload 5, 0), (23, 0, .iadd, 0), (24, 5, .iaload, 0), (25, 6, .invokestatic 304, 0), (28, 4, .ifCond .eq 10, 38), (31, 0, .iconst 1, 0)],
  [(32, 2, .iload 5, 0), (34, 0, .ishl, 0), (35, 4, .goto 4, 39), (38, 0, .iconst 0, 0), (39, 0, .ior, 0), (40, 3, .istore 4, 0), (42, 3, .iinc 5 1, 0), (45, 4, .goto (-39), 6)],
  [(48, 2, .iload 4, 0), (50, 7, .ireturn, 0)]]
noncomputable def ky_228 : MethodName := ({ cls := "BonnetValleyModel", name := "thingsOn", desc := "([IJ)I" } : Jvm.MethodName)
noncomputable def kRow_228 : pm_Row := ((ky_228, prog_15_method_49_code, 6, (Option.some Jvm.ClassFile.FieldType.int)), 13, (2, 6, 1), kc_228)
/-- BVModel.peopleOn -/
noncomputable def kc_229 : List (List (Nat × Nat × Instr × Nat)) := [[(0, 0, .iconst 0, 0), (1, 3, .istore 4, 0), (3, 0, .iconst 0, 0), (4, 3, .istore 5, 0), (6, 2, .iload 5, 0), (8, 2, .aload_n kF0, 0), (9, 5, .getfield 130, 0), (12, 4, .if_icmp .ge 33, 45), (15, 2, .iload 4, 0)],
  [(17, 2, .lload_n kF2, 0), (18, 2, .aload_n kF1, 0), (19, 2, .iload 5, 0), (21, 5, .iaload, 0), (22, 6, .invokestatic 304, 0), (25, 4, .ifCond .eq 10, 35), (28, 0, .iconst 1, 0), (29, 2, .iload 5, 0), (31, 0, .ishl, 0)],
  [(32, 4, .goto 4, 36), (35, 0, .iconst 0, 0), (36, 0, .ior, 0), (37, 3, .istore 4, 0), (39, 3, .iinc 5 1, 0), (42, 4, .goto (-36), 6), (45, 2, .iload 4, 0), (47, 7, .ireturn, 0)]]
noncomputable def ky_229 : MethodName := ({ cls := "BonnetValleyModel", name := "peopleOn", desc := "([IJ)I" } : Jvm.MethodName)
noncomputable def kRow_229 : pm_Row := ((ky_229, prog_15_method_50_code, 6, (Option.some Jvm.ClassFile.FieldType.int)), 13, (2, 6, 1), kc_229)
/-- BVModel.whoSees -/
noncomputable def kc_230 : List (List (Nat × Nat × Instr × Nat)) := [[(0, 0, .iconst 0, 0), (1, 3, .istore_n kF3, 0), (2, 0, .iconst 0, 0), (3, 3, .istore 4, 0), (5, 2, .iload 4, 0), (7, 2, .aload_n kF0, 0), (8, 5, .getfield 130, 0), (11, 4, .if_icmp .ge 31, 42), (14, 2, .iload_n kF3, 0), (15, 2, .aload_n kF0, 0)],
  [(16, 2, .aload_n kF1, 0), (17, 2, .iload 4, 0), (19, 2, .iload_n kF2, 0), (20, 6, .invokevirtual 308, 0), (23, 4, .ifCond .eq 10, 33), (26, 0, .iconst 1, 0), (27, 2, .iload 4, 0), (29, 0, .ishl, 0), (30, 4, .goto 4, 34)],
  [(33, 0, .iconst 0, 0), (34, 0, .ior, 0), (35, 3, .istore_n kF3, 0), (36, 3, .iinc 4 1, 0), (39, 4, .goto (-34), 5), (42, 2, .iload_n kF3, 0), (43, 7, .ireturn, 0)]]
noncomputable def ky_230 : MethodName := ({ cls := "BonnetValleyModel", name := "whoSees", desc := "([II)I" } : Jvm.MethodName)
noncomputable def kRow_230 : pm_Row := ((ky_230, prog_15_method_51_code, 5, (Option.some Jvm.ClassFile.FieldType.int)), 13, (2, 5, 1), kc_230)
/-- BVModel.seeEachOther -/
noncomputable def kc_231 : List (List (Nat × Nat × Instr × Nat)) := [[(0, 2, .aload_n kF0, 0), (1, 2, .aload_n kF1, 0), (2, 2, .iload_n kF2, 0), (3, 2, .aload_n kF1, 0), (4, 2, .iload_n kF3, 0), (5, 5, .iaload, 0), (6, 6, .invokevirtual 308, 0), (9, 4, .ifCond .eq 19, 28), (12, 2, .aload_n kF0, 0), (13, 2, .aload_n kF1, 0), (14, 2, .iload_n kF3, 0), (15, 2, .aload_n kF1, 0)],
  [(16, 2, .iload_n kF2, 0), (17, 5, .iaload, 0), (18, 6, .invokevirtual 308, 0), (21, 4, .ifCond .eq 7, 28), (24, 0, .iconst 1, 0), (25, 4, .goto 4, 29), (28, 0, .iconst 0, 0), (29, 7, .ireturn, 0)]]
noncomputable def ky_231 : MethodName := ({ cls := "BonnetValleyModel", name := "seeEachOther", desc := "([III)Z" } : Jvm.MethodName)
noncomputable def kRow_231 : pm_Row := ((ky_231, prog_15_method_52_code, 4, (Option.some Jvm.ClassFile.FieldType.boolean)), 13, (3, 4, 2), kc_231)
/-- BVModel.tellEachOther -/
noncomputable def kc_232 : List (List (Nat × Nat × Instr × Nat)) := [[(0, 2, .aload_n kF1, 0), (1, 2, .iload_n kF2, 0), (2, 5, .iaload, 0), (3, 2, .aload_n kF0, 0), (4, 5, .getfield 27, 0), (7, 0, .idiv, 0), (8, 2, .aload_n kF1, 0), (9, 2, .iload_n kF3, 0), (10, 5, .iaload, 0), (11, 2, .aload_n kF0, 0), (12, 5, .getfield 27, 0), (15, 0, .idiv, 0)],
  [(16, 0, .isub, 0), (17, 5, .invokestatic 276, 0), (20, 0, .iconst 2, 0), (21, 4, .if_icmp .ge 31, 52), (24, 2, .aload_n kF1, 0), (25, 2, .iload_n kF2, 0), (26, 5, .iaload, 0), (27, 2, .aload_n kF0, 0), (28, 5, .getfield 27, 0), (31, 0, .irem, 0)],
  [(32, 2, .aload_n kF1, 0), (33, 2, .iload_n kF3, 0), (34, 5, .iaload, 0), (35, 2, .aload_n kF0, 0), (36, 5, .getfield 27, 0), (39, 0, .irem, 0), (40, 0, .isub, 0), (41, 5, .invokestatic 276, 0), (44, 0, .iconst 2, 0), (45, 4, .if_icmp .ge 7, 52)],
  [(48, 0, .iconst 1, 0), (49, 4, .goto 4, 53), (52, 0, .iconst 0, 0), (53, 3, .istore 4, 0), (55, 2, .iload 4, 0), (57, 4, .ifCond .eq 17, 74), (60, 2, .aload_n kF0, 0), (61, 2, .aload_n kF1, 0), (62, 2, .iload_n kF2, 0), (63, 2, .iload_n kF3, 0)],
  [(64, 6, .invokevirtual 312, 0), (67, 4, .ifCond .eq 7, 74), (70, 0, .iconst 1, 0), (71, 4, .goto 4, 75), (74, 0, .iconst 0, 0), (75, 7, .ireturn, 0)]]
noncomputable def ky_232 : MethodName := ({ cls := "BonnetValleyModel", name := "tellEachOther", desc := "([III)Z" } : Jvm.MethodName)
noncomputable def kRow_232 : pm_Row := ((ky_232, prog_15_method_53_code, 5, (Option.some Jvm.ClassFile.FieldType.boolean)), 13, (3, 5, 2), kc_232)
/-- BVModel.knowing -/
noncomputable def kc_233 : List (List (Nat × Nat × Instr × Nat)) := [[(0, 0, .iconst 0, 0), (1, 3, .istore_n kF3, 0), (2, 0, .iconst 0, 0), (3, 3, .istore 4, 0), (5, 2, .iload 4, 0), (7, 2, .aload_n kF0, 0), (8, 5, .getfield 130, 0), (11, 4, .if_icmp .ge 35, 46), (14, 2, .iload_n kF3, 0), (15, 2, .aload_n kF1, 0)],
  [(16, 1, .bipush 24, 0), (18, 2, .iload 4, 0), (20, 0, .iadd, 0), (21, 5, .iaload, 0), (22, 0, .i2l, 0), (23, 2, .iload_n kF2, 0), (24, 6, .invokestatic 304, 0), (27, 4, .ifCond .eq 10, 37), (30, 0, .iconst 1, 0), (31, 2, .iload 4, 0)],
  [(33, 0, .ishl, 0), (34, 4, .goto 4, 38), (37, 0, .iconst 0, 0), (38, 0, .ior, 0), (39, 3, .istore_n kF3, 0), (40, 3, .iinc 4 1, 0), (43, 4, .goto (-38), 5), (46, 2, .iload_n kF3, 0), (47, 7, .ireturn, 0)]]
noncomputable def ky_233 : MethodName := ({ cls := "BonnetValleyModel", name := "knowing", desc := "([II)I" } : Jvm.MethodName)
noncomputable def kRow_233 : pm_Row := ((ky_233, prog_15_method_54_code, 5, (Option.some Jvm.ClassFile.FieldType.int)), 13, (2, 5, 1), kc_233)
/-- BVModel.known -/
noncomputable def kc_234 : List (List (Nat × Nat × Instr × Nat)) := [[(0, 0, .iconst 0, 0), (1, 3, .istore_n kF2, 0), (2, 0, .iconst 0, 0), (3, 3, .istore_n kF3, 0), (4, 2, .iload_n kF3, 0), (5, 2, .aload_n kF0, 0), (6, 5, .getfield 130, 0), (9, 4, .if_icmp .ge 21, 30), (12, 2, .iload_n kF2, 0), (13, 2, .aload_n kF1, 0), (14, 1, .bipush 24, 0)],
  [(16, 2, .iload_n kF3, 0), (17, 0, .iadd, 0), (18, 5, .iaload, 0), (19, 6, .invokestatic 265, 0), (22, 0, .iadd, 0), (23, 3, .istore_n kF2, 0), (24, 3, .iinc 3 1, 0), (27, 4, .goto (-23), 4), (30, 2, .iload_n kF2, 0), (31, 7, .ireturn, 0)]]
noncomputable def ky_234 : MethodName := ({ cls := "BonnetValleyModel", name := "known", desc := "([I)I" } : Jvm.MethodName)
noncomputable def kRow_234 : pm_Row := ((ky_234, prog_15_method_55_code, 4, (Option.some Jvm.ClassFile.FieldType.int)), 13, (1, 4, 1), kc_234)
/-- BVModel.person -/
noncomputable def kc_235 : List (List (Nat × Nat × Instr × Nat)) := [[(0, 2, .aload_n kF0, 0), (1, 0, .iconst 0, 0), (2, 5, .putfield 3, 0), (5, 2, .aload_n kF0, 0), (6, 2, .iload_n kF1, 0), (7, 6, .invokevirtual 315, 0), (10, 4, .ifCond .eq 15, 25), (13, 2, .iload_n kF2, 0), (14, 0, .i2l, 0), (15, 0, .lconst kG0, 0)],
  [(16, 1, .ldc2_w 318, 0), (19, 6, .invokestatic 126, 0), (22, 4, .ifCond .ne 8, 30), (25, 2, .aload_n kF0, 0), (26, 6, .invokevirtual 320, 0), (29, 7, .ireturn, 0), (30, 2, .iload_n kF2, 0), (31, 4, .tableswitch 89 0 4 #[33, 40, 50, 60, 70], 33)],
  [],
  [],
  [(64, 2, .aload_n kF0, 0), (65, 5, .getfield 41, 0), (68, 2, .iload_n kF1, 0), (69, 5, .iaload, 0), (70, 7, .ireturn, 0), (71, 2, .aload_n kF0, 0), (72, 5, .getfield 41, 0), (75, 1, .bipush 8, 0), (77, 2, .iload_n kF1, 0), (78, 0, .iadd, 0), (79, 5, .iaload, 0)],
  [(80, 7, .ireturn, 0), (81, 2, .aload_n kF0, 0), (82, 5, .getfield 41, 0), (85, 1, .bipush 16, 0), (87, 2, .iload_n kF1, 0), (88, 0, .iadd, 0), (89, 5, .iaload, 0), (90, 7, .ireturn, 0), (91, 2, .aload_n kF0, 0), (92, 5, .getfield 41, 0), (95, 1, .bipush 24, 0)],
  [(97, 2, .iload_n kF1, 0), (98, 0, .iadd, 0), (99, 5, .iaload, 0), (100, 7, .ireturn, 0), (101, 2, .aload_n kF0, 0), (102, 2, .aload_n kF0, 0), (103, 5, .getfield 41, 0), (106, 2, .iload_n kF1, 0), (107, 2, .aload_n kF0, 0), (108, 5, .getfield 41, 0), (111, 1, .bipush 16, 0)],
  [(113, 2, .iload_n kF1, 0), (114, 0, .iadd, 0), (115, 5, .iaload, 0), (116, 6, .invokevirtual 292, 0), (119, 7, .ireturn, 0), (120, 2, .aload_n kF0, 0), (121, 2, .aload_n kF0, 0), (122, 5, .getfield 41, 0), (125, 2, .aload_n kF0, 0), (126, 2, .aload_n kF0, 0), (127, 5, .getfield 41, 0)],
  [(130, 2, .iload_n kF1, 0), (131, 6, .invokevirtual 300, 0), (134, 6, .invokevirtual 323, 0), (137, 7, .ireturn, 0)]]
noncomputable def ky_235 : MethodName := ({ cls := "BonnetValleyModel", name := "person", desc := "(II)I" } : Jvm.MethodName)
noncomputable def kRow_235 : pm_Row := ((ky_235, prog_15_method_56_code, 3, (Option.some Jvm.ClassFile.FieldType.int)), 13, (2, 3, 1), kc_235)
/-- BVModel.thing -/
noncomputable def kc_236 : List (List (Nat × Nat × Instr × Nat)) := [[(0, 2, .aload_n kF0, 0), (1, 0, .iconst 0, 0), (2, 5, .putfield 3, 0), (5, 2, .aload_n kF0, 0), (6, 2, .iload_n kF1, 0), (7, 6, .invokevirtual 327, 0), (10, 4, .ifCond .eq 15, 25), (13, 2, .iload_n kF2, 0), (14, 0, .i2l, 0), (15, 0, .lconst kG0, 0)],
  [(16, 1, .ldc2_w 330, 0), (19, 6, .invokestatic 126, 0), (22, 4, .ifCond .ne 8, 30), (25, 2, .aload_n kF0, 0), (26, 6, .invokevirtual 320, 0), (29, 7, .ireturn, 0), (30, 2, .iload_n kF2, 0), (31, 4, .ifCond .ne 15, 46)],
  [(34, 2, .aload_n kF0, 0), (35, 5, .getfield 41, 0), (38, 1, .bipush 32, 0), (40, 2, .iload_n kF1, 0), (41, 0, .iadd, 0), (42, 5, .iaload, 0), (43, 4, .goto 37, 80), (46, 2, .iload_n kF2, 0), (47, 0, .iconst 1, 0)],
  [(48, 4, .if_icmp .ne 15, 63), (51, 2, .aload_n kF0, 0), (52, 2, .aload_n kF0, 0), (53, 5, .getfield 41, 0), (56, 2, .iload_n kF1, 0), (57, 6, .invokevirtual 332, 0), (60, 4, .goto 20, 80), (63, 2, .aload_n kF0, 0)],
  [(64, 2, .aload_n kF0, 0), (65, 5, .getfield 41, 0), (68, 2, .aload_n kF0, 0), (69, 5, .getfield 41, 0), (72, 1, .bipush 32, 0), (74, 2, .iload_n kF1, 0), (75, 0, .iadd, 0), (76, 5, .iaload, 0), (77, 6, .invokevirtual 336, 0)],
  [(80, 7, .ireturn, 0)]]
noncomputable def ky_236 : MethodName := ({ cls := "BonnetValleyModel", name := "thing", desc := "(II)I" } : Jvm.MethodName)
noncomputable def kRow_236 : pm_Row := ((ky_236, prog_15_method_57_code, 3, (Option.some Jvm.ClassFile.FieldType.int)), 13, (2, 3, 1), kc_236)
/-- BVModel.sheet -/
noncomputable def kc_237 : List (List (Nat × Nat × Instr × Nat)) := [[(0, 2, .aload_n kF0, 0), (1, 0, .iconst 0, 0), (2, 5, .putfield 3, 0), (5, 2, .iload_n kF1, 0), (6, 0, .i2l, 0), (7, 0, .lconst kG0, 0), (8, 1, .ldc2_w 339, 0), (11, 6, .invokestatic 126, 0), (14, 4, .ifCond .eq 9, 23)],
  [(17, 2, .iload_n kF2, 0), (18, 1, .bipush 8, 0), (20, 4, .if_icmp .le 5, 25), (23, 0, .iconst (-1), 0), (24, 7, .ireturn, 0), (25, 2, .iload_n kF1, 0), (26, 0, .iconst 3, 0), (27, 4, .if_icmp .eq 10, 37), (30, 2, .iload_n kF2, 0), (31, 4, .ifCond .ge 6, 37)],
  [(34, 1, .bipush (-2), 0), (36, 7, .ireturn, 0), (37, 0, .iconst 0, 0), (38, 3, .istore 5, 0), (40, 2, .iload_n kF3, 0), (41, 3, .istore 6, 0), (43, 0, .iconst 0, 0), (44, 3, .istore 7, 0), (46, 2, .iload 7, 0)],
  [(48, 2, .aload_n kF0, 0), (49, 5, .getfield 130, 0), (52, 4, .if_icmp .ge 91, 143), (55, 2, .iload_n kF1, 0), (56, 4, .ifCond .ne 9, 65), (59, 2, .iload 6, 0), (61, 0, .i2b, 0), (62, 4, .goto 16, 78)],
  [(65, 2, .iload_n kF1, 0), (66, 0, .iconst 1, 0), (67, 4, .if_icmp .ne 9, 76), (70, 2, .iload 6, 0), (72, 0, .i2s, 0), (73, 4, .goto 5, 78), (76, 2, .iload 6, 0), (78, 3, .istore 8, 0)],
  [(80, 2, .aload_n kF0, 0), (81, 5, .getfield 41, 0), (84, 1, .bipush 16, 0), (86, 2, .iload 7, 0), (88, 0, .iadd, 0), (89, 2, .iload_n kF1, 0), (90, 0, .iconst 3, 0), (91, 4, .if_icmp .eq 9, 100), (94, 2, .iload 7, 0)],
  [(96, 2, .iload_n kF2, 0), (97, 4, .if_icmp .lt 7, 104), (100, 0, .iconst 0, 0), (101, 4, .goto 13, 114), (104, 0, .iconst 0, 0), (105, 0, .iconst 4, 0), (106, 2, .iload 8, 0), (108, 5, .invokestatic 145, 0), (111, 5, .invokestatic 273, 0)],
  [(114, 5, .iastore, 0), (115, 2, .iload 5, 0), (117, 2, .aload_n kF0, 0), (118, 5, .getfield 41, 0), (121, 1, .bipush 16, 0), (123, 2, .iload 7, 0), (125, 0, .iadd, 0), (126, 5, .iaload, 0), (127, 0, .iadd, 0)],
  [(128, 3, .istore 5, 0), (130, 2, .iload 6, 0), (132, 2, .iload 4, 0), (134, 0, .iadd, 0), (135, 3, .istore 6, 0), (137, 3, .iinc 7 1, 0), (140, 4, .goto (-94), 46), (143, 2, .iload_n kF1, 0)],
  [(144, 0, .iconst 3, 0), (145, 4, .if_icmp .ne 8, 153), (148, 1, .bipush (-3), 0), (150, 4, .goto 5, 155), (153, 2, .iload 5, 0), (155, 7, .ireturn, 0)]]
noncomputable def ky_237 : MethodName := ({ cls := "BonnetValleyModel", name := "sheet", desc := "(IIII)I" } : Jvm.MethodName)
noncomputable def kRow_237 : pm_Row := ((ky_237, prog_15_method_58_code, 9, (Option.some Jvm.ClassFile.FieldType.int)), 13, (4, 9, 1), kc_237)
/-- BVModel.putsBy -/
noncomputable def kc_238 : List (List (Nat × Nat × Instr × Nat)) := [[(0, 0, .iconst 0, 0), (1, 3, .istore_n kF1, 0), (2, 2, .iload_n kF1, 0), (3, 1, .bipush 41, 0), (5, 4, .if_icmp .ge 29, 34), (8, 2, .aload_n kF0, 0), (9, 5, .getfield 68, 0), (12, 1, .bipush 41, 0), (14, 2, .aload_n kF0, 0), (15, 5, .getfield 188, 0)],
  [(18, 0, .imul, 0), (19, 2, .iload_n kF1, 0), (20, 0, .iadd, 0), (21, 2, .aload_n kF0, 0), (22, 5, .getfield 41, 0), (25, 2, .iload_n kF1, 0), (26, 5, .iaload, 0), (27, 5, .iastore, 0), (28, 3, .iinc 1 1, 0), (31, 4, .goto (-29), 2)],
  [(34, 7, .return_, 0)]]
noncomputable def ky_238 : MethodName := ({ cls := "BonnetValleyModel", name := "putsBy", desc := "()V" } : Jvm.MethodName)
noncomputable def kRow_238 : pm_Row := ((ky_238, prog_15_method_59_code, 2, (Option.none : Option Jvm.ClassFile.FieldType)), 13, (0, 2, 0), kc_238)
/-- BVModel.adds -/
noncomputable def kc_239 : List (List (Nat × Nat × Instr × Nat)) := [[(0, 2, .aload_n kF0, 0), (1, 0, .dup, 0), (2, 5, .getfield 188, 0), (5, 0, .iconst 1, 0), (6, 0, .iadd, 0), (7, 5, .putfield 188, 0), (10, 2, .aload_n kF0, 0), (11, 5, .getfield 188, 0), (14, 1, .bipush 15, 0)],
  [(16, 4, .if_icmp .le 43, 59), (19, 0, .iconst 0, 0), (20, 3, .istore_n kF2, 0), (21, 2, .iload_n kF2, 0), (22, 1, .sipush 615, 0), (25, 4, .if_icmp .ge 24, 49), (28, 2, .aload_n kF0, 0), (29, 5, .getfield 68, 0)],
  [(32, 2, .iload_n kF2, 0), (33, 2, .aload_n kF0, 0), (34, 5, .getfield 68, 0), (37, 2, .iload_n kF2, 0), (38, 1, .bipush 41, 0), (40, 0, .iadd, 0), (41, 5, .iaload, 0), (42, 5, .iastore, 0), (43, 3, .iinc 2 1, 0), (46, 4, .goto (-25), 21)],
  [(49, 2, .aload_n kF0, 0), (50, 0, .dup, 0), (51, 5, .getfield 188, 0), (54, 0, .iconst 1, 0), (55, 0, .isub, 0), (56, 5, .putfield 188, 0), (59, 2, .iload_n kF1, 0), (60, 7, .ireturn, 0)]]
noncomputable def ky_239 : MethodName := ({ cls := "BonnetValleyModel", name := "adds", desc := "(I)I" } : Jvm.MethodName)
noncomputable def kRow_239 : pm_Row := ((ky_239, prog_15_method_60_code, 3, (Option.some Jvm.ClassFile.FieldType.int)), 13, (1, 3, 1), kc_239)
/-- BVModel.counted -/
noncomputable def kc_240 : List (List (Nat × Nat × Instr × Nat)) := [[(0, 2, .iload_n kF1, 0), (1, 4, .ifCond .ge 7, 8), (4, 2, .iload_n kF1, 0), (5, 4, .goto 8, 13), (8, 2, .aload_n kF0, 0), (9, 2, .iload_n kF1, 0), (10, 6, .invokevirtual 341, 0), (13, 7, .ireturn, 0)]]
noncomputable def ky_240 : MethodName := ({ cls := "BonnetValleyModel", name := "counted", desc := "(I)I" } : Jvm.MethodName)
noncomputable def kRow_240 : pm_Row := ((ky_240, prog_15_method_61_code, 2, (Option.some Jvm.ClassFile.FieldType.int)), 13, (1, 2, 1), kc_240)
/-- BVModel.undo -/
noncomputable def kc_241 : List (List (Nat × Nat × Instr × Nat)) := [[(0, 2, .aload_n kF0, 0), (1, 0, .iconst 0, 0), (2, 5, .putfield 3, 0), (5, 2, .aload_n kF0, 0), (6, 5, .getfield 188, 0), (9, 4, .ifCond .ne 5, 14), (12, 0, .iconst (-1), 0), (13, 7, .ireturn, 0), (14, 2, .aload_n kF0, 0), (15, 0, .dup, 0)],
  [(16, 5, .getfield 188, 0), (19, 0, .iconst 1, 0), (20, 0, .isub, 0), (21, 5, .putfield 188, 0), (24, 0, .iconst 0, 0), (25, 3, .istore_n kF1, 0), (26, 2, .iload_n kF1, 0), (27, 1, .bipush 41, 0), (29, 4, .if_icmp .ge 29, 58)],
  [(32, 2, .aload_n kF0, 0), (33, 5, .getfield 41, 0), (36, 2, .iload_n kF1, 0), (37, 2, .aload_n kF0, 0), (38, 5, .getfield 68, 0), (41, 1, .bipush 41, 0), (43, 2, .aload_n kF0, 0), (44, 5, .getfield 188, 0), (47, 0, .imul, 0)],
  [(48, 2, .iload_n kF1, 0), (49, 0, .iadd, 0), (50, 5, .iaload, 0), (51, 5, .iastore, 0), (52, 3, .iinc 1 1, 0), (55, 4, .goto (-29), 26), (58, 2, .aload_n kF0, 0), (59, 5, .getfield 188, 0), (62, 7, .ireturn, 0)]]
noncomputable def ky_241 : MethodName := ({ cls := "BonnetValleyModel", name := "undo", desc := "()I" } : Jvm.MethodName)
noncomputable def kRow_241 : pm_Row := ((ky_241, prog_15_method_62_code, 2, (Option.some Jvm.ClassFile.FieldType.int)), 13, (0, 2, 1), kc_241)
/-- BVModel.hourGoes -/
noncomputable def kc_242 : List (List (Nat × Nat × Instr × Nat)) := [[(0, 0, .iconst 0, 0), (1, 3, .istore_n kF2, 0), (2, 2, .iload_n kF2, 0), (3, 2, .aload_n kF0, 0), (4, 5, .getfield 130, 0), (7, 4, .if_icmp .ge 33, 40), (10, 2, .aload_n kF0, 0), (11, 5, .getfield 71, 0), (14, 2, .iload_n kF2, 0), (15, 2, .aload_n kF1, 0)],
  [(16, 1, .bipush 24, 0), (18, 2, .iload_n kF2, 0), (19, 0, .iadd, 0), (20, 5, .iaload, 0), (21, 2, .aload_n kF0, 0), (22, 2, .aload_n kF1, 0), (23, 2, .aload_n kF0, 0), (24, 2, .aload_n kF1, 0), (25, 2, .iload_n kF2, 0), (26, 6, .invokevirtual 300, 0), (29, 6, .invokevirtual 323, 0)],
  [(32, 0, .ior, 0), (33, 5, .iastore, 0), (34, 3, .iinc 2 1, 0), (37, 4, .goto (-35), 2), (40, 0, .iconst 0, 0), (41, 3, .istore_n kF2, 0), (42, 2, .iload_n kF2, 0), (43, 2, .aload_n kF0, 0), (44, 5, .getfield 130, 0), (47, 4, .if_icmp .ge 67, 114)],
  [(50, 2, .iload_n kF2, 0), (51, 0, .iconst 1, 0), (52, 0, .iadd, 0), (53, 3, .istore_n kF3, 0), (54, 2, .iload_n kF3, 0), (55, 2, .aload_n kF0, 0), (56, 5, .getfield 130, 0), (59, 4, .if_icmp .ge 49, 108), (62, 2, .aload_n kF0, 0), (63, 2, .aload_n kF1, 0)],
  [(64, 2, .iload_n kF2, 0), (65, 2, .iload_n kF3, 0), (66, 6, .invokevirtual 344, 0), (69, 4, .ifCond .eq 33, 102), (72, 2, .aload_n kF0, 0), (73, 5, .getfield 71, 0), (76, 2, .iload_n kF2, 0), (77, 0, .dup2, 0), (78, 5, .iaload, 0), (79, 2, .aload_n kF1, 0)],
  [(80, 1, .bipush 24, 0), (82, 2, .iload_n kF3, 0), (83, 0, .iadd, 0), (84, 5, .iaload, 0), (85, 0, .ior, 0), (86, 5, .iastore, 0), (87, 2, .aload_n kF0, 0), (88, 5, .getfield 71, 0), (91, 2, .iload_n kF3, 0), (92, 0, .dup2, 0), (93, 5, .iaload, 0), (94, 2, .aload_n kF1, 0), (95, 1, .bipush 24, 0)],
  [(97, 2, .iload_n kF2, 0), (98, 0, .iadd, 0), (99, 5, .iaload, 0), (100, 0, .ior, 0), (101, 5, .iastore, 0), (102, 3, .iinc 3 1, 0), (105, 4, .goto (-51), 54), (108, 3, .iinc 2 1, 0), (111, 4, .goto (-69), 42)],
  [(114, 0, .iconst 0, 0), (115, 3, .istore_n kF2, 0), (116, 2, .iload_n kF2, 0), (117, 2, .aload_n kF0, 0), (118, 5, .getfield 130, 0), (121, 4, .if_icmp .ge 21, 142), (124, 2, .aload_n kF1, 0), (125, 1, .bipush 24, 0), (127, 2, .iload_n kF2, 0)],
  [(128, 0, .iadd, 0), (129, 2, .aload_n kF0, 0), (130, 5, .getfield 71, 0), (133, 2, .iload_n kF2, 0), (134, 5, .iaload, 0), (135, 5, .iastore, 0), (136, 3, .iinc 2 1, 0), (139, 4, .goto (-23), 116), (142, 2, .aload_n kF1, 0), (143, 1, .bipush 40, 0)],
  [(145, 0, .dup2, 0), (146, 5, .iaload, 0), (147, 0, .iconst 1, 0), (148, 0, .iadd, 0), (149, 5, .iastore, 0), (150, 7, .return_, 0)]]
noncomputable def ky_242 : MethodName := ({ cls := "BonnetValleyModel", name := "hourGoes", desc := "([I)V" } : Jvm.MethodName)
noncomputable def kRow_242 : pm_Row := ((ky_242, prog_15_method_63_code, 4, (Option.none : Option Jvm.ClassFile.FieldType)), 13, (1, 4, 0), kc_242)
/-- BVModel.goesOn -/
noncomputable def kc_243 : List (List (Nat × Nat × Instr × Nat)) := [[(0, 0, .iconst 0, 0), (1, 3, .istore_n kF3, 0), (2, 2, .iload_n kF3, 0), (3, 2, .iload_n kF2, 0), (4, 4, .if_icmp .ge 14, 18), (7, 2, .aload_n kF0, 0), (8, 2, .aload_n kF1, 0), (9, 6, .invokevirtual 347, 0), (12, 3, .iinc 3 1, 0), (15, 4, .goto (-13), 2)],
  [(18, 7, .return_, 0)]]
noncomputable def ky_243 : MethodName := ({ cls := "BonnetValleyModel", name := "goesOn", desc := "([II)V" } : Jvm.MethodName)
noncomputable def kRow_243 : pm_Row := ((ky_243, prog_15_method_64_code, 4, (Option.none : Option Jvm.ClassFile.FieldType)), 13, (2, 4, 0), kc_243)
/-- BVModel.facesOne -/
noncomputable def kc_244 : List (List (Nat × Nat × Instr × Nat)) := [[(0, 2, .aload_n kF0, 0), (1, 2, .iload_n kF2, 0), (2, 6, .invokevirtual 315, 0), (5, 4, .ifCond .eq 15, 20), (8, 2, .iload_n kF3, 0), (9, 0, .i2l, 0), (10, 0, .lconst kG0, 0), (11, 1, .ldc2_w 351, 0), (14, 6, .invokestatic 126, 0)],
  [(17, 4, .ifCond .ne 5, 22), (20, 0, .iconst (-1), 0), (21, 7, .ireturn, 0), (22, 2, .aload_n kF1, 0), (23, 1, .bipush 8, 0), (25, 2, .iload_n kF2, 0), (26, 0, .iadd, 0), (27, 5, .iaload, 0), (28, 2, .iload_n kF3, 0), (29, 6, .invokestatic 285, 0)],
  [(32, 3, .istore 4, 0), (34, 2, .aload_n kF1, 0), (35, 1, .bipush 8, 0), (37, 2, .iload_n kF2, 0), (38, 0, .iadd, 0), (39, 2, .iload_n kF3, 0), (40, 5, .iastore, 0), (41, 2, .iload 4, 0), (43, 7, .ireturn, 0)]]
noncomputable def ky_244 : MethodName := ({ cls := "BonnetValleyModel", name := "facesOne", desc := "([III)I" } : Jvm.MethodName)
noncomputable def kRow_244 : pm_Row := ((ky_244, prog_15_method_65_code, 5, (Option.some Jvm.ClassFile.FieldType.int)), 13, (3, 5, 1), kc_244)
/-- BVModel.stepsOne -/
noncomputable def kc_245 : List (List (Nat × Nat × Instr × Nat)) := [[(0, 2, .aload_n kF0, 0), (1, 2, .iload_n kF2, 0), (2, 6, .invokevirtual 315, 0), (5, 4, .ifCond .eq 15, 20), (8, 2, .iload_n kF3, 0), (9, 0, .i2l, 0), (10, 0, .lconst kG0, 0), (11, 1, .ldc2_w 351, 0), (14, 6, .invokestatic 126, 0)],
  [(17, 4, .ifCond .ne 5, 22), (20, 0, .iconst (-1), 0), (21, 7, .ireturn, 0), (22, 2, .aload_n kF0, 0), (23, 2, .aload_n kF1, 0), (24, 2, .iload_n kF2, 0), (25, 5, .iaload, 0), (26, 2, .iload_n kF3, 0), (27, 6, .invokevirtual 353, 0), (30, 3, .istore 4, 0)],
  [(32, 2, .iload 4, 0), (34, 4, .ifCond .lt 13, 47), (37, 2, .aload_n kF0, 0), (38, 5, .getfield 33, 0), (41, 2, .iload 4, 0), (43, 5, .baload, 0), (44, 4, .ifCond .eq 6, 50), (47, 1, .bipush (-2), 0)],
  [(49, 7, .ireturn, 0), (50, 2, .aload_n kF1, 0), (51, 2, .iload_n kF2, 0), (52, 2, .iload 4, 0), (54, 5, .iastore, 0), (55, 2, .iload 4, 0), (57, 7, .ireturn, 0)]]
noncomputable def ky_245 : MethodName := ({ cls := "BonnetValleyModel", name := "stepsOne", desc := "([III)I" } : Jvm.MethodName)
noncomputable def kRow_245 : pm_Row := ((ky_245, prog_15_method_66_code, 5, (Option.some Jvm.ClassFile.FieldType.int)), 13, (3, 5, 1), kc_245)
/-- BVModel.trimsOne -/
noncomputable def kc_246 : List (List (Nat × Nat × Instr × Nat)) := [[(0, 2, .aload_n kF0, 0), (1, 2, .iload_n kF1, 0), (2, 6, .invokevirtual 315, 0), (5, 4, .ifCond .eq 15, 20), (8, 2, .iload_n kF2, 0), (9, 0, .i2l, 0), (10, 0, .lconst kG0, 0), (11, 1, .ldc2_w 356, 0), (14, 6, .invokestatic 126, 0)],
  [(17, 4, .ifCond .ne 5, 22), (20, 0, .iconst (-1), 0), (21, 7, .ireturn, 0), (22, 2, .aload_n kF0, 0), (23, 5, .getfield 41, 0), (26, 1, .bipush 16, 0), (28, 2, .iload_n kF1, 0), (29, 0, .iadd, 0), (30, 5, .iaload, 0), (31, 3, .istore_n kF3, 0)],
  [(32, 2, .aload_n kF0, 0), (33, 5, .getfield 41, 0), (36, 1, .bipush 16, 0), (38, 2, .iload_n kF1, 0), (39, 0, .iadd, 0), (40, 2, .iload_n kF2, 0), (41, 5, .iastore, 0), (42, 2, .iload_n kF3, 0), (43, 7, .ireturn, 0)]]
noncomputable def ky_246 : MethodName := ({ cls := "BonnetValleyModel", name := "trimsOne", desc := "(II)I" } : Jvm.MethodName)
noncomputable def kRow_246 : pm_Row := ((ky_246, prog_15_method_67_code, 4, (Option.some Jvm.ClassFile.FieldType.int)), 13, (2, 4, 1), kc_246)
/-- BVModel.putsOne -/
noncomputable def kc_247 : List (List (Nat × Nat × Instr × Nat)) := [[(0, 2, .aload_n kF0, 0), (1, 2, .iload_n kF1, 0), (2, 6, .invokevirtual 327, 0), (5, 4, .ifCond .eq 11, 16), (8, 2, .aload_n kF0, 0), (9, 2, .iload_n kF2, 0), (10, 6, .invokevirtual 358, 0), (13, 4, .ifCond .ne 5, 18)],
  [(16, 0, .iconst (-1), 0), (17, 7, .ireturn, 0), (18, 2, .aload_n kF0, 0), (19, 5, .getfield 41, 0), (22, 1, .bipush 32, 0), (24, 2, .iload_n kF1, 0), (25, 0, .iadd, 0), (26, 5, .iaload, 0), (27, 3, .istore_n kF3, 0), (28, 2, .aload_n kF0, 0), (29, 5, .getfield 41, 0)],
  [(32, 1, .bipush 32, 0), (34, 2, .iload_n kF1, 0), (35, 0, .iadd, 0), (36, 2, .iload_n kF2, 0), (37, 5, .iastore, 0), (38, 2, .iload_n kF3, 0), (39, 2, .iload_n kF2, 0), (40, 4, .if_icmp .ne 8, 48), (43, 1, .bipush (-2), 0), (45, 4, .goto 4, 49)],
  [(48, 2, .iload_n kF3, 0), (49, 7, .ireturn, 0)]]
noncomputable def ky_247 : MethodName := ({ cls := "BonnetValleyModel", name := "putsOne", desc := "(II)I" } : Jvm.MethodName)
noncomputable def kRow_247 : pm_Row := ((ky_247, prog_15_method_68_code, 4, (Option.some Jvm.ClassFile.FieldType.int)), 13, (2, 4, 1), kc_247)
/-- BVModel.hours -/
noncomputable def kc_248 : List (List (Nat × Nat × Instr × Nat)) := [[(0, 2, .aload_n kF0, 0), (1, 0, .iconst 0, 0), (2, 5, .putfield 3, 0), (5, 2, .iload_n kF1, 0), (6, 0, .i2l, 0), (7, 0, .lconst kG0, 0), (8, 1, .ldc2_w 361, 0), (11, 6, .invokestatic 126, 0), (14, 4, .ifCond .ne 5, 19)],
  [(17, 0, .iconst (-1), 0), (18, 7, .ireturn, 0), (19, 2, .aload_n kF0, 0), (20, 6, .invokevirtual 363, 0), (23, 2, .aload_n kF0, 0), (24, 2, .aload_n kF0, 0), (25, 5, .getfield 41, 0), (28, 6, .invokevirtual 366, 0), (31, 3, .istore_n kF2, 0)],
  [(32, 2, .aload_n kF0, 0), (33, 2, .aload_n kF0, 0), (34, 5, .getfield 41, 0), (37, 2, .iload_n kF1, 0), (38, 6, .invokevirtual 370, 0), (41, 0, .iconst 0, 0), (42, 3, .istore_n kF3, 0), (43, 0, .iconst 0, 0), (44, 3, .istore 4, 0), (46, 2, .iload 4, 0)],
  [(48, 2, .aload_n kF0, 0), (49, 5, .getfield 130, 0), (52, 4, .if_icmp .ge 22, 74), (55, 2, .iload_n kF3, 0), (56, 2, .aload_n kF0, 0), (57, 5, .getfield 41, 0), (60, 1, .bipush 24, 0), (62, 2, .iload 4, 0)],
  [(64, 0, .iadd, 0), (65, 5, .iaload, 0), (66, 0, .ior, 0), (67, 3, .istore_n kF3, 0), (68, 3, .iinc 4 1, 0), (71, 4, .goto (-25), 46), (74, 2, .aload_n kF0, 0), (75, 0, .iconst 0, 0), (76, 5, .putfield 15, 0), (79, 2, .aload_n kF0, 0)],
  [(80, 2, .aload_n kF0, 0), (81, 2, .aload_n kF0, 0), (82, 5, .getfield 41, 0), (85, 6, .invokevirtual 366, 0), (88, 2, .iload_n kF2, 0), (89, 0, .isub, 0), (90, 0, .i2l, 0), (91, 6, .invokevirtual 373, 0), (94, 2, .aload_n kF0, 0), (95, 2, .iload_n kF3, 0)],
  [(96, 0, .i2l, 0), (97, 6, .invokevirtual 373, 0), (100, 2, .aload_n kF0, 0), (101, 2, .aload_n kF0, 0), (102, 2, .aload_n kF0, 0), (103, 5, .getfield 41, 0), (106, 6, .invokevirtual 366, 0), (109, 6, .invokevirtual 341, 0)],
  [(112, 7, .ireturn, 0)]]
noncomputable def ky_248 : MethodName := ({ cls := "BonnetValleyModel", name := "hours", desc := "(I)I" } : Jvm.MethodName)
noncomputable def kRow_248 : pm_Row := ((ky_248, prog_15_method_69_code, 5, (Option.some Jvm.ClassFile.FieldType.int)), 13, (1, 5, 1), kc_248)
/-- BVModel.faces -/
noncomputable def kc_249 : List (List (Nat × Nat × Instr × Nat)) := [[(0, 2, .aload_n kF0, 0), (1, 0, .iconst 0, 0), (2, 5, .putfield 3, 0), (5, 2, .aload_n kF0, 0), (6, 6, .invokevirtual 363, 0), (9, 2, .aload_n kF0, 0), (10, 2, .aload_n kF0, 0), (11, 2, .aload_n kF0, 0), (12, 5, .getfield 41, 0), (15, 2, .iload_n kF1, 0)],
  [(16, 2, .iload_n kF2, 0), (17, 6, .invokevirtual 377, 0), (20, 6, .invokevirtual 380, 0), (23, 7, .ireturn, 0)]]
noncomputable def ky_249 : MethodName := ({ cls := "BonnetValleyModel", name := "faces", desc := "(II)I" } : Jvm.MethodName)
noncomputable def kRow_249 : pm_Row := ((ky_249, prog_15_method_70_code, 3, (Option.some Jvm.ClassFile.FieldType.int)), 13, (2, 3, 1), kc_249)
/-- BVModel.steps -/
noncomputable def kc_250 : List (List (Nat × Nat × Instr × Nat)) := [[(0, 2, .aload_n kF0, 0), (1, 0, .iconst 0, 0), (2, 5, .putfield 3, 0), (5, 2, .aload_n kF0, 0), (6, 6, .invokevirtual 363, 0), (9, 2, .aload_n kF0, 0), (10, 2, .aload_n kF0, 0), (11, 2, .aload_n kF0, 0), (12, 5, .getfield 41, 0), (15, 2, .iload_n kF1, 0)],
  [(16, 2, .iload_n kF2, 0), (17, 6, .invokevirtual 383, 0), (20, 6, .invokevirtual 380, 0), (23, 7, .ireturn, 0)]]
noncomputable def ky_250 : MethodName := ({ cls := "BonnetValleyModel", name := "steps", desc := "(II)I" } : Jvm.MethodName)
noncomputable def kRow_250 : pm_Row := ((ky_250, prog_15_method_71_code, 3, (Option.some Jvm.ClassFile.FieldType.int)), 13, (2, 3, 1), kc_250)
/-- BVModel.trims -/
noncomputable def kc_251 : List (List (Nat × Nat × Instr × Nat)) := [[(0, 2, .aload_n kF0, 0), (1, 0, .iconst 0, 0), (2, 5, .putfield 3, 0), (5, 2, .aload_n kF0, 0), (6, 6, .invokevirtual 363, 0), (9, 2, .aload_n kF0, 0), (10, 2, .aload_n kF0, 0), (11, 2, .iload_n kF1, 0), (12, 2, .iload_n kF2, 0), (13, 6, .invokevirtual 386, 0)],
  [(16, 6, .invokevirtual 380, 0), (19, 7, .ireturn, 0)]]
noncomputable def ky_251 : MethodName := ({ cls := "BonnetValleyModel", name := "trims", desc := "(II)I" } : Jvm.MethodName)
noncomputable def kRow_251 : pm_Row := ((ky_251, prog_15_method_72_code, 3, (Option.some Jvm.ClassFile.FieldType.int)), 13, (2, 3, 1), kc_251)
/-- BVModel.puts -/
noncomputable def kc_252 : List (List (Nat × Nat × Instr × Nat)) := [[(0, 2, .aload_n kF0, 0), (1, 0, .iconst 0, 0), (2, 5, .putfield 3, 0), (5, 2, .aload_n kF0, 0), (6, 6, .invokevirtual 363, 0), (9, 2, .aload_n kF0, 0), (10, 2, .aload_n kF0, 0), (11, 2, .iload_n kF1, 0), (12, 2, .iload_n kF2, 0), (13, 6, .invokevirtual 389, 0)],
  [(16, 6, .invokevirtual 380, 0), (19, 7, .ireturn, 0)]]
noncomputable def ky_252 : MethodName := ({ cls := "BonnetValleyModel", name := "puts", desc := "(II)I" } : Jvm.MethodName)
noncomputable def kRow_252 : pm_Row := ((ky_252, prog_15_method_73_code, 3, (Option.some Jvm.ClassFile.FieldType.int)), 13, (2, 3, 1), kc_252)
/-- BVModel.readsAct -/
noncomputable def kc_253 : List (List (Nat × Nat × Instr × Nat)) := [[(0, 2, .aload_n kF0, 0), (1, 5, .getfield 392, 0), (4, 3, .istore_n kF1, 0), (5, 2, .aload_n kF0, 0), (6, 5, .getfield 74, 0), (9, 2, .iload_n kF1, 0), (10, 2, .aload_n kF0, 0), (11, 1, .ldc_w 395, 0), (14, 6, .invokevirtual 184, 0)],
  [(17, 5, .iastore, 0), (18, 2, .aload_n kF0, 0), (19, 0, .dup, 0), (20, 5, .getfield 392, 0), (23, 0, .iconst 1, 0), (24, 0, .iadd, 0), (25, 5, .putfield 392, 0), (28, 2, .aload_n kF0, 0), (29, 5, .getfield 74, 0)],
  [(32, 2, .iload_n kF1, 0), (33, 5, .iaload, 0), (34, 4, .ifCond .ge 5, 39), (37, 0, .iconst 0, 0), (38, 7, .ireturn, 0), (39, 2, .aload_n kF0, 0), (40, 5, .getfield 77, 0), (43, 2, .iload_n kF1, 0), (44, 2, .aload_n kF0, 0), (45, 0, .iconst 1, 0), (46, 6, .invokevirtual 224, 0)],
  [(49, 5, .iastore, 0), (50, 2, .aload_n kF0, 0), (51, 5, .getfield 77, 0), (54, 2, .iload_n kF1, 0), (55, 5, .iaload, 0), (56, 4, .ifCond .lt 12, 68), (59, 2, .aload_n kF0, 0), (60, 5, .getfield 74, 0), (63, 2, .iload_n kF1, 0)],
  [(64, 5, .iaload, 0), (65, 4, .ifCond .ne 18, 83), (68, 2, .aload_n kF0, 0), (69, 5, .getfield 77, 0), (72, 2, .iload_n kF1, 0), (73, 5, .iaload, 0), (74, 4, .ifCond .lt 7, 81), (77, 0, .iconst 1, 0), (78, 4, .goto 4, 82)],
  [(81, 0, .iconst 0, 0), (82, 7, .ireturn, 0), (83, 2, .aload_n kF0, 0), (84, 5, .getfield 80, 0), (87, 2, .iload_n kF1, 0), (88, 2, .aload_n kF0, 0), (89, 0, .iconst 1, 0), (90, 6, .invokevirtual 224, 0), (93, 5, .iastore, 0), (94, 2, .aload_n kF0, 0), (95, 5, .getfield 80, 0)],
  [(98, 2, .iload_n kF1, 0), (99, 5, .iaload, 0), (100, 4, .ifCond .lt 13, 113), (103, 2, .aload_n kF0, 0), (104, 5, .getfield 74, 0), (107, 2, .iload_n kF1, 0), (108, 5, .iaload, 0), (109, 0, .iconst 4, 0), (110, 4, .if_icmp .ge 18, 128)],
  [(113, 2, .aload_n kF0, 0), (114, 5, .getfield 80, 0), (117, 2, .iload_n kF1, 0), (118, 5, .iaload, 0), (119, 4, .ifCond .lt 7, 126), (122, 0, .iconst 1, 0), (123, 4, .goto 4, 127), (126, 0, .iconst 0, 0), (127, 7, .ireturn, 0)],
  [(128, 2, .aload_n kF0, 0), (129, 5, .getfield 83, 0), (132, 2, .iload_n kF1, 0), (133, 2, .aload_n kF0, 0), (134, 0, .iconst 1, 0), (135, 6, .invokevirtual 224, 0), (138, 5, .iastore, 0), (139, 2, .aload_n kF0, 0), (140, 5, .getfield 83, 0), (143, 2, .iload_n kF1, 0)],
  [(144, 5, .iaload, 0), (145, 4, .ifCond .lt 7, 152), (148, 0, .iconst 1, 0), (149, 4, .goto 4, 153), (152, 0, .iconst 0, 0), (153, 7, .ireturn, 0)]]
noncomputable def ky_253 : MethodName := ({ cls := "BonnetValleyModel", name := "readsAct", desc := "()Z" } : Jvm.MethodName)
noncomputable def kRow_253 : pm_Row := ((ky_253, prog_15_method_74_code, 2, (Option.some Jvm.ClassFile.FieldType.boolean)), 13, (0, 2, 2), kc_253)
/-- BVModel.does -/
noncomputable def kc_254 : List (List (Nat × Nat × Instr × Nat)) := [[(0, 2, .aload_n kF0, 0), (1, 5, .getfield 77, 0), (4, 2, .iload_n kF1, 0), (5, 5, .iaload, 0), (6, 3, .istore_n kF2, 0), (7, 2, .aload_n kF0, 0), (8, 5, .getfield 74, 0), (11, 2, .iload_n kF1, 0), (12, 5, .iaload, 0), (13, 4, .tableswitch 110 0 3 #[31, 42, 66, 90], 31)],
  [],
  [(44, 2, .aload_n kF0, 0), (45, 2, .aload_n kF0, 0), (46, 5, .getfield 41, 0)],
  [(49, 2, .iload_n kF2, 0), (50, 6, .invokevirtual 370, 0), (53, 0, .iconst 1, 0), (54, 7, .ireturn, 0), (55, 2, .aload_n kF0, 0), (56, 2, .aload_n kF0, 0), (57, 5, .getfield 41, 0), (60, 2, .iload_n kF2, 0), (61, 2, .aload_n kF0, 0), (62, 5, .getfield 80, 0)],
  [(65, 2, .iload_n kF1, 0), (66, 5, .iaload, 0), (67, 6, .invokevirtual 377, 0), (70, 4, .ifCond .lt 7, 77), (73, 0, .iconst 1, 0), (74, 4, .goto 4, 78), (77, 0, .iconst 0, 0), (78, 7, .ireturn, 0), (79, 2, .aload_n kF0, 0)],
  [(80, 2, .aload_n kF0, 0), (81, 5, .getfield 41, 0), (84, 2, .iload_n kF2, 0), (85, 2, .aload_n kF0, 0), (86, 5, .getfield 80, 0), (89, 2, .iload_n kF1, 0), (90, 5, .iaload, 0), (91, 6, .invokevirtual 383, 0), (94, 4, .ifCond .lt 7, 101)],
  [(97, 0, .iconst 1, 0), (98, 4, .goto 4, 102), (101, 0, .iconst 0, 0), (102, 7, .ireturn, 0), (103, 2, .aload_n kF0, 0), (104, 2, .iload_n kF2, 0), (105, 2, .aload_n kF0, 0), (106, 5, .getfield 80, 0), (109, 2, .iload_n kF1, 0), (110, 5, .iaload, 0), (111, 6, .invokevirtual 386, 0)],
  [(114, 4, .ifCond .lt 7, 121), (117, 0, .iconst 1, 0), (118, 4, .goto 4, 122), (121, 0, .iconst 0, 0), (122, 7, .ireturn, 0), (123, 2, .aload_n kF0, 0), (124, 5, .getfield 80, 0), (127, 2, .iload_n kF1, 0)],
  [(128, 5, .iaload, 0), (129, 2, .aload_n kF0, 0), (130, 5, .getfield 24, 0), (133, 4, .if_icmp .ge 20, 153), (136, 2, .aload_n kF0, 0), (137, 5, .getfield 83, 0), (140, 2, .iload_n kF1, 0), (141, 5, .iaload, 0), (142, 2, .aload_n kF0, 0), (143, 5, .getfield 27, 0)],
  [(146, 4, .if_icmp .ge 7, 153), (149, 0, .iconst 1, 0), (150, 4, .goto 4, 154), (153, 0, .iconst 0, 0), (154, 3, .istore_n kF3, 0), (155, 2, .iload_n kF3, 0), (156, 4, .ifCond .eq 33, 189), (159, 2, .aload_n kF0, 0)],
  [(160, 2, .iload_n kF2, 0), (161, 2, .aload_n kF0, 0), (162, 5, .getfield 27, 0), (165, 2, .aload_n kF0, 0), (166, 5, .getfield 80, 0), (169, 2, .iload_n kF1, 0), (170, 5, .iaload, 0), (171, 0, .imul, 0), (172, 2, .aload_n kF0, 0), (173, 5, .getfield 83, 0)],
  [(176, 2, .iload_n kF1, 0), (177, 5, .iaload, 0), (178, 0, .iadd, 0), (179, 6, .invokevirtual 389, 0), (182, 4, .ifCond .lt 7, 189), (185, 0, .iconst 1, 0), (186, 4, .goto 4, 190), (189, 0, .iconst 0, 0), (190, 7, .ireturn, 0)]]
noncomputable def ky_254 : MethodName := ({ cls := "BonnetValleyModel", name := "does", desc := "(I)Z" } : Jvm.MethodName)
noncomputable def kRow_254 : pm_Row := ((ky_254, prog_15_method_75_code, 4, (Option.some Jvm.ClassFile.FieldType.boolean)), 13, (1, 4, 2), kc_254)
/-- BVModel.day -/
noncomputable def kc_255 : List (List (Nat × Nat × Instr × Nat)) := [[(0, 2, .aload_n kF0, 0), (1, 0, .iconst 0, 0), (2, 5, .putfield 3, 0), (5, 2, .aload_n kF0, 0), (6, 1, .bipush 60, 0), (8, 6, .invokevirtual 175, 0), (11, 3, .istore_n kF1, 0), (12, 2, .aload_n kF0, 0), (13, 0, .iconst 0, 0), (14, 5, .putfield 392, 0)],
  [(17, 0, .iconst 1, 0), (18, 3, .istore_n kF2, 0), (19, 2, .iload_n kF2, 0), (20, 4, .ifCond .eq 22, 42), (23, 2, .aload_n kF0, 0), (24, 5, .getfield 139, 0), (27, 2, .aload_n kF0, 0), (28, 5, .getfield 151, 0), (31, 4, .if_icmp .ge 11, 42)],
  [(34, 2, .aload_n kF0, 0), (35, 6, .invokevirtual 397, 0), (38, 3, .istore_n kF2, 0), (39, 4, .goto (-20), 19), (42, 2, .aload_n kF0, 0), (43, 2, .iload_n kF1, 0), (44, 1, .bipush 60, 0), (46, 2, .iload_n kF2, 0), (47, 6, .invokevirtual 213, 0)],
  [(50, 3, .istore_n kF3, 0), (51, 2, .iload_n kF3, 0), (52, 4, .ifCond .ge 5, 57), (55, 2, .iload_n kF3, 0), (56, 7, .ireturn, 0), (57, 2, .aload_n kF0, 0), (58, 6, .invokevirtual 363, 0), (61, 0, .iconst 0, 0), (62, 3, .istore 4, 0)],
  [(64, 2, .iload 4, 0), (66, 2, .aload_n kF0, 0), (67, 5, .getfield 392, 0), (70, 4, .if_icmp .ge 18, 88), (73, 2, .aload_n kF0, 0), (74, 2, .iload 4, 0), (76, 6, .invokevirtual 400, 0), (79, 4, .ifCond .eq 9, 88)],
  [(82, 3, .iinc 4 1, 0), (85, 4, .goto (-21), 64), (88, 2, .aload_n kF0, 0), (89, 0, .iconst 0, 0), (90, 5, .putfield 15, 0), (93, 2, .aload_n kF0, 0), (94, 2, .iload 4, 0)],
  [(96, 2, .aload_n kF0, 0), (97, 5, .getfield 392, 0), (100, 4, .if_icmp .ge 7, 107), (103, 0, .iconst 1, 0), (104, 4, .goto 4, 108), (107, 0, .iconst 0, 0), (108, 6, .invokestatic 154, 0), (111, 0, .i2l, 0)],
  [(112, 6, .invokevirtual 373, 0), (115, 2, .aload_n kF0, 0), (116, 2, .aload_n kF0, 0), (117, 5, .getfield 41, 0), (120, 1, .bipush 40, 0), (122, 5, .iaload, 0), (123, 0, .i2l, 0), (124, 6, .invokevirtual 373, 0), (127, 2, .iload 4, 0)],
  [(129, 4, .ifCond .le 12, 141), (132, 2, .aload_n kF0, 0), (133, 2, .iload 4, 0), (135, 6, .invokevirtual 341, 0), (138, 4, .goto 4, 142), (141, 0, .iconst 0, 0), (142, 7, .ireturn, 0)]]
noncomputable def ky_255 : MethodName := ({ cls := "BonnetValleyModel", name := "day", desc := "()I" } : Jvm.MethodName)
noncomputable def kRow_255 : pm_Row := ((ky_255, prog_15_method_76_code, 5, (Option.some Jvm.ClassFile.FieldType.int)), 13, (0, 5, 1), kc_255)
/-- BVModel.copies -/
noncomputable def kc_256 : List (List (Nat × Nat × Instr × Nat)) := [[(0, 0, .iconst 0, 0), (1, 3, .istore_n kF1, 0), (2, 2, .iload_n kF1, 0), (3, 1, .bipush 41, 0), (5, 4, .if_icmp .ge 21, 26), (8, 2, .aload_n kF0, 0), (9, 5, .getfield 44, 0), (12, 2, .iload_n kF1, 0), (13, 2, .aload_n kF0, 0), (14, 5, .getfield 41, 0)],
  [(17, 2, .iload_n kF1, 0), (18, 5, .iaload, 0), (19, 5, .iastore, 0), (20, 3, .iinc 1 1, 0), (23, 4, .goto (-21), 2), (26, 7, .return_, 0)]]
noncomputable def ky_256 : MethodName := ({ cls := "BonnetValleyModel", name := "copies", desc := "()V" } : Jvm.MethodName)
noncomputable def kRow_256 : pm_Row := ((ky_256, prog_15_method_77_code, 2, (Option.none : Option Jvm.ClassFile.FieldType)), 13, (0, 2, 0), kc_256)
/-- BVModel.sees -/
noncomputable def kc_257 : List (List (Nat × Nat × Instr × Nat)) := [[(0, 2, .aload_n kF0, 0), (1, 0, .iconst 0, 0), (2, 5, .putfield 3, 0), (5, 2, .aload_n kF0, 0), (6, 2, .iload_n kF1, 0), (7, 6, .invokevirtual 315, 0), (10, 4, .ifCond .ne 7, 17), (13, 1, .ldc2_w 403, 0)],
  [(16, 7, .lreturn, 0), (17, 2, .aload_n kF0, 0), (18, 2, .aload_n kF0, 0), (19, 5, .getfield 41, 0), (22, 2, .iload_n kF1, 0), (23, 6, .invokevirtual 300, 0), (26, 3, .lstore_n kF2, 0), (27, 2, .aload_n kF0, 0), (28, 0, .iconst 0, 0), (29, 5, .putfield 15, 0)],
  [(32, 2, .aload_n kF0, 0), (33, 2, .lload_n kF2, 0), (34, 6, .invokestatic 405, 0), (37, 0, .i2l, 0), (38, 6, .invokevirtual 373, 0), (41, 2, .aload_n kF0, 0), (42, 2, .aload_n kF0, 0), (43, 2, .aload_n kF0, 0), (44, 5, .getfield 41, 0), (47, 2, .lload_n kF2, 0)],
  [(48, 6, .invokevirtual 410, 0), (51, 0, .iconst 1, 0), (52, 2, .iload_n kF1, 0), (53, 0, .ishl, 0), (54, 0, .iconst (-1), 0), (55, 0, .ixor, 0), (56, 0, .iand, 0), (57, 0, .i2l, 0), (58, 6, .invokevirtual 373, 0), (61, 2, .lload_n kF2, 0), (62, 7, .lreturn, 0)]]
noncomputable def ky_257 : MethodName := ({ cls := "BonnetValleyModel", name := "sees", desc := "(I)J" } : Jvm.MethodName)
noncomputable def kRow_257 : pm_Row := ((ky_257, prog_15_method_78_code, 4, (Option.some Jvm.ClassFile.FieldType.long)), 13, (1, 4, 3), kc_257)
/-- BVModel.seers -/
noncomputable def kc_258 : List (List (Nat × Nat × Instr × Nat)) := [[(0, 2, .aload_n kF0, 0), (1, 0, .iconst 0, 0), (2, 5, .putfield 3, 0), (5, 2, .aload_n kF0, 0), (6, 2, .iload_n kF1, 0), (7, 6, .invokevirtual 358, 0), (10, 4, .ifCond .ne 5, 15), (13, 0, .iconst (-1), 0), (14, 7, .ireturn, 0), (15, 2, .aload_n kF0, 0)],
  [(16, 2, .aload_n kF0, 0), (17, 5, .getfield 41, 0), (20, 2, .iload_n kF1, 0), (21, 6, .invokevirtual 336, 0), (24, 3, .istore_n kF2, 0), (25, 2, .aload_n kF0, 0), (26, 0, .iconst 0, 0), (27, 5, .putfield 15, 0), (30, 2, .aload_n kF0, 0), (31, 2, .iload_n kF2, 0)],
  [(32, 6, .invokestatic 265, 0), (35, 0, .i2l, 0), (36, 6, .invokevirtual 373, 0), (39, 2, .aload_n kF0, 0), (40, 2, .aload_n kF0, 0), (41, 2, .aload_n kF0, 0), (42, 5, .getfield 41, 0), (45, 0, .lconst kG1, 0), (46, 2, .iload_n kF1, 0), (47, 0, .lshl, 0)],
  [(48, 6, .invokevirtual 323, 0), (51, 0, .i2l, 0), (52, 6, .invokevirtual 373, 0), (55, 2, .iload_n kF2, 0), (56, 7, .ireturn, 0)]]
noncomputable def ky_258 : MethodName := ({ cls := "BonnetValleyModel", name := "seers", desc := "(I)I" } : Jvm.MethodName)
noncomputable def kRow_258 : pm_Row := ((ky_258, prog_15_method_79_code, 3, (Option.some Jvm.ClassFile.FieldType.int)), 13, (1, 3, 1), kc_258)
/-- BVModel.free -/
noncomputable def kc_259 : List (List (Nat × Nat × Instr × Nat)) := [[(0, 0, .lconst kG0, 0), (1, 3, .lstore_n kF1, 0), (2, 0, .iconst 0, 0), (3, 3, .istore_n kF3, 0), (4, 2, .iload_n kF3, 0), (5, 2, .aload_n kF0, 0), (6, 6, .invokevirtual 122, 0), (9, 4, .if_icmp .ge 28, 37), (12, 2, .lload_n kF1, 0), (13, 2, .aload_n kF0, 0), (14, 5, .getfield 33, 0)],
  [(17, 2, .iload_n kF3, 0), (18, 5, .baload, 0), (19, 4, .ifCond .eq 7, 26), (22, 0, .lconst kG0, 0), (23, 4, .goto 6, 29), (26, 0, .lconst kG1, 0), (27, 2, .iload_n kF3, 0), (28, 0, .lshl, 0), (29, 0, .lor, 0), (30, 3, .lstore_n kF1, 0), (31, 3, .iinc 3 1, 0)],
  [(34, 4, .goto (-30), 4), (37, 2, .lload_n kF1, 0), (38, 7, .lreturn, 0)]]
noncomputable def ky_259 : MethodName := ({ cls := "BonnetValleyModel", name := "free", desc := "()J" } : Jvm.MethodName)
noncomputable def kRow_259 : pm_Row := ((ky_259, prog_15_method_80_code, 4, (Option.some Jvm.ClassFile.FieldType.long)), 13, (0, 4, 3), kc_259)
/-- BVModel.hidden -/
noncomputable def kc_260 : List (List (Nat × Nat × Instr × Nat)) := [[(0, 2, .aload_n kF0, 0), (1, 0, .iconst 0, 0), (2, 5, .putfield 3, 0), (5, 2, .aload_n kF0, 0), (6, 6, .invokevirtual 413, 0), (9, 2, .aload_n kF0, 0), (10, 2, .aload_n kF0, 0), (11, 5, .getfield 41, 0), (14, 6, .invokevirtual 417, 0)],
  [(17, 1, .ldc2_w 403, 0), (20, 0, .lxor, 0), (21, 0, .land, 0), (22, 3, .lstore_n kF1, 0), (23, 2, .aload_n kF0, 0), (24, 0, .iconst 0, 0), (25, 5, .putfield 15, 0), (28, 2, .aload_n kF0, 0), (29, 2, .lload_n kF1, 0), (30, 6, .invokestatic 405, 0)],
  [(33, 0, .i2l, 0), (34, 6, .invokevirtual 373, 0), (37, 2, .aload_n kF0, 0), (38, 2, .aload_n kF0, 0), (39, 2, .aload_n kF0, 0), (40, 5, .getfield 41, 0), (43, 2, .lload_n kF1, 0), (44, 6, .invokevirtual 323, 0), (47, 0, .i2l, 0)],
  [(48, 6, .invokevirtual 373, 0), (51, 2, .lload_n kF1, 0), (52, 7, .lreturn, 0)]]
noncomputable def ky_260 : MethodName := ({ cls := "BonnetValleyModel", name := "hidden", desc := "()J" } : Jvm.MethodName)
noncomputable def kRow_260 : pm_Row := ((ky_260, prog_15_method_81_code, 3, (Option.some Jvm.ClassFile.FieldType.long)), 13, (0, 3, 3), kc_260)
/-- BVModel.pairs -/
noncomputable def kc_261 : List (List (Nat × Nat × Instr × Nat)) := [[(0, 2, .aload_n kF0, 0), (1, 0, .iconst 0, 0), (2, 5, .putfield 3, 0), (5, 0, .iconst 0, 0), (6, 3, .istore_n kF1, 0), (7, 0, .iconst 0, 0), (8, 3, .istore_n kF2, 0), (9, 0, .iconst (-1), 0), (10, 3, .istore_n kF3, 0), (11, 0, .iconst (-1), 0), (12, 3, .istore 4, 0), (14, 0, .iconst 0, 0), (15, 3, .istore 5, 0)],
  [(17, 2, .iload 5, 0), (19, 2, .aload_n kF0, 0), (20, 5, .getfield 130, 0), (23, 4, .if_icmp .ge 90, 113), (26, 2, .iload 5, 0), (28, 0, .iconst 1, 0), (29, 0, .iadd, 0), (30, 3, .istore 6, 0)],
  [(32, 2, .iload 6, 0), (34, 2, .aload_n kF0, 0), (35, 5, .getfield 130, 0), (38, 4, .if_icmp .ge 69, 107), (41, 2, .aload_n kF0, 0), (42, 2, .aload_n kF0, 0), (43, 5, .getfield 41, 0), (46, 2, .iload 5, 0)],
  [(48, 2, .iload 6, 0), (50, 6, .invokevirtual 312, 0), (53, 4, .ifCond .eq 48, 101), (56, 2, .iload_n kF1, 0), (57, 4, .ifCond .ne 8, 65), (60, 2, .iload 5, 0), (62, 4, .goto 4, 66)],
  [(65, 2, .iload_n kF3, 0), (66, 3, .istore_n kF3, 0), (67, 2, .iload_n kF1, 0), (68, 4, .ifCond .ne 8, 76), (71, 2, .iload 6, 0), (73, 4, .goto 5, 78), (76, 2, .iload 4, 0), (78, 3, .istore 4, 0)],
  [(80, 3, .iinc 1 1, 0), (83, 2, .iload_n kF2, 0), (84, 2, .aload_n kF0, 0), (85, 2, .aload_n kF0, 0), (86, 5, .getfield 41, 0), (89, 2, .iload 5, 0), (91, 2, .iload 6, 0), (93, 6, .invokevirtual 344, 0)],
  [(96, 6, .invokestatic 154, 0), (99, 0, .iadd, 0), (100, 3, .istore_n kF2, 0), (101, 3, .iinc 6 1, 0), (104, 4, .goto (-72), 32), (107, 3, .iinc 5 1, 0), (110, 4, .goto (-93), 17)],
  [(113, 2, .aload_n kF0, 0), (114, 0, .iconst 0, 0), (115, 5, .putfield 15, 0), (118, 2, .aload_n kF0, 0), (119, 2, .iload_n kF2, 0), (120, 0, .i2l, 0), (121, 6, .invokevirtual 373, 0), (124, 2, .iload_n kF1, 0), (125, 4, .ifCond .le 16, 141)],
  [(128, 2, .aload_n kF0, 0), (129, 2, .iload_n kF3, 0), (130, 0, .i2l, 0), (131, 6, .invokevirtual 373, 0), (134, 2, .aload_n kF0, 0), (135, 2, .iload 4, 0), (137, 0, .i2l, 0), (138, 6, .invokevirtual 373, 0), (141, 2, .iload_n kF1, 0), (142, 7, .ireturn, 0)]]
noncomputable def ky_261 : MethodName := ({ cls := "BonnetValleyModel", name := "pairs", desc := "()I" } : Jvm.MethodName)
noncomputable def kRow_261 : pm_Row := ((ky_261, prog_15_method_82_code, 7, (Option.some Jvm.ClassFile.FieldType.int)), 13, (0, 7, 1), kc_261)
/-- BVModel.behind -/
noncomputable def kc_262 : List (List (Nat × Nat × Instr × Nat)) := [[(0, 2, .aload_n kF0, 0), (1, 0, .iconst 0, 0), (2, 5, .putfield 3, 0), (5, 2, .aload_n kF0, 0), (6, 2, .iload_n kF1, 0), (7, 6, .invokevirtual 315, 0), (10, 4, .ifCond .ne 5, 15), (13, 0, .iconst (-1), 0), (14, 7, .ireturn, 0), (15, 2, .aload_n kF0, 0)],
  [(16, 2, .aload_n kF0, 0), (17, 5, .getfield 41, 0), (20, 2, .aload_n kF0, 0), (21, 5, .getfield 41, 0), (24, 2, .iload_n kF1, 0), (25, 5, .iaload, 0), (26, 6, .invokevirtual 336, 0), (29, 2, .aload_n kF0, 0), (30, 2, .aload_n kF0, 0), (31, 5, .getfield 41, 0)],
  [(34, 2, .aload_n kF0, 0), (35, 2, .aload_n kF0, 0), (36, 5, .getfield 41, 0), (39, 2, .iload_n kF1, 0), (40, 6, .invokevirtual 300, 0), (43, 6, .invokevirtual 410, 0), (46, 0, .iconst (-1), 0), (47, 0, .ixor, 0)],
  [(48, 0, .iand, 0), (49, 3, .istore_n kF2, 0), (50, 2, .aload_n kF0, 0), (51, 0, .iconst 0, 0), (52, 5, .putfield 15, 0), (55, 2, .aload_n kF0, 0), (56, 2, .iload_n kF2, 0), (57, 6, .invokestatic 265, 0), (60, 0, .i2l, 0), (61, 6, .invokevirtual 373, 0)],
  [(64, 2, .iload_n kF2, 0), (65, 7, .ireturn, 0)]]
noncomputable def ky_262 : MethodName := ({ cls := "BonnetValleyModel", name := "behind", desc := "(I)I" } : Jvm.MethodName)
noncomputable def kRow_262 : pm_Row := ((ky_262, prog_15_method_83_code, 3, (Option.some Jvm.ClassFile.FieldType.int)), 13, (1, 3, 1), kc_262)
/-- BVModel.widest -/
noncomputable def kc_263 : List (List (Nat × Nat × Instr × Nat)) := [[(0, 2, .aload_n kF0, 0), (1, 0, .iconst 0, 0), (2, 5, .putfield 3, 0), (5, 2, .aload_n kF0, 0), (6, 5, .getfield 130, 0), (9, 4, .ifCond .ne 6, 15), (12, 1, .bipush (-2), 0), (14, 7, .ireturn, 0), (15, 0, .iconst 0, 0)],
  [(16, 3, .istore_n kF1, 0), (17, 0, .iconst 0, 0), (18, 3, .istore_n kF2, 0), (19, 0, .iconst 1, 0), (20, 3, .istore_n kF3, 0), (21, 2, .iload_n kF3, 0), (22, 2, .aload_n kF0, 0), (23, 5, .getfield 130, 0), (26, 4, .if_icmp .ge 69, 95), (29, 2, .aload_n kF0, 0), (30, 2, .aload_n kF0, 0), (31, 5, .getfield 41, 0)],
  [(34, 2, .iload_n kF3, 0), (35, 6, .invokevirtual 300, 0), (38, 6, .invokestatic 405, 0), (41, 3, .istore 4, 0), (43, 2, .iload 4, 0), (45, 2, .aload_n kF0, 0), (46, 2, .aload_n kF0, 0), (47, 5, .getfield 41, 0)],
  [(50, 2, .iload_n kF1, 0), (51, 6, .invokevirtual 300, 0), (54, 6, .invokestatic 405, 0), (57, 4, .if_icmp .le 7, 64), (60, 2, .iload_n kF3, 0), (61, 4, .goto 4, 65)],
  [(64, 2, .iload_n kF1, 0), (65, 3, .istore_n kF1, 0), (66, 2, .iload 4, 0), (68, 2, .aload_n kF0, 0), (69, 2, .aload_n kF0, 0), (70, 5, .getfield 41, 0), (73, 2, .iload_n kF2, 0), (74, 6, .invokevirtual 300, 0), (77, 6, .invokestatic 405, 0)],
  [(80, 4, .if_icmp .ge 7, 87), (83, 2, .iload_n kF3, 0), (84, 4, .goto 4, 88), (87, 2, .iload_n kF2, 0), (88, 3, .istore_n kF2, 0), (89, 3, .iinc 3 1, 0), (92, 4, .goto (-71), 21), (95, 2, .aload_n kF0, 0)],
  [(96, 0, .iconst 0, 0), (97, 5, .putfield 15, 0), (100, 2, .aload_n kF0, 0), (101, 2, .aload_n kF0, 0), (102, 2, .aload_n kF0, 0), (103, 5, .getfield 41, 0), (106, 2, .iload_n kF1, 0), (107, 6, .invokevirtual 300, 0), (110, 6, .invokestatic 405, 0)],
  [(113, 0, .i2l, 0), (114, 6, .invokevirtual 373, 0), (117, 2, .aload_n kF0, 0), (118, 2, .iload_n kF2, 0), (119, 0, .i2l, 0), (120, 6, .invokevirtual 373, 0), (123, 2, .aload_n kF0, 0), (124, 2, .aload_n kF0, 0), (125, 2, .aload_n kF0, 0), (126, 5, .getfield 41, 0)],
  [(129, 2, .iload_n kF2, 0), (130, 6, .invokevirtual 300, 0), (133, 6, .invokestatic 405, 0), (136, 0, .i2l, 0), (137, 6, .invokevirtual 373, 0), (140, 2, .iload_n kF1, 0), (141, 7, .ireturn, 0)]]
noncomputable def ky_263 : MethodName := ({ cls := "BonnetValleyModel", name := "widest", desc := "()I" } : Jvm.MethodName)
noncomputable def kRow_263 : pm_Row := ((ky_263, prog_15_method_84_code, 5, (Option.some Jvm.ClassFile.FieldType.int)), 13, (0, 5, 1), kc_263)
/-- BVModel.isFewer -/
noncomputable def kc_264 : List (List (Nat × Nat × Instr × Nat)) := [[(0, 2, .iload_n kF1, 0), (1, 4, .ifCond .lt 14, 15), (4, 2, .iload_n kF0, 0), (5, 6, .invokestatic 265, 0), (8, 2, .iload_n kF1, 0), (9, 6, .invokestatic 265, 0), (12, 4, .if_icmp .ge 7, 19), (15, 0, .iconst 1, 0)],
  [(16, 4, .goto 4, 20), (19, 0, .iconst 0, 0), (20, 7, .ireturn, 0)]]
noncomputable def ky_264 : MethodName := ({ cls := "BonnetValleyModel", name := "isFewer", desc := "(II)Z" } : Jvm.MethodName)
noncomputable def kRow_264 : pm_Row := ((ky_264, prog_15_method_85_code, 2, (Option.some Jvm.ClassFile.FieldType.boolean)), 13, (2, 2, 2), kc_264)
/-- BVModel.watch -/
noncomputable def kc_265 : List (List (Nat × Nat × Instr × Nat)) := [[(0, 2, .aload_n kF0, 0), (1, 0, .iconst 0, 0), (2, 5, .putfield 3, 0), (5, 2, .aload_n kF0, 0), (6, 2, .aload_n kF0, 0), (7, 5, .getfield 41, 0), (10, 6, .invokevirtual 417, 0), (13, 3, .lstore_n kF1, 0), (14, 0, .iconst 0, 0), (15, 3, .istore_n kF3, 0)],
  [(16, 2, .iload_n kF3, 0), (17, 2, .aload_n kF0, 0), (18, 5, .getfield 130, 0), (21, 4, .if_icmp .ge 24, 45), (24, 2, .aload_n kF0, 0), (25, 5, .getfield 86, 0), (28, 2, .iload_n kF3, 0), (29, 2, .aload_n kF0, 0), (30, 2, .aload_n kF0, 0), (31, 5, .getfield 41, 0)],
  [(34, 2, .iload_n kF3, 0), (35, 6, .invokevirtual 300, 0), (38, 5, .lastore, 0), (39, 3, .iinc 3 1, 0), (42, 4, .goto (-26), 16), (45, 0, .iconst (-1), 0), (46, 3, .istore_n kF3, 0), (47, 0, .iconst 0, 0)],
  [(48, 3, .istore 4, 0), (50, 2, .iload 4, 0), (52, 0, .iconst 1, 0), (53, 2, .aload_n kF0, 0), (54, 5, .getfield 130, 0), (57, 0, .ishl, 0), (58, 4, .if_icmp .ge 80, 138), (61, 0, .lconst kG0, 0), (62, 3, .lstore 5, 0)],
  [(64, 0, .iconst 0, 0), (65, 3, .istore 7, 0), (67, 2, .iload 7, 0), (69, 2, .aload_n kF0, 0), (70, 5, .getfield 130, 0), (73, 4, .if_icmp .ge 36, 109), (76, 2, .lload 5, 0), (78, 2, .iload 4, 0)],
  [(80, 0, .i2l, 0), (81, 2, .iload 7, 0), (83, 6, .invokestatic 304, 0), (86, 4, .ifCond .eq 13, 99), (89, 2, .aload_n kF0, 0), (90, 5, .getfield 86, 0), (93, 2, .iload 7, 0), (95, 5, .laload, 0)],
  [(96, 4, .goto 4, 100), (99, 0, .lconst kG0, 0), (100, 0, .lor, 0), (101, 3, .lstore 5, 0), (103, 3, .iinc 7 1, 0), (106, 4, .goto (-39), 67), (109, 2, .lload 5, 0), (111, 2, .lload_n kF1, 0)],
  [(112, 0, .lcmp, 0), (113, 4, .ifCond .ne 17, 130), (116, 2, .iload 4, 0), (118, 2, .iload_n kF3, 0), (119, 6, .invokestatic 421, 0), (122, 4, .ifCond .eq 8, 130), (125, 2, .iload 4, 0), (127, 4, .goto 4, 131)],
  [(130, 2, .iload_n kF3, 0), (131, 3, .istore_n kF3, 0), (132, 3, .iinc 4 1, 0), (135, 4, .goto (-85), 50), (138, 2, .aload_n kF0, 0), (139, 0, .iconst 0, 0), (140, 5, .putfield 15, 0), (143, 2, .aload_n kF0, 0)],
  [(144, 2, .iload_n kF3, 0), (145, 0, .i2l, 0), (146, 6, .invokevirtual 373, 0), (149, 2, .iload_n kF3, 0), (150, 6, .invokestatic 265, 0), (153, 7, .ireturn, 0)]]
noncomputable def ky_265 : MethodName := ({ cls := "BonnetValleyModel", name := "watch", desc := "()I" } : Jvm.MethodName)
noncomputable def kRow_265 : pm_Row := ((ky_265, prog_15_method_86_code, 8, (Option.some Jvm.ClassFile.FieldType.int)), 13, (0, 8, 1), kc_265)
/-- BVModel.learns -/
noncomputable def kc_266 : List (List (Nat × Nat × Instr × Nat)) := [[(0, 2, .aload_n kF0, 0), (1, 0, .iconst 0, 0), (2, 5, .putfield 3, 0), (5, 2, .aload_n kF0, 0), (6, 2, .iload_n kF1, 0), (7, 6, .invokevirtual 315, 0), (10, 4, .ifCond .eq 11, 21), (13, 2, .aload_n kF0, 0), (14, 2, .iload_n kF2, 0), (15, 6, .invokevirtual 327, 0)],
  [(18, 4, .ifCond .ne 5, 23), (21, 0, .iconst (-1), 0), (22, 7, .ireturn, 0), (23, 2, .aload_n kF0, 0), (24, 6, .invokevirtual 424, 0), (27, 0, .iconst 0, 0), (28, 3, .istore_n kF3, 0), (29, 2, .iload_n kF3, 0), (30, 1, .bipush 99, 0)],
  [(32, 4, .if_icmp .gt 58, 90), (35, 2, .aload_n kF0, 0), (36, 5, .getfield 44, 0), (39, 1, .bipush 24, 0), (41, 2, .iload_n kF1, 0), (42, 0, .iadd, 0), (43, 5, .iaload, 0), (44, 0, .i2l, 0), (45, 2, .iload_n kF2, 0), (46, 6, .invokestatic 304, 0)],
  [(49, 4, .ifCond .eq 27, 76), (52, 2, .aload_n kF0, 0), (53, 0, .iconst 0, 0), (54, 5, .putfield 15, 0), (57, 2, .aload_n kF0, 0), (58, 2, .aload_n kF0, 0), (59, 2, .aload_n kF0, 0), (60, 5, .getfield 44, 0), (63, 2, .iload_n kF2, 0)],
  [(64, 6, .invokevirtual 332, 0), (67, 6, .invokestatic 265, 0), (70, 0, .i2l, 0), (71, 6, .invokevirtual 373, 0), (74, 2, .iload_n kF3, 0), (75, 7, .ireturn, 0), (76, 2, .aload_n kF0, 0), (77, 2, .aload_n kF0, 0), (78, 5, .getfield 44, 0)],
  [(81, 6, .invokevirtual 347, 0), (84, 3, .iinc 3 1, 0), (87, 4, .goto (-58), 29), (90, 1, .bipush (-2), 0), (92, 7, .ireturn, 0)]]
noncomputable def ky_266 : MethodName := ({ cls := "BonnetValleyModel", name := "learns", desc := "(II)I" } : Jvm.MethodName)
noncomputable def kRow_266 : pm_Row := ((ky_266, prog_15_method_87_code, 4, (Option.some Jvm.ClassFile.FieldType.int)), 13, (2, 4, 1), kc_266)
/-- BVModel.firstWithout -/
noncomputable def kc_267 : List (List (Nat × Nat × Instr × Nat)) := [[(0, 0, .iconst (-1), 0), (1, 3, .istore_n kF2, 0), (2, 2, .aload_n kF0, 0), (3, 5, .getfield 130, 0), (6, 0, .iconst 1, 0), (7, 0, .isub, 0), (8, 3, .istore_n kF3, 0), (9, 2, .iload_n kF3, 0), (10, 4, .ifCond .lt 31, 41), (13, 2, .aload_n kF1, 0), (14, 1, .bipush 24, 0)],
  [(16, 2, .iload_n kF3, 0), (17, 0, .iadd, 0), (18, 5, .iaload, 0), (19, 6, .invokestatic 265, 0), (22, 2, .aload_n kF0, 0), (23, 5, .getfield 133, 0), (26, 4, .if_icmp .ge 7, 33), (29, 2, .iload_n kF3, 0), (30, 4, .goto 4, 34)],
  [(33, 2, .iload_n kF2, 0), (34, 3, .istore_n kF2, 0), (35, 3, .iinc 3 (-1), 0), (38, 4, .goto (-29), 9), (41, 2, .iload_n kF2, 0), (42, 7, .ireturn, 0)]]
noncomputable def ky_267 : MethodName := ({ cls := "BonnetValleyModel", name := "firstWithout", desc := "([I)I" } : Jvm.MethodName)
noncomputable def kRow_267 : pm_Row := ((ky_267, prog_15_method_88_code, 4, (Option.some Jvm.ClassFile.FieldType.int)), 13, (1, 4, 1), kc_267)
/-- BVModel.all -/
noncomputable def kc_268 : List (List (Nat × Nat × Instr × Nat)) := [[(0, 2, .aload_n kF0, 0), (1, 0, .iconst 0, 0), (2, 5, .putfield 3, 0), (5, 2, .aload_n kF0, 0), (6, 6, .invokevirtual 424, 0), (9, 0, .iconst (-1), 0), (10, 3, .istore_n kF1, 0), (11, 0, .iconst 0, 0), (12, 3, .istore_n kF2, 0), (13, 2, .iload_n kF2, 0), (14, 1, .bipush 99, 0)],
  [(16, 4, .if_icmp .gt 45, 61), (19, 2, .aload_n kF0, 0), (20, 2, .aload_n kF0, 0), (21, 5, .getfield 44, 0), (24, 6, .invokevirtual 427, 0), (27, 3, .istore_n kF3, 0), (28, 2, .iload_n kF3, 0), (29, 4, .ifCond .ge 16, 45)],
  [(32, 2, .aload_n kF0, 0), (33, 0, .iconst 0, 0), (34, 5, .putfield 15, 0), (37, 2, .aload_n kF0, 0), (38, 2, .iload_n kF1, 0), (39, 0, .i2l, 0), (40, 6, .invokevirtual 373, 0), (43, 2, .iload_n kF2, 0), (44, 7, .ireturn, 0), (45, 2, .iload_n kF3, 0), (46, 3, .istore_n kF1, 0), (47, 2, .aload_n kF0, 0)],
  [(48, 2, .aload_n kF0, 0), (49, 5, .getfield 44, 0), (52, 6, .invokevirtual 347, 0), (55, 3, .iinc 2 1, 0), (58, 4, .goto (-45), 13), (61, 1, .bipush (-2), 0), (63, 7, .ireturn, 0)]]
noncomputable def ky_268 : MethodName := ({ cls := "BonnetValleyModel", name := "all", desc := "()I" } : Jvm.MethodName)
noncomputable def kRow_268 : pm_Row := ((ky_268, prog_15_method_89_code, 4, (Option.some Jvm.ClassFile.FieldType.int)), 13, (0, 4, 1), kc_268)
/-- BVModel.ahead -/
noncomputable def kc_269 : List (List (Nat × Nat × Instr × Nat)) := [[(0, 2, .aload_n kF0, 0), (1, 0, .iconst 0, 0), (2, 5, .putfield 3, 0), (5, 2, .iload_n kF1, 0), (6, 0, .i2l, 0), (7, 0, .lconst kG0, 0), (8, 1, .ldc2_w 430, 0), (11, 6, .invokestatic 126, 0), (14, 4, .ifCond .ne 5, 19)],
  [(17, 0, .iconst (-1), 0), (18, 7, .ireturn, 0), (19, 2, .aload_n kF0, 0), (20, 6, .invokevirtual 424, 0), (23, 2, .aload_n kF0, 0), (24, 2, .aload_n kF0, 0), (25, 5, .getfield 44, 0), (28, 2, .iload_n kF1, 0), (29, 6, .invokevirtual 370, 0)],
  [(32, 2, .aload_n kF0, 0), (33, 0, .iconst 0, 0), (34, 5, .putfield 15, 0), (37, 0, .iconst 0, 0), (38, 3, .istore_n kF2, 0), (39, 2, .iload_n kF2, 0), (40, 2, .aload_n kF0, 0), (41, 5, .getfield 130, 0), (44, 4, .if_icmp .ge 23, 67), (47, 2, .aload_n kF0, 0)],
  [(48, 2, .aload_n kF0, 0), (49, 5, .getfield 44, 0), (52, 1, .bipush 24, 0), (54, 2, .iload_n kF2, 0), (55, 0, .iadd, 0), (56, 5, .iaload, 0), (57, 0, .i2l, 0), (58, 6, .invokevirtual 373, 0), (61, 3, .iinc 2 1, 0)],
  [(64, 4, .goto (-25), 39), (67, 2, .aload_n kF0, 0), (68, 2, .aload_n kF0, 0), (69, 5, .getfield 44, 0), (72, 6, .invokevirtual 366, 0), (75, 7, .ireturn, 0)]]
noncomputable def ky_269 : MethodName := ({ cls := "BonnetValleyModel", name := "ahead", desc := "(I)I" } : Jvm.MethodName)
noncomputable def kRow_269 : pm_Row := ((ky_269, prog_15_method_90_code, 3, (Option.some Jvm.ClassFile.FieldType.int)), 13, (1, 3, 1), kc_269)
/-- BVModel.gossip -/
noncomputable def kc_270 : List (List (Nat × Nat × Instr × Nat)) := [[(0, 2, .aload_n kF0, 0), (1, 0, .iconst 0, 0), (2, 5, .putfield 3, 0), (5, 2, .aload_n kF0, 0), (6, 2, .iload_n kF1, 0), (7, 6, .invokevirtual 315, 0), (10, 4, .ifCond .ne 5, 15), (13, 0, .iconst (-1), 0), (14, 7, .ireturn, 0), (15, 0, .iconst 1, 0)],
  [(16, 2, .iload_n kF1, 0), (17, 0, .ishl, 0), (18, 3, .istore_n kF2, 0), (19, 0, .iconst (-1), 0), (20, 3, .istore_n kF3, 0), (21, 2, .iload_n kF2, 0), (22, 3, .istore 4, 0), (24, 2, .iload 4, 0), (26, 4, .ifCond .eq 101, 127), (29, 3, .iinc 3 1, 0)],
  [(32, 2, .iload_n kF2, 0), (33, 2, .iload 4, 0), (35, 0, .ior, 0), (36, 3, .istore_n kF2, 0), (37, 0, .iconst 0, 0), (38, 3, .istore 4, 0), (40, 0, .iconst 0, 0), (41, 3, .istore 5, 0), (43, 2, .iload 5, 0), (45, 2, .aload_n kF0, 0), (46, 5, .getfield 130, 0)],
  [(49, 4, .if_icmp .ge 75, 124), (52, 0, .iconst 0, 0), (53, 3, .istore 6, 0), (55, 2, .iload 6, 0), (57, 2, .aload_n kF0, 0), (58, 5, .getfield 130, 0), (61, 4, .if_icmp .ge 57, 118)],
  [(64, 2, .iload 4, 0), (66, 2, .iload_n kF2, 0), (67, 0, .i2l, 0), (68, 2, .iload 5, 0), (70, 6, .invokestatic 304, 0), (73, 4, .ifCond .eq 35, 108), (76, 2, .iload_n kF2, 0), (77, 0, .i2l, 0), (78, 2, .iload 6, 0)],
  [(80, 6, .invokestatic 304, 0), (83, 4, .ifCond .ne 25, 108), (86, 2, .aload_n kF0, 0), (87, 2, .aload_n kF0, 0), (88, 5, .getfield 41, 0), (91, 2, .iload 5, 0), (93, 2, .iload 6, 0), (95, 6, .invokevirtual 344, 0)],
  [(98, 4, .ifCond .eq 10, 108), (101, 0, .iconst 1, 0), (102, 2, .iload 6, 0), (104, 0, .ishl, 0), (105, 4, .goto 4, 109), (108, 0, .iconst 0, 0), (109, 0, .ior, 0), (110, 3, .istore 4, 0)],
  [(112, 3, .iinc 6 1, 0), (115, 4, .goto (-60), 55), (118, 3, .iinc 5 1, 0), (121, 4, .goto (-78), 43), (124, 4, .goto (-100), 24), (127, 2, .aload_n kF0, 0)],
  [(128, 0, .iconst 0, 0), (129, 5, .putfield 15, 0), (132, 2, .aload_n kF0, 0), (133, 2, .iload_n kF3, 0), (134, 0, .i2l, 0), (135, 6, .invokevirtual 373, 0), (138, 2, .iload_n kF2, 0), (139, 7, .ireturn, 0)]]
noncomputable def ky_270 : MethodName := ({ cls := "BonnetValleyModel", name := "gossip", desc := "(I)I" } : Jvm.MethodName)
noncomputable def kRow_270 : pm_Row := ((ky_270, prog_15_method_91_code, 7, (Option.some Jvm.ClassFile.FieldType.int)), 13, (1, 7, 1), kc_270)
/-- BVModel.wouldSee -/
noncomputable def kc_271 : List (List (Nat × Nat × Instr × Nat)) := [[(0, 2, .aload_n kF0, 0), (1, 2, .aload_n kF0, 0), (2, 5, .getfield 41, 0), (5, 2, .iload_n kF1, 0), (6, 5, .iaload, 0), (7, 2, .iload_n kF2, 0), (8, 2, .iload_n kF3, 0), (9, 2, .aload_n kF0, 0), (10, 5, .getfield 41, 0), (13, 1, .bipush 16, 0), (15, 2, .iload_n kF1, 0)],
  [(16, 0, .iadd, 0), (17, 5, .iaload, 0), (18, 2, .aload_n kF0, 0), (19, 2, .aload_n kF0, 0), (20, 5, .getfield 41, 0), (23, 2, .iload_n kF1, 0), (24, 2, .aload_n kF0, 0), (25, 5, .getfield 41, 0), (28, 1, .bipush 16, 0), (30, 2, .iload_n kF1, 0), (31, 0, .iadd, 0)],
  [(32, 5, .iaload, 0), (33, 6, .invokevirtual 292, 0), (36, 6, .invokevirtual 296, 0), (39, 7, .ireturn, 0)]]
noncomputable def ky_271 : MethodName := ({ cls := "BonnetValleyModel", name := "wouldSee", desc := "(III)Z" } : Jvm.MethodName)
noncomputable def kRow_271 : pm_Row := ((ky_271, prog_15_method_92_code, 4, (Option.some Jvm.ClassFile.FieldType.boolean)), 13, (3, 4, 2), kc_271)
/-- BVModel.eighths -/
noncomputable def kc_272 : List (List (Nat × Nat × Instr × Nat)) := [[(0, 2, .aload_n kF0, 0), (1, 0, .iconst 0, 0), (2, 5, .putfield 3, 0), (5, 2, .aload_n kF0, 0), (6, 2, .iload_n kF1, 0), (7, 6, .invokevirtual 315, 0), (10, 4, .ifCond .eq 11, 21), (13, 2, .aload_n kF0, 0), (14, 2, .iload_n kF2, 0), (15, 6, .invokevirtual 358, 0)],
  [(18, 4, .ifCond .ne 5, 23), (21, 0, .iconst (-1), 0), (22, 7, .ireturn, 0), (23, 0, .iconst (-1), 0), (24, 3, .istore_n kF3, 0), (25, 1, .ldc_w 432, 0), (28, 3, .istore 4, 0), (30, 0, .iconst 0, 0), (31, 3, .istore 5, 0)],
  [(33, 2, .iload 5, 0), (35, 1, .bipush 8, 0), (37, 4, .if_icmp .ge 50, 87), (40, 2, .aload_n kF0, 0), (41, 5, .getfield 41, 0), (44, 1, .bipush 8, 0), (46, 2, .iload_n kF1, 0), (47, 0, .iadd, 0)],
  [(48, 5, .iaload, 0), (49, 2, .iload 5, 0), (51, 6, .invokestatic 285, 0), (54, 3, .istore 6, 0), (56, 2, .iload 6, 0), (58, 2, .iload 4, 0), (60, 4, .if_icmp .ge 21, 81), (63, 2, .aload_n kF0, 0)],
  [(64, 2, .iload_n kF1, 0), (65, 2, .iload_n kF2, 0), (66, 2, .iload 5, 0), (68, 6, .invokevirtual 433, 0), (71, 4, .ifCond .eq 10, 81), (74, 2, .iload 5, 0), (76, 3, .istore_n kF3, 0), (77, 2, .iload 6, 0), (79, 3, .istore 4, 0)],
  [(81, 3, .iinc 5 1, 0), (84, 4, .goto (-51), 33), (87, 2, .iload_n kF3, 0), (88, 4, .ifCond .ge 6, 94), (91, 1, .bipush (-2), 0), (93, 7, .ireturn, 0), (94, 2, .aload_n kF0, 0), (95, 0, .iconst 0, 0)],
  [(96, 5, .putfield 15, 0), (99, 2, .aload_n kF0, 0), (100, 2, .iload_n kF3, 0), (101, 0, .i2l, 0), (102, 6, .invokevirtual 373, 0), (105, 2, .iload 4, 0), (107, 7, .ireturn, 0)]]
noncomputable def ky_272 : MethodName := ({ cls := "BonnetValleyModel", name := "eighths", desc := "(II)I" } : Jvm.MethodName)
noncomputable def kRow_272 : pm_Row := ((ky_272, prog_15_method_93_code, 7, (Option.some Jvm.ClassFile.FieldType.int)), 13, (2, 7, 1), kc_272)
/-- BVModel.wouldSeeThings -/
noncomputable def kc_273 : List (List (Nat × Nat × Instr × Nat)) := [[(0, 0, .iconst 0, 0), (1, 3, .istore_n kF3, 0), (2, 0, .iconst 0, 0), (3, 3, .istore 4, 0), (5, 2, .iload 4, 0), (7, 2, .aload_n kF0, 0), (8, 5, .getfield 133, 0), (11, 4, .if_icmp .ge 39, 50), (14, 2, .iload_n kF3, 0), (15, 2, .aload_n kF0, 0)],
  [(16, 2, .iload_n kF1, 0), (17, 2, .aload_n kF0, 0), (18, 5, .getfield 41, 0), (21, 1, .bipush 32, 0), (23, 2, .iload 4, 0), (25, 0, .iadd, 0), (26, 5, .iaload, 0), (27, 2, .iload_n kF2, 0), (28, 6, .invokevirtual 433, 0), (31, 4, .ifCond .eq 10, 41)],
  [(34, 0, .iconst 1, 0), (35, 2, .iload 4, 0), (37, 0, .ishl, 0), (38, 4, .goto 4, 42), (41, 0, .iconst 0, 0), (42, 0, .ior, 0), (43, 3, .istore_n kF3, 0), (44, 3, .iinc 4 1, 0), (47, 4, .goto (-42), 5)],
  [(50, 2, .iload_n kF3, 0), (51, 7, .ireturn, 0)]]
noncomputable def ky_273 : MethodName := ({ cls := "BonnetValleyModel", name := "wouldSeeThings", desc := "(II)I" } : Jvm.MethodName)
noncomputable def kRow_273 : pm_Row := ((ky_273, prog_15_method_94_code, 5, (Option.some Jvm.ClassFile.FieldType.int)), 13, (2, 5, 1), kc_273)
/-- BVModel.place -/
noncomputable def kc_274 : List (List (Nat × Nat × Instr × Nat)) := [[(0, 2, .iload_n kF0, 0), (1, 1, .bipush 8, 0), (3, 0, .ishl, 0), (4, 2, .iload_n kF1, 0), (5, 0, .ior, 0), (6, 7, .ireturn, 0)]]
noncomputable def ky_274 : MethodName := ({ cls := "BonnetValleyModel", name := "place", desc := "(II)I" } : Jvm.MethodName)
noncomputable def kRow_274 : pm_Row := ((ky_274, prog_15_method_95_code, 2, (Option.some Jvm.ClassFile.FieldType.int)), 13, (2, 2, 1), kc_274)
/-- BVModel.fewWith -/
noncomputable def kc_275 : List (List (Nat × Nat × Instr × Nat)) := [[(0, 2, .aload_n kF0, 0), (1, 5, .getfield 92, 0), (4, 2, .iload_n kF1, 0), (5, 0, .iconst 1, 0), (6, 0, .iadd, 0), (7, 2, .iload_n kF2, 0), (8, 2, .aload_n kF0, 0), (9, 5, .getfield 89, 0), (12, 1, .bipush 8, 0), (14, 2, .iload_n kF1, 0), (15, 0, .imul, 0)],
  [(16, 2, .iload_n kF3, 0), (17, 0, .iadd, 0), (18, 5, .iaload, 0), (19, 0, .ior, 0), (20, 6, .invokestatic 437, 0), (23, 5, .iaload, 0), (24, 2, .iload_n kF3, 0), (25, 2, .aload_n kF0, 0), (26, 5, .getfield 41, 0), (29, 1, .bipush 8, 0), (31, 2, .iload_n kF1, 0)],
  [(32, 0, .iadd, 0), (33, 5, .iaload, 0), (34, 4, .if_icmp .eq 7, 41), (37, 0, .iconst 1, 0), (38, 4, .goto 4, 42), (41, 0, .iconst 0, 0), (42, 6, .invokestatic 154, 0), (45, 0, .iadd, 0), (46, 7, .ireturn, 0)]]
noncomputable def ky_275 : MethodName := ({ cls := "BonnetValleyModel", name := "fewWith", desc := "(III)I" } : Jvm.MethodName)
noncomputable def kRow_275 : pm_Row := ((ky_275, prog_15_method_96_code, 4, (Option.some Jvm.ClassFile.FieldType.int)), 13, (3, 4, 1), kc_275)
/-- BVModel.turned -/
noncomputable def kc_276 : List (List (Nat × Nat × Instr × Nat)) := [[(0, 2, .aload_n kF0, 0), (1, 0, .iconst 0, 0), (2, 5, .putfield 3, 0), (5, 0, .iconst 0, 0), (6, 3, .istore_n kF1, 0), (7, 2, .iload_n kF1, 0), (8, 2, .aload_n kF0, 0), (9, 5, .getfield 130, 0), (12, 4, .if_icmp .ge 40, 52), (15, 0, .iconst 0, 0)],
  [(16, 3, .istore_n kF2, 0), (17, 2, .iload_n kF2, 0), (18, 1, .bipush 8, 0), (20, 4, .if_icmp .ge 26, 46), (23, 2, .aload_n kF0, 0), (24, 5, .getfield 89, 0), (27, 1, .bipush 8, 0), (29, 2, .iload_n kF1, 0), (30, 0, .imul, 0), (31, 2, .iload_n kF2, 0)],
  [(32, 0, .iadd, 0), (33, 2, .aload_n kF0, 0), (34, 2, .iload_n kF1, 0), (35, 2, .iload_n kF2, 0), (36, 6, .invokevirtual 440, 0), (39, 5, .iastore, 0), (40, 3, .iinc 2 1, 0), (43, 4, .goto (-26), 17), (46, 3, .iinc 1 1, 0)],
  [(49, 4, .goto (-42), 7), (52, 0, .iconst 1, 0), (53, 2, .aload_n kF0, 0), (54, 5, .getfield 133, 0), (57, 0, .ishl, 0), (58, 0, .iconst 1, 0), (59, 0, .isub, 0), (60, 3, .istore_n kF1, 0), (61, 0, .iconst 0, 0), (62, 3, .istore_n kF2, 0), (63, 2, .iload_n kF2, 0)],
  [(64, 2, .iload_n kF1, 0), (65, 4, .if_icmp .gt 34, 99), (68, 2, .aload_n kF0, 0), (69, 5, .getfield 92, 0), (72, 2, .aload_n kF0, 0), (73, 5, .getfield 130, 0), (76, 2, .iload_n kF2, 0), (77, 6, .invokestatic 437, 0)],
  [(80, 2, .iload_n kF2, 0), (81, 2, .iload_n kF1, 0), (82, 4, .if_icmp .ne 7, 89), (85, 0, .iconst 0, 0), (86, 4, .goto 6, 92), (89, 1, .ldc_w 432, 0), (92, 5, .iastore, 0), (93, 3, .iinc 2 1, 0)],
  [(96, 4, .goto (-33), 63), (99, 2, .aload_n kF0, 0), (100, 5, .getfield 130, 0), (103, 0, .iconst 1, 0), (104, 0, .isub, 0), (105, 3, .istore_n kF2, 0), (106, 2, .iload_n kF2, 0), (107, 4, .ifCond .lt 70, 177), (110, 0, .iconst 0, 0), (111, 3, .istore_n kF3, 0)],
  [(112, 2, .iload_n kF3, 0), (113, 2, .iload_n kF1, 0), (114, 4, .if_icmp .gt 57, 171), (117, 1, .ldc_w 432, 0), (120, 3, .istore 4, 0), (122, 0, .iconst 0, 0), (123, 3, .istore 5, 0), (125, 2, .iload 5, 0), (127, 1, .bipush 8, 0)],
  [(129, 4, .if_icmp .ge 24, 153), (132, 2, .iload 4, 0), (134, 2, .aload_n kF0, 0), (135, 2, .iload_n kF2, 0), (136, 2, .iload_n kF3, 0), (137, 2, .iload 5, 0), (139, 6, .invokevirtual 443, 0), (142, 5, .invokestatic 145, 0)],
  [(145, 3, .istore 4, 0), (147, 3, .iinc 5 1, 0), (150, 4, .goto (-25), 125), (153, 2, .aload_n kF0, 0), (154, 5, .getfield 92, 0), (157, 2, .iload_n kF2, 0), (158, 2, .iload_n kF3, 0), (159, 6, .invokestatic 437, 0)],
  [(162, 2, .iload 4, 0), (164, 5, .iastore, 0), (165, 3, .iinc 3 1, 0), (168, 4, .goto (-56), 112), (171, 3, .iinc 2 (-1), 0), (174, 4, .goto (-68), 106)],
  [(177, 2, .aload_n kF0, 0), (178, 5, .getfield 92, 0), (181, 0, .iconst 0, 0), (182, 0, .iconst 0, 0), (183, 6, .invokestatic 437, 0), (186, 5, .iaload, 0), (187, 3, .istore_n kF2, 0), (188, 2, .iload_n kF2, 0), (189, 1, .ldc_w 432, 0)],
  [(192, 4, .if_icmp .lt 6, 198), (195, 1, .bipush (-2), 0), (197, 7, .ireturn, 0), (198, 2, .aload_n kF0, 0), (199, 0, .iconst 0, 0), (200, 5, .putfield 15, 0), (203, 0, .iconst 0, 0), (204, 3, .istore_n kF3, 0), (205, 0, .iconst 0, 0), (206, 3, .istore 4, 0)],
  [(208, 2, .iload 4, 0), (210, 2, .aload_n kF0, 0), (211, 5, .getfield 130, 0), (214, 4, .if_icmp .ge 64, 278), (217, 0, .iconst 0, 0), (218, 3, .istore 5, 0), (220, 2, .aload_n kF0, 0), (221, 2, .iload 4, 0), (223, 2, .iload_n kF3, 0)],
  [(224, 2, .iload 5, 0), (226, 6, .invokevirtual 443, 0), (229, 2, .aload_n kF0, 0), (230, 5, .getfield 92, 0), (233, 2, .iload 4, 0), (235, 2, .iload_n kF3, 0), (236, 6, .invokestatic 437, 0), (239, 5, .iaload, 0)],
  [(240, 4, .if_icmp .eq 9, 249), (243, 3, .iinc 5 1, 0), (246, 4, .goto (-26), 220), (249, 2, .iload_n kF3, 0), (250, 2, .aload_n kF0, 0), (251, 5, .getfield 89, 0), (254, 1, .bipush 8, 0)],
  [(256, 2, .iload 4, 0), (258, 0, .imul, 0), (259, 2, .iload 5, 0), (261, 0, .iadd, 0), (262, 5, .iaload, 0), (263, 0, .ior, 0), (264, 3, .istore_n kF3, 0), (265, 2, .aload_n kF0, 0), (266, 2, .iload 5, 0), (268, 0, .i2l, 0), (269, 6, .invokevirtual 373, 0)],
  [(272, 3, .iinc 4 1, 0), (275, 4, .goto (-67), 208), (278, 2, .iload_n kF2, 0), (279, 7, .ireturn, 0)]]
noncomputable def ky_276 : MethodName := ({ cls := "BonnetValleyModel", name := "turned", desc := "()I" } : Jvm.MethodName)
noncomputable def kRow_276 : pm_Row := ((ky_276, prog_15_method_97_code, 6, (Option.some Jvm.ClassFile.FieldType.int)), 13, (0, 6, 1), kc_276)
/-- BVModel.best -/
noncomputable def kc_277 : List (List (Nat × Nat × Instr × Nat)) := [[(0, 2, .aload_n kF0, 0), (1, 0, .iconst 0, 0), (2, 5, .putfield 3, 0), (5, 2, .aload_n kF0, 0), (6, 2, .iload_n kF1, 0), (7, 6, .invokevirtual 315, 0), (10, 4, .ifCond .ne 5, 15), (13, 0, .iconst (-1), 0), (14, 7, .ireturn, 0), (15, 0, .iconst 0, 0)],
  [(16, 3, .istore_n kF2, 0), (17, 0, .iconst 1, 0), (18, 3, .istore_n kF3, 0), (19, 2, .iload_n kF3, 0), (20, 1, .bipush 8, 0), (22, 4, .if_icmp .ge 36, 58), (25, 2, .aload_n kF0, 0), (26, 2, .iload_n kF1, 0), (27, 2, .iload_n kF3, 0), (28, 6, .invokevirtual 440, 0), (31, 6, .invokestatic 265, 0)],
  [(34, 2, .aload_n kF0, 0), (35, 2, .iload_n kF1, 0), (36, 2, .iload_n kF2, 0), (37, 6, .invokevirtual 440, 0), (40, 6, .invokestatic 265, 0), (43, 4, .if_icmp .le 7, 50), (46, 2, .iload_n kF3, 0), (47, 4, .goto 4, 51)],
  [(50, 2, .iload_n kF2, 0), (51, 3, .istore_n kF2, 0), (52, 3, .iinc 3 1, 0), (55, 4, .goto (-36), 19), (58, 2, .aload_n kF0, 0), (59, 0, .iconst 0, 0), (60, 5, .putfield 15, 0), (63, 2, .aload_n kF0, 0)],
  [(64, 2, .aload_n kF0, 0), (65, 2, .iload_n kF1, 0), (66, 2, .iload_n kF2, 0), (67, 6, .invokevirtual 440, 0), (70, 0, .i2l, 0), (71, 6, .invokevirtual 373, 0), (74, 2, .iload_n kF2, 0), (75, 7, .ireturn, 0)]]
noncomputable def ky_277 : MethodName := ({ cls := "BonnetValleyModel", name := "best", desc := "(I)I" } : Jvm.MethodName)
noncomputable def kRow_277 : pm_Row := ((ky_277, prog_15_method_98_code, 4, (Option.some Jvm.ClassFile.FieldType.int)), 13, (1, 4, 1), kc_277)
/-- BVModel.bears -/
noncomputable def kc_278 : List (List (Nat × Nat × Instr × Nat)) := [[(0, 2, .aload_n kF0, 0), (1, 0, .iconst 0, 0), (2, 5, .putfield 3, 0), (5, 2, .aload_n kF0, 0), (6, 2, .iload_n kF1, 0), (7, 6, .invokevirtual 315, 0), (10, 4, .ifCond .eq 11, 21), (13, 2, .aload_n kF0, 0), (14, 2, .iload_n kF2, 0), (15, 6, .invokevirtual 358, 0)],
  [(18, 4, .ifCond .ne 5, 23), (21, 0, .iconst (-1), 0), (22, 7, .ireturn, 0), (23, 0, .iconst 4, 0), (24, 3, .istore_n kF3, 0), (25, 2, .iload_n kF3, 0), (26, 4, .ifCond .lt 61, 87), (29, 2, .aload_n kF0, 0), (30, 2, .aload_n kF0, 0), (31, 5, .getfield 41, 0)],
  [(34, 2, .iload_n kF1, 0), (35, 2, .iload_n kF3, 0), (36, 6, .invokevirtual 292, 0), (39, 3, .istore 4, 0), (41, 2, .aload_n kF0, 0), (42, 2, .aload_n kF0, 0), (43, 5, .getfield 41, 0), (46, 2, .iload_n kF1, 0), (47, 5, .iaload, 0)],
  [(48, 2, .iload_n kF2, 0), (49, 2, .aload_n kF0, 0), (50, 5, .getfield 41, 0), (53, 1, .bipush 8, 0), (55, 2, .iload_n kF1, 0), (56, 0, .iadd, 0), (57, 5, .iaload, 0), (58, 2, .iload_n kF3, 0), (59, 2, .iload 4, 0), (61, 6, .invokevirtual 296, 0)],
  [(64, 4, .ifCond .eq 17, 81), (67, 2, .aload_n kF0, 0), (68, 0, .iconst 0, 0), (69, 5, .putfield 15, 0), (72, 2, .aload_n kF0, 0), (73, 2, .iload 4, 0), (75, 0, .i2l, 0), (76, 6, .invokevirtual 373, 0), (79, 2, .iload_n kF3, 0)],
  [(80, 7, .ireturn, 0), (81, 3, .iinc 3 (-1), 0), (84, 4, .goto (-59), 25), (87, 1, .bipush (-2), 0), (89, 7, .ireturn, 0)]]
noncomputable def ky_278 : MethodName := ({ cls := "BonnetValleyModel", name := "bears", desc := "(II)I" } : Jvm.MethodName)
noncomputable def kRow_278 : pm_Row := ((ky_278, prog_15_method_99_code, 5, (Option.some Jvm.ClassFile.FieldType.int)), 13, (2, 5, 1), kc_278)
/-- BVModel.laysSteps -/
noncomputable def kc_279 : List (List (Nat × Nat × Instr × Nat)) := [[(0, 0, .iconst 0, 0), (1, 3, .istore 5, 0), (3, 2, .iload 5, 0), (5, 2, .aload_n kF0, 0), (6, 6, .invokevirtual 122, 0), (9, 4, .if_icmp .ge 29, 38), (12, 2, .aload_n kF0, 0), (13, 5, .getfield 95, 0)],
  [(16, 2, .iload 5, 0), (18, 2, .iload 5, 0), (20, 2, .iload_n kF2, 0), (21, 4, .if_icmp .ne 7, 28), (24, 0, .iconst 0, 0), (25, 4, .goto 6, 31), (28, 1, .ldc_w 432, 0), (31, 5, .iastore, 0)],
  [(32, 3, .iinc 5 1, 0), (35, 4, .goto (-32), 3), (38, 0, .iconst 0, 0), (39, 3, .istore 5, 0), (41, 2, .iload 5, 0), (43, 2, .aload_n kF0, 0), (44, 6, .invokevirtual 122, 0), (47, 4, .if_icmp .ge 136, 183)],
  [(50, 0, .iconst 0, 0), (51, 3, .istore 6, 0), (53, 2, .iload 6, 0), (55, 2, .aload_n kF0, 0), (56, 6, .invokevirtual 122, 0), (59, 4, .if_icmp .ge 118, 177), (62, 0, .iconst 0, 0), (63, 3, .istore 7, 0)],
  [(65, 2, .iload 7, 0), (67, 1, .bipush 8, 0), (69, 4, .if_icmp .ge 102, 171), (72, 2, .aload_n kF0, 0), (73, 2, .iload 6, 0), (75, 2, .iload 7, 0), (77, 6, .invokevirtual 353, 0)],
  [(80, 3, .istore 8, 0), (82, 2, .iload 8, 0), (84, 4, .ifCond .lt 37, 121), (87, 2, .iload 6, 0), (89, 2, .iload_n kF1, 0), (90, 4, .if_icmp .eq 12, 102), (93, 2, .lload_n kF3, 0), (94, 2, .iload 6, 0)],
  [(96, 6, .invokestatic 304, 0), (99, 4, .ifCond .eq 22, 121), (102, 2, .iload 8, 0), (104, 2, .iload_n kF2, 0), (105, 4, .if_icmp .eq 12, 117), (108, 2, .lload_n kF3, 0), (109, 2, .iload 8, 0), (111, 6, .invokestatic 304, 0)],
  [(114, 4, .ifCond .eq 7, 121), (117, 0, .iconst 1, 0), (118, 4, .goto 4, 122), (121, 0, .iconst 0, 0), (122, 3, .istore 9, 0), (124, 2, .aload_n kF0, 0), (125, 5, .getfield 95, 0)],
  [(128, 2, .iload 6, 0), (130, 2, .iload 9, 0), (132, 4, .ifCond .eq 25, 157), (135, 2, .aload_n kF0, 0), (136, 5, .getfield 95, 0), (139, 2, .iload 6, 0), (141, 5, .iaload, 0), (142, 2, .aload_n kF0, 0), (143, 5, .getfield 95, 0)],
  [(146, 2, .iload 8, 0), (148, 5, .iaload, 0), (149, 0, .iconst 1, 0), (150, 0, .iadd, 0), (151, 5, .invokestatic 145, 0), (154, 4, .goto 10, 164), (157, 2, .aload_n kF0, 0), (158, 5, .getfield 95, 0)],
  [(161, 2, .iload 6, 0), (163, 5, .iaload, 0), (164, 5, .iastore, 0), (165, 3, .iinc 7 1, 0), (168, 4, .goto (-103), 65), (171, 3, .iinc 6 1, 0), (174, 4, .goto (-121), 53)],
  [(177, 3, .iinc 5 1, 0), (180, 4, .goto (-139), 41), (183, 7, .return_, 0)]]
noncomputable def ky_279 : MethodName := ({ cls := "BonnetValleyModel", name := "laysSteps", desc := "(IIJ)V" } : Jvm.MethodName)
noncomputable def kRow_279 : pm_Row := ((ky_279, prog_15_method_100_code, 10, (Option.none : Option Jvm.ClassFile.FieldType)), 13, (3, 10, 0), kc_279)
/-- BVModel.laysWay -/
noncomputable def kc_280 : List (List (Nat × Nat × Instr × Nat)) := [[(0, 2, .aload_n kF0, 0), (1, 2, .iload_n kF1, 0), (2, 2, .iload_n kF2, 0), (3, 2, .lload_n kF3, 0), (4, 6, .invokevirtual 446, 0), (7, 2, .aload_n kF0, 0), (8, 5, .getfield 33, 0), (11, 2, .iload_n kF1, 0), (12, 5, .baload, 0), (13, 4, .ifCond .ne 24, 37)],
  [(16, 2, .aload_n kF0, 0), (17, 5, .getfield 33, 0), (20, 2, .iload_n kF2, 0), (21, 5, .baload, 0), (22, 4, .ifCond .ne 15, 37), (25, 2, .aload_n kF0, 0), (26, 5, .getfield 95, 0), (29, 2, .iload_n kF1, 0), (30, 5, .iaload, 0), (31, 1, .ldc_w 432, 0)],
  [(34, 4, .if_icmp .lt 6, 40), (37, 1, .bipush (-2), 0), (39, 7, .ireturn, 0), (40, 2, .aload_n kF0, 0), (41, 0, .iconst 0, 0), (42, 5, .putfield 15, 0), (45, 2, .iload_n kF1, 0), (46, 3, .istore 5, 0)],
  [(48, 2, .aload_n kF0, 0), (49, 2, .iload 5, 0), (51, 0, .i2l, 0), (52, 6, .invokevirtual 373, 0), (55, 2, .aload_n kF0, 0), (56, 5, .getfield 95, 0), (59, 2, .iload_n kF1, 0), (60, 5, .iaload, 0), (61, 0, .iconst 1, 0), (62, 0, .isub, 0), (63, 3, .istore 6, 0)],
  [(65, 2, .iload 6, 0), (67, 4, .ifCond .lt 114, 181), (70, 0, .iconst (-1), 0), (71, 3, .istore 7, 0), (73, 0, .iconst 0, 0), (74, 3, .istore 8, 0), (76, 2, .iload 8, 0), (78, 1, .bipush 8, 0)],
  [(80, 4, .if_icmp .ge 84, 164), (83, 2, .aload_n kF0, 0), (84, 2, .iload 5, 0), (86, 2, .iload 8, 0), (88, 6, .invokevirtual 353, 0), (91, 3, .istore 9, 0), (93, 2, .iload 9, 0), (95, 4, .ifCond .lt 34, 129)],
  [(98, 2, .aload_n kF0, 0), (99, 5, .getfield 95, 0), (102, 2, .iload 9, 0), (104, 5, .iaload, 0), (105, 2, .iload 6, 0), (107, 4, .if_icmp .ne 22, 129), (110, 2, .iload 9, 0)],
  [(112, 2, .iload_n kF2, 0), (113, 4, .if_icmp .eq 12, 125), (116, 2, .lload_n kF3, 0), (117, 2, .iload 9, 0), (119, 6, .invokestatic 304, 0), (122, 4, .ifCond .eq 7, 129), (125, 0, .iconst 1, 0), (126, 4, .goto 4, 130)],
  [(129, 0, .iconst 0, 0), (130, 3, .istore 10, 0), (132, 2, .iload 10, 0), (134, 4, .ifCond .eq 20, 154), (137, 2, .iload 7, 0), (139, 4, .ifCond .lt 10, 149), (142, 2, .iload 9, 0)],
  [(144, 2, .iload 7, 0), (146, 4, .if_icmp .ge 8, 154), (149, 2, .iload 9, 0), (151, 4, .goto 5, 156), (154, 2, .iload 7, 0), (156, 3, .istore 7, 0), (158, 3, .iinc 8 1, 0)],
  [(161, 4, .goto (-85), 76), (164, 2, .iload 7, 0), (166, 3, .istore 5, 0), (168, 2, .aload_n kF0, 0), (169, 2, .iload 5, 0), (171, 0, .i2l, 0), (172, 6, .invokevirtual 373, 0), (175, 3, .iinc 6 (-1), 0)],
  [(178, 4, .goto (-113), 65), (181, 2, .aload_n kF0, 0), (182, 5, .getfield 95, 0), (185, 2, .iload_n kF1, 0), (186, 5, .iaload, 0), (187, 7, .ireturn, 0)]]
noncomputable def ky_280 : MethodName := ({ cls := "BonnetValleyModel", name := "laysWay", desc := "(IIJ)I" } : Jvm.MethodName)
noncomputable def kRow_280 : pm_Row := ((ky_280, prog_15_method_101_code, 11, (Option.some Jvm.ClassFile.FieldType.int)), 13, (3, 11, 1), kc_280)
/-- BVModel.back -/
noncomputable def kc_281 : List (List (Nat × Nat × Instr × Nat)) := [[(0, 2, .aload_n kF0, 0), (1, 0, .iconst 0, 0), (2, 5, .putfield 3, 0), (5, 2, .aload_n kF0, 0), (6, 2, .iload_n kF1, 0), (7, 6, .invokevirtual 358, 0), (10, 4, .ifCond .eq 37, 47), (13, 2, .aload_n kF0, 0), (14, 2, .iload_n kF2, 0), (15, 6, .invokevirtual 358, 0)],
  [(18, 4, .ifCond .eq 29, 47), (21, 2, .aload_n kF0, 0), (22, 2, .iload_n kF1, 0), (23, 2, .iload_n kF2, 0), (24, 2, .aload_n kF0, 0), (25, 6, .invokevirtual 413, 0), (28, 2, .aload_n kF0, 0), (29, 2, .aload_n kF0, 0), (30, 5, .getfield 41, 0)],
  [(33, 6, .invokevirtual 417, 0), (36, 1, .ldc2_w 403, 0), (39, 0, .lxor, 0), (40, 0, .land, 0), (41, 6, .invokevirtual 450, 0), (44, 4, .goto 4, 48), (47, 0, .iconst (-1), 0)],
  [(48, 7, .ireturn, 0)]]
noncomputable def ky_281 : MethodName := ({ cls := "BonnetValleyModel", name := "back", desc := "(II)I" } : Jvm.MethodName)
noncomputable def kRow_281 : pm_Row := ((ky_281, prog_15_method_102_code, 3, (Option.some Jvm.ClassFile.FieldType.int)), 13, (2, 3, 1), kc_281)
/-- BVModel.0pen -/
noncomputable def kc_282 : List (List (Nat × Nat × Instr × Nat)) := [[(0, 2, .aload_n kF0, 0), (1, 0, .iconst 0, 0), (2, 5, .putfield 3, 0), (5, 2, .aload_n kF0, 0), (6, 2, .iload_n kF1, 0), (7, 6, .invokevirtual 358, 0), (10, 4, .ifCond .eq 11, 21), (13, 2, .aload_n kF0, 0), (14, 2, .iload_n kF2, 0), (15, 6, .invokevirtual 358, 0)],
  [(18, 4, .ifCond .ne 5, 23), (21, 0, .iconst (-1), 0), (22, 7, .ireturn, 0), (23, 2, .aload_n kF0, 0), (24, 2, .iload_n kF1, 0), (25, 2, .iload_n kF2, 0), (26, 2, .aload_n kF0, 0), (27, 6, .invokevirtual 413, 0), (30, 6, .invokevirtual 450, 0)],
  [(33, 3, .istore_n kF3, 0), (34, 2, .iload_n kF3, 0), (35, 4, .ifCond .ge 5, 40), (38, 2, .iload_n kF3, 0), (39, 7, .ireturn, 0), (40, 2, .aload_n kF0, 0), (41, 2, .aload_n kF0, 0), (42, 5, .getfield 41, 0), (45, 6, .invokevirtual 417, 0)],
  [(48, 3, .lstore 4, 0), (50, 0, .iconst 0, 0), (51, 3, .istore 6, 0), (53, 0, .iconst 0, 0), (54, 3, .istore 7, 0), (56, 2, .iload 7, 0), (58, 2, .iload_n kF3, 0), (59, 4, .if_icmp .gt 30, 89), (62, 2, .iload 6, 0)],
  [(64, 2, .lload 4, 0), (66, 2, .aload_n kF0, 0), (67, 5, .getfield 11, 0), (70, 2, .iload 7, 0), (72, 5, .laload, 0), (73, 0, .l2i, 0), (74, 6, .invokestatic 304, 0), (77, 6, .invokestatic 154, 0)],
  [(80, 0, .iadd, 0), (81, 3, .istore 6, 0), (83, 3, .iinc 7 1, 0), (86, 4, .goto (-30), 56), (89, 2, .aload_n kF0, 0), (90, 0, .iconst 0, 0), (91, 5, .putfield 15, 0), (94, 2, .aload_n kF0, 0), (95, 2, .iload 6, 0)],
  [(97, 0, .i2l, 0), (98, 6, .invokevirtual 373, 0), (101, 2, .iload_n kF3, 0), (102, 7, .ireturn, 0)]]
noncomputable def ky_282 : MethodName := ({ cls := "BonnetValleyModel", name := "open", desc := "(II)I" } : Jvm.MethodName)
noncomputable def kRow_282 : pm_Row := ((ky_282, prog_15_method_103_code, 8, (Option.some Jvm.ClassFile.FieldType.int)), 13, (2, 8, 1), kc_282)
/-- BVModel.heard -/
noncomputable def kc_283 : List (List (Nat × Nat × Instr × Nat)) := [[(0, 2, .aload_n kF0, 0), (1, 0, .iconst 0, 0), (2, 5, .putfield 3, 0), (5, 2, .aload_n kF0, 0), (6, 2, .iload_n kF1, 0), (7, 6, .invokevirtual 315, 0), (10, 4, .ifCond .eq 22, 32), (13, 2, .iload_n kF2, 0), (14, 0, .i2l, 0), (15, 0, .lconst kG0, 0)],
  [(16, 0, .lconst kG1, 0), (17, 6, .invokestatic 126, 0), (20, 4, .ifCond .eq 12, 32), (23, 2, .aload_n kF0, 0), (24, 5, .getfield 194, 0), (27, 1, .bipush 10, 0), (29, 4, .if_icmp .ne 5, 34)],
  [(32, 0, .iconst (-1), 0), (33, 7, .ireturn, 0), (34, 2, .aload_n kF0, 0), (35, 5, .getfield 98, 0), (38, 2, .aload_n kF0, 0), (39, 5, .getfield 194, 0), (42, 2, .iload_n kF1, 0), (43, 5, .iastore, 0), (44, 2, .aload_n kF0, 0), (45, 5, .getfield 101, 0)],
  [(48, 2, .aload_n kF0, 0), (49, 5, .getfield 194, 0), (52, 2, .iload_n kF2, 0), (53, 5, .iastore, 0), (54, 2, .aload_n kF0, 0), (55, 0, .dup, 0), (56, 5, .getfield 194, 0), (59, 0, .iconst 1, 0), (60, 0, .iadd, 0), (61, 5, .putfield 194, 0)],
  [(64, 2, .aload_n kF0, 0), (65, 5, .getfield 194, 0), (68, 7, .ireturn, 0)]]
noncomputable def ky_283 : MethodName := ({ cls := "BonnetValleyModel", name := "heard", desc := "(II)I" } : Jvm.MethodName)
noncomputable def kRow_283 : pm_Row := ((ky_283, prog_15_method_104_code, 3, (Option.some Jvm.ClassFile.FieldType.int)), 13, (2, 3, 1), kc_283)
/-- BVModel.forget -/
noncomputable def kc_284 : List (List (Nat × Nat × Instr × Nat)) := [[(0, 2, .aload_n kF0, 0), (1, 0, .iconst 0, 0), (2, 5, .putfield 3, 0), (5, 2, .aload_n kF0, 0), (6, 5, .getfield 194, 0), (9, 3, .istore_n kF1, 0), (10, 2, .aload_n kF0, 0), (11, 0, .iconst 0, 0), (12, 5, .putfield 194, 0), (15, 2, .iload_n kF1, 0)],
  [(16, 7, .ireturn, 0)]]
noncomputable def ky_284 : MethodName := ({ cls := "BonnetValleyModel", name := "forget", desc := "()I" } : Jvm.MethodName)
noncomputable def kRow_284 : pm_Row := ((ky_284, prog_15_method_105_code, 2, (Option.some Jvm.ClassFile.FieldType.int)), 13, (0, 2, 1), kc_284)
/-- BVModel.fitting -/
noncomputable def kc_285 : List (List (Nat × Nat × Instr × Nat)) := [[(0, 2, .aload_n kF0, 0), (1, 6, .invokevirtual 413, 0), (4, 3, .lstore_n kF1, 0), (5, 0, .iconst 0, 0), (6, 3, .istore_n kF3, 0), (7, 2, .iload_n kF3, 0), (8, 2, .aload_n kF0, 0), (9, 5, .getfield 194, 0), (12, 4, .if_icmp .ge 49, 61), (15, 2, .aload_n kF0, 0)],
  [(16, 2, .aload_n kF0, 0), (17, 5, .getfield 41, 0), (20, 2, .aload_n kF0, 0), (21, 5, .getfield 98, 0), (24, 2, .iload_n kF3, 0), (25, 5, .iaload, 0), (26, 6, .invokevirtual 300, 0), (29, 3, .lstore 4, 0), (31, 2, .lload_n kF1, 0)],
  [(32, 2, .aload_n kF0, 0), (33, 5, .getfield 101, 0), (36, 2, .iload_n kF3, 0), (37, 5, .iaload, 0), (38, 0, .iconst 1, 0), (39, 4, .if_icmp .ne 8, 47), (42, 2, .lload 4, 0), (44, 4, .goto 9, 53), (47, 2, .lload 4, 0)],
  [(49, 1, .ldc2_w 403, 0), (52, 0, .lxor, 0), (53, 0, .land, 0), (54, 3, .lstore_n kF1, 0), (55, 3, .iinc 3 1, 0), (58, 4, .goto (-51), 7), (61, 2, .lload_n kF1, 0), (62, 7, .lreturn, 0)]]
noncomputable def ky_285 : MethodName := ({ cls := "BonnetValleyModel", name := "fitting", desc := "()J" } : Jvm.MethodName)
noncomputable def kRow_285 : pm_Row := ((ky_285, prog_15_method_106_code, 6, (Option.some Jvm.ClassFile.FieldType.long)), 13, (0, 6, 3), kc_285)
/-- BVModel.lost -/
noncomputable def kc_286 : List (List (Nat × Nat × Instr × Nat)) := [[(0, 2, .aload_n kF0, 0), (1, 0, .iconst 0, 0), (2, 5, .putfield 3, 0), (5, 2, .aload_n kF0, 0), (6, 6, .invokevirtual 454, 0), (9, 3, .lstore_n kF1, 0), (10, 2, .aload_n kF0, 0), (11, 0, .iconst 0, 0), (12, 5, .putfield 15, 0), (15, 2, .aload_n kF0, 0)],
  [(16, 2, .lload_n kF1, 0), (17, 6, .invokestatic 405, 0), (20, 0, .i2l, 0), (21, 6, .invokevirtual 373, 0), (24, 2, .lload_n kF1, 0), (25, 7, .lreturn, 0)]]
noncomputable def ky_286 : MethodName := ({ cls := "BonnetValleyModel", name := "lost", desc := "()J" } : Jvm.MethodName)
noncomputable def kRow_286 : pm_Row := ((ky_286, prog_15_method_107_code, 3, (Option.some Jvm.ClassFile.FieldType.long)), 13, (0, 3, 3), kc_286)
/-- BVModel.asks -/
noncomputable def kc_287 : List (List (Nat × Nat × Instr × Nat)) := [[(0, 2, .aload_n kF0, 0), (1, 0, .iconst 0, 0), (2, 5, .putfield 3, 0), (5, 2, .aload_n kF0, 0), (6, 6, .invokevirtual 454, 0), (9, 3, .lstore_n kF1, 0), (10, 1, .bipush (-2), 0), (12, 3, .istore_n kF3, 0), (13, 1, .ldc_w 432, 0)],
  [(16, 3, .istore 4, 0), (18, 0, .iconst 0, 0), (19, 3, .istore 5, 0), (21, 2, .iload 5, 0), (23, 2, .aload_n kF0, 0), (24, 5, .getfield 130, 0), (27, 4, .if_icmp .ge 69, 96), (30, 2, .lload_n kF1, 0), (31, 0, .lconst kG0, 0)],
  [(32, 0, .lcmp, 0), (33, 4, .ifCond .eq 63, 96), (36, 2, .lload_n kF1, 0), (37, 2, .aload_n kF0, 0), (38, 2, .aload_n kF0, 0), (39, 5, .getfield 41, 0), (42, 2, .iload 5, 0), (44, 6, .invokevirtual 300, 0), (47, 0, .land, 0)],
  [(48, 6, .invokestatic 405, 0), (51, 3, .istore 6, 0), (53, 2, .iload 6, 0), (55, 2, .lload_n kF1, 0), (56, 6, .invokestatic 405, 0), (59, 2, .iload 6, 0), (61, 0, .isub, 0), (62, 5, .invokestatic 273, 0)],
  [(65, 3, .istore 7, 0), (67, 2, .iload 7, 0), (69, 2, .iload 4, 0), (71, 4, .if_icmp .ge 8, 79), (74, 2, .iload 5, 0), (76, 4, .goto 4, 80), (79, 2, .iload_n kF3, 0)],
  [(80, 3, .istore_n kF3, 0), (81, 2, .iload 4, 0), (83, 2, .iload 7, 0), (85, 5, .invokestatic 145, 0), (88, 3, .istore 4, 0), (90, 3, .iinc 5 1, 0), (93, 4, .goto (-72), 21)],
  [(96, 2, .iload_n kF3, 0), (97, 4, .ifCond .lt 15, 112), (100, 2, .aload_n kF0, 0), (101, 0, .iconst 0, 0), (102, 5, .putfield 15, 0), (105, 2, .aload_n kF0, 0), (106, 2, .iload 4, 0), (108, 0, .i2l, 0), (109, 6, .invokevirtual 373, 0)],
  [(112, 2, .iload_n kF3, 0), (113, 7, .ireturn, 0)]]
noncomputable def ky_287 : MethodName := ({ cls := "BonnetValleyModel", name := "asks", desc := "()I" } : Jvm.MethodName)
noncomputable def kRow_287 : pm_Row := ((ky_287, prog_15_method_108_code, 8, (Option.some Jvm.ClassFile.FieldType.int)), 13, (0, 8, 1), kc_287)
/-- BVModel.storm -/
noncomputable def kc_288 : List (List (Nat × Nat × Instr × Nat)) := [[(0, 2, .aload_n kF0, 0), (1, 0, .iconst 0, 0), (2, 5, .putfield 3, 0), (5, 2, .aload_n kF0, 0), (6, 2, .iload_n kF1, 0), (7, 6, .invokevirtual 358, 0), (10, 4, .ifCond .eq 27, 37), (13, 2, .iload_n kF2, 0), (14, 0, .i2l, 0), (15, 0, .lconst kG0, 0)],
  [(16, 1, .ldc2_w 457, 0), (19, 6, .invokestatic 126, 0), (22, 4, .ifCond .eq 15, 37), (25, 2, .iload_n kF3, 0), (26, 0, .i2l, 0), (27, 0, .lconst kG0, 0), (28, 1, .ldc2_w 459, 0), (31, 6, .invokestatic 126, 0)],
  [(34, 4, .ifCond .ne 5, 39), (37, 0, .iconst (-1), 0), (38, 7, .ireturn, 0), (39, 0, .iconst 0, 0), (40, 3, .istore 4, 0), (42, 2, .iload 4, 0), (44, 1, .bipush 10, 0), (46, 4, .if_icmp .ge 30, 76)],
  [(49, 2, .aload_n kF0, 0), (50, 5, .getfield 104, 0), (53, 2, .iload 4, 0), (55, 2, .iload 4, 0), (57, 4, .ifCond .ne 7, 64), (60, 0, .iconst 1, 0), (61, 4, .goto 4, 65)],
  [(64, 0, .iconst 0, 0), (65, 6, .invokestatic 154, 0), (68, 0, .i2l, 0), (69, 5, .lastore, 0), (70, 3, .iinc 4 1, 0), (73, 4, .goto (-31), 42), (76, 0, .lconst kG1, 0), (77, 3, .lstore 4, 0), (79, 0, .iconst 0, 0)],
  [(80, 3, .istore 6, 0), (82, 2, .iload 6, 0), (84, 2, .aload_n kF0, 0), (85, 5, .getfield 130, 0), (88, 4, .if_icmp .ge 137, 225), (91, 2, .aload_n kF0, 0), (92, 2, .aload_n kF0, 0), (93, 5, .getfield 41, 0)],
  [(96, 2, .iload 6, 0), (98, 2, .iload_n kF1, 0), (99, 6, .invokevirtual 308, 0), (102, 6, .invokestatic 154, 0), (105, 1, .bipush 10, 0), (107, 2, .iload_n kF3, 0), (108, 0, .isub, 0), (109, 0, .imul, 0), (110, 2, .aload_n kF0, 0), (111, 2, .aload_n kF0, 0)],
  [(112, 5, .getfield 41, 0), (115, 2, .iload 6, 0), (117, 5, .iaload, 0), (118, 2, .iload_n kF1, 0), (119, 2, .aload_n kF0, 0), (120, 5, .getfield 41, 0), (123, 1, .bipush 8, 0), (125, 2, .iload 6, 0), (127, 0, .iadd, 0)],
  [(128, 5, .iaload, 0), (129, 0, .iconst 0, 0), (130, 2, .aload_n kF0, 0), (131, 2, .aload_n kF0, 0), (132, 5, .getfield 41, 0), (135, 2, .iload 6, 0), (137, 0, .iconst 0, 0), (138, 6, .invokevirtual 292, 0), (141, 6, .invokevirtual 296, 0)],
  [(144, 6, .invokestatic 154, 0), (147, 2, .iload_n kF3, 0), (148, 0, .imul, 0), (149, 0, .iadd, 0), (150, 3, .istore 7, 0), (152, 1, .bipush 8, 0), (154, 3, .istore 8, 0), (156, 2, .iload 8, 0), (158, 4, .ifCond .lt 53, 211)],
  [(161, 2, .aload_n kF0, 0), (162, 5, .getfield 104, 0), (165, 2, .iload 8, 0), (167, 2, .aload_n kF0, 0), (168, 5, .getfield 104, 0), (171, 2, .iload 8, 0), (173, 5, .laload, 0), (174, 1, .bipush 10, 0)],
  [(176, 2, .iload 7, 0), (178, 0, .isub, 0), (179, 0, .i2l, 0), (180, 0, .lmul, 0), (181, 2, .iload 8, 0), (183, 4, .ifCond .le 19, 202), (186, 2, .aload_n kF0, 0), (187, 5, .getfield 104, 0), (190, 2, .iload 8, 0)],
  [(192, 0, .iconst 1, 0), (193, 0, .isub, 0), (194, 5, .laload, 0), (195, 2, .iload 7, 0), (197, 0, .i2l, 0), (198, 0, .lmul, 0), (199, 4, .goto 4, 203), (202, 0, .lconst kG0, 0), (203, 0, .ladd, 0), (204, 5, .lastore, 0), (205, 3, .iinc 8 (-1), 0)],
  [(208, 4, .goto (-52), 156), (211, 2, .lload 4, 0), (213, 1, .ldc2_w 459, 0), (216, 0, .lmul, 0), (217, 3, .lstore 4, 0), (219, 3, .iinc 6 1, 0), (222, 4, .goto (-140), 82)],
  [(225, 0, .lconst kG0, 0), (226, 3, .lstore 6, 0), (228, 2, .iload_n kF2, 0), (229, 3, .istore 8, 0), (231, 2, .iload 8, 0), (233, 1, .bipush 8, 0), (235, 4, .if_icmp .gt 21, 256), (238, 2, .lload 6, 0)],
  [(240, 2, .aload_n kF0, 0), (241, 5, .getfield 104, 0), (244, 2, .iload 8, 0), (246, 5, .laload, 0), (247, 0, .ladd, 0), (248, 3, .lstore 6, 0), (250, 3, .iinc 8 1, 0), (253, 4, .goto (-22), 231)],
  [(256, 2, .lload 6, 0), (258, 2, .lload 4, 0), (260, 6, .invokestatic 7, 0), (263, 3, .lstore 8, 0), (265, 2, .aload_n kF0, 0), (266, 0, .iconst 0, 0), (267, 5, .putfield 15, 0), (270, 2, .aload_n kF0, 0), (271, 2, .lload 6, 0)],
  [(273, 2, .lload 8, 0), (275, 0, .ldiv, 0), (276, 6, .invokevirtual 373, 0), (279, 2, .aload_n kF0, 0), (280, 2, .lload 4, 0), (282, 2, .lload 8, 0), (284, 0, .ldiv, 0), (285, 6, .invokevirtual 373, 0)],
  [(288, 0, .iconst 0, 0), (289, 7, .ireturn, 0)]]
noncomputable def ky_288 : MethodName := ({ cls := "BonnetValleyModel", name := "storm", desc := "(III)I" } : Jvm.MethodName)
noncomputable def kRow_288 : pm_Row := ((ky_288, prog_15_method_109_code, 10, (Option.some Jvm.ClassFile.FieldType.int)), 13, (3, 10, 1), kc_288)
/-- BVModel.cock -/
noncomputable def kc_289 : List (List (Nat × Nat × Instr × Nat)) := [[(0, 2, .aload_n kF0, 0), (1, 0, .iconst 0, 0), (2, 5, .putfield 3, 0), (5, 2, .iload_n kF1, 0), (6, 0, .i2l, 0), (7, 0, .lconst kG0, 0), (8, 1, .ldc2_w 361, 0), (11, 6, .invokestatic 126, 0), (14, 4, .ifCond .eq 17, 31)],
  [(17, 2, .iload_n kF2, 0), (18, 0, .i2l, 0), (19, 1, .ldc2_w 330, 0), (22, 1, .ldc2_w 461, 0), (25, 6, .invokestatic 126, 0), (28, 4, .ifCond .ne 5, 33), (31, 0, .iconst (-1), 0)],
  [(32, 7, .ireturn, 0), (33, 0, .iconst 0, 0), (34, 3, .istore_n kF3, 0), (35, 2, .iload_n kF3, 0), (36, 2, .iload_n kF1, 0), (37, 4, .if_icmp .gt 104, 141), (40, 0, .iconst 0, 0), (41, 3, .istore 4, 0), (43, 2, .iload 4, 0), (45, 1, .bipush 10, 0), (47, 4, .if_icmp .ge 88, 135)],
  [(50, 1, .bipush 10, 0), (52, 2, .iload_n kF3, 0), (53, 0, .imul, 0), (54, 2, .iload 4, 0), (56, 0, .iadd, 0), (57, 3, .istore 5, 0), (59, 2, .aload_n kF0, 0), (60, 5, .getfield 107, 0), (63, 2, .iload 5, 0)],
  [(65, 0, .iconst 0, 0), (66, 5, .iastore, 0), (67, 2, .iload_n kF2, 0), (68, 2, .iload_n kF3, 0), (69, 5, .invokestatic 145, 0), (72, 3, .istore 6, 0), (74, 2, .iload 6, 0), (76, 4, .ifCond .le 53, 129), (79, 2, .aload_n kF0, 0)],
  [(80, 5, .getfield 107, 0), (83, 2, .iload 5, 0), (85, 2, .iload 6, 0), (87, 2, .iload 4, 0), (89, 4, .if_icmp .eq 26, 115), (92, 2, .aload_n kF0, 0), (93, 5, .getfield 107, 0)],
  [(96, 1, .bipush 10, 0), (98, 2, .iload_n kF3, 0), (99, 2, .iload 6, 0), (101, 0, .isub, 0), (102, 0, .imul, 0), (103, 2, .iload 6, 0), (105, 0, .iadd, 0), (106, 5, .iaload, 0), (107, 4, .ifCond .ne 8, 115), (110, 2, .iload 6, 0)],
  [(112, 4, .goto 10, 122), (115, 2, .aload_n kF0, 0), (116, 5, .getfield 107, 0), (119, 2, .iload 5, 0), (121, 5, .iaload, 0), (122, 5, .iastore, 0), (123, 3, .iinc 6 (-1), 0), (126, 4, .goto (-52), 74)],
  [(129, 3, .iinc 4 1, 0), (132, 4, .goto (-89), 43), (135, 3, .iinc 3 1, 0), (138, 4, .goto (-103), 35), (141, 2, .aload_n kF0, 0), (142, 5, .getfield 107, 0)],
  [(145, 1, .bipush 10, 0), (147, 2, .iload_n kF1, 0), (148, 0, .imul, 0), (149, 5, .iaload, 0), (150, 7, .ireturn, 0)]]
noncomputable def ky_289 : MethodName := ({ cls := "BonnetValleyModel", name := "cock", desc := "(II)I" } : Jvm.MethodName)
noncomputable def kRow_289 : pm_Row := ((ky_289, prog_15_method_110_code, 7, (Option.some Jvm.ClassFile.FieldType.int)), 13, (2, 7, 1), kc_289)
/-- BVModel.law -/
noncomputable def kc_290 : List (List (Nat × Nat × Instr × Nat)) := [[(0, 2, .aload_n kF0, 0), (1, 0, .iconst 0, 0), (2, 5, .putfield 3, 0), (5, 2, .aload_n kF0, 0), (6, 6, .invokevirtual 251, 0), (9, 3, .istore_n kF1, 0), (10, 2, .iload_n kF1, 0), (11, 4, .ifCond .ge 11, 22), (14, 2, .iload_n kF1, 0), (15, 0, .iconst 1, 0)],
  [(16, 0, .iadd, 0), (17, 1, .sipush 10000, 0), (20, 0, .isub, 0), (21, 7, .ireturn, 0), (22, 2, .aload_n kF0, 0), (23, 2, .aload_n kF0, 0), (24, 5, .getfield 41, 0), (27, 6, .invokevirtual 417, 0), (30, 6, .invokestatic 405, 0)],
  [(33, 3, .istore_n kF2, 0), (34, 2, .aload_n kF0, 0), (35, 5, .getfield 248, 0), (38, 3, .istore_n kF3, 0), (39, 0, .iconst 0, 0), (40, 3, .istore 4, 0), (42, 2, .iload 4, 0), (44, 2, .aload_n kF0, 0), (45, 5, .getfield 248, 0)],
  [(48, 4, .if_icmp .ge 23, 71), (51, 2, .aload_n kF0, 0), (52, 5, .getfield 110, 0), (55, 2, .iload 4, 0), (57, 2, .aload_n kF0, 0), (58, 5, .getfield 56, 0), (61, 2, .iload 4, 0), (63, 5, .iaload, 0)],
  [(64, 5, .iastore, 0), (65, 3, .iinc 4 1, 0), (68, 4, .goto (-26), 42), (71, 2, .aload_n kF0, 0), (72, 2, .aload_n kF0, 0), (73, 5, .getfield 59, 0), (76, 2, .aload_n kF0, 0), (77, 5, .getfield 227, 0)],
  [(80, 6, .invokevirtual 254, 0), (83, 2, .aload_n kF0, 0), (84, 2, .aload_n kF0, 0), (85, 5, .getfield 41, 0), (88, 6, .invokevirtual 417, 0), (91, 6, .invokestatic 405, 0), (94, 3, .istore 4, 0)],
  [(96, 2, .aload_n kF0, 0), (97, 2, .aload_n kF0, 0), (98, 5, .getfield 110, 0), (101, 2, .iload_n kF3, 0), (102, 6, .invokevirtual 254, 0), (105, 2, .aload_n kF0, 0), (106, 0, .iconst 0, 0), (107, 5, .putfield 15, 0), (110, 2, .aload_n kF0, 0), (111, 2, .iload 4, 0)],
  [(113, 0, .i2l, 0), (114, 6, .invokevirtual 373, 0), (117, 2, .aload_n kF0, 0), (118, 2, .iload_n kF2, 0), (119, 0, .i2l, 0), (120, 6, .invokevirtual 373, 0), (123, 2, .iload 4, 0), (125, 2, .iload_n kF2, 0), (126, 0, .isub, 0), (127, 7, .ireturn, 0)]]
noncomputable def ky_290 : MethodName := ({ cls := "BonnetValleyModel", name := "law", desc := "()I" } : Jvm.MethodName)
noncomputable def kRow_290 : pm_Row := ((ky_290, prog_15_method_111_code, 5, (Option.some Jvm.ClassFile.FieldType.int)), 13, (0, 5, 1), kc_290)
/-- BVModel.gets -/
noncomputable def kc_291 : List (List (Nat × Nat × Instr × Nat)) := [[(0, 2, .iload_n kF2, 0), (1, 2, .iload_n kF0, 0), (2, 2, .iload_n kF1, 0), (3, 5, .invokestatic 145, 0), (6, 0, .imul, 0), (7, 0, .iconst 4, 0), (8, 0, .idiv, 0), (9, 2, .iload_n kF0, 0), (10, 0, .isub, 0), (11, 0, .iconst 0, 0), (12, 2, .iload_n kF0, 0), (13, 0, .iconst 4, 0), (14, 0, .isub, 0), (15, 5, .invokestatic 273, 0)],
  [(18, 0, .isub, 0), (19, 7, .ireturn, 0)]]
noncomputable def ky_291 : MethodName := ({ cls := "BonnetValleyModel", name := "gets", desc := "(III)I" } : Jvm.MethodName)
noncomputable def kRow_291 : pm_Row := ((ky_291, prog_15_method_112_code, 3, (Option.some Jvm.ClassFile.FieldType.int)), 13, (3, 3, 1), kc_291)
/-- BVModel.isRest -/
noncomputable def kc_292 : List (List (Nat × Nat × Instr × Nat)) := [[(0, 0, .iconst 1, 0), (1, 3, .istore_n kF3, 0), (2, 0, .iconst 0, 0), (3, 3, .istore 4, 0), (5, 2, .iload 4, 0), (7, 1, .bipush 9, 0), (9, 4, .if_icmp .gt 35, 44), (12, 2, .iload_n kF3, 0), (13, 4, .ifCond .eq 23, 36)],
  [(16, 2, .iload 4, 0), (18, 2, .iload_n kF1, 0), (19, 2, .iload_n kF2, 0), (20, 6, .invokestatic 463, 0), (23, 2, .iload_n kF0, 0), (24, 2, .iload_n kF1, 0), (25, 2, .iload_n kF2, 0), (26, 6, .invokestatic 463, 0), (29, 4, .if_icmp .gt 7, 36)],
  [(32, 0, .iconst 1, 0), (33, 4, .goto 4, 37), (36, 0, .iconst 0, 0), (37, 3, .istore_n kF3, 0), (38, 3, .iinc 4 1, 0), (41, 4, .goto (-36), 5), (44, 2, .iload_n kF3, 0), (45, 7, .ireturn, 0)]]
noncomputable def ky_292 : MethodName := ({ cls := "BonnetValleyModel", name := "isRest", desc := "(III)Z" } : Jvm.MethodName)
noncomputable def kRow_292 : pm_Row := ((ky_292, prog_15_method_113_code, 5, (Option.some Jvm.ClassFile.FieldType.boolean)), 13, (3, 5, 2), kc_292)
/-- BVModel.rests -/
noncomputable def kc_293 : List (List (Nat × Nat × Instr × Nat)) := [[(0, 2, .aload_n kF0, 0), (1, 0, .iconst 0, 0), (2, 5, .putfield 3, 0), (5, 2, .iload_n kF1, 0), (6, 0, .i2l, 0), (7, 0, .lconst kG0, 0), (8, 1, .ldc2_w 466, 0), (11, 6, .invokestatic 126, 0), (14, 4, .ifCond .ne 5, 19)],
  [(17, 0, .iconst (-1), 0), (18, 7, .ireturn, 0), (19, 0, .iconst 0, 0), (20, 3, .istore_n kF2, 0), (21, 2, .aload_n kF0, 0), (22, 0, .iconst 0, 0), (23, 5, .putfield 15, 0), (26, 0, .iconst 0, 0), (27, 3, .istore_n kF3, 0), (28, 2, .iload_n kF3, 0), (29, 1, .bipush 9, 0), (31, 4, .if_icmp .gt 65, 96)],
  [(34, 0, .iconst 0, 0), (35, 3, .istore 4, 0), (37, 2, .iload 4, 0), (39, 1, .bipush 9, 0), (41, 4, .if_icmp .gt 49, 90), (44, 2, .iload_n kF3, 0), (45, 2, .iload 4, 0), (47, 2, .iload_n kF1, 0)],
  [(48, 6, .invokestatic 468, 0), (51, 4, .ifCond .eq 33, 84), (54, 2, .iload 4, 0), (56, 2, .iload_n kF3, 0), (57, 2, .iload_n kF1, 0), (58, 6, .invokestatic 468, 0), (61, 4, .ifCond .eq 23, 84)],
  [(64, 2, .iload_n kF2, 0), (65, 4, .ifCond .ne 16, 81), (68, 2, .aload_n kF0, 0), (69, 2, .iload_n kF3, 0), (70, 0, .i2l, 0), (71, 6, .invokevirtual 373, 0), (74, 2, .aload_n kF0, 0), (75, 2, .iload 4, 0), (77, 0, .i2l, 0), (78, 6, .invokevirtual 373, 0)],
  [(81, 3, .iinc 2 1, 0), (84, 3, .iinc 4 1, 0), (87, 4, .goto (-50), 37), (90, 3, .iinc 3 1, 0), (93, 4, .goto (-65), 28)],
  [(96, 2, .iload_n kF2, 0), (97, 7, .ireturn, 0)]]
noncomputable def ky_293 : MethodName := ({ cls := "BonnetValleyModel", name := "rests", desc := "(I)I" } : Jvm.MethodName)
noncomputable def kRow_293 : pm_Row := ((ky_293, prog_15_method_114_code, 5, (Option.some Jvm.ClassFile.FieldType.int)), 13, (1, 5, 1), kc_293)
/-- BVModel.draws -/
noncomputable def kc_294 : List (List (Nat × Nat × Instr × Nat)) := [[(0, 2, .aload_n kF0, 0), (1, 2, .aload_n kF0, 0), (2, 5, .getfield 471, 0), (5, 1, .ldc_w 474, 0), (8, 0, .imul, 0), (9, 1, .sipush 12345, 0), (12, 0, .iadd, 0), (13, 5, .putfield 471, 0)],
  [(16, 2, .aload_n kF0, 0), (17, 5, .getfield 471, 0), (20, 1, .bipush 16, 0), (22, 0, .iushr, 0), (23, 2, .iload_n kF1, 0), (24, 0, .irem, 0), (25, 7, .ireturn, 0)]]
noncomputable def ky_294 : MethodName := ({ cls := "BonnetValleyModel", name := "draws", desc := "(I)I" } : Jvm.MethodName)
noncomputable def kRow_294 : pm_Row := ((ky_294, prog_15_method_115_code, 2, (Option.some Jvm.ClassFile.FieldType.int)), 13, (1, 2, 1), kc_294)
/-- BVModel.years -/
noncomputable def kc_295 : List (List (Nat × Nat × Instr × Nat)) := [[(0, 2, .aload_n kF0, 0), (1, 0, .iconst 0, 0), (2, 5, .putfield 3, 0), (5, 2, .iload_n kF2, 0), (6, 0, .i2l, 0), (7, 0, .lconst kG1, 0), (8, 1, .ldc2_w 361, 0), (11, 6, .invokestatic 126, 0), (14, 4, .ifCond .ne 5, 19)],
  [(17, 0, .iconst (-1), 0), (18, 7, .ireturn, 0), (19, 2, .aload_n kF0, 0), (20, 2, .iload_n kF1, 0), (21, 5, .putfield 471, 0), (24, 2, .aload_n kF0, 0), (25, 6, .invokevirtual 424, 0), (28, 0, .iconst 0, 0), (29, 3, .istore_n kF3, 0), (30, 2, .iload_n kF3, 0), (31, 2, .iload_n kF2, 0)],
  [(32, 4, .if_icmp .ge 93, 125), (35, 2, .aload_n kF0, 0), (36, 0, .iconst 4, 0), (37, 6, .invokevirtual 475, 0), (40, 3, .istore 4, 0), (42, 2, .iload 4, 0), (44, 0, .iconst 2, 0), (45, 4, .if_icmp .ge 14, 59)],
  [(48, 2, .aload_n kF0, 0), (49, 2, .aload_n kF0, 0), (50, 5, .getfield 44, 0), (53, 6, .invokevirtual 347, 0), (56, 4, .goto 63, 119), (59, 2, .aload_n kF0, 0), (60, 5, .getfield 130, 0), (63, 4, .ifCond .le 56, 119)],
  [(66, 2, .aload_n kF0, 0), (67, 2, .aload_n kF0, 0), (68, 5, .getfield 130, 0), (71, 6, .invokevirtual 475, 0), (74, 3, .istore 5, 0), (76, 2, .aload_n kF0, 0), (77, 1, .bipush 8, 0), (79, 6, .invokevirtual 475, 0)],
  [(82, 3, .istore 6, 0), (84, 2, .iload 4, 0), (86, 0, .iconst 2, 0), (87, 4, .if_icmp .ne 19, 106), (90, 2, .aload_n kF0, 0), (91, 2, .aload_n kF0, 0), (92, 5, .getfield 44, 0), (95, 2, .iload 5, 0)],
  [(97, 2, .iload 6, 0), (99, 6, .invokevirtual 377, 0), (102, 0, .pop, 0), (103, 4, .goto 16, 119), (106, 2, .aload_n kF0, 0), (107, 2, .aload_n kF0, 0), (108, 5, .getfield 44, 0), (111, 2, .iload 5, 0)],
  [(113, 2, .iload 6, 0), (115, 6, .invokevirtual 383, 0), (118, 0, .pop, 0), (119, 3, .iinc 3 1, 0), (122, 4, .goto (-92), 30), (125, 0, .iconst 0, 0), (126, 3, .istore_n kF3, 0), (127, 0, .iconst 0, 0)],
  [(128, 3, .istore 4, 0), (130, 2, .iload 4, 0), (132, 2, .aload_n kF0, 0), (133, 5, .getfield 130, 0), (136, 4, .if_icmp .ge 22, 158), (139, 2, .iload_n kF3, 0), (140, 2, .aload_n kF0, 0), (141, 5, .getfield 44, 0)],
  [(144, 1, .bipush 16, 0), (146, 2, .iload 4, 0), (148, 0, .iadd, 0), (149, 5, .iaload, 0), (150, 0, .iadd, 0), (151, 3, .istore_n kF3, 0), (152, 3, .iinc 4 1, 0), (155, 4, .goto (-25), 130), (158, 2, .aload_n kF0, 0), (159, 0, .iconst 0, 0)],
  [(160, 5, .putfield 15, 0), (163, 2, .aload_n kF0, 0), (164, 2, .aload_n kF0, 0), (165, 2, .aload_n kF0, 0), (166, 5, .getfield 44, 0), (169, 6, .invokevirtual 417, 0), (172, 6, .invokestatic 405, 0), (175, 0, .i2l, 0)],
  [(176, 6, .invokevirtual 373, 0), (179, 2, .aload_n kF0, 0), (180, 2, .iload_n kF3, 0), (181, 0, .i2l, 0), (182, 6, .invokevirtual 373, 0), (185, 2, .aload_n kF0, 0), (186, 2, .aload_n kF0, 0), (187, 5, .getfield 44, 0), (190, 6, .invokevirtual 366, 0)],
  [(193, 7, .ireturn, 0)]]
noncomputable def ky_295 : MethodName := ({ cls := "BonnetValleyModel", name := "years", desc := "(II)I" } : Jvm.MethodName)
noncomputable def kRow_295 : pm_Row := ((ky_295, prog_15_method_116_code, 7, (Option.some Jvm.ClassFile.FieldType.int)), 13, (2, 7, 1), kc_295)
/-- BVModel.keep -/
noncomputable def kc_296 : List (List (Nat × Nat × Instr × Nat)) := [[(0, 2, .aload_n kF0, 0), (1, 0, .iconst 0, 0), (2, 5, .putfield 3, 0), (5, 2, .iload_n kF1, 0), (6, 0, .i2l, 0), (7, 0, .lconst kG0, 0), (8, 1, .ldc2_w 330, 0), (11, 6, .invokestatic 126, 0), (14, 4, .ifCond .ne 5, 19)],
  [(17, 0, .iconst 0, 0), (18, 7, .ireturn, 0), (19, 2, .aload_n kF0, 0), (20, 5, .getfield 113, 0), (23, 2, .iload_n kF1, 0), (24, 0, .iconst 1, 0), (25, 5, .bastore, 0), (26, 2, .aload_n kF0, 0), (27, 5, .getfield 116, 0), (30, 2, .iload_n kF1, 0), (31, 2, .aload_n kF0, 0)],
  [(32, 5, .getfield 191, 0), (35, 5, .iastore, 0), (36, 0, .iconst 0, 0), (37, 3, .istore_n kF2, 0), (38, 2, .iload_n kF2, 0), (39, 1, .bipush 41, 0), (41, 4, .if_icmp .ge 26, 67), (44, 2, .aload_n kF0, 0), (45, 5, .getfield 119, 0)],
  [(48, 1, .bipush 41, 0), (50, 2, .iload_n kF1, 0), (51, 0, .imul, 0), (52, 2, .iload_n kF2, 0), (53, 0, .iadd, 0), (54, 2, .aload_n kF0, 0), (55, 5, .getfield 41, 0), (58, 2, .iload_n kF2, 0), (59, 5, .iaload, 0), (60, 5, .iastore, 0), (61, 3, .iinc 2 1, 0)],
  [(64, 4, .goto (-26), 38), (67, 0, .iconst 1, 0), (68, 7, .ireturn, 0)]]
noncomputable def ky_296 : MethodName := ({ cls := "BonnetValleyModel", name := "keep", desc := "(I)Z" } : Jvm.MethodName)
noncomputable def kRow_296 : pm_Row := ((ky_296, prog_15_method_117_code, 3, (Option.some Jvm.ClassFile.FieldType.boolean)), 13, (1, 3, 2), kc_296)
/-- BVModel.again -/
noncomputable def kc_297 : List (List (Nat × Nat × Instr × Nat)) := [[(0, 2, .aload_n kF0, 0), (1, 0, .iconst 0, 0), (2, 5, .putfield 3, 0), (5, 2, .iload_n kF1, 0), (6, 0, .i2l, 0), (7, 0, .lconst kG0, 0), (8, 1, .ldc2_w 330, 0), (11, 6, .invokestatic 126, 0), (14, 4, .ifCond .eq 25, 39)],
  [(17, 2, .aload_n kF0, 0), (18, 5, .getfield 113, 0), (21, 2, .iload_n kF1, 0), (22, 5, .baload, 0), (23, 4, .ifCond .eq 16, 39), (26, 2, .aload_n kF0, 0), (27, 5, .getfield 116, 0), (30, 2, .iload_n kF1, 0), (31, 5, .iaload, 0)],
  [(32, 2, .aload_n kF0, 0), (33, 5, .getfield 191, 0), (36, 4, .if_icmp .eq 5, 41), (39, 0, .iconst 0, 0), (40, 7, .ireturn, 0), (41, 0, .iconst 0, 0), (42, 3, .istore_n kF2, 0), (43, 2, .iload_n kF2, 0), (44, 1, .bipush 41, 0), (46, 4, .if_icmp .ge 26, 72)],
  [(49, 2, .aload_n kF0, 0), (50, 5, .getfield 41, 0), (53, 2, .iload_n kF2, 0), (54, 2, .aload_n kF0, 0), (55, 5, .getfield 119, 0), (58, 1, .bipush 41, 0), (60, 2, .iload_n kF1, 0), (61, 0, .imul, 0), (62, 2, .iload_n kF2, 0), (63, 0, .iadd, 0)],
  [(64, 5, .iaload, 0), (65, 5, .iastore, 0), (66, 3, .iinc 2 1, 0), (69, 4, .goto (-26), 43), (72, 2, .aload_n kF0, 0), (73, 0, .iconst 0, 0), (74, 5, .putfield 188, 0), (77, 0, .iconst 1, 0), (78, 7, .ireturn, 0)]]
noncomputable def ky_297 : MethodName := ({ cls := "BonnetValleyModel", name := "again", desc := "(I)Z" } : Jvm.MethodName)
noncomputable def kRow_297 : pm_Row := ((ky_297, prog_15_method_118_code, 3, (Option.some Jvm.ClassFile.FieldType.boolean)), 13, (1, 3, 2), kc_297)
/-- BVModel.count -/
noncomputable def kc_298 : List (List (Nat × Nat × Instr × Nat)) := [[(0, 2, .aload_n kF0, 0), (1, 0, .iconst 0, 0), (2, 5, .putfield 3, 0), (5, 2, .iload_n kF1, 0), (6, 4, .tableswitch 160 0 12 #[66, 71, 76, 81, 86, 94, 106, 115, 128, 140, 145, 150, 155], 66)],
  [],
  [],
  [],
  [(72, 2, .aload_n kF0, 0), (73, 5, .getfield 24, 0), (76, 7, .ireturn, 0), (77, 2, .aload_n kF0, 0), (78, 5, .getfield 27, 0)],
  [(81, 7, .ireturn, 0), (82, 2, .aload_n kF0, 0), (83, 5, .getfield 130, 0), (86, 7, .ireturn, 0), (87, 2, .aload_n kF0, 0), (88, 5, .getfield 133, 0), (91, 7, .ireturn, 0), (92, 2, .aload_n kF0, 0), (93, 5, .getfield 41, 0)],
  [(96, 1, .bipush 40, 0), (98, 5, .iaload, 0), (99, 7, .ireturn, 0), (100, 2, .aload_n kF0, 0), (101, 2, .aload_n kF0, 0), (102, 5, .getfield 41, 0), (105, 1, .bipush 40, 0), (107, 5, .iaload, 0), (108, 6, .invokevirtual 262, 0), (111, 7, .ireturn, 0)],
  [(112, 2, .aload_n kF0, 0), (113, 2, .aload_n kF0, 0), (114, 5, .getfield 41, 0), (117, 6, .invokevirtual 366, 0), (120, 7, .ireturn, 0), (121, 2, .aload_n kF0, 0), (122, 6, .invokevirtual 122, 0), (125, 2, .aload_n kF0, 0), (126, 6, .invokevirtual 413, 0)],
  [(129, 6, .invokestatic 405, 0), (132, 0, .isub, 0), (133, 7, .ireturn, 0), (134, 2, .aload_n kF0, 0), (135, 2, .aload_n kF0, 0), (136, 5, .getfield 41, 0), (139, 6, .invokevirtual 417, 0), (142, 6, .invokestatic 405, 0)],
  [(145, 7, .ireturn, 0), (146, 2, .aload_n kF0, 0), (147, 5, .getfield 194, 0), (150, 7, .ireturn, 0), (151, 2, .aload_n kF0, 0), (152, 5, .getfield 188, 0), (155, 7, .ireturn, 0), (156, 2, .aload_n kF0, 0), (157, 5, .getfield 15, 0)],
  [(160, 7, .ireturn, 0), (161, 2, .aload_n kF0, 0), (162, 5, .getfield 136, 0), (165, 7, .ireturn, 0), (166, 1, .bipush (-100), 0), (168, 7, .ireturn, 0)]]
noncomputable def ky_298 : MethodName := ({ cls := "BonnetValleyModel", name := "count", desc := "(I)I" } : Jvm.MethodName)
noncomputable def kRow_298 : pm_Row := ((ky_298, prog_15_method_119_code, 2, (Option.some Jvm.ClassFile.FieldType.int)), 13, (1, 2, 1), kc_298)
/-- BVModel.row -/
noncomputable def kc_299 : List (List (Nat × Nat × Instr × Nat)) := [[(0, 2, .aload_n kF0, 0), (1, 0, .iconst 0, 0), (2, 5, .putfield 3, 0), (5, 2, .iload_n kF1, 0), (6, 0, .i2l, 0), (7, 0, .lconst kG0, 0), (8, 2, .aload_n kF0, 0), (9, 5, .getfield 15, 0), (12, 0, .iconst 1, 0), (13, 0, .isub, 0), (14, 0, .i2l, 0), (15, 6, .invokestatic 126, 0)],
  [(18, 4, .ifCond .ne 10, 28), (21, 2, .aload_n kF0, 0), (22, 0, .iconst 1, 0), (23, 5, .putfield 3, 0), (26, 0, .lconst kG0, 0), (27, 7, .lreturn, 0), (28, 2, .aload_n kF0, 0), (29, 5, .getfield 11, 0)],
  [(32, 2, .iload_n kF1, 0), (33, 5, .laload, 0), (34, 7, .lreturn, 0)]]
noncomputable def ky_299 : MethodName := ({ cls := "BonnetValleyModel", name := "row", desc := "(I)J" } : Jvm.MethodName)
noncomputable def kRow_299 : pm_Row := ((ky_299, prog_15_method_120_code, 2, (Option.some Jvm.ClassFile.FieldType.long)), 13, (1, 2, 3), kc_299)
/-- java/lang/Character.isValidCodePoint -/
noncomputable def kc_300 : List (List (Nat × Nat × Instr × Nat)) := [[(0, 2, .iload_n kF0, 0), (1, 1, .bipush 16, 0), (3, 0, .iushr, 0), (4, 3, .istore_n kF1, 0), (5, 2, .iload_n kF1, 0), (6, 1, .bipush 17, 0), (8, 4, .if_icmp .ge 7, 15), (11, 0, .iconst 1, 0), (12, 4, .goto 4, 16), (15, 0, .iconst 0, 0)],
  [(16, 7, .ireturn, 0)]]
noncomputable def ky_300 : MethodName := ({ cls := "java/lang/Character", name := "isValidCodePoint", desc := "(I)Z" } : Jvm.MethodName)
noncomputable def kRow_300 : pm_Row := ((ky_300, prog_18_method_11_code, 2, (Option.some Jvm.ClassFile.FieldType.boolean)), 14, (1, 2, 2), kc_300)
/-- java/lang/Character.highSurrogate -/
noncomputable def kc_301 : List (List (Nat × Nat × Instr × Nat)) := [[(0, 2, .iload_n kF0, 0), (1, 1, .bipush 10, 0), (3, 0, .iushr, 0), (4, 1, .ldc 110, 0), (6, 0, .iadd, 0), (7, 0, .i2c, 0), (8, 7, .ireturn, 0)]]
noncomputable def ky_301 : MethodName := ({ cls := "java/lang/Character", name := "highSurrogate", desc := "(I)C" } : Jvm.MethodName)
noncomputable def kRow_301 : pm_Row := ((ky_301, prog_18_method_28_code, 1, (Option.some Jvm.ClassFile.FieldType.char)), 14, (1, 1, 5), kc_301)
/-- java/lang/Character.lowSurrogate -/
noncomputable def kc_302 : List (List (Nat × Nat × Instr × Nat)) := [[(0, 2, .iload_n kF0, 0), (1, 1, .sipush 1023, 0), (4, 0, .iand, 0), (5, 1, .ldc 76, 0), (7, 0, .iadd, 0), (8, 0, .i2c, 0), (9, 7, .ireturn, 0)]]
noncomputable def ky_302 : MethodName := ({ cls := "java/lang/Character", name := "lowSurrogate", desc := "(I)C" } : Jvm.MethodName)
noncomputable def kRow_302 : pm_Row := ((ky_302, prog_18_method_29_code, 1, (Option.some Jvm.ClassFile.FieldType.char)), 14, (1, 1, 5), kc_302)
/-- java/lang/Integer.bitCount -/
noncomputable def kc_303 : List (List (Nat × Nat × Instr × Nat)) := [[(0, 2, .iload_n kF0, 0), (1, 2, .iload_n kF0, 0), (2, 0, .iconst 1, 0), (3, 0, .iushr, 0), (4, 1, .ldc_w 265, 0), (7, 0, .iand, 0), (8, 0, .isub, 0), (9, 3, .istore_n kF0, 0), (10, 2, .iload_n kF0, 0), (11, 1, .ldc_w 266, 0), (14, 0, .iand, 0), (15, 2, .iload_n kF0, 0)],
  [(16, 0, .iconst 2, 0), (17, 0, .iushr, 0), (18, 1, .ldc_w 266, 0), (21, 0, .iand, 0), (22, 0, .iadd, 0), (23, 3, .istore_n kF0, 0), (24, 2, .iload_n kF0, 0), (25, 2, .iload_n kF0, 0), (26, 0, .iconst 4, 0), (27, 0, .iushr, 0), (28, 0, .iadd, 0), (29, 1, .ldc_w 267, 0)],
  [(32, 0, .iand, 0), (33, 3, .istore_n kF0, 0), (34, 2, .iload_n kF0, 0), (35, 2, .iload_n kF0, 0), (36, 1, .bipush 8, 0), (38, 0, .iushr, 0), (39, 0, .iadd, 0), (40, 3, .istore_n kF0, 0), (41, 2, .iload_n kF0, 0), (42, 2, .iload_n kF0, 0), (43, 1, .bipush 16, 0), (45, 0, .iushr, 0), (46, 0, .iadd, 0), (47, 3, .istore_n kF0, 0)],
  [(48, 2, .iload_n kF0, 0), (49, 1, .bipush 63, 0), (51, 0, .iand, 0), (52, 7, .ireturn, 0)]]
noncomputable def ky_303 : MethodName := ({ cls := "java/lang/Integer", name := "bitCount", desc := "(I)I" } : Jvm.MethodName)
noncomputable def kRow_303 : pm_Row := ((ky_303, prog_21_method_49_code, 1, (Option.some Jvm.ClassFile.FieldType.int)), 15, (1, 1, 1), kc_303)
/-- java/lang/Integer.signum -/
noncomputable def kc_304 : List (List (Nat × Nat × Instr × Nat)) := [[(0, 2, .iload_n kF0, 0), (1, 1, .bipush 31, 0), (3, 0, .ishr, 0), (4, 2, .iload_n kF0, 0), (5, 0, .ineg, 0), (6, 1, .bipush 31, 0), (8, 0, .iushr, 0), (9, 0, .ior, 0), (10, 7, .ireturn, 0)]]
noncomputable def ky_304 : MethodName := ({ cls := "java/lang/Integer", name := "signum", desc := "(I)I" } : Jvm.MethodName)
noncomputable def kRow_304 : pm_Row := ((ky_304, prog_21_method_56_code, 1, (Option.some Jvm.ClassFile.FieldType.int)), 15, (1, 1, 1), kc_304)
/-- java/lang/Long.bitCount -/
noncomputable def kc_305 : List (List (Nat × Nat × Instr × Nat)) := [[(0, 2, .lload_n kF0, 0), (1, 2, .lload_n kF0, 0), (2, 0, .iconst 1, 0), (3, 0, .lushr, 0), (4, 1, .ldc2_w 314, 0), (7, 0, .land, 0), (8, 0, .lsub, 0), (9, 3, .lstore_n kF0, 0), (10, 2, .lload_n kF0, 0), (11, 1, .ldc2_w 316, 0), (14, 0, .land, 0), (15, 2, .lload_n kF0, 0)],
  [(16, 0, .iconst 2, 0), (17, 0, .lushr, 0), (18, 1, .ldc2_w 316, 0), (21, 0, .land, 0), (22, 0, .ladd, 0), (23, 3, .lstore_n kF0, 0), (24, 2, .lload_n kF0, 0), (25, 2, .lload_n kF0, 0), (26, 0, .iconst 4, 0), (27, 0, .lushr, 0), (28, 0, .ladd, 0), (29, 1, .ldc2_w 318, 0)],
  [(32, 0, .land, 0), (33, 3, .lstore_n kF0, 0), (34, 2, .lload_n kF0, 0), (35, 2, .lload_n kF0, 0), (36, 1, .bipush 8, 0), (38, 0, .lushr, 0), (39, 0, .ladd, 0), (40, 3, .lstore_n kF0, 0), (41, 2, .lload_n kF0, 0), (42, 2, .lload_n kF0, 0), (43, 1, .bipush 16, 0), (45, 0, .lushr, 0), (46, 0, .ladd, 0), (47, 3, .lstore_n kF0, 0)],
  [(48, 2, .lload_n kF0, 0), (49, 2, .lload_n kF0, 0), (50, 1, .bipush 32, 0), (52, 0, .lushr, 0), (53, 0, .ladd, 0), (54, 3, .lstore_n kF0, 0), (55, 2, .lload_n kF0, 0), (56, 0, .l2i, 0), (57, 1, .bipush 127, 0), (59, 0, .iand, 0), (60, 7, .ireturn, 0)]]
noncomputable def ky_305 : MethodName := ({ cls := "java/lang/Long", name := "bitCount", desc := "(J)I" } : Jvm.MethodName)
noncomputable def kRow_305 : pm_Row := ((ky_305, prog_22_method_50_code, 2, (Option.some Jvm.ClassFile.FieldType.int)), 16, (1, 2, 1), kc_305)
/-- java/lang/String.length -/
noncomputable def kc_306 : List (List (Nat × Nat × Instr × Nat)) := [[(0, 2, .aload_n kF0, 0), (1, 5, .getfield 9, 0), (4, 5, .arraylength, 0), (5, 2, .aload_n kF0, 0), (6, 6, .invokevirtual 335, 0), (9, 0, .ishr, 0), (10, 7, .ireturn, 0)]]
noncomputable def ky_306 : MethodName := ({ cls := "java/lang/String", name := "length", desc := "()I" } : Jvm.MethodName)
noncomputable def kRow_306 : pm_Row := ((ky_306, prog_25_method_54_code, 1, (Option.some Jvm.ClassFile.FieldType.int)), 17, (0, 1, 1), kc_306)
/-- java/lang/String.charAt -/
noncomputable def kc_307 : List (List (Nat × Nat × Instr × Nat)) := [[(0, 2, .aload_n kF0, 0), (1, 6, .invokevirtual 492, 0), (4, 4, .ifCond .eq 12, 16), (7, 2, .aload_n kF0, 0), (8, 5, .getfield 9, 0), (11, 2, .iload_n kF1, 0), (12, 6, .invokestatic 495, 0), (15, 7, .ireturn, 0)],
  [(16, 2, .aload_n kF0, 0), (17, 5, .getfield 9, 0), (20, 2, .iload_n kF1, 0), (21, 6, .invokestatic 498, 0), (24, 7, .ireturn, 0)]]
noncomputable def ky_307 : MethodName := ({ cls := "java/lang/String", name := "charAt", desc := "(I)C" } : Jvm.MethodName)
noncomputable def kRow_307 : pm_Row := ((ky_307, prog_25_method_56_code, 2, (Option.some Jvm.ClassFile.FieldType.char)), 17, (1, 2, 5), kc_307)
/-- java/lang/String.indexOf -/
noncomputable def kc_308 : List (List (Nat × Nat × Instr × Nat)) := [[(0, 2, .aload_n kF0, 0), (1, 2, .iload_n kF1, 0), (2, 0, .iconst 0, 0), (3, 6, .invokevirtual 633, 0), (6, 7, .ireturn, 0)]]
noncomputable def ky_308 : MethodName := ({ cls := "java/lang/String", name := "indexOf", desc := "(I)I" } : Jvm.MethodName)
noncomputable def kRow_308 : pm_Row := ((ky_308, prog_25_method_79_code, 2, (Option.some Jvm.ClassFile.FieldType.int)), 17, (1, 2, 1), kc_308)
/-- java/lang/String.indexOf -/
noncomputable def kc_309 : List (List (Nat × Nat × Instr × Nat)) := [[(0, 2, .aload_n kF0, 0), (1, 6, .invokevirtual 492, 0), (4, 4, .ifCond .eq 19, 23), (7, 2, .aload_n kF0, 0), (8, 5, .getfield 9, 0), (11, 2, .iload_n kF1, 0), (12, 2, .iload_n kF2, 0), (13, 2, .aload_n kF0, 0), (14, 6, .invokevirtual 505, 0)],
  [(17, 6, .invokestatic 637, 0), (20, 4, .goto 16, 36), (23, 2, .aload_n kF0, 0), (24, 5, .getfield 9, 0), (27, 2, .iload_n kF1, 0), (28, 2, .iload_n kF2, 0), (29, 2, .aload_n kF0, 0), (30, 6, .invokevirtual 505, 0)],
  [(33, 6, .invokestatic 640, 0), (36, 7, .ireturn, 0)]]
noncomputable def ky_309 : MethodName := ({ cls := "java/lang/String", name := "indexOf", desc := "(II)I" } : Jvm.MethodName)
noncomputable def kRow_309 : pm_Row := ((ky_309, prog_25_method_80_code, 3, (Option.some Jvm.ClassFile.FieldType.int)), 17, (2, 3, 1), kc_309)
/-- java/lang/String.coder -/
noncomputable def kc_310 : List (List (Nat × Nat × Instr × Nat)) := [[(0, 1, .getstatic 38, 0), (3, 4, .ifCond .eq 10, 13), (6, 2, .aload_n kF0, 0), (7, 5, .getfield 15, 0), (10, 4, .goto 4, 14), (13, 0, .iconst 1, 0), (14, 7, .ireturn, 0)]]
noncomputable def ky_310 : MethodName := ({ cls := "java/lang/String", name := "coder", desc := "()B" } : Jvm.MethodName)
noncomputable def kRow_310 : pm_Row := ((ky_310, prog_25_method_152_code, 1, (Option.some Jvm.ClassFile.FieldType.byte)), 17, (0, 1, 6), kc_310)
/-- java/lang/String.isLatin1 -/
noncomputable def kc_311 : List (List (Nat × Nat × Instr × Nat)) := [[(0, 1, .getstatic 38, 0), (3, 4, .ifCond .eq 14, 17), (6, 2, .aload_n kF0, 0), (7, 5, .getfield 15, 0), (10, 4, .ifCond .ne 7, 17), (13, 0, .iconst 1, 0), (14, 4, .goto 4, 18)],
  [(17, 0, .iconst 0, 0), (18, 7, .ireturn, 0)]]
noncomputable def ky_311 : MethodName := ({ cls := "java/lang/String", name := "isLatin1", desc := "()Z" } : Jvm.MethodName)
noncomputable def kRow_311 : pm_Row := ((ky_311, prog_25_method_154_code, 1, (Option.some Jvm.ClassFile.FieldType.boolean)), 17, (0, 1, 2), kc_311)
/-- java/lang/String.checkIndex -/
noncomputable def kc_312 : List (List (Nat × Nat × Instr × Nat)) := [[(0, 2, .iload_n kF0, 0), (1, 2, .iload_n kF1, 0), (2, 8, .getstatic 1053, 1059), (5, 6, .invokestatic 1059, 0), (8, 0, .pop, 0), (9, 7, .return_, 0)]]
noncomputable def ky_312 : MethodName := ({ cls := "java/lang/String", name := "checkIndex", desc := "(II)V" } : Jvm.MethodName)
noncomputable def kRow_312 : pm_Row := ((ky_312, prog_25_method_155_code, 2, (Option.none : Option Jvm.ClassFile.FieldType)), 17, (2, 2, 0), kc_312)
/-- java/lang/String.checkBoundsBeginEnd -/
noncomputable def kc_313 : List (List (Nat × Nat × Instr × Nat)) := [[(0, 2, .iload_n kF0, 0), (1, 2, .iload_n kF1, 0), (2, 2, .iload_n kF2, 0), (6, 6, .invokestatic 1062, 0), (9, 0, .pop, 0), (10, 7, .return_, 0)]]
noncomputable def ky_313 : MethodName := ({ cls := "java/lang/String", name := "checkBoundsBeginEnd", desc := "(III)V" } : Jvm.MethodName)
noncomputable def kRow_313 : pm_Row := ((ky_313, prog_25_method_158_code, 3, (Option.none : Option Jvm.ClassFile.FieldType)), 17, (3, 3, 0), kc_313)
/-- java/lang/StringLatin1.charAt -/
noncomputable def kc_314 : List (List (Nat × Nat × Instr × Nat)) := [[(0, 2, .iload_n kF1, 0), (1, 2, .aload_n kF0, 0), (2, 5, .arraylength, 0), (3, 6, .invokestatic 9, 0), (6, 2, .aload_n kF0, 0), (7, 2, .iload_n kF1, 0), (8, 5, .baload, 0), (9, 1, .sipush 255, 0), (12, 0, .iand, 0), (13, 0, .i2c, 0), (14, 7, .ireturn, 0)]]
noncomputable def ky_314 : MethodName := ({ cls := "java/lang/StringLatin1", name := "charAt", desc := "([BI)C" } : Jvm.MethodName)
noncomputable def kRow_314 : pm_Row := ((ky_314, prog_26_method_2_code, 2, (Option.some Jvm.ClassFile.FieldType.char)), 18, (2, 2, 5), kc_314)
/-- java/lang/StringLatin1.canEncode -/
noncomputable def kc_315 : List (List (Nat × Nat × Instr × Nat)) := [[(0, 2, .iload_n kF0, 0), (1, 4, .ifCond .lt 14, 15), (4, 2, .iload_n kF0, 0), (5, 1, .sipush 255, 0), (8, 4, .if_icmp .gt 7, 15), (11, 0, .iconst 1, 0), (12, 4, .goto 4, 16), (15, 0, .iconst 0, 0)],
  [(16, 7, .ireturn, 0)]]
noncomputable def ky_315 : MethodName := ({ cls := "java/lang/StringLatin1", name := "canEncode", desc := "(I)Z" } : Jvm.MethodName)
noncomputable def kRow_315 : pm_Row := ((ky_315, prog_26_method_4_code, 1, (Option.some Jvm.ClassFile.FieldType.boolean)), 18, (1, 1, 2), kc_315)
/-- java/lang/StringLatin1.indexOf -/
noncomputable def kc_316 : List (List (Nat × Nat × Instr × Nat)) := [[(0, 2, .iload_n kF1, 0), (1, 6, .invokestatic 88, 0), (4, 4, .ifCond .ne 5, 9), (7, 0, .iconst (-1), 0), (8, 7, .ireturn, 0), (9, 2, .iload_n kF2, 0), (10, 0, .iconst 0, 0), (11, 5, .invokestatic 92, 0), (14, 3, .istore_n kF2, 0), (15, 2, .iload_n kF3, 0)],
  [(16, 2, .aload_n kF0, 0), (17, 5, .arraylength, 0), (18, 5, .invokestatic 38, 0), (21, 3, .istore_n kF3, 0), (22, 2, .iload_n kF2, 0), (23, 2, .iload_n kF3, 0), (24, 4, .if_icmp .lt 5, 29), (27, 0, .iconst (-1), 0), (28, 7, .ireturn, 0), (29, 2, .aload_n kF0, 0), (30, 2, .iload_n kF1, 0), (31, 2, .iload_n kF2, 0)],
  [(32, 2, .iload_n kF3, 0), (33, 6, .invokestatic 95, 0), (36, 7, .ireturn, 0)]]
noncomputable def ky_316 : MethodName := ({ cls := "java/lang/StringLatin1", name := "indexOf", desc := "([BIII)I" } : Jvm.MethodName)
noncomputable def kRow_316 : pm_Row := ((ky_316, prog_26_method_22_code, 4, (Option.some Jvm.ClassFile.FieldType.int)), 18, (4, 4, 1), kc_316)
/-- java/lang/StringLatin1.indexOfChar -/
noncomputable def kc_317 : List (List (Nat × Nat × Instr × Nat)) := [[(0, 2, .iload_n kF1, 0), (1, 0, .i2b, 0), (2, 3, .istore 4, 0), (4, 2, .iload_n kF2, 0), (5, 3, .istore 5, 0), (7, 2, .iload 5, 0), (9, 2, .iload_n kF3, 0), (10, 4, .if_icmp .ge 21, 31), (13, 2, .aload_n kF0, 0), (14, 2, .iload 5, 0)],
  [(16, 5, .baload, 0), (17, 2, .iload 4, 0), (19, 4, .if_icmp .ne 6, 25), (22, 2, .iload 5, 0), (24, 7, .ireturn, 0), (25, 3, .iinc 5 1, 0), (28, 4, .goto (-21), 7), (31, 0, .iconst (-1), 0)],
  [(32, 7, .ireturn, 0)]]
noncomputable def ky_317 : MethodName := ({ cls := "java/lang/StringLatin1", name := "indexOfChar", desc := "([BIII)I" } : Jvm.MethodName)
noncomputable def kRow_317 : pm_Row := ((ky_317, prog_26_method_23_code, 6, (Option.some Jvm.ClassFile.FieldType.int)), 18, (4, 6, 1), kc_317)
/-- java/lang/StringUTF16.getChar -/
noncomputable def kc_318 : List (List (Nat × Nat × Instr × Nat)) := [[(3, 4, .ifCond .ne 25, 28), (6, 2, .iload_n kF1, 0), (7, 4, .ifCond .lt 11, 18), (10, 2, .iload_n kF1, 0), (11, 2, .aload_n kF0, 0), (12, 6, .invokestatic 48, 0), (15, 4, .if_icmp .lt 13, 28)],
  [(21, 0, .dup, 0), (28, 2, .iload_n kF1, 0), (29, 0, .iconst 1, 0), (30, 0, .ishl, 0), (31, 3, .istore_n kF1, 0)],
  [(32, 2, .aload_n kF0, 0), (33, 2, .iload_n kF1, 0), (34, 3, .iinc 1 1, 0), (37, 5, .baload, 0), (38, 1, .sipush 255, 0), (41, 0, .iand, 0), (45, 0, .ishl, 0), (46, 2, .aload_n kF0, 0), (47, 2, .iload_n kF1, 0)],
  [(48, 5, .baload, 0), (49, 1, .sipush 255, 0), (52, 0, .iand, 0), (56, 0, .ishl, 0), (57, 0, .ior, 0), (58, 0, .i2c, 0), (59, 7, .ireturn, 0)]]
noncomputable def ky_318 : MethodName := ({ cls := "java/lang/StringUTF16", name := "getChar", desc := "([BI)C" } : Jvm.MethodName)
noncomputable def kRow_318 : pm_Row := ((ky_318, prog_27_method_5_code, 2, (Option.some Jvm.ClassFile.FieldType.char)), 19, (2, 2, 5), kc_318)
/-- java/lang/StringUTF16.length -/
noncomputable def kc_319 : List (List (Nat × Nat × Instr × Nat)) := [[(0, 2, .aload_n kF0, 0), (1, 5, .arraylength, 0), (2, 0, .iconst 1, 0), (3, 0, .ishr, 0), (4, 7, .ireturn, 0)]]
noncomputable def ky_319 : MethodName := ({ cls := "java/lang/StringUTF16", name := "length", desc := "([B)I" } : Jvm.MethodName)
noncomputable def kRow_319 : pm_Row := ((ky_319, prog_27_method_6_code, 1, (Option.some Jvm.ClassFile.FieldType.int)), 19, (1, 1, 1), kc_319)
/-- java/lang/StringUTF16.indexOf -/
noncomputable def kc_320 : List (List (Nat × Nat × Instr × Nat)) := [[(0, 2, .iload_n kF2, 0), (1, 0, .iconst 0, 0), (2, 5, .invokestatic 224, 0), (5, 3, .istore_n kF2, 0), (6, 2, .iload_n kF3, 0), (7, 2, .aload_n kF0, 0), (8, 5, .arraylength, 0), (9, 0, .iconst 1, 0), (10, 0, .ishr, 0), (11, 5, .invokestatic 183, 0), (14, 3, .istore_n kF3, 0), (15, 2, .iload_n kF2, 0)],
  [(16, 2, .iload_n kF3, 0), (17, 4, .if_icmp .lt 5, 22), (20, 0, .iconst (-1), 0), (21, 7, .ireturn, 0), (22, 2, .iload_n kF1, 0), (23, 1, .ldc 227, 0), (25, 4, .if_icmp .ge 11, 36), (28, 2, .aload_n kF0, 0), (29, 2, .iload_n kF1, 0), (30, 2, .iload_n kF2, 0), (31, 2, .iload_n kF3, 0)],
  [(32, 6, .invokestatic 228, 0), (35, 7, .ireturn, 0), (36, 2, .aload_n kF0, 0), (37, 2, .iload_n kF1, 0), (38, 2, .iload_n kF2, 0), (39, 2, .iload_n kF3, 0), (40, 6, .invokestatic 232, 0), (43, 7, .ireturn, 0)]]
noncomputable def ky_320 : MethodName := ({ cls := "java/lang/StringUTF16", name := "indexOf", desc := "([BIII)I" } : Jvm.MethodName)
noncomputable def kRow_320 : pm_Row := ((ky_320, prog_27_method_40_code, 4, (Option.some Jvm.ClassFile.FieldType.int)), 19, (4, 4, 1), kc_320)
/-- java/lang/StringUTF16.indexOfChar -/
noncomputable def kc_321 : List (List (Nat × Nat × Instr × Nat)) := [[(0, 2, .iload_n kF2, 0), (1, 2, .iload_n kF3, 0), (2, 2, .aload_n kF0, 0), (3, 6, .invokestatic 96, 0), (6, 2, .aload_n kF0, 0), (7, 2, .iload_n kF1, 0), (8, 2, .iload_n kF2, 0), (9, 2, .iload_n kF3, 0), (10, 6, .invokestatic 244, 0), (13, 7, .ireturn, 0)]]
noncomputable def ky_321 : MethodName := ({ cls := "java/lang/StringUTF16", name := "indexOfChar", desc := "([BIII)I" } : Jvm.MethodName)
noncomputable def kRow_321 : pm_Row := ((ky_321, prog_27_method_47_code, 4, (Option.some Jvm.ClassFile.FieldType.int)), 19, (4, 4, 1), kc_321)
/-- java/lang/StringUTF16.indexOfCharUnsafe -/
noncomputable def kc_322 : List (List (Nat × Nat × Instr × Nat)) := [[(0, 2, .iload_n kF2, 0), (1, 3, .istore 4, 0), (3, 2, .iload 4, 0), (5, 2, .iload_n kF3, 0), (6, 4, .if_icmp .ge 22, 28), (9, 2, .aload_n kF0, 0), (10, 2, .iload 4, 0), (12, 6, .invokestatic 71, 0), (15, 2, .iload_n kF1, 0)],
  [(16, 4, .if_icmp .ne 6, 22), (19, 2, .iload 4, 0), (21, 7, .ireturn, 0), (22, 3, .iinc 4 1, 0), (25, 4, .goto (-22), 3), (28, 0, .iconst (-1), 0), (29, 7, .ireturn, 0)]]
noncomputable def ky_322 : MethodName := ({ cls := "java/lang/StringUTF16", name := "indexOfCharUnsafe", desc := "([BIII)I" } : Jvm.MethodName)
noncomputable def kRow_322 : pm_Row := ((ky_322, prog_27_method_48_code, 5, (Option.some Jvm.ClassFile.FieldType.int)), 19, (4, 5, 1), kc_322)
/-- java/lang/StringUTF16.indexOfSupplementary -/
noncomputable def kc_323 : List (List (Nat × Nat × Instr × Nat)) := [[(0, 2, .iload_n kF1, 0), (1, 6, .invokestatic 164, 0), (4, 4, .ifCond .eq 65, 69), (7, 2, .iload_n kF1, 0), (8, 6, .invokestatic 157, 0), (11, 3, .istore 4, 0), (13, 2, .iload_n kF1, 0), (14, 6, .invokestatic 161, 0)],
  [(17, 3, .istore 5, 0), (19, 2, .iload_n kF2, 0), (20, 2, .iload_n kF3, 0), (21, 2, .aload_n kF0, 0), (22, 6, .invokestatic 96, 0), (25, 2, .iload_n kF2, 0), (26, 3, .istore 6, 0), (28, 2, .iload 6, 0), (30, 2, .iload_n kF3, 0), (31, 0, .iconst 1, 0)],
  [(32, 0, .isub, 0), (33, 4, .if_icmp .ge 36, 69), (36, 2, .aload_n kF0, 0), (37, 2, .iload 6, 0), (39, 6, .invokestatic 71, 0), (42, 2, .iload 4, 0), (44, 4, .if_icmp .ne 19, 63), (47, 2, .aload_n kF0, 0)],
  [(48, 2, .iload 6, 0), (50, 0, .iconst 1, 0), (51, 0, .iadd, 0), (52, 6, .invokestatic 71, 0), (55, 2, .iload 5, 0), (57, 4, .if_icmp .ne 6, 63), (60, 2, .iload 6, 0), (62, 7, .ireturn, 0), (63, 3, .iinc 6 1, 0)],
  [(66, 4, .goto (-38), 28), (69, 0, .iconst (-1), 0), (70, 7, .ireturn, 0)]]
noncomputable def ky_323 : MethodName := ({ cls := "java/lang/StringUTF16", name := "indexOfSupplementary", desc := "([BIII)I" } : Jvm.MethodName)
noncomputable def kRow_323 : pm_Row := ((ky_323, prog_27_method_49_code, 7, (Option.some Jvm.ClassFile.FieldType.int)), 19, (4, 7, 1), kc_323)
/-- java/lang/StringUTF16.charAt -/
noncomputable def kc_324 : List (List (Nat × Nat × Instr × Nat)) := [[(0, 2, .iload_n kF1, 0), (1, 2, .aload_n kF0, 0), (2, 6, .invokestatic 67, 0), (5, 2, .aload_n kF0, 0), (6, 2, .iload_n kF1, 0), (7, 6, .invokestatic 71, 0), (10, 7, .ireturn, 0)]]
noncomputable def ky_324 : MethodName := ({ cls := "java/lang/StringUTF16", name := "charAt", desc := "([BI)C" } : Jvm.MethodName)
noncomputable def kRow_324 : pm_Row := ((ky_324, prog_27_method_83_code, 2, (Option.some Jvm.ClassFile.FieldType.char)), 19, (2, 2, 5), kc_324)
/-- java/lang/StringUTF16.checkIndex -/
noncomputable def kc_325 : List (List (Nat × Nat × Instr × Nat)) := [[(0, 2, .iload_n kF0, 0), (1, 2, .aload_n kF1, 0), (2, 6, .invokestatic 48, 0), (5, 6, .invokestatic 414, 0), (8, 7, .return_, 0)]]
noncomputable def ky_325 : MethodName := ({ cls := "java/lang/StringUTF16", name := "checkIndex", desc := "(I[B)V" } : Jvm.MethodName)
noncomputable def kRow_325 : pm_Row := ((ky_325, prog_27_method_91_code, 2, (Option.none : Option Jvm.ClassFile.FieldType)), 19, (2, 2, 0), kc_325)
/-- java/lang/StringUTF16.checkBoundsBeginEnd -/
noncomputable def kc_326 : List (List (Nat × Nat × Instr × Nat)) := [[(0, 2, .iload_n kF0, 0), (1, 2, .iload_n kF1, 0), (2, 2, .aload_n kF2, 0), (3, 6, .invokestatic 48, 0), (6, 6, .invokestatic 241, 0), (9, 7, .return_, 0)]]
noncomputable def ky_326 : MethodName := ({ cls := "java/lang/StringUTF16", name := "checkBoundsBeginEnd", desc := "(II[B)V" } : Jvm.MethodName)
noncomputable def kRow_326 : pm_Row := ((ky_326, prog_27_method_93_code, 3, (Option.none : Option Jvm.ClassFile.FieldType)), 19, (3, 3, 0), kc_326)
/-- java/util/Arrays.fill -/
noncomputable def kc_327 : List (List (Nat × Nat × Instr × Nat)) := [[(0, 0, .iconst 0, 0), (1, 3, .istore_n kF3, 0), (2, 2, .aload_n kF0, 0), (3, 5, .arraylength, 0), (4, 3, .istore 4, 0), (6, 2, .iload_n kF3, 0), (7, 2, .iload 4, 0), (9, 4, .if_icmp .ge 13, 22), (12, 2, .aload_n kF0, 0), (13, 2, .iload_n kF3, 0), (14, 2, .lload_n kF1, 0), (15, 5, .lastore, 0)],
  [(16, 3, .iinc 3 1, 0), (19, 4, .goto (-13), 6), (22, 7, .return_, 0)]]
noncomputable def ky_327 : MethodName := ({ cls := "java/util/Arrays", name := "fill", desc := "([JJ)V" } : Jvm.MethodName)
noncomputable def kRow_327 : pm_Row := ((ky_327, prog_32_method_101_code, 5, (Option.none : Option Jvm.ClassFile.FieldType)), 20, (2, 5, 0), kc_327)
/-- java/util/Arrays.fill -/
noncomputable def kc_328 : List (List (Nat × Nat × Instr × Nat)) := [[(0, 0, .iconst 0, 0), (1, 3, .istore_n kF2, 0), (2, 2, .aload_n kF0, 0), (3, 5, .arraylength, 0), (4, 3, .istore_n kF3, 0), (5, 2, .iload_n kF2, 0), (6, 2, .iload_n kF3, 0), (7, 4, .if_icmp .ge 13, 20), (10, 2, .aload_n kF0, 0), (11, 2, .iload_n kF2, 0), (12, 2, .iload_n kF1, 0), (13, 5, .iastore, 0), (14, 3, .iinc 2 1, 0)],
  [(17, 4, .goto (-12), 5), (20, 7, .return_, 0)]]
noncomputable def ky_328 : MethodName := ({ cls := "java/util/Arrays", name := "fill", desc := "([II)V" } : Jvm.MethodName)
noncomputable def kRow_328 : pm_Row := ((ky_328, prog_32_method_103_code, 4, (Option.none : Option Jvm.ClassFile.FieldType)), 20, (2, 4, 0), kc_328)
/-- jdk/internal/util/Preconditions.checkIndex -/
noncomputable def kc_329 : List (List (Nat × Nat × Instr × Nat)) := [[(0, 2, .iload_n kF0, 0), (1, 4, .ifCond .lt 8, 9), (4, 2, .iload_n kF0, 0), (5, 2, .iload_n kF1, 0), (6, 4, .if_icmp .lt 10, 16), (9, 2, .aload_n kF2, 0), (10, 2, .iload_n kF0, 0), (11, 2, .iload_n kF1, 0)],
  [(16, 2, .iload_n kF0, 0), (17, 7, .ireturn, 0)]]
noncomputable def ky_329 : MethodName := ({ cls := "jdk/internal/util/Preconditions", name := "checkIndex", desc := "(IILjava/util/function/BiFunction;)I" } : Jvm.MethodName)
noncomputable def kRow_329 : pm_Row := ((ky_329, prog_34_method_11_code, 3, (Option.some Jvm.ClassFile.FieldType.int)), 21, (3, 3, 1), kc_329)
/-- jdk/internal/util/Preconditions.checkFromToIndex -/
noncomputable def kc_330 : List (List (Nat × Nat × Instr × Nat)) := [[(0, 2, .iload_n kF0, 0), (1, 4, .ifCond .lt 13, 14), (4, 2, .iload_n kF0, 0), (5, 2, .iload_n kF1, 0), (6, 4, .if_icmp .gt 8, 14), (9, 2, .iload_n kF1, 0), (10, 2, .iload_n kF2, 0), (11, 4, .if_icmp .le 11, 22), (14, 2, .aload_n kF3, 0), (15, 2, .iload_n kF0, 0)],
  [(16, 2, .iload_n kF1, 0), (17, 2, .iload_n kF2, 0), (22, 2, .iload_n kF0, 0), (23, 7, .ireturn, 0)]]
noncomputable def ky_330 : MethodName := ({ cls := "jdk/internal/util/Preconditions", name := "checkFromToIndex", desc := "(IIILjava/util/function/BiFunction;)I" } : Jvm.MethodName)
noncomputable def kRow_330 : pm_Row := ((ky_330, prog_34_method_12_code, 4, (Option.some Jvm.ClassFile.FieldType.int)), 21, (4, 4, 1), kc_330)
noncomputable def kCh_0 : List pm_Row := [kRow_0, kRow_1, kRow_2, kRow_3, kRow_4, kRow_5, kRow_6, kRow_7, kRow_8, kRow_9, kRow_10, kRow_11, kRow_12, kRow_13, kRow_14, kRow_15]
noncomputable def kCh_1 : List pm_Row := [kRow_16, kRow_17, kRow_18, kRow_19, kRow_20, kRow_21, kRow_22, kRow_23, kRow_24, kRow_25, kRow_26, kRow_27, kRow_28, kRow_29, kRow_30, kRow_31]
noncomputable def kCh_2 : List pm_Row := [kRow_32, kRow_33, kRow_34, kRow_35, kRow_36, kRow_37, kRow_38, kRow_39, kRow_40, kRow_41, kRow_42, kRow_43, kRow_44, kRow_45, kRow_46, kRow_47]
noncomputable def kCh_3 : List pm_Row := [kRow_48, kRow_49, kRow_50, kRow_51, kRow_52, kRow_53, kRow_54, kRow_55, kRow_56, kRow_57, kRow_58, kRow_59, kRow_60, kRow_61, kRow_62, kRow_63]
noncomputable def kCh_4 : List pm_Row := [kRow_64, kRow_65, kRow_66, kRow_67, kRow_68, kRow_69, kRow_70, kRow_71, kRow_72, kRow_73, kRow_74, kRow_75, kRow_76, kRow_77, kRow_78, kRow_79]
noncomputable def kCh_5 : List pm_Row := [kRow_80, kRow_81, kRow_82, kRow_83, kRow_84, kRow_85, kRow_86, kRow_87, kRow_88, kRow_89, kRow_90, kRow_91, kRow_92, kRow_93, kRow_94, kRow_95]
noncomputable def kCh_6 : List pm_Row := [kRow_96, kRow_97, kRow_98, kRow_99, kRow_100, kRow_101, kRow_102, kRow_103, kRow_104, kRow_105, kRow_106, kRow_107, kRow_108, kRow_109, kRow_110, kRow_111]
noncomputable def kCh_7 : List pm_Row := [kRow_112, kRow_113, kRow_114, kRow_115, kRow_116, kRow_117, kRow_118, kRow_119, kRow_120, kRow_121, kRow_122, kRow_123, kRow_124, kRow_125, kRow_126, kRow_127]
noncomputable def kCh_8 : List pm_Row := [kRow_128, kRow_129, kRow_130, kRow_131, kRow_132, kRow_133, kRow_134, kRow_135, kRow_136, kRow_137, kRow_138, kRow_139, kRow_140, kRow_141, kRow_142, kRow_143]
noncomputable def kCh_9 : List pm_Row := [kRow_144, kRow_145, kRow_146, kRow_147, kRow_148, kRow_149, kRow_150, kRow_151, kRow_152, kRow_153, kRow_154, kRow_155, kRow_156, kRow_157, kRow_158, kRow_159]
noncomputable def kCh_10 : List pm_Row := [kRow_160, kRow_161, kRow_162, kRow_163, kRow_164, kRow_165, kRow_166, kRow_167, kRow_168, kRow_169, kRow_170, kRow_171, kRow_172, kRow_173, kRow_174, kRow_175]
noncomputable def kCh_11 : List pm_Row := [kRow_176, kRow_177, kRow_178, kRow_179, kRow_180, kRow_181, kRow_182, kRow_183, kRow_184, kRow_185, kRow_186, kRow_187, kRow_188, kRow_189, kRow_190, kRow_191]
noncomputable def kCh_12 : List pm_Row := [kRow_192, kRow_193, kRow_194, kRow_195, kRow_196, kRow_197, kRow_198, kRow_199, kRow_200, kRow_201, kRow_202, kRow_203, kRow_204, kRow_205, kRow_206, kRow_207]
noncomputable def kCh_13 : List pm_Row := [kRow_208, kRow_209, kRow_210, kRow_211, kRow_212, kRow_213, kRow_214, kRow_215, kRow_216, kRow_217, kRow_218, kRow_219, kRow_220, kRow_221, kRow_222, kRow_223]
noncomputable def kCh_14 : List pm_Row := [kRow_224, kRow_225, kRow_226, kRow_227, kRow_228, kRow_229, kRow_230, kRow_231, kRow_232, kRow_233, kRow_234, kRow_235, kRow_236, kRow_237, kRow_238, kRow_239]
noncomputable def kCh_15 : List pm_Row := [kRow_240, kRow_241, kRow_242, kRow_243, kRow_244, kRow_245, kRow_246, kRow_247, kRow_248, kRow_249, kRow_250, kRow_251, kRow_252, kRow_253, kRow_254, kRow_255]
noncomputable def kCh_16 : List pm_Row := [kRow_256, kRow_257, kRow_258, kRow_259, kRow_260, kRow_261, kRow_262, kRow_263, kRow_264, kRow_265, kRow_266, kRow_267, kRow_268, kRow_269, kRow_270, kRow_271]
noncomputable def kCh_17 : List pm_Row := [kRow_272, kRow_273, kRow_274, kRow_275, kRow_276, kRow_277, kRow_278, kRow_279, kRow_280, kRow_281, kRow_282, kRow_283, kRow_284, kRow_285, kRow_286, kRow_287]
noncomputable def kCh_18 : List pm_Row := [kRow_288, kRow_289, kRow_290, kRow_291, kRow_292, kRow_293, kRow_294, kRow_295, kRow_296, kRow_297, kRow_298, kRow_299, kRow_300, kRow_301, kRow_302, kRow_303]
noncomputable def kCh_19 : List pm_Row := [kRow_304, kRow_305, kRow_306, kRow_307, kRow_308, kRow_309, kRow_310, kRow_311, kRow_312, kRow_313, kRow_314, kRow_315, kRow_316, kRow_317, kRow_318, kRow_319]
noncomputable def kCh_20 : List pm_Row := [kRow_320, kRow_321, kRow_322, kRow_323, kRow_324, kRow_325, kRow_326, kRow_327, kRow_328, kRow_329, kRow_330]
noncomputable def krows : List (List pm_Row) := [kCh_0, kCh_1, kCh_2, kCh_3, kCh_4, kCh_5, kCh_6, kCh_7, kCh_8, kCh_9, kCh_10, kCh_11, kCh_12, kCh_13, kCh_14, kCh_15, kCh_16, kCh_17, kCh_18, kCh_19, kCh_20]
noncomputable def kK : pm_K := pm_mkK krows klks kra kro knw kft 10
noncomputable def kM : pm_M := pm_rowM krows
