/-! The words that the tables stand on, by their places -/
def kALL : List Cond := lw_tbl.filter goodWord
theorem kin_0 {n : Nat} {w : Cond} (h : (k2_sels lw_privs)[n]? = some w ∧ goodWord w = true) : w ∈ kALL := List.mem_filter.mpr ⟨List.mem_append_left _ (List.mem_of_getElem? h.1), h.2⟩
theorem kin_1 {n : Nat} {w : Cond} (h : (tables_1_1)[n]? = some w ∧ goodWord w = true) : w ∈ kALL := List.mem_filter.mpr ⟨List.mem_append_right _ (List.mem_append_left _ (List.mem_of_getElem? h.1)), h.2⟩
theorem kin_2 {n : Nat} {w : Cond} (h : (tables_1_2)[n]? = some w ∧ goodWord w = true) : w ∈ kALL := List.mem_filter.mpr ⟨List.mem_append_right _ (List.mem_append_right _ (List.mem_append_left _ (List.mem_of_getElem? h.1))), h.2⟩
theorem kin_3 {n : Nat} {w : Cond} (h : (tables_1_3)[n]? = some w ∧ goodWord w = true) : w ∈ kALL := List.mem_filter.mpr ⟨List.mem_append_right _ (List.mem_append_right _ (List.mem_append_right _ (List.mem_append_left _ (List.mem_of_getElem? h.1)))), h.2⟩
theorem kin_4 {n : Nat} {w : Cond} (h : (tables_1_4)[n]? = some w ∧ goodWord w = true) : w ∈ kALL := List.mem_filter.mpr ⟨List.mem_append_right _ (List.mem_append_right _ (List.mem_append_right _ (List.mem_append_right _ (List.mem_append_left _ (List.mem_of_getElem? h.1))))), h.2⟩
theorem kin_5 {n : Nat} {w : Cond} (h : (tables_1_5)[n]? = some w ∧ goodWord w = true) : w ∈ kALL := List.mem_filter.mpr ⟨List.mem_append_right _ (List.mem_append_right _ (List.mem_append_right _ (List.mem_append_right _ (List.mem_append_right _ (List.mem_append_left _ (List.mem_of_getElem? h.1)))))), h.2⟩
theorem kin_6 {n : Nat} {w : Cond} (h : (tables_1_6)[n]? = some w ∧ goodWord w = true) : w ∈ kALL := List.mem_filter.mpr ⟨List.mem_append_right _ (List.mem_append_right _ (List.mem_append_right _ (List.mem_append_right _ (List.mem_append_right _ (List.mem_append_right _ (List.mem_append_left _ (List.mem_of_getElem? h.1))))))), h.2⟩
theorem kin_7 {n : Nat} {w : Cond} (h : (tables_1_7)[n]? = some w ∧ goodWord w = true) : w ∈ kALL := List.mem_filter.mpr ⟨List.mem_append_right _ (List.mem_append_right _ (List.mem_append_right _ (List.mem_append_right _ (List.mem_append_right _ (List.mem_append_right _ (List.mem_append_right _ (List.mem_append_left _ (List.mem_of_getElem? h.1)))))))), h.2⟩
theorem kin_8 {n : Nat} {w : Cond} (h : (tables_1_8)[n]? = some w ∧ goodWord w = true) : w ∈ kALL := List.mem_filter.mpr ⟨List.mem_append_right _ (List.mem_append_right _ (List.mem_append_right _ (List.mem_append_right _ (List.mem_append_right _ (List.mem_append_right _ (List.mem_append_right _ (List.mem_append_right _ (List.mem_append_left _ (List.mem_of_getElem? h.1))))))))), h.2⟩
theorem kin_9 {n : Nat} {w : Cond} (h : (tables_1_9)[n]? = some w ∧ goodWord w = true) : w ∈ kALL := List.mem_filter.mpr ⟨List.mem_append_right _ (List.mem_append_right _ (List.mem_append_right _ (List.mem_append_right _ (List.mem_append_right _ (List.mem_append_right _ (List.mem_append_right _ (List.mem_append_right _ (List.mem_append_right _ (List.mem_of_getElem? h.1))))))))), h.2⟩
theorem kw_0 : (Jvm.Cond.methodLink "BonnetValley" (1 : Nat) ({ cls := "java/lang/Object", name := "<init>", desc := "()V" } : Jvm.MethodName)) ∈ kALL := kin_1 (n := 34) ⟨rfl, by decide +kernel⟩
theorem kw_1 : (Jvm.Cond.classLink "BonnetValley" (7 : Nat) "BonnetValley$Signs") ∈ kALL := kin_1 (n := 37) ⟨rfl, by decide +kernel⟩
theorem kw_2 : (Jvm.Cond.methodLink "BonnetValley" (9 : Nat) ({ cls := "BonnetValley$Signs", name := "<init>", desc := "()V" } : Jvm.MethodName)) ∈ kALL := kin_1 (n := 39) ⟨rfl, by decide +kernel⟩
theorem kw_3 : (Jvm.Cond.instanceMethod ({ cls := "BonnetValley$Signs", name := "<init>", desc := "()V" } : Jvm.MethodName)) ∈ kALL := kin_1 (n := 40) ⟨rfl, by decide +kernel⟩
theorem kw_4 : (Jvm.Cond.fieldLink "BonnetValley" (10 : Nat) "BonnetValley" "text" "LBonnetValley$Signs;") ∈ kALL := kin_2 (n := 187) ⟨rfl, by decide +kernel⟩
theorem kw_5 : (Jvm.Cond.classLink "BonnetValley" (16 : Nat) "BonnetValley$Numbers") ∈ kALL := kin_1 (n := 51) ⟨rfl, by decide +kernel⟩
theorem kw_6 : (Jvm.Cond.methodLink "BonnetValley" (18 : Nat) ({ cls := "BonnetValley$Numbers", name := "<init>", desc := "()V" } : Jvm.MethodName)) ∈ kALL := kin_1 (n := 53) ⟨rfl, by decide +kernel⟩
theorem kw_7 : (Jvm.Cond.instanceMethod ({ cls := "BonnetValley$Numbers", name := "<init>", desc := "()V" } : Jvm.MethodName)) ∈ kALL := kin_1 (n := 54) ⟨rfl, by decide +kernel⟩
theorem kw_8 : (Jvm.Cond.fieldLink "BonnetValley" (19 : Nat) "BonnetValley" "told" "LBonnetValley$Numbers;") ∈ kALL := kin_2 (n := 188) ⟨rfl, by decide +kernel⟩
theorem kw_9 : (Jvm.Cond.classLink "BonnetValley" (23 : Nat) "BonnetValley$Land") ∈ kALL := kin_1 (n := 65) ⟨rfl, by decide +kernel⟩
theorem kw_10 : (Jvm.Cond.methodLink "BonnetValley" (25 : Nat) ({ cls := "BonnetValley$Land", name := "<init>", desc := "()V" } : Jvm.MethodName)) ∈ kALL := kin_1 (n := 67) ⟨rfl, by decide +kernel⟩
theorem kw_11 : (Jvm.Cond.instanceMethod ({ cls := "BonnetValley$Land", name := "<init>", desc := "()V" } : Jvm.MethodName)) ∈ kALL := kin_1 (n := 68) ⟨rfl, by decide +kernel⟩
theorem kw_12 : (Jvm.Cond.fieldLink "BonnetValley" (26 : Nat) "BonnetValley" "land" "LBonnetValley$Land;") ∈ kALL := kin_2 (n := 189) ⟨rfl, by decide +kernel⟩
theorem kw_13 : (Jvm.Cond.classLink "BonnetValley" (30 : Nat) "BonnetValley$Sight") ∈ kALL := kin_1 (n := 103) ⟨rfl, by decide +kernel⟩
theorem kw_14 : (Jvm.Cond.methodLink "BonnetValley" (32 : Nat) ({ cls := "BonnetValley$Sight", name := "<init>", desc := "(LBonnetValley$Land;)V" } : Jvm.MethodName)) ∈ kALL := kin_1 (n := 105) ⟨rfl, by decide +kernel⟩
theorem kw_15 : (Jvm.Cond.instanceMethod ({ cls := "BonnetValley$Sight", name := "<init>", desc := "(LBonnetValley$Land;)V" } : Jvm.MethodName)) ∈ kALL := kin_1 (n := 106) ⟨rfl, by decide +kernel⟩
theorem kw_16 : (Jvm.Cond.fieldLink "BonnetValley" (35 : Nat) "BonnetValley" "sight" "LBonnetValley$Sight;") ∈ kALL := kin_2 (n := 190) ⟨rfl, by decide +kernel⟩
theorem kw_17 : (Jvm.Cond.classLink "BonnetValley" (39 : Nat) "BonnetValley$State") ∈ kALL := kin_2 (n := 29) ⟨rfl, by decide +kernel⟩
theorem kw_18 : (Jvm.Cond.methodLink "BonnetValley" (41 : Nat) ({ cls := "BonnetValley$State", name := "<init>", desc := "()V" } : Jvm.MethodName)) ∈ kALL := kin_2 (n := 31) ⟨rfl, by decide +kernel⟩
theorem kw_19 : (Jvm.Cond.instanceMethod ({ cls := "BonnetValley$State", name := "<init>", desc := "()V" } : Jvm.MethodName)) ∈ kALL := kin_2 (n := 32) ⟨rfl, by decide +kernel⟩
theorem kw_20 : (Jvm.Cond.fieldLink "BonnetValley" (42 : Nat) "BonnetValley" "now" "LBonnetValley$State;") ∈ kALL := kin_2 (n := 191) ⟨rfl, by decide +kernel⟩
theorem kw_21 : (Jvm.Cond.fieldLink "BonnetValley" (46 : Nat) "BonnetValley" "before" "LBonnetValley$State;") ∈ kALL := kin_2 (n := 192) ⟨rfl, by decide +kernel⟩
theorem kw_22 : (Jvm.Cond.fieldLink "BonnetValley" (49 : Nat) "BonnetValley" "trial" "LBonnetValley$State;") ∈ kALL := kin_2 (n := 193) ⟨rfl, by decide +kernel⟩
theorem kw_23 : (Jvm.Cond.classLink "BonnetValley" (52 : Nat) "BonnetValley$History") ∈ kALL := kin_2 (n := 81) ⟨rfl, by decide +kernel⟩
theorem kw_24 : (Jvm.Cond.methodLink "BonnetValley" (54 : Nat) ({ cls := "BonnetValley$History", name := "<init>", desc := "()V" } : Jvm.MethodName)) ∈ kALL := kin_2 (n := 83) ⟨rfl, by decide +kernel⟩
theorem kw_25 : (Jvm.Cond.instanceMethod ({ cls := "BonnetValley$History", name := "<init>", desc := "()V" } : Jvm.MethodName)) ∈ kALL := kin_2 (n := 84) ⟨rfl, by decide +kernel⟩
theorem kw_26 : (Jvm.Cond.fieldLink "BonnetValley" (55 : Nat) "BonnetValley" "history" "LBonnetValley$History;") ∈ kALL := kin_2 (n := 194) ⟨rfl, by decide +kernel⟩
theorem kw_27 : (Jvm.Cond.classLink "BonnetValley" (59 : Nat) "BonnetValley$Lines") ∈ kALL := kin_2 (n := 106) ⟨rfl, by decide +kernel⟩
theorem kw_28 : (Jvm.Cond.methodLink "BonnetValley" (61 : Nat) ({ cls := "BonnetValley$Lines", name := "<init>", desc := "()V" } : Jvm.MethodName)) ∈ kALL := kin_2 (n := 108) ⟨rfl, by decide +kernel⟩
theorem kw_29 : (Jvm.Cond.instanceMethod ({ cls := "BonnetValley$Lines", name := "<init>", desc := "()V" } : Jvm.MethodName)) ∈ kALL := kin_2 (n := 109) ⟨rfl, by decide +kernel⟩
theorem kw_30 : (Jvm.Cond.fieldLink "BonnetValley" (62 : Nat) "BonnetValley" "lines" "LBonnetValley$Lines;") ∈ kALL := kin_2 (n := 195) ⟨rfl, by decide +kernel⟩
theorem kw_31 : (Jvm.Cond.classLink "BonnetValley" (66 : Nat) "BonnetValley$Plan") ∈ kALL := kin_2 (n := 122) ⟨rfl, by decide +kernel⟩
theorem kw_32 : (Jvm.Cond.methodLink "BonnetValley" (68 : Nat) ({ cls := "BonnetValley$Plan", name := "<init>", desc := "()V" } : Jvm.MethodName)) ∈ kALL := kin_2 (n := 124) ⟨rfl, by decide +kernel⟩
theorem kw_33 : (Jvm.Cond.instanceMethod ({ cls := "BonnetValley$Plan", name := "<init>", desc := "()V" } : Jvm.MethodName)) ∈ kALL := kin_2 (n := 125) ⟨rfl, by decide +kernel⟩
theorem kw_34 : (Jvm.Cond.fieldLink "BonnetValley" (69 : Nat) "BonnetValley" "plan" "LBonnetValley$Plan;") ∈ kALL := kin_2 (n := 196) ⟨rfl, by decide +kernel⟩
theorem kw_35 : (Jvm.Cond.classLink "BonnetValley" (73 : Nat) "BonnetValley$Route") ∈ kALL := kin_2 (n := 138) ⟨rfl, by decide +kernel⟩
theorem kw_36 : (Jvm.Cond.methodLink "BonnetValley" (75 : Nat) ({ cls := "BonnetValley$Route", name := "<init>", desc := "()V" } : Jvm.MethodName)) ∈ kALL := kin_2 (n := 140) ⟨rfl, by decide +kernel⟩
theorem kw_37 : (Jvm.Cond.instanceMethod ({ cls := "BonnetValley$Route", name := "<init>", desc := "()V" } : Jvm.MethodName)) ∈ kALL := kin_2 (n := 141) ⟨rfl, by decide +kernel⟩
theorem kw_38 : (Jvm.Cond.fieldLink "BonnetValley" (76 : Nat) "BonnetValley" "route" "LBonnetValley$Route;") ∈ kALL := kin_2 (n := 197) ⟨rfl, by decide +kernel⟩
theorem kw_39 : (Jvm.Cond.classLink "BonnetValley" (80 : Nat) "BonnetValley$Turning") ∈ kALL := kin_2 (n := 154) ⟨rfl, by decide +kernel⟩
theorem kw_40 : (Jvm.Cond.methodLink "BonnetValley" (82 : Nat) ({ cls := "BonnetValley$Turning", name := "<init>", desc := "()V" } : Jvm.MethodName)) ∈ kALL := kin_2 (n := 156) ⟨rfl, by decide +kernel⟩
theorem kw_41 : (Jvm.Cond.instanceMethod ({ cls := "BonnetValley$Turning", name := "<init>", desc := "()V" } : Jvm.MethodName)) ∈ kALL := kin_2 (n := 157) ⟨rfl, by decide +kernel⟩
theorem kw_42 : (Jvm.Cond.fieldLink "BonnetValley" (83 : Nat) "BonnetValley" "turning" "LBonnetValley$Turning;") ∈ kALL := kin_2 (n := 198) ⟨rfl, by decide +kernel⟩
theorem kw_43 : (Jvm.Cond.classLink "BonnetValley" (87 : Nat) "BonnetValley$Games") ∈ kALL := kin_2 (n := 167) ⟨rfl, by decide +kernel⟩
theorem kw_44 : (Jvm.Cond.methodLink "BonnetValley" (89 : Nat) ({ cls := "BonnetValley$Games", name := "<init>", desc := "()V" } : Jvm.MethodName)) ∈ kALL := kin_2 (n := 169) ⟨rfl, by decide +kernel⟩
theorem kw_45 : (Jvm.Cond.instanceMethod ({ cls := "BonnetValley$Games", name := "<init>", desc := "()V" } : Jvm.MethodName)) ∈ kALL := kin_2 (n := 170) ⟨rfl, by decide +kernel⟩
theorem kw_46 : (Jvm.Cond.fieldLink "BonnetValley" (90 : Nat) "BonnetValley" "games" "LBonnetValley$Games;") ∈ kALL := kin_2 (n := 199) ⟨rfl, by decide +kernel⟩
theorem kw_47 : (Jvm.Cond.constantLong "BonnetValley" (94 : Nat) (-1 : Int64)) ∈ kALL := kin_2 (n := 186) ⟨rfl, by decide +kernel⟩
theorem kw_48 : (Jvm.Cond.fieldLink "BonnetValley" (96 : Nat) "BonnetValley" "maybe" "J") ∈ kALL := kin_2 (n := 200) ⟨rfl, by decide +kernel⟩
theorem kw_49 : (Jvm.Cond.fieldLink "BonnetValley" (100 : Nat) "BonnetValley" "hearings" "I") ∈ kALL := kin_2 (n := 201) ⟨rfl, by decide +kernel⟩
theorem kw_50 : (Jvm.Cond.methodLink "BonnetValley" (104 : Nat) ({ cls := "BonnetValley$Signs", name := "append", desc := "(I)Z" } : Jvm.MethodName)) ∈ kALL := kin_2 (n := 237) ⟨rfl, by decide +kernel⟩
theorem kw_51 : (Jvm.Cond.instanceMethod ({ cls := "BonnetValley$Signs", name := "append", desc := "(I)Z" } : Jvm.MethodName)) ∈ kALL := kin_2 (n := 238) ⟨rfl, by decide +kernel⟩
theorem kw_52 : (Jvm.Cond.selects "BonnetValley$Signs" ({ cls := "BonnetValley$Signs", name := "append", desc := "(I)Z" } : Jvm.MethodName) ({ cls := "BonnetValley$Signs", name := "append", desc := "(I)Z" } : Jvm.MethodName)) ∈ kALL := kin_2 (n := 239) ⟨rfl, by decide +kernel⟩
theorem kw_53 : (Jvm.Cond.methodLink "BonnetValley" (108 : Nat) ({ cls := "BonnetValley$Signs", name := "size", desc := "()I" } : Jvm.MethodName)) ∈ kALL := kin_3 (n := 1) ⟨rfl, by decide +kernel⟩
theorem kw_54 : (Jvm.Cond.instanceMethod ({ cls := "BonnetValley$Signs", name := "size", desc := "()I" } : Jvm.MethodName)) ∈ kALL := kin_3 (n := 2) ⟨rfl, by decide +kernel⟩
theorem kw_55 : (Jvm.Cond.selects "BonnetValley$Signs" ({ cls := "BonnetValley$Signs", name := "size", desc := "()I" } : Jvm.MethodName) ({ cls := "BonnetValley$Signs", name := "size", desc := "()I" } : Jvm.MethodName)) ∈ kALL := kin_3 (n := 3) ⟨rfl, by decide +kernel⟩
theorem kw_56 : (Jvm.Cond.methodLink "BonnetValley" (112 : Nat) ({ cls := "BonnetValley$Signs", name := "cut", desc := "(I)Z" } : Jvm.MethodName)) ∈ kALL := kin_3 (n := 9) ⟨rfl, by decide +kernel⟩
theorem kw_57 : (Jvm.Cond.instanceMethod ({ cls := "BonnetValley$Signs", name := "cut", desc := "(I)Z" } : Jvm.MethodName)) ∈ kALL := kin_3 (n := 10) ⟨rfl, by decide +kernel⟩
theorem kw_58 : (Jvm.Cond.selects "BonnetValley$Signs" ({ cls := "BonnetValley$Signs", name := "cut", desc := "(I)Z" } : Jvm.MethodName) ({ cls := "BonnetValley$Signs", name := "cut", desc := "(I)Z" } : Jvm.MethodName)) ∈ kALL := kin_3 (n := 11) ⟨rfl, by decide +kernel⟩
theorem kw_59 : (Jvm.Cond.methodLink "BonnetValley" (115 : Nat) ({ cls := "BonnetValley$Land", name := "read", desc := "(LBonnetValley$Signs;)I" } : Jvm.MethodName)) ∈ kALL := kin_3 (n := 17) ⟨rfl, by decide +kernel⟩
theorem kw_60 : (Jvm.Cond.instanceMethod ({ cls := "BonnetValley$Land", name := "read", desc := "(LBonnetValley$Signs;)I" } : Jvm.MethodName)) ∈ kALL := kin_3 (n := 18) ⟨rfl, by decide +kernel⟩
theorem kw_61 : (Jvm.Cond.selects "BonnetValley$Land" ({ cls := "BonnetValley$Land", name := "read", desc := "(LBonnetValley$Signs;)I" } : Jvm.MethodName) ({ cls := "BonnetValley$Land", name := "read", desc := "(LBonnetValley$Signs;)I" } : Jvm.MethodName)) ∈ kALL := kin_3 (n := 19) ⟨rfl, by decide +kernel⟩
theorem kw_62 : (Jvm.Cond.methodLink "BonnetValley" (119 : Nat) ({ cls := "BonnetValley$Signs", name := "clear", desc := "()V" } : Jvm.MethodName)) ∈ kALL := kin_3 (n := 34) ⟨rfl, by decide +kernel⟩
theorem kw_63 : (Jvm.Cond.instanceMethod ({ cls := "BonnetValley$Signs", name := "clear", desc := "()V" } : Jvm.MethodName)) ∈ kALL := kin_3 (n := 35) ⟨rfl, by decide +kernel⟩
theorem kw_64 : (Jvm.Cond.selects "BonnetValley$Signs" ({ cls := "BonnetValley$Signs", name := "clear", desc := "()V" } : Jvm.MethodName) ({ cls := "BonnetValley$Signs", name := "clear", desc := "()V" } : Jvm.MethodName)) ∈ kALL := kin_3 (n := 36) ⟨rfl, by decide +kernel⟩
theorem kw_65 : (Jvm.Cond.methodLink "BonnetValley" (122 : Nat) ({ cls := "BonnetValley$State", name := "clear", desc := "()V" } : Jvm.MethodName)) ∈ kALL := kin_3 (n := 38) ⟨rfl, by decide +kernel⟩
theorem kw_66 : (Jvm.Cond.instanceMethod ({ cls := "BonnetValley$State", name := "clear", desc := "()V" } : Jvm.MethodName)) ∈ kALL := kin_2 (n := 36) ⟨rfl, by decide +kernel⟩
theorem kw_67 : (Jvm.Cond.selects "BonnetValley$State" ({ cls := "BonnetValley$State", name := "clear", desc := "()V" } : Jvm.MethodName) ({ cls := "BonnetValley$State", name := "clear", desc := "()V" } : Jvm.MethodName)) ∈ kALL := kin_2 (n := 37) ⟨rfl, by decide +kernel⟩
theorem kw_68 : (Jvm.Cond.methodLink "BonnetValley" (123 : Nat) ({ cls := "BonnetValley$History", name := "clear", desc := "()V" } : Jvm.MethodName)) ∈ kALL := kin_3 (n := 39) ⟨rfl, by decide +kernel⟩
theorem kw_69 : (Jvm.Cond.instanceMethod ({ cls := "BonnetValley$History", name := "clear", desc := "()V" } : Jvm.MethodName)) ∈ kALL := kin_3 (n := 40) ⟨rfl, by decide +kernel⟩
theorem kw_70 : (Jvm.Cond.selects "BonnetValley$History" ({ cls := "BonnetValley$History", name := "clear", desc := "()V" } : Jvm.MethodName) ({ cls := "BonnetValley$History", name := "clear", desc := "()V" } : Jvm.MethodName)) ∈ kALL := kin_3 (n := 41) ⟨rfl, by decide +kernel⟩
theorem kw_71 : (Jvm.Cond.methodLink "BonnetValley" (124 : Nat) ({ cls := "BonnetValley", name := "forgetHearings", desc := "()V" } : Jvm.MethodName)) ∈ kALL := kin_3 (n := 43) ⟨rfl, by decide +kernel⟩
theorem kw_72 : (Jvm.Cond.instanceMethod ({ cls := "BonnetValley", name := "forgetHearings", desc := "()V" } : Jvm.MethodName)) ∈ kALL := kin_3 (n := 45) ⟨rfl, by decide +kernel⟩
theorem kw_73 : (Jvm.Cond.selects "BonnetValley" ({ cls := "BonnetValley", name := "forgetHearings", desc := "()V" } : Jvm.MethodName) ({ cls := "BonnetValley", name := "forgetHearings", desc := "()V" } : Jvm.MethodName)) ∈ kALL := kin_0 (n := 4) (by decide +kernel)
theorem kw_74 : (Jvm.Cond.methodLink "BonnetValley" (127 : Nat) ({ cls := "BonnetValley$Land", name := "fields", desc := "()I" } : Jvm.MethodName)) ∈ kALL := kin_3 (n := 47) ⟨rfl, by decide +kernel⟩
theorem kw_75 : (Jvm.Cond.instanceMethod ({ cls := "BonnetValley$Land", name := "fields", desc := "()I" } : Jvm.MethodName)) ∈ kALL := kin_3 (n := 48) ⟨rfl, by decide +kernel⟩
theorem kw_76 : (Jvm.Cond.selects "BonnetValley$Land" ({ cls := "BonnetValley$Land", name := "fields", desc := "()I" } : Jvm.MethodName) ({ cls := "BonnetValley$Land", name := "fields", desc := "()I" } : Jvm.MethodName)) ∈ kALL := kin_3 (n := 49) ⟨rfl, by decide +kernel⟩
theorem kw_77 : (Jvm.Cond.fieldLink "BonnetValley" (130 : Nat) "BonnetValley$State" "persons" "I") ∈ kALL := kin_2 (n := 41) ⟨rfl, by decide +kernel⟩
theorem kw_78 : (Jvm.Cond.methodLink "BonnetValley" (133 : Nat) ({ cls := "BonnetValley$Lines", name := "read", desc := "(LBonnetValley$Signs;LBonnetValley$Land;II)I" } : Jvm.MethodName)) ∈ kALL := kin_3 (n := 55) ⟨rfl, by decide +kernel⟩
theorem kw_79 : (Jvm.Cond.instanceMethod ({ cls := "BonnetValley$Lines", name := "read", desc := "(LBonnetValley$Signs;LBonnetValley$Land;II)I" } : Jvm.MethodName)) ∈ kALL := kin_3 (n := 56) ⟨rfl, by decide +kernel⟩
theorem kw_80 : (Jvm.Cond.selects "BonnetValley$Lines" ({ cls := "BonnetValley$Lines", name := "read", desc := "(LBonnetValley$Signs;LBonnetValley$Land;II)I" } : Jvm.MethodName) ({ cls := "BonnetValley$Lines", name := "read", desc := "(LBonnetValley$Signs;LBonnetValley$Land;II)I" } : Jvm.MethodName)) ∈ kALL := kin_3 (n := 57) ⟨rfl, by decide +kernel⟩
theorem kw_81 : (Jvm.Cond.methodLink "BonnetValley" (136 : Nat) ({ cls := "BonnetValley$Lines", name := "digit", desc := "(II)I" } : Jvm.MethodName)) ∈ kALL := kin_3 (n := 85) ⟨rfl, by decide +kernel⟩
theorem kw_82 : (Jvm.Cond.instanceMethod ({ cls := "BonnetValley$Lines", name := "digit", desc := "(II)I" } : Jvm.MethodName)) ∈ kALL := kin_3 (n := 86) ⟨rfl, by decide +kernel⟩
theorem kw_83 : (Jvm.Cond.selects "BonnetValley$Lines" ({ cls := "BonnetValley$Lines", name := "digit", desc := "(II)I" } : Jvm.MethodName) ({ cls := "BonnetValley$Lines", name := "digit", desc := "(II)I" } : Jvm.MethodName)) ∈ kALL := kin_3 (n := 87) ⟨rfl, by decide +kernel⟩
theorem kw_84 : (Jvm.Cond.methodLink "BonnetValley" (140 : Nat) ({ cls := "BonnetValley$Land", name := "fieldAt", desc := "(II)I" } : Jvm.MethodName)) ∈ kALL := kin_3 (n := 89) ⟨rfl, by decide +kernel⟩
theorem kw_85 : (Jvm.Cond.instanceMethod ({ cls := "BonnetValley$Land", name := "fieldAt", desc := "(II)I" } : Jvm.MethodName)) ∈ kALL := kin_3 (n := 74) ⟨rfl, by decide +kernel⟩
theorem kw_86 : (Jvm.Cond.selects "BonnetValley$Land" ({ cls := "BonnetValley$Land", name := "fieldAt", desc := "(II)I" } : Jvm.MethodName) ({ cls := "BonnetValley$Land", name := "fieldAt", desc := "(II)I" } : Jvm.MethodName)) ∈ kALL := kin_3 (n := 75) ⟨rfl, by decide +kernel⟩
theorem kw_87 : (Jvm.Cond.methodLink "BonnetValley" (143 : Nat) ({ cls := "BonnetValley$State", name := "addPerson", desc := "(III)V" } : Jvm.MethodName)) ∈ kALL := kin_3 (n := 90) ⟨rfl, by decide +kernel⟩
theorem kw_88 : (Jvm.Cond.instanceMethod ({ cls := "BonnetValley$State", name := "addPerson", desc := "(III)V" } : Jvm.MethodName)) ∈ kALL := kin_3 (n := 91) ⟨rfl, by decide +kernel⟩
theorem kw_89 : (Jvm.Cond.selects "BonnetValley$State" ({ cls := "BonnetValley$State", name := "addPerson", desc := "(III)V" } : Jvm.MethodName) ({ cls := "BonnetValley$State", name := "addPerson", desc := "(III)V" } : Jvm.MethodName)) ∈ kALL := kin_3 (n := 92) ⟨rfl, by decide +kernel⟩
theorem kw_90 : (Jvm.Cond.fieldLink "BonnetValley" (147 : Nat) "BonnetValley$State" "goods" "I") ∈ kALL := kin_2 (n := 45) ⟨rfl, by decide +kernel⟩
theorem kw_91 : (Jvm.Cond.methodLink "BonnetValley" (150 : Nat) ({ cls := "BonnetValley$State", name := "addThing", desc := "(I)V" } : Jvm.MethodName)) ∈ kALL := kin_3 (n := 98) ⟨rfl, by decide +kernel⟩
theorem kw_92 : (Jvm.Cond.instanceMethod ({ cls := "BonnetValley$State", name := "addThing", desc := "(I)V" } : Jvm.MethodName)) ∈ kALL := kin_3 (n := 99) ⟨rfl, by decide +kernel⟩
theorem kw_93 : (Jvm.Cond.selects "BonnetValley$State" ({ cls := "BonnetValley$State", name := "addThing", desc := "(I)V" } : Jvm.MethodName) ({ cls := "BonnetValley$State", name := "addThing", desc := "(I)V" } : Jvm.MethodName)) ∈ kALL := kin_3 (n := 100) ⟨rfl, by decide +kernel⟩
theorem kw_94 : (Jvm.Cond.methodLink "BonnetValley" (154 : Nat) ({ cls := "BonnetValley$Sight", name := "readLight", desc := "(LBonnetValley$Signs;)I" } : Jvm.MethodName)) ∈ kALL := kin_3 (n := 106) ⟨rfl, by decide +kernel⟩
theorem kw_95 : (Jvm.Cond.instanceMethod ({ cls := "BonnetValley$Sight", name := "readLight", desc := "(LBonnetValley$Signs;)I" } : Jvm.MethodName)) ∈ kALL := kin_3 (n := 107) ⟨rfl, by decide +kernel⟩
theorem kw_96 : (Jvm.Cond.selects "BonnetValley$Sight" ({ cls := "BonnetValley$Sight", name := "readLight", desc := "(LBonnetValley$Signs;)I" } : Jvm.MethodName) ({ cls := "BonnetValley$Sight", name := "readLight", desc := "(LBonnetValley$Signs;)I" } : Jvm.MethodName)) ∈ kALL := kin_3 (n := 108) ⟨rfl, by decide +kernel⟩
theorem kw_97 : (Jvm.Cond.methodLink "BonnetValley" (157 : Nat) ({ cls := "BonnetValley$Sight", name := "other", desc := "()LBonnetValley$Formula;" } : Jvm.MethodName)) ∈ kALL := kin_3 (n := 116) ⟨rfl, by decide +kernel⟩
theorem kw_98 : (Jvm.Cond.instanceMethod ({ cls := "BonnetValley$Sight", name := "other", desc := "()LBonnetValley$Formula;" } : Jvm.MethodName)) ∈ kALL := kin_3 (n := 117) ⟨rfl, by decide +kernel⟩
theorem kw_99 : (Jvm.Cond.selects "BonnetValley$Sight" ({ cls := "BonnetValley$Sight", name := "other", desc := "()LBonnetValley$Formula;" } : Jvm.MethodName) ({ cls := "BonnetValley$Sight", name := "other", desc := "()LBonnetValley$Formula;" } : Jvm.MethodName)) ∈ kALL := kin_3 (n := 118) ⟨rfl, by decide +kernel⟩
theorem kw_100 : (Jvm.Cond.methodLink "BonnetValley" (161 : Nat) ({ cls := "BonnetValley$Formula", name := "read", desc := "(LBonnetValley$Signs;)I" } : Jvm.MethodName)) ∈ kALL := kin_3 (n := 120) ⟨rfl, by decide +kernel⟩
theorem kw_101 : (Jvm.Cond.instanceMethod ({ cls := "BonnetValley$Formula", name := "read", desc := "(LBonnetValley$Signs;)I" } : Jvm.MethodName)) ∈ kALL := kin_3 (n := 121) ⟨rfl, by decide +kernel⟩
theorem kw_102 : (Jvm.Cond.selects "BonnetValley$Formula" ({ cls := "BonnetValley$Formula", name := "read", desc := "(LBonnetValley$Signs;)I" } : Jvm.MethodName) ({ cls := "BonnetValley$Formula", name := "read", desc := "(LBonnetValley$Signs;)I" } : Jvm.MethodName)) ∈ kALL := kin_3 (n := 122) ⟨rfl, by decide +kernel⟩
theorem kw_103 : (Jvm.Cond.methodLink "BonnetValley" (164 : Nat) ({ cls := "BonnetValley$Sight", name := "takeOther", desc := "()V" } : Jvm.MethodName)) ∈ kALL := kin_3 (n := 157) ⟨rfl, by decide +kernel⟩
theorem kw_104 : (Jvm.Cond.instanceMethod ({ cls := "BonnetValley$Sight", name := "takeOther", desc := "()V" } : Jvm.MethodName)) ∈ kALL := kin_3 (n := 158) ⟨rfl, by decide +kernel⟩
theorem kw_105 : (Jvm.Cond.selects "BonnetValley$Sight" ({ cls := "BonnetValley$Sight", name := "takeOther", desc := "()V" } : Jvm.MethodName) ({ cls := "BonnetValley$Sight", name := "takeOther", desc := "()V" } : Jvm.MethodName)) ∈ kALL := kin_3 (n := 159) ⟨rfl, by decide +kernel⟩
theorem kw_106 : (Jvm.Cond.methodLink "BonnetValley" (167 : Nat) ({ cls := "BonnetValley$State", name := "hasPerson", desc := "(I)Z" } : Jvm.MethodName)) ∈ kALL := kin_4 (n := 76) ⟨rfl, by decide +kernel⟩
theorem kw_107 : (Jvm.Cond.instanceMethod ({ cls := "BonnetValley$State", name := "hasPerson", desc := "(I)Z" } : Jvm.MethodName)) ∈ kALL := kin_4 (n := 35) ⟨rfl, by decide +kernel⟩
theorem kw_108 : (Jvm.Cond.selects "BonnetValley$State" ({ cls := "BonnetValley$State", name := "hasPerson", desc := "(I)Z" } : Jvm.MethodName) ({ cls := "BonnetValley$State", name := "hasPerson", desc := "(I)Z" } : Jvm.MethodName)) ∈ kALL := kin_4 (n := 36) ⟨rfl, by decide +kernel⟩
theorem kw_109 : (Jvm.Cond.fieldLink "BonnetValley" (173 : Nat) "BonnetValley$State" "field" "[I") ∈ kALL := kin_2 (n := 51) ⟨rfl, by decide +kernel⟩
theorem kw_110 : (Jvm.Cond.fieldLink "BonnetValley" (177 : Nat) "BonnetValley$State" "facing" "[I") ∈ kALL := kin_2 (n := 55) ⟨rfl, by decide +kernel⟩
theorem kw_111 : (Jvm.Cond.fieldLink "BonnetValley" (180 : Nat) "BonnetValley$State" "brim" "[I") ∈ kALL := kin_2 (n := 58) ⟨rfl, by decide +kernel⟩
theorem kw_112 : (Jvm.Cond.fieldLink "BonnetValley" (183 : Nat) "BonnetValley$State" "knows" "[I") ∈ kALL := kin_2 (n := 61) ⟨rfl, by decide +kernel⟩
theorem kw_113 : (Jvm.Cond.methodLink "BonnetValley" (186 : Nat) ({ cls := "BonnetValley$Sight", name := "reach", desc := "(LBonnetValley$State;I)I" } : Jvm.MethodName)) ∈ kALL := kin_5 (n := 30) ⟨rfl, by decide +kernel⟩
theorem kw_114 : (Jvm.Cond.instanceMethod ({ cls := "BonnetValley$Sight", name := "reach", desc := "(LBonnetValley$State;I)I" } : Jvm.MethodName)) ∈ kALL := kin_5 (n := 31) ⟨rfl, by decide +kernel⟩
theorem kw_115 : (Jvm.Cond.selects "BonnetValley$Sight" ({ cls := "BonnetValley$Sight", name := "reach", desc := "(LBonnetValley$State;I)I" } : Jvm.MethodName) ({ cls := "BonnetValley$Sight", name := "reach", desc := "(LBonnetValley$State;I)I" } : Jvm.MethodName)) ∈ kALL := kin_5 (n := 32) ⟨rfl, by decide +kernel⟩
theorem kw_116 : (Jvm.Cond.methodLink "BonnetValley" (190 : Nat) ({ cls := "BonnetValley$Sight", name := "viewOf", desc := "(LBonnetValley$State;I)J" } : Jvm.MethodName)) ∈ kALL := kin_4 (n := 174) ⟨rfl, by decide +kernel⟩
theorem kw_117 : (Jvm.Cond.instanceMethod ({ cls := "BonnetValley$Sight", name := "viewOf", desc := "(LBonnetValley$State;I)J" } : Jvm.MethodName)) ∈ kALL := kin_4 (n := 175) ⟨rfl, by decide +kernel⟩
theorem kw_118 : (Jvm.Cond.selects "BonnetValley$Sight" ({ cls := "BonnetValley$Sight", name := "viewOf", desc := "(LBonnetValley$State;I)J" } : Jvm.MethodName) ({ cls := "BonnetValley$Sight", name := "viewOf", desc := "(LBonnetValley$State;I)J" } : Jvm.MethodName)) ∈ kALL := kin_4 (n := 176) ⟨rfl, by decide +kernel⟩
theorem kw_119 : (Jvm.Cond.methodLink "BonnetValley" (194 : Nat) ({ cls := "BonnetValley$State", name := "thingsOn", desc := "(J)I" } : Jvm.MethodName)) ∈ kALL := kin_4 (n := 202) ⟨rfl, by decide +kernel⟩
theorem kw_120 : (Jvm.Cond.instanceMethod ({ cls := "BonnetValley$State", name := "thingsOn", desc := "(J)I" } : Jvm.MethodName)) ∈ kALL := kin_4 (n := 23) ⟨rfl, by decide +kernel⟩
theorem kw_121 : (Jvm.Cond.selects "BonnetValley$State" ({ cls := "BonnetValley$State", name := "thingsOn", desc := "(J)I" } : Jvm.MethodName) ({ cls := "BonnetValley$State", name := "thingsOn", desc := "(J)I" } : Jvm.MethodName)) ∈ kALL := kin_4 (n := 24) ⟨rfl, by decide +kernel⟩
theorem kw_122 : (Jvm.Cond.methodLink "BonnetValley" (198 : Nat) ({ cls := "BonnetValley$State", name := "hasThing", desc := "(I)Z" } : Jvm.MethodName)) ∈ kALL := kin_4 (n := 115) ⟨rfl, by decide +kernel⟩
theorem kw_123 : (Jvm.Cond.instanceMethod ({ cls := "BonnetValley$State", name := "hasThing", desc := "(I)Z" } : Jvm.MethodName)) ∈ kALL := kin_4 (n := 116) ⟨rfl, by decide +kernel⟩
theorem kw_124 : (Jvm.Cond.selects "BonnetValley$State" ({ cls := "BonnetValley$State", name := "hasThing", desc := "(I)Z" } : Jvm.MethodName) ({ cls := "BonnetValley$State", name := "hasThing", desc := "(I)Z" } : Jvm.MethodName)) ∈ kALL := kin_4 (n := 117) ⟨rfl, by decide +kernel⟩
theorem kw_125 : (Jvm.Cond.fieldLink "BonnetValley" (201 : Nat) "BonnetValley$State" "place" "[I") ∈ kALL := kin_2 (n := 63) ⟨rfl, by decide +kernel⟩
theorem kw_126 : (Jvm.Cond.methodLink "BonnetValley" (204 : Nat) ({ cls := "BonnetValley$State", name := "knowersOf", desc := "(I)I" } : Jvm.MethodName)) ∈ kALL := kin_5 (n := 2) ⟨rfl, by decide +kernel⟩
theorem kw_127 : (Jvm.Cond.instanceMethod ({ cls := "BonnetValley$State", name := "knowersOf", desc := "(I)I" } : Jvm.MethodName)) ∈ kALL := kin_5 (n := 3) ⟨rfl, by decide +kernel⟩
theorem kw_128 : (Jvm.Cond.selects "BonnetValley$State" ({ cls := "BonnetValley$State", name := "knowersOf", desc := "(I)I" } : Jvm.MethodName) ({ cls := "BonnetValley$State", name := "knowersOf", desc := "(I)I" } : Jvm.MethodName)) ∈ kALL := kin_5 (n := 4) ⟨rfl, by decide +kernel⟩
theorem kw_129 : (Jvm.Cond.methodLink "BonnetValley" (208 : Nat) ({ cls := "BonnetValley$Sight", name := "look", desc := "(LBonnetValley$State;)J" } : Jvm.MethodName)) ∈ kALL := kin_4 (n := 193) ⟨rfl, by decide +kernel⟩
theorem kw_130 : (Jvm.Cond.instanceMethod ({ cls := "BonnetValley$Sight", name := "look", desc := "(LBonnetValley$State;)J" } : Jvm.MethodName)) ∈ kALL := kin_4 (n := 194) ⟨rfl, by decide +kernel⟩
theorem kw_131 : (Jvm.Cond.selects "BonnetValley$Sight" ({ cls := "BonnetValley$Sight", name := "look", desc := "(LBonnetValley$State;)J" } : Jvm.MethodName) ({ cls := "BonnetValley$Sight", name := "look", desc := "(LBonnetValley$State;)J" } : Jvm.MethodName)) ∈ kALL := kin_4 (n := 195) ⟨rfl, by decide +kernel⟩
theorem kw_132 : (Jvm.Cond.methodLink "BonnetValley" (212 : Nat) ({ cls := "BonnetValley$Sight", name := "seersOf", desc := "(LBonnetValley$State;I)I" } : Jvm.MethodName)) ∈ kALL := kin_4 (n := 197) ⟨rfl, by decide +kernel⟩
theorem kw_133 : (Jvm.Cond.instanceMethod ({ cls := "BonnetValley$Sight", name := "seersOf", desc := "(LBonnetValley$State;I)I" } : Jvm.MethodName)) ∈ kALL := kin_4 (n := 198) ⟨rfl, by decide +kernel⟩
theorem kw_134 : (Jvm.Cond.selects "BonnetValley$Sight" ({ cls := "BonnetValley$Sight", name := "seersOf", desc := "(LBonnetValley$State;I)I" } : Jvm.MethodName) ({ cls := "BonnetValley$Sight", name := "seersOf", desc := "(LBonnetValley$State;I)I" } : Jvm.MethodName)) ∈ kALL := kin_4 (n := 199) ⟨rfl, by decide +kernel⟩
theorem kw_135 : (Jvm.Cond.methodLink "BonnetValley" (215 : Nat) ({ cls := "java/util/Arrays", name := "fill", desc := "([II)V" } : Jvm.MethodName)) ∈ kALL := kin_3 (n := 165) ⟨rfl, by decide +kernel⟩
theorem kw_136 : (Jvm.Cond.static ({ cls := "java/util/Arrays", name := "fill", desc := "([II)V" } : Jvm.MethodName)) ∈ kALL := kin_3 (n := 166) ⟨rfl, by decide +kernel⟩
theorem kw_137 : (Jvm.Cond.methodLink "BonnetValley" (221 : Nat) ({ cls := "BonnetValley", name := "sheetEntry", desc := "(II)I" } : Jvm.MethodName)) ∈ kALL := kin_3 (n := 168) ⟨rfl, by decide +kernel⟩
theorem kw_138 : (Jvm.Cond.static ({ cls := "BonnetValley", name := "sheetEntry", desc := "(II)I" } : Jvm.MethodName)) ∈ kALL := kin_3 (n := 169) ⟨rfl, by decide +kernel⟩
theorem kw_139 : (Jvm.Cond.methodLink "BonnetValley" (224 : Nat) ({ cls := "BonnetValley$State", name := "brims", desc := "()I" } : Jvm.MethodName)) ∈ kALL := kin_3 (n := 173) ⟨rfl, by decide +kernel⟩
theorem kw_140 : (Jvm.Cond.instanceMethod ({ cls := "BonnetValley$State", name := "brims", desc := "()I" } : Jvm.MethodName)) ∈ kALL := kin_3 (n := 174) ⟨rfl, by decide +kernel⟩
theorem kw_141 : (Jvm.Cond.selects "BonnetValley$State" ({ cls := "BonnetValley$State", name := "brims", desc := "()I" } : Jvm.MethodName) ({ cls := "BonnetValley$State", name := "brims", desc := "()I" } : Jvm.MethodName)) ∈ kALL := kin_3 (n := 175) ⟨rfl, by decide +kernel⟩
theorem kw_142 : (Jvm.Cond.methodLink "BonnetValley" (227 : Nat) ({ cls := "java/lang/Math", name := "min", desc := "(II)I" } : Jvm.MethodName)) ∈ kALL := kin_3 (n := 171) ⟨rfl, by decide +kernel⟩
theorem kw_143 : (Jvm.Cond.methodLink "BonnetValley" (232 : Nat) ({ cls := "java/lang/Math", name := "max", desc := "(II)I" } : Jvm.MethodName)) ∈ kALL := kin_3 (n := 172) ⟨rfl, by decide +kernel⟩
theorem kw_144 : (Jvm.Cond.methodLink "BonnetValley" (235 : Nat) ({ cls := "BonnetValley$State", name := "copy", desc := "(LBonnetValley$State;)V" } : Jvm.MethodName)) ∈ kALL := kin_3 (n := 181) ⟨rfl, by decide +kernel⟩
theorem kw_145 : (Jvm.Cond.instanceMethod ({ cls := "BonnetValley$State", name := "copy", desc := "(LBonnetValley$State;)V" } : Jvm.MethodName)) ∈ kALL := kin_3 (n := 182) ⟨rfl, by decide +kernel⟩
theorem kw_146 : (Jvm.Cond.selects "BonnetValley$State" ({ cls := "BonnetValley$State", name := "copy", desc := "(LBonnetValley$State;)V" } : Jvm.MethodName) ({ cls := "BonnetValley$State", name := "copy", desc := "(LBonnetValley$State;)V" } : Jvm.MethodName)) ∈ kALL := kin_3 (n := 183) ⟨rfl, by decide +kernel⟩
theorem kw_147 : (Jvm.Cond.methodLink "BonnetValley" (239 : Nat) ({ cls := "BonnetValley$Sight", name := "pass", desc := "(LBonnetValley$State;I)I" } : Jvm.MethodName)) ∈ kALL := kin_3 (n := 188) ⟨rfl, by decide +kernel⟩
theorem kw_148 : (Jvm.Cond.instanceMethod ({ cls := "BonnetValley$Sight", name := "pass", desc := "(LBonnetValley$State;I)I" } : Jvm.MethodName)) ∈ kALL := kin_3 (n := 189) ⟨rfl, by decide +kernel⟩
theorem kw_149 : (Jvm.Cond.selects "BonnetValley$Sight" ({ cls := "BonnetValley$Sight", name := "pass", desc := "(LBonnetValley$State;I)I" } : Jvm.MethodName) ({ cls := "BonnetValley$Sight", name := "pass", desc := "(LBonnetValley$State;I)I" } : Jvm.MethodName)) ∈ kALL := kin_3 (n := 190) ⟨rfl, by decide +kernel⟩
theorem kw_150 : (Jvm.Cond.methodLink "BonnetValley" (242 : Nat) ({ cls := "BonnetValley", name := "remember", desc := "(I)I" } : Jvm.MethodName)) ∈ kALL := kin_4 (n := 45) ⟨rfl, by decide +kernel⟩
theorem kw_151 : (Jvm.Cond.instanceMethod ({ cls := "BonnetValley", name := "remember", desc := "(I)I" } : Jvm.MethodName)) ∈ kALL := kin_4 (n := 47) ⟨rfl, by decide +kernel⟩
theorem kw_152 : (Jvm.Cond.selects "BonnetValley" ({ cls := "BonnetValley", name := "remember", desc := "(I)I" } : Jvm.MethodName) ({ cls := "BonnetValley", name := "remember", desc := "(I)I" } : Jvm.MethodName)) ∈ kALL := kin_0 (n := 17) (by decide +kernel)
theorem kw_153 : (Jvm.Cond.methodLink "BonnetValley" (245 : Nat) ({ cls := "BonnetValley$Numbers", name := "anew", desc := "()LBonnetValley$Numbers;" } : Jvm.MethodName)) ∈ kALL := kin_4 (n := 55) ⟨rfl, by decide +kernel⟩
theorem kw_154 : (Jvm.Cond.instanceMethod ({ cls := "BonnetValley$Numbers", name := "anew", desc := "()LBonnetValley$Numbers;" } : Jvm.MethodName)) ∈ kALL := kin_4 (n := 56) ⟨rfl, by decide +kernel⟩
theorem kw_155 : (Jvm.Cond.selects "BonnetValley$Numbers" ({ cls := "BonnetValley$Numbers", name := "anew", desc := "()LBonnetValley$Numbers;" } : Jvm.MethodName) ({ cls := "BonnetValley$Numbers", name := "anew", desc := "()LBonnetValley$Numbers;" } : Jvm.MethodName)) ∈ kALL := kin_4 (n := 57) ⟨rfl, by decide +kernel⟩
theorem kw_156 : (Jvm.Cond.methodLink "BonnetValley" (249 : Nat) ({ cls := "BonnetValley$State", name := "known", desc := "()I" } : Jvm.MethodName)) ∈ kALL := kin_4 (n := 59) ⟨rfl, by decide +kernel⟩
theorem kw_157 : (Jvm.Cond.instanceMethod ({ cls := "BonnetValley$State", name := "known", desc := "()I" } : Jvm.MethodName)) ∈ kALL := kin_4 (n := 41) ⟨rfl, by decide +kernel⟩
theorem kw_158 : (Jvm.Cond.selects "BonnetValley$State" ({ cls := "BonnetValley$State", name := "known", desc := "()I" } : Jvm.MethodName) ({ cls := "BonnetValley$State", name := "known", desc := "()I" } : Jvm.MethodName)) ∈ kALL := kin_4 (n := 42) ⟨rfl, by decide +kernel⟩
theorem kw_159 : (Jvm.Cond.methodLink "BonnetValley" (252 : Nat) ({ cls := "BonnetValley$Numbers", name := "add", desc := "(J)LBonnetValley$Numbers;" } : Jvm.MethodName)) ∈ kALL := kin_4 (n := 60) ⟨rfl, by decide +kernel⟩
theorem kw_160 : (Jvm.Cond.instanceMethod ({ cls := "BonnetValley$Numbers", name := "add", desc := "(J)LBonnetValley$Numbers;" } : Jvm.MethodName)) ∈ kALL := kin_4 (n := 61) ⟨rfl, by decide +kernel⟩
theorem kw_161 : (Jvm.Cond.selects "BonnetValley$Numbers" ({ cls := "BonnetValley$Numbers", name := "add", desc := "(J)LBonnetValley$Numbers;" } : Jvm.MethodName) ({ cls := "BonnetValley$Numbers", name := "add", desc := "(J)LBonnetValley$Numbers;" } : Jvm.MethodName)) ∈ kALL := kin_4 (n := 62) ⟨rfl, by decide +kernel⟩
theorem kw_162 : (Jvm.Cond.methodLink "BonnetValley" (256 : Nat) ({ cls := "BonnetValley$State", name := "knownBySomebody", desc := "()I" } : Jvm.MethodName)) ∈ kALL := kin_4 (n := 64) ⟨rfl, by decide +kernel⟩
theorem kw_163 : (Jvm.Cond.instanceMethod ({ cls := "BonnetValley$State", name := "knownBySomebody", desc := "()I" } : Jvm.MethodName)) ∈ kALL := kin_4 (n := 65) ⟨rfl, by decide +kernel⟩
theorem kw_164 : (Jvm.Cond.selects "BonnetValley$State" ({ cls := "BonnetValley$State", name := "knownBySomebody", desc := "()I" } : Jvm.MethodName) ({ cls := "BonnetValley$State", name := "knownBySomebody", desc := "()I" } : Jvm.MethodName)) ∈ kALL := kin_4 (n := 66) ⟨rfl, by decide +kernel⟩
theorem kw_165 : (Jvm.Cond.methodLink "BonnetValley" (259 : Nat) ({ cls := "BonnetValley", name := "turnTo", desc := "(II)I" } : Jvm.MethodName)) ∈ kALL := kin_4 (n := 72) ⟨rfl, by decide +kernel⟩
theorem kw_166 : (Jvm.Cond.instanceMethod ({ cls := "BonnetValley", name := "turnTo", desc := "(II)I" } : Jvm.MethodName)) ∈ kALL := kin_4 (n := 74) ⟨rfl, by decide +kernel⟩
theorem kw_167 : (Jvm.Cond.selects "BonnetValley" ({ cls := "BonnetValley", name := "turnTo", desc := "(II)I" } : Jvm.MethodName) ({ cls := "BonnetValley", name := "turnTo", desc := "(II)I" } : Jvm.MethodName)) ∈ kALL := kin_0 (n := 18) (by decide +kernel)
theorem kw_168 : (Jvm.Cond.methodLink "BonnetValley" (262 : Nat) ({ cls := "BonnetValley", name := "walk", desc := "(II)I" } : Jvm.MethodName)) ∈ kALL := kin_4 (n := 85) ⟨rfl, by decide +kernel⟩
theorem kw_169 : (Jvm.Cond.instanceMethod ({ cls := "BonnetValley", name := "walk", desc := "(II)I" } : Jvm.MethodName)) ∈ kALL := kin_4 (n := 87) ⟨rfl, by decide +kernel⟩
theorem kw_170 : (Jvm.Cond.selects "BonnetValley" ({ cls := "BonnetValley", name := "walk", desc := "(II)I" } : Jvm.MethodName) ({ cls := "BonnetValley", name := "walk", desc := "(II)I" } : Jvm.MethodName)) ∈ kALL := kin_0 (n := 19) (by decide +kernel)
theorem kw_171 : (Jvm.Cond.methodLink "BonnetValley" (265 : Nat) ({ cls := "BonnetValley", name := "trimTo", desc := "(II)I" } : Jvm.MethodName)) ∈ kALL := kin_4 (n := 103) ⟨rfl, by decide +kernel⟩
theorem kw_172 : (Jvm.Cond.instanceMethod ({ cls := "BonnetValley", name := "trimTo", desc := "(II)I" } : Jvm.MethodName)) ∈ kALL := kin_4 (n := 105) ⟨rfl, by decide +kernel⟩
theorem kw_173 : (Jvm.Cond.selects "BonnetValley" ({ cls := "BonnetValley", name := "trimTo", desc := "(II)I" } : Jvm.MethodName) ({ cls := "BonnetValley", name := "trimTo", desc := "(II)I" } : Jvm.MethodName)) ∈ kALL := kin_0 (n := 20) (by decide +kernel)
theorem kw_174 : (Jvm.Cond.methodLink "BonnetValley" (268 : Nat) ({ cls := "BonnetValley", name := "putOn", desc := "(II)I" } : Jvm.MethodName)) ∈ kALL := kin_4 (n := 111) ⟨rfl, by decide +kernel⟩
theorem kw_175 : (Jvm.Cond.instanceMethod ({ cls := "BonnetValley", name := "putOn", desc := "(II)I" } : Jvm.MethodName)) ∈ kALL := kin_4 (n := 113) ⟨rfl, by decide +kernel⟩
theorem kw_176 : (Jvm.Cond.selects "BonnetValley" ({ cls := "BonnetValley", name := "putOn", desc := "(II)I" } : Jvm.MethodName) ({ cls := "BonnetValley", name := "putOn", desc := "(II)I" } : Jvm.MethodName)) ∈ kALL := kin_0 (n := 21) (by decide +kernel)
theorem kw_177 : (Jvm.Cond.methodLink "BonnetValley" (271 : Nat) ({ cls := "BonnetValley$Plan", name := "read", desc := "(LBonnetValley$Signs;)I" } : Jvm.MethodName)) ∈ kALL := kin_4 (n := 124) ⟨rfl, by decide +kernel⟩
theorem kw_178 : (Jvm.Cond.instanceMethod ({ cls := "BonnetValley$Plan", name := "read", desc := "(LBonnetValley$Signs;)I" } : Jvm.MethodName)) ∈ kALL := kin_4 (n := 125) ⟨rfl, by decide +kernel⟩
theorem kw_179 : (Jvm.Cond.selects "BonnetValley$Plan" ({ cls := "BonnetValley$Plan", name := "read", desc := "(LBonnetValley$Signs;)I" } : Jvm.MethodName) ({ cls := "BonnetValley$Plan", name := "read", desc := "(LBonnetValley$Signs;)I" } : Jvm.MethodName)) ∈ kALL := kin_4 (n := 126) ⟨rfl, by decide +kernel⟩
theorem kw_180 : (Jvm.Cond.methodLink "BonnetValley" (272 : Nat) ({ cls := "BonnetValley$Plan", name := "acts", desc := "()I" } : Jvm.MethodName)) ∈ kALL := kin_4 (n := 142) ⟨rfl, by decide +kernel⟩
theorem kw_181 : (Jvm.Cond.instanceMethod ({ cls := "BonnetValley$Plan", name := "acts", desc := "()I" } : Jvm.MethodName)) ∈ kALL := kin_4 (n := 143) ⟨rfl, by decide +kernel⟩
theorem kw_182 : (Jvm.Cond.selects "BonnetValley$Plan" ({ cls := "BonnetValley$Plan", name := "acts", desc := "()I" } : Jvm.MethodName) ({ cls := "BonnetValley$Plan", name := "acts", desc := "()I" } : Jvm.MethodName)) ∈ kALL := kin_4 (n := 144) ⟨rfl, by decide +kernel⟩
theorem kw_183 : (Jvm.Cond.methodLink "BonnetValley" (275 : Nat) ({ cls := "BonnetValley", name := "act", desc := "(I)I" } : Jvm.MethodName)) ∈ kALL := kin_4 (n := 146) ⟨rfl, by decide +kernel⟩
theorem kw_184 : (Jvm.Cond.instanceMethod ({ cls := "BonnetValley", name := "act", desc := "(I)I" } : Jvm.MethodName)) ∈ kALL := kin_4 (n := 148) ⟨rfl, by decide +kernel⟩
theorem kw_185 : (Jvm.Cond.selects "BonnetValley" ({ cls := "BonnetValley", name := "act", desc := "(I)I" } : Jvm.MethodName) ({ cls := "BonnetValley", name := "act", desc := "(I)I" } : Jvm.MethodName)) ∈ kALL := kin_0 (n := 24) (by decide +kernel)
theorem kw_186 : (Jvm.Cond.methodLink "BonnetValley" (278 : Nat) ({ cls := "BonnetValley$History", name := "push", desc := "(LBonnetValley$State;)V" } : Jvm.MethodName)) ∈ kALL := kin_4 (n := 49) ⟨rfl, by decide +kernel⟩
theorem kw_187 : (Jvm.Cond.instanceMethod ({ cls := "BonnetValley$History", name := "push", desc := "(LBonnetValley$State;)V" } : Jvm.MethodName)) ∈ kALL := kin_4 (n := 50) ⟨rfl, by decide +kernel⟩
theorem kw_188 : (Jvm.Cond.selects "BonnetValley$History" ({ cls := "BonnetValley$History", name := "push", desc := "(LBonnetValley$State;)V" } : Jvm.MethodName) ({ cls := "BonnetValley$History", name := "push", desc := "(LBonnetValley$State;)V" } : Jvm.MethodName)) ∈ kALL := kin_4 (n := 51) ⟨rfl, by decide +kernel⟩
theorem kw_189 : (Jvm.Cond.fieldLink "BonnetValley" (281 : Nat) "BonnetValley$State" "hour" "I") ∈ kALL := kin_2 (n := 48) ⟨rfl, by decide +kernel⟩
theorem kw_190 : (Jvm.Cond.methodLink "BonnetValley" (284 : Nat) ({ cls := "BonnetValley$History", name := "pop", desc := "(LBonnetValley$State;)Z" } : Jvm.MethodName)) ∈ kALL := kin_4 (n := 162) ⟨rfl, by decide +kernel⟩
theorem kw_191 : (Jvm.Cond.instanceMethod ({ cls := "BonnetValley$History", name := "pop", desc := "(LBonnetValley$State;)Z" } : Jvm.MethodName)) ∈ kALL := kin_4 (n := 163) ⟨rfl, by decide +kernel⟩
theorem kw_192 : (Jvm.Cond.selects "BonnetValley$History" ({ cls := "BonnetValley$History", name := "pop", desc := "(LBonnetValley$State;)Z" } : Jvm.MethodName) ({ cls := "BonnetValley$History", name := "pop", desc := "(LBonnetValley$State;)Z" } : Jvm.MethodName)) ∈ kALL := kin_4 (n := 164) ⟨rfl, by decide +kernel⟩
theorem kw_193 : (Jvm.Cond.methodLink "BonnetValley" (288 : Nat) ({ cls := "BonnetValley$History", name := "size", desc := "()I" } : Jvm.MethodName)) ∈ kALL := kin_4 (n := 166) ⟨rfl, by decide +kernel⟩
theorem kw_194 : (Jvm.Cond.instanceMethod ({ cls := "BonnetValley$History", name := "size", desc := "()I" } : Jvm.MethodName)) ∈ kALL := kin_4 (n := 167) ⟨rfl, by decide +kernel⟩
theorem kw_195 : (Jvm.Cond.selects "BonnetValley$History" ({ cls := "BonnetValley$History", name := "size", desc := "()I" } : Jvm.MethodName) ({ cls := "BonnetValley$History", name := "size", desc := "()I" } : Jvm.MethodName)) ∈ kALL := kin_4 (n := 168) ⟨rfl, by decide +kernel⟩
theorem kw_196 : (Jvm.Cond.methodLink "BonnetValley" (289 : Nat) ({ cls := "BonnetValley$Plan", name := "digit", desc := "(II)I" } : Jvm.MethodName)) ∈ kALL := kin_4 (n := 150) ⟨rfl, by decide +kernel⟩
theorem kw_197 : (Jvm.Cond.instanceMethod ({ cls := "BonnetValley$Plan", name := "digit", desc := "(II)I" } : Jvm.MethodName)) ∈ kALL := kin_4 (n := 151) ⟨rfl, by decide +kernel⟩
theorem kw_198 : (Jvm.Cond.selects "BonnetValley$Plan" ({ cls := "BonnetValley$Plan", name := "digit", desc := "(II)I" } : Jvm.MethodName) ({ cls := "BonnetValley$Plan", name := "digit", desc := "(II)I" } : Jvm.MethodName)) ∈ kALL := kin_4 (n := 152) ⟨rfl, by decide +kernel⟩
theorem kw_199 : (Jvm.Cond.methodLink "BonnetValley" (290 : Nat) ({ cls := "BonnetValley$Plan", name := "kind", desc := "(I)I" } : Jvm.MethodName)) ∈ kALL := kin_4 (n := 154) ⟨rfl, by decide +kernel⟩
theorem kw_200 : (Jvm.Cond.instanceMethod ({ cls := "BonnetValley$Plan", name := "kind", desc := "(I)I" } : Jvm.MethodName)) ∈ kALL := kin_4 (n := 155) ⟨rfl, by decide +kernel⟩
theorem kw_201 : (Jvm.Cond.selects "BonnetValley$Plan" ({ cls := "BonnetValley$Plan", name := "kind", desc := "(I)I" } : Jvm.MethodName) ({ cls := "BonnetValley$Plan", name := "kind", desc := "(I)I" } : Jvm.MethodName)) ∈ kALL := kin_4 (n := 156) ⟨rfl, by decide +kernel⟩
theorem kw_202 : (Jvm.Cond.methodLink "BonnetValley" (293 : Nat) ({ cls := "BonnetValley", name := "isWay", desc := "(I)Z" } : Jvm.MethodName)) ∈ kALL := kin_4 (n := 77) ⟨rfl, by decide +kernel⟩
theorem kw_203 : (Jvm.Cond.static ({ cls := "BonnetValley", name := "isWay", desc := "(I)Z" } : Jvm.MethodName)) ∈ kALL := kin_4 (n := 78) ⟨rfl, by decide +kernel⟩
theorem kw_204 : (Jvm.Cond.methodLink "BonnetValley" (296 : Nat) ({ cls := "BonnetValley$Land", name := "eighthsBetween", desc := "(II)I" } : Jvm.MethodName)) ∈ kALL := kin_4 (n := 80) ⟨rfl, by decide +kernel⟩
theorem kw_205 : (Jvm.Cond.static ({ cls := "BonnetValley$Land", name := "eighthsBetween", desc := "(II)I" } : Jvm.MethodName)) ∈ kALL := kin_4 (n := 16) ⟨rfl, by decide +kernel⟩
theorem kw_206 : (Jvm.Cond.methodLink "BonnetValley" (299 : Nat) ({ cls := "BonnetValley$Land", name := "beside", desc := "(II)I" } : Jvm.MethodName)) ∈ kALL := kin_4 (n := 89) ⟨rfl, by decide +kernel⟩
theorem kw_207 : (Jvm.Cond.instanceMethod ({ cls := "BonnetValley$Land", name := "beside", desc := "(II)I" } : Jvm.MethodName)) ∈ kALL := kin_4 (n := 90) ⟨rfl, by decide +kernel⟩
theorem kw_208 : (Jvm.Cond.selects "BonnetValley$Land" ({ cls := "BonnetValley$Land", name := "beside", desc := "(II)I" } : Jvm.MethodName) ({ cls := "BonnetValley$Land", name := "beside", desc := "(II)I" } : Jvm.MethodName)) ∈ kALL := kin_4 (n := 91) ⟨rfl, by decide +kernel⟩
theorem kw_209 : (Jvm.Cond.methodLink "BonnetValley" (302 : Nat) ({ cls := "BonnetValley$Land", name := "holds", desc := "(I)Z" } : Jvm.MethodName)) ∈ kALL := kin_4 (n := 119) ⟨rfl, by decide +kernel⟩
theorem kw_210 : (Jvm.Cond.instanceMethod ({ cls := "BonnetValley$Land", name := "holds", desc := "(I)Z" } : Jvm.MethodName)) ∈ kALL := kin_3 (n := 215) ⟨rfl, by decide +kernel⟩
theorem kw_211 : (Jvm.Cond.selects "BonnetValley$Land" ({ cls := "BonnetValley$Land", name := "holds", desc := "(I)Z" } : Jvm.MethodName) ({ cls := "BonnetValley$Land", name := "holds", desc := "(I)Z" } : Jvm.MethodName)) ∈ kALL := kin_3 (n := 216) ⟨rfl, by decide +kernel⟩
theorem kw_212 : (Jvm.Cond.methodLink "BonnetValley" (305 : Nat) ({ cls := "java/lang/Long", name := "bitCount", desc := "(J)I" } : Jvm.MethodName)) ∈ kALL := kin_4 (n := 182) ⟨rfl, by decide +kernel⟩
theorem kw_213 : (Jvm.Cond.static ({ cls := "java/lang/Long", name := "bitCount", desc := "(J)I" } : Jvm.MethodName)) ∈ kALL := kin_4 (n := 183) ⟨rfl, by decide +kernel⟩
theorem kw_214 : (Jvm.Cond.methodLink "BonnetValley" (310 : Nat) ({ cls := "BonnetValley$State", name := "peopleOn", desc := "(J)I" } : Jvm.MethodName)) ∈ kALL := kin_4 (n := 188) ⟨rfl, by decide +kernel⟩
theorem kw_215 : (Jvm.Cond.instanceMethod ({ cls := "BonnetValley$State", name := "peopleOn", desc := "(J)I" } : Jvm.MethodName)) ∈ kALL := kin_3 (n := 223) ⟨rfl, by decide +kernel⟩
theorem kw_216 : (Jvm.Cond.selects "BonnetValley$State" ({ cls := "BonnetValley$State", name := "peopleOn", desc := "(J)I" } : Jvm.MethodName) ({ cls := "BonnetValley$State", name := "peopleOn", desc := "(J)I" } : Jvm.MethodName)) ∈ kALL := kin_3 (n := 224) ⟨rfl, by decide +kernel⟩
theorem kw_217 : (Jvm.Cond.methodLink "BonnetValley" (313 : Nat) ({ cls := "java/lang/Integer", name := "bitCount", desc := "(I)I" } : Jvm.MethodName)) ∈ kALL := kin_4 (n := 201) ⟨rfl, by decide +kernel⟩
theorem kw_218 : (Jvm.Cond.static ({ cls := "java/lang/Integer", name := "bitCount", desc := "(I)I" } : Jvm.MethodName)) ∈ kALL := kin_3 (n := 205) ⟨rfl, by decide +kernel⟩
theorem kw_219 : (Jvm.Cond.methodLink "BonnetValley" (317 : Nat) ({ cls := "BonnetValley$Land", name := "free", desc := "()J" } : Jvm.MethodName)) ∈ kALL := kin_4 (n := 207) ⟨rfl, by decide +kernel⟩
theorem kw_220 : (Jvm.Cond.instanceMethod ({ cls := "BonnetValley$Land", name := "free", desc := "()J" } : Jvm.MethodName)) ∈ kALL := kin_4 (n := 208) ⟨rfl, by decide +kernel⟩
theorem kw_221 : (Jvm.Cond.selects "BonnetValley$Land" ({ cls := "BonnetValley$Land", name := "free", desc := "()J" } : Jvm.MethodName) ({ cls := "BonnetValley$Land", name := "free", desc := "()J" } : Jvm.MethodName)) ∈ kALL := kin_4 (n := 209) ⟨rfl, by decide +kernel⟩
theorem kw_222 : (Jvm.Cond.methodLink "BonnetValley" (321 : Nat) ({ cls := "BonnetValley$Sight", name := "meet", desc := "(LBonnetValley$State;II)Z" } : Jvm.MethodName)) ∈ kALL := kin_4 (n := 216) ⟨rfl, by decide +kernel⟩
theorem kw_223 : (Jvm.Cond.instanceMethod ({ cls := "BonnetValley$Sight", name := "meet", desc := "(LBonnetValley$State;II)Z" } : Jvm.MethodName)) ∈ kALL := kin_4 (n := 31) ⟨rfl, by decide +kernel⟩
theorem kw_224 : (Jvm.Cond.selects "BonnetValley$Sight" ({ cls := "BonnetValley$Sight", name := "meet", desc := "(LBonnetValley$State;II)Z" } : Jvm.MethodName) ({ cls := "BonnetValley$Sight", name := "meet", desc := "(LBonnetValley$State;II)Z" } : Jvm.MethodName)) ∈ kALL := kin_4 (n := 32) ⟨rfl, by decide +kernel⟩
theorem kw_225 : (Jvm.Cond.methodLink "BonnetValley" (325 : Nat) ({ cls := "BonnetValley$Sight", name := "tell", desc := "(LBonnetValley$State;II)Z" } : Jvm.MethodName)) ∈ kALL := kin_4 (n := 217) ⟨rfl, by decide +kernel⟩
theorem kw_226 : (Jvm.Cond.instanceMethod ({ cls := "BonnetValley$Sight", name := "tell", desc := "(LBonnetValley$State;II)Z" } : Jvm.MethodName)) ∈ kALL := kin_4 (n := 27) ⟨rfl, by decide +kernel⟩
theorem kw_227 : (Jvm.Cond.selects "BonnetValley$Sight" ({ cls := "BonnetValley$Sight", name := "tell", desc := "(LBonnetValley$State;II)Z" } : Jvm.MethodName) ({ cls := "BonnetValley$Sight", name := "tell", desc := "(LBonnetValley$State;II)Z" } : Jvm.MethodName)) ∈ kALL := kin_4 (n := 28) ⟨rfl, by decide +kernel⟩
theorem kw_228 : (Jvm.Cond.methodLink "BonnetValley" (328 : Nat) ({ cls := "BonnetValley$Sight", name := "view", desc := "(I)J" } : Jvm.MethodName)) ∈ kALL := kin_4 (n := 222) ⟨rfl, by decide +kernel⟩
theorem kw_229 : (Jvm.Cond.instanceMethod ({ cls := "BonnetValley$Sight", name := "view", desc := "(I)J" } : Jvm.MethodName)) ∈ kALL := kin_4 (n := 223) ⟨rfl, by decide +kernel⟩
theorem kw_230 : (Jvm.Cond.selects "BonnetValley$Sight" ({ cls := "BonnetValley$Sight", name := "view", desc := "(I)J" } : Jvm.MethodName) ({ cls := "BonnetValley$Sight", name := "view", desc := "(I)J" } : Jvm.MethodName)) ∈ kALL := kin_4 (n := 224) ⟨rfl, by decide +kernel⟩
theorem kw_231 : (Jvm.Cond.methodLink "BonnetValley" (332 : Nat) ({ cls := "BonnetValley$Sight", name := "viewTogether", desc := "(LBonnetValley$State;I)J" } : Jvm.MethodName)) ∈ kALL := kin_4 (n := 234) ⟨rfl, by decide +kernel⟩
theorem kw_232 : (Jvm.Cond.instanceMethod ({ cls := "BonnetValley$Sight", name := "viewTogether", desc := "(LBonnetValley$State;I)J" } : Jvm.MethodName)) ∈ kALL := kin_4 (n := 235) ⟨rfl, by decide +kernel⟩
theorem kw_233 : (Jvm.Cond.selects "BonnetValley$Sight" ({ cls := "BonnetValley$Sight", name := "viewTogether", desc := "(LBonnetValley$State;I)J" } : Jvm.MethodName) ({ cls := "BonnetValley$Sight", name := "viewTogether", desc := "(LBonnetValley$State;I)J" } : Jvm.MethodName)) ∈ kALL := kin_4 (n := 236) ⟨rfl, by decide +kernel⟩
theorem kw_234 : (Jvm.Cond.methodLink "BonnetValley" (335 : Nat) ({ cls := "BonnetValley$State", name := "firstWhoLacks", desc := "()I" } : Jvm.MethodName)) ∈ kALL := kin_5 (n := 10) ⟨rfl, by decide +kernel⟩
theorem kw_235 : (Jvm.Cond.instanceMethod ({ cls := "BonnetValley$State", name := "firstWhoLacks", desc := "()I" } : Jvm.MethodName)) ∈ kALL := kin_5 (n := 11) ⟨rfl, by decide +kernel⟩
theorem kw_236 : (Jvm.Cond.selects "BonnetValley$State" ({ cls := "BonnetValley$State", name := "firstWhoLacks", desc := "()I" } : Jvm.MethodName) ({ cls := "BonnetValley$State", name := "firstWhoLacks", desc := "()I" } : Jvm.MethodName)) ∈ kALL := kin_5 (n := 12) ⟨rfl, by decide +kernel⟩
theorem kw_237 : (Jvm.Cond.methodLink "BonnetValley" (338 : Nat) ({ cls := "BonnetValley$Sight", name := "toldBy", desc := "(LBonnetValley$State;I)I" } : Jvm.MethodName)) ∈ kALL := kin_5 (n := 22) ⟨rfl, by decide +kernel⟩
theorem kw_238 : (Jvm.Cond.instanceMethod ({ cls := "BonnetValley$Sight", name := "toldBy", desc := "(LBonnetValley$State;I)I" } : Jvm.MethodName)) ∈ kALL := kin_5 (n := 23) ⟨rfl, by decide +kernel⟩
theorem kw_239 : (Jvm.Cond.selects "BonnetValley$Sight" ({ cls := "BonnetValley$Sight", name := "toldBy", desc := "(LBonnetValley$State;I)I" } : Jvm.MethodName) ({ cls := "BonnetValley$Sight", name := "toldBy", desc := "(LBonnetValley$State;I)I" } : Jvm.MethodName)) ∈ kALL := kin_5 (n := 24) ⟨rfl, by decide +kernel⟩
theorem kw_240 : (Jvm.Cond.methodLink "BonnetValley" (341 : Nat) ({ cls := "BonnetValley", name := "viewFacing", desc := "(III)J" } : Jvm.MethodName)) ∈ kALL := kin_5 (n := 34) ⟨rfl, by decide +kernel⟩
theorem kw_241 : (Jvm.Cond.instanceMethod ({ cls := "BonnetValley", name := "viewFacing", desc := "(III)J" } : Jvm.MethodName)) ∈ kALL := kin_5 (n := 36) ⟨rfl, by decide +kernel⟩
theorem kw_242 : (Jvm.Cond.selects "BonnetValley" ({ cls := "BonnetValley", name := "viewFacing", desc := "(III)J" } : Jvm.MethodName) ({ cls := "BonnetValley", name := "viewFacing", desc := "(III)J" } : Jvm.MethodName)) ∈ kALL := kin_0 (n := 25) (by decide +kernel)
theorem kw_243 : (Jvm.Cond.methodLink "BonnetValley" (345 : Nat) ({ cls := "BonnetValley", name := "hasField", desc := "(JI)Z" } : Jvm.MethodName)) ∈ kALL := kin_5 (n := 39) ⟨rfl, by decide +kernel⟩
theorem kw_244 : (Jvm.Cond.static ({ cls := "BonnetValley", name := "hasField", desc := "(JI)Z" } : Jvm.MethodName)) ∈ kALL := kin_3 (n := 82) ⟨rfl, by decide +kernel⟩
theorem kw_245 : (Jvm.Cond.methodLink "BonnetValley" (349 : Nat) ({ cls := "BonnetValley$Turning", name := "set", desc := "(III)V" } : Jvm.MethodName)) ∈ kALL := kin_5 (n := 44) ⟨rfl, by decide +kernel⟩
theorem kw_246 : (Jvm.Cond.instanceMethod ({ cls := "BonnetValley$Turning", name := "set", desc := "(III)V" } : Jvm.MethodName)) ∈ kALL := kin_5 (n := 45) ⟨rfl, by decide +kernel⟩
theorem kw_247 : (Jvm.Cond.selects "BonnetValley$Turning" ({ cls := "BonnetValley$Turning", name := "set", desc := "(III)V" } : Jvm.MethodName) ({ cls := "BonnetValley$Turning", name := "set", desc := "(III)V" } : Jvm.MethodName)) ∈ kALL := kin_5 (n := 46) ⟨rfl, by decide +kernel⟩
theorem kw_248 : (Jvm.Cond.methodLink "BonnetValley" (352 : Nat) ({ cls := "BonnetValley$Turning", name := "fewest", desc := "(LBonnetValley$State;)I" } : Jvm.MethodName)) ∈ kALL := kin_5 (n := 48) ⟨rfl, by decide +kernel⟩
theorem kw_249 : (Jvm.Cond.instanceMethod ({ cls := "BonnetValley$Turning", name := "fewest", desc := "(LBonnetValley$State;)I" } : Jvm.MethodName)) ∈ kALL := kin_5 (n := 49) ⟨rfl, by decide +kernel⟩
theorem kw_250 : (Jvm.Cond.selects "BonnetValley$Turning" ({ cls := "BonnetValley$Turning", name := "fewest", desc := "(LBonnetValley$State;)I" } : Jvm.MethodName) ({ cls := "BonnetValley$Turning", name := "fewest", desc := "(LBonnetValley$State;)I" } : Jvm.MethodName)) ∈ kALL := kin_5 (n := 50) ⟨rfl, by decide +kernel⟩
theorem kw_251 : (Jvm.Cond.methodLink "BonnetValley" (356 : Nat) ({ cls := "BonnetValley$Turning", name := "tellLeast", desc := "(LBonnetValley$State;LBonnetValley$Numbers;)V" } : Jvm.MethodName)) ∈ kALL := kin_5 (n := 62) ⟨rfl, by decide +kernel⟩
theorem kw_252 : (Jvm.Cond.instanceMethod ({ cls := "BonnetValley$Turning", name := "tellLeast", desc := "(LBonnetValley$State;LBonnetValley$Numbers;)V" } : Jvm.MethodName)) ∈ kALL := kin_5 (n := 63) ⟨rfl, by decide +kernel⟩
theorem kw_253 : (Jvm.Cond.selects "BonnetValley$Turning" ({ cls := "BonnetValley$Turning", name := "tellLeast", desc := "(LBonnetValley$State;LBonnetValley$Numbers;)V" } : Jvm.MethodName) ({ cls := "BonnetValley$Turning", name := "tellLeast", desc := "(LBonnetValley$State;LBonnetValley$Numbers;)V" } : Jvm.MethodName)) ∈ kALL := kin_5 (n := 64) ⟨rfl, by decide +kernel⟩
theorem kw_254 : (Jvm.Cond.methodLink "BonnetValley" (360 : Nat) ({ cls := "BonnetValley$Sight", name := "viewUnder", desc := "(LBonnetValley$State;II)J" } : Jvm.MethodName)) ∈ kALL := kin_5 (n := 75) ⟨rfl, by decide +kernel⟩
theorem kw_255 : (Jvm.Cond.instanceMethod ({ cls := "BonnetValley$Sight", name := "viewUnder", desc := "(LBonnetValley$State;II)J" } : Jvm.MethodName)) ∈ kALL := kin_4 (n := 179) ⟨rfl, by decide +kernel⟩
theorem kw_256 : (Jvm.Cond.selects "BonnetValley$Sight" ({ cls := "BonnetValley$Sight", name := "viewUnder", desc := "(LBonnetValley$State;II)J" } : Jvm.MethodName) ({ cls := "BonnetValley$Sight", name := "viewUnder", desc := "(LBonnetValley$State;II)J" } : Jvm.MethodName)) ∈ kALL := kin_4 (n := 180) ⟨rfl, by decide +kernel⟩
theorem kw_257 : (Jvm.Cond.methodLink "BonnetValley" (364 : Nat) ({ cls := "BonnetValley$Sight", name := "reachUnder", desc := "(LBonnetValley$State;II)I" } : Jvm.MethodName)) ∈ kALL := kin_5 (n := 76) ⟨rfl, by decide +kernel⟩
theorem kw_258 : (Jvm.Cond.instanceMethod ({ cls := "BonnetValley$Sight", name := "reachUnder", desc := "(LBonnetValley$State;II)I" } : Jvm.MethodName)) ∈ kALL := kin_5 (n := 77) ⟨rfl, by decide +kernel⟩
theorem kw_259 : (Jvm.Cond.selects "BonnetValley$Sight" ({ cls := "BonnetValley$Sight", name := "reachUnder", desc := "(LBonnetValley$State;II)I" } : Jvm.MethodName) ({ cls := "BonnetValley$Sight", name := "reachUnder", desc := "(LBonnetValley$State;II)I" } : Jvm.MethodName)) ∈ kALL := kin_5 (n := 78) ⟨rfl, by decide +kernel⟩
theorem kw_260 : (Jvm.Cond.methodLink "BonnetValley" (368 : Nat) ({ cls := "BonnetValley$Land", name := "view", desc := "(IIII)J" } : Jvm.MethodName)) ∈ kALL := kin_5 (n := 38) ⟨rfl, by decide +kernel⟩
theorem kw_261 : (Jvm.Cond.instanceMethod ({ cls := "BonnetValley$Land", name := "view", desc := "(IIII)J" } : Jvm.MethodName)) ∈ kALL := kin_3 (n := 236) ⟨rfl, by decide +kernel⟩
theorem kw_262 : (Jvm.Cond.selects "BonnetValley$Land" ({ cls := "BonnetValley$Land", name := "view", desc := "(IIII)J" } : Jvm.MethodName) ({ cls := "BonnetValley$Land", name := "view", desc := "(IIII)J" } : Jvm.MethodName)) ∈ kALL := kin_3 (n := 237) ⟨rfl, by decide +kernel⟩
theorem kw_263 : (Jvm.Cond.methodLink "BonnetValley" (371 : Nat) ({ cls := "BonnetValley$Route", name := "find", desc := "(LBonnetValley$Land;IIJ)I" } : Jvm.MethodName)) ∈ kALL := kin_5 (n := 84) ⟨rfl, by decide +kernel⟩
theorem kw_264 : (Jvm.Cond.instanceMethod ({ cls := "BonnetValley$Route", name := "find", desc := "(LBonnetValley$Land;IIJ)I" } : Jvm.MethodName)) ∈ kALL := kin_5 (n := 85) ⟨rfl, by decide +kernel⟩
theorem kw_265 : (Jvm.Cond.selects "BonnetValley$Route" ({ cls := "BonnetValley$Route", name := "find", desc := "(LBonnetValley$Land;IIJ)I" } : Jvm.MethodName) ({ cls := "BonnetValley$Route", name := "find", desc := "(LBonnetValley$Land;IIJ)I" } : Jvm.MethodName)) ∈ kALL := kin_5 (n := 86) ⟨rfl, by decide +kernel⟩
theorem kw_266 : (Jvm.Cond.methodLink "BonnetValley" (375 : Nat) ({ cls := "BonnetValley$Route", name := "field", desc := "(I)I" } : Jvm.MethodName)) ∈ kALL := kin_5 (n := 101) ⟨rfl, by decide +kernel⟩
theorem kw_267 : (Jvm.Cond.instanceMethod ({ cls := "BonnetValley$Route", name := "field", desc := "(I)I" } : Jvm.MethodName)) ∈ kALL := kin_5 (n := 102) ⟨rfl, by decide +kernel⟩
theorem kw_268 : (Jvm.Cond.selects "BonnetValley$Route" ({ cls := "BonnetValley$Route", name := "field", desc := "(I)I" } : Jvm.MethodName) ({ cls := "BonnetValley$Route", name := "field", desc := "(I)I" } : Jvm.MethodName)) ∈ kALL := kin_5 (n := 103) ⟨rfl, by decide +kernel⟩
theorem kw_269 : (Jvm.Cond.methodLink "BonnetValley" (377 : Nat) ({ cls := "BonnetValley$Games", name := "startStorm", desc := "()V" } : Jvm.MethodName)) ∈ kALL := kin_5 (n := 129) ⟨rfl, by decide +kernel⟩
theorem kw_270 : (Jvm.Cond.instanceMethod ({ cls := "BonnetValley$Games", name := "startStorm", desc := "()V" } : Jvm.MethodName)) ∈ kALL := kin_5 (n := 130) ⟨rfl, by decide +kernel⟩
theorem kw_271 : (Jvm.Cond.selects "BonnetValley$Games" ({ cls := "BonnetValley$Games", name := "startStorm", desc := "()V" } : Jvm.MethodName) ({ cls := "BonnetValley$Games", name := "startStorm", desc := "()V" } : Jvm.MethodName)) ∈ kALL := kin_5 (n := 131) ⟨rfl, by decide +kernel⟩
theorem kw_272 : (Jvm.Cond.methodLink "BonnetValley" (380 : Nat) ({ cls := "BonnetValley$Games", name := "addLooker", desc := "(I)V" } : Jvm.MethodName)) ∈ kALL := kin_5 (n := 136) ⟨rfl, by decide +kernel⟩
theorem kw_273 : (Jvm.Cond.instanceMethod ({ cls := "BonnetValley$Games", name := "addLooker", desc := "(I)V" } : Jvm.MethodName)) ∈ kALL := kin_5 (n := 137) ⟨rfl, by decide +kernel⟩
theorem kw_274 : (Jvm.Cond.selects "BonnetValley$Games" ({ cls := "BonnetValley$Games", name := "addLooker", desc := "(I)V" } : Jvm.MethodName) ({ cls := "BonnetValley$Games", name := "addLooker", desc := "(I)V" } : Jvm.MethodName)) ∈ kALL := kin_5 (n := 138) ⟨rfl, by decide +kernel⟩
theorem kw_275 : (Jvm.Cond.methodLink "BonnetValley" (383 : Nat) ({ cls := "BonnetValley$Games", name := "tellChance", desc := "(ILBonnetValley$Numbers;)V" } : Jvm.MethodName)) ∈ kALL := kin_5 (n := 141) ⟨rfl, by decide +kernel⟩
theorem kw_276 : (Jvm.Cond.instanceMethod ({ cls := "BonnetValley$Games", name := "tellChance", desc := "(ILBonnetValley$Numbers;)V" } : Jvm.MethodName)) ∈ kALL := kin_5 (n := 142) ⟨rfl, by decide +kernel⟩
theorem kw_277 : (Jvm.Cond.selects "BonnetValley$Games" ({ cls := "BonnetValley$Games", name := "tellChance", desc := "(ILBonnetValley$Numbers;)V" } : Jvm.MethodName) ({ cls := "BonnetValley$Games", name := "tellChance", desc := "(ILBonnetValley$Numbers;)V" } : Jvm.MethodName)) ∈ kALL := kin_5 (n := 143) ⟨rfl, by decide +kernel⟩
theorem kw_278 : (Jvm.Cond.methodLink "BonnetValley" (387 : Nat) ({ cls := "BonnetValley$Games", name := "winningTurn", desc := "(II)I" } : Jvm.MethodName)) ∈ kALL := kin_5 (n := 154) ⟨rfl, by decide +kernel⟩
theorem kw_279 : (Jvm.Cond.instanceMethod ({ cls := "BonnetValley$Games", name := "winningTurn", desc := "(II)I" } : Jvm.MethodName)) ∈ kALL := kin_5 (n := 155) ⟨rfl, by decide +kernel⟩
theorem kw_280 : (Jvm.Cond.selects "BonnetValley$Games" ({ cls := "BonnetValley$Games", name := "winningTurn", desc := "(II)I" } : Jvm.MethodName) ({ cls := "BonnetValley$Games", name := "winningTurn", desc := "(II)I" } : Jvm.MethodName)) ∈ kALL := kin_5 (n := 156) ⟨rfl, by decide +kernel⟩
theorem kw_281 : (Jvm.Cond.methodLink "BonnetValley" (390 : Nat) ({ cls := "BonnetValley$Sight", name := "lookBy", desc := "(LBonnetValley$Formula;LBonnetValley$State;)J" } : Jvm.MethodName)) ∈ kALL := kin_5 (n := 162) ⟨rfl, by decide +kernel⟩
theorem kw_282 : (Jvm.Cond.instanceMethod ({ cls := "BonnetValley$Sight", name := "lookBy", desc := "(LBonnetValley$Formula;LBonnetValley$State;)J" } : Jvm.MethodName)) ∈ kALL := kin_3 (n := 193) ⟨rfl, by decide +kernel⟩
theorem kw_283 : (Jvm.Cond.selects "BonnetValley$Sight" ({ cls := "BonnetValley$Sight", name := "lookBy", desc := "(LBonnetValley$Formula;LBonnetValley$State;)J" } : Jvm.MethodName) ({ cls := "BonnetValley$Sight", name := "lookBy", desc := "(LBonnetValley$Formula;LBonnetValley$State;)J" } : Jvm.MethodName)) ∈ kALL := kin_3 (n := 194) ⟨rfl, by decide +kernel⟩
theorem kw_284 : (Jvm.Cond.methodLink "BonnetValley" (394 : Nat) ({ cls := "BonnetValley$Games", name := "restingPairs", desc := "(ILBonnetValley$Numbers;)I" } : Jvm.MethodName)) ∈ kALL := kin_5 (n := 167) ⟨rfl, by decide +kernel⟩
theorem kw_285 : (Jvm.Cond.instanceMethod ({ cls := "BonnetValley$Games", name := "restingPairs", desc := "(ILBonnetValley$Numbers;)I" } : Jvm.MethodName)) ∈ kALL := kin_5 (n := 168) ⟨rfl, by decide +kernel⟩
theorem kw_286 : (Jvm.Cond.selects "BonnetValley$Games" ({ cls := "BonnetValley$Games", name := "restingPairs", desc := "(ILBonnetValley$Numbers;)I" } : Jvm.MethodName) ({ cls := "BonnetValley$Games", name := "restingPairs", desc := "(ILBonnetValley$Numbers;)I" } : Jvm.MethodName)) ∈ kALL := kin_5 (n := 169) ⟨rfl, by decide +kernel⟩
theorem kw_287 : (Jvm.Cond.methodLink "BonnetValley" (398 : Nat) ({ cls := "BonnetValley$Games", name := "startDraws", desc := "(I)V" } : Jvm.MethodName)) ∈ kALL := kin_5 (n := 182) ⟨rfl, by decide +kernel⟩
theorem kw_288 : (Jvm.Cond.instanceMethod ({ cls := "BonnetValley$Games", name := "startDraws", desc := "(I)V" } : Jvm.MethodName)) ∈ kALL := kin_5 (n := 183) ⟨rfl, by decide +kernel⟩
theorem kw_289 : (Jvm.Cond.selects "BonnetValley$Games" ({ cls := "BonnetValley$Games", name := "startDraws", desc := "(I)V" } : Jvm.MethodName) ({ cls := "BonnetValley$Games", name := "startDraws", desc := "(I)V" } : Jvm.MethodName)) ∈ kALL := kin_5 (n := 184) ⟨rfl, by decide +kernel⟩
theorem kw_290 : (Jvm.Cond.methodLink "BonnetValley" (401 : Nat) ({ cls := "BonnetValley", name := "liveYear", desc := "(LBonnetValley$State;)V" } : Jvm.MethodName)) ∈ kALL := kin_5 (n := 186) ⟨rfl, by decide +kernel⟩
theorem kw_291 : (Jvm.Cond.instanceMethod ({ cls := "BonnetValley", name := "liveYear", desc := "(LBonnetValley$State;)V" } : Jvm.MethodName)) ∈ kALL := kin_5 (n := 188) ⟨rfl, by decide +kernel⟩
theorem kw_292 : (Jvm.Cond.selects "BonnetValley" ({ cls := "BonnetValley", name := "liveYear", desc := "(LBonnetValley$State;)V" } : Jvm.MethodName) ({ cls := "BonnetValley", name := "liveYear", desc := "(LBonnetValley$State;)V" } : Jvm.MethodName)) ∈ kALL := kin_0 (n := 30) (by decide +kernel)
theorem kw_293 : (Jvm.Cond.methodLink "BonnetValley" (404 : Nat) ({ cls := "BonnetValley$Games", name := "draw", desc := "(I)I" } : Jvm.MethodName)) ∈ kALL := kin_5 (n := 190) ⟨rfl, by decide +kernel⟩
theorem kw_294 : (Jvm.Cond.instanceMethod ({ cls := "BonnetValley$Games", name := "draw", desc := "(I)I" } : Jvm.MethodName)) ∈ kALL := kin_5 (n := 191) ⟨rfl, by decide +kernel⟩
theorem kw_295 : (Jvm.Cond.selects "BonnetValley$Games" ({ cls := "BonnetValley$Games", name := "draw", desc := "(I)I" } : Jvm.MethodName) ({ cls := "BonnetValley$Games", name := "draw", desc := "(I)I" } : Jvm.MethodName)) ∈ kALL := kin_5 (n := 192) ⟨rfl, by decide +kernel⟩
theorem kw_296 : (Jvm.Cond.methodLink "BonnetValley" (407 : Nat) ({ cls := "BonnetValley$History", name := "hold", desc := "(ILBonnetValley$State;)Z" } : Jvm.MethodName)) ∈ kALL := kin_5 (n := 199) ⟨rfl, by decide +kernel⟩
theorem kw_297 : (Jvm.Cond.instanceMethod ({ cls := "BonnetValley$History", name := "hold", desc := "(ILBonnetValley$State;)Z" } : Jvm.MethodName)) ∈ kALL := kin_5 (n := 200) ⟨rfl, by decide +kernel⟩
theorem kw_298 : (Jvm.Cond.selects "BonnetValley$History" ({ cls := "BonnetValley$History", name := "hold", desc := "(ILBonnetValley$State;)Z" } : Jvm.MethodName) ({ cls := "BonnetValley$History", name := "hold", desc := "(ILBonnetValley$State;)Z" } : Jvm.MethodName)) ∈ kALL := kin_5 (n := 201) ⟨rfl, by decide +kernel⟩
theorem kw_299 : (Jvm.Cond.methodLink "BonnetValley" (411 : Nat) ({ cls := "BonnetValley$History", name := "bring", desc := "(ILBonnetValley$State;)Z" } : Jvm.MethodName)) ∈ kALL := kin_5 (n := 207) ⟨rfl, by decide +kernel⟩
theorem kw_300 : (Jvm.Cond.instanceMethod ({ cls := "BonnetValley$History", name := "bring", desc := "(ILBonnetValley$State;)Z" } : Jvm.MethodName)) ∈ kALL := kin_5 (n := 208) ⟨rfl, by decide +kernel⟩
theorem kw_301 : (Jvm.Cond.selects "BonnetValley$History" ({ cls := "BonnetValley$History", name := "bring", desc := "(ILBonnetValley$State;)Z" } : Jvm.MethodName) ({ cls := "BonnetValley$History", name := "bring", desc := "(ILBonnetValley$State;)Z" } : Jvm.MethodName)) ∈ kALL := kin_5 (n := 209) ⟨rfl, by decide +kernel⟩
theorem kw_302 : (Jvm.Cond.methodLink "BonnetValley" (414 : Nat) ({ cls := "BonnetValley$Land", name := "rows", desc := "()I" } : Jvm.MethodName)) ∈ kALL := kin_5 (n := 215) ⟨rfl, by decide +kernel⟩
theorem kw_303 : (Jvm.Cond.instanceMethod ({ cls := "BonnetValley$Land", name := "rows", desc := "()I" } : Jvm.MethodName)) ∈ kALL := kin_3 (n := 60) ⟨rfl, by decide +kernel⟩
theorem kw_304 : (Jvm.Cond.selects "BonnetValley$Land" ({ cls := "BonnetValley$Land", name := "rows", desc := "()I" } : Jvm.MethodName) ({ cls := "BonnetValley$Land", name := "rows", desc := "()I" } : Jvm.MethodName)) ∈ kALL := kin_3 (n := 61) ⟨rfl, by decide +kernel⟩
theorem kw_305 : (Jvm.Cond.methodLink "BonnetValley" (417 : Nat) ({ cls := "BonnetValley$Land", name := "columns", desc := "()I" } : Jvm.MethodName)) ∈ kALL := kin_5 (n := 216) ⟨rfl, by decide +kernel⟩
theorem kw_306 : (Jvm.Cond.instanceMethod ({ cls := "BonnetValley$Land", name := "columns", desc := "()I" } : Jvm.MethodName)) ∈ kALL := kin_3 (n := 64) ⟨rfl, by decide +kernel⟩
theorem kw_307 : (Jvm.Cond.selects "BonnetValley$Land" ({ cls := "BonnetValley$Land", name := "columns", desc := "()I" } : Jvm.MethodName) ({ cls := "BonnetValley$Land", name := "columns", desc := "()I" } : Jvm.MethodName)) ∈ kALL := kin_3 (n := 65) ⟨rfl, by decide +kernel⟩
theorem kw_308 : (Jvm.Cond.methodLink "BonnetValley" (420 : Nat) ({ cls := "BonnetValley$Sight", name := "lightAt", desc := "(I)I" } : Jvm.MethodName)) ∈ kALL := kin_5 (n := 217) ⟨rfl, by decide +kernel⟩
theorem kw_309 : (Jvm.Cond.instanceMethod ({ cls := "BonnetValley$Sight", name := "lightAt", desc := "(I)I" } : Jvm.MethodName)) ∈ kALL := kin_3 (n := 201) ⟨rfl, by decide +kernel⟩
theorem kw_310 : (Jvm.Cond.selects "BonnetValley$Sight" ({ cls := "BonnetValley$Sight", name := "lightAt", desc := "(I)I" } : Jvm.MethodName) ({ cls := "BonnetValley$Sight", name := "lightAt", desc := "(I)I" } : Jvm.MethodName)) ∈ kALL := kin_3 (n := 202) ⟨rfl, by decide +kernel⟩
theorem kw_311 : (Jvm.Cond.methodLink "BonnetValley" (423 : Nat) ({ cls := "BonnetValley$Numbers", name := "size", desc := "()I" } : Jvm.MethodName)) ∈ kALL := kin_5 (n := 218) ⟨rfl, by decide +kernel⟩
theorem kw_312 : (Jvm.Cond.instanceMethod ({ cls := "BonnetValley$Numbers", name := "size", desc := "()I" } : Jvm.MethodName)) ∈ kALL := kin_5 (n := 219) ⟨rfl, by decide +kernel⟩
theorem kw_313 : (Jvm.Cond.selects "BonnetValley$Numbers" ({ cls := "BonnetValley$Numbers", name := "size", desc := "()I" } : Jvm.MethodName) ({ cls := "BonnetValley$Numbers", name := "size", desc := "()I" } : Jvm.MethodName)) ∈ kALL := kin_5 (n := 220) ⟨rfl, by decide +kernel⟩
theorem kw_314 : (Jvm.Cond.methodLink "BonnetValley" (424 : Nat) ({ cls := "BonnetValley$Numbers", name := "at", desc := "(I)J" } : Jvm.MethodName)) ∈ kALL := kin_6 (n := 65) ⟨rfl, by decide +kernel⟩
theorem kw_315 : (Jvm.Cond.instanceMethod ({ cls := "BonnetValley$Numbers", name := "at", desc := "(I)J" } : Jvm.MethodName)) ∈ kALL := kin_6 (n := 66) ⟨rfl, by decide +kernel⟩
theorem kw_316 : (Jvm.Cond.selects "BonnetValley$Numbers" ({ cls := "BonnetValley$Numbers", name := "at", desc := "(I)J" } : Jvm.MethodName) ({ cls := "BonnetValley$Numbers", name := "at", desc := "(I)J" } : Jvm.MethodName)) ∈ kALL := kin_6 (n := 67) ⟨rfl, by decide +kernel⟩
theorem kw_317 : (Jvm.Cond.methodLink "BonnetValley$Formula" (1 : Nat) ({ cls := "java/lang/Object", name := "<init>", desc := "()V" } : Jvm.MethodName)) ∈ kALL := kin_1 (n := 114) ⟨rfl, by decide +kernel⟩
theorem kw_318 : (Jvm.Cond.fieldLink "BonnetValley$Formula" (9 : Nat) "BonnetValley$Formula" "code" "[I") ∈ kALL := kin_1 (n := 214) ⟨rfl, by decide +kernel⟩
theorem kw_319 : (Jvm.Cond.fieldLink "BonnetValley$Formula" (13 : Nat) "BonnetValley$Formula" "waiting" "[I") ∈ kALL := kin_1 (n := 216) ⟨rfl, by decide +kernel⟩
theorem kw_320 : (Jvm.Cond.fieldLink "BonnetValley$Formula" (16 : Nat) "BonnetValley$Formula" "compared" "[Z") ∈ kALL := kin_1 (n := 218) ⟨rfl, by decide +kernel⟩
theorem kw_321 : (Jvm.Cond.fieldLink "BonnetValley$Formula" (20 : Nat) "BonnetValley$Formula" "stack" "[I") ∈ kALL := kin_1 (n := 222) ⟨rfl, by decide +kernel⟩
theorem kw_322 : (Jvm.Cond.methodLink "BonnetValley$Formula" (23 : Nat) ({ cls := "BonnetValley$Formula", name := "start", desc := "()V" } : Jvm.MethodName)) ∈ kALL := kin_1 (n := 115) ⟨rfl, by decide +kernel⟩
theorem kw_323 : (Jvm.Cond.instanceMethod ({ cls := "BonnetValley$Formula", name := "start", desc := "()V" } : Jvm.MethodName)) ∈ kALL := kin_1 (n := 117) ⟨rfl, by decide +kernel⟩
theorem kw_324 : (Jvm.Cond.selects "BonnetValley$Formula" ({ cls := "BonnetValley$Formula", name := "start", desc := "()V" } : Jvm.MethodName) ({ cls := "BonnetValley$Formula", name := "start", desc := "()V" } : Jvm.MethodName)) ∈ kALL := kin_0 (n := 1) (by decide +kernel)
theorem kw_325 : (Jvm.Cond.methodLink "BonnetValley$Formula" (26 : Nat) ({ cls := "BonnetValley$Formula", name := "takeDefault", desc := "()V" } : Jvm.MethodName)) ∈ kALL := kin_1 (n := 119) ⟨rfl, by decide +kernel⟩
theorem kw_326 : (Jvm.Cond.instanceMethod ({ cls := "BonnetValley$Formula", name := "takeDefault", desc := "()V" } : Jvm.MethodName)) ∈ kALL := kin_1 (n := 121) ⟨rfl, by decide +kernel⟩
theorem kw_327 : (Jvm.Cond.selects "BonnetValley$Formula" ({ cls := "BonnetValley$Formula", name := "takeDefault", desc := "()V" } : Jvm.MethodName) ({ cls := "BonnetValley$Formula", name := "takeDefault", desc := "()V" } : Jvm.MethodName)) ∈ kALL := kin_0 (n := 2) (by decide +kernel)
theorem kw_328 : (Jvm.Cond.methodLink "BonnetValley$Formula" (29 : Nat) ({ cls := "BonnetValley$Signs", name := "size", desc := "()I" } : Jvm.MethodName)) ∈ kALL := kin_3 (n := 124) ⟨rfl, by decide +kernel⟩
theorem kw_329 : (Jvm.Cond.methodLink "BonnetValley$Formula" (35 : Nat) ({ cls := "BonnetValley$Signs", name := "at", desc := "(I)I" } : Jvm.MethodName)) ∈ kALL := kin_3 (n := 125) ⟨rfl, by decide +kernel⟩
theorem kw_330 : (Jvm.Cond.instanceMethod ({ cls := "BonnetValley$Signs", name := "at", desc := "(I)I" } : Jvm.MethodName)) ∈ kALL := kin_3 (n := 29) ⟨rfl, by decide +kernel⟩
theorem kw_331 : (Jvm.Cond.selects "BonnetValley$Signs" ({ cls := "BonnetValley$Signs", name := "at", desc := "(I)I" } : Jvm.MethodName) ({ cls := "BonnetValley$Signs", name := "at", desc := "(I)I" } : Jvm.MethodName)) ∈ kALL := kin_3 (n := 30) ⟨rfl, by decide +kernel⟩
theorem kw_332 : (Jvm.Cond.methodLink "BonnetValley$Formula" (39 : Nat) ({ cls := "BonnetValley$Formula", name := "take", desc := "(I)Z" } : Jvm.MethodName)) ∈ kALL := kin_3 (n := 126) ⟨rfl, by decide +kernel⟩
theorem kw_333 : (Jvm.Cond.instanceMethod ({ cls := "BonnetValley$Formula", name := "take", desc := "(I)Z" } : Jvm.MethodName)) ∈ kALL := kin_3 (n := 128) ⟨rfl, by decide +kernel⟩
theorem kw_334 : (Jvm.Cond.selects "BonnetValley$Formula" ({ cls := "BonnetValley$Formula", name := "take", desc := "(I)Z" } : Jvm.MethodName) ({ cls := "BonnetValley$Formula", name := "take", desc := "(I)Z" } : Jvm.MethodName)) ∈ kALL := kin_0 (n := 6) (by decide +kernel)
theorem kw_335 : (Jvm.Cond.fieldLink "BonnetValley$Formula" (43 : Nat) "BonnetValley$Formula" "wantsThing" "Z") ∈ kALL := kin_1 (n := 221) ⟨rfl, by decide +kernel⟩
theorem kw_336 : (Jvm.Cond.fieldLink "BonnetValley$Formula" (47 : Nat) "BonnetValley$Formula" "depth" "I") ∈ kALL := kin_1 (n := 219) ⟨rfl, by decide +kernel⟩
theorem kw_337 : (Jvm.Cond.methodLink "BonnetValley$Formula" (51 : Nat) ({ cls := "BonnetValley$Formula", name := "release", desc := "(I)V" } : Jvm.MethodName)) ∈ kALL := kin_3 (n := 150) ⟨rfl, by decide +kernel⟩
theorem kw_338 : (Jvm.Cond.instanceMethod ({ cls := "BonnetValley$Formula", name := "release", desc := "(I)V" } : Jvm.MethodName)) ∈ kALL := kin_3 (n := 152) ⟨rfl, by decide +kernel⟩
theorem kw_339 : (Jvm.Cond.selects "BonnetValley$Formula" ({ cls := "BonnetValley$Formula", name := "release", desc := "(I)V" } : Jvm.MethodName) ({ cls := "BonnetValley$Formula", name := "release", desc := "(I)V" } : Jvm.MethodName)) ∈ kALL := kin_0 (n := 12) (by decide +kernel)
theorem kw_340 : (Jvm.Cond.fieldLink "BonnetValley$Formula" (55 : Nat) "BonnetValley$Formula" "size" "I") ∈ kALL := kin_1 (n := 215) ⟨rfl, by decide +kernel⟩
theorem kw_341 : (Jvm.Cond.fieldLink "BonnetValley$Formula" (57 : Nat) "BonnetValley$Formula" "waits" "I") ∈ kALL := kin_1 (n := 217) ⟨rfl, by decide +kernel⟩
theorem kw_342 : (Jvm.Cond.fieldLink "BonnetValley$Formula" (60 : Nat) "BonnetValley$Formula" "digits" "I") ∈ kALL := kin_1 (n := 220) ⟨rfl, by decide +kernel⟩
theorem kw_343 : (Jvm.Cond.methodLink "BonnetValley$Formula" (65 : Nat) ({ cls := "java/lang/String", name := "indexOf", desc := "(I)I" } : Jvm.MethodName)) ∈ kALL := kin_1 (n := 124) ⟨rfl, by decide +kernel⟩
theorem kw_344 : (Jvm.Cond.instanceMethod ({ cls := "java/lang/String", name := "indexOf", desc := "(I)I" } : Jvm.MethodName)) ∈ kALL := kin_1 (n := 125) ⟨rfl, by decide +kernel⟩
theorem kw_345 : (Jvm.Cond.selects "java/lang/String" ({ cls := "java/lang/String", name := "indexOf", desc := "(I)I" } : Jvm.MethodName) ({ cls := "java/lang/String", name := "indexOf", desc := "(I)I" } : Jvm.MethodName)) ∈ kALL := kin_1 (n := 126) ⟨rfl, by decide +kernel⟩
theorem kw_346 : (Jvm.Cond.methodLink "BonnetValley$Formula" (70 : Nat) ({ cls := "BonnetValley$Formula", name := "emit", desc := "(I)V" } : Jvm.MethodName)) ∈ kALL := kin_1 (n := 210) ⟨rfl, by decide +kernel⟩
theorem kw_347 : (Jvm.Cond.instanceMethod ({ cls := "BonnetValley$Formula", name := "emit", desc := "(I)V" } : Jvm.MethodName)) ∈ kALL := kin_1 (n := 212) ⟨rfl, by decide +kernel⟩
theorem kw_348 : (Jvm.Cond.selects "BonnetValley$Formula" ({ cls := "BonnetValley$Formula", name := "emit", desc := "(I)V" } : Jvm.MethodName) ({ cls := "BonnetValley$Formula", name := "emit", desc := "(I)V" } : Jvm.MethodName)) ∈ kALL := kin_0 (n := 3) (by decide +kernel)
theorem kw_349 : (Jvm.Cond.methodLink "BonnetValley$Formula" (73 : Nat) ({ cls := "BonnetValley$Formula", name := "takeDigit", desc := "(I)Z" } : Jvm.MethodName)) ∈ kALL := kin_3 (n := 130) ⟨rfl, by decide +kernel⟩
theorem kw_350 : (Jvm.Cond.instanceMethod ({ cls := "BonnetValley$Formula", name := "takeDigit", desc := "(I)Z" } : Jvm.MethodName)) ∈ kALL := kin_3 (n := 132) ⟨rfl, by decide +kernel⟩
theorem kw_351 : (Jvm.Cond.selects "BonnetValley$Formula" ({ cls := "BonnetValley$Formula", name := "takeDigit", desc := "(I)Z" } : Jvm.MethodName) ({ cls := "BonnetValley$Formula", name := "takeDigit", desc := "(I)Z" } : Jvm.MethodName)) ∈ kALL := kin_0 (n := 7) (by decide +kernel)
theorem kw_352 : (Jvm.Cond.methodLink "BonnetValley$Formula" (76 : Nat) ({ cls := "BonnetValley$Formula", name := "takeThing", desc := "(I)Z" } : Jvm.MethodName)) ∈ kALL := kin_3 (n := 134) ⟨rfl, by decide +kernel⟩
theorem kw_353 : (Jvm.Cond.instanceMethod ({ cls := "BonnetValley$Formula", name := "takeThing", desc := "(I)Z" } : Jvm.MethodName)) ∈ kALL := kin_3 (n := 136) ⟨rfl, by decide +kernel⟩
theorem kw_354 : (Jvm.Cond.selects "BonnetValley$Formula" ({ cls := "BonnetValley$Formula", name := "takeThing", desc := "(I)Z" } : Jvm.MethodName) ({ cls := "BonnetValley$Formula", name := "takeThing", desc := "(I)Z" } : Jvm.MethodName)) ∈ kALL := kin_0 (n := 8) (by decide +kernel)
theorem kw_355 : (Jvm.Cond.methodLink "BonnetValley$Formula" (79 : Nat) ({ cls := "BonnetValley$Formula", name := "takeOperator", desc := "(I)Z" } : Jvm.MethodName)) ∈ kALL := kin_3 (n := 142) ⟨rfl, by decide +kernel⟩
theorem kw_356 : (Jvm.Cond.instanceMethod ({ cls := "BonnetValley$Formula", name := "takeOperator", desc := "(I)Z" } : Jvm.MethodName)) ∈ kALL := kin_3 (n := 144) ⟨rfl, by decide +kernel⟩
theorem kw_357 : (Jvm.Cond.selects "BonnetValley$Formula" ({ cls := "BonnetValley$Formula", name := "takeOperator", desc := "(I)Z" } : Jvm.MethodName) ({ cls := "BonnetValley$Formula", name := "takeOperator", desc := "(I)Z" } : Jvm.MethodName)) ∈ kALL := kin_0 (n := 10) (by decide +kernel)
theorem kw_358 : (Jvm.Cond.methodLink "BonnetValley$Formula" (82 : Nat) ({ cls := "BonnetValley$Formula", name := "hold", desc := "(I)V" } : Jvm.MethodName)) ∈ kALL := kin_3 (n := 138) ⟨rfl, by decide +kernel⟩
theorem kw_359 : (Jvm.Cond.instanceMethod ({ cls := "BonnetValley$Formula", name := "hold", desc := "(I)V" } : Jvm.MethodName)) ∈ kALL := kin_3 (n := 140) ⟨rfl, by decide +kernel⟩
theorem kw_360 : (Jvm.Cond.selects "BonnetValley$Formula" ({ cls := "BonnetValley$Formula", name := "hold", desc := "(I)V" } : Jvm.MethodName) ({ cls := "BonnetValley$Formula", name := "hold", desc := "(I)V" } : Jvm.MethodName)) ∈ kALL := kin_0 (n := 9) (by decide +kernel)
theorem kw_361 : (Jvm.Cond.methodLink "BonnetValley$Formula" (85 : Nat) ({ cls := "BonnetValley$Formula", name := "closeBracket", desc := "()Z" } : Jvm.MethodName)) ∈ kALL := kin_3 (n := 146) ⟨rfl, by decide +kernel⟩
theorem kw_362 : (Jvm.Cond.instanceMethod ({ cls := "BonnetValley$Formula", name := "closeBracket", desc := "()Z" } : Jvm.MethodName)) ∈ kALL := kin_3 (n := 148) ⟨rfl, by decide +kernel⟩
theorem kw_363 : (Jvm.Cond.selects "BonnetValley$Formula" ({ cls := "BonnetValley$Formula", name := "closeBracket", desc := "()Z" } : Jvm.MethodName) ({ cls := "BonnetValley$Formula", name := "closeBracket", desc := "()Z" } : Jvm.MethodName)) ∈ kALL := kin_0 (n := 11) (by decide +kernel)
theorem kw_364 : (Jvm.Cond.methodLink "BonnetValley$Formula" (89 : Nat) ({ cls := "BonnetValley$Formula", name := "bindingOf", desc := "(I)I" } : Jvm.MethodName)) ∈ kALL := kin_3 (n := 154) ⟨rfl, by decide +kernel⟩
theorem kw_365 : (Jvm.Cond.static ({ cls := "BonnetValley$Formula", name := "bindingOf", desc := "(I)I" } : Jvm.MethodName)) ∈ kALL := kin_3 (n := 155) ⟨rfl, by decide +kernel⟩
theorem kw_366 : (Jvm.Cond.methodLink "BonnetValley$Formula" (92 : Nat) ({ cls := "BonnetValley$Formula", name := "combine", desc := "(III)I" } : Jvm.MethodName)) ∈ kALL := kin_3 (n := 230) ⟨rfl, by decide +kernel⟩
theorem kw_367 : (Jvm.Cond.static ({ cls := "BonnetValley$Formula", name := "combine", desc := "(III)I" } : Jvm.MethodName)) ∈ kALL := kin_3 (n := 231) ⟨rfl, by decide +kernel⟩
theorem kw_368 : (Jvm.Cond.methodLink "BonnetValley$Games" (3 : Nat) ({ cls := "java/lang/Object", name := "<init>", desc := "()V" } : Jvm.MethodName)) ∈ kALL := kin_2 (n := 172) ⟨rfl, by decide +kernel⟩
theorem kw_369 : (Jvm.Cond.fieldLink "BonnetValley$Games" (9 : Nat) "BonnetValley$Games" "chance" "[J") ∈ kALL := kin_2 (n := 173) ⟨rfl, by decide +kernel⟩
theorem kw_370 : (Jvm.Cond.fieldLink "BonnetValley$Games" (15 : Nat) "BonnetValley$Games" "wins" "[I") ∈ kALL := kin_2 (n := 175) ⟨rfl, by decide +kernel⟩
theorem kw_371 : (Jvm.Cond.fieldLink "BonnetValley$Games" (19 : Nat) "BonnetValley$Games" "parts" "J") ∈ kALL := kin_2 (n := 174) ⟨rfl, by decide +kernel⟩
theorem kw_372 : (Jvm.Cond.fieldLink "BonnetValley$Games" (23 : Nat) "BonnetValley$Games" "drawn" "I") ∈ kALL := kin_2 (n := 176) ⟨rfl, by decide +kernel⟩
theorem kw_373 : (Jvm.Cond.methodLink "BonnetValley$Games" (27 : Nat) ({ cls := "java/util/Arrays", name := "fill", desc := "([JJ)V" } : Jvm.MethodName)) ∈ kALL := kin_5 (n := 133) ⟨rfl, by decide +kernel⟩
theorem kw_374 : (Jvm.Cond.static ({ cls := "java/util/Arrays", name := "fill", desc := "([JJ)V" } : Jvm.MethodName)) ∈ kALL := kin_5 (n := 134) ⟨rfl, by decide +kernel⟩
theorem kw_375 : (Jvm.Cond.constantLong "BonnetValley$Games" (33 : Nat) (10 : Int64)) ∈ kALL := kin_5 (n := 140) ⟨rfl, by decide +kernel⟩
theorem kw_376 : (Jvm.Cond.methodLink "BonnetValley$Games" (35 : Nat) ({ cls := "java/lang/Math", name := "max", desc := "(II)I" } : Jvm.MethodName)) ∈ kALL := kin_5 (n := 145) ⟨rfl, by decide +kernel⟩
theorem kw_377 : (Jvm.Cond.methodLink "BonnetValley$Games" (41 : Nat) ({ cls := "BonnetValley$Games", name := "commonDivisor", desc := "(JJ)J" } : Jvm.MethodName)) ∈ kALL := kin_5 (n := 146) ⟨rfl, by decide +kernel⟩
theorem kw_378 : (Jvm.Cond.static ({ cls := "BonnetValley$Games", name := "commonDivisor", desc := "(JJ)J" } : Jvm.MethodName)) ∈ kALL := kin_5 (n := 147) ⟨rfl, by decide +kernel⟩
theorem kw_379 : (Jvm.Cond.methodLink "BonnetValley$Games" (45 : Nat) ({ cls := "BonnetValley$Numbers", name := "add", desc := "(J)LBonnetValley$Numbers;" } : Jvm.MethodName)) ∈ kALL := kin_5 (n := 149) ⟨rfl, by decide +kernel⟩
theorem kw_380 : (Jvm.Cond.methodLink "BonnetValley$Games" (51 : Nat) ({ cls := "BonnetValley$Games", name := "isBest", desc := "(III)Z" } : Jvm.MethodName)) ∈ kALL := kin_5 (n := 171) ⟨rfl, by decide +kernel⟩
theorem kw_381 : (Jvm.Cond.static ({ cls := "BonnetValley$Games", name := "isBest", desc := "(III)Z" } : Jvm.MethodName)) ∈ kALL := kin_5 (n := 172) ⟨rfl, by decide +kernel⟩
theorem kw_382 : (Jvm.Cond.methodLink "BonnetValley$Games" (55 : Nat) ({ cls := "BonnetValley$Games", name := "gain", desc := "(III)I" } : Jvm.MethodName)) ∈ kALL := kin_5 (n := 174) ⟨rfl, by decide +kernel⟩
theorem kw_383 : (Jvm.Cond.static ({ cls := "BonnetValley$Games", name := "gain", desc := "(III)I" } : Jvm.MethodName)) ∈ kALL := kin_5 (n := 175) ⟨rfl, by decide +kernel⟩
theorem kw_384 : (Jvm.Cond.methodLink "BonnetValley$Games" (59 : Nat) ({ cls := "java/lang/Math", name := "min", desc := "(II)I" } : Jvm.MethodName)) ∈ kALL := kin_5 (n := 177) ⟨rfl, by decide +kernel⟩
theorem kw_385 : (Jvm.Cond.constant "BonnetValley$Games" (62 : Nat) (1103515245 : Int32)) ∈ kALL := kin_5 (n := 194) ⟨rfl, by decide +kernel⟩
theorem kw_386 : (Jvm.Cond.methodLink "BonnetValley$History" (1 : Nat) ({ cls := "java/lang/Object", name := "<init>", desc := "()V" } : Jvm.MethodName)) ∈ kALL := kin_2 (n := 86) ⟨rfl, by decide +kernel⟩
theorem kw_387 : (Jvm.Cond.classLink "BonnetValley$History" (9 : Nat) "BonnetValley$State") ∈ kALL := kin_2 (n := 87) ⟨rfl, by decide +kernel⟩
theorem kw_388 : (Jvm.Cond.fieldLink "BonnetValley$History" (11 : Nat) "BonnetValley$History" "past" "[LBonnetValley$State;") ∈ kALL := kin_2 (n := 90) ⟨rfl, by decide +kernel⟩
theorem kw_389 : (Jvm.Cond.methodLink "BonnetValley$History" (15 : Nat) ({ cls := "BonnetValley$State", name := "<init>", desc := "()V" } : Jvm.MethodName)) ∈ kALL := kin_2 (n := 89) ⟨rfl, by decide +kernel⟩
theorem kw_390 : (Jvm.Cond.fieldLink "BonnetValley$History" (16 : Nat) "BonnetValley$History" "shelf" "[LBonnetValley$State;") ∈ kALL := kin_2 (n := 93) ⟨rfl, by decide +kernel⟩
theorem kw_391 : (Jvm.Cond.fieldLink "BonnetValley$History" (19 : Nat) "BonnetValley$History" "filled" "I") ∈ kALL := kin_2 (n := 94) ⟨rfl, by decide +kernel⟩
theorem kw_392 : (Jvm.Cond.fieldLink "BonnetValley$History" (23 : Nat) "BonnetValley$History" "next" "I") ∈ kALL := kin_2 (n := 91) ⟨rfl, by decide +kernel⟩
theorem kw_393 : (Jvm.Cond.fieldLink "BonnetValley$History" (26 : Nat) "BonnetValley$History" "size" "I") ∈ kALL := kin_2 (n := 92) ⟨rfl, by decide +kernel⟩
theorem kw_394 : (Jvm.Cond.methodLink "BonnetValley$History" (29 : Nat) ({ cls := "BonnetValley$State", name := "copy", desc := "(LBonnetValley$State;)V" } : Jvm.MethodName)) ∈ kALL := kin_4 (n := 53) ⟨rfl, by decide +kernel⟩
theorem kw_395 : (Jvm.Cond.methodLink "BonnetValley$History" (33 : Nat) ({ cls := "java/lang/Math", name := "min", desc := "(II)I" } : Jvm.MethodName)) ∈ kALL := kin_4 (n := 54) ⟨rfl, by decide +kernel⟩
theorem kw_396 : (Jvm.Cond.methodLink "BonnetValley$Land" (3 : Nat) ({ cls := "java/lang/Object", name := "<init>", desc := "()V" } : Jvm.MethodName)) ∈ kALL := kin_1 (n := 70) ⟨rfl, by decide +kernel⟩
theorem kw_397 : (Jvm.Cond.fieldLink "BonnetValley$Land" (9 : Nat) "BonnetValley$Land" "rowOf" "[I") ∈ kALL := kin_1 (n := 80) ⟨rfl, by decide +kernel⟩
theorem kw_398 : (Jvm.Cond.fieldLink "BonnetValley$Land" (15 : Nat) "BonnetValley$Land" "columnOf" "[I") ∈ kALL := kin_1 (n := 81) ⟨rfl, by decide +kernel⟩
theorem kw_399 : (Jvm.Cond.fieldLink "BonnetValley$Land" (18 : Nat) "BonnetValley$Land" "toward" "[J") ∈ kALL := kin_1 (n := 82) ⟨rfl, by decide +kernel⟩
theorem kw_400 : (Jvm.Cond.fieldLink "BonnetValley$Land" (22 : Nat) "BonnetValley$Land" "within" "[J") ∈ kALL := kin_1 (n := 83) ⟨rfl, by decide +kernel⟩
theorem kw_401 : (Jvm.Cond.methodLink "BonnetValley$Land" (25 : Nat) ({ cls := "BonnetValley$Land", name := "shape", desc := "(IIJ)V" } : Jvm.MethodName)) ∈ kALL := kin_1 (n := 71) ⟨rfl, by decide +kernel⟩
theorem kw_402 : (Jvm.Cond.instanceMethod ({ cls := "BonnetValley$Land", name := "shape", desc := "(IIJ)V" } : Jvm.MethodName)) ∈ kALL := kin_1 (n := 73) ⟨rfl, by decide +kernel⟩
theorem kw_403 : (Jvm.Cond.selects "BonnetValley$Land" ({ cls := "BonnetValley$Land", name := "shape", desc := "(IIJ)V" } : Jvm.MethodName) ({ cls := "BonnetValley$Land", name := "shape", desc := "(IIJ)V" } : Jvm.MethodName)) ∈ kALL := kin_0 (n := 0) (by decide +kernel)
theorem kw_404 : (Jvm.Cond.methodLink "BonnetValley$Land" (29 : Nat) ({ cls := "BonnetValley$Land", name := "side", desc := "(LBonnetValley$Signs;I)I" } : Jvm.MethodName)) ∈ kALL := kin_3 (n := 21) ⟨rfl, by decide +kernel⟩
theorem kw_405 : (Jvm.Cond.static ({ cls := "BonnetValley$Land", name := "side", desc := "(LBonnetValley$Signs;I)I" } : Jvm.MethodName)) ∈ kALL := kin_3 (n := 22) ⟨rfl, by decide +kernel⟩
theorem kw_406 : (Jvm.Cond.methodLink "BonnetValley$Land" (33 : Nat) ({ cls := "BonnetValley$Signs", name := "at", desc := "(I)I" } : Jvm.MethodName)) ∈ kALL := kin_3 (n := 32) ⟨rfl, by decide +kernel⟩
theorem kw_407 : (Jvm.Cond.methodLink "BonnetValley$Land" (39 : Nat) ({ cls := "BonnetValley$Signs", name := "size", desc := "()I" } : Jvm.MethodName)) ∈ kALL := kin_3 (n := 33) ⟨rfl, by decide +kernel⟩
theorem kw_408 : (Jvm.Cond.methodLink "BonnetValley$Land" (43 : Nat) ({ cls := "BonnetValley$Signs", name := "digitAt", desc := "(I)I" } : Jvm.MethodName)) ∈ kALL := kin_3 (n := 24) ⟨rfl, by decide +kernel⟩
theorem kw_409 : (Jvm.Cond.instanceMethod ({ cls := "BonnetValley$Signs", name := "digitAt", desc := "(I)I" } : Jvm.MethodName)) ∈ kALL := kin_3 (n := 25) ⟨rfl, by decide +kernel⟩
theorem kw_410 : (Jvm.Cond.selects "BonnetValley$Signs" ({ cls := "BonnetValley$Signs", name := "digitAt", desc := "(I)I" } : Jvm.MethodName) ({ cls := "BonnetValley$Signs", name := "digitAt", desc := "(I)I" } : Jvm.MethodName)) ∈ kALL := kin_3 (n := 26) ⟨rfl, by decide +kernel⟩
theorem kw_411 : (Jvm.Cond.fieldLink "BonnetValley$Land" (46 : Nat) "BonnetValley$Land" "rows" "I") ∈ kALL := kin_1 (n := 75) ⟨rfl, by decide +kernel⟩
theorem kw_412 : (Jvm.Cond.fieldLink "BonnetValley$Land" (50 : Nat) "BonnetValley$Land" "columns" "I") ∈ kALL := kin_1 (n := 76) ⟨rfl, by decide +kernel⟩
theorem kw_413 : (Jvm.Cond.fieldLink "BonnetValley$Land" (53 : Nat) "BonnetValley$Land" "rocks" "J") ∈ kALL := kin_1 (n := 78) ⟨rfl, by decide +kernel⟩
theorem kw_414 : (Jvm.Cond.fieldLink "BonnetValley$Land" (57 : Nat) "BonnetValley$Land" "surveyed" "J") ∈ kALL := kin_1 (n := 79) ⟨rfl, by decide +kernel⟩
theorem kw_415 : (Jvm.Cond.fieldLink "BonnetValley$Land" (60 : Nat) "BonnetValley$Land" "size" "I") ∈ kALL := kin_1 (n := 77) ⟨rfl, by decide +kernel⟩
theorem kw_416 : (Jvm.Cond.constantLong "BonnetValley$Land" (62 : Nat) (-1 : Int64)) ∈ kALL := kin_4 (n := 211) ⟨rfl, by decide +kernel⟩
theorem kw_417 : (Jvm.Cond.methodLink "BonnetValley$Land" (64 : Nat) ({ cls := "BonnetValley$Land", name := "holds", desc := "(I)Z" } : Jvm.MethodName)) ∈ kALL := kin_3 (n := 214) ⟨rfl, by decide +kernel⟩
theorem kw_418 : (Jvm.Cond.fieldLink "BonnetValley$Land" (72 : Nat) "BonnetValley$Land" "DOWN" "[I") ∈ kALL := kin_4 (n := 93) ⟨rfl, by decide +kernel⟩
theorem kw_419 : (Jvm.Cond.fieldLink "BonnetValley$Land" (75 : Nat) "BonnetValley$Land" "RIGHT" "[I") ∈ kALL := kin_4 (n := 95) ⟨rfl, by decide +kernel⟩
theorem kw_420 : (Jvm.Cond.methodLink "BonnetValley$Land" (78 : Nat) ({ cls := "BonnetValley$Land", name := "fieldAt", desc := "(II)I" } : Jvm.MethodName)) ∈ kALL := kin_4 (n := 97) ⟨rfl, by decide +kernel⟩
theorem kw_421 : (Jvm.Cond.methodLink "BonnetValley$Land" (82 : Nat) ({ cls := "BonnetValley$Land", name := "isRock", desc := "(I)Z" } : Jvm.MethodName)) ∈ kALL := kin_4 (n := 98) ⟨rfl, by decide +kernel⟩
theorem kw_422 : (Jvm.Cond.instanceMethod ({ cls := "BonnetValley$Land", name := "isRock", desc := "(I)Z" } : Jvm.MethodName)) ∈ kALL := kin_3 (n := 78) ⟨rfl, by decide +kernel⟩
theorem kw_423 : (Jvm.Cond.selects "BonnetValley$Land" ({ cls := "BonnetValley$Land", name := "isRock", desc := "(I)Z" } : Jvm.MethodName) ({ cls := "BonnetValley$Land", name := "isRock", desc := "(I)Z" } : Jvm.MethodName)) ∈ kALL := kin_3 (n := 79) ⟨rfl, by decide +kernel⟩
theorem kw_424 : (Jvm.Cond.methodLink "BonnetValley$Land" (85 : Nat) ({ cls := "java/lang/Math", name := "min", desc := "(II)I" } : Jvm.MethodName)) ∈ kALL := kin_4 (n := 11) ⟨rfl, by decide +kernel⟩
theorem kw_425 : (Jvm.Cond.methodLink "BonnetValley$Land" (90 : Nat) ({ cls := "BonnetValley$Land", name := "survey", desc := "(I)V" } : Jvm.MethodName)) ∈ kALL := kin_3 (n := 239) ⟨rfl, by decide +kernel⟩
theorem kw_426 : (Jvm.Cond.instanceMethod ({ cls := "BonnetValley$Land", name := "survey", desc := "(I)V" } : Jvm.MethodName)) ∈ kALL := kin_4 (n := 1) ⟨rfl, by decide +kernel⟩
theorem kw_427 : (Jvm.Cond.selects "BonnetValley$Land" ({ cls := "BonnetValley$Land", name := "survey", desc := "(I)V" } : Jvm.MethodName) ({ cls := "BonnetValley$Land", name := "survey", desc := "(I)V" } : Jvm.MethodName)) ∈ kALL := kin_0 (n := 14) (by decide +kernel)
theorem kw_428 : (Jvm.Cond.methodLink "BonnetValley$Land" (94 : Nat) ({ cls := "BonnetValley$Land", name := "eighthsBetween", desc := "(II)I" } : Jvm.MethodName)) ∈ kALL := kin_4 (n := 15) ⟨rfl, by decide +kernel⟩
theorem kw_429 : (Jvm.Cond.methodLink "BonnetValley$Land" (97 : Nat) ({ cls := "java/lang/Math", name := "max", desc := "(II)I" } : Jvm.MethodName)) ∈ kALL := kin_4 (n := 6) ⟨rfl, by decide +kernel⟩
theorem kw_430 : (Jvm.Cond.methodLink "BonnetValley$Land" (100 : Nat) ({ cls := "java/lang/Math", name := "abs", desc := "(I)I" } : Jvm.MethodName)) ∈ kALL := kin_4 (n := 3) ⟨rfl, by decide +kernel⟩
theorem kw_431 : (Jvm.Cond.methodLink "BonnetValley$Land" (103 : Nat) ({ cls := "BonnetValley$Land", name := "isClear", desc := "(III)Z" } : Jvm.MethodName)) ∈ kALL := kin_4 (n := 7) ⟨rfl, by decide +kernel⟩
theorem kw_432 : (Jvm.Cond.instanceMethod ({ cls := "BonnetValley$Land", name := "isClear", desc := "(III)Z" } : Jvm.MethodName)) ∈ kALL := kin_4 (n := 9) ⟨rfl, by decide +kernel⟩
theorem kw_433 : (Jvm.Cond.selects "BonnetValley$Land" ({ cls := "BonnetValley$Land", name := "isClear", desc := "(III)Z" } : Jvm.MethodName) ({ cls := "BonnetValley$Land", name := "isClear", desc := "(III)Z" } : Jvm.MethodName)) ∈ kALL := kin_0 (n := 15) (by decide +kernel)
theorem kw_434 : (Jvm.Cond.methodLink "BonnetValley$Land" (107 : Nat) ({ cls := "BonnetValley$Land", name := "wayOf", desc := "(II)I" } : Jvm.MethodName)) ∈ kALL := kin_4 (n := 12) ⟨rfl, by decide +kernel⟩
theorem kw_435 : (Jvm.Cond.static ({ cls := "BonnetValley$Land", name := "wayOf", desc := "(II)I" } : Jvm.MethodName)) ∈ kALL := kin_4 (n := 13) ⟨rfl, by decide +kernel⟩
theorem kw_436 : (Jvm.Cond.methodLink "BonnetValley$Lines" (3 : Nat) ({ cls := "java/lang/Object", name := "<init>", desc := "()V" } : Jvm.MethodName)) ∈ kALL := kin_2 (n := 111) ⟨rfl, by decide +kernel⟩
theorem kw_437 : (Jvm.Cond.fieldLink "BonnetValley$Lines" (11 : Nat) "BonnetValley$Lines" "digit" "[I") ∈ kALL := kin_2 (n := 112) ⟨rfl, by decide +kernel⟩
theorem kw_438 : (Jvm.Cond.fieldLink "BonnetValley$Lines" (15 : Nat) "BonnetValley$Lines" "bound" "[I") ∈ kALL := kin_2 (n := 113) ⟨rfl, by decide +kernel⟩
theorem kw_439 : (Jvm.Cond.fieldLink "BonnetValley$Lines" (18 : Nat) "BonnetValley$Lines" "width" "I") ∈ kALL := kin_2 (n := 114) ⟨rfl, by decide +kernel⟩
theorem kw_440 : (Jvm.Cond.methodLink "BonnetValley$Lines" (22 : Nat) ({ cls := "BonnetValley$Land", name := "rows", desc := "()I" } : Jvm.MethodName)) ∈ kALL := kin_3 (n := 59) ⟨rfl, by decide +kernel⟩
theorem kw_441 : (Jvm.Cond.methodLink "BonnetValley$Lines" (28 : Nat) ({ cls := "BonnetValley$Land", name := "columns", desc := "()I" } : Jvm.MethodName)) ∈ kALL := kin_3 (n := 63) ⟨rfl, by decide +kernel⟩
theorem kw_442 : (Jvm.Cond.methodLink "BonnetValley$Lines" (31 : Nat) ({ cls := "BonnetValley$Signs", name := "size", desc := "()I" } : Jvm.MethodName)) ∈ kALL := kin_3 (n := 67) ⟨rfl, by decide +kernel⟩
theorem kw_443 : (Jvm.Cond.methodLink "BonnetValley$Lines" (36 : Nat) ({ cls := "BonnetValley$Signs", name := "digitAt", desc := "(I)I" } : Jvm.MethodName)) ∈ kALL := kin_3 (n := 68) ⟨rfl, by decide +kernel⟩
theorem kw_444 : (Jvm.Cond.methodLink "BonnetValley$Lines" (40 : Nat) ({ cls := "BonnetValley$Lines", name := "takeDigit", desc := "(IIILBonnetValley$Land;)Z" } : Jvm.MethodName)) ∈ kALL := kin_3 (n := 69) ⟨rfl, by decide +kernel⟩
theorem kw_445 : (Jvm.Cond.instanceMethod ({ cls := "BonnetValley$Lines", name := "takeDigit", desc := "(IIILBonnetValley$Land;)Z" } : Jvm.MethodName)) ∈ kALL := kin_3 (n := 71) ⟨rfl, by decide +kernel⟩
theorem kw_446 : (Jvm.Cond.selects "BonnetValley$Lines" ({ cls := "BonnetValley$Lines", name := "takeDigit", desc := "(IIILBonnetValley$Land;)Z" } : Jvm.MethodName) ({ cls := "BonnetValley$Lines", name := "takeDigit", desc := "(IIILBonnetValley$Land;)Z" } : Jvm.MethodName)) ∈ kALL := kin_0 (n := 5) (by decide +kernel)
theorem kw_447 : (Jvm.Cond.methodLink "BonnetValley$Lines" (44 : Nat) ({ cls := "BonnetValley$Signs", name := "at", desc := "(I)I" } : Jvm.MethodName)) ∈ kALL := kin_3 (n := 84) ⟨rfl, by decide +kernel⟩
theorem kw_448 : (Jvm.Cond.methodLink "BonnetValley$Lines" (47 : Nat) ({ cls := "BonnetValley$Land", name := "fieldAt", desc := "(II)I" } : Jvm.MethodName)) ∈ kALL := kin_3 (n := 73) ⟨rfl, by decide +kernel⟩
theorem kw_449 : (Jvm.Cond.methodLink "BonnetValley$Lines" (51 : Nat) ({ cls := "BonnetValley$Land", name := "isRock", desc := "(I)Z" } : Jvm.MethodName)) ∈ kALL := kin_3 (n := 77) ⟨rfl, by decide +kernel⟩
theorem kw_450 : (Jvm.Cond.methodLink "BonnetValley$Numbers" (3 : Nat) ({ cls := "java/lang/Object", name := "<init>", desc := "()V" } : Jvm.MethodName)) ∈ kALL := kin_1 (n := 56) ⟨rfl, by decide +kernel⟩
theorem kw_451 : (Jvm.Cond.fieldLink "BonnetValley$Numbers" (11 : Nat) "BonnetValley$Numbers" "number" "[J") ∈ kALL := kin_1 (n := 57) ⟨rfl, by decide +kernel⟩
theorem kw_452 : (Jvm.Cond.fieldLink "BonnetValley$Numbers" (15 : Nat) "BonnetValley$Numbers" "size" "I") ∈ kALL := kin_1 (n := 58) ⟨rfl, by decide +kernel⟩
theorem kw_453 : (Jvm.Cond.constantLong "BonnetValley$Numbers" (19 : Nat) (-1 : Int64)) ∈ kALL := kin_6 (n := 69) ⟨rfl, by decide +kernel⟩
theorem kw_454 : (Jvm.Cond.methodLink "BonnetValley$Plan" (3 : Nat) ({ cls := "java/lang/Object", name := "<init>", desc := "()V" } : Jvm.MethodName)) ∈ kALL := kin_2 (n := 127) ⟨rfl, by decide +kernel⟩
theorem kw_455 : (Jvm.Cond.fieldLink "BonnetValley$Plan" (11 : Nat) "BonnetValley$Plan" "kind" "[I") ∈ kALL := kin_2 (n := 128) ⟨rfl, by decide +kernel⟩
theorem kw_456 : (Jvm.Cond.fieldLink "BonnetValley$Plan" (15 : Nat) "BonnetValley$Plan" "digit" "[I") ∈ kALL := kin_2 (n := 129) ⟨rfl, by decide +kernel⟩
theorem kw_457 : (Jvm.Cond.fieldLink "BonnetValley$Plan" (18 : Nat) "BonnetValley$Plan" "acts" "I") ∈ kALL := kin_2 (n := 130) ⟨rfl, by decide +kernel⟩
theorem kw_458 : (Jvm.Cond.methodLink "BonnetValley$Plan" (22 : Nat) ({ cls := "BonnetValley$Signs", name := "size", desc := "()I" } : Jvm.MethodName)) ∈ kALL := kin_4 (n := 128) ⟨rfl, by decide +kernel⟩
theorem kw_459 : (Jvm.Cond.methodLink "BonnetValley$Plan" (28 : Nat) ({ cls := "BonnetValley$Signs", name := "digitAt", desc := "(I)I" } : Jvm.MethodName)) ∈ kALL := kin_4 (n := 129) ⟨rfl, by decide +kernel⟩
theorem kw_460 : (Jvm.Cond.methodLink "BonnetValley$Plan" (32 : Nat) ({ cls := "BonnetValley$Plan", name := "takeDigit", desc := "(II)Z" } : Jvm.MethodName)) ∈ kALL := kin_4 (n := 130) ⟨rfl, by decide +kernel⟩
theorem kw_461 : (Jvm.Cond.instanceMethod ({ cls := "BonnetValley$Plan", name := "takeDigit", desc := "(II)Z" } : Jvm.MethodName)) ∈ kALL := kin_4 (n := 132) ⟨rfl, by decide +kernel⟩
theorem kw_462 : (Jvm.Cond.selects "BonnetValley$Plan" ({ cls := "BonnetValley$Plan", name := "takeDigit", desc := "(II)Z" } : Jvm.MethodName) ({ cls := "BonnetValley$Plan", name := "takeDigit", desc := "(II)Z" } : Jvm.MethodName)) ∈ kALL := kin_0 (n := 22) (by decide +kernel)
theorem kw_463 : (Jvm.Cond.methodLink "BonnetValley$Plan" (36 : Nat) ({ cls := "BonnetValley$Signs", name := "at", desc := "(I)I" } : Jvm.MethodName)) ∈ kALL := kin_4 (n := 134) ⟨rfl, by decide +kernel⟩
theorem kw_464 : (Jvm.Cond.methodLink "BonnetValley$Plan" (39 : Nat) ({ cls := "BonnetValley$Plan", name := "digitsOf", desc := "(I)I" } : Jvm.MethodName)) ∈ kALL := kin_4 (n := 135) ⟨rfl, by decide +kernel⟩
theorem kw_465 : (Jvm.Cond.static ({ cls := "BonnetValley$Plan", name := "digitsOf", desc := "(I)I" } : Jvm.MethodName)) ∈ kALL := kin_4 (n := 136) ⟨rfl, by decide +kernel⟩
theorem kw_466 : (Jvm.Cond.methodLink "BonnetValley$Plan" (42 : Nat) ({ cls := "BonnetValley$Plan", name := "takeKind", desc := "(I)Z" } : Jvm.MethodName)) ∈ kALL := kin_4 (n := 138) ⟨rfl, by decide +kernel⟩
theorem kw_467 : (Jvm.Cond.instanceMethod ({ cls := "BonnetValley$Plan", name := "takeKind", desc := "(I)Z" } : Jvm.MethodName)) ∈ kALL := kin_4 (n := 140) ⟨rfl, by decide +kernel⟩
theorem kw_468 : (Jvm.Cond.selects "BonnetValley$Plan" ({ cls := "BonnetValley$Plan", name := "takeKind", desc := "(I)Z" } : Jvm.MethodName) ({ cls := "BonnetValley$Plan", name := "takeKind", desc := "(I)Z" } : Jvm.MethodName)) ∈ kALL := kin_0 (n := 23) (by decide +kernel)
theorem kw_469 : (Jvm.Cond.methodLink "BonnetValley$Route" (3 : Nat) ({ cls := "java/lang/Object", name := "<init>", desc := "()V" } : Jvm.MethodName)) ∈ kALL := kin_2 (n := 143) ⟨rfl, by decide +kernel⟩
theorem kw_470 : (Jvm.Cond.fieldLink "BonnetValley$Route" (9 : Nat) "BonnetValley$Route" "away" "[I") ∈ kALL := kin_2 (n := 144) ⟨rfl, by decide +kernel⟩
theorem kw_471 : (Jvm.Cond.fieldLink "BonnetValley$Route" (15 : Nat) "BonnetValley$Route" "queue" "[I") ∈ kALL := kin_2 (n := 145) ⟨rfl, by decide +kernel⟩
theorem kw_472 : (Jvm.Cond.fieldLink "BonnetValley$Route" (18 : Nat) "BonnetValley$Route" "path" "[I") ∈ kALL := kin_2 (n := 146) ⟨rfl, by decide +kernel⟩
theorem kw_473 : (Jvm.Cond.methodLink "BonnetValley$Route" (21 : Nat) ({ cls := "BonnetValley$Land", name := "holds", desc := "(I)Z" } : Jvm.MethodName)) ∈ kALL := kin_5 (n := 88) ⟨rfl, by decide +kernel⟩
theorem kw_474 : (Jvm.Cond.methodLink "BonnetValley$Route" (27 : Nat) ({ cls := "BonnetValley$Land", name := "isRock", desc := "(I)Z" } : Jvm.MethodName)) ∈ kALL := kin_5 (n := 89) ⟨rfl, by decide +kernel⟩
theorem kw_475 : (Jvm.Cond.methodLink "BonnetValley$Route" (30 : Nat) ({ cls := "BonnetValley$Route", name := "measure", desc := "(LBonnetValley$Land;IJ)V" } : Jvm.MethodName)) ∈ kALL := kin_5 (n := 90) ⟨rfl, by decide +kernel⟩
theorem kw_476 : (Jvm.Cond.instanceMethod ({ cls := "BonnetValley$Route", name := "measure", desc := "(LBonnetValley$Land;IJ)V" } : Jvm.MethodName)) ∈ kALL := kin_5 (n := 92) ⟨rfl, by decide +kernel⟩
theorem kw_477 : (Jvm.Cond.selects "BonnetValley$Route" ({ cls := "BonnetValley$Route", name := "measure", desc := "(LBonnetValley$Land;IJ)V" } : Jvm.MethodName) ({ cls := "BonnetValley$Route", name := "measure", desc := "(LBonnetValley$Land;IJ)V" } : Jvm.MethodName)) ∈ kALL := kin_0 (n := 28) (by decide +kernel)
theorem kw_478 : (Jvm.Cond.methodLink "BonnetValley$Route" (34 : Nat) ({ cls := "BonnetValley$Route", name := "leastNearer", desc := "(LBonnetValley$Land;II)I" } : Jvm.MethodName)) ∈ kALL := kin_5 (n := 97) ⟨rfl, by decide +kernel⟩
theorem kw_479 : (Jvm.Cond.instanceMethod ({ cls := "BonnetValley$Route", name := "leastNearer", desc := "(LBonnetValley$Land;II)I" } : Jvm.MethodName)) ∈ kALL := kin_5 (n := 99) ⟨rfl, by decide +kernel⟩
theorem kw_480 : (Jvm.Cond.selects "BonnetValley$Route" ({ cls := "BonnetValley$Route", name := "leastNearer", desc := "(LBonnetValley$Land;II)I" } : Jvm.MethodName) ({ cls := "BonnetValley$Route", name := "leastNearer", desc := "(LBonnetValley$Land;II)I" } : Jvm.MethodName)) ∈ kALL := kin_0 (n := 29) (by decide +kernel)
theorem kw_481 : (Jvm.Cond.methodLink "BonnetValley$Route" (38 : Nat) ({ cls := "java/util/Arrays", name := "fill", desc := "([II)V" } : Jvm.MethodName)) ∈ kALL := kin_5 (n := 94) ⟨rfl, by decide +kernel⟩
theorem kw_482 : (Jvm.Cond.methodLink "BonnetValley$Route" (44 : Nat) ({ cls := "BonnetValley$Land", name := "beside", desc := "(II)I" } : Jvm.MethodName)) ∈ kALL := kin_5 (n := 95) ⟨rfl, by decide +kernel⟩
theorem kw_483 : (Jvm.Cond.methodLink "BonnetValley$Sight" (3 : Nat) ({ cls := "java/lang/Object", name := "<init>", desc := "()V" } : Jvm.MethodName)) ∈ kALL := kin_1 (n := 108) ⟨rfl, by decide +kernel⟩
theorem kw_484 : (Jvm.Cond.fieldLink "BonnetValley$Sight" (9 : Nat) "BonnetValley$Sight" "land" "LBonnetValley$Land;") ∈ kALL := kin_2 (n := 4) ⟨rfl, by decide +kernel⟩
theorem kw_485 : (Jvm.Cond.classLink "BonnetValley$Sight" (15 : Nat) "BonnetValley$Formula") ∈ kALL := kin_1 (n := 109) ⟨rfl, by decide +kernel⟩
theorem kw_486 : (Jvm.Cond.methodLink "BonnetValley$Sight" (17 : Nat) ({ cls := "BonnetValley$Formula", name := "<init>", desc := "()V" } : Jvm.MethodName)) ∈ kALL := kin_1 (n := 111) ⟨rfl, by decide +kernel⟩
theorem kw_487 : (Jvm.Cond.instanceMethod ({ cls := "BonnetValley$Formula", name := "<init>", desc := "()V" } : Jvm.MethodName)) ∈ kALL := kin_1 (n := 112) ⟨rfl, by decide +kernel⟩
theorem kw_488 : (Jvm.Cond.fieldLink "BonnetValley$Sight" (18 : Nat) "BonnetValley$Sight" "rule" "LBonnetValley$Formula;") ∈ kALL := kin_2 (n := 5) ⟨rfl, by decide +kernel⟩
theorem kw_489 : (Jvm.Cond.fieldLink "BonnetValley$Sight" (22 : Nat) "BonnetValley$Sight" "other" "LBonnetValley$Formula;") ∈ kALL := kin_2 (n := 6) ⟨rfl, by decide +kernel⟩
theorem kw_490 : (Jvm.Cond.fieldLink "BonnetValley$Sight" (25 : Nat) "BonnetValley$Sight" "light" "[I") ∈ kALL := kin_2 (n := 7) ⟨rfl, by decide +kernel⟩
theorem kw_491 : (Jvm.Cond.fieldLink "BonnetValley$Sight" (29 : Nat) "BonnetValley$Sight" "lights" "I") ∈ kALL := kin_2 (n := 8) ⟨rfl, by decide +kernel⟩
theorem kw_492 : (Jvm.Cond.fieldLink "BonnetValley$Sight" (33 : Nat) "BonnetValley$Sight" "given" "[I") ∈ kALL := kin_2 (n := 9) ⟨rfl, by decide +kernel⟩
theorem kw_493 : (Jvm.Cond.fieldLink "BonnetValley$Sight" (36 : Nat) "BonnetValley$Sight" "view" "[J") ∈ kALL := kin_2 (n := 10) ⟨rfl, by decide +kernel⟩
theorem kw_494 : (Jvm.Cond.fieldLink "BonnetValley$Sight" (40 : Nat) "BonnetValley$Sight" "learned" "[I") ∈ kALL := kin_2 (n := 11) ⟨rfl, by decide +kernel⟩
theorem kw_495 : (Jvm.Cond.methodLink "BonnetValley$Sight" (43 : Nat) ({ cls := "BonnetValley$Signs", name := "size", desc := "()I" } : Jvm.MethodName)) ∈ kALL := kin_3 (n := 110) ⟨rfl, by decide +kernel⟩
theorem kw_496 : (Jvm.Cond.methodLink "BonnetValley$Sight" (49 : Nat) ({ cls := "BonnetValley$Signs", name := "digitAt", desc := "(I)I" } : Jvm.MethodName)) ∈ kALL := kin_3 (n := 111) ⟨rfl, by decide +kernel⟩
theorem kw_497 : (Jvm.Cond.methodLink "BonnetValley$Sight" (53 : Nat) ({ cls := "BonnetValley$State", name := "hasPerson", desc := "(I)Z" } : Jvm.MethodName)) ∈ kALL := kin_4 (n := 34) ⟨rfl, by decide +kernel⟩
theorem kw_498 : (Jvm.Cond.fieldLink "BonnetValley$Sight" (59 : Nat) "BonnetValley$State" "brim" "[I") ∈ kALL := kin_2 (n := 57) ⟨rfl, by decide +kernel⟩
theorem kw_499 : (Jvm.Cond.methodLink "BonnetValley$Sight" (62 : Nat) ({ cls := "BonnetValley$Sight", name := "reachBy", desc := "(LBonnetValley$Formula;LBonnetValley$State;II)I" } : Jvm.MethodName)) ∈ kALL := kin_3 (n := 196) ⟨rfl, by decide +kernel⟩
theorem kw_500 : (Jvm.Cond.instanceMethod ({ cls := "BonnetValley$Sight", name := "reachBy", desc := "(LBonnetValley$Formula;LBonnetValley$State;II)I" } : Jvm.MethodName)) ∈ kALL := kin_3 (n := 198) ⟨rfl, by decide +kernel⟩
theorem kw_501 : (Jvm.Cond.selects "BonnetValley$Sight" ({ cls := "BonnetValley$Sight", name := "reachBy", desc := "(LBonnetValley$Formula;LBonnetValley$State;II)I" } : Jvm.MethodName) ({ cls := "BonnetValley$Sight", name := "reachBy", desc := "(LBonnetValley$Formula;LBonnetValley$State;II)I" } : Jvm.MethodName)) ∈ kALL := kin_0 (n := 13) (by decide +kernel)
theorem kw_502 : (Jvm.Cond.fieldLink "BonnetValley$Sight" (66 : Nat) "BonnetValley$State" "field" "[I") ∈ kALL := kin_2 (n := 50) ⟨rfl, by decide +kernel⟩
theorem kw_503 : (Jvm.Cond.fieldLink "BonnetValley$Sight" (69 : Nat) "BonnetValley$State" "hour" "I") ∈ kALL := kin_2 (n := 47) ⟨rfl, by decide +kernel⟩
theorem kw_504 : (Jvm.Cond.methodLink "BonnetValley$Sight" (72 : Nat) ({ cls := "BonnetValley$Sight", name := "lightAt", desc := "(I)I" } : Jvm.MethodName)) ∈ kALL := kin_3 (n := 200) ⟨rfl, by decide +kernel⟩
theorem kw_505 : (Jvm.Cond.fieldLink "BonnetValley$Sight" (75 : Nat) "BonnetValley$State" "knows" "[I") ∈ kALL := kin_2 (n := 60) ⟨rfl, by decide +kernel⟩
theorem kw_506 : (Jvm.Cond.methodLink "BonnetValley$Sight" (78 : Nat) ({ cls := "java/lang/Integer", name := "bitCount", desc := "(I)I" } : Jvm.MethodName)) ∈ kALL := kin_3 (n := 204) ⟨rfl, by decide +kernel⟩
theorem kw_507 : (Jvm.Cond.fieldLink "BonnetValley$Sight" (83 : Nat) "BonnetValley$State" "facing" "[I") ∈ kALL := kin_2 (n := 54) ⟨rfl, by decide +kernel⟩
theorem kw_508 : (Jvm.Cond.methodLink "BonnetValley$Sight" (86 : Nat) ({ cls := "BonnetValley$Land", name := "rowOf", desc := "(I)I" } : Jvm.MethodName)) ∈ kALL := kin_3 (n := 210) ⟨rfl, by decide +kernel⟩
theorem kw_509 : (Jvm.Cond.instanceMethod ({ cls := "BonnetValley$Land", name := "rowOf", desc := "(I)I" } : Jvm.MethodName)) ∈ kALL := kin_3 (n := 211) ⟨rfl, by decide +kernel⟩
theorem kw_510 : (Jvm.Cond.selects "BonnetValley$Land" ({ cls := "BonnetValley$Land", name := "rowOf", desc := "(I)I" } : Jvm.MethodName) ({ cls := "BonnetValley$Land", name := "rowOf", desc := "(I)I" } : Jvm.MethodName)) ∈ kALL := kin_3 (n := 212) ⟨rfl, by decide +kernel⟩
theorem kw_511 : (Jvm.Cond.methodLink "BonnetValley$Sight" (91 : Nat) ({ cls := "BonnetValley$Land", name := "columnOf", desc := "(I)I" } : Jvm.MethodName)) ∈ kALL := kin_3 (n := 218) ⟨rfl, by decide +kernel⟩
theorem kw_512 : (Jvm.Cond.instanceMethod ({ cls := "BonnetValley$Land", name := "columnOf", desc := "(I)I" } : Jvm.MethodName)) ∈ kALL := kin_3 (n := 219) ⟨rfl, by decide +kernel⟩
theorem kw_513 : (Jvm.Cond.selects "BonnetValley$Land" ({ cls := "BonnetValley$Land", name := "columnOf", desc := "(I)I" } : Jvm.MethodName) ({ cls := "BonnetValley$Land", name := "columnOf", desc := "(I)I" } : Jvm.MethodName)) ∈ kALL := kin_3 (n := 220) ⟨rfl, by decide +kernel⟩
theorem kw_514 : (Jvm.Cond.methodLink "BonnetValley$Sight" (94 : Nat) ({ cls := "BonnetValley$State", name := "peopleOn", desc := "(J)I" } : Jvm.MethodName)) ∈ kALL := kin_3 (n := 222) ⟨rfl, by decide +kernel⟩
theorem kw_515 : (Jvm.Cond.methodLink "BonnetValley$Sight" (98 : Nat) ({ cls := "BonnetValley$Formula", name := "value", desc := "([I)I" } : Jvm.MethodName)) ∈ kALL := kin_3 (n := 226) ⟨rfl, by decide +kernel⟩
theorem kw_516 : (Jvm.Cond.instanceMethod ({ cls := "BonnetValley$Formula", name := "value", desc := "([I)I" } : Jvm.MethodName)) ∈ kALL := kin_3 (n := 227) ⟨rfl, by decide +kernel⟩
theorem kw_517 : (Jvm.Cond.selects "BonnetValley$Formula" ({ cls := "BonnetValley$Formula", name := "value", desc := "([I)I" } : Jvm.MethodName) ({ cls := "BonnetValley$Formula", name := "value", desc := "([I)I" } : Jvm.MethodName)) ∈ kALL := kin_3 (n := 228) ⟨rfl, by decide +kernel⟩
theorem kw_518 : (Jvm.Cond.methodLink "BonnetValley$Sight" (102 : Nat) ({ cls := "java/lang/Math", name := "min", desc := "(II)I" } : Jvm.MethodName)) ∈ kALL := kin_3 (n := 233) ⟨rfl, by decide +kernel⟩
theorem kw_519 : (Jvm.Cond.methodLink "BonnetValley$Sight" (108 : Nat) ({ cls := "java/lang/Math", name := "max", desc := "(II)I" } : Jvm.MethodName)) ∈ kALL := kin_3 (n := 234) ⟨rfl, by decide +kernel⟩
theorem kw_520 : (Jvm.Cond.methodLink "BonnetValley$Sight" (111 : Nat) ({ cls := "BonnetValley$Sight", name := "viewUnder", desc := "(LBonnetValley$State;II)J" } : Jvm.MethodName)) ∈ kALL := kin_4 (n := 178) ⟨rfl, by decide +kernel⟩
theorem kw_521 : (Jvm.Cond.methodLink "BonnetValley$Sight" (115 : Nat) ({ cls := "BonnetValley$Land", name := "view", desc := "(IIII)J" } : Jvm.MethodName)) ∈ kALL := kin_3 (n := 235) ⟨rfl, by decide +kernel⟩
theorem kw_522 : (Jvm.Cond.methodLink "BonnetValley$Sight" (118 : Nat) ({ cls := "BonnetValley$Sight", name := "lookBy", desc := "(LBonnetValley$Formula;LBonnetValley$State;)J" } : Jvm.MethodName)) ∈ kALL := kin_3 (n := 192) ⟨rfl, by decide +kernel⟩
theorem kw_523 : (Jvm.Cond.fieldLink "BonnetValley$Sight" (122 : Nat) "BonnetValley$State" "persons" "I") ∈ kALL := kin_2 (n := 42) ⟨rfl, by decide +kernel⟩
theorem kw_524 : (Jvm.Cond.methodLink "BonnetValley$Sight" (129 : Nat) ({ cls := "BonnetValley$Sight", name := "meet", desc := "(LBonnetValley$State;II)Z" } : Jvm.MethodName)) ∈ kALL := kin_4 (n := 30) ⟨rfl, by decide +kernel⟩
theorem kw_525 : (Jvm.Cond.methodLink "BonnetValley$Sight" (133 : Nat) ({ cls := "java/lang/Math", name := "abs", desc := "(I)I" } : Jvm.MethodName)) ∈ kALL := kin_4 (n := 39) ⟨rfl, by decide +kernel⟩
theorem kw_526 : (Jvm.Cond.methodLink "BonnetValley$Sight" (136 : Nat) ({ cls := "BonnetValley$Sight", name := "tell", desc := "(LBonnetValley$State;II)Z" } : Jvm.MethodName)) ∈ kALL := kin_4 (n := 26) ⟨rfl, by decide +kernel⟩
theorem kw_527 : (Jvm.Cond.methodLink "BonnetValley$Sight" (139 : Nat) ({ cls := "BonnetValley$Sight", name := "learnedBy", desc := "(LBonnetValley$State;I)I" } : Jvm.MethodName)) ∈ kALL := kin_4 (n := 18) ⟨rfl, by decide +kernel⟩
theorem kw_528 : (Jvm.Cond.instanceMethod ({ cls := "BonnetValley$Sight", name := "learnedBy", desc := "(LBonnetValley$State;I)I" } : Jvm.MethodName)) ∈ kALL := kin_4 (n := 20) ⟨rfl, by decide +kernel⟩
theorem kw_529 : (Jvm.Cond.selects "BonnetValley$Sight" ({ cls := "BonnetValley$Sight", name := "learnedBy", desc := "(LBonnetValley$State;I)I" } : Jvm.MethodName) ({ cls := "BonnetValley$Sight", name := "learnedBy", desc := "(LBonnetValley$State;I)I" } : Jvm.MethodName)) ∈ kALL := kin_0 (n := 16) (by decide +kernel)
theorem kw_530 : (Jvm.Cond.methodLink "BonnetValley$Sight" (143 : Nat) ({ cls := "BonnetValley$State", name := "known", desc := "()I" } : Jvm.MethodName)) ∈ kALL := kin_4 (n := 40) ⟨rfl, by decide +kernel⟩
theorem kw_531 : (Jvm.Cond.methodLink "BonnetValley$Sight" (146 : Nat) ({ cls := "BonnetValley$State", name := "thingsOn", desc := "(J)I" } : Jvm.MethodName)) ∈ kALL := kin_4 (n := 22) ⟨rfl, by decide +kernel⟩
theorem kw_532 : (Jvm.Cond.methodLink "BonnetValley$Signs" (1 : Nat) ({ cls := "java/lang/Object", name := "<init>", desc := "()V" } : Jvm.MethodName)) ∈ kALL := kin_1 (n := 42) ⟨rfl, by decide +kernel⟩
theorem kw_533 : (Jvm.Cond.fieldLink "BonnetValley$Signs" (9 : Nat) "BonnetValley$Signs" "sign" "[I") ∈ kALL := kin_1 (n := 43) ⟨rfl, by decide +kernel⟩
theorem kw_534 : (Jvm.Cond.fieldLink "BonnetValley$Signs" (13 : Nat) "BonnetValley$Signs" "size" "I") ∈ kALL := kin_1 (n := 44) ⟨rfl, by decide +kernel⟩
theorem kw_535 : (Jvm.Cond.methodLink "BonnetValley$Signs" (17 : Nat) ({ cls := "BonnetValley$Signs", name := "at", desc := "(I)I" } : Jvm.MethodName)) ∈ kALL := kin_3 (n := 28) ⟨rfl, by decide +kernel⟩
theorem kw_536 : (Jvm.Cond.methodLink "BonnetValley$State" (3 : Nat) ({ cls := "java/lang/Object", name := "<init>", desc := "()V" } : Jvm.MethodName)) ∈ kALL := kin_2 (n := 34) ⟨rfl, by decide +kernel⟩
theorem kw_537 : (Jvm.Cond.fieldLink "BonnetValley$State" (9 : Nat) "BonnetValley$State" "field" "[I") ∈ kALL := kin_2 (n := 49) ⟨rfl, by decide +kernel⟩
theorem kw_538 : (Jvm.Cond.fieldLink "BonnetValley$State" (15 : Nat) "BonnetValley$State" "facing" "[I") ∈ kALL := kin_2 (n := 52) ⟨rfl, by decide +kernel⟩
theorem kw_539 : (Jvm.Cond.fieldLink "BonnetValley$State" (18 : Nat) "BonnetValley$State" "brim" "[I") ∈ kALL := kin_2 (n := 56) ⟨rfl, by decide +kernel⟩
theorem kw_540 : (Jvm.Cond.fieldLink "BonnetValley$State" (21 : Nat) "BonnetValley$State" "knows" "[I") ∈ kALL := kin_2 (n := 59) ⟨rfl, by decide +kernel⟩
theorem kw_541 : (Jvm.Cond.fieldLink "BonnetValley$State" (24 : Nat) "BonnetValley$State" "place" "[I") ∈ kALL := kin_2 (n := 62) ⟨rfl, by decide +kernel⟩
theorem kw_542 : (Jvm.Cond.methodLink "BonnetValley$State" (27 : Nat) ({ cls := "BonnetValley$State", name := "clear", desc := "()V" } : Jvm.MethodName)) ∈ kALL := kin_2 (n := 35) ⟨rfl, by decide +kernel⟩
theorem kw_543 : (Jvm.Cond.fieldLink "BonnetValley$State" (30 : Nat) "BonnetValley$State" "persons" "I") ∈ kALL := kin_2 (n := 39) ⟨rfl, by decide +kernel⟩
theorem kw_544 : (Jvm.Cond.fieldLink "BonnetValley$State" (34 : Nat) "BonnetValley$State" "goods" "I") ∈ kALL := kin_2 (n := 43) ⟨rfl, by decide +kernel⟩
theorem kw_545 : (Jvm.Cond.fieldLink "BonnetValley$State" (37 : Nat) "BonnetValley$State" "hour" "I") ∈ kALL := kin_2 (n := 46) ⟨rfl, by decide +kernel⟩
theorem kw_546 : (Jvm.Cond.methodLink "BonnetValley$State" (40 : Nat) ({ cls := "java/lang/System", name := "arraycopy", desc := "(Ljava/lang/Object;ILjava/lang/Object;II)V" } : Jvm.MethodName)) ∈ kALL := kin_3 (n := 185) ⟨rfl, by decide +kernel⟩
theorem kw_547 : (Jvm.Cond.methodLink "BonnetValley$State" (46 : Nat) ({ cls := "java/lang/Integer", name := "bitCount", desc := "(I)I" } : Jvm.MethodName)) ∈ kALL := kin_4 (n := 44) ⟨rfl, by decide +kernel⟩
theorem kw_548 : (Jvm.Cond.methodLink "BonnetValley$Turning" (3 : Nat) ({ cls := "java/lang/Object", name := "<init>", desc := "()V" } : Jvm.MethodName)) ∈ kALL := kin_2 (n := 159) ⟨rfl, by decide +kernel⟩
theorem kw_549 : (Jvm.Cond.fieldLink "BonnetValley$Turning" (9 : Nat) "BonnetValley$Turning" "seen" "[I") ∈ kALL := kin_2 (n := 160) ⟨rfl, by decide +kernel⟩
theorem kw_550 : (Jvm.Cond.fieldLink "BonnetValley$Turning" (15 : Nat) "BonnetValley$Turning" "need" "[I") ∈ kALL := kin_2 (n := 161) ⟨rfl, by decide +kernel⟩
theorem kw_551 : (Jvm.Cond.fieldLink "BonnetValley$Turning" (18 : Nat) "BonnetValley$State" "goods" "I") ∈ kALL := kin_2 (n := 44) ⟨rfl, by decide +kernel⟩
theorem kw_552 : (Jvm.Cond.fieldLink "BonnetValley$Turning" (24 : Nat) "BonnetValley$State" "persons" "I") ∈ kALL := kin_2 (n := 40) ⟨rfl, by decide +kernel⟩
theorem kw_553 : (Jvm.Cond.methodLink "BonnetValley$Turning" (27 : Nat) ({ cls := "java/lang/Math", name := "min", desc := "(II)I" } : Jvm.MethodName)) ∈ kALL := kin_5 (n := 52) ⟨rfl, by decide +kernel⟩
theorem kw_554 : (Jvm.Cond.methodLink "BonnetValley$Turning" (33 : Nat) ({ cls := "java/lang/Math", name := "max", desc := "(II)I" } : Jvm.MethodName)) ∈ kALL := kin_5 (n := 53) ⟨rfl, by decide +kernel⟩
theorem kw_555 : (Jvm.Cond.methodLink "BonnetValley$Turning" (36 : Nat) ({ cls := "BonnetValley$Turning", name := "least", desc := "(LBonnetValley$State;II)I" } : Jvm.MethodName)) ∈ kALL := kin_5 (n := 54) ⟨rfl, by decide +kernel⟩
theorem kw_556 : (Jvm.Cond.instanceMethod ({ cls := "BonnetValley$Turning", name := "least", desc := "(LBonnetValley$State;II)I" } : Jvm.MethodName)) ∈ kALL := kin_5 (n := 56) ⟨rfl, by decide +kernel⟩
theorem kw_557 : (Jvm.Cond.selects "BonnetValley$Turning" ({ cls := "BonnetValley$Turning", name := "least", desc := "(LBonnetValley$State;II)I" } : Jvm.MethodName) ({ cls := "BonnetValley$Turning", name := "least", desc := "(LBonnetValley$State;II)I" } : Jvm.MethodName)) ∈ kALL := kin_0 (n := 26) (by decide +kernel)
theorem kw_558 : (Jvm.Cond.methodLink "BonnetValley$Turning" (40 : Nat) ({ cls := "BonnetValley$Turning", name := "withFacing", desc := "(LBonnetValley$State;III)I" } : Jvm.MethodName)) ∈ kALL := kin_5 (n := 58) ⟨rfl, by decide +kernel⟩
theorem kw_559 : (Jvm.Cond.instanceMethod ({ cls := "BonnetValley$Turning", name := "withFacing", desc := "(LBonnetValley$State;III)I" } : Jvm.MethodName)) ∈ kALL := kin_5 (n := 60) ⟨rfl, by decide +kernel⟩
theorem kw_560 : (Jvm.Cond.selects "BonnetValley$Turning" ({ cls := "BonnetValley$Turning", name := "withFacing", desc := "(LBonnetValley$State;III)I" } : Jvm.MethodName) ({ cls := "BonnetValley$Turning", name := "withFacing", desc := "(LBonnetValley$State;III)I" } : Jvm.MethodName)) ∈ kALL := kin_0 (n := 27) (by decide +kernel)
theorem kw_561 : (Jvm.Cond.fieldLink "BonnetValley$Turning" (44 : Nat) "BonnetValley$State" "facing" "[I") ∈ kALL := kin_2 (n := 53) ⟨rfl, by decide +kernel⟩
theorem kw_562 : (Jvm.Cond.methodLink "BonnetValley$Turning" (47 : Nat) ({ cls := "BonnetValley$Numbers", name := "add", desc := "(J)LBonnetValley$Numbers;" } : Jvm.MethodName)) ∈ kALL := kin_5 (n := 66) ⟨rfl, by decide +kernel⟩
theorem kw_563 : (Jvm.Cond.classLink "BonnetValleyLaw" (8 : Nat) "BonnetValley") ∈ kALL := kin_1 (n := 29) ⟨rfl, by decide +kernel⟩
theorem kw_564 : (Jvm.Cond.methodLink "BonnetValleyLaw" (22 : Nat) ({ cls := "BonnetValley", name := "<init>", desc := "()V" } : Jvm.MethodName)) ∈ kALL := kin_1 (n := 31) ⟨rfl, by decide +kernel⟩
theorem kw_565 : (Jvm.Cond.instanceMethod ({ cls := "BonnetValley", name := "<init>", desc := "()V" } : Jvm.MethodName)) ∈ kALL := kin_1 (n := 32) ⟨rfl, by decide +kernel⟩
theorem kw_566 : (Jvm.Cond.classLink "BonnetValleyLaw" (23 : Nat) "BonnetValleyModel") ∈ kALL := kin_6 (n := 74) ⟨rfl, by decide +kernel⟩
theorem kw_567 : (Jvm.Cond.methodLink "BonnetValleyLaw" (25 : Nat) ({ cls := "BonnetValleyModel", name := "<init>", desc := "()V" } : Jvm.MethodName)) ∈ kALL := kin_6 (n := 76) ⟨rfl, by decide +kernel⟩
theorem kw_568 : (Jvm.Cond.instanceMethod ({ cls := "BonnetValleyModel", name := "<init>", desc := "()V" } : Jvm.MethodName)) ∈ kALL := kin_6 (n := 77) ⟨rfl, by decide +kernel⟩
theorem kw_569 : (Jvm.Cond.methodLink "BonnetValleyLaw" (26 : Nat) ({ cls := "BonnetValley", name := "sign", desc := "(I)I" } : Jvm.MethodName)) ∈ kALL := kin_2 (n := 233) ⟨rfl, by decide +kernel⟩
theorem kw_570 : (Jvm.Cond.instanceMethod ({ cls := "BonnetValley", name := "sign", desc := "(I)I" } : Jvm.MethodName)) ∈ kALL := kin_2 (n := 234) ⟨rfl, by decide +kernel⟩
theorem kw_571 : (Jvm.Cond.selects "BonnetValley" ({ cls := "BonnetValley", name := "sign", desc := "(I)I" } : Jvm.MethodName) ({ cls := "BonnetValley", name := "sign", desc := "(I)I" } : Jvm.MethodName)) ∈ kALL := kin_2 (n := 235) ⟨rfl, by decide +kernel⟩
theorem kw_572 : (Jvm.Cond.methodLink "BonnetValleyLaw" (30 : Nat) ({ cls := "BonnetValleyModel", name := "sign", desc := "(I)I" } : Jvm.MethodName)) ∈ kALL := kin_6 (n := 228) ⟨rfl, by decide +kernel⟩
theorem kw_573 : (Jvm.Cond.instanceMethod ({ cls := "BonnetValleyModel", name := "sign", desc := "(I)I" } : Jvm.MethodName)) ∈ kALL := kin_6 (n := 229) ⟨rfl, by decide +kernel⟩
theorem kw_574 : (Jvm.Cond.selects "BonnetValleyModel" ({ cls := "BonnetValleyModel", name := "sign", desc := "(I)I" } : Jvm.MethodName) ({ cls := "BonnetValleyModel", name := "sign", desc := "(I)I" } : Jvm.MethodName)) ∈ kALL := kin_6 (n := 230) ⟨rfl, by decide +kernel⟩
theorem kw_575 : (Jvm.Cond.methodLink "BonnetValleyLaw" (31 : Nat) ({ cls := "BonnetValley", name := "end", desc := "(I)Z" } : Jvm.MethodName)) ∈ kALL := kin_3 (n := 5) ⟨rfl, by decide +kernel⟩
theorem kw_576 : (Jvm.Cond.instanceMethod ({ cls := "BonnetValley", name := "end", desc := "(I)Z" } : Jvm.MethodName)) ∈ kALL := kin_3 (n := 6) ⟨rfl, by decide +kernel⟩
theorem kw_577 : (Jvm.Cond.selects "BonnetValley" ({ cls := "BonnetValley", name := "end", desc := "(I)Z" } : Jvm.MethodName) ({ cls := "BonnetValley", name := "end", desc := "(I)Z" } : Jvm.MethodName)) ∈ kALL := kin_3 (n := 7) ⟨rfl, by decide +kernel⟩
theorem kw_578 : (Jvm.Cond.methodLink "BonnetValleyLaw" (35 : Nat) ({ cls := "BonnetValleyModel", name := "end", desc := "(I)Z" } : Jvm.MethodName)) ∈ kALL := kin_6 (n := 232) ⟨rfl, by decide +kernel⟩
theorem kw_579 : (Jvm.Cond.instanceMethod ({ cls := "BonnetValleyModel", name := "end", desc := "(I)Z" } : Jvm.MethodName)) ∈ kALL := kin_6 (n := 233) ⟨rfl, by decide +kernel⟩
theorem kw_580 : (Jvm.Cond.selects "BonnetValleyModel" ({ cls := "BonnetValleyModel", name := "end", desc := "(I)Z" } : Jvm.MethodName) ({ cls := "BonnetValleyModel", name := "end", desc := "(I)Z" } : Jvm.MethodName)) ∈ kALL := kin_6 (n := 234) ⟨rfl, by decide +kernel⟩
theorem kw_581 : (Jvm.Cond.methodLink "BonnetValleyLaw" (36 : Nat) ({ cls := "BonnetValley", name := "valley", desc := "()I" } : Jvm.MethodName)) ∈ kALL := kin_3 (n := 13) ⟨rfl, by decide +kernel⟩
theorem kw_582 : (Jvm.Cond.instanceMethod ({ cls := "BonnetValley", name := "valley", desc := "()I" } : Jvm.MethodName)) ∈ kALL := kin_3 (n := 14) ⟨rfl, by decide +kernel⟩
theorem kw_583 : (Jvm.Cond.selects "BonnetValley" ({ cls := "BonnetValley", name := "valley", desc := "()I" } : Jvm.MethodName) ({ cls := "BonnetValley", name := "valley", desc := "()I" } : Jvm.MethodName)) ∈ kALL := kin_3 (n := 15) ⟨rfl, by decide +kernel⟩
theorem kw_584 : (Jvm.Cond.methodLink "BonnetValleyLaw" (40 : Nat) ({ cls := "BonnetValleyModel", name := "valley", desc := "()I" } : Jvm.MethodName)) ∈ kALL := kin_6 (n := 239) ⟨rfl, by decide +kernel⟩
theorem kw_585 : (Jvm.Cond.instanceMethod ({ cls := "BonnetValleyModel", name := "valley", desc := "()I" } : Jvm.MethodName)) ∈ kALL := kin_7 (n := 0) ⟨rfl, by decide +kernel⟩
theorem kw_586 : (Jvm.Cond.selects "BonnetValleyModel" ({ cls := "BonnetValleyModel", name := "valley", desc := "()I" } : Jvm.MethodName) ({ cls := "BonnetValleyModel", name := "valley", desc := "()I" } : Jvm.MethodName)) ∈ kALL := kin_7 (n := 1) ⟨rfl, by decide +kernel⟩
theorem kw_587 : (Jvm.Cond.methodLink "BonnetValleyLaw" (41 : Nat) ({ cls := "BonnetValley", name := "people", desc := "()I" } : Jvm.MethodName)) ∈ kALL := kin_3 (n := 51) ⟨rfl, by decide +kernel⟩
theorem kw_588 : (Jvm.Cond.instanceMethod ({ cls := "BonnetValley", name := "people", desc := "()I" } : Jvm.MethodName)) ∈ kALL := kin_3 (n := 52) ⟨rfl, by decide +kernel⟩
theorem kw_589 : (Jvm.Cond.selects "BonnetValley" ({ cls := "BonnetValley", name := "people", desc := "()I" } : Jvm.MethodName) ({ cls := "BonnetValley", name := "people", desc := "()I" } : Jvm.MethodName)) ∈ kALL := kin_3 (n := 53) ⟨rfl, by decide +kernel⟩
theorem kw_590 : (Jvm.Cond.methodLink "BonnetValleyLaw" (44 : Nat) ({ cls := "BonnetValleyModel", name := "people", desc := "()I" } : Jvm.MethodName)) ∈ kALL := kin_7 (n := 42) ⟨rfl, by decide +kernel⟩
theorem kw_591 : (Jvm.Cond.instanceMethod ({ cls := "BonnetValleyModel", name := "people", desc := "()I" } : Jvm.MethodName)) ∈ kALL := kin_7 (n := 43) ⟨rfl, by decide +kernel⟩
theorem kw_592 : (Jvm.Cond.selects "BonnetValleyModel" ({ cls := "BonnetValleyModel", name := "people", desc := "()I" } : Jvm.MethodName) ({ cls := "BonnetValleyModel", name := "people", desc := "()I" } : Jvm.MethodName)) ∈ kALL := kin_7 (n := 44) ⟨rfl, by decide +kernel⟩
theorem kw_593 : (Jvm.Cond.methodLink "BonnetValleyLaw" (45 : Nat) ({ cls := "BonnetValley", name := "things", desc := "()I" } : Jvm.MethodName)) ∈ kALL := kin_3 (n := 94) ⟨rfl, by decide +kernel⟩
theorem kw_594 : (Jvm.Cond.instanceMethod ({ cls := "BonnetValley", name := "things", desc := "()I" } : Jvm.MethodName)) ∈ kALL := kin_3 (n := 95) ⟨rfl, by decide +kernel⟩
theorem kw_595 : (Jvm.Cond.selects "BonnetValley" ({ cls := "BonnetValley", name := "things", desc := "()I" } : Jvm.MethodName) ({ cls := "BonnetValley", name := "things", desc := "()I" } : Jvm.MethodName)) ∈ kALL := kin_3 (n := 96) ⟨rfl, by decide +kernel⟩
theorem kw_596 : (Jvm.Cond.methodLink "BonnetValleyLaw" (48 : Nat) ({ cls := "BonnetValleyModel", name := "things", desc := "()I" } : Jvm.MethodName)) ∈ kALL := kin_7 (n := 77) ⟨rfl, by decide +kernel⟩
theorem kw_597 : (Jvm.Cond.instanceMethod ({ cls := "BonnetValleyModel", name := "things", desc := "()I" } : Jvm.MethodName)) ∈ kALL := kin_7 (n := 78) ⟨rfl, by decide +kernel⟩
theorem kw_598 : (Jvm.Cond.selects "BonnetValleyModel" ({ cls := "BonnetValleyModel", name := "things", desc := "()I" } : Jvm.MethodName) ({ cls := "BonnetValleyModel", name := "things", desc := "()I" } : Jvm.MethodName)) ∈ kALL := kin_7 (n := 79) ⟨rfl, by decide +kernel⟩
theorem kw_599 : (Jvm.Cond.methodLink "BonnetValleyLaw" (49 : Nat) ({ cls := "BonnetValley", name := "light", desc := "()I" } : Jvm.MethodName)) ∈ kALL := kin_3 (n := 102) ⟨rfl, by decide +kernel⟩
theorem kw_600 : (Jvm.Cond.instanceMethod ({ cls := "BonnetValley", name := "light", desc := "()I" } : Jvm.MethodName)) ∈ kALL := kin_3 (n := 103) ⟨rfl, by decide +kernel⟩
theorem kw_601 : (Jvm.Cond.selects "BonnetValley" ({ cls := "BonnetValley", name := "light", desc := "()I" } : Jvm.MethodName) ({ cls := "BonnetValley", name := "light", desc := "()I" } : Jvm.MethodName)) ∈ kALL := kin_3 (n := 104) ⟨rfl, by decide +kernel⟩
theorem kw_602 : (Jvm.Cond.methodLink "BonnetValleyLaw" (52 : Nat) ({ cls := "BonnetValleyModel", name := "light", desc := "()I" } : Jvm.MethodName)) ∈ kALL := kin_7 (n := 81) ⟨rfl, by decide +kernel⟩
theorem kw_603 : (Jvm.Cond.instanceMethod ({ cls := "BonnetValleyModel", name := "light", desc := "()I" } : Jvm.MethodName)) ∈ kALL := kin_7 (n := 82) ⟨rfl, by decide +kernel⟩
theorem kw_604 : (Jvm.Cond.selects "BonnetValleyModel" ({ cls := "BonnetValleyModel", name := "light", desc := "()I" } : Jvm.MethodName) ({ cls := "BonnetValleyModel", name := "light", desc := "()I" } : Jvm.MethodName)) ∈ kALL := kin_7 (n := 83) ⟨rfl, by decide +kernel⟩
theorem kw_605 : (Jvm.Cond.methodLink "BonnetValleyLaw" (53 : Nat) ({ cls := "BonnetValley", name := "rule", desc := "()I" } : Jvm.MethodName)) ∈ kALL := kin_3 (n := 112) ⟨rfl, by decide +kernel⟩
theorem kw_606 : (Jvm.Cond.instanceMethod ({ cls := "BonnetValley", name := "rule", desc := "()I" } : Jvm.MethodName)) ∈ kALL := kin_3 (n := 113) ⟨rfl, by decide +kernel⟩
theorem kw_607 : (Jvm.Cond.selects "BonnetValley" ({ cls := "BonnetValley", name := "rule", desc := "()I" } : Jvm.MethodName) ({ cls := "BonnetValley", name := "rule", desc := "()I" } : Jvm.MethodName)) ∈ kALL := kin_3 (n := 114) ⟨rfl, by decide +kernel⟩
theorem kw_608 : (Jvm.Cond.methodLink "BonnetValleyLaw" (56 : Nat) ({ cls := "BonnetValleyModel", name := "rule", desc := "()I" } : Jvm.MethodName)) ∈ kALL := kin_7 (n := 95) ⟨rfl, by decide +kernel⟩
theorem kw_609 : (Jvm.Cond.instanceMethod ({ cls := "BonnetValleyModel", name := "rule", desc := "()I" } : Jvm.MethodName)) ∈ kALL := kin_7 (n := 96) ⟨rfl, by decide +kernel⟩
theorem kw_610 : (Jvm.Cond.selects "BonnetValleyModel" ({ cls := "BonnetValleyModel", name := "rule", desc := "()I" } : Jvm.MethodName) ({ cls := "BonnetValleyModel", name := "rule", desc := "()I" } : Jvm.MethodName)) ∈ kALL := kin_7 (n := 97) ⟨rfl, by decide +kernel⟩
theorem kw_611 : (Jvm.Cond.methodLink "BonnetValleyLaw" (62 : Nat) ({ cls := "BonnetValleyModel", name := "person", desc := "(II)I" } : Jvm.MethodName)) ∈ kALL := kin_7 (n := 123) ⟨rfl, by decide +kernel⟩
theorem kw_612 : (Jvm.Cond.instanceMethod ({ cls := "BonnetValleyModel", name := "person", desc := "(II)I" } : Jvm.MethodName)) ∈ kALL := kin_7 (n := 124) ⟨rfl, by decide +kernel⟩
theorem kw_613 : (Jvm.Cond.selects "BonnetValleyModel" ({ cls := "BonnetValleyModel", name := "person", desc := "(II)I" } : Jvm.MethodName) ({ cls := "BonnetValleyModel", name := "person", desc := "(II)I" } : Jvm.MethodName)) ∈ kALL := kin_7 (n := 125) ⟨rfl, by decide +kernel⟩
theorem kw_614 : (Jvm.Cond.methodLink "BonnetValleyLaw" (65 : Nat) ({ cls := "BonnetValleyModel", name := "thing", desc := "(II)I" } : Jvm.MethodName)) ∈ kALL := kin_7 (n := 182) ⟨rfl, by decide +kernel⟩
theorem kw_615 : (Jvm.Cond.instanceMethod ({ cls := "BonnetValleyModel", name := "thing", desc := "(II)I" } : Jvm.MethodName)) ∈ kALL := kin_7 (n := 183) ⟨rfl, by decide +kernel⟩
theorem kw_616 : (Jvm.Cond.selects "BonnetValleyModel" ({ cls := "BonnetValleyModel", name := "thing", desc := "(II)I" } : Jvm.MethodName) ({ cls := "BonnetValleyModel", name := "thing", desc := "(II)I" } : Jvm.MethodName)) ∈ kALL := kin_7 (n := 184) ⟨rfl, by decide +kernel⟩
theorem kw_617 : (Jvm.Cond.methodLink "BonnetValleyLaw" (66 : Nat) ({ cls := "BonnetValleyModel", name := "thrown", desc := "()I" } : Jvm.MethodName)) ∈ kALL := kin_6 (n := 70) ⟨rfl, by decide +kernel⟩
theorem kw_618 : (Jvm.Cond.instanceMethod ({ cls := "BonnetValleyModel", name := "thrown", desc := "()I" } : Jvm.MethodName)) ∈ kALL := kin_6 (n := 71) ⟨rfl, by decide +kernel⟩
theorem kw_619 : (Jvm.Cond.selects "BonnetValleyModel" ({ cls := "BonnetValleyModel", name := "thrown", desc := "()I" } : Jvm.MethodName) ({ cls := "BonnetValleyModel", name := "thrown", desc := "()I" } : Jvm.MethodName)) ∈ kALL := kin_6 (n := 72) ⟨rfl, by decide +kernel⟩
theorem kw_620 : (Jvm.Cond.methodLink "BonnetValleyLaw" (69 : Nat) ({ cls := "BonnetValley", name := "sheet", desc := "(IIII)I" } : Jvm.MethodName)) ∈ kALL := kin_3 (n := 161) ⟨rfl, by decide +kernel⟩
theorem kw_621 : (Jvm.Cond.instanceMethod ({ cls := "BonnetValley", name := "sheet", desc := "(IIII)I" } : Jvm.MethodName)) ∈ kALL := kin_3 (n := 162) ⟨rfl, by decide +kernel⟩
theorem kw_622 : (Jvm.Cond.selects "BonnetValley" ({ cls := "BonnetValley", name := "sheet", desc := "(IIII)I" } : Jvm.MethodName) ({ cls := "BonnetValley", name := "sheet", desc := "(IIII)I" } : Jvm.MethodName)) ∈ kALL := kin_3 (n := 163) ⟨rfl, by decide +kernel⟩
theorem kw_623 : (Jvm.Cond.methodLink "BonnetValleyLaw" (73 : Nat) ({ cls := "BonnetValleyModel", name := "sheet", desc := "(IIII)I" } : Jvm.MethodName)) ∈ kALL := kin_7 (n := 203) ⟨rfl, by decide +kernel⟩
theorem kw_624 : (Jvm.Cond.instanceMethod ({ cls := "BonnetValleyModel", name := "sheet", desc := "(IIII)I" } : Jvm.MethodName)) ∈ kALL := kin_7 (n := 204) ⟨rfl, by decide +kernel⟩
theorem kw_625 : (Jvm.Cond.selects "BonnetValleyModel" ({ cls := "BonnetValleyModel", name := "sheet", desc := "(IIII)I" } : Jvm.MethodName) ({ cls := "BonnetValleyModel", name := "sheet", desc := "(IIII)I" } : Jvm.MethodName)) ∈ kALL := kin_7 (n := 205) ⟨rfl, by decide +kernel⟩
theorem kw_626 : (Jvm.Cond.methodLink "BonnetValleyLaw" (74 : Nat) ({ cls := "BonnetValley", name := "hours", desc := "(I)I" } : Jvm.MethodName)) ∈ kALL := kin_3 (n := 177) ⟨rfl, by decide +kernel⟩
theorem kw_627 : (Jvm.Cond.instanceMethod ({ cls := "BonnetValley", name := "hours", desc := "(I)I" } : Jvm.MethodName)) ∈ kALL := kin_3 (n := 178) ⟨rfl, by decide +kernel⟩
theorem kw_628 : (Jvm.Cond.selects "BonnetValley" ({ cls := "BonnetValley", name := "hours", desc := "(I)I" } : Jvm.MethodName) ({ cls := "BonnetValley", name := "hours", desc := "(I)I" } : Jvm.MethodName)) ∈ kALL := kin_3 (n := 179) ⟨rfl, by decide +kernel⟩
theorem kw_629 : (Jvm.Cond.methodLink "BonnetValleyLaw" (77 : Nat) ({ cls := "BonnetValleyModel", name := "hours", desc := "(I)I" } : Jvm.MethodName)) ∈ kALL := kin_7 (n := 212) ⟨rfl, by decide +kernel⟩
theorem kw_630 : (Jvm.Cond.instanceMethod ({ cls := "BonnetValleyModel", name := "hours", desc := "(I)I" } : Jvm.MethodName)) ∈ kALL := kin_7 (n := 213) ⟨rfl, by decide +kernel⟩
theorem kw_631 : (Jvm.Cond.selects "BonnetValleyModel" ({ cls := "BonnetValleyModel", name := "hours", desc := "(I)I" } : Jvm.MethodName) ({ cls := "BonnetValleyModel", name := "hours", desc := "(I)I" } : Jvm.MethodName)) ∈ kALL := kin_7 (n := 214) ⟨rfl, by decide +kernel⟩
theorem kw_632 : (Jvm.Cond.methodLink "BonnetValleyLaw" (78 : Nat) ({ cls := "BonnetValley", name := "faces", desc := "(II)I" } : Jvm.MethodName)) ∈ kALL := kin_4 (n := 68) ⟨rfl, by decide +kernel⟩
theorem kw_633 : (Jvm.Cond.instanceMethod ({ cls := "BonnetValley", name := "faces", desc := "(II)I" } : Jvm.MethodName)) ∈ kALL := kin_4 (n := 69) ⟨rfl, by decide +kernel⟩
theorem kw_634 : (Jvm.Cond.selects "BonnetValley" ({ cls := "BonnetValley", name := "faces", desc := "(II)I" } : Jvm.MethodName) ({ cls := "BonnetValley", name := "faces", desc := "(II)I" } : Jvm.MethodName)) ∈ kALL := kin_4 (n := 70) ⟨rfl, by decide +kernel⟩
theorem kw_635 : (Jvm.Cond.methodLink "BonnetValleyLaw" (81 : Nat) ({ cls := "BonnetValleyModel", name := "faces", desc := "(II)I" } : Jvm.MethodName)) ∈ kALL := kin_8 (n := 9) ⟨rfl, by decide +kernel⟩
theorem kw_636 : (Jvm.Cond.instanceMethod ({ cls := "BonnetValleyModel", name := "faces", desc := "(II)I" } : Jvm.MethodName)) ∈ kALL := kin_8 (n := 10) ⟨rfl, by decide +kernel⟩
theorem kw_637 : (Jvm.Cond.selects "BonnetValleyModel" ({ cls := "BonnetValleyModel", name := "faces", desc := "(II)I" } : Jvm.MethodName) ({ cls := "BonnetValleyModel", name := "faces", desc := "(II)I" } : Jvm.MethodName)) ∈ kALL := kin_8 (n := 11) ⟨rfl, by decide +kernel⟩
theorem kw_638 : (Jvm.Cond.methodLink "BonnetValleyLaw" (82 : Nat) ({ cls := "BonnetValley", name := "steps", desc := "(II)I" } : Jvm.MethodName)) ∈ kALL := kin_4 (n := 81) ⟨rfl, by decide +kernel⟩
theorem kw_639 : (Jvm.Cond.instanceMethod ({ cls := "BonnetValley", name := "steps", desc := "(II)I" } : Jvm.MethodName)) ∈ kALL := kin_4 (n := 82) ⟨rfl, by decide +kernel⟩
theorem kw_640 : (Jvm.Cond.selects "BonnetValley" ({ cls := "BonnetValley", name := "steps", desc := "(II)I" } : Jvm.MethodName) ({ cls := "BonnetValley", name := "steps", desc := "(II)I" } : Jvm.MethodName)) ∈ kALL := kin_4 (n := 83) ⟨rfl, by decide +kernel⟩
theorem kw_641 : (Jvm.Cond.methodLink "BonnetValleyLaw" (85 : Nat) ({ cls := "BonnetValleyModel", name := "steps", desc := "(II)I" } : Jvm.MethodName)) ∈ kALL := kin_8 (n := 22) ⟨rfl, by decide +kernel⟩
theorem kw_642 : (Jvm.Cond.instanceMethod ({ cls := "BonnetValleyModel", name := "steps", desc := "(II)I" } : Jvm.MethodName)) ∈ kALL := kin_8 (n := 23) ⟨rfl, by decide +kernel⟩
theorem kw_643 : (Jvm.Cond.selects "BonnetValleyModel" ({ cls := "BonnetValleyModel", name := "steps", desc := "(II)I" } : Jvm.MethodName) ({ cls := "BonnetValleyModel", name := "steps", desc := "(II)I" } : Jvm.MethodName)) ∈ kALL := kin_8 (n := 24) ⟨rfl, by decide +kernel⟩
theorem kw_644 : (Jvm.Cond.methodLink "BonnetValleyLaw" (86 : Nat) ({ cls := "BonnetValley", name := "trims", desc := "(II)I" } : Jvm.MethodName)) ∈ kALL := kin_4 (n := 99) ⟨rfl, by decide +kernel⟩
theorem kw_645 : (Jvm.Cond.instanceMethod ({ cls := "BonnetValley", name := "trims", desc := "(II)I" } : Jvm.MethodName)) ∈ kALL := kin_4 (n := 100) ⟨rfl, by decide +kernel⟩
theorem kw_646 : (Jvm.Cond.selects "BonnetValley" ({ cls := "BonnetValley", name := "trims", desc := "(II)I" } : Jvm.MethodName) ({ cls := "BonnetValley", name := "trims", desc := "(II)I" } : Jvm.MethodName)) ∈ kALL := kin_4 (n := 101) ⟨rfl, by decide +kernel⟩
theorem kw_647 : (Jvm.Cond.methodLink "BonnetValleyLaw" (89 : Nat) ({ cls := "BonnetValleyModel", name := "trims", desc := "(II)I" } : Jvm.MethodName)) ∈ kALL := kin_8 (n := 34) ⟨rfl, by decide +kernel⟩
theorem kw_648 : (Jvm.Cond.instanceMethod ({ cls := "BonnetValleyModel", name := "trims", desc := "(II)I" } : Jvm.MethodName)) ∈ kALL := kin_8 (n := 35) ⟨rfl, by decide +kernel⟩
theorem kw_649 : (Jvm.Cond.selects "BonnetValleyModel" ({ cls := "BonnetValleyModel", name := "trims", desc := "(II)I" } : Jvm.MethodName) ({ cls := "BonnetValleyModel", name := "trims", desc := "(II)I" } : Jvm.MethodName)) ∈ kALL := kin_8 (n := 36) ⟨rfl, by decide +kernel⟩
theorem kw_650 : (Jvm.Cond.methodLink "BonnetValleyLaw" (90 : Nat) ({ cls := "BonnetValley", name := "puts", desc := "(II)I" } : Jvm.MethodName)) ∈ kALL := kin_4 (n := 107) ⟨rfl, by decide +kernel⟩
theorem kw_651 : (Jvm.Cond.instanceMethod ({ cls := "BonnetValley", name := "puts", desc := "(II)I" } : Jvm.MethodName)) ∈ kALL := kin_4 (n := 108) ⟨rfl, by decide +kernel⟩
theorem kw_652 : (Jvm.Cond.selects "BonnetValley" ({ cls := "BonnetValley", name := "puts", desc := "(II)I" } : Jvm.MethodName) ({ cls := "BonnetValley", name := "puts", desc := "(II)I" } : Jvm.MethodName)) ∈ kALL := kin_4 (n := 109) ⟨rfl, by decide +kernel⟩
theorem kw_653 : (Jvm.Cond.methodLink "BonnetValleyLaw" (93 : Nat) ({ cls := "BonnetValleyModel", name := "puts", desc := "(II)I" } : Jvm.MethodName)) ∈ kALL := kin_8 (n := 43) ⟨rfl, by decide +kernel⟩
theorem kw_654 : (Jvm.Cond.instanceMethod ({ cls := "BonnetValleyModel", name := "puts", desc := "(II)I" } : Jvm.MethodName)) ∈ kALL := kin_8 (n := 44) ⟨rfl, by decide +kernel⟩
theorem kw_655 : (Jvm.Cond.selects "BonnetValleyModel" ({ cls := "BonnetValleyModel", name := "puts", desc := "(II)I" } : Jvm.MethodName) ({ cls := "BonnetValleyModel", name := "puts", desc := "(II)I" } : Jvm.MethodName)) ∈ kALL := kin_8 (n := 45) ⟨rfl, by decide +kernel⟩
theorem kw_656 : (Jvm.Cond.methodLink "BonnetValleyLaw" (94 : Nat) ({ cls := "BonnetValley", name := "day", desc := "()I" } : Jvm.MethodName)) ∈ kALL := kin_4 (n := 120) ⟨rfl, by decide +kernel⟩
theorem kw_657 : (Jvm.Cond.instanceMethod ({ cls := "BonnetValley", name := "day", desc := "()I" } : Jvm.MethodName)) ∈ kALL := kin_4 (n := 121) ⟨rfl, by decide +kernel⟩
theorem kw_658 : (Jvm.Cond.selects "BonnetValley" ({ cls := "BonnetValley", name := "day", desc := "()I" } : Jvm.MethodName) ({ cls := "BonnetValley", name := "day", desc := "()I" } : Jvm.MethodName)) ∈ kALL := kin_4 (n := 122) ⟨rfl, by decide +kernel⟩
theorem kw_659 : (Jvm.Cond.methodLink "BonnetValleyLaw" (97 : Nat) ({ cls := "BonnetValleyModel", name := "day", desc := "()I" } : Jvm.MethodName)) ∈ kALL := kin_8 (n := 55) ⟨rfl, by decide +kernel⟩
theorem kw_660 : (Jvm.Cond.instanceMethod ({ cls := "BonnetValleyModel", name := "day", desc := "()I" } : Jvm.MethodName)) ∈ kALL := kin_8 (n := 56) ⟨rfl, by decide +kernel⟩
theorem kw_661 : (Jvm.Cond.selects "BonnetValleyModel" ({ cls := "BonnetValleyModel", name := "day", desc := "()I" } : Jvm.MethodName) ({ cls := "BonnetValleyModel", name := "day", desc := "()I" } : Jvm.MethodName)) ∈ kALL := kin_8 (n := 57) ⟨rfl, by decide +kernel⟩
theorem kw_662 : (Jvm.Cond.methodLink "BonnetValleyLaw" (98 : Nat) ({ cls := "BonnetValley", name := "undo", desc := "()I" } : Jvm.MethodName)) ∈ kALL := kin_4 (n := 158) ⟨rfl, by decide +kernel⟩
theorem kw_663 : (Jvm.Cond.instanceMethod ({ cls := "BonnetValley", name := "undo", desc := "()I" } : Jvm.MethodName)) ∈ kALL := kin_4 (n := 159) ⟨rfl, by decide +kernel⟩
theorem kw_664 : (Jvm.Cond.selects "BonnetValley" ({ cls := "BonnetValley", name := "undo", desc := "()I" } : Jvm.MethodName) ({ cls := "BonnetValley", name := "undo", desc := "()I" } : Jvm.MethodName)) ∈ kALL := kin_4 (n := 160) ⟨rfl, by decide +kernel⟩
theorem kw_665 : (Jvm.Cond.methodLink "BonnetValleyLaw" (101 : Nat) ({ cls := "BonnetValleyModel", name := "undo", desc := "()I" } : Jvm.MethodName)) ∈ kALL := kin_7 (n := 208) ⟨rfl, by decide +kernel⟩
theorem kw_666 : (Jvm.Cond.instanceMethod ({ cls := "BonnetValleyModel", name := "undo", desc := "()I" } : Jvm.MethodName)) ∈ kALL := kin_7 (n := 209) ⟨rfl, by decide +kernel⟩
theorem kw_667 : (Jvm.Cond.selects "BonnetValleyModel" ({ cls := "BonnetValleyModel", name := "undo", desc := "()I" } : Jvm.MethodName) ({ cls := "BonnetValleyModel", name := "undo", desc := "()I" } : Jvm.MethodName)) ∈ kALL := kin_7 (n := 210) ⟨rfl, by decide +kernel⟩
theorem kw_668 : (Jvm.Cond.methodLink "BonnetValleyLaw" (102 : Nat) ({ cls := "BonnetValley", name := "sees", desc := "(I)J" } : Jvm.MethodName)) ∈ kALL := kin_4 (n := 170) ⟨rfl, by decide +kernel⟩
theorem kw_669 : (Jvm.Cond.instanceMethod ({ cls := "BonnetValley", name := "sees", desc := "(I)J" } : Jvm.MethodName)) ∈ kALL := kin_4 (n := 171) ⟨rfl, by decide +kernel⟩
theorem kw_670 : (Jvm.Cond.selects "BonnetValley" ({ cls := "BonnetValley", name := "sees", desc := "(I)J" } : Jvm.MethodName) ({ cls := "BonnetValley", name := "sees", desc := "(I)J" } : Jvm.MethodName)) ∈ kALL := kin_4 (n := 172) ⟨rfl, by decide +kernel⟩
theorem kw_671 : (Jvm.Cond.methodLink "BonnetValleyLaw" (105 : Nat) ({ cls := "BonnetValleyModel", name := "sees", desc := "(I)J" } : Jvm.MethodName)) ∈ kALL := kin_8 (n := 68) ⟨rfl, by decide +kernel⟩
theorem kw_672 : (Jvm.Cond.instanceMethod ({ cls := "BonnetValleyModel", name := "sees", desc := "(I)J" } : Jvm.MethodName)) ∈ kALL := kin_8 (n := 69) ⟨rfl, by decide +kernel⟩
theorem kw_673 : (Jvm.Cond.selects "BonnetValleyModel" ({ cls := "BonnetValleyModel", name := "sees", desc := "(I)J" } : Jvm.MethodName) ({ cls := "BonnetValleyModel", name := "sees", desc := "(I)J" } : Jvm.MethodName)) ∈ kALL := kin_8 (n := 70) ⟨rfl, by decide +kernel⟩
theorem kw_674 : (Jvm.Cond.methodLink "BonnetValleyLaw" (106 : Nat) ({ cls := "BonnetValley", name := "seers", desc := "(I)I" } : Jvm.MethodName)) ∈ kALL := kin_4 (n := 189) ⟨rfl, by decide +kernel⟩
theorem kw_675 : (Jvm.Cond.instanceMethod ({ cls := "BonnetValley", name := "seers", desc := "(I)I" } : Jvm.MethodName)) ∈ kALL := kin_4 (n := 190) ⟨rfl, by decide +kernel⟩
theorem kw_676 : (Jvm.Cond.selects "BonnetValley" ({ cls := "BonnetValley", name := "seers", desc := "(I)I" } : Jvm.MethodName) ({ cls := "BonnetValley", name := "seers", desc := "(I)I" } : Jvm.MethodName)) ∈ kALL := kin_4 (n := 191) ⟨rfl, by decide +kernel⟩
theorem kw_677 : (Jvm.Cond.methodLink "BonnetValleyLaw" (109 : Nat) ({ cls := "BonnetValleyModel", name := "seers", desc := "(I)I" } : Jvm.MethodName)) ∈ kALL := kin_8 (n := 78) ⟨rfl, by decide +kernel⟩
theorem kw_678 : (Jvm.Cond.instanceMethod ({ cls := "BonnetValleyModel", name := "seers", desc := "(I)I" } : Jvm.MethodName)) ∈ kALL := kin_8 (n := 79) ⟨rfl, by decide +kernel⟩
theorem kw_679 : (Jvm.Cond.selects "BonnetValleyModel" ({ cls := "BonnetValleyModel", name := "seers", desc := "(I)I" } : Jvm.MethodName) ({ cls := "BonnetValleyModel", name := "seers", desc := "(I)I" } : Jvm.MethodName)) ∈ kALL := kin_8 (n := 80) ⟨rfl, by decide +kernel⟩
theorem kw_680 : (Jvm.Cond.methodLink "BonnetValleyLaw" (110 : Nat) ({ cls := "BonnetValley", name := "hidden", desc := "()J" } : Jvm.MethodName)) ∈ kALL := kin_4 (n := 203) ⟨rfl, by decide +kernel⟩
theorem kw_681 : (Jvm.Cond.instanceMethod ({ cls := "BonnetValley", name := "hidden", desc := "()J" } : Jvm.MethodName)) ∈ kALL := kin_4 (n := 204) ⟨rfl, by decide +kernel⟩
theorem kw_682 : (Jvm.Cond.selects "BonnetValley" ({ cls := "BonnetValley", name := "hidden", desc := "()J" } : Jvm.MethodName) ({ cls := "BonnetValley", name := "hidden", desc := "()J" } : Jvm.MethodName)) ∈ kALL := kin_4 (n := 205) ⟨rfl, by decide +kernel⟩
theorem kw_683 : (Jvm.Cond.methodLink "BonnetValleyLaw" (114 : Nat) ({ cls := "BonnetValleyModel", name := "hidden", desc := "()J" } : Jvm.MethodName)) ∈ kALL := kin_8 (n := 82) ⟨rfl, by decide +kernel⟩
theorem kw_684 : (Jvm.Cond.instanceMethod ({ cls := "BonnetValleyModel", name := "hidden", desc := "()J" } : Jvm.MethodName)) ∈ kALL := kin_8 (n := 83) ⟨rfl, by decide +kernel⟩
theorem kw_685 : (Jvm.Cond.selects "BonnetValleyModel" ({ cls := "BonnetValleyModel", name := "hidden", desc := "()J" } : Jvm.MethodName) ({ cls := "BonnetValleyModel", name := "hidden", desc := "()J" } : Jvm.MethodName)) ∈ kALL := kin_8 (n := 84) ⟨rfl, by decide +kernel⟩
theorem kw_686 : (Jvm.Cond.methodLink "BonnetValleyLaw" (115 : Nat) ({ cls := "BonnetValley", name := "pairs", desc := "()I" } : Jvm.MethodName)) ∈ kALL := kin_4 (n := 212) ⟨rfl, by decide +kernel⟩
theorem kw_687 : (Jvm.Cond.instanceMethod ({ cls := "BonnetValley", name := "pairs", desc := "()I" } : Jvm.MethodName)) ∈ kALL := kin_4 (n := 213) ⟨rfl, by decide +kernel⟩
theorem kw_688 : (Jvm.Cond.selects "BonnetValley" ({ cls := "BonnetValley", name := "pairs", desc := "()I" } : Jvm.MethodName) ({ cls := "BonnetValley", name := "pairs", desc := "()I" } : Jvm.MethodName)) ∈ kALL := kin_4 (n := 214) ⟨rfl, by decide +kernel⟩
theorem kw_689 : (Jvm.Cond.methodLink "BonnetValleyLaw" (118 : Nat) ({ cls := "BonnetValleyModel", name := "pairs", desc := "()I" } : Jvm.MethodName)) ∈ kALL := kin_8 (n := 94) ⟨rfl, by decide +kernel⟩
theorem kw_690 : (Jvm.Cond.instanceMethod ({ cls := "BonnetValleyModel", name := "pairs", desc := "()I" } : Jvm.MethodName)) ∈ kALL := kin_8 (n := 95) ⟨rfl, by decide +kernel⟩
theorem kw_691 : (Jvm.Cond.selects "BonnetValleyModel" ({ cls := "BonnetValleyModel", name := "pairs", desc := "()I" } : Jvm.MethodName) ({ cls := "BonnetValleyModel", name := "pairs", desc := "()I" } : Jvm.MethodName)) ∈ kALL := kin_8 (n := 96) ⟨rfl, by decide +kernel⟩
theorem kw_692 : (Jvm.Cond.methodLink "BonnetValleyLaw" (119 : Nat) ({ cls := "BonnetValley", name := "behind", desc := "(I)I" } : Jvm.MethodName)) ∈ kALL := kin_4 (n := 218) ⟨rfl, by decide +kernel⟩
theorem kw_693 : (Jvm.Cond.instanceMethod ({ cls := "BonnetValley", name := "behind", desc := "(I)I" } : Jvm.MethodName)) ∈ kALL := kin_4 (n := 219) ⟨rfl, by decide +kernel⟩
theorem kw_694 : (Jvm.Cond.selects "BonnetValley" ({ cls := "BonnetValley", name := "behind", desc := "(I)I" } : Jvm.MethodName) ({ cls := "BonnetValley", name := "behind", desc := "(I)I" } : Jvm.MethodName)) ∈ kALL := kin_4 (n := 220) ⟨rfl, by decide +kernel⟩
theorem kw_695 : (Jvm.Cond.methodLink "BonnetValleyLaw" (122 : Nat) ({ cls := "BonnetValleyModel", name := "behind", desc := "(I)I" } : Jvm.MethodName)) ∈ kALL := kin_8 (n := 98) ⟨rfl, by decide +kernel⟩
theorem kw_696 : (Jvm.Cond.instanceMethod ({ cls := "BonnetValleyModel", name := "behind", desc := "(I)I" } : Jvm.MethodName)) ∈ kALL := kin_8 (n := 99) ⟨rfl, by decide +kernel⟩
theorem kw_697 : (Jvm.Cond.selects "BonnetValleyModel" ({ cls := "BonnetValleyModel", name := "behind", desc := "(I)I" } : Jvm.MethodName) ({ cls := "BonnetValleyModel", name := "behind", desc := "(I)I" } : Jvm.MethodName)) ∈ kALL := kin_8 (n := 100) ⟨rfl, by decide +kernel⟩
theorem kw_698 : (Jvm.Cond.methodLink "BonnetValleyLaw" (123 : Nat) ({ cls := "BonnetValley", name := "widest", desc := "()I" } : Jvm.MethodName)) ∈ kALL := kin_4 (n := 226) ⟨rfl, by decide +kernel⟩
theorem kw_699 : (Jvm.Cond.instanceMethod ({ cls := "BonnetValley", name := "widest", desc := "()I" } : Jvm.MethodName)) ∈ kALL := kin_4 (n := 227) ⟨rfl, by decide +kernel⟩
theorem kw_700 : (Jvm.Cond.selects "BonnetValley" ({ cls := "BonnetValley", name := "widest", desc := "()I" } : Jvm.MethodName) ({ cls := "BonnetValley", name := "widest", desc := "()I" } : Jvm.MethodName)) ∈ kALL := kin_4 (n := 228) ⟨rfl, by decide +kernel⟩
theorem kw_701 : (Jvm.Cond.methodLink "BonnetValleyLaw" (126 : Nat) ({ cls := "BonnetValleyModel", name := "widest", desc := "()I" } : Jvm.MethodName)) ∈ kALL := kin_8 (n := 102) ⟨rfl, by decide +kernel⟩
theorem kw_702 : (Jvm.Cond.instanceMethod ({ cls := "BonnetValleyModel", name := "widest", desc := "()I" } : Jvm.MethodName)) ∈ kALL := kin_8 (n := 103) ⟨rfl, by decide +kernel⟩
theorem kw_703 : (Jvm.Cond.selects "BonnetValleyModel" ({ cls := "BonnetValleyModel", name := "widest", desc := "()I" } : Jvm.MethodName) ({ cls := "BonnetValleyModel", name := "widest", desc := "()I" } : Jvm.MethodName)) ∈ kALL := kin_8 (n := 104) ⟨rfl, by decide +kernel⟩
theorem kw_704 : (Jvm.Cond.methodLink "BonnetValleyLaw" (127 : Nat) ({ cls := "BonnetValley", name := "watch", desc := "()I" } : Jvm.MethodName)) ∈ kALL := kin_4 (n := 230) ⟨rfl, by decide +kernel⟩
theorem kw_705 : (Jvm.Cond.instanceMethod ({ cls := "BonnetValley", name := "watch", desc := "()I" } : Jvm.MethodName)) ∈ kALL := kin_4 (n := 231) ⟨rfl, by decide +kernel⟩
theorem kw_706 : (Jvm.Cond.selects "BonnetValley" ({ cls := "BonnetValley", name := "watch", desc := "()I" } : Jvm.MethodName) ({ cls := "BonnetValley", name := "watch", desc := "()I" } : Jvm.MethodName)) ∈ kALL := kin_4 (n := 232) ⟨rfl, by decide +kernel⟩
theorem kw_707 : (Jvm.Cond.methodLink "BonnetValleyLaw" (130 : Nat) ({ cls := "BonnetValleyModel", name := "watch", desc := "()I" } : Jvm.MethodName)) ∈ kALL := kin_8 (n := 106) ⟨rfl, by decide +kernel⟩
theorem kw_708 : (Jvm.Cond.instanceMethod ({ cls := "BonnetValleyModel", name := "watch", desc := "()I" } : Jvm.MethodName)) ∈ kALL := kin_8 (n := 107) ⟨rfl, by decide +kernel⟩
theorem kw_709 : (Jvm.Cond.selects "BonnetValleyModel" ({ cls := "BonnetValleyModel", name := "watch", desc := "()I" } : Jvm.MethodName) ({ cls := "BonnetValleyModel", name := "watch", desc := "()I" } : Jvm.MethodName)) ∈ kALL := kin_8 (n := 108) ⟨rfl, by decide +kernel⟩
theorem kw_710 : (Jvm.Cond.methodLink "BonnetValleyLaw" (131 : Nat) ({ cls := "BonnetValley", name := "learns", desc := "(II)I" } : Jvm.MethodName)) ∈ kALL := kin_4 (n := 238) ⟨rfl, by decide +kernel⟩
theorem kw_711 : (Jvm.Cond.instanceMethod ({ cls := "BonnetValley", name := "learns", desc := "(II)I" } : Jvm.MethodName)) ∈ kALL := kin_4 (n := 239) ⟨rfl, by decide +kernel⟩
theorem kw_712 : (Jvm.Cond.selects "BonnetValley" ({ cls := "BonnetValley", name := "learns", desc := "(II)I" } : Jvm.MethodName) ({ cls := "BonnetValley", name := "learns", desc := "(II)I" } : Jvm.MethodName)) ∈ kALL := kin_5 (n := 0) ⟨rfl, by decide +kernel⟩
theorem kw_713 : (Jvm.Cond.methodLink "BonnetValleyLaw" (134 : Nat) ({ cls := "BonnetValleyModel", name := "learns", desc := "(II)I" } : Jvm.MethodName)) ∈ kALL := kin_8 (n := 113) ⟨rfl, by decide +kernel⟩
theorem kw_714 : (Jvm.Cond.instanceMethod ({ cls := "BonnetValleyModel", name := "learns", desc := "(II)I" } : Jvm.MethodName)) ∈ kALL := kin_8 (n := 114) ⟨rfl, by decide +kernel⟩
theorem kw_715 : (Jvm.Cond.selects "BonnetValleyModel" ({ cls := "BonnetValleyModel", name := "learns", desc := "(II)I" } : Jvm.MethodName) ({ cls := "BonnetValleyModel", name := "learns", desc := "(II)I" } : Jvm.MethodName)) ∈ kALL := kin_8 (n := 115) ⟨rfl, by decide +kernel⟩
theorem kw_716 : (Jvm.Cond.methodLink "BonnetValleyLaw" (135 : Nat) ({ cls := "BonnetValley", name := "all", desc := "()I" } : Jvm.MethodName)) ∈ kALL := kin_5 (n := 6) ⟨rfl, by decide +kernel⟩
theorem kw_717 : (Jvm.Cond.instanceMethod ({ cls := "BonnetValley", name := "all", desc := "()I" } : Jvm.MethodName)) ∈ kALL := kin_5 (n := 7) ⟨rfl, by decide +kernel⟩
theorem kw_718 : (Jvm.Cond.selects "BonnetValley" ({ cls := "BonnetValley", name := "all", desc := "()I" } : Jvm.MethodName) ({ cls := "BonnetValley", name := "all", desc := "()I" } : Jvm.MethodName)) ∈ kALL := kin_5 (n := 8) ⟨rfl, by decide +kernel⟩
theorem kw_719 : (Jvm.Cond.methodLink "BonnetValleyLaw" (138 : Nat) ({ cls := "BonnetValleyModel", name := "all", desc := "()I" } : Jvm.MethodName)) ∈ kALL := kin_8 (n := 121) ⟨rfl, by decide +kernel⟩
theorem kw_720 : (Jvm.Cond.instanceMethod ({ cls := "BonnetValleyModel", name := "all", desc := "()I" } : Jvm.MethodName)) ∈ kALL := kin_8 (n := 122) ⟨rfl, by decide +kernel⟩
theorem kw_721 : (Jvm.Cond.selects "BonnetValleyModel" ({ cls := "BonnetValleyModel", name := "all", desc := "()I" } : Jvm.MethodName) ({ cls := "BonnetValleyModel", name := "all", desc := "()I" } : Jvm.MethodName)) ∈ kALL := kin_8 (n := 123) ⟨rfl, by decide +kernel⟩
theorem kw_722 : (Jvm.Cond.methodLink "BonnetValleyLaw" (139 : Nat) ({ cls := "BonnetValley", name := "ahead", desc := "(I)I" } : Jvm.MethodName)) ∈ kALL := kin_5 (n := 14) ⟨rfl, by decide +kernel⟩
theorem kw_723 : (Jvm.Cond.instanceMethod ({ cls := "BonnetValley", name := "ahead", desc := "(I)I" } : Jvm.MethodName)) ∈ kALL := kin_5 (n := 15) ⟨rfl, by decide +kernel⟩
theorem kw_724 : (Jvm.Cond.selects "BonnetValley" ({ cls := "BonnetValley", name := "ahead", desc := "(I)I" } : Jvm.MethodName) ({ cls := "BonnetValley", name := "ahead", desc := "(I)I" } : Jvm.MethodName)) ∈ kALL := kin_5 (n := 16) ⟨rfl, by decide +kernel⟩
theorem kw_725 : (Jvm.Cond.methodLink "BonnetValleyLaw" (142 : Nat) ({ cls := "BonnetValleyModel", name := "ahead", desc := "(I)I" } : Jvm.MethodName)) ∈ kALL := kin_8 (n := 129) ⟨rfl, by decide +kernel⟩
theorem kw_726 : (Jvm.Cond.instanceMethod ({ cls := "BonnetValleyModel", name := "ahead", desc := "(I)I" } : Jvm.MethodName)) ∈ kALL := kin_8 (n := 130) ⟨rfl, by decide +kernel⟩
theorem kw_727 : (Jvm.Cond.selects "BonnetValleyModel" ({ cls := "BonnetValleyModel", name := "ahead", desc := "(I)I" } : Jvm.MethodName) ({ cls := "BonnetValleyModel", name := "ahead", desc := "(I)I" } : Jvm.MethodName)) ∈ kALL := kin_8 (n := 131) ⟨rfl, by decide +kernel⟩
theorem kw_728 : (Jvm.Cond.methodLink "BonnetValleyLaw" (143 : Nat) ({ cls := "BonnetValley", name := "gossip", desc := "(I)I" } : Jvm.MethodName)) ∈ kALL := kin_5 (n := 18) ⟨rfl, by decide +kernel⟩
theorem kw_729 : (Jvm.Cond.instanceMethod ({ cls := "BonnetValley", name := "gossip", desc := "(I)I" } : Jvm.MethodName)) ∈ kALL := kin_5 (n := 19) ⟨rfl, by decide +kernel⟩
theorem kw_730 : (Jvm.Cond.selects "BonnetValley" ({ cls := "BonnetValley", name := "gossip", desc := "(I)I" } : Jvm.MethodName) ({ cls := "BonnetValley", name := "gossip", desc := "(I)I" } : Jvm.MethodName)) ∈ kALL := kin_5 (n := 20) ⟨rfl, by decide +kernel⟩
theorem kw_731 : (Jvm.Cond.methodLink "BonnetValleyLaw" (146 : Nat) ({ cls := "BonnetValleyModel", name := "gossip", desc := "(I)I" } : Jvm.MethodName)) ∈ kALL := kin_8 (n := 134) ⟨rfl, by decide +kernel⟩
theorem kw_732 : (Jvm.Cond.instanceMethod ({ cls := "BonnetValleyModel", name := "gossip", desc := "(I)I" } : Jvm.MethodName)) ∈ kALL := kin_8 (n := 135) ⟨rfl, by decide +kernel⟩
theorem kw_733 : (Jvm.Cond.selects "BonnetValleyModel" ({ cls := "BonnetValleyModel", name := "gossip", desc := "(I)I" } : Jvm.MethodName) ({ cls := "BonnetValleyModel", name := "gossip", desc := "(I)I" } : Jvm.MethodName)) ∈ kALL := kin_8 (n := 136) ⟨rfl, by decide +kernel⟩
theorem kw_734 : (Jvm.Cond.methodLink "BonnetValleyLaw" (147 : Nat) ({ cls := "BonnetValley", name := "eighths", desc := "(II)I" } : Jvm.MethodName)) ∈ kALL := kin_5 (n := 26) ⟨rfl, by decide +kernel⟩
theorem kw_735 : (Jvm.Cond.instanceMethod ({ cls := "BonnetValley", name := "eighths", desc := "(II)I" } : Jvm.MethodName)) ∈ kALL := kin_5 (n := 27) ⟨rfl, by decide +kernel⟩
theorem kw_736 : (Jvm.Cond.selects "BonnetValley" ({ cls := "BonnetValley", name := "eighths", desc := "(II)I" } : Jvm.MethodName) ({ cls := "BonnetValley", name := "eighths", desc := "(II)I" } : Jvm.MethodName)) ∈ kALL := kin_5 (n := 28) ⟨rfl, by decide +kernel⟩
theorem kw_737 : (Jvm.Cond.methodLink "BonnetValleyLaw" (150 : Nat) ({ cls := "BonnetValleyModel", name := "eighths", desc := "(II)I" } : Jvm.MethodName)) ∈ kALL := kin_8 (n := 138) ⟨rfl, by decide +kernel⟩
theorem kw_738 : (Jvm.Cond.instanceMethod ({ cls := "BonnetValleyModel", name := "eighths", desc := "(II)I" } : Jvm.MethodName)) ∈ kALL := kin_8 (n := 139) ⟨rfl, by decide +kernel⟩
theorem kw_739 : (Jvm.Cond.selects "BonnetValleyModel" ({ cls := "BonnetValleyModel", name := "eighths", desc := "(II)I" } : Jvm.MethodName) ({ cls := "BonnetValleyModel", name := "eighths", desc := "(II)I" } : Jvm.MethodName)) ∈ kALL := kin_8 (n := 140) ⟨rfl, by decide +kernel⟩
theorem kw_740 : (Jvm.Cond.methodLink "BonnetValleyLaw" (151 : Nat) ({ cls := "BonnetValley", name := "turned", desc := "()I" } : Jvm.MethodName)) ∈ kALL := kin_5 (n := 40) ⟨rfl, by decide +kernel⟩
theorem kw_741 : (Jvm.Cond.instanceMethod ({ cls := "BonnetValley", name := "turned", desc := "()I" } : Jvm.MethodName)) ∈ kALL := kin_5 (n := 41) ⟨rfl, by decide +kernel⟩
theorem kw_742 : (Jvm.Cond.selects "BonnetValley" ({ cls := "BonnetValley", name := "turned", desc := "()I" } : Jvm.MethodName) ({ cls := "BonnetValley", name := "turned", desc := "()I" } : Jvm.MethodName)) ∈ kALL := kin_5 (n := 42) ⟨rfl, by decide +kernel⟩
theorem kw_743 : (Jvm.Cond.methodLink "BonnetValleyLaw" (154 : Nat) ({ cls := "BonnetValleyModel", name := "turned", desc := "()I" } : Jvm.MethodName)) ∈ kALL := kin_8 (n := 147) ⟨rfl, by decide +kernel⟩
theorem kw_744 : (Jvm.Cond.instanceMethod ({ cls := "BonnetValleyModel", name := "turned", desc := "()I" } : Jvm.MethodName)) ∈ kALL := kin_8 (n := 148) ⟨rfl, by decide +kernel⟩
theorem kw_745 : (Jvm.Cond.selects "BonnetValleyModel" ({ cls := "BonnetValleyModel", name := "turned", desc := "()I" } : Jvm.MethodName) ({ cls := "BonnetValleyModel", name := "turned", desc := "()I" } : Jvm.MethodName)) ∈ kALL := kin_8 (n := 149) ⟨rfl, by decide +kernel⟩
theorem kw_746 : (Jvm.Cond.methodLink "BonnetValleyLaw" (155 : Nat) ({ cls := "BonnetValley", name := "best", desc := "(I)I" } : Jvm.MethodName)) ∈ kALL := kin_5 (n := 67) ⟨rfl, by decide +kernel⟩
theorem kw_747 : (Jvm.Cond.instanceMethod ({ cls := "BonnetValley", name := "best", desc := "(I)I" } : Jvm.MethodName)) ∈ kALL := kin_5 (n := 68) ⟨rfl, by decide +kernel⟩
theorem kw_748 : (Jvm.Cond.selects "BonnetValley" ({ cls := "BonnetValley", name := "best", desc := "(I)I" } : Jvm.MethodName) ({ cls := "BonnetValley", name := "best", desc := "(I)I" } : Jvm.MethodName)) ∈ kALL := kin_5 (n := 69) ⟨rfl, by decide +kernel⟩
theorem kw_749 : (Jvm.Cond.methodLink "BonnetValleyLaw" (158 : Nat) ({ cls := "BonnetValleyModel", name := "best", desc := "(I)I" } : Jvm.MethodName)) ∈ kALL := kin_8 (n := 162) ⟨rfl, by decide +kernel⟩
theorem kw_750 : (Jvm.Cond.instanceMethod ({ cls := "BonnetValleyModel", name := "best", desc := "(I)I" } : Jvm.MethodName)) ∈ kALL := kin_8 (n := 163) ⟨rfl, by decide +kernel⟩
theorem kw_751 : (Jvm.Cond.selects "BonnetValleyModel" ({ cls := "BonnetValleyModel", name := "best", desc := "(I)I" } : Jvm.MethodName) ({ cls := "BonnetValleyModel", name := "best", desc := "(I)I" } : Jvm.MethodName)) ∈ kALL := kin_8 (n := 164) ⟨rfl, by decide +kernel⟩
theorem kw_752 : (Jvm.Cond.methodLink "BonnetValleyLaw" (159 : Nat) ({ cls := "BonnetValley", name := "bears", desc := "(II)I" } : Jvm.MethodName)) ∈ kALL := kin_5 (n := 71) ⟨rfl, by decide +kernel⟩
theorem kw_753 : (Jvm.Cond.instanceMethod ({ cls := "BonnetValley", name := "bears", desc := "(II)I" } : Jvm.MethodName)) ∈ kALL := kin_5 (n := 72) ⟨rfl, by decide +kernel⟩
theorem kw_754 : (Jvm.Cond.selects "BonnetValley" ({ cls := "BonnetValley", name := "bears", desc := "(II)I" } : Jvm.MethodName) ({ cls := "BonnetValley", name := "bears", desc := "(II)I" } : Jvm.MethodName)) ∈ kALL := kin_5 (n := 73) ⟨rfl, by decide +kernel⟩
theorem kw_755 : (Jvm.Cond.methodLink "BonnetValleyLaw" (162 : Nat) ({ cls := "BonnetValleyModel", name := "bears", desc := "(II)I" } : Jvm.MethodName)) ∈ kALL := kin_8 (n := 166) ⟨rfl, by decide +kernel⟩
theorem kw_756 : (Jvm.Cond.instanceMethod ({ cls := "BonnetValleyModel", name := "bears", desc := "(II)I" } : Jvm.MethodName)) ∈ kALL := kin_8 (n := 167) ⟨rfl, by decide +kernel⟩
theorem kw_757 : (Jvm.Cond.selects "BonnetValleyModel" ({ cls := "BonnetValleyModel", name := "bears", desc := "(II)I" } : Jvm.MethodName) ({ cls := "BonnetValleyModel", name := "bears", desc := "(II)I" } : Jvm.MethodName)) ∈ kALL := kin_8 (n := 168) ⟨rfl, by decide +kernel⟩
theorem kw_758 : (Jvm.Cond.methodLink "BonnetValleyLaw" (163 : Nat) ({ cls := "BonnetValley", name := "back", desc := "(II)I" } : Jvm.MethodName)) ∈ kALL := kin_5 (n := 80) ⟨rfl, by decide +kernel⟩
theorem kw_759 : (Jvm.Cond.instanceMethod ({ cls := "BonnetValley", name := "back", desc := "(II)I" } : Jvm.MethodName)) ∈ kALL := kin_5 (n := 81) ⟨rfl, by decide +kernel⟩
theorem kw_760 : (Jvm.Cond.selects "BonnetValley" ({ cls := "BonnetValley", name := "back", desc := "(II)I" } : Jvm.MethodName) ({ cls := "BonnetValley", name := "back", desc := "(II)I" } : Jvm.MethodName)) ∈ kALL := kin_5 (n := 82) ⟨rfl, by decide +kernel⟩
theorem kw_761 : (Jvm.Cond.methodLink "BonnetValleyLaw" (166 : Nat) ({ cls := "BonnetValleyModel", name := "back", desc := "(II)I" } : Jvm.MethodName)) ∈ kALL := kin_8 (n := 170) ⟨rfl, by decide +kernel⟩
theorem kw_762 : (Jvm.Cond.instanceMethod ({ cls := "BonnetValleyModel", name := "back", desc := "(II)I" } : Jvm.MethodName)) ∈ kALL := kin_8 (n := 171) ⟨rfl, by decide +kernel⟩
theorem kw_763 : (Jvm.Cond.selects "BonnetValleyModel" ({ cls := "BonnetValleyModel", name := "back", desc := "(II)I" } : Jvm.MethodName) ({ cls := "BonnetValleyModel", name := "back", desc := "(II)I" } : Jvm.MethodName)) ∈ kALL := kin_8 (n := 172) ⟨rfl, by decide +kernel⟩
theorem kw_764 : (Jvm.Cond.methodLink "BonnetValleyLaw" (167 : Nat) ({ cls := "BonnetValley", name := "open", desc := "(II)I" } : Jvm.MethodName)) ∈ kALL := kin_5 (n := 105) ⟨rfl, by decide +kernel⟩
theorem kw_765 : (Jvm.Cond.instanceMethod ({ cls := "BonnetValley", name := "open", desc := "(II)I" } : Jvm.MethodName)) ∈ kALL := kin_5 (n := 106) ⟨rfl, by decide +kernel⟩
theorem kw_766 : (Jvm.Cond.selects "BonnetValley" ({ cls := "BonnetValley", name := "open", desc := "(II)I" } : Jvm.MethodName) ({ cls := "BonnetValley", name := "open", desc := "(II)I" } : Jvm.MethodName)) ∈ kALL := kin_5 (n := 107) ⟨rfl, by decide +kernel⟩
theorem kw_767 : (Jvm.Cond.methodLink "BonnetValleyLaw" (170 : Nat) ({ cls := "BonnetValleyModel", name := "open", desc := "(II)I" } : Jvm.MethodName)) ∈ kALL := kin_8 (n := 182) ⟨rfl, by decide +kernel⟩
theorem kw_768 : (Jvm.Cond.instanceMethod ({ cls := "BonnetValleyModel", name := "open", desc := "(II)I" } : Jvm.MethodName)) ∈ kALL := kin_8 (n := 183) ⟨rfl, by decide +kernel⟩
theorem kw_769 : (Jvm.Cond.selects "BonnetValleyModel" ({ cls := "BonnetValleyModel", name := "open", desc := "(II)I" } : Jvm.MethodName) ({ cls := "BonnetValleyModel", name := "open", desc := "(II)I" } : Jvm.MethodName)) ∈ kALL := kin_8 (n := 184) ⟨rfl, by decide +kernel⟩
theorem kw_770 : (Jvm.Cond.methodLink "BonnetValleyLaw" (171 : Nat) ({ cls := "BonnetValley", name := "heard", desc := "(II)I" } : Jvm.MethodName)) ∈ kALL := kin_5 (n := 109) ⟨rfl, by decide +kernel⟩
theorem kw_771 : (Jvm.Cond.instanceMethod ({ cls := "BonnetValley", name := "heard", desc := "(II)I" } : Jvm.MethodName)) ∈ kALL := kin_5 (n := 110) ⟨rfl, by decide +kernel⟩
theorem kw_772 : (Jvm.Cond.selects "BonnetValley" ({ cls := "BonnetValley", name := "heard", desc := "(II)I" } : Jvm.MethodName) ({ cls := "BonnetValley", name := "heard", desc := "(II)I" } : Jvm.MethodName)) ∈ kALL := kin_5 (n := 111) ⟨rfl, by decide +kernel⟩
theorem kw_773 : (Jvm.Cond.methodLink "BonnetValleyLaw" (174 : Nat) ({ cls := "BonnetValleyModel", name := "heard", desc := "(II)I" } : Jvm.MethodName)) ∈ kALL := kin_8 (n := 186) ⟨rfl, by decide +kernel⟩
theorem kw_774 : (Jvm.Cond.instanceMethod ({ cls := "BonnetValleyModel", name := "heard", desc := "(II)I" } : Jvm.MethodName)) ∈ kALL := kin_8 (n := 187) ⟨rfl, by decide +kernel⟩
theorem kw_775 : (Jvm.Cond.selects "BonnetValleyModel" ({ cls := "BonnetValleyModel", name := "heard", desc := "(II)I" } : Jvm.MethodName) ({ cls := "BonnetValleyModel", name := "heard", desc := "(II)I" } : Jvm.MethodName)) ∈ kALL := kin_8 (n := 188) ⟨rfl, by decide +kernel⟩
theorem kw_776 : (Jvm.Cond.methodLink "BonnetValleyLaw" (175 : Nat) ({ cls := "BonnetValley", name := "forget", desc := "()I" } : Jvm.MethodName)) ∈ kALL := kin_5 (n := 113) ⟨rfl, by decide +kernel⟩
theorem kw_777 : (Jvm.Cond.instanceMethod ({ cls := "BonnetValley", name := "forget", desc := "()I" } : Jvm.MethodName)) ∈ kALL := kin_5 (n := 114) ⟨rfl, by decide +kernel⟩
theorem kw_778 : (Jvm.Cond.selects "BonnetValley" ({ cls := "BonnetValley", name := "forget", desc := "()I" } : Jvm.MethodName) ({ cls := "BonnetValley", name := "forget", desc := "()I" } : Jvm.MethodName)) ∈ kALL := kin_5 (n := 115) ⟨rfl, by decide +kernel⟩
theorem kw_779 : (Jvm.Cond.methodLink "BonnetValleyLaw" (178 : Nat) ({ cls := "BonnetValleyModel", name := "forget", desc := "()I" } : Jvm.MethodName)) ∈ kALL := kin_8 (n := 190) ⟨rfl, by decide +kernel⟩
theorem kw_780 : (Jvm.Cond.instanceMethod ({ cls := "BonnetValleyModel", name := "forget", desc := "()I" } : Jvm.MethodName)) ∈ kALL := kin_8 (n := 191) ⟨rfl, by decide +kernel⟩
theorem kw_781 : (Jvm.Cond.selects "BonnetValleyModel" ({ cls := "BonnetValleyModel", name := "forget", desc := "()I" } : Jvm.MethodName) ({ cls := "BonnetValleyModel", name := "forget", desc := "()I" } : Jvm.MethodName)) ∈ kALL := kin_8 (n := 192) ⟨rfl, by decide +kernel⟩
theorem kw_782 : (Jvm.Cond.methodLink "BonnetValleyLaw" (179 : Nat) ({ cls := "BonnetValley", name := "lost", desc := "()J" } : Jvm.MethodName)) ∈ kALL := kin_5 (n := 117) ⟨rfl, by decide +kernel⟩
theorem kw_783 : (Jvm.Cond.instanceMethod ({ cls := "BonnetValley", name := "lost", desc := "()J" } : Jvm.MethodName)) ∈ kALL := kin_5 (n := 118) ⟨rfl, by decide +kernel⟩
theorem kw_784 : (Jvm.Cond.selects "BonnetValley" ({ cls := "BonnetValley", name := "lost", desc := "()J" } : Jvm.MethodName) ({ cls := "BonnetValley", name := "lost", desc := "()J" } : Jvm.MethodName)) ∈ kALL := kin_5 (n := 119) ⟨rfl, by decide +kernel⟩
theorem kw_785 : (Jvm.Cond.methodLink "BonnetValleyLaw" (182 : Nat) ({ cls := "BonnetValleyModel", name := "lost", desc := "()J" } : Jvm.MethodName)) ∈ kALL := kin_8 (n := 194) ⟨rfl, by decide +kernel⟩
theorem kw_786 : (Jvm.Cond.instanceMethod ({ cls := "BonnetValleyModel", name := "lost", desc := "()J" } : Jvm.MethodName)) ∈ kALL := kin_8 (n := 195) ⟨rfl, by decide +kernel⟩
theorem kw_787 : (Jvm.Cond.selects "BonnetValleyModel" ({ cls := "BonnetValleyModel", name := "lost", desc := "()J" } : Jvm.MethodName) ({ cls := "BonnetValleyModel", name := "lost", desc := "()J" } : Jvm.MethodName)) ∈ kALL := kin_8 (n := 196) ⟨rfl, by decide +kernel⟩
theorem kw_788 : (Jvm.Cond.methodLink "BonnetValleyLaw" (183 : Nat) ({ cls := "BonnetValley", name := "asks", desc := "()I" } : Jvm.MethodName)) ∈ kALL := kin_5 (n := 121) ⟨rfl, by decide +kernel⟩
theorem kw_789 : (Jvm.Cond.instanceMethod ({ cls := "BonnetValley", name := "asks", desc := "()I" } : Jvm.MethodName)) ∈ kALL := kin_5 (n := 122) ⟨rfl, by decide +kernel⟩
theorem kw_790 : (Jvm.Cond.selects "BonnetValley" ({ cls := "BonnetValley", name := "asks", desc := "()I" } : Jvm.MethodName) ({ cls := "BonnetValley", name := "asks", desc := "()I" } : Jvm.MethodName)) ∈ kALL := kin_5 (n := 123) ⟨rfl, by decide +kernel⟩
theorem kw_791 : (Jvm.Cond.methodLink "BonnetValleyLaw" (186 : Nat) ({ cls := "BonnetValleyModel", name := "asks", desc := "()I" } : Jvm.MethodName)) ∈ kALL := kin_8 (n := 202) ⟨rfl, by decide +kernel⟩
theorem kw_792 : (Jvm.Cond.instanceMethod ({ cls := "BonnetValleyModel", name := "asks", desc := "()I" } : Jvm.MethodName)) ∈ kALL := kin_8 (n := 203) ⟨rfl, by decide +kernel⟩
theorem kw_793 : (Jvm.Cond.selects "BonnetValleyModel" ({ cls := "BonnetValleyModel", name := "asks", desc := "()I" } : Jvm.MethodName) ({ cls := "BonnetValleyModel", name := "asks", desc := "()I" } : Jvm.MethodName)) ∈ kALL := kin_8 (n := 204) ⟨rfl, by decide +kernel⟩
theorem kw_794 : (Jvm.Cond.methodLink "BonnetValleyLaw" (187 : Nat) ({ cls := "BonnetValley", name := "storm", desc := "(III)I" } : Jvm.MethodName)) ∈ kALL := kin_5 (n := 125) ⟨rfl, by decide +kernel⟩
theorem kw_795 : (Jvm.Cond.instanceMethod ({ cls := "BonnetValley", name := "storm", desc := "(III)I" } : Jvm.MethodName)) ∈ kALL := kin_5 (n := 126) ⟨rfl, by decide +kernel⟩
theorem kw_796 : (Jvm.Cond.selects "BonnetValley" ({ cls := "BonnetValley", name := "storm", desc := "(III)I" } : Jvm.MethodName) ({ cls := "BonnetValley", name := "storm", desc := "(III)I" } : Jvm.MethodName)) ∈ kALL := kin_5 (n := 127) ⟨rfl, by decide +kernel⟩
theorem kw_797 : (Jvm.Cond.methodLink "BonnetValleyLaw" (191 : Nat) ({ cls := "BonnetValleyModel", name := "storm", desc := "(III)I" } : Jvm.MethodName)) ∈ kALL := kin_8 (n := 206) ⟨rfl, by decide +kernel⟩
theorem kw_798 : (Jvm.Cond.instanceMethod ({ cls := "BonnetValleyModel", name := "storm", desc := "(III)I" } : Jvm.MethodName)) ∈ kALL := kin_8 (n := 207) ⟨rfl, by decide +kernel⟩
theorem kw_799 : (Jvm.Cond.selects "BonnetValleyModel" ({ cls := "BonnetValleyModel", name := "storm", desc := "(III)I" } : Jvm.MethodName) ({ cls := "BonnetValleyModel", name := "storm", desc := "(III)I" } : Jvm.MethodName)) ∈ kALL := kin_8 (n := 208) ⟨rfl, by decide +kernel⟩
theorem kw_800 : (Jvm.Cond.methodLink "BonnetValleyLaw" (192 : Nat) ({ cls := "BonnetValley", name := "cock", desc := "(II)I" } : Jvm.MethodName)) ∈ kALL := kin_5 (n := 150) ⟨rfl, by decide +kernel⟩
theorem kw_801 : (Jvm.Cond.instanceMethod ({ cls := "BonnetValley", name := "cock", desc := "(II)I" } : Jvm.MethodName)) ∈ kALL := kin_5 (n := 151) ⟨rfl, by decide +kernel⟩
theorem kw_802 : (Jvm.Cond.selects "BonnetValley" ({ cls := "BonnetValley", name := "cock", desc := "(II)I" } : Jvm.MethodName) ({ cls := "BonnetValley", name := "cock", desc := "(II)I" } : Jvm.MethodName)) ∈ kALL := kin_5 (n := 152) ⟨rfl, by decide +kernel⟩
theorem kw_803 : (Jvm.Cond.methodLink "BonnetValleyLaw" (195 : Nat) ({ cls := "BonnetValleyModel", name := "cock", desc := "(II)I" } : Jvm.MethodName)) ∈ kALL := kin_8 (n := 215) ⟨rfl, by decide +kernel⟩
theorem kw_804 : (Jvm.Cond.instanceMethod ({ cls := "BonnetValleyModel", name := "cock", desc := "(II)I" } : Jvm.MethodName)) ∈ kALL := kin_8 (n := 216) ⟨rfl, by decide +kernel⟩
theorem kw_805 : (Jvm.Cond.selects "BonnetValleyModel" ({ cls := "BonnetValleyModel", name := "cock", desc := "(II)I" } : Jvm.MethodName) ({ cls := "BonnetValleyModel", name := "cock", desc := "(II)I" } : Jvm.MethodName)) ∈ kALL := kin_8 (n := 217) ⟨rfl, by decide +kernel⟩
theorem kw_806 : (Jvm.Cond.methodLink "BonnetValleyLaw" (196 : Nat) ({ cls := "BonnetValley", name := "law", desc := "()I" } : Jvm.MethodName)) ∈ kALL := kin_5 (n := 158) ⟨rfl, by decide +kernel⟩
theorem kw_807 : (Jvm.Cond.instanceMethod ({ cls := "BonnetValley", name := "law", desc := "()I" } : Jvm.MethodName)) ∈ kALL := kin_5 (n := 159) ⟨rfl, by decide +kernel⟩
theorem kw_808 : (Jvm.Cond.selects "BonnetValley" ({ cls := "BonnetValley", name := "law", desc := "()I" } : Jvm.MethodName) ({ cls := "BonnetValley", name := "law", desc := "()I" } : Jvm.MethodName)) ∈ kALL := kin_5 (n := 160) ⟨rfl, by decide +kernel⟩
theorem kw_809 : (Jvm.Cond.methodLink "BonnetValleyLaw" (199 : Nat) ({ cls := "BonnetValleyModel", name := "law", desc := "()I" } : Jvm.MethodName)) ∈ kALL := kin_8 (n := 220) ⟨rfl, by decide +kernel⟩
theorem kw_810 : (Jvm.Cond.instanceMethod ({ cls := "BonnetValleyModel", name := "law", desc := "()I" } : Jvm.MethodName)) ∈ kALL := kin_8 (n := 221) ⟨rfl, by decide +kernel⟩
theorem kw_811 : (Jvm.Cond.selects "BonnetValleyModel" ({ cls := "BonnetValleyModel", name := "law", desc := "()I" } : Jvm.MethodName) ({ cls := "BonnetValleyModel", name := "law", desc := "()I" } : Jvm.MethodName)) ∈ kALL := kin_8 (n := 222) ⟨rfl, by decide +kernel⟩
theorem kw_812 : (Jvm.Cond.methodLink "BonnetValleyLaw" (200 : Nat) ({ cls := "BonnetValley", name := "rests", desc := "(I)I" } : Jvm.MethodName)) ∈ kALL := kin_5 (n := 163) ⟨rfl, by decide +kernel⟩
theorem kw_813 : (Jvm.Cond.instanceMethod ({ cls := "BonnetValley", name := "rests", desc := "(I)I" } : Jvm.MethodName)) ∈ kALL := kin_5 (n := 164) ⟨rfl, by decide +kernel⟩
theorem kw_814 : (Jvm.Cond.selects "BonnetValley" ({ cls := "BonnetValley", name := "rests", desc := "(I)I" } : Jvm.MethodName) ({ cls := "BonnetValley", name := "rests", desc := "(I)I" } : Jvm.MethodName)) ∈ kALL := kin_5 (n := 165) ⟨rfl, by decide +kernel⟩
theorem kw_815 : (Jvm.Cond.methodLink "BonnetValleyLaw" (203 : Nat) ({ cls := "BonnetValleyModel", name := "rests", desc := "(I)I" } : Jvm.MethodName)) ∈ kALL := kin_8 (n := 224) ⟨rfl, by decide +kernel⟩
theorem kw_816 : (Jvm.Cond.instanceMethod ({ cls := "BonnetValleyModel", name := "rests", desc := "(I)I" } : Jvm.MethodName)) ∈ kALL := kin_8 (n := 225) ⟨rfl, by decide +kernel⟩
theorem kw_817 : (Jvm.Cond.selects "BonnetValleyModel" ({ cls := "BonnetValleyModel", name := "rests", desc := "(I)I" } : Jvm.MethodName) ({ cls := "BonnetValleyModel", name := "rests", desc := "(I)I" } : Jvm.MethodName)) ∈ kALL := kin_8 (n := 226) ⟨rfl, by decide +kernel⟩
theorem kw_818 : (Jvm.Cond.methodLink "BonnetValleyLaw" (204 : Nat) ({ cls := "BonnetValley", name := "years", desc := "(II)I" } : Jvm.MethodName)) ∈ kALL := kin_5 (n := 178) ⟨rfl, by decide +kernel⟩
theorem kw_819 : (Jvm.Cond.instanceMethod ({ cls := "BonnetValley", name := "years", desc := "(II)I" } : Jvm.MethodName)) ∈ kALL := kin_5 (n := 179) ⟨rfl, by decide +kernel⟩
theorem kw_820 : (Jvm.Cond.selects "BonnetValley" ({ cls := "BonnetValley", name := "years", desc := "(II)I" } : Jvm.MethodName) ({ cls := "BonnetValley", name := "years", desc := "(II)I" } : Jvm.MethodName)) ∈ kALL := kin_5 (n := 180) ⟨rfl, by decide +kernel⟩
theorem kw_821 : (Jvm.Cond.methodLink "BonnetValleyLaw" (207 : Nat) ({ cls := "BonnetValleyModel", name := "years", desc := "(II)I" } : Jvm.MethodName)) ∈ kALL := kin_8 (n := 235) ⟨rfl, by decide +kernel⟩
theorem kw_822 : (Jvm.Cond.instanceMethod ({ cls := "BonnetValleyModel", name := "years", desc := "(II)I" } : Jvm.MethodName)) ∈ kALL := kin_8 (n := 236) ⟨rfl, by decide +kernel⟩
theorem kw_823 : (Jvm.Cond.selects "BonnetValleyModel" ({ cls := "BonnetValleyModel", name := "years", desc := "(II)I" } : Jvm.MethodName) ({ cls := "BonnetValleyModel", name := "years", desc := "(II)I" } : Jvm.MethodName)) ∈ kALL := kin_8 (n := 237) ⟨rfl, by decide +kernel⟩
theorem kw_824 : (Jvm.Cond.methodLink "BonnetValleyLaw" (208 : Nat) ({ cls := "BonnetValley", name := "keep", desc := "(I)Z" } : Jvm.MethodName)) ∈ kALL := kin_5 (n := 195) ⟨rfl, by decide +kernel⟩
theorem kw_825 : (Jvm.Cond.instanceMethod ({ cls := "BonnetValley", name := "keep", desc := "(I)Z" } : Jvm.MethodName)) ∈ kALL := kin_5 (n := 196) ⟨rfl, by decide +kernel⟩
theorem kw_826 : (Jvm.Cond.selects "BonnetValley" ({ cls := "BonnetValley", name := "keep", desc := "(I)Z" } : Jvm.MethodName) ({ cls := "BonnetValley", name := "keep", desc := "(I)Z" } : Jvm.MethodName)) ∈ kALL := kin_5 (n := 197) ⟨rfl, by decide +kernel⟩
theorem kw_827 : (Jvm.Cond.methodLink "BonnetValleyLaw" (211 : Nat) ({ cls := "BonnetValleyModel", name := "keep", desc := "(I)Z" } : Jvm.MethodName)) ∈ kALL := kin_9 (n := 4) ⟨rfl, by decide +kernel⟩
theorem kw_828 : (Jvm.Cond.instanceMethod ({ cls := "BonnetValleyModel", name := "keep", desc := "(I)Z" } : Jvm.MethodName)) ∈ kALL := kin_9 (n := 5) ⟨rfl, by decide +kernel⟩
theorem kw_829 : (Jvm.Cond.selects "BonnetValleyModel" ({ cls := "BonnetValleyModel", name := "keep", desc := "(I)Z" } : Jvm.MethodName) ({ cls := "BonnetValleyModel", name := "keep", desc := "(I)Z" } : Jvm.MethodName)) ∈ kALL := kin_9 (n := 6) ⟨rfl, by decide +kernel⟩
theorem kw_830 : (Jvm.Cond.methodLink "BonnetValleyLaw" (212 : Nat) ({ cls := "BonnetValley", name := "again", desc := "(I)Z" } : Jvm.MethodName)) ∈ kALL := kin_5 (n := 203) ⟨rfl, by decide +kernel⟩
theorem kw_831 : (Jvm.Cond.instanceMethod ({ cls := "BonnetValley", name := "again", desc := "(I)Z" } : Jvm.MethodName)) ∈ kALL := kin_5 (n := 204) ⟨rfl, by decide +kernel⟩
theorem kw_832 : (Jvm.Cond.selects "BonnetValley" ({ cls := "BonnetValley", name := "again", desc := "(I)Z" } : Jvm.MethodName) ({ cls := "BonnetValley", name := "again", desc := "(I)Z" } : Jvm.MethodName)) ∈ kALL := kin_5 (n := 205) ⟨rfl, by decide +kernel⟩
theorem kw_833 : (Jvm.Cond.methodLink "BonnetValleyLaw" (215 : Nat) ({ cls := "BonnetValleyModel", name := "again", desc := "(I)Z" } : Jvm.MethodName)) ∈ kALL := kin_9 (n := 8) ⟨rfl, by decide +kernel⟩
theorem kw_834 : (Jvm.Cond.instanceMethod ({ cls := "BonnetValleyModel", name := "again", desc := "(I)Z" } : Jvm.MethodName)) ∈ kALL := kin_9 (n := 9) ⟨rfl, by decide +kernel⟩
theorem kw_835 : (Jvm.Cond.selects "BonnetValleyModel" ({ cls := "BonnetValleyModel", name := "again", desc := "(I)Z" } : Jvm.MethodName) ({ cls := "BonnetValleyModel", name := "again", desc := "(I)Z" } : Jvm.MethodName)) ∈ kALL := kin_9 (n := 10) ⟨rfl, by decide +kernel⟩
theorem kw_836 : (Jvm.Cond.methodLink "BonnetValleyLaw" (216 : Nat) ({ cls := "BonnetValley", name := "count", desc := "(I)I" } : Jvm.MethodName)) ∈ kALL := kin_5 (n := 211) ⟨rfl, by decide +kernel⟩
theorem kw_837 : (Jvm.Cond.instanceMethod ({ cls := "BonnetValley", name := "count", desc := "(I)I" } : Jvm.MethodName)) ∈ kALL := kin_5 (n := 212) ⟨rfl, by decide +kernel⟩
theorem kw_838 : (Jvm.Cond.selects "BonnetValley" ({ cls := "BonnetValley", name := "count", desc := "(I)I" } : Jvm.MethodName) ({ cls := "BonnetValley", name := "count", desc := "(I)I" } : Jvm.MethodName)) ∈ kALL := kin_5 (n := 213) ⟨rfl, by decide +kernel⟩
theorem kw_839 : (Jvm.Cond.methodLink "BonnetValleyLaw" (219 : Nat) ({ cls := "BonnetValleyModel", name := "count", desc := "(I)I" } : Jvm.MethodName)) ∈ kALL := kin_9 (n := 12) ⟨rfl, by decide +kernel⟩
theorem kw_840 : (Jvm.Cond.instanceMethod ({ cls := "BonnetValleyModel", name := "count", desc := "(I)I" } : Jvm.MethodName)) ∈ kALL := kin_9 (n := 13) ⟨rfl, by decide +kernel⟩
theorem kw_841 : (Jvm.Cond.selects "BonnetValleyModel" ({ cls := "BonnetValleyModel", name := "count", desc := "(I)I" } : Jvm.MethodName) ({ cls := "BonnetValleyModel", name := "count", desc := "(I)I" } : Jvm.MethodName)) ∈ kALL := kin_9 (n := 14) ⟨rfl, by decide +kernel⟩
theorem kw_842 : (Jvm.Cond.methodLink "BonnetValleyLaw" (223 : Nat) ({ cls := "BonnetValleyModel", name := "row", desc := "(I)J" } : Jvm.MethodName)) ∈ kALL := kin_9 (n := 16) ⟨rfl, by decide +kernel⟩
theorem kw_843 : (Jvm.Cond.instanceMethod ({ cls := "BonnetValleyModel", name := "row", desc := "(I)J" } : Jvm.MethodName)) ∈ kALL := kin_9 (n := 17) ⟨rfl, by decide +kernel⟩
theorem kw_844 : (Jvm.Cond.selects "BonnetValleyModel" ({ cls := "BonnetValleyModel", name := "row", desc := "(I)J" } : Jvm.MethodName) ({ cls := "BonnetValleyModel", name := "row", desc := "(I)J" } : Jvm.MethodName)) ∈ kALL := kin_9 (n := 18) ⟨rfl, by decide +kernel⟩
theorem kw_845 : (Jvm.Cond.fieldLink "BonnetValleyModel" (3 : Nat) "BonnetValleyModel" "thrown" "I") ∈ kALL := kin_6 (n := 80) ⟨rfl, by decide +kernel⟩
theorem kw_846 : (Jvm.Cond.methodLink "BonnetValleyModel" (7 : Nat) ({ cls := "BonnetValleyModel", name := "common", desc := "(JJ)J" } : Jvm.MethodName)) ∈ kALL := kin_8 (n := 212) ⟨rfl, by decide +kernel⟩
theorem kw_847 : (Jvm.Cond.static ({ cls := "BonnetValleyModel", name := "common", desc := "(JJ)J" } : Jvm.MethodName)) ∈ kALL := kin_8 (n := 213) ⟨rfl, by decide +kernel⟩
theorem kw_848 : (Jvm.Cond.fieldLink "BonnetValleyModel" (11 : Nat) "BonnetValleyModel" "row" "[J") ∈ kALL := kin_6 (n := 82) ⟨rfl, by decide +kernel⟩
theorem kw_849 : (Jvm.Cond.fieldLink "BonnetValleyModel" (15 : Nat) "BonnetValleyModel" "told" "I") ∈ kALL := kin_6 (n := 81) ⟨rfl, by decide +kernel⟩
theorem kw_850 : (Jvm.Cond.methodLink "BonnetValleyModel" (18 : Nat) ({ cls := "java/lang/Object", name := "<init>", desc := "()V" } : Jvm.MethodName)) ∈ kALL := kin_6 (n := 79) ⟨rfl, by decide +kernel⟩
theorem kw_851 : (Jvm.Cond.fieldLink "BonnetValleyModel" (24 : Nat) "BonnetValleyModel" "rows" "I") ∈ kALL := kin_6 (n := 83) ⟨rfl, by decide +kernel⟩
theorem kw_852 : (Jvm.Cond.fieldLink "BonnetValleyModel" (27 : Nat) "BonnetValleyModel" "columns" "I") ∈ kALL := kin_6 (n := 84) ⟨rfl, by decide +kernel⟩
theorem kw_853 : (Jvm.Cond.fieldLink "BonnetValleyModel" (30 : Nat) "BonnetValleyModel" "skyLong" "I") ∈ kALL := kin_6 (n := 88) ⟨rfl, by decide +kernel⟩
theorem kw_854 : (Jvm.Cond.fieldLink "BonnetValleyModel" (33 : Nat) "BonnetValleyModel" "isRock" "[Z") ∈ kALL := kin_6 (n := 89) ⟨rfl, by decide +kernel⟩
theorem kw_855 : (Jvm.Cond.fieldLink "BonnetValleyModel" (37 : Nat) "BonnetValleyModel" "sky" "[I") ∈ kALL := kin_6 (n := 90) ⟨rfl, by decide +kernel⟩
theorem kw_856 : (Jvm.Cond.fieldLink "BonnetValleyModel" (41 : Nat) "BonnetValleyModel" "now" "[I") ∈ kALL := kin_6 (n := 91) ⟨rfl, by decide +kernel⟩
theorem kw_857 : (Jvm.Cond.fieldLink "BonnetValleyModel" (44 : Nat) "BonnetValleyModel" "then" "[I") ∈ kALL := kin_6 (n := 92) ⟨rfl, by decide +kernel⟩
theorem kw_858 : (Jvm.Cond.fieldLink "BonnetValleyModel" (47 : Nat) "BonnetValleyModel" "tape" "[I") ∈ kALL := kin_6 (n := 93) ⟨rfl, by decide +kernel⟩
theorem kw_859 : (Jvm.Cond.fieldLink "BonnetValleyModel" (50 : Nat) "BonnetValleyModel" "readRock" "[Z") ∈ kALL := kin_6 (n := 98) ⟨rfl, by decide +kernel⟩
theorem kw_860 : (Jvm.Cond.fieldLink "BonnetValleyModel" (53 : Nat) "BonnetValleyModel" "read" "[I") ∈ kALL := kin_6 (n := 99) ⟨rfl, by decide +kernel⟩
theorem kw_861 : (Jvm.Cond.fieldLink "BonnetValleyModel" (56 : Nat) "BonnetValleyModel" "code" "[I") ∈ kALL := kin_6 (n := 101) ⟨rfl, by decide +kernel⟩
theorem kw_862 : (Jvm.Cond.fieldLink "BonnetValleyModel" (59 : Nat) "BonnetValleyModel" "readCode" "[I") ∈ kALL := kin_6 (n := 102) ⟨rfl, by decide +kernel⟩
theorem kw_863 : (Jvm.Cond.fieldLink "BonnetValleyModel" (62 : Nat) "BonnetValleyModel" "stack" "[I") ∈ kALL := kin_6 (n := 105) ⟨rfl, by decide +kernel⟩
theorem kw_864 : (Jvm.Cond.fieldLink "BonnetValleyModel" (65 : Nat) "BonnetValleyModel" "asked" "[I") ∈ kALL := kin_6 (n := 106) ⟨rfl, by decide +kernel⟩
theorem kw_865 : (Jvm.Cond.fieldLink "BonnetValleyModel" (68 : Nat) "BonnetValleyModel" "undone" "[I") ∈ kALL := kin_6 (n := 108) ⟨rfl, by decide +kernel⟩
theorem kw_866 : (Jvm.Cond.fieldLink "BonnetValleyModel" (71 : Nat) "BonnetValleyModel" "learnt" "[I") ∈ kALL := kin_6 (n := 109) ⟨rfl, by decide +kernel⟩
theorem kw_867 : (Jvm.Cond.fieldLink "BonnetValleyModel" (74 : Nat) "BonnetValleyModel" "actSign" "[I") ∈ kALL := kin_6 (n := 110) ⟨rfl, by decide +kernel⟩
theorem kw_868 : (Jvm.Cond.fieldLink "BonnetValleyModel" (77 : Nat) "BonnetValleyModel" "actOne" "[I") ∈ kALL := kin_6 (n := 111) ⟨rfl, by decide +kernel⟩
theorem kw_869 : (Jvm.Cond.fieldLink "BonnetValleyModel" (80 : Nat) "BonnetValleyModel" "actTwo" "[I") ∈ kALL := kin_6 (n := 112) ⟨rfl, by decide +kernel⟩
theorem kw_870 : (Jvm.Cond.fieldLink "BonnetValleyModel" (83 : Nat) "BonnetValleyModel" "actThree" "[I") ∈ kALL := kin_6 (n := 113) ⟨rfl, by decide +kernel⟩
theorem kw_871 : (Jvm.Cond.fieldLink "BonnetValleyModel" (86 : Nat) "BonnetValleyModel" "view" "[J") ∈ kALL := kin_6 (n := 115) ⟨rfl, by decide +kernel⟩
theorem kw_872 : (Jvm.Cond.fieldLink "BonnetValleyModel" (89 : Nat) "BonnetValleyModel" "shown" "[I") ∈ kALL := kin_6 (n := 116) ⟨rfl, by decide +kernel⟩
theorem kw_873 : (Jvm.Cond.fieldLink "BonnetValleyModel" (92 : Nat) "BonnetValleyModel" "few" "[I") ∈ kALL := kin_6 (n := 117) ⟨rfl, by decide +kernel⟩
theorem kw_874 : (Jvm.Cond.fieldLink "BonnetValleyModel" (95 : Nat) "BonnetValleyModel" "far" "[I") ∈ kALL := kin_6 (n := 118) ⟨rfl, by decide +kernel⟩
theorem kw_875 : (Jvm.Cond.fieldLink "BonnetValleyModel" (98 : Nat) "BonnetValleyModel" "heardOf" "[I") ∈ kALL := kin_6 (n := 120) ⟨rfl, by decide +kernel⟩
theorem kw_876 : (Jvm.Cond.fieldLink "BonnetValleyModel" (101 : Nat) "BonnetValleyModel" "heardIs" "[I") ∈ kALL := kin_6 (n := 121) ⟨rfl, by decide +kernel⟩
theorem kw_877 : (Jvm.Cond.fieldLink "BonnetValleyModel" (104 : Nat) "BonnetValleyModel" "storms" "[J") ∈ kALL := kin_6 (n := 122) ⟨rfl, by decide +kernel⟩
theorem kw_878 : (Jvm.Cond.fieldLink "BonnetValleyModel" (107 : Nat) "BonnetValleyModel" "winning" "[I") ∈ kALL := kin_6 (n := 123) ⟨rfl, by decide +kernel⟩
theorem kw_879 : (Jvm.Cond.fieldLink "BonnetValleyModel" (110 : Nat) "BonnetValleyModel" "wasCode" "[I") ∈ kALL := kin_6 (n := 124) ⟨rfl, by decide +kernel⟩
theorem kw_880 : (Jvm.Cond.fieldLink "BonnetValleyModel" (113 : Nat) "BonnetValleyModel" "isKept" "[Z") ∈ kALL := kin_6 (n := 126) ⟨rfl, by decide +kernel⟩
theorem kw_881 : (Jvm.Cond.fieldLink "BonnetValleyModel" (116 : Nat) "BonnetValleyModel" "keptChanges" "[I") ∈ kALL := kin_6 (n := 127) ⟨rfl, by decide +kernel⟩
theorem kw_882 : (Jvm.Cond.fieldLink "BonnetValleyModel" (119 : Nat) "BonnetValleyModel" "kept" "[I") ∈ kALL := kin_6 (n := 128) ⟨rfl, by decide +kernel⟩
theorem kw_883 : (Jvm.Cond.methodLink "BonnetValleyModel" (122 : Nat) ({ cls := "BonnetValleyModel", name := "fields", desc := "()I" } : Jvm.MethodName)) ∈ kALL := kin_7 (n := 38) ⟨rfl, by decide +kernel⟩
theorem kw_884 : (Jvm.Cond.instanceMethod ({ cls := "BonnetValleyModel", name := "fields", desc := "()I" } : Jvm.MethodName)) ∈ kALL := kin_7 (n := 40) ⟨rfl, by decide +kernel⟩
theorem kw_885 : (Jvm.Cond.selects "BonnetValleyModel" ({ cls := "BonnetValleyModel", name := "fields", desc := "()I" } : Jvm.MethodName) ({ cls := "BonnetValleyModel", name := "fields", desc := "()I" } : Jvm.MethodName)) ∈ kALL := kin_0 (n := 35) (by decide +kernel)
theorem kw_886 : (Jvm.Cond.methodLink "BonnetValleyModel" (126 : Nat) ({ cls := "BonnetValleyModel", name := "in", desc := "(JJJ)Z" } : Jvm.MethodName)) ∈ kALL := kin_6 (n := 236) ⟨rfl, by decide +kernel⟩
theorem kw_887 : (Jvm.Cond.static ({ cls := "BonnetValleyModel", name := "in", desc := "(JJJ)Z" } : Jvm.MethodName)) ∈ kALL := kin_6 (n := 237) ⟨rfl, by decide +kernel⟩
theorem kw_888 : (Jvm.Cond.fieldLink "BonnetValleyModel" (130 : Nat) "BonnetValleyModel" "people" "I") ∈ kALL := kin_6 (n := 85) ⟨rfl, by decide +kernel⟩
theorem kw_889 : (Jvm.Cond.fieldLink "BonnetValleyModel" (133 : Nat) "BonnetValleyModel" "things" "I") ∈ kALL := kin_6 (n := 86) ⟨rfl, by decide +kernel⟩
theorem kw_890 : (Jvm.Cond.fieldLink "BonnetValleyModel" (136 : Nat) "BonnetValleyModel" "taped" "I") ∈ kALL := kin_6 (n := 94) ⟨rfl, by decide +kernel⟩
theorem kw_891 : (Jvm.Cond.fieldLink "BonnetValleyModel" (139 : Nat) "BonnetValleyModel" "at" "I") ∈ kALL := kin_6 (n := 95) ⟨rfl, by decide +kernel⟩
theorem kw_892 : (Jvm.Cond.fieldLink "BonnetValleyModel" (142 : Nat) "BonnetValleyModel" "nest" "I") ∈ kALL := kin_6 (n := 97) ⟨rfl, by decide +kernel⟩
theorem kw_893 : (Jvm.Cond.methodLink "BonnetValleyModel" (145 : Nat) ({ cls := "java/lang/Math", name := "min", desc := "(II)I" } : Jvm.MethodName)) ∈ kALL := kin_7 (n := 7) ⟨rfl, by decide +kernel⟩
theorem kw_894 : (Jvm.Cond.fieldLink "BonnetValleyModel" (151 : Nat) "BonnetValleyModel" "to" "I") ∈ kALL := kin_6 (n := 96) ⟨rfl, by decide +kernel⟩
theorem kw_895 : (Jvm.Cond.methodLink "BonnetValleyModel" (154 : Nat) ({ cls := "BonnetValleyModel", name := "flag", desc := "(Z)I" } : Jvm.MethodName)) ∈ kALL := kin_7 (n := 66) ⟨rfl, by decide +kernel⟩
theorem kw_896 : (Jvm.Cond.static ({ cls := "BonnetValleyModel", name := "flag", desc := "(Z)I" } : Jvm.MethodName)) ∈ kALL := kin_7 (n := 67) ⟨rfl, by decide +kernel⟩
theorem kw_897 : (Jvm.Cond.constantLong "BonnetValleyModel" (158 : Nat) (48 : Int64)) ∈ kALL := kin_7 (n := 89) ⟨rfl, by decide +kernel⟩
theorem kw_898 : (Jvm.Cond.constantLong "BonnetValleyModel" (160 : Nat) (57 : Int64)) ∈ kALL := kin_7 (n := 90) ⟨rfl, by decide +kernel⟩
theorem kw_899 : (Jvm.Cond.methodLink "BonnetValleyModel" (162 : Nat) ({ cls := "java/lang/String", name := "length", desc := "()I" } : Jvm.MethodName)) ∈ kALL := kin_7 (n := 17) ⟨rfl, by decide +kernel⟩
theorem kw_900 : (Jvm.Cond.instanceMethod ({ cls := "java/lang/String", name := "length", desc := "()I" } : Jvm.MethodName)) ∈ kALL := kin_1 (n := 139) ⟨rfl, by decide +kernel⟩
theorem kw_901 : (Jvm.Cond.selects "java/lang/String" ({ cls := "java/lang/String", name := "length", desc := "()I" } : Jvm.MethodName) ({ cls := "java/lang/String", name := "length", desc := "()I" } : Jvm.MethodName)) ∈ kALL := kin_1 (n := 140) ⟨rfl, by decide +kernel⟩
theorem kw_902 : (Jvm.Cond.methodLink "BonnetValleyModel" (167 : Nat) ({ cls := "java/lang/String", name := "charAt", desc := "(I)C" } : Jvm.MethodName)) ∈ kALL := kin_7 (n := 18) ⟨rfl, by decide +kernel⟩
theorem kw_903 : (Jvm.Cond.instanceMethod ({ cls := "java/lang/String", name := "charAt", desc := "(I)C" } : Jvm.MethodName)) ∈ kALL := kin_7 (n := 19) ⟨rfl, by decide +kernel⟩
theorem kw_904 : (Jvm.Cond.selects "java/lang/String" ({ cls := "java/lang/String", name := "charAt", desc := "(I)C" } : Jvm.MethodName) ({ cls := "java/lang/String", name := "charAt", desc := "(I)C" } : Jvm.MethodName)) ∈ kALL := kin_7 (n := 20) ⟨rfl, by decide +kernel⟩
theorem kw_905 : (Jvm.Cond.methodLink "BonnetValleyModel" (171 : Nat) ({ cls := "BonnetValleyModel", name := "isDigit", desc := "()Z" } : Jvm.MethodName)) ∈ kALL := kin_7 (n := 85) ⟨rfl, by decide +kernel⟩
theorem kw_906 : (Jvm.Cond.instanceMethod ({ cls := "BonnetValleyModel", name := "isDigit", desc := "()Z" } : Jvm.MethodName)) ∈ kALL := kin_7 (n := 87) ⟨rfl, by decide +kernel⟩
theorem kw_907 : (Jvm.Cond.selects "BonnetValleyModel" ({ cls := "BonnetValleyModel", name := "isDigit", desc := "()Z" } : Jvm.MethodName) ({ cls := "BonnetValleyModel", name := "isDigit", desc := "()Z" } : Jvm.MethodName)) ∈ kALL := kin_0 (n := 43) (by decide +kernel)
theorem kw_908 : (Jvm.Cond.methodLink "BonnetValleyModel" (175 : Nat) ({ cls := "BonnetValleyModel", name := "begins", desc := "(I)I" } : Jvm.MethodName)) ∈ kALL := kin_7 (n := 3) ⟨rfl, by decide +kernel⟩
theorem kw_909 : (Jvm.Cond.instanceMethod ({ cls := "BonnetValleyModel", name := "begins", desc := "(I)I" } : Jvm.MethodName)) ∈ kALL := kin_7 (n := 5) ⟨rfl, by decide +kernel⟩
theorem kw_910 : (Jvm.Cond.selects "BonnetValleyModel" ({ cls := "BonnetValleyModel", name := "begins", desc := "(I)I" } : Jvm.MethodName) ({ cls := "BonnetValleyModel", name := "begins", desc := "(I)I" } : Jvm.MethodName)) ∈ kALL := kin_0 (n := 32) (by decide +kernel)
theorem kw_911 : (Jvm.Cond.methodLink "BonnetValleyModel" (179 : Nat) ({ cls := "BonnetValleyModel", name := "digitIn", desc := "(II)I" } : Jvm.MethodName)) ∈ kALL := kin_7 (n := 8) ⟨rfl, by decide +kernel⟩
theorem kw_912 : (Jvm.Cond.instanceMethod ({ cls := "BonnetValleyModel", name := "digitIn", desc := "(II)I" } : Jvm.MethodName)) ∈ kALL := kin_7 (n := 10) ⟨rfl, by decide +kernel⟩
theorem kw_913 : (Jvm.Cond.selects "BonnetValleyModel" ({ cls := "BonnetValleyModel", name := "digitIn", desc := "(II)I" } : Jvm.MethodName) ({ cls := "BonnetValleyModel", name := "digitIn", desc := "(II)I" } : Jvm.MethodName)) ∈ kALL := kin_0 (n := 33) (by decide +kernel)
theorem kw_914 : (Jvm.Cond.methodLink "BonnetValleyModel" (184 : Nat) ({ cls := "BonnetValleyModel", name := "takesOf", desc := "(Ljava/lang/String;)I" } : Jvm.MethodName)) ∈ kALL := kin_7 (n := 13) ⟨rfl, by decide +kernel⟩
theorem kw_915 : (Jvm.Cond.instanceMethod ({ cls := "BonnetValleyModel", name := "takesOf", desc := "(Ljava/lang/String;)I" } : Jvm.MethodName)) ∈ kALL := kin_7 (n := 15) ⟨rfl, by decide +kernel⟩
theorem kw_916 : (Jvm.Cond.selects "BonnetValleyModel" ({ cls := "BonnetValleyModel", name := "takesOf", desc := "(Ljava/lang/String;)I" } : Jvm.MethodName) ({ cls := "BonnetValleyModel", name := "takesOf", desc := "(Ljava/lang/String;)I" } : Jvm.MethodName)) ∈ kALL := kin_0 (n := 34) (by decide +kernel)
theorem kw_917 : (Jvm.Cond.fieldLink "BonnetValleyModel" (188 : Nat) "BonnetValleyModel" "undos" "I") ∈ kALL := kin_6 (n := 107) ⟨rfl, by decide +kernel⟩
theorem kw_918 : (Jvm.Cond.fieldLink "BonnetValleyModel" (191 : Nat) "BonnetValleyModel" "changes" "I") ∈ kALL := kin_6 (n := 87) ⟨rfl, by decide +kernel⟩
theorem kw_919 : (Jvm.Cond.fieldLink "BonnetValleyModel" (194 : Nat) "BonnetValleyModel" "heardMany" "I") ∈ kALL := kin_6 (n := 119) ⟨rfl, by decide +kernel⟩
theorem kw_920 : (Jvm.Cond.fieldLink "BonnetValleyModel" (197 : Nat) "BonnetValleyModel" "readMany" "I") ∈ kALL := kin_6 (n := 100) ⟨rfl, by decide +kernel⟩
theorem kw_921 : (Jvm.Cond.methodLink "BonnetValleyModel" (200 : Nat) ({ cls := "BonnetValleyModel", name := "readsField", desc := "()I" } : Jvm.MethodName)) ∈ kALL := kin_7 (n := 54) ⟨rfl, by decide +kernel⟩
theorem kw_922 : (Jvm.Cond.instanceMethod ({ cls := "BonnetValleyModel", name := "readsField", desc := "()I" } : Jvm.MethodName)) ∈ kALL := kin_7 (n := 56) ⟨rfl, by decide +kernel⟩
theorem kw_923 : (Jvm.Cond.selects "BonnetValleyModel" ({ cls := "BonnetValleyModel", name := "readsField", desc := "()I" } : Jvm.MethodName) ({ cls := "BonnetValleyModel", name := "readsField", desc := "()I" } : Jvm.MethodName)) ∈ kALL := kin_0 (n := 38) (by decide +kernel)
theorem kw_924 : (Jvm.Cond.methodLink "BonnetValleyModel" (203 : Nat) ({ cls := "BonnetValleyModel", name := "readsPerson", desc := "()Z" } : Jvm.MethodName)) ∈ kALL := kin_7 (n := 50) ⟨rfl, by decide +kernel⟩
theorem kw_925 : (Jvm.Cond.instanceMethod ({ cls := "BonnetValleyModel", name := "readsPerson", desc := "()Z" } : Jvm.MethodName)) ∈ kALL := kin_7 (n := 52) ⟨rfl, by decide +kernel⟩
theorem kw_926 : (Jvm.Cond.selects "BonnetValleyModel" ({ cls := "BonnetValleyModel", name := "readsPerson", desc := "()Z" } : Jvm.MethodName) ({ cls := "BonnetValleyModel", name := "readsPerson", desc := "()Z" } : Jvm.MethodName)) ∈ kALL := kin_0 (n := 37) (by decide +kernel)
theorem kw_927 : (Jvm.Cond.methodLink "BonnetValleyModel" (206 : Nat) ({ cls := "BonnetValleyModel", name := "readsThing", desc := "()Z" } : Jvm.MethodName)) ∈ kALL := kin_7 (n := 58) ⟨rfl, by decide +kernel⟩
theorem kw_928 : (Jvm.Cond.instanceMethod ({ cls := "BonnetValleyModel", name := "readsThing", desc := "()Z" } : Jvm.MethodName)) ∈ kALL := kin_7 (n := 60) ⟨rfl, by decide +kernel⟩
theorem kw_929 : (Jvm.Cond.selects "BonnetValleyModel" ({ cls := "BonnetValleyModel", name := "readsThing", desc := "()Z" } : Jvm.MethodName) ({ cls := "BonnetValleyModel", name := "readsThing", desc := "()Z" } : Jvm.MethodName)) ∈ kALL := kin_0 (n := 39) (by decide +kernel)
theorem kw_930 : (Jvm.Cond.methodLink "BonnetValleyModel" (209 : Nat) ({ cls := "BonnetValleyModel", name := "takes", desc := "(I)Z" } : Jvm.MethodName)) ∈ kALL := kin_7 (n := 62) ⟨rfl, by decide +kernel⟩
theorem kw_931 : (Jvm.Cond.instanceMethod ({ cls := "BonnetValleyModel", name := "takes", desc := "(I)Z" } : Jvm.MethodName)) ∈ kALL := kin_7 (n := 64) ⟨rfl, by decide +kernel⟩
theorem kw_932 : (Jvm.Cond.selects "BonnetValleyModel" ({ cls := "BonnetValleyModel", name := "takes", desc := "(I)Z" } : Jvm.MethodName) ({ cls := "BonnetValleyModel", name := "takes", desc := "(I)Z" } : Jvm.MethodName)) ∈ kALL := kin_0 (n := 40) (by decide +kernel)
theorem kw_933 : (Jvm.Cond.methodLink "BonnetValleyModel" (213 : Nat) ({ cls := "BonnetValleyModel", name := "faultOf", desc := "(IIZ)I" } : Jvm.MethodName)) ∈ kALL := kin_7 (n := 69) ⟨rfl, by decide +kernel⟩
theorem kw_934 : (Jvm.Cond.instanceMethod ({ cls := "BonnetValleyModel", name := "faultOf", desc := "(IIZ)I" } : Jvm.MethodName)) ∈ kALL := kin_7 (n := 71) ⟨rfl, by decide +kernel⟩
theorem kw_935 : (Jvm.Cond.selects "BonnetValleyModel" ({ cls := "BonnetValleyModel", name := "faultOf", desc := "(IIZ)I" } : Jvm.MethodName) ({ cls := "BonnetValleyModel", name := "faultOf", desc := "(IIZ)I" } : Jvm.MethodName)) ∈ kALL := kin_0 (n := 41) (by decide +kernel)
theorem kw_936 : (Jvm.Cond.methodLink "BonnetValleyModel" (217 : Nat) ({ cls := "BonnetValleyModel", name := "readsLines", desc := "(ZI)I" } : Jvm.MethodName)) ∈ kALL := kin_7 (n := 46) ⟨rfl, by decide +kernel⟩
theorem kw_937 : (Jvm.Cond.instanceMethod ({ cls := "BonnetValleyModel", name := "readsLines", desc := "(ZI)I" } : Jvm.MethodName)) ∈ kALL := kin_7 (n := 48) ⟨rfl, by decide +kernel⟩
theorem kw_938 : (Jvm.Cond.selects "BonnetValleyModel" ({ cls := "BonnetValleyModel", name := "readsLines", desc := "(ZI)I" } : Jvm.MethodName) ({ cls := "BonnetValleyModel", name := "readsLines", desc := "(ZI)I" } : Jvm.MethodName)) ∈ kALL := kin_0 (n := 36) (by decide +kernel)
theorem kw_939 : (Jvm.Cond.methodLink "BonnetValleyModel" (221 : Nat) ({ cls := "BonnetValleyModel", name := "isNew", desc := "()I" } : Jvm.MethodName)) ∈ kALL := kin_7 (n := 73) ⟨rfl, by decide +kernel⟩
theorem kw_940 : (Jvm.Cond.instanceMethod ({ cls := "BonnetValleyModel", name := "isNew", desc := "()I" } : Jvm.MethodName)) ∈ kALL := kin_7 (n := 75) ⟨rfl, by decide +kernel⟩
theorem kw_941 : (Jvm.Cond.selects "BonnetValleyModel" ({ cls := "BonnetValleyModel", name := "isNew", desc := "()I" } : Jvm.MethodName) ({ cls := "BonnetValleyModel", name := "isNew", desc := "()I" } : Jvm.MethodName)) ∈ kALL := kin_0 (n := 42) (by decide +kernel)
theorem kw_942 : (Jvm.Cond.methodLink "BonnetValleyModel" (224 : Nat) ({ cls := "BonnetValleyModel", name := "number", desc := "(I)I" } : Jvm.MethodName)) ∈ kALL := kin_7 (n := 91) ⟨rfl, by decide +kernel⟩
theorem kw_943 : (Jvm.Cond.instanceMethod ({ cls := "BonnetValleyModel", name := "number", desc := "(I)I" } : Jvm.MethodName)) ∈ kALL := kin_7 (n := 93) ⟨rfl, by decide +kernel⟩
theorem kw_944 : (Jvm.Cond.selects "BonnetValleyModel" ({ cls := "BonnetValleyModel", name := "number", desc := "(I)I" } : Jvm.MethodName) ({ cls := "BonnetValleyModel", name := "number", desc := "(I)I" } : Jvm.MethodName)) ∈ kALL := kin_0 (n := 44) (by decide +kernel)
theorem kw_945 : (Jvm.Cond.fieldLink "BonnetValleyModel" (227 : Nat) "BonnetValleyModel" "codesRead" "I") ∈ kALL := kin_6 (n := 104) ⟨rfl, by decide +kernel⟩
theorem kw_946 : (Jvm.Cond.methodLink "BonnetValleyModel" (230 : Nat) ({ cls := "BonnetValleyModel", name := "readsAsked", desc := "()Z" } : Jvm.MethodName)) ∈ kALL := kin_7 (n := 107) ⟨rfl, by decide +kernel⟩
theorem kw_947 : (Jvm.Cond.instanceMethod ({ cls := "BonnetValleyModel", name := "readsAsked", desc := "()Z" } : Jvm.MethodName)) ∈ kALL := kin_7 (n := 109) ⟨rfl, by decide +kernel⟩
theorem kw_948 : (Jvm.Cond.selects "BonnetValleyModel" ({ cls := "BonnetValleyModel", name := "readsAsked", desc := "()Z" } : Jvm.MethodName) ({ cls := "BonnetValleyModel", name := "readsAsked", desc := "()Z" } : Jvm.MethodName)) ∈ kALL := kin_0 (n := 47) (by decide +kernel)
theorem kw_949 : (Jvm.Cond.methodLink "BonnetValleyModel" (233 : Nat) ({ cls := "BonnetValleyModel", name := "codes", desc := "(I)V" } : Jvm.MethodName)) ∈ kALL := kin_7 (n := 111) ⟨rfl, by decide +kernel⟩
theorem kw_950 : (Jvm.Cond.instanceMethod ({ cls := "BonnetValleyModel", name := "codes", desc := "(I)V" } : Jvm.MethodName)) ∈ kALL := kin_7 (n := 113) ⟨rfl, by decide +kernel⟩
theorem kw_951 : (Jvm.Cond.selects "BonnetValleyModel" ({ cls := "BonnetValleyModel", name := "codes", desc := "(I)V" } : Jvm.MethodName) ({ cls := "BonnetValleyModel", name := "codes", desc := "(I)V" } : Jvm.MethodName)) ∈ kALL := kin_0 (n := 48) (by decide +kernel)
theorem kw_952 : (Jvm.Cond.methodLink "BonnetValleyModel" (239 : Nat) ({ cls := "BonnetValleyModel", name := "readsRank", desc := "(I)Z" } : Jvm.MethodName)) ∈ kALL := kin_7 (n := 103) ⟨rfl, by decide +kernel⟩
theorem kw_953 : (Jvm.Cond.instanceMethod ({ cls := "BonnetValleyModel", name := "readsRank", desc := "(I)Z" } : Jvm.MethodName)) ∈ kALL := kin_7 (n := 105) ⟨rfl, by decide +kernel⟩
theorem kw_954 : (Jvm.Cond.selects "BonnetValleyModel" ({ cls := "BonnetValleyModel", name := "readsRank", desc := "(I)Z" } : Jvm.MethodName) ({ cls := "BonnetValleyModel", name := "readsRank", desc := "(I)Z" } : Jvm.MethodName)) ∈ kALL := kin_0 (n := 46) (by decide +kernel)
theorem kw_955 : (Jvm.Cond.fieldLink "BonnetValleyModel" (248 : Nat) "BonnetValleyModel" "codeLong" "I") ∈ kALL := kin_6 (n := 103) ⟨rfl, by decide +kernel⟩
theorem kw_956 : (Jvm.Cond.methodLink "BonnetValleyModel" (251 : Nat) ({ cls := "BonnetValleyModel", name := "readsRule", desc := "()I" } : Jvm.MethodName)) ∈ kALL := kin_7 (n := 99) ⟨rfl, by decide +kernel⟩
theorem kw_957 : (Jvm.Cond.instanceMethod ({ cls := "BonnetValleyModel", name := "readsRule", desc := "()I" } : Jvm.MethodName)) ∈ kALL := kin_7 (n := 101) ⟨rfl, by decide +kernel⟩
theorem kw_958 : (Jvm.Cond.selects "BonnetValleyModel" ({ cls := "BonnetValleyModel", name := "readsRule", desc := "()I" } : Jvm.MethodName) ({ cls := "BonnetValleyModel", name := "readsRule", desc := "()I" } : Jvm.MethodName)) ∈ kALL := kin_0 (n := 45) (by decide +kernel)
theorem kw_959 : (Jvm.Cond.methodLink "BonnetValleyModel" (254 : Nat) ({ cls := "BonnetValleyModel", name := "laysCode", desc := "([II)V" } : Jvm.MethodName)) ∈ kALL := kin_7 (n := 119) ⟨rfl, by decide +kernel⟩
theorem kw_960 : (Jvm.Cond.instanceMethod ({ cls := "BonnetValleyModel", name := "laysCode", desc := "([II)V" } : Jvm.MethodName)) ∈ kALL := kin_7 (n := 121) ⟨rfl, by decide +kernel⟩
theorem kw_961 : (Jvm.Cond.selects "BonnetValleyModel" ({ cls := "BonnetValleyModel", name := "laysCode", desc := "([II)V" } : Jvm.MethodName) ({ cls := "BonnetValleyModel", name := "laysCode", desc := "([II)V" } : Jvm.MethodName)) ∈ kALL := kin_0 (n := 49) (by decide +kernel)
theorem kw_962 : (Jvm.Cond.methodLink "BonnetValleyModel" (258 : Nat) ({ cls := "BonnetValleyModel", name := "worked", desc := "(III)I" } : Jvm.MethodName)) ∈ kALL := kin_7 (n := 149) ⟨rfl, by decide +kernel⟩
theorem kw_963 : (Jvm.Cond.static ({ cls := "BonnetValleyModel", name := "worked", desc := "(III)I" } : Jvm.MethodName)) ∈ kALL := kin_7 (n := 150) ⟨rfl, by decide +kernel⟩
theorem kw_964 : (Jvm.Cond.methodLink "BonnetValleyModel" (262 : Nat) ({ cls := "BonnetValleyModel", name := "lightOn", desc := "(I)I" } : Jvm.MethodName)) ∈ kALL := kin_7 (n := 140) ⟨rfl, by decide +kernel⟩
theorem kw_965 : (Jvm.Cond.instanceMethod ({ cls := "BonnetValleyModel", name := "lightOn", desc := "(I)I" } : Jvm.MethodName)) ∈ kALL := kin_7 (n := 142) ⟨rfl, by decide +kernel⟩
theorem kw_966 : (Jvm.Cond.selects "BonnetValleyModel" ({ cls := "BonnetValleyModel", name := "lightOn", desc := "(I)I" } : Jvm.MethodName) ({ cls := "BonnetValleyModel", name := "lightOn", desc := "(I)I" } : Jvm.MethodName)) ∈ kALL := kin_0 (n := 53) (by decide +kernel)
theorem kw_967 : (Jvm.Cond.methodLink "BonnetValleyModel" (265 : Nat) ({ cls := "java/lang/Integer", name := "bitCount", desc := "(I)I" } : Jvm.MethodName)) ∈ kALL := kin_7 (n := 144) ⟨rfl, by decide +kernel⟩
theorem kw_968 : (Jvm.Cond.methodLink "BonnetValleyModel" (270 : Nat) ({ cls := "BonnetValleyModel", name := "ruled", desc := "()I" } : Jvm.MethodName)) ∈ kALL := kin_7 (n := 145) ⟨rfl, by decide +kernel⟩
theorem kw_969 : (Jvm.Cond.instanceMethod ({ cls := "BonnetValleyModel", name := "ruled", desc := "()I" } : Jvm.MethodName)) ∈ kALL := kin_7 (n := 147) ⟨rfl, by decide +kernel⟩
theorem kw_970 : (Jvm.Cond.selects "BonnetValleyModel" ({ cls := "BonnetValleyModel", name := "ruled", desc := "()I" } : Jvm.MethodName) ({ cls := "BonnetValleyModel", name := "ruled", desc := "()I" } : Jvm.MethodName)) ∈ kALL := kin_0 (n := 54) (by decide +kernel)
theorem kw_971 : (Jvm.Cond.methodLink "BonnetValleyModel" (273 : Nat) ({ cls := "java/lang/Math", name := "max", desc := "(II)I" } : Jvm.MethodName)) ∈ kALL := kin_7 (n := 152) ⟨rfl, by decide +kernel⟩
theorem kw_972 : (Jvm.Cond.methodLink "BonnetValleyModel" (276 : Nat) ({ cls := "java/lang/Math", name := "abs", desc := "(I)I" } : Jvm.MethodName)) ∈ kALL := kin_7 (n := 161) ⟨rfl, by decide +kernel⟩
theorem kw_973 : (Jvm.Cond.methodLink "BonnetValleyModel" (279 : Nat) ({ cls := "java/lang/Integer", name := "signum", desc := "(I)I" } : Jvm.MethodName)) ∈ kALL := kin_7 (n := 172) ⟨rfl, by decide +kernel⟩
theorem kw_974 : (Jvm.Cond.static ({ cls := "java/lang/Integer", name := "signum", desc := "(I)I" } : Jvm.MethodName)) ∈ kALL := kin_7 (n := 173) ⟨rfl, by decide +kernel⟩
theorem kw_975 : (Jvm.Cond.methodLink "BonnetValleyModel" (282 : Nat) ({ cls := "BonnetValleyModel", name := "way", desc := "(II)I" } : Jvm.MethodName)) ∈ kALL := kin_7 (n := 162) ⟨rfl, by decide +kernel⟩
theorem kw_976 : (Jvm.Cond.static ({ cls := "BonnetValleyModel", name := "way", desc := "(II)I" } : Jvm.MethodName)) ∈ kALL := kin_7 (n := 163) ⟨rfl, by decide +kernel⟩
theorem kw_977 : (Jvm.Cond.methodLink "BonnetValleyModel" (285 : Nat) ({ cls := "BonnetValleyModel", name := "eighthsBetween", desc := "(II)I" } : Jvm.MethodName)) ∈ kALL := kin_7 (n := 165) ⟨rfl, by decide +kernel⟩
theorem kw_978 : (Jvm.Cond.static ({ cls := "BonnetValleyModel", name := "eighthsBetween", desc := "(II)I" } : Jvm.MethodName)) ∈ kALL := kin_7 (n := 166) ⟨rfl, by decide +kernel⟩
theorem kw_979 : (Jvm.Cond.methodLink "BonnetValleyModel" (288 : Nat) ({ cls := "BonnetValleyModel", name := "isClear", desc := "(II)Z" } : Jvm.MethodName)) ∈ kALL := kin_7 (n := 168) ⟨rfl, by decide +kernel⟩
theorem kw_980 : (Jvm.Cond.instanceMethod ({ cls := "BonnetValleyModel", name := "isClear", desc := "(II)Z" } : Jvm.MethodName)) ∈ kALL := kin_7 (n := 170) ⟨rfl, by decide +kernel⟩
theorem kw_981 : (Jvm.Cond.selects "BonnetValleyModel" ({ cls := "BonnetValleyModel", name := "isClear", desc := "(II)Z" } : Jvm.MethodName) ({ cls := "BonnetValleyModel", name := "isClear", desc := "(II)Z" } : Jvm.MethodName)) ∈ kALL := kin_0 (n := 57) (by decide +kernel)
theorem kw_982 : (Jvm.Cond.methodLink "BonnetValleyModel" (292 : Nat) ({ cls := "BonnetValleyModel", name := "reachBy", desc := "([III)I" } : Jvm.MethodName)) ∈ kALL := kin_7 (n := 136) ⟨rfl, by decide +kernel⟩
theorem kw_983 : (Jvm.Cond.instanceMethod ({ cls := "BonnetValleyModel", name := "reachBy", desc := "([III)I" } : Jvm.MethodName)) ∈ kALL := kin_7 (n := 138) ⟨rfl, by decide +kernel⟩
theorem kw_984 : (Jvm.Cond.selects "BonnetValleyModel" ({ cls := "BonnetValleyModel", name := "reachBy", desc := "([III)I" } : Jvm.MethodName) ({ cls := "BonnetValleyModel", name := "reachBy", desc := "([III)I" } : Jvm.MethodName)) ∈ kALL := kin_0 (n := 52) (by decide +kernel)
theorem kw_985 : (Jvm.Cond.methodLink "BonnetValleyModel" (296 : Nat) ({ cls := "BonnetValleyModel", name := "seesBy", desc := "(IIIII)Z" } : Jvm.MethodName)) ∈ kALL := kin_7 (n := 157) ⟨rfl, by decide +kernel⟩
theorem kw_986 : (Jvm.Cond.instanceMethod ({ cls := "BonnetValleyModel", name := "seesBy", desc := "(IIIII)Z" } : Jvm.MethodName)) ∈ kALL := kin_7 (n := 159) ⟨rfl, by decide +kernel⟩
theorem kw_987 : (Jvm.Cond.selects "BonnetValleyModel" ({ cls := "BonnetValleyModel", name := "seesBy", desc := "(IIIII)Z" } : Jvm.MethodName) ({ cls := "BonnetValleyModel", name := "seesBy", desc := "(IIIII)Z" } : Jvm.MethodName)) ∈ kALL := kin_0 (n := 56) (by decide +kernel)
theorem kw_988 : (Jvm.Cond.methodLink "BonnetValleyModel" (300 : Nat) ({ cls := "BonnetValleyModel", name := "fieldsSeen", desc := "([II)J" } : Jvm.MethodName)) ∈ kALL := kin_7 (n := 153) ⟨rfl, by decide +kernel⟩
theorem kw_989 : (Jvm.Cond.instanceMethod ({ cls := "BonnetValleyModel", name := "fieldsSeen", desc := "([II)J" } : Jvm.MethodName)) ∈ kALL := kin_7 (n := 155) ⟨rfl, by decide +kernel⟩
theorem kw_990 : (Jvm.Cond.selects "BonnetValleyModel" ({ cls := "BonnetValleyModel", name := "fieldsSeen", desc := "([II)J" } : Jvm.MethodName) ({ cls := "BonnetValleyModel", name := "fieldsSeen", desc := "([II)J" } : Jvm.MethodName)) ∈ kALL := kin_0 (n := 55) (by decide +kernel)
theorem kw_991 : (Jvm.Cond.methodLink "BonnetValleyModel" (304 : Nat) ({ cls := "BonnetValleyModel", name := "has", desc := "(JI)Z" } : Jvm.MethodName)) ∈ kALL := kin_7 (n := 179) ⟨rfl, by decide +kernel⟩
theorem kw_992 : (Jvm.Cond.static ({ cls := "BonnetValleyModel", name := "has", desc := "(JI)Z" } : Jvm.MethodName)) ∈ kALL := kin_7 (n := 180) ⟨rfl, by decide +kernel⟩
theorem kw_993 : (Jvm.Cond.methodLink "BonnetValleyModel" (308 : Nat) ({ cls := "BonnetValleyModel", name := "doesSee", desc := "([III)Z" } : Jvm.MethodName)) ∈ kALL := kin_7 (n := 199) ⟨rfl, by decide +kernel⟩
theorem kw_994 : (Jvm.Cond.instanceMethod ({ cls := "BonnetValleyModel", name := "doesSee", desc := "([III)Z" } : Jvm.MethodName)) ∈ kALL := kin_7 (n := 201) ⟨rfl, by decide +kernel⟩
theorem kw_995 : (Jvm.Cond.selects "BonnetValleyModel" ({ cls := "BonnetValleyModel", name := "doesSee", desc := "([III)Z" } : Jvm.MethodName) ({ cls := "BonnetValleyModel", name := "doesSee", desc := "([III)Z" } : Jvm.MethodName)) ∈ kALL := kin_0 (n := 62) (by decide +kernel)
theorem kw_996 : (Jvm.Cond.methodLink "BonnetValleyModel" (312 : Nat) ({ cls := "BonnetValleyModel", name := "seeEachOther", desc := "([III)Z" } : Jvm.MethodName)) ∈ kALL := kin_7 (n := 237) ⟨rfl, by decide +kernel⟩
theorem kw_997 : (Jvm.Cond.instanceMethod ({ cls := "BonnetValleyModel", name := "seeEachOther", desc := "([III)Z" } : Jvm.MethodName)) ∈ kALL := kin_7 (n := 239) ⟨rfl, by decide +kernel⟩
theorem kw_998 : (Jvm.Cond.selects "BonnetValleyModel" ({ cls := "BonnetValleyModel", name := "seeEachOther", desc := "([III)Z" } : Jvm.MethodName) ({ cls := "BonnetValleyModel", name := "seeEachOther", desc := "([III)Z" } : Jvm.MethodName)) ∈ kALL := kin_0 (n := 68) (by decide +kernel)
theorem kw_999 : (Jvm.Cond.methodLink "BonnetValleyModel" (315 : Nat) ({ cls := "BonnetValleyModel", name := "isPerson", desc := "(I)Z" } : Jvm.MethodName)) ∈ kALL := kin_7 (n := 127) ⟨rfl, by decide +kernel⟩
theorem kw_1000 : (Jvm.Cond.instanceMethod ({ cls := "BonnetValleyModel", name := "isPerson", desc := "(I)Z" } : Jvm.MethodName)) ∈ kALL := kin_7 (n := 129) ⟨rfl, by decide +kernel⟩
theorem kw_1001 : (Jvm.Cond.selects "BonnetValleyModel" ({ cls := "BonnetValleyModel", name := "isPerson", desc := "(I)Z" } : Jvm.MethodName) ({ cls := "BonnetValleyModel", name := "isPerson", desc := "(I)Z" } : Jvm.MethodName)) ∈ kALL := kin_0 (n := 50) (by decide +kernel)
theorem kw_1002 : (Jvm.Cond.constantLong "BonnetValleyModel" (318 : Nat) (5 : Int64)) ∈ kALL := kin_7 (n := 131) ⟨rfl, by decide +kernel⟩
theorem kw_1003 : (Jvm.Cond.methodLink "BonnetValleyModel" (320 : Nat) ({ cls := "BonnetValleyModel", name := "refuse", desc := "()I" } : Jvm.MethodName)) ∈ kALL := kin_7 (n := 132) ⟨rfl, by decide +kernel⟩
theorem kw_1004 : (Jvm.Cond.instanceMethod ({ cls := "BonnetValleyModel", name := "refuse", desc := "()I" } : Jvm.MethodName)) ∈ kALL := kin_7 (n := 134) ⟨rfl, by decide +kernel⟩
theorem kw_1005 : (Jvm.Cond.selects "BonnetValleyModel" ({ cls := "BonnetValleyModel", name := "refuse", desc := "()I" } : Jvm.MethodName) ({ cls := "BonnetValleyModel", name := "refuse", desc := "()I" } : Jvm.MethodName)) ∈ kALL := kin_0 (n := 51) (by decide +kernel)
theorem kw_1006 : (Jvm.Cond.methodLink "BonnetValleyModel" (323 : Nat) ({ cls := "BonnetValleyModel", name := "thingsOn", desc := "([IJ)I" } : Jvm.MethodName)) ∈ kALL := kin_7 (n := 175) ⟨rfl, by decide +kernel⟩
theorem kw_1007 : (Jvm.Cond.instanceMethod ({ cls := "BonnetValleyModel", name := "thingsOn", desc := "([IJ)I" } : Jvm.MethodName)) ∈ kALL := kin_7 (n := 177) ⟨rfl, by decide +kernel⟩
theorem kw_1008 : (Jvm.Cond.selects "BonnetValleyModel" ({ cls := "BonnetValleyModel", name := "thingsOn", desc := "([IJ)I" } : Jvm.MethodName) ({ cls := "BonnetValleyModel", name := "thingsOn", desc := "([IJ)I" } : Jvm.MethodName)) ∈ kALL := kin_0 (n := 58) (by decide +kernel)
theorem kw_1009 : (Jvm.Cond.methodLink "BonnetValleyModel" (327 : Nat) ({ cls := "BonnetValleyModel", name := "isThing", desc := "(I)Z" } : Jvm.MethodName)) ∈ kALL := kin_7 (n := 186) ⟨rfl, by decide +kernel⟩
theorem kw_1010 : (Jvm.Cond.instanceMethod ({ cls := "BonnetValleyModel", name := "isThing", desc := "(I)Z" } : Jvm.MethodName)) ∈ kALL := kin_7 (n := 188) ⟨rfl, by decide +kernel⟩
theorem kw_1011 : (Jvm.Cond.selects "BonnetValleyModel" ({ cls := "BonnetValleyModel", name := "isThing", desc := "(I)Z" } : Jvm.MethodName) ({ cls := "BonnetValleyModel", name := "isThing", desc := "(I)Z" } : Jvm.MethodName)) ∈ kALL := kin_0 (n := 59) (by decide +kernel)
theorem kw_1012 : (Jvm.Cond.constantLong "BonnetValleyModel" (330 : Nat) (2 : Int64)) ∈ kALL := kin_7 (n := 190) ⟨rfl, by decide +kernel⟩
theorem kw_1013 : (Jvm.Cond.methodLink "BonnetValleyModel" (332 : Nat) ({ cls := "BonnetValleyModel", name := "knowing", desc := "([II)I" } : Jvm.MethodName)) ∈ kALL := kin_7 (n := 191) ⟨rfl, by decide +kernel⟩
theorem kw_1014 : (Jvm.Cond.instanceMethod ({ cls := "BonnetValleyModel", name := "knowing", desc := "([II)I" } : Jvm.MethodName)) ∈ kALL := kin_7 (n := 193) ⟨rfl, by decide +kernel⟩
theorem kw_1015 : (Jvm.Cond.selects "BonnetValleyModel" ({ cls := "BonnetValleyModel", name := "knowing", desc := "([II)I" } : Jvm.MethodName) ({ cls := "BonnetValleyModel", name := "knowing", desc := "([II)I" } : Jvm.MethodName)) ∈ kALL := kin_0 (n := 60) (by decide +kernel)
theorem kw_1016 : (Jvm.Cond.methodLink "BonnetValleyModel" (336 : Nat) ({ cls := "BonnetValleyModel", name := "whoSees", desc := "([II)I" } : Jvm.MethodName)) ∈ kALL := kin_7 (n := 195) ⟨rfl, by decide +kernel⟩
theorem kw_1017 : (Jvm.Cond.instanceMethod ({ cls := "BonnetValleyModel", name := "whoSees", desc := "([II)I" } : Jvm.MethodName)) ∈ kALL := kin_7 (n := 197) ⟨rfl, by decide +kernel⟩
theorem kw_1018 : (Jvm.Cond.selects "BonnetValleyModel" ({ cls := "BonnetValleyModel", name := "whoSees", desc := "([II)I" } : Jvm.MethodName) ({ cls := "BonnetValleyModel", name := "whoSees", desc := "([II)I" } : Jvm.MethodName)) ∈ kALL := kin_0 (n := 61) (by decide +kernel)
theorem kw_1019 : (Jvm.Cond.constantLong "BonnetValleyModel" (339 : Nat) (3 : Int64)) ∈ kALL := kin_7 (n := 207) ⟨rfl, by decide +kernel⟩
theorem kw_1020 : (Jvm.Cond.methodLink "BonnetValleyModel" (341 : Nat) ({ cls := "BonnetValleyModel", name := "adds", desc := "(I)I" } : Jvm.MethodName)) ∈ kALL := kin_8 (n := 5) ⟨rfl, by decide +kernel⟩
theorem kw_1021 : (Jvm.Cond.instanceMethod ({ cls := "BonnetValleyModel", name := "adds", desc := "(I)I" } : Jvm.MethodName)) ∈ kALL := kin_8 (n := 7) ⟨rfl, by decide +kernel⟩
theorem kw_1022 : (Jvm.Cond.selects "BonnetValleyModel" ({ cls := "BonnetValleyModel", name := "adds", desc := "(I)I" } : Jvm.MethodName) ({ cls := "BonnetValleyModel", name := "adds", desc := "(I)I" } : Jvm.MethodName)) ∈ kALL := kin_0 (n := 70) (by decide +kernel)
theorem kw_1023 : (Jvm.Cond.methodLink "BonnetValleyModel" (344 : Nat) ({ cls := "BonnetValleyModel", name := "tellEachOther", desc := "([III)Z" } : Jvm.MethodName)) ∈ kALL := kin_7 (n := 233) ⟨rfl, by decide +kernel⟩
theorem kw_1024 : (Jvm.Cond.instanceMethod ({ cls := "BonnetValleyModel", name := "tellEachOther", desc := "([III)Z" } : Jvm.MethodName)) ∈ kALL := kin_7 (n := 235) ⟨rfl, by decide +kernel⟩
theorem kw_1025 : (Jvm.Cond.selects "BonnetValleyModel" ({ cls := "BonnetValleyModel", name := "tellEachOther", desc := "([III)Z" } : Jvm.MethodName) ({ cls := "BonnetValleyModel", name := "tellEachOther", desc := "([III)Z" } : Jvm.MethodName)) ∈ kALL := kin_0 (n := 67) (by decide +kernel)
theorem kw_1026 : (Jvm.Cond.methodLink "BonnetValleyModel" (347 : Nat) ({ cls := "BonnetValleyModel", name := "hourGoes", desc := "([I)V" } : Jvm.MethodName)) ∈ kALL := kin_7 (n := 229) ⟨rfl, by decide +kernel⟩
theorem kw_1027 : (Jvm.Cond.instanceMethod ({ cls := "BonnetValleyModel", name := "hourGoes", desc := "([I)V" } : Jvm.MethodName)) ∈ kALL := kin_7 (n := 231) ⟨rfl, by decide +kernel⟩
theorem kw_1028 : (Jvm.Cond.selects "BonnetValleyModel" ({ cls := "BonnetValleyModel", name := "hourGoes", desc := "([I)V" } : Jvm.MethodName) ({ cls := "BonnetValleyModel", name := "hourGoes", desc := "([I)V" } : Jvm.MethodName)) ∈ kALL := kin_0 (n := 66) (by decide +kernel)
theorem kw_1029 : (Jvm.Cond.constantLong "BonnetValleyModel" (351 : Nat) (7 : Int64)) ∈ kALL := kin_8 (n := 17) ⟨rfl, by decide +kernel⟩
theorem kw_1030 : (Jvm.Cond.methodLink "BonnetValleyModel" (353 : Nat) ({ cls := "BonnetValleyModel", name := "beside", desc := "(II)I" } : Jvm.MethodName)) ∈ kALL := kin_8 (n := 30) ⟨rfl, by decide +kernel⟩
theorem kw_1031 : (Jvm.Cond.instanceMethod ({ cls := "BonnetValleyModel", name := "beside", desc := "(II)I" } : Jvm.MethodName)) ∈ kALL := kin_8 (n := 32) ⟨rfl, by decide +kernel⟩
theorem kw_1032 : (Jvm.Cond.selects "BonnetValleyModel" ({ cls := "BonnetValleyModel", name := "beside", desc := "(II)I" } : Jvm.MethodName) ({ cls := "BonnetValleyModel", name := "beside", desc := "(II)I" } : Jvm.MethodName)) ∈ kALL := kin_0 (n := 74) (by decide +kernel)
theorem kw_1033 : (Jvm.Cond.constantLong "BonnetValleyModel" (356 : Nat) (4 : Int64)) ∈ kALL := kin_8 (n := 42) ⟨rfl, by decide +kernel⟩
theorem kw_1034 : (Jvm.Cond.methodLink "BonnetValleyModel" (358 : Nat) ({ cls := "BonnetValleyModel", name := "isField", desc := "(I)Z" } : Jvm.MethodName)) ∈ kALL := kin_8 (n := 51) ⟨rfl, by decide +kernel⟩
theorem kw_1035 : (Jvm.Cond.instanceMethod ({ cls := "BonnetValleyModel", name := "isField", desc := "(I)Z" } : Jvm.MethodName)) ∈ kALL := kin_8 (n := 53) ⟨rfl, by decide +kernel⟩
theorem kw_1036 : (Jvm.Cond.selects "BonnetValleyModel" ({ cls := "BonnetValleyModel", name := "isField", desc := "(I)Z" } : Jvm.MethodName) ({ cls := "BonnetValleyModel", name := "isField", desc := "(I)Z" } : Jvm.MethodName)) ∈ kALL := kin_0 (n := 77) (by decide +kernel)
theorem kw_1037 : (Jvm.Cond.constantLong "BonnetValleyModel" (361 : Nat) (60 : Int64)) ∈ kALL := kin_7 (n := 216) ⟨rfl, by decide +kernel⟩
theorem kw_1038 : (Jvm.Cond.methodLink "BonnetValleyModel" (363 : Nat) ({ cls := "BonnetValleyModel", name := "putsBy", desc := "()V" } : Jvm.MethodName)) ∈ kALL := kin_7 (n := 217) ⟨rfl, by decide +kernel⟩
theorem kw_1039 : (Jvm.Cond.instanceMethod ({ cls := "BonnetValleyModel", name := "putsBy", desc := "()V" } : Jvm.MethodName)) ∈ kALL := kin_7 (n := 219) ⟨rfl, by decide +kernel⟩
theorem kw_1040 : (Jvm.Cond.selects "BonnetValleyModel" ({ cls := "BonnetValleyModel", name := "putsBy", desc := "()V" } : Jvm.MethodName) ({ cls := "BonnetValleyModel", name := "putsBy", desc := "()V" } : Jvm.MethodName)) ∈ kALL := kin_0 (n := 63) (by decide +kernel)
theorem kw_1041 : (Jvm.Cond.methodLink "BonnetValleyModel" (366 : Nat) ({ cls := "BonnetValleyModel", name := "known", desc := "([I)I" } : Jvm.MethodName)) ∈ kALL := kin_7 (n := 221) ⟨rfl, by decide +kernel⟩
theorem kw_1042 : (Jvm.Cond.instanceMethod ({ cls := "BonnetValleyModel", name := "known", desc := "([I)I" } : Jvm.MethodName)) ∈ kALL := kin_7 (n := 223) ⟨rfl, by decide +kernel⟩
theorem kw_1043 : (Jvm.Cond.selects "BonnetValleyModel" ({ cls := "BonnetValleyModel", name := "known", desc := "([I)I" } : Jvm.MethodName) ({ cls := "BonnetValleyModel", name := "known", desc := "([I)I" } : Jvm.MethodName)) ∈ kALL := kin_0 (n := 64) (by decide +kernel)
theorem kw_1044 : (Jvm.Cond.methodLink "BonnetValleyModel" (370 : Nat) ({ cls := "BonnetValleyModel", name := "goesOn", desc := "([II)V" } : Jvm.MethodName)) ∈ kALL := kin_7 (n := 225) ⟨rfl, by decide +kernel⟩
theorem kw_1045 : (Jvm.Cond.instanceMethod ({ cls := "BonnetValleyModel", name := "goesOn", desc := "([II)V" } : Jvm.MethodName)) ∈ kALL := kin_7 (n := 227) ⟨rfl, by decide +kernel⟩
theorem kw_1046 : (Jvm.Cond.selects "BonnetValleyModel" ({ cls := "BonnetValleyModel", name := "goesOn", desc := "([II)V" } : Jvm.MethodName) ({ cls := "BonnetValleyModel", name := "goesOn", desc := "([II)V" } : Jvm.MethodName)) ∈ kALL := kin_0 (n := 65) (by decide +kernel)
theorem kw_1047 : (Jvm.Cond.methodLink "BonnetValleyModel" (373 : Nat) ({ cls := "BonnetValleyModel", name := "enters", desc := "(J)V" } : Jvm.MethodName)) ∈ kALL := kin_8 (n := 1) ⟨rfl, by decide +kernel⟩
theorem kw_1048 : (Jvm.Cond.instanceMethod ({ cls := "BonnetValleyModel", name := "enters", desc := "(J)V" } : Jvm.MethodName)) ∈ kALL := kin_8 (n := 3) ⟨rfl, by decide +kernel⟩
theorem kw_1049 : (Jvm.Cond.selects "BonnetValleyModel" ({ cls := "BonnetValleyModel", name := "enters", desc := "(J)V" } : Jvm.MethodName) ({ cls := "BonnetValleyModel", name := "enters", desc := "(J)V" } : Jvm.MethodName)) ∈ kALL := kin_0 (n := 69) (by decide +kernel)
theorem kw_1050 : (Jvm.Cond.methodLink "BonnetValleyModel" (377 : Nat) ({ cls := "BonnetValleyModel", name := "facesOne", desc := "([III)I" } : Jvm.MethodName)) ∈ kALL := kin_8 (n := 13) ⟨rfl, by decide +kernel⟩
theorem kw_1051 : (Jvm.Cond.instanceMethod ({ cls := "BonnetValleyModel", name := "facesOne", desc := "([III)I" } : Jvm.MethodName)) ∈ kALL := kin_8 (n := 15) ⟨rfl, by decide +kernel⟩
theorem kw_1052 : (Jvm.Cond.selects "BonnetValleyModel" ({ cls := "BonnetValleyModel", name := "facesOne", desc := "([III)I" } : Jvm.MethodName) ({ cls := "BonnetValleyModel", name := "facesOne", desc := "([III)I" } : Jvm.MethodName)) ∈ kALL := kin_0 (n := 71) (by decide +kernel)
theorem kw_1053 : (Jvm.Cond.methodLink "BonnetValleyModel" (380 : Nat) ({ cls := "BonnetValleyModel", name := "counted", desc := "(I)I" } : Jvm.MethodName)) ∈ kALL := kin_8 (n := 18) ⟨rfl, by decide +kernel⟩
theorem kw_1054 : (Jvm.Cond.instanceMethod ({ cls := "BonnetValleyModel", name := "counted", desc := "(I)I" } : Jvm.MethodName)) ∈ kALL := kin_8 (n := 20) ⟨rfl, by decide +kernel⟩
theorem kw_1055 : (Jvm.Cond.selects "BonnetValleyModel" ({ cls := "BonnetValleyModel", name := "counted", desc := "(I)I" } : Jvm.MethodName) ({ cls := "BonnetValleyModel", name := "counted", desc := "(I)I" } : Jvm.MethodName)) ∈ kALL := kin_0 (n := 72) (by decide +kernel)
theorem kw_1056 : (Jvm.Cond.methodLink "BonnetValleyModel" (383 : Nat) ({ cls := "BonnetValleyModel", name := "stepsOne", desc := "([III)I" } : Jvm.MethodName)) ∈ kALL := kin_8 (n := 26) ⟨rfl, by decide +kernel⟩
theorem kw_1057 : (Jvm.Cond.instanceMethod ({ cls := "BonnetValleyModel", name := "stepsOne", desc := "([III)I" } : Jvm.MethodName)) ∈ kALL := kin_8 (n := 28) ⟨rfl, by decide +kernel⟩
theorem kw_1058 : (Jvm.Cond.selects "BonnetValleyModel" ({ cls := "BonnetValleyModel", name := "stepsOne", desc := "([III)I" } : Jvm.MethodName) ({ cls := "BonnetValleyModel", name := "stepsOne", desc := "([III)I" } : Jvm.MethodName)) ∈ kALL := kin_0 (n := 73) (by decide +kernel)
theorem kw_1059 : (Jvm.Cond.methodLink "BonnetValleyModel" (386 : Nat) ({ cls := "BonnetValleyModel", name := "trimsOne", desc := "(II)I" } : Jvm.MethodName)) ∈ kALL := kin_8 (n := 38) ⟨rfl, by decide +kernel⟩
theorem kw_1060 : (Jvm.Cond.instanceMethod ({ cls := "BonnetValleyModel", name := "trimsOne", desc := "(II)I" } : Jvm.MethodName)) ∈ kALL := kin_8 (n := 40) ⟨rfl, by decide +kernel⟩
theorem kw_1061 : (Jvm.Cond.selects "BonnetValleyModel" ({ cls := "BonnetValleyModel", name := "trimsOne", desc := "(II)I" } : Jvm.MethodName) ({ cls := "BonnetValleyModel", name := "trimsOne", desc := "(II)I" } : Jvm.MethodName)) ∈ kALL := kin_0 (n := 75) (by decide +kernel)
theorem kw_1062 : (Jvm.Cond.methodLink "BonnetValleyModel" (389 : Nat) ({ cls := "BonnetValleyModel", name := "putsOne", desc := "(II)I" } : Jvm.MethodName)) ∈ kALL := kin_8 (n := 47) ⟨rfl, by decide +kernel⟩
theorem kw_1063 : (Jvm.Cond.instanceMethod ({ cls := "BonnetValleyModel", name := "putsOne", desc := "(II)I" } : Jvm.MethodName)) ∈ kALL := kin_8 (n := 49) ⟨rfl, by decide +kernel⟩
theorem kw_1064 : (Jvm.Cond.selects "BonnetValleyModel" ({ cls := "BonnetValleyModel", name := "putsOne", desc := "(II)I" } : Jvm.MethodName) ({ cls := "BonnetValleyModel", name := "putsOne", desc := "(II)I" } : Jvm.MethodName)) ∈ kALL := kin_0 (n := 76) (by decide +kernel)
theorem kw_1065 : (Jvm.Cond.fieldLink "BonnetValleyModel" (392 : Nat) "BonnetValleyModel" "acts" "I") ∈ kALL := kin_6 (n := 114) ⟨rfl, by decide +kernel⟩
theorem kw_1066 : (Jvm.Cond.methodLink "BonnetValleyModel" (397 : Nat) ({ cls := "BonnetValleyModel", name := "readsAct", desc := "()Z" } : Jvm.MethodName)) ∈ kALL := kin_8 (n := 59) ⟨rfl, by decide +kernel⟩
theorem kw_1067 : (Jvm.Cond.instanceMethod ({ cls := "BonnetValleyModel", name := "readsAct", desc := "()Z" } : Jvm.MethodName)) ∈ kALL := kin_8 (n := 61) ⟨rfl, by decide +kernel⟩
theorem kw_1068 : (Jvm.Cond.selects "BonnetValleyModel" ({ cls := "BonnetValleyModel", name := "readsAct", desc := "()Z" } : Jvm.MethodName) ({ cls := "BonnetValleyModel", name := "readsAct", desc := "()Z" } : Jvm.MethodName)) ∈ kALL := kin_0 (n := 78) (by decide +kernel)
theorem kw_1069 : (Jvm.Cond.methodLink "BonnetValleyModel" (400 : Nat) ({ cls := "BonnetValleyModel", name := "does", desc := "(I)Z" } : Jvm.MethodName)) ∈ kALL := kin_8 (n := 64) ⟨rfl, by decide +kernel⟩
theorem kw_1070 : (Jvm.Cond.instanceMethod ({ cls := "BonnetValleyModel", name := "does", desc := "(I)Z" } : Jvm.MethodName)) ∈ kALL := kin_8 (n := 66) ⟨rfl, by decide +kernel⟩
theorem kw_1071 : (Jvm.Cond.selects "BonnetValleyModel" ({ cls := "BonnetValleyModel", name := "does", desc := "(I)Z" } : Jvm.MethodName) ({ cls := "BonnetValleyModel", name := "does", desc := "(I)Z" } : Jvm.MethodName)) ∈ kALL := kin_0 (n := 79) (by decide +kernel)
theorem kw_1072 : (Jvm.Cond.constantLong "BonnetValleyModel" (403 : Nat) (-1 : Int64)) ∈ kALL := kin_8 (n := 72) ⟨rfl, by decide +kernel⟩
theorem kw_1073 : (Jvm.Cond.methodLink "BonnetValleyModel" (405 : Nat) ({ cls := "java/lang/Long", name := "bitCount", desc := "(J)I" } : Jvm.MethodName)) ∈ kALL := kin_8 (n := 73) ⟨rfl, by decide +kernel⟩
theorem kw_1074 : (Jvm.Cond.methodLink "BonnetValleyModel" (410 : Nat) ({ cls := "BonnetValleyModel", name := "peopleOn", desc := "([IJ)I" } : Jvm.MethodName)) ∈ kALL := kin_8 (n := 74) ⟨rfl, by decide +kernel⟩
theorem kw_1075 : (Jvm.Cond.instanceMethod ({ cls := "BonnetValleyModel", name := "peopleOn", desc := "([IJ)I" } : Jvm.MethodName)) ∈ kALL := kin_8 (n := 76) ⟨rfl, by decide +kernel⟩
theorem kw_1076 : (Jvm.Cond.selects "BonnetValleyModel" ({ cls := "BonnetValleyModel", name := "peopleOn", desc := "([IJ)I" } : Jvm.MethodName) ({ cls := "BonnetValleyModel", name := "peopleOn", desc := "([IJ)I" } : Jvm.MethodName)) ∈ kALL := kin_0 (n := 80) (by decide +kernel)
theorem kw_1077 : (Jvm.Cond.methodLink "BonnetValleyModel" (413 : Nat) ({ cls := "BonnetValleyModel", name := "free", desc := "()J" } : Jvm.MethodName)) ∈ kALL := kin_8 (n := 86) ⟨rfl, by decide +kernel⟩
theorem kw_1078 : (Jvm.Cond.instanceMethod ({ cls := "BonnetValleyModel", name := "free", desc := "()J" } : Jvm.MethodName)) ∈ kALL := kin_8 (n := 88) ⟨rfl, by decide +kernel⟩
theorem kw_1079 : (Jvm.Cond.selects "BonnetValleyModel" ({ cls := "BonnetValleyModel", name := "free", desc := "()J" } : Jvm.MethodName) ({ cls := "BonnetValleyModel", name := "free", desc := "()J" } : Jvm.MethodName)) ∈ kALL := kin_0 (n := 81) (by decide +kernel)
theorem kw_1080 : (Jvm.Cond.methodLink "BonnetValleyModel" (417 : Nat) ({ cls := "BonnetValleyModel", name := "allSeen", desc := "([I)J" } : Jvm.MethodName)) ∈ kALL := kin_8 (n := 90) ⟨rfl, by decide +kernel⟩
theorem kw_1081 : (Jvm.Cond.instanceMethod ({ cls := "BonnetValleyModel", name := "allSeen", desc := "([I)J" } : Jvm.MethodName)) ∈ kALL := kin_8 (n := 92) ⟨rfl, by decide +kernel⟩
theorem kw_1082 : (Jvm.Cond.selects "BonnetValleyModel" ({ cls := "BonnetValleyModel", name := "allSeen", desc := "([I)J" } : Jvm.MethodName) ({ cls := "BonnetValleyModel", name := "allSeen", desc := "([I)J" } : Jvm.MethodName)) ∈ kALL := kin_0 (n := 82) (by decide +kernel)
theorem kw_1083 : (Jvm.Cond.methodLink "BonnetValleyModel" (421 : Nat) ({ cls := "BonnetValleyModel", name := "isFewer", desc := "(II)Z" } : Jvm.MethodName)) ∈ kALL := kin_8 (n := 110) ⟨rfl, by decide +kernel⟩
theorem kw_1084 : (Jvm.Cond.static ({ cls := "BonnetValleyModel", name := "isFewer", desc := "(II)Z" } : Jvm.MethodName)) ∈ kALL := kin_8 (n := 111) ⟨rfl, by decide +kernel⟩
theorem kw_1085 : (Jvm.Cond.methodLink "BonnetValleyModel" (424 : Nat) ({ cls := "BonnetValleyModel", name := "copies", desc := "()V" } : Jvm.MethodName)) ∈ kALL := kin_8 (n := 117) ⟨rfl, by decide +kernel⟩
theorem kw_1086 : (Jvm.Cond.instanceMethod ({ cls := "BonnetValleyModel", name := "copies", desc := "()V" } : Jvm.MethodName)) ∈ kALL := kin_8 (n := 119) ⟨rfl, by decide +kernel⟩
theorem kw_1087 : (Jvm.Cond.selects "BonnetValleyModel" ({ cls := "BonnetValleyModel", name := "copies", desc := "()V" } : Jvm.MethodName) ({ cls := "BonnetValleyModel", name := "copies", desc := "()V" } : Jvm.MethodName)) ∈ kALL := kin_0 (n := 83) (by decide +kernel)
theorem kw_1088 : (Jvm.Cond.methodLink "BonnetValleyModel" (427 : Nat) ({ cls := "BonnetValleyModel", name := "firstWithout", desc := "([I)I" } : Jvm.MethodName)) ∈ kALL := kin_8 (n := 125) ⟨rfl, by decide +kernel⟩
theorem kw_1089 : (Jvm.Cond.instanceMethod ({ cls := "BonnetValleyModel", name := "firstWithout", desc := "([I)I" } : Jvm.MethodName)) ∈ kALL := kin_8 (n := 127) ⟨rfl, by decide +kernel⟩
theorem kw_1090 : (Jvm.Cond.selects "BonnetValleyModel" ({ cls := "BonnetValleyModel", name := "firstWithout", desc := "([I)I" } : Jvm.MethodName) ({ cls := "BonnetValleyModel", name := "firstWithout", desc := "([I)I" } : Jvm.MethodName)) ∈ kALL := kin_0 (n := 84) (by decide +kernel)
theorem kw_1091 : (Jvm.Cond.constantLong "BonnetValleyModel" (430 : Nat) (99 : Int64)) ∈ kALL := kin_8 (n := 133) ⟨rfl, by decide +kernel⟩
theorem kw_1092 : (Jvm.Cond.constant "BonnetValleyModel" (432 : Nat) (1000000 : Int32)) ∈ kALL := kin_8 (n := 142) ⟨rfl, by decide +kernel⟩
theorem kw_1093 : (Jvm.Cond.methodLink "BonnetValleyModel" (433 : Nat) ({ cls := "BonnetValleyModel", name := "wouldSee", desc := "(III)Z" } : Jvm.MethodName)) ∈ kALL := kin_8 (n := 143) ⟨rfl, by decide +kernel⟩
theorem kw_1094 : (Jvm.Cond.instanceMethod ({ cls := "BonnetValleyModel", name := "wouldSee", desc := "(III)Z" } : Jvm.MethodName)) ∈ kALL := kin_8 (n := 145) ⟨rfl, by decide +kernel⟩
theorem kw_1095 : (Jvm.Cond.selects "BonnetValleyModel" ({ cls := "BonnetValleyModel", name := "wouldSee", desc := "(III)Z" } : Jvm.MethodName) ({ cls := "BonnetValleyModel", name := "wouldSee", desc := "(III)Z" } : Jvm.MethodName)) ∈ kALL := kin_0 (n := 85) (by decide +kernel)
theorem kw_1096 : (Jvm.Cond.methodLink "BonnetValleyModel" (437 : Nat) ({ cls := "BonnetValleyModel", name := "place", desc := "(II)I" } : Jvm.MethodName)) ∈ kALL := kin_8 (n := 155) ⟨rfl, by decide +kernel⟩
theorem kw_1097 : (Jvm.Cond.static ({ cls := "BonnetValleyModel", name := "place", desc := "(II)I" } : Jvm.MethodName)) ∈ kALL := kin_8 (n := 156) ⟨rfl, by decide +kernel⟩
theorem kw_1098 : (Jvm.Cond.methodLink "BonnetValleyModel" (440 : Nat) ({ cls := "BonnetValleyModel", name := "wouldSeeThings", desc := "(II)I" } : Jvm.MethodName)) ∈ kALL := kin_8 (n := 151) ⟨rfl, by decide +kernel⟩
theorem kw_1099 : (Jvm.Cond.instanceMethod ({ cls := "BonnetValleyModel", name := "wouldSeeThings", desc := "(II)I" } : Jvm.MethodName)) ∈ kALL := kin_8 (n := 153) ⟨rfl, by decide +kernel⟩
theorem kw_1100 : (Jvm.Cond.selects "BonnetValleyModel" ({ cls := "BonnetValleyModel", name := "wouldSeeThings", desc := "(II)I" } : Jvm.MethodName) ({ cls := "BonnetValleyModel", name := "wouldSeeThings", desc := "(II)I" } : Jvm.MethodName)) ∈ kALL := kin_0 (n := 86) (by decide +kernel)
theorem kw_1101 : (Jvm.Cond.methodLink "BonnetValleyModel" (443 : Nat) ({ cls := "BonnetValleyModel", name := "fewWith", desc := "(III)I" } : Jvm.MethodName)) ∈ kALL := kin_8 (n := 158) ⟨rfl, by decide +kernel⟩
theorem kw_1102 : (Jvm.Cond.instanceMethod ({ cls := "BonnetValleyModel", name := "fewWith", desc := "(III)I" } : Jvm.MethodName)) ∈ kALL := kin_8 (n := 160) ⟨rfl, by decide +kernel⟩
theorem kw_1103 : (Jvm.Cond.selects "BonnetValleyModel" ({ cls := "BonnetValleyModel", name := "fewWith", desc := "(III)I" } : Jvm.MethodName) ({ cls := "BonnetValleyModel", name := "fewWith", desc := "(III)I" } : Jvm.MethodName)) ∈ kALL := kin_0 (n := 87) (by decide +kernel)
theorem kw_1104 : (Jvm.Cond.methodLink "BonnetValleyModel" (446 : Nat) ({ cls := "BonnetValleyModel", name := "laysSteps", desc := "(IIJ)V" } : Jvm.MethodName)) ∈ kALL := kin_8 (n := 178) ⟨rfl, by decide +kernel⟩
theorem kw_1105 : (Jvm.Cond.instanceMethod ({ cls := "BonnetValleyModel", name := "laysSteps", desc := "(IIJ)V" } : Jvm.MethodName)) ∈ kALL := kin_8 (n := 180) ⟨rfl, by decide +kernel⟩
theorem kw_1106 : (Jvm.Cond.selects "BonnetValleyModel" ({ cls := "BonnetValleyModel", name := "laysSteps", desc := "(IIJ)V" } : Jvm.MethodName) ({ cls := "BonnetValleyModel", name := "laysSteps", desc := "(IIJ)V" } : Jvm.MethodName)) ∈ kALL := kin_0 (n := 89) (by decide +kernel)
theorem kw_1107 : (Jvm.Cond.methodLink "BonnetValleyModel" (450 : Nat) ({ cls := "BonnetValleyModel", name := "laysWay", desc := "(IIJ)I" } : Jvm.MethodName)) ∈ kALL := kin_8 (n := 174) ⟨rfl, by decide +kernel⟩
theorem kw_1108 : (Jvm.Cond.instanceMethod ({ cls := "BonnetValleyModel", name := "laysWay", desc := "(IIJ)I" } : Jvm.MethodName)) ∈ kALL := kin_8 (n := 176) ⟨rfl, by decide +kernel⟩
theorem kw_1109 : (Jvm.Cond.selects "BonnetValleyModel" ({ cls := "BonnetValleyModel", name := "laysWay", desc := "(IIJ)I" } : Jvm.MethodName) ({ cls := "BonnetValleyModel", name := "laysWay", desc := "(IIJ)I" } : Jvm.MethodName)) ∈ kALL := kin_0 (n := 88) (by decide +kernel)
theorem kw_1110 : (Jvm.Cond.methodLink "BonnetValleyModel" (454 : Nat) ({ cls := "BonnetValleyModel", name := "fitting", desc := "()J" } : Jvm.MethodName)) ∈ kALL := kin_8 (n := 198) ⟨rfl, by decide +kernel⟩
theorem kw_1111 : (Jvm.Cond.instanceMethod ({ cls := "BonnetValleyModel", name := "fitting", desc := "()J" } : Jvm.MethodName)) ∈ kALL := kin_8 (n := 200) ⟨rfl, by decide +kernel⟩
theorem kw_1112 : (Jvm.Cond.selects "BonnetValleyModel" ({ cls := "BonnetValleyModel", name := "fitting", desc := "()J" } : Jvm.MethodName) ({ cls := "BonnetValleyModel", name := "fitting", desc := "()J" } : Jvm.MethodName)) ∈ kALL := kin_0 (n := 90) (by decide +kernel)
theorem kw_1113 : (Jvm.Cond.constantLong "BonnetValleyModel" (457 : Nat) (8 : Int64)) ∈ kALL := kin_8 (n := 210) ⟨rfl, by decide +kernel⟩
theorem kw_1114 : (Jvm.Cond.constantLong "BonnetValleyModel" (459 : Nat) (10 : Int64)) ∈ kALL := kin_8 (n := 211) ⟨rfl, by decide +kernel⟩
theorem kw_1115 : (Jvm.Cond.constantLong "BonnetValleyModel" (461 : Nat) (9 : Int64)) ∈ kALL := kin_8 (n := 219) ⟨rfl, by decide +kernel⟩
theorem kw_1116 : (Jvm.Cond.methodLink "BonnetValleyModel" (463 : Nat) ({ cls := "BonnetValleyModel", name := "gets", desc := "(III)I" } : Jvm.MethodName)) ∈ kALL := kin_8 (n := 232) ⟨rfl, by decide +kernel⟩
theorem kw_1117 : (Jvm.Cond.static ({ cls := "BonnetValleyModel", name := "gets", desc := "(III)I" } : Jvm.MethodName)) ∈ kALL := kin_8 (n := 233) ⟨rfl, by decide +kernel⟩
theorem kw_1118 : (Jvm.Cond.constantLong "BonnetValleyModel" (466 : Nat) (20 : Int64)) ∈ kALL := kin_8 (n := 228) ⟨rfl, by decide +kernel⟩
theorem kw_1119 : (Jvm.Cond.methodLink "BonnetValleyModel" (468 : Nat) ({ cls := "BonnetValleyModel", name := "isRest", desc := "(III)Z" } : Jvm.MethodName)) ∈ kALL := kin_8 (n := 229) ⟨rfl, by decide +kernel⟩
theorem kw_1120 : (Jvm.Cond.static ({ cls := "BonnetValleyModel", name := "isRest", desc := "(III)Z" } : Jvm.MethodName)) ∈ kALL := kin_8 (n := 230) ⟨rfl, by decide +kernel⟩
theorem kw_1121 : (Jvm.Cond.fieldLink "BonnetValleyModel" (471 : Nat) "BonnetValleyModel" "random" "I") ∈ kALL := kin_6 (n := 125) ⟨rfl, by decide +kernel⟩
theorem kw_1122 : (Jvm.Cond.constant "BonnetValleyModel" (474 : Nat) (1103515245 : Int32)) ∈ kALL := kin_9 (n := 3) ⟨rfl, by decide +kernel⟩
theorem kw_1123 : (Jvm.Cond.methodLink "BonnetValleyModel" (475 : Nat) ({ cls := "BonnetValleyModel", name := "draws", desc := "(I)I" } : Jvm.MethodName)) ∈ kALL := kin_8 (n := 239) ⟨rfl, by decide +kernel⟩
theorem kw_1124 : (Jvm.Cond.instanceMethod ({ cls := "BonnetValleyModel", name := "draws", desc := "(I)I" } : Jvm.MethodName)) ∈ kALL := kin_9 (n := 1) ⟨rfl, by decide +kernel⟩
theorem kw_1125 : (Jvm.Cond.selects "BonnetValleyModel" ({ cls := "BonnetValleyModel", name := "draws", desc := "(I)I" } : Jvm.MethodName) ({ cls := "BonnetValleyModel", name := "draws", desc := "(I)I" } : Jvm.MethodName)) ∈ kALL := kin_0 (n := 91) (by decide +kernel)
theorem kw_1126 : (Jvm.Cond.constant "java/lang/Character" (76 : Nat) (56320 : Int32)) ∈ kALL := kin_1 (n := 209) ⟨rfl, by decide +kernel⟩
theorem kw_1127 : (Jvm.Cond.constant "java/lang/Character" (110 : Nat) (55232 : Int32)) ∈ kALL := kin_1 (n := 205) ⟨rfl, by decide +kernel⟩
theorem kw_1128 : (Jvm.Cond.constant "java/lang/Integer" (265 : Nat) (1431655765 : Int32)) ∈ kALL := kin_3 (n := 207) ⟨rfl, by decide +kernel⟩
theorem kw_1129 : (Jvm.Cond.constant "java/lang/Integer" (266 : Nat) (858993459 : Int32)) ∈ kALL := kin_3 (n := 208) ⟨rfl, by decide +kernel⟩
theorem kw_1130 : (Jvm.Cond.constant "java/lang/Integer" (267 : Nat) (252645135 : Int32)) ∈ kALL := kin_3 (n := 209) ⟨rfl, by decide +kernel⟩
theorem kw_1131 : (Jvm.Cond.constantLong "java/lang/Long" (314 : Nat) (6148914691236517205 : Int64)) ∈ kALL := kin_4 (n := 185) ⟨rfl, by decide +kernel⟩
theorem kw_1132 : (Jvm.Cond.constantLong "java/lang/Long" (316 : Nat) (3689348814741910323 : Int64)) ∈ kALL := kin_4 (n := 186) ⟨rfl, by decide +kernel⟩
theorem kw_1133 : (Jvm.Cond.constantLong "java/lang/Long" (318 : Nat) (1085102592571150095 : Int64)) ∈ kALL := kin_4 (n := 187) ⟨rfl, by decide +kernel⟩
theorem kw_1134 : (Jvm.Cond.fieldLink "java/lang/String" (9 : Nat) "java/lang/String" "value" "[B") ∈ kALL := kin_9 (n := 39) ⟨rfl, by decide +kernel⟩
theorem kw_1135 : (Jvm.Cond.fieldLink "java/lang/String" (15 : Nat) "java/lang/String" "coder" "B") ∈ kALL := kin_9 (n := 38) ⟨rfl, by decide +kernel⟩
theorem kw_1136 : (Jvm.Cond.fieldLink "java/lang/String" (38 : Nat) "java/lang/String" "COMPACT_STRINGS" "Z") ∈ kALL := kin_1 (n := 136) ⟨rfl, by decide +kernel⟩
theorem kw_1137 : (Jvm.Cond.methodLink "java/lang/String" (335 : Nat) ({ cls := "java/lang/String", name := "coder", desc := "()B" } : Jvm.MethodName)) ∈ kALL := kin_1 (n := 142) ⟨rfl, by decide +kernel⟩
theorem kw_1138 : (Jvm.Cond.instanceMethod ({ cls := "java/lang/String", name := "coder", desc := "()B" } : Jvm.MethodName)) ∈ kALL := kin_1 (n := 143) ⟨rfl, by decide +kernel⟩
theorem kw_1139 : (Jvm.Cond.selects "java/lang/String" ({ cls := "java/lang/String", name := "coder", desc := "()B" } : Jvm.MethodName) ({ cls := "java/lang/String", name := "coder", desc := "()B" } : Jvm.MethodName)) ∈ kALL := kin_1 (n := 144) ⟨rfl, by decide +kernel⟩
theorem kw_1140 : (Jvm.Cond.methodLink "java/lang/String" (492 : Nat) ({ cls := "java/lang/String", name := "isLatin1", desc := "()Z" } : Jvm.MethodName)) ∈ kALL := kin_1 (n := 132) ⟨rfl, by decide +kernel⟩
theorem kw_1141 : (Jvm.Cond.instanceMethod ({ cls := "java/lang/String", name := "isLatin1", desc := "()Z" } : Jvm.MethodName)) ∈ kALL := kin_1 (n := 133) ⟨rfl, by decide +kernel⟩
theorem kw_1142 : (Jvm.Cond.selects "java/lang/String" ({ cls := "java/lang/String", name := "isLatin1", desc := "()Z" } : Jvm.MethodName) ({ cls := "java/lang/String", name := "isLatin1", desc := "()Z" } : Jvm.MethodName)) ∈ kALL := kin_1 (n := 134) ⟨rfl, by decide +kernel⟩
theorem kw_1143 : (Jvm.Cond.methodLink "java/lang/String" (495 : Nat) ({ cls := "java/lang/StringLatin1", name := "charAt", desc := "([BI)C" } : Jvm.MethodName)) ∈ kALL := kin_7 (n := 22) ⟨rfl, by decide +kernel⟩
theorem kw_1144 : (Jvm.Cond.static ({ cls := "java/lang/StringLatin1", name := "charAt", desc := "([BI)C" } : Jvm.MethodName)) ∈ kALL := kin_7 (n := 23) ⟨rfl, by decide +kernel⟩
theorem kw_1145 : (Jvm.Cond.methodLink "java/lang/String" (498 : Nat) ({ cls := "java/lang/StringUTF16", name := "charAt", desc := "([BI)C" } : Jvm.MethodName)) ∈ kALL := kin_7 (n := 31) ⟨rfl, by decide +kernel⟩
theorem kw_1146 : (Jvm.Cond.static ({ cls := "java/lang/StringUTF16", name := "charAt", desc := "([BI)C" } : Jvm.MethodName)) ∈ kALL := kin_7 (n := 32) ⟨rfl, by decide +kernel⟩
theorem kw_1147 : (Jvm.Cond.methodLink "java/lang/String" (505 : Nat) ({ cls := "java/lang/String", name := "length", desc := "()I" } : Jvm.MethodName)) ∈ kALL := kin_1 (n := 138) ⟨rfl, by decide +kernel⟩
theorem kw_1148 : (Jvm.Cond.methodLink "java/lang/String" (633 : Nat) ({ cls := "java/lang/String", name := "indexOf", desc := "(II)I" } : Jvm.MethodName)) ∈ kALL := kin_1 (n := 128) ⟨rfl, by decide +kernel⟩
theorem kw_1149 : (Jvm.Cond.instanceMethod ({ cls := "java/lang/String", name := "indexOf", desc := "(II)I" } : Jvm.MethodName)) ∈ kALL := kin_1 (n := 129) ⟨rfl, by decide +kernel⟩
theorem kw_1150 : (Jvm.Cond.selects "java/lang/String" ({ cls := "java/lang/String", name := "indexOf", desc := "(II)I" } : Jvm.MethodName) ({ cls := "java/lang/String", name := "indexOf", desc := "(II)I" } : Jvm.MethodName)) ∈ kALL := kin_1 (n := 130) ⟨rfl, by decide +kernel⟩
theorem kw_1151 : (Jvm.Cond.methodLink "java/lang/String" (637 : Nat) ({ cls := "java/lang/StringLatin1", name := "indexOf", desc := "([BIII)I" } : Jvm.MethodName)) ∈ kALL := kin_1 (n := 146) ⟨rfl, by decide +kernel⟩
theorem kw_1152 : (Jvm.Cond.static ({ cls := "java/lang/StringLatin1", name := "indexOf", desc := "([BIII)I" } : Jvm.MethodName)) ∈ kALL := kin_1 (n := 147) ⟨rfl, by decide +kernel⟩
theorem kw_1153 : (Jvm.Cond.methodLink "java/lang/String" (640 : Nat) ({ cls := "java/lang/StringUTF16", name := "indexOf", desc := "([BIII)I" } : Jvm.MethodName)) ∈ kALL := kin_1 (n := 161) ⟨rfl, by decide +kernel⟩
theorem kw_1154 : (Jvm.Cond.static ({ cls := "java/lang/StringUTF16", name := "indexOf", desc := "([BIII)I" } : Jvm.MethodName)) ∈ kALL := kin_1 (n := 162) ⟨rfl, by decide +kernel⟩
theorem kw_1155 : (Jvm.Cond.methodLink "java/lang/String" (1059 : Nat) ({ cls := "jdk/internal/util/Preconditions", name := "checkIndex", desc := "(IILjava/util/function/BiFunction;)I" } : Jvm.MethodName)) ∈ kALL := kin_7 (n := 28) ⟨rfl, by decide +kernel⟩
theorem kw_1156 : (Jvm.Cond.static ({ cls := "jdk/internal/util/Preconditions", name := "checkIndex", desc := "(IILjava/util/function/BiFunction;)I" } : Jvm.MethodName)) ∈ kALL := kin_7 (n := 29) ⟨rfl, by decide +kernel⟩
theorem kw_1157 : (Jvm.Cond.methodLink "java/lang/String" (1062 : Nat) ({ cls := "jdk/internal/util/Preconditions", name := "checkFromToIndex", desc := "(IIILjava/util/function/BiFunction;)I" } : Jvm.MethodName)) ∈ kALL := kin_1 (n := 181) ⟨rfl, by decide +kernel⟩
theorem kw_1158 : (Jvm.Cond.static ({ cls := "jdk/internal/util/Preconditions", name := "checkFromToIndex", desc := "(IIILjava/util/function/BiFunction;)I" } : Jvm.MethodName)) ∈ kALL := kin_1 (n := 182) ⟨rfl, by decide +kernel⟩
theorem kw_1159 : (Jvm.Cond.methodLink "java/lang/StringLatin1" (9 : Nat) ({ cls := "java/lang/String", name := "checkIndex", desc := "(II)V" } : Jvm.MethodName)) ∈ kALL := kin_7 (n := 25) ⟨rfl, by decide +kernel⟩
theorem kw_1160 : (Jvm.Cond.static ({ cls := "java/lang/String", name := "checkIndex", desc := "(II)V" } : Jvm.MethodName)) ∈ kALL := kin_7 (n := 26) ⟨rfl, by decide +kernel⟩
theorem kw_1161 : (Jvm.Cond.methodLink "java/lang/StringLatin1" (38 : Nat) ({ cls := "java/lang/Math", name := "min", desc := "(II)I" } : Jvm.MethodName)) ∈ kALL := kin_1 (n := 155) ⟨rfl, by decide +kernel⟩
theorem kw_1162 : (Jvm.Cond.methodLink "java/lang/StringLatin1" (88 : Nat) ({ cls := "java/lang/StringLatin1", name := "canEncode", desc := "(I)Z" } : Jvm.MethodName)) ∈ kALL := kin_1 (n := 149) ⟨rfl, by decide +kernel⟩
theorem kw_1163 : (Jvm.Cond.static ({ cls := "java/lang/StringLatin1", name := "canEncode", desc := "(I)Z" } : Jvm.MethodName)) ∈ kALL := kin_1 (n := 150) ⟨rfl, by decide +kernel⟩
theorem kw_1164 : (Jvm.Cond.methodLink "java/lang/StringLatin1" (92 : Nat) ({ cls := "java/lang/Math", name := "max", desc := "(II)I" } : Jvm.MethodName)) ∈ kALL := kin_1 (n := 152) ⟨rfl, by decide +kernel⟩
theorem kw_1165 : (Jvm.Cond.methodLink "java/lang/StringLatin1" (95 : Nat) ({ cls := "java/lang/StringLatin1", name := "indexOfChar", desc := "([BIII)I" } : Jvm.MethodName)) ∈ kALL := kin_1 (n := 158) ⟨rfl, by decide +kernel⟩
theorem kw_1166 : (Jvm.Cond.static ({ cls := "java/lang/StringLatin1", name := "indexOfChar", desc := "([BIII)I" } : Jvm.MethodName)) ∈ kALL := kin_1 (n := 159) ⟨rfl, by decide +kernel⟩
theorem kw_1167 : (Jvm.Cond.methodLink "java/lang/StringUTF16" (48 : Nat) ({ cls := "java/lang/StringUTF16", name := "length", desc := "([B)I" } : Jvm.MethodName)) ∈ kALL := kin_1 (n := 173) ⟨rfl, by decide +kernel⟩
theorem kw_1168 : (Jvm.Cond.static ({ cls := "java/lang/StringUTF16", name := "length", desc := "([B)I" } : Jvm.MethodName)) ∈ kALL := kin_1 (n := 174) ⟨rfl, by decide +kernel⟩
theorem kw_1169 : (Jvm.Cond.methodLink "java/lang/StringUTF16" (67 : Nat) ({ cls := "java/lang/StringUTF16", name := "checkIndex", desc := "(I[B)V" } : Jvm.MethodName)) ∈ kALL := kin_7 (n := 34) ⟨rfl, by decide +kernel⟩
theorem kw_1170 : (Jvm.Cond.static ({ cls := "java/lang/StringUTF16", name := "checkIndex", desc := "(I[B)V" } : Jvm.MethodName)) ∈ kALL := kin_7 (n := 35) ⟨rfl, by decide +kernel⟩
theorem kw_1171 : (Jvm.Cond.methodLink "java/lang/StringUTF16" (71 : Nat) ({ cls := "java/lang/StringUTF16", name := "getChar", desc := "([BI)C" } : Jvm.MethodName)) ∈ kALL := kin_1 (n := 187) ⟨rfl, by decide +kernel⟩
theorem kw_1172 : (Jvm.Cond.static ({ cls := "java/lang/StringUTF16", name := "getChar", desc := "([BI)C" } : Jvm.MethodName)) ∈ kALL := kin_1 (n := 188) ⟨rfl, by decide +kernel⟩
theorem kw_1173 : (Jvm.Cond.methodLink "java/lang/StringUTF16" (96 : Nat) ({ cls := "java/lang/StringUTF16", name := "checkBoundsBeginEnd", desc := "(II[B)V" } : Jvm.MethodName)) ∈ kALL := kin_1 (n := 170) ⟨rfl, by decide +kernel⟩
theorem kw_1174 : (Jvm.Cond.static ({ cls := "java/lang/StringUTF16", name := "checkBoundsBeginEnd", desc := "(II[B)V" } : Jvm.MethodName)) ∈ kALL := kin_1 (n := 171) ⟨rfl, by decide +kernel⟩
theorem kw_1175 : (Jvm.Cond.methodLink "java/lang/StringUTF16" (157 : Nat) ({ cls := "java/lang/Character", name := "highSurrogate", desc := "(I)C" } : Jvm.MethodName)) ∈ kALL := kin_1 (n := 202) ⟨rfl, by decide +kernel⟩
theorem kw_1176 : (Jvm.Cond.static ({ cls := "java/lang/Character", name := "highSurrogate", desc := "(I)C" } : Jvm.MethodName)) ∈ kALL := kin_1 (n := 203) ⟨rfl, by decide +kernel⟩
theorem kw_1177 : (Jvm.Cond.methodLink "java/lang/StringUTF16" (161 : Nat) ({ cls := "java/lang/Character", name := "lowSurrogate", desc := "(I)C" } : Jvm.MethodName)) ∈ kALL := kin_1 (n := 206) ⟨rfl, by decide +kernel⟩
theorem kw_1178 : (Jvm.Cond.static ({ cls := "java/lang/Character", name := "lowSurrogate", desc := "(I)C" } : Jvm.MethodName)) ∈ kALL := kin_1 (n := 207) ⟨rfl, by decide +kernel⟩
theorem kw_1179 : (Jvm.Cond.methodLink "java/lang/StringUTF16" (164 : Nat) ({ cls := "java/lang/Character", name := "isValidCodePoint", desc := "(I)Z" } : Jvm.MethodName)) ∈ kALL := kin_1 (n := 199) ⟨rfl, by decide +kernel⟩
theorem kw_1180 : (Jvm.Cond.static ({ cls := "java/lang/Character", name := "isValidCodePoint", desc := "(I)Z" } : Jvm.MethodName)) ∈ kALL := kin_1 (n := 200) ⟨rfl, by decide +kernel⟩
theorem kw_1181 : (Jvm.Cond.methodLink "java/lang/StringUTF16" (183 : Nat) ({ cls := "java/lang/Math", name := "min", desc := "(II)I" } : Jvm.MethodName)) ∈ kALL := kin_1 (n := 165) ⟨rfl, by decide +kernel⟩
theorem kw_1182 : (Jvm.Cond.methodLink "java/lang/StringUTF16" (224 : Nat) ({ cls := "java/lang/Math", name := "max", desc := "(II)I" } : Jvm.MethodName)) ∈ kALL := kin_1 (n := 164) ⟨rfl, by decide +kernel⟩
theorem kw_1183 : (Jvm.Cond.constant "java/lang/StringUTF16" (227 : Nat) (65536 : Int32)) ∈ kALL := kin_1 (n := 166) ⟨rfl, by decide +kernel⟩
theorem kw_1184 : (Jvm.Cond.methodLink "java/lang/StringUTF16" (228 : Nat) ({ cls := "java/lang/StringUTF16", name := "indexOfChar", desc := "([BIII)I" } : Jvm.MethodName)) ∈ kALL := kin_1 (n := 167) ⟨rfl, by decide +kernel⟩
theorem kw_1185 : (Jvm.Cond.static ({ cls := "java/lang/StringUTF16", name := "indexOfChar", desc := "([BIII)I" } : Jvm.MethodName)) ∈ kALL := kin_1 (n := 168) ⟨rfl, by decide +kernel⟩
theorem kw_1186 : (Jvm.Cond.methodLink "java/lang/StringUTF16" (232 : Nat) ({ cls := "java/lang/StringUTF16", name := "indexOfSupplementary", desc := "([BIII)I" } : Jvm.MethodName)) ∈ kALL := kin_1 (n := 196) ⟨rfl, by decide +kernel⟩
theorem kw_1187 : (Jvm.Cond.static ({ cls := "java/lang/StringUTF16", name := "indexOfSupplementary", desc := "([BIII)I" } : Jvm.MethodName)) ∈ kALL := kin_1 (n := 197) ⟨rfl, by decide +kernel⟩
theorem kw_1188 : (Jvm.Cond.methodLink "java/lang/StringUTF16" (241 : Nat) ({ cls := "java/lang/String", name := "checkBoundsBeginEnd", desc := "(III)V" } : Jvm.MethodName)) ∈ kALL := kin_1 (n := 176) ⟨rfl, by decide +kernel⟩
theorem kw_1189 : (Jvm.Cond.static ({ cls := "java/lang/String", name := "checkBoundsBeginEnd", desc := "(III)V" } : Jvm.MethodName)) ∈ kALL := kin_1 (n := 177) ⟨rfl, by decide +kernel⟩
theorem kw_1190 : (Jvm.Cond.methodLink "java/lang/StringUTF16" (244 : Nat) ({ cls := "java/lang/StringUTF16", name := "indexOfCharUnsafe", desc := "([BIII)I" } : Jvm.MethodName)) ∈ kALL := kin_1 (n := 184) ⟨rfl, by decide +kernel⟩
theorem kw_1191 : (Jvm.Cond.static ({ cls := "java/lang/StringUTF16", name := "indexOfCharUnsafe", desc := "([BIII)I" } : Jvm.MethodName)) ∈ kALL := kin_1 (n := 185) ⟨rfl, by decide +kernel⟩
theorem kw_1192 : (Jvm.Cond.methodLink "java/lang/StringUTF16" (414 : Nat) ({ cls := "java/lang/String", name := "checkIndex", desc := "(II)V" } : Jvm.MethodName)) ∈ kALL := kin_7 (n := 37) ⟨rfl, by decide +kernel⟩
theorem kw_1193 : (Jvm.Cond.fieldLink "java/lang/String" (1053 : Nat) "jdk/internal/util/Preconditions" "SIOOBE_FORMATTER" "Ljava/util/function/BiFunction;") ∈ kALL := kin_1 (n := 179) ⟨rfl, by decide +kernel⟩
theorem kw_1194 : (Jvm.Cond.code ({ cls := "BonnetValley$Formula", name := "<init>", desc := "()V" } : Jvm.MethodName) prog_2_method_1_code (1 : Nat) (Option.none : Option Jvm.ClassFile.FieldType)) ∈ kALL := kin_1 (n := 113) ⟨rfl, by decide +kernel⟩
theorem kw_1195 : (Jvm.Cond.initialized "BonnetValley$Formula") ∈ kALL := kin_1 (n := 6) ⟨rfl, by decide +kernel⟩
theorem kw_1196 : (Jvm.Cond.code ({ cls := "BonnetValley$Formula", name := "read", desc := "(LBonnetValley$Signs;)I" } : Jvm.MethodName) prog_2_method_2_code (4 : Nat) (Option.some Jvm.ClassFile.FieldType.int)) ∈ kALL := kin_3 (n := 123) ⟨rfl, by decide +kernel⟩
theorem kw_1197 : (Jvm.Cond.code ({ cls := "BonnetValley$Formula", name := "start", desc := "()V" } : Jvm.MethodName) prog_2_method_3_code (1 : Nat) (Option.none : Option Jvm.ClassFile.FieldType)) ∈ kALL := kin_1 (n := 118) ⟨rfl, by decide +kernel⟩
theorem kw_1198 : (Jvm.Cond.code ({ cls := "BonnetValley$Formula", name := "takeDefault", desc := "()V" } : Jvm.MethodName) prog_2_method_4_code (1 : Nat) (Option.none : Option Jvm.ClassFile.FieldType)) ∈ kALL := kin_1 (n := 122) ⟨rfl, by decide +kernel⟩
theorem kw_1199 : (Jvm.Cond.code ({ cls := "BonnetValley$Formula", name := "take", desc := "(I)Z" } : Jvm.MethodName) prog_2_method_5_code (2 : Nat) (Option.some Jvm.ClassFile.FieldType.boolean)) ∈ kALL := kin_3 (n := 129) ⟨rfl, by decide +kernel⟩
theorem kw_1200 : (Jvm.Cond.code ({ cls := "BonnetValley$Formula", name := "takeDigit", desc := "(I)Z" } : Jvm.MethodName) prog_2_method_6_code (2 : Nat) (Option.some Jvm.ClassFile.FieldType.boolean)) ∈ kALL := kin_3 (n := 133) ⟨rfl, by decide +kernel⟩
theorem kw_1201 : (Jvm.Cond.code ({ cls := "BonnetValley$Formula", name := "takeThing", desc := "(I)Z" } : Jvm.MethodName) prog_2_method_7_code (3 : Nat) (Option.some Jvm.ClassFile.FieldType.boolean)) ∈ kALL := kin_3 (n := 137) ⟨rfl, by decide +kernel⟩
theorem kw_1202 : (Jvm.Cond.code ({ cls := "BonnetValley$Formula", name := "takeOperator", desc := "(I)Z" } : Jvm.MethodName) prog_2_method_8_code (3 : Nat) (Option.some Jvm.ClassFile.FieldType.boolean)) ∈ kALL := kin_3 (n := 145) ⟨rfl, by decide +kernel⟩
theorem kw_1203 : (Jvm.Cond.code ({ cls := "BonnetValley$Formula", name := "closeBracket", desc := "()Z" } : Jvm.MethodName) prog_2_method_9_code (1 : Nat) (Option.some Jvm.ClassFile.FieldType.boolean)) ∈ kALL := kin_3 (n := 149) ⟨rfl, by decide +kernel⟩
theorem kw_1204 : (Jvm.Cond.code ({ cls := "BonnetValley$Formula", name := "bindingOf", desc := "(I)I" } : Jvm.MethodName) prog_2_method_10_code (1 : Nat) (Option.some Jvm.ClassFile.FieldType.int)) ∈ kALL := kin_3 (n := 156) ⟨rfl, by decide +kernel⟩
theorem kw_1205 : (Jvm.Cond.code ({ cls := "BonnetValley$Formula", name := "release", desc := "(I)V" } : Jvm.MethodName) prog_2_method_11_code (2 : Nat) (Option.none : Option Jvm.ClassFile.FieldType)) ∈ kALL := kin_3 (n := 153) ⟨rfl, by decide +kernel⟩
theorem kw_1206 : (Jvm.Cond.code ({ cls := "BonnetValley$Formula", name := "emit", desc := "(I)V" } : Jvm.MethodName) prog_2_method_12_code (2 : Nat) (Option.none : Option Jvm.ClassFile.FieldType)) ∈ kALL := kin_1 (n := 213) ⟨rfl, by decide +kernel⟩
theorem kw_1207 : (Jvm.Cond.code ({ cls := "BonnetValley$Formula", name := "hold", desc := "(I)V" } : Jvm.MethodName) prog_2_method_13_code (2 : Nat) (Option.none : Option Jvm.ClassFile.FieldType)) ∈ kALL := kin_3 (n := 141) ⟨rfl, by decide +kernel⟩
theorem kw_1208 : (Jvm.Cond.code ({ cls := "BonnetValley$Formula", name := "value", desc := "([I)I" } : Jvm.MethodName) prog_2_method_14_code (6 : Nat) (Option.some Jvm.ClassFile.FieldType.int)) ∈ kALL := kin_3 (n := 229) ⟨rfl, by decide +kernel⟩
theorem kw_1209 : (Jvm.Cond.code ({ cls := "BonnetValley$Formula", name := "combine", desc := "(III)I" } : Jvm.MethodName) prog_2_method_15_code (3 : Nat) (Option.some Jvm.ClassFile.FieldType.int)) ∈ kALL := kin_3 (n := 232) ⟨rfl, by decide +kernel⟩
theorem kw_1210 : (Jvm.Cond.code ({ cls := "BonnetValley$Games", name := "<init>", desc := "()V" } : Jvm.MethodName) prog_3_method_1_code (1 : Nat) (Option.none : Option Jvm.ClassFile.FieldType)) ∈ kALL := kin_2 (n := 171) ⟨rfl, by decide +kernel⟩
theorem kw_1211 : (Jvm.Cond.initialized "BonnetValley$Games") ∈ kALL := kin_1 (n := 19) ⟨rfl, by decide +kernel⟩
theorem kw_1212 : (Jvm.Cond.code ({ cls := "BonnetValley$Games", name := "startStorm", desc := "()V" } : Jvm.MethodName) prog_3_method_2_code (1 : Nat) (Option.none : Option Jvm.ClassFile.FieldType)) ∈ kALL := kin_5 (n := 132) ⟨rfl, by decide +kernel⟩
theorem kw_1213 : (Jvm.Cond.code ({ cls := "BonnetValley$Games", name := "addLooker", desc := "(I)V" } : Jvm.MethodName) prog_3_method_3_code (3 : Nat) (Option.none : Option Jvm.ClassFile.FieldType)) ∈ kALL := kin_5 (n := 139) ⟨rfl, by decide +kernel⟩
theorem kw_1214 : (Jvm.Cond.code ({ cls := "BonnetValley$Games", name := "tellChance", desc := "(ILBonnetValley$Numbers;)V" } : Jvm.MethodName) prog_3_method_4_code (7 : Nat) (Option.none : Option Jvm.ClassFile.FieldType)) ∈ kALL := kin_5 (n := 144) ⟨rfl, by decide +kernel⟩
theorem kw_1215 : (Jvm.Cond.code ({ cls := "BonnetValley$Games", name := "commonDivisor", desc := "(JJ)J" } : Jvm.MethodName) prog_3_method_5_code (11 : Nat) (Option.some Jvm.ClassFile.FieldType.long)) ∈ kALL := kin_5 (n := 148) ⟨rfl, by decide +kernel⟩
theorem kw_1216 : (Jvm.Cond.code ({ cls := "BonnetValley$Games", name := "winningTurn", desc := "(II)I" } : Jvm.MethodName) prog_3_method_6_code (5 : Nat) (Option.some Jvm.ClassFile.FieldType.int)) ∈ kALL := kin_5 (n := 157) ⟨rfl, by decide +kernel⟩
theorem kw_1217 : (Jvm.Cond.code ({ cls := "BonnetValley$Games", name := "restingPairs", desc := "(ILBonnetValley$Numbers;)I" } : Jvm.MethodName) prog_3_method_7_code (6 : Nat) (Option.some Jvm.ClassFile.FieldType.int)) ∈ kALL := kin_5 (n := 170) ⟨rfl, by decide +kernel⟩
theorem kw_1218 : (Jvm.Cond.code ({ cls := "BonnetValley$Games", name := "isBest", desc := "(III)Z" } : Jvm.MethodName) prog_3_method_8_code (4 : Nat) (Option.some Jvm.ClassFile.FieldType.boolean)) ∈ kALL := kin_5 (n := 173) ⟨rfl, by decide +kernel⟩
theorem kw_1219 : (Jvm.Cond.code ({ cls := "BonnetValley$Games", name := "gain", desc := "(III)I" } : Jvm.MethodName) prog_3_method_9_code (3 : Nat) (Option.some Jvm.ClassFile.FieldType.int)) ∈ kALL := kin_5 (n := 176) ⟨rfl, by decide +kernel⟩
theorem kw_1220 : (Jvm.Cond.code ({ cls := "BonnetValley$Games", name := "startDraws", desc := "(I)V" } : Jvm.MethodName) prog_3_method_10_code (2 : Nat) (Option.none : Option Jvm.ClassFile.FieldType)) ∈ kALL := kin_5 (n := 185) ⟨rfl, by decide +kernel⟩
theorem kw_1221 : (Jvm.Cond.code ({ cls := "BonnetValley$Games", name := "draw", desc := "(I)I" } : Jvm.MethodName) prog_3_method_11_code (2 : Nat) (Option.some Jvm.ClassFile.FieldType.int)) ∈ kALL := kin_5 (n := 193) ⟨rfl, by decide +kernel⟩
theorem kw_1222 : (Jvm.Cond.code ({ cls := "BonnetValley$History", name := "<init>", desc := "()V" } : Jvm.MethodName) prog_4_method_1_code (2 : Nat) (Option.none : Option Jvm.ClassFile.FieldType)) ∈ kALL := kin_2 (n := 85) ⟨rfl, by decide +kernel⟩
theorem kw_1223 : (Jvm.Cond.initialized "BonnetValley$History") ∈ kALL := kin_1 (n := 14) ⟨rfl, by decide +kernel⟩
theorem kw_1224 : (Jvm.Cond.code ({ cls := "BonnetValley$History", name := "size", desc := "()I" } : Jvm.MethodName) prog_4_method_2_code (1 : Nat) (Option.some Jvm.ClassFile.FieldType.int)) ∈ kALL := kin_4 (n := 169) ⟨rfl, by decide +kernel⟩
theorem kw_1225 : (Jvm.Cond.code ({ cls := "BonnetValley$History", name := "push", desc := "(LBonnetValley$State;)V" } : Jvm.MethodName) prog_4_method_3_code (2 : Nat) (Option.none : Option Jvm.ClassFile.FieldType)) ∈ kALL := kin_4 (n := 52) ⟨rfl, by decide +kernel⟩
theorem kw_1226 : (Jvm.Cond.code ({ cls := "BonnetValley$History", name := "pop", desc := "(LBonnetValley$State;)Z" } : Jvm.MethodName) prog_4_method_4_code (3 : Nat) (Option.some Jvm.ClassFile.FieldType.boolean)) ∈ kALL := kin_4 (n := 165) ⟨rfl, by decide +kernel⟩
theorem kw_1227 : (Jvm.Cond.code ({ cls := "BonnetValley$History", name := "clear", desc := "()V" } : Jvm.MethodName) prog_4_method_5_code (1 : Nat) (Option.none : Option Jvm.ClassFile.FieldType)) ∈ kALL := kin_3 (n := 42) ⟨rfl, by decide +kernel⟩
theorem kw_1228 : (Jvm.Cond.code ({ cls := "BonnetValley$History", name := "hold", desc := "(ILBonnetValley$State;)Z" } : Jvm.MethodName) prog_4_method_6_code (3 : Nat) (Option.some Jvm.ClassFile.FieldType.boolean)) ∈ kALL := kin_5 (n := 202) ⟨rfl, by decide +kernel⟩
theorem kw_1229 : (Jvm.Cond.code ({ cls := "BonnetValley$History", name := "bring", desc := "(ILBonnetValley$State;)Z" } : Jvm.MethodName) prog_4_method_7_code (3 : Nat) (Option.some Jvm.ClassFile.FieldType.boolean)) ∈ kALL := kin_5 (n := 210) ⟨rfl, by decide +kernel⟩
theorem kw_1230 : (Jvm.Cond.code ({ cls := "BonnetValley$Land", name := "<init>", desc := "()V" } : Jvm.MethodName) prog_5_method_1_code (1 : Nat) (Option.none : Option Jvm.ClassFile.FieldType)) ∈ kALL := kin_1 (n := 69) ⟨rfl, by decide +kernel⟩
theorem kw_1231 : (Jvm.Cond.initialized "BonnetValley$Land") ∈ kALL := kin_1 (n := 4) ⟨rfl, by decide +kernel⟩
theorem kw_1232 : (Jvm.Cond.code ({ cls := "BonnetValley$Land", name := "read", desc := "(LBonnetValley$Signs;)I" } : Jvm.MethodName) prog_5_method_2_code (9 : Nat) (Option.some Jvm.ClassFile.FieldType.int)) ∈ kALL := kin_3 (n := 20) ⟨rfl, by decide +kernel⟩
theorem kw_1233 : (Jvm.Cond.code ({ cls := "BonnetValley$Land", name := "side", desc := "(LBonnetValley$Signs;I)I" } : Jvm.MethodName) prog_5_method_3_code (3 : Nat) (Option.some Jvm.ClassFile.FieldType.int)) ∈ kALL := kin_3 (n := 23) ⟨rfl, by decide +kernel⟩
theorem kw_1234 : (Jvm.Cond.code ({ cls := "BonnetValley$Land", name := "shape", desc := "(IIJ)V" } : Jvm.MethodName) prog_5_method_4_code (7 : Nat) (Option.none : Option Jvm.ClassFile.FieldType)) ∈ kALL := kin_1 (n := 74) ⟨rfl, by decide +kernel⟩
theorem kw_1235 : (Jvm.Cond.code ({ cls := "BonnetValley$Land", name := "rows", desc := "()I" } : Jvm.MethodName) prog_5_method_5_code (1 : Nat) (Option.some Jvm.ClassFile.FieldType.int)) ∈ kALL := kin_3 (n := 62) ⟨rfl, by decide +kernel⟩
theorem kw_1236 : (Jvm.Cond.code ({ cls := "BonnetValley$Land", name := "columns", desc := "()I" } : Jvm.MethodName) prog_5_method_6_code (1 : Nat) (Option.some Jvm.ClassFile.FieldType.int)) ∈ kALL := kin_3 (n := 66) ⟨rfl, by decide +kernel⟩
theorem kw_1237 : (Jvm.Cond.code ({ cls := "BonnetValley$Land", name := "fields", desc := "()I" } : Jvm.MethodName) prog_5_method_7_code (1 : Nat) (Option.some Jvm.ClassFile.FieldType.int)) ∈ kALL := kin_3 (n := 50) ⟨rfl, by decide +kernel⟩
theorem kw_1238 : (Jvm.Cond.code ({ cls := "BonnetValley$Land", name := "holds", desc := "(I)Z" } : Jvm.MethodName) prog_5_method_8_code (2 : Nat) (Option.some Jvm.ClassFile.FieldType.boolean)) ∈ kALL := kin_3 (n := 217) ⟨rfl, by decide +kernel⟩
theorem kw_1239 : (Jvm.Cond.code ({ cls := "BonnetValley$Land", name := "free", desc := "()J" } : Jvm.MethodName) prog_5_method_9_code (1 : Nat) (Option.some Jvm.ClassFile.FieldType.long)) ∈ kALL := kin_4 (n := 210) ⟨rfl, by decide +kernel⟩
theorem kw_1240 : (Jvm.Cond.code ({ cls := "BonnetValley$Land", name := "rowOf", desc := "(I)I" } : Jvm.MethodName) prog_5_method_10_code (2 : Nat) (Option.some Jvm.ClassFile.FieldType.int)) ∈ kALL := kin_3 (n := 213) ⟨rfl, by decide +kernel⟩
theorem kw_1241 : (Jvm.Cond.code ({ cls := "BonnetValley$Land", name := "columnOf", desc := "(I)I" } : Jvm.MethodName) prog_5_method_11_code (2 : Nat) (Option.some Jvm.ClassFile.FieldType.int)) ∈ kALL := kin_3 (n := 221) ⟨rfl, by decide +kernel⟩
theorem kw_1242 : (Jvm.Cond.code ({ cls := "BonnetValley$Land", name := "fieldAt", desc := "(II)I" } : Jvm.MethodName) prog_5_method_12_code (4 : Nat) (Option.some Jvm.ClassFile.FieldType.int)) ∈ kALL := kin_3 (n := 76) ⟨rfl, by decide +kernel⟩
theorem kw_1243 : (Jvm.Cond.code ({ cls := "BonnetValley$Land", name := "isRock", desc := "(I)Z" } : Jvm.MethodName) prog_5_method_13_code (2 : Nat) (Option.some Jvm.ClassFile.FieldType.boolean)) ∈ kALL := kin_3 (n := 80) ⟨rfl, by decide +kernel⟩
theorem kw_1244 : (Jvm.Cond.code ({ cls := "BonnetValley$Land", name := "beside", desc := "(II)I" } : Jvm.MethodName) prog_5_method_14_code (4 : Nat) (Option.some Jvm.ClassFile.FieldType.int)) ∈ kALL := kin_4 (n := 92) ⟨rfl, by decide +kernel⟩
theorem kw_1245 : (Jvm.Cond.code ({ cls := "BonnetValley$Land", name := "eighthsBetween", desc := "(II)I" } : Jvm.MethodName) prog_5_method_15_code (3 : Nat) (Option.some Jvm.ClassFile.FieldType.int)) ∈ kALL := kin_4 (n := 17) ⟨rfl, by decide +kernel⟩
theorem kw_1246 : (Jvm.Cond.code ({ cls := "BonnetValley$Land", name := "view", desc := "(IIII)J" } : Jvm.MethodName) prog_5_method_16_code (8 : Nat) (Option.some Jvm.ClassFile.FieldType.long)) ∈ kALL := kin_3 (n := 238) ⟨rfl, by decide +kernel⟩
theorem kw_1247 : (Jvm.Cond.code ({ cls := "BonnetValley$Land", name := "survey", desc := "(I)V" } : Jvm.MethodName) prog_5_method_17_code (7 : Nat) (Option.none : Option Jvm.ClassFile.FieldType)) ∈ kALL := kin_4 (n := 2) ⟨rfl, by decide +kernel⟩
theorem kw_1248 : (Jvm.Cond.code ({ cls := "BonnetValley$Land", name := "isClear", desc := "(III)Z" } : Jvm.MethodName) prog_5_method_18_code (8 : Nat) (Option.some Jvm.ClassFile.FieldType.boolean)) ∈ kALL := kin_4 (n := 10) ⟨rfl, by decide +kernel⟩
theorem kw_1249 : (Jvm.Cond.code ({ cls := "BonnetValley$Land", name := "wayOf", desc := "(II)I" } : Jvm.MethodName) prog_5_method_19_code (2 : Nat) (Option.some Jvm.ClassFile.FieldType.int)) ∈ kALL := kin_4 (n := 14) ⟨rfl, by decide +kernel⟩
theorem kw_1250 : (Jvm.Cond.code ({ cls := "BonnetValley$Lines", name := "<init>", desc := "()V" } : Jvm.MethodName) prog_6_method_1_code (1 : Nat) (Option.none : Option Jvm.ClassFile.FieldType)) ∈ kALL := kin_2 (n := 110) ⟨rfl, by decide +kernel⟩
theorem kw_1251 : (Jvm.Cond.initialized "BonnetValley$Lines") ∈ kALL := kin_1 (n := 15) ⟨rfl, by decide +kernel⟩
theorem kw_1252 : (Jvm.Cond.code ({ cls := "BonnetValley$Lines", name := "digit", desc := "(II)I" } : Jvm.MethodName) prog_6_method_2_code (4 : Nat) (Option.some Jvm.ClassFile.FieldType.int)) ∈ kALL := kin_3 (n := 88) ⟨rfl, by decide +kernel⟩
theorem kw_1253 : (Jvm.Cond.code ({ cls := "BonnetValley$Lines", name := "read", desc := "(LBonnetValley$Signs;LBonnetValley$Land;II)I" } : Jvm.MethodName) prog_6_method_3_code (9 : Nat) (Option.some Jvm.ClassFile.FieldType.int)) ∈ kALL := kin_3 (n := 58) ⟨rfl, by decide +kernel⟩
theorem kw_1254 : (Jvm.Cond.code ({ cls := "BonnetValley$Lines", name := "takeDigit", desc := "(IIILBonnetValley$Land;)Z" } : Jvm.MethodName) prog_6_method_4_code (7 : Nat) (Option.some Jvm.ClassFile.FieldType.boolean)) ∈ kALL := kin_3 (n := 72) ⟨rfl, by decide +kernel⟩
theorem kw_1255 : (Jvm.Cond.code ({ cls := "BonnetValley$Numbers", name := "<init>", desc := "()V" } : Jvm.MethodName) prog_7_method_1_code (1 : Nat) (Option.none : Option Jvm.ClassFile.FieldType)) ∈ kALL := kin_1 (n := 55) ⟨rfl, by decide +kernel⟩
theorem kw_1256 : (Jvm.Cond.initialized "BonnetValley$Numbers") ∈ kALL := kin_1 (n := 3) ⟨rfl, by decide +kernel⟩
theorem kw_1257 : (Jvm.Cond.code ({ cls := "BonnetValley$Numbers", name := "anew", desc := "()LBonnetValley$Numbers;" } : Jvm.MethodName) prog_7_method_2_code (1 : Nat) (Option.some (Jvm.ClassFile.FieldType.object "BonnetValley$Numbers"))) ∈ kALL := kin_4 (n := 58) ⟨rfl, by decide +kernel⟩
theorem kw_1258 : (Jvm.Cond.code ({ cls := "BonnetValley$Numbers", name := "add", desc := "(J)LBonnetValley$Numbers;" } : Jvm.MethodName) prog_7_method_3_code (3 : Nat) (Option.some (Jvm.ClassFile.FieldType.object "BonnetValley$Numbers"))) ∈ kALL := kin_4 (n := 63) ⟨rfl, by decide +kernel⟩
theorem kw_1259 : (Jvm.Cond.code ({ cls := "BonnetValley$Numbers", name := "size", desc := "()I" } : Jvm.MethodName) prog_7_method_4_code (1 : Nat) (Option.some Jvm.ClassFile.FieldType.int)) ∈ kALL := kin_5 (n := 221) ⟨rfl, by decide +kernel⟩
theorem kw_1260 : (Jvm.Cond.code ({ cls := "BonnetValley$Numbers", name := "at", desc := "(I)J" } : Jvm.MethodName) prog_7_method_5_code (2 : Nat) (Option.some Jvm.ClassFile.FieldType.long)) ∈ kALL := kin_6 (n := 68) ⟨rfl, by decide +kernel⟩
theorem kw_1261 : (Jvm.Cond.code ({ cls := "BonnetValley$Plan", name := "<init>", desc := "()V" } : Jvm.MethodName) prog_8_method_1_code (1 : Nat) (Option.none : Option Jvm.ClassFile.FieldType)) ∈ kALL := kin_2 (n := 126) ⟨rfl, by decide +kernel⟩
theorem kw_1262 : (Jvm.Cond.initialized "BonnetValley$Plan") ∈ kALL := kin_1 (n := 16) ⟨rfl, by decide +kernel⟩
theorem kw_1263 : (Jvm.Cond.code ({ cls := "BonnetValley$Plan", name := "acts", desc := "()I" } : Jvm.MethodName) prog_8_method_2_code (1 : Nat) (Option.some Jvm.ClassFile.FieldType.int)) ∈ kALL := kin_4 (n := 145) ⟨rfl, by decide +kernel⟩
theorem kw_1264 : (Jvm.Cond.code ({ cls := "BonnetValley$Plan", name := "kind", desc := "(I)I" } : Jvm.MethodName) prog_8_method_3_code (2 : Nat) (Option.some Jvm.ClassFile.FieldType.int)) ∈ kALL := kin_4 (n := 157) ⟨rfl, by decide +kernel⟩
theorem kw_1265 : (Jvm.Cond.code ({ cls := "BonnetValley$Plan", name := "digit", desc := "(II)I" } : Jvm.MethodName) prog_8_method_4_code (4 : Nat) (Option.some Jvm.ClassFile.FieldType.int)) ∈ kALL := kin_4 (n := 153) ⟨rfl, by decide +kernel⟩
theorem kw_1266 : (Jvm.Cond.code ({ cls := "BonnetValley$Plan", name := "read", desc := "(LBonnetValley$Signs;)I" } : Jvm.MethodName) prog_8_method_5_code (6 : Nat) (Option.some Jvm.ClassFile.FieldType.int)) ∈ kALL := kin_4 (n := 127) ⟨rfl, by decide +kernel⟩
theorem kw_1267 : (Jvm.Cond.code ({ cls := "BonnetValley$Plan", name := "digitsOf", desc := "(I)I" } : Jvm.MethodName) prog_8_method_6_code (1 : Nat) (Option.some Jvm.ClassFile.FieldType.int)) ∈ kALL := kin_4 (n := 137) ⟨rfl, by decide +kernel⟩
theorem kw_1268 : (Jvm.Cond.code ({ cls := "BonnetValley$Plan", name := "takeKind", desc := "(I)Z" } : Jvm.MethodName) prog_8_method_7_code (2 : Nat) (Option.some Jvm.ClassFile.FieldType.boolean)) ∈ kALL := kin_4 (n := 141) ⟨rfl, by decide +kernel⟩
theorem kw_1269 : (Jvm.Cond.code ({ cls := "BonnetValley$Plan", name := "takeDigit", desc := "(II)Z" } : Jvm.MethodName) prog_8_method_8_code (4 : Nat) (Option.some Jvm.ClassFile.FieldType.boolean)) ∈ kALL := kin_4 (n := 133) ⟨rfl, by decide +kernel⟩
theorem kw_1270 : (Jvm.Cond.code ({ cls := "BonnetValley$Route", name := "<init>", desc := "()V" } : Jvm.MethodName) prog_9_method_1_code (1 : Nat) (Option.none : Option Jvm.ClassFile.FieldType)) ∈ kALL := kin_2 (n := 142) ⟨rfl, by decide +kernel⟩
theorem kw_1271 : (Jvm.Cond.initialized "BonnetValley$Route") ∈ kALL := kin_1 (n := 17) ⟨rfl, by decide +kernel⟩
theorem kw_1272 : (Jvm.Cond.code ({ cls := "BonnetValley$Route", name := "field", desc := "(I)I" } : Jvm.MethodName) prog_9_method_2_code (2 : Nat) (Option.some Jvm.ClassFile.FieldType.int)) ∈ kALL := kin_5 (n := 104) ⟨rfl, by decide +kernel⟩
theorem kw_1273 : (Jvm.Cond.code ({ cls := "BonnetValley$Route", name := "find", desc := "(LBonnetValley$Land;IIJ)I" } : Jvm.MethodName) prog_9_method_3_code (9 : Nat) (Option.some Jvm.ClassFile.FieldType.int)) ∈ kALL := kin_5 (n := 87) ⟨rfl, by decide +kernel⟩
theorem kw_1274 : (Jvm.Cond.code ({ cls := "BonnetValley$Route", name := "measure", desc := "(LBonnetValley$Land;IJ)V" } : Jvm.MethodName) prog_9_method_4_code (10 : Nat) (Option.none : Option Jvm.ClassFile.FieldType)) ∈ kALL := kin_5 (n := 93) ⟨rfl, by decide +kernel⟩
theorem kw_1275 : (Jvm.Cond.code ({ cls := "BonnetValley$Route", name := "leastNearer", desc := "(LBonnetValley$Land;II)I" } : Jvm.MethodName) prog_9_method_5_code (7 : Nat) (Option.some Jvm.ClassFile.FieldType.int)) ∈ kALL := kin_5 (n := 100) ⟨rfl, by decide +kernel⟩
theorem kw_1276 : (Jvm.Cond.code ({ cls := "BonnetValley$Sight", name := "<init>", desc := "(LBonnetValley$Land;)V" } : Jvm.MethodName) prog_10_method_1_code (2 : Nat) (Option.none : Option Jvm.ClassFile.FieldType)) ∈ kALL := kin_1 (n := 107) ⟨rfl, by decide +kernel⟩
theorem kw_1277 : (Jvm.Cond.initialized "BonnetValley$Sight") ∈ kALL := kin_1 (n := 5) ⟨rfl, by decide +kernel⟩
theorem kw_1278 : (Jvm.Cond.code ({ cls := "BonnetValley$Sight", name := "readLight", desc := "(LBonnetValley$Signs;)I" } : Jvm.MethodName) prog_10_method_2_code (4 : Nat) (Option.some Jvm.ClassFile.FieldType.int)) ∈ kALL := kin_3 (n := 109) ⟨rfl, by decide +kernel⟩
theorem kw_1279 : (Jvm.Cond.code ({ cls := "BonnetValley$Sight", name := "lightAt", desc := "(I)I" } : Jvm.MethodName) prog_10_method_3_code (2 : Nat) (Option.some Jvm.ClassFile.FieldType.int)) ∈ kALL := kin_3 (n := 203) ⟨rfl, by decide +kernel⟩
theorem kw_1280 : (Jvm.Cond.code ({ cls := "BonnetValley$Sight", name := "other", desc := "()LBonnetValley$Formula;" } : Jvm.MethodName) prog_10_method_4_code (1 : Nat) (Option.some (Jvm.ClassFile.FieldType.object "BonnetValley$Formula"))) ∈ kALL := kin_3 (n := 119) ⟨rfl, by decide +kernel⟩
theorem kw_1281 : (Jvm.Cond.code ({ cls := "BonnetValley$Sight", name := "takeOther", desc := "()V" } : Jvm.MethodName) prog_10_method_5_code (2 : Nat) (Option.none : Option Jvm.ClassFile.FieldType)) ∈ kALL := kin_3 (n := 160) ⟨rfl, by decide +kernel⟩
theorem kw_1282 : (Jvm.Cond.code ({ cls := "BonnetValley$Sight", name := "reach", desc := "(LBonnetValley$State;I)I" } : Jvm.MethodName) prog_10_method_6_code (3 : Nat) (Option.some Jvm.ClassFile.FieldType.int)) ∈ kALL := kin_5 (n := 33) ⟨rfl, by decide +kernel⟩
theorem kw_1283 : (Jvm.Cond.code ({ cls := "BonnetValley$Sight", name := "reachUnder", desc := "(LBonnetValley$State;II)I" } : Jvm.MethodName) prog_10_method_7_code (4 : Nat) (Option.some Jvm.ClassFile.FieldType.int)) ∈ kALL := kin_5 (n := 79) ⟨rfl, by decide +kernel⟩
theorem kw_1284 : (Jvm.Cond.code ({ cls := "BonnetValley$Sight", name := "reachBy", desc := "(LBonnetValley$Formula;LBonnetValley$State;II)I" } : Jvm.MethodName) prog_10_method_8_code (6 : Nat) (Option.some Jvm.ClassFile.FieldType.int)) ∈ kALL := kin_3 (n := 199) ⟨rfl, by decide +kernel⟩
theorem kw_1285 : (Jvm.Cond.code ({ cls := "BonnetValley$Sight", name := "viewOf", desc := "(LBonnetValley$State;I)J" } : Jvm.MethodName) prog_10_method_9_code (3 : Nat) (Option.some Jvm.ClassFile.FieldType.long)) ∈ kALL := kin_4 (n := 177) ⟨rfl, by decide +kernel⟩
theorem kw_1286 : (Jvm.Cond.code ({ cls := "BonnetValley$Sight", name := "viewUnder", desc := "(LBonnetValley$State;II)J" } : Jvm.MethodName) prog_10_method_10_code (5 : Nat) (Option.some Jvm.ClassFile.FieldType.long)) ∈ kALL := kin_4 (n := 181) ⟨rfl, by decide +kernel⟩
theorem kw_1287 : (Jvm.Cond.code ({ cls := "BonnetValley$Sight", name := "look", desc := "(LBonnetValley$State;)J" } : Jvm.MethodName) prog_10_method_11_code (2 : Nat) (Option.some Jvm.ClassFile.FieldType.long)) ∈ kALL := kin_4 (n := 196) ⟨rfl, by decide +kernel⟩
theorem kw_1288 : (Jvm.Cond.code ({ cls := "BonnetValley$Sight", name := "lookBy", desc := "(LBonnetValley$Formula;LBonnetValley$State;)J" } : Jvm.MethodName) prog_10_method_12_code (7 : Nat) (Option.some Jvm.ClassFile.FieldType.long)) ∈ kALL := kin_3 (n := 195) ⟨rfl, by decide +kernel⟩
theorem kw_1289 : (Jvm.Cond.code ({ cls := "BonnetValley$Sight", name := "view", desc := "(I)J" } : Jvm.MethodName) prog_10_method_13_code (2 : Nat) (Option.some Jvm.ClassFile.FieldType.long)) ∈ kALL := kin_4 (n := 225) ⟨rfl, by decide +kernel⟩
theorem kw_1290 : (Jvm.Cond.code ({ cls := "BonnetValley$Sight", name := "viewTogether", desc := "(LBonnetValley$State;I)J" } : Jvm.MethodName) prog_10_method_14_code (6 : Nat) (Option.some Jvm.ClassFile.FieldType.long)) ∈ kALL := kin_4 (n := 237) ⟨rfl, by decide +kernel⟩
theorem kw_1291 : (Jvm.Cond.code ({ cls := "BonnetValley$Sight", name := "seersOf", desc := "(LBonnetValley$State;I)I" } : Jvm.MethodName) prog_10_method_15_code (5 : Nat) (Option.some Jvm.ClassFile.FieldType.int)) ∈ kALL := kin_4 (n := 200) ⟨rfl, by decide +kernel⟩
theorem kw_1292 : (Jvm.Cond.code ({ cls := "BonnetValley$Sight", name := "meet", desc := "(LBonnetValley$State;II)Z" } : Jvm.MethodName) prog_10_method_16_code (4 : Nat) (Option.some Jvm.ClassFile.FieldType.boolean)) ∈ kALL := kin_4 (n := 33) ⟨rfl, by decide +kernel⟩
theorem kw_1293 : (Jvm.Cond.code ({ cls := "BonnetValley$Sight", name := "tell", desc := "(LBonnetValley$State;II)Z" } : Jvm.MethodName) prog_10_method_17_code (6 : Nat) (Option.some Jvm.ClassFile.FieldType.boolean)) ∈ kALL := kin_4 (n := 29) ⟨rfl, by decide +kernel⟩
theorem kw_1294 : (Jvm.Cond.code ({ cls := "BonnetValley$Sight", name := "toldBy", desc := "(LBonnetValley$State;I)I" } : Jvm.MethodName) prog_10_method_18_code (6 : Nat) (Option.some Jvm.ClassFile.FieldType.int)) ∈ kALL := kin_5 (n := 25) ⟨rfl, by decide +kernel⟩
theorem kw_1295 : (Jvm.Cond.code ({ cls := "BonnetValley$Sight", name := "pass", desc := "(LBonnetValley$State;I)I" } : Jvm.MethodName) prog_10_method_19_code (5 : Nat) (Option.some Jvm.ClassFile.FieldType.int)) ∈ kALL := kin_3 (n := 191) ⟨rfl, by decide +kernel⟩
theorem kw_1296 : (Jvm.Cond.code ({ cls := "BonnetValley$Sight", name := "learnedBy", desc := "(LBonnetValley$State;I)I" } : Jvm.MethodName) prog_10_method_20_code (5 : Nat) (Option.some Jvm.ClassFile.FieldType.int)) ∈ kALL := kin_4 (n := 21) ⟨rfl, by decide +kernel⟩
theorem kw_1297 : (Jvm.Cond.code ({ cls := "BonnetValley$Signs", name := "<init>", desc := "()V" } : Jvm.MethodName) prog_11_method_1_code (1 : Nat) (Option.none : Option Jvm.ClassFile.FieldType)) ∈ kALL := kin_1 (n := 41) ⟨rfl, by decide +kernel⟩
theorem kw_1298 : (Jvm.Cond.initialized "BonnetValley$Signs") ∈ kALL := kin_1 (n := 2) ⟨rfl, by decide +kernel⟩
theorem kw_1299 : (Jvm.Cond.code ({ cls := "BonnetValley$Signs", name := "append", desc := "(I)Z" } : Jvm.MethodName) prog_11_method_2_code (3 : Nat) (Option.some Jvm.ClassFile.FieldType.boolean)) ∈ kALL := kin_3 (n := 0) ⟨rfl, by decide +kernel⟩
theorem kw_1300 : (Jvm.Cond.code ({ cls := "BonnetValley$Signs", name := "cut", desc := "(I)Z" } : Jvm.MethodName) prog_11_method_3_code (2 : Nat) (Option.some Jvm.ClassFile.FieldType.boolean)) ∈ kALL := kin_3 (n := 12) ⟨rfl, by decide +kernel⟩
theorem kw_1301 : (Jvm.Cond.code ({ cls := "BonnetValley$Signs", name := "at", desc := "(I)I" } : Jvm.MethodName) prog_11_method_4_code (2 : Nat) (Option.some Jvm.ClassFile.FieldType.int)) ∈ kALL := kin_3 (n := 31) ⟨rfl, by decide +kernel⟩
theorem kw_1302 : (Jvm.Cond.code ({ cls := "BonnetValley$Signs", name := "digitAt", desc := "(I)I" } : Jvm.MethodName) prog_11_method_5_code (3 : Nat) (Option.some Jvm.ClassFile.FieldType.int)) ∈ kALL := kin_3 (n := 27) ⟨rfl, by decide +kernel⟩
theorem kw_1303 : (Jvm.Cond.code ({ cls := "BonnetValley$Signs", name := "size", desc := "()I" } : Jvm.MethodName) prog_11_method_6_code (1 : Nat) (Option.some Jvm.ClassFile.FieldType.int)) ∈ kALL := kin_3 (n := 4) ⟨rfl, by decide +kernel⟩
theorem kw_1304 : (Jvm.Cond.code ({ cls := "BonnetValley$Signs", name := "clear", desc := "()V" } : Jvm.MethodName) prog_11_method_7_code (1 : Nat) (Option.none : Option Jvm.ClassFile.FieldType)) ∈ kALL := kin_3 (n := 37) ⟨rfl, by decide +kernel⟩
theorem kw_1305 : (Jvm.Cond.code ({ cls := "BonnetValley$State", name := "<init>", desc := "()V" } : Jvm.MethodName) prog_12_method_1_code (1 : Nat) (Option.none : Option Jvm.ClassFile.FieldType)) ∈ kALL := kin_2 (n := 33) ⟨rfl, by decide +kernel⟩
theorem kw_1306 : (Jvm.Cond.initialized "BonnetValley$State") ∈ kALL := kin_1 (n := 13) ⟨rfl, by decide +kernel⟩
theorem kw_1307 : (Jvm.Cond.code ({ cls := "BonnetValley$State", name := "clear", desc := "()V" } : Jvm.MethodName) prog_12_method_2_code (1 : Nat) (Option.none : Option Jvm.ClassFile.FieldType)) ∈ kALL := kin_2 (n := 38) ⟨rfl, by decide +kernel⟩
theorem kw_1308 : (Jvm.Cond.code ({ cls := "BonnetValley$State", name := "copy", desc := "(LBonnetValley$State;)V" } : Jvm.MethodName) prog_12_method_3_code (2 : Nat) (Option.none : Option Jvm.ClassFile.FieldType)) ∈ kALL := kin_3 (n := 184) ⟨rfl, by decide +kernel⟩
theorem kw_1309 : (Jvm.Cond.code ({ cls := "BonnetValley$State", name := "addPerson", desc := "(III)V" } : Jvm.MethodName) prog_12_method_4_code (4 : Nat) (Option.none : Option Jvm.ClassFile.FieldType)) ∈ kALL := kin_3 (n := 93) ⟨rfl, by decide +kernel⟩
theorem kw_1310 : (Jvm.Cond.code ({ cls := "BonnetValley$State", name := "addThing", desc := "(I)V" } : Jvm.MethodName) prog_12_method_5_code (2 : Nat) (Option.none : Option Jvm.ClassFile.FieldType)) ∈ kALL := kin_3 (n := 101) ⟨rfl, by decide +kernel⟩
theorem kw_1311 : (Jvm.Cond.code ({ cls := "BonnetValley$State", name := "hasPerson", desc := "(I)Z" } : Jvm.MethodName) prog_12_method_6_code (2 : Nat) (Option.some Jvm.ClassFile.FieldType.boolean)) ∈ kALL := kin_4 (n := 37) ⟨rfl, by decide +kernel⟩
theorem kw_1312 : (Jvm.Cond.code ({ cls := "BonnetValley$State", name := "hasThing", desc := "(I)Z" } : Jvm.MethodName) prog_12_method_7_code (2 : Nat) (Option.some Jvm.ClassFile.FieldType.boolean)) ∈ kALL := kin_4 (n := 118) ⟨rfl, by decide +kernel⟩
theorem kw_1313 : (Jvm.Cond.code ({ cls := "BonnetValley$State", name := "known", desc := "()I" } : Jvm.MethodName) prog_12_method_8_code (3 : Nat) (Option.some Jvm.ClassFile.FieldType.int)) ∈ kALL := kin_4 (n := 43) ⟨rfl, by decide +kernel⟩
theorem kw_1314 : (Jvm.Cond.code ({ cls := "BonnetValley$State", name := "knownBySomebody", desc := "()I" } : Jvm.MethodName) prog_12_method_9_code (3 : Nat) (Option.some Jvm.ClassFile.FieldType.int)) ∈ kALL := kin_4 (n := 67) ⟨rfl, by decide +kernel⟩
theorem kw_1315 : (Jvm.Cond.code ({ cls := "BonnetValley$State", name := "knowersOf", desc := "(I)I" } : Jvm.MethodName) prog_12_method_10_code (4 : Nat) (Option.some Jvm.ClassFile.FieldType.int)) ∈ kALL := kin_5 (n := 5) ⟨rfl, by decide +kernel⟩
theorem kw_1316 : (Jvm.Cond.code ({ cls := "BonnetValley$State", name := "firstWhoLacks", desc := "()I" } : Jvm.MethodName) prog_12_method_11_code (2 : Nat) (Option.some Jvm.ClassFile.FieldType.int)) ∈ kALL := kin_5 (n := 13) ⟨rfl, by decide +kernel⟩
theorem kw_1317 : (Jvm.Cond.code ({ cls := "BonnetValley$State", name := "brims", desc := "()I" } : Jvm.MethodName) prog_12_method_12_code (3 : Nat) (Option.some Jvm.ClassFile.FieldType.int)) ∈ kALL := kin_3 (n := 176) ⟨rfl, by decide +kernel⟩
theorem kw_1318 : (Jvm.Cond.code ({ cls := "BonnetValley$State", name := "peopleOn", desc := "(J)I" } : Jvm.MethodName) prog_12_method_13_code (5 : Nat) (Option.some Jvm.ClassFile.FieldType.int)) ∈ kALL := kin_3 (n := 225) ⟨rfl, by decide +kernel⟩
theorem kw_1319 : (Jvm.Cond.code ({ cls := "BonnetValley$State", name := "thingsOn", desc := "(J)I" } : Jvm.MethodName) prog_12_method_14_code (5 : Nat) (Option.some Jvm.ClassFile.FieldType.int)) ∈ kALL := kin_4 (n := 25) ⟨rfl, by decide +kernel⟩
theorem kw_1320 : (Jvm.Cond.code ({ cls := "BonnetValley$Turning", name := "<init>", desc := "()V" } : Jvm.MethodName) prog_13_method_1_code (1 : Nat) (Option.none : Option Jvm.ClassFile.FieldType)) ∈ kALL := kin_2 (n := 158) ⟨rfl, by decide +kernel⟩
theorem kw_1321 : (Jvm.Cond.initialized "BonnetValley$Turning") ∈ kALL := kin_1 (n := 18) ⟨rfl, by decide +kernel⟩
theorem kw_1322 : (Jvm.Cond.code ({ cls := "BonnetValley$Turning", name := "set", desc := "(III)V" } : Jvm.MethodName) prog_13_method_2_code (5 : Nat) (Option.none : Option Jvm.ClassFile.FieldType)) ∈ kALL := kin_5 (n := 47) ⟨rfl, by decide +kernel⟩
theorem kw_1323 : (Jvm.Cond.code ({ cls := "BonnetValley$Turning", name := "fewest", desc := "(LBonnetValley$State;)I" } : Jvm.MethodName) prog_13_method_3_code (6 : Nat) (Option.some Jvm.ClassFile.FieldType.int)) ∈ kALL := kin_5 (n := 51) ⟨rfl, by decide +kernel⟩
theorem kw_1324 : (Jvm.Cond.code ({ cls := "BonnetValley$Turning", name := "least", desc := "(LBonnetValley$State;II)I" } : Jvm.MethodName) prog_13_method_4_code (6 : Nat) (Option.some Jvm.ClassFile.FieldType.int)) ∈ kALL := kin_5 (n := 57) ⟨rfl, by decide +kernel⟩
theorem kw_1325 : (Jvm.Cond.code ({ cls := "BonnetValley$Turning", name := "withFacing", desc := "(LBonnetValley$State;III)I" } : Jvm.MethodName) prog_13_method_5_code (6 : Nat) (Option.some Jvm.ClassFile.FieldType.int)) ∈ kALL := kin_5 (n := 61) ⟨rfl, by decide +kernel⟩
theorem kw_1326 : (Jvm.Cond.code ({ cls := "BonnetValley$Turning", name := "tellLeast", desc := "(LBonnetValley$State;LBonnetValley$Numbers;)V" } : Jvm.MethodName) prog_13_method_6_code (6 : Nat) (Option.none : Option Jvm.ClassFile.FieldType)) ∈ kALL := kin_5 (n := 65) ⟨rfl, by decide +kernel⟩
theorem kw_1327 : (Jvm.Cond.code ({ cls := "BonnetValley", name := "<init>", desc := "()V" } : Jvm.MethodName) prog_1_method_1_code (1 : Nat) (Option.none : Option Jvm.ClassFile.FieldType)) ∈ kALL := kin_1 (n := 33) ⟨rfl, by decide +kernel⟩
theorem kw_1328 : (Jvm.Cond.initialized "BonnetValley") ∈ kALL := kin_1 (n := 1) ⟨rfl, by decide +kernel⟩
theorem kw_1329 : (Jvm.Cond.code ({ cls := "BonnetValley", name := "sign", desc := "(I)I" } : Jvm.MethodName) prog_1_method_2_code (2 : Nat) (Option.some Jvm.ClassFile.FieldType.int)) ∈ kALL := kin_2 (n := 236) ⟨rfl, by decide +kernel⟩
theorem kw_1330 : (Jvm.Cond.code ({ cls := "BonnetValley", name := "end", desc := "(I)Z" } : Jvm.MethodName) prog_1_method_3_code (2 : Nat) (Option.some Jvm.ClassFile.FieldType.boolean)) ∈ kALL := kin_3 (n := 8) ⟨rfl, by decide +kernel⟩
theorem kw_1331 : (Jvm.Cond.code ({ cls := "BonnetValley", name := "valley", desc := "()I" } : Jvm.MethodName) prog_1_method_4_code (2 : Nat) (Option.some Jvm.ClassFile.FieldType.int)) ∈ kALL := kin_3 (n := 16) ⟨rfl, by decide +kernel⟩
theorem kw_1332 : (Jvm.Cond.code ({ cls := "BonnetValley", name := "people", desc := "()I" } : Jvm.MethodName) prog_1_method_5_code (4 : Nat) (Option.some Jvm.ClassFile.FieldType.int)) ∈ kALL := kin_3 (n := 54) ⟨rfl, by decide +kernel⟩
theorem kw_1333 : (Jvm.Cond.code ({ cls := "BonnetValley", name := "things", desc := "()I" } : Jvm.MethodName) prog_1_method_6_code (3 : Nat) (Option.some Jvm.ClassFile.FieldType.int)) ∈ kALL := kin_3 (n := 97) ⟨rfl, by decide +kernel⟩
theorem kw_1334 : (Jvm.Cond.code ({ cls := "BonnetValley", name := "light", desc := "()I" } : Jvm.MethodName) prog_1_method_7_code (3 : Nat) (Option.some Jvm.ClassFile.FieldType.int)) ∈ kALL := kin_3 (n := 105) ⟨rfl, by decide +kernel⟩
theorem kw_1335 : (Jvm.Cond.code ({ cls := "BonnetValley", name := "rule", desc := "()I" } : Jvm.MethodName) prog_1_method_8_code (2 : Nat) (Option.some Jvm.ClassFile.FieldType.int)) ∈ kALL := kin_3 (n := 115) ⟨rfl, by decide +kernel⟩
theorem kw_1336 : (Jvm.Cond.code ({ cls := "BonnetValley", name := "person", desc := "(II)I" } : Jvm.MethodName) prog_1_method_9_code (3 : Nat) (Option.some Jvm.ClassFile.FieldType.int)) ∈ kALL := kin_5 (n := 229) ⟨rfl, by decide +kernel⟩
theorem kw_1337 : (Jvm.Cond.code ({ cls := "BonnetValley", name := "thing", desc := "(II)I" } : Jvm.MethodName) prog_1_method_10_code (3 : Nat) (Option.some Jvm.ClassFile.FieldType.int)) ∈ kALL := kin_6 (n := 57) ⟨rfl, by decide +kernel⟩
theorem kw_1338 : (Jvm.Cond.code ({ cls := "BonnetValley", name := "sheet", desc := "(IIII)I" } : Jvm.MethodName) prog_1_method_11_code (6 : Nat) (Option.some Jvm.ClassFile.FieldType.int)) ∈ kALL := kin_3 (n := 164) ⟨rfl, by decide +kernel⟩
theorem kw_1339 : (Jvm.Cond.code ({ cls := "BonnetValley", name := "sheetEntry", desc := "(II)I" } : Jvm.MethodName) prog_1_method_12_code (3 : Nat) (Option.some Jvm.ClassFile.FieldType.int)) ∈ kALL := kin_3 (n := 170) ⟨rfl, by decide +kernel⟩
theorem kw_1340 : (Jvm.Cond.code ({ cls := "BonnetValley", name := "hours", desc := "(I)I" } : Jvm.MethodName) prog_1_method_13_code (3 : Nat) (Option.some Jvm.ClassFile.FieldType.int)) ∈ kALL := kin_3 (n := 180) ⟨rfl, by decide +kernel⟩
theorem kw_1341 : (Jvm.Cond.code ({ cls := "BonnetValley", name := "faces", desc := "(II)I" } : Jvm.MethodName) prog_1_method_14_code (3 : Nat) (Option.some Jvm.ClassFile.FieldType.int)) ∈ kALL := kin_4 (n := 71) ⟨rfl, by decide +kernel⟩
theorem kw_1342 : (Jvm.Cond.code ({ cls := "BonnetValley", name := "steps", desc := "(II)I" } : Jvm.MethodName) prog_1_method_15_code (3 : Nat) (Option.some Jvm.ClassFile.FieldType.int)) ∈ kALL := kin_4 (n := 84) ⟨rfl, by decide +kernel⟩
theorem kw_1343 : (Jvm.Cond.code ({ cls := "BonnetValley", name := "trims", desc := "(II)I" } : Jvm.MethodName) prog_1_method_16_code (3 : Nat) (Option.some Jvm.ClassFile.FieldType.int)) ∈ kALL := kin_4 (n := 102) ⟨rfl, by decide +kernel⟩
theorem kw_1344 : (Jvm.Cond.code ({ cls := "BonnetValley", name := "puts", desc := "(II)I" } : Jvm.MethodName) prog_1_method_17_code (3 : Nat) (Option.some Jvm.ClassFile.FieldType.int)) ∈ kALL := kin_4 (n := 110) ⟨rfl, by decide +kernel⟩
theorem kw_1345 : (Jvm.Cond.code ({ cls := "BonnetValley", name := "day", desc := "()I" } : Jvm.MethodName) prog_1_method_18_code (3 : Nat) (Option.some Jvm.ClassFile.FieldType.int)) ∈ kALL := kin_4 (n := 123) ⟨rfl, by decide +kernel⟩
theorem kw_1346 : (Jvm.Cond.code ({ cls := "BonnetValley", name := "undo", desc := "()I" } : Jvm.MethodName) prog_1_method_19_code (1 : Nat) (Option.some Jvm.ClassFile.FieldType.int)) ∈ kALL := kin_4 (n := 161) ⟨rfl, by decide +kernel⟩
theorem kw_1347 : (Jvm.Cond.code ({ cls := "BonnetValley", name := "remember", desc := "(I)I" } : Jvm.MethodName) prog_1_method_20_code (2 : Nat) (Option.some Jvm.ClassFile.FieldType.int)) ∈ kALL := kin_4 (n := 48) ⟨rfl, by decide +kernel⟩
theorem kw_1348 : (Jvm.Cond.code ({ cls := "BonnetValley", name := "act", desc := "(I)I" } : Jvm.MethodName) prog_1_method_21_code (4 : Nat) (Option.some Jvm.ClassFile.FieldType.int)) ∈ kALL := kin_4 (n := 149) ⟨rfl, by decide +kernel⟩
theorem kw_1349 : (Jvm.Cond.code ({ cls := "BonnetValley", name := "turnTo", desc := "(II)I" } : Jvm.MethodName) prog_1_method_22_code (4 : Nat) (Option.some Jvm.ClassFile.FieldType.int)) ∈ kALL := kin_4 (n := 75) ⟨rfl, by decide +kernel⟩
theorem kw_1350 : (Jvm.Cond.code ({ cls := "BonnetValley", name := "walk", desc := "(II)I" } : Jvm.MethodName) prog_1_method_23_code (4 : Nat) (Option.some Jvm.ClassFile.FieldType.int)) ∈ kALL := kin_4 (n := 88) ⟨rfl, by decide +kernel⟩
theorem kw_1351 : (Jvm.Cond.code ({ cls := "BonnetValley", name := "trimTo", desc := "(II)I" } : Jvm.MethodName) prog_1_method_24_code (4 : Nat) (Option.some Jvm.ClassFile.FieldType.int)) ∈ kALL := kin_4 (n := 106) ⟨rfl, by decide +kernel⟩
theorem kw_1352 : (Jvm.Cond.code ({ cls := "BonnetValley", name := "putOn", desc := "(II)I" } : Jvm.MethodName) prog_1_method_25_code (4 : Nat) (Option.some Jvm.ClassFile.FieldType.int)) ∈ kALL := kin_4 (n := 114) ⟨rfl, by decide +kernel⟩
theorem kw_1353 : (Jvm.Cond.code ({ cls := "BonnetValley", name := "isWay", desc := "(I)Z" } : Jvm.MethodName) prog_1_method_26_code (1 : Nat) (Option.some Jvm.ClassFile.FieldType.boolean)) ∈ kALL := kin_4 (n := 79) ⟨rfl, by decide +kernel⟩
theorem kw_1354 : (Jvm.Cond.code ({ cls := "BonnetValley", name := "sees", desc := "(I)J" } : Jvm.MethodName) prog_1_method_27_code (4 : Nat) (Option.some Jvm.ClassFile.FieldType.long)) ∈ kALL := kin_4 (n := 173) ⟨rfl, by decide +kernel⟩
theorem kw_1355 : (Jvm.Cond.code ({ cls := "BonnetValley", name := "seers", desc := "(I)I" } : Jvm.MethodName) prog_1_method_28_code (3 : Nat) (Option.some Jvm.ClassFile.FieldType.int)) ∈ kALL := kin_4 (n := 192) ⟨rfl, by decide +kernel⟩
theorem kw_1356 : (Jvm.Cond.code ({ cls := "BonnetValley", name := "hidden", desc := "()J" } : Jvm.MethodName) prog_1_method_29_code (3 : Nat) (Option.some Jvm.ClassFile.FieldType.long)) ∈ kALL := kin_4 (n := 206) ⟨rfl, by decide +kernel⟩
theorem kw_1357 : (Jvm.Cond.code ({ cls := "BonnetValley", name := "pairs", desc := "()I" } : Jvm.MethodName) prog_1_method_30_code (7 : Nat) (Option.some Jvm.ClassFile.FieldType.int)) ∈ kALL := kin_4 (n := 215) ⟨rfl, by decide +kernel⟩
theorem kw_1358 : (Jvm.Cond.code ({ cls := "BonnetValley", name := "behind", desc := "(I)I" } : Jvm.MethodName) prog_1_method_31_code (4 : Nat) (Option.some Jvm.ClassFile.FieldType.int)) ∈ kALL := kin_4 (n := 221) ⟨rfl, by decide +kernel⟩
theorem kw_1359 : (Jvm.Cond.code ({ cls := "BonnetValley", name := "widest", desc := "()I" } : Jvm.MethodName) prog_1_method_32_code (5 : Nat) (Option.some Jvm.ClassFile.FieldType.int)) ∈ kALL := kin_4 (n := 229) ⟨rfl, by decide +kernel⟩
theorem kw_1360 : (Jvm.Cond.code ({ cls := "BonnetValley", name := "watch", desc := "()I" } : Jvm.MethodName) prog_1_method_33_code (6 : Nat) (Option.some Jvm.ClassFile.FieldType.int)) ∈ kALL := kin_4 (n := 233) ⟨rfl, by decide +kernel⟩
theorem kw_1361 : (Jvm.Cond.code ({ cls := "BonnetValley", name := "learns", desc := "(II)I" } : Jvm.MethodName) prog_1_method_34_code (5 : Nat) (Option.some Jvm.ClassFile.FieldType.int)) ∈ kALL := kin_5 (n := 1) ⟨rfl, by decide +kernel⟩
theorem kw_1362 : (Jvm.Cond.code ({ cls := "BonnetValley", name := "all", desc := "()I" } : Jvm.MethodName) prog_1_method_35_code (4 : Nat) (Option.some Jvm.ClassFile.FieldType.int)) ∈ kALL := kin_5 (n := 9) ⟨rfl, by decide +kernel⟩
theorem kw_1363 : (Jvm.Cond.code ({ cls := "BonnetValley", name := "ahead", desc := "(I)I" } : Jvm.MethodName) prog_1_method_36_code (4 : Nat) (Option.some Jvm.ClassFile.FieldType.int)) ∈ kALL := kin_5 (n := 17) ⟨rfl, by decide +kernel⟩
theorem kw_1364 : (Jvm.Cond.code ({ cls := "BonnetValley", name := "gossip", desc := "(I)I" } : Jvm.MethodName) prog_1_method_37_code (6 : Nat) (Option.some Jvm.ClassFile.FieldType.int)) ∈ kALL := kin_5 (n := 21) ⟨rfl, by decide +kernel⟩
theorem kw_1365 : (Jvm.Cond.code ({ cls := "BonnetValley", name := "eighths", desc := "(II)I" } : Jvm.MethodName) prog_1_method_38_code (8 : Nat) (Option.some Jvm.ClassFile.FieldType.int)) ∈ kALL := kin_5 (n := 29) ⟨rfl, by decide +kernel⟩
theorem kw_1366 : (Jvm.Cond.code ({ cls := "BonnetValley", name := "turned", desc := "()I" } : Jvm.MethodName) prog_1_method_39_code (4 : Nat) (Option.some Jvm.ClassFile.FieldType.int)) ∈ kALL := kin_5 (n := 43) ⟨rfl, by decide +kernel⟩
theorem kw_1367 : (Jvm.Cond.code ({ cls := "BonnetValley", name := "best", desc := "(I)I" } : Jvm.MethodName) prog_1_method_40_code (7 : Nat) (Option.some Jvm.ClassFile.FieldType.int)) ∈ kALL := kin_5 (n := 70) ⟨rfl, by decide +kernel⟩
theorem kw_1368 : (Jvm.Cond.code ({ cls := "BonnetValley", name := "bears", desc := "(II)I" } : Jvm.MethodName) prog_1_method_41_code (4 : Nat) (Option.some Jvm.ClassFile.FieldType.int)) ∈ kALL := kin_5 (n := 74) ⟨rfl, by decide +kernel⟩
theorem kw_1369 : (Jvm.Cond.code ({ cls := "BonnetValley", name := "viewFacing", desc := "(III)J" } : Jvm.MethodName) prog_1_method_42_code (4 : Nat) (Option.some Jvm.ClassFile.FieldType.long)) ∈ kALL := kin_5 (n := 37) ⟨rfl, by decide +kernel⟩
theorem kw_1370 : (Jvm.Cond.code ({ cls := "BonnetValley", name := "hasField", desc := "(JI)Z" } : Jvm.MethodName) prog_1_method_43_code (3 : Nat) (Option.some Jvm.ClassFile.FieldType.boolean)) ∈ kALL := kin_3 (n := 83) ⟨rfl, by decide +kernel⟩
theorem kw_1371 : (Jvm.Cond.code ({ cls := "BonnetValley", name := "back", desc := "(II)I" } : Jvm.MethodName) prog_1_method_44_code (5 : Nat) (Option.some Jvm.ClassFile.FieldType.int)) ∈ kALL := kin_5 (n := 83) ⟨rfl, by decide +kernel⟩
theorem kw_1372 : (Jvm.Cond.code ({ cls := "BonnetValley", name := "open", desc := "(II)I" } : Jvm.MethodName) prog_1_method_45_code (8 : Nat) (Option.some Jvm.ClassFile.FieldType.int)) ∈ kALL := kin_5 (n := 108) ⟨rfl, by decide +kernel⟩
theorem kw_1373 : (Jvm.Cond.code ({ cls := "BonnetValley", name := "heard", desc := "(II)I" } : Jvm.MethodName) prog_1_method_46_code (5 : Nat) (Option.some Jvm.ClassFile.FieldType.int)) ∈ kALL := kin_5 (n := 112) ⟨rfl, by decide +kernel⟩
theorem kw_1374 : (Jvm.Cond.code ({ cls := "BonnetValley", name := "forget", desc := "()I" } : Jvm.MethodName) prog_1_method_47_code (2 : Nat) (Option.some Jvm.ClassFile.FieldType.int)) ∈ kALL := kin_5 (n := 116) ⟨rfl, by decide +kernel⟩
theorem kw_1375 : (Jvm.Cond.code ({ cls := "BonnetValley", name := "lost", desc := "()J" } : Jvm.MethodName) prog_1_method_48_code (3 : Nat) (Option.some Jvm.ClassFile.FieldType.long)) ∈ kALL := kin_5 (n := 120) ⟨rfl, by decide +kernel⟩
theorem kw_1376 : (Jvm.Cond.code ({ cls := "BonnetValley", name := "asks", desc := "()I" } : Jvm.MethodName) prog_1_method_49_code (8 : Nat) (Option.some Jvm.ClassFile.FieldType.int)) ∈ kALL := kin_5 (n := 124) ⟨rfl, by decide +kernel⟩
theorem kw_1377 : (Jvm.Cond.code ({ cls := "BonnetValley", name := "forgetHearings", desc := "()V" } : Jvm.MethodName) prog_1_method_50_code (1 : Nat) (Option.none : Option Jvm.ClassFile.FieldType)) ∈ kALL := kin_3 (n := 46) ⟨rfl, by decide +kernel⟩
theorem kw_1378 : (Jvm.Cond.code ({ cls := "BonnetValley", name := "storm", desc := "(III)I" } : Jvm.MethodName) prog_1_method_51_code (7 : Nat) (Option.some Jvm.ClassFile.FieldType.int)) ∈ kALL := kin_5 (n := 128) ⟨rfl, by decide +kernel⟩
theorem kw_1379 : (Jvm.Cond.code ({ cls := "BonnetValley", name := "cock", desc := "(II)I" } : Jvm.MethodName) prog_1_method_52_code (3 : Nat) (Option.some Jvm.ClassFile.FieldType.int)) ∈ kALL := kin_5 (n := 153) ⟨rfl, by decide +kernel⟩
theorem kw_1380 : (Jvm.Cond.code ({ cls := "BonnetValley", name := "law", desc := "()I" } : Jvm.MethodName) prog_1_method_53_code (4 : Nat) (Option.some Jvm.ClassFile.FieldType.int)) ∈ kALL := kin_5 (n := 161) ⟨rfl, by decide +kernel⟩
theorem kw_1381 : (Jvm.Cond.code ({ cls := "BonnetValley", name := "rests", desc := "(I)I" } : Jvm.MethodName) prog_1_method_54_code (2 : Nat) (Option.some Jvm.ClassFile.FieldType.int)) ∈ kALL := kin_5 (n := 166) ⟨rfl, by decide +kernel⟩
theorem kw_1382 : (Jvm.Cond.code ({ cls := "BonnetValley", name := "years", desc := "(II)I" } : Jvm.MethodName) prog_1_method_55_code (4 : Nat) (Option.some Jvm.ClassFile.FieldType.int)) ∈ kALL := kin_5 (n := 181) ⟨rfl, by decide +kernel⟩
theorem kw_1383 : (Jvm.Cond.code ({ cls := "BonnetValley", name := "liveYear", desc := "(LBonnetValley$State;)V" } : Jvm.MethodName) prog_1_method_56_code (6 : Nat) (Option.none : Option Jvm.ClassFile.FieldType)) ∈ kALL := kin_5 (n := 189) ⟨rfl, by decide +kernel⟩
theorem kw_1384 : (Jvm.Cond.code ({ cls := "BonnetValley", name := "keep", desc := "(I)Z" } : Jvm.MethodName) prog_1_method_57_code (2 : Nat) (Option.some Jvm.ClassFile.FieldType.boolean)) ∈ kALL := kin_5 (n := 198) ⟨rfl, by decide +kernel⟩
theorem kw_1385 : (Jvm.Cond.code ({ cls := "BonnetValley", name := "again", desc := "(I)Z" } : Jvm.MethodName) prog_1_method_58_code (2 : Nat) (Option.some Jvm.ClassFile.FieldType.boolean)) ∈ kALL := kin_5 (n := 206) ⟨rfl, by decide +kernel⟩
theorem kw_1386 : (Jvm.Cond.code ({ cls := "BonnetValley", name := "count", desc := "(I)I" } : Jvm.MethodName) prog_1_method_59_code (2 : Nat) (Option.some Jvm.ClassFile.FieldType.int)) ∈ kALL := kin_5 (n := 214) ⟨rfl, by decide +kernel⟩
theorem kw_1387 : (Jvm.Cond.code ({ cls := "BonnetValley", name := "row", desc := "(I)J" } : Jvm.MethodName) prog_1_method_60_code (2 : Nat) (Option.some Jvm.ClassFile.FieldType.long)) ∈ kALL := kin_6 (n := 64) ⟨rfl, by decide +kernel⟩
theorem kw_1388 : (Jvm.Cond.code ({ cls := "BonnetValleyModel", name := "refuse", desc := "()I" } : Jvm.MethodName) prog_15_method_2_code (1 : Nat) (Option.some Jvm.ClassFile.FieldType.int)) ∈ kALL := kin_7 (n := 135) ⟨rfl, by decide +kernel⟩
theorem kw_1389 : (Jvm.Cond.initialized "BonnetValleyModel") ∈ kALL := kin_1 (n := 20) ⟨rfl, by decide +kernel⟩
theorem kw_1390 : (Jvm.Cond.code ({ cls := "BonnetValleyModel", name := "in", desc := "(JJJ)Z" } : Jvm.MethodName) prog_15_method_3_code (6 : Nat) (Option.some Jvm.ClassFile.FieldType.boolean)) ∈ kALL := kin_6 (n := 238) ⟨rfl, by decide +kernel⟩
theorem kw_1391 : (Jvm.Cond.code ({ cls := "BonnetValleyModel", name := "has", desc := "(JI)Z" } : Jvm.MethodName) prog_15_method_4_code (3 : Nat) (Option.some Jvm.ClassFile.FieldType.boolean)) ∈ kALL := kin_7 (n := 181) ⟨rfl, by decide +kernel⟩
theorem kw_1392 : (Jvm.Cond.code ({ cls := "BonnetValleyModel", name := "flag", desc := "(Z)I" } : Jvm.MethodName) prog_15_method_5_code (1 : Nat) (Option.some Jvm.ClassFile.FieldType.int)) ∈ kALL := kin_7 (n := 68) ⟨rfl, by decide +kernel⟩
theorem kw_1393 : (Jvm.Cond.code ({ cls := "BonnetValleyModel", name := "common", desc := "(JJ)J" } : Jvm.MethodName) prog_15_method_6_code (4 : Nat) (Option.some Jvm.ClassFile.FieldType.long)) ∈ kALL := kin_8 (n := 214) ⟨rfl, by decide +kernel⟩
theorem kw_1394 : (Jvm.Cond.code ({ cls := "BonnetValleyModel", name := "enters", desc := "(J)V" } : Jvm.MethodName) prog_15_method_7_code (3 : Nat) (Option.none : Option Jvm.ClassFile.FieldType)) ∈ kALL := kin_8 (n := 4) ⟨rfl, by decide +kernel⟩
theorem kw_1395 : (Jvm.Cond.code ({ cls := "BonnetValleyModel", name := "<init>", desc := "()V" } : Jvm.MethodName) prog_15_method_8_code (1 : Nat) (Option.none : Option Jvm.ClassFile.FieldType)) ∈ kALL := kin_6 (n := 78) ⟨rfl, by decide +kernel⟩
theorem kw_1396 : (Jvm.Cond.code ({ cls := "BonnetValleyModel", name := "fields", desc := "()I" } : Jvm.MethodName) prog_15_method_9_code (1 : Nat) (Option.some Jvm.ClassFile.FieldType.int)) ∈ kALL := kin_7 (n := 41) ⟨rfl, by decide +kernel⟩
theorem kw_1397 : (Jvm.Cond.code ({ cls := "BonnetValleyModel", name := "isField", desc := "(I)Z" } : Jvm.MethodName) prog_15_method_10_code (2 : Nat) (Option.some Jvm.ClassFile.FieldType.boolean)) ∈ kALL := kin_8 (n := 54) ⟨rfl, by decide +kernel⟩
theorem kw_1398 : (Jvm.Cond.code ({ cls := "BonnetValleyModel", name := "isPerson", desc := "(I)Z" } : Jvm.MethodName) prog_15_method_11_code (2 : Nat) (Option.some Jvm.ClassFile.FieldType.boolean)) ∈ kALL := kin_7 (n := 130) ⟨rfl, by decide +kernel⟩
theorem kw_1399 : (Jvm.Cond.code ({ cls := "BonnetValleyModel", name := "isThing", desc := "(I)Z" } : Jvm.MethodName) prog_15_method_12_code (2 : Nat) (Option.some Jvm.ClassFile.FieldType.boolean)) ∈ kALL := kin_7 (n := 189) ⟨rfl, by decide +kernel⟩
theorem kw_1400 : (Jvm.Cond.code ({ cls := "BonnetValleyModel", name := "beside", desc := "(II)I" } : Jvm.MethodName) prog_15_method_13_code (5 : Nat) (Option.some Jvm.ClassFile.FieldType.int)) ∈ kALL := kin_8 (n := 33) ⟨rfl, by decide +kernel⟩
theorem kw_1401 : (Jvm.Cond.code ({ cls := "BonnetValleyModel", name := "sign", desc := "(I)I" } : Jvm.MethodName) prog_15_method_14_code (3 : Nat) (Option.some Jvm.ClassFile.FieldType.int)) ∈ kALL := kin_6 (n := 231) ⟨rfl, by decide +kernel⟩
theorem kw_1402 : (Jvm.Cond.code ({ cls := "BonnetValleyModel", name := "end", desc := "(I)Z" } : Jvm.MethodName) prog_15_method_15_code (2 : Nat) (Option.some Jvm.ClassFile.FieldType.boolean)) ∈ kALL := kin_6 (n := 235) ⟨rfl, by decide +kernel⟩
theorem kw_1403 : (Jvm.Cond.code ({ cls := "BonnetValleyModel", name := "begins", desc := "(I)I" } : Jvm.MethodName) prog_15_method_16_code (3 : Nat) (Option.some Jvm.ClassFile.FieldType.int)) ∈ kALL := kin_7 (n := 6) ⟨rfl, by decide +kernel⟩
theorem kw_1404 : (Jvm.Cond.code ({ cls := "BonnetValleyModel", name := "takes", desc := "(I)Z" } : Jvm.MethodName) prog_15_method_17_code (3 : Nat) (Option.some Jvm.ClassFile.FieldType.boolean)) ∈ kALL := kin_7 (n := 65) ⟨rfl, by decide +kernel⟩
theorem kw_1405 : (Jvm.Cond.code ({ cls := "BonnetValleyModel", name := "isDigit", desc := "()Z" } : Jvm.MethodName) prog_15_method_18_code (1 : Nat) (Option.some Jvm.ClassFile.FieldType.boolean)) ∈ kALL := kin_7 (n := 88) ⟨rfl, by decide +kernel⟩
theorem kw_1406 : (Jvm.Cond.code ({ cls := "BonnetValleyModel", name := "takesOf", desc := "(Ljava/lang/String;)I" } : Jvm.MethodName) prog_15_method_19_code (3 : Nat) (Option.some Jvm.ClassFile.FieldType.int)) ∈ kALL := kin_7 (n := 16) ⟨rfl, by decide +kernel⟩
theorem kw_1407 : (Jvm.Cond.code ({ cls := "BonnetValleyModel", name := "number", desc := "(I)I" } : Jvm.MethodName) prog_15_method_20_code (4 : Nat) (Option.some Jvm.ClassFile.FieldType.int)) ∈ kALL := kin_7 (n := 94) ⟨rfl, by decide +kernel⟩
theorem kw_1408 : (Jvm.Cond.code ({ cls := "BonnetValleyModel", name := "digitIn", desc := "(II)I" } : Jvm.MethodName) prog_15_method_21_code (3 : Nat) (Option.some Jvm.ClassFile.FieldType.int)) ∈ kALL := kin_7 (n := 11) ⟨rfl, by decide +kernel⟩
theorem kw_1409 : (Jvm.Cond.code ({ cls := "BonnetValleyModel", name := "faultOf", desc := "(IIZ)I" } : Jvm.MethodName) prog_15_method_22_code (5 : Nat) (Option.some Jvm.ClassFile.FieldType.int)) ∈ kALL := kin_7 (n := 72) ⟨rfl, by decide +kernel⟩
theorem kw_1410 : (Jvm.Cond.code ({ cls := "BonnetValleyModel", name := "valley", desc := "()I" } : Jvm.MethodName) prog_15_method_23_code (6 : Nat) (Option.some Jvm.ClassFile.FieldType.int)) ∈ kALL := kin_7 (n := 2) ⟨rfl, by decide +kernel⟩
theorem kw_1411 : (Jvm.Cond.code ({ cls := "BonnetValleyModel", name := "readsField", desc := "()I" } : Jvm.MethodName) prog_15_method_24_code (3 : Nat) (Option.some Jvm.ClassFile.FieldType.int)) ∈ kALL := kin_7 (n := 57) ⟨rfl, by decide +kernel⟩
theorem kw_1412 : (Jvm.Cond.code ({ cls := "BonnetValleyModel", name := "readsPerson", desc := "()Z" } : Jvm.MethodName) prog_15_method_25_code (2 : Nat) (Option.some Jvm.ClassFile.FieldType.boolean)) ∈ kALL := kin_7 (n := 53) ⟨rfl, by decide +kernel⟩
theorem kw_1413 : (Jvm.Cond.code ({ cls := "BonnetValleyModel", name := "readsThing", desc := "()Z" } : Jvm.MethodName) prog_15_method_26_code (1 : Nat) (Option.some Jvm.ClassFile.FieldType.boolean)) ∈ kALL := kin_7 (n := 61) ⟨rfl, by decide +kernel⟩
theorem kw_1414 : (Jvm.Cond.code ({ cls := "BonnetValleyModel", name := "readsLines", desc := "(ZI)I" } : Jvm.MethodName) prog_15_method_27_code (6 : Nat) (Option.some Jvm.ClassFile.FieldType.int)) ∈ kALL := kin_7 (n := 49) ⟨rfl, by decide +kernel⟩
theorem kw_1415 : (Jvm.Cond.code ({ cls := "BonnetValleyModel", name := "isNew", desc := "()I" } : Jvm.MethodName) prog_15_method_28_code (1 : Nat) (Option.some Jvm.ClassFile.FieldType.int)) ∈ kALL := kin_7 (n := 76) ⟨rfl, by decide +kernel⟩
theorem kw_1416 : (Jvm.Cond.code ({ cls := "BonnetValleyModel", name := "people", desc := "()I" } : Jvm.MethodName) prog_15_method_29_code (3 : Nat) (Option.some Jvm.ClassFile.FieldType.int)) ∈ kALL := kin_7 (n := 45) ⟨rfl, by decide +kernel⟩
theorem kw_1417 : (Jvm.Cond.code ({ cls := "BonnetValleyModel", name := "things", desc := "()I" } : Jvm.MethodName) prog_15_method_30_code (3 : Nat) (Option.some Jvm.ClassFile.FieldType.int)) ∈ kALL := kin_7 (n := 80) ⟨rfl, by decide +kernel⟩
theorem kw_1418 : (Jvm.Cond.code ({ cls := "BonnetValleyModel", name := "light", desc := "()I" } : Jvm.MethodName) prog_15_method_31_code (3 : Nat) (Option.some Jvm.ClassFile.FieldType.int)) ∈ kALL := kin_7 (n := 84) ⟨rfl, by decide +kernel⟩
theorem kw_1419 : (Jvm.Cond.code ({ cls := "BonnetValleyModel", name := "lightOn", desc := "(I)I" } : Jvm.MethodName) prog_15_method_32_code (2 : Nat) (Option.some Jvm.ClassFile.FieldType.int)) ∈ kALL := kin_7 (n := 143) ⟨rfl, by decide +kernel⟩
theorem kw_1420 : (Jvm.Cond.code ({ cls := "BonnetValleyModel", name := "codes", desc := "(I)V" } : Jvm.MethodName) prog_15_method_33_code (2 : Nat) (Option.none : Option Jvm.ClassFile.FieldType)) ∈ kALL := kin_7 (n := 114) ⟨rfl, by decide +kernel⟩
theorem kw_1421 : (Jvm.Cond.code ({ cls := "BonnetValleyModel", name := "readsAsked", desc := "()Z" } : Jvm.MethodName) prog_15_method_34_code (2 : Nat) (Option.some Jvm.ClassFile.FieldType.boolean)) ∈ kALL := kin_7 (n := 110) ⟨rfl, by decide +kernel⟩
theorem kw_1422 : (Jvm.Cond.code ({ cls := "BonnetValleyModel", name := "readsRank", desc := "(I)Z" } : Jvm.MethodName) prog_15_method_35_code (4 : Nat) (Option.some Jvm.ClassFile.FieldType.boolean)) ∈ kALL := kin_7 (n := 106) ⟨rfl, by decide +kernel⟩
theorem kw_1423 : (Jvm.Cond.code ({ cls := "BonnetValleyModel", name := "readsRule", desc := "()I" } : Jvm.MethodName) prog_15_method_36_code (3 : Nat) (Option.some Jvm.ClassFile.FieldType.int)) ∈ kALL := kin_7 (n := 102) ⟨rfl, by decide +kernel⟩
theorem kw_1424 : (Jvm.Cond.code ({ cls := "BonnetValleyModel", name := "laysCode", desc := "([II)V" } : Jvm.MethodName) prog_15_method_37_code (4 : Nat) (Option.none : Option Jvm.ClassFile.FieldType)) ∈ kALL := kin_7 (n := 122) ⟨rfl, by decide +kernel⟩
theorem kw_1425 : (Jvm.Cond.code ({ cls := "BonnetValleyModel", name := "rule", desc := "()I" } : Jvm.MethodName) prog_15_method_38_code (2 : Nat) (Option.some Jvm.ClassFile.FieldType.int)) ∈ kALL := kin_7 (n := 98) ⟨rfl, by decide +kernel⟩
theorem kw_1426 : (Jvm.Cond.code ({ cls := "BonnetValleyModel", name := "worked", desc := "(III)I" } : Jvm.MethodName) prog_15_method_39_code (3 : Nat) (Option.some Jvm.ClassFile.FieldType.int)) ∈ kALL := kin_7 (n := 151) ⟨rfl, by decide +kernel⟩
theorem kw_1427 : (Jvm.Cond.code ({ cls := "BonnetValleyModel", name := "ruled", desc := "()I" } : Jvm.MethodName) prog_15_method_40_code (4 : Nat) (Option.some Jvm.ClassFile.FieldType.int)) ∈ kALL := kin_7 (n := 148) ⟨rfl, by decide +kernel⟩
theorem kw_1428 : (Jvm.Cond.code ({ cls := "BonnetValleyModel", name := "reachBy", desc := "([III)I" } : Jvm.MethodName) prog_15_method_41_code (6 : Nat) (Option.some Jvm.ClassFile.FieldType.int)) ∈ kALL := kin_7 (n := 139) ⟨rfl, by decide +kernel⟩
theorem kw_1429 : (Jvm.Cond.code ({ cls := "BonnetValleyModel", name := "way", desc := "(II)I" } : Jvm.MethodName) prog_15_method_42_code (2 : Nat) (Option.some Jvm.ClassFile.FieldType.int)) ∈ kALL := kin_7 (n := 164) ⟨rfl, by decide +kernel⟩
theorem kw_1430 : (Jvm.Cond.code ({ cls := "BonnetValleyModel", name := "eighthsBetween", desc := "(II)I" } : Jvm.MethodName) prog_15_method_43_code (3 : Nat) (Option.some Jvm.ClassFile.FieldType.int)) ∈ kALL := kin_7 (n := 167) ⟨rfl, by decide +kernel⟩
theorem kw_1431 : (Jvm.Cond.code ({ cls := "BonnetValleyModel", name := "isClear", desc := "(II)Z" } : Jvm.MethodName) prog_15_method_44_code (7 : Nat) (Option.some Jvm.ClassFile.FieldType.boolean)) ∈ kALL := kin_7 (n := 171) ⟨rfl, by decide +kernel⟩
theorem kw_1432 : (Jvm.Cond.code ({ cls := "BonnetValleyModel", name := "seesBy", desc := "(IIIII)Z" } : Jvm.MethodName) prog_15_method_45_code (9 : Nat) (Option.some Jvm.ClassFile.FieldType.boolean)) ∈ kALL := kin_7 (n := 160) ⟨rfl, by decide +kernel⟩
theorem kw_1433 : (Jvm.Cond.code ({ cls := "BonnetValleyModel", name := "doesSee", desc := "([III)Z" } : Jvm.MethodName) prog_15_method_46_code (4 : Nat) (Option.some Jvm.ClassFile.FieldType.boolean)) ∈ kALL := kin_7 (n := 202) ⟨rfl, by decide +kernel⟩
theorem kw_1434 : (Jvm.Cond.code ({ cls := "BonnetValleyModel", name := "fieldsSeen", desc := "([II)J" } : Jvm.MethodName) prog_15_method_47_code (7 : Nat) (Option.some Jvm.ClassFile.FieldType.long)) ∈ kALL := kin_7 (n := 156) ⟨rfl, by decide +kernel⟩
theorem kw_1435 : (Jvm.Cond.code ({ cls := "BonnetValleyModel", name := "allSeen", desc := "([I)J" } : Jvm.MethodName) prog_15_method_48_code (5 : Nat) (Option.some Jvm.ClassFile.FieldType.long)) ∈ kALL := kin_8 (n := 93) ⟨rfl, by decide +kernel⟩
theorem kw_1436 : (Jvm.Cond.code ({ cls := "BonnetValleyModel", name := "thingsOn", desc := "([IJ)I" } : Jvm.MethodName) prog_15_method_49_code (6 : Nat) (Option.some Jvm.ClassFile.FieldType.int)) ∈ kALL := kin_7 (n := 178) ⟨rfl, by decide +kernel⟩
theorem kw_1437 : (Jvm.Cond.code ({ cls := "BonnetValleyModel", name := "peopleOn", desc := "([IJ)I" } : Jvm.MethodName) prog_15_method_50_code (6 : Nat) (Option.some Jvm.ClassFile.FieldType.int)) ∈ kALL := kin_8 (n := 77) ⟨rfl, by decide +kernel⟩
theorem kw_1438 : (Jvm.Cond.code ({ cls := "BonnetValleyModel", name := "whoSees", desc := "([II)I" } : Jvm.MethodName) prog_15_method_51_code (5 : Nat) (Option.some Jvm.ClassFile.FieldType.int)) ∈ kALL := kin_7 (n := 198) ⟨rfl, by decide +kernel⟩
theorem kw_1439 : (Jvm.Cond.code ({ cls := "BonnetValleyModel", name := "seeEachOther", desc := "([III)Z" } : Jvm.MethodName) prog_15_method_52_code (4 : Nat) (Option.some Jvm.ClassFile.FieldType.boolean)) ∈ kALL := kin_8 (n := 0) ⟨rfl, by decide +kernel⟩
theorem kw_1440 : (Jvm.Cond.code ({ cls := "BonnetValleyModel", name := "tellEachOther", desc := "([III)Z" } : Jvm.MethodName) prog_15_method_53_code (5 : Nat) (Option.some Jvm.ClassFile.FieldType.boolean)) ∈ kALL := kin_7 (n := 236) ⟨rfl, by decide +kernel⟩
theorem kw_1441 : (Jvm.Cond.code ({ cls := "BonnetValleyModel", name := "knowing", desc := "([II)I" } : Jvm.MethodName) prog_15_method_54_code (5 : Nat) (Option.some Jvm.ClassFile.FieldType.int)) ∈ kALL := kin_7 (n := 194) ⟨rfl, by decide +kernel⟩
theorem kw_1442 : (Jvm.Cond.code ({ cls := "BonnetValleyModel", name := "known", desc := "([I)I" } : Jvm.MethodName) prog_15_method_55_code (4 : Nat) (Option.some Jvm.ClassFile.FieldType.int)) ∈ kALL := kin_7 (n := 224) ⟨rfl, by decide +kernel⟩
theorem kw_1443 : (Jvm.Cond.code ({ cls := "BonnetValleyModel", name := "person", desc := "(II)I" } : Jvm.MethodName) prog_15_method_56_code (3 : Nat) (Option.some Jvm.ClassFile.FieldType.int)) ∈ kALL := kin_7 (n := 126) ⟨rfl, by decide +kernel⟩
theorem kw_1444 : (Jvm.Cond.code ({ cls := "BonnetValleyModel", name := "thing", desc := "(II)I" } : Jvm.MethodName) prog_15_method_57_code (3 : Nat) (Option.some Jvm.ClassFile.FieldType.int)) ∈ kALL := kin_7 (n := 185) ⟨rfl, by decide +kernel⟩
theorem kw_1445 : (Jvm.Cond.code ({ cls := "BonnetValleyModel", name := "sheet", desc := "(IIII)I" } : Jvm.MethodName) prog_15_method_58_code (9 : Nat) (Option.some Jvm.ClassFile.FieldType.int)) ∈ kALL := kin_7 (n := 206) ⟨rfl, by decide +kernel⟩
theorem kw_1446 : (Jvm.Cond.code ({ cls := "BonnetValleyModel", name := "putsBy", desc := "()V" } : Jvm.MethodName) prog_15_method_59_code (2 : Nat) (Option.none : Option Jvm.ClassFile.FieldType)) ∈ kALL := kin_7 (n := 220) ⟨rfl, by decide +kernel⟩
theorem kw_1447 : (Jvm.Cond.code ({ cls := "BonnetValleyModel", name := "adds", desc := "(I)I" } : Jvm.MethodName) prog_15_method_60_code (3 : Nat) (Option.some Jvm.ClassFile.FieldType.int)) ∈ kALL := kin_8 (n := 8) ⟨rfl, by decide +kernel⟩
theorem kw_1448 : (Jvm.Cond.code ({ cls := "BonnetValleyModel", name := "counted", desc := "(I)I" } : Jvm.MethodName) prog_15_method_61_code (2 : Nat) (Option.some Jvm.ClassFile.FieldType.int)) ∈ kALL := kin_8 (n := 21) ⟨rfl, by decide +kernel⟩
theorem kw_1449 : (Jvm.Cond.code ({ cls := "BonnetValleyModel", name := "undo", desc := "()I" } : Jvm.MethodName) prog_15_method_62_code (2 : Nat) (Option.some Jvm.ClassFile.FieldType.int)) ∈ kALL := kin_7 (n := 211) ⟨rfl, by decide +kernel⟩
theorem kw_1450 : (Jvm.Cond.code ({ cls := "BonnetValleyModel", name := "hourGoes", desc := "([I)V" } : Jvm.MethodName) prog_15_method_63_code (4 : Nat) (Option.none : Option Jvm.ClassFile.FieldType)) ∈ kALL := kin_7 (n := 232) ⟨rfl, by decide +kernel⟩
theorem kw_1451 : (Jvm.Cond.code ({ cls := "BonnetValleyModel", name := "goesOn", desc := "([II)V" } : Jvm.MethodName) prog_15_method_64_code (4 : Nat) (Option.none : Option Jvm.ClassFile.FieldType)) ∈ kALL := kin_7 (n := 228) ⟨rfl, by decide +kernel⟩
theorem kw_1452 : (Jvm.Cond.code ({ cls := "BonnetValleyModel", name := "facesOne", desc := "([III)I" } : Jvm.MethodName) prog_15_method_65_code (5 : Nat) (Option.some Jvm.ClassFile.FieldType.int)) ∈ kALL := kin_8 (n := 16) ⟨rfl, by decide +kernel⟩
theorem kw_1453 : (Jvm.Cond.code ({ cls := "BonnetValleyModel", name := "stepsOne", desc := "([III)I" } : Jvm.MethodName) prog_15_method_66_code (5 : Nat) (Option.some Jvm.ClassFile.FieldType.int)) ∈ kALL := kin_8 (n := 29) ⟨rfl, by decide +kernel⟩
theorem kw_1454 : (Jvm.Cond.code ({ cls := "BonnetValleyModel", name := "trimsOne", desc := "(II)I" } : Jvm.MethodName) prog_15_method_67_code (4 : Nat) (Option.some Jvm.ClassFile.FieldType.int)) ∈ kALL := kin_8 (n := 41) ⟨rfl, by decide +kernel⟩
theorem kw_1455 : (Jvm.Cond.code ({ cls := "BonnetValleyModel", name := "putsOne", desc := "(II)I" } : Jvm.MethodName) prog_15_method_68_code (4 : Nat) (Option.some Jvm.ClassFile.FieldType.int)) ∈ kALL := kin_8 (n := 50) ⟨rfl, by decide +kernel⟩
theorem kw_1456 : (Jvm.Cond.code ({ cls := "BonnetValleyModel", name := "hours", desc := "(I)I" } : Jvm.MethodName) prog_15_method_69_code (5 : Nat) (Option.some Jvm.ClassFile.FieldType.int)) ∈ kALL := kin_7 (n := 215) ⟨rfl, by decide +kernel⟩
theorem kw_1457 : (Jvm.Cond.code ({ cls := "BonnetValleyModel", name := "faces", desc := "(II)I" } : Jvm.MethodName) prog_15_method_70_code (3 : Nat) (Option.some Jvm.ClassFile.FieldType.int)) ∈ kALL := kin_8 (n := 12) ⟨rfl, by decide +kernel⟩
theorem kw_1458 : (Jvm.Cond.code ({ cls := "BonnetValleyModel", name := "steps", desc := "(II)I" } : Jvm.MethodName) prog_15_method_71_code (3 : Nat) (Option.some Jvm.ClassFile.FieldType.int)) ∈ kALL := kin_8 (n := 25) ⟨rfl, by decide +kernel⟩
theorem kw_1459 : (Jvm.Cond.code ({ cls := "BonnetValleyModel", name := "trims", desc := "(II)I" } : Jvm.MethodName) prog_15_method_72_code (3 : Nat) (Option.some Jvm.ClassFile.FieldType.int)) ∈ kALL := kin_8 (n := 37) ⟨rfl, by decide +kernel⟩
theorem kw_1460 : (Jvm.Cond.code ({ cls := "BonnetValleyModel", name := "puts", desc := "(II)I" } : Jvm.MethodName) prog_15_method_73_code (3 : Nat) (Option.some Jvm.ClassFile.FieldType.int)) ∈ kALL := kin_8 (n := 46) ⟨rfl, by decide +kernel⟩
theorem kw_1461 : (Jvm.Cond.code ({ cls := "BonnetValleyModel", name := "readsAct", desc := "()Z" } : Jvm.MethodName) prog_15_method_74_code (2 : Nat) (Option.some Jvm.ClassFile.FieldType.boolean)) ∈ kALL := kin_8 (n := 62) ⟨rfl, by decide +kernel⟩
theorem kw_1462 : (Jvm.Cond.code ({ cls := "BonnetValleyModel", name := "does", desc := "(I)Z" } : Jvm.MethodName) prog_15_method_75_code (4 : Nat) (Option.some Jvm.ClassFile.FieldType.boolean)) ∈ kALL := kin_8 (n := 67) ⟨rfl, by decide +kernel⟩
theorem kw_1463 : (Jvm.Cond.code ({ cls := "BonnetValleyModel", name := "day", desc := "()I" } : Jvm.MethodName) prog_15_method_76_code (5 : Nat) (Option.some Jvm.ClassFile.FieldType.int)) ∈ kALL := kin_8 (n := 58) ⟨rfl, by decide +kernel⟩
theorem kw_1464 : (Jvm.Cond.code ({ cls := "BonnetValleyModel", name := "copies", desc := "()V" } : Jvm.MethodName) prog_15_method_77_code (2 : Nat) (Option.none : Option Jvm.ClassFile.FieldType)) ∈ kALL := kin_8 (n := 120) ⟨rfl, by decide +kernel⟩
theorem kw_1465 : (Jvm.Cond.code ({ cls := "BonnetValleyModel", name := "sees", desc := "(I)J" } : Jvm.MethodName) prog_15_method_78_code (4 : Nat) (Option.some Jvm.ClassFile.FieldType.long)) ∈ kALL := kin_8 (n := 71) ⟨rfl, by decide +kernel⟩
theorem kw_1466 : (Jvm.Cond.code ({ cls := "BonnetValleyModel", name := "seers", desc := "(I)I" } : Jvm.MethodName) prog_15_method_79_code (3 : Nat) (Option.some Jvm.ClassFile.FieldType.int)) ∈ kALL := kin_8 (n := 81) ⟨rfl, by decide +kernel⟩
theorem kw_1467 : (Jvm.Cond.code ({ cls := "BonnetValleyModel", name := "free", desc := "()J" } : Jvm.MethodName) prog_15_method_80_code (4 : Nat) (Option.some Jvm.ClassFile.FieldType.long)) ∈ kALL := kin_8 (n := 89) ⟨rfl, by decide +kernel⟩
theorem kw_1468 : (Jvm.Cond.code ({ cls := "BonnetValleyModel", name := "hidden", desc := "()J" } : Jvm.MethodName) prog_15_method_81_code (3 : Nat) (Option.some Jvm.ClassFile.FieldType.long)) ∈ kALL := kin_8 (n := 85) ⟨rfl, by decide +kernel⟩
theorem kw_1469 : (Jvm.Cond.code ({ cls := "BonnetValleyModel", name := "pairs", desc := "()I" } : Jvm.MethodName) prog_15_method_82_code (7 : Nat) (Option.some Jvm.ClassFile.FieldType.int)) ∈ kALL := kin_8 (n := 97) ⟨rfl, by decide +kernel⟩
theorem kw_1470 : (Jvm.Cond.code ({ cls := "BonnetValleyModel", name := "behind", desc := "(I)I" } : Jvm.MethodName) prog_15_method_83_code (3 : Nat) (Option.some Jvm.ClassFile.FieldType.int)) ∈ kALL := kin_8 (n := 101) ⟨rfl, by decide +kernel⟩
theorem kw_1471 : (Jvm.Cond.code ({ cls := "BonnetValleyModel", name := "widest", desc := "()I" } : Jvm.MethodName) prog_15_method_84_code (5 : Nat) (Option.some Jvm.ClassFile.FieldType.int)) ∈ kALL := kin_8 (n := 105) ⟨rfl, by decide +kernel⟩
theorem kw_1472 : (Jvm.Cond.code ({ cls := "BonnetValleyModel", name := "isFewer", desc := "(II)Z" } : Jvm.MethodName) prog_15_method_85_code (2 : Nat) (Option.some Jvm.ClassFile.FieldType.boolean)) ∈ kALL := kin_8 (n := 112) ⟨rfl, by decide +kernel⟩
theorem kw_1473 : (Jvm.Cond.code ({ cls := "BonnetValleyModel", name := "watch", desc := "()I" } : Jvm.MethodName) prog_15_method_86_code (8 : Nat) (Option.some Jvm.ClassFile.FieldType.int)) ∈ kALL := kin_8 (n := 109) ⟨rfl, by decide +kernel⟩
theorem kw_1474 : (Jvm.Cond.code ({ cls := "BonnetValleyModel", name := "learns", desc := "(II)I" } : Jvm.MethodName) prog_15_method_87_code (4 : Nat) (Option.some Jvm.ClassFile.FieldType.int)) ∈ kALL := kin_8 (n := 116) ⟨rfl, by decide +kernel⟩
theorem kw_1475 : (Jvm.Cond.code ({ cls := "BonnetValleyModel", name := "firstWithout", desc := "([I)I" } : Jvm.MethodName) prog_15_method_88_code (4 : Nat) (Option.some Jvm.ClassFile.FieldType.int)) ∈ kALL := kin_8 (n := 128) ⟨rfl, by decide +kernel⟩
theorem kw_1476 : (Jvm.Cond.code ({ cls := "BonnetValleyModel", name := "all", desc := "()I" } : Jvm.MethodName) prog_15_method_89_code (4 : Nat) (Option.some Jvm.ClassFile.FieldType.int)) ∈ kALL := kin_8 (n := 124) ⟨rfl, by decide +kernel⟩
theorem kw_1477 : (Jvm.Cond.code ({ cls := "BonnetValleyModel", name := "ahead", desc := "(I)I" } : Jvm.MethodName) prog_15_method_90_code (3 : Nat) (Option.some Jvm.ClassFile.FieldType.int)) ∈ kALL := kin_8 (n := 132) ⟨rfl, by decide +kernel⟩
theorem kw_1478 : (Jvm.Cond.code ({ cls := "BonnetValleyModel", name := "gossip", desc := "(I)I" } : Jvm.MethodName) prog_15_method_91_code (7 : Nat) (Option.some Jvm.ClassFile.FieldType.int)) ∈ kALL := kin_8 (n := 137) ⟨rfl, by decide +kernel⟩
theorem kw_1479 : (Jvm.Cond.code ({ cls := "BonnetValleyModel", name := "wouldSee", desc := "(III)Z" } : Jvm.MethodName) prog_15_method_92_code (4 : Nat) (Option.some Jvm.ClassFile.FieldType.boolean)) ∈ kALL := kin_8 (n := 146) ⟨rfl, by decide +kernel⟩
theorem kw_1480 : (Jvm.Cond.code ({ cls := "BonnetValleyModel", name := "eighths", desc := "(II)I" } : Jvm.MethodName) prog_15_method_93_code (7 : Nat) (Option.some Jvm.ClassFile.FieldType.int)) ∈ kALL := kin_8 (n := 141) ⟨rfl, by decide +kernel⟩
theorem kw_1481 : (Jvm.Cond.code ({ cls := "BonnetValleyModel", name := "wouldSeeThings", desc := "(II)I" } : Jvm.MethodName) prog_15_method_94_code (5 : Nat) (Option.some Jvm.ClassFile.FieldType.int)) ∈ kALL := kin_8 (n := 154) ⟨rfl, by decide +kernel⟩
theorem kw_1482 : (Jvm.Cond.code ({ cls := "BonnetValleyModel", name := "place", desc := "(II)I" } : Jvm.MethodName) prog_15_method_95_code (2 : Nat) (Option.some Jvm.ClassFile.FieldType.int)) ∈ kALL := kin_8 (n := 157) ⟨rfl, by decide +kernel⟩
theorem kw_1483 : (Jvm.Cond.code ({ cls := "BonnetValleyModel", name := "fewWith", desc := "(III)I" } : Jvm.MethodName) prog_15_method_96_code (4 : Nat) (Option.some Jvm.ClassFile.FieldType.int)) ∈ kALL := kin_8 (n := 161) ⟨rfl, by decide +kernel⟩
theorem kw_1484 : (Jvm.Cond.code ({ cls := "BonnetValleyModel", name := "turned", desc := "()I" } : Jvm.MethodName) prog_15_method_97_code (6 : Nat) (Option.some Jvm.ClassFile.FieldType.int)) ∈ kALL := kin_8 (n := 150) ⟨rfl, by decide +kernel⟩
theorem kw_1485 : (Jvm.Cond.code ({ cls := "BonnetValleyModel", name := "best", desc := "(I)I" } : Jvm.MethodName) prog_15_method_98_code (4 : Nat) (Option.some Jvm.ClassFile.FieldType.int)) ∈ kALL := kin_8 (n := 165) ⟨rfl, by decide +kernel⟩
theorem kw_1486 : (Jvm.Cond.code ({ cls := "BonnetValleyModel", name := "bears", desc := "(II)I" } : Jvm.MethodName) prog_15_method_99_code (5 : Nat) (Option.some Jvm.ClassFile.FieldType.int)) ∈ kALL := kin_8 (n := 169) ⟨rfl, by decide +kernel⟩
theorem kw_1487 : (Jvm.Cond.code ({ cls := "BonnetValleyModel", name := "laysSteps", desc := "(IIJ)V" } : Jvm.MethodName) prog_15_method_100_code (10 : Nat) (Option.none : Option Jvm.ClassFile.FieldType)) ∈ kALL := kin_8 (n := 181) ⟨rfl, by decide +kernel⟩
theorem kw_1488 : (Jvm.Cond.code ({ cls := "BonnetValleyModel", name := "laysWay", desc := "(IIJ)I" } : Jvm.MethodName) prog_15_method_101_code (11 : Nat) (Option.some Jvm.ClassFile.FieldType.int)) ∈ kALL := kin_8 (n := 177) ⟨rfl, by decide +kernel⟩
theorem kw_1489 : (Jvm.Cond.code ({ cls := "BonnetValleyModel", name := "back", desc := "(II)I" } : Jvm.MethodName) prog_15_method_102_code (3 : Nat) (Option.some Jvm.ClassFile.FieldType.int)) ∈ kALL := kin_8 (n := 173) ⟨rfl, by decide +kernel⟩
theorem kw_1490 : (Jvm.Cond.code ({ cls := "BonnetValleyModel", name := "open", desc := "(II)I" } : Jvm.MethodName) prog_15_method_103_code (8 : Nat) (Option.some Jvm.ClassFile.FieldType.int)) ∈ kALL := kin_8 (n := 185) ⟨rfl, by decide +kernel⟩
theorem kw_1491 : (Jvm.Cond.code ({ cls := "BonnetValleyModel", name := "heard", desc := "(II)I" } : Jvm.MethodName) prog_15_method_104_code (3 : Nat) (Option.some Jvm.ClassFile.FieldType.int)) ∈ kALL := kin_8 (n := 189) ⟨rfl, by decide +kernel⟩
theorem kw_1492 : (Jvm.Cond.code ({ cls := "BonnetValleyModel", name := "forget", desc := "()I" } : Jvm.MethodName) prog_15_method_105_code (2 : Nat) (Option.some Jvm.ClassFile.FieldType.int)) ∈ kALL := kin_8 (n := 193) ⟨rfl, by decide +kernel⟩
theorem kw_1493 : (Jvm.Cond.code ({ cls := "BonnetValleyModel", name := "fitting", desc := "()J" } : Jvm.MethodName) prog_15_method_106_code (6 : Nat) (Option.some Jvm.ClassFile.FieldType.long)) ∈ kALL := kin_8 (n := 201) ⟨rfl, by decide +kernel⟩
theorem kw_1494 : (Jvm.Cond.code ({ cls := "BonnetValleyModel", name := "lost", desc := "()J" } : Jvm.MethodName) prog_15_method_107_code (3 : Nat) (Option.some Jvm.ClassFile.FieldType.long)) ∈ kALL := kin_8 (n := 197) ⟨rfl, by decide +kernel⟩
theorem kw_1495 : (Jvm.Cond.code ({ cls := "BonnetValleyModel", name := "asks", desc := "()I" } : Jvm.MethodName) prog_15_method_108_code (8 : Nat) (Option.some Jvm.ClassFile.FieldType.int)) ∈ kALL := kin_8 (n := 205) ⟨rfl, by decide +kernel⟩
theorem kw_1496 : (Jvm.Cond.code ({ cls := "BonnetValleyModel", name := "storm", desc := "(III)I" } : Jvm.MethodName) prog_15_method_109_code (10 : Nat) (Option.some Jvm.ClassFile.FieldType.int)) ∈ kALL := kin_8 (n := 209) ⟨rfl, by decide +kernel⟩
theorem kw_1497 : (Jvm.Cond.code ({ cls := "BonnetValleyModel", name := "cock", desc := "(II)I" } : Jvm.MethodName) prog_15_method_110_code (7 : Nat) (Option.some Jvm.ClassFile.FieldType.int)) ∈ kALL := kin_8 (n := 218) ⟨rfl, by decide +kernel⟩
theorem kw_1498 : (Jvm.Cond.code ({ cls := "BonnetValleyModel", name := "law", desc := "()I" } : Jvm.MethodName) prog_15_method_111_code (5 : Nat) (Option.some Jvm.ClassFile.FieldType.int)) ∈ kALL := kin_8 (n := 223) ⟨rfl, by decide +kernel⟩
theorem kw_1499 : (Jvm.Cond.code ({ cls := "BonnetValleyModel", name := "gets", desc := "(III)I" } : Jvm.MethodName) prog_15_method_112_code (3 : Nat) (Option.some Jvm.ClassFile.FieldType.int)) ∈ kALL := kin_8 (n := 234) ⟨rfl, by decide +kernel⟩
theorem kw_1500 : (Jvm.Cond.code ({ cls := "BonnetValleyModel", name := "isRest", desc := "(III)Z" } : Jvm.MethodName) prog_15_method_113_code (5 : Nat) (Option.some Jvm.ClassFile.FieldType.boolean)) ∈ kALL := kin_8 (n := 231) ⟨rfl, by decide +kernel⟩
theorem kw_1501 : (Jvm.Cond.code ({ cls := "BonnetValleyModel", name := "rests", desc := "(I)I" } : Jvm.MethodName) prog_15_method_114_code (5 : Nat) (Option.some Jvm.ClassFile.FieldType.int)) ∈ kALL := kin_8 (n := 227) ⟨rfl, by decide +kernel⟩
theorem kw_1502 : (Jvm.Cond.code ({ cls := "BonnetValleyModel", name := "draws", desc := "(I)I" } : Jvm.MethodName) prog_15_method_115_code (2 : Nat) (Option.some Jvm.ClassFile.FieldType.int)) ∈ kALL := kin_9 (n := 2) ⟨rfl, by decide +kernel⟩
theorem kw_1503 : (Jvm.Cond.code ({ cls := "BonnetValleyModel", name := "years", desc := "(II)I" } : Jvm.MethodName) prog_15_method_116_code (7 : Nat) (Option.some Jvm.ClassFile.FieldType.int)) ∈ kALL := kin_8 (n := 238) ⟨rfl, by decide +kernel⟩
theorem kw_1504 : (Jvm.Cond.code ({ cls := "BonnetValleyModel", name := "keep", desc := "(I)Z" } : Jvm.MethodName) prog_15_method_117_code (3 : Nat) (Option.some Jvm.ClassFile.FieldType.boolean)) ∈ kALL := kin_9 (n := 7) ⟨rfl, by decide +kernel⟩
theorem kw_1505 : (Jvm.Cond.code ({ cls := "BonnetValleyModel", name := "again", desc := "(I)Z" } : Jvm.MethodName) prog_15_method_118_code (3 : Nat) (Option.some Jvm.ClassFile.FieldType.boolean)) ∈ kALL := kin_9 (n := 11) ⟨rfl, by decide +kernel⟩
theorem kw_1506 : (Jvm.Cond.code ({ cls := "BonnetValleyModel", name := "count", desc := "(I)I" } : Jvm.MethodName) prog_15_method_119_code (2 : Nat) (Option.some Jvm.ClassFile.FieldType.int)) ∈ kALL := kin_9 (n := 15) ⟨rfl, by decide +kernel⟩
theorem kw_1507 : (Jvm.Cond.code ({ cls := "BonnetValleyModel", name := "row", desc := "(I)J" } : Jvm.MethodName) prog_15_method_120_code (2 : Nat) (Option.some Jvm.ClassFile.FieldType.long)) ∈ kALL := kin_9 (n := 19) ⟨rfl, by decide +kernel⟩
theorem kw_1508 : (Jvm.Cond.code ({ cls := "java/lang/Character", name := "isValidCodePoint", desc := "(I)Z" } : Jvm.MethodName) prog_18_method_11_code (2 : Nat) (Option.some Jvm.ClassFile.FieldType.boolean)) ∈ kALL := kin_1 (n := 201) ⟨rfl, by decide +kernel⟩
theorem kw_1509 : (Jvm.Cond.initialized "java/lang/Character") ∈ kALL := kin_1 (n := 12) ⟨rfl, by decide +kernel⟩
theorem kw_1510 : (Jvm.Cond.code ({ cls := "java/lang/Character", name := "highSurrogate", desc := "(I)C" } : Jvm.MethodName) prog_18_method_28_code (1 : Nat) (Option.some Jvm.ClassFile.FieldType.char)) ∈ kALL := kin_1 (n := 204) ⟨rfl, by decide +kernel⟩
theorem kw_1511 : (Jvm.Cond.code ({ cls := "java/lang/Character", name := "lowSurrogate", desc := "(I)C" } : Jvm.MethodName) prog_18_method_29_code (1 : Nat) (Option.some Jvm.ClassFile.FieldType.char)) ∈ kALL := kin_1 (n := 208) ⟨rfl, by decide +kernel⟩
theorem kw_1512 : (Jvm.Cond.code ({ cls := "java/lang/Integer", name := "bitCount", desc := "(I)I" } : Jvm.MethodName) prog_21_method_49_code (1 : Nat) (Option.some Jvm.ClassFile.FieldType.int)) ∈ kALL := kin_3 (n := 206) ⟨rfl, by decide +kernel⟩
theorem kw_1513 : (Jvm.Cond.initialized "java/lang/Integer") ∈ kALL := kin_1 (n := 25) ⟨rfl, by decide +kernel⟩
theorem kw_1514 : (Jvm.Cond.code ({ cls := "java/lang/Integer", name := "signum", desc := "(I)I" } : Jvm.MethodName) prog_21_method_56_code (1 : Nat) (Option.some Jvm.ClassFile.FieldType.int)) ∈ kALL := kin_7 (n := 174) ⟨rfl, by decide +kernel⟩
theorem kw_1515 : (Jvm.Cond.code ({ cls := "java/lang/Long", name := "bitCount", desc := "(J)I" } : Jvm.MethodName) prog_22_method_50_code (2 : Nat) (Option.some Jvm.ClassFile.FieldType.int)) ∈ kALL := kin_4 (n := 184) ⟨rfl, by decide +kernel⟩
theorem kw_1516 : (Jvm.Cond.initialized "java/lang/Long") ∈ kALL := kin_1 (n := 28) ⟨rfl, by decide +kernel⟩
theorem kw_1517 : (Jvm.Cond.code ({ cls := "java/lang/String", name := "length", desc := "()I" } : Jvm.MethodName) prog_25_method_54_code (1 : Nat) (Option.some Jvm.ClassFile.FieldType.int)) ∈ kALL := kin_1 (n := 141) ⟨rfl, by decide +kernel⟩
theorem kw_1518 : (Jvm.Cond.initialized "java/lang/String") ∈ kALL := kin_1 (n := 7) ⟨rfl, by decide +kernel⟩
theorem kw_1519 : (Jvm.Cond.code ({ cls := "java/lang/String", name := "charAt", desc := "(I)C" } : Jvm.MethodName) prog_25_method_56_code (2 : Nat) (Option.some Jvm.ClassFile.FieldType.char)) ∈ kALL := kin_7 (n := 21) ⟨rfl, by decide +kernel⟩
theorem kw_1520 : (Jvm.Cond.code ({ cls := "java/lang/String", name := "indexOf", desc := "(I)I" } : Jvm.MethodName) prog_25_method_79_code (2 : Nat) (Option.some Jvm.ClassFile.FieldType.int)) ∈ kALL := kin_1 (n := 127) ⟨rfl, by decide +kernel⟩
theorem kw_1521 : (Jvm.Cond.code ({ cls := "java/lang/String", name := "indexOf", desc := "(II)I" } : Jvm.MethodName) prog_25_method_80_code (3 : Nat) (Option.some Jvm.ClassFile.FieldType.int)) ∈ kALL := kin_1 (n := 131) ⟨rfl, by decide +kernel⟩
theorem kw_1522 : (Jvm.Cond.code ({ cls := "java/lang/String", name := "coder", desc := "()B" } : Jvm.MethodName) prog_25_method_152_code (1 : Nat) (Option.some Jvm.ClassFile.FieldType.byte)) ∈ kALL := kin_1 (n := 145) ⟨rfl, by decide +kernel⟩
theorem kw_1523 : (Jvm.Cond.code ({ cls := "java/lang/String", name := "isLatin1", desc := "()Z" } : Jvm.MethodName) prog_25_method_154_code (1 : Nat) (Option.some Jvm.ClassFile.FieldType.boolean)) ∈ kALL := kin_1 (n := 135) ⟨rfl, by decide +kernel⟩
theorem kw_1524 : (Jvm.Cond.code ({ cls := "java/lang/String", name := "checkIndex", desc := "(II)V" } : Jvm.MethodName) prog_25_method_155_code (2 : Nat) (Option.none : Option Jvm.ClassFile.FieldType)) ∈ kALL := kin_7 (n := 27) ⟨rfl, by decide +kernel⟩
theorem kw_1525 : (Jvm.Cond.code ({ cls := "java/lang/String", name := "checkBoundsBeginEnd", desc := "(III)V" } : Jvm.MethodName) prog_25_method_158_code (3 : Nat) (Option.none : Option Jvm.ClassFile.FieldType)) ∈ kALL := kin_1 (n := 178) ⟨rfl, by decide +kernel⟩
theorem kw_1526 : (Jvm.Cond.code ({ cls := "java/lang/StringLatin1", name := "charAt", desc := "([BI)C" } : Jvm.MethodName) prog_26_method_2_code (2 : Nat) (Option.some Jvm.ClassFile.FieldType.char)) ∈ kALL := kin_7 (n := 24) ⟨rfl, by decide +kernel⟩
theorem kw_1527 : (Jvm.Cond.initialized "java/lang/StringLatin1") ∈ kALL := kin_1 (n := 8) ⟨rfl, by decide +kernel⟩
theorem kw_1528 : (Jvm.Cond.code ({ cls := "java/lang/StringLatin1", name := "canEncode", desc := "(I)Z" } : Jvm.MethodName) prog_26_method_4_code (1 : Nat) (Option.some Jvm.ClassFile.FieldType.boolean)) ∈ kALL := kin_1 (n := 151) ⟨rfl, by decide +kernel⟩
theorem kw_1529 : (Jvm.Cond.code ({ cls := "java/lang/StringLatin1", name := "indexOf", desc := "([BIII)I" } : Jvm.MethodName) prog_26_method_22_code (4 : Nat) (Option.some Jvm.ClassFile.FieldType.int)) ∈ kALL := kin_1 (n := 148) ⟨rfl, by decide +kernel⟩
theorem kw_1530 : (Jvm.Cond.code ({ cls := "java/lang/StringLatin1", name := "indexOfChar", desc := "([BIII)I" } : Jvm.MethodName) prog_26_method_23_code (6 : Nat) (Option.some Jvm.ClassFile.FieldType.int)) ∈ kALL := kin_1 (n := 160) ⟨rfl, by decide +kernel⟩
theorem kw_1531 : (Jvm.Cond.code ({ cls := "java/lang/StringUTF16", name := "getChar", desc := "([BI)C" } : Jvm.MethodName) prog_27_method_5_code (2 : Nat) (Option.some Jvm.ClassFile.FieldType.char)) ∈ kALL := kin_1 (n := 189) ⟨rfl, by decide +kernel⟩
theorem kw_1532 : (Jvm.Cond.initialized "java/lang/StringUTF16") ∈ kALL := kin_1 (n := 10) ⟨rfl, by decide +kernel⟩
theorem kw_1533 : (Jvm.Cond.code ({ cls := "java/lang/StringUTF16", name := "length", desc := "([B)I" } : Jvm.MethodName) prog_27_method_6_code (1 : Nat) (Option.some Jvm.ClassFile.FieldType.int)) ∈ kALL := kin_1 (n := 175) ⟨rfl, by decide +kernel⟩
theorem kw_1534 : (Jvm.Cond.code ({ cls := "java/lang/StringUTF16", name := "indexOf", desc := "([BIII)I" } : Jvm.MethodName) prog_27_method_40_code (4 : Nat) (Option.some Jvm.ClassFile.FieldType.int)) ∈ kALL := kin_1 (n := 163) ⟨rfl, by decide +kernel⟩
theorem kw_1535 : (Jvm.Cond.code ({ cls := "java/lang/StringUTF16", name := "indexOfChar", desc := "([BIII)I" } : Jvm.MethodName) prog_27_method_47_code (4 : Nat) (Option.some Jvm.ClassFile.FieldType.int)) ∈ kALL := kin_1 (n := 169) ⟨rfl, by decide +kernel⟩
theorem kw_1536 : (Jvm.Cond.code ({ cls := "java/lang/StringUTF16", name := "indexOfCharUnsafe", desc := "([BIII)I" } : Jvm.MethodName) prog_27_method_48_code (5 : Nat) (Option.some Jvm.ClassFile.FieldType.int)) ∈ kALL := kin_1 (n := 186) ⟨rfl, by decide +kernel⟩
theorem kw_1537 : (Jvm.Cond.code ({ cls := "java/lang/StringUTF16", name := "indexOfSupplementary", desc := "([BIII)I" } : Jvm.MethodName) prog_27_method_49_code (7 : Nat) (Option.some Jvm.ClassFile.FieldType.int)) ∈ kALL := kin_1 (n := 198) ⟨rfl, by decide +kernel⟩
theorem kw_1538 : (Jvm.Cond.code ({ cls := "java/lang/StringUTF16", name := "charAt", desc := "([BI)C" } : Jvm.MethodName) prog_27_method_83_code (2 : Nat) (Option.some Jvm.ClassFile.FieldType.char)) ∈ kALL := kin_7 (n := 33) ⟨rfl, by decide +kernel⟩
theorem kw_1539 : (Jvm.Cond.code ({ cls := "java/lang/StringUTF16", name := "checkIndex", desc := "(I[B)V" } : Jvm.MethodName) prog_27_method_91_code (2 : Nat) (Option.none : Option Jvm.ClassFile.FieldType)) ∈ kALL := kin_7 (n := 36) ⟨rfl, by decide +kernel⟩
theorem kw_1540 : (Jvm.Cond.code ({ cls := "java/lang/StringUTF16", name := "checkBoundsBeginEnd", desc := "(II[B)V" } : Jvm.MethodName) prog_27_method_93_code (3 : Nat) (Option.none : Option Jvm.ClassFile.FieldType)) ∈ kALL := kin_1 (n := 172) ⟨rfl, by decide +kernel⟩
theorem kw_1541 : (Jvm.Cond.code ({ cls := "java/util/Arrays", name := "fill", desc := "([JJ)V" } : Jvm.MethodName) prog_32_method_101_code (5 : Nat) (Option.none : Option Jvm.ClassFile.FieldType)) ∈ kALL := kin_5 (n := 135) ⟨rfl, by decide +kernel⟩
theorem kw_1542 : (Jvm.Cond.initialized "java/util/Arrays") ∈ kALL := kin_1 (n := 26) ⟨rfl, by decide +kernel⟩
theorem kw_1543 : (Jvm.Cond.code ({ cls := "java/util/Arrays", name := "fill", desc := "([II)V" } : Jvm.MethodName) prog_32_method_103_code (4 : Nat) (Option.none : Option Jvm.ClassFile.FieldType)) ∈ kALL := kin_3 (n := 167) ⟨rfl, by decide +kernel⟩
theorem kw_1544 : (Jvm.Cond.code ({ cls := "jdk/internal/util/Preconditions", name := "checkIndex", desc := "(IILjava/util/function/BiFunction;)I" } : Jvm.MethodName) prog_34_method_11_code (3 : Nat) (Option.some Jvm.ClassFile.FieldType.int)) ∈ kALL := kin_7 (n := 30) ⟨rfl, by decide +kernel⟩
theorem kw_1545 : (Jvm.Cond.initialized "jdk/internal/util/Preconditions") ∈ kALL := kin_1 (n := 11) ⟨rfl, by decide +kernel⟩
theorem kw_1546 : (Jvm.Cond.code ({ cls := "jdk/internal/util/Preconditions", name := "checkFromToIndex", desc := "(IIILjava/util/function/BiFunction;)I" } : Jvm.MethodName) prog_34_method_12_code (4 : Nat) (Option.some Jvm.ClassFile.FieldType.int)) ∈ kALL := kin_1 (n := 183) ⟨rfl, by decide +kernel⟩
theorem kw_1547 : (Jvm.Cond.code ({ cls := "BonnetValleyModel", name := "thrown", desc := "()I" } : Jvm.MethodName) prog_15_method_1_code (1 : Nat) (Option.some Jvm.ClassFile.FieldType.int)) ∈ kALL := kin_6 (n := 73) ⟨rfl, by decide +kernel⟩
theorem kw_1548 : (Jvm.Cond.laysFinal "BonnetValley$Formula" "BonnetValley$Formula" "code" "[I") ∈ kALL := kin_1 (n := 223) ⟨rfl, by decide +kernel⟩
theorem kw_1549 : (Jvm.Cond.lays "BonnetValley$Formula" "BonnetValley$Formula" "size" "I") ∈ kALL := kin_1 (n := 225) ⟨rfl, by decide +kernel⟩
theorem kw_1550 : (Jvm.Cond.laysFinal "BonnetValley$Formula" "BonnetValley$Formula" "waiting" "[I") ∈ kALL := kin_1 (n := 227) ⟨rfl, by decide +kernel⟩
theorem kw_1551 : (Jvm.Cond.lays "BonnetValley$Formula" "BonnetValley$Formula" "waits" "I") ∈ kALL := kin_1 (n := 229) ⟨rfl, by decide +kernel⟩
theorem kw_1552 : (Jvm.Cond.laysFinal "BonnetValley$Formula" "BonnetValley$Formula" "compared" "[Z") ∈ kALL := kin_1 (n := 231) ⟨rfl, by decide +kernel⟩
theorem kw_1553 : (Jvm.Cond.lays "BonnetValley$Formula" "BonnetValley$Formula" "depth" "I") ∈ kALL := kin_1 (n := 233) ⟨rfl, by decide +kernel⟩
theorem kw_1554 : (Jvm.Cond.lays "BonnetValley$Formula" "BonnetValley$Formula" "digits" "I") ∈ kALL := kin_1 (n := 235) ⟨rfl, by decide +kernel⟩
theorem kw_1555 : (Jvm.Cond.lays "BonnetValley$Formula" "BonnetValley$Formula" "wantsThing" "Z") ∈ kALL := kin_1 (n := 237) ⟨rfl, by decide +kernel⟩
theorem kw_1556 : (Jvm.Cond.laysFinal "BonnetValley$Formula" "BonnetValley$Formula" "stack" "[I") ∈ kALL := kin_1 (n := 239) ⟨rfl, by decide +kernel⟩
theorem kw_1557 : (Jvm.Cond.instantiable "BonnetValley$Formula" (9 : Nat)) ∈ kALL := kin_1 (n := 110) ⟨rfl, by decide +kernel⟩
theorem kw_1558 : (Jvm.Cond.laysFinal "BonnetValley$Games" "BonnetValley$Games" "chance" "[J") ∈ kALL := kin_2 (n := 177) ⟨rfl, by decide +kernel⟩
theorem kw_1559 : (Jvm.Cond.lays "BonnetValley$Games" "BonnetValley$Games" "parts" "J") ∈ kALL := kin_2 (n := 179) ⟨rfl, by decide +kernel⟩
theorem kw_1560 : (Jvm.Cond.laysFinal "BonnetValley$Games" "BonnetValley$Games" "wins" "[I") ∈ kALL := kin_2 (n := 181) ⟨rfl, by decide +kernel⟩
theorem kw_1561 : (Jvm.Cond.lays "BonnetValley$Games" "BonnetValley$Games" "drawn" "I") ∈ kALL := kin_2 (n := 183) ⟨rfl, by decide +kernel⟩
theorem kw_1562 : (Jvm.Cond.instantiable "BonnetValley$Games" (4 : Nat)) ∈ kALL := kin_2 (n := 168) ⟨rfl, by decide +kernel⟩
theorem kw_1563 : (Jvm.Cond.laysFinal "BonnetValley$History" "BonnetValley$History" "past" "[LBonnetValley$State;") ∈ kALL := kin_2 (n := 95) ⟨rfl, by decide +kernel⟩
theorem kw_1564 : (Jvm.Cond.lays "BonnetValley$History" "BonnetValley$History" "next" "I") ∈ kALL := kin_2 (n := 97) ⟨rfl, by decide +kernel⟩
theorem kw_1565 : (Jvm.Cond.lays "BonnetValley$History" "BonnetValley$History" "size" "I") ∈ kALL := kin_2 (n := 99) ⟨rfl, by decide +kernel⟩
theorem kw_1566 : (Jvm.Cond.laysFinal "BonnetValley$History" "BonnetValley$History" "shelf" "[LBonnetValley$State;") ∈ kALL := kin_2 (n := 101) ⟨rfl, by decide +kernel⟩
theorem kw_1567 : (Jvm.Cond.lays "BonnetValley$History" "BonnetValley$History" "filled" "I") ∈ kALL := kin_2 (n := 103) ⟨rfl, by decide +kernel⟩
theorem kw_1568 : (Jvm.Cond.instantiable "BonnetValley$History" (5 : Nat)) ∈ kALL := kin_2 (n := 82) ⟨rfl, by decide +kernel⟩
theorem kw_1569 : (Jvm.Cond.lays "BonnetValley$Land" "BonnetValley$Land" "rows" "I") ∈ kALL := kin_1 (n := 84) ⟨rfl, by decide +kernel⟩
theorem kw_1570 : (Jvm.Cond.lays "BonnetValley$Land" "BonnetValley$Land" "columns" "I") ∈ kALL := kin_1 (n := 86) ⟨rfl, by decide +kernel⟩
theorem kw_1571 : (Jvm.Cond.lays "BonnetValley$Land" "BonnetValley$Land" "size" "I") ∈ kALL := kin_1 (n := 88) ⟨rfl, by decide +kernel⟩
theorem kw_1572 : (Jvm.Cond.lays "BonnetValley$Land" "BonnetValley$Land" "rocks" "J") ∈ kALL := kin_1 (n := 90) ⟨rfl, by decide +kernel⟩
theorem kw_1573 : (Jvm.Cond.lays "BonnetValley$Land" "BonnetValley$Land" "surveyed" "J") ∈ kALL := kin_1 (n := 92) ⟨rfl, by decide +kernel⟩
theorem kw_1574 : (Jvm.Cond.laysFinal "BonnetValley$Land" "BonnetValley$Land" "rowOf" "[I") ∈ kALL := kin_1 (n := 94) ⟨rfl, by decide +kernel⟩
theorem kw_1575 : (Jvm.Cond.laysFinal "BonnetValley$Land" "BonnetValley$Land" "columnOf" "[I") ∈ kALL := kin_1 (n := 96) ⟨rfl, by decide +kernel⟩
theorem kw_1576 : (Jvm.Cond.laysFinal "BonnetValley$Land" "BonnetValley$Land" "toward" "[J") ∈ kALL := kin_1 (n := 98) ⟨rfl, by decide +kernel⟩
theorem kw_1577 : (Jvm.Cond.laysFinal "BonnetValley$Land" "BonnetValley$Land" "within" "[J") ∈ kALL := kin_1 (n := 100) ⟨rfl, by decide +kernel⟩
theorem kw_1578 : (Jvm.Cond.instantiable "BonnetValley$Land" (9 : Nat)) ∈ kALL := kin_1 (n := 66) ⟨rfl, by decide +kernel⟩
theorem kw_1579 : (Jvm.Cond.laysFinal "BonnetValley$Lines" "BonnetValley$Lines" "digit" "[I") ∈ kALL := kin_2 (n := 115) ⟨rfl, by decide +kernel⟩
theorem kw_1580 : (Jvm.Cond.laysFinal "BonnetValley$Lines" "BonnetValley$Lines" "bound" "[I") ∈ kALL := kin_2 (n := 117) ⟨rfl, by decide +kernel⟩
theorem kw_1581 : (Jvm.Cond.lays "BonnetValley$Lines" "BonnetValley$Lines" "width" "I") ∈ kALL := kin_2 (n := 119) ⟨rfl, by decide +kernel⟩
theorem kw_1582 : (Jvm.Cond.instantiable "BonnetValley$Lines" (3 : Nat)) ∈ kALL := kin_2 (n := 107) ⟨rfl, by decide +kernel⟩
theorem kw_1583 : (Jvm.Cond.laysFinal "BonnetValley$Numbers" "BonnetValley$Numbers" "number" "[J") ∈ kALL := kin_1 (n := 59) ⟨rfl, by decide +kernel⟩
theorem kw_1584 : (Jvm.Cond.lays "BonnetValley$Numbers" "BonnetValley$Numbers" "size" "I") ∈ kALL := kin_1 (n := 61) ⟨rfl, by decide +kernel⟩
theorem kw_1585 : (Jvm.Cond.instantiable "BonnetValley$Numbers" (2 : Nat)) ∈ kALL := kin_1 (n := 52) ⟨rfl, by decide +kernel⟩
theorem kw_1586 : (Jvm.Cond.laysFinal "BonnetValley$Plan" "BonnetValley$Plan" "kind" "[I") ∈ kALL := kin_2 (n := 131) ⟨rfl, by decide +kernel⟩
theorem kw_1587 : (Jvm.Cond.laysFinal "BonnetValley$Plan" "BonnetValley$Plan" "digit" "[I") ∈ kALL := kin_2 (n := 133) ⟨rfl, by decide +kernel⟩
theorem kw_1588 : (Jvm.Cond.lays "BonnetValley$Plan" "BonnetValley$Plan" "acts" "I") ∈ kALL := kin_2 (n := 135) ⟨rfl, by decide +kernel⟩
theorem kw_1589 : (Jvm.Cond.instantiable "BonnetValley$Plan" (3 : Nat)) ∈ kALL := kin_2 (n := 123) ⟨rfl, by decide +kernel⟩
theorem kw_1590 : (Jvm.Cond.laysFinal "BonnetValley$Route" "BonnetValley$Route" "away" "[I") ∈ kALL := kin_2 (n := 147) ⟨rfl, by decide +kernel⟩
theorem kw_1591 : (Jvm.Cond.laysFinal "BonnetValley$Route" "BonnetValley$Route" "queue" "[I") ∈ kALL := kin_2 (n := 149) ⟨rfl, by decide +kernel⟩
theorem kw_1592 : (Jvm.Cond.laysFinal "BonnetValley$Route" "BonnetValley$Route" "path" "[I") ∈ kALL := kin_2 (n := 151) ⟨rfl, by decide +kernel⟩
theorem kw_1593 : (Jvm.Cond.instantiable "BonnetValley$Route" (3 : Nat)) ∈ kALL := kin_2 (n := 139) ⟨rfl, by decide +kernel⟩
theorem kw_1594 : (Jvm.Cond.laysFinal "BonnetValley$Sight" "BonnetValley$Sight" "land" "LBonnetValley$Land;") ∈ kALL := kin_2 (n := 12) ⟨rfl, by decide +kernel⟩
theorem kw_1595 : (Jvm.Cond.lays "BonnetValley$Sight" "BonnetValley$Sight" "rule" "LBonnetValley$Formula;") ∈ kALL := kin_2 (n := 14) ⟨rfl, by decide +kernel⟩
theorem kw_1596 : (Jvm.Cond.lays "BonnetValley$Sight" "BonnetValley$Sight" "other" "LBonnetValley$Formula;") ∈ kALL := kin_2 (n := 16) ⟨rfl, by decide +kernel⟩
theorem kw_1597 : (Jvm.Cond.laysFinal "BonnetValley$Sight" "BonnetValley$Sight" "light" "[I") ∈ kALL := kin_2 (n := 18) ⟨rfl, by decide +kernel⟩
theorem kw_1598 : (Jvm.Cond.lays "BonnetValley$Sight" "BonnetValley$Sight" "lights" "I") ∈ kALL := kin_2 (n := 20) ⟨rfl, by decide +kernel⟩
theorem kw_1599 : (Jvm.Cond.laysFinal "BonnetValley$Sight" "BonnetValley$Sight" "given" "[I") ∈ kALL := kin_2 (n := 22) ⟨rfl, by decide +kernel⟩
theorem kw_1600 : (Jvm.Cond.laysFinal "BonnetValley$Sight" "BonnetValley$Sight" "view" "[J") ∈ kALL := kin_2 (n := 24) ⟨rfl, by decide +kernel⟩
theorem kw_1601 : (Jvm.Cond.laysFinal "BonnetValley$Sight" "BonnetValley$Sight" "learned" "[I") ∈ kALL := kin_2 (n := 26) ⟨rfl, by decide +kernel⟩
theorem kw_1602 : (Jvm.Cond.instantiable "BonnetValley$Sight" (8 : Nat)) ∈ kALL := kin_1 (n := 104) ⟨rfl, by decide +kernel⟩
theorem kw_1603 : (Jvm.Cond.laysFinal "BonnetValley$Signs" "BonnetValley$Signs" "sign" "[I") ∈ kALL := kin_1 (n := 45) ⟨rfl, by decide +kernel⟩
theorem kw_1604 : (Jvm.Cond.lays "BonnetValley$Signs" "BonnetValley$Signs" "size" "I") ∈ kALL := kin_1 (n := 47) ⟨rfl, by decide +kernel⟩
theorem kw_1605 : (Jvm.Cond.instantiable "BonnetValley$Signs" (2 : Nat)) ∈ kALL := kin_1 (n := 38) ⟨rfl, by decide +kernel⟩
theorem kw_1606 : (Jvm.Cond.lays "BonnetValley$State" "BonnetValley$State" "persons" "I") ∈ kALL := kin_2 (n := 64) ⟨rfl, by decide +kernel⟩
theorem kw_1607 : (Jvm.Cond.lays "BonnetValley$State" "BonnetValley$State" "goods" "I") ∈ kALL := kin_2 (n := 66) ⟨rfl, by decide +kernel⟩
theorem kw_1608 : (Jvm.Cond.lays "BonnetValley$State" "BonnetValley$State" "hour" "I") ∈ kALL := kin_2 (n := 68) ⟨rfl, by decide +kernel⟩
theorem kw_1609 : (Jvm.Cond.laysFinal "BonnetValley$State" "BonnetValley$State" "field" "[I") ∈ kALL := kin_2 (n := 70) ⟨rfl, by decide +kernel⟩
theorem kw_1610 : (Jvm.Cond.laysFinal "BonnetValley$State" "BonnetValley$State" "facing" "[I") ∈ kALL := kin_2 (n := 72) ⟨rfl, by decide +kernel⟩
theorem kw_1611 : (Jvm.Cond.laysFinal "BonnetValley$State" "BonnetValley$State" "brim" "[I") ∈ kALL := kin_2 (n := 74) ⟨rfl, by decide +kernel⟩
theorem kw_1612 : (Jvm.Cond.laysFinal "BonnetValley$State" "BonnetValley$State" "knows" "[I") ∈ kALL := kin_2 (n := 76) ⟨rfl, by decide +kernel⟩
theorem kw_1613 : (Jvm.Cond.laysFinal "BonnetValley$State" "BonnetValley$State" "place" "[I") ∈ kALL := kin_2 (n := 78) ⟨rfl, by decide +kernel⟩
theorem kw_1614 : (Jvm.Cond.instantiable "BonnetValley$State" (8 : Nat)) ∈ kALL := kin_2 (n := 30) ⟨rfl, by decide +kernel⟩
theorem kw_1615 : (Jvm.Cond.laysFinal "BonnetValley$Turning" "BonnetValley$Turning" "seen" "[I") ∈ kALL := kin_2 (n := 162) ⟨rfl, by decide +kernel⟩
theorem kw_1616 : (Jvm.Cond.laysFinal "BonnetValley$Turning" "BonnetValley$Turning" "need" "[I") ∈ kALL := kin_2 (n := 164) ⟨rfl, by decide +kernel⟩
theorem kw_1617 : (Jvm.Cond.instantiable "BonnetValley$Turning" (2 : Nat)) ∈ kALL := kin_2 (n := 155) ⟨rfl, by decide +kernel⟩
theorem kw_1618 : (Jvm.Cond.laysFinal "BonnetValley" "BonnetValley" "text" "LBonnetValley$Signs;") ∈ kALL := kin_2 (n := 202) ⟨rfl, by decide +kernel⟩
theorem kw_1619 : (Jvm.Cond.laysFinal "BonnetValley" "BonnetValley" "told" "LBonnetValley$Numbers;") ∈ kALL := kin_2 (n := 204) ⟨rfl, by decide +kernel⟩
theorem kw_1620 : (Jvm.Cond.laysFinal "BonnetValley" "BonnetValley" "land" "LBonnetValley$Land;") ∈ kALL := kin_2 (n := 206) ⟨rfl, by decide +kernel⟩
theorem kw_1621 : (Jvm.Cond.laysFinal "BonnetValley" "BonnetValley" "sight" "LBonnetValley$Sight;") ∈ kALL := kin_2 (n := 208) ⟨rfl, by decide +kernel⟩
theorem kw_1622 : (Jvm.Cond.laysFinal "BonnetValley" "BonnetValley" "now" "LBonnetValley$State;") ∈ kALL := kin_2 (n := 210) ⟨rfl, by decide +kernel⟩
theorem kw_1623 : (Jvm.Cond.laysFinal "BonnetValley" "BonnetValley" "before" "LBonnetValley$State;") ∈ kALL := kin_2 (n := 212) ⟨rfl, by decide +kernel⟩
theorem kw_1624 : (Jvm.Cond.laysFinal "BonnetValley" "BonnetValley" "trial" "LBonnetValley$State;") ∈ kALL := kin_2 (n := 214) ⟨rfl, by decide +kernel⟩
theorem kw_1625 : (Jvm.Cond.laysFinal "BonnetValley" "BonnetValley" "history" "LBonnetValley$History;") ∈ kALL := kin_2 (n := 216) ⟨rfl, by decide +kernel⟩
theorem kw_1626 : (Jvm.Cond.laysFinal "BonnetValley" "BonnetValley" "lines" "LBonnetValley$Lines;") ∈ kALL := kin_2 (n := 218) ⟨rfl, by decide +kernel⟩
theorem kw_1627 : (Jvm.Cond.laysFinal "BonnetValley" "BonnetValley" "plan" "LBonnetValley$Plan;") ∈ kALL := kin_2 (n := 220) ⟨rfl, by decide +kernel⟩
theorem kw_1628 : (Jvm.Cond.laysFinal "BonnetValley" "BonnetValley" "route" "LBonnetValley$Route;") ∈ kALL := kin_2 (n := 222) ⟨rfl, by decide +kernel⟩
theorem kw_1629 : (Jvm.Cond.laysFinal "BonnetValley" "BonnetValley" "turning" "LBonnetValley$Turning;") ∈ kALL := kin_2 (n := 224) ⟨rfl, by decide +kernel⟩
theorem kw_1630 : (Jvm.Cond.laysFinal "BonnetValley" "BonnetValley" "games" "LBonnetValley$Games;") ∈ kALL := kin_2 (n := 226) ⟨rfl, by decide +kernel⟩
theorem kw_1631 : (Jvm.Cond.lays "BonnetValley" "BonnetValley" "maybe" "J") ∈ kALL := kin_2 (n := 228) ⟨rfl, by decide +kernel⟩
theorem kw_1632 : (Jvm.Cond.lays "BonnetValley" "BonnetValley" "hearings" "I") ∈ kALL := kin_2 (n := 230) ⟨rfl, by decide +kernel⟩
theorem kw_1633 : (Jvm.Cond.instantiable "BonnetValley" (15 : Nat)) ∈ kALL := kin_1 (n := 30) ⟨rfl, by decide +kernel⟩
theorem kw_1634 : (Jvm.Cond.lays "BonnetValleyModel" "BonnetValleyModel" "thrown" "I") ∈ kALL := kin_6 (n := 129) ⟨rfl, by decide +kernel⟩
theorem kw_1635 : (Jvm.Cond.lays "BonnetValleyModel" "BonnetValleyModel" "told" "I") ∈ kALL := kin_6 (n := 131) ⟨rfl, by decide +kernel⟩
theorem kw_1636 : (Jvm.Cond.laysFinal "BonnetValleyModel" "BonnetValleyModel" "row" "[J") ∈ kALL := kin_6 (n := 133) ⟨rfl, by decide +kernel⟩
theorem kw_1637 : (Jvm.Cond.lays "BonnetValleyModel" "BonnetValleyModel" "rows" "I") ∈ kALL := kin_6 (n := 135) ⟨rfl, by decide +kernel⟩
theorem kw_1638 : (Jvm.Cond.lays "BonnetValleyModel" "BonnetValleyModel" "columns" "I") ∈ kALL := kin_6 (n := 137) ⟨rfl, by decide +kernel⟩
theorem kw_1639 : (Jvm.Cond.lays "BonnetValleyModel" "BonnetValleyModel" "people" "I") ∈ kALL := kin_6 (n := 139) ⟨rfl, by decide +kernel⟩
theorem kw_1640 : (Jvm.Cond.lays "BonnetValleyModel" "BonnetValleyModel" "things" "I") ∈ kALL := kin_6 (n := 141) ⟨rfl, by decide +kernel⟩
theorem kw_1641 : (Jvm.Cond.lays "BonnetValleyModel" "BonnetValleyModel" "changes" "I") ∈ kALL := kin_6 (n := 143) ⟨rfl, by decide +kernel⟩
theorem kw_1642 : (Jvm.Cond.lays "BonnetValleyModel" "BonnetValleyModel" "skyLong" "I") ∈ kALL := kin_6 (n := 145) ⟨rfl, by decide +kernel⟩
theorem kw_1643 : (Jvm.Cond.laysFinal "BonnetValleyModel" "BonnetValleyModel" "isRock" "[Z") ∈ kALL := kin_6 (n := 147) ⟨rfl, by decide +kernel⟩
theorem kw_1644 : (Jvm.Cond.laysFinal "BonnetValleyModel" "BonnetValleyModel" "sky" "[I") ∈ kALL := kin_6 (n := 149) ⟨rfl, by decide +kernel⟩
theorem kw_1645 : (Jvm.Cond.laysFinal "BonnetValleyModel" "BonnetValleyModel" "now" "[I") ∈ kALL := kin_6 (n := 151) ⟨rfl, by decide +kernel⟩
theorem kw_1646 : (Jvm.Cond.laysFinal "BonnetValleyModel" "BonnetValleyModel" "then" "[I") ∈ kALL := kin_6 (n := 153) ⟨rfl, by decide +kernel⟩
theorem kw_1647 : (Jvm.Cond.laysFinal "BonnetValleyModel" "BonnetValleyModel" "tape" "[I") ∈ kALL := kin_6 (n := 155) ⟨rfl, by decide +kernel⟩
theorem kw_1648 : (Jvm.Cond.lays "BonnetValleyModel" "BonnetValleyModel" "taped" "I") ∈ kALL := kin_6 (n := 157) ⟨rfl, by decide +kernel⟩
theorem kw_1649 : (Jvm.Cond.lays "BonnetValleyModel" "BonnetValleyModel" "at" "I") ∈ kALL := kin_6 (n := 159) ⟨rfl, by decide +kernel⟩
theorem kw_1650 : (Jvm.Cond.lays "BonnetValleyModel" "BonnetValleyModel" "to" "I") ∈ kALL := kin_6 (n := 161) ⟨rfl, by decide +kernel⟩
theorem kw_1651 : (Jvm.Cond.lays "BonnetValleyModel" "BonnetValleyModel" "nest" "I") ∈ kALL := kin_6 (n := 163) ⟨rfl, by decide +kernel⟩
theorem kw_1652 : (Jvm.Cond.laysFinal "BonnetValleyModel" "BonnetValleyModel" "readRock" "[Z") ∈ kALL := kin_6 (n := 165) ⟨rfl, by decide +kernel⟩
theorem kw_1653 : (Jvm.Cond.laysFinal "BonnetValleyModel" "BonnetValleyModel" "read" "[I") ∈ kALL := kin_6 (n := 167) ⟨rfl, by decide +kernel⟩
theorem kw_1654 : (Jvm.Cond.lays "BonnetValleyModel" "BonnetValleyModel" "readMany" "I") ∈ kALL := kin_6 (n := 169) ⟨rfl, by decide +kernel⟩
theorem kw_1655 : (Jvm.Cond.laysFinal "BonnetValleyModel" "BonnetValleyModel" "code" "[I") ∈ kALL := kin_6 (n := 171) ⟨rfl, by decide +kernel⟩
theorem kw_1656 : (Jvm.Cond.laysFinal "BonnetValleyModel" "BonnetValleyModel" "readCode" "[I") ∈ kALL := kin_6 (n := 173) ⟨rfl, by decide +kernel⟩
theorem kw_1657 : (Jvm.Cond.lays "BonnetValleyModel" "BonnetValleyModel" "codeLong" "I") ∈ kALL := kin_6 (n := 175) ⟨rfl, by decide +kernel⟩
theorem kw_1658 : (Jvm.Cond.lays "BonnetValleyModel" "BonnetValleyModel" "codesRead" "I") ∈ kALL := kin_6 (n := 177) ⟨rfl, by decide +kernel⟩
theorem kw_1659 : (Jvm.Cond.laysFinal "BonnetValleyModel" "BonnetValleyModel" "stack" "[I") ∈ kALL := kin_6 (n := 179) ⟨rfl, by decide +kernel⟩
theorem kw_1660 : (Jvm.Cond.laysFinal "BonnetValleyModel" "BonnetValleyModel" "asked" "[I") ∈ kALL := kin_6 (n := 181) ⟨rfl, by decide +kernel⟩
theorem kw_1661 : (Jvm.Cond.lays "BonnetValleyModel" "BonnetValleyModel" "undos" "I") ∈ kALL := kin_6 (n := 183) ⟨rfl, by decide +kernel⟩
theorem kw_1662 : (Jvm.Cond.laysFinal "BonnetValleyModel" "BonnetValleyModel" "undone" "[I") ∈ kALL := kin_6 (n := 185) ⟨rfl, by decide +kernel⟩
theorem kw_1663 : (Jvm.Cond.laysFinal "BonnetValleyModel" "BonnetValleyModel" "learnt" "[I") ∈ kALL := kin_6 (n := 187) ⟨rfl, by decide +kernel⟩
theorem kw_1664 : (Jvm.Cond.laysFinal "BonnetValleyModel" "BonnetValleyModel" "actSign" "[I") ∈ kALL := kin_6 (n := 189) ⟨rfl, by decide +kernel⟩
theorem kw_1665 : (Jvm.Cond.laysFinal "BonnetValleyModel" "BonnetValleyModel" "actOne" "[I") ∈ kALL := kin_6 (n := 191) ⟨rfl, by decide +kernel⟩
theorem kw_1666 : (Jvm.Cond.laysFinal "BonnetValleyModel" "BonnetValleyModel" "actTwo" "[I") ∈ kALL := kin_6 (n := 193) ⟨rfl, by decide +kernel⟩
theorem kw_1667 : (Jvm.Cond.laysFinal "BonnetValleyModel" "BonnetValleyModel" "actThree" "[I") ∈ kALL := kin_6 (n := 195) ⟨rfl, by decide +kernel⟩
theorem kw_1668 : (Jvm.Cond.lays "BonnetValleyModel" "BonnetValleyModel" "acts" "I") ∈ kALL := kin_6 (n := 197) ⟨rfl, by decide +kernel⟩
theorem kw_1669 : (Jvm.Cond.laysFinal "BonnetValleyModel" "BonnetValleyModel" "view" "[J") ∈ kALL := kin_6 (n := 199) ⟨rfl, by decide +kernel⟩
theorem kw_1670 : (Jvm.Cond.laysFinal "BonnetValleyModel" "BonnetValleyModel" "shown" "[I") ∈ kALL := kin_6 (n := 201) ⟨rfl, by decide +kernel⟩
theorem kw_1671 : (Jvm.Cond.laysFinal "BonnetValleyModel" "BonnetValleyModel" "few" "[I") ∈ kALL := kin_6 (n := 203) ⟨rfl, by decide +kernel⟩
theorem kw_1672 : (Jvm.Cond.laysFinal "BonnetValleyModel" "BonnetValleyModel" "far" "[I") ∈ kALL := kin_6 (n := 205) ⟨rfl, by decide +kernel⟩
theorem kw_1673 : (Jvm.Cond.lays "BonnetValleyModel" "BonnetValleyModel" "heardMany" "I") ∈ kALL := kin_6 (n := 207) ⟨rfl, by decide +kernel⟩
theorem kw_1674 : (Jvm.Cond.laysFinal "BonnetValleyModel" "BonnetValleyModel" "heardOf" "[I") ∈ kALL := kin_6 (n := 209) ⟨rfl, by decide +kernel⟩
theorem kw_1675 : (Jvm.Cond.laysFinal "BonnetValleyModel" "BonnetValleyModel" "heardIs" "[I") ∈ kALL := kin_6 (n := 211) ⟨rfl, by decide +kernel⟩
theorem kw_1676 : (Jvm.Cond.laysFinal "BonnetValleyModel" "BonnetValleyModel" "storms" "[J") ∈ kALL := kin_6 (n := 213) ⟨rfl, by decide +kernel⟩
theorem kw_1677 : (Jvm.Cond.laysFinal "BonnetValleyModel" "BonnetValleyModel" "winning" "[I") ∈ kALL := kin_6 (n := 215) ⟨rfl, by decide +kernel⟩
theorem kw_1678 : (Jvm.Cond.laysFinal "BonnetValleyModel" "BonnetValleyModel" "wasCode" "[I") ∈ kALL := kin_6 (n := 217) ⟨rfl, by decide +kernel⟩
theorem kw_1679 : (Jvm.Cond.lays "BonnetValleyModel" "BonnetValleyModel" "random" "I") ∈ kALL := kin_6 (n := 219) ⟨rfl, by decide +kernel⟩
theorem kw_1680 : (Jvm.Cond.laysFinal "BonnetValleyModel" "BonnetValleyModel" "isKept" "[Z") ∈ kALL := kin_6 (n := 221) ⟨rfl, by decide +kernel⟩
theorem kw_1681 : (Jvm.Cond.laysFinal "BonnetValleyModel" "BonnetValleyModel" "keptChanges" "[I") ∈ kALL := kin_6 (n := 223) ⟨rfl, by decide +kernel⟩
theorem kw_1682 : (Jvm.Cond.laysFinal "BonnetValleyModel" "BonnetValleyModel" "kept" "[I") ∈ kALL := kin_6 (n := 225) ⟨rfl, by decide +kernel⟩
theorem kw_1683 : (Jvm.Cond.instantiable "BonnetValleyModel" (49 : Nat)) ∈ kALL := kin_6 (n := 75) ⟨rfl, by decide +kernel⟩
theorem kw_1684 : (Jvm.Cond.instanceMethod ({ cls := "java/lang/Object", name := "<init>", desc := "()V" } : Jvm.MethodName)) ∈ kALL := kin_1 (n := 35) ⟨rfl, by decide +kernel⟩
theorem kw_1685 : (Jvm.Cond.code ({ cls := "java/lang/Object", name := "<init>", desc := "()V" } : Jvm.MethodName) object_method_1_code (1 : Nat) (Option.none : Option Jvm.ClassFile.FieldType)) ∈ kALL := kin_1 (n := 36) ⟨rfl, by decide +kernel⟩
theorem kw_1686 : (Jvm.Cond.native ({ cls := "java/lang/System", name := "arraycopy", desc := "(Ljava/lang/Object;ILjava/lang/Object;II)V" } : Jvm.MethodName)) ∈ kALL := kin_3 (n := 187) ⟨rfl, by decide +kernel⟩
theorem kw_1687 : (Jvm.Cond.static ({ cls := "java/lang/System", name := "arraycopy", desc := "(Ljava/lang/Object;ILjava/lang/Object;II)V" } : Jvm.MethodName)) ∈ kALL := kin_3 (n := 186) ⟨rfl, by decide +kernel⟩
theorem kw_1688 : (Jvm.Cond.initialized "java/lang/System") ∈ kALL := kin_1 (n := 27) ⟨rfl, by decide +kernel⟩
theorem kw_1689 : (Jvm.Cond.arrayClass Jvm.ClassFile.FieldType.int) ∈ kALL := kin_1 (n := 50) ⟨rfl, by decide +kernel⟩
theorem kw_1690 : (Jvm.Cond.arrayClass Jvm.ClassFile.FieldType.boolean) ∈ kALL := kin_2 (n := 2) ⟨rfl, by decide +kernel⟩
theorem kw_1691 : (Jvm.Cond.arrayClass Jvm.ClassFile.FieldType.long) ∈ kALL := kin_1 (n := 64) ⟨rfl, by decide +kernel⟩
theorem kw_1692 : (Jvm.Cond.initialized "java/lang/Math") ∈ kALL := kin_1 (n := 9) ⟨rfl, by decide +kernel⟩
theorem kw_1693 : (Jvm.Cond.static ({ cls := "java/lang/Math", name := "max", desc := "(II)I" } : Jvm.MethodName)) ∈ kALL := kin_1 (n := 153) ⟨rfl, by decide +kernel⟩
theorem kw_1694 : (Jvm.Cond.static ({ cls := "java/lang/Math", name := "min", desc := "(II)I" } : Jvm.MethodName)) ∈ kALL := kin_1 (n := 156) ⟨rfl, by decide +kernel⟩
theorem kw_1695 : (Jvm.Cond.static ({ cls := "java/lang/Math", name := "abs", desc := "(I)I" } : Jvm.MethodName)) ∈ kALL := kin_4 (n := 4) ⟨rfl, by decide +kernel⟩
theorem kw_1696 : (Jvm.Cond.code ({ cls := "java/lang/Math", name := "max", desc := "(II)I" } : Jvm.MethodName) prog_23_method_65_code (2 : Nat) (Option.some Jvm.ClassFile.FieldType.int)) ∈ kALL := kin_1 (n := 154) ⟨rfl, by decide +kernel⟩
theorem kw_1697 : (Jvm.Cond.code ({ cls := "java/lang/Math", name := "min", desc := "(II)I" } : Jvm.MethodName) prog_23_method_69_code (2 : Nat) (Option.some Jvm.ClassFile.FieldType.int)) ∈ kALL := kin_1 (n := 157) ⟨rfl, by decide +kernel⟩
theorem kw_1698 : (Jvm.Cond.code ({ cls := "java/lang/Math", name := "abs", desc := "(I)I" } : Jvm.MethodName) prog_23_method_59_code (1 : Nat) (Option.some Jvm.ClassFile.FieldType.int)) ∈ kALL := kin_4 (n := 5) ⟨rfl, by decide +kernel⟩

/-! The links -/
abbrev kLp (own : String) (q : Nat × pm_L) : Prop := pm_lk kK kM kcl kALL knws kzs krs kaos krof own q.1 q.2.1 q.2.2.1 q.2.2.2.1 q.2.2.2.2
theorem kPn_0 : (parseMethodDescriptor (kM 0).1.desc).map (fun d => d.parameters.length) = some 0 := by decide +kernel
theorem kPn_1 : (parseMethodDescriptor (kM 1).1.desc).map (fun d => d.parameters.length) = some 1 := by decide +kernel
theorem kPn_2 : (parseMethodDescriptor (kM 2).1.desc).map (fun d => d.parameters.length) = some 0 := by decide +kernel
theorem kPn_3 : (parseMethodDescriptor (kM 3).1.desc).map (fun d => d.parameters.length) = some 0 := by decide +kernel
theorem kPn_4 : (parseMethodDescriptor (kM 4).1.desc).map (fun d => d.parameters.length) = some 1 := by decide +kernel
theorem kPn_5 : (parseMethodDescriptor (kM 5).1.desc).map (fun d => d.parameters.length) = some 1 := by decide +kernel
theorem kPn_6 : (parseMethodDescriptor (kM 6).1.desc).map (fun d => d.parameters.length) = some 1 := by decide +kernel
theorem kPn_7 : (parseMethodDescriptor (kM 7).1.desc).map (fun d => d.parameters.length) = some 1 := by decide +kernel
theorem kPn_8 : (parseMethodDescriptor (kM 8).1.desc).map (fun d => d.parameters.length) = some 0 := by decide +kernel
theorem kPn_9 : (parseMethodDescriptor (kM 9).1.desc).map (fun d => d.parameters.length) = some 1 := by decide +kernel
theorem kPn_10 : (parseMethodDescriptor (kM 10).1.desc).map (fun d => d.parameters.length) = some 1 := by decide +kernel
theorem kPn_11 : (parseMethodDescriptor (kM 11).1.desc).map (fun d => d.parameters.length) = some 1 := by decide +kernel
theorem kPn_12 : (parseMethodDescriptor (kM 12).1.desc).map (fun d => d.parameters.length) = some 1 := by decide +kernel
theorem kPn_13 : (parseMethodDescriptor (kM 13).1.desc).map (fun d => d.parameters.length) = some 1 := by decide +kernel
theorem kPn_14 : (parseMethodDescriptor (kM 14).1.desc).map (fun d => d.parameters.length) = some 3 := by decide +kernel
theorem kPn_15 : (parseMethodDescriptor (kM 15).1.desc).map (fun d => d.parameters.length) = some 0 := by decide +kernel
theorem kPn_16 : (parseMethodDescriptor (kM 16).1.desc).map (fun d => d.parameters.length) = some 0 := by decide +kernel
theorem kPn_17 : (parseMethodDescriptor (kM 17).1.desc).map (fun d => d.parameters.length) = some 1 := by decide +kernel
theorem kPn_18 : (parseMethodDescriptor (kM 18).1.desc).map (fun d => d.parameters.length) = some 2 := by decide +kernel
theorem kPn_19 : (parseMethodDescriptor (kM 19).1.desc).map (fun d => d.parameters.length) = some 2 := by decide +kernel
theorem kPn_20 : (parseMethodDescriptor (kM 20).1.desc).map (fun d => d.parameters.length) = some 2 := by decide +kernel
theorem kPn_21 : (parseMethodDescriptor (kM 21).1.desc).map (fun d => d.parameters.length) = some 2 := by decide +kernel
theorem kPn_22 : (parseMethodDescriptor (kM 22).1.desc).map (fun d => d.parameters.length) = some 3 := by decide +kernel
theorem kPn_23 : (parseMethodDescriptor (kM 23).1.desc).map (fun d => d.parameters.length) = some 3 := by decide +kernel
theorem kPn_24 : (parseMethodDescriptor (kM 24).1.desc).map (fun d => d.parameters.length) = some 1 := by decide +kernel
theorem kPn_25 : (parseMethodDescriptor (kM 25).1.desc).map (fun d => d.parameters.length) = some 1 := by decide +kernel
theorem kPn_26 : (parseMethodDescriptor (kM 26).1.desc).map (fun d => d.parameters.length) = some 0 := by decide +kernel
theorem kPn_27 : (parseMethodDescriptor (kM 27).1.desc).map (fun d => d.parameters.length) = some 0 := by decide +kernel
theorem kPn_28 : (parseMethodDescriptor (kM 28).1.desc).map (fun d => d.parameters.length) = some 1 := by decide +kernel
theorem kPn_29 : (parseMethodDescriptor (kM 29).1.desc).map (fun d => d.parameters.length) = some 1 := by decide +kernel
theorem kPn_30 : (parseMethodDescriptor (kM 30).1.desc).map (fun d => d.parameters.length) = some 0 := by decide +kernel
theorem kPn_31 : (parseMethodDescriptor (kM 31).1.desc).map (fun d => d.parameters.length) = some 2 := by decide +kernel
theorem kPn_32 : (parseMethodDescriptor (kM 32).1.desc).map (fun d => d.parameters.length) = some 2 := by decide +kernel
theorem kPn_33 : (parseMethodDescriptor (kM 33).1.desc).map (fun d => d.parameters.length) = some 0 := by decide +kernel
theorem kPn_34 : (parseMethodDescriptor (kM 34).1.desc).map (fun d => d.parameters.length) = some 1 := by decide +kernel
theorem kPn_35 : (parseMethodDescriptor (kM 35).1.desc).map (fun d => d.parameters.length) = some 2 := by decide +kernel
theorem kPn_36 : (parseMethodDescriptor (kM 36).1.desc).map (fun d => d.parameters.length) = some 3 := by decide +kernel
theorem kPn_37 : (parseMethodDescriptor (kM 37).1.desc).map (fun d => d.parameters.length) = some 0 := by decide +kernel
theorem kPn_38 : (parseMethodDescriptor (kM 38).1.desc).map (fun d => d.parameters.length) = some 0 := by decide +kernel
theorem kPn_39 : (parseMethodDescriptor (kM 39).1.desc).map (fun d => d.parameters.length) = some 0 := by decide +kernel
theorem kPn_40 : (parseMethodDescriptor (kM 40).1.desc).map (fun d => d.parameters.length) = some 1 := by decide +kernel
theorem kPn_41 : (parseMethodDescriptor (kM 41).1.desc).map (fun d => d.parameters.length) = some 0 := by decide +kernel
theorem kPn_42 : (parseMethodDescriptor (kM 42).1.desc).map (fun d => d.parameters.length) = some 1 := by decide +kernel
theorem kPn_43 : (parseMethodDescriptor (kM 43).1.desc).map (fun d => d.parameters.length) = some 1 := by decide +kernel
theorem kPn_44 : (parseMethodDescriptor (kM 44).1.desc).map (fun d => d.parameters.length) = some 2 := by decide +kernel
theorem kPn_45 : (parseMethodDescriptor (kM 45).1.desc).map (fun d => d.parameters.length) = some 1 := by decide +kernel
theorem kPn_46 : (parseMethodDescriptor (kM 46).1.desc).map (fun d => d.parameters.length) = some 2 := by decide +kernel
theorem kPn_47 : (parseMethodDescriptor (kM 47).1.desc).map (fun d => d.parameters.length) = some 2 := by decide +kernel
theorem kPn_48 : (parseMethodDescriptor (kM 48).1.desc).map (fun d => d.parameters.length) = some 4 := by decide +kernel
theorem kPn_49 : (parseMethodDescriptor (kM 49).1.desc).map (fun d => d.parameters.length) = some 1 := by decide +kernel
theorem kPn_50 : (parseMethodDescriptor (kM 50).1.desc).map (fun d => d.parameters.length) = some 3 := by decide +kernel
theorem kPn_51 : (parseMethodDescriptor (kM 51).1.desc).map (fun d => d.parameters.length) = some 2 := by decide +kernel
theorem kPn_52 : (parseMethodDescriptor (kM 52).1.desc).map (fun d => d.parameters.length) = some 0 := by decide +kernel
theorem kPn_53 : (parseMethodDescriptor (kM 53).1.desc).map (fun d => d.parameters.length) = some 2 := by decide +kernel
theorem kPn_54 : (parseMethodDescriptor (kM 54).1.desc).map (fun d => d.parameters.length) = some 4 := by decide +kernel
theorem kPn_55 : (parseMethodDescriptor (kM 55).1.desc).map (fun d => d.parameters.length) = some 4 := by decide +kernel
theorem kPn_56 : (parseMethodDescriptor (kM 56).1.desc).map (fun d => d.parameters.length) = some 0 := by decide +kernel
theorem kPn_57 : (parseMethodDescriptor (kM 57).1.desc).map (fun d => d.parameters.length) = some 0 := by decide +kernel
theorem kPn_58 : (parseMethodDescriptor (kM 58).1.desc).map (fun d => d.parameters.length) = some 1 := by decide +kernel
theorem kPn_59 : (parseMethodDescriptor (kM 59).1.desc).map (fun d => d.parameters.length) = some 0 := by decide +kernel
theorem kPn_60 : (parseMethodDescriptor (kM 60).1.desc).map (fun d => d.parameters.length) = some 1 := by decide +kernel
theorem kPn_61 : (parseMethodDescriptor (kM 61).1.desc).map (fun d => d.parameters.length) = some 0 := by decide +kernel
theorem kPn_62 : (parseMethodDescriptor (kM 62).1.desc).map (fun d => d.parameters.length) = some 0 := by decide +kernel
theorem kPn_63 : (parseMethodDescriptor (kM 63).1.desc).map (fun d => d.parameters.length) = some 1 := by decide +kernel
theorem kPn_64 : (parseMethodDescriptor (kM 64).1.desc).map (fun d => d.parameters.length) = some 2 := by decide +kernel
theorem kPn_65 : (parseMethodDescriptor (kM 65).1.desc).map (fun d => d.parameters.length) = some 1 := by decide +kernel
theorem kPn_66 : (parseMethodDescriptor (kM 66).1.desc).map (fun d => d.parameters.length) = some 1 := by decide +kernel
theorem kPn_67 : (parseMethodDescriptor (kM 67).1.desc).map (fun d => d.parameters.length) = some 1 := by decide +kernel
theorem kPn_68 : (parseMethodDescriptor (kM 68).1.desc).map (fun d => d.parameters.length) = some 2 := by decide +kernel
theorem kPn_69 : (parseMethodDescriptor (kM 69).1.desc).map (fun d => d.parameters.length) = some 0 := by decide +kernel
theorem kPn_70 : (parseMethodDescriptor (kM 70).1.desc).map (fun d => d.parameters.length) = some 1 := by decide +kernel
theorem kPn_71 : (parseMethodDescriptor (kM 71).1.desc).map (fun d => d.parameters.length) = some 4 := by decide +kernel
theorem kPn_72 : (parseMethodDescriptor (kM 72).1.desc).map (fun d => d.parameters.length) = some 3 := by decide +kernel
theorem kPn_73 : (parseMethodDescriptor (kM 73).1.desc).map (fun d => d.parameters.length) = some 3 := by decide +kernel
theorem kPn_74 : (parseMethodDescriptor (kM 74).1.desc).map (fun d => d.parameters.length) = some 1 := by decide +kernel
theorem kPn_75 : (parseMethodDescriptor (kM 75).1.desc).map (fun d => d.parameters.length) = some 1 := by decide +kernel
theorem kPn_76 : (parseMethodDescriptor (kM 76).1.desc).map (fun d => d.parameters.length) = some 1 := by decide +kernel
theorem kPn_77 : (parseMethodDescriptor (kM 77).1.desc).map (fun d => d.parameters.length) = some 0 := by decide +kernel
theorem kPn_78 : (parseMethodDescriptor (kM 78).1.desc).map (fun d => d.parameters.length) = some 0 := by decide +kernel
theorem kPn_79 : (parseMethodDescriptor (kM 79).1.desc).map (fun d => d.parameters.length) = some 2 := by decide +kernel
theorem kPn_80 : (parseMethodDescriptor (kM 80).1.desc).map (fun d => d.parameters.length) = some 3 := by decide +kernel
theorem kPn_81 : (parseMethodDescriptor (kM 81).1.desc).map (fun d => d.parameters.length) = some 4 := by decide +kernel
theorem kPn_82 : (parseMethodDescriptor (kM 82).1.desc).map (fun d => d.parameters.length) = some 2 := by decide +kernel
theorem kPn_83 : (parseMethodDescriptor (kM 83).1.desc).map (fun d => d.parameters.length) = some 3 := by decide +kernel
theorem kPn_84 : (parseMethodDescriptor (kM 84).1.desc).map (fun d => d.parameters.length) = some 1 := by decide +kernel
theorem kPn_85 : (parseMethodDescriptor (kM 85).1.desc).map (fun d => d.parameters.length) = some 2 := by decide +kernel
theorem kPn_86 : (parseMethodDescriptor (kM 86).1.desc).map (fun d => d.parameters.length) = some 1 := by decide +kernel
theorem kPn_87 : (parseMethodDescriptor (kM 87).1.desc).map (fun d => d.parameters.length) = some 2 := by decide +kernel
theorem kPn_88 : (parseMethodDescriptor (kM 88).1.desc).map (fun d => d.parameters.length) = some 2 := by decide +kernel
theorem kPn_89 : (parseMethodDescriptor (kM 89).1.desc).map (fun d => d.parameters.length) = some 3 := by decide +kernel
theorem kPn_90 : (parseMethodDescriptor (kM 90).1.desc).map (fun d => d.parameters.length) = some 3 := by decide +kernel
theorem kPn_91 : (parseMethodDescriptor (kM 91).1.desc).map (fun d => d.parameters.length) = some 2 := by decide +kernel
theorem kPn_92 : (parseMethodDescriptor (kM 92).1.desc).map (fun d => d.parameters.length) = some 2 := by decide +kernel
theorem kPn_93 : (parseMethodDescriptor (kM 93).1.desc).map (fun d => d.parameters.length) = some 2 := by decide +kernel
theorem kPn_94 : (parseMethodDescriptor (kM 94).1.desc).map (fun d => d.parameters.length) = some 0 := by decide +kernel
theorem kPn_95 : (parseMethodDescriptor (kM 95).1.desc).map (fun d => d.parameters.length) = some 1 := by decide +kernel
theorem kPn_96 : (parseMethodDescriptor (kM 96).1.desc).map (fun d => d.parameters.length) = some 1 := by decide +kernel
theorem kPn_97 : (parseMethodDescriptor (kM 97).1.desc).map (fun d => d.parameters.length) = some 1 := by decide +kernel
theorem kPn_98 : (parseMethodDescriptor (kM 98).1.desc).map (fun d => d.parameters.length) = some 1 := by decide +kernel
theorem kPn_99 : (parseMethodDescriptor (kM 99).1.desc).map (fun d => d.parameters.length) = some 0 := by decide +kernel
theorem kPn_100 : (parseMethodDescriptor (kM 100).1.desc).map (fun d => d.parameters.length) = some 0 := by decide +kernel
theorem kPn_101 : (parseMethodDescriptor (kM 101).1.desc).map (fun d => d.parameters.length) = some 0 := by decide +kernel
theorem kPn_102 : (parseMethodDescriptor (kM 102).1.desc).map (fun d => d.parameters.length) = some 0 := by decide +kernel
theorem kPn_103 : (parseMethodDescriptor (kM 103).1.desc).map (fun d => d.parameters.length) = some 1 := by decide +kernel
theorem kPn_104 : (parseMethodDescriptor (kM 104).1.desc).map (fun d => d.parameters.length) = some 3 := by decide +kernel
theorem kPn_105 : (parseMethodDescriptor (kM 105).1.desc).map (fun d => d.parameters.length) = some 1 := by decide +kernel
theorem kPn_106 : (parseMethodDescriptor (kM 106).1.desc).map (fun d => d.parameters.length) = some 1 := by decide +kernel
theorem kPn_107 : (parseMethodDescriptor (kM 107).1.desc).map (fun d => d.parameters.length) = some 1 := by decide +kernel
theorem kPn_108 : (parseMethodDescriptor (kM 108).1.desc).map (fun d => d.parameters.length) = some 0 := by decide +kernel
theorem kPn_109 : (parseMethodDescriptor (kM 109).1.desc).map (fun d => d.parameters.length) = some 0 := by decide +kernel
theorem kPn_110 : (parseMethodDescriptor (kM 110).1.desc).map (fun d => d.parameters.length) = some 1 := by decide +kernel
theorem kPn_111 : (parseMethodDescriptor (kM 111).1.desc).map (fun d => d.parameters.length) = some 0 := by decide +kernel
theorem kPn_112 : (parseMethodDescriptor (kM 112).1.desc).map (fun d => d.parameters.length) = some 0 := by decide +kernel
theorem kPn_113 : (parseMethodDescriptor (kM 113).1.desc).map (fun d => d.parameters.length) = some 1 := by decide +kernel
theorem kPn_114 : (parseMethodDescriptor (kM 114).1.desc).map (fun d => d.parameters.length) = some 1 := by decide +kernel
theorem kPn_115 : (parseMethodDescriptor (kM 115).1.desc).map (fun d => d.parameters.length) = some 0 := by decide +kernel
theorem kPn_116 : (parseMethodDescriptor (kM 116).1.desc).map (fun d => d.parameters.length) = some 3 := by decide +kernel
theorem kPn_117 : (parseMethodDescriptor (kM 117).1.desc).map (fun d => d.parameters.length) = some 1 := by decide +kernel
theorem kPn_118 : (parseMethodDescriptor (kM 118).1.desc).map (fun d => d.parameters.length) = some 3 := by decide +kernel
theorem kPn_119 : (parseMethodDescriptor (kM 119).1.desc).map (fun d => d.parameters.length) = some 4 := by decide +kernel
theorem kPn_120 : (parseMethodDescriptor (kM 120).1.desc).map (fun d => d.parameters.length) = some 2 := by decide +kernel
theorem kPn_121 : (parseMethodDescriptor (kM 121).1.desc).map (fun d => d.parameters.length) = some 0 := by decide +kernel
theorem kPn_122 : (parseMethodDescriptor (kM 122).1.desc).map (fun d => d.parameters.length) = some 1 := by decide +kernel
theorem kPn_123 : (parseMethodDescriptor (kM 123).1.desc).map (fun d => d.parameters.length) = some 1 := by decide +kernel
theorem kPn_124 : (parseMethodDescriptor (kM 124).1.desc).map (fun d => d.parameters.length) = some 0 := by decide +kernel
theorem kPn_125 : (parseMethodDescriptor (kM 125).1.desc).map (fun d => d.parameters.length) = some 0 := by decide +kernel
theorem kPn_126 : (parseMethodDescriptor (kM 126).1.desc).map (fun d => d.parameters.length) = some 0 := by decide +kernel
theorem kPn_127 : (parseMethodDescriptor (kM 127).1.desc).map (fun d => d.parameters.length) = some 0 := by decide +kernel
theorem kPn_128 : (parseMethodDescriptor (kM 128).1.desc).map (fun d => d.parameters.length) = some 0 := by decide +kernel
theorem kPn_129 : (parseMethodDescriptor (kM 129).1.desc).map (fun d => d.parameters.length) = some 2 := by decide +kernel
theorem kPn_130 : (parseMethodDescriptor (kM 130).1.desc).map (fun d => d.parameters.length) = some 2 := by decide +kernel
theorem kPn_131 : (parseMethodDescriptor (kM 131).1.desc).map (fun d => d.parameters.length) = some 4 := by decide +kernel
theorem kPn_132 : (parseMethodDescriptor (kM 132).1.desc).map (fun d => d.parameters.length) = some 2 := by decide +kernel
theorem kPn_133 : (parseMethodDescriptor (kM 133).1.desc).map (fun d => d.parameters.length) = some 1 := by decide +kernel
theorem kPn_134 : (parseMethodDescriptor (kM 134).1.desc).map (fun d => d.parameters.length) = some 2 := by decide +kernel
theorem kPn_135 : (parseMethodDescriptor (kM 135).1.desc).map (fun d => d.parameters.length) = some 2 := by decide +kernel
theorem kPn_136 : (parseMethodDescriptor (kM 136).1.desc).map (fun d => d.parameters.length) = some 2 := by decide +kernel
theorem kPn_137 : (parseMethodDescriptor (kM 137).1.desc).map (fun d => d.parameters.length) = some 2 := by decide +kernel
theorem kPn_138 : (parseMethodDescriptor (kM 138).1.desc).map (fun d => d.parameters.length) = some 0 := by decide +kernel
theorem kPn_139 : (parseMethodDescriptor (kM 139).1.desc).map (fun d => d.parameters.length) = some 0 := by decide +kernel
theorem kPn_140 : (parseMethodDescriptor (kM 140).1.desc).map (fun d => d.parameters.length) = some 1 := by decide +kernel
theorem kPn_141 : (parseMethodDescriptor (kM 141).1.desc).map (fun d => d.parameters.length) = some 1 := by decide +kernel
theorem kPn_142 : (parseMethodDescriptor (kM 142).1.desc).map (fun d => d.parameters.length) = some 2 := by decide +kernel
theorem kPn_143 : (parseMethodDescriptor (kM 143).1.desc).map (fun d => d.parameters.length) = some 2 := by decide +kernel
theorem kPn_144 : (parseMethodDescriptor (kM 144).1.desc).map (fun d => d.parameters.length) = some 2 := by decide +kernel
theorem kPn_145 : (parseMethodDescriptor (kM 145).1.desc).map (fun d => d.parameters.length) = some 2 := by decide +kernel
theorem kPn_146 : (parseMethodDescriptor (kM 146).1.desc).map (fun d => d.parameters.length) = some 1 := by decide +kernel
theorem kPn_147 : (parseMethodDescriptor (kM 147).1.desc).map (fun d => d.parameters.length) = some 1 := by decide +kernel
theorem kPn_148 : (parseMethodDescriptor (kM 148).1.desc).map (fun d => d.parameters.length) = some 1 := by decide +kernel
theorem kPn_149 : (parseMethodDescriptor (kM 149).1.desc).map (fun d => d.parameters.length) = some 0 := by decide +kernel
theorem kPn_150 : (parseMethodDescriptor (kM 150).1.desc).map (fun d => d.parameters.length) = some 0 := by decide +kernel
theorem kPn_151 : (parseMethodDescriptor (kM 151).1.desc).map (fun d => d.parameters.length) = some 1 := by decide +kernel
theorem kPn_152 : (parseMethodDescriptor (kM 152).1.desc).map (fun d => d.parameters.length) = some 0 := by decide +kernel
theorem kPn_153 : (parseMethodDescriptor (kM 153).1.desc).map (fun d => d.parameters.length) = some 0 := by decide +kernel
theorem kPn_154 : (parseMethodDescriptor (kM 154).1.desc).map (fun d => d.parameters.length) = some 2 := by decide +kernel
theorem kPn_155 : (parseMethodDescriptor (kM 155).1.desc).map (fun d => d.parameters.length) = some 0 := by decide +kernel
theorem kPn_156 : (parseMethodDescriptor (kM 156).1.desc).map (fun d => d.parameters.length) = some 1 := by decide +kernel
theorem kPn_157 : (parseMethodDescriptor (kM 157).1.desc).map (fun d => d.parameters.length) = some 1 := by decide +kernel
theorem kPn_158 : (parseMethodDescriptor (kM 158).1.desc).map (fun d => d.parameters.length) = some 2 := by decide +kernel
theorem kPn_159 : (parseMethodDescriptor (kM 159).1.desc).map (fun d => d.parameters.length) = some 0 := by decide +kernel
theorem kPn_160 : (parseMethodDescriptor (kM 160).1.desc).map (fun d => d.parameters.length) = some 1 := by decide +kernel
theorem kPn_161 : (parseMethodDescriptor (kM 161).1.desc).map (fun d => d.parameters.length) = some 2 := by decide +kernel
theorem kPn_162 : (parseMethodDescriptor (kM 162).1.desc).map (fun d => d.parameters.length) = some 3 := by decide +kernel
theorem kPn_163 : (parseMethodDescriptor (kM 163).1.desc).map (fun d => d.parameters.length) = some 2 := by decide +kernel
theorem kPn_164 : (parseMethodDescriptor (kM 164).1.desc).map (fun d => d.parameters.length) = some 2 := by decide +kernel
theorem kPn_165 : (parseMethodDescriptor (kM 165).1.desc).map (fun d => d.parameters.length) = some 2 := by decide +kernel
theorem kPn_166 : (parseMethodDescriptor (kM 166).1.desc).map (fun d => d.parameters.length) = some 2 := by decide +kernel
theorem kPn_167 : (parseMethodDescriptor (kM 167).1.desc).map (fun d => d.parameters.length) = some 0 := by decide +kernel
theorem kPn_168 : (parseMethodDescriptor (kM 168).1.desc).map (fun d => d.parameters.length) = some 0 := by decide +kernel
theorem kPn_169 : (parseMethodDescriptor (kM 169).1.desc).map (fun d => d.parameters.length) = some 0 := by decide +kernel
theorem kPn_170 : (parseMethodDescriptor (kM 170).1.desc).map (fun d => d.parameters.length) = some 0 := by decide +kernel
theorem kPn_171 : (parseMethodDescriptor (kM 171).1.desc).map (fun d => d.parameters.length) = some 3 := by decide +kernel
theorem kPn_172 : (parseMethodDescriptor (kM 172).1.desc).map (fun d => d.parameters.length) = some 2 := by decide +kernel
theorem kPn_173 : (parseMethodDescriptor (kM 173).1.desc).map (fun d => d.parameters.length) = some 0 := by decide +kernel
theorem kPn_174 : (parseMethodDescriptor (kM 174).1.desc).map (fun d => d.parameters.length) = some 1 := by decide +kernel
theorem kPn_175 : (parseMethodDescriptor (kM 175).1.desc).map (fun d => d.parameters.length) = some 2 := by decide +kernel
theorem kPn_176 : (parseMethodDescriptor (kM 176).1.desc).map (fun d => d.parameters.length) = some 1 := by decide +kernel
theorem kPn_177 : (parseMethodDescriptor (kM 177).1.desc).map (fun d => d.parameters.length) = some 1 := by decide +kernel
theorem kPn_178 : (parseMethodDescriptor (kM 178).1.desc).map (fun d => d.parameters.length) = some 1 := by decide +kernel
theorem kPn_179 : (parseMethodDescriptor (kM 179).1.desc).map (fun d => d.parameters.length) = some 1 := by decide +kernel
theorem kPn_180 : (parseMethodDescriptor (kM 180).1.desc).map (fun d => d.parameters.length) = some 1 := by decide +kernel
theorem kPn_181 : (parseMethodDescriptor (kM 181).1.desc).map (fun d => d.parameters.length) = some 0 := by decide +kernel
theorem kPn_182 : (parseMethodDescriptor (kM 182).1.desc).map (fun d => d.parameters.length) = some 3 := by decide +kernel
theorem kPn_183 : (parseMethodDescriptor (kM 183).1.desc).map (fun d => d.parameters.length) = some 2 := by decide +kernel
theorem kPn_184 : (parseMethodDescriptor (kM 184).1.desc).map (fun d => d.parameters.length) = some 1 := by decide +kernel
theorem kPn_185 : (parseMethodDescriptor (kM 185).1.desc).map (fun d => d.parameters.length) = some 2 := by decide +kernel
theorem kPn_186 : (parseMethodDescriptor (kM 186).1.desc).map (fun d => d.parameters.length) = some 1 := by decide +kernel
theorem kPn_187 : (parseMethodDescriptor (kM 187).1.desc).map (fun d => d.parameters.length) = some 0 := by decide +kernel
theorem kPn_188 : (parseMethodDescriptor (kM 188).1.desc).map (fun d => d.parameters.length) = some 0 := by decide +kernel
theorem kPn_189 : (parseMethodDescriptor (kM 189).1.desc).map (fun d => d.parameters.length) = some 1 := by decide +kernel
theorem kPn_190 : (parseMethodDescriptor (kM 190).1.desc).map (fun d => d.parameters.length) = some 1 := by decide +kernel
theorem kPn_191 : (parseMethodDescriptor (kM 191).1.desc).map (fun d => d.parameters.length) = some 1 := by decide +kernel
theorem kPn_192 : (parseMethodDescriptor (kM 192).1.desc).map (fun d => d.parameters.length) = some 2 := by decide +kernel
theorem kPn_193 : (parseMethodDescriptor (kM 193).1.desc).map (fun d => d.parameters.length) = some 1 := by decide +kernel
theorem kPn_194 : (parseMethodDescriptor (kM 194).1.desc).map (fun d => d.parameters.length) = some 1 := by decide +kernel
theorem kPn_195 : (parseMethodDescriptor (kM 195).1.desc).map (fun d => d.parameters.length) = some 1 := by decide +kernel
theorem kPn_196 : (parseMethodDescriptor (kM 196).1.desc).map (fun d => d.parameters.length) = some 1 := by decide +kernel
theorem kPn_197 : (parseMethodDescriptor (kM 197).1.desc).map (fun d => d.parameters.length) = some 0 := by decide +kernel
theorem kPn_198 : (parseMethodDescriptor (kM 198).1.desc).map (fun d => d.parameters.length) = some 1 := by decide +kernel
theorem kPn_199 : (parseMethodDescriptor (kM 199).1.desc).map (fun d => d.parameters.length) = some 1 := by decide +kernel
theorem kPn_200 : (parseMethodDescriptor (kM 200).1.desc).map (fun d => d.parameters.length) = some 2 := by decide +kernel
theorem kPn_201 : (parseMethodDescriptor (kM 201).1.desc).map (fun d => d.parameters.length) = some 3 := by decide +kernel
theorem kPn_202 : (parseMethodDescriptor (kM 202).1.desc).map (fun d => d.parameters.length) = some 0 := by decide +kernel
theorem kPn_203 : (parseMethodDescriptor (kM 203).1.desc).map (fun d => d.parameters.length) = some 0 := by decide +kernel
theorem kPn_204 : (parseMethodDescriptor (kM 204).1.desc).map (fun d => d.parameters.length) = some 0 := by decide +kernel
theorem kPn_205 : (parseMethodDescriptor (kM 205).1.desc).map (fun d => d.parameters.length) = some 0 := by decide +kernel
theorem kPn_206 : (parseMethodDescriptor (kM 206).1.desc).map (fun d => d.parameters.length) = some 2 := by decide +kernel
theorem kPn_207 : (parseMethodDescriptor (kM 207).1.desc).map (fun d => d.parameters.length) = some 0 := by decide +kernel
theorem kPn_208 : (parseMethodDescriptor (kM 208).1.desc).map (fun d => d.parameters.length) = some 0 := by decide +kernel
theorem kPn_209 : (parseMethodDescriptor (kM 209).1.desc).map (fun d => d.parameters.length) = some 0 := by decide +kernel
theorem kPn_210 : (parseMethodDescriptor (kM 210).1.desc).map (fun d => d.parameters.length) = some 0 := by decide +kernel
theorem kPn_211 : (parseMethodDescriptor (kM 211).1.desc).map (fun d => d.parameters.length) = some 1 := by decide +kernel
theorem kPn_212 : (parseMethodDescriptor (kM 212).1.desc).map (fun d => d.parameters.length) = some 1 := by decide +kernel
theorem kPn_213 : (parseMethodDescriptor (kM 213).1.desc).map (fun d => d.parameters.length) = some 0 := by decide +kernel
theorem kPn_214 : (parseMethodDescriptor (kM 214).1.desc).map (fun d => d.parameters.length) = some 1 := by decide +kernel
theorem kPn_215 : (parseMethodDescriptor (kM 215).1.desc).map (fun d => d.parameters.length) = some 0 := by decide +kernel
theorem kPn_216 : (parseMethodDescriptor (kM 216).1.desc).map (fun d => d.parameters.length) = some 2 := by decide +kernel
theorem kPn_217 : (parseMethodDescriptor (kM 217).1.desc).map (fun d => d.parameters.length) = some 0 := by decide +kernel
theorem kPn_218 : (parseMethodDescriptor (kM 218).1.desc).map (fun d => d.parameters.length) = some 3 := by decide +kernel
theorem kPn_219 : (parseMethodDescriptor (kM 219).1.desc).map (fun d => d.parameters.length) = some 0 := by decide +kernel
theorem kPn_220 : (parseMethodDescriptor (kM 220).1.desc).map (fun d => d.parameters.length) = some 3 := by decide +kernel
theorem kPn_221 : (parseMethodDescriptor (kM 221).1.desc).map (fun d => d.parameters.length) = some 2 := by decide +kernel
theorem kPn_222 : (parseMethodDescriptor (kM 222).1.desc).map (fun d => d.parameters.length) = some 2 := by decide +kernel
theorem kPn_223 : (parseMethodDescriptor (kM 223).1.desc).map (fun d => d.parameters.length) = some 2 := by decide +kernel
theorem kPn_224 : (parseMethodDescriptor (kM 224).1.desc).map (fun d => d.parameters.length) = some 5 := by decide +kernel
theorem kPn_225 : (parseMethodDescriptor (kM 225).1.desc).map (fun d => d.parameters.length) = some 3 := by decide +kernel
theorem kPn_226 : (parseMethodDescriptor (kM 226).1.desc).map (fun d => d.parameters.length) = some 2 := by decide +kernel
theorem kPn_227 : (parseMethodDescriptor (kM 227).1.desc).map (fun d => d.parameters.length) = some 1 := by decide +kernel
theorem kPn_228 : (parseMethodDescriptor (kM 228).1.desc).map (fun d => d.parameters.length) = some 2 := by decide +kernel
theorem kPn_229 : (parseMethodDescriptor (kM 229).1.desc).map (fun d => d.parameters.length) = some 2 := by decide +kernel
theorem kPn_230 : (parseMethodDescriptor (kM 230).1.desc).map (fun d => d.parameters.length) = some 2 := by decide +kernel
theorem kPn_231 : (parseMethodDescriptor (kM 231).1.desc).map (fun d => d.parameters.length) = some 3 := by decide +kernel
theorem kPn_232 : (parseMethodDescriptor (kM 232).1.desc).map (fun d => d.parameters.length) = some 3 := by decide +kernel
theorem kPn_233 : (parseMethodDescriptor (kM 233).1.desc).map (fun d => d.parameters.length) = some 2 := by decide +kernel
theorem kPn_234 : (parseMethodDescriptor (kM 234).1.desc).map (fun d => d.parameters.length) = some 1 := by decide +kernel
theorem kPn_235 : (parseMethodDescriptor (kM 235).1.desc).map (fun d => d.parameters.length) = some 2 := by decide +kernel
theorem kPn_236 : (parseMethodDescriptor (kM 236).1.desc).map (fun d => d.parameters.length) = some 2 := by decide +kernel
theorem kPn_237 : (parseMethodDescriptor (kM 237).1.desc).map (fun d => d.parameters.length) = some 4 := by decide +kernel
theorem kPn_238 : (parseMethodDescriptor (kM 238).1.desc).map (fun d => d.parameters.length) = some 0 := by decide +kernel
theorem kPn_239 : (parseMethodDescriptor (kM 239).1.desc).map (fun d => d.parameters.length) = some 1 := by decide +kernel
theorem kPn_240 : (parseMethodDescriptor (kM 240).1.desc).map (fun d => d.parameters.length) = some 1 := by decide +kernel
theorem kPn_241 : (parseMethodDescriptor (kM 241).1.desc).map (fun d => d.parameters.length) = some 0 := by decide +kernel
theorem kPn_242 : (parseMethodDescriptor (kM 242).1.desc).map (fun d => d.parameters.length) = some 1 := by decide +kernel
theorem kPn_243 : (parseMethodDescriptor (kM 243).1.desc).map (fun d => d.parameters.length) = some 2 := by decide +kernel
theorem kPn_244 : (parseMethodDescriptor (kM 244).1.desc).map (fun d => d.parameters.length) = some 3 := by decide +kernel
theorem kPn_245 : (parseMethodDescriptor (kM 245).1.desc).map (fun d => d.parameters.length) = some 3 := by decide +kernel
theorem kPn_246 : (parseMethodDescriptor (kM 246).1.desc).map (fun d => d.parameters.length) = some 2 := by decide +kernel
theorem kPn_247 : (parseMethodDescriptor (kM 247).1.desc).map (fun d => d.parameters.length) = some 2 := by decide +kernel
theorem kPn_248 : (parseMethodDescriptor (kM 248).1.desc).map (fun d => d.parameters.length) = some 1 := by decide +kernel
theorem kPn_249 : (parseMethodDescriptor (kM 249).1.desc).map (fun d => d.parameters.length) = some 2 := by decide +kernel
theorem kPn_250 : (parseMethodDescriptor (kM 250).1.desc).map (fun d => d.parameters.length) = some 2 := by decide +kernel
theorem kPn_251 : (parseMethodDescriptor (kM 251).1.desc).map (fun d => d.parameters.length) = some 2 := by decide +kernel
theorem kPn_252 : (parseMethodDescriptor (kM 252).1.desc).map (fun d => d.parameters.length) = some 2 := by decide +kernel
theorem kPn_253 : (parseMethodDescriptor (kM 253).1.desc).map (fun d => d.parameters.length) = some 0 := by decide +kernel
theorem kPn_254 : (parseMethodDescriptor (kM 254).1.desc).map (fun d => d.parameters.length) = some 1 := by decide +kernel
theorem kPn_255 : (parseMethodDescriptor (kM 255).1.desc).map (fun d => d.parameters.length) = some 0 := by decide +kernel
theorem kPn_256 : (parseMethodDescriptor (kM 256).1.desc).map (fun d => d.parameters.length) = some 0 := by decide +kernel
theorem kPn_257 : (parseMethodDescriptor (kM 257).1.desc).map (fun d => d.parameters.length) = some 1 := by decide +kernel
theorem kPn_258 : (parseMethodDescriptor (kM 258).1.desc).map (fun d => d.parameters.length) = some 1 := by decide +kernel
theorem kPn_259 : (parseMethodDescriptor (kM 259).1.desc).map (fun d => d.parameters.length) = some 0 := by decide +kernel
theorem kPn_260 : (parseMethodDescriptor (kM 260).1.desc).map (fun d => d.parameters.length) = some 0 := by decide +kernel
theorem kPn_261 : (parseMethodDescriptor (kM 261).1.desc).map (fun d => d.parameters.length) = some 0 := by decide +kernel
theorem kPn_262 : (parseMethodDescriptor (kM 262).1.desc).map (fun d => d.parameters.length) = some 1 := by decide +kernel
theorem kPn_263 : (parseMethodDescriptor (kM 263).1.desc).map (fun d => d.parameters.length) = some 0 := by decide +kernel
theorem kPn_264 : (parseMethodDescriptor (kM 264).1.desc).map (fun d => d.parameters.length) = some 2 := by decide +kernel
theorem kPn_265 : (parseMethodDescriptor (kM 265).1.desc).map (fun d => d.parameters.length) = some 0 := by decide +kernel
theorem kPn_266 : (parseMethodDescriptor (kM 266).1.desc).map (fun d => d.parameters.length) = some 2 := by decide +kernel
theorem kPn_267 : (parseMethodDescriptor (kM 267).1.desc).map (fun d => d.parameters.length) = some 1 := by decide +kernel
theorem kPn_268 : (parseMethodDescriptor (kM 268).1.desc).map (fun d => d.parameters.length) = some 0 := by decide +kernel
theorem kPn_269 : (parseMethodDescriptor (kM 269).1.desc).map (fun d => d.parameters.length) = some 1 := by decide +kernel
theorem kPn_270 : (parseMethodDescriptor (kM 270).1.desc).map (fun d => d.parameters.length) = some 1 := by decide +kernel
theorem kPn_271 : (parseMethodDescriptor (kM 271).1.desc).map (fun d => d.parameters.length) = some 3 := by decide +kernel
theorem kPn_272 : (parseMethodDescriptor (kM 272).1.desc).map (fun d => d.parameters.length) = some 2 := by decide +kernel
theorem kPn_273 : (parseMethodDescriptor (kM 273).1.desc).map (fun d => d.parameters.length) = some 2 := by decide +kernel
theorem kPn_274 : (parseMethodDescriptor (kM 274).1.desc).map (fun d => d.parameters.length) = some 2 := by decide +kernel
theorem kPn_275 : (parseMethodDescriptor (kM 275).1.desc).map (fun d => d.parameters.length) = some 3 := by decide +kernel
theorem kPn_276 : (parseMethodDescriptor (kM 276).1.desc).map (fun d => d.parameters.length) = some 0 := by decide +kernel
theorem kPn_277 : (parseMethodDescriptor (kM 277).1.desc).map (fun d => d.parameters.length) = some 1 := by decide +kernel
theorem kPn_278 : (parseMethodDescriptor (kM 278).1.desc).map (fun d => d.parameters.length) = some 2 := by decide +kernel
theorem kPn_279 : (parseMethodDescriptor (kM 279).1.desc).map (fun d => d.parameters.length) = some 3 := by decide +kernel
theorem kPn_280 : (parseMethodDescriptor (kM 280).1.desc).map (fun d => d.parameters.length) = some 3 := by decide +kernel
theorem kPn_281 : (parseMethodDescriptor (kM 281).1.desc).map (fun d => d.parameters.length) = some 2 := by decide +kernel
theorem kPn_282 : (parseMethodDescriptor (kM 282).1.desc).map (fun d => d.parameters.length) = some 2 := by decide +kernel
theorem kPn_283 : (parseMethodDescriptor (kM 283).1.desc).map (fun d => d.parameters.length) = some 2 := by decide +kernel
theorem kPn_284 : (parseMethodDescriptor (kM 284).1.desc).map (fun d => d.parameters.length) = some 0 := by decide +kernel
theorem kPn_285 : (parseMethodDescriptor (kM 285).1.desc).map (fun d => d.parameters.length) = some 0 := by decide +kernel
theorem kPn_286 : (parseMethodDescriptor (kM 286).1.desc).map (fun d => d.parameters.length) = some 0 := by decide +kernel
theorem kPn_287 : (parseMethodDescriptor (kM 287).1.desc).map (fun d => d.parameters.length) = some 0 := by decide +kernel
theorem kPn_288 : (parseMethodDescriptor (kM 288).1.desc).map (fun d => d.parameters.length) = some 3 := by decide +kernel
theorem kPn_289 : (parseMethodDescriptor (kM 289).1.desc).map (fun d => d.parameters.length) = some 2 := by decide +kernel
theorem kPn_290 : (parseMethodDescriptor (kM 290).1.desc).map (fun d => d.parameters.length) = some 0 := by decide +kernel
theorem kPn_291 : (parseMethodDescriptor (kM 291).1.desc).map (fun d => d.parameters.length) = some 3 := by decide +kernel
theorem kPn_292 : (parseMethodDescriptor (kM 292).1.desc).map (fun d => d.parameters.length) = some 3 := by decide +kernel
theorem kPn_293 : (parseMethodDescriptor (kM 293).1.desc).map (fun d => d.parameters.length) = some 1 := by decide +kernel
theorem kPn_294 : (parseMethodDescriptor (kM 294).1.desc).map (fun d => d.parameters.length) = some 1 := by decide +kernel
theorem kPn_295 : (parseMethodDescriptor (kM 295).1.desc).map (fun d => d.parameters.length) = some 2 := by decide +kernel
theorem kPn_296 : (parseMethodDescriptor (kM 296).1.desc).map (fun d => d.parameters.length) = some 1 := by decide +kernel
theorem kPn_297 : (parseMethodDescriptor (kM 297).1.desc).map (fun d => d.parameters.length) = some 1 := by decide +kernel
theorem kPn_298 : (parseMethodDescriptor (kM 298).1.desc).map (fun d => d.parameters.length) = some 1 := by decide +kernel
theorem kPn_299 : (parseMethodDescriptor (kM 299).1.desc).map (fun d => d.parameters.length) = some 1 := by decide +kernel
theorem kPn_300 : (parseMethodDescriptor (kM 300).1.desc).map (fun d => d.parameters.length) = some 1 := by decide +kernel
theorem kPn_301 : (parseMethodDescriptor (kM 301).1.desc).map (fun d => d.parameters.length) = some 1 := by decide +kernel
theorem kPn_302 : (parseMethodDescriptor (kM 302).1.desc).map (fun d => d.parameters.length) = some 1 := by decide +kernel
theorem kPn_303 : (parseMethodDescriptor (kM 303).1.desc).map (fun d => d.parameters.length) = some 1 := by decide +kernel
theorem kPn_304 : (parseMethodDescriptor (kM 304).1.desc).map (fun d => d.parameters.length) = some 1 := by decide +kernel
theorem kPn_305 : (parseMethodDescriptor (kM 305).1.desc).map (fun d => d.parameters.length) = some 1 := by decide +kernel
theorem kPn_306 : (parseMethodDescriptor (kM 306).1.desc).map (fun d => d.parameters.length) = some 0 := by decide +kernel
theorem kPn_307 : (parseMethodDescriptor (kM 307).1.desc).map (fun d => d.parameters.length) = some 1 := by decide +kernel
theorem kPn_308 : (parseMethodDescriptor (kM 308).1.desc).map (fun d => d.parameters.length) = some 1 := by decide +kernel
theorem kPn_309 : (parseMethodDescriptor (kM 309).1.desc).map (fun d => d.parameters.length) = some 2 := by decide +kernel
theorem kPn_310 : (parseMethodDescriptor (kM 310).1.desc).map (fun d => d.parameters.length) = some 0 := by decide +kernel
theorem kPn_311 : (parseMethodDescriptor (kM 311).1.desc).map (fun d => d.parameters.length) = some 0 := by decide +kernel
theorem kPn_312 : (parseMethodDescriptor (kM 312).1.desc).map (fun d => d.parameters.length) = some 2 := by decide +kernel
theorem kPn_313 : (parseMethodDescriptor (kM 313).1.desc).map (fun d => d.parameters.length) = some 3 := by decide +kernel
theorem kPn_314 : (parseMethodDescriptor (kM 314).1.desc).map (fun d => d.parameters.length) = some 2 := by decide +kernel
theorem kPn_315 : (parseMethodDescriptor (kM 315).1.desc).map (fun d => d.parameters.length) = some 1 := by decide +kernel
theorem kPn_316 : (parseMethodDescriptor (kM 316).1.desc).map (fun d => d.parameters.length) = some 4 := by decide +kernel
theorem kPn_317 : (parseMethodDescriptor (kM 317).1.desc).map (fun d => d.parameters.length) = some 4 := by decide +kernel
theorem kPn_318 : (parseMethodDescriptor (kM 318).1.desc).map (fun d => d.parameters.length) = some 2 := by decide +kernel
theorem kPn_319 : (parseMethodDescriptor (kM 319).1.desc).map (fun d => d.parameters.length) = some 1 := by decide +kernel
theorem kPn_320 : (parseMethodDescriptor (kM 320).1.desc).map (fun d => d.parameters.length) = some 4 := by decide +kernel
theorem kPn_321 : (parseMethodDescriptor (kM 321).1.desc).map (fun d => d.parameters.length) = some 4 := by decide +kernel
theorem kPn_322 : (parseMethodDescriptor (kM 322).1.desc).map (fun d => d.parameters.length) = some 4 := by decide +kernel
theorem kPn_323 : (parseMethodDescriptor (kM 323).1.desc).map (fun d => d.parameters.length) = some 4 := by decide +kernel
theorem kPn_324 : (parseMethodDescriptor (kM 324).1.desc).map (fun d => d.parameters.length) = some 2 := by decide +kernel
theorem kPn_325 : (parseMethodDescriptor (kM 325).1.desc).map (fun d => d.parameters.length) = some 2 := by decide +kernel
theorem kPn_326 : (parseMethodDescriptor (kM 326).1.desc).map (fun d => d.parameters.length) = some 3 := by decide +kernel
theorem kPn_327 : (parseMethodDescriptor (kM 327).1.desc).map (fun d => d.parameters.length) = some 2 := by decide +kernel
theorem kPn_328 : (parseMethodDescriptor (kM 328).1.desc).map (fun d => d.parameters.length) = some 2 := by decide +kernel
theorem kPn_329 : (parseMethodDescriptor (kM 329).1.desc).map (fun d => d.parameters.length) = some 3 := by decide +kernel
theorem kPn_330 : (parseMethodDescriptor (kM 330).1.desc).map (fun d => d.parameters.length) = some 4 := by decide +kernel
theorem kPn_331 : (parseMethodDescriptor (kM 331).1.desc).map (fun d => d.parameters.length) = some 0 := by decide +kernel
theorem kl_0_1 : kLp "BonnetValley$Formula" (1, 4, 0, 0, .null) := pm_lk4 kw_317
theorem kl_0_9 : kLp "BonnetValley$Formula" (9, 6, 0, 0, .null) := pm_lk6 (T := kT_0) (N := 9) rfl (Nat.le_of_ble_eq_true rfl) kw_318
theorem kl_0_13 : kLp "BonnetValley$Formula" (13, 6, 0, 2, .null) := pm_lk6 (T := kT_0) (N := 9) rfl (Nat.le_of_ble_eq_true rfl) kw_319
theorem kLc_0_0 : ∀ q ∈ kLk_0_0, kLp "BonnetValley$Formula" q := List.forall_mem_cons.mpr ⟨kl_0_1, List.forall_mem_cons.mpr ⟨kl_0_9, List.forall_mem_cons.mpr ⟨kl_0_13, fun _ h => absurd h List.not_mem_nil⟩⟩⟩
theorem kl_0_16 : kLp "BonnetValley$Formula" (16, 6, 0, 4, .null) := pm_lk6 (T := kT_0) (N := 9) rfl (Nat.le_of_ble_eq_true rfl) kw_320
theorem kl_0_20 : kLp "BonnetValley$Formula" (20, 6, 0, 8, .null) := pm_lk6 (T := kT_0) (N := 9) rfl (Nat.le_of_ble_eq_true rfl) kw_321
theorem kl_0_23 : kLp "BonnetValley$Formula" (23, 2, 2, 0, .ref 0) := pm_lk2 (ci := 0) (T := kT_0) (N := 9) (Or.inl kw_322) kPn_2 kw_323 kw_324 rfl
theorem kl_0_26 : kLp "BonnetValley$Formula" (26, 2, 3, 0, .ref 0) := pm_lk2 (ci := 0) (T := kT_0) (N := 9) (Or.inl kw_325) kPn_3 kw_326 kw_327 rfl
theorem kl_0_29 : kLp "BonnetValley$Formula" (29, 2, 99, 0, .ref 9) := pm_lk2 (ci := 9) (T := kT_9) (N := 2) (Or.inl kw_328) kPn_99 kw_54 kw_55 rfl
theorem kLc_0_1 : ∀ q ∈ kLk_0_1, kLp "BonnetValley$Formula" q := List.forall_mem_cons.mpr ⟨kl_0_16, List.forall_mem_cons.mpr ⟨kl_0_20, List.forall_mem_cons.mpr ⟨kl_0_23, List.forall_mem_cons.mpr ⟨kl_0_26, List.forall_mem_cons.mpr ⟨kl_0_29, fun _ h => absurd h List.not_mem_nil⟩⟩⟩⟩⟩
theorem kl_0_35 : kLp "BonnetValley$Formula" (35, 2, 97, 1, .ref 9) := pm_lk2 (ci := 9) (T := kT_9) (N := 2) (Or.inl kw_329) kPn_97 kw_330 kw_331 rfl
theorem kl_0_39 : kLp "BonnetValley$Formula" (39, 2, 4, 1, .ref 0) := pm_lk2 (ci := 0) (T := kT_0) (N := 9) (Or.inl kw_332) kPn_4 kw_333 kw_334 rfl
theorem kl_0_43 : kLp "BonnetValley$Formula" (43, 6, 0, 7, .null) := pm_lk6 (T := kT_0) (N := 9) rfl (Nat.le_of_ble_eq_true rfl) kw_335
theorem kl_0_47 : kLp "BonnetValley$Formula" (47, 6, 0, 5, .null) := pm_lk6 (T := kT_0) (N := 9) rfl (Nat.le_of_ble_eq_true rfl) kw_336
theorem kLc_0_2 : ∀ q ∈ kLk_0_2, kLp "BonnetValley$Formula" q := List.forall_mem_cons.mpr ⟨kl_0_35, List.forall_mem_cons.mpr ⟨kl_0_39, List.forall_mem_cons.mpr ⟨kl_0_43, List.forall_mem_cons.mpr ⟨kl_0_47, fun _ h => absurd h List.not_mem_nil⟩⟩⟩⟩
theorem kl_0_51 : kLp "BonnetValley$Formula" (51, 2, 10, 1, .ref 0) := pm_lk2 (ci := 0) (T := kT_0) (N := 9) (Or.inl kw_337) kPn_10 kw_338 kw_339 rfl
theorem kl_0_55 : kLp "BonnetValley$Formula" (55, 6, 0, 1, .null) := pm_lk6 (T := kT_0) (N := 9) rfl (Nat.le_of_ble_eq_true rfl) kw_340
theorem kl_0_57 : kLp "BonnetValley$Formula" (57, 6, 0, 3, .null) := pm_lk6 (T := kT_0) (N := 9) rfl (Nat.le_of_ble_eq_true rfl) kw_341
theorem kl_0_60 : kLp "BonnetValley$Formula" (60, 6, 0, 6, .null) := pm_lk6 (T := kT_0) (N := 9) rfl (Nat.le_of_ble_eq_true rfl) kw_342
theorem kl_0_63 : kLp "BonnetValley$Formula" (63, 12, 0, 0, .ref 1048626) := pm_lk12 (tx := "blkfrcnp") (by decide +kernel)
theorem kLc_0_3 : ∀ q ∈ kLk_0_3, kLp "BonnetValley$Formula" q := List.forall_mem_cons.mpr ⟨kl_0_51, List.forall_mem_cons.mpr ⟨kl_0_55, List.forall_mem_cons.mpr ⟨kl_0_57, List.forall_mem_cons.mpr ⟨kl_0_60, List.forall_mem_cons.mpr ⟨kl_0_63, fun _ h => absurd h List.not_mem_nil⟩⟩⟩⟩⟩
theorem kl_0_65 : kLp "BonnetValley$Formula" (65, 2, 308, 1, .null) := pm_lk2s (Or.inl kw_343) kPn_308 kw_344 kw_345 rfl
theorem kl_0_70 : kLp "BonnetValley$Formula" (70, 2, 11, 1, .ref 0) := pm_lk2 (ci := 0) (T := kT_0) (N := 9) (Or.inl kw_346) kPn_11 kw_347 kw_348 rfl
theorem kl_0_73 : kLp "BonnetValley$Formula" (73, 2, 5, 1, .ref 0) := pm_lk2 (ci := 0) (T := kT_0) (N := 9) (Or.inl kw_349) kPn_5 kw_350 kw_351 rfl
theorem kl_0_76 : kLp "BonnetValley$Formula" (76, 2, 6, 1, .ref 0) := pm_lk2 (ci := 0) (T := kT_0) (N := 9) (Or.inl kw_352) kPn_6 kw_353 kw_354 rfl
theorem kl_0_79 : kLp "BonnetValley$Formula" (79, 2, 7, 1, .ref 0) := pm_lk2 (ci := 0) (T := kT_0) (N := 9) (Or.inl kw_355) kPn_7 kw_356 kw_357 rfl
theorem kLc_0_4 : ∀ q ∈ kLk_0_4, kLp "BonnetValley$Formula" q := List.forall_mem_cons.mpr ⟨kl_0_65, List.forall_mem_cons.mpr ⟨kl_0_70, List.forall_mem_cons.mpr ⟨kl_0_73, List.forall_mem_cons.mpr ⟨kl_0_76, List.forall_mem_cons.mpr ⟨kl_0_79, fun _ h => absurd h List.not_mem_nil⟩⟩⟩⟩⟩
theorem kl_0_82 : kLp "BonnetValley$Formula" (82, 2, 12, 1, .ref 0) := pm_lk2 (ci := 0) (T := kT_0) (N := 9) (Or.inl kw_358) kPn_12 kw_359 kw_360 rfl
theorem kl_0_85 : kLp "BonnetValley$Formula" (85, 2, 8, 0, .ref 0) := pm_lk2 (ci := 0) (T := kT_0) (N := 9) (Or.inl kw_361) kPn_8 kw_362 kw_363 rfl
theorem kl_0_89 : kLp "BonnetValley$Formula" (89, 1, 9, 1, .null) := pm_lk1 (Or.inl kw_364) kPn_9 kw_365
theorem kl_0_92 : kLp "BonnetValley$Formula" (92, 1, 14, 3, .null) := pm_lk1 (Or.inl kw_366) kPn_14 kw_367
theorem kLc_0_5 : ∀ q ∈ kLk_0_5, kLp "BonnetValley$Formula" q := List.forall_mem_cons.mpr ⟨kl_0_82, List.forall_mem_cons.mpr ⟨kl_0_85, List.forall_mem_cons.mpr ⟨kl_0_89, List.forall_mem_cons.mpr ⟨kl_0_92, fun _ h => absurd h List.not_mem_nil⟩⟩⟩⟩
theorem kLd_0 : ∀ c ∈ kLo_0, ∀ q ∈ c, kLp "BonnetValley$Formula" q := List.forall_mem_cons.mpr ⟨kLc_0_0, List.forall_mem_cons.mpr ⟨kLc_0_1, List.forall_mem_cons.mpr ⟨kLc_0_2, List.forall_mem_cons.mpr ⟨kLc_0_3, List.forall_mem_cons.mpr ⟨kLc_0_4, List.forall_mem_cons.mpr ⟨kLc_0_5, fun _ h => absurd h List.not_mem_nil⟩⟩⟩⟩⟩⟩
theorem kl_1_3 : kLp "BonnetValley$Games" (3, 4, 0, 0, .null) := pm_lk4 kw_368
theorem kl_1_9 : kLp "BonnetValley$Games" (9, 6, 1, 0, .null) := pm_lk6 (T := kT_1) (N := 4) rfl (Nat.le_of_ble_eq_true rfl) kw_369
theorem kl_1_15 : kLp "BonnetValley$Games" (15, 6, 1, 2, .null) := pm_lk6 (T := kT_1) (N := 4) rfl (Nat.le_of_ble_eq_true rfl) kw_370
theorem kLc_1_0 : ∀ q ∈ kLk_1_0, kLp "BonnetValley$Games" q := List.forall_mem_cons.mpr ⟨kl_1_3, List.forall_mem_cons.mpr ⟨kl_1_9, List.forall_mem_cons.mpr ⟨kl_1_15, fun _ h => absurd h List.not_mem_nil⟩⟩⟩
theorem kl_1_19 : kLp "BonnetValley$Games" (19, 6, 1, 1, .null) := pm_lk6 (T := kT_1) (N := 4) rfl (Nat.le_of_ble_eq_true rfl) kw_371
theorem kl_1_23 : kLp "BonnetValley$Games" (23, 6, 1, 3, .null) := pm_lk6 (T := kT_1) (N := 4) rfl (Nat.le_of_ble_eq_true rfl) kw_372
theorem kl_1_27 : kLp "BonnetValley$Games" (27, 1, 327, 2, .null) := pm_lk1 (Or.inl kw_373) kPn_327 kw_374
theorem kLc_1_1 : ∀ q ∈ kLk_1_1, kLp "BonnetValley$Games" q := List.forall_mem_cons.mpr ⟨kl_1_19, List.forall_mem_cons.mpr ⟨kl_1_23, List.forall_mem_cons.mpr ⟨kl_1_27, fun _ h => absurd h List.not_mem_nil⟩⟩⟩
theorem kl_1_33 : kLp "BonnetValley$Games" (33, 11, 0, 0, .long (10)) := pm_lk11 kw_375
theorem kl_1_35 : kLp "BonnetValley$Games" (35, 15, 0, 0, .null) := pm_lk15 kw_376
theorem kl_1_41 : kLp "BonnetValley$Games" (41, 1, 19, 2, .null) := pm_lk1 (Or.inl kw_377) kPn_19 kw_378
theorem kl_1_45 : kLp "BonnetValley$Games" (45, 2, 58, 1, .ref 5) := pm_lk2 (ci := 5) (T := kT_5) (N := 2) (Or.inl kw_379) kPn_58 kw_160 kw_161 rfl
theorem kLc_1_2 : ∀ q ∈ kLk_1_2, kLp "BonnetValley$Games" q := List.forall_mem_cons.mpr ⟨kl_1_33, List.forall_mem_cons.mpr ⟨kl_1_35, List.forall_mem_cons.mpr ⟨kl_1_41, List.forall_mem_cons.mpr ⟨kl_1_45, fun _ h => absurd h List.not_mem_nil⟩⟩⟩⟩
theorem kl_1_51 : kLp "BonnetValley$Games" (51, 1, 22, 3, .null) := pm_lk1 (Or.inl kw_380) kPn_22 kw_381
theorem kl_1_55 : kLp "BonnetValley$Games" (55, 1, 23, 3, .null) := pm_lk1 (Or.inl kw_382) kPn_23 kw_383
theorem kl_1_59 : kLp "BonnetValley$Games" (59, 16, 0, 0, .null) := pm_lk16 kw_384
theorem kl_1_62 : kLp "BonnetValley$Games" (62, 10, 0, 0, .int (1103515245)) := pm_lk10 kw_385
theorem kLc_1_3 : ∀ q ∈ kLk_1_3, kLp "BonnetValley$Games" q := List.forall_mem_cons.mpr ⟨kl_1_51, List.forall_mem_cons.mpr ⟨kl_1_55, List.forall_mem_cons.mpr ⟨kl_1_59, List.forall_mem_cons.mpr ⟨kl_1_62, fun _ h => absurd h List.not_mem_nil⟩⟩⟩⟩
theorem kLd_1 : ∀ c ∈ kLo_1, ∀ q ∈ c, kLp "BonnetValley$Games" q := List.forall_mem_cons.mpr ⟨kLc_1_0, List.forall_mem_cons.mpr ⟨kLc_1_1, List.forall_mem_cons.mpr ⟨kLc_1_2, List.forall_mem_cons.mpr ⟨kLc_1_3, fun _ h => absurd h List.not_mem_nil⟩⟩⟩⟩
theorem kl_2_1 : kLp "BonnetValley$History" (1, 4, 0, 0, .null) := pm_lk4 kw_386
theorem kl_2_9 : kLp "BonnetValley$History" (9, 9, 10, 8, .null) := pm_lk9 (T := kT_10) rfl kw_387
theorem kl_2_11 : kLp "BonnetValley$History" (11, 6, 2, 0, .null) := pm_lk6 (T := kT_2) (N := 5) rfl (Nat.le_of_ble_eq_true rfl) kw_388
theorem kl_2_15 : kLp "BonnetValley$History" (15, 3, 101, 0, .null) := pm_lk3 (Or.inl kw_389) kPn_101 rfl kw_19 rfl
theorem kLc_2_0 : ∀ q ∈ kLk_2_0, kLp "BonnetValley$History" q := List.forall_mem_cons.mpr ⟨kl_2_1, List.forall_mem_cons.mpr ⟨kl_2_9, List.forall_mem_cons.mpr ⟨kl_2_11, List.forall_mem_cons.mpr ⟨kl_2_15, fun _ h => absurd h List.not_mem_nil⟩⟩⟩⟩
theorem kl_2_16 : kLp "BonnetValley$History" (16, 6, 2, 3, .null) := pm_lk6 (T := kT_2) (N := 5) rfl (Nat.le_of_ble_eq_true rfl) kw_390
theorem kl_2_19 : kLp "BonnetValley$History" (19, 6, 2, 4, .null) := pm_lk6 (T := kT_2) (N := 5) rfl (Nat.le_of_ble_eq_true rfl) kw_391
theorem kl_2_23 : kLp "BonnetValley$History" (23, 6, 2, 1, .null) := pm_lk6 (T := kT_2) (N := 5) rfl (Nat.le_of_ble_eq_true rfl) kw_392
theorem kl_2_26 : kLp "BonnetValley$History" (26, 6, 2, 2, .null) := pm_lk6 (T := kT_2) (N := 5) rfl (Nat.le_of_ble_eq_true rfl) kw_393
theorem kl_2_29 : kLp "BonnetValley$History" (29, 2, 103, 1, .ref 10) := pm_lk2 (ci := 10) (T := kT_10) (N := 8) (Or.inl kw_394) kPn_103 kw_145 kw_146 rfl
theorem kLc_2_1 : ∀ q ∈ kLk_2_1, kLp "BonnetValley$History" q := List.forall_mem_cons.mpr ⟨kl_2_16, List.forall_mem_cons.mpr ⟨kl_2_19, List.forall_mem_cons.mpr ⟨kl_2_23, List.forall_mem_cons.mpr ⟨kl_2_26, List.forall_mem_cons.mpr ⟨kl_2_29, fun _ h => absurd h List.not_mem_nil⟩⟩⟩⟩⟩
theorem kl_2_33 : kLp "BonnetValley$History" (33, 16, 0, 0, .null) := pm_lk16 kw_395
theorem kLc_2_2 : ∀ q ∈ kLk_2_2, kLp "BonnetValley$History" q := List.forall_mem_cons.mpr ⟨kl_2_33, fun _ h => absurd h List.not_mem_nil⟩
theorem kLd_2 : ∀ c ∈ kLo_2, ∀ q ∈ c, kLp "BonnetValley$History" q := List.forall_mem_cons.mpr ⟨kLc_2_0, List.forall_mem_cons.mpr ⟨kLc_2_1, List.forall_mem_cons.mpr ⟨kLc_2_2, fun _ h => absurd h List.not_mem_nil⟩⟩⟩
theorem kl_3_3 : kLp "BonnetValley$Land" (3, 4, 0, 0, .null) := pm_lk4 kw_396
theorem kl_3_9 : kLp "BonnetValley$Land" (9, 6, 3, 5, .null) := pm_lk6 (T := kT_3) (N := 9) rfl (Nat.le_of_ble_eq_true rfl) kw_397
theorem kl_3_15 : kLp "BonnetValley$Land" (15, 6, 3, 6, .null) := pm_lk6 (T := kT_3) (N := 9) rfl (Nat.le_of_ble_eq_true rfl) kw_398
theorem kLc_3_0 : ∀ q ∈ kLk_3_0, kLp "BonnetValley$Land" q := List.forall_mem_cons.mpr ⟨kl_3_3, List.forall_mem_cons.mpr ⟨kl_3_9, List.forall_mem_cons.mpr ⟨kl_3_15, fun _ h => absurd h List.not_mem_nil⟩⟩⟩
theorem kl_3_18 : kLp "BonnetValley$Land" (18, 6, 3, 7, .null) := pm_lk6 (T := kT_3) (N := 9) rfl (Nat.le_of_ble_eq_true rfl) kw_399
theorem kl_3_22 : kLp "BonnetValley$Land" (22, 6, 3, 8, .null) := pm_lk6 (T := kT_3) (N := 9) rfl (Nat.le_of_ble_eq_true rfl) kw_400
theorem kl_3_25 : kLp "BonnetValley$Land" (25, 2, 36, 3, .ref 3) := pm_lk2 (ci := 3) (T := kT_3) (N := 9) (Or.inl kw_401) kPn_36 kw_402 kw_403 rfl
theorem kl_3_29 : kLp "BonnetValley$Land" (29, 1, 35, 2, .null) := pm_lk1 (Or.inl kw_404) kPn_35 kw_405
theorem kLc_3_1 : ∀ q ∈ kLk_3_1, kLp "BonnetValley$Land" q := List.forall_mem_cons.mpr ⟨kl_3_18, List.forall_mem_cons.mpr ⟨kl_3_22, List.forall_mem_cons.mpr ⟨kl_3_25, List.forall_mem_cons.mpr ⟨kl_3_29, fun _ h => absurd h List.not_mem_nil⟩⟩⟩⟩
theorem kl_3_33 : kLp "BonnetValley$Land" (33, 2, 97, 1, .ref 9) := pm_lk2 (ci := 9) (T := kT_9) (N := 2) (Or.inl kw_406) kPn_97 kw_330 kw_331 rfl
theorem kl_3_39 : kLp "BonnetValley$Land" (39, 2, 99, 0, .ref 9) := pm_lk2 (ci := 9) (T := kT_9) (N := 2) (Or.inl kw_407) kPn_99 kw_54 kw_55 rfl
theorem kl_3_43 : kLp "BonnetValley$Land" (43, 2, 98, 1, .ref 9) := pm_lk2 (ci := 9) (T := kT_9) (N := 2) (Or.inl kw_408) kPn_98 kw_409 kw_410 rfl
theorem kl_3_46 : kLp "BonnetValley$Land" (46, 6, 3, 0, .null) := pm_lk6 (T := kT_3) (N := 9) rfl (Nat.le_of_ble_eq_true rfl) kw_411
theorem kLc_3_2 : ∀ q ∈ kLk_3_2, kLp "BonnetValley$Land" q := List.forall_mem_cons.mpr ⟨kl_3_33, List.forall_mem_cons.mpr ⟨kl_3_39, List.forall_mem_cons.mpr ⟨kl_3_43, List.forall_mem_cons.mpr ⟨kl_3_46, fun _ h => absurd h List.not_mem_nil⟩⟩⟩⟩
theorem kl_3_50 : kLp "BonnetValley$Land" (50, 6, 3, 1, .null) := pm_lk6 (T := kT_3) (N := 9) rfl (Nat.le_of_ble_eq_true rfl) kw_412
theorem kl_3_53 : kLp "BonnetValley$Land" (53, 6, 3, 3, .null) := pm_lk6 (T := kT_3) (N := 9) rfl (Nat.le_of_ble_eq_true rfl) kw_413
theorem kl_3_57 : kLp "BonnetValley$Land" (57, 6, 3, 4, .null) := pm_lk6 (T := kT_3) (N := 9) rfl (Nat.le_of_ble_eq_true rfl) kw_414
theorem kl_3_60 : kLp "BonnetValley$Land" (60, 6, 3, 2, .null) := pm_lk6 (T := kT_3) (N := 9) rfl (Nat.le_of_ble_eq_true rfl) kw_415
theorem kl_3_62 : kLp "BonnetValley$Land" (62, 11, 0, 0, .long (-1)) := pm_lk11 kw_416
theorem kLc_3_3 : ∀ q ∈ kLk_3_3, kLp "BonnetValley$Land" q := List.forall_mem_cons.mpr ⟨kl_3_50, List.forall_mem_cons.mpr ⟨kl_3_53, List.forall_mem_cons.mpr ⟨kl_3_57, List.forall_mem_cons.mpr ⟨kl_3_60, List.forall_mem_cons.mpr ⟨kl_3_62, fun _ h => absurd h List.not_mem_nil⟩⟩⟩⟩⟩
theorem kl_3_64 : kLp "BonnetValley$Land" (64, 2, 40, 1, .ref 3) := pm_lk2 (ci := 3) (T := kT_3) (N := 9) (Or.inl kw_417) kPn_40 kw_210 kw_211 rfl
theorem kl_3_68 : kLp "BonnetValley$Land" (68, 1, 163, 2, .null) := pm_lk1 (Or.inr ⟨"BonnetValley", by decide +kernel⟩) kPn_163 kw_244
theorem kl_3_72 : kLp "BonnetValley$Land" (72, 8, 0, 0, .ref 1048576) := pm_lk8 (C := "BonnetValley$Land") (n := "DOWN") (d := "[I") (by decide +kernel) (by decide +kernel) kw_418
theorem kl_3_75 : kLp "BonnetValley$Land" (75, 8, 0, 0, .ref 1048577) := pm_lk8 (C := "BonnetValley$Land") (n := "RIGHT") (d := "[I") (by decide +kernel) (by decide +kernel) kw_419
theorem kl_3_78 : kLp "BonnetValley$Land" (78, 2, 44, 2, .ref 3) := pm_lk2 (ci := 3) (T := kT_3) (N := 9) (Or.inl kw_420) kPn_44 kw_85 kw_86 rfl
theorem kLc_3_4 : ∀ q ∈ kLk_3_4, kLp "BonnetValley$Land" q := List.forall_mem_cons.mpr ⟨kl_3_64, List.forall_mem_cons.mpr ⟨kl_3_68, List.forall_mem_cons.mpr ⟨kl_3_72, List.forall_mem_cons.mpr ⟨kl_3_75, List.forall_mem_cons.mpr ⟨kl_3_78, fun _ h => absurd h List.not_mem_nil⟩⟩⟩⟩⟩
theorem kl_3_82 : kLp "BonnetValley$Land" (82, 2, 45, 1, .ref 3) := pm_lk2 (ci := 3) (T := kT_3) (N := 9) (Or.inl kw_421) kPn_45 kw_422 kw_423 rfl
theorem kl_3_85 : kLp "BonnetValley$Land" (85, 16, 0, 0, .null) := pm_lk16 kw_424
theorem kl_3_90 : kLp "BonnetValley$Land" (90, 2, 49, 1, .ref 3) := pm_lk2 (ci := 3) (T := kT_3) (N := 9) (Or.inl kw_425) kPn_49 kw_426 kw_427 rfl
theorem kl_3_94 : kLp "BonnetValley$Land" (94, 1, 47, 2, .null) := pm_lk1 (Or.inl kw_428) kPn_47 kw_205
theorem kLc_3_5 : ∀ q ∈ kLk_3_5, kLp "BonnetValley$Land" q := List.forall_mem_cons.mpr ⟨kl_3_82, List.forall_mem_cons.mpr ⟨kl_3_85, List.forall_mem_cons.mpr ⟨kl_3_90, List.forall_mem_cons.mpr ⟨kl_3_94, fun _ h => absurd h List.not_mem_nil⟩⟩⟩⟩
theorem kl_3_97 : kLp "BonnetValley$Land" (97, 15, 0, 0, .null) := pm_lk15 kw_429
theorem kl_3_100 : kLp "BonnetValley$Land" (100, 17, 0, 0, .null) := pm_lk17 kw_430
theorem kl_3_103 : kLp "BonnetValley$Land" (103, 2, 50, 3, .ref 3) := pm_lk2 (ci := 3) (T := kT_3) (N := 9) (Or.inl kw_431) kPn_50 kw_432 kw_433 rfl
theorem kl_3_107 : kLp "BonnetValley$Land" (107, 1, 51, 2, .null) := pm_lk1 (Or.inl kw_434) kPn_51 kw_435
theorem kLc_3_6 : ∀ q ∈ kLk_3_6, kLp "BonnetValley$Land" q := List.forall_mem_cons.mpr ⟨kl_3_97, List.forall_mem_cons.mpr ⟨kl_3_100, List.forall_mem_cons.mpr ⟨kl_3_103, List.forall_mem_cons.mpr ⟨kl_3_107, fun _ h => absurd h List.not_mem_nil⟩⟩⟩⟩
theorem kLd_3 : ∀ c ∈ kLo_3, ∀ q ∈ c, kLp "BonnetValley$Land" q := List.forall_mem_cons.mpr ⟨kLc_3_0, List.forall_mem_cons.mpr ⟨kLc_3_1, List.forall_mem_cons.mpr ⟨kLc_3_2, List.forall_mem_cons.mpr ⟨kLc_3_3, List.forall_mem_cons.mpr ⟨kLc_3_4, List.forall_mem_cons.mpr ⟨kLc_3_5, List.forall_mem_cons.mpr ⟨kLc_3_6, fun _ h => absurd h List.not_mem_nil⟩⟩⟩⟩⟩⟩⟩
theorem kl_4_3 : kLp "BonnetValley$Lines" (3, 4, 0, 0, .null) := pm_lk4 kw_436
theorem kl_4_11 : kLp "BonnetValley$Lines" (11, 6, 4, 0, .null) := pm_lk6 (T := kT_4) (N := 3) rfl (Nat.le_of_ble_eq_true rfl) kw_437
theorem kl_4_15 : kLp "BonnetValley$Lines" (15, 6, 4, 1, .null) := pm_lk6 (T := kT_4) (N := 3) rfl (Nat.le_of_ble_eq_true rfl) kw_438
theorem kLc_4_0 : ∀ q ∈ kLk_4_0, kLp "BonnetValley$Lines" q := List.forall_mem_cons.mpr ⟨kl_4_3, List.forall_mem_cons.mpr ⟨kl_4_11, List.forall_mem_cons.mpr ⟨kl_4_15, fun _ h => absurd h List.not_mem_nil⟩⟩⟩
theorem kl_4_18 : kLp "BonnetValley$Lines" (18, 6, 4, 2, .null) := pm_lk6 (T := kT_4) (N := 3) rfl (Nat.le_of_ble_eq_true rfl) kw_439
theorem kl_4_22 : kLp "BonnetValley$Lines" (22, 2, 37, 0, .ref 3) := pm_lk2 (ci := 3) (T := kT_3) (N := 9) (Or.inl kw_440) kPn_37 kw_303 kw_304 rfl
theorem kl_4_28 : kLp "BonnetValley$Lines" (28, 2, 38, 0, .ref 3) := pm_lk2 (ci := 3) (T := kT_3) (N := 9) (Or.inl kw_441) kPn_38 kw_306 kw_307 rfl
theorem kl_4_31 : kLp "BonnetValley$Lines" (31, 2, 99, 0, .ref 9) := pm_lk2 (ci := 9) (T := kT_9) (N := 2) (Or.inl kw_442) kPn_99 kw_54 kw_55 rfl
theorem kLc_4_1 : ∀ q ∈ kLk_4_1, kLp "BonnetValley$Lines" q := List.forall_mem_cons.mpr ⟨kl_4_18, List.forall_mem_cons.mpr ⟨kl_4_22, List.forall_mem_cons.mpr ⟨kl_4_28, List.forall_mem_cons.mpr ⟨kl_4_31, fun _ h => absurd h List.not_mem_nil⟩⟩⟩⟩
theorem kl_4_36 : kLp "BonnetValley$Lines" (36, 2, 98, 1, .ref 9) := pm_lk2 (ci := 9) (T := kT_9) (N := 2) (Or.inl kw_443) kPn_98 kw_409 kw_410 rfl
theorem kl_4_40 : kLp "BonnetValley$Lines" (40, 2, 55, 4, .ref 4) := pm_lk2 (ci := 4) (T := kT_4) (N := 3) (Or.inl kw_444) kPn_55 kw_445 kw_446 rfl
theorem kl_4_44 : kLp "BonnetValley$Lines" (44, 2, 97, 1, .ref 9) := pm_lk2 (ci := 9) (T := kT_9) (N := 2) (Or.inl kw_447) kPn_97 kw_330 kw_331 rfl
theorem kl_4_47 : kLp "BonnetValley$Lines" (47, 2, 44, 2, .ref 3) := pm_lk2 (ci := 3) (T := kT_3) (N := 9) (Or.inl kw_448) kPn_44 kw_85 kw_86 rfl
theorem kLc_4_2 : ∀ q ∈ kLk_4_2, kLp "BonnetValley$Lines" q := List.forall_mem_cons.mpr ⟨kl_4_36, List.forall_mem_cons.mpr ⟨kl_4_40, List.forall_mem_cons.mpr ⟨kl_4_44, List.forall_mem_cons.mpr ⟨kl_4_47, fun _ h => absurd h List.not_mem_nil⟩⟩⟩⟩
theorem kl_4_51 : kLp "BonnetValley$Lines" (51, 2, 45, 1, .ref 3) := pm_lk2 (ci := 3) (T := kT_3) (N := 9) (Or.inl kw_449) kPn_45 kw_422 kw_423 rfl
theorem kLc_4_3 : ∀ q ∈ kLk_4_3, kLp "BonnetValley$Lines" q := List.forall_mem_cons.mpr ⟨kl_4_51, fun _ h => absurd h List.not_mem_nil⟩
theorem kLd_4 : ∀ c ∈ kLo_4, ∀ q ∈ c, kLp "BonnetValley$Lines" q := List.forall_mem_cons.mpr ⟨kLc_4_0, List.forall_mem_cons.mpr ⟨kLc_4_1, List.forall_mem_cons.mpr ⟨kLc_4_2, List.forall_mem_cons.mpr ⟨kLc_4_3, fun _ h => absurd h List.not_mem_nil⟩⟩⟩⟩
theorem kl_5_3 : kLp "BonnetValley$Numbers" (3, 4, 0, 0, .null) := pm_lk4 kw_450
theorem kl_5_11 : kLp "BonnetValley$Numbers" (11, 6, 5, 0, .null) := pm_lk6 (T := kT_5) (N := 2) rfl (Nat.le_of_ble_eq_true rfl) kw_451
theorem kl_5_15 : kLp "BonnetValley$Numbers" (15, 6, 5, 1, .null) := pm_lk6 (T := kT_5) (N := 2) rfl (Nat.le_of_ble_eq_true rfl) kw_452
theorem kLc_5_0 : ∀ q ∈ kLk_5_0, kLp "BonnetValley$Numbers" q := List.forall_mem_cons.mpr ⟨kl_5_3, List.forall_mem_cons.mpr ⟨kl_5_11, List.forall_mem_cons.mpr ⟨kl_5_15, fun _ h => absurd h List.not_mem_nil⟩⟩⟩
theorem kl_5_19 : kLp "BonnetValley$Numbers" (19, 11, 0, 0, .long (-1)) := pm_lk11 kw_453
theorem kLc_5_1 : ∀ q ∈ kLk_5_1, kLp "BonnetValley$Numbers" q := List.forall_mem_cons.mpr ⟨kl_5_19, fun _ h => absurd h List.not_mem_nil⟩
theorem kLd_5 : ∀ c ∈ kLo_5, ∀ q ∈ c, kLp "BonnetValley$Numbers" q := List.forall_mem_cons.mpr ⟨kLc_5_0, List.forall_mem_cons.mpr ⟨kLc_5_1, fun _ h => absurd h List.not_mem_nil⟩⟩
theorem kl_6_3 : kLp "BonnetValley$Plan" (3, 4, 0, 0, .null) := pm_lk4 kw_454
theorem kl_6_11 : kLp "BonnetValley$Plan" (11, 6, 6, 0, .null) := pm_lk6 (T := kT_6) (N := 3) rfl (Nat.le_of_ble_eq_true rfl) kw_455
theorem kl_6_15 : kLp "BonnetValley$Plan" (15, 6, 6, 1, .null) := pm_lk6 (T := kT_6) (N := 3) rfl (Nat.le_of_ble_eq_true rfl) kw_456
theorem kLc_6_0 : ∀ q ∈ kLk_6_0, kLp "BonnetValley$Plan" q := List.forall_mem_cons.mpr ⟨kl_6_3, List.forall_mem_cons.mpr ⟨kl_6_11, List.forall_mem_cons.mpr ⟨kl_6_15, fun _ h => absurd h List.not_mem_nil⟩⟩⟩
theorem kl_6_18 : kLp "BonnetValley$Plan" (18, 6, 6, 2, .null) := pm_lk6 (T := kT_6) (N := 3) rfl (Nat.le_of_ble_eq_true rfl) kw_457
theorem kl_6_22 : kLp "BonnetValley$Plan" (22, 2, 99, 0, .ref 9) := pm_lk2 (ci := 9) (T := kT_9) (N := 2) (Or.inl kw_458) kPn_99 kw_54 kw_55 rfl
theorem kl_6_28 : kLp "BonnetValley$Plan" (28, 2, 98, 1, .ref 9) := pm_lk2 (ci := 9) (T := kT_9) (N := 2) (Or.inl kw_459) kPn_98 kw_409 kw_410 rfl
theorem kLc_6_1 : ∀ q ∈ kLk_6_1, kLp "BonnetValley$Plan" q := List.forall_mem_cons.mpr ⟨kl_6_18, List.forall_mem_cons.mpr ⟨kl_6_22, List.forall_mem_cons.mpr ⟨kl_6_28, fun _ h => absurd h List.not_mem_nil⟩⟩⟩
theorem kl_6_32 : kLp "BonnetValley$Plan" (32, 2, 68, 2, .ref 6) := pm_lk2 (ci := 6) (T := kT_6) (N := 3) (Or.inl kw_460) kPn_68 kw_461 kw_462 rfl
theorem kl_6_36 : kLp "BonnetValley$Plan" (36, 2, 97, 1, .ref 9) := pm_lk2 (ci := 9) (T := kT_9) (N := 2) (Or.inl kw_463) kPn_97 kw_330 kw_331 rfl
theorem kl_6_39 : kLp "BonnetValley$Plan" (39, 1, 66, 1, .null) := pm_lk1 (Or.inl kw_464) kPn_66 kw_465
theorem kl_6_42 : kLp "BonnetValley$Plan" (42, 2, 67, 1, .ref 6) := pm_lk2 (ci := 6) (T := kT_6) (N := 3) (Or.inl kw_466) kPn_67 kw_467 kw_468 rfl
theorem kLc_6_2 : ∀ q ∈ kLk_6_2, kLp "BonnetValley$Plan" q := List.forall_mem_cons.mpr ⟨kl_6_32, List.forall_mem_cons.mpr ⟨kl_6_36, List.forall_mem_cons.mpr ⟨kl_6_39, List.forall_mem_cons.mpr ⟨kl_6_42, fun _ h => absurd h List.not_mem_nil⟩⟩⟩⟩
theorem kLd_6 : ∀ c ∈ kLo_6, ∀ q ∈ c, kLp "BonnetValley$Plan" q := List.forall_mem_cons.mpr ⟨kLc_6_0, List.forall_mem_cons.mpr ⟨kLc_6_1, List.forall_mem_cons.mpr ⟨kLc_6_2, fun _ h => absurd h List.not_mem_nil⟩⟩⟩
theorem kl_7_3 : kLp "BonnetValley$Route" (3, 4, 0, 0, .null) := pm_lk4 kw_469
theorem kl_7_9 : kLp "BonnetValley$Route" (9, 6, 7, 0, .null) := pm_lk6 (T := kT_7) (N := 3) rfl (Nat.le_of_ble_eq_true rfl) kw_470
theorem kl_7_15 : kLp "BonnetValley$Route" (15, 6, 7, 1, .null) := pm_lk6 (T := kT_7) (N := 3) rfl (Nat.le_of_ble_eq_true rfl) kw_471
theorem kLc_7_0 : ∀ q ∈ kLk_7_0, kLp "BonnetValley$Route" q := List.forall_mem_cons.mpr ⟨kl_7_3, List.forall_mem_cons.mpr ⟨kl_7_9, List.forall_mem_cons.mpr ⟨kl_7_15, fun _ h => absurd h List.not_mem_nil⟩⟩⟩
theorem kl_7_18 : kLp "BonnetValley$Route" (18, 6, 7, 2, .null) := pm_lk6 (T := kT_7) (N := 3) rfl (Nat.le_of_ble_eq_true rfl) kw_472
theorem kl_7_21 : kLp "BonnetValley$Route" (21, 2, 40, 1, .ref 3) := pm_lk2 (ci := 3) (T := kT_3) (N := 9) (Or.inl kw_473) kPn_40 kw_210 kw_211 rfl
theorem kl_7_27 : kLp "BonnetValley$Route" (27, 2, 45, 1, .ref 3) := pm_lk2 (ci := 3) (T := kT_3) (N := 9) (Or.inl kw_474) kPn_45 kw_422 kw_423 rfl
theorem kl_7_30 : kLp "BonnetValley$Route" (30, 2, 72, 3, .ref 7) := pm_lk2 (ci := 7) (T := kT_7) (N := 3) (Or.inl kw_475) kPn_72 kw_476 kw_477 rfl
theorem kLc_7_1 : ∀ q ∈ kLk_7_1, kLp "BonnetValley$Route" q := List.forall_mem_cons.mpr ⟨kl_7_18, List.forall_mem_cons.mpr ⟨kl_7_21, List.forall_mem_cons.mpr ⟨kl_7_27, List.forall_mem_cons.mpr ⟨kl_7_30, fun _ h => absurd h List.not_mem_nil⟩⟩⟩⟩
theorem kl_7_34 : kLp "BonnetValley$Route" (34, 2, 73, 3, .ref 7) := pm_lk2 (ci := 7) (T := kT_7) (N := 3) (Or.inl kw_478) kPn_73 kw_479 kw_480 rfl
theorem kl_7_38 : kLp "BonnetValley$Route" (38, 1, 328, 2, .null) := pm_lk1 (Or.inl kw_481) kPn_328 kw_136
theorem kl_7_44 : kLp "BonnetValley$Route" (44, 2, 46, 2, .ref 3) := pm_lk2 (ci := 3) (T := kT_3) (N := 9) (Or.inl kw_482) kPn_46 kw_207 kw_208 rfl
theorem kLc_7_2 : ∀ q ∈ kLk_7_2, kLp "BonnetValley$Route" q := List.forall_mem_cons.mpr ⟨kl_7_34, List.forall_mem_cons.mpr ⟨kl_7_38, List.forall_mem_cons.mpr ⟨kl_7_44, fun _ h => absurd h List.not_mem_nil⟩⟩⟩
theorem kl_7_48 : kLp "BonnetValley$Route" (48, 1, 163, 2, .null) := pm_lk1 (Or.inr ⟨"BonnetValley", by decide +kernel⟩) kPn_163 kw_244
theorem kLc_7_3 : ∀ q ∈ kLk_7_3, kLp "BonnetValley$Route" q := List.forall_mem_cons.mpr ⟨kl_7_48, fun _ h => absurd h List.not_mem_nil⟩
theorem kLd_7 : ∀ c ∈ kLo_7, ∀ q ∈ c, kLp "BonnetValley$Route" q := List.forall_mem_cons.mpr ⟨kLc_7_0, List.forall_mem_cons.mpr ⟨kLc_7_1, List.forall_mem_cons.mpr ⟨kLc_7_2, List.forall_mem_cons.mpr ⟨kLc_7_3, fun _ h => absurd h List.not_mem_nil⟩⟩⟩⟩
theorem kl_8_3 : kLp "BonnetValley$Sight" (3, 4, 0, 0, .null) := pm_lk4 kw_483
theorem kl_8_9 : kLp "BonnetValley$Sight" (9, 6, 8, 0, .null) := pm_lk6 (T := kT_8) (N := 8) rfl (Nat.le_of_ble_eq_true rfl) kw_484
theorem kl_8_15 : kLp "BonnetValley$Sight" (15, 9, 0, 9, .null) := pm_lk9 (T := kT_0) rfl kw_485
theorem kLc_8_0 : ∀ q ∈ kLk_8_0, kLp "BonnetValley$Sight" q := List.forall_mem_cons.mpr ⟨kl_8_3, List.forall_mem_cons.mpr ⟨kl_8_9, List.forall_mem_cons.mpr ⟨kl_8_15, fun _ h => absurd h List.not_mem_nil⟩⟩⟩
theorem kl_8_17 : kLp "BonnetValley$Sight" (17, 3, 0, 0, .null) := pm_lk3 (Or.inl kw_486) kPn_0 rfl kw_487 rfl
theorem kl_8_18 : kLp "BonnetValley$Sight" (18, 6, 8, 1, .null) := pm_lk6 (T := kT_8) (N := 8) rfl (Nat.le_of_ble_eq_true rfl) kw_488
theorem kl_8_22 : kLp "BonnetValley$Sight" (22, 6, 8, 2, .null) := pm_lk6 (T := kT_8) (N := 8) rfl (Nat.le_of_ble_eq_true rfl) kw_489
theorem kl_8_25 : kLp "BonnetValley$Sight" (25, 6, 8, 3, .null) := pm_lk6 (T := kT_8) (N := 8) rfl (Nat.le_of_ble_eq_true rfl) kw_490
theorem kl_8_29 : kLp "BonnetValley$Sight" (29, 6, 8, 4, .null) := pm_lk6 (T := kT_8) (N := 8) rfl (Nat.le_of_ble_eq_true rfl) kw_491
theorem kLc_8_1 : ∀ q ∈ kLk_8_1, kLp "BonnetValley$Sight" q := List.forall_mem_cons.mpr ⟨kl_8_17, List.forall_mem_cons.mpr ⟨kl_8_18, List.forall_mem_cons.mpr ⟨kl_8_22, List.forall_mem_cons.mpr ⟨kl_8_25, List.forall_mem_cons.mpr ⟨kl_8_29, fun _ h => absurd h List.not_mem_nil⟩⟩⟩⟩⟩
theorem kl_8_33 : kLp "BonnetValley$Sight" (33, 6, 8, 5, .null) := pm_lk6 (T := kT_8) (N := 8) rfl (Nat.le_of_ble_eq_true rfl) kw_492
theorem kl_8_36 : kLp "BonnetValley$Sight" (36, 6, 8, 6, .null) := pm_lk6 (T := kT_8) (N := 8) rfl (Nat.le_of_ble_eq_true rfl) kw_493
theorem kl_8_40 : kLp "BonnetValley$Sight" (40, 6, 8, 7, .null) := pm_lk6 (T := kT_8) (N := 8) rfl (Nat.le_of_ble_eq_true rfl) kw_494
theorem kl_8_43 : kLp "BonnetValley$Sight" (43, 2, 99, 0, .ref 9) := pm_lk2 (ci := 9) (T := kT_9) (N := 2) (Or.inl kw_495) kPn_99 kw_54 kw_55 rfl
theorem kLc_8_2 : ∀ q ∈ kLk_8_2, kLp "BonnetValley$Sight" q := List.forall_mem_cons.mpr ⟨kl_8_33, List.forall_mem_cons.mpr ⟨kl_8_36, List.forall_mem_cons.mpr ⟨kl_8_40, List.forall_mem_cons.mpr ⟨kl_8_43, fun _ h => absurd h List.not_mem_nil⟩⟩⟩⟩
theorem kl_8_49 : kLp "BonnetValley$Sight" (49, 2, 98, 1, .ref 9) := pm_lk2 (ci := 9) (T := kT_9) (N := 2) (Or.inl kw_496) kPn_98 kw_409 kw_410 rfl
theorem kl_8_53 : kLp "BonnetValley$Sight" (53, 2, 106, 1, .ref 10) := pm_lk2 (ci := 10) (T := kT_10) (N := 8) (Or.inl kw_497) kPn_106 kw_107 kw_108 rfl
theorem kl_8_59 : kLp "BonnetValley$Sight" (59, 6, 10, 5, .null) := pm_lk6 (T := kT_10) (N := 8) rfl (Nat.le_of_ble_eq_true rfl) kw_498
theorem kl_8_62 : kLp "BonnetValley$Sight" (62, 2, 81, 4, .ref 8) := pm_lk2 (ci := 8) (T := kT_8) (N := 8) (Or.inl kw_499) kPn_81 kw_500 kw_501 rfl
theorem kLc_8_3 : ∀ q ∈ kLk_8_3, kLp "BonnetValley$Sight" q := List.forall_mem_cons.mpr ⟨kl_8_49, List.forall_mem_cons.mpr ⟨kl_8_53, List.forall_mem_cons.mpr ⟨kl_8_59, List.forall_mem_cons.mpr ⟨kl_8_62, fun _ h => absurd h List.not_mem_nil⟩⟩⟩⟩
theorem kl_8_66 : kLp "BonnetValley$Sight" (66, 6, 10, 3, .null) := pm_lk6 (T := kT_10) (N := 8) rfl (Nat.le_of_ble_eq_true rfl) kw_502
theorem kl_8_69 : kLp "BonnetValley$Sight" (69, 6, 10, 2, .null) := pm_lk6 (T := kT_10) (N := 8) rfl (Nat.le_of_ble_eq_true rfl) kw_503
theorem kl_8_72 : kLp "BonnetValley$Sight" (72, 2, 76, 1, .ref 8) := pm_lk2 (ci := 8) (T := kT_8) (N := 8) (Or.inl kw_504) kPn_76 kw_309 kw_310 rfl
theorem kl_8_75 : kLp "BonnetValley$Sight" (75, 6, 10, 6, .null) := pm_lk6 (T := kT_10) (N := 8) rfl (Nat.le_of_ble_eq_true rfl) kw_505
theorem kl_8_78 : kLp "BonnetValley$Sight" (78, 1, 303, 1, .null) := pm_lk1 (Or.inl kw_506) kPn_303 kw_218
theorem kLc_8_4 : ∀ q ∈ kLk_8_4, kLp "BonnetValley$Sight" q := List.forall_mem_cons.mpr ⟨kl_8_66, List.forall_mem_cons.mpr ⟨kl_8_69, List.forall_mem_cons.mpr ⟨kl_8_72, List.forall_mem_cons.mpr ⟨kl_8_75, List.forall_mem_cons.mpr ⟨kl_8_78, fun _ h => absurd h List.not_mem_nil⟩⟩⟩⟩⟩
theorem kl_8_83 : kLp "BonnetValley$Sight" (83, 6, 10, 4, .null) := pm_lk6 (T := kT_10) (N := 8) rfl (Nat.le_of_ble_eq_true rfl) kw_507
theorem kl_8_86 : kLp "BonnetValley$Sight" (86, 2, 42, 1, .ref 3) := pm_lk2 (ci := 3) (T := kT_3) (N := 9) (Or.inl kw_508) kPn_42 kw_509 kw_510 rfl
theorem kl_8_91 : kLp "BonnetValley$Sight" (91, 2, 43, 1, .ref 3) := pm_lk2 (ci := 3) (T := kT_3) (N := 9) (Or.inl kw_511) kPn_43 kw_512 kw_513 rfl
theorem kl_8_94 : kLp "BonnetValley$Sight" (94, 2, 113, 1, .ref 10) := pm_lk2 (ci := 10) (T := kT_10) (N := 8) (Or.inl kw_514) kPn_113 kw_215 kw_216 rfl
theorem kLc_8_5 : ∀ q ∈ kLk_8_5, kLp "BonnetValley$Sight" q := List.forall_mem_cons.mpr ⟨kl_8_83, List.forall_mem_cons.mpr ⟨kl_8_86, List.forall_mem_cons.mpr ⟨kl_8_91, List.forall_mem_cons.mpr ⟨kl_8_94, fun _ h => absurd h List.not_mem_nil⟩⟩⟩⟩
theorem kl_8_98 : kLp "BonnetValley$Sight" (98, 2, 13, 1, .ref 0) := pm_lk2 (ci := 0) (T := kT_0) (N := 9) (Or.inl kw_515) kPn_13 kw_516 kw_517 rfl
theorem kl_8_102 : kLp "BonnetValley$Sight" (102, 16, 0, 0, .null) := pm_lk16 kw_518
theorem kl_8_108 : kLp "BonnetValley$Sight" (108, 15, 0, 0, .null) := pm_lk15 kw_519
theorem kl_8_111 : kLp "BonnetValley$Sight" (111, 2, 83, 3, .ref 8) := pm_lk2 (ci := 8) (T := kT_8) (N := 8) (Or.inl kw_520) kPn_83 kw_255 kw_256 rfl
theorem kLc_8_6 : ∀ q ∈ kLk_8_6, kLp "BonnetValley$Sight" q := List.forall_mem_cons.mpr ⟨kl_8_98, List.forall_mem_cons.mpr ⟨kl_8_102, List.forall_mem_cons.mpr ⟨kl_8_108, List.forall_mem_cons.mpr ⟨kl_8_111, fun _ h => absurd h List.not_mem_nil⟩⟩⟩⟩
theorem kl_8_115 : kLp "BonnetValley$Sight" (115, 2, 48, 4, .ref 3) := pm_lk2 (ci := 3) (T := kT_3) (N := 9) (Or.inl kw_521) kPn_48 kw_261 kw_262 rfl
theorem kl_8_118 : kLp "BonnetValley$Sight" (118, 2, 85, 2, .ref 8) := pm_lk2 (ci := 8) (T := kT_8) (N := 8) (Or.inl kw_522) kPn_85 kw_282 kw_283 rfl
theorem kl_8_122 : kLp "BonnetValley$Sight" (122, 6, 10, 0, .null) := pm_lk6 (T := kT_10) (N := 8) rfl (Nat.le_of_ble_eq_true rfl) kw_523
theorem kl_8_125 : kLp "BonnetValley$Sight" (125, 1, 163, 2, .null) := pm_lk1 (Or.inr ⟨"BonnetValley", by decide +kernel⟩) kPn_163 kw_244
theorem kLc_8_7 : ∀ q ∈ kLk_8_7, kLp "BonnetValley$Sight" q := List.forall_mem_cons.mpr ⟨kl_8_115, List.forall_mem_cons.mpr ⟨kl_8_118, List.forall_mem_cons.mpr ⟨kl_8_122, List.forall_mem_cons.mpr ⟨kl_8_125, fun _ h => absurd h List.not_mem_nil⟩⟩⟩⟩
theorem kl_8_129 : kLp "BonnetValley$Sight" (129, 2, 89, 3, .ref 8) := pm_lk2 (ci := 8) (T := kT_8) (N := 8) (Or.inl kw_524) kPn_89 kw_223 kw_224 rfl
theorem kl_8_133 : kLp "BonnetValley$Sight" (133, 17, 0, 0, .null) := pm_lk17 kw_525
theorem kl_8_136 : kLp "BonnetValley$Sight" (136, 2, 90, 3, .ref 8) := pm_lk2 (ci := 8) (T := kT_8) (N := 8) (Or.inl kw_526) kPn_90 kw_226 kw_227 rfl
theorem kl_8_139 : kLp "BonnetValley$Sight" (139, 2, 93, 2, .ref 8) := pm_lk2 (ci := 8) (T := kT_8) (N := 8) (Or.inl kw_527) kPn_93 kw_528 kw_529 rfl
theorem kl_8_143 : kLp "BonnetValley$Sight" (143, 2, 108, 0, .ref 10) := pm_lk2 (ci := 10) (T := kT_10) (N := 8) (Or.inl kw_530) kPn_108 kw_157 kw_158 rfl
theorem kLc_8_8 : ∀ q ∈ kLk_8_8, kLp "BonnetValley$Sight" q := List.forall_mem_cons.mpr ⟨kl_8_129, List.forall_mem_cons.mpr ⟨kl_8_133, List.forall_mem_cons.mpr ⟨kl_8_136, List.forall_mem_cons.mpr ⟨kl_8_139, List.forall_mem_cons.mpr ⟨kl_8_143, fun _ h => absurd h List.not_mem_nil⟩⟩⟩⟩⟩
theorem kl_8_146 : kLp "BonnetValley$Sight" (146, 2, 114, 1, .ref 10) := pm_lk2 (ci := 10) (T := kT_10) (N := 8) (Or.inl kw_531) kPn_114 kw_120 kw_121 rfl
theorem kLc_8_9 : ∀ q ∈ kLk_8_9, kLp "BonnetValley$Sight" q := List.forall_mem_cons.mpr ⟨kl_8_146, fun _ h => absurd h List.not_mem_nil⟩
theorem kLd_8 : ∀ c ∈ kLo_8, ∀ q ∈ c, kLp "BonnetValley$Sight" q := List.forall_mem_cons.mpr ⟨kLc_8_0, List.forall_mem_cons.mpr ⟨kLc_8_1, List.forall_mem_cons.mpr ⟨kLc_8_2, List.forall_mem_cons.mpr ⟨kLc_8_3, List.forall_mem_cons.mpr ⟨kLc_8_4, List.forall_mem_cons.mpr ⟨kLc_8_5, List.forall_mem_cons.mpr ⟨kLc_8_6, List.forall_mem_cons.mpr ⟨kLc_8_7, List.forall_mem_cons.mpr ⟨kLc_8_8, List.forall_mem_cons.mpr ⟨kLc_8_9, fun _ h => absurd h List.not_mem_nil⟩⟩⟩⟩⟩⟩⟩⟩⟩⟩
theorem kl_9_1 : kLp "BonnetValley$Signs" (1, 4, 0, 0, .null) := pm_lk4 kw_532
theorem kl_9_9 : kLp "BonnetValley$Signs" (9, 6, 9, 0, .null) := pm_lk6 (T := kT_9) (N := 2) rfl (Nat.le_of_ble_eq_true rfl) kw_533
theorem kl_9_13 : kLp "BonnetValley$Signs" (13, 6, 9, 1, .null) := pm_lk6 (T := kT_9) (N := 2) rfl (Nat.le_of_ble_eq_true rfl) kw_534
theorem kLc_9_0 : ∀ q ∈ kLk_9_0, kLp "BonnetValley$Signs" q := List.forall_mem_cons.mpr ⟨kl_9_1, List.forall_mem_cons.mpr ⟨kl_9_9, List.forall_mem_cons.mpr ⟨kl_9_13, fun _ h => absurd h List.not_mem_nil⟩⟩⟩
theorem kl_9_17 : kLp "BonnetValley$Signs" (17, 2, 97, 1, .ref 9) := pm_lk2 (ci := 9) (T := kT_9) (N := 2) (Or.inl kw_535) kPn_97 kw_330 kw_331 rfl
theorem kLc_9_1 : ∀ q ∈ kLk_9_1, kLp "BonnetValley$Signs" q := List.forall_mem_cons.mpr ⟨kl_9_17, fun _ h => absurd h List.not_mem_nil⟩
theorem kLd_9 : ∀ c ∈ kLo_9, ∀ q ∈ c, kLp "BonnetValley$Signs" q := List.forall_mem_cons.mpr ⟨kLc_9_0, List.forall_mem_cons.mpr ⟨kLc_9_1, fun _ h => absurd h List.not_mem_nil⟩⟩
theorem kl_10_3 : kLp "BonnetValley$State" (3, 4, 0, 0, .null) := pm_lk4 kw_536
theorem kl_10_9 : kLp "BonnetValley$State" (9, 6, 10, 3, .null) := pm_lk6 (T := kT_10) (N := 8) rfl (Nat.le_of_ble_eq_true rfl) kw_537
theorem kl_10_15 : kLp "BonnetValley$State" (15, 6, 10, 4, .null) := pm_lk6 (T := kT_10) (N := 8) rfl (Nat.le_of_ble_eq_true rfl) kw_538
theorem kLc_10_0 : ∀ q ∈ kLk_10_0, kLp "BonnetValley$State" q := List.forall_mem_cons.mpr ⟨kl_10_3, List.forall_mem_cons.mpr ⟨kl_10_9, List.forall_mem_cons.mpr ⟨kl_10_15, fun _ h => absurd h List.not_mem_nil⟩⟩⟩
theorem kl_10_18 : kLp "BonnetValley$State" (18, 6, 10, 5, .null) := pm_lk6 (T := kT_10) (N := 8) rfl (Nat.le_of_ble_eq_true rfl) kw_539
theorem kl_10_21 : kLp "BonnetValley$State" (21, 6, 10, 6, .null) := pm_lk6 (T := kT_10) (N := 8) rfl (Nat.le_of_ble_eq_true rfl) kw_540
theorem kl_10_24 : kLp "BonnetValley$State" (24, 6, 10, 7, .null) := pm_lk6 (T := kT_10) (N := 8) rfl (Nat.le_of_ble_eq_true rfl) kw_541
theorem kl_10_27 : kLp "BonnetValley$State" (27, 2, 102, 0, .ref 10) := pm_lk2 (ci := 10) (T := kT_10) (N := 8) (Or.inl kw_542) kPn_102 kw_66 kw_67 rfl
theorem kl_10_30 : kLp "BonnetValley$State" (30, 6, 10, 0, .null) := pm_lk6 (T := kT_10) (N := 8) rfl (Nat.le_of_ble_eq_true rfl) kw_543
theorem kLc_10_1 : ∀ q ∈ kLk_10_1, kLp "BonnetValley$State" q := List.forall_mem_cons.mpr ⟨kl_10_18, List.forall_mem_cons.mpr ⟨kl_10_21, List.forall_mem_cons.mpr ⟨kl_10_24, List.forall_mem_cons.mpr ⟨kl_10_27, List.forall_mem_cons.mpr ⟨kl_10_30, fun _ h => absurd h List.not_mem_nil⟩⟩⟩⟩⟩
theorem kl_10_34 : kLp "BonnetValley$State" (34, 6, 10, 1, .null) := pm_lk6 (T := kT_10) (N := 8) rfl (Nat.le_of_ble_eq_true rfl) kw_544
theorem kl_10_37 : kLp "BonnetValley$State" (37, 6, 10, 2, .null) := pm_lk6 (T := kT_10) (N := 8) rfl (Nat.le_of_ble_eq_true rfl) kw_545
theorem kl_10_40 : kLp "BonnetValley$State" (40, 5, 0, 0, .null) := pm_lk5 kw_546
theorem kl_10_46 : kLp "BonnetValley$State" (46, 1, 303, 1, .null) := pm_lk1 (Or.inl kw_547) kPn_303 kw_218
theorem kLc_10_2 : ∀ q ∈ kLk_10_2, kLp "BonnetValley$State" q := List.forall_mem_cons.mpr ⟨kl_10_34, List.forall_mem_cons.mpr ⟨kl_10_37, List.forall_mem_cons.mpr ⟨kl_10_40, List.forall_mem_cons.mpr ⟨kl_10_46, fun _ h => absurd h List.not_mem_nil⟩⟩⟩⟩
theorem kLd_10 : ∀ c ∈ kLo_10, ∀ q ∈ c, kLp "BonnetValley$State" q := List.forall_mem_cons.mpr ⟨kLc_10_0, List.forall_mem_cons.mpr ⟨kLc_10_1, List.forall_mem_cons.mpr ⟨kLc_10_2, fun _ h => absurd h List.not_mem_nil⟩⟩⟩
theorem kl_11_3 : kLp "BonnetValley$Turning" (3, 4, 0, 0, .null) := pm_lk4 kw_548
theorem kl_11_9 : kLp "BonnetValley$Turning" (9, 6, 11, 0, .null) := pm_lk6 (T := kT_11) (N := 2) rfl (Nat.le_of_ble_eq_true rfl) kw_549
theorem kl_11_15 : kLp "BonnetValley$Turning" (15, 6, 11, 1, .null) := pm_lk6 (T := kT_11) (N := 2) rfl (Nat.le_of_ble_eq_true rfl) kw_550
theorem kLc_11_0 : ∀ q ∈ kLk_11_0, kLp "BonnetValley$Turning" q := List.forall_mem_cons.mpr ⟨kl_11_3, List.forall_mem_cons.mpr ⟨kl_11_9, List.forall_mem_cons.mpr ⟨kl_11_15, fun _ h => absurd h List.not_mem_nil⟩⟩⟩
theorem kl_11_18 : kLp "BonnetValley$Turning" (18, 6, 10, 1, .null) := pm_lk6 (T := kT_10) (N := 8) rfl (Nat.le_of_ble_eq_true rfl) kw_551
theorem kl_11_24 : kLp "BonnetValley$Turning" (24, 6, 10, 0, .null) := pm_lk6 (T := kT_10) (N := 8) rfl (Nat.le_of_ble_eq_true rfl) kw_552
theorem kl_11_27 : kLp "BonnetValley$Turning" (27, 16, 0, 0, .null) := pm_lk16 kw_553
theorem kLc_11_1 : ∀ q ∈ kLk_11_1, kLp "BonnetValley$Turning" q := List.forall_mem_cons.mpr ⟨kl_11_18, List.forall_mem_cons.mpr ⟨kl_11_24, List.forall_mem_cons.mpr ⟨kl_11_27, fun _ h => absurd h List.not_mem_nil⟩⟩⟩
theorem kl_11_33 : kLp "BonnetValley$Turning" (33, 15, 0, 0, .null) := pm_lk15 kw_554
theorem kl_11_36 : kLp "BonnetValley$Turning" (36, 2, 118, 3, .ref 11) := pm_lk2 (ci := 11) (T := kT_11) (N := 2) (Or.inl kw_555) kPn_118 kw_556 kw_557 rfl
theorem kl_11_40 : kLp "BonnetValley$Turning" (40, 2, 119, 4, .ref 11) := pm_lk2 (ci := 11) (T := kT_11) (N := 2) (Or.inl kw_558) kPn_119 kw_559 kw_560 rfl
theorem kl_11_44 : kLp "BonnetValley$Turning" (44, 6, 10, 4, .null) := pm_lk6 (T := kT_10) (N := 8) rfl (Nat.le_of_ble_eq_true rfl) kw_561
theorem kl_11_47 : kLp "BonnetValley$Turning" (47, 2, 58, 1, .ref 5) := pm_lk2 (ci := 5) (T := kT_5) (N := 2) (Or.inl kw_562) kPn_58 kw_160 kw_161 rfl
theorem kLc_11_2 : ∀ q ∈ kLk_11_2, kLp "BonnetValley$Turning" q := List.forall_mem_cons.mpr ⟨kl_11_33, List.forall_mem_cons.mpr ⟨kl_11_36, List.forall_mem_cons.mpr ⟨kl_11_40, List.forall_mem_cons.mpr ⟨kl_11_44, List.forall_mem_cons.mpr ⟨kl_11_47, fun _ h => absurd h List.not_mem_nil⟩⟩⟩⟩⟩
theorem kLd_11 : ∀ c ∈ kLo_11, ∀ q ∈ c, kLp "BonnetValley$Turning" q := List.forall_mem_cons.mpr ⟨kLc_11_0, List.forall_mem_cons.mpr ⟨kLc_11_1, List.forall_mem_cons.mpr ⟨kLc_11_2, fun _ h => absurd h List.not_mem_nil⟩⟩⟩
theorem kl_12_1 : kLp "BonnetValley" (1, 4, 0, 0, .null) := pm_lk4 kw_0
theorem kl_12_7 : kLp "BonnetValley" (7, 9, 9, 2, .null) := pm_lk9 (T := kT_9) rfl kw_1
theorem kl_12_9 : kLp "BonnetValley" (9, 3, 94, 0, .null) := pm_lk3 (Or.inl kw_2) kPn_94 rfl kw_3 rfl
theorem kl_12_10 : kLp "BonnetValley" (10, 6, 12, 0, .null) := pm_lk6 (T := kT_12) (N := 15) rfl (Nat.le_of_ble_eq_true rfl) kw_4
theorem kLc_12_0 : ∀ q ∈ kLk_12_0, kLp "BonnetValley" q := List.forall_mem_cons.mpr ⟨kl_12_1, List.forall_mem_cons.mpr ⟨kl_12_7, List.forall_mem_cons.mpr ⟨kl_12_9, List.forall_mem_cons.mpr ⟨kl_12_10, fun _ h => absurd h List.not_mem_nil⟩⟩⟩⟩
theorem kl_12_16 : kLp "BonnetValley" (16, 9, 5, 2, .null) := pm_lk9 (T := kT_5) rfl kw_5
theorem kl_12_18 : kLp "BonnetValley" (18, 3, 56, 0, .null) := pm_lk3 (Or.inl kw_6) kPn_56 rfl kw_7 rfl
theorem kl_12_19 : kLp "BonnetValley" (19, 6, 12, 1, .null) := pm_lk6 (T := kT_12) (N := 15) rfl (Nat.le_of_ble_eq_true rfl) kw_8
theorem kl_12_23 : kLp "BonnetValley" (23, 9, 3, 9, .null) := pm_lk9 (T := kT_3) rfl kw_9
theorem kl_12_25 : kLp "BonnetValley" (25, 3, 33, 0, .null) := pm_lk3 (Or.inl kw_10) kPn_33 rfl kw_11 rfl
theorem kl_12_26 : kLp "BonnetValley" (26, 6, 12, 2, .null) := pm_lk6 (T := kT_12) (N := 15) rfl (Nat.le_of_ble_eq_true rfl) kw_12
theorem kl_12_30 : kLp "BonnetValley" (30, 9, 8, 8, .null) := pm_lk9 (T := kT_8) rfl kw_13
theorem kLc_12_1 : ∀ q ∈ kLk_12_1, kLp "BonnetValley" q := List.forall_mem_cons.mpr ⟨kl_12_16, List.forall_mem_cons.mpr ⟨kl_12_18, List.forall_mem_cons.mpr ⟨kl_12_19, List.forall_mem_cons.mpr ⟨kl_12_23, List.forall_mem_cons.mpr ⟨kl_12_25, List.forall_mem_cons.mpr ⟨kl_12_26, List.forall_mem_cons.mpr ⟨kl_12_30, fun _ h => absurd h List.not_mem_nil⟩⟩⟩⟩⟩⟩⟩
theorem kl_12_32 : kLp "BonnetValley" (32, 3, 74, 1, .null) := pm_lk3 (Or.inl kw_14) kPn_74 rfl kw_15 rfl
theorem kl_12_35 : kLp "BonnetValley" (35, 6, 12, 3, .null) := pm_lk6 (T := kT_12) (N := 15) rfl (Nat.le_of_ble_eq_true rfl) kw_16
theorem kl_12_39 : kLp "BonnetValley" (39, 9, 10, 8, .null) := pm_lk9 (T := kT_10) rfl kw_17
theorem kl_12_41 : kLp "BonnetValley" (41, 3, 101, 0, .null) := pm_lk3 (Or.inl kw_18) kPn_101 rfl kw_19 rfl
theorem kl_12_42 : kLp "BonnetValley" (42, 6, 12, 4, .null) := pm_lk6 (T := kT_12) (N := 15) rfl (Nat.le_of_ble_eq_true rfl) kw_20
theorem kl_12_46 : kLp "BonnetValley" (46, 6, 12, 5, .null) := pm_lk6 (T := kT_12) (N := 15) rfl (Nat.le_of_ble_eq_true rfl) kw_21
theorem kLc_12_2 : ∀ q ∈ kLk_12_2, kLp "BonnetValley" q := List.forall_mem_cons.mpr ⟨kl_12_32, List.forall_mem_cons.mpr ⟨kl_12_35, List.forall_mem_cons.mpr ⟨kl_12_39, List.forall_mem_cons.mpr ⟨kl_12_41, List.forall_mem_cons.mpr ⟨kl_12_42, List.forall_mem_cons.mpr ⟨kl_12_46, fun _ h => absurd h List.not_mem_nil⟩⟩⟩⟩⟩⟩
theorem kl_12_49 : kLp "BonnetValley" (49, 6, 12, 6, .null) := pm_lk6 (T := kT_12) (N := 15) rfl (Nat.le_of_ble_eq_true rfl) kw_22
theorem kl_12_52 : kLp "BonnetValley" (52, 9, 2, 5, .null) := pm_lk9 (T := kT_2) rfl kw_23
theorem kl_12_54 : kLp "BonnetValley" (54, 3, 26, 0, .null) := pm_lk3 (Or.inl kw_24) kPn_26 rfl kw_25 rfl
theorem kl_12_55 : kLp "BonnetValley" (55, 6, 12, 7, .null) := pm_lk6 (T := kT_12) (N := 15) rfl (Nat.le_of_ble_eq_true rfl) kw_26
theorem kl_12_59 : kLp "BonnetValley" (59, 9, 4, 3, .null) := pm_lk9 (T := kT_4) rfl kw_27
theorem kl_12_61 : kLp "BonnetValley" (61, 3, 52, 0, .null) := pm_lk3 (Or.inl kw_28) kPn_52 rfl kw_29 rfl
theorem kl_12_62 : kLp "BonnetValley" (62, 6, 12, 8, .null) := pm_lk6 (T := kT_12) (N := 15) rfl (Nat.le_of_ble_eq_true rfl) kw_30
theorem kLc_12_3 : ∀ q ∈ kLk_12_3, kLp "BonnetValley" q := List.forall_mem_cons.mpr ⟨kl_12_49, List.forall_mem_cons.mpr ⟨kl_12_52, List.forall_mem_cons.mpr ⟨kl_12_54, List.forall_mem_cons.mpr ⟨kl_12_55, List.forall_mem_cons.mpr ⟨kl_12_59, List.forall_mem_cons.mpr ⟨kl_12_61, List.forall_mem_cons.mpr ⟨kl_12_62, fun _ h => absurd h List.not_mem_nil⟩⟩⟩⟩⟩⟩⟩
theorem kl_12_66 : kLp "BonnetValley" (66, 9, 6, 3, .null) := pm_lk9 (T := kT_6) rfl kw_31
theorem kl_12_68 : kLp "BonnetValley" (68, 3, 61, 0, .null) := pm_lk3 (Or.inl kw_32) kPn_61 rfl kw_33 rfl
theorem kl_12_69 : kLp "BonnetValley" (69, 6, 12, 9, .null) := pm_lk6 (T := kT_12) (N := 15) rfl (Nat.le_of_ble_eq_true rfl) kw_34
theorem kl_12_73 : kLp "BonnetValley" (73, 9, 7, 3, .null) := pm_lk9 (T := kT_7) rfl kw_35
theorem kl_12_75 : kLp "BonnetValley" (75, 3, 69, 0, .null) := pm_lk3 (Or.inl kw_36) kPn_69 rfl kw_37 rfl
theorem kl_12_76 : kLp "BonnetValley" (76, 6, 12, 10, .null) := pm_lk6 (T := kT_12) (N := 15) rfl (Nat.le_of_ble_eq_true rfl) kw_38
theorem kLc_12_4 : ∀ q ∈ kLk_12_4, kLp "BonnetValley" q := List.forall_mem_cons.mpr ⟨kl_12_66, List.forall_mem_cons.mpr ⟨kl_12_68, List.forall_mem_cons.mpr ⟨kl_12_69, List.forall_mem_cons.mpr ⟨kl_12_73, List.forall_mem_cons.mpr ⟨kl_12_75, List.forall_mem_cons.mpr ⟨kl_12_76, fun _ h => absurd h List.not_mem_nil⟩⟩⟩⟩⟩⟩
theorem kl_12_80 : kLp "BonnetValley" (80, 9, 11, 2, .null) := pm_lk9 (T := kT_11) rfl kw_39
theorem kl_12_82 : kLp "BonnetValley" (82, 3, 115, 0, .null) := pm_lk3 (Or.inl kw_40) kPn_115 rfl kw_41 rfl
theorem kl_12_83 : kLp "BonnetValley" (83, 6, 12, 11, .null) := pm_lk6 (T := kT_12) (N := 15) rfl (Nat.le_of_ble_eq_true rfl) kw_42
theorem kl_12_87 : kLp "BonnetValley" (87, 9, 1, 4, .null) := pm_lk9 (T := kT_1) rfl kw_43
theorem kl_12_89 : kLp "BonnetValley" (89, 3, 15, 0, .null) := pm_lk3 (Or.inl kw_44) kPn_15 rfl kw_45 rfl
theorem kl_12_90 : kLp "BonnetValley" (90, 6, 12, 12, .null) := pm_lk6 (T := kT_12) (N := 15) rfl (Nat.le_of_ble_eq_true rfl) kw_46
theorem kl_12_94 : kLp "BonnetValley" (94, 11, 0, 0, .long (-1)) := pm_lk11 kw_47
theorem kLc_12_5 : ∀ q ∈ kLk_12_5, kLp "BonnetValley" q := List.forall_mem_cons.mpr ⟨kl_12_80, List.forall_mem_cons.mpr ⟨kl_12_82, List.forall_mem_cons.mpr ⟨kl_12_83, List.forall_mem_cons.mpr ⟨kl_12_87, List.forall_mem_cons.mpr ⟨kl_12_89, List.forall_mem_cons.mpr ⟨kl_12_90, List.forall_mem_cons.mpr ⟨kl_12_94, fun _ h => absurd h List.not_mem_nil⟩⟩⟩⟩⟩⟩⟩
theorem kl_12_96 : kLp "BonnetValley" (96, 6, 12, 13, .null) := pm_lk6 (T := kT_12) (N := 15) rfl (Nat.le_of_ble_eq_true rfl) kw_48
theorem kl_12_100 : kLp "BonnetValley" (100, 6, 12, 14, .null) := pm_lk6 (T := kT_12) (N := 15) rfl (Nat.le_of_ble_eq_true rfl) kw_49
theorem kl_12_104 : kLp "BonnetValley" (104, 2, 95, 1, .ref 9) := pm_lk2 (ci := 9) (T := kT_9) (N := 2) (Or.inl kw_50) kPn_95 kw_51 kw_52 rfl
theorem kl_12_108 : kLp "BonnetValley" (108, 2, 99, 0, .ref 9) := pm_lk2 (ci := 9) (T := kT_9) (N := 2) (Or.inl kw_53) kPn_99 kw_54 kw_55 rfl
theorem kLc_12_6 : ∀ q ∈ kLk_12_6, kLp "BonnetValley" q := List.forall_mem_cons.mpr ⟨kl_12_96, List.forall_mem_cons.mpr ⟨kl_12_100, List.forall_mem_cons.mpr ⟨kl_12_104, List.forall_mem_cons.mpr ⟨kl_12_108, fun _ h => absurd h List.not_mem_nil⟩⟩⟩⟩
theorem kl_12_112 : kLp "BonnetValley" (112, 2, 96, 1, .ref 9) := pm_lk2 (ci := 9) (T := kT_9) (N := 2) (Or.inl kw_56) kPn_96 kw_57 kw_58 rfl
theorem kl_12_115 : kLp "BonnetValley" (115, 2, 34, 1, .ref 3) := pm_lk2 (ci := 3) (T := kT_3) (N := 9) (Or.inl kw_59) kPn_34 kw_60 kw_61 rfl
theorem kl_12_119 : kLp "BonnetValley" (119, 2, 100, 0, .ref 9) := pm_lk2 (ci := 9) (T := kT_9) (N := 2) (Or.inl kw_62) kPn_100 kw_63 kw_64 rfl
theorem kl_12_122 : kLp "BonnetValley" (122, 2, 102, 0, .ref 10) := pm_lk2 (ci := 10) (T := kT_10) (N := 8) (Or.inl kw_65) kPn_102 kw_66 kw_67 rfl
theorem kl_12_123 : kLp "BonnetValley" (123, 2, 30, 0, .ref 2) := pm_lk2 (ci := 2) (T := kT_2) (N := 5) (Or.inl kw_68) kPn_30 kw_69 kw_70 rfl
theorem kl_12_124 : kLp "BonnetValley" (124, 2, 170, 0, .ref 12) := pm_lk2 (ci := 12) (T := kT_12) (N := 15) (Or.inl kw_71) kPn_170 kw_72 kw_73 rfl
theorem kl_12_127 : kLp "BonnetValley" (127, 2, 39, 0, .ref 3) := pm_lk2 (ci := 3) (T := kT_3) (N := 9) (Or.inl kw_74) kPn_39 kw_75 kw_76 rfl
theorem kLc_12_7 : ∀ q ∈ kLk_12_7, kLp "BonnetValley" q := List.forall_mem_cons.mpr ⟨kl_12_112, List.forall_mem_cons.mpr ⟨kl_12_115, List.forall_mem_cons.mpr ⟨kl_12_119, List.forall_mem_cons.mpr ⟨kl_12_122, List.forall_mem_cons.mpr ⟨kl_12_123, List.forall_mem_cons.mpr ⟨kl_12_124, List.forall_mem_cons.mpr ⟨kl_12_127, fun _ h => absurd h List.not_mem_nil⟩⟩⟩⟩⟩⟩⟩
theorem kl_12_130 : kLp "BonnetValley" (130, 6, 10, 0, .null) := pm_lk6 (T := kT_10) (N := 8) rfl (Nat.le_of_ble_eq_true rfl) kw_77
theorem kl_12_133 : kLp "BonnetValley" (133, 2, 54, 4, .ref 4) := pm_lk2 (ci := 4) (T := kT_4) (N := 3) (Or.inl kw_78) kPn_54 kw_79 kw_80 rfl
theorem kl_12_136 : kLp "BonnetValley" (136, 2, 53, 2, .ref 4) := pm_lk2 (ci := 4) (T := kT_4) (N := 3) (Or.inl kw_81) kPn_53 kw_82 kw_83 rfl
theorem kl_12_140 : kLp "BonnetValley" (140, 2, 44, 2, .ref 3) := pm_lk2 (ci := 3) (T := kT_3) (N := 9) (Or.inl kw_84) kPn_44 kw_85 kw_86 rfl
theorem kl_12_143 : kLp "BonnetValley" (143, 2, 104, 3, .ref 10) := pm_lk2 (ci := 10) (T := kT_10) (N := 8) (Or.inl kw_87) kPn_104 kw_88 kw_89 rfl
theorem kLc_12_8 : ∀ q ∈ kLk_12_8, kLp "BonnetValley" q := List.forall_mem_cons.mpr ⟨kl_12_130, List.forall_mem_cons.mpr ⟨kl_12_133, List.forall_mem_cons.mpr ⟨kl_12_136, List.forall_mem_cons.mpr ⟨kl_12_140, List.forall_mem_cons.mpr ⟨kl_12_143, fun _ h => absurd h List.not_mem_nil⟩⟩⟩⟩⟩
theorem kl_12_147 : kLp "BonnetValley" (147, 6, 10, 1, .null) := pm_lk6 (T := kT_10) (N := 8) rfl (Nat.le_of_ble_eq_true rfl) kw_90
theorem kl_12_150 : kLp "BonnetValley" (150, 2, 105, 1, .ref 10) := pm_lk2 (ci := 10) (T := kT_10) (N := 8) (Or.inl kw_91) kPn_105 kw_92 kw_93 rfl
theorem kl_12_154 : kLp "BonnetValley" (154, 2, 75, 1, .ref 8) := pm_lk2 (ci := 8) (T := kT_8) (N := 8) (Or.inl kw_94) kPn_75 kw_95 kw_96 rfl
theorem kl_12_157 : kLp "BonnetValley" (157, 2, 77, 0, .ref 8) := pm_lk2 (ci := 8) (T := kT_8) (N := 8) (Or.inl kw_97) kPn_77 kw_98 kw_99 rfl
theorem kLc_12_9 : ∀ q ∈ kLk_12_9, kLp "BonnetValley" q := List.forall_mem_cons.mpr ⟨kl_12_147, List.forall_mem_cons.mpr ⟨kl_12_150, List.forall_mem_cons.mpr ⟨kl_12_154, List.forall_mem_cons.mpr ⟨kl_12_157, fun _ h => absurd h List.not_mem_nil⟩⟩⟩⟩
theorem kl_12_161 : kLp "BonnetValley" (161, 2, 1, 1, .ref 0) := pm_lk2 (ci := 0) (T := kT_0) (N := 9) (Or.inl kw_100) kPn_1 kw_101 kw_102 rfl
theorem kl_12_164 : kLp "BonnetValley" (164, 2, 78, 0, .ref 8) := pm_lk2 (ci := 8) (T := kT_8) (N := 8) (Or.inl kw_103) kPn_78 kw_104 kw_105 rfl
theorem kl_12_167 : kLp "BonnetValley" (167, 2, 106, 1, .ref 10) := pm_lk2 (ci := 10) (T := kT_10) (N := 8) (Or.inl kw_106) kPn_106 kw_107 kw_108 rfl
theorem kl_12_173 : kLp "BonnetValley" (173, 6, 10, 3, .null) := pm_lk6 (T := kT_10) (N := 8) rfl (Nat.le_of_ble_eq_true rfl) kw_109
theorem kLc_12_10 : ∀ q ∈ kLk_12_10, kLp "BonnetValley" q := List.forall_mem_cons.mpr ⟨kl_12_161, List.forall_mem_cons.mpr ⟨kl_12_164, List.forall_mem_cons.mpr ⟨kl_12_167, List.forall_mem_cons.mpr ⟨kl_12_173, fun _ h => absurd h List.not_mem_nil⟩⟩⟩⟩
theorem kl_12_177 : kLp "BonnetValley" (177, 6, 10, 4, .null) := pm_lk6 (T := kT_10) (N := 8) rfl (Nat.le_of_ble_eq_true rfl) kw_110
theorem kl_12_180 : kLp "BonnetValley" (180, 6, 10, 5, .null) := pm_lk6 (T := kT_10) (N := 8) rfl (Nat.le_of_ble_eq_true rfl) kw_111
theorem kl_12_183 : kLp "BonnetValley" (183, 6, 10, 6, .null) := pm_lk6 (T := kT_10) (N := 8) rfl (Nat.le_of_ble_eq_true rfl) kw_112
theorem kl_12_186 : kLp "BonnetValley" (186, 2, 79, 2, .ref 8) := pm_lk2 (ci := 8) (T := kT_8) (N := 8) (Or.inl kw_113) kPn_79 kw_114 kw_115 rfl
theorem kl_12_190 : kLp "BonnetValley" (190, 2, 82, 2, .ref 8) := pm_lk2 (ci := 8) (T := kT_8) (N := 8) (Or.inl kw_116) kPn_82 kw_117 kw_118 rfl
theorem kLc_12_11 : ∀ q ∈ kLk_12_11, kLp "BonnetValley" q := List.forall_mem_cons.mpr ⟨kl_12_177, List.forall_mem_cons.mpr ⟨kl_12_180, List.forall_mem_cons.mpr ⟨kl_12_183, List.forall_mem_cons.mpr ⟨kl_12_186, List.forall_mem_cons.mpr ⟨kl_12_190, fun _ h => absurd h List.not_mem_nil⟩⟩⟩⟩⟩
theorem kl_12_194 : kLp "BonnetValley" (194, 2, 114, 1, .ref 10) := pm_lk2 (ci := 10) (T := kT_10) (N := 8) (Or.inl kw_119) kPn_114 kw_120 kw_121 rfl
theorem kl_12_198 : kLp "BonnetValley" (198, 2, 107, 1, .ref 10) := pm_lk2 (ci := 10) (T := kT_10) (N := 8) (Or.inl kw_122) kPn_107 kw_123 kw_124 rfl
theorem kl_12_201 : kLp "BonnetValley" (201, 6, 10, 7, .null) := pm_lk6 (T := kT_10) (N := 8) rfl (Nat.le_of_ble_eq_true rfl) kw_125
theorem kl_12_204 : kLp "BonnetValley" (204, 2, 110, 1, .ref 10) := pm_lk2 (ci := 10) (T := kT_10) (N := 8) (Or.inl kw_126) kPn_110 kw_127 kw_128 rfl
theorem kLc_12_12 : ∀ q ∈ kLk_12_12, kLp "BonnetValley" q := List.forall_mem_cons.mpr ⟨kl_12_194, List.forall_mem_cons.mpr ⟨kl_12_198, List.forall_mem_cons.mpr ⟨kl_12_201, List.forall_mem_cons.mpr ⟨kl_12_204, fun _ h => absurd h List.not_mem_nil⟩⟩⟩⟩
theorem kl_12_208 : kLp "BonnetValley" (208, 2, 84, 1, .ref 8) := pm_lk2 (ci := 8) (T := kT_8) (N := 8) (Or.inl kw_129) kPn_84 kw_130 kw_131 rfl
theorem kl_12_212 : kLp "BonnetValley" (212, 2, 88, 2, .ref 8) := pm_lk2 (ci := 8) (T := kT_8) (N := 8) (Or.inl kw_132) kPn_88 kw_133 kw_134 rfl
theorem kl_12_215 : kLp "BonnetValley" (215, 1, 328, 2, .null) := pm_lk1 (Or.inl kw_135) kPn_328 kw_136
theorem kl_12_221 : kLp "BonnetValley" (221, 1, 132, 2, .null) := pm_lk1 (Or.inl kw_137) kPn_132 kw_138
theorem kLc_12_13 : ∀ q ∈ kLk_12_13, kLp "BonnetValley" q := List.forall_mem_cons.mpr ⟨kl_12_208, List.forall_mem_cons.mpr ⟨kl_12_212, List.forall_mem_cons.mpr ⟨kl_12_215, List.forall_mem_cons.mpr ⟨kl_12_221, fun _ h => absurd h List.not_mem_nil⟩⟩⟩⟩
theorem kl_12_224 : kLp "BonnetValley" (224, 2, 112, 0, .ref 10) := pm_lk2 (ci := 10) (T := kT_10) (N := 8) (Or.inl kw_139) kPn_112 kw_140 kw_141 rfl
theorem kl_12_227 : kLp "BonnetValley" (227, 16, 0, 0, .null) := pm_lk16 kw_142
theorem kl_12_232 : kLp "BonnetValley" (232, 15, 0, 0, .null) := pm_lk15 kw_143
theorem kl_12_235 : kLp "BonnetValley" (235, 2, 103, 1, .ref 10) := pm_lk2 (ci := 10) (T := kT_10) (N := 8) (Or.inl kw_144) kPn_103 kw_145 kw_146 rfl
theorem kl_12_239 : kLp "BonnetValley" (239, 2, 92, 2, .ref 8) := pm_lk2 (ci := 8) (T := kT_8) (N := 8) (Or.inl kw_147) kPn_92 kw_148 kw_149 rfl
theorem kLc_12_14 : ∀ q ∈ kLk_12_14, kLp "BonnetValley" q := List.forall_mem_cons.mpr ⟨kl_12_224, List.forall_mem_cons.mpr ⟨kl_12_227, List.forall_mem_cons.mpr ⟨kl_12_232, List.forall_mem_cons.mpr ⟨kl_12_235, List.forall_mem_cons.mpr ⟨kl_12_239, fun _ h => absurd h List.not_mem_nil⟩⟩⟩⟩⟩
theorem kl_12_242 : kLp "BonnetValley" (242, 2, 140, 1, .ref 12) := pm_lk2 (ci := 12) (T := kT_12) (N := 15) (Or.inl kw_150) kPn_140 kw_151 kw_152 rfl
theorem kl_12_245 : kLp "BonnetValley" (245, 2, 57, 0, .ref 5) := pm_lk2 (ci := 5) (T := kT_5) (N := 2) (Or.inl kw_153) kPn_57 kw_154 kw_155 rfl
theorem kl_12_249 : kLp "BonnetValley" (249, 2, 108, 0, .ref 10) := pm_lk2 (ci := 10) (T := kT_10) (N := 8) (Or.inl kw_156) kPn_108 kw_157 kw_158 rfl
theorem kl_12_252 : kLp "BonnetValley" (252, 2, 58, 1, .ref 5) := pm_lk2 (ci := 5) (T := kT_5) (N := 2) (Or.inl kw_159) kPn_58 kw_160 kw_161 rfl
theorem kLc_12_15 : ∀ q ∈ kLk_12_15, kLp "BonnetValley" q := List.forall_mem_cons.mpr ⟨kl_12_242, List.forall_mem_cons.mpr ⟨kl_12_245, List.forall_mem_cons.mpr ⟨kl_12_249, List.forall_mem_cons.mpr ⟨kl_12_252, fun _ h => absurd h List.not_mem_nil⟩⟩⟩⟩
theorem kl_12_256 : kLp "BonnetValley" (256, 2, 109, 0, .ref 10) := pm_lk2 (ci := 10) (T := kT_10) (N := 8) (Or.inl kw_162) kPn_109 kw_163 kw_164 rfl
theorem kl_12_259 : kLp "BonnetValley" (259, 2, 142, 2, .ref 12) := pm_lk2 (ci := 12) (T := kT_12) (N := 15) (Or.inl kw_165) kPn_142 kw_166 kw_167 rfl
theorem kl_12_262 : kLp "BonnetValley" (262, 2, 143, 2, .ref 12) := pm_lk2 (ci := 12) (T := kT_12) (N := 15) (Or.inl kw_168) kPn_143 kw_169 kw_170 rfl
theorem kl_12_265 : kLp "BonnetValley" (265, 2, 144, 2, .ref 12) := pm_lk2 (ci := 12) (T := kT_12) (N := 15) (Or.inl kw_171) kPn_144 kw_172 kw_173 rfl
theorem kl_12_268 : kLp "BonnetValley" (268, 2, 145, 2, .ref 12) := pm_lk2 (ci := 12) (T := kT_12) (N := 15) (Or.inl kw_174) kPn_145 kw_175 kw_176 rfl
theorem kl_12_271 : kLp "BonnetValley" (271, 2, 65, 1, .ref 6) := pm_lk2 (ci := 6) (T := kT_6) (N := 3) (Or.inl kw_177) kPn_65 kw_178 kw_179 rfl
theorem kLc_12_16 : ∀ q ∈ kLk_12_16, kLp "BonnetValley" q := List.forall_mem_cons.mpr ⟨kl_12_256, List.forall_mem_cons.mpr ⟨kl_12_259, List.forall_mem_cons.mpr ⟨kl_12_262, List.forall_mem_cons.mpr ⟨kl_12_265, List.forall_mem_cons.mpr ⟨kl_12_268, List.forall_mem_cons.mpr ⟨kl_12_271, fun _ h => absurd h List.not_mem_nil⟩⟩⟩⟩⟩⟩
theorem kl_12_272 : kLp "BonnetValley" (272, 2, 62, 0, .ref 6) := pm_lk2 (ci := 6) (T := kT_6) (N := 3) (Or.inl kw_180) kPn_62 kw_181 kw_182 rfl
theorem kl_12_275 : kLp "BonnetValley" (275, 2, 141, 1, .ref 12) := pm_lk2 (ci := 12) (T := kT_12) (N := 15) (Or.inl kw_183) kPn_141 kw_184 kw_185 rfl
theorem kl_12_278 : kLp "BonnetValley" (278, 2, 28, 1, .ref 2) := pm_lk2 (ci := 2) (T := kT_2) (N := 5) (Or.inl kw_186) kPn_28 kw_187 kw_188 rfl
theorem kl_12_281 : kLp "BonnetValley" (281, 6, 10, 2, .null) := pm_lk6 (T := kT_10) (N := 8) rfl (Nat.le_of_ble_eq_true rfl) kw_189
theorem kl_12_284 : kLp "BonnetValley" (284, 2, 29, 1, .ref 2) := pm_lk2 (ci := 2) (T := kT_2) (N := 5) (Or.inl kw_190) kPn_29 kw_191 kw_192 rfl
theorem kLc_12_17 : ∀ q ∈ kLk_12_17, kLp "BonnetValley" q := List.forall_mem_cons.mpr ⟨kl_12_272, List.forall_mem_cons.mpr ⟨kl_12_275, List.forall_mem_cons.mpr ⟨kl_12_278, List.forall_mem_cons.mpr ⟨kl_12_281, List.forall_mem_cons.mpr ⟨kl_12_284, fun _ h => absurd h List.not_mem_nil⟩⟩⟩⟩⟩
theorem kl_12_288 : kLp "BonnetValley" (288, 2, 27, 0, .ref 2) := pm_lk2 (ci := 2) (T := kT_2) (N := 5) (Or.inl kw_193) kPn_27 kw_194 kw_195 rfl
theorem kl_12_289 : kLp "BonnetValley" (289, 2, 64, 2, .ref 6) := pm_lk2 (ci := 6) (T := kT_6) (N := 3) (Or.inl kw_196) kPn_64 kw_197 kw_198 rfl
theorem kl_12_290 : kLp "BonnetValley" (290, 2, 63, 1, .ref 6) := pm_lk2 (ci := 6) (T := kT_6) (N := 3) (Or.inl kw_199) kPn_63 kw_200 kw_201 rfl
theorem kl_12_293 : kLp "BonnetValley" (293, 1, 146, 1, .null) := pm_lk1 (Or.inl kw_202) kPn_146 kw_203
theorem kl_12_296 : kLp "BonnetValley" (296, 1, 47, 2, .null) := pm_lk1 (Or.inl kw_204) kPn_47 kw_205
theorem kl_12_299 : kLp "BonnetValley" (299, 2, 46, 2, .ref 3) := pm_lk2 (ci := 3) (T := kT_3) (N := 9) (Or.inl kw_206) kPn_46 kw_207 kw_208 rfl
theorem kl_12_302 : kLp "BonnetValley" (302, 2, 40, 1, .ref 3) := pm_lk2 (ci := 3) (T := kT_3) (N := 9) (Or.inl kw_209) kPn_40 kw_210 kw_211 rfl
theorem kLc_12_18 : ∀ q ∈ kLk_12_18, kLp "BonnetValley" q := List.forall_mem_cons.mpr ⟨kl_12_288, List.forall_mem_cons.mpr ⟨kl_12_289, List.forall_mem_cons.mpr ⟨kl_12_290, List.forall_mem_cons.mpr ⟨kl_12_293, List.forall_mem_cons.mpr ⟨kl_12_296, List.forall_mem_cons.mpr ⟨kl_12_299, List.forall_mem_cons.mpr ⟨kl_12_302, fun _ h => absurd h List.not_mem_nil⟩⟩⟩⟩⟩⟩⟩
theorem kl_12_305 : kLp "BonnetValley" (305, 1, 305, 1, .null) := pm_lk1 (Or.inl kw_212) kPn_305 kw_213
theorem kl_12_310 : kLp "BonnetValley" (310, 2, 113, 1, .ref 10) := pm_lk2 (ci := 10) (T := kT_10) (N := 8) (Or.inl kw_214) kPn_113 kw_215 kw_216 rfl
theorem kl_12_313 : kLp "BonnetValley" (313, 1, 303, 1, .null) := pm_lk1 (Or.inl kw_217) kPn_303 kw_218
theorem kl_12_317 : kLp "BonnetValley" (317, 2, 41, 0, .ref 3) := pm_lk2 (ci := 3) (T := kT_3) (N := 9) (Or.inl kw_219) kPn_41 kw_220 kw_221 rfl
theorem kLc_12_19 : ∀ q ∈ kLk_12_19, kLp "BonnetValley" q := List.forall_mem_cons.mpr ⟨kl_12_305, List.forall_mem_cons.mpr ⟨kl_12_310, List.forall_mem_cons.mpr ⟨kl_12_313, List.forall_mem_cons.mpr ⟨kl_12_317, fun _ h => absurd h List.not_mem_nil⟩⟩⟩⟩
theorem kl_12_321 : kLp "BonnetValley" (321, 2, 89, 3, .ref 8) := pm_lk2 (ci := 8) (T := kT_8) (N := 8) (Or.inl kw_222) kPn_89 kw_223 kw_224 rfl
theorem kl_12_325 : kLp "BonnetValley" (325, 2, 90, 3, .ref 8) := pm_lk2 (ci := 8) (T := kT_8) (N := 8) (Or.inl kw_225) kPn_90 kw_226 kw_227 rfl
theorem kl_12_328 : kLp "BonnetValley" (328, 2, 86, 1, .ref 8) := pm_lk2 (ci := 8) (T := kT_8) (N := 8) (Or.inl kw_228) kPn_86 kw_229 kw_230 rfl
theorem kl_12_332 : kLp "BonnetValley" (332, 2, 87, 2, .ref 8) := pm_lk2 (ci := 8) (T := kT_8) (N := 8) (Or.inl kw_231) kPn_87 kw_232 kw_233 rfl
theorem kl_12_335 : kLp "BonnetValley" (335, 2, 111, 0, .ref 10) := pm_lk2 (ci := 10) (T := kT_10) (N := 8) (Or.inl kw_234) kPn_111 kw_235 kw_236 rfl
theorem kLc_12_20 : ∀ q ∈ kLk_12_20, kLp "BonnetValley" q := List.forall_mem_cons.mpr ⟨kl_12_321, List.forall_mem_cons.mpr ⟨kl_12_325, List.forall_mem_cons.mpr ⟨kl_12_328, List.forall_mem_cons.mpr ⟨kl_12_332, List.forall_mem_cons.mpr ⟨kl_12_335, fun _ h => absurd h List.not_mem_nil⟩⟩⟩⟩⟩
theorem kl_12_338 : kLp "BonnetValley" (338, 2, 91, 2, .ref 8) := pm_lk2 (ci := 8) (T := kT_8) (N := 8) (Or.inl kw_237) kPn_91 kw_238 kw_239 rfl
theorem kl_12_341 : kLp "BonnetValley" (341, 2, 162, 3, .ref 12) := pm_lk2 (ci := 12) (T := kT_12) (N := 15) (Or.inl kw_240) kPn_162 kw_241 kw_242 rfl
theorem kl_12_345 : kLp "BonnetValley" (345, 1, 163, 2, .null) := pm_lk1 (Or.inl kw_243) kPn_163 kw_244
theorem kl_12_349 : kLp "BonnetValley" (349, 2, 116, 3, .ref 11) := pm_lk2 (ci := 11) (T := kT_11) (N := 2) (Or.inl kw_245) kPn_116 kw_246 kw_247 rfl
theorem kLc_12_21 : ∀ q ∈ kLk_12_21, kLp "BonnetValley" q := List.forall_mem_cons.mpr ⟨kl_12_338, List.forall_mem_cons.mpr ⟨kl_12_341, List.forall_mem_cons.mpr ⟨kl_12_345, List.forall_mem_cons.mpr ⟨kl_12_349, fun _ h => absurd h List.not_mem_nil⟩⟩⟩⟩
theorem kl_12_352 : kLp "BonnetValley" (352, 2, 117, 1, .ref 11) := pm_lk2 (ci := 11) (T := kT_11) (N := 2) (Or.inl kw_248) kPn_117 kw_249 kw_250 rfl
theorem kl_12_356 : kLp "BonnetValley" (356, 2, 120, 2, .ref 11) := pm_lk2 (ci := 11) (T := kT_11) (N := 2) (Or.inl kw_251) kPn_120 kw_252 kw_253 rfl
theorem kl_12_360 : kLp "BonnetValley" (360, 2, 83, 3, .ref 8) := pm_lk2 (ci := 8) (T := kT_8) (N := 8) (Or.inl kw_254) kPn_83 kw_255 kw_256 rfl
theorem kl_12_364 : kLp "BonnetValley" (364, 2, 80, 3, .ref 8) := pm_lk2 (ci := 8) (T := kT_8) (N := 8) (Or.inl kw_257) kPn_80 kw_258 kw_259 rfl
theorem kLc_12_22 : ∀ q ∈ kLk_12_22, kLp "BonnetValley" q := List.forall_mem_cons.mpr ⟨kl_12_352, List.forall_mem_cons.mpr ⟨kl_12_356, List.forall_mem_cons.mpr ⟨kl_12_360, List.forall_mem_cons.mpr ⟨kl_12_364, fun _ h => absurd h List.not_mem_nil⟩⟩⟩⟩
theorem kl_12_368 : kLp "BonnetValley" (368, 2, 48, 4, .ref 3) := pm_lk2 (ci := 3) (T := kT_3) (N := 9) (Or.inl kw_260) kPn_48 kw_261 kw_262 rfl
theorem kl_12_371 : kLp "BonnetValley" (371, 2, 71, 4, .ref 7) := pm_lk2 (ci := 7) (T := kT_7) (N := 3) (Or.inl kw_263) kPn_71 kw_264 kw_265 rfl
theorem kl_12_375 : kLp "BonnetValley" (375, 2, 70, 1, .ref 7) := pm_lk2 (ci := 7) (T := kT_7) (N := 3) (Or.inl kw_266) kPn_70 kw_267 kw_268 rfl
theorem kl_12_377 : kLp "BonnetValley" (377, 2, 16, 0, .ref 1) := pm_lk2 (ci := 1) (T := kT_1) (N := 4) (Or.inl kw_269) kPn_16 kw_270 kw_271 rfl
theorem kl_12_380 : kLp "BonnetValley" (380, 2, 17, 1, .ref 1) := pm_lk2 (ci := 1) (T := kT_1) (N := 4) (Or.inl kw_272) kPn_17 kw_273 kw_274 rfl
theorem kl_12_383 : kLp "BonnetValley" (383, 2, 18, 2, .ref 1) := pm_lk2 (ci := 1) (T := kT_1) (N := 4) (Or.inl kw_275) kPn_18 kw_276 kw_277 rfl
theorem kLc_12_23 : ∀ q ∈ kLk_12_23, kLp "BonnetValley" q := List.forall_mem_cons.mpr ⟨kl_12_368, List.forall_mem_cons.mpr ⟨kl_12_371, List.forall_mem_cons.mpr ⟨kl_12_375, List.forall_mem_cons.mpr ⟨kl_12_377, List.forall_mem_cons.mpr ⟨kl_12_380, List.forall_mem_cons.mpr ⟨kl_12_383, fun _ h => absurd h List.not_mem_nil⟩⟩⟩⟩⟩⟩
theorem kl_12_387 : kLp "BonnetValley" (387, 2, 20, 2, .ref 1) := pm_lk2 (ci := 1) (T := kT_1) (N := 4) (Or.inl kw_278) kPn_20 kw_279 kw_280 rfl
theorem kl_12_390 : kLp "BonnetValley" (390, 2, 85, 2, .ref 8) := pm_lk2 (ci := 8) (T := kT_8) (N := 8) (Or.inl kw_281) kPn_85 kw_282 kw_283 rfl
theorem kl_12_394 : kLp "BonnetValley" (394, 2, 21, 2, .ref 1) := pm_lk2 (ci := 1) (T := kT_1) (N := 4) (Or.inl kw_284) kPn_21 kw_285 kw_286 rfl
theorem kl_12_398 : kLp "BonnetValley" (398, 2, 24, 1, .ref 1) := pm_lk2 (ci := 1) (T := kT_1) (N := 4) (Or.inl kw_287) kPn_24 kw_288 kw_289 rfl
theorem kLc_12_24 : ∀ q ∈ kLk_12_24, kLp "BonnetValley" q := List.forall_mem_cons.mpr ⟨kl_12_387, List.forall_mem_cons.mpr ⟨kl_12_390, List.forall_mem_cons.mpr ⟨kl_12_394, List.forall_mem_cons.mpr ⟨kl_12_398, fun _ h => absurd h List.not_mem_nil⟩⟩⟩⟩
theorem kl_12_401 : kLp "BonnetValley" (401, 2, 176, 1, .ref 12) := pm_lk2 (ci := 12) (T := kT_12) (N := 15) (Or.inl kw_290) kPn_176 kw_291 kw_292 rfl
theorem kl_12_404 : kLp "BonnetValley" (404, 2, 25, 1, .ref 1) := pm_lk2 (ci := 1) (T := kT_1) (N := 4) (Or.inl kw_293) kPn_25 kw_294 kw_295 rfl
theorem kl_12_407 : kLp "BonnetValley" (407, 2, 31, 2, .ref 2) := pm_lk2 (ci := 2) (T := kT_2) (N := 5) (Or.inl kw_296) kPn_31 kw_297 kw_298 rfl
theorem kl_12_411 : kLp "BonnetValley" (411, 2, 32, 2, .ref 2) := pm_lk2 (ci := 2) (T := kT_2) (N := 5) (Or.inl kw_299) kPn_32 kw_300 kw_301 rfl
theorem kl_12_414 : kLp "BonnetValley" (414, 2, 37, 0, .ref 3) := pm_lk2 (ci := 3) (T := kT_3) (N := 9) (Or.inl kw_302) kPn_37 kw_303 kw_304 rfl
theorem kLc_12_25 : ∀ q ∈ kLk_12_25, kLp "BonnetValley" q := List.forall_mem_cons.mpr ⟨kl_12_401, List.forall_mem_cons.mpr ⟨kl_12_404, List.forall_mem_cons.mpr ⟨kl_12_407, List.forall_mem_cons.mpr ⟨kl_12_411, List.forall_mem_cons.mpr ⟨kl_12_414, fun _ h => absurd h List.not_mem_nil⟩⟩⟩⟩⟩
theorem kl_12_417 : kLp "BonnetValley" (417, 2, 38, 0, .ref 3) := pm_lk2 (ci := 3) (T := kT_3) (N := 9) (Or.inl kw_305) kPn_38 kw_306 kw_307 rfl
theorem kl_12_420 : kLp "BonnetValley" (420, 2, 76, 1, .ref 8) := pm_lk2 (ci := 8) (T := kT_8) (N := 8) (Or.inl kw_308) kPn_76 kw_309 kw_310 rfl
theorem kl_12_423 : kLp "BonnetValley" (423, 2, 59, 0, .ref 5) := pm_lk2 (ci := 5) (T := kT_5) (N := 2) (Or.inl kw_311) kPn_59 kw_312 kw_313 rfl
theorem kl_12_424 : kLp "BonnetValley" (424, 2, 60, 1, .ref 5) := pm_lk2 (ci := 5) (T := kT_5) (N := 2) (Or.inl kw_314) kPn_60 kw_315 kw_316 rfl
theorem kLc_12_26 : ∀ q ∈ kLk_12_26, kLp "BonnetValley" q := List.forall_mem_cons.mpr ⟨kl_12_417, List.forall_mem_cons.mpr ⟨kl_12_420, List.forall_mem_cons.mpr ⟨kl_12_423, List.forall_mem_cons.mpr ⟨kl_12_424, fun _ h => absurd h List.not_mem_nil⟩⟩⟩⟩
theorem kLd_12 : ∀ c ∈ kLo_12, ∀ q ∈ c, kLp "BonnetValley" q := List.forall_mem_cons.mpr ⟨kLc_12_0, List.forall_mem_cons.mpr ⟨kLc_12_1, List.forall_mem_cons.mpr ⟨kLc_12_2, List.forall_mem_cons.mpr ⟨kLc_12_3, List.forall_mem_cons.mpr ⟨kLc_12_4, List.forall_mem_cons.mpr ⟨kLc_12_5, List.forall_mem_cons.mpr ⟨kLc_12_6, List.forall_mem_cons.mpr ⟨kLc_12_7, List.forall_mem_cons.mpr ⟨kLc_12_8, List.forall_mem_cons.mpr ⟨kLc_12_9, List.forall_mem_cons.mpr ⟨kLc_12_10, List.forall_mem_cons.mpr ⟨kLc_12_11, List.forall_mem_cons.mpr ⟨kLc_12_12, List.forall_mem_cons.mpr ⟨kLc_12_13, List.forall_mem_cons.mpr ⟨kLc_12_14, List.forall_mem_cons.mpr ⟨kLc_12_15, List.forall_mem_cons.mpr ⟨kLc_12_16, List.forall_mem_cons.mpr ⟨kLc_12_17, List.forall_mem_cons.mpr ⟨kLc_12_18, List.forall_mem_cons.mpr ⟨kLc_12_19, List.forall_mem_cons.mpr ⟨kLc_12_20, List.forall_mem_cons.mpr ⟨kLc_12_21, List.forall_mem_cons.mpr ⟨kLc_12_22, List.forall_mem_cons.mpr ⟨kLc_12_23, List.forall_mem_cons.mpr ⟨kLc_12_24, List.forall_mem_cons.mpr ⟨kLc_12_25, List.forall_mem_cons.mpr ⟨kLc_12_26, fun _ h => absurd h List.not_mem_nil⟩⟩⟩⟩⟩⟩⟩⟩⟩⟩⟩⟩⟩⟩⟩⟩⟩⟩⟩⟩⟩⟩⟩⟩⟩⟩⟩
theorem kl_13_3 : kLp "BonnetValleyModel" (3, 6, 13, 0, .null) := pm_lk6 (T := kT_13) (N := 49) rfl (Nat.le_of_ble_eq_true rfl) kw_845
theorem kl_13_7 : kLp "BonnetValleyModel" (7, 1, 185, 2, .null) := pm_lk1 (Or.inl kw_846) kPn_185 kw_847
theorem kl_13_11 : kLp "BonnetValleyModel" (11, 6, 13, 2, .null) := pm_lk6 (T := kT_13) (N := 49) rfl (Nat.le_of_ble_eq_true rfl) kw_848
theorem kl_13_15 : kLp "BonnetValleyModel" (15, 6, 13, 1, .null) := pm_lk6 (T := kT_13) (N := 49) rfl (Nat.le_of_ble_eq_true rfl) kw_849
theorem kLc_13_0 : ∀ q ∈ kLk_13_0, kLp "BonnetValleyModel" q := List.forall_mem_cons.mpr ⟨kl_13_3, List.forall_mem_cons.mpr ⟨kl_13_7, List.forall_mem_cons.mpr ⟨kl_13_11, List.forall_mem_cons.mpr ⟨kl_13_15, fun _ h => absurd h List.not_mem_nil⟩⟩⟩⟩
theorem kl_13_18 : kLp "BonnetValleyModel" (18, 4, 0, 0, .null) := pm_lk4 kw_850
theorem kl_13_24 : kLp "BonnetValleyModel" (24, 6, 13, 3, .null) := pm_lk6 (T := kT_13) (N := 49) rfl (Nat.le_of_ble_eq_true rfl) kw_851
theorem kl_13_27 : kLp "BonnetValleyModel" (27, 6, 13, 4, .null) := pm_lk6 (T := kT_13) (N := 49) rfl (Nat.le_of_ble_eq_true rfl) kw_852
theorem kl_13_30 : kLp "BonnetValleyModel" (30, 6, 13, 8, .null) := pm_lk6 (T := kT_13) (N := 49) rfl (Nat.le_of_ble_eq_true rfl) kw_853
theorem kLc_13_1 : ∀ q ∈ kLk_13_1, kLp "BonnetValleyModel" q := List.forall_mem_cons.mpr ⟨kl_13_18, List.forall_mem_cons.mpr ⟨kl_13_24, List.forall_mem_cons.mpr ⟨kl_13_27, List.forall_mem_cons.mpr ⟨kl_13_30, fun _ h => absurd h List.not_mem_nil⟩⟩⟩⟩
theorem kl_13_33 : kLp "BonnetValleyModel" (33, 6, 13, 9, .null) := pm_lk6 (T := kT_13) (N := 49) rfl (Nat.le_of_ble_eq_true rfl) kw_854
theorem kl_13_37 : kLp "BonnetValleyModel" (37, 6, 13, 10, .null) := pm_lk6 (T := kT_13) (N := 49) rfl (Nat.le_of_ble_eq_true rfl) kw_855
theorem kl_13_41 : kLp "BonnetValleyModel" (41, 6, 13, 11, .null) := pm_lk6 (T := kT_13) (N := 49) rfl (Nat.le_of_ble_eq_true rfl) kw_856
theorem kl_13_44 : kLp "BonnetValleyModel" (44, 6, 13, 12, .null) := pm_lk6 (T := kT_13) (N := 49) rfl (Nat.le_of_ble_eq_true rfl) kw_857
theorem kl_13_47 : kLp "BonnetValleyModel" (47, 6, 13, 13, .null) := pm_lk6 (T := kT_13) (N := 49) rfl (Nat.le_of_ble_eq_true rfl) kw_858
theorem kLc_13_2 : ∀ q ∈ kLk_13_2, kLp "BonnetValleyModel" q := List.forall_mem_cons.mpr ⟨kl_13_33, List.forall_mem_cons.mpr ⟨kl_13_37, List.forall_mem_cons.mpr ⟨kl_13_41, List.forall_mem_cons.mpr ⟨kl_13_44, List.forall_mem_cons.mpr ⟨kl_13_47, fun _ h => absurd h List.not_mem_nil⟩⟩⟩⟩⟩
theorem kl_13_50 : kLp "BonnetValleyModel" (50, 6, 13, 18, .null) := pm_lk6 (T := kT_13) (N := 49) rfl (Nat.le_of_ble_eq_true rfl) kw_859
theorem kl_13_53 : kLp "BonnetValleyModel" (53, 6, 13, 19, .null) := pm_lk6 (T := kT_13) (N := 49) rfl (Nat.le_of_ble_eq_true rfl) kw_860
theorem kl_13_56 : kLp "BonnetValleyModel" (56, 6, 13, 21, .null) := pm_lk6 (T := kT_13) (N := 49) rfl (Nat.le_of_ble_eq_true rfl) kw_861
theorem kl_13_59 : kLp "BonnetValleyModel" (59, 6, 13, 22, .null) := pm_lk6 (T := kT_13) (N := 49) rfl (Nat.le_of_ble_eq_true rfl) kw_862
theorem kl_13_62 : kLp "BonnetValleyModel" (62, 6, 13, 25, .null) := pm_lk6 (T := kT_13) (N := 49) rfl (Nat.le_of_ble_eq_true rfl) kw_863
theorem kLc_13_3 : ∀ q ∈ kLk_13_3, kLp "BonnetValleyModel" q := List.forall_mem_cons.mpr ⟨kl_13_50, List.forall_mem_cons.mpr ⟨kl_13_53, List.forall_mem_cons.mpr ⟨kl_13_56, List.forall_mem_cons.mpr ⟨kl_13_59, List.forall_mem_cons.mpr ⟨kl_13_62, fun _ h => absurd h List.not_mem_nil⟩⟩⟩⟩⟩
theorem kl_13_65 : kLp "BonnetValleyModel" (65, 6, 13, 26, .null) := pm_lk6 (T := kT_13) (N := 49) rfl (Nat.le_of_ble_eq_true rfl) kw_864
theorem kl_13_68 : kLp "BonnetValleyModel" (68, 6, 13, 28, .null) := pm_lk6 (T := kT_13) (N := 49) rfl (Nat.le_of_ble_eq_true rfl) kw_865
theorem kl_13_71 : kLp "BonnetValleyModel" (71, 6, 13, 29, .null) := pm_lk6 (T := kT_13) (N := 49) rfl (Nat.le_of_ble_eq_true rfl) kw_866
theorem kl_13_74 : kLp "BonnetValleyModel" (74, 6, 13, 30, .null) := pm_lk6 (T := kT_13) (N := 49) rfl (Nat.le_of_ble_eq_true rfl) kw_867
theorem kl_13_77 : kLp "BonnetValleyModel" (77, 6, 13, 31, .null) := pm_lk6 (T := kT_13) (N := 49) rfl (Nat.le_of_ble_eq_true rfl) kw_868
theorem kLc_13_4 : ∀ q ∈ kLk_13_4, kLp "BonnetValleyModel" q := List.forall_mem_cons.mpr ⟨kl_13_65, List.forall_mem_cons.mpr ⟨kl_13_68, List.forall_mem_cons.mpr ⟨kl_13_71, List.forall_mem_cons.mpr ⟨kl_13_74, List.forall_mem_cons.mpr ⟨kl_13_77, fun _ h => absurd h List.not_mem_nil⟩⟩⟩⟩⟩
theorem kl_13_80 : kLp "BonnetValleyModel" (80, 6, 13, 32, .null) := pm_lk6 (T := kT_13) (N := 49) rfl (Nat.le_of_ble_eq_true rfl) kw_869
theorem kl_13_83 : kLp "BonnetValleyModel" (83, 6, 13, 33, .null) := pm_lk6 (T := kT_13) (N := 49) rfl (Nat.le_of_ble_eq_true rfl) kw_870
theorem kl_13_86 : kLp "BonnetValleyModel" (86, 6, 13, 35, .null) := pm_lk6 (T := kT_13) (N := 49) rfl (Nat.le_of_ble_eq_true rfl) kw_871
theorem kl_13_89 : kLp "BonnetValleyModel" (89, 6, 13, 36, .null) := pm_lk6 (T := kT_13) (N := 49) rfl (Nat.le_of_ble_eq_true rfl) kw_872
theorem kl_13_92 : kLp "BonnetValleyModel" (92, 6, 13, 37, .null) := pm_lk6 (T := kT_13) (N := 49) rfl (Nat.le_of_ble_eq_true rfl) kw_873
theorem kl_13_95 : kLp "BonnetValleyModel" (95, 6, 13, 38, .null) := pm_lk6 (T := kT_13) (N := 49) rfl (Nat.le_of_ble_eq_true rfl) kw_874
theorem kLc_13_5 : ∀ q ∈ kLk_13_5, kLp "BonnetValleyModel" q := List.forall_mem_cons.mpr ⟨kl_13_80, List.forall_mem_cons.mpr ⟨kl_13_83, List.forall_mem_cons.mpr ⟨kl_13_86, List.forall_mem_cons.mpr ⟨kl_13_89, List.forall_mem_cons.mpr ⟨kl_13_92, List.forall_mem_cons.mpr ⟨kl_13_95, fun _ h => absurd h List.not_mem_nil⟩⟩⟩⟩⟩⟩
theorem kl_13_98 : kLp "BonnetValleyModel" (98, 6, 13, 40, .null) := pm_lk6 (T := kT_13) (N := 49) rfl (Nat.le_of_ble_eq_true rfl) kw_875
theorem kl_13_101 : kLp "BonnetValleyModel" (101, 6, 13, 41, .null) := pm_lk6 (T := kT_13) (N := 49) rfl (Nat.le_of_ble_eq_true rfl) kw_876
theorem kl_13_104 : kLp "BonnetValleyModel" (104, 6, 13, 42, .null) := pm_lk6 (T := kT_13) (N := 49) rfl (Nat.le_of_ble_eq_true rfl) kw_877
theorem kl_13_107 : kLp "BonnetValleyModel" (107, 6, 13, 43, .null) := pm_lk6 (T := kT_13) (N := 49) rfl (Nat.le_of_ble_eq_true rfl) kw_878
theorem kl_13_110 : kLp "BonnetValleyModel" (110, 6, 13, 44, .null) := pm_lk6 (T := kT_13) (N := 49) rfl (Nat.le_of_ble_eq_true rfl) kw_879
theorem kLc_13_6 : ∀ q ∈ kLk_13_6, kLp "BonnetValleyModel" q := List.forall_mem_cons.mpr ⟨kl_13_98, List.forall_mem_cons.mpr ⟨kl_13_101, List.forall_mem_cons.mpr ⟨kl_13_104, List.forall_mem_cons.mpr ⟨kl_13_107, List.forall_mem_cons.mpr ⟨kl_13_110, fun _ h => absurd h List.not_mem_nil⟩⟩⟩⟩⟩
theorem kl_13_113 : kLp "BonnetValleyModel" (113, 6, 13, 46, .null) := pm_lk6 (T := kT_13) (N := 49) rfl (Nat.le_of_ble_eq_true rfl) kw_880
theorem kl_13_116 : kLp "BonnetValleyModel" (116, 6, 13, 47, .null) := pm_lk6 (T := kT_13) (N := 49) rfl (Nat.le_of_ble_eq_true rfl) kw_881
theorem kl_13_119 : kLp "BonnetValleyModel" (119, 6, 13, 48, .null) := pm_lk6 (T := kT_13) (N := 49) rfl (Nat.le_of_ble_eq_true rfl) kw_882
theorem kl_13_122 : kLp "BonnetValleyModel" (122, 2, 188, 0, .ref 13) := pm_lk2 (ci := 13) (T := kT_13) (N := 49) (Or.inl kw_883) kPn_188 kw_884 kw_885 rfl
theorem kl_13_126 : kLp "BonnetValleyModel" (126, 1, 182, 3, .null) := pm_lk1 (Or.inl kw_886) kPn_182 kw_887
theorem kLc_13_7 : ∀ q ∈ kLk_13_7, kLp "BonnetValleyModel" q := List.forall_mem_cons.mpr ⟨kl_13_113, List.forall_mem_cons.mpr ⟨kl_13_116, List.forall_mem_cons.mpr ⟨kl_13_119, List.forall_mem_cons.mpr ⟨kl_13_122, List.forall_mem_cons.mpr ⟨kl_13_126, fun _ h => absurd h List.not_mem_nil⟩⟩⟩⟩⟩
theorem kl_13_130 : kLp "BonnetValleyModel" (130, 6, 13, 5, .null) := pm_lk6 (T := kT_13) (N := 49) rfl (Nat.le_of_ble_eq_true rfl) kw_888
theorem kl_13_133 : kLp "BonnetValleyModel" (133, 6, 13, 6, .null) := pm_lk6 (T := kT_13) (N := 49) rfl (Nat.le_of_ble_eq_true rfl) kw_889
theorem kl_13_136 : kLp "BonnetValleyModel" (136, 6, 13, 14, .null) := pm_lk6 (T := kT_13) (N := 49) rfl (Nat.le_of_ble_eq_true rfl) kw_890
theorem kl_13_139 : kLp "BonnetValleyModel" (139, 6, 13, 15, .null) := pm_lk6 (T := kT_13) (N := 49) rfl (Nat.le_of_ble_eq_true rfl) kw_891
theorem kl_13_142 : kLp "BonnetValleyModel" (142, 6, 13, 17, .null) := pm_lk6 (T := kT_13) (N := 49) rfl (Nat.le_of_ble_eq_true rfl) kw_892
theorem kLc_13_8 : ∀ q ∈ kLk_13_8, kLp "BonnetValleyModel" q := List.forall_mem_cons.mpr ⟨kl_13_130, List.forall_mem_cons.mpr ⟨kl_13_133, List.forall_mem_cons.mpr ⟨kl_13_136, List.forall_mem_cons.mpr ⟨kl_13_139, List.forall_mem_cons.mpr ⟨kl_13_142, fun _ h => absurd h List.not_mem_nil⟩⟩⟩⟩⟩
theorem kl_13_145 : kLp "BonnetValleyModel" (145, 16, 0, 0, .null) := pm_lk16 kw_893
theorem kl_13_151 : kLp "BonnetValleyModel" (151, 6, 13, 16, .null) := pm_lk6 (T := kT_13) (N := 49) rfl (Nat.le_of_ble_eq_true rfl) kw_894
theorem kl_13_154 : kLp "BonnetValleyModel" (154, 1, 184, 1, .null) := pm_lk1 (Or.inl kw_895) kPn_184 kw_896
theorem kl_13_158 : kLp "BonnetValleyModel" (158, 11, 0, 0, .long (48)) := pm_lk11 kw_897
theorem kLc_13_9 : ∀ q ∈ kLk_13_9, kLp "BonnetValleyModel" q := List.forall_mem_cons.mpr ⟨kl_13_145, List.forall_mem_cons.mpr ⟨kl_13_151, List.forall_mem_cons.mpr ⟨kl_13_154, List.forall_mem_cons.mpr ⟨kl_13_158, fun _ h => absurd h List.not_mem_nil⟩⟩⟩⟩
theorem kl_13_160 : kLp "BonnetValleyModel" (160, 11, 0, 0, .long (57)) := pm_lk11 kw_898
theorem kl_13_162 : kLp "BonnetValleyModel" (162, 2, 306, 0, .null) := pm_lk2s (Or.inl kw_899) kPn_306 kw_900 kw_901 rfl
theorem kl_13_167 : kLp "BonnetValleyModel" (167, 2, 307, 1, .null) := pm_lk2s (Or.inl kw_902) kPn_307 kw_903 kw_904 rfl
theorem kl_13_171 : kLp "BonnetValleyModel" (171, 2, 197, 0, .ref 13) := pm_lk2 (ci := 13) (T := kT_13) (N := 49) (Or.inl kw_905) kPn_197 kw_906 kw_907 rfl
theorem kl_13_175 : kLp "BonnetValleyModel" (175, 2, 195, 1, .ref 13) := pm_lk2 (ci := 13) (T := kT_13) (N := 49) (Or.inl kw_908) kPn_195 kw_909 kw_910 rfl
theorem kLc_13_10 : ∀ q ∈ kLk_13_10, kLp "BonnetValleyModel" q := List.forall_mem_cons.mpr ⟨kl_13_160, List.forall_mem_cons.mpr ⟨kl_13_162, List.forall_mem_cons.mpr ⟨kl_13_167, List.forall_mem_cons.mpr ⟨kl_13_171, List.forall_mem_cons.mpr ⟨kl_13_175, fun _ h => absurd h List.not_mem_nil⟩⟩⟩⟩⟩
theorem kl_13_179 : kLp "BonnetValleyModel" (179, 2, 200, 2, .ref 13) := pm_lk2 (ci := 13) (T := kT_13) (N := 49) (Or.inl kw_911) kPn_200 kw_912 kw_913 rfl
theorem kl_13_182 : kLp "BonnetValleyModel" (182, 12, 0, 0, .ref 1048627) := pm_lk12 (tx := ".#") (by decide +kernel)
theorem kl_13_184 : kLp "BonnetValleyModel" (184, 2, 198, 1, .ref 13) := pm_lk2 (ci := 13) (T := kT_13) (N := 49) (Or.inl kw_914) kPn_198 kw_915 kw_916 rfl
theorem kl_13_188 : kLp "BonnetValleyModel" (188, 6, 13, 27, .null) := pm_lk6 (T := kT_13) (N := 49) rfl (Nat.le_of_ble_eq_true rfl) kw_917
theorem kl_13_191 : kLp "BonnetValleyModel" (191, 6, 13, 7, .null) := pm_lk6 (T := kT_13) (N := 49) rfl (Nat.le_of_ble_eq_true rfl) kw_918
theorem kLc_13_11 : ∀ q ∈ kLk_13_11, kLp "BonnetValleyModel" q := List.forall_mem_cons.mpr ⟨kl_13_179, List.forall_mem_cons.mpr ⟨kl_13_182, List.forall_mem_cons.mpr ⟨kl_13_184, List.forall_mem_cons.mpr ⟨kl_13_188, List.forall_mem_cons.mpr ⟨kl_13_191, fun _ h => absurd h List.not_mem_nil⟩⟩⟩⟩⟩
theorem kl_13_194 : kLp "BonnetValleyModel" (194, 6, 13, 39, .null) := pm_lk6 (T := kT_13) (N := 49) rfl (Nat.le_of_ble_eq_true rfl) kw_919
theorem kl_13_197 : kLp "BonnetValleyModel" (197, 6, 13, 20, .null) := pm_lk6 (T := kT_13) (N := 49) rfl (Nat.le_of_ble_eq_true rfl) kw_920
theorem kl_13_200 : kLp "BonnetValleyModel" (200, 2, 203, 0, .ref 13) := pm_lk2 (ci := 13) (T := kT_13) (N := 49) (Or.inl kw_921) kPn_203 kw_922 kw_923 rfl
theorem kl_13_203 : kLp "BonnetValleyModel" (203, 2, 204, 0, .ref 13) := pm_lk2 (ci := 13) (T := kT_13) (N := 49) (Or.inl kw_924) kPn_204 kw_925 kw_926 rfl
theorem kl_13_206 : kLp "BonnetValleyModel" (206, 2, 205, 0, .ref 13) := pm_lk2 (ci := 13) (T := kT_13) (N := 49) (Or.inl kw_927) kPn_205 kw_928 kw_929 rfl
theorem kLc_13_12 : ∀ q ∈ kLk_13_12, kLp "BonnetValleyModel" q := List.forall_mem_cons.mpr ⟨kl_13_194, List.forall_mem_cons.mpr ⟨kl_13_197, List.forall_mem_cons.mpr ⟨kl_13_200, List.forall_mem_cons.mpr ⟨kl_13_203, List.forall_mem_cons.mpr ⟨kl_13_206, fun _ h => absurd h List.not_mem_nil⟩⟩⟩⟩⟩
theorem kl_13_209 : kLp "BonnetValleyModel" (209, 2, 196, 1, .ref 13) := pm_lk2 (ci := 13) (T := kT_13) (N := 49) (Or.inl kw_930) kPn_196 kw_931 kw_932 rfl
theorem kl_13_213 : kLp "BonnetValleyModel" (213, 2, 201, 3, .ref 13) := pm_lk2 (ci := 13) (T := kT_13) (N := 49) (Or.inl kw_933) kPn_201 kw_934 kw_935 rfl
theorem kl_13_217 : kLp "BonnetValleyModel" (217, 2, 206, 2, .ref 13) := pm_lk2 (ci := 13) (T := kT_13) (N := 49) (Or.inl kw_936) kPn_206 kw_937 kw_938 rfl
theorem kl_13_221 : kLp "BonnetValleyModel" (221, 2, 207, 0, .ref 13) := pm_lk2 (ci := 13) (T := kT_13) (N := 49) (Or.inl kw_939) kPn_207 kw_940 kw_941 rfl
theorem kLc_13_13 : ∀ q ∈ kLk_13_13, kLp "BonnetValleyModel" q := List.forall_mem_cons.mpr ⟨kl_13_209, List.forall_mem_cons.mpr ⟨kl_13_213, List.forall_mem_cons.mpr ⟨kl_13_217, List.forall_mem_cons.mpr ⟨kl_13_221, fun _ h => absurd h List.not_mem_nil⟩⟩⟩⟩
theorem kl_13_224 : kLp "BonnetValleyModel" (224, 2, 199, 1, .ref 13) := pm_lk2 (ci := 13) (T := kT_13) (N := 49) (Or.inl kw_942) kPn_199 kw_943 kw_944 rfl
theorem kl_13_227 : kLp "BonnetValleyModel" (227, 6, 13, 24, .null) := pm_lk6 (T := kT_13) (N := 49) rfl (Nat.le_of_ble_eq_true rfl) kw_945
theorem kl_13_230 : kLp "BonnetValleyModel" (230, 2, 213, 0, .ref 13) := pm_lk2 (ci := 13) (T := kT_13) (N := 49) (Or.inl kw_946) kPn_213 kw_947 kw_948 rfl
theorem kl_13_233 : kLp "BonnetValleyModel" (233, 2, 212, 1, .ref 13) := pm_lk2 (ci := 13) (T := kT_13) (N := 49) (Or.inl kw_949) kPn_212 kw_950 kw_951 rfl
theorem kl_13_237 : kLp "BonnetValleyModel" (237, 12, 0, 0, .ref 1048628) := pm_lk12 (tx := "blkfrcnp") (by decide +kernel)
theorem kl_13_239 : kLp "BonnetValleyModel" (239, 2, 214, 1, .ref 13) := pm_lk2 (ci := 13) (T := kT_13) (N := 49) (Or.inl kw_952) kPn_214 kw_953 kw_954 rfl
theorem kLc_13_14 : ∀ q ∈ kLk_13_14, kLp "BonnetValleyModel" q := List.forall_mem_cons.mpr ⟨kl_13_224, List.forall_mem_cons.mpr ⟨kl_13_227, List.forall_mem_cons.mpr ⟨kl_13_230, List.forall_mem_cons.mpr ⟨kl_13_233, List.forall_mem_cons.mpr ⟨kl_13_237, List.forall_mem_cons.mpr ⟨kl_13_239, fun _ h => absurd h List.not_mem_nil⟩⟩⟩⟩⟩⟩
theorem kl_13_242 : kLp "BonnetValleyModel" (242, 12, 0, 0, .ref 1048629) := pm_lk12 (tx := "<>=") (by decide +kernel)
theorem kl_13_244 : kLp "BonnetValleyModel" (244, 12, 0, 0, .ref 1048630) := pm_lk12 (tx := "+-") (by decide +kernel)
theorem kl_13_246 : kLp "BonnetValleyModel" (246, 12, 0, 0, .ref 1048631) := pm_lk12 (tx := "*/") (by decide +kernel)
theorem kl_13_248 : kLp "BonnetValleyModel" (248, 6, 13, 23, .null) := pm_lk6 (T := kT_13) (N := 49) rfl (Nat.le_of_ble_eq_true rfl) kw_955
theorem kl_13_251 : kLp "BonnetValleyModel" (251, 2, 215, 0, .ref 13) := pm_lk2 (ci := 13) (T := kT_13) (N := 49) (Or.inl kw_956) kPn_215 kw_957 kw_958 rfl
theorem kl_13_254 : kLp "BonnetValleyModel" (254, 2, 216, 2, .ref 13) := pm_lk2 (ci := 13) (T := kT_13) (N := 49) (Or.inl kw_959) kPn_216 kw_960 kw_961 rfl
theorem kLc_13_15 : ∀ q ∈ kLk_13_15, kLp "BonnetValleyModel" q := List.forall_mem_cons.mpr ⟨kl_13_242, List.forall_mem_cons.mpr ⟨kl_13_244, List.forall_mem_cons.mpr ⟨kl_13_246, List.forall_mem_cons.mpr ⟨kl_13_248, List.forall_mem_cons.mpr ⟨kl_13_251, List.forall_mem_cons.mpr ⟨kl_13_254, fun _ h => absurd h List.not_mem_nil⟩⟩⟩⟩⟩⟩
theorem kl_13_258 : kLp "BonnetValleyModel" (258, 1, 218, 3, .null) := pm_lk1 (Or.inl kw_962) kPn_218 kw_963
theorem kl_13_262 : kLp "BonnetValleyModel" (262, 2, 211, 1, .ref 13) := pm_lk2 (ci := 13) (T := kT_13) (N := 49) (Or.inl kw_964) kPn_211 kw_965 kw_966 rfl
theorem kl_13_265 : kLp "BonnetValleyModel" (265, 1, 303, 1, .null) := pm_lk1 (Or.inl kw_967) kPn_303 kw_218
theorem kl_13_270 : kLp "BonnetValleyModel" (270, 2, 219, 0, .ref 13) := pm_lk2 (ci := 13) (T := kT_13) (N := 49) (Or.inl kw_968) kPn_219 kw_969 kw_970 rfl
theorem kLc_13_16 : ∀ q ∈ kLk_13_16, kLp "BonnetValleyModel" q := List.forall_mem_cons.mpr ⟨kl_13_258, List.forall_mem_cons.mpr ⟨kl_13_262, List.forall_mem_cons.mpr ⟨kl_13_265, List.forall_mem_cons.mpr ⟨kl_13_270, fun _ h => absurd h List.not_mem_nil⟩⟩⟩⟩
theorem kl_13_273 : kLp "BonnetValleyModel" (273, 15, 0, 0, .null) := pm_lk15 kw_971
theorem kl_13_276 : kLp "BonnetValleyModel" (276, 17, 0, 0, .null) := pm_lk17 kw_972
theorem kl_13_279 : kLp "BonnetValleyModel" (279, 1, 304, 1, .null) := pm_lk1 (Or.inl kw_973) kPn_304 kw_974
theorem kl_13_282 : kLp "BonnetValleyModel" (282, 1, 221, 2, .null) := pm_lk1 (Or.inl kw_975) kPn_221 kw_976
theorem kl_13_285 : kLp "BonnetValleyModel" (285, 1, 222, 2, .null) := pm_lk1 (Or.inl kw_977) kPn_222 kw_978
theorem kLc_13_17 : ∀ q ∈ kLk_13_17, kLp "BonnetValleyModel" q := List.forall_mem_cons.mpr ⟨kl_13_273, List.forall_mem_cons.mpr ⟨kl_13_276, List.forall_mem_cons.mpr ⟨kl_13_279, List.forall_mem_cons.mpr ⟨kl_13_282, List.forall_mem_cons.mpr ⟨kl_13_285, fun _ h => absurd h List.not_mem_nil⟩⟩⟩⟩⟩
theorem kl_13_288 : kLp "BonnetValleyModel" (288, 2, 223, 2, .ref 13) := pm_lk2 (ci := 13) (T := kT_13) (N := 49) (Or.inl kw_979) kPn_223 kw_980 kw_981 rfl
theorem kl_13_292 : kLp "BonnetValleyModel" (292, 2, 220, 3, .ref 13) := pm_lk2 (ci := 13) (T := kT_13) (N := 49) (Or.inl kw_982) kPn_220 kw_983 kw_984 rfl
theorem kl_13_296 : kLp "BonnetValleyModel" (296, 2, 224, 5, .ref 13) := pm_lk2 (ci := 13) (T := kT_13) (N := 49) (Or.inl kw_985) kPn_224 kw_986 kw_987 rfl
theorem kl_13_300 : kLp "BonnetValleyModel" (300, 2, 226, 2, .ref 13) := pm_lk2 (ci := 13) (T := kT_13) (N := 49) (Or.inl kw_988) kPn_226 kw_989 kw_990 rfl
theorem kLc_13_18 : ∀ q ∈ kLk_13_18, kLp "BonnetValleyModel" q := List.forall_mem_cons.mpr ⟨kl_13_288, List.forall_mem_cons.mpr ⟨kl_13_292, List.forall_mem_cons.mpr ⟨kl_13_296, List.forall_mem_cons.mpr ⟨kl_13_300, fun _ h => absurd h List.not_mem_nil⟩⟩⟩⟩
theorem kl_13_304 : kLp "BonnetValleyModel" (304, 1, 183, 2, .null) := pm_lk1 (Or.inl kw_991) kPn_183 kw_992
theorem kl_13_308 : kLp "BonnetValleyModel" (308, 2, 225, 3, .ref 13) := pm_lk2 (ci := 13) (T := kT_13) (N := 49) (Or.inl kw_993) kPn_225 kw_994 kw_995 rfl
theorem kl_13_312 : kLp "BonnetValleyModel" (312, 2, 231, 3, .ref 13) := pm_lk2 (ci := 13) (T := kT_13) (N := 49) (Or.inl kw_996) kPn_231 kw_997 kw_998 rfl
theorem kl_13_315 : kLp "BonnetValleyModel" (315, 2, 190, 1, .ref 13) := pm_lk2 (ci := 13) (T := kT_13) (N := 49) (Or.inl kw_999) kPn_190 kw_1000 kw_1001 rfl
theorem kl_13_318 : kLp "BonnetValleyModel" (318, 11, 0, 0, .long (5)) := pm_lk11 kw_1002
theorem kLc_13_19 : ∀ q ∈ kLk_13_19, kLp "BonnetValleyModel" q := List.forall_mem_cons.mpr ⟨kl_13_304, List.forall_mem_cons.mpr ⟨kl_13_308, List.forall_mem_cons.mpr ⟨kl_13_312, List.forall_mem_cons.mpr ⟨kl_13_315, List.forall_mem_cons.mpr ⟨kl_13_318, fun _ h => absurd h List.not_mem_nil⟩⟩⟩⟩⟩
theorem kl_13_320 : kLp "BonnetValleyModel" (320, 2, 181, 0, .ref 13) := pm_lk2 (ci := 13) (T := kT_13) (N := 49) (Or.inl kw_1003) kPn_181 kw_1004 kw_1005 rfl
theorem kl_13_323 : kLp "BonnetValleyModel" (323, 2, 228, 2, .ref 13) := pm_lk2 (ci := 13) (T := kT_13) (N := 49) (Or.inl kw_1006) kPn_228 kw_1007 kw_1008 rfl
theorem kl_13_327 : kLp "BonnetValleyModel" (327, 2, 191, 1, .ref 13) := pm_lk2 (ci := 13) (T := kT_13) (N := 49) (Or.inl kw_1009) kPn_191 kw_1010 kw_1011 rfl
theorem kl_13_330 : kLp "BonnetValleyModel" (330, 11, 0, 0, .long (2)) := pm_lk11 kw_1012
theorem kl_13_332 : kLp "BonnetValleyModel" (332, 2, 233, 2, .ref 13) := pm_lk2 (ci := 13) (T := kT_13) (N := 49) (Or.inl kw_1013) kPn_233 kw_1014 kw_1015 rfl
theorem kLc_13_20 : ∀ q ∈ kLk_13_20, kLp "BonnetValleyModel" q := List.forall_mem_cons.mpr ⟨kl_13_320, List.forall_mem_cons.mpr ⟨kl_13_323, List.forall_mem_cons.mpr ⟨kl_13_327, List.forall_mem_cons.mpr ⟨kl_13_330, List.forall_mem_cons.mpr ⟨kl_13_332, fun _ h => absurd h List.not_mem_nil⟩⟩⟩⟩⟩
theorem kl_13_336 : kLp "BonnetValleyModel" (336, 2, 230, 2, .ref 13) := pm_lk2 (ci := 13) (T := kT_13) (N := 49) (Or.inl kw_1016) kPn_230 kw_1017 kw_1018 rfl
theorem kl_13_339 : kLp "BonnetValleyModel" (339, 11, 0, 0, .long (3)) := pm_lk11 kw_1019
theorem kl_13_341 : kLp "BonnetValleyModel" (341, 2, 239, 1, .ref 13) := pm_lk2 (ci := 13) (T := kT_13) (N := 49) (Or.inl kw_1020) kPn_239 kw_1021 kw_1022 rfl
theorem kl_13_344 : kLp "BonnetValleyModel" (344, 2, 232, 3, .ref 13) := pm_lk2 (ci := 13) (T := kT_13) (N := 49) (Or.inl kw_1023) kPn_232 kw_1024 kw_1025 rfl
theorem kl_13_347 : kLp "BonnetValleyModel" (347, 2, 242, 1, .ref 13) := pm_lk2 (ci := 13) (T := kT_13) (N := 49) (Or.inl kw_1026) kPn_242 kw_1027 kw_1028 rfl
theorem kl_13_351 : kLp "BonnetValleyModel" (351, 11, 0, 0, .long (7)) := pm_lk11 kw_1029
theorem kLc_13_21 : ∀ q ∈ kLk_13_21, kLp "BonnetValleyModel" q := List.forall_mem_cons.mpr ⟨kl_13_336, List.forall_mem_cons.mpr ⟨kl_13_339, List.forall_mem_cons.mpr ⟨kl_13_341, List.forall_mem_cons.mpr ⟨kl_13_344, List.forall_mem_cons.mpr ⟨kl_13_347, List.forall_mem_cons.mpr ⟨kl_13_351, fun _ h => absurd h List.not_mem_nil⟩⟩⟩⟩⟩⟩
theorem kl_13_353 : kLp "BonnetValleyModel" (353, 2, 192, 2, .ref 13) := pm_lk2 (ci := 13) (T := kT_13) (N := 49) (Or.inl kw_1030) kPn_192 kw_1031 kw_1032 rfl
theorem kl_13_356 : kLp "BonnetValleyModel" (356, 11, 0, 0, .long (4)) := pm_lk11 kw_1033
theorem kl_13_358 : kLp "BonnetValleyModel" (358, 2, 189, 1, .ref 13) := pm_lk2 (ci := 13) (T := kT_13) (N := 49) (Or.inl kw_1034) kPn_189 kw_1035 kw_1036 rfl
theorem kl_13_361 : kLp "BonnetValleyModel" (361, 11, 0, 0, .long (60)) := pm_lk11 kw_1037
theorem kl_13_363 : kLp "BonnetValleyModel" (363, 2, 238, 0, .ref 13) := pm_lk2 (ci := 13) (T := kT_13) (N := 49) (Or.inl kw_1038) kPn_238 kw_1039 kw_1040 rfl
theorem kl_13_366 : kLp "BonnetValleyModel" (366, 2, 234, 1, .ref 13) := pm_lk2 (ci := 13) (T := kT_13) (N := 49) (Or.inl kw_1041) kPn_234 kw_1042 kw_1043 rfl
theorem kLc_13_22 : ∀ q ∈ kLk_13_22, kLp "BonnetValleyModel" q := List.forall_mem_cons.mpr ⟨kl_13_353, List.forall_mem_cons.mpr ⟨kl_13_356, List.forall_mem_cons.mpr ⟨kl_13_358, List.forall_mem_cons.mpr ⟨kl_13_361, List.forall_mem_cons.mpr ⟨kl_13_363, List.forall_mem_cons.mpr ⟨kl_13_366, fun _ h => absurd h List.not_mem_nil⟩⟩⟩⟩⟩⟩
theorem kl_13_370 : kLp "BonnetValleyModel" (370, 2, 243, 2, .ref 13) := pm_lk2 (ci := 13) (T := kT_13) (N := 49) (Or.inl kw_1044) kPn_243 kw_1045 kw_1046 rfl
theorem kl_13_373 : kLp "BonnetValleyModel" (373, 2, 186, 1, .ref 13) := pm_lk2 (ci := 13) (T := kT_13) (N := 49) (Or.inl kw_1047) kPn_186 kw_1048 kw_1049 rfl
theorem kl_13_377 : kLp "BonnetValleyModel" (377, 2, 244, 3, .ref 13) := pm_lk2 (ci := 13) (T := kT_13) (N := 49) (Or.inl kw_1050) kPn_244 kw_1051 kw_1052 rfl
theorem kl_13_380 : kLp "BonnetValleyModel" (380, 2, 240, 1, .ref 13) := pm_lk2 (ci := 13) (T := kT_13) (N := 49) (Or.inl kw_1053) kPn_240 kw_1054 kw_1055 rfl
theorem kl_13_383 : kLp "BonnetValleyModel" (383, 2, 245, 3, .ref 13) := pm_lk2 (ci := 13) (T := kT_13) (N := 49) (Or.inl kw_1056) kPn_245 kw_1057 kw_1058 rfl
theorem kLc_13_23 : ∀ q ∈ kLk_13_23, kLp "BonnetValleyModel" q := List.forall_mem_cons.mpr ⟨kl_13_370, List.forall_mem_cons.mpr ⟨kl_13_373, List.forall_mem_cons.mpr ⟨kl_13_377, List.forall_mem_cons.mpr ⟨kl_13_380, List.forall_mem_cons.mpr ⟨kl_13_383, fun _ h => absurd h List.not_mem_nil⟩⟩⟩⟩⟩
theorem kl_13_386 : kLp "BonnetValleyModel" (386, 2, 246, 2, .ref 13) := pm_lk2 (ci := 13) (T := kT_13) (N := 49) (Or.inl kw_1059) kPn_246 kw_1060 kw_1061 rfl
theorem kl_13_389 : kLp "BonnetValleyModel" (389, 2, 247, 2, .ref 13) := pm_lk2 (ci := 13) (T := kT_13) (N := 49) (Or.inl kw_1062) kPn_247 kw_1063 kw_1064 rfl
theorem kl_13_392 : kLp "BonnetValleyModel" (392, 6, 13, 34, .null) := pm_lk6 (T := kT_13) (N := 49) rfl (Nat.le_of_ble_eq_true rfl) kw_1065
theorem kl_13_395 : kLp "BonnetValleyModel" (395, 12, 0, 0, .ref 1048632) := pm_lk12 (tx := "nfgbp") (by decide +kernel)
theorem kl_13_397 : kLp "BonnetValleyModel" (397, 2, 253, 0, .ref 13) := pm_lk2 (ci := 13) (T := kT_13) (N := 49) (Or.inl kw_1066) kPn_253 kw_1067 kw_1068 rfl
theorem kLc_13_24 : ∀ q ∈ kLk_13_24, kLp "BonnetValleyModel" q := List.forall_mem_cons.mpr ⟨kl_13_386, List.forall_mem_cons.mpr ⟨kl_13_389, List.forall_mem_cons.mpr ⟨kl_13_392, List.forall_mem_cons.mpr ⟨kl_13_395, List.forall_mem_cons.mpr ⟨kl_13_397, fun _ h => absurd h List.not_mem_nil⟩⟩⟩⟩⟩
theorem kl_13_400 : kLp "BonnetValleyModel" (400, 2, 254, 1, .ref 13) := pm_lk2 (ci := 13) (T := kT_13) (N := 49) (Or.inl kw_1069) kPn_254 kw_1070 kw_1071 rfl
theorem kl_13_403 : kLp "BonnetValleyModel" (403, 11, 0, 0, .long (-1)) := pm_lk11 kw_1072
theorem kl_13_405 : kLp "BonnetValleyModel" (405, 1, 305, 1, .null) := pm_lk1 (Or.inl kw_1073) kPn_305 kw_213
theorem kl_13_410 : kLp "BonnetValleyModel" (410, 2, 229, 2, .ref 13) := pm_lk2 (ci := 13) (T := kT_13) (N := 49) (Or.inl kw_1074) kPn_229 kw_1075 kw_1076 rfl
theorem kl_13_413 : kLp "BonnetValleyModel" (413, 2, 259, 0, .ref 13) := pm_lk2 (ci := 13) (T := kT_13) (N := 49) (Or.inl kw_1077) kPn_259 kw_1078 kw_1079 rfl
theorem kLc_13_25 : ∀ q ∈ kLk_13_25, kLp "BonnetValleyModel" q := List.forall_mem_cons.mpr ⟨kl_13_400, List.forall_mem_cons.mpr ⟨kl_13_403, List.forall_mem_cons.mpr ⟨kl_13_405, List.forall_mem_cons.mpr ⟨kl_13_410, List.forall_mem_cons.mpr ⟨kl_13_413, fun _ h => absurd h List.not_mem_nil⟩⟩⟩⟩⟩
theorem kl_13_417 : kLp "BonnetValleyModel" (417, 2, 227, 1, .ref 13) := pm_lk2 (ci := 13) (T := kT_13) (N := 49) (Or.inl kw_1080) kPn_227 kw_1081 kw_1082 rfl
theorem kl_13_421 : kLp "BonnetValleyModel" (421, 1, 264, 2, .null) := pm_lk1 (Or.inl kw_1083) kPn_264 kw_1084
theorem kl_13_424 : kLp "BonnetValleyModel" (424, 2, 256, 0, .ref 13) := pm_lk2 (ci := 13) (T := kT_13) (N := 49) (Or.inl kw_1085) kPn_256 kw_1086 kw_1087 rfl
theorem kl_13_427 : kLp "BonnetValleyModel" (427, 2, 267, 1, .ref 13) := pm_lk2 (ci := 13) (T := kT_13) (N := 49) (Or.inl kw_1088) kPn_267 kw_1089 kw_1090 rfl
theorem kl_13_430 : kLp "BonnetValleyModel" (430, 11, 0, 0, .long (99)) := pm_lk11 kw_1091
theorem kLc_13_26 : ∀ q ∈ kLk_13_26, kLp "BonnetValleyModel" q := List.forall_mem_cons.mpr ⟨kl_13_417, List.forall_mem_cons.mpr ⟨kl_13_421, List.forall_mem_cons.mpr ⟨kl_13_424, List.forall_mem_cons.mpr ⟨kl_13_427, List.forall_mem_cons.mpr ⟨kl_13_430, fun _ h => absurd h List.not_mem_nil⟩⟩⟩⟩⟩
theorem kl_13_432 : kLp "BonnetValleyModel" (432, 10, 0, 0, .int (1000000)) := pm_lk10 kw_1092
theorem kl_13_433 : kLp "BonnetValleyModel" (433, 2, 271, 3, .ref 13) := pm_lk2 (ci := 13) (T := kT_13) (N := 49) (Or.inl kw_1093) kPn_271 kw_1094 kw_1095 rfl
theorem kl_13_437 : kLp "BonnetValleyModel" (437, 1, 274, 2, .null) := pm_lk1 (Or.inl kw_1096) kPn_274 kw_1097
theorem kl_13_440 : kLp "BonnetValleyModel" (440, 2, 273, 2, .ref 13) := pm_lk2 (ci := 13) (T := kT_13) (N := 49) (Or.inl kw_1098) kPn_273 kw_1099 kw_1100 rfl
theorem kl_13_443 : kLp "BonnetValleyModel" (443, 2, 275, 3, .ref 13) := pm_lk2 (ci := 13) (T := kT_13) (N := 49) (Or.inl kw_1101) kPn_275 kw_1102 kw_1103 rfl
theorem kl_13_446 : kLp "BonnetValleyModel" (446, 2, 279, 3, .ref 13) := pm_lk2 (ci := 13) (T := kT_13) (N := 49) (Or.inl kw_1104) kPn_279 kw_1105 kw_1106 rfl
theorem kLc_13_27 : ∀ q ∈ kLk_13_27, kLp "BonnetValleyModel" q := List.forall_mem_cons.mpr ⟨kl_13_432, List.forall_mem_cons.mpr ⟨kl_13_433, List.forall_mem_cons.mpr ⟨kl_13_437, List.forall_mem_cons.mpr ⟨kl_13_440, List.forall_mem_cons.mpr ⟨kl_13_443, List.forall_mem_cons.mpr ⟨kl_13_446, fun _ h => absurd h List.not_mem_nil⟩⟩⟩⟩⟩⟩
theorem kl_13_450 : kLp "BonnetValleyModel" (450, 2, 280, 3, .ref 13) := pm_lk2 (ci := 13) (T := kT_13) (N := 49) (Or.inl kw_1107) kPn_280 kw_1108 kw_1109 rfl
theorem kl_13_454 : kLp "BonnetValleyModel" (454, 2, 285, 0, .ref 13) := pm_lk2 (ci := 13) (T := kT_13) (N := 49) (Or.inl kw_1110) kPn_285 kw_1111 kw_1112 rfl
theorem kl_13_457 : kLp "BonnetValleyModel" (457, 11, 0, 0, .long (8)) := pm_lk11 kw_1113
theorem kl_13_459 : kLp "BonnetValleyModel" (459, 11, 0, 0, .long (10)) := pm_lk11 kw_1114
theorem kl_13_461 : kLp "BonnetValleyModel" (461, 11, 0, 0, .long (9)) := pm_lk11 kw_1115
theorem kl_13_463 : kLp "BonnetValleyModel" (463, 1, 291, 3, .null) := pm_lk1 (Or.inl kw_1116) kPn_291 kw_1117
theorem kLc_13_28 : ∀ q ∈ kLk_13_28, kLp "BonnetValleyModel" q := List.forall_mem_cons.mpr ⟨kl_13_450, List.forall_mem_cons.mpr ⟨kl_13_454, List.forall_mem_cons.mpr ⟨kl_13_457, List.forall_mem_cons.mpr ⟨kl_13_459, List.forall_mem_cons.mpr ⟨kl_13_461, List.forall_mem_cons.mpr ⟨kl_13_463, fun _ h => absurd h List.not_mem_nil⟩⟩⟩⟩⟩⟩
theorem kl_13_466 : kLp "BonnetValleyModel" (466, 11, 0, 0, .long (20)) := pm_lk11 kw_1118
theorem kl_13_468 : kLp "BonnetValleyModel" (468, 1, 292, 3, .null) := pm_lk1 (Or.inl kw_1119) kPn_292 kw_1120
theorem kl_13_471 : kLp "BonnetValleyModel" (471, 6, 13, 45, .null) := pm_lk6 (T := kT_13) (N := 49) rfl (Nat.le_of_ble_eq_true rfl) kw_1121
theorem kl_13_474 : kLp "BonnetValleyModel" (474, 10, 0, 0, .int (1103515245)) := pm_lk10 kw_1122
theorem kl_13_475 : kLp "BonnetValleyModel" (475, 2, 294, 1, .ref 13) := pm_lk2 (ci := 13) (T := kT_13) (N := 49) (Or.inl kw_1123) kPn_294 kw_1124 kw_1125 rfl
theorem kLc_13_29 : ∀ q ∈ kLk_13_29, kLp "BonnetValleyModel" q := List.forall_mem_cons.mpr ⟨kl_13_466, List.forall_mem_cons.mpr ⟨kl_13_468, List.forall_mem_cons.mpr ⟨kl_13_471, List.forall_mem_cons.mpr ⟨kl_13_474, List.forall_mem_cons.mpr ⟨kl_13_475, fun _ h => absurd h List.not_mem_nil⟩⟩⟩⟩⟩
theorem kLd_13 : ∀ c ∈ kLo_13, ∀ q ∈ c, kLp "BonnetValleyModel" q := List.forall_mem_cons.mpr ⟨kLc_13_0, List.forall_mem_cons.mpr ⟨kLc_13_1, List.forall_mem_cons.mpr ⟨kLc_13_2, List.forall_mem_cons.mpr ⟨kLc_13_3, List.forall_mem_cons.mpr ⟨kLc_13_4, List.forall_mem_cons.mpr ⟨kLc_13_5, List.forall_mem_cons.mpr ⟨kLc_13_6, List.forall_mem_cons.mpr ⟨kLc_13_7, List.forall_mem_cons.mpr ⟨kLc_13_8, List.forall_mem_cons.mpr ⟨kLc_13_9, List.forall_mem_cons.mpr ⟨kLc_13_10, List.forall_mem_cons.mpr ⟨kLc_13_11, List.forall_mem_cons.mpr ⟨kLc_13_12, List.forall_mem_cons.mpr ⟨kLc_13_13, List.forall_mem_cons.mpr ⟨kLc_13_14, List.forall_mem_cons.mpr ⟨kLc_13_15, List.forall_mem_cons.mpr ⟨kLc_13_16, List.forall_mem_cons.mpr ⟨kLc_13_17, List.forall_mem_cons.mpr ⟨kLc_13_18, List.forall_mem_cons.mpr ⟨kLc_13_19, List.forall_mem_cons.mpr ⟨kLc_13_20, List.forall_mem_cons.mpr ⟨kLc_13_21, List.forall_mem_cons.mpr ⟨kLc_13_22, List.forall_mem_cons.mpr ⟨kLc_13_23, List.forall_mem_cons.mpr ⟨kLc_13_24, List.forall_mem_cons.mpr ⟨kLc_13_25, List.forall_mem_cons.mpr ⟨kLc_13_26, List.forall_mem_cons.mpr ⟨kLc_13_27, List.forall_mem_cons.mpr ⟨kLc_13_28, List.forall_mem_cons.mpr ⟨kLc_13_29, fun _ h => absurd h List.not_mem_nil⟩⟩⟩⟩⟩⟩⟩⟩⟩⟩⟩⟩⟩⟩⟩⟩⟩⟩⟩⟩⟩⟩⟩⟩⟩⟩⟩⟩⟩⟩
theorem kLc_14_0 : ∀ q ∈ kLk_14_0, kLp "java/lang/Character" q := fun _ h => absurd h List.not_mem_nil
theorem kLc_14_1 : ∀ q ∈ kLk_14_1, kLp "java/lang/Character" q := fun _ h => absurd h List.not_mem_nil
theorem kLc_14_2 : ∀ q ∈ kLk_14_2, kLp "java/lang/Character" q := fun _ h => absurd h List.not_mem_nil
theorem kLc_14_3 : ∀ q ∈ kLk_14_3, kLp "java/lang/Character" q := fun _ h => absurd h List.not_mem_nil
theorem kl_14_76 : kLp "java/lang/Character" (76, 10, 0, 0, .int (56320)) := pm_lk10 kw_1126
theorem kLc_14_4 : ∀ q ∈ kLk_14_4, kLp "java/lang/Character" q := List.forall_mem_cons.mpr ⟨kl_14_76, fun _ h => absurd h List.not_mem_nil⟩
theorem kLc_14_5 : ∀ q ∈ kLk_14_5, kLp "java/lang/Character" q := fun _ h => absurd h List.not_mem_nil
theorem kl_14_110 : kLp "java/lang/Character" (110, 10, 0, 0, .int (55232)) := pm_lk10 kw_1127
theorem kLc_14_6 : ∀ q ∈ kLk_14_6, kLp "java/lang/Character" q := List.forall_mem_cons.mpr ⟨kl_14_110, fun _ h => absurd h List.not_mem_nil⟩
theorem kLd_14 : ∀ c ∈ kLo_14, ∀ q ∈ c, kLp "java/lang/Character" q := List.forall_mem_cons.mpr ⟨kLc_14_0, List.forall_mem_cons.mpr ⟨kLc_14_1, List.forall_mem_cons.mpr ⟨kLc_14_2, List.forall_mem_cons.mpr ⟨kLc_14_3, List.forall_mem_cons.mpr ⟨kLc_14_4, List.forall_mem_cons.mpr ⟨kLc_14_5, List.forall_mem_cons.mpr ⟨kLc_14_6, fun _ h => absurd h List.not_mem_nil⟩⟩⟩⟩⟩⟩⟩
theorem kLc_15_0 : ∀ q ∈ kLk_15_0, kLp "java/lang/Integer" q := fun _ h => absurd h List.not_mem_nil
theorem kLc_15_1 : ∀ q ∈ kLk_15_1, kLp "java/lang/Integer" q := fun _ h => absurd h List.not_mem_nil
theorem kLc_15_2 : ∀ q ∈ kLk_15_2, kLp "java/lang/Integer" q := fun _ h => absurd h List.not_mem_nil
theorem kLc_15_3 : ∀ q ∈ kLk_15_3, kLp "java/lang/Integer" q := fun _ h => absurd h List.not_mem_nil
theorem kLc_15_4 : ∀ q ∈ kLk_15_4, kLp "java/lang/Integer" q := fun _ h => absurd h List.not_mem_nil
theorem kLc_15_5 : ∀ q ∈ kLk_15_5, kLp "java/lang/Integer" q := fun _ h => absurd h List.not_mem_nil
theorem kLc_15_6 : ∀ q ∈ kLk_15_6, kLp "java/lang/Integer" q := fun _ h => absurd h List.not_mem_nil
theorem kLc_15_7 : ∀ q ∈ kLk_15_7, kLp "java/lang/Integer" q := fun _ h => absurd h List.not_mem_nil
theorem kLc_15_8 : ∀ q ∈ kLk_15_8, kLp "java/lang/Integer" q := fun _ h => absurd h List.not_mem_nil
theorem kLc_15_9 : ∀ q ∈ kLk_15_9, kLp "java/lang/Integer" q := fun _ h => absurd h List.not_mem_nil
theorem kLc_15_10 : ∀ q ∈ kLk_15_10, kLp "java/lang/Integer" q := fun _ h => absurd h List.not_mem_nil
theorem kLc_15_11 : ∀ q ∈ kLk_15_11, kLp "java/lang/Integer" q := fun _ h => absurd h List.not_mem_nil
theorem kLc_15_12 : ∀ q ∈ kLk_15_12, kLp "java/lang/Integer" q := fun _ h => absurd h List.not_mem_nil
theorem kLc_15_13 : ∀ q ∈ kLk_15_13, kLp "java/lang/Integer" q := fun _ h => absurd h List.not_mem_nil
theorem kLc_15_14 : ∀ q ∈ kLk_15_14, kLp "java/lang/Integer" q := fun _ h => absurd h List.not_mem_nil
theorem kLc_15_15 : ∀ q ∈ kLk_15_15, kLp "java/lang/Integer" q := fun _ h => absurd h List.not_mem_nil
theorem kl_15_265 : kLp "java/lang/Integer" (265, 10, 0, 0, .int (1431655765)) := pm_lk10 kw_1128
theorem kl_15_266 : kLp "java/lang/Integer" (266, 10, 0, 0, .int (858993459)) := pm_lk10 kw_1129
theorem kl_15_267 : kLp "java/lang/Integer" (267, 10, 0, 0, .int (252645135)) := pm_lk10 kw_1130
theorem kLc_15_16 : ∀ q ∈ kLk_15_16, kLp "java/lang/Integer" q := List.forall_mem_cons.mpr ⟨kl_15_265, List.forall_mem_cons.mpr ⟨kl_15_266, List.forall_mem_cons.mpr ⟨kl_15_267, fun _ h => absurd h List.not_mem_nil⟩⟩⟩
theorem kLd_15 : ∀ c ∈ kLo_15, ∀ q ∈ c, kLp "java/lang/Integer" q := List.forall_mem_cons.mpr ⟨kLc_15_0, List.forall_mem_cons.mpr ⟨kLc_15_1, List.forall_mem_cons.mpr ⟨kLc_15_2, List.forall_mem_cons.mpr ⟨kLc_15_3, List.forall_mem_cons.mpr ⟨kLc_15_4, List.forall_mem_cons.mpr ⟨kLc_15_5, List.forall_mem_cons.mpr ⟨kLc_15_6, List.forall_mem_cons.mpr ⟨kLc_15_7, List.forall_mem_cons.mpr ⟨kLc_15_8, List.forall_mem_cons.mpr ⟨kLc_15_9, List.forall_mem_cons.mpr ⟨kLc_15_10, List.forall_mem_cons.mpr ⟨kLc_15_11, List.forall_mem_cons.mpr ⟨kLc_15_12, List.forall_mem_cons.mpr ⟨kLc_15_13, List.forall_mem_cons.mpr ⟨kLc_15_14, List.forall_mem_cons.mpr ⟨kLc_15_15, List.forall_mem_cons.mpr ⟨kLc_15_16, fun _ h => absurd h List.not_mem_nil⟩⟩⟩⟩⟩⟩⟩⟩⟩⟩⟩⟩⟩⟩⟩⟩⟩
theorem kLc_16_0 : ∀ q ∈ kLk_16_0, kLp "java/lang/Long" q := fun _ h => absurd h List.not_mem_nil
theorem kLc_16_1 : ∀ q ∈ kLk_16_1, kLp "java/lang/Long" q := fun _ h => absurd h List.not_mem_nil
theorem kLc_16_2 : ∀ q ∈ kLk_16_2, kLp "java/lang/Long" q := fun _ h => absurd h List.not_mem_nil
theorem kLc_16_3 : ∀ q ∈ kLk_16_3, kLp "java/lang/Long" q := fun _ h => absurd h List.not_mem_nil
theorem kLc_16_4 : ∀ q ∈ kLk_16_4, kLp "java/lang/Long" q := fun _ h => absurd h List.not_mem_nil
theorem kLc_16_5 : ∀ q ∈ kLk_16_5, kLp "java/lang/Long" q := fun _ h => absurd h List.not_mem_nil
theorem kLc_16_6 : ∀ q ∈ kLk_16_6, kLp "java/lang/Long" q := fun _ h => absurd h List.not_mem_nil
theorem kLc_16_7 : ∀ q ∈ kLk_16_7, kLp "java/lang/Long" q := fun _ h => absurd h List.not_mem_nil
theorem kLc_16_8 : ∀ q ∈ kLk_16_8, kLp "java/lang/Long" q := fun _ h => absurd h List.not_mem_nil
theorem kLc_16_9 : ∀ q ∈ kLk_16_9, kLp "java/lang/Long" q := fun _ h => absurd h List.not_mem_nil
theorem kLc_16_10 : ∀ q ∈ kLk_16_10, kLp "java/lang/Long" q := fun _ h => absurd h List.not_mem_nil
theorem kLc_16_11 : ∀ q ∈ kLk_16_11, kLp "java/lang/Long" q := fun _ h => absurd h List.not_mem_nil
theorem kLc_16_12 : ∀ q ∈ kLk_16_12, kLp "java/lang/Long" q := fun _ h => absurd h List.not_mem_nil
theorem kLc_16_13 : ∀ q ∈ kLk_16_13, kLp "java/lang/Long" q := fun _ h => absurd h List.not_mem_nil
theorem kLc_16_14 : ∀ q ∈ kLk_16_14, kLp "java/lang/Long" q := fun _ h => absurd h List.not_mem_nil
theorem kLc_16_15 : ∀ q ∈ kLk_16_15, kLp "java/lang/Long" q := fun _ h => absurd h List.not_mem_nil
theorem kLc_16_16 : ∀ q ∈ kLk_16_16, kLp "java/lang/Long" q := fun _ h => absurd h List.not_mem_nil
theorem kLc_16_17 : ∀ q ∈ kLk_16_17, kLp "java/lang/Long" q := fun _ h => absurd h List.not_mem_nil
theorem kLc_16_18 : ∀ q ∈ kLk_16_18, kLp "java/lang/Long" q := fun _ h => absurd h List.not_mem_nil
theorem kl_16_314 : kLp "java/lang/Long" (314, 11, 0, 0, .long (6148914691236517205)) := pm_lk11 kw_1131
theorem kl_16_316 : kLp "java/lang/Long" (316, 11, 0, 0, .long (3689348814741910323)) := pm_lk11 kw_1132
theorem kl_16_318 : kLp "java/lang/Long" (318, 11, 0, 0, .long (1085102592571150095)) := pm_lk11 kw_1133
theorem kLc_16_19 : ∀ q ∈ kLk_16_19, kLp "java/lang/Long" q := List.forall_mem_cons.mpr ⟨kl_16_314, List.forall_mem_cons.mpr ⟨kl_16_316, List.forall_mem_cons.mpr ⟨kl_16_318, fun _ h => absurd h List.not_mem_nil⟩⟩⟩
theorem kLd_16 : ∀ c ∈ kLo_16, ∀ q ∈ c, kLp "java/lang/Long" q := List.forall_mem_cons.mpr ⟨kLc_16_0, List.forall_mem_cons.mpr ⟨kLc_16_1, List.forall_mem_cons.mpr ⟨kLc_16_2, List.forall_mem_cons.mpr ⟨kLc_16_3, List.forall_mem_cons.mpr ⟨kLc_16_4, List.forall_mem_cons.mpr ⟨kLc_16_5, List.forall_mem_cons.mpr ⟨kLc_16_6, List.forall_mem_cons.mpr ⟨kLc_16_7, List.forall_mem_cons.mpr ⟨kLc_16_8, List.forall_mem_cons.mpr ⟨kLc_16_9, List.forall_mem_cons.mpr ⟨kLc_16_10, List.forall_mem_cons.mpr ⟨kLc_16_11, List.forall_mem_cons.mpr ⟨kLc_16_12, List.forall_mem_cons.mpr ⟨kLc_16_13, List.forall_mem_cons.mpr ⟨kLc_16_14, List.forall_mem_cons.mpr ⟨kLc_16_15, List.forall_mem_cons.mpr ⟨kLc_16_16, List.forall_mem_cons.mpr ⟨kLc_16_17, List.forall_mem_cons.mpr ⟨kLc_16_18, List.forall_mem_cons.mpr ⟨kLc_16_19, fun _ h => absurd h List.not_mem_nil⟩⟩⟩⟩⟩⟩⟩⟩⟩⟩⟩⟩⟩⟩⟩⟩⟩⟩⟩⟩
theorem kl_17_9 : kLp "java/lang/String" (9, 7, 0, 0, .null) := pm_lk7 kw_1134
theorem kl_17_15 : kLp "java/lang/String" (15, 7, 1, 0, .null) := pm_lk7 kw_1135
theorem kLc_17_0 : ∀ q ∈ kLk_17_0, kLp "java/lang/String" q := List.forall_mem_cons.mpr ⟨kl_17_9, List.forall_mem_cons.mpr ⟨kl_17_15, fun _ h => absurd h List.not_mem_nil⟩⟩
theorem kLc_17_1 : ∀ q ∈ kLk_17_1, kLp "java/lang/String" q := fun _ h => absurd h List.not_mem_nil
theorem kl_17_38 : kLp "java/lang/String" (38, 8, 0, 0, .int 1) := pm_lk8 (C := "java/lang/String") (n := "COMPACT_STRINGS") (d := "Z") (by decide +kernel) (by decide +kernel) kw_1136
theorem kLc_17_2 : ∀ q ∈ kLk_17_2, kLp "java/lang/String" q := List.forall_mem_cons.mpr ⟨kl_17_38, fun _ h => absurd h List.not_mem_nil⟩
theorem kLc_17_3 : ∀ q ∈ kLk_17_3, kLp "java/lang/String" q := fun _ h => absurd h List.not_mem_nil
theorem kLc_17_4 : ∀ q ∈ kLk_17_4, kLp "java/lang/String" q := fun _ h => absurd h List.not_mem_nil
theorem kLc_17_5 : ∀ q ∈ kLk_17_5, kLp "java/lang/String" q := fun _ h => absurd h List.not_mem_nil
theorem kLc_17_6 : ∀ q ∈ kLk_17_6, kLp "java/lang/String" q := fun _ h => absurd h List.not_mem_nil
theorem kLc_17_7 : ∀ q ∈ kLk_17_7, kLp "java/lang/String" q := fun _ h => absurd h List.not_mem_nil
theorem kLc_17_8 : ∀ q ∈ kLk_17_8, kLp "java/lang/String" q := fun _ h => absurd h List.not_mem_nil
theorem kLc_17_9 : ∀ q ∈ kLk_17_9, kLp "java/lang/String" q := fun _ h => absurd h List.not_mem_nil
theorem kLc_17_10 : ∀ q ∈ kLk_17_10, kLp "java/lang/String" q := fun _ h => absurd h List.not_mem_nil
theorem kLc_17_11 : ∀ q ∈ kLk_17_11, kLp "java/lang/String" q := fun _ h => absurd h List.not_mem_nil
theorem kLc_17_12 : ∀ q ∈ kLk_17_12, kLp "java/lang/String" q := fun _ h => absurd h List.not_mem_nil
theorem kLc_17_13 : ∀ q ∈ kLk_17_13, kLp "java/lang/String" q := fun _ h => absurd h List.not_mem_nil
theorem kLc_17_14 : ∀ q ∈ kLk_17_14, kLp "java/lang/String" q := fun _ h => absurd h List.not_mem_nil
theorem kLc_17_15 : ∀ q ∈ kLk_17_15, kLp "java/lang/String" q := fun _ h => absurd h List.not_mem_nil
theorem kLc_17_16 : ∀ q ∈ kLk_17_16, kLp "java/lang/String" q := fun _ h => absurd h List.not_mem_nil
theorem kLc_17_17 : ∀ q ∈ kLk_17_17, kLp "java/lang/String" q := fun _ h => absurd h List.not_mem_nil
theorem kLc_17_18 : ∀ q ∈ kLk_17_18, kLp "java/lang/String" q := fun _ h => absurd h List.not_mem_nil
theorem kLc_17_19 : ∀ q ∈ kLk_17_19, kLp "java/lang/String" q := fun _ h => absurd h List.not_mem_nil
theorem kl_17_335 : kLp "java/lang/String" (335, 2, 310, 0, .null) := pm_lk2s (Or.inl kw_1137) kPn_310 kw_1138 kw_1139 rfl
theorem kLc_17_20 : ∀ q ∈ kLk_17_20, kLp "java/lang/String" q := List.forall_mem_cons.mpr ⟨kl_17_335, fun _ h => absurd h List.not_mem_nil⟩
theorem kLc_17_21 : ∀ q ∈ kLk_17_21, kLp "java/lang/String" q := fun _ h => absurd h List.not_mem_nil
theorem kLc_17_22 : ∀ q ∈ kLk_17_22, kLp "java/lang/String" q := fun _ h => absurd h List.not_mem_nil
theorem kLc_17_23 : ∀ q ∈ kLk_17_23, kLp "java/lang/String" q := fun _ h => absurd h List.not_mem_nil
theorem kLc_17_24 : ∀ q ∈ kLk_17_24, kLp "java/lang/String" q := fun _ h => absurd h List.not_mem_nil
theorem kLc_17_25 : ∀ q ∈ kLk_17_25, kLp "java/lang/String" q := fun _ h => absurd h List.not_mem_nil
theorem kLc_17_26 : ∀ q ∈ kLk_17_26, kLp "java/lang/String" q := fun _ h => absurd h List.not_mem_nil
theorem kLc_17_27 : ∀ q ∈ kLk_17_27, kLp "java/lang/String" q := fun _ h => absurd h List.not_mem_nil
theorem kLc_17_28 : ∀ q ∈ kLk_17_28, kLp "java/lang/String" q := fun _ h => absurd h List.not_mem_nil
theorem kLc_17_29 : ∀ q ∈ kLk_17_29, kLp "java/lang/String" q := fun _ h => absurd h List.not_mem_nil
theorem kl_17_492 : kLp "java/lang/String" (492, 2, 311, 0, .null) := pm_lk2s (Or.inl kw_1140) kPn_311 kw_1141 kw_1142 rfl
theorem kl_17_495 : kLp "java/lang/String" (495, 1, 314, 2, .null) := pm_lk1 (Or.inl kw_1143) kPn_314 kw_1144
theorem kLc_17_30 : ∀ q ∈ kLk_17_30, kLp "java/lang/String" q := List.forall_mem_cons.mpr ⟨kl_17_492, List.forall_mem_cons.mpr ⟨kl_17_495, fun _ h => absurd h List.not_mem_nil⟩⟩
theorem kl_17_498 : kLp "java/lang/String" (498, 1, 324, 2, .null) := pm_lk1 (Or.inl kw_1145) kPn_324 kw_1146
theorem kl_17_505 : kLp "java/lang/String" (505, 2, 306, 0, .null) := pm_lk2s (Or.inl kw_1147) kPn_306 kw_900 kw_901 rfl
theorem kLc_17_31 : ∀ q ∈ kLk_17_31, kLp "java/lang/String" q := List.forall_mem_cons.mpr ⟨kl_17_498, List.forall_mem_cons.mpr ⟨kl_17_505, fun _ h => absurd h List.not_mem_nil⟩⟩
theorem kLc_17_32 : ∀ q ∈ kLk_17_32, kLp "java/lang/String" q := fun _ h => absurd h List.not_mem_nil
theorem kLc_17_33 : ∀ q ∈ kLk_17_33, kLp "java/lang/String" q := fun _ h => absurd h List.not_mem_nil
theorem kLc_17_34 : ∀ q ∈ kLk_17_34, kLp "java/lang/String" q := fun _ h => absurd h List.not_mem_nil
theorem kLc_17_35 : ∀ q ∈ kLk_17_35, kLp "java/lang/String" q := fun _ h => absurd h List.not_mem_nil
theorem kLc_17_36 : ∀ q ∈ kLk_17_36, kLp "java/lang/String" q := fun _ h => absurd h List.not_mem_nil
theorem kLc_17_37 : ∀ q ∈ kLk_17_37, kLp "java/lang/String" q := fun _ h => absurd h List.not_mem_nil
theorem kLc_17_38 : ∀ q ∈ kLk_17_38, kLp "java/lang/String" q := fun _ h => absurd h List.not_mem_nil
theorem kl_17_633 : kLp "java/lang/String" (633, 2, 309, 2, .null) := pm_lk2s (Or.inl kw_1148) kPn_309 kw_1149 kw_1150 rfl
theorem kl_17_637 : kLp "java/lang/String" (637, 1, 316, 4, .null) := pm_lk1 (Or.inl kw_1151) kPn_316 kw_1152
theorem kLc_17_39 : ∀ q ∈ kLk_17_39, kLp "java/lang/String" q := List.forall_mem_cons.mpr ⟨kl_17_633, List.forall_mem_cons.mpr ⟨kl_17_637, fun _ h => absurd h List.not_mem_nil⟩⟩
theorem kl_17_640 : kLp "java/lang/String" (640, 1, 320, 4, .null) := pm_lk1 (Or.inl kw_1153) kPn_320 kw_1154
theorem kLc_17_40 : ∀ q ∈ kLk_17_40, kLp "java/lang/String" q := List.forall_mem_cons.mpr ⟨kl_17_640, fun _ h => absurd h List.not_mem_nil⟩
theorem kLc_17_41 : ∀ q ∈ kLk_17_41, kLp "java/lang/String" q := fun _ h => absurd h List.not_mem_nil
theorem kLc_17_42 : ∀ q ∈ kLk_17_42, kLp "java/lang/String" q := fun _ h => absurd h List.not_mem_nil
theorem kLc_17_43 : ∀ q ∈ kLk_17_43, kLp "java/lang/String" q := fun _ h => absurd h List.not_mem_nil
theorem kLc_17_44 : ∀ q ∈ kLk_17_44, kLp "java/lang/String" q := fun _ h => absurd h List.not_mem_nil
theorem kLc_17_45 : ∀ q ∈ kLk_17_45, kLp "java/lang/String" q := fun _ h => absurd h List.not_mem_nil
theorem kLc_17_46 : ∀ q ∈ kLk_17_46, kLp "java/lang/String" q := fun _ h => absurd h List.not_mem_nil
theorem kLc_17_47 : ∀ q ∈ kLk_17_47, kLp "java/lang/String" q := fun _ h => absurd h List.not_mem_nil
theorem kLc_17_48 : ∀ q ∈ kLk_17_48, kLp "java/lang/String" q := fun _ h => absurd h List.not_mem_nil
theorem kLc_17_49 : ∀ q ∈ kLk_17_49, kLp "java/lang/String" q := fun _ h => absurd h List.not_mem_nil
theorem kLc_17_50 : ∀ q ∈ kLk_17_50, kLp "java/lang/String" q := fun _ h => absurd h List.not_mem_nil
theorem kLc_17_51 : ∀ q ∈ kLk_17_51, kLp "java/lang/String" q := fun _ h => absurd h List.not_mem_nil
theorem kLc_17_52 : ∀ q ∈ kLk_17_52, kLp "java/lang/String" q := fun _ h => absurd h List.not_mem_nil
theorem kLc_17_53 : ∀ q ∈ kLk_17_53, kLp "java/lang/String" q := fun _ h => absurd h List.not_mem_nil
theorem kLc_17_54 : ∀ q ∈ kLk_17_54, kLp "java/lang/String" q := fun _ h => absurd h List.not_mem_nil
theorem kLc_17_55 : ∀ q ∈ kLk_17_55, kLp "java/lang/String" q := fun _ h => absurd h List.not_mem_nil
theorem kLc_17_56 : ∀ q ∈ kLk_17_56, kLp "java/lang/String" q := fun _ h => absurd h List.not_mem_nil
theorem kLc_17_57 : ∀ q ∈ kLk_17_57, kLp "java/lang/String" q := fun _ h => absurd h List.not_mem_nil
theorem kLc_17_58 : ∀ q ∈ kLk_17_58, kLp "java/lang/String" q := fun _ h => absurd h List.not_mem_nil
theorem kLc_17_59 : ∀ q ∈ kLk_17_59, kLp "java/lang/String" q := fun _ h => absurd h List.not_mem_nil
theorem kLc_17_60 : ∀ q ∈ kLk_17_60, kLp "java/lang/String" q := fun _ h => absurd h List.not_mem_nil
theorem kLc_17_61 : ∀ q ∈ kLk_17_61, kLp "java/lang/String" q := fun _ h => absurd h List.not_mem_nil
theorem kLc_17_62 : ∀ q ∈ kLk_17_62, kLp "java/lang/String" q := fun _ h => absurd h List.not_mem_nil
theorem kLc_17_63 : ∀ q ∈ kLk_17_63, kLp "java/lang/String" q := fun _ h => absurd h List.not_mem_nil
theorem kLc_17_64 : ∀ q ∈ kLk_17_64, kLp "java/lang/String" q := fun _ h => absurd h List.not_mem_nil
theorem kLc_17_65 : ∀ q ∈ kLk_17_65, kLp "java/lang/String" q := fun _ h => absurd h List.not_mem_nil
theorem kl_17_1059 : kLp "java/lang/String" (1059, 1, 329, 3, .null) := pm_lk1 (Or.inl kw_1155) kPn_329 kw_1156
theorem kl_17_1062 : kLp "java/lang/String" (1062, 1, 330, 4, .null) := pm_lk1 (Or.inl kw_1157) kPn_330 kw_1158
theorem kLc_17_66 : ∀ q ∈ kLk_17_66, kLp "java/lang/String" q := List.forall_mem_cons.mpr ⟨kl_17_1059, List.forall_mem_cons.mpr ⟨kl_17_1062, fun _ h => absurd h List.not_mem_nil⟩⟩
theorem kLd_17 : ∀ c ∈ kLo_17, ∀ q ∈ c, kLp "java/lang/String" q := List.forall_mem_cons.mpr ⟨kLc_17_0, List.forall_mem_cons.mpr ⟨kLc_17_1, List.forall_mem_cons.mpr ⟨kLc_17_2, List.forall_mem_cons.mpr ⟨kLc_17_3, List.forall_mem_cons.mpr ⟨kLc_17_4, List.forall_mem_cons.mpr ⟨kLc_17_5, List.forall_mem_cons.mpr ⟨kLc_17_6, List.forall_mem_cons.mpr ⟨kLc_17_7, List.forall_mem_cons.mpr ⟨kLc_17_8, List.forall_mem_cons.mpr ⟨kLc_17_9, List.forall_mem_cons.mpr ⟨kLc_17_10, List.forall_mem_cons.mpr ⟨kLc_17_11, List.forall_mem_cons.mpr ⟨kLc_17_12, List.forall_mem_cons.mpr ⟨kLc_17_13, List.forall_mem_cons.mpr ⟨kLc_17_14, List.forall_mem_cons.mpr ⟨kLc_17_15, List.forall_mem_cons.mpr ⟨kLc_17_16, List.forall_mem_cons.mpr ⟨kLc_17_17, List.forall_mem_cons.mpr ⟨kLc_17_18, List.forall_mem_cons.mpr ⟨kLc_17_19, List.forall_mem_cons.mpr ⟨kLc_17_20, List.forall_mem_cons.mpr ⟨kLc_17_21, List.forall_mem_cons.mpr ⟨kLc_17_22, List.forall_mem_cons.mpr ⟨kLc_17_23, List.forall_mem_cons.mpr ⟨kLc_17_24, List.forall_mem_cons.mpr ⟨kLc_17_25, List.forall_mem_cons.mpr ⟨kLc_17_26, List.forall_mem_cons.mpr ⟨kLc_17_27, List.forall_mem_cons.mpr ⟨kLc_17_28, List.forall_mem_cons.mpr ⟨kLc_17_29, List.forall_mem_cons.mpr ⟨kLc_17_30, List.forall_mem_cons.mpr ⟨kLc_17_31, List.forall_mem_cons.mpr ⟨kLc_17_32, List.forall_mem_cons.mpr ⟨kLc_17_33, List.forall_mem_cons.mpr ⟨kLc_17_34, List.forall_mem_cons.mpr ⟨kLc_17_35, List.forall_mem_cons.mpr ⟨kLc_17_36, List.forall_mem_cons.mpr ⟨kLc_17_37, List.forall_mem_cons.mpr ⟨kLc_17_38, List.forall_mem_cons.mpr ⟨kLc_17_39, List.forall_mem_cons.mpr ⟨kLc_17_40, List.forall_mem_cons.mpr ⟨kLc_17_41, List.forall_mem_cons.mpr ⟨kLc_17_42, List.forall_mem_cons.mpr ⟨kLc_17_43, List.forall_mem_cons.mpr ⟨kLc_17_44, List.forall_mem_cons.mpr ⟨kLc_17_45, List.forall_mem_cons.mpr ⟨kLc_17_46, List.forall_mem_cons.mpr ⟨kLc_17_47, List.forall_mem_cons.mpr ⟨kLc_17_48, List.forall_mem_cons.mpr ⟨kLc_17_49, List.forall_mem_cons.mpr ⟨kLc_17_50, List.forall_mem_cons.mpr ⟨kLc_17_51, List.forall_mem_cons.mpr ⟨kLc_17_52, List.forall_mem_cons.mpr ⟨kLc_17_53, List.forall_mem_cons.mpr ⟨kLc_17_54, List.forall_mem_cons.mpr ⟨kLc_17_55, List.forall_mem_cons.mpr ⟨kLc_17_56, List.forall_mem_cons.mpr ⟨kLc_17_57, List.forall_mem_cons.mpr ⟨kLc_17_58, List.forall_mem_cons.mpr ⟨kLc_17_59, List.forall_mem_cons.mpr ⟨kLc_17_60, List.forall_mem_cons.mpr ⟨kLc_17_61, List.forall_mem_cons.mpr ⟨kLc_17_62, List.forall_mem_cons.mpr ⟨kLc_17_63, List.forall_mem_cons.mpr ⟨kLc_17_64, List.forall_mem_cons.mpr ⟨kLc_17_65, List.forall_mem_cons.mpr ⟨kLc_17_66, fun _ h => absurd h List.not_mem_nil⟩⟩⟩⟩⟩⟩⟩⟩⟩⟩⟩⟩⟩⟩⟩⟩⟩⟩⟩⟩⟩⟩⟩⟩⟩⟩⟩⟩⟩⟩⟩⟩⟩⟩⟩⟩⟩⟩⟩⟩⟩⟩⟩⟩⟩⟩⟩⟩⟩⟩⟩⟩⟩⟩⟩⟩⟩⟩⟩⟩⟩⟩⟩⟩⟩⟩⟩
theorem kl_18_9 : kLp "java/lang/StringLatin1" (9, 1, 312, 2, .null) := pm_lk1 (Or.inl kw_1159) kPn_312 kw_1160
theorem kLc_18_0 : ∀ q ∈ kLk_18_0, kLp "java/lang/StringLatin1" q := List.forall_mem_cons.mpr ⟨kl_18_9, fun _ h => absurd h List.not_mem_nil⟩
theorem kLc_18_1 : ∀ q ∈ kLk_18_1, kLp "java/lang/StringLatin1" q := fun _ h => absurd h List.not_mem_nil
theorem kl_18_38 : kLp "java/lang/StringLatin1" (38, 16, 0, 0, .null) := pm_lk16 kw_1161
theorem kLc_18_2 : ∀ q ∈ kLk_18_2, kLp "java/lang/StringLatin1" q := List.forall_mem_cons.mpr ⟨kl_18_38, fun _ h => absurd h List.not_mem_nil⟩
theorem kLc_18_3 : ∀ q ∈ kLk_18_3, kLp "java/lang/StringLatin1" q := fun _ h => absurd h List.not_mem_nil
theorem kLc_18_4 : ∀ q ∈ kLk_18_4, kLp "java/lang/StringLatin1" q := fun _ h => absurd h List.not_mem_nil
theorem kl_18_88 : kLp "java/lang/StringLatin1" (88, 1, 315, 1, .null) := pm_lk1 (Or.inl kw_1162) kPn_315 kw_1163
theorem kl_18_92 : kLp "java/lang/StringLatin1" (92, 15, 0, 0, .null) := pm_lk15 kw_1164
theorem kl_18_95 : kLp "java/lang/StringLatin1" (95, 1, 317, 4, .null) := pm_lk1 (Or.inl kw_1165) kPn_317 kw_1166
theorem kLc_18_5 : ∀ q ∈ kLk_18_5, kLp "java/lang/StringLatin1" q := List.forall_mem_cons.mpr ⟨kl_18_88, List.forall_mem_cons.mpr ⟨kl_18_92, List.forall_mem_cons.mpr ⟨kl_18_95, fun _ h => absurd h List.not_mem_nil⟩⟩⟩
theorem kLd_18 : ∀ c ∈ kLo_18, ∀ q ∈ c, kLp "java/lang/StringLatin1" q := List.forall_mem_cons.mpr ⟨kLc_18_0, List.forall_mem_cons.mpr ⟨kLc_18_1, List.forall_mem_cons.mpr ⟨kLc_18_2, List.forall_mem_cons.mpr ⟨kLc_18_3, List.forall_mem_cons.mpr ⟨kLc_18_4, List.forall_mem_cons.mpr ⟨kLc_18_5, fun _ h => absurd h List.not_mem_nil⟩⟩⟩⟩⟩⟩
theorem kLc_19_0 : ∀ q ∈ kLk_19_0, kLp "java/lang/StringUTF16" q := fun _ h => absurd h List.not_mem_nil
theorem kLc_19_1 : ∀ q ∈ kLk_19_1, kLp "java/lang/StringUTF16" q := fun _ h => absurd h List.not_mem_nil
theorem kLc_19_2 : ∀ q ∈ kLk_19_2, kLp "java/lang/StringUTF16" q := fun _ h => absurd h List.not_mem_nil
theorem kl_19_48 : kLp "java/lang/StringUTF16" (48, 1, 319, 1, .null) := pm_lk1 (Or.inl kw_1167) kPn_319 kw_1168
theorem kLc_19_3 : ∀ q ∈ kLk_19_3, kLp "java/lang/StringUTF16" q := List.forall_mem_cons.mpr ⟨kl_19_48, fun _ h => absurd h List.not_mem_nil⟩
theorem kl_19_67 : kLp "java/lang/StringUTF16" (67, 1, 325, 2, .null) := pm_lk1 (Or.inl kw_1169) kPn_325 kw_1170
theorem kl_19_71 : kLp "java/lang/StringUTF16" (71, 1, 318, 2, .null) := pm_lk1 (Or.inl kw_1171) kPn_318 kw_1172
theorem kLc_19_4 : ∀ q ∈ kLk_19_4, kLp "java/lang/StringUTF16" q := List.forall_mem_cons.mpr ⟨kl_19_67, List.forall_mem_cons.mpr ⟨kl_19_71, fun _ h => absurd h List.not_mem_nil⟩⟩
theorem kLc_19_5 : ∀ q ∈ kLk_19_5, kLp "java/lang/StringUTF16" q := fun _ h => absurd h List.not_mem_nil
theorem kl_19_96 : kLp "java/lang/StringUTF16" (96, 1, 326, 3, .null) := pm_lk1 (Or.inl kw_1173) kPn_326 kw_1174
theorem kLc_19_6 : ∀ q ∈ kLk_19_6, kLp "java/lang/StringUTF16" q := List.forall_mem_cons.mpr ⟨kl_19_96, fun _ h => absurd h List.not_mem_nil⟩
theorem kLc_19_7 : ∀ q ∈ kLk_19_7, kLp "java/lang/StringUTF16" q := fun _ h => absurd h List.not_mem_nil
theorem kLc_19_8 : ∀ q ∈ kLk_19_8, kLp "java/lang/StringUTF16" q := fun _ h => absurd h List.not_mem_nil
theorem kl_19_157 : kLp "java/lang/StringUTF16" (157, 1, 301, 1, .null) := pm_lk1 (Or.inl kw_1175) kPn_301 kw_1176
theorem kLc_19_9 : ∀ q ∈ kLk_19_9, kLp "java/lang/StringUTF16" q := List.forall_mem_cons.mpr ⟨kl_19_157, fun _ h => absurd h List.not_mem_nil⟩
theorem kl_19_161 : kLp "java/lang/StringUTF16" (161, 1, 302, 1, .null) := pm_lk1 (Or.inl kw_1177) kPn_302 kw_1178
theorem kl_19_164 : kLp "java/lang/StringUTF16" (164, 1, 300, 1, .null) := pm_lk1 (Or.inl kw_1179) kPn_300 kw_1180
theorem kLc_19_10 : ∀ q ∈ kLk_19_10, kLp "java/lang/StringUTF16" q := List.forall_mem_cons.mpr ⟨kl_19_161, List.forall_mem_cons.mpr ⟨kl_19_164, fun _ h => absurd h List.not_mem_nil⟩⟩
theorem kl_19_183 : kLp "java/lang/StringUTF16" (183, 16, 0, 0, .null) := pm_lk16 kw_1181
theorem kLc_19_11 : ∀ q ∈ kLk_19_11, kLp "java/lang/StringUTF16" q := List.forall_mem_cons.mpr ⟨kl_19_183, fun _ h => absurd h List.not_mem_nil⟩
theorem kLc_19_12 : ∀ q ∈ kLk_19_12, kLp "java/lang/StringUTF16" q := fun _ h => absurd h List.not_mem_nil
theorem kLc_19_13 : ∀ q ∈ kLk_19_13, kLp "java/lang/StringUTF16" q := fun _ h => absurd h List.not_mem_nil
theorem kl_19_224 : kLp "java/lang/StringUTF16" (224, 15, 0, 0, .null) := pm_lk15 kw_1182
theorem kl_19_227 : kLp "java/lang/StringUTF16" (227, 10, 0, 0, .int (65536)) := pm_lk10 kw_1183
theorem kl_19_228 : kLp "java/lang/StringUTF16" (228, 1, 321, 4, .null) := pm_lk1 (Or.inl kw_1184) kPn_321 kw_1185
theorem kl_19_232 : kLp "java/lang/StringUTF16" (232, 1, 323, 4, .null) := pm_lk1 (Or.inl kw_1186) kPn_323 kw_1187
theorem kLc_19_14 : ∀ q ∈ kLk_19_14, kLp "java/lang/StringUTF16" q := List.forall_mem_cons.mpr ⟨kl_19_224, List.forall_mem_cons.mpr ⟨kl_19_227, List.forall_mem_cons.mpr ⟨kl_19_228, List.forall_mem_cons.mpr ⟨kl_19_232, fun _ h => absurd h List.not_mem_nil⟩⟩⟩⟩
theorem kl_19_241 : kLp "java/lang/StringUTF16" (241, 1, 313, 3, .null) := pm_lk1 (Or.inl kw_1188) kPn_313 kw_1189
theorem kl_19_244 : kLp "java/lang/StringUTF16" (244, 1, 322, 4, .null) := pm_lk1 (Or.inl kw_1190) kPn_322 kw_1191
theorem kLc_19_15 : ∀ q ∈ kLk_19_15, kLp "java/lang/StringUTF16" q := List.forall_mem_cons.mpr ⟨kl_19_241, List.forall_mem_cons.mpr ⟨kl_19_244, fun _ h => absurd h List.not_mem_nil⟩⟩
theorem kLc_19_16 : ∀ q ∈ kLk_19_16, kLp "java/lang/StringUTF16" q := fun _ h => absurd h List.not_mem_nil
theorem kLc_19_17 : ∀ q ∈ kLk_19_17, kLp "java/lang/StringUTF16" q := fun _ h => absurd h List.not_mem_nil
theorem kLc_19_18 : ∀ q ∈ kLk_19_18, kLp "java/lang/StringUTF16" q := fun _ h => absurd h List.not_mem_nil
theorem kLc_19_19 : ∀ q ∈ kLk_19_19, kLp "java/lang/StringUTF16" q := fun _ h => absurd h List.not_mem_nil
theorem kLc_19_20 : ∀ q ∈ kLk_19_20, kLp "java/lang/StringUTF16" q := fun _ h => absurd h List.not_mem_nil
theorem kLc_19_21 : ∀ q ∈ kLk_19_21, kLp "java/lang/StringUTF16" q := fun _ h => absurd h List.not_mem_nil
theorem kLc_19_22 : ∀ q ∈ kLk_19_22, kLp "java/lang/StringUTF16" q := fun _ h => absurd h List.not_mem_nil
theorem kLc_19_23 : ∀ q ∈ kLk_19_23, kLp "java/lang/StringUTF16" q := fun _ h => absurd h List.not_mem_nil
theorem kLc_19_24 : ∀ q ∈ kLk_19_24, kLp "java/lang/StringUTF16" q := fun _ h => absurd h List.not_mem_nil
theorem kl_19_414 : kLp "java/lang/StringUTF16" (414, 1, 312, 2, .null) := pm_lk1 (Or.inl kw_1192) kPn_312 kw_1160
theorem kLc_19_25 : ∀ q ∈ kLk_19_25, kLp "java/lang/StringUTF16" q := List.forall_mem_cons.mpr ⟨kl_19_414, fun _ h => absurd h List.not_mem_nil⟩
theorem kLd_19 : ∀ c ∈ kLo_19, ∀ q ∈ c, kLp "java/lang/StringUTF16" q := List.forall_mem_cons.mpr ⟨kLc_19_0, List.forall_mem_cons.mpr ⟨kLc_19_1, List.forall_mem_cons.mpr ⟨kLc_19_2, List.forall_mem_cons.mpr ⟨kLc_19_3, List.forall_mem_cons.mpr ⟨kLc_19_4, List.forall_mem_cons.mpr ⟨kLc_19_5, List.forall_mem_cons.mpr ⟨kLc_19_6, List.forall_mem_cons.mpr ⟨kLc_19_7, List.forall_mem_cons.mpr ⟨kLc_19_8, List.forall_mem_cons.mpr ⟨kLc_19_9, List.forall_mem_cons.mpr ⟨kLc_19_10, List.forall_mem_cons.mpr ⟨kLc_19_11, List.forall_mem_cons.mpr ⟨kLc_19_12, List.forall_mem_cons.mpr ⟨kLc_19_13, List.forall_mem_cons.mpr ⟨kLc_19_14, List.forall_mem_cons.mpr ⟨kLc_19_15, List.forall_mem_cons.mpr ⟨kLc_19_16, List.forall_mem_cons.mpr ⟨kLc_19_17, List.forall_mem_cons.mpr ⟨kLc_19_18, List.forall_mem_cons.mpr ⟨kLc_19_19, List.forall_mem_cons.mpr ⟨kLc_19_20, List.forall_mem_cons.mpr ⟨kLc_19_21, List.forall_mem_cons.mpr ⟨kLc_19_22, List.forall_mem_cons.mpr ⟨kLc_19_23, List.forall_mem_cons.mpr ⟨kLc_19_24, List.forall_mem_cons.mpr ⟨kLc_19_25, fun _ h => absurd h List.not_mem_nil⟩⟩⟩⟩⟩⟩⟩⟩⟩⟩⟩⟩⟩⟩⟩⟩⟩⟩⟩⟩⟩⟩⟩⟩⟩⟩
theorem kLc_20_0 : ∀ q ∈ kLk_20_0, kLp "java/util/Arrays" q := fun _ h => absurd h List.not_mem_nil
theorem kLd_20 : ∀ c ∈ kLo_20, ∀ q ∈ c, kLp "java/util/Arrays" q := List.forall_mem_cons.mpr ⟨kLc_20_0, fun _ h => absurd h List.not_mem_nil⟩
theorem kLc_21_0 : ∀ q ∈ kLk_21_0, kLp "jdk/internal/util/Preconditions" q := fun _ h => absurd h List.not_mem_nil
theorem kLd_21 : ∀ c ∈ kLo_21, ∀ q ∈ c, kLp "jdk/internal/util/Preconditions" q := List.forall_mem_cons.mpr ⟨kLc_21_0, fun _ h => absurd h List.not_mem_nil⟩
theorem kl_22_8 : kLp "BonnetValleyLaw" (8, 9, 12, 15, .null) := pm_lk9 (T := kT_12) rfl kw_563
theorem kLc_22_0 : ∀ q ∈ kLk_22_0, kLp "BonnetValleyLaw" q := List.forall_mem_cons.mpr ⟨kl_22_8, fun _ h => absurd h List.not_mem_nil⟩
theorem kl_22_22 : kLp "BonnetValleyLaw" (22, 3, 121, 0, .null) := pm_lk3 (Or.inl kw_564) kPn_121 rfl kw_565 rfl
theorem kl_22_23 : kLp "BonnetValleyLaw" (23, 9, 13, 49, .null) := pm_lk9 (T := kT_13) rfl kw_566
theorem kl_22_25 : kLp "BonnetValleyLaw" (25, 3, 187, 0, .null) := pm_lk3 (Or.inl kw_567) kPn_187 rfl kw_568 rfl
theorem kl_22_26 : kLp "BonnetValleyLaw" (26, 2, 122, 1, .ref 12) := pm_lk2 (ci := 12) (T := kT_12) (N := 15) (Or.inl kw_569) kPn_122 kw_570 kw_571 rfl
theorem kl_22_30 : kLp "BonnetValleyLaw" (30, 2, 193, 1, .ref 13) := pm_lk2 (ci := 13) (T := kT_13) (N := 49) (Or.inl kw_572) kPn_193 kw_573 kw_574 rfl
theorem kl_22_31 : kLp "BonnetValleyLaw" (31, 2, 123, 1, .ref 12) := pm_lk2 (ci := 12) (T := kT_12) (N := 15) (Or.inl kw_575) kPn_123 kw_576 kw_577 rfl
theorem kLc_22_1 : ∀ q ∈ kLk_22_1, kLp "BonnetValleyLaw" q := List.forall_mem_cons.mpr ⟨kl_22_22, List.forall_mem_cons.mpr ⟨kl_22_23, List.forall_mem_cons.mpr ⟨kl_22_25, List.forall_mem_cons.mpr ⟨kl_22_26, List.forall_mem_cons.mpr ⟨kl_22_30, List.forall_mem_cons.mpr ⟨kl_22_31, fun _ h => absurd h List.not_mem_nil⟩⟩⟩⟩⟩⟩
theorem kl_22_35 : kLp "BonnetValleyLaw" (35, 2, 194, 1, .ref 13) := pm_lk2 (ci := 13) (T := kT_13) (N := 49) (Or.inl kw_578) kPn_194 kw_579 kw_580 rfl
theorem kl_22_36 : kLp "BonnetValleyLaw" (36, 2, 124, 0, .ref 12) := pm_lk2 (ci := 12) (T := kT_12) (N := 15) (Or.inl kw_581) kPn_124 kw_582 kw_583 rfl
theorem kl_22_40 : kLp "BonnetValleyLaw" (40, 2, 202, 0, .ref 13) := pm_lk2 (ci := 13) (T := kT_13) (N := 49) (Or.inl kw_584) kPn_202 kw_585 kw_586 rfl
theorem kl_22_41 : kLp "BonnetValleyLaw" (41, 2, 125, 0, .ref 12) := pm_lk2 (ci := 12) (T := kT_12) (N := 15) (Or.inl kw_587) kPn_125 kw_588 kw_589 rfl
theorem kl_22_44 : kLp "BonnetValleyLaw" (44, 2, 208, 0, .ref 13) := pm_lk2 (ci := 13) (T := kT_13) (N := 49) (Or.inl kw_590) kPn_208 kw_591 kw_592 rfl
theorem kl_22_45 : kLp "BonnetValleyLaw" (45, 2, 126, 0, .ref 12) := pm_lk2 (ci := 12) (T := kT_12) (N := 15) (Or.inl kw_593) kPn_126 kw_594 kw_595 rfl
theorem kLc_22_2 : ∀ q ∈ kLk_22_2, kLp "BonnetValleyLaw" q := List.forall_mem_cons.mpr ⟨kl_22_35, List.forall_mem_cons.mpr ⟨kl_22_36, List.forall_mem_cons.mpr ⟨kl_22_40, List.forall_mem_cons.mpr ⟨kl_22_41, List.forall_mem_cons.mpr ⟨kl_22_44, List.forall_mem_cons.mpr ⟨kl_22_45, fun _ h => absurd h List.not_mem_nil⟩⟩⟩⟩⟩⟩
theorem kl_22_48 : kLp "BonnetValleyLaw" (48, 2, 209, 0, .ref 13) := pm_lk2 (ci := 13) (T := kT_13) (N := 49) (Or.inl kw_596) kPn_209 kw_597 kw_598 rfl
theorem kl_22_49 : kLp "BonnetValleyLaw" (49, 2, 127, 0, .ref 12) := pm_lk2 (ci := 12) (T := kT_12) (N := 15) (Or.inl kw_599) kPn_127 kw_600 kw_601 rfl
theorem kl_22_52 : kLp "BonnetValleyLaw" (52, 2, 210, 0, .ref 13) := pm_lk2 (ci := 13) (T := kT_13) (N := 49) (Or.inl kw_602) kPn_210 kw_603 kw_604 rfl
theorem kl_22_53 : kLp "BonnetValleyLaw" (53, 2, 128, 0, .ref 12) := pm_lk2 (ci := 12) (T := kT_12) (N := 15) (Or.inl kw_605) kPn_128 kw_606 kw_607 rfl
theorem kl_22_56 : kLp "BonnetValleyLaw" (56, 2, 217, 0, .ref 13) := pm_lk2 (ci := 13) (T := kT_13) (N := 49) (Or.inl kw_608) kPn_217 kw_609 kw_610 rfl
theorem kl_22_62 : kLp "BonnetValleyLaw" (62, 2, 235, 2, .ref 13) := pm_lk2 (ci := 13) (T := kT_13) (N := 49) (Or.inl kw_611) kPn_235 kw_612 kw_613 rfl
theorem kLc_22_3 : ∀ q ∈ kLk_22_3, kLp "BonnetValleyLaw" q := List.forall_mem_cons.mpr ⟨kl_22_48, List.forall_mem_cons.mpr ⟨kl_22_49, List.forall_mem_cons.mpr ⟨kl_22_52, List.forall_mem_cons.mpr ⟨kl_22_53, List.forall_mem_cons.mpr ⟨kl_22_56, List.forall_mem_cons.mpr ⟨kl_22_62, fun _ h => absurd h List.not_mem_nil⟩⟩⟩⟩⟩⟩
theorem kl_22_65 : kLp "BonnetValleyLaw" (65, 2, 236, 2, .ref 13) := pm_lk2 (ci := 13) (T := kT_13) (N := 49) (Or.inl kw_614) kPn_236 kw_615 kw_616 rfl
theorem kl_22_66 : kLp "BonnetValleyLaw" (66, 2, 331, 0, .ref 13) := pm_lk2 (ci := 13) (T := kT_13) (N := 49) (Or.inl kw_617) kPn_331 kw_618 kw_619 rfl
theorem kl_22_69 : kLp "BonnetValleyLaw" (69, 2, 131, 4, .ref 12) := pm_lk2 (ci := 12) (T := kT_12) (N := 15) (Or.inl kw_620) kPn_131 kw_621 kw_622 rfl
theorem kl_22_73 : kLp "BonnetValleyLaw" (73, 2, 237, 4, .ref 13) := pm_lk2 (ci := 13) (T := kT_13) (N := 49) (Or.inl kw_623) kPn_237 kw_624 kw_625 rfl
theorem kl_22_74 : kLp "BonnetValleyLaw" (74, 2, 133, 1, .ref 12) := pm_lk2 (ci := 12) (T := kT_12) (N := 15) (Or.inl kw_626) kPn_133 kw_627 kw_628 rfl
theorem kl_22_77 : kLp "BonnetValleyLaw" (77, 2, 248, 1, .ref 13) := pm_lk2 (ci := 13) (T := kT_13) (N := 49) (Or.inl kw_629) kPn_248 kw_630 kw_631 rfl
theorem kl_22_78 : kLp "BonnetValleyLaw" (78, 2, 134, 2, .ref 12) := pm_lk2 (ci := 12) (T := kT_12) (N := 15) (Or.inl kw_632) kPn_134 kw_633 kw_634 rfl
theorem kLc_22_4 : ∀ q ∈ kLk_22_4, kLp "BonnetValleyLaw" q := List.forall_mem_cons.mpr ⟨kl_22_65, List.forall_mem_cons.mpr ⟨kl_22_66, List.forall_mem_cons.mpr ⟨kl_22_69, List.forall_mem_cons.mpr ⟨kl_22_73, List.forall_mem_cons.mpr ⟨kl_22_74, List.forall_mem_cons.mpr ⟨kl_22_77, List.forall_mem_cons.mpr ⟨kl_22_78, fun _ h => absurd h List.not_mem_nil⟩⟩⟩⟩⟩⟩⟩
theorem kl_22_81 : kLp "BonnetValleyLaw" (81, 2, 249, 2, .ref 13) := pm_lk2 (ci := 13) (T := kT_13) (N := 49) (Or.inl kw_635) kPn_249 kw_636 kw_637 rfl
theorem kl_22_82 : kLp "BonnetValleyLaw" (82, 2, 135, 2, .ref 12) := pm_lk2 (ci := 12) (T := kT_12) (N := 15) (Or.inl kw_638) kPn_135 kw_639 kw_640 rfl
theorem kl_22_85 : kLp "BonnetValleyLaw" (85, 2, 250, 2, .ref 13) := pm_lk2 (ci := 13) (T := kT_13) (N := 49) (Or.inl kw_641) kPn_250 kw_642 kw_643 rfl
theorem kl_22_86 : kLp "BonnetValleyLaw" (86, 2, 136, 2, .ref 12) := pm_lk2 (ci := 12) (T := kT_12) (N := 15) (Or.inl kw_644) kPn_136 kw_645 kw_646 rfl
theorem kl_22_89 : kLp "BonnetValleyLaw" (89, 2, 251, 2, .ref 13) := pm_lk2 (ci := 13) (T := kT_13) (N := 49) (Or.inl kw_647) kPn_251 kw_648 kw_649 rfl
theorem kl_22_90 : kLp "BonnetValleyLaw" (90, 2, 137, 2, .ref 12) := pm_lk2 (ci := 12) (T := kT_12) (N := 15) (Or.inl kw_650) kPn_137 kw_651 kw_652 rfl
theorem kl_22_93 : kLp "BonnetValleyLaw" (93, 2, 252, 2, .ref 13) := pm_lk2 (ci := 13) (T := kT_13) (N := 49) (Or.inl kw_653) kPn_252 kw_654 kw_655 rfl
theorem kl_22_94 : kLp "BonnetValleyLaw" (94, 2, 138, 0, .ref 12) := pm_lk2 (ci := 12) (T := kT_12) (N := 15) (Or.inl kw_656) kPn_138 kw_657 kw_658 rfl
theorem kLc_22_5 : ∀ q ∈ kLk_22_5, kLp "BonnetValleyLaw" q := List.forall_mem_cons.mpr ⟨kl_22_81, List.forall_mem_cons.mpr ⟨kl_22_82, List.forall_mem_cons.mpr ⟨kl_22_85, List.forall_mem_cons.mpr ⟨kl_22_86, List.forall_mem_cons.mpr ⟨kl_22_89, List.forall_mem_cons.mpr ⟨kl_22_90, List.forall_mem_cons.mpr ⟨kl_22_93, List.forall_mem_cons.mpr ⟨kl_22_94, fun _ h => absurd h List.not_mem_nil⟩⟩⟩⟩⟩⟩⟩⟩
theorem kl_22_97 : kLp "BonnetValleyLaw" (97, 2, 255, 0, .ref 13) := pm_lk2 (ci := 13) (T := kT_13) (N := 49) (Or.inl kw_659) kPn_255 kw_660 kw_661 rfl
theorem kl_22_98 : kLp "BonnetValleyLaw" (98, 2, 139, 0, .ref 12) := pm_lk2 (ci := 12) (T := kT_12) (N := 15) (Or.inl kw_662) kPn_139 kw_663 kw_664 rfl
theorem kl_22_101 : kLp "BonnetValleyLaw" (101, 2, 241, 0, .ref 13) := pm_lk2 (ci := 13) (T := kT_13) (N := 49) (Or.inl kw_665) kPn_241 kw_666 kw_667 rfl
theorem kl_22_102 : kLp "BonnetValleyLaw" (102, 2, 147, 1, .ref 12) := pm_lk2 (ci := 12) (T := kT_12) (N := 15) (Or.inl kw_668) kPn_147 kw_669 kw_670 rfl
theorem kl_22_105 : kLp "BonnetValleyLaw" (105, 2, 257, 1, .ref 13) := pm_lk2 (ci := 13) (T := kT_13) (N := 49) (Or.inl kw_671) kPn_257 kw_672 kw_673 rfl
theorem kl_22_106 : kLp "BonnetValleyLaw" (106, 2, 148, 1, .ref 12) := pm_lk2 (ci := 12) (T := kT_12) (N := 15) (Or.inl kw_674) kPn_148 kw_675 kw_676 rfl
theorem kl_22_109 : kLp "BonnetValleyLaw" (109, 2, 258, 1, .ref 13) := pm_lk2 (ci := 13) (T := kT_13) (N := 49) (Or.inl kw_677) kPn_258 kw_678 kw_679 rfl
theorem kl_22_110 : kLp "BonnetValleyLaw" (110, 2, 149, 0, .ref 12) := pm_lk2 (ci := 12) (T := kT_12) (N := 15) (Or.inl kw_680) kPn_149 kw_681 kw_682 rfl
theorem kLc_22_6 : ∀ q ∈ kLk_22_6, kLp "BonnetValleyLaw" q := List.forall_mem_cons.mpr ⟨kl_22_97, List.forall_mem_cons.mpr ⟨kl_22_98, List.forall_mem_cons.mpr ⟨kl_22_101, List.forall_mem_cons.mpr ⟨kl_22_102, List.forall_mem_cons.mpr ⟨kl_22_105, List.forall_mem_cons.mpr ⟨kl_22_106, List.forall_mem_cons.mpr ⟨kl_22_109, List.forall_mem_cons.mpr ⟨kl_22_110, fun _ h => absurd h List.not_mem_nil⟩⟩⟩⟩⟩⟩⟩⟩
theorem kl_22_114 : kLp "BonnetValleyLaw" (114, 2, 260, 0, .ref 13) := pm_lk2 (ci := 13) (T := kT_13) (N := 49) (Or.inl kw_683) kPn_260 kw_684 kw_685 rfl
theorem kl_22_115 : kLp "BonnetValleyLaw" (115, 2, 150, 0, .ref 12) := pm_lk2 (ci := 12) (T := kT_12) (N := 15) (Or.inl kw_686) kPn_150 kw_687 kw_688 rfl
theorem kl_22_118 : kLp "BonnetValleyLaw" (118, 2, 261, 0, .ref 13) := pm_lk2 (ci := 13) (T := kT_13) (N := 49) (Or.inl kw_689) kPn_261 kw_690 kw_691 rfl
theorem kl_22_119 : kLp "BonnetValleyLaw" (119, 2, 151, 1, .ref 12) := pm_lk2 (ci := 12) (T := kT_12) (N := 15) (Or.inl kw_692) kPn_151 kw_693 kw_694 rfl
theorem kl_22_122 : kLp "BonnetValleyLaw" (122, 2, 262, 1, .ref 13) := pm_lk2 (ci := 13) (T := kT_13) (N := 49) (Or.inl kw_695) kPn_262 kw_696 kw_697 rfl
theorem kl_22_123 : kLp "BonnetValleyLaw" (123, 2, 152, 0, .ref 12) := pm_lk2 (ci := 12) (T := kT_12) (N := 15) (Or.inl kw_698) kPn_152 kw_699 kw_700 rfl
theorem kl_22_126 : kLp "BonnetValleyLaw" (126, 2, 263, 0, .ref 13) := pm_lk2 (ci := 13) (T := kT_13) (N := 49) (Or.inl kw_701) kPn_263 kw_702 kw_703 rfl
theorem kl_22_127 : kLp "BonnetValleyLaw" (127, 2, 153, 0, .ref 12) := pm_lk2 (ci := 12) (T := kT_12) (N := 15) (Or.inl kw_704) kPn_153 kw_705 kw_706 rfl
theorem kLc_22_7 : ∀ q ∈ kLk_22_7, kLp "BonnetValleyLaw" q := List.forall_mem_cons.mpr ⟨kl_22_114, List.forall_mem_cons.mpr ⟨kl_22_115, List.forall_mem_cons.mpr ⟨kl_22_118, List.forall_mem_cons.mpr ⟨kl_22_119, List.forall_mem_cons.mpr ⟨kl_22_122, List.forall_mem_cons.mpr ⟨kl_22_123, List.forall_mem_cons.mpr ⟨kl_22_126, List.forall_mem_cons.mpr ⟨kl_22_127, fun _ h => absurd h List.not_mem_nil⟩⟩⟩⟩⟩⟩⟩⟩
theorem kl_22_130 : kLp "BonnetValleyLaw" (130, 2, 265, 0, .ref 13) := pm_lk2 (ci := 13) (T := kT_13) (N := 49) (Or.inl kw_707) kPn_265 kw_708 kw_709 rfl
theorem kl_22_131 : kLp "BonnetValleyLaw" (131, 2, 154, 2, .ref 12) := pm_lk2 (ci := 12) (T := kT_12) (N := 15) (Or.inl kw_710) kPn_154 kw_711 kw_712 rfl
theorem kl_22_134 : kLp "BonnetValleyLaw" (134, 2, 266, 2, .ref 13) := pm_lk2 (ci := 13) (T := kT_13) (N := 49) (Or.inl kw_713) kPn_266 kw_714 kw_715 rfl
theorem kl_22_135 : kLp "BonnetValleyLaw" (135, 2, 155, 0, .ref 12) := pm_lk2 (ci := 12) (T := kT_12) (N := 15) (Or.inl kw_716) kPn_155 kw_717 kw_718 rfl
theorem kl_22_138 : kLp "BonnetValleyLaw" (138, 2, 268, 0, .ref 13) := pm_lk2 (ci := 13) (T := kT_13) (N := 49) (Or.inl kw_719) kPn_268 kw_720 kw_721 rfl
theorem kl_22_139 : kLp "BonnetValleyLaw" (139, 2, 156, 1, .ref 12) := pm_lk2 (ci := 12) (T := kT_12) (N := 15) (Or.inl kw_722) kPn_156 kw_723 kw_724 rfl
theorem kl_22_142 : kLp "BonnetValleyLaw" (142, 2, 269, 1, .ref 13) := pm_lk2 (ci := 13) (T := kT_13) (N := 49) (Or.inl kw_725) kPn_269 kw_726 kw_727 rfl
theorem kl_22_143 : kLp "BonnetValleyLaw" (143, 2, 157, 1, .ref 12) := pm_lk2 (ci := 12) (T := kT_12) (N := 15) (Or.inl kw_728) kPn_157 kw_729 kw_730 rfl
theorem kLc_22_8 : ∀ q ∈ kLk_22_8, kLp "BonnetValleyLaw" q := List.forall_mem_cons.mpr ⟨kl_22_130, List.forall_mem_cons.mpr ⟨kl_22_131, List.forall_mem_cons.mpr ⟨kl_22_134, List.forall_mem_cons.mpr ⟨kl_22_135, List.forall_mem_cons.mpr ⟨kl_22_138, List.forall_mem_cons.mpr ⟨kl_22_139, List.forall_mem_cons.mpr ⟨kl_22_142, List.forall_mem_cons.mpr ⟨kl_22_143, fun _ h => absurd h List.not_mem_nil⟩⟩⟩⟩⟩⟩⟩⟩
theorem kl_22_146 : kLp "BonnetValleyLaw" (146, 2, 270, 1, .ref 13) := pm_lk2 (ci := 13) (T := kT_13) (N := 49) (Or.inl kw_731) kPn_270 kw_732 kw_733 rfl
theorem kl_22_147 : kLp "BonnetValleyLaw" (147, 2, 158, 2, .ref 12) := pm_lk2 (ci := 12) (T := kT_12) (N := 15) (Or.inl kw_734) kPn_158 kw_735 kw_736 rfl
theorem kl_22_150 : kLp "BonnetValleyLaw" (150, 2, 272, 2, .ref 13) := pm_lk2 (ci := 13) (T := kT_13) (N := 49) (Or.inl kw_737) kPn_272 kw_738 kw_739 rfl
theorem kl_22_151 : kLp "BonnetValleyLaw" (151, 2, 159, 0, .ref 12) := pm_lk2 (ci := 12) (T := kT_12) (N := 15) (Or.inl kw_740) kPn_159 kw_741 kw_742 rfl
theorem kl_22_154 : kLp "BonnetValleyLaw" (154, 2, 276, 0, .ref 13) := pm_lk2 (ci := 13) (T := kT_13) (N := 49) (Or.inl kw_743) kPn_276 kw_744 kw_745 rfl
theorem kl_22_155 : kLp "BonnetValleyLaw" (155, 2, 160, 1, .ref 12) := pm_lk2 (ci := 12) (T := kT_12) (N := 15) (Or.inl kw_746) kPn_160 kw_747 kw_748 rfl
theorem kl_22_158 : kLp "BonnetValleyLaw" (158, 2, 277, 1, .ref 13) := pm_lk2 (ci := 13) (T := kT_13) (N := 49) (Or.inl kw_749) kPn_277 kw_750 kw_751 rfl
theorem kl_22_159 : kLp "BonnetValleyLaw" (159, 2, 161, 2, .ref 12) := pm_lk2 (ci := 12) (T := kT_12) (N := 15) (Or.inl kw_752) kPn_161 kw_753 kw_754 rfl
theorem kLc_22_9 : ∀ q ∈ kLk_22_9, kLp "BonnetValleyLaw" q := List.forall_mem_cons.mpr ⟨kl_22_146, List.forall_mem_cons.mpr ⟨kl_22_147, List.forall_mem_cons.mpr ⟨kl_22_150, List.forall_mem_cons.mpr ⟨kl_22_151, List.forall_mem_cons.mpr ⟨kl_22_154, List.forall_mem_cons.mpr ⟨kl_22_155, List.forall_mem_cons.mpr ⟨kl_22_158, List.forall_mem_cons.mpr ⟨kl_22_159, fun _ h => absurd h List.not_mem_nil⟩⟩⟩⟩⟩⟩⟩⟩
theorem kl_22_162 : kLp "BonnetValleyLaw" (162, 2, 278, 2, .ref 13) := pm_lk2 (ci := 13) (T := kT_13) (N := 49) (Or.inl kw_755) kPn_278 kw_756 kw_757 rfl
theorem kl_22_163 : kLp "BonnetValleyLaw" (163, 2, 164, 2, .ref 12) := pm_lk2 (ci := 12) (T := kT_12) (N := 15) (Or.inl kw_758) kPn_164 kw_759 kw_760 rfl
theorem kl_22_166 : kLp "BonnetValleyLaw" (166, 2, 281, 2, .ref 13) := pm_lk2 (ci := 13) (T := kT_13) (N := 49) (Or.inl kw_761) kPn_281 kw_762 kw_763 rfl
theorem kl_22_167 : kLp "BonnetValleyLaw" (167, 2, 165, 2, .ref 12) := pm_lk2 (ci := 12) (T := kT_12) (N := 15) (Or.inl kw_764) kPn_165 kw_765 kw_766 rfl
theorem kl_22_170 : kLp "BonnetValleyLaw" (170, 2, 282, 2, .ref 13) := pm_lk2 (ci := 13) (T := kT_13) (N := 49) (Or.inl kw_767) kPn_282 kw_768 kw_769 rfl
theorem kl_22_171 : kLp "BonnetValleyLaw" (171, 2, 166, 2, .ref 12) := pm_lk2 (ci := 12) (T := kT_12) (N := 15) (Or.inl kw_770) kPn_166 kw_771 kw_772 rfl
theorem kl_22_174 : kLp "BonnetValleyLaw" (174, 2, 283, 2, .ref 13) := pm_lk2 (ci := 13) (T := kT_13) (N := 49) (Or.inl kw_773) kPn_283 kw_774 kw_775 rfl
theorem kl_22_175 : kLp "BonnetValleyLaw" (175, 2, 167, 0, .ref 12) := pm_lk2 (ci := 12) (T := kT_12) (N := 15) (Or.inl kw_776) kPn_167 kw_777 kw_778 rfl
theorem kLc_22_10 : ∀ q ∈ kLk_22_10, kLp "BonnetValleyLaw" q := List.forall_mem_cons.mpr ⟨kl_22_162, List.forall_mem_cons.mpr ⟨kl_22_163, List.forall_mem_cons.mpr ⟨kl_22_166, List.forall_mem_cons.mpr ⟨kl_22_167, List.forall_mem_cons.mpr ⟨kl_22_170, List.forall_mem_cons.mpr ⟨kl_22_171, List.forall_mem_cons.mpr ⟨kl_22_174, List.forall_mem_cons.mpr ⟨kl_22_175, fun _ h => absurd h List.not_mem_nil⟩⟩⟩⟩⟩⟩⟩⟩
theorem kl_22_178 : kLp "BonnetValleyLaw" (178, 2, 284, 0, .ref 13) := pm_lk2 (ci := 13) (T := kT_13) (N := 49) (Or.inl kw_779) kPn_284 kw_780 kw_781 rfl
theorem kl_22_179 : kLp "BonnetValleyLaw" (179, 2, 168, 0, .ref 12) := pm_lk2 (ci := 12) (T := kT_12) (N := 15) (Or.inl kw_782) kPn_168 kw_783 kw_784 rfl
theorem kl_22_182 : kLp "BonnetValleyLaw" (182, 2, 286, 0, .ref 13) := pm_lk2 (ci := 13) (T := kT_13) (N := 49) (Or.inl kw_785) kPn_286 kw_786 kw_787 rfl
theorem kl_22_183 : kLp "BonnetValleyLaw" (183, 2, 169, 0, .ref 12) := pm_lk2 (ci := 12) (T := kT_12) (N := 15) (Or.inl kw_788) kPn_169 kw_789 kw_790 rfl
theorem kl_22_186 : kLp "BonnetValleyLaw" (186, 2, 287, 0, .ref 13) := pm_lk2 (ci := 13) (T := kT_13) (N := 49) (Or.inl kw_791) kPn_287 kw_792 kw_793 rfl
theorem kl_22_187 : kLp "BonnetValleyLaw" (187, 2, 171, 3, .ref 12) := pm_lk2 (ci := 12) (T := kT_12) (N := 15) (Or.inl kw_794) kPn_171 kw_795 kw_796 rfl
theorem kl_22_191 : kLp "BonnetValleyLaw" (191, 2, 288, 3, .ref 13) := pm_lk2 (ci := 13) (T := kT_13) (N := 49) (Or.inl kw_797) kPn_288 kw_798 kw_799 rfl
theorem kLc_22_11 : ∀ q ∈ kLk_22_11, kLp "BonnetValleyLaw" q := List.forall_mem_cons.mpr ⟨kl_22_178, List.forall_mem_cons.mpr ⟨kl_22_179, List.forall_mem_cons.mpr ⟨kl_22_182, List.forall_mem_cons.mpr ⟨kl_22_183, List.forall_mem_cons.mpr ⟨kl_22_186, List.forall_mem_cons.mpr ⟨kl_22_187, List.forall_mem_cons.mpr ⟨kl_22_191, fun _ h => absurd h List.not_mem_nil⟩⟩⟩⟩⟩⟩⟩
theorem kl_22_192 : kLp "BonnetValleyLaw" (192, 2, 172, 2, .ref 12) := pm_lk2 (ci := 12) (T := kT_12) (N := 15) (Or.inl kw_800) kPn_172 kw_801 kw_802 rfl
theorem kl_22_195 : kLp "BonnetValleyLaw" (195, 2, 289, 2, .ref 13) := pm_lk2 (ci := 13) (T := kT_13) (N := 49) (Or.inl kw_803) kPn_289 kw_804 kw_805 rfl
theorem kl_22_196 : kLp "BonnetValleyLaw" (196, 2, 173, 0, .ref 12) := pm_lk2 (ci := 12) (T := kT_12) (N := 15) (Or.inl kw_806) kPn_173 kw_807 kw_808 rfl
theorem kl_22_199 : kLp "BonnetValleyLaw" (199, 2, 290, 0, .ref 13) := pm_lk2 (ci := 13) (T := kT_13) (N := 49) (Or.inl kw_809) kPn_290 kw_810 kw_811 rfl
theorem kl_22_200 : kLp "BonnetValleyLaw" (200, 2, 174, 1, .ref 12) := pm_lk2 (ci := 12) (T := kT_12) (N := 15) (Or.inl kw_812) kPn_174 kw_813 kw_814 rfl
theorem kl_22_203 : kLp "BonnetValleyLaw" (203, 2, 293, 1, .ref 13) := pm_lk2 (ci := 13) (T := kT_13) (N := 49) (Or.inl kw_815) kPn_293 kw_816 kw_817 rfl
theorem kl_22_204 : kLp "BonnetValleyLaw" (204, 2, 175, 2, .ref 12) := pm_lk2 (ci := 12) (T := kT_12) (N := 15) (Or.inl kw_818) kPn_175 kw_819 kw_820 rfl
theorem kl_22_207 : kLp "BonnetValleyLaw" (207, 2, 295, 2, .ref 13) := pm_lk2 (ci := 13) (T := kT_13) (N := 49) (Or.inl kw_821) kPn_295 kw_822 kw_823 rfl
theorem kLc_22_12 : ∀ q ∈ kLk_22_12, kLp "BonnetValleyLaw" q := List.forall_mem_cons.mpr ⟨kl_22_192, List.forall_mem_cons.mpr ⟨kl_22_195, List.forall_mem_cons.mpr ⟨kl_22_196, List.forall_mem_cons.mpr ⟨kl_22_199, List.forall_mem_cons.mpr ⟨kl_22_200, List.forall_mem_cons.mpr ⟨kl_22_203, List.forall_mem_cons.mpr ⟨kl_22_204, List.forall_mem_cons.mpr ⟨kl_22_207, fun _ h => absurd h List.not_mem_nil⟩⟩⟩⟩⟩⟩⟩⟩
theorem kl_22_208 : kLp "BonnetValleyLaw" (208, 2, 177, 1, .ref 12) := pm_lk2 (ci := 12) (T := kT_12) (N := 15) (Or.inl kw_824) kPn_177 kw_825 kw_826 rfl
theorem kl_22_211 : kLp "BonnetValleyLaw" (211, 2, 296, 1, .ref 13) := pm_lk2 (ci := 13) (T := kT_13) (N := 49) (Or.inl kw_827) kPn_296 kw_828 kw_829 rfl
theorem kl_22_212 : kLp "BonnetValleyLaw" (212, 2, 178, 1, .ref 12) := pm_lk2 (ci := 12) (T := kT_12) (N := 15) (Or.inl kw_830) kPn_178 kw_831 kw_832 rfl
theorem kl_22_215 : kLp "BonnetValleyLaw" (215, 2, 297, 1, .ref 13) := pm_lk2 (ci := 13) (T := kT_13) (N := 49) (Or.inl kw_833) kPn_297 kw_834 kw_835 rfl
theorem kl_22_216 : kLp "BonnetValleyLaw" (216, 2, 179, 1, .ref 12) := pm_lk2 (ci := 12) (T := kT_12) (N := 15) (Or.inl kw_836) kPn_179 kw_837 kw_838 rfl
theorem kl_22_219 : kLp "BonnetValleyLaw" (219, 2, 298, 1, .ref 13) := pm_lk2 (ci := 13) (T := kT_13) (N := 49) (Or.inl kw_839) kPn_298 kw_840 kw_841 rfl
theorem kl_22_223 : kLp "BonnetValleyLaw" (223, 2, 299, 1, .ref 13) := pm_lk2 (ci := 13) (T := kT_13) (N := 49) (Or.inl kw_842) kPn_299 kw_843 kw_844 rfl
theorem kLc_22_13 : ∀ q ∈ kLk_22_13, kLp "BonnetValleyLaw" q := List.forall_mem_cons.mpr ⟨kl_22_208, List.forall_mem_cons.mpr ⟨kl_22_211, List.forall_mem_cons.mpr ⟨kl_22_212, List.forall_mem_cons.mpr ⟨kl_22_215, List.forall_mem_cons.mpr ⟨kl_22_216, List.forall_mem_cons.mpr ⟨kl_22_219, List.forall_mem_cons.mpr ⟨kl_22_223, fun _ h => absurd h List.not_mem_nil⟩⟩⟩⟩⟩⟩⟩
theorem kLd_22 : ∀ c ∈ kLo_22, ∀ q ∈ c, kLp "BonnetValleyLaw" q := List.forall_mem_cons.mpr ⟨kLc_22_0, List.forall_mem_cons.mpr ⟨kLc_22_1, List.forall_mem_cons.mpr ⟨kLc_22_2, List.forall_mem_cons.mpr ⟨kLc_22_3, List.forall_mem_cons.mpr ⟨kLc_22_4, List.forall_mem_cons.mpr ⟨kLc_22_5, List.forall_mem_cons.mpr ⟨kLc_22_6, List.forall_mem_cons.mpr ⟨kLc_22_7, List.forall_mem_cons.mpr ⟨kLc_22_8, List.forall_mem_cons.mpr ⟨kLc_22_9, List.forall_mem_cons.mpr ⟨kLc_22_10, List.forall_mem_cons.mpr ⟨kLc_22_11, List.forall_mem_cons.mpr ⟨kLc_22_12, List.forall_mem_cons.mpr ⟨kLc_22_13, fun _ h => absurd h List.not_mem_nil⟩⟩⟩⟩⟩⟩⟩⟩⟩⟩⟩⟩⟩⟩
theorem kLall : ∀ o ∈ klks, ∀ c ∈ o.2, ∀ q ∈ c, kLp o.1 q := List.forall_mem_cons.mpr ⟨kLd_0, List.forall_mem_cons.mpr ⟨kLd_1, List.forall_mem_cons.mpr ⟨kLd_2, List.forall_mem_cons.mpr ⟨kLd_3, List.forall_mem_cons.mpr ⟨kLd_4, List.forall_mem_cons.mpr ⟨kLd_5, List.forall_mem_cons.mpr ⟨kLd_6, List.forall_mem_cons.mpr ⟨kLd_7, List.forall_mem_cons.mpr ⟨kLd_8, List.forall_mem_cons.mpr ⟨kLd_9, List.forall_mem_cons.mpr ⟨kLd_10, List.forall_mem_cons.mpr ⟨kLd_11, List.forall_mem_cons.mpr ⟨kLd_12, List.forall_mem_cons.mpr ⟨kLd_13, List.forall_mem_cons.mpr ⟨kLd_14, List.forall_mem_cons.mpr ⟨kLd_15, List.forall_mem_cons.mpr ⟨kLd_16, List.forall_mem_cons.mpr ⟨kLd_17, List.forall_mem_cons.mpr ⟨kLd_18, List.forall_mem_cons.mpr ⟨kLd_19, List.forall_mem_cons.mpr ⟨kLd_20, List.forall_mem_cons.mpr ⟨kLd_21, List.forall_mem_cons.mpr ⟨kLd_22, fun _ h => absurd h List.not_mem_nil⟩⟩⟩⟩⟩⟩⟩⟩⟩⟩⟩⟩⟩⟩⟩⟩⟩⟩⟩⟩⟩⟩⟩
