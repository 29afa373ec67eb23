/-! The start -/
theorem kjn_1 {n : Nat} {w : Cond} (h : (tables_1_1)[n]? = some w) : w ∈ lw_tbl := List.mem_append_right _ (List.mem_append_left _ (List.mem_of_getElem? h))
theorem kjn_2 {n : Nat} {w : Cond} (h : (tables_1_2)[n]? = some w) : w ∈ lw_tbl := List.mem_append_right _ (List.mem_append_right _ (List.mem_append_left _ (List.mem_of_getElem? h)))
theorem kjn_3 {n : Nat} {w : Cond} (h : (tables_1_3)[n]? = some w) : w ∈ lw_tbl := List.mem_append_right _ (List.mem_append_right _ (List.mem_append_right _ (List.mem_append_left _ (List.mem_of_getElem? h))))
theorem kjn_4 {n : Nat} {w : Cond} (h : (tables_1_4)[n]? = some w) : w ∈ lw_tbl := List.mem_append_right _ (List.mem_append_right _ (List.mem_append_right _ (List.mem_append_right _ (List.mem_append_left _ (List.mem_of_getElem? h)))))
theorem kjn_5 {n : Nat} {w : Cond} (h : (tables_1_5)[n]? = some w) : w ∈ lw_tbl := List.mem_append_right _ (List.mem_append_right _ (List.mem_append_right _ (List.mem_append_right _ (List.mem_append_right _ (List.mem_append_left _ (List.mem_of_getElem? h))))))
theorem kjn_7 {n : Nat} {w : Cond} (h : (tables_1_7)[n]? = some w) : w ∈ lw_tbl := List.mem_append_right _ (List.mem_append_right _ (List.mem_append_right _ (List.mem_append_right _ (List.mem_append_right _ (List.mem_append_right _ (List.mem_append_right _ (List.mem_append_left _ (List.mem_of_getElem? h))))))))
theorem kjn_8 {n : Nat} {w : Cond} (h : (tables_1_8)[n]? = some w) : w ∈ lw_tbl := List.mem_append_right _ (List.mem_append_right _ (List.mem_append_right _ (List.mem_append_right _ (List.mem_append_right _ (List.mem_append_right _ (List.mem_append_right _ (List.mem_append_right _ (List.mem_append_left _ (List.mem_of_getElem? h)))))))))
theorem kj_0 : (Jvm.Cond.arrayOver (Jvm.ClassFile.FieldType.object "BonnetValley$State")) ∈ lw_tbl := kjn_2 (n := 88) (by decide +kernel)
theorem kj_1 : (Jvm.Cond.laysStatic "java/lang/String" "COMPACT_STRINGS" "Z") ∈ lw_tbl := kjn_1 (n := 137) (by decide +kernel)
theorem kj_2 : (Jvm.Cond.initialized "java/lang/String") ∈ lw_tbl := kjn_1 (n := 7) (by decide +kernel)
theorem kj_3 : (Jvm.Cond.laysStatic "BonnetValley$Land" "DOWN" "[I") ∈ lw_tbl := kjn_4 (n := 94) (by decide +kernel)
theorem kj_4 : (Jvm.Cond.initialized "BonnetValley$Land") ∈ lw_tbl := kjn_1 (n := 4) (by decide +kernel)
theorem kj_5 : (Jvm.Cond.laysStatic "BonnetValley$Land" "RIGHT" "[I") ∈ lw_tbl := kjn_4 (n := 96) (by decide +kernel)
theorem kj_6 : (Jvm.Cond.laysStatic "jdk/internal/util/Preconditions" "SIOOBE_FORMATTER" "Ljava/util/function/BiFunction;") ∈ lw_tbl := kjn_1 (n := 180) (by decide +kernel)
theorem kj_7 : (Jvm.Cond.initialized "jdk/internal/util/Preconditions") ∈ lw_tbl := kjn_1 (n := 11) (by decide +kernel)
theorem kj_8 : (Jvm.Cond.stringRef "BonnetValley$Formula" (63 : Nat) "blkfrcnp") ∈ lw_tbl := kjn_1 (n := 123) (by decide +kernel)
theorem kj_9 : (Jvm.Cond.stringRef "BonnetValleyModel" (182 : Nat) ".#") ∈ lw_tbl := kjn_7 (n := 8) (by decide +kernel)
theorem kj_10 : (Jvm.Cond.stringRef "BonnetValleyModel" (237 : Nat) "blkfrcnp") ∈ lw_tbl := kjn_7 (n := 111) (by decide +kernel)
theorem kj_11 : (Jvm.Cond.stringRef "BonnetValleyModel" (242 : Nat) "<>=") ∈ lw_tbl := kjn_7 (n := 112) (by decide +kernel)
theorem kj_12 : (Jvm.Cond.stringRef "BonnetValleyModel" (244 : Nat) "+-") ∈ lw_tbl := kjn_7 (n := 113) (by decide +kernel)
theorem kj_13 : (Jvm.Cond.stringRef "BonnetValleyModel" (246 : Nat) "*/") ∈ lw_tbl := kjn_7 (n := 114) (by decide +kernel)
theorem kj_14 : (Jvm.Cond.stringRef "BonnetValleyModel" (395 : Nat) "nfgbp") ∈ lw_tbl := kjn_8 (n := 59) (by decide +kernel)
theorem kj_15 : (Jvm.Cond.methodLinkNest "BonnetValley$Route" (48 : Nat) ({ cls := "BonnetValley", name := "hasField", desc := "(JI)Z" } : Jvm.MethodName) "BonnetValley") ∈ lw_tbl := kjn_5 (n := 96) (by decide +kernel)
theorem kj_16 : (Jvm.Cond.methodLinkNest "BonnetValley$Sight" (125 : Nat) ({ cls := "BonnetValley", name := "hasField", desc := "(JI)Z" } : Jvm.MethodName) "BonnetValley") ∈ lw_tbl := kjn_4 (n := 38) (by decide +kernel)
theorem kj_17 : (Jvm.Cond.methodLinkNest "BonnetValley$Land" (68 : Nat) ({ cls := "BonnetValley", name := "hasField", desc := "(JI)Z" } : Jvm.MethodName) "BonnetValley") ∈ lw_tbl := kjn_3 (n := 81) (by decide +kernel)
theorem kf_0 : (Jvm.Cond.eq (Jvm.Term.static "java/lang/String" "COMPACT_STRINGS" "Z") (Jvm.Term.int (1 : Int32))) ∈ flatC (Jvm.Cond.and given_1 narrow_1) := List.mem_of_getElem? (i := 4) (by decide +kernel)
theorem kf_1 : (Jvm.Cond.arrayOf (Jvm.Term.static "BonnetValley$Land" "DOWN" "[I") Jvm.ClassFile.FieldType.int) ∈ flatC (Jvm.Cond.and given_1 narrow_1) := List.mem_of_getElem? (i := 10) (by decide +kernel)
theorem kf_2 : (Jvm.Cond.eq (Jvm.Term.length (Jvm.Term.static "BonnetValley$Land" "DOWN" "[I")) (Jvm.Term.int (8 : Int32))) ∈ flatC (Jvm.Cond.and given_1 narrow_1) := List.mem_of_getElem? (i := 11) (by decide +kernel)
theorem kf_3 : (Jvm.Cond.eq (Jvm.Term.elem (Jvm.Term.static "BonnetValley$Land" "DOWN" "[I") (Jvm.Term.int (0 : Int32))) (Jvm.Term.int (-1 : Int32))) ∈ flatC (Jvm.Cond.and given_1 narrow_1) := List.mem_of_getElem? (i := 12) (by decide +kernel)
theorem kf_4 : (Jvm.Cond.eq (Jvm.Term.elem (Jvm.Term.static "BonnetValley$Land" "DOWN" "[I") (Jvm.Term.int (1 : Int32))) (Jvm.Term.int (-1 : Int32))) ∈ flatC (Jvm.Cond.and given_1 narrow_1) := List.mem_of_getElem? (i := 13) (by decide +kernel)
theorem kf_5 : (Jvm.Cond.eq (Jvm.Term.elem (Jvm.Term.static "BonnetValley$Land" "DOWN" "[I") (Jvm.Term.int (2 : Int32))) (Jvm.Term.int (0 : Int32))) ∈ flatC (Jvm.Cond.and given_1 narrow_1) := List.mem_of_getElem? (i := 14) (by decide +kernel)
theorem kf_6 : (Jvm.Cond.eq (Jvm.Term.elem (Jvm.Term.static "BonnetValley$Land" "DOWN" "[I") (Jvm.Term.int (3 : Int32))) (Jvm.Term.int (1 : Int32))) ∈ flatC (Jvm.Cond.and given_1 narrow_1) := List.mem_of_getElem? (i := 15) (by decide +kernel)
theorem kf_7 : (Jvm.Cond.eq (Jvm.Term.elem (Jvm.Term.static "BonnetValley$Land" "DOWN" "[I") (Jvm.Term.int (4 : Int32))) (Jvm.Term.int (1 : Int32))) ∈ flatC (Jvm.Cond.and given_1 narrow_1) := List.mem_of_getElem? (i := 16) (by decide +kernel)
theorem kf_8 : (Jvm.Cond.eq (Jvm.Term.elem (Jvm.Term.static "BonnetValley$Land" "DOWN" "[I") (Jvm.Term.int (5 : Int32))) (Jvm.Term.int (1 : Int32))) ∈ flatC (Jvm.Cond.and given_1 narrow_1) := List.mem_of_getElem? (i := 17) (by decide +kernel)
theorem kf_9 : (Jvm.Cond.eq (Jvm.Term.elem (Jvm.Term.static "BonnetValley$Land" "DOWN" "[I") (Jvm.Term.int (6 : Int32))) (Jvm.Term.int (0 : Int32))) ∈ flatC (Jvm.Cond.and given_1 narrow_1) := List.mem_of_getElem? (i := 18) (by decide +kernel)
theorem kf_10 : (Jvm.Cond.eq (Jvm.Term.elem (Jvm.Term.static "BonnetValley$Land" "DOWN" "[I") (Jvm.Term.int (7 : Int32))) (Jvm.Term.int (-1 : Int32))) ∈ flatC (Jvm.Cond.and given_1 narrow_1) := List.mem_of_getElem? (i := 19) (by decide +kernel)
theorem kf_11 : (Jvm.Cond.arrayOf (Jvm.Term.static "BonnetValley$Land" "RIGHT" "[I") Jvm.ClassFile.FieldType.int) ∈ flatC (Jvm.Cond.and given_1 narrow_1) := List.mem_of_getElem? (i := 21) (by decide +kernel)
theorem kf_12 : (Jvm.Cond.eq (Jvm.Term.length (Jvm.Term.static "BonnetValley$Land" "RIGHT" "[I")) (Jvm.Term.int (8 : Int32))) ∈ flatC (Jvm.Cond.and given_1 narrow_1) := List.mem_of_getElem? (i := 22) (by decide +kernel)
theorem kf_13 : (Jvm.Cond.eq (Jvm.Term.elem (Jvm.Term.static "BonnetValley$Land" "RIGHT" "[I") (Jvm.Term.int (0 : Int32))) (Jvm.Term.int (0 : Int32))) ∈ flatC (Jvm.Cond.and given_1 narrow_1) := List.mem_of_getElem? (i := 23) (by decide +kernel)
theorem kf_14 : (Jvm.Cond.eq (Jvm.Term.elem (Jvm.Term.static "BonnetValley$Land" "RIGHT" "[I") (Jvm.Term.int (1 : Int32))) (Jvm.Term.int (1 : Int32))) ∈ flatC (Jvm.Cond.and given_1 narrow_1) := List.mem_of_getElem? (i := 24) (by decide +kernel)
theorem kf_15 : (Jvm.Cond.eq (Jvm.Term.elem (Jvm.Term.static "BonnetValley$Land" "RIGHT" "[I") (Jvm.Term.int (2 : Int32))) (Jvm.Term.int (1 : Int32))) ∈ flatC (Jvm.Cond.and given_1 narrow_1) := List.mem_of_getElem? (i := 25) (by decide +kernel)
theorem kf_16 : (Jvm.Cond.eq (Jvm.Term.elem (Jvm.Term.static "BonnetValley$Land" "RIGHT" "[I") (Jvm.Term.int (3 : Int32))) (Jvm.Term.int (1 : Int32))) ∈ flatC (Jvm.Cond.and given_1 narrow_1) := List.mem_of_getElem? (i := 26) (by decide +kernel)
theorem kf_17 : (Jvm.Cond.eq (Jvm.Term.elem (Jvm.Term.static "BonnetValley$Land" "RIGHT" "[I") (Jvm.Term.int (4 : Int32))) (Jvm.Term.int (0 : Int32))) ∈ flatC (Jvm.Cond.and given_1 narrow_1) := List.mem_of_getElem? (i := 27) (by decide +kernel)
theorem kf_18 : (Jvm.Cond.eq (Jvm.Term.elem (Jvm.Term.static "BonnetValley$Land" "RIGHT" "[I") (Jvm.Term.int (5 : Int32))) (Jvm.Term.int (-1 : Int32))) ∈ flatC (Jvm.Cond.and given_1 narrow_1) := List.mem_of_getElem? (i := 28) (by decide +kernel)
theorem kf_19 : (Jvm.Cond.eq (Jvm.Term.elem (Jvm.Term.static "BonnetValley$Land" "RIGHT" "[I") (Jvm.Term.int (6 : Int32))) (Jvm.Term.int (-1 : Int32))) ∈ flatC (Jvm.Cond.and given_1 narrow_1) := List.mem_of_getElem? (i := 29) (by decide +kernel)
theorem kf_20 : (Jvm.Cond.eq (Jvm.Term.elem (Jvm.Term.static "BonnetValley$Land" "RIGHT" "[I") (Jvm.Term.int (7 : Int32))) (Jvm.Term.int (-1 : Int32))) ∈ flatC (Jvm.Cond.and given_1 narrow_1) := List.mem_of_getElem? (i := 30) (by decide +kernel)
theorem kf_21 : (Jvm.Cond.isRef (Jvm.Term.static "jdk/internal/util/Preconditions" "SIOOBE_FORMATTER" "Ljava/util/function/BiFunction;")) ∈ flatC (Jvm.Cond.and given_1 narrow_1) := List.mem_of_getElem? (i := 5) (by decide +kernel)
theorem kf_22 : (Jvm.Cond.exactly (Jvm.Term.string "BonnetValley$Formula" (63 : Nat)) "java/lang/String") ∈ flatC (Jvm.Cond.and given_1 narrow_1) := List.mem_of_getElem? (i := 47) (by decide +kernel)
theorem kf_23 : (Jvm.Cond.eq (Jvm.Term.field (Jvm.Term.string "BonnetValley$Formula" (63 : Nat)) "java/lang/String" "coder" "B") (Jvm.Term.int (0 : Int32))) ∈ flatC (Jvm.Cond.and given_1 narrow_1) := List.mem_of_getElem? (i := 48) (by decide +kernel)
theorem kf_24 : (Jvm.Cond.arrayOf (Jvm.Term.field (Jvm.Term.string "BonnetValley$Formula" (63 : Nat)) "java/lang/String" "value" "[B") Jvm.ClassFile.FieldType.byte) ∈ flatC (Jvm.Cond.and given_1 narrow_1) := List.mem_of_getElem? (i := 49) (by decide +kernel)
theorem kf_25 : (Jvm.Cond.eq (Jvm.Term.length (Jvm.Term.field (Jvm.Term.string "BonnetValley$Formula" (63 : Nat)) "java/lang/String" "value" "[B")) (Jvm.Term.int (8 : Int32))) ∈ flatC (Jvm.Cond.and given_1 narrow_1) := List.mem_of_getElem? (i := 50) (by decide +kernel)
theorem kf_26 : (Jvm.Cond.eq (Jvm.Term.elem (Jvm.Term.field (Jvm.Term.string "BonnetValley$Formula" (63 : Nat)) "java/lang/String" "value" "[B") (Jvm.Term.int (0 : Int32))) (Jvm.Term.int (98 : Int32))) ∈ flatC (Jvm.Cond.and given_1 narrow_1) := List.mem_of_getElem? (i := 51) (by decide +kernel)
theorem kf_27 : (Jvm.Cond.eq (Jvm.Term.elem (Jvm.Term.field (Jvm.Term.string "BonnetValley$Formula" (63 : Nat)) "java/lang/String" "value" "[B") (Jvm.Term.int (1 : Int32))) (Jvm.Term.int (108 : Int32))) ∈ flatC (Jvm.Cond.and given_1 narrow_1) := List.mem_of_getElem? (i := 52) (by decide +kernel)
theorem kf_28 : (Jvm.Cond.eq (Jvm.Term.elem (Jvm.Term.field (Jvm.Term.string "BonnetValley$Formula" (63 : Nat)) "java/lang/String" "value" "[B") (Jvm.Term.int (2 : Int32))) (Jvm.Term.int (107 : Int32))) ∈ flatC (Jvm.Cond.and given_1 narrow_1) := List.mem_of_getElem? (i := 53) (by decide +kernel)
theorem kf_29 : (Jvm.Cond.eq (Jvm.Term.elem (Jvm.Term.field (Jvm.Term.string "BonnetValley$Formula" (63 : Nat)) "java/lang/String" "value" "[B") (Jvm.Term.int (3 : Int32))) (Jvm.Term.int (102 : Int32))) ∈ flatC (Jvm.Cond.and given_1 narrow_1) := List.mem_of_getElem? (i := 54) (by decide +kernel)
theorem kf_30 : (Jvm.Cond.eq (Jvm.Term.elem (Jvm.Term.field (Jvm.Term.string "BonnetValley$Formula" (63 : Nat)) "java/lang/String" "value" "[B") (Jvm.Term.int (4 : Int32))) (Jvm.Term.int (114 : Int32))) ∈ flatC (Jvm.Cond.and given_1 narrow_1) := List.mem_of_getElem? (i := 55) (by decide +kernel)
theorem kf_31 : (Jvm.Cond.eq (Jvm.Term.elem (Jvm.Term.field (Jvm.Term.string "BonnetValley$Formula" (63 : Nat)) "java/lang/String" "value" "[B") (Jvm.Term.int (5 : Int32))) (Jvm.Term.int (99 : Int32))) ∈ flatC (Jvm.Cond.and given_1 narrow_1) := List.mem_of_getElem? (i := 56) (by decide +kernel)
theorem kf_32 : (Jvm.Cond.eq (Jvm.Term.elem (Jvm.Term.field (Jvm.Term.string "BonnetValley$Formula" (63 : Nat)) "java/lang/String" "value" "[B") (Jvm.Term.int (6 : Int32))) (Jvm.Term.int (110 : Int32))) ∈ flatC (Jvm.Cond.and given_1 narrow_1) := List.mem_of_getElem? (i := 57) (by decide +kernel)
theorem kf_33 : (Jvm.Cond.eq (Jvm.Term.elem (Jvm.Term.field (Jvm.Term.string "BonnetValley$Formula" (63 : Nat)) "java/lang/String" "value" "[B") (Jvm.Term.int (7 : Int32))) (Jvm.Term.int (112 : Int32))) ∈ flatC (Jvm.Cond.and given_1 narrow_1) := List.mem_of_getElem? (i := 58) (by decide +kernel)
theorem kf_34 : (Jvm.Cond.exactly (Jvm.Term.string "BonnetValleyModel" (182 : Nat)) "java/lang/String") ∈ flatC (Jvm.Cond.and given_1 narrow_1) := List.mem_of_getElem? (i := 59) (by decide +kernel)
theorem kf_35 : (Jvm.Cond.eq (Jvm.Term.field (Jvm.Term.string "BonnetValleyModel" (182 : Nat)) "java/lang/String" "coder" "B") (Jvm.Term.int (0 : Int32))) ∈ flatC (Jvm.Cond.and given_1 narrow_1) := List.mem_of_getElem? (i := 60) (by decide +kernel)
theorem kf_36 : (Jvm.Cond.arrayOf (Jvm.Term.field (Jvm.Term.string "BonnetValleyModel" (182 : Nat)) "java/lang/String" "value" "[B") Jvm.ClassFile.FieldType.byte) ∈ flatC (Jvm.Cond.and given_1 narrow_1) := List.mem_of_getElem? (i := 61) (by decide +kernel)
theorem kf_37 : (Jvm.Cond.eq (Jvm.Term.length (Jvm.Term.field (Jvm.Term.string "BonnetValleyModel" (182 : Nat)) "java/lang/String" "value" "[B")) (Jvm.Term.int (2 : Int32))) ∈ flatC (Jvm.Cond.and given_1 narrow_1) := List.mem_of_getElem? (i := 62) (by decide +kernel)
theorem kf_38 : (Jvm.Cond.eq (Jvm.Term.elem (Jvm.Term.field (Jvm.Term.string "BonnetValleyModel" (182 : Nat)) "java/lang/String" "value" "[B") (Jvm.Term.int (0 : Int32))) (Jvm.Term.int (46 : Int32))) ∈ flatC (Jvm.Cond.and given_1 narrow_1) := List.mem_of_getElem? (i := 63) (by decide +kernel)
theorem kf_39 : (Jvm.Cond.eq (Jvm.Term.elem (Jvm.Term.field (Jvm.Term.string "BonnetValleyModel" (182 : Nat)) "java/lang/String" "value" "[B") (Jvm.Term.int (1 : Int32))) (Jvm.Term.int (35 : Int32))) ∈ flatC (Jvm.Cond.and given_1 narrow_1) := List.mem_of_getElem? (i := 64) (by decide +kernel)
theorem kf_40 : (Jvm.Cond.exactly (Jvm.Term.string "BonnetValleyModel" (237 : Nat)) "java/lang/String") ∈ flatC (Jvm.Cond.and given_1 narrow_1) := List.mem_of_getElem? (i := 66) (by decide +kernel)
theorem kf_41 : (Jvm.Cond.eq (Jvm.Term.field (Jvm.Term.string "BonnetValleyModel" (237 : Nat)) "java/lang/String" "coder" "B") (Jvm.Term.int (0 : Int32))) ∈ flatC (Jvm.Cond.and given_1 narrow_1) := List.mem_of_getElem? (i := 67) (by decide +kernel)
theorem kf_42 : (Jvm.Cond.arrayOf (Jvm.Term.field (Jvm.Term.string "BonnetValleyModel" (237 : Nat)) "java/lang/String" "value" "[B") Jvm.ClassFile.FieldType.byte) ∈ flatC (Jvm.Cond.and given_1 narrow_1) := List.mem_of_getElem? (i := 68) (by decide +kernel)
theorem kf_43 : (Jvm.Cond.eq (Jvm.Term.length (Jvm.Term.field (Jvm.Term.string "BonnetValleyModel" (237 : Nat)) "java/lang/String" "value" "[B")) (Jvm.Term.int (8 : Int32))) ∈ flatC (Jvm.Cond.and given_1 narrow_1) := List.mem_of_getElem? (i := 69) (by decide +kernel)
theorem kf_44 : (Jvm.Cond.eq (Jvm.Term.elem (Jvm.Term.field (Jvm.Term.string "BonnetValleyModel" (237 : Nat)) "java/lang/String" "value" "[B") (Jvm.Term.int (0 : Int32))) (Jvm.Term.int (98 : Int32))) ∈ flatC (Jvm.Cond.and given_1 narrow_1) := List.mem_of_getElem? (i := 70) (by decide +kernel)
theorem kf_45 : (Jvm.Cond.eq (Jvm.Term.elem (Jvm.Term.field (Jvm.Term.string "BonnetValleyModel" (237 : Nat)) "java/lang/String" "value" "[B") (Jvm.Term.int (1 : Int32))) (Jvm.Term.int (108 : Int32))) ∈ flatC (Jvm.Cond.and given_1 narrow_1) := List.mem_of_getElem? (i := 71) (by decide +kernel)
theorem kf_46 : (Jvm.Cond.eq (Jvm.Term.elem (Jvm.Term.field (Jvm.Term.string "BonnetValleyModel" (237 : Nat)) "java/lang/String" "value" "[B") (Jvm.Term.int (2 : Int32))) (Jvm.Term.int (107 : Int32))) ∈ flatC (Jvm.Cond.and given_1 narrow_1) := List.mem_of_getElem? (i := 72) (by decide +kernel)
theorem kf_47 : (Jvm.Cond.eq (Jvm.Term.elem (Jvm.Term.field (Jvm.Term.string "BonnetValleyModel" (237 : Nat)) "java/lang/String" "value" "[B") (Jvm.Term.int (3 : Int32))) (Jvm.Term.int (102 : Int32))) ∈ flatC (Jvm.Cond.and given_1 narrow_1) := List.mem_of_getElem? (i := 73) (by decide +kernel)
theorem kf_48 : (Jvm.Cond.eq (Jvm.Term.elem (Jvm.Term.field (Jvm.Term.string "BonnetValleyModel" (237 : Nat)) "java/lang/String" "value" "[B") (Jvm.Term.int (4 : Int32))) (Jvm.Term.int (114 : Int32))) ∈ flatC (Jvm.Cond.and given_1 narrow_1) := List.mem_of_getElem? (i := 74) (by decide +kernel)
theorem kf_49 : (Jvm.Cond.eq (Jvm.Term.elem (Jvm.Term.field (Jvm.Term.string "BonnetValleyModel" (237 : Nat)) "java/lang/String" "value" "[B") (Jvm.Term.int (5 : Int32))) (Jvm.Term.int (99 : Int32))) ∈ flatC (Jvm.Cond.and given_1 narrow_1) := List.mem_of_getElem? (i := 75) (by decide +kernel)
theorem kf_50 : (Jvm.Cond.eq (Jvm.Term.elem (Jvm.Term.field (Jvm.Term.string "BonnetValleyModel" (237 : Nat)) "java/lang/String" "value" "[B") (Jvm.Term.int (6 : Int32))) (Jvm.Term.int (110 : Int32))) ∈ flatC (Jvm.Cond.and given_1 narrow_1) := List.mem_of_getElem? (i := 76) (by decide +kernel)
theorem kf_51 : (Jvm.Cond.eq (Jvm.Term.elem (Jvm.Term.field (Jvm.Term.string "BonnetValleyModel" (237 : Nat)) "java/lang/String" "value" "[B") (Jvm.Term.int (7 : Int32))) (Jvm.Term.int (112 : Int32))) ∈ flatC (Jvm.Cond.and given_1 narrow_1) := List.mem_of_getElem? (i := 77) (by decide +kernel)
theorem kf_52 : (Jvm.Cond.exactly (Jvm.Term.string "BonnetValleyModel" (242 : Nat)) "java/lang/String") ∈ flatC (Jvm.Cond.and given_1 narrow_1) := List.mem_of_getElem? (i := 80) (by decide +kernel)
theorem kf_53 : (Jvm.Cond.eq (Jvm.Term.field (Jvm.Term.string "BonnetValleyModel" (242 : Nat)) "java/lang/String" "coder" "B") (Jvm.Term.int (0 : Int32))) ∈ flatC (Jvm.Cond.and given_1 narrow_1) := List.mem_of_getElem? (i := 81) (by decide +kernel)
theorem kf_54 : (Jvm.Cond.arrayOf (Jvm.Term.field (Jvm.Term.string "BonnetValleyModel" (242 : Nat)) "java/lang/String" "value" "[B") Jvm.ClassFile.FieldType.byte) ∈ flatC (Jvm.Cond.and given_1 narrow_1) := List.mem_of_getElem? (i := 82) (by decide +kernel)
theorem kf_55 : (Jvm.Cond.eq (Jvm.Term.length (Jvm.Term.field (Jvm.Term.string "BonnetValleyModel" (242 : Nat)) "java/lang/String" "value" "[B")) (Jvm.Term.int (3 : Int32))) ∈ flatC (Jvm.Cond.and given_1 narrow_1) := List.mem_of_getElem? (i := 83) (by decide +kernel)
theorem kf_56 : (Jvm.Cond.eq (Jvm.Term.elem (Jvm.Term.field (Jvm.Term.string "BonnetValleyModel" (242 : Nat)) "java/lang/String" "value" "[B") (Jvm.Term.int (0 : Int32))) (Jvm.Term.int (60 : Int32))) ∈ flatC (Jvm.Cond.and given_1 narrow_1) := List.mem_of_getElem? (i := 84) (by decide +kernel)
theorem kf_57 : (Jvm.Cond.eq (Jvm.Term.elem (Jvm.Term.field (Jvm.Term.string "BonnetValleyModel" (242 : Nat)) "java/lang/String" "value" "[B") (Jvm.Term.int (1 : Int32))) (Jvm.Term.int (62 : Int32))) ∈ flatC (Jvm.Cond.and given_1 narrow_1) := List.mem_of_getElem? (i := 85) (by decide +kernel)
theorem kf_58 : (Jvm.Cond.eq (Jvm.Term.elem (Jvm.Term.field (Jvm.Term.string "BonnetValleyModel" (242 : Nat)) "java/lang/String" "value" "[B") (Jvm.Term.int (2 : Int32))) (Jvm.Term.int (61 : Int32))) ∈ flatC (Jvm.Cond.and given_1 narrow_1) := List.mem_of_getElem? (i := 86) (by decide +kernel)
theorem kf_59 : (Jvm.Cond.exactly (Jvm.Term.string "BonnetValleyModel" (244 : Nat)) "java/lang/String") ∈ flatC (Jvm.Cond.and given_1 narrow_1) := List.mem_of_getElem? (i := 90) (by decide +kernel)
theorem kf_60 : (Jvm.Cond.eq (Jvm.Term.field (Jvm.Term.string "BonnetValleyModel" (244 : Nat)) "java/lang/String" "coder" "B") (Jvm.Term.int (0 : Int32))) ∈ flatC (Jvm.Cond.and given_1 narrow_1) := List.mem_of_getElem? (i := 91) (by decide +kernel)
theorem kf_61 : (Jvm.Cond.arrayOf (Jvm.Term.field (Jvm.Term.string "BonnetValleyModel" (244 : Nat)) "java/lang/String" "value" "[B") Jvm.ClassFile.FieldType.byte) ∈ flatC (Jvm.Cond.and given_1 narrow_1) := List.mem_of_getElem? (i := 92) (by decide +kernel)
theorem kf_62 : (Jvm.Cond.eq (Jvm.Term.length (Jvm.Term.field (Jvm.Term.string "BonnetValleyModel" (244 : Nat)) "java/lang/String" "value" "[B")) (Jvm.Term.int (2 : Int32))) ∈ flatC (Jvm.Cond.and given_1 narrow_1) := List.mem_of_getElem? (i := 93) (by decide +kernel)
theorem kf_63 : (Jvm.Cond.eq (Jvm.Term.elem (Jvm.Term.field (Jvm.Term.string "BonnetValleyModel" (244 : Nat)) "java/lang/String" "value" "[B") (Jvm.Term.int (0 : Int32))) (Jvm.Term.int (43 : Int32))) ∈ flatC (Jvm.Cond.and given_1 narrow_1) := List.mem_of_getElem? (i := 94) (by decide +kernel)
theorem kf_64 : (Jvm.Cond.eq (Jvm.Term.elem (Jvm.Term.field (Jvm.Term.string "BonnetValleyModel" (244 : Nat)) "java/lang/String" "value" "[B") (Jvm.Term.int (1 : Int32))) (Jvm.Term.int (45 : Int32))) ∈ flatC (Jvm.Cond.and given_1 narrow_1) := List.mem_of_getElem? (i := 95) (by decide +kernel)
theorem kf_65 : (Jvm.Cond.exactly (Jvm.Term.string "BonnetValleyModel" (246 : Nat)) "java/lang/String") ∈ flatC (Jvm.Cond.and given_1 narrow_1) := List.mem_of_getElem? (i := 100) (by decide +kernel)
theorem kf_66 : (Jvm.Cond.eq (Jvm.Term.field (Jvm.Term.string "BonnetValleyModel" (246 : Nat)) "java/lang/String" "coder" "B") (Jvm.Term.int (0 : Int32))) ∈ flatC (Jvm.Cond.and given_1 narrow_1) := List.mem_of_getElem? (i := 101) (by decide +kernel)
theorem kf_67 : (Jvm.Cond.arrayOf (Jvm.Term.field (Jvm.Term.string "BonnetValleyModel" (246 : Nat)) "java/lang/String" "value" "[B") Jvm.ClassFile.FieldType.byte) ∈ flatC (Jvm.Cond.and given_1 narrow_1) := List.mem_of_getElem? (i := 102) (by decide +kernel)
theorem kf_68 : (Jvm.Cond.eq (Jvm.Term.length (Jvm.Term.field (Jvm.Term.string "BonnetValleyModel" (246 : Nat)) "java/lang/String" "value" "[B")) (Jvm.Term.int (2 : Int32))) ∈ flatC (Jvm.Cond.and given_1 narrow_1) := List.mem_of_getElem? (i := 103) (by decide +kernel)
theorem kf_69 : (Jvm.Cond.eq (Jvm.Term.elem (Jvm.Term.field (Jvm.Term.string "BonnetValleyModel" (246 : Nat)) "java/lang/String" "value" "[B") (Jvm.Term.int (0 : Int32))) (Jvm.Term.int (42 : Int32))) ∈ flatC (Jvm.Cond.and given_1 narrow_1) := List.mem_of_getElem? (i := 104) (by decide +kernel)
theorem kf_70 : (Jvm.Cond.eq (Jvm.Term.elem (Jvm.Term.field (Jvm.Term.string "BonnetValleyModel" (246 : Nat)) "java/lang/String" "value" "[B") (Jvm.Term.int (1 : Int32))) (Jvm.Term.int (47 : Int32))) ∈ flatC (Jvm.Cond.and given_1 narrow_1) := List.mem_of_getElem? (i := 105) (by decide +kernel)
theorem kf_71 : (Jvm.Cond.exactly (Jvm.Term.string "BonnetValleyModel" (395 : Nat)) "java/lang/String") ∈ flatC (Jvm.Cond.and given_1 narrow_1) := List.mem_of_getElem? (i := 111) (by decide +kernel)
theorem kf_72 : (Jvm.Cond.eq (Jvm.Term.field (Jvm.Term.string "BonnetValleyModel" (395 : Nat)) "java/lang/String" "coder" "B") (Jvm.Term.int (0 : Int32))) ∈ flatC (Jvm.Cond.and given_1 narrow_1) := List.mem_of_getElem? (i := 112) (by decide +kernel)
theorem kf_73 : (Jvm.Cond.arrayOf (Jvm.Term.field (Jvm.Term.string "BonnetValleyModel" (395 : Nat)) "java/lang/String" "value" "[B") Jvm.ClassFile.FieldType.byte) ∈ flatC (Jvm.Cond.and given_1 narrow_1) := List.mem_of_getElem? (i := 113) (by decide +kernel)
theorem kf_74 : (Jvm.Cond.eq (Jvm.Term.length (Jvm.Term.field (Jvm.Term.string "BonnetValleyModel" (395 : Nat)) "java/lang/String" "value" "[B")) (Jvm.Term.int (5 : Int32))) ∈ flatC (Jvm.Cond.and given_1 narrow_1) := List.mem_of_getElem? (i := 114) (by decide +kernel)
theorem kf_75 : (Jvm.Cond.eq (Jvm.Term.elem (Jvm.Term.field (Jvm.Term.string "BonnetValleyModel" (395 : Nat)) "java/lang/String" "value" "[B") (Jvm.Term.int (0 : Int32))) (Jvm.Term.int (110 : Int32))) ∈ flatC (Jvm.Cond.and given_1 narrow_1) := List.mem_of_getElem? (i := 115) (by decide +kernel)
theorem kf_76 : (Jvm.Cond.eq (Jvm.Term.elem (Jvm.Term.field (Jvm.Term.string "BonnetValleyModel" (395 : Nat)) "java/lang/String" "value" "[B") (Jvm.Term.int (1 : Int32))) (Jvm.Term.int (102 : Int32))) ∈ flatC (Jvm.Cond.and given_1 narrow_1) := List.mem_of_getElem? (i := 116) (by decide +kernel)
theorem kf_77 : (Jvm.Cond.eq (Jvm.Term.elem (Jvm.Term.field (Jvm.Term.string "BonnetValleyModel" (395 : Nat)) "java/lang/String" "value" "[B") (Jvm.Term.int (2 : Int32))) (Jvm.Term.int (103 : Int32))) ∈ flatC (Jvm.Cond.and given_1 narrow_1) := List.mem_of_getElem? (i := 117) (by decide +kernel)
theorem kf_78 : (Jvm.Cond.eq (Jvm.Term.elem (Jvm.Term.field (Jvm.Term.string "BonnetValleyModel" (395 : Nat)) "java/lang/String" "value" "[B") (Jvm.Term.int (3 : Int32))) (Jvm.Term.int (98 : Int32))) ∈ flatC (Jvm.Cond.and given_1 narrow_1) := List.mem_of_getElem? (i := 118) (by decide +kernel)
theorem kf_79 : (Jvm.Cond.eq (Jvm.Term.elem (Jvm.Term.field (Jvm.Term.string "BonnetValleyModel" (395 : Nat)) "java/lang/String" "value" "[B") (Jvm.Term.int (4 : Int32))) (Jvm.Term.int (112 : Int32))) ∈ flatC (Jvm.Cond.and given_1 narrow_1) := List.mem_of_getElem? (i := 119) (by decide +kernel)
theorem kst_arr {args : Array Value} {s : State} {ty : FieldType} (h : (Cond.arrayClass ty).before args s = true) : ∃ cA, ArrOfT s cA ty ∧ s.vm.findClass ("[" ++ ty.toString) = some cA := by
  obtain ⟨cA, kA, comp, h1, h2, h3⟩ := Cond.arrayClass_spec h
  exact ⟨cA, fun n z => ⟨fun k h => (by cases h), kA, h2, comp, h3⟩, h1⟩
/-- the start: kinds, arrays, what is fixed; the script is fixed cell 5 -/
theorem kstart {s : State} {b L : Nat} {xs : Nat → Int32} (hts : ∀ w ∈ lw_tbl, w.before #[Value.ref b] s = true) (hg : (Jvm.Cond.and given_1 narrow_1).before #[Value.ref b] s = true) (hX : va_X b L xs s s.heap) (hbl : b < s.heap.size) : ∃ (D : va_G) (dA : Nat → ClassId) (ra : Nat → Nat), ra 5 = b ∧ va_K D kcl (pm_tys dA "BonnetValley$State") s ∧ pm_RO kzs krs kaos knws kK krof (pm_ad s.heap.size ra) (fun q => s.heap.size ≤ q) s s.heap ∧ va_T .int b L (fun j => .int (xs j)) (fun q => s.heap.size ≤ q) s s.heap := by
  have hA : ∀ a : Nat, a < s.heap.size → ¬ (fun q => s.heap.size ≤ q) a := fun a h => Nat.not_le.mpr h
  have hf := flat_of_before _ hg
  have hw : ∀ w ∈ kALL, w.before #[Value.ref b] s = true := fun w h => hts w (List.mem_filter.mp h).1
  have h1 : ∀ k : Nat, ∃ z : ClassId × (Nat → Nat), ∀ q, kcl[k]? = some q → u_Kn s q.1 q.2.1 q.2.2 z.1 z.2 := by
    intro k
    cases hk : kcl[k]? with
    | none => exact ⟨(0, fun _ => 0), fun q h => by cases h⟩
    | some q =>
      obtain ⟨C, T, N⟩ := q
      obtain ⟨g1, -, -, -, g5, -, -⟩ := kck k C T N hk
      obtain ⟨cC, iS, g⟩ := u_known (n := N) hw g1 (hw _ g5)
      exact ⟨(cC, iS), fun q h => by cases h; exact g⟩
  obtain ⟨dz, hdz⟩ := Classical.axiomOfChoice h1
  obtain ⟨a0, a01, a02⟩ := kst_arr (ty := .int) (hw _ kbase.2.2.2.2.2.1)
  obtain ⟨a1, a11, a12⟩ := kst_arr (ty := .boolean) (hw _ kbase.2.2.2.2.2.2.1)
  obtain ⟨a2, a21, a22⟩ := kst_arr (ty := .long) (hw _ kbase.2.2.2.2.2.2.2.1)
  have hAO : va_AO "BonnetValley$State" s := va_AO.of (hts _ kj_0)
  obtain ⟨comp, a4, k4, e1, e2, e3, e4, e5⟩ := Cond.arrayOver_spec hAO
  have z0 := va_Zof (A := fun q => s.heap.size ≤ q) (hts _ kj_1) (hts _ kj_2) (va_eqi (hf _ kf_0)) hA
  obtain ⟨t0, ev0, hT0⟩ := va_Tof (args := #[Value.ref b]) (s := s) (tm := Jvm.Term.static "BonnetValley$Land" "DOWN" "[I") (ty := .int) (N := 8) (f := fun j => .int (([-1, -1, 0, 1, 1, 1, 0, -1] : List Int32).getD j 0)) (A := fun q => s.heap.size ≤ q) (Nat.le_of_ble_eq_true rfl) (hf _ kf_1) (va_eqt (hf _ kf_2)) (by
    intro j hj
    refine va_eqt ?_
    match j, hj with
    | 0, _ => exact hf _ kf_3
    | 1, _ => exact hf _ kf_4
    | 2, _ => exact hf _ kf_5
    | 3, _ => exact hf _ kf_6
    | 4, _ => exact hf _ kf_7
    | 5, _ => exact hf _ kf_8
    | 6, _ => exact hf _ kf_9
    | 7, _ => exact hf _ kf_10
    | q + 8, h => exact absurd h (by omega)) hA
  have z1 := va_Zref (A := fun q => s.heap.size ≤ q) (hts _ kj_3) (hts _ kj_4) ev0 hA
  obtain ⟨t1, ev1, hT1⟩ := va_Tof (args := #[Value.ref b]) (s := s) (tm := Jvm.Term.static "BonnetValley$Land" "RIGHT" "[I") (ty := .int) (N := 8) (f := fun j => .int (([0, 1, 1, 1, 0, -1, -1, -1] : List Int32).getD j 0)) (A := fun q => s.heap.size ≤ q) (Nat.le_of_ble_eq_true rfl) (hf _ kf_11) (va_eqt (hf _ kf_12)) (by
    intro j hj
    refine va_eqt ?_
    match j, hj with
    | 0, _ => exact hf _ kf_13
    | 1, _ => exact hf _ kf_14
    | 2, _ => exact hf _ kf_15
    | 3, _ => exact hf _ kf_16
    | 4, _ => exact hf _ kf_17
    | 5, _ => exact hf _ kf_18
    | 6, _ => exact hf _ kf_19
    | 7, _ => exact hf _ kf_20
    | q + 8, h => exact absurd h (by omega)) hA
  have z2 := va_Zref (A := fun q => s.heap.size ≤ q) (hts _ kj_5) (hts _ kj_4) ev1 hA
  have zq := va_Zqof (A := fun q => s.heap.size ≤ q) (hts _ kj_6) (hts _ kj_7) (hf _ kf_21) hA
  obtain ⟨t3, ht3⟩ : ∃ t3 : Nat, va_Z "jdk/internal/util/Preconditions" "SIOOBE_FORMATTER" "Ljava/util/function/BiFunction;" .null (fun q => s.heap.size ≤ q) s s.heap ∨ va_Z "jdk/internal/util/Preconditions" "SIOOBE_FORMATTER" "Ljava/util/function/BiFunction;" (.ref t3) (fun q => s.heap.size ≤ q) s s.heap := by
    rcases zq with q | ⟨t, q⟩
    · exact ⟨0, Or.inl q⟩
    · exact ⟨t, Or.inr q⟩
  obtain ⟨kA0, vA0, hS0, hE0⟩ := vk_Sof (args := #[Value.ref b]) (s := s) (N := 1) (tm := fun _ => Jvm.Term.string "BonnetValley$Formula" 63) (len := [8]) (byt := [[98, 108, 107, 102, 114, 99, 110, 112]]) (A := fun q => s.heap.size ≤ q) (fun i hi => by rw [show i = 0 from Nat.lt_one_iff.mp hi]; exact Nat.le_of_ble_eq_true rfl) (fun _ _ => hf _ kf_22) (fun _ _ => hf _ kf_23) (fun _ _ => hf _ kf_24) (fun i hi => by
    obtain rfl : i = 0 := by omega
    exact hf _ kf_25) (by
    intro i hi j hj
    obtain rfl : i = 0 := by omega
    match j, hj with
    | 0, _ => exact hf _ kf_26
    | 1, _ => exact hf _ kf_27
    | 2, _ => exact hf _ kf_28
    | 3, _ => exact hf _ kf_29
    | 4, _ => exact hf _ kf_30
    | 5, _ => exact hf _ kf_31
    | 6, _ => exact hf _ kf_32
    | 7, _ => exact hf _ kf_33
    | q + 8, h => exact absurd (show q + 8 < 8 from h) (by omega)) (fun i j hi hj hij => by omega) hA
  obtain ⟨o01, o02, o03, o04⟩ := hS0.1 0 (by omega)
  have r0 := vk_R.of (A := #[Value.ref b]) (hts _ kj_8) (hE0 0 (by omega))
  obtain ⟨kA1, vA1, hS1, hE1⟩ := vk_Sof (args := #[Value.ref b]) (s := s) (N := 1) (tm := fun _ => Jvm.Term.string "BonnetValleyModel" 182) (len := [2]) (byt := [[46, 35]]) (A := fun q => s.heap.size ≤ q) (fun i hi => by rw [show i = 0 from Nat.lt_one_iff.mp hi]; exact Nat.le_of_ble_eq_true rfl) (fun _ _ => hf _ kf_34) (fun _ _ => hf _ kf_35) (fun _ _ => hf _ kf_36) (fun i hi => by
    obtain rfl : i = 0 := by omega
    exact hf _ kf_37) (by
    intro i hi j hj
    obtain rfl : i = 0 := by omega
    match j, hj with
    | 0, _ => exact hf _ kf_38
    | 1, _ => exact hf _ kf_39
    | q + 2, h => exact absurd (show q + 2 < 2 from h) (by omega)) (fun i j hi hj hij => by omega) hA
  obtain ⟨o11, o12, o13, o14⟩ := hS1.1 0 (by omega)
  have r1 := vk_R.of (A := #[Value.ref b]) (hts _ kj_9) (hE1 0 (by omega))
  obtain ⟨kA2, vA2, hS2, hE2⟩ := vk_Sof (args := #[Value.ref b]) (s := s) (N := 1) (tm := fun _ => Jvm.Term.string "BonnetValleyModel" 237) (len := [8]) (byt := [[98, 108, 107, 102, 114, 99, 110, 112]]) (A := fun q => s.heap.size ≤ q) (fun i hi => by rw [show i = 0 from Nat.lt_one_iff.mp hi]; exact Nat.le_of_ble_eq_true rfl) (fun _ _ => hf _ kf_40) (fun _ _ => hf _ kf_41) (fun _ _ => hf _ kf_42) (fun i hi => by
    obtain rfl : i = 0 := by omega
    exact hf _ kf_43) (by
    intro i hi j hj
    obtain rfl : i = 0 := by omega
    match j, hj with
    | 0, _ => exact hf _ kf_44
    | 1, _ => exact hf _ kf_45
    | 2, _ => exact hf _ kf_46
    | 3, _ => exact hf _ kf_47
    | 4, _ => exact hf _ kf_48
    | 5, _ => exact hf _ kf_49
    | 6, _ => exact hf _ kf_50
    | 7, _ => exact hf _ kf_51
    | q + 8, h => exact absurd (show q + 8 < 8 from h) (by omega)) (fun i j hi hj hij => by omega) hA
  obtain ⟨o21, o22, o23, o24⟩ := hS2.1 0 (by omega)
  have r2 := vk_R.of (A := #[Value.ref b]) (hts _ kj_10) (hE2 0 (by omega))
  obtain ⟨kA3, vA3, hS3, hE3⟩ := vk_Sof (args := #[Value.ref b]) (s := s) (N := 1) (tm := fun _ => Jvm.Term.string "BonnetValleyModel" 242) (len := [3]) (byt := [[60, 62, 61]]) (A := fun q => s.heap.size ≤ q) (fun i hi => by rw [show i = 0 from Nat.lt_one_iff.mp hi]; exact Nat.le_of_ble_eq_true rfl) (fun _ _ => hf _ kf_52) (fun _ _ => hf _ kf_53) (fun _ _ => hf _ kf_54) (fun i hi => by
    obtain rfl : i = 0 := by omega
    exact hf _ kf_55) (by
    intro i hi j hj
    obtain rfl : i = 0 := by omega
    match j, hj with
    | 0, _ => exact hf _ kf_56
    | 1, _ => exact hf _ kf_57
    | 2, _ => exact hf _ kf_58
    | q + 3, h => exact absurd (show q + 3 < 3 from h) (by omega)) (fun i j hi hj hij => by omega) hA
  obtain ⟨o31, o32, o33, o34⟩ := hS3.1 0 (by omega)
  have r3 := vk_R.of (A := #[Value.ref b]) (hts _ kj_11) (hE3 0 (by omega))
  obtain ⟨kA4, vA4, hS4, hE4⟩ := vk_Sof (args := #[Value.ref b]) (s := s) (N := 1) (tm := fun _ => Jvm.Term.string "BonnetValleyModel" 244) (len := [2]) (byt := [[43, 45]]) (A := fun q => s.heap.size ≤ q) (fun i hi => by rw [show i = 0 from Nat.lt_one_iff.mp hi]; exact Nat.le_of_ble_eq_true rfl) (fun _ _ => hf _ kf_59) (fun _ _ => hf _ kf_60) (fun _ _ => hf _ kf_61) (fun i hi => by
    obtain rfl : i = 0 := by omega
    exact hf _ kf_62) (by
    intro i hi j hj
    obtain rfl : i = 0 := by omega
    match j, hj with
    | 0, _ => exact hf _ kf_63
    | 1, _ => exact hf _ kf_64
    | q + 2, h => exact absurd (show q + 2 < 2 from h) (by omega)) (fun i j hi hj hij => by omega) hA
  obtain ⟨o41, o42, o43, o44⟩ := hS4.1 0 (by omega)
  have r4 := vk_R.of (A := #[Value.ref b]) (hts _ kj_12) (hE4 0 (by omega))
  obtain ⟨kA5, vA5, hS5, hE5⟩ := vk_Sof (args := #[Value.ref b]) (s := s) (N := 1) (tm := fun _ => Jvm.Term.string "BonnetValleyModel" 246) (len := [2]) (byt := [[42, 47]]) (A := fun q => s.heap.size ≤ q) (fun i hi => by rw [show i = 0 from Nat.lt_one_iff.mp hi]; exact Nat.le_of_ble_eq_true rfl) (fun _ _ => hf _ kf_65) (fun _ _ => hf _ kf_66) (fun _ _ => hf _ kf_67) (fun i hi => by
    obtain rfl : i = 0 := by omega
    exact hf _ kf_68) (by
    intro i hi j hj
    obtain rfl : i = 0 := by omega
    match j, hj with
    | 0, _ => exact hf _ kf_69
    | 1, _ => exact hf _ kf_70
    | q + 2, h => exact absurd (show q + 2 < 2 from h) (by omega)) (fun i j hi hj hij => by omega) hA
  obtain ⟨o51, o52, o53, o54⟩ := hS5.1 0 (by omega)
  have r5 := vk_R.of (A := #[Value.ref b]) (hts _ kj_13) (hE5 0 (by omega))
  obtain ⟨kA6, vA6, hS6, hE6⟩ := vk_Sof (args := #[Value.ref b]) (s := s) (N := 1) (tm := fun _ => Jvm.Term.string "BonnetValleyModel" 395) (len := [5]) (byt := [[110, 102, 103, 98, 112]]) (A := fun q => s.heap.size ≤ q) (fun i hi => by rw [show i = 0 from Nat.lt_one_iff.mp hi]; exact Nat.le_of_ble_eq_true rfl) (fun _ _ => hf _ kf_71) (fun _ _ => hf _ kf_72) (fun _ _ => hf _ kf_73) (fun i hi => by
    obtain rfl : i = 0 := by omega
    exact hf _ kf_74) (by
    intro i hi j hj
    obtain rfl : i = 0 := by omega
    match j, hj with
    | 0, _ => exact hf _ kf_75
    | 1, _ => exact hf _ kf_76
    | 2, _ => exact hf _ kf_77
    | 3, _ => exact hf _ kf_78
    | 4, _ => exact hf _ kf_79
    | q + 5, h => exact absurd (show q + 5 < 5 from h) (by omega)) (fun i j hi hj hij => by omega) hA
  obtain ⟨o61, o62, o63, o64⟩ := hS6.1 0 (by omega)
  have r6 := vk_R.of (A := #[Value.ref b]) (hts _ kj_14) (hE6 0 (by omega))
  refine ⟨(fun k => (dz k).1, fun k => (dz k).2), fun k => match k with
    | 0 => a0
    | 1 => a1
    | 2 => a2
    | 3 => a0
    | _ => a4, fun k => (pm_lu [(0, t0), (1, t1), (3, t3), (5, b), (10, vA0 0), (50, kA0 0), (11, vA1 0), (51, kA1 0), (12, vA2 0), (52, kA2 0), (13, vA3 0), (53, kA3 0), (14, vA4 0), (54, kA4 0), (15, vA5 0), (55, kA5 0), (16, vA6 0), (56, kA6 0)] k).getD 0, rfl, ⟨fun c q h => hdz c q h, fun k q h => ?_⟩, ⟨?_, ?_, ?_, ?_, ?_, ?_⟩, ?_⟩
  · match k, h with
    | 0, h => cases h; exact ⟨a01, a02⟩
    | 1, h => cases h; exact ⟨a11, a12⟩
    | 2, h => cases h; exact ⟨a21, a22⟩
    | 3, h => cases h; exact ⟨a01, a02⟩
    | 4, h => cases h; exact ⟨fun n z => ⟨fun k h => (by cases h), k4, e3, comp, e4⟩, k4, comp, e3, e4, e1, e5⟩
    | n + 5, h => exact absurd h (by simp [pm_tys])
  · exact List.forall_mem_cons.mpr ⟨Or.inl z0, List.forall_mem_cons.mpr ⟨Or.inl z1, List.forall_mem_cons.mpr ⟨Or.inl z2, List.forall_mem_cons.mpr ⟨ht3.elim (fun q => Or.inr ⟨rfl, q⟩) (fun q => Or.inl q), fun _ h => absurd h List.not_mem_nil⟩⟩⟩⟩
  · exact List.forall_mem_cons.mpr ⟨r0, List.forall_mem_cons.mpr ⟨r1, List.forall_mem_cons.mpr ⟨r2, List.forall_mem_cons.mpr ⟨r3, List.forall_mem_cons.mpr ⟨r4, List.forall_mem_cons.mpr ⟨r5, List.forall_mem_cons.mpr ⟨r6, fun _ h => absurd h List.not_mem_nil⟩⟩⟩⟩⟩⟩⟩
  · intro a t n f h
    cases hb : Nat.blt a 1048576 with
    | true =>
      unfold pm_rat at h
      rw [hb] at h
      cases h
    | false =>
      have ha : 1048576 ≤ a := by
        rcases Nat.lt_or_ge a 1048576 with q | q
        · exact absurd (show Nat.blt a 1048576 = true from Nat.ble_eq_true_of_le q) (by rw [hb]; exact fun z => by cases z)
        · exact q
      obtain ⟨k, rfl⟩ : ∃ k, a = 1048576 + k := ⟨a - 1048576, by omega⟩
      have h2 : (match pm_lu kraL k with
        | some (c, n, l) => some (c, n, fun j => Value.int (l.getD j 0))
        | none => none) = some (t, n, f) := by
        unfold pm_rat at h
        rw [hb] at h
        have e9 : 1048576 + k - 1048576 = k := by omega
        simp only [cond_false, e9] at h
        exact h
      cases hl : pm_lu kraL k with
      | none => rw [hl] at h2; cases h2
      | some q =>
        rw [hl] at h2
        have hm := pm_lu_mem hl
        simp only [kraL, List.mem_cons, List.not_mem_nil, or_false, Prod.mk.injEq] at hm
        rcases hm with ⟨rfl, rfl⟩ | ⟨rfl, rfl⟩ | ⟨rfl, rfl⟩ | ⟨rfl, rfl⟩ | ⟨rfl, rfl⟩ | ⟨rfl, rfl⟩ | ⟨rfl, rfl⟩ | ⟨rfl, rfl⟩ | ⟨rfl, rfl⟩
        · cases h2; exact ⟨.int, Or.inl ⟨rfl, rfl⟩, hT0⟩
        · cases h2; exact ⟨.int, Or.inl ⟨rfl, rfl⟩, hT1⟩
        · cases h2; exact ⟨.byte, Or.inr ⟨rfl, rfl⟩, o04⟩
        · cases h2; exact ⟨.byte, Or.inr ⟨rfl, rfl⟩, o14⟩
        · cases h2; exact ⟨.byte, Or.inr ⟨rfl, rfl⟩, o24⟩
        · cases h2; exact ⟨.byte, Or.inr ⟨rfl, rfl⟩, o34⟩
        · cases h2; exact ⟨.byte, Or.inr ⟨rfl, rfl⟩, o44⟩
        · cases h2; exact ⟨.byte, Or.inr ⟨rfl, rfl⟩, o54⟩
        · cases h2; exact ⟨.byte, Or.inr ⟨rfl, rfl⟩, o64⟩
  · intro a j v hb hv
    have ha : 1048576 ≤ a := by
      rcases Nat.lt_or_ge a 1048576 with q | q
      · exact absurd (show Nat.blt a 1048576 = true from Nat.ble_eq_true_of_le q) (by rw [hb]; exact fun z => by cases z)
      · exact q
    obtain ⟨k, rfl⟩ : ∃ k, a = 1048576 + k := ⟨a - 1048576, by omega⟩
    have e9 : 1048576 + k - 1048576 = k := by omega
    rw [e9] at hv
    have hv2 : kro k j = some v := hv
    have hk : 50 ≤ k ∧ k < 57 := by
      unfold kro at hv2
      cases hc : (Nat.ble 50 k && Nat.blt k 57) with
      | false => rw [hc] at hv2; cases hv2
      | true => exact ⟨Nat.le_of_ble_eq_true (pm_and hc).1, Nat.le_of_ble_eq_true (pm_and hc).2⟩
    have hk2 : k = 50 ∨ k = 51 ∨ k = 52 ∨ k = 53 ∨ k = 54 ∨ k = 55 ∨ k = 56 := by omega
    rcases hk2 with rfl | rfl | rfl | rfl | rfl | rfl | rfl
    · match j, hv2 with
      | 0, hv2 => cases hv2; exact ⟨o01, o03⟩
      | 1, hv2 => cases hv2; exact ⟨o01, o02⟩
      | q + 2, hv2 => cases hv2
    · match j, hv2 with
      | 0, hv2 => cases hv2; exact ⟨o11, o13⟩
      | 1, hv2 => cases hv2; exact ⟨o11, o12⟩
      | q + 2, hv2 => cases hv2
    · match j, hv2 with
      | 0, hv2 => cases hv2; exact ⟨o21, o23⟩
      | 1, hv2 => cases hv2; exact ⟨o21, o22⟩
      | q + 2, hv2 => cases hv2
    · match j, hv2 with
      | 0, hv2 => cases hv2; exact ⟨o31, o33⟩
      | 1, hv2 => cases hv2; exact ⟨o31, o32⟩
      | q + 2, hv2 => cases hv2
    · match j, hv2 with
      | 0, hv2 => cases hv2; exact ⟨o41, o43⟩
      | 1, hv2 => cases hv2; exact ⟨o41, o42⟩
      | q + 2, hv2 => cases hv2
    · match j, hv2 with
      | 0, hv2 => cases hv2; exact ⟨o51, o53⟩
      | 1, hv2 => cases hv2; exact ⟨o51, o52⟩
      | q + 2, hv2 => cases hv2
    · match j, hv2 with
      | 0, hv2 => cases hv2; exact ⟨o61, o63⟩
      | 1, hv2 => cases hv2; exact ⟨o61, o62⟩
      | q + 2, hv2 => cases hv2
  · exact List.forall_mem_cons.mpr ⟨hAO, fun _ h => absurd h List.not_mem_nil⟩
  · exact List.forall_mem_cons.mpr ⟨va_Nw.of rfl (hts _ kj_17), List.forall_mem_cons.mpr ⟨va_Nw.of rfl (hts _ kj_16), List.forall_mem_cons.mpr ⟨va_Nw.of rfl (hts _ kj_15), fun _ h => absurd h List.not_mem_nil⟩⟩⟩
  · obtain ⟨scr, g1, g2, g3, g4, g5⟩ := hX
    exact ⟨scr, g1, g2, g3, Nat.le_of_eq g4.symm, by rw [g4], g5, hA b hbl⟩
