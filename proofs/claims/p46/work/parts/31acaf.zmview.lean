/-! the reference: REACH, what one SEES, sets, by W; printed by wip/z/z_d_seem.py -/
def zpi1 (x : Int32) : Int32 := x - ((((x).toUInt32 >>> ((Int32.ofInt 1).toUInt32 &&& Int32.toUInt32 31)).toInt32) &&& (1431655765 : Int32))
def zpi2 (x : Int32) : Int32 := ((x) &&& (858993459 : Int32)) + ((((x).toUInt32 >>> ((Int32.ofInt 2).toUInt32 &&& Int32.toUInt32 31)).toInt32) &&& (858993459 : Int32))
def zpi3 (x : Int32) : Int32 := ((x) + (((x).toUInt32 >>> ((Int32.ofInt 4).toUInt32 &&& Int32.toUInt32 31)).toInt32)) &&& (252645135 : Int32)
def zpi4 (x : Int32) : Int32 := (x) + (((x).toUInt32 >>> (((Int8.ofInt 8).toInt32).toUInt32 &&& Int32.toUInt32 31)).toInt32)
def zpi5 (x : Int32) : Int32 := (x) + (((x).toUInt32 >>> (((Int8.ofInt 16).toInt32).toUInt32 &&& Int32.toUInt32 31)).toInt32)
def zpi6 (x : Int32) : Int32 := (x) &&& ((Int8.ofInt 63).toInt32)
def zpl1 (x : Int64) : Int64 := x - (((x.toUInt64 >>> ((Int32.ofInt 1).toInt64.toUInt64 &&& Int64.toUInt64 63)).toInt64) &&& (6148914691236517205 : Int64))
def zpl2 (x : Int64) : Int64 := ((x) &&& (3689348814741910323 : Int64)) + ((((x).toUInt64 >>> ((Int32.ofInt 2).toInt64.toUInt64 &&& Int64.toUInt64 63)).toInt64) &&& (3689348814741910323 : Int64))
def zpl3 (x : Int64) : Int64 := ((x) + (((x).toUInt64 >>> ((Int32.ofInt 4).toInt64.toUInt64 &&& Int64.toUInt64 63)).toInt64)) &&& (1085102592571150095 : Int64)
def zpl4 (x : Int64) : Int64 := (x) + (((x).toUInt64 >>> (((Int8.ofInt 8).toInt32).toInt64.toUInt64 &&& Int64.toUInt64 63)).toInt64)
def zpl5 (x : Int64) : Int64 := (x) + (((x).toUInt64 >>> (((Int8.ofInt 16).toInt32).toInt64.toUInt64 &&& Int64.toUInt64 63)).toInt64)
def zpl6 (x : Int64) : Int64 := (x) + (((x).toUInt64 >>> (((Int8.ofInt 32).toInt32).toInt64.toUInt64 &&& Int64.toUInt64 63)).toInt64)
def zpl7 (x : Int64) : Int32 := ((x).toInt32) &&& ((Int8.ofInt 127).toInt32)
def zpc (x : Int32) : Int32 := zpi6 (zpi5 (zpi4 (zpi3 (zpi2 (zpi1 x)))))
def zpcl (x : Int64) : Int32 := zpl7 (zpl6 (zpl5 (zpl4 (zpl3 (zpl2 (zpl1 x))))))
theorem zj_pc {x : Int32} {ph : pm_H} : zM 303 [.int x] ph (fun v q => ph = q ∧ v = some (.int (zpc x))) := by
  obtain ⟨Q, hQ⟩ : ∃ Q : Option Value → pm_H → Prop, Q = (fun v q => ph = q ∧ v = some (.int (zpc x))) := ⟨_, rfl⟩
  rw [← hQ]
  refine zM_mk fun n D => ?_
  show zW n D 303 Q 0 [some (.int x)] [] ph
  have c_0 : ((1431655765 : Int32)).toInt = 1431655765 := by decide
  have c_1 : ((252645135 : Int32)).toInt = 252645135 := by decide
  have c_2 : ((858993459 : Int32)).toInt = 858993459 := by decide
  have c_3 : ((Int8.ofInt 16).toInt32).toInt = 16 := by decide +kernel
  have c_4 : ((Int8.ofInt 63).toInt32).toInt = 63 := by decide +kernel
  have c_5 : ((Int8.ofInt 8).toInt32).toInt = 8 := by decide +kernel
  have c_6 : (Int32.ofInt 1).toInt = 1 := by decide +kernel
  have c_7 : (Int32.ofInt 2).toInt = 2 := by decide +kernel
  have c_8 : (Int32.ofInt 4).toInt = 4 := by decide +kernel
  refine w_load (pc' := 1) (v := .int x) (m := 1) (ykc_303 (e := (2, .iload_n kF0, 0)) rfl) rfl rfl ?_
  refine w_load (pc' := 2) (v := .int x) (m := 1) (ykc_303 (e := (2, .iload_n kF0, 0)) rfl) rfl rfl ?_
  refine w_alu (pc' := 3) (st' := [.int (Int32.ofInt 1), .int x, .int x]) (ykc_303 (e := (0, .iconst 1, 0)) rfl) rfl rfl ?_
  refine w_alu (pc' := 4) (st' := [.int (((x).toUInt32 >>> ((Int32.ofInt 1).toUInt32 &&& Int32.toUInt32 31)).toInt32), .int x]) (ykc_303 (e := (0, .iushr, 0)) rfl) rfl rfl ?_
  refine w_push (pc' := 7) (v := .int (1431655765 : Int32)) (m := 3) (ykc_303 (e := (1, .ldc_w 265, 0)) rfl) rfl rfl ?_
  refine w_alu (pc' := 8) (st' := [.int ((((x).toUInt32 >>> ((Int32.ofInt 1).toUInt32 &&& Int32.toUInt32 31)).toInt32) &&& (1431655765 : Int32)), .int x]) (ykc_303 (e := (0, .iand, 0)) rfl) rfl rfl ?_
  refine w_alu (pc' := 9) (st' := [.int (zpi1 x)]) (ykc_303 (e := (0, .isub, 0)) rfl) rfl rfl ?_
  refine w_store (pc' := 10) (L' := [some (.int (zpi1 x))]) (st' := []) (m := 1) (ykc_303 (e := (3, .istore_n kF0, 0)) rfl) rfl rfl ?_
  refine w_load (pc' := 11) (v := .int (zpi1 x)) (m := 1) (ykc_303 (e := (2, .iload_n kF0, 0)) rfl) rfl rfl ?_
  refine w_push (pc' := 14) (v := .int (858993459 : Int32)) (m := 3) (ykc_303 (e := (1, .ldc_w 266, 0)) rfl) rfl rfl ?_
  refine w_alu (pc' := 15) (st' := [.int ((zpi1 x) &&& (858993459 : Int32))]) (ykc_303 (e := (0, .iand, 0)) rfl) rfl rfl ?_
  refine w_load (pc' := 16) (v := .int (zpi1 x)) (m := 1) (ykc_303 (e := (2, .iload_n kF0, 0)) rfl) rfl rfl ?_
  refine w_alu (pc' := 17) (st' := [.int (Int32.ofInt 2), .int (zpi1 x), .int ((zpi1 x) &&& (858993459 : Int32))]) (ykc_303 (e := (0, .iconst 2, 0)) rfl) rfl rfl ?_
  refine w_alu (pc' := 18) (st' := [.int (((zpi1 x).toUInt32 >>> ((Int32.ofInt 2).toUInt32 &&& Int32.toUInt32 31)).toInt32), .int ((zpi1 x) &&& (858993459 : Int32))]) (ykc_303 (e := (0, .iushr, 0)) rfl) rfl rfl ?_
  refine w_push (pc' := 21) (v := .int (858993459 : Int32)) (m := 3) (ykc_303 (e := (1, .ldc_w 266, 0)) rfl) rfl rfl ?_
  refine w_alu (pc' := 22) (st' := [.int ((((zpi1 x).toUInt32 >>> ((Int32.ofInt 2).toUInt32 &&& Int32.toUInt32 31)).toInt32) &&& (858993459 : Int32)), .int ((zpi1 x) &&& (858993459 : Int32))]) (ykc_303 (e := (0, .iand, 0)) rfl) rfl rfl ?_
  refine w_alu (pc' := 23) (st' := [.int (zpi2 (zpi1 x))]) (ykc_303 (e := (0, .iadd, 0)) rfl) rfl rfl ?_
  refine w_store (pc' := 24) (L' := [some (.int (zpi2 (zpi1 x)))]) (st' := []) (m := 1) (ykc_303 (e := (3, .istore_n kF0, 0)) rfl) rfl rfl ?_
  refine w_load (pc' := 25) (v := .int (zpi2 (zpi1 x))) (m := 1) (ykc_303 (e := (2, .iload_n kF0, 0)) rfl) rfl rfl ?_
  refine w_load (pc' := 26) (v := .int (zpi2 (zpi1 x))) (m := 1) (ykc_303 (e := (2, .iload_n kF0, 0)) rfl) rfl rfl ?_
  refine w_alu (pc' := 27) (st' := [.int (Int32.ofInt 4), .int (zpi2 (zpi1 x)), .int (zpi2 (zpi1 x))]) (ykc_303 (e := (0, .iconst 4, 0)) rfl) rfl rfl ?_
  refine w_alu (pc' := 28) (st' := [.int (((zpi2 (zpi1 x)).toUInt32 >>> ((Int32.ofInt 4).toUInt32 &&& Int32.toUInt32 31)).toInt32), .int (zpi2 (zpi1 x))]) (ykc_303 (e := (0, .iushr, 0)) rfl) rfl rfl ?_
  refine w_alu (pc' := 29) (st' := [.int ((zpi2 (zpi1 x)) + (((zpi2 (zpi1 x)).toUInt32 >>> ((Int32.ofInt 4).toUInt32 &&& Int32.toUInt32 31)).toInt32))]) (ykc_303 (e := (0, .iadd, 0)) rfl) rfl rfl ?_
  refine w_push (pc' := 32) (v := .int (252645135 : Int32)) (m := 3) (ykc_303 (e := (1, .ldc_w 267, 0)) rfl) rfl rfl ?_
  refine w_alu (pc' := 33) (st' := [.int (zpi3 (zpi2 (zpi1 x)))]) (ykc_303 (e := (0, .iand, 0)) rfl) rfl rfl ?_
  refine w_store (pc' := 34) (L' := [some (.int (zpi3 (zpi2 (zpi1 x))))]) (st' := []) (m := 1) (ykc_303 (e := (3, .istore_n kF0, 0)) rfl) rfl rfl ?_
  refine w_load (pc' := 35) (v := .int (zpi3 (zpi2 (zpi1 x)))) (m := 1) (ykc_303 (e := (2, .iload_n kF0, 0)) rfl) rfl rfl ?_
  refine w_load (pc' := 36) (v := .int (zpi3 (zpi2 (zpi1 x)))) (m := 1) (ykc_303 (e := (2, .iload_n kF0, 0)) rfl) rfl rfl ?_
  refine w_push (pc' := 38) (v := .int ((Int8.ofInt 8).toInt32)) (m := 2) (ykc_303 (e := (1, .bipush 8, 0)) rfl) rfl rfl ?_
  refine w_alu (pc' := 39) (st' := [.int (((zpi3 (zpi2 (zpi1 x))).toUInt32 >>> (((Int8.ofInt 8).toInt32).toUInt32 &&& Int32.toUInt32 31)).toInt32), .int (zpi3 (zpi2 (zpi1 x)))]) (ykc_303 (e := (0, .iushr, 0)) rfl) rfl rfl ?_
  refine w_alu (pc' := 40) (st' := [.int (zpi4 (zpi3 (zpi2 (zpi1 x))))]) (ykc_303 (e := (0, .iadd, 0)) rfl) rfl rfl ?_
  refine w_store (pc' := 41) (L' := [some (.int (zpi4 (zpi3 (zpi2 (zpi1 x)))))]) (st' := []) (m := 1) (ykc_303 (e := (3, .istore_n kF0, 0)) rfl) rfl rfl ?_
  refine w_load (pc' := 42) (v := .int (zpi4 (zpi3 (zpi2 (zpi1 x))))) (m := 1) (ykc_303 (e := (2, .iload_n kF0, 0)) rfl) rfl rfl ?_
  refine w_load (pc' := 43) (v := .int (zpi4 (zpi3 (zpi2 (zpi1 x))))) (m := 1) (ykc_303 (e := (2, .iload_n kF0, 0)) rfl) rfl rfl ?_
  refine w_push (pc' := 45) (v := .int ((Int8.ofInt 16).toInt32)) (m := 2) (ykc_303 (e := (1, .bipush 16, 0)) rfl) rfl rfl ?_
  refine w_alu (pc' := 46) (st' := [.int (((zpi4 (zpi3 (zpi2 (zpi1 x)))).toUInt32 >>> (((Int8.ofInt 16).toInt32).toUInt32 &&& Int32.toUInt32 31)).toInt32), .int (zpi4 (zpi3 (zpi2 (zpi1 x))))]) (ykc_303 (e := (0, .iushr, 0)) rfl) rfl rfl ?_
  refine w_alu (pc' := 47) (st' := [.int (zpi5 (zpi4 (zpi3 (zpi2 (zpi1 x)))))]) (ykc_303 (e := (0, .iadd, 0)) rfl) rfl rfl ?_
  refine w_store (pc' := 48) (L' := [some (.int (zpi5 (zpi4 (zpi3 (zpi2 (zpi1 x))))))]) (st' := []) (m := 1) (ykc_303 (e := (3, .istore_n kF0, 0)) rfl) rfl rfl ?_
  refine w_load (pc' := 49) (v := .int (zpi5 (zpi4 (zpi3 (zpi2 (zpi1 x)))))) (m := 1) (ykc_303 (e := (2, .iload_n kF0, 0)) rfl) rfl rfl ?_
  refine w_push (pc' := 51) (v := .int ((Int8.ofInt 63).toInt32)) (m := 2) (ykc_303 (e := (1, .bipush 63, 0)) rfl) rfl rfl ?_
  refine w_alu (pc' := 52) (st' := [.int (zpi6 (zpi5 (zpi4 (zpi3 (zpi2 (zpi1 x))))))]) (ykc_303 (e := (0, .iand, 0)) rfl) rfl rfl ?_
  refine w_ret (v := (some (.int (zpi6 (zpi5 (zpi4 (zpi3 (zpi2 (zpi1 x))))))))) (ykc_303 (e := (7, .ireturn, 0)) rfl) (zr_v rfl) ?_
  rw [hQ]
  exact ⟨rfl, rfl⟩
theorem zj_pcl {x : Int64} {ph : pm_H} : zM 305 [.long x] ph (fun v q => ph = q ∧ v = some (.int (zpcl x))) := by
  obtain ⟨Q, hQ⟩ : ∃ Q : Option Value → pm_H → Prop, Q = (fun v q => ph = q ∧ v = some (.int (zpcl x))) := ⟨_, rfl⟩
  rw [← hQ]
  refine zM_mk fun n D => ?_
  show zW n D 305 Q 0 [some (.long x), none] [] ph
  have c_0 : ((Int8.ofInt 127).toInt32).toInt = 127 := by decide +kernel
  have c_1 : ((Int8.ofInt 16).toInt32).toInt = 16 := by decide +kernel
  have c_2 : ((Int8.ofInt 32).toInt32).toInt = 32 := by decide +kernel
  have c_3 : ((Int8.ofInt 8).toInt32).toInt = 8 := by decide +kernel
  have c_4 : (Int32.ofInt 1).toInt = 1 := by decide +kernel
  have c_5 : (Int32.ofInt 2).toInt = 2 := by decide +kernel
  have c_6 : (Int32.ofInt 4).toInt = 4 := by decide +kernel
  refine w_load (pc' := 1) (v := .long x) (m := 1) (ykc_305 (e := (2, .lload_n kF0, 0)) rfl) rfl rfl ?_
  refine w_load (pc' := 2) (v := .long x) (m := 1) (ykc_305 (e := (2, .lload_n kF0, 0)) rfl) rfl rfl ?_
  refine w_alu (pc' := 3) (st' := [.int (Int32.ofInt 1), .long x, .long x]) (ykc_305 (e := (0, .iconst 1, 0)) rfl) rfl rfl ?_
  refine w_alu (pc' := 4) (st' := [.long ((x.toUInt64 >>> ((Int32.ofInt 1).toInt64.toUInt64 &&& Int64.toUInt64 63)).toInt64), .long x]) (ykc_305 (e := (0, .lushr, 0)) rfl) rfl rfl ?_
  refine w_push (pc' := 7) (v := .long (6148914691236517205 : Int64)) (m := 3) (ykc_305 (e := (1, .ldc2_w 314, 0)) rfl) rfl rfl ?_
  refine w_alu (pc' := 8) (st' := [.long (((x.toUInt64 >>> ((Int32.ofInt 1).toInt64.toUInt64 &&& Int64.toUInt64 63)).toInt64) &&& (6148914691236517205 : Int64)), .long x]) (ykc_305 (e := (0, .land, 0)) rfl) rfl rfl ?_
  refine w_alu (pc' := 9) (st' := [.long (zpl1 x)]) (ykc_305 (e := (0, .lsub, 0)) rfl) rfl rfl ?_
  refine w_store (pc' := 10) (L' := [some (.long (zpl1 x)), none]) (st' := []) (m := 1) (ykc_305 (e := (3, .lstore_n kF0, 0)) rfl) rfl rfl ?_
  refine w_load (pc' := 11) (v := .long (zpl1 x)) (m := 1) (ykc_305 (e := (2, .lload_n kF0, 0)) rfl) rfl rfl ?_
  refine w_push (pc' := 14) (v := .long (3689348814741910323 : Int64)) (m := 3) (ykc_305 (e := (1, .ldc2_w 316, 0)) rfl) rfl rfl ?_
  refine w_alu (pc' := 15) (st' := [.long ((zpl1 x) &&& (3689348814741910323 : Int64))]) (ykc_305 (e := (0, .land, 0)) rfl) rfl rfl ?_
  refine w_load (pc' := 16) (v := .long (zpl1 x)) (m := 1) (ykc_305 (e := (2, .lload_n kF0, 0)) rfl) rfl rfl ?_
  refine w_alu (pc' := 17) (st' := [.int (Int32.ofInt 2), .long (zpl1 x), .long ((zpl1 x) &&& (3689348814741910323 : Int64))]) (ykc_305 (e := (0, .iconst 2, 0)) rfl) rfl rfl ?_
  refine w_alu (pc' := 18) (st' := [.long (((zpl1 x).toUInt64 >>> ((Int32.ofInt 2).toInt64.toUInt64 &&& Int64.toUInt64 63)).toInt64), .long ((zpl1 x) &&& (3689348814741910323 : Int64))]) (ykc_305 (e := (0, .lushr, 0)) rfl) rfl rfl ?_
  refine w_push (pc' := 21) (v := .long (3689348814741910323 : Int64)) (m := 3) (ykc_305 (e := (1, .ldc2_w 316, 0)) rfl) rfl rfl ?_
  refine w_alu (pc' := 22) (st' := [.long ((((zpl1 x).toUInt64 >>> ((Int32.ofInt 2).toInt64.toUInt64 &&& Int64.toUInt64 63)).toInt64) &&& (3689348814741910323 : Int64)), .long ((zpl1 x) &&& (3689348814741910323 : Int64))]) (ykc_305 (e := (0, .land, 0)) rfl) rfl rfl ?_
  refine w_alu (pc' := 23) (st' := [.long (zpl2 (zpl1 x))]) (ykc_305 (e := (0, .ladd, 0)) rfl) rfl rfl ?_
  refine w_store (pc' := 24) (L' := [some (.long (zpl2 (zpl1 x))), none]) (st' := []) (m := 1) (ykc_305 (e := (3, .lstore_n kF0, 0)) rfl) rfl rfl ?_
  refine w_load (pc' := 25) (v := .long (zpl2 (zpl1 x))) (m := 1) (ykc_305 (e := (2, .lload_n kF0, 0)) rfl) rfl rfl ?_
  refine w_load (pc' := 26) (v := .long (zpl2 (zpl1 x))) (m := 1) (ykc_305 (e := (2, .lload_n kF0, 0)) rfl) rfl rfl ?_
  refine w_alu (pc' := 27) (st' := [.int (Int32.ofInt 4), .long (zpl2 (zpl1 x)), .long (zpl2 (zpl1 x))]) (ykc_305 (e := (0, .iconst 4, 0)) rfl) rfl rfl ?_
  refine w_alu (pc' := 28) (st' := [.long (((zpl2 (zpl1 x)).toUInt64 >>> ((Int32.ofInt 4).toInt64.toUInt64 &&& Int64.toUInt64 63)).toInt64), .long (zpl2 (zpl1 x))]) (ykc_305 (e := (0, .lushr, 0)) rfl) rfl rfl ?_
  refine w_alu (pc' := 29) (st' := [.long ((zpl2 (zpl1 x)) + (((zpl2 (zpl1 x)).toUInt64 >>> ((Int32.ofInt 4).toInt64.toUInt64 &&& Int64.toUInt64 63)).toInt64))]) (ykc_305 (e := (0, .ladd, 0)) rfl) rfl rfl ?_
  refine w_push (pc' := 32) (v := .long (1085102592571150095 : Int64)) (m := 3) (ykc_305 (e := (1, .ldc2_w 318, 0)) rfl) rfl rfl ?_
  refine w_alu (pc' := 33) (st' := [.long (zpl3 (zpl2 (zpl1 x)))]) (ykc_305 (e := (0, .land, 0)) rfl) rfl rfl ?_
  refine w_store (pc' := 34) (L' := [some (.long (zpl3 (zpl2 (zpl1 x)))), none]) (st' := []) (m := 1) (ykc_305 (e := (3, .lstore_n kF0, 0)) rfl) rfl rfl ?_
  refine w_load (pc' := 35) (v := .long (zpl3 (zpl2 (zpl1 x)))) (m := 1) (ykc_305 (e := (2, .lload_n kF0, 0)) rfl) rfl rfl ?_
  refine w_load (pc' := 36) (v := .long (zpl3 (zpl2 (zpl1 x)))) (m := 1) (ykc_305 (e := (2, .lload_n kF0, 0)) rfl) rfl rfl ?_
  refine w_push (pc' := 38) (v := .int ((Int8.ofInt 8).toInt32)) (m := 2) (ykc_305 (e := (1, .bipush 8, 0)) rfl) rfl rfl ?_
  refine w_alu (pc' := 39) (st' := [.long (((zpl3 (zpl2 (zpl1 x))).toUInt64 >>> (((Int8.ofInt 8).toInt32).toInt64.toUInt64 &&& Int64.toUInt64 63)).toInt64), .long (zpl3 (zpl2 (zpl1 x)))]) (ykc_305 (e := (0, .lushr, 0)) rfl) rfl rfl ?_
  refine w_alu (pc' := 40) (st' := [.long (zpl4 (zpl3 (zpl2 (zpl1 x))))]) (ykc_305 (e := (0, .ladd, 0)) rfl) rfl rfl ?_
  refine w_store (pc' := 41) (L' := [some (.long (zpl4 (zpl3 (zpl2 (zpl1 x))))), none]) (st' := []) (m := 1) (ykc_305 (e := (3, .lstore_n kF0, 0)) rfl) rfl rfl ?_
  refine w_load (pc' := 42) (v := .long (zpl4 (zpl3 (zpl2 (zpl1 x))))) (m := 1) (ykc_305 (e := (2, .lload_n kF0, 0)) rfl) rfl rfl ?_
  refine w_load (pc' := 43) (v := .long (zpl4 (zpl3 (zpl2 (zpl1 x))))) (m := 1) (ykc_305 (e := (2, .lload_n kF0, 0)) rfl) rfl rfl ?_
  refine w_push (pc' := 45) (v := .int ((Int8.ofInt 16).toInt32)) (m := 2) (ykc_305 (e := (1, .bipush 16, 0)) rfl) rfl rfl ?_
  refine w_alu (pc' := 46) (st' := [.long (((zpl4 (zpl3 (zpl2 (zpl1 x)))).toUInt64 >>> (((Int8.ofInt 16).toInt32).toInt64.toUInt64 &&& Int64.toUInt64 63)).toInt64), .long (zpl4 (zpl3 (zpl2 (zpl1 x))))]) (ykc_305 (e := (0, .lushr, 0)) rfl) rfl rfl ?_
  refine w_alu (pc' := 47) (st' := [.long (zpl5 (zpl4 (zpl3 (zpl2 (zpl1 x)))))]) (ykc_305 (e := (0, .ladd, 0)) rfl) rfl rfl ?_
  refine w_store (pc' := 48) (L' := [some (.long (zpl5 (zpl4 (zpl3 (zpl2 (zpl1 x)))))), none]) (st' := []) (m := 1) (ykc_305 (e := (3, .lstore_n kF0, 0)) rfl) rfl rfl ?_
  refine w_load (pc' := 49) (v := .long (zpl5 (zpl4 (zpl3 (zpl2 (zpl1 x)))))) (m := 1) (ykc_305 (e := (2, .lload_n kF0, 0)) rfl) rfl rfl ?_
  refine w_load (pc' := 50) (v := .long (zpl5 (zpl4 (zpl3 (zpl2 (zpl1 x)))))) (m := 1) (ykc_305 (e := (2, .lload_n kF0, 0)) rfl) rfl rfl ?_
  refine w_push (pc' := 52) (v := .int ((Int8.ofInt 32).toInt32)) (m := 2) (ykc_305 (e := (1, .bipush 32, 0)) rfl) rfl rfl ?_
  refine w_alu (pc' := 53) (st' := [.long (((zpl5 (zpl4 (zpl3 (zpl2 (zpl1 x))))).toUInt64 >>> (((Int8.ofInt 32).toInt32).toInt64.toUInt64 &&& Int64.toUInt64 63)).toInt64), .long (zpl5 (zpl4 (zpl3 (zpl2 (zpl1 x)))))]) (ykc_305 (e := (0, .lushr, 0)) rfl) rfl rfl ?_
  refine w_alu (pc' := 54) (st' := [.long (zpl6 (zpl5 (zpl4 (zpl3 (zpl2 (zpl1 x))))))]) (ykc_305 (e := (0, .ladd, 0)) rfl) rfl rfl ?_
  refine w_store (pc' := 55) (L' := [some (.long (zpl6 (zpl5 (zpl4 (zpl3 (zpl2 (zpl1 x))))))), none]) (st' := []) (m := 1) (ykc_305 (e := (3, .lstore_n kF0, 0)) rfl) rfl rfl ?_
  refine w_load (pc' := 56) (v := .long (zpl6 (zpl5 (zpl4 (zpl3 (zpl2 (zpl1 x))))))) (m := 1) (ykc_305 (e := (2, .lload_n kF0, 0)) rfl) rfl rfl ?_
  refine w_alu (pc' := 57) (st' := [.int ((zpl6 (zpl5 (zpl4 (zpl3 (zpl2 (zpl1 x)))))).toInt32)]) (ykc_305 (e := (0, .l2i, 0)) rfl) rfl rfl ?_
  refine w_push (pc' := 59) (v := .int ((Int8.ofInt 127).toInt32)) (m := 2) (ykc_305 (e := (1, .bipush 127, 0)) rfl) rfl rfl ?_
  refine w_alu (pc' := 60) (st' := [.int (zpl7 (zpl6 (zpl5 (zpl4 (zpl3 (zpl2 (zpl1 x)))))))]) (ykc_305 (e := (0, .iand, 0)) rfl) rfl rfl ?_
  refine w_ret (v := (some (.int (zpl7 (zpl6 (zpl5 (zpl4 (zpl3 (zpl2 (zpl1 x)))))))))) (ykc_305 (e := (7, .ireturn, 0)) rfl) (zr_v rfl) ?_
  rw [hQ]
  exact ⟨rfl, rfl⟩
/-- one place of a function -/
def zup (f : Nat → Int32) (i : Nat) (x : Int32) : Nat → Int32 := fun j => if j = i then x else f j
theorem zup_i {f : Nat → Int32} {i : Nat} {x : Int32} : zup f i x i = x := if_pos rfl
theorem zup_n {f : Nat → Int32} {i j : Nat} {x : Int32} (h : j ≠ i) : zup f i x j = f j := if_neg h
/-- what an act of the RULE comes to -/
def zwk (c : Nat) (a b : Int32) : Int32 := if c = 0 then zI (decide (a.toInt < b.toInt)) else if c = 1 then zI (decide (b.toInt < a.toInt)) else if c = 2 then zI (decide (a.toInt = b.toInt)) else if c = 3 then a + b else if c = 4 then a - b else if c = 5 then a * b else if b.toInt = 0 then Int32.ofInt 0 else a / b
/-- how many stand on the stack behind k codes, and what -/
def ztp (cd : Nat → Nat) : Nat → Nat
  | 0 => 0
  | k + 1 => if cd k = 3000 then ztp cd k else if 2000 ≤ cd k then ztp cd k - 1 else ztp cd k + 1
def zsk (as : Nat → Int32) (cd : Nat → Nat) : Nat → Nat → Int32
  | 0 => fun _ => 0
  | k + 1 => if cd k = 3000 then zup (zsk as cd k) (ztp cd k - 1) (-(zsk as cd k (ztp cd k - 1))) else if 2000 ≤ cd k then zup (zsk as cd k) (ztp cd k - 2) (zwk (cd k - 2000) (zsk as cd k (ztp cd k - 2)) (zsk as cd k (ztp cd k - 1))) else zup (zsk as cd k) (ztp cd k) (if 1000 ≤ cd k then as (cd k - 1000) else zn (cd k))
/-- the codes are in order: nothing is taken from an empty stack -/
def zcg (cn : Nat) (cd : Nat → Nat) : Prop := (0 < cn → 1 ≤ ztp cd cn) ∧ ∀ k, k < cn → (cd k = 3000 → 1 ≤ ztp cd k) ∧ (2000 ≤ cd k → cd k ≠ 3000 → 2 ≤ ztp cd k) ∧ (cd k < 1000 ∨ (1000 ≤ cd k ∧ cd k < 1008) ∨ (2000 ≤ cd k ∧ cd k < 2007) ∨ cd k = 3000)
def zval (as : Nat → Int32) (cn : Nat) (cd : Nat → Nat) : Int32 := if cn = 0 then as 1 - as 0 else zsk as cd cn 0
def zrc (x : Int32) : Nat := (max 0 (min 9 x.toInt)).toNat
/-- how many of those before q stand there -/
def zct (v : Nat → Nat) (f : Nat) : Nat → Nat
  | 0 => 0
  | q + 1 => zct v f q + (if v q = f then 1 else 0)
theorem zct_le {v : Nat → Nat} {f q : Nat} : zct v f q ≤ q := by
  induction q with
  | zero => exact Nat.le_refl 0
  | succ q ih => unfold zct; split <;> omega
/-- the valley, light and rule at once -/
abbrev zEn : Type := Nat × Nat × (Nat → Bool) × Nat × (Nat → Nat) × Nat × (Nat → Nat)
def zas (E : zEn) (P : Nat) (v : Nat → Nat) (p br i : Nat) : Int32 := if i = 0 then zn br else if i = 1 then zn (E.2.2.2.2.1 (v 40 % E.2.2.2.1)) else if i = 2 then zpc (zn (v (24 + p))) else if i = 3 then zn (v (8 + p)) else if i = 4 then zn (v p / E.2.1) else if i = 5 then zn (v p % E.2.1) else if i = 6 then zn (v 40 % 7) else zn (zct v (v p) P)
def zRe (E : zEn) (P : Nat) (v : Nat → Nat) (p br : Nat) : Nat := zrc (zval (zas E P v p br) E.2.2.2.2.2.1 E.2.2.2.2.2.2)
theorem zRe_9 {E : zEn} {P : Nat} {v : Nat → Nat} {p br : Nat} : zRe E P v p br ≤ 9 := by unfold zRe zrc; omega
/-- with a BRIM, a FACING and its REACH; as it is -/
def zSw (E : zEn) (P : Nat) (v : Nat → Nat) (p fc br g : Nat) : Bool := zsee E.2.1 E.2.2.1 (v p) g fc br (zRe E P v p br)
def zSv (E : zEn) (P : Nat) (v : Nat → Nat) (p g : Nat) : Bool := zSw E P v p (v (8 + p)) (v (16 + p)) g
/-- sets: of FIELDS, of PEOPLE or THINGS -/
noncomputable def zS (f : Nat → Bool) : Nat → Int64
  | 0 => Int64.ofNat kG0
  | k + 1 => zS f k ||| (bif f k then Int64.ofNat kG1 <<< ((zn k).toInt64 &&& 63) else Int64.ofNat kG0)
def zT (f : Nat → Bool) : Nat → Int32
  | 0 => Int32.ofInt 0
  | k + 1 => zT f k ||| (bif f k then Int32.ofInt 1 <<< (zn k &&& 31) else Int32.ofInt 0)
noncomputable def zU (f : Nat → Int64) : Nat → Int64
  | 0 => Int64.ofNat kG0
  | k + 1 => zU f k ||| f k
theorem zS_b {f : Nat → Bool} {n : Nat} (hn : n ≤ 64) {k : Nat} (hk : k < 64) : zb (zS f n) k = (decide (k < n) && f k) := by
  induction n with
  | zero => show zb (Int64.ofNat kG0) k = _; rw [zL0]; simp [zb]
  | succ n ih =>
    show zb (zS f n ||| _) k = _
    rw [zb_or, ih (by omega)]
    cases hf : f n with
    | true =>
      rw [cond_true, zL1, zb_bit (by omega) hk]
      by_cases e : k = n
      · subst e; simp [hf]
      · have : (k < n + 1) ↔ (k < n) := by omega
        simp [e, this]
    | false =>
      rw [cond_false, zL0]
      by_cases e : k = n
      · subst e; simp [hf, zb]
      · have : (k < n + 1) ↔ (k < n) := by omega
        simp [this, zb]
theorem zrcI {x : Int32} : ((zrc x : Nat) : Int) = max 0 (min 9 x.toInt) := by unfold zrc; omega
/-- one SEES what: a set -/
noncomputable def zVw (E : zEn) (P : Nat) (v : Nat → Nat) (p : Nat) : Int64 := zS (zSv E P v p) (E.1 * E.2.1)
noncomputable def zAll (E : zEn) (P : Nat) (v : Nat → Nat) : Int64 := zU (zVw E P v) P
def zTon (G : Nat) (v : Nat → Nat) (x : Int64) : Int32 := zT (fun t => zb x (v (32 + t))) G
def zPon (P : Nat) (v : Nat → Nat) (x : Int64) : Int32 := zT (fun p => zb x (v p)) P
def zMeet (E : zEn) (P : Nat) (v : Nat → Nat) (a b : Nat) : Bool := zSv E P v a (v b) && zSv E P v b (v a)
def zNear (C x y : Nat) : Bool := decide (((x / C : Nat) : Int) - (y / C : Nat) < 2 ∧ ((y / C : Nat) : Int) - (x / C : Nat) < 2 ∧ ((x % C : Nat) : Int) - (y % C : Nat) < 2 ∧ ((y % C : Nat) : Int) - (x % C : Nat) < 2)
def zTell (E : zEn) (P : Nat) (v : Nat → Nat) (a b : Nat) : Bool := zNear E.2.1 (v a) (v b) && zMeet E P v a b
/-- the reference's valley, light and rule -/
def zMe (ph : pm_H) (E : zEn) : Prop := zMl ph E.1 E.2.1 E.2.2.1 ∧ zMr ph E.2.2.2.1 E.2.2.2.2.1 E.2.2.2.2.2.1 E.2.2.2.2.2.2 ∧ zcg E.2.2.2.2.2.1 E.2.2.2.2.2.2
/-- what REACH leaves in passing: stack and asked -/
def zSc (p q : pm_H) : Prop := zFr [181, 182] [] p q
theorem zSc_e {p q : pm_H} {E : zEn} (f : zSc p q) (h : zMe p E) : zMe q E := ⟨zMl_F f (by first | exact zqp rfl | simp) (by first | exact zqp rfl | simp) (by first | exact (fun _ => zqr rfl) | simp) (by first | exact ⟨zqm rfl, zqm rfl⟩ | simp) h.1, zMr_F f (by first | exact zqp rfl | simp) (by first | exact zqp rfl | simp) (by first | exact (fun _ => ⟨zqr rfl, zqr rfl⟩) | simp) (by first | exact ⟨zqm rfl, zqm rfl, zqm rfl⟩ | simp) h.2.1, h.2.2⟩
theorem zSc_p {p q : pm_H} {P G : Nat} (f : zSc p q) (h : zMp p P G) : zMp q P G := zMp_F f (by first | exact zqp rfl | simp) (by first | exact zqp rfl | simp) (by first | exact zqm rfl | simp) h
theorem zSc_n {p q : pm_H} {A o : Nat} {v : Nat → Nat} (f : zSc p q) (hA : A = 174 ∨ A = 175 ∨ A = 183 ∨ A = 200) (h : zNr p A o v) : zNr q A o v := zNr_F f (by first | exact (fun _ => zqr rfl) | simp) (by simp <;> omega) h
theorem zSc_S {p q : pm_H} (f : zSc p q) (h : zSh p) : zSh q := zSh_F f (by decide +kernel) h
theorem zSc_l {p q : pm_H} {R C : Nat} {rk : Nat → Bool} (f : zSc p q) (h : zMl p R C rk) : zMl q R C rk := zMl_F f (by first | exact zqp rfl | simp) (by first | exact zqp rfl | simp) (by first | exact (fun _ => zqr rfl) | simp) (by first | exact ⟨zqm rfl, zqm rfl⟩ | simp) h
theorem zSc_r {p q : pm_H} {sn cn : Nat} {sk cd : Nat → Nat} (f : zSc p q) (h : zMr p sn sk cn cd) : zMr q sn sk cn cd := zMr_F f (by first | exact zqp rfl | simp) (by first | exact zqp rfl | simp) (by first | exact (fun _ => ⟨zqr rfl, zqr rfl⟩) | simp) (by first | exact ⟨zqm rfl, zqm rfl, zqm rfl⟩ | simp) h
theorem zSc_a {p q : pm_H} {A o : Nat} {v : Nat → Nat} (f : zSc p q) (h : (A = 174 ∨ A = 175) ∧ zNr p A o v) : (A = 174 ∨ A = 175) ∧ zNr q A o v := ⟨h.1, zSc_n f (by omega) h.2⟩
theorem zm_work {c a b : Int32} {k : Nat} {ph : pm_H} (hc : c.toInt = (k : Int)) (hk : k ≤ 1000) : zM 218 [.int c, .int a, .int b] ph (fun v q => ph = q ∧ v = some (.int (zwk k a b))) := by
  obtain ⟨Q, hQ⟩ : ∃ Q : Option Value → pm_H → Prop, Q = (fun v q => ph = q ∧ v = some (.int (zwk k a b))) := ⟨_, rfl⟩
  rw [← hQ]
  refine zM_mk fun n D => ?_
  show zW n D 218 Q 0 [some (.int c), some (.int a), some (.int b)] [] ph
  have c_0 : (Int32.ofInt 0).toInt = 0 := by decide +kernel
  have c_1 : (Int32.ofInt 1).toInt = 1 := by decide +kernel
  refine w_load (pc' := 1) (v := .int c) (m := 1) (ykc_218 (e := (2, .iload_n kF0, 0)) rfl) rfl rfl ?_
  rcases (show k = 0 ∨ k = 1 ∨ k = 2 ∨ k = 3 ∨ k = 4 ∨ k = 5 ∨ 6 ≤ k by omega) with e | e | e | e | e | e | e
  · refine w_br (pc' := 40) (st' := []) (ykc_218 (e := (4, .tableswitch 93 0 5 #[39, 53, 67, 81, 85, 89], 39)) rfl) (zts_i (k := 0) (o := 39) (by omega) (by omega) rfl rfl) ?_
    refine w_load (pc' := 41) (v := .int a) (m := 1) (ykc_218 (e := (2, .iload_n kF1, 0)) rfl) rfl rfl ?_
    refine w_load (pc' := 42) (v := .int b) (m := 1) (ykc_218 (e := (2, .iload_n kF2, 0)) rfl) rfl rfl ?_
    refine w_ige (ykc_218 (e := (4, .if_icmp .ge 7, 49)) rfl) rfl (fun b96 => ?_) (fun b96 => ?_)
    · refine w_alu (pc' := 50) (st' := [.int (Int32.ofInt 0)]) (ykc_218 (e := (0, .iconst 0, 0)) rfl) rfl rfl ?_
      refine w_cs (as := [.int (Int32.ofInt 0)]) (r := []) (ykc_218 (e := (6, .invokestatic 154, 0)) rfl) rfl rfl rfl rfl (zm_flag0) (fun v97 ph98 hv => ?_)
      obtain ⟨rfl, rfl⟩ := hv
      have cI1 : (zI true).toInt = 1 := rfl
      have cI0 : (zI false).toInt = 0 := rfl
      show zW n D 218 Q 53 [some (.int c), some (.int a), some (.int b)] [.int (zI false)] ph
      refine w_ret (v := (some (.int (zI false)))) (ykc_218 (e := (7, .ireturn, 0)) rfl) (zr_v rfl) ?_
      subst e
      rw [hQ]
      exact ⟨rfl, zvB (by exact (decide_eq_false (by omega)).symm)⟩
    · refine w_alu (pc' := 46) (st' := [.int (Int32.ofInt 1)]) (ykc_218 (e := (0, .iconst 1, 0)) rfl) rfl rfl ?_
      refine w_br (pc' := 50) (st' := [.int (Int32.ofInt 1)]) (ykc_218 (e := (4, .goto 4, 50)) rfl) rfl ?_
      refine w_cs (as := [.int (Int32.ofInt 1)]) (r := []) (ykc_218 (e := (6, .invokestatic 154, 0)) rfl) rfl rfl rfl rfl (zm_flag1) (fun v99 ph100 hv => ?_)
      obtain ⟨rfl, rfl⟩ := hv
      have cI1 : (zI true).toInt = 1 := rfl
      have cI0 : (zI false).toInt = 0 := rfl
      show zW n D 218 Q 53 [some (.int c), some (.int a), some (.int b)] [.int (zI true)] ph
      refine w_ret (v := (some (.int (zI true)))) (ykc_218 (e := (7, .ireturn, 0)) rfl) (zr_v rfl) ?_
      subst e
      rw [hQ]
      exact ⟨rfl, zvB (by exact (decide_eq_true (by omega)).symm)⟩
  · refine w_br (pc' := 54) (st' := []) (ykc_218 (e := (4, .tableswitch 93 0 5 #[39, 53, 67, 81, 85, 89], 39)) rfl) (zts_i (k := 1) (o := 53) (by omega) (by omega) rfl rfl) ?_
    refine w_load (pc' := 55) (v := .int a) (m := 1) (ykc_218 (e := (2, .iload_n kF1, 0)) rfl) rfl rfl ?_
    refine w_load (pc' := 56) (v := .int b) (m := 1) (ykc_218 (e := (2, .iload_n kF2, 0)) rfl) rfl rfl ?_
    refine w_ile (ykc_218 (e := (4, .if_icmp .le 7, 63)) rfl) rfl (fun b101 => ?_) (fun b101 => ?_)
    · refine w_alu (pc' := 64) (st' := [.int (Int32.ofInt 0)]) (ykc_218 (e := (0, .iconst 0, 0)) rfl) rfl rfl ?_
      refine w_cs (as := [.int (Int32.ofInt 0)]) (r := []) (ykc_218 (e := (6, .invokestatic 154, 0)) rfl) rfl rfl rfl rfl (zm_flag0) (fun v102 ph103 hv => ?_)
      obtain ⟨rfl, rfl⟩ := hv
      have cI1 : (zI true).toInt = 1 := rfl
      have cI0 : (zI false).toInt = 0 := rfl
      show zW n D 218 Q 67 [some (.int c), some (.int a), some (.int b)] [.int (zI false)] ph
      refine w_ret (v := (some (.int (zI false)))) (ykc_218 (e := (7, .ireturn, 0)) rfl) (zr_v rfl) ?_
      subst e
      rw [hQ]
      exact ⟨rfl, zvB (by exact (decide_eq_false (by omega)).symm)⟩
    · refine w_alu (pc' := 60) (st' := [.int (Int32.ofInt 1)]) (ykc_218 (e := (0, .iconst 1, 0)) rfl) rfl rfl ?_
      refine w_br (pc' := 64) (st' := [.int (Int32.ofInt 1)]) (ykc_218 (e := (4, .goto 4, 64)) rfl) rfl ?_
      refine w_cs (as := [.int (Int32.ofInt 1)]) (r := []) (ykc_218 (e := (6, .invokestatic 154, 0)) rfl) rfl rfl rfl rfl (zm_flag1) (fun v104 ph105 hv => ?_)
      obtain ⟨rfl, rfl⟩ := hv
      have cI1 : (zI true).toInt = 1 := rfl
      have cI0 : (zI false).toInt = 0 := rfl
      show zW n D 218 Q 67 [some (.int c), some (.int a), some (.int b)] [.int (zI true)] ph
      refine w_ret (v := (some (.int (zI true)))) (ykc_218 (e := (7, .ireturn, 0)) rfl) (zr_v rfl) ?_
      subst e
      rw [hQ]
      exact ⟨rfl, zvB (by exact (decide_eq_true (by omega)).symm)⟩
  · refine w_br (pc' := 68) (st' := []) (ykc_218 (e := (4, .tableswitch 93 0 5 #[39, 53, 67, 81, 85, 89], 39)) rfl) (zts_i (k := 2) (o := 67) (by omega) (by omega) rfl rfl) ?_
    refine w_load (pc' := 69) (v := .int a) (m := 1) (ykc_218 (e := (2, .iload_n kF1, 0)) rfl) rfl rfl ?_
    refine w_load (pc' := 70) (v := .int b) (m := 1) (ykc_218 (e := (2, .iload_n kF2, 0)) rfl) rfl rfl ?_
    refine w_ine (ykc_218 (e := (4, .if_icmp .ne 7, 77)) rfl) rfl (fun b106 => ?_) (fun b106 => ?_)
    · refine w_alu (pc' := 78) (st' := [.int (Int32.ofInt 0)]) (ykc_218 (e := (0, .iconst 0, 0)) rfl) rfl rfl ?_
      refine w_cs (as := [.int (Int32.ofInt 0)]) (r := []) (ykc_218 (e := (6, .invokestatic 154, 0)) rfl) rfl rfl rfl rfl (zm_flag0) (fun v107 ph108 hv => ?_)
      obtain ⟨rfl, rfl⟩ := hv
      have cI1 : (zI true).toInt = 1 := rfl
      have cI0 : (zI false).toInt = 0 := rfl
      show zW n D 218 Q 81 [some (.int c), some (.int a), some (.int b)] [.int (zI false)] ph
      refine w_ret (v := (some (.int (zI false)))) (ykc_218 (e := (7, .ireturn, 0)) rfl) (zr_v rfl) ?_
      subst e
      rw [hQ]
      exact ⟨rfl, zvB (by exact (decide_eq_false (by omega)).symm)⟩
    · refine w_alu (pc' := 74) (st' := [.int (Int32.ofInt 1)]) (ykc_218 (e := (0, .iconst 1, 0)) rfl) rfl rfl ?_
      refine w_br (pc' := 78) (st' := [.int (Int32.ofInt 1)]) (ykc_218 (e := (4, .goto 4, 78)) rfl) rfl ?_
      refine w_cs (as := [.int (Int32.ofInt 1)]) (r := []) (ykc_218 (e := (6, .invokestatic 154, 0)) rfl) rfl rfl rfl rfl (zm_flag1) (fun v109 ph110 hv => ?_)
      obtain ⟨rfl, rfl⟩ := hv
      have cI1 : (zI true).toInt = 1 := rfl
      have cI0 : (zI false).toInt = 0 := rfl
      show zW n D 218 Q 81 [some (.int c), some (.int a), some (.int b)] [.int (zI true)] ph
      refine w_ret (v := (some (.int (zI true)))) (ykc_218 (e := (7, .ireturn, 0)) rfl) (zr_v rfl) ?_
      subst e
      rw [hQ]
      exact ⟨rfl, zvB (by exact (decide_eq_true (by omega)).symm)⟩
  · refine w_br (pc' := 82) (st' := []) (ykc_218 (e := (4, .tableswitch 93 0 5 #[39, 53, 67, 81, 85, 89], 39)) rfl) (zts_i (k := 3) (o := 81) (by omega) (by omega) rfl rfl) ?_
    refine w_load (pc' := 83) (v := .int a) (m := 1) (ykc_218 (e := (2, .iload_n kF1, 0)) rfl) rfl rfl ?_
    refine w_load (pc' := 84) (v := .int b) (m := 1) (ykc_218 (e := (2, .iload_n kF2, 0)) rfl) rfl rfl ?_
    refine w_alu (pc' := 85) (st' := [.int (a + b)]) (ykc_218 (e := (0, .iadd, 0)) rfl) rfl rfl ?_
    refine w_ret (v := (some (.int (a + b)))) (ykc_218 (e := (7, .ireturn, 0)) rfl) (zr_v rfl) ?_
    subst e
    rw [hQ]
    exact ⟨rfl, rfl⟩
  · refine w_br (pc' := 86) (st' := []) (ykc_218 (e := (4, .tableswitch 93 0 5 #[39, 53, 67, 81, 85, 89], 39)) rfl) (zts_i (k := 4) (o := 85) (by omega) (by omega) rfl rfl) ?_
    refine w_load (pc' := 87) (v := .int a) (m := 1) (ykc_218 (e := (2, .iload_n kF1, 0)) rfl) rfl rfl ?_
    refine w_load (pc' := 88) (v := .int b) (m := 1) (ykc_218 (e := (2, .iload_n kF2, 0)) rfl) rfl rfl ?_
    refine w_alu (pc' := 89) (st' := [.int (a - b)]) (ykc_218 (e := (0, .isub, 0)) rfl) rfl rfl ?_
    refine w_ret (v := (some (.int (a - b)))) (ykc_218 (e := (7, .ireturn, 0)) rfl) (zr_v rfl) ?_
    subst e
    rw [hQ]
    exact ⟨rfl, rfl⟩
  · refine w_br (pc' := 90) (st' := []) (ykc_218 (e := (4, .tableswitch 93 0 5 #[39, 53, 67, 81, 85, 89], 39)) rfl) (zts_i (k := 5) (o := 89) (by omega) (by omega) rfl rfl) ?_
    refine w_load (pc' := 91) (v := .int a) (m := 1) (ykc_218 (e := (2, .iload_n kF1, 0)) rfl) rfl rfl ?_
    refine w_load (pc' := 92) (v := .int b) (m := 1) (ykc_218 (e := (2, .iload_n kF2, 0)) rfl) rfl rfl ?_
    refine w_alu (pc' := 93) (st' := [.int (a * b)]) (ykc_218 (e := (0, .imul, 0)) rfl) rfl rfl ?_
    refine w_ret (v := (some (.int (a * b)))) (ykc_218 (e := (7, .ireturn, 0)) rfl) (zr_v rfl) ?_
    subst e
    rw [hQ]
    exact ⟨rfl, rfl⟩
  · refine w_br (pc' := 94) (st' := []) (ykc_218 (e := (4, .tableswitch 93 0 5 #[39, 53, 67, 81, 85, 89], 39)) rfl) (zts_d (Or.inr (by omega)) rfl) ?_
    refine w_load (pc' := 95) (v := .int b) (m := 1) (ykc_218 (e := (2, .iload_n kF2, 0)) rfl) rfl rfl ?_
    refine w_zne (ykc_218 (e := (4, .ifCond .ne 7, 102)) rfl) rfl (fun b111 => ?_) (fun b111 => ?_)
    · refine w_load (pc' := 103) (v := .int a) (m := 1) (ykc_218 (e := (2, .iload_n kF1, 0)) rfl) rfl rfl ?_
      refine w_load (pc' := 104) (v := .int b) (m := 1) (ykc_218 (e := (2, .iload_n kF2, 0)) rfl) rfl rfl ?_
      refine w_idiv (pc' := 105) (ykc_218 (e := (0, .idiv, 0)) rfl) rfl (fun d112 => ?_)
      show zW n D 218 Q 105 [some (.int c), some (.int a), some (.int b)] [.int (a / b)] ph
      refine w_ret (v := (some (.int (a / b)))) (ykc_218 (e := (7, .ireturn, 0)) rfl) (zr_v rfl) ?_
      rw [hQ]
      have n0 : ¬ k = 0 := by omega
      have n1 : ¬ k = 1 := by omega
      have n2 : ¬ k = 2 := by omega
      have n3 : ¬ k = 3 := by omega
      have n4 : ¬ k = 4 := by omega
      have n5 : ¬ k = 5 := by omega
      exact ⟨rfl, by unfold zwk; rw [if_neg n0, if_neg n1, if_neg n2, if_neg n3, if_neg n4, if_neg n5, if_neg b111]⟩
    · refine w_alu (pc' := 99) (st' := [.int (Int32.ofInt 0)]) (ykc_218 (e := (0, .iconst 0, 0)) rfl) rfl rfl ?_
      refine w_br (pc' := 105) (st' := [.int (Int32.ofInt 0)]) (ykc_218 (e := (4, .goto 6, 105)) rfl) rfl ?_
      refine w_ret (v := (some (.int (Int32.ofInt 0)))) (ykc_218 (e := (7, .ireturn, 0)) rfl) (zr_v rfl) ?_
      rw [hQ]
      have n0 : ¬ k = 0 := by omega
      have n1 : ¬ k = 1 := by omega
      have n2 : ¬ k = 2 := by omega
      have n3 : ¬ k = 3 := by omega
      have n4 : ¬ k = 4 := by omega
      have n5 : ¬ k = 5 := by omega
      exact ⟨rfl, by unfold zwk; rw [if_neg n0, if_neg n1, if_neg n2, if_neg n3, if_neg n4, if_neg n5, if_pos b111]⟩
theorem zm_ruled {ph : pm_H} (hS : zSh ph) {sn cn : Nat} {sk cd : Nat → Nat} (hR : zMr ph sn sk cn cd) (hcg : zcg cn cd) {as : Nat → Int32} (ha : ∀ i, i < 8 → zc ph 182 i = some (.int (as i))) : zM 219 [.ref 170] ph (fun v q => zFr [181] [] ph q ∧ v = some (.int (zval as cn cd))) := by
  obtain ⟨Q, hQ⟩ : ∃ Q : Option Value → pm_H → Prop, Q = (fun v q => zFr [181] [] ph q ∧ v = some (.int (zval as cn cd))) := ⟨_, rfl⟩
  rw [← hQ]
  refine zM_mk fun n D => ?_
  show zW n D 219 Q 0 [some (.ref 170), none, none, none] [] ph
  have c_0 : ((Int16.ofInt 1000).toInt32).toInt = 1000 := by decide +kernel
  have c_1 : ((Int16.ofInt 2000).toInt32).toInt = 2000 := by decide +kernel
  have c_2 : ((Int16.ofInt 3000).toInt32).toInt = 3000 := by decide +kernel
  have c_3 : (Int32.ofInt (-1)).toInt = -1 := by decide +kernel
  have c_4 : (Int32.ofInt 0).toInt = 0 := by decide +kernel
  have c_5 : (Int32.ofInt 1).toInt = 1 := by decide +kernel
  obtain ⟨gsn, hs1, hs20, gsk, gcn, hc40, gcd⟩ := hR
  have tsn := znt (k := sn) (by omega)
  have tcn := znt (k := cn) (by omega)
  refine w_alu (pc' := 1) (st' := [.int (Int32.ofInt 0)]) (ykc_219 (e := (0, .iconst 0, 0)) rfl) rfl rfl ?_
  refine w_store (pc' := 2) (L' := [some (.ref 170), some (.int (Int32.ofInt 0)), none, none]) (st' := []) (m := 1) (ykc_219 (e := (3, .istore_n kF1, 0)) rfl) rfl rfl ?_
  refine w_alu (pc' := 3) (st' := [.int (Int32.ofInt 0)]) (ykc_219 (e := (0, .iconst 0, 0)) rfl) rfl rfl ?_
  refine w_store (pc' := 4) (L' := [some (.ref 170), some (.int (Int32.ofInt 0)), some (.int (Int32.ofInt 0)), none]) (st' := []) (m := 1) (ykc_219 (e := (3, .istore_n kF2, 0)) rfl) rfl rfl ?_
  have hl : ∀ (n : Nat), ∀ (k : Nat) (x3 : Option Value) (ph1 : pm_H), (k ≤ cn) → (zFr [181] [] ph ph1) → (∀ i, i < ztp cd k → zc ph1 181 i = some (.int (zsk as cd k i))) → (ztp cd k ≤ 40 ∧ ztp cd k ≤ k) → zW n D 219 Q 4 [some (.ref 170), some (.int (zn (ztp cd k))), some (.int (zn k)), x3] [] ph1 := by
    intro n
    induction n using Nat.strongRecOn with
    | ind n ih =>
      intro k x3 ph1 hk hf hst htp
      have tk := znt (k := k) (by omega)
      have tt := znt (k := ztp cd k) (by omega)
      refine w_load (pc' := 5) (v := .int (zn k)) (m := 1) (ykc_219 (e := (2, .iload_n kF2, 0)) rfl) rfl rfl ?_
      refine w_load (pc' := 6) (v := .ref 170) (m := 1) (ykc_219 (e := (2, .aload_n kF0, 0)) rfl) rfl rfl ?_
      refine w_gf (pc' := 9) (v := .int (zn cn)) (ykc_219 (e := (5, .getfield 248, 0)) rfl) rfl ((hf.1 170 23 (by first | exact zqm rfl | decide) (by first | exact zqp rfl | decide)).trans gcn) rfl ?_
      refine w_ige (ykc_219 (e := (4, .if_icmp .ge 116, 125)) rfl) rfl (fun b113 => ?_) (fun b113 => ?_)
      · refine w_load (pc' := 126) (v := .ref 170) (m := 1) (ykc_219 (e := (2, .aload_n kF0, 0)) rfl) rfl rfl ?_
        refine w_gf (pc' := 129) (v := .int (zn cn)) (ykc_219 (e := (5, .getfield 248, 0)) rfl) rfl ((hf.1 170 23 (by first | exact zqm rfl | decide) (by first | exact zqp rfl | decide)).trans gcn) rfl ?_
        refine w_zne (ykc_219 (e := (4, .ifCond .ne 19, 148)) rfl) rfl (fun b114 => ?_) (fun b114 => ?_)
        · refine w_load (pc' := 149) (v := .ref 170) (m := 1) (ykc_219 (e := (2, .aload_n kF0, 0)) rfl) rfl rfl ?_
          refine w_gf (pc' := 152) (v := .ref 181) (ykc_219 (e := (5, .getfield 62, 0)) rfl) rfl ((hf.1 170 25 (by first | exact zqm rfl | decide) (by first | exact zqp rfl | decide)).trans (zsg hS zs_170_25)) rfl ?_
          refine w_alu (pc' := 153) (st' := [.int (Int32.ofInt 0), .ref 181]) (ykc_219 (e := (0, .iconst 0, 0)) rfl) rfl rfl ?_
          have hl1 := hcg.1 (by omega)
          have ek0 : ztp cd k = ztp cd cn := by rw [show k = cn by omega]
          refine w_ialk (pc' := 154) (k := 0) (ykc_219 (e := (5, .iaload, 0)) rfl) (hst 0 (by omega)) (by omega) rfl ?_
          refine w_ret (v := (some (.int (zsk as cd k 0)))) (ykc_219 (e := (7, .ireturn, 0)) rfl) (zr_v rfl) ?_
          have ek : k = cn := by omega
          subst ek
          rw [hQ]
          exact ⟨hf, by unfold zval; rw [if_neg (show ¬ k = 0 by omega)]⟩
        · refine w_load (pc' := 133) (v := .ref 170) (m := 1) (ykc_219 (e := (2, .aload_n kF0, 0)) rfl) rfl rfl ?_
          refine w_gf (pc' := 136) (v := .ref 182) (ykc_219 (e := (5, .getfield 65, 0)) rfl) rfl ((hf.1 170 26 (by first | exact zqm rfl | decide) (by first | exact zqp rfl | decide)).trans (zsg hS zs_170_26)) rfl ?_
          refine w_alu (pc' := 137) (st' := [.int (Int32.ofInt 1), .ref 182]) (ykc_219 (e := (0, .iconst 1, 0)) rfl) rfl rfl ?_
          refine w_ialk (pc' := 138) (k := 1) (ykc_219 (e := (5, .iaload, 0)) rfl) ((hf.1 182 1 (by first | exact zqm rfl | decide) (by first | exact zqp rfl | decide)).trans (ha 1 (by omega))) (by omega) rfl ?_
          refine w_load (pc' := 139) (v := .ref 170) (m := 1) (ykc_219 (e := (2, .aload_n kF0, 0)) rfl) rfl rfl ?_
          refine w_gf (pc' := 142) (v := .ref 182) (ykc_219 (e := (5, .getfield 65, 0)) rfl) rfl ((hf.1 170 26 (by first | exact zqm rfl | decide) (by first | exact zqp rfl | decide)).trans (zsg hS zs_170_26)) rfl ?_
          refine w_alu (pc' := 143) (st' := [.int (Int32.ofInt 0), .ref 182, .int (as 1)]) (ykc_219 (e := (0, .iconst 0, 0)) rfl) rfl rfl ?_
          refine w_ialk (pc' := 144) (k := 0) (ykc_219 (e := (5, .iaload, 0)) rfl) ((hf.1 182 0 (by first | exact zqm rfl | decide) (by first | exact zqp rfl | decide)).trans (ha 0 (by omega))) (by omega) rfl ?_
          refine w_alu (pc' := 145) (st' := [.int ((as 1) - (as 0))]) (ykc_219 (e := (0, .isub, 0)) rfl) rfl rfl ?_
          refine w_br (pc' := 154) (st' := [.int ((as 1) - (as 0))]) (ykc_219 (e := (4, .goto 9, 154)) rfl) rfl ?_
          refine w_ret (v := (some (.int ((as 1) - (as 0))))) (ykc_219 (e := (7, .ireturn, 0)) rfl) (zr_v rfl) ?_
          rw [hQ]
          exact ⟨hf, by unfold zval; rw [if_pos (show cn = 0 by omega)]⟩
      · refine w_load (pc' := 13) (v := .ref 170) (m := 1) (ykc_219 (e := (2, .aload_n kF0, 0)) rfl) rfl rfl ?_
        refine w_gf (pc' := 16) (v := .ref 179) (ykc_219 (e := (5, .getfield 56, 0)) rfl) rfl ((hf.1 170 21 (by first | exact zqm rfl | decide) (by first | exact zqp rfl | decide)).trans (zsg hS zs_170_21)) rfl ?_
        refine w_load (pc' := 17) (v := .int (zn k)) (m := 1) (ykc_219 (e := (2, .iload_n kF2, 0)) rfl) rfl rfl ?_
        have q115 := (gcd k (by omega)).2
        have tq115 := znt (k := cd k) (by omega)
        refine w_ialk (pc' := 18) (k := k) (ykc_219 (e := (5, .iaload, 0)) rfl) ((hf.1 179 k (by first | exact zqm rfl | decide) (by first | exact zqp rfl | simp)).trans (gcd k (by omega)).1) (by omega) rfl ?_
        refine w_store (pc' := 19) (L' := [some (.ref 170), some (.int (zn (ztp cd k))), some (.int (zn k)), some (.int (zn (cd k)))]) (st' := []) (m := 1) (ykc_219 (e := (3, .istore_n kF3, 0)) rfl) rfl rfl ?_
        refine w_load (pc' := 20) (v := .int (zn (cd k))) (m := 1) (ykc_219 (e := (2, .iload_n kF3, 0)) rfl) rfl rfl ?_
        refine w_push (pc' := 23) (v := .int ((Int16.ofInt 3000).toInt32)) (m := 3) (ykc_219 (e := (1, .sipush 3000, 0)) rfl) rfl rfl ?_
        refine w_ine (ykc_219 (e := (4, .if_icmp .ne 23, 46)) rfl) rfl (fun b116 => ?_) (fun b116 => ?_)
        · refine w_load (pc' := 47) (v := .int (zn (cd k))) (m := 1) (ykc_219 (e := (2, .iload_n kF3, 0)) rfl) rfl rfl ?_
          refine w_push (pc' := 50) (v := .int ((Int16.ofInt 2000).toInt32)) (m := 3) (ykc_219 (e := (1, .sipush 2000, 0)) rfl) rfl rfl ?_
          refine w_ilt (ykc_219 (e := (4, .if_icmp .lt 39, 89)) rfl) rfl (fun b117 => ?_) (fun b117 => ?_)
          · refine w_load (pc' := 90) (v := .ref 170) (m := 1) (ykc_219 (e := (2, .aload_n kF0, 0)) rfl) rfl rfl ?_
            refine w_gf (pc' := 93) (v := .ref 181) (ykc_219 (e := (5, .getfield 62, 0)) rfl) rfl ((hf.1 170 25 (by first | exact zqm rfl | decide) (by first | exact zqp rfl | decide)).trans (zsg hS zs_170_25)) rfl ?_
            refine w_load (pc' := 94) (v := .int (zn (ztp cd k))) (m := 1) (ykc_219 (e := (2, .iload_n kF1, 0)) rfl) rfl rfl ?_
            refine w_load (pc' := 95) (v := .int (zn (cd k))) (m := 1) (ykc_219 (e := (2, .iload_n kF3, 0)) rfl) rfl rfl ?_
            refine w_push (pc' := 98) (v := .int ((Int16.ofInt 1000).toInt32)) (m := 3) (ykc_219 (e := (1, .sipush 1000, 0)) rfl) rfl rfl ?_
            refine w_ilt (ykc_219 (e := (4, .if_icmp .lt 16, 114)) rfl) rfl (fun b118 => ?_) (fun b118 => ?_)
            · refine w_load (pc' := 115) (v := .int (zn (cd k))) (m := 1) (ykc_219 (e := (2, .iload_n kF3, 0)) rfl) rfl rfl ?_
              refine w_ias (pc' := 116) (k := ztp cd k) (ykc_219 (e := (5, .iastore, 0)) rfl) (by omega) rfl (fun ph120 u119 => ?_)
              have e121 : (zn (ztp cd k)) + Int32.ofInt 1 = zn (ztp cd k + 1) := (zaddN (a := ztp cd k) (b := 1) (znt (by omega)) c_5 (by omega))
              have te121 := znt (k := ztp cd k + 1) (by omega)
              refine w_store (pc' := 119) (L' := [some (.ref 170), some (.int (zn (ztp cd k + 1))), some (.int (zn k)), some (.int (zn (cd k)))]) (st' := []) (m := 3) (ykc_219 (e := (3, .iinc 1 1, 0)) rfl) (by rw [← e121]; rfl) rfl ?_
              have e122 : (zn k) + Int32.ofInt 1 = zn (k + 1) := (zaddN (a := k) (b := 1) (znt (by omega)) c_5 (by omega))
              have te122 := znt (k := k + 1) (by omega)
              refine w_store (pc' := 122) (L' := [some (.ref 170), some (.int (zn (ztp cd k + 1))), some (.int (zn (k + 1))), some (.int (zn (cd k)))]) (st' := []) (m := 3) (ykc_219 (e := (3, .iinc 2 1, 0)) rfl) (by rw [← e122]; rfl) rfl ?_
              refine w_gb (ykc_219 (e := (4, .goto (-118), 4)) rfl) (fun k123 hk123 => ?_)
              have et : ztp cd (k + 1) = ztp cd k + 1 := by
                show (if cd k = 3000 then _ else if 2000 ≤ cd k then _ else _) = _
                rw [if_neg (show ¬ cd k = 3000 by omega), if_neg (show ¬ 2000 ≤ cd k by omega)]
              have es : zsk as cd (k + 1) = zup (zsk as cd k) (ztp cd k) (zn (cd k)) := by
                show (if cd k = 3000 then _ else if 2000 ≤ cd k then _ else _) = _
                rw [if_neg (show ¬ cd k = 3000 by omega), if_neg (show ¬ 2000 ≤ cd k by omega), if_neg (show ¬ 1000 ≤ cd k by omega)]
              have h9 := ih k123 hk123 (k + 1) (some (.int (zn (cd k)))) ph120 (by omega) (zFr_add hf u119 (Or.inl (by first | exact zqi rfl | decide))) (fun i hi => by
                rw [et] at hi
                rw [es]
                by_cases e9 : i = ztp cd k
                · rw [e9, zup_i]
                  exact u119.1
                · rw [zup_n e9]
                  exact (u119.2.1 181 i (fun q => e9 q.2)).trans (hst i (by omega))) (by rw [et]; omega)
              rw [et] at h9
              exact h9
            · have h3 := (hcg.2 k (by omega)).2.2
              refine w_load (pc' := 102) (v := .ref 170) (m := 1) (ykc_219 (e := (2, .aload_n kF0, 0)) rfl) rfl rfl ?_
              refine w_gf (pc' := 105) (v := .ref 182) (ykc_219 (e := (5, .getfield 65, 0)) rfl) rfl ((hf.1 170 26 (by first | exact zqm rfl | decide) (by first | exact zqp rfl | decide)).trans (zsg hS zs_170_26)) rfl ?_
              refine w_load (pc' := 106) (v := .int (zn (cd k))) (m := 1) (ykc_219 (e := (2, .iload_n kF3, 0)) rfl) rfl rfl ?_
              refine w_push (pc' := 109) (v := .int ((Int16.ofInt 1000).toInt32)) (m := 3) (ykc_219 (e := (1, .sipush 1000, 0)) rfl) rfl rfl ?_
              have e124 : (zn (cd k)) - ((Int16.ofInt 1000).toInt32) = zn (cd k - 1000) := zsubN (a := cd k) (b := 1000) (znt (by omega)) c_0 (by omega)
              have te124 := znt (k := cd k - 1000) (by omega)
              refine w_alu (pc' := 110) (st' := [.int (zn (cd k - 1000)), .ref 182, .int (zn (ztp cd k)), .ref 181]) (ykc_219 (e := (0, .isub, 0)) rfl) (by show some ([.int ((zn (cd k)) - ((Int16.ofInt 1000).toInt32)), .ref 182, .int (zn (ztp cd k)), .ref 181] : List Value) = _; rw [e124]) rfl ?_
              refine w_ialk (pc' := 111) (k := cd k - 1000) (ykc_219 (e := (5, .iaload, 0)) rfl) ((hf.1 182 (cd k - 1000) (by first | exact zqm rfl | decide) (by first | exact zqp rfl | simp)).trans (ha (cd k - 1000) (by omega))) (by omega) rfl ?_
              refine w_br (pc' := 115) (st' := [.int (as (cd k - 1000)), .int (zn (ztp cd k)), .ref 181]) (ykc_219 (e := (4, .goto 4, 115)) rfl) rfl ?_
              refine w_ias (pc' := 116) (k := ztp cd k) (ykc_219 (e := (5, .iastore, 0)) rfl) (by omega) rfl (fun ph126 u125 => ?_)
              have e127 : (zn (ztp cd k)) + Int32.ofInt 1 = zn (ztp cd k + 1) := (zaddN (a := ztp cd k) (b := 1) (znt (by omega)) c_5 (by omega))
              have te127 := znt (k := ztp cd k + 1) (by omega)
              refine w_store (pc' := 119) (L' := [some (.ref 170), some (.int (zn (ztp cd k + 1))), some (.int (zn k)), some (.int (zn (cd k)))]) (st' := []) (m := 3) (ykc_219 (e := (3, .iinc 1 1, 0)) rfl) (by rw [← e127]; rfl) rfl ?_
              have e128 : (zn k) + Int32.ofInt 1 = zn (k + 1) := (zaddN (a := k) (b := 1) (znt (by omega)) c_5 (by omega))
              have te128 := znt (k := k + 1) (by omega)
              refine w_store (pc' := 122) (L' := [some (.ref 170), some (.int (zn (ztp cd k + 1))), some (.int (zn (k + 1))), some (.int (zn (cd k)))]) (st' := []) (m := 3) (ykc_219 (e := (3, .iinc 2 1, 0)) rfl) (by rw [← e128]; rfl) rfl ?_
              refine w_gb (ykc_219 (e := (4, .goto (-118), 4)) rfl) (fun k129 hk129 => ?_)
              have et : ztp cd (k + 1) = ztp cd k + 1 := by
                show (if cd k = 3000 then _ else if 2000 ≤ cd k then _ else _) = _
                rw [if_neg (show ¬ cd k = 3000 by omega), if_neg (show ¬ 2000 ≤ cd k by omega)]
              have es : zsk as cd (k + 1) = zup (zsk as cd k) (ztp cd k) (as (cd k - 1000)) := by
                show (if cd k = 3000 then _ else if 2000 ≤ cd k then _ else _) = _
                rw [if_neg (show ¬ cd k = 3000 by omega), if_neg (show ¬ 2000 ≤ cd k by omega), if_pos (show 1000 ≤ cd k by omega)]
              have h9 := ih k129 hk129 (k + 1) (some (.int (zn (cd k)))) ph126 (by omega) (zFr_add hf u125 (Or.inl (by first | exact zqi rfl | decide))) (fun i hi => by
                rw [et] at hi
                rw [es]
                by_cases e9 : i = ztp cd k
                · rw [e9, zup_i]
                  exact u125.1
                · rw [zup_n e9]
                  exact (u125.2.1 181 i (fun q => e9 q.2)).trans (hst i (by omega))) (by rw [et]; omega)
              rw [et] at h9
              exact h9
          · have h2 : 2 ≤ ztp cd k := (hcg.2 k (by omega)).2.1 (by omega) (by omega)
            have e130 : (zn (ztp cd k)) + Int32.ofInt (-1) = zn (ztp cd k - 1) := (zdecN (a := ztp cd k) (znt (by omega)) (by omega))
            have te130 := znt (k := ztp cd k - 1) (by omega)
            refine w_store (pc' := 56) (L' := [some (.ref 170), some (.int (zn (ztp cd k - 1))), some (.int (zn k)), some (.int (zn (cd k)))]) (st' := []) (m := 3) (ykc_219 (e := (3, .iinc 1 (-1), 0)) rfl) (by rw [← e130]; rfl) rfl ?_
            refine w_load (pc' := 57) (v := .ref 170) (m := 1) (ykc_219 (e := (2, .aload_n kF0, 0)) rfl) rfl rfl ?_
            refine w_gf (pc' := 60) (v := .ref 181) (ykc_219 (e := (5, .getfield 62, 0)) rfl) rfl ((hf.1 170 25 (by first | exact zqm rfl | decide) (by first | exact zqp rfl | decide)).trans (zsg hS zs_170_25)) rfl ?_
            refine w_load (pc' := 61) (v := .int (zn (ztp cd k - 1))) (m := 1) (ykc_219 (e := (2, .iload_n kF1, 0)) rfl) rfl rfl ?_
            refine w_alu (pc' := 62) (st' := [.int (Int32.ofInt 1), .int (zn (ztp cd k - 1)), .ref 181]) (ykc_219 (e := (0, .iconst 1, 0)) rfl) rfl rfl ?_
            have e131 : (zn (ztp cd k - 1)) - (Int32.ofInt 1) = zn (ztp cd k - 2) := zsubN (a := ztp cd k - 1) (b := 1) (znt (by omega)) c_5 (by omega)
            have te131 := znt (k := ztp cd k - 2) (by omega)
            refine w_alu (pc' := 63) (st' := [.int (zn (ztp cd k - 2)), .ref 181]) (ykc_219 (e := (0, .isub, 0)) rfl) (by show some ([.int ((zn (ztp cd k - 1)) - (Int32.ofInt 1)), .ref 181] : List Value) = _; rw [e131]) rfl ?_
            refine w_load (pc' := 64) (v := .int (zn (cd k))) (m := 1) (ykc_219 (e := (2, .iload_n kF3, 0)) rfl) rfl rfl ?_
            refine w_push (pc' := 67) (v := .int ((Int16.ofInt 2000).toInt32)) (m := 3) (ykc_219 (e := (1, .sipush 2000, 0)) rfl) rfl rfl ?_
            have e132 : (zn (cd k)) - ((Int16.ofInt 2000).toInt32) = zn (cd k - 2000) := zsubN (a := cd k) (b := 2000) (znt (by omega)) c_1 (by omega)
            have te132 := znt (k := cd k - 2000) (by omega)
            refine w_alu (pc' := 68) (st' := [.int (zn (cd k - 2000)), .int (zn (ztp cd k - 2)), .ref 181]) (ykc_219 (e := (0, .isub, 0)) rfl) (by show some ([.int ((zn (cd k)) - ((Int16.ofInt 2000).toInt32)), .int (zn (ztp cd k - 2)), .ref 181] : List Value) = _; rw [e132]) rfl ?_
            refine w_load (pc' := 69) (v := .ref 170) (m := 1) (ykc_219 (e := (2, .aload_n kF0, 0)) rfl) rfl rfl ?_
            refine w_gf (pc' := 72) (v := .ref 181) (ykc_219 (e := (5, .getfield 62, 0)) rfl) rfl ((hf.1 170 25 (by first | exact zqm rfl | decide) (by first | exact zqp rfl | decide)).trans (zsg hS zs_170_25)) rfl ?_
            refine w_load (pc' := 73) (v := .int (zn (ztp cd k - 1))) (m := 1) (ykc_219 (e := (2, .iload_n kF1, 0)) rfl) rfl rfl ?_
            refine w_alu (pc' := 74) (st' := [.int (Int32.ofInt 1), .int (zn (ztp cd k - 1)), .ref 181, .int (zn (cd k - 2000)), .int (zn (ztp cd k - 2)), .ref 181]) (ykc_219 (e := (0, .iconst 1, 0)) rfl) rfl rfl ?_
            have e133 : (zn (ztp cd k - 1)) - (Int32.ofInt 1) = zn (ztp cd k - 2) := zsubN (a := ztp cd k - 1) (b := 1) (znt (by omega)) c_5 (by omega)
            have te133 := znt (k := ztp cd k - 2) (by omega)
            refine w_alu (pc' := 75) (st' := [.int (zn (ztp cd k - 2)), .ref 181, .int (zn (cd k - 2000)), .int (zn (ztp cd k - 2)), .ref 181]) (ykc_219 (e := (0, .isub, 0)) rfl) (by show some ([.int ((zn (ztp cd k - 1)) - (Int32.ofInt 1)), .ref 181, .int (zn (cd k - 2000)), .int (zn (ztp cd k - 2)), .ref 181] : List Value) = _; rw [e133]) rfl ?_
            refine w_ialk (pc' := 76) (k := ztp cd k - 2) (ykc_219 (e := (5, .iaload, 0)) rfl) (hst (ztp cd k - 2) (by omega)) (by omega) rfl ?_
            refine w_load (pc' := 77) (v := .ref 170) (m := 1) (ykc_219 (e := (2, .aload_n kF0, 0)) rfl) rfl rfl ?_
            refine w_gf (pc' := 80) (v := .ref 181) (ykc_219 (e := (5, .getfield 62, 0)) rfl) rfl ((hf.1 170 25 (by first | exact zqm rfl | decide) (by first | exact zqp rfl | decide)).trans (zsg hS zs_170_25)) rfl ?_
            refine w_load (pc' := 81) (v := .int (zn (ztp cd k - 1))) (m := 1) (ykc_219 (e := (2, .iload_n kF1, 0)) rfl) rfl rfl ?_
            refine w_ialk (pc' := 82) (k := ztp cd k - 1) (ykc_219 (e := (5, .iaload, 0)) rfl) (hst (ztp cd k - 1) (by omega)) (by omega) rfl ?_
            refine w_cs (as := [.int (zn (cd k - 2000)), .int (zsk as cd k (ztp cd k - 2)), .int (zsk as cd k (ztp cd k - 1))]) (r := [.int (zn (ztp cd k - 2)), .ref 181]) (ykc_219 (e := (6, .invokestatic 258, 0)) rfl) rfl rfl rfl rfl (zm_work (k := cd k - 2000) (by omega) (by omega)) (fun v134 ph135 hv => ?_)
            obtain ⟨rfl, rfl⟩ := hv
            show zW n D 219 Q 85 [some (.ref 170), some (.int (zn (ztp cd k - 1))), some (.int (zn k)), some (.int (zn (cd k)))] [.int (zwk (cd k - 2000) (zsk as cd k (ztp cd k - 2)) (zsk as cd k (ztp cd k - 1))), .int (zn (ztp cd k - 2)), .ref 181] ph1
            refine w_ias (pc' := 86) (k := ztp cd k - 2) (ykc_219 (e := (5, .iastore, 0)) rfl) (by omega) rfl (fun ph137 u136 => ?_)
            refine w_br (pc' := 119) (st' := []) (ykc_219 (e := (4, .goto 33, 119)) rfl) rfl ?_
            have e138 : (zn k) + Int32.ofInt 1 = zn (k + 1) := (zaddN (a := k) (b := 1) (znt (by omega)) c_5 (by omega))
            have te138 := znt (k := k + 1) (by omega)
            refine w_store (pc' := 122) (L' := [some (.ref 170), some (.int (zn (ztp cd k - 1))), some (.int (zn (k + 1))), some (.int (zn (cd k)))]) (st' := []) (m := 3) (ykc_219 (e := (3, .iinc 2 1, 0)) rfl) (by rw [← e138]; rfl) rfl ?_
            refine w_gb (ykc_219 (e := (4, .goto (-118), 4)) rfl) (fun k139 hk139 => ?_)
            have et : ztp cd (k + 1) = ztp cd k - 1 := by
              show (if cd k = 3000 then _ else if 2000 ≤ cd k then _ else _) = _
              rw [if_neg (show ¬ cd k = 3000 by omega), if_pos (show 2000 ≤ cd k by omega)]
            have es : zsk as cd (k + 1) = zup (zsk as cd k) (ztp cd k - 2) (zwk (cd k - 2000) (zsk as cd k (ztp cd k - 2)) (zsk as cd k (ztp cd k - 1))) := by
              show (if cd k = 3000 then _ else if 2000 ≤ cd k then _ else _) = _
              rw [if_neg (show ¬ cd k = 3000 by omega), if_pos (show 2000 ≤ cd k by omega)]
            have h9 := ih k139 hk139 (k + 1) (some (.int (zn (cd k)))) ph137 (by omega) (zFr_add hf u136 (Or.inl (by first | exact zqi rfl | decide))) (fun i hi => by
              rw [et] at hi
              rw [es]
              by_cases e9 : i = ztp cd k - 2
              · rw [e9, zup_i]
                exact u136.1
              · rw [zup_n e9]
                exact (u136.2.1 181 i (fun q => e9 q.2)).trans (hst i (by omega))) (by rw [et]; omega)
            rw [et] at h9
            exact h9
        · have h1 : 1 ≤ ztp cd k := (hcg.2 k (by omega)).1 (by omega)
          refine w_load (pc' := 27) (v := .ref 170) (m := 1) (ykc_219 (e := (2, .aload_n kF0, 0)) rfl) rfl rfl ?_
          refine w_gf (pc' := 30) (v := .ref 181) (ykc_219 (e := (5, .getfield 62, 0)) rfl) rfl ((hf.1 170 25 (by first | exact zqm rfl | decide) (by first | exact zqp rfl | decide)).trans (zsg hS zs_170_25)) rfl ?_
          refine w_load (pc' := 31) (v := .int (zn (ztp cd k))) (m := 1) (ykc_219 (e := (2, .iload_n kF1, 0)) rfl) rfl rfl ?_
          refine w_alu (pc' := 32) (st' := [.int (Int32.ofInt 1), .int (zn (ztp cd k)), .ref 181]) (ykc_219 (e := (0, .iconst 1, 0)) rfl) rfl rfl ?_
          have e140 : (zn (ztp cd k)) - (Int32.ofInt 1) = zn (ztp cd k - 1) := zsubN (a := ztp cd k) (b := 1) (znt (by omega)) c_5 (by omega)
          have te140 := znt (k := ztp cd k - 1) (by omega)
          refine w_alu (pc' := 33) (st' := [.int (zn (ztp cd k - 1)), .ref 181]) (ykc_219 (e := (0, .isub, 0)) rfl) (by show some ([.int ((zn (ztp cd k)) - (Int32.ofInt 1)), .ref 181] : List Value) = _; rw [e140]) rfl ?_
          refine w_load (pc' := 34) (v := .ref 170) (m := 1) (ykc_219 (e := (2, .aload_n kF0, 0)) rfl) rfl rfl ?_
          refine w_gf (pc' := 37) (v := .ref 181) (ykc_219 (e := (5, .getfield 62, 0)) rfl) rfl ((hf.1 170 25 (by first | exact zqm rfl | decide) (by first | exact zqp rfl | decide)).trans (zsg hS zs_170_25)) rfl ?_
          refine w_load (pc' := 38) (v := .int (zn (ztp cd k))) (m := 1) (ykc_219 (e := (2, .iload_n kF1, 0)) rfl) rfl rfl ?_
          refine w_alu (pc' := 39) (st' := [.int (Int32.ofInt 1), .int (zn (ztp cd k)), .ref 181, .int (zn (ztp cd k - 1)), .ref 181]) (ykc_219 (e := (0, .iconst 1, 0)) rfl) rfl rfl ?_
          have e141 : (zn (ztp cd k)) - (Int32.ofInt 1) = zn (ztp cd k - 1) := zsubN (a := ztp cd k) (b := 1) (znt (by omega)) c_5 (by omega)
          have te141 := znt (k := ztp cd k - 1) (by omega)
          refine w_alu (pc' := 40) (st' := [.int (zn (ztp cd k - 1)), .ref 181, .int (zn (ztp cd k - 1)), .ref 181]) (ykc_219 (e := (0, .isub, 0)) rfl) (by show some ([.int ((zn (ztp cd k)) - (Int32.ofInt 1)), .ref 181, .int (zn (ztp cd k - 1)), .ref 181] : List Value) = _; rw [e141]) rfl ?_
          refine w_ialk (pc' := 41) (k := ztp cd k - 1) (ykc_219 (e := (5, .iaload, 0)) rfl) (hst (ztp cd k - 1) (by omega)) (by omega) rfl ?_
          refine w_alu (pc' := 42) (st' := [.int (-(zsk as cd k (ztp cd k - 1))), .int (zn (ztp cd k - 1)), .ref 181]) (ykc_219 (e := (0, .ineg, 0)) rfl) rfl rfl ?_
          refine w_ias (pc' := 43) (k := ztp cd k - 1) (ykc_219 (e := (5, .iastore, 0)) rfl) (by omega) rfl (fun ph143 u142 => ?_)
          refine w_br (pc' := 119) (st' := []) (ykc_219 (e := (4, .goto 76, 119)) rfl) rfl ?_
          have e144 : (zn k) + Int32.ofInt 1 = zn (k + 1) := (zaddN (a := k) (b := 1) (znt (by omega)) c_5 (by omega))
          have te144 := znt (k := k + 1) (by omega)
          refine w_store (pc' := 122) (L' := [some (.ref 170), some (.int (zn (ztp cd k))), some (.int (zn (k + 1))), some (.int (zn (cd k)))]) (st' := []) (m := 3) (ykc_219 (e := (3, .iinc 2 1, 0)) rfl) (by rw [← e144]; rfl) rfl ?_
          refine w_gb (ykc_219 (e := (4, .goto (-118), 4)) rfl) (fun k145 hk145 => ?_)
          have et : ztp cd (k + 1) = ztp cd k := by
            show (if cd k = 3000 then _ else if 2000 ≤ cd k then _ else _) = _
            rw [if_pos (show cd k = 3000 by omega)]
          have es : zsk as cd (k + 1) = zup (zsk as cd k) (ztp cd k - 1) (-(zsk as cd k (ztp cd k - 1))) := by
            show (if cd k = 3000 then _ else if 2000 ≤ cd k then _ else _) = _
            rw [if_pos (show cd k = 3000 by omega)]
          have h9 := ih k145 hk145 (k + 1) (some (.int (zn (cd k)))) ph143 (by omega) (zFr_add hf u142 (Or.inl (by first | exact zqi rfl | decide))) (fun i hi => by
            rw [et] at hi
            rw [es]
            by_cases e9 : i = ztp cd k - 1
            · rw [e9, zup_i]
              exact u142.1
            · rw [zup_n e9]
              exact (u142.2.1 181 i (fun q => e9 q.2)).trans (hst i (by omega))) (by rw [et]; omega)
          rw [et] at h9
          exact h9
  exact hl n 0 none ph (by omega) zFr_refl (fun i hi => absurd hi (Nat.not_lt_zero i)) ⟨Nat.zero_le _, Nat.le_refl _⟩
