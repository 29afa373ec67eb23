/-! end: W of both; printed by wip/z/z6_end.py -/
theorem zc_cutX {ph : pm_H} {t y : Int32} (h : zc ph 1 1 = some (.int t)) (g : 0 ≤ y.toInt ∧ y.toInt ≤ t.toInt) : zM 96 [.ref 1, .int y] ph (fun v0 q => zst ph q 1 1 (.int y) ∧ v0 = some (.int (Int32.ofInt 1))) := by
  obtain ⟨Q, hQ⟩ : ∃ Q : Option Value → pm_H → Prop, Q = (fun v0 q => zst ph q 1 1 (.int y) ∧ v0 = some (.int (Int32.ofInt 1))) := ⟨_, rfl⟩
  rw [← hQ]
  refine zM_mk fun n D => ?_
  show zW n D 96 Q 0 [some (.ref 1), some (.int y)] [] ph
  have c_0 : (Int32.ofInt 0).toInt = 0 := by decide
  have c_1 : (Int32.ofInt 1).toInt = 1 := by decide
  refine w_load (pc' := 1) (v := .int y) (m := 1) (ykc_96 (e := (2, .iload_n kF1, 0)) rfl) rfl rfl ?_
  refine w_zlt (ykc_96 (e := (4, .ifCond .lt 11, 12)) rfl) rfl (fun q => by exfalso; omega) (fun b1302 => ?_)
  refine w_load (pc' := 5) (v := .int y) (m := 1) (ykc_96 (e := (2, .iload_n kF1, 0)) rfl) rfl rfl ?_
  refine w_load (pc' := 6) (v := .ref 1) (m := 1) (ykc_96 (e := (2, .aload_n kF0, 0)) rfl) rfl rfl ?_
  refine w_gf (pc' := 9) (v := .int t) (ykc_96 (e := (5, .getfield 13, 0)) rfl) rfl h rfl ?_
  refine w_ile (ykc_96 (e := (4, .if_icmp .le 5, 14)) rfl) rfl (fun b1303 => ?_) (fun q => by exfalso; omega)
  refine w_load (pc' := 15) (v := .ref 1) (m := 1) (ykc_96 (e := (2, .aload_n kF0, 0)) rfl) rfl rfl ?_
  refine w_load (pc' := 16) (v := .int y) (m := 1) (ykc_96 (e := (2, .iload_n kF1, 0)) rfl) rfl rfl ?_
  refine w_pf (pc' := 19) (ykc_96 (e := (5, .putfield 13, 0)) rfl) rfl rfl (fun ph1305 u1304 => ?_)
  refine w_alu (pc' := 20) (st' := [.int (Int32.ofInt 1)]) (ykc_96 (e := (0, .iconst 1, 0)) rfl) rfl rfl ?_
  refine w_ret (v := (some (.int (Int32.ofInt 1)))) (ykc_96 (e := (7, .ireturn, 0)) rfl) zr_z ?_
  rw [hQ]
  exact ⟨u1304, rfl⟩
theorem zc_endX {ph : pm_H} {t y : Int32} (h0 : zc ph 0 0 = some (.ref 1)) (h : zc ph 1 1 = some (.int t)) (g : 0 ≤ y.toInt ∧ y.toInt ≤ t.toInt) : zM 123 [.ref 0, .int y] ph (fun v0 q => zc q 1 1 = some (.int y) ∧ v0 = some (.int (Int32.ofInt 1))) := by
  obtain ⟨Q, hQ⟩ : ∃ Q : Option Value → pm_H → Prop, Q = (fun v0 q => zc q 1 1 = some (.int y) ∧ v0 = some (.int (Int32.ofInt 1))) := ⟨_, rfl⟩
  rw [← hQ]
  refine zM_mk fun n D => ?_
  show zW n D 123 Q 0 [some (.ref 0), some (.int y)] [] ph
  refine w_load (pc' := 1) (v := .ref 0) (m := 1) (ykc_123 (e := (2, .aload_n kF0, 0)) rfl) rfl rfl ?_
  refine w_gf (pc' := 4) (v := .ref 1) (ykc_123 (e := (5, .getfield 10, 0)) rfl) rfl h0 rfl ?_
  refine w_load (pc' := 5) (v := .int y) (m := 1) (ykc_123 (e := (2, .iload_n kF1, 0)) rfl) rfl rfl ?_
  refine w_cv (as := [.ref 1, .int y]) (r := []) (ykc_123 (e := (6, .invokevirtual 112, 0)) rfl) rfl rfl rfl rfl (zc_cutX h g) (fun v1306 ph1307 hv => ?_)
  obtain ⟨u, rfl⟩ := hv
  show zW n D 123 Q 8 [some (.ref 0), some (.int y)] [.int (Int32.ofInt 1)] ph1307
  refine w_ret (v := (some (.int (Int32.ofInt 1)))) (ykc_123 (e := (7, .ireturn, 0)) rfl) zr_z ?_
  rw [hQ]
  exact ⟨u.1, rfl⟩
theorem zm_endX {ph : pm_H} {t y : Int32} (h : zc ph 170 14 = some (.int t)) (g : 0 ≤ y.toInt ∧ y.toInt ≤ t.toInt) : zM 194 [.ref 170, .int y] ph (fun v0 q => zc q 170 14 = some (.int y) ∧ v0 = some (.int (Int32.ofInt 1))) := by
  obtain ⟨Q, hQ⟩ : ∃ Q : Option Value → pm_H → Prop, Q = (fun v0 q => zc q 170 14 = some (.int y) ∧ v0 = some (.int (Int32.ofInt 1))) := ⟨_, rfl⟩
  rw [← hQ]
  refine zM_mk fun n D => ?_
  show zW n D 194 Q 0 [some (.ref 170), some (.int y)] [] ph
  have c_0 : (Int32.ofInt 0).toInt = 0 := by decide
  have c_1 : (Int32.ofInt 1).toInt = 1 := by decide
  refine w_load (pc' := 1) (v := .ref 170) (m := 1) (ykc_194 (e := (2, .aload_n kF0, 0)) rfl) rfl rfl ?_
  refine w_alu (pc' := 2) (st' := [.int (Int32.ofInt 0), .ref 170]) (ykc_194 (e := (0, .iconst 0, 0)) rfl) rfl rfl ?_
  refine w_pf (pc' := 5) (ykc_194 (e := (5, .putfield 3, 0)) rfl) rfl rfl (fun ph1309 u1308 => ?_)
  refine w_load (pc' := 6) (v := .int y) (m := 1) (ykc_194 (e := (2, .iload_n kF1, 0)) rfl) rfl rfl ?_
  refine w_alu (pc' := 7) (st' := [.long y.toInt64]) (ykc_194 (e := (0, .i2l, 0)) rfl) rfl rfl ?_
  refine w_alu (pc' := 8) (st' := [.long (Int64.ofNat kG0), .long y.toInt64]) (ykc_194 (e := (0, .lconst kG0, 0)) rfl) rfl rfl ?_
  refine w_load (pc' := 9) (v := .ref 170) (m := 1) (ykc_194 (e := (2, .aload_n kF0, 0)) rfl) rfl rfl ?_
  refine w_gf (pc' := 12) (v := .int t) (ykc_194 (e := (5, .getfield 136, 0)) rfl) rfl ((u1308.2.1 170 14 (fun q => absurd q.2 (by decide))).trans h) rfl ?_
  refine w_alu (pc' := 13) (st' := [.long t.toInt64, .long (Int64.ofNat kG0), .long y.toInt64]) (ykc_194 (e := (0, .i2l, 0)) rfl) rfl rfl ?_
  refine w_cs (as := [.long y.toInt64, .long (Int64.ofNat kG0), .long t.toInt64]) (r := []) (ykc_194 (e := (6, .invokestatic 126, 0)) rfl) rfl rfl rfl rfl (zm_in (x := y.toInt) (y := (0 : Int)) (z := t.toInt) (by first | exact ztl | (rw [ztl]; omega) | decide | omega) (by first | exact ztl | (rw [ztl]; omega) | decide | omega) (by first | exact ztl | (rw [ztl]; omega) | decide | omega)) (fun v1310 ph1311 hv => ?_)
  obtain ⟨rfl, rfl⟩ := hv
  show zW n D 194 Q 16 [some (.ref 170), some (.int y)] [.int (zI (decide ((0 : Int) ≤ y.toInt ∧ y.toInt ≤ t.toInt)))] ph1309
  refine w_bne (ykc_194 (e := (4, .ifCond .ne 5, 21)) rfl) rfl (fun b1312 => ?_) (fun q => by have := of_decide_eq_false q; omega)
  refine w_load (pc' := 22) (v := .ref 170) (m := 1) (ykc_194 (e := (2, .aload_n kF0, 0)) rfl) rfl rfl ?_
  refine w_load (pc' := 23) (v := .int y) (m := 1) (ykc_194 (e := (2, .iload_n kF1, 0)) rfl) rfl rfl ?_
  refine w_pf (pc' := 26) (ykc_194 (e := (5, .putfield 136, 0)) rfl) rfl rfl (fun ph1314 u1313 => ?_)
  refine w_alu (pc' := 27) (st' := [.int (Int32.ofInt 1)]) (ykc_194 (e := (0, .iconst 1, 0)) rfl) rfl rfl ?_
  refine w_ret (v := (some (.int (Int32.ofInt 1)))) (ykc_194 (e := (7, .ireturn, 0)) rfl) zr_z ?_
  rw [hQ]
  exact ⟨u1313.1, rfl⟩
