/-! what looks answer: storm, ahead, learns; printed by wip/z/z3c_looks.py -/
def zXstorm (n : Nat) (x y z : Int32) : Int32 := if (0 ≤ x.toInt ∧ x.toInt < (n : Int)) ∧ (0 ≤ y.toInt ∧ y.toInt ≤ 8) ∧ 0 ≤ z.toInt ∧ z.toInt ≤ 10 then Int32.ofInt 0 else Int32.ofInt (-1)
theorem zXstorm_n {n : Nat} {x y z : Int32} (h : ¬ ((0 ≤ x.toInt ∧ x.toInt < (n : Int)) ∧ (0 ≤ y.toInt ∧ y.toInt ≤ 8) ∧ 0 ≤ z.toInt ∧ z.toInt ≤ 10)) : (some (.int (Int32.ofInt (-1))) : Option Value) = some (.int (zXstorm n x y z)) := by
  unfold zXstorm
  rw [if_neg h]
theorem zXstorm_p {n : Nat} {x y z : Int32} (h : (0 ≤ x.toInt ∧ x.toInt < (n : Int)) ∧ (0 ≤ y.toInt ∧ y.toInt ≤ 8) ∧ 0 ≤ z.toInt ∧ z.toInt ≤ 10) : (some (.int (Int32.ofInt 0)) : Option Value) = some (.int (zXstorm n x y z)) := by
  unfold zXstorm
  rw [if_pos h]
theorem zc_stormX {ph : pm_H} {E : zEn} {F P G : Nat} {v : Nat → Nat} (hS : zSh ph) (hE : zCe ph E F) (ht : zCt ph 25 P G v) (hO : zOk E.1 E.2.1 P G v) (hr : zc ph 10 1 = some (.ref F)) (hc : zCc ph E.1 E.2.1 E.2.2.1) {x y z : Int32} : zM 171 [.ref 0, .int x, .int y, .int z] ph (fun v0 _ => v0 = some (.int (zXstorm (E.1 * E.2.1) x y z))) := by
  obtain ⟨Q, hQ⟩ : ∃ Q : Option Value → pm_H → Prop, Q = (fun v0 _ => v0 = some (.int (zXstorm (E.1 * E.2.1) x y z))) := ⟨_, rfl⟩
  rw [← hQ]
  refine zM_mk fun n D => ?_
  show zW n D 171 Q 0 [some (.ref 0), some (.int x), some (.int y), some (.int z), none, none, none] [] ph
  have c_0 : ((Int8.ofInt 10).toInt32).toInt = 10 := by decide +kernel
  have c_1 : ((Int8.ofInt 8).toInt32).toInt = 8 := by decide +kernel
  have c_2 : (Int32.ofInt (-1)).toInt = -1 := by decide +kernel
  have c_3 : (Int32.ofInt 0).toInt = 0 := by decide +kernel
  have c_4 : (Int32.ofInt 1).toInt = 1 := by decide +kernel
  obtain ⟨R, C, rk, sn, sk, cn, cd⟩ := E
  have hL0 : zCl ph R C rk := hE.1
  have hi0 : zCi ph sn sk := hE.2.1
  have hF : F = 11 ∨ F = 16 := hE.2.2.2
  have hE0 : zCe ph (R, C, rk, sn, sk, cn, cd) F := hE
  have hO0 : zOk R C P G v := hO
  have hL := hL0
  have hs := ht.1.2
  have hd := ht.2
  have h25 := ht.1.1
  obtain ⟨gR, gC, gN, gK, gA, hR3, hR7, hC3, hC7⟩ := hL
  have hRC := zRC49 hR7 hC7
  have tR := znt (k := R) (by omega)
  have tC := znt (k := C) (by omega)
  have tRC := znt (k := R * C) (by omega)
  have hd0 := hd
  have hs0 := hs
  obtain ⟨r3, r4, r5, r6, r7, l1, l2, l3, l4, l5⟩ := hs
  obtain ⟨gP, hP8, gG, hG8, gH, gv, gw⟩ := hd
  have tP := znt (k := P) (by omega)
  have tG := znt (k := G) (by omega)
  have h40 := hO0.2.2
  have t40 := znt (k := v 40) (by omega)
  have hc0 := hc
  refine w_load (pc' := 1) (v := .ref 0) (m := 1) (ykc_171 (e := (2, .aload_n kF0, 0)) rfl) rfl rfl ?_
  refine w_gf (pc' := 4) (v := .ref 5) (ykc_171 (e := (5, .getfield 26, 0)) rfl) rfl (zsg hS zs_0_2) rfl ?_
  refine w_load (pc' := 5) (v := .int x) (m := 1) (ykc_171 (e := (2, .iload_n kF1, 0)) rfl) rfl rfl ?_
  refine w_cv (as := [.ref 5, .int x]) (r := []) (ykc_171 (e := (6, .invokevirtual 302, 0)) rfl) rfl rfl rfl rfl (zc_holds hS hL0 (f := x)) (fun v1215 ph1216 hv => ?_)
  obtain ⟨rfl, rfl⟩ := hv
  show zW n D 171 Q 8 [some (.ref 0), some (.int x), some (.int y), some (.int z), none, none, none] [.int (zI (decide (0 ≤ x.toInt ∧ x.toInt < ((R * C : Nat) : Int))))] ph
  refine w_beq (ykc_171 (e := (4, .ifCond .eq 23, 31)) rfl) rfl (fun b1217 => ?_) (fun b1217 => ?_)
  · refine w_alu (pc' := 32) (st' := [.int (Int32.ofInt (-1))]) (ykc_171 (e := (0, .iconst (-1), 0)) rfl) rfl rfl ?_
    refine w_ret (v := (some (.int (Int32.ofInt (-1))))) (ykc_171 (e := (7, .ireturn, 0)) rfl) (zr_v rfl) ?_
    rw [hQ]
    exact zXstorm_n (n := R * C) (fun q => absurd q.1 (of_decide_eq_false b1217))
  · refine w_load (pc' := 12) (v := .int y) (m := 1) (ykc_171 (e := (2, .iload_n kF2, 0)) rfl) rfl rfl ?_
    refine w_zlt (ykc_171 (e := (4, .ifCond .lt 19, 31)) rfl) rfl (fun b1218 => ?_) (fun b1218 => ?_)
    · refine w_alu (pc' := 32) (st' := [.int (Int32.ofInt (-1))]) (ykc_171 (e := (0, .iconst (-1), 0)) rfl) rfl rfl ?_
      refine w_ret (v := (some (.int (Int32.ofInt (-1))))) (ykc_171 (e := (7, .ireturn, 0)) rfl) (zr_v rfl) ?_
      rw [hQ]
      exact zXstorm_n (n := R * C) (fun q => by have q1 := q.2; omega)
    · refine w_load (pc' := 16) (v := .int y) (m := 1) (ykc_171 (e := (2, .iload_n kF2, 0)) rfl) rfl rfl ?_
      refine w_push (pc' := 18) (v := .int ((Int8.ofInt 8).toInt32)) (m := 2) (ykc_171 (e := (1, .bipush 8, 0)) rfl) rfl rfl ?_
      refine w_igt (ykc_171 (e := (4, .if_icmp .gt 13, 31)) rfl) rfl (fun b1219 => ?_) (fun b1219 => ?_)
      · refine w_alu (pc' := 32) (st' := [.int (Int32.ofInt (-1))]) (ykc_171 (e := (0, .iconst (-1), 0)) rfl) rfl rfl ?_
        refine w_ret (v := (some (.int (Int32.ofInt (-1))))) (ykc_171 (e := (7, .ireturn, 0)) rfl) (zr_v rfl) ?_
        rw [hQ]
        exact zXstorm_n (n := R * C) (fun q => by have q1 := q.2; omega)
      · refine w_load (pc' := 22) (v := .int z) (m := 1) (ykc_171 (e := (2, .iload_n kF3, 0)) rfl) rfl rfl ?_
        refine w_zlt (ykc_171 (e := (4, .ifCond .lt 9, 31)) rfl) rfl (fun b1220 => ?_) (fun b1220 => ?_)
        · refine w_alu (pc' := 32) (st' := [.int (Int32.ofInt (-1))]) (ykc_171 (e := (0, .iconst (-1), 0)) rfl) rfl rfl ?_
          refine w_ret (v := (some (.int (Int32.ofInt (-1))))) (ykc_171 (e := (7, .ireturn, 0)) rfl) (zr_v rfl) ?_
          rw [hQ]
          exact zXstorm_n (n := R * C) (fun q => by have q1 := q.2; omega)
        · refine w_load (pc' := 26) (v := .int z) (m := 1) (ykc_171 (e := (2, .iload_n kF3, 0)) rfl) rfl rfl ?_
          refine w_push (pc' := 28) (v := .int ((Int8.ofInt 10).toInt32)) (m := 2) (ykc_171 (e := (1, .bipush 10, 0)) rfl) rfl rfl ?_
          refine w_ile (ykc_171 (e := (4, .if_icmp .le 5, 33)) rfl) rfl (fun b1221 => ?_) (fun b1221 => ?_)
          · rw [hQ]
            exact zTail0 kc_171 33 147 (fun _ => rfl) (by decide +kernel) (by decide) (by decide) (by decide +kernel) (fun _ => zXstorm_p (n := R * C) ⟨of_decide_eq_true b1217, by omega, by omega⟩)
          · refine w_alu (pc' := 32) (st' := [.int (Int32.ofInt (-1))]) (ykc_171 (e := (0, .iconst (-1), 0)) rfl) rfl rfl ?_
            refine w_ret (v := (some (.int (Int32.ofInt (-1))))) (ykc_171 (e := (7, .ireturn, 0)) rfl) (zr_v rfl) ?_
            rw [hQ]
            exact zXstorm_n (n := R * C) (fun q => by have q1 := q.2; omega)
theorem zm_stormX {ph : pm_H} {E : zEn} {P G : Nat} {v : Nat → Nat} (hS : zSh ph) (hE : zMe ph E) (hN : zMp ph P G) (hv : zNr ph 174 0 v) (hO : zOk E.1 E.2.1 P G v) {x y z : Int32} : zM 288 [.ref 170, .int x, .int y, .int z] ph (fun v0 _ => v0 = some (.int (zXstorm (E.1 * E.2.1) x y z))) := by
  obtain ⟨Q, hQ⟩ : ∃ Q : Option Value → pm_H → Prop, Q = (fun v0 _ => v0 = some (.int (zXstorm (E.1 * E.2.1) x y z))) := ⟨_, rfl⟩
  rw [← hQ]
  refine zM_mk fun n D => ?_
  show zW n D 288 Q 0 [some (.ref 170), some (.int x), some (.int y), some (.int z), none, none, none, none, none, none] [] ph
  have c_0 : ((Int8.ofInt 10).toInt32).toInt = 10 := by decide +kernel
  have c_1 : ((Int8.ofInt 8).toInt32).toInt = 8 := by decide +kernel
  have c_2 : (Int32.ofInt (-1)).toInt = -1 := by decide +kernel
  have c_3 : (Int32.ofInt 0).toInt = 0 := by decide +kernel
  have c_4 : (Int32.ofInt 1).toInt = 1 := by decide +kernel
  have hA : (174 : Nat) = 174 ∨ (174 : Nat) = 175 := Or.inl rfl
  obtain ⟨R, C, rk, sn, sk, cn, cd⟩ := E
  have hL0 : zMl ph R C rk := hE.1
  have hR0 : zMr ph sn sk cn cd := hE.2.1
  have hcg : zcg cn cd := hE.2.2
  have hE0 : zMe ph (R, C, rk, sn, sk, cn, cd) := hE
  have hO0 : zOk R C P G v := hO
  have hN0 := hN
  have hL := hL0
  have hR := hR0
  obtain ⟨gR, gC, gK, hR3, hR7, hC3, hC7⟩ := hL
  have hRC := zRC49 hR7 hC7
  have tR := znt (k := R) (by omega)
  have tC := znt (k := C) (by omega)
  obtain ⟨gP, hP8, gG, hG8⟩ := hN
  have tP := znt (k := P) (by omega)
  have tG := znt (k := G) (by omega)
  obtain ⟨gsn, hs1, hs20, gsk, gcn, hc40, gcd⟩ := hR
  have tsn := znt (k := sn) (by omega)
  have tcn := znt (k := cn) (by omega)
  refine w_load (pc' := 1) (v := .ref 170) (m := 1) (ykc_288 (e := (2, .aload_n kF0, 0)) rfl) rfl rfl ?_
  refine w_alu (pc' := 2) (st' := [.int (Int32.ofInt 0), .ref 170]) (ykc_288 (e := (0, .iconst 0, 0)) rfl) rfl rfl ?_
  refine w_pf (pc' := 5) (ykc_288 (e := (5, .putfield 3, 0)) rfl) rfl rfl (fun ph1223 u1222 => ?_)
  have f0 : zFr [] [(170, 0)] ph ph1223 := zFr_st u1222 (Or.inr (by first | exact zqj rfl | simp))
  have hS1 := zSh_st u1222 (by decide +kernel) hS
  have hE1 : zMe ph1223 (R, C, rk, sn, sk, cn, cd) := ⟨zMl_F f0 (by first | exact zqp rfl | simp) (by first | exact zqp rfl | simp) (by first | exact (fun _ => zqr rfl) | simp) (by first | exact ⟨zqm rfl, zqm rfl⟩ | simp) hE0.1, zMr_F f0 (by first | exact zqp rfl | simp) (by first | exact zqp rfl | simp) (by first | exact (fun _ => ⟨zqr rfl, zqr rfl⟩) | simp) (by first | exact ⟨zqm rfl, zqm rfl, zqm rfl⟩ | simp) hE0.2.1, hE0.2.2⟩
  have hN1 := zMp_F f0 (by first | exact zqp rfl | simp) (by first | exact zqp rfl | simp) (by first | exact zqm rfl | simp) hN0
  have hv1 := zNr_F f0 (by first | exact (fun _ => zqr rfl) | simp) (by first | exact zqm rfl | simp) hv
  have hL1 : zMl ph1223 R C rk := hE1.1
  have hR1 : zMr ph1223 sn sk cn cd := hE1.2.1
  refine w_load (pc' := 6) (v := .ref 170) (m := 1) (ykc_288 (e := (2, .aload_n kF0, 0)) rfl) rfl rfl ?_
  refine w_load (pc' := 7) (v := .int x) (m := 1) (ykc_288 (e := (2, .iload_n kF1, 0)) rfl) rfl rfl ?_
  refine w_cv (as := [.ref 170, .int x]) (r := []) (ykc_288 (e := (6, .invokevirtual 358, 0)) rfl) rfl rfl rfl rfl (zm_isField hS1 hL1 (f := x)) (fun v1224 ph1225 hv => ?_)
  obtain ⟨rfl, rfl⟩ := hv
  show zW n D 288 Q 10 [some (.ref 170), some (.int x), some (.int y), some (.int z), none, none, none, none, none, none] [.int (zI (decide (0 ≤ x.toInt ∧ x.toInt < ((R * C : Nat) : Int))))] ph1223
  refine w_beq (ykc_288 (e := (4, .ifCond .eq 27, 37)) rfl) rfl (fun b1226 => ?_) (fun b1226 => ?_)
  · refine w_alu (pc' := 38) (st' := [.int (Int32.ofInt (-1))]) (ykc_288 (e := (0, .iconst (-1), 0)) rfl) rfl rfl ?_
    refine w_ret (v := (some (.int (Int32.ofInt (-1))))) (ykc_288 (e := (7, .ireturn, 0)) rfl) (zr_v rfl) ?_
    rw [hQ]
    exact zXstorm_n (n := R * C) (fun q => absurd q.1 (of_decide_eq_false b1226))
  · refine w_load (pc' := 14) (v := .int y) (m := 1) (ykc_288 (e := (2, .iload_n kF2, 0)) rfl) rfl rfl ?_
    refine w_alu (pc' := 15) (st' := [.long y.toInt64]) (ykc_288 (e := (0, .i2l, 0)) rfl) rfl rfl ?_
    refine w_alu (pc' := 16) (st' := [.long (Int64.ofNat kG0), .long y.toInt64]) (ykc_288 (e := (0, .lconst kG0, 0)) rfl) rfl rfl ?_
    refine w_push (pc' := 19) (v := .long (8 : Int64)) (m := 3) (ykc_288 (e := (1, .ldc2_w 457, 0)) rfl) rfl rfl ?_
    refine w_cs (as := [.long y.toInt64, .long (Int64.ofNat kG0), .long (8 : Int64)]) (r := []) (ykc_288 (e := (6, .invokestatic 126, 0)) rfl) rfl rfl rfl rfl (zm_in (x := y.toInt) (y := (0 : Int)) (z := (8 : Int)) (by first | exact ztl | (rw [ztl]; omega) | decide | omega) (by first | exact ztl | (rw [ztl]; omega) | decide | omega) (by first | exact ztl | (rw [ztl]; omega) | decide | omega)) (fun v1227 ph1228 hv => ?_)
    obtain ⟨rfl, rfl⟩ := hv
    show zW n D 288 Q 22 [some (.ref 170), some (.int x), some (.int y), some (.int z), none, none, none, none, none, none] [.int (zI (decide ((0 : Int) ≤ y.toInt ∧ y.toInt ≤ (8 : Int))))] ph1223
    refine w_beq (ykc_288 (e := (4, .ifCond .eq 15, 37)) rfl) rfl (fun b1229 => ?_) (fun b1229 => ?_)
    · refine w_alu (pc' := 38) (st' := [.int (Int32.ofInt (-1))]) (ykc_288 (e := (0, .iconst (-1), 0)) rfl) rfl rfl ?_
      refine w_ret (v := (some (.int (Int32.ofInt (-1))))) (ykc_288 (e := (7, .ireturn, 0)) rfl) (zr_v rfl) ?_
      rw [hQ]
      exact zXstorm_n (n := R * C) (fun q => absurd q.2.1 (of_decide_eq_false b1229))
    · refine w_load (pc' := 26) (v := .int z) (m := 1) (ykc_288 (e := (2, .iload_n kF3, 0)) rfl) rfl rfl ?_
      refine w_alu (pc' := 27) (st' := [.long z.toInt64]) (ykc_288 (e := (0, .i2l, 0)) rfl) rfl rfl ?_
      refine w_alu (pc' := 28) (st' := [.long (Int64.ofNat kG0), .long z.toInt64]) (ykc_288 (e := (0, .lconst kG0, 0)) rfl) rfl rfl ?_
      refine w_push (pc' := 31) (v := .long (10 : Int64)) (m := 3) (ykc_288 (e := (1, .ldc2_w 459, 0)) rfl) rfl rfl ?_
      refine w_cs (as := [.long z.toInt64, .long (Int64.ofNat kG0), .long (10 : Int64)]) (r := []) (ykc_288 (e := (6, .invokestatic 126, 0)) rfl) rfl rfl rfl rfl (zm_in (x := z.toInt) (y := (0 : Int)) (z := (10 : Int)) (by first | exact ztl | (rw [ztl]; omega) | decide | omega) (by first | exact ztl | (rw [ztl]; omega) | decide | omega) (by first | exact ztl | (rw [ztl]; omega) | decide | omega)) (fun v1230 ph1231 hv => ?_)
      obtain ⟨rfl, rfl⟩ := hv
      show zW n D 288 Q 34 [some (.ref 170), some (.int x), some (.int y), some (.int z), none, none, none, none, none, none] [.int (zI (decide ((0 : Int) ≤ z.toInt ∧ z.toInt ≤ (10 : Int))))] ph1223
      refine w_bne (ykc_288 (e := (4, .ifCond .ne 5, 39)) rfl) rfl (fun b1232 => ?_) (fun b1232 => ?_)
      · rw [hQ]
        exact zTail0 kc_288 39 289 (fun _ => rfl) (by decide +kernel) (by decide) (by decide) (by decide +kernel) (fun _ => zXstorm_p (n := R * C) ⟨of_decide_eq_true b1226, of_decide_eq_true b1229, of_decide_eq_true b1232⟩)
      · refine w_alu (pc' := 38) (st' := [.int (Int32.ofInt (-1))]) (ykc_288 (e := (0, .iconst (-1), 0)) rfl) rfl rfl ?_
        refine w_ret (v := (some (.int (Int32.ofInt (-1))))) (ykc_288 (e := (7, .ireturn, 0)) rfl) (zr_v rfl) ?_
        rw [hQ]
        exact zXstorm_n (n := R * C) (fun q => absurd q.2.2 (of_decide_eq_false b1232))