/-! what looks answer: bears, eighths; printed by wip/z/z3b_looks.py -/
theorem zc_viewF {ph : pm_H} {E : zEn} {F P G : Nat} {v : Nat → Nat} (hS : zSh ph) (hE : zCe ph E F) (ht : zCt ph 25 P G v) (hO : zOk E.1 E.2.1 P G v) (hr : zc ph 10 1 = some (.ref F)) (hc : zCc ph E.1 E.2.1 E.2.2.1) {p fc re : Nat} (hp : p < P) (hf : fc < 8) (hr9 : re ≤ 9) : zM 162 [.ref 0, .int (zn p), .int (zn fc), .int (zn re)] ph (fun v0 q => zCx ph q ∧ zCc q E.1 E.2.1 E.2.2.1 ∧ v0 = some (.long (zS (fun g => zsee E.2.1 E.2.2.1 (v p) g fc (v (16 + p)) re) (E.1 * E.2.1)))) := by
  obtain ⟨Q, hQ⟩ : ∃ Q : Option Value → pm_H → Prop, Q = (fun v0 q => zCx ph q ∧ zCc q E.1 E.2.1 E.2.2.1 ∧ v0 = some (.long (zS (fun g => zsee E.2.1 E.2.2.1 (v p) g fc (v (16 + p)) re) (E.1 * E.2.1)))) := ⟨_, rfl⟩
  rw [← hQ]
  refine zM_mk fun n D => ?_
  show zW n D 162 Q 0 [some (.ref 0), some (.int (zn p)), some (.int (zn fc)), some (.int (zn re))] [] ph
  obtain ⟨R, C, rk, sn, sk, cn, cd⟩ := E
  have hL0 : zCl ph R C rk := hE.1
  have hi0 : zCi ph sn sk := hE.2.1
  have hF : F = 11 ∨ F = 16 := hE.2.2.2
  have hE0 : zCe ph (R, C, rk, sn, sk, cn, cd) F := hE
  have hO0 : zOk R C P G v := hO
  have hL := hL0
  have hs := ht.1.2
  have hd := ht.2
  have h25 := ht.1.1
  obtain ⟨gR, gC, gN, gK, gA, hR3, hR7, hC3, hC7⟩ := hL
  have hRC := zRC49 hR7 hC7
  have tR := znt (k := R) (by omega)
  have tC := znt (k := C) (by omega)
  have tRC := znt (k := R * C) (by omega)
  have hd0 := hd
  have hs0 := hs
  obtain ⟨r3, r4, r5, r6, r7, l1, l2, l3, l4, l5⟩ := hs
  obtain ⟨gP, hP8, gG, hG8, gH, gv, gw⟩ := hd
  have tP := znt (k := P) (by omega)
  have tG := znt (k := G) (by omega)
  have h40 := hO0.2.2
  have t40 := znt (k := v 40) (by omega)
  have hc0 := hc
  have tp := znt (k := p) (by omega)
  have tfc := znt (k := fc) (by omega)
  have tre := znt (k := re) (by omega)
  have op := hO0.1 p hp
  refine w_load (pc' := 1) (v := .ref 0) (m := 1) (ykc_162 (e := (2, .aload_n kF0, 0)) rfl) rfl rfl ?_
  refine w_gf (pc' := 4) (v := .ref 25) (ykc_162 (e := (5, .getfield 42, 0)) rfl) rfl (zsg hS zs_0_4) rfl ?_
  refine w_load (pc' := 5) (v := .int (zn p)) (m := 1) (ykc_162 (e := (2, .iload_n kF1, 0)) rfl) rfl rfl ?_
  refine w_cv (as := [.ref 25, .int (zn p)]) (r := []) (ykc_162 (e := (6, .invokevirtual 167, 0)) rfl) rfl rfl rfl rfl (zc_hasP ht.1.2 ht.2 (i := (zn p))) (fun v1083 ph1084 hv => ?_)
  obtain ⟨rfl, rfl⟩ := hv
  show zW n D 162 Q 8 [some (.ref 0), some (.int (zn p)), some (.int (zn fc)), some (.int (zn re))] [.int (zI (decide (0 ≤ (zn p).toInt ∧ (zn p).toInt < ((P : Nat) : Int))))] ph
  refine w_bne (ykc_162 (e := (4, .ifCond .ne 5, 13)) rfl) rfl (fun b1085 => ?_) (fun q => by have := of_decide_eq_false q; omega)
  refine w_load (pc' := 14) (v := .ref 0) (m := 1) (ykc_162 (e := (2, .aload_n kF0, 0)) rfl) rfl rfl ?_
  refine w_gf (pc' := 17) (v := .ref 5) (ykc_162 (e := (5, .getfield 26, 0)) rfl) rfl (zsg hS zs_0_2) rfl ?_
  refine w_load (pc' := 18) (v := .ref 0) (m := 1) (ykc_162 (e := (2, .aload_n kF0, 0)) rfl) rfl rfl ?_
  refine w_gf (pc' := 21) (v := .ref 25) (ykc_162 (e := (5, .getfield 42, 0)) rfl) rfl (zsg hS zs_0_4) rfl ?_
  refine w_gf (pc' := 24) (v := .ref (25 + 1)) (ykc_162 (e := (5, .getfield 173, 0)) rfl) rfl r3 rfl ?_
  refine w_load (pc' := 25) (v := .int (zn p)) (m := 1) (ykc_162 (e := (2, .iload_n kF1, 0)) rfl) rfl rfl ?_
  have q1086 := hO0.1 p (by omega)
  have tq1086 := znt (k := v p) (by omega)
  refine w_ialk (pc' := 26) (k := p) (ykc_162 (e := (5, .iaload, 0)) rfl) (gv p (by omega)).1 (by omega) rfl ?_
  refine w_load (pc' := 27) (v := .int (zn fc)) (m := 1) (ykc_162 (e := (2, .iload_n kF2, 0)) rfl) rfl rfl ?_
  refine w_load (pc' := 28) (v := .ref 0) (m := 1) (ykc_162 (e := (2, .aload_n kF0, 0)) rfl) rfl rfl ?_
  refine w_gf (pc' := 31) (v := .ref 25) (ykc_162 (e := (5, .getfield 42, 0)) rfl) rfl (zsg hS zs_0_4) rfl ?_
  refine w_gf (pc' := 34) (v := .ref (25 + 3)) (ykc_162 (e := (5, .getfield 180, 0)) rfl) rfl r5 rfl ?_
  refine w_load (pc' := 35) (v := .int (zn p)) (m := 1) (ykc_162 (e := (2, .iload_n kF1, 0)) rfl) rfl rfl ?_
  have q1087 := hO0.1 p (by omega)
  have tq1087 := znt (k := v (16 + p)) (by omega)
  refine w_ialk (pc' := 36) (k := p) (ykc_162 (e := (5, .iaload, 0)) rfl) (gv p (by omega)).2.2.1 (by omega) rfl ?_
  refine w_load (pc' := 37) (v := .int (zn re)) (m := 1) (ykc_162 (e := (2, .iload_n kF3, 0)) rfl) rfl rfl ?_
  refine w_cv (as := [.ref 5, .int (zn (v p)), .int (zn fc), .int (zn (v (16 + p))), .int (zn re)]) (r := []) (ykc_162 (e := (6, .invokevirtual 368, 0)) rfl) rfl rfl rfl rfl (zc_view hS hL0 (f := v p) (fc := fc) (br := v (16 + p)) (re := re) hc0 (by omega) (by omega) (by omega) (by omega)) (fun v1090 ph1091 hv => ?_)
  obtain ⟨f1088, hc1089, rfl⟩ := hv
  show zW n D 162 Q 40 [some (.ref 0), some (.int (zn p)), some (.int (zn fc)), some (.int (zn re))] [.long (zS (fun g => zsee C rk (v p) g fc (v (16 + p)) re) (R * C))] ph1091
  refine w_ret (v := (some (.long (zS (fun g => zsee C rk (v p) g fc (v (16 + p)) re) (R * C))))) (ykc_162 (e := (7, .lreturn, 0)) rfl) (zr_v rfl) ?_
  rw [hQ]
  exact ⟨(zCy_x f1088), hc1089, rfl⟩
theorem zm_would {ph : pm_H} {E : zEn} {P G : Nat} {v : Nat → Nat} (hS : zSh ph) (hE : zMe ph E) (hN : zMp ph P G) (hv : zNr ph 174 0 v) (hO : zOk E.1 E.2.1 P G v) {p g fc : Nat} (hp : p < P) (hg : g < E.1 * E.2.1) (hf : fc < 8) : zM 271 [.ref 170, .int (zn p), .int (zn g), .int (zn fc)] ph (fun v0 q => zSc ph q ∧ v0 = some (.int (zI (zsee E.2.1 E.2.2.1 (v p) g fc (v (16 + p)) (zRe E P v p (v (16 + p))))))) := by
  obtain ⟨Q, hQ⟩ : ∃ Q : Option Value → pm_H → Prop, Q = (fun v0 q => zSc ph q ∧ v0 = some (.int (zI (zsee E.2.1 E.2.2.1 (v p) g fc (v (16 + p)) (zRe E P v p (v (16 + p))))))) := ⟨_, rfl⟩
  rw [← hQ]
  refine zM_mk fun n D => ?_
  show zW n D 271 Q 0 [some (.ref 170), some (.int (zn p)), some (.int (zn g)), some (.int (zn fc))] [] ph
  have c_0 : ((Int8.ofInt 16).toInt32).toInt = 16 := by decide
  have hA : (174 : Nat) = 174 ∨ (174 : Nat) = 175 := Or.inl rfl
  obtain ⟨R, C, rk, sn, sk, cn, cd⟩ := E
  have hL0 : zMl ph R C rk := hE.1
  have hR0 : zMr ph sn sk cn cd := hE.2.1
  have hcg : zcg cn cd := hE.2.2
  have hE0 : zMe ph (R, C, rk, sn, sk, cn, cd) := hE
  have hO0 : zOk R C P G v := hO
  have hN0 := hN
  have hL := hL0
  have hR := hR0
  obtain ⟨gR, gC, gK, hR3, hR7, hC3, hC7⟩ := hL
  have hRC := zRC49 hR7 hC7
  have tR := znt (k := R) (by omega)
  have tC := znt (k := C) (by omega)
  obtain ⟨gP, hP8, gG, hG8⟩ := hN
  have tP := znt (k := P) (by omega)
  have tG := znt (k := G) (by omega)
  obtain ⟨gsn, hs1, hs20, gsk, gcn, hc40, gcd⟩ := hR
  have tsn := znt (k := sn) (by omega)
  have tcn := znt (k := cn) (by omega)
  have hg0 : g < R * C := hg
  have tp := znt (k := p) (by omega)
  have tg := znt (k := g) (by omega)
  have tfc := znt (k := fc) (by omega)
  have op := hO0.1 p hp
  refine w_load (pc' := 1) (v := .ref 170) (m := 1) (ykc_271 (e := (2, .aload_n kF0, 0)) rfl) rfl rfl ?_
  refine w_load (pc' := 2) (v := .ref 170) (m := 1) (ykc_271 (e := (2, .aload_n kF0, 0)) rfl) rfl rfl ?_
  refine w_gf (pc' := 5) (v := .ref 174) (ykc_271 (e := (5, .getfield 41, 0)) rfl) rfl (zsg hS zs_170_11) rfl ?_
  refine w_load (pc' := 6) (v := .int (zn p)) (m := 1) (ykc_271 (e := (2, .iload_n kF1, 0)) rfl) rfl rfl ?_
  have q1092 := hO0.1 p (by omega)
  have tq1092 := znt (k := v p) (by omega)
  refine w_ialk (pc' := 7) (k := p) (ykc_271 (e := (5, .iaload, 0)) rfl) (zNr0 hv (i := p) (by omega)) (by omega) rfl ?_
  refine w_load (pc' := 8) (v := .int (zn g)) (m := 1) (ykc_271 (e := (2, .iload_n kF2, 0)) rfl) rfl rfl ?_
  refine w_load (pc' := 9) (v := .int (zn fc)) (m := 1) (ykc_271 (e := (2, .iload_n kF3, 0)) rfl) rfl rfl ?_
  refine w_load (pc' := 10) (v := .ref 170) (m := 1) (ykc_271 (e := (2, .aload_n kF0, 0)) rfl) rfl rfl ?_
  refine w_gf (pc' := 13) (v := .ref 174) (ykc_271 (e := (5, .getfield 41, 0)) rfl) rfl (zsg hS zs_170_11) rfl ?_
  refine w_push (pc' := 15) (v := .int ((Int8.ofInt 16).toInt32)) (m := 2) (ykc_271 (e := (1, .bipush 16, 0)) rfl) rfl rfl ?_
  refine w_load (pc' := 16) (v := .int (zn p)) (m := 1) (ykc_271 (e := (2, .iload_n kF1, 0)) rfl) rfl rfl ?_
  have e1093 : ((Int8.ofInt 16).toInt32) + (zn p) = zn (16 + p) := (zaddN (a := 16) (b := p) c_0 (znt (by omega)) (by omega)) 
  have te1093 := znt (k := 16 + p) (by omega)
  refine w_alu (pc' := 17) (st' := [.int (zn (16 + p)), .ref 174, .int (zn fc), .int (zn g), .int (zn (v p)), .ref 170]) (ykc_271 (e := (0, .iadd, 0)) rfl) (by rw [← e1093]; rfl) rfl ?_
  have q1094 := hO0.1 p (by omega)
  have tq1094 := znt (k := v (16 + p)) (by omega)
  refine w_ialk (pc' := 18) (k := 16 + p) (ykc_271 (e := (5, .iaload, 0)) rfl) (zNr0 hv (i := 16 + p) (by omega)) (by omega) rfl ?_
  refine w_load (pc' := 19) (v := .ref 170) (m := 1) (ykc_271 (e := (2, .aload_n kF0, 0)) rfl) rfl rfl ?_
  refine w_load (pc' := 20) (v := .ref 170) (m := 1) (ykc_271 (e := (2, .aload_n kF0, 0)) rfl) rfl rfl ?_
  refine w_gf (pc' := 23) (v := .ref 174) (ykc_271 (e := (5, .getfield 41, 0)) rfl) rfl (zsg hS zs_170_11) rfl ?_
  refine w_load (pc' := 24) (v := .int (zn p)) (m := 1) (ykc_271 (e := (2, .iload_n kF1, 0)) rfl) rfl rfl ?_
  refine w_load (pc' := 25) (v := .ref 170) (m := 1) (ykc_271 (e := (2, .aload_n kF0, 0)) rfl) rfl rfl ?_
  refine w_gf (pc' := 28) (v := .ref 174) (ykc_271 (e := (5, .getfield 41, 0)) rfl) rfl (zsg hS zs_170_11) rfl ?_
  refine w_push (pc' := 30) (v := .int ((Int8.ofInt 16).toInt32)) (m := 2) (ykc_271 (e := (1, .bipush 16, 0)) rfl) rfl rfl ?_
  refine w_load (pc' := 31) (v := .int (zn p)) (m := 1) (ykc_271 (e := (2, .iload_n kF1, 0)) rfl) rfl rfl ?_
  have e1095 : ((Int8.ofInt 16).toInt32) + (zn p) = zn (16 + p) := (zaddN (a := 16) (b := p) c_0 (znt (by omega)) (by omega)) 
  have te1095 := znt (k := 16 + p) (by omega)
  refine w_alu (pc' := 32) (st' := [.int (zn (16 + p)), .ref 174, .int (zn p), .ref 174, .ref 170, .int (zn (v (16 + p))), .int (zn fc), .int (zn g), .int (zn (v p)), .ref 170]) (ykc_271 (e := (0, .iadd, 0)) rfl) (by rw [← e1095]; rfl) rfl ?_
  have q1096 := hO0.1 p (by omega)
  have tq1096 := znt (k := v (16 + p)) (by omega)
  refine w_ialk (pc' := 33) (k := 16 + p) (ykc_271 (e := (5, .iaload, 0)) rfl) (zNr0 hv (i := 16 + p) (by omega)) (by omega) rfl ?_
  refine w_cv (as := [.ref 170, .ref 174, .int (zn p), .int (zn (v (16 + p)))]) (r := [.int (zn (v (16 + p))), .int (zn fc), .int (zn g), .int (zn (v p)), .ref 170]) (ykc_271 (e := (6, .invokevirtual 292, 0)) rfl) rfl rfl rfl rfl (zm_reach hS hE0 hN0 (⟨hA, hv⟩ : (174 = 174 ∨ 174 = 175) ∧ zNr ph 174 0 v).1 (⟨hA, hv⟩ : (174 = 174 ∨ 174 = 175) ∧ zNr ph 174 0 v).2 hO0 (p := p) (br := v (16 + p)) (by omega) (by omega)) (fun v1098 ph1099 hv => ?_)
  obtain ⟨f1097, rfl⟩ := hv
  have rf1097 := @zRe_9 (R, C, rk, sn, sk, cn, cd) P v p (v (16 + p))
  have trf1097 := znt (k := zRe (R, C, rk, sn, sk, cn, cd) P v p (v (16 + p))) (by omega)
  show zW n D 271 Q 36 [some (.ref 170), some (.int (zn p)), some (.int (zn g)), some (.int (zn fc))] [.int (zn (zRe (R, C, rk, sn, sk, cn, cd) P v p (v (16 + p)))), .int (zn (v (16 + p))), .int (zn fc), .int (zn g), .int (zn (v p)), .ref 170] ph1099
  refine w_cv (as := [.ref 170, .int (zn (v p)), .int (zn g), .int (zn fc), .int (zn (v (16 + p))), .int (zn (zRe (R, C, rk, sn, sk, cn, cd) P v p (v (16 + p))))]) (r := []) (ykc_271 (e := (6, .invokevirtual 296, 0)) rfl) rfl rfl rfl rfl (zm_sees (zSc_S f1097 hS) (zSc_l f1097 hL0) (a := v p) (g := g) (fc := fc) (br := v (16 + p)) (re := zRe (R, C, rk, sn, sk, cn, cd) P v p (v (16 + p))) (by omega) (by omega) (by omega) (by omega) (by omega) (by omega) (by omega) (by omega) (by omega)) (fun v1100 ph1101 hv => ?_)
  obtain ⟨rfl, rfl⟩ := hv
  show zW n D 271 Q 39 [some (.ref 170), some (.int (zn p)), some (.int (zn g)), some (.int (zn fc))] [.int (zI (zsee C rk (v p) g fc (v (16 + p)) (zRe (R, C, rk, sn, sk, cn, cd) P v p (v (16 + p)))))] ph1099
  refine w_ret (v := (some (.int (zI (zsee C rk (v p) g fc (v (16 + p)) (zRe (R, C, rk, sn, sk, cn, cd) P v p (v (16 + p)))))))) (ykc_271 (e := (7, .ireturn, 0)) rfl) zr_z ?_
  rw [hQ]
  exact ⟨f1097, rfl⟩