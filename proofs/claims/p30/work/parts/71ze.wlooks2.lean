/-! what looks answer: bears, eighths; printed by wip/z/z3b_looks.py -/
def zXe (f : Nat → Bool) (fc : Nat) : Nat → Nat
  | 0 => 99
  | k + 1 => if ze8 fc k < zXe f fc k ∧ f k = true then ze8 fc k else zXe f fc k
theorem zXe_t {f : Nat → Bool} {fc k : Nat} (h1 : ze8 fc k < zXe f fc k) (h2 : f k = true) : zXe f fc (k + 1) = ze8 fc k := if_pos ⟨h1, h2⟩
theorem zXe_f {f : Nat → Bool} {fc k : Nat} (h : ¬ (ze8 fc k < zXe f fc k ∧ f k = true)) : zXe f fc (k + 1) = zXe f fc k := if_neg h
def zXeig (E : zEn) (P : Nat) (v : Nat → Nat) (x y : Int32) : Int32 := if ((0 ≤ x.toInt ∧ x.toInt < (P : Int)) ∧ (0 ≤ y.toInt ∧ y.toInt < ((E.1 * E.2.1 : Nat) : Int))) then (if zXe (fun k => zsee E.2.1 E.2.2.1 (v x.toInt.toNat) y.toInt.toNat k (v (16 + x.toInt.toNat)) (zRe E P v x.toInt.toNat (v (16 + x.toInt.toNat)))) (v (8 + x.toInt.toNat)) 8 = 99 then (Int8.ofInt (-2)).toInt32 else zn (zXe (fun k => zsee E.2.1 E.2.2.1 (v x.toInt.toNat) y.toInt.toNat k (v (16 + x.toInt.toNat)) (zRe E P v x.toInt.toNat (v (16 + x.toInt.toNat)))) (v (8 + x.toInt.toNat)) 8)) else Int32.ofInt (-1)
theorem zXeig_n {E : zEn} {P : Nat} {v : Nat → Nat} {x y : Int32} (h : ¬ ((0 ≤ x.toInt ∧ x.toInt < (P : Int)) ∧ (0 ≤ y.toInt ∧ y.toInt < ((E.1 * E.2.1 : Nat) : Int)))) : (some (.int (Int32.ofInt (-1))) : Option Value) = some (.int (zXeig E P v x y)) := by
  unfold zXeig
  rw [if_neg h]
theorem zXeig_p {E : zEn} {P p g : Nat} {v : Nat → Nat} {z : Int32} (hp : p < P) (hP : P ≤ 8) (hg : g < E.1 * E.2.1) (hn : E.1 * E.2.1 ≤ 64) (h : (if zXe (fun k => zsee E.2.1 E.2.2.1 (v p) g k (v (16 + p)) (zRe E P v p (v (16 + p)))) (v (8 + p)) 8 = 99 then (Int8.ofInt (-2)).toInt32 else zn (zXe (fun k => zsee E.2.1 E.2.2.1 (v p) g k (v (16 + p)) (zRe E P v p (v (16 + p)))) (v (8 + p)) 8)) = z) : (some (.int z) : Option Value) = some (.int (zXeig E P v (zn p) (zn g))) := by
  have t := znt (k := p) (by omega)
  have t2 := znt (k := g) (by omega)
  unfold zXeig
  rw [if_pos ⟨⟨by omega, by omega⟩, ⟨by omega, by omega⟩⟩, show (zn p).toInt.toNat = p by omega, show (zn g).toInt.toNat = g by omega, h]
theorem zc_viewF {ph : pm_H} {E : zEn} {F P G : Nat} {v : Nat → Nat} (hS : zSh ph) (hE : zCe ph E F) (ht : zCt ph 25 P G v) (hO : zOk E.1 E.2.1 P G v) (hr : zc ph 10 1 = some (.ref F)) (hc : zCc ph E.1 E.2.1 E.2.2.1) {p fc re : Nat} (hp : p < P) (hf : fc < 8) (hr9 : re ≤ 9) : zM 162 [.ref 0, .int (zn p), .int (zn fc), .int (zn re)] ph (fun v0 q => zCx ph q ∧ zCc q E.1 E.2.1 E.2.2.1 ∧ v0 = some (.long (zS (fun g => zsee E.2.1 E.2.2.1 (v p) g fc (v (16 + p)) re) (E.1 * E.2.1)))) := by
  obtain ⟨Q, hQ⟩ : ∃ Q : Option Value → pm_H → Prop, Q = (fun v0 q => zCx ph q ∧ zCc q E.1 E.2.1 E.2.2.1 ∧ v0 = some (.long (zS (fun g => zsee E.2.1 E.2.2.1 (v p) g fc (v (16 + p)) re) (E.1 * E.2.1)))) := ⟨_, rfl⟩
  rw [← hQ]
  refine zM_mk fun n D => ?_
  show zW n D 162 Q 0 [some (.ref 0), some (.int (zn p)), some (.int (zn fc)), some (.int (zn re))] [] ph
  obtain ⟨R, C, rk, sn, sk, cn, cd⟩ := E
  have hL0 : zCl ph R C rk := hE.1
  have hi0 : zCi ph sn sk := hE.2.1
  have hF : F = 11 ∨ F = 16 := hE.2.2.2
  have hE0 : zCe ph (R, C, rk, sn, sk, cn, cd) F := hE
  have hO0 : zOk R C P G v := hO
  have hL := hL0
  have hs := ht.1.2
  have hd := ht.2
  have h25 := ht.1.1
  obtain ⟨gR, gC, gN, gK, gA, hR3, hR7, hC3, hC7⟩ := hL
  have hRC := zRC49 hR7 hC7
  have tR := znt (k := R) (by omega)
  have tC := znt (k := C) (by omega)
  have tRC := znt (k := R * C) (by omega)
  have hd0 := hd
  have hs0 := hs
  obtain ⟨r3, r4, r5, r6, r7, l1, l2, l3, l4, l5⟩ := hs
  obtain ⟨gP, hP8, gG, hG8, gH, gv, gw⟩ := hd
  have tP := znt (k := P) (by omega)
  have tG := znt (k := G) (by omega)
  have h40 := hO0.2.2
  have t40 := znt (k := v 40) (by omega)
  have hc0 := hc
  have tp := znt (k := p) (by omega)
  have tfc := znt (k := fc) (by omega)
  have tre := znt (k := re) (by omega)
  have op := hO0.1 p hp
  refine w_load (pc' := 1) (v := .ref 0) (m := 1) (ykc_162 (e := (2, .aload_n kF0, 0)) rfl) rfl rfl ?_
  refine w_gf (pc' := 4) (v := .ref 25) (ykc_162 (e := (5, .getfield 42, 0)) rfl) rfl (zsg hS zs_0_4) rfl ?_
  refine w_load (pc' := 5) (v := .int (zn p)) (m := 1) (ykc_162 (e := (2, .iload_n kF1, 0)) rfl) rfl rfl ?_
  refine w_cv (as := [.ref 25, .int (zn p)]) (r := []) (ykc_162 (e := (6, .invokevirtual 167, 0)) rfl) rfl rfl rfl rfl (zc_hasP ht.1.2 ht.2 (i := (zn p))) (fun v1083 ph1084 hv => ?_)
  obtain ⟨rfl, rfl⟩ := hv
  show zW n D 162 Q 8 [some (.ref 0), some (.int (zn p)), some (.int (zn fc)), some (.int (zn re))] [.int (zI (decide (0 ≤ (zn p).toInt ∧ (zn p).toInt < ((P : Nat) : Int))))] ph
  refine w_bne (ykc_162 (e := (4, .ifCond .ne 5, 13)) rfl) rfl (fun b1085 => ?_) (fun q => by have := of_decide_eq_false q; omega)
  refine w_load (pc' := 14) (v := .ref 0) (m := 1) (ykc_162 (e := (2, .aload_n kF0, 0)) rfl) rfl rfl ?_
  refine w_gf (pc' := 17) (v := .ref 5) (ykc_162 (e := (5, .getfield 26, 0)) rfl) rfl (zsg hS zs_0_2) rfl ?_
  refine w_load (pc' := 18) (v := .ref 0) (m := 1) (ykc_162 (e := (2, .aload_n kF0, 0)) rfl) rfl rfl ?_
  refine w_gf (pc' := 21) (v := .ref 25) (ykc_162 (e := (5, .getfield 42, 0)) rfl) rfl (zsg hS zs_0_4) rfl ?_
  refine w_gf (pc' := 24) (v := .ref (25 + 1)) (ykc_162 (e := (5, .getfield 173, 0)) rfl) rfl r3 rfl ?_
  refine w_load (pc' := 25) (v := .int (zn p)) (m := 1) (ykc_162 (e := (2, .iload_n kF1, 0)) rfl) rfl rfl ?_
  have q1086 := hO0.1 p (by omega)
  have tq1086 := znt (k := v p) (by omega)
  refine w_ialk (pc' := 26) (k := p) (ykc_162 (e := (5, .iaload, 0)) rfl) (gv p (by omega)).1 (by omega) rfl ?_
  refine w_load (pc' := 27) (v := .int (zn fc)) (m := 1) (ykc_162 (e := (2, .iload_n kF2, 0)) rfl) rfl rfl ?_
  refine w_load (pc' := 28) (v := .ref 0) (m := 1) (ykc_162 (e := (2, .aload_n kF0, 0)) rfl) rfl rfl ?_
  refine w_gf (pc' := 31) (v := .ref 25) (ykc_162 (e := (5, .getfield 42, 0)) rfl) rfl (zsg hS zs_0_4) rfl ?_
  refine w_gf (pc' := 34) (v := .ref (25 + 3)) (ykc_162 (e := (5, .getfield 180, 0)) rfl) rfl r5 rfl ?_
  refine w_load (pc' := 35) (v := .int (zn p)) (m := 1) (ykc_162 (e := (2, .iload_n kF1, 0)) rfl) rfl rfl ?_
  have q1087 := hO0.1 p (by omega)
  have tq1087 := znt (k := v (16 + p)) (by omega)
  refine w_ialk (pc' := 36) (k := p) (ykc_162 (e := (5, .iaload, 0)) rfl) (gv p (by omega)).2.2.1 (by omega) rfl ?_
  refine w_load (pc' := 37) (v := .int (zn re)) (m := 1) (ykc_162 (e := (2, .iload_n kF3, 0)) rfl) rfl rfl ?_
  refine w_cv (as := [.ref 5, .int (zn (v p)), .int (zn fc), .int (zn (v (16 + p))), .int (zn re)]) (r := []) (ykc_162 (e := (6, .invokevirtual 368, 0)) rfl) rfl rfl rfl rfl (zc_view hS hL0 (f := v p) (fc := fc) (br := v (16 + p)) (re := re) hc0 (by omega) (by omega) (by omega) (by omega)) (fun v1090 ph1091 hv => ?_)
  obtain ⟨f1088, hc1089, rfl⟩ := hv
  show zW n D 162 Q 40 [some (.ref 0), some (.int (zn p)), some (.int (zn fc)), some (.int (zn re))] [.long (zS (fun g => zsee C rk (v p) g fc (v (16 + p)) re) (R * C))] ph1091
  refine w_ret (v := (some (.long (zS (fun g => zsee C rk (v p) g fc (v (16 + p)) re) (R * C))))) (ykc_162 (e := (7, .lreturn, 0)) rfl) (zr_v rfl) ?_
  rw [hQ]
  exact ⟨(zCy_x f1088), hc1089, rfl⟩
theorem zm_would {ph : pm_H} {E : zEn} {P G : Nat} {v : Nat → Nat} (hS : zSh ph) (hE : zMe ph E) (hN : zMp ph P G) (hv : zNr ph 174 0 v) (hO : zOk E.1 E.2.1 P G v) {p g fc : Nat} (hp : p < P) (hg : g < E.1 * E.2.1) (hf : fc < 8) : zM 271 [.ref 170, .int (zn p), .int (zn g), .int (zn fc)] ph (fun v0 q => zSc ph q ∧ v0 = some (.int (zI (zsee E.2.1 E.2.2.1 (v p) g fc (v (16 + p)) (zRe E P v p (v (16 + p))))))) := by
  obtain ⟨Q, hQ⟩ : ∃ Q : Option Value → pm_H → Prop, Q = (fun v0 q => zSc ph q ∧ v0 = some (.int (zI (zsee E.2.1 E.2.2.1 (v p) g fc (v (16 + p)) (zRe E P v p (v (16 + p))))))) := ⟨_, rfl⟩
  rw [← hQ]
  refine zM_mk fun n D => ?_
  show zW n D 271 Q 0 [some (.ref 170), some (.int (zn p)), some (.int (zn g)), some (.int (zn fc))] [] ph
  have c_0 : ((Int8.ofInt 16).toInt32).toInt = 16 := by decide
  have hA : (174 : Nat) = 174 ∨ (174 : Nat) = 175 := Or.inl rfl
  obtain ⟨R, C, rk, sn, sk, cn, cd⟩ := E
  have hL0 : zMl ph R C rk := hE.1
  have hR0 : zMr ph sn sk cn cd := hE.2.1
  have hcg : zcg cn cd := hE.2.2
  have hE0 : zMe ph (R, C, rk, sn, sk, cn, cd) := hE
  have hO0 : zOk R C P G v := hO
  have hN0 := hN
  have hL := hL0
  have hR := hR0
  obtain ⟨gR, gC, gK, hR3, hR7, hC3, hC7⟩ := hL
  have hRC := zRC49 hR7 hC7
  have tR := znt (k := R) (by omega)
  have tC := znt (k := C) (by omega)
  obtain ⟨gP, hP8, gG, hG8⟩ := hN
  have tP := znt (k := P) (by omega)
  have tG := znt (k := G) (by omega)
  obtain ⟨gsn, hs1, hs20, gsk, gcn, hc40, gcd⟩ := hR
  have tsn := znt (k := sn) (by omega)
  have tcn := znt (k := cn) (by omega)
  have hg0 : g < R * C := hg
  have tp := znt (k := p) (by omega)
  have tg := znt (k := g) (by omega)
  have tfc := znt (k := fc) (by omega)
  have op := hO0.1 p hp
  refine w_load (pc' := 1) (v := .ref 170) (m := 1) (ykc_271 (e := (2, .aload_n kF0, 0)) rfl) rfl rfl ?_
  refine w_load (pc' := 2) (v := .ref 170) (m := 1) (ykc_271 (e := (2, .aload_n kF0, 0)) rfl) rfl rfl ?_
  refine w_gf (pc' := 5) (v := .ref 174) (ykc_271 (e := (5, .getfield 41, 0)) rfl) rfl (zsg hS zs_170_11) rfl ?_
  refine w_load (pc' := 6) (v := .int (zn p)) (m := 1) (ykc_271 (e := (2, .iload_n kF1, 0)) rfl) rfl rfl ?_
  have q1092 := hO0.1 p (by omega)
  have tq1092 := znt (k := v p) (by omega)
  refine w_ialk (pc' := 7) (k := p) (ykc_271 (e := (5, .iaload, 0)) rfl) (zNr0 hv (i := p) (by omega)) (by omega) rfl ?_
  refine w_load (pc' := 8) (v := .int (zn g)) (m := 1) (ykc_271 (e := (2, .iload_n kF2, 0)) rfl) rfl rfl ?_
  refine w_load (pc' := 9) (v := .int (zn fc)) (m := 1) (ykc_271 (e := (2, .iload_n kF3, 0)) rfl) rfl rfl ?_
  refine w_load (pc' := 10) (v := .ref 170) (m := 1) (ykc_271 (e := (2, .aload_n kF0, 0)) rfl) rfl rfl ?_
  refine w_gf (pc' := 13) (v := .ref 174) (ykc_271 (e := (5, .getfield 41, 0)) rfl) rfl (zsg hS zs_170_11) rfl ?_
  refine w_push (pc' := 15) (v := .int ((Int8.ofInt 16).toInt32)) (m := 2) (ykc_271 (e := (1, .bipush 16, 0)) rfl) rfl rfl ?_
  refine w_load (pc' := 16) (v := .int (zn p)) (m := 1) (ykc_271 (e := (2, .iload_n kF1, 0)) rfl) rfl rfl ?_
  have e1093 : ((Int8.ofInt 16).toInt32) + (zn p) = zn (16 + p) := (zaddN (a := 16) (b := p) c_0 (znt (by omega)) (by omega)) 
  have te1093 := znt (k := 16 + p) (by omega)
  refine w_alu (pc' := 17) (st' := [.int (zn (16 + p)), .ref 174, .int (zn fc), .int (zn g), .int (zn (v p)), .ref 170]) (ykc_271 (e := (0, .iadd, 0)) rfl) (by rw [← e1093]; rfl) rfl ?_
  have q1094 := hO0.1 p (by omega)
  have tq1094 := znt (k := v (16 + p)) (by omega)
  refine w_ialk (pc' := 18) (k := 16 + p) (ykc_271 (e := (5, .iaload, 0)) rfl) (zNr0 hv (i := 16 + p) (by omega)) (by omega) rfl ?_
  refine w_load (pc' := 19) (v := .ref 170) (m := 1) (ykc_271 (e := (2, .aload_n kF0, 0)) rfl) rfl rfl ?_
  refine w_load (pc' := 20) (v := .ref 170) (m := 1) (ykc_271 (e := (2, .aload_n kF0, 0)) rfl) rfl rfl ?_
  refine w_gf (pc' := 23) (v := .ref 174) (ykc_271 (e := (5, .getfield 41, 0)) rfl) rfl (zsg hS zs_170_11) rfl ?_
  refine w_load (pc' := 24) (v := .int (zn p)) (m := 1) (ykc_271 (e := (2, .iload_n kF1, 0)) rfl) rfl rfl ?_
  refine w_load (pc' := 25) (v := .ref 170) (m := 1) (ykc_271 (e := (2, .aload_n kF0, 0)) rfl) rfl rfl ?_
  refine w_gf (pc' := 28) (v := .ref 174) (ykc_271 (e := (5, .getfield 41, 0)) rfl) rfl (zsg hS zs_170_11) rfl ?_
  refine w_push (pc' := 30) (v := .int ((Int8.ofInt 16).toInt32)) (m := 2) (ykc_271 (e := (1, .bipush 16, 0)) rfl) rfl rfl ?_
  refine w_load (pc' := 31) (v := .int (zn p)) (m := 1) (ykc_271 (e := (2, .iload_n kF1, 0)) rfl) rfl rfl ?_
  have e1095 : ((Int8.ofInt 16).toInt32) + (zn p) = zn (16 + p) := (zaddN (a := 16) (b := p) c_0 (znt (by omega)) (by omega)) 
  have te1095 := znt (k := 16 + p) (by omega)
  refine w_alu (pc' := 32) (st' := [.int (zn (16 + p)), .ref 174, .int (zn p), .ref 174, .ref 170, .int (zn (v (16 + p))), .int (zn fc), .int (zn g), .int (zn (v p)), .ref 170]) (ykc_271 (e := (0, .iadd, 0)) rfl) (by rw [← e1095]; rfl) rfl ?_
  have q1096 := hO0.1 p (by omega)
  have tq1096 := znt (k := v (16 + p)) (by omega)
  refine w_ialk (pc' := 33) (k := 16 + p) (ykc_271 (e := (5, .iaload, 0)) rfl) (zNr0 hv (i := 16 + p) (by omega)) (by omega) rfl ?_
  refine w_cv (as := [.ref 170, .ref 174, .int (zn p), .int (zn (v (16 + p)))]) (r := [.int (zn (v (16 + p))), .int (zn fc), .int (zn g), .int (zn (v p)), .ref 170]) (ykc_271 (e := (6, .invokevirtual 292, 0)) rfl) rfl rfl rfl rfl (zm_reach hS hE0 hN0 (⟨hA, hv⟩ : (174 = 174 ∨ 174 = 175) ∧ zNr ph 174 0 v).1 (⟨hA, hv⟩ : (174 = 174 ∨ 174 = 175) ∧ zNr ph 174 0 v).2 hO0 (p := p) (br := v (16 + p)) (by omega) (by omega)) (fun v1098 ph1099 hv => ?_)
  obtain ⟨f1097, rfl⟩ := hv
  have rf1097 := @zRe_9 (R, C, rk, sn, sk, cn, cd) P v p (v (16 + p))
  have trf1097 := znt (k := zRe (R, C, rk, sn, sk, cn, cd) P v p (v (16 + p))) (by omega)
  show zW n D 271 Q 36 [some (.ref 170), some (.int (zn p)), some (.int (zn g)), some (.int (zn fc))] [.int (zn (zRe (R, C, rk, sn, sk, cn, cd) P v p (v (16 + p)))), .int (zn (v (16 + p))), .int (zn fc), .int (zn g), .int (zn (v p)), .ref 170] ph1099
  refine w_cv (as := [.ref 170, .int (zn (v p)), .int (zn g), .int (zn fc), .int (zn (v (16 + p))), .int (zn (zRe (R, C, rk, sn, sk, cn, cd) P v p (v (16 + p))))]) (r := []) (ykc_271 (e := (6, .invokevirtual 296, 0)) rfl) rfl rfl rfl rfl (zm_sees (zSc_S f1097 hS) (zSc_l f1097 hL0) (a := v p) (g := g) (fc := fc) (br := v (16 + p)) (re := zRe (R, C, rk, sn, sk, cn, cd) P v p (v (16 + p))) (by omega) (by omega) (by omega) (by omega) (by omega) (by omega) (by omega) (by omega) (by omega)) (fun v1100 ph1101 hv => ?_)
  obtain ⟨rfl, rfl⟩ := hv
  show zW n D 271 Q 39 [some (.ref 170), some (.int (zn p)), some (.int (zn g)), some (.int (zn fc))] [.int (zI (zsee C rk (v p) g fc (v (16 + p)) (zRe (R, C, rk, sn, sk, cn, cd) P v p (v (16 + p)))))] ph1099
  refine w_ret (v := (some (.int (zI (zsee C rk (v p) g fc (v (16 + p)) (zRe (R, C, rk, sn, sk, cn, cd) P v p (v (16 + p)))))))) (ykc_271 (e := (7, .ireturn, 0)) rfl) zr_z ?_
  rw [hQ]
  exact ⟨f1097, rfl⟩
theorem zc_eigX {ph : pm_H} {E : zEn} {F P G : Nat} {v : Nat → Nat} (hS : zSh ph) (hE : zCe ph E F) (ht : zCt ph 25 P G v) (hO : zOk E.1 E.2.1 P G v) (hr : zc ph 10 1 = some (.ref F)) (hc : zCc ph E.1 E.2.1 E.2.2.1) {x y : Int32} : zM 158 [.ref 0, .int x, .int y] ph (fun v0 _ => v0 = some (.int (zXeig E P v x y))) := by
  obtain ⟨Q, hQ⟩ : ∃ Q : Option Value → pm_H → Prop, Q = (fun v0 _ => v0 = some (.int (zXeig E P v x y))) := ⟨_, rfl⟩
  rw [← hQ]
  refine zM_mk fun n D => ?_
  show zW n D 158 Q 0 [some (.ref 0), some (.int x), some (.int y), none, none, none, none, none] [] ph
  have c_0 : ((Int8.ofInt (-2)).toInt32).toInt = -2 := by decide
  have c_1 : ((Int8.ofInt 8).toInt32).toInt = 8 := by decide
  have c_2 : (Int32.ofInt (-1)).toInt = -1 := by decide
  have c_3 : (Int32.ofInt 0).toInt = 0 := by decide
  have c_4 : (Int32.ofInt 1).toInt = 1 := by decide
  obtain ⟨R, C, rk, sn, sk, cn, cd⟩ := E
  have hL0 : zCl ph R C rk := hE.1
  have hi0 : zCi ph sn sk := hE.2.1
  have hF : F = 11 ∨ F = 16 := hE.2.2.2
  have hE0 : zCe ph (R, C, rk, sn, sk, cn, cd) F := hE
  have hO0 : zOk R C P G v := hO
  have hL := hL0
  have hs := ht.1.2
  have hd := ht.2
  have h25 := ht.1.1
  obtain ⟨gR, gC, gN, gK, gA, hR3, hR7, hC3, hC7⟩ := hL
  have hRC := zRC49 hR7 hC7
  have tR := znt (k := R) (by omega)
  have tC := znt (k := C) (by omega)
  have tRC := znt (k := R * C) (by omega)
  have hd0 := hd
  have hs0 := hs
  obtain ⟨r3, r4, r5, r6, r7, l1, l2, l3, l4, l5⟩ := hs
  obtain ⟨gP, hP8, gG, hG8, gH, gv, gw⟩ := hd
  have tP := znt (k := P) (by omega)
  have tG := znt (k := G) (by omega)
  have h40 := hO0.2.2
  have t40 := znt (k := v 40) (by omega)
  have hc0 := hc
  refine w_load (pc' := 1) (v := .ref 0) (m := 1) (ykc_158 (e := (2, .aload_n kF0, 0)) rfl) rfl rfl ?_
  refine w_gf (pc' := 4) (v := .ref 25) (ykc_158 (e := (5, .getfield 42, 0)) rfl) rfl (zsg hS zs_0_4) rfl ?_
  refine w_load (pc' := 5) (v := .int x) (m := 1) (ykc_158 (e := (2, .iload_n kF1, 0)) rfl) rfl rfl ?_
  refine w_cv (as := [.ref 25, .int x]) (r := []) (ykc_158 (e := (6, .invokevirtual 167, 0)) rfl) rfl rfl rfl rfl (zc_hasP ht.1.2 ht.2 (i := x)) (fun v1102 ph1103 hv => ?_)
  obtain ⟨rfl, rfl⟩ := hv
  show zW n D 158 Q 8 [some (.ref 0), some (.int x), some (.int y), none, none, none, none, none] [.int (zI (decide (0 ≤ x.toInt ∧ x.toInt < ((P : Nat) : Int))))] ph
  refine w_beq (ykc_158 (e := (4, .ifCond .eq 14, 22)) rfl) rfl (fun b1104 => ?_) (fun b1104 => ?_)
  · refine w_alu (pc' := 23) (st' := [.int (Int32.ofInt (-1))]) (ykc_158 (e := (0, .iconst (-1), 0)) rfl) rfl rfl ?_
    refine w_ret (v := (some (.int (Int32.ofInt (-1))))) (ykc_158 (e := (7, .ireturn, 0)) rfl) (zr_v rfl) ?_
    rw [hQ]
    exact zXeig_n (fun q => absurd q.1 (of_decide_eq_false b1104))
  · refine w_load (pc' := 12) (v := .ref 0) (m := 1) (ykc_158 (e := (2, .aload_n kF0, 0)) rfl) rfl rfl ?_
    refine w_gf (pc' := 15) (v := .ref 5) (ykc_158 (e := (5, .getfield 26, 0)) rfl) rfl (zsg hS zs_0_2) rfl ?_
    refine w_load (pc' := 16) (v := .int y) (m := 1) (ykc_158 (e := (2, .iload_n kF2, 0)) rfl) rfl rfl ?_
    refine w_cv (as := [.ref 5, .int y]) (r := []) (ykc_158 (e := (6, .invokevirtual 302, 0)) rfl) rfl rfl rfl rfl (zc_holds hS hL0 (f := y)) (fun v1105 ph1106 hv => ?_)
    obtain ⟨rfl, rfl⟩ := hv
    show zW n D 158 Q 19 [some (.ref 0), some (.int x), some (.int y), none, none, none, none, none] [.int (zI (decide (0 ≤ y.toInt ∧ y.toInt < ((R * C : Nat) : Int))))] ph
    refine w_bne (ykc_158 (e := (4, .ifCond .ne 5, 24)) rfl) rfl (fun b1107 => ?_) (fun b1107 => ?_)
    · have b_p := of_decide_eq_true b1104
      obtain ⟨p, h_p, rfl⟩ : ∃ p : Nat, p < P ∧ x = zn p := ⟨x.toInt.toNat, by omega, zn_of (by omega)⟩
      have t_p := znt (k := p) (by omega)
      have op := hO0.1 p h_p
      have tvp := znt (k := v p) (by omega)
      have tvf := znt (k := v (8 + p)) (by omega)
      have tvb := znt (k := v (16 + p)) (by omega)
      have b_g := of_decide_eq_true b1107
      obtain ⟨g, h_g, rfl⟩ : ∃ g : Nat, g < R * C ∧ y = zn g := ⟨y.toInt.toNat, by omega, zn_of (by omega)⟩
      have t_g := znt (k := g) (by omega)
      show zW n D 158 Q 24 [some (.ref 0), some (.int (zn p)), some (.int (zn g)), none, none, none, none, none] [] ph
      refine w_load (pc' := 25) (v := .ref 0) (m := 1) (ykc_158 (e := (2, .aload_n kF0, 0)) rfl) rfl rfl ?_
      refine w_gf (pc' := 28) (v := .ref 10) (ykc_158 (e := (5, .getfield 35, 0)) rfl) rfl (zsg hS zs_0_3) rfl ?_
      refine w_load (pc' := 29) (v := .ref 0) (m := 1) (ykc_158 (e := (2, .aload_n kF0, 0)) rfl) rfl rfl ?_
      refine w_gf (pc' := 32) (v := .ref 25) (ykc_158 (e := (5, .getfield 42, 0)) rfl) rfl (zsg hS zs_0_4) rfl ?_
      refine w_load (pc' := 33) (v := .int (zn p)) (m := 1) (ykc_158 (e := (2, .iload_n kF1, 0)) rfl) rfl rfl ?_
      refine w_cv (as := [.ref 10, .ref 25, .int (zn p)]) (r := []) (ykc_158 (e := (6, .invokevirtual 186, 0)) rfl) rfl rfl rfl rfl (zc_reachP hS hE0 ht hO0 hr (p := p) (by omega)) (fun v1109 ph1110 hv => ?_)
      obtain ⟨f1108, rfl⟩ := hv
      show zW n D 158 Q 36 [some (.ref 0), some (.int (zn p)), some (.int (zn g)), none, none, none, none, none] [.int (zn (zRe (R, C, rk, sn, sk, cn, cd) P v p (v (16 + p))))] ph1110
      refine w_store (pc' := 37) (L' := [some (.ref 0), some (.int (zn p)), some (.int (zn g)), some (.int (zn (zRe (R, C, rk, sn, sk, cn, cd) P v p (v (16 + p))))), none, none, none, none]) (st' := []) (m := 1) (ykc_158 (e := (3, .istore_n kF3, 0)) rfl) rfl rfl ?_
      refine w_push (pc' := 39) (v := .int ((Int8.ofInt 8).toInt32)) (m := 2) (ykc_158 (e := (1, .bipush 8, 0)) rfl) rfl rfl ?_
      refine w_store (pc' := 41) (L' := [some (.ref 0), some (.int (zn p)), some (.int (zn g)), some (.int (zn (zRe (R, C, rk, sn, sk, cn, cd) P v p (v (16 + p))))), some (.int ((Int8.ofInt 8).toInt32)), none, none, none]) (st' := []) (m := 2) (ykc_158 (e := (3, .istore 4, 0)) rfl) rfl rfl ?_
      refine w_alu (pc' := 42) (st' := [.int (Int32.ofInt (-1))]) (ykc_158 (e := (0, .iconst (-1), 0)) rfl) rfl rfl ?_
      refine w_store (pc' := 44) (L' := [some (.ref 0), some (.int (zn p)), some (.int (zn g)), some (.int (zn (zRe (R, C, rk, sn, sk, cn, cd) P v p (v (16 + p))))), some (.int ((Int8.ofInt 8).toInt32)), some (.int (Int32.ofInt (-1))), none, none]) (st' := []) (m := 2) (ykc_158 (e := (3, .istore 5, 0)) rfl) rfl rfl ?_
      refine w_alu (pc' := 45) (st' := [.int (Int32.ofInt 0)]) (ykc_158 (e := (0, .iconst 0, 0)) rfl) rfl rfl ?_
      refine w_store (pc' := 47) (L' := [some (.ref 0), some (.int (zn p)), some (.int (zn g)), some (.int (zn (zRe (R, C, rk, sn, sk, cn, cd) P v p (v (16 + p))))), some (.int ((Int8.ofInt 8).toInt32)), some (.int (Int32.ofInt (-1))), some (.int (Int32.ofInt 0)), none]) (st' := []) (m := 2) (ykc_158 (e := (3, .istore 6, 0)) rfl) rfl rfl ?_
      have hRe : zRe (R, C, rk, sn, sk, cn, cd) P v p (v (16 + p)) ≤ 9 := zRe_9
      have hl : ∀ (n : Nat), ∀ (k : Nat) (b d : Int32) (o7 : Option Value) (ph1 : pm_H), (k ≤ 8) → (((zXe (fun k => zsee (R, C, rk, sn, sk, cn, cd).2.1 (R, C, rk, sn, sk, cn, cd).2.2.1 (v p) g k (v (16 + p)) (zRe (R, C, rk, sn, sk, cn, cd) P v p (v (16 + p)))) (v (8 + p)) k) = 99 ∧ b.toInt = 8 ∧ d.toInt = -1) ∨ ((zXe (fun k => zsee (R, C, rk, sn, sk, cn, cd).2.1 (R, C, rk, sn, sk, cn, cd).2.2.1 (v p) g k (v (16 + p)) (zRe (R, C, rk, sn, sk, cn, cd) P v p (v (16 + p)))) (v (8 + p)) k) ≤ 8 ∧ b.toInt = (((zXe (fun k => zsee (R, C, rk, sn, sk, cn, cd).2.1 (R, C, rk, sn, sk, cn, cd).2.2.1 (v p) g k (v (16 + p)) (zRe (R, C, rk, sn, sk, cn, cd) P v p (v (16 + p)))) (v (8 + p)) k) : Nat) : Int) ∧ 0 ≤ d.toInt)) → (zCx ph1110 ph1) → (zCc ph1 R C rk) → zW n D 158 Q 47 [some (.ref 0), some (.int (zn p)), some (.int (zn g)), some (.int (zn (zRe (R, C, rk, sn, sk, cn, cd) P v p (v (16 + p))))), some (.int b), some (.int d), some (.int (zn k)), o7] [] ph1 := by
        intro n
        induction n using Nat.strongRecOn with
        | ind n ih =>
          intro k b d o7 ph1 hk hb hf1 hc1
          have tk := znt (k := k) (by omega)
          refine w_load (pc' := 49) (v := .int (zn k)) (m := 2) (ykc_158 (e := (2, .iload 6, 0)) rfl) rfl rfl ?_
          refine w_push (pc' := 51) (v := .int ((Int8.ofInt 8).toInt32)) (m := 2) (ykc_158 (e := (1, .bipush 8, 0)) rfl) rfl rfl ?_
          refine w_ige (ykc_158 (e := (4, .if_icmp .ge 55, 106)) rfl) rfl (fun b1111 => ?_) (fun b1111 => ?_)
          · refine w_load (pc' := 108) (v := .int d) (m := 2) (ykc_158 (e := (2, .iload 5, 0)) rfl) rfl rfl ?_
            refine w_zge (ykc_158 (e := (4, .ifCond .ge 6, 114)) rfl) rfl (fun b1112 => ?_) (fun b1112 => ?_)
            · have ek : k = 8 := by omega
              subst ek
              obtain ⟨h1, h2, h3⟩ : (zXe (fun k => zsee (R, C, rk, sn, sk, cn, cd).2.1 (R, C, rk, sn, sk, cn, cd).2.2.1 (v p) g k (v (16 + p)) (zRe (R, C, rk, sn, sk, cn, cd) P v p (v (16 + p)))) (v (8 + p)) 8) ≤ 8 ∧ b.toInt = (((zXe (fun k => zsee (R, C, rk, sn, sk, cn, cd).2.1 (R, C, rk, sn, sk, cn, cd).2.2.1 (v p) g k (v (16 + p)) (zRe (R, C, rk, sn, sk, cn, cd) P v p (v (16 + p)))) (v (8 + p)) 8) : Nat) : Int) ∧ 0 ≤ d.toInt := by rcases hb with ⟨q1, q2, q3⟩ | q1 <;> first | exact q1 | omega
              rw [hQ]
              exact zTail kc_158 false 4 114 9999 (fun _ => rfl) (Or.inl ⟨_, rfl⟩) (by decide +kernel) (by decide) (by decide) rfl (by decide +kernel) (fun _ => zXeig_p (E := (R, C, rk, sn, sk, cn, cd)) h_p (by omega) h_g (show R * C ≤ 64 by omega) ((if_neg (by omega)).trans (zn_of h2).symm))
            · refine w_push (pc' := 113) (v := .int ((Int8.ofInt (-2)).toInt32)) (m := 2) (ykc_158 (e := (1, .bipush (-2), 0)) rfl) rfl rfl ?_
              refine w_ret (v := (some (.int ((Int8.ofInt (-2)).toInt32)))) (ykc_158 (e := (7, .ireturn, 0)) rfl) (zr_v rfl) ?_
              have ek : k = 8 := by omega
              subst ek
              have h1 : (zXe (fun k => zsee (R, C, rk, sn, sk, cn, cd).2.1 (R, C, rk, sn, sk, cn, cd).2.2.1 (v p) g k (v (16 + p)) (zRe (R, C, rk, sn, sk, cn, cd) P v p (v (16 + p)))) (v (8 + p)) 8) = 99 := by rcases hb with ⟨q1, q2, q3⟩ | ⟨q1, q2, q3⟩ <;> omega
              rw [hQ]
              exact zXeig_p (E := (R, C, rk, sn, sk, cn, cd)) h_p (by omega) h_g (show R * C ≤ 64 by omega) (if_pos h1)
          · refine w_load (pc' := 55) (v := .ref 0) (m := 1) (ykc_158 (e := (2, .aload_n kF0, 0)) rfl) rfl rfl ?_
            refine w_gf (pc' := 58) (v := .ref 25) (ykc_158 (e := (5, .getfield 42, 0)) rfl) rfl ((hf1.1 0 4 (by decide) (by decide)).trans ((f1108.1 0 4 (by decide) (by decide)).trans (zsg hS zs_0_4))) rfl ?_
            refine w_gf (pc' := 61) (v := .ref (25 + 2)) (ykc_158 (e := (5, .getfield 177, 0)) rfl) rfl ((hf1.1 25 4 (by decide) (by decide)).trans ((f1108.1 25 4 (by decide) (by decide)).trans r4)) rfl ?_
            refine w_load (pc' := 62) (v := .int (zn p)) (m := 1) (ykc_158 (e := (2, .iload_n kF1, 0)) rfl) rfl rfl ?_
            have q1113 := hO0.1 p (by omega)
            have tq1113 := znt (k := v (8 + p)) (by omega)
            refine w_ialk (pc' := 63) (k := p) (ykc_158 (e := (5, .iaload, 0)) rfl) ((hf1.1 (25 + 2) p (by simp <;> omega) (by simp <;> omega)).trans ((f1108.1 (25 + 2) p (by simp <;> omega) (by simp <;> omega)).trans (gv p (by omega)).2.1)) (by omega) rfl ?_
            refine w_load (pc' := 65) (v := .int (zn k)) (m := 2) (ykc_158 (e := (2, .iload 6, 0)) rfl) rfl rfl ?_
            refine w_cs (as := [.int (zn (v (8 + p))), .int (zn k)]) (r := []) (ykc_158 (e := (6, .invokestatic 296, 0)) rfl) rfl rfl rfl rfl (zc_e8 (a := v (8 + p)) (b := k) (by omega) (by omega)) (fun v1114 ph1115 hv => ?_)
            obtain ⟨rfl, rfl⟩ := hv
            have te := znt (k := ze8 (v (8 + p)) k) (by unfold ze8; omega)
            show zW n D 158 Q 68 [some (.ref 0), some (.int (zn p)), some (.int (zn g)), some (.int (zn (zRe (R, C, rk, sn, sk, cn, cd) P v p (v (16 + p))))), some (.int b), some (.int d), some (.int (zn k)), o7] [.int (zn (ze8 (v (8 + p)) k))] ph1
            refine w_store (pc' := 70) (L' := [some (.ref 0), some (.int (zn p)), some (.int (zn g)), some (.int (zn (zRe (R, C, rk, sn, sk, cn, cd) P v p (v (16 + p))))), some (.int b), some (.int d), some (.int (zn k)), some (.int (zn (ze8 (v (8 + p)) k)))]) (st' := []) (m := 2) (ykc_158 (e := (3, .istore 7, 0)) rfl) rfl rfl ?_
            refine w_load (pc' := 72) (v := .int (zn (ze8 (v (8 + p)) k))) (m := 2) (ykc_158 (e := (2, .iload 7, 0)) rfl) rfl rfl ?_
            refine w_load (pc' := 74) (v := .int b) (m := 2) (ykc_158 (e := (2, .iload 4, 0)) rfl) rfl rfl ?_
            refine w_ige (ykc_158 (e := (4, .if_icmp .ge 26, 100)) rfl) rfl (fun b1116 => ?_) (fun b1116 => ?_)
            · have e1117 : (zn k) + Int32.ofInt 1 = zn (k + 1) := (zaddN (a := k) (b := 1) (znt (by omega)) c_4 (by omega))
              have te1117 := znt (k := k + 1) (by omega)
              refine w_store (pc' := 103) (L' := [some (.ref 0), some (.int (zn p)), some (.int (zn g)), some (.int (zn (zRe (R, C, rk, sn, sk, cn, cd) P v p (v (16 + p))))), some (.int b), some (.int d), some (.int (zn (k + 1))), some (.int (zn (ze8 (v (8 + p)) k)))]) (st' := []) (m := 3) (ykc_158 (e := (3, .iinc 6 1, 0)) rfl) (by rw [← e1117]; rfl) rfl ?_
              refine w_gb (ykc_158 (e := (4, .goto (-56), 47)) rfl) (fun k1118 hk1118 => ?_)
              have h4 : ze8 (v (8 + p)) k ≤ 4 := by unfold ze8; omega
              have h6 := zXe_f (f := (fun k => zsee (R, C, rk, sn, sk, cn, cd).2.1 (R, C, rk, sn, sk, cn, cd).2.2.1 (v p) g k (v (16 + p)) (zRe (R, C, rk, sn, sk, cn, cd) P v p (v (16 + p))))) (fc := v (8 + p)) (k := k) (fun q0 => by have q1 := q0.1; rcases hb with ⟨q2, q3, q4⟩ | ⟨q2, q3, q4⟩ <;> omega)
              rw [← h6] at hb
              exact ih k1118 hk1118 (k + 1) b d _ _ (by omega) hb hf1 hc1
            · refine w_load (pc' := 78) (v := .ref 0) (m := 1) (ykc_158 (e := (2, .aload_n kF0, 0)) rfl) rfl rfl ?_
              refine w_load (pc' := 79) (v := .int (zn p)) (m := 1) (ykc_158 (e := (2, .iload_n kF1, 0)) rfl) rfl rfl ?_
              refine w_load (pc' := 81) (v := .int (zn k)) (m := 2) (ykc_158 (e := (2, .iload 6, 0)) rfl) rfl rfl ?_
              refine w_load (pc' := 82) (v := .int (zn (zRe (R, C, rk, sn, sk, cn, cd) P v p (v (16 + p))))) (m := 1) (ykc_158 (e := (2, .iload_n kF3, 0)) rfl) rfl rfl ?_
              refine w_cv (as := [.ref 0, .int (zn p), .int (zn k), .int (zn (zRe (R, C, rk, sn, sk, cn, cd) P v p (v (16 + p))))]) (r := []) (ykc_158 (e := (6, .invokevirtual 341, 0)) rfl) rfl rfl rfl rfl (zc_viewF (zCx_S (zFr_trans (zCr_x f1108) hf1) hS) (zCx_e (zFr_trans (zCr_x f1108) hf1) hE0) (zCx_t (zFr_trans (zCr_x f1108) hf1) ht) hO0 ((hf1.1 10 1 (by decide) (by decide)).trans ((f1108.1 10 1 (by decide) (by decide)).trans hr)) hc1 (p := p) (fc := k) (re := zRe (R, C, rk, sn, sk, cn, cd) P v p (v (16 + p))) (by omega) (by omega) (by omega)) (fun v1121 ph1122 hv => ?_)
              obtain ⟨f1119, hc1120, rfl⟩ := hv
              show zW n D 158 Q 85 [some (.ref 0), some (.int (zn p)), some (.int (zn g)), some (.int (zn (zRe (R, C, rk, sn, sk, cn, cd) P v p (v (16 + p))))), some (.int b), some (.int d), some (.int (zn k)), some (.int (zn (ze8 (v (8 + p)) k)))] [.long (zS (fun g => zsee C rk (v p) g k (v (16 + p)) (zRe (R, C, rk, sn, sk, cn, cd) P v p (v (16 + p)))) (R * C))] ph1122
              refine w_load (pc' := 86) (v := .int (zn g)) (m := 1) (ykc_158 (e := (2, .iload_n kF2, 0)) rfl) rfl rfl ?_
              refine w_cs (as := [.long (zS (fun g => zsee C rk (v p) g k (v (16 + p)) (zRe (R, C, rk, sn, sk, cn, cd) P v p (v (16 + p)))) (R * C)), .int (zn g)]) (r := []) (ykc_158 (e := (6, .invokestatic 345, 0)) rfl) rfl rfl rfl rfl (zc_has (kn := g) (by omega) (by omega)) (fun v1123 ph1124 hv => ?_)
              obtain ⟨rfl, rfl⟩ := hv
              rw [zS_b (by omega) (by omega), decide_eq_true (show g < R * C by omega), Bool.true_and]
              show zW n D 158 Q 89 [some (.ref 0), some (.int (zn p)), some (.int (zn g)), some (.int (zn (zRe (R, C, rk, sn, sk, cn, cd) P v p (v (16 + p))))), some (.int b), some (.int d), some (.int (zn k)), some (.int (zn (ze8 (v (8 + p)) k)))] [.int (zI (zsee C rk (v p) g k (v (16 + p)) (zRe (R, C, rk, sn, sk, cn, cd) P v p (v (16 + p)))))] ph1122
              refine w_beq (ykc_158 (e := (4, .ifCond .eq 11, 100)) rfl) rfl (fun b1125 => ?_) (fun b1125 => ?_)
              · have e1126 : (zn k) + Int32.ofInt 1 = zn (k + 1) := (zaddN (a := k) (b := 1) (znt (by omega)) c_4 (by omega))
                have te1126 := znt (k := k + 1) (by omega)
                refine w_store (pc' := 103) (L' := [some (.ref 0), some (.int (zn p)), some (.int (zn g)), some (.int (zn (zRe (R, C, rk, sn, sk, cn, cd) P v p (v (16 + p))))), some (.int b), some (.int d), some (.int (zn (k + 1))), some (.int (zn (ze8 (v (8 + p)) k)))]) (st' := []) (m := 3) (ykc_158 (e := (3, .iinc 6 1, 0)) rfl) (by rw [← e1126]; rfl) rfl ?_
                refine w_gb (ykc_158 (e := (4, .goto (-56), 47)) rfl) (fun k1127 hk1127 => ?_)
                have h4 : ze8 (v (8 + p)) k ≤ 4 := by unfold ze8; omega
                have h6 := zXe_f (f := (fun k => zsee (R, C, rk, sn, sk, cn, cd).2.1 (R, C, rk, sn, sk, cn, cd).2.2.1 (v p) g k (v (16 + p)) (zRe (R, C, rk, sn, sk, cn, cd) P v p (v (16 + p))))) (fc := v (8 + p)) (k := k) (fun q0 => absurd (q0.2.symm.trans b1125) (by decide))
                rw [← h6] at hb
                exact ih k1127 hk1127 (k + 1) b d _ _ (by omega) hb (zFr_trans hf1 f1119) hc1120
              · refine w_load (pc' := 94) (v := .int (zn (ze8 (v (8 + p)) k))) (m := 2) (ykc_158 (e := (2, .iload 7, 0)) rfl) rfl rfl ?_
                refine w_store (pc' := 96) (L' := [some (.ref 0), some (.int (zn p)), some (.int (zn g)), some (.int (zn (zRe (R, C, rk, sn, sk, cn, cd) P v p (v (16 + p))))), some (.int (zn (ze8 (v (8 + p)) k))), some (.int d), some (.int (zn k)), some (.int (zn (ze8 (v (8 + p)) k)))]) (st' := []) (m := 2) (ykc_158 (e := (3, .istore 4, 0)) rfl) rfl rfl ?_
                refine w_load (pc' := 98) (v := .int (zn k)) (m := 2) (ykc_158 (e := (2, .iload 6, 0)) rfl) rfl rfl ?_
                refine w_store (pc' := 100) (L' := [some (.ref 0), some (.int (zn p)), some (.int (zn g)), some (.int (zn (zRe (R, C, rk, sn, sk, cn, cd) P v p (v (16 + p))))), some (.int (zn (ze8 (v (8 + p)) k))), some (.int (zn k)), some (.int (zn k)), some (.int (zn (ze8 (v (8 + p)) k)))]) (st' := []) (m := 2) (ykc_158 (e := (3, .istore 5, 0)) rfl) rfl rfl ?_
                have e1128 : (zn k) + Int32.ofInt 1 = zn (k + 1) := (zaddN (a := k) (b := 1) (znt (by omega)) c_4 (by omega))
                have te1128 := znt (k := k + 1) (by omega)
                refine w_store (pc' := 103) (L' := [some (.ref 0), some (.int (zn p)), some (.int (zn g)), some (.int (zn (zRe (R, C, rk, sn, sk, cn, cd) P v p (v (16 + p))))), some (.int (zn (ze8 (v (8 + p)) k))), some (.int (zn k)), some (.int (zn (k + 1))), some (.int (zn (ze8 (v (8 + p)) k)))]) (st' := []) (m := 3) (ykc_158 (e := (3, .iinc 6 1, 0)) rfl) (by rw [← e1128]; rfl) rfl ?_
                refine w_gb (ykc_158 (e := (4, .goto (-56), 47)) rfl) (fun k1129 hk1129 => ?_)
                have h4 : ze8 (v (8 + p)) k ≤ 4 := by unfold ze8; omega
                have h5 : ze8 (v (8 + p)) k < (zXe (fun k => zsee (R, C, rk, sn, sk, cn, cd).2.1 (R, C, rk, sn, sk, cn, cd).2.2.1 (v p) g k (v (16 + p)) (zRe (R, C, rk, sn, sk, cn, cd) P v p (v (16 + p)))) (v (8 + p)) k) := by rcases hb with ⟨q1, q2, q3⟩ | ⟨q1, q2, q3⟩ <;> omega
                have h6 := zXe_t (f := (fun k => zsee (R, C, rk, sn, sk, cn, cd).2.1 (R, C, rk, sn, sk, cn, cd).2.2.1 (v p) g k (v (16 + p)) (zRe (R, C, rk, sn, sk, cn, cd) P v p (v (16 + p))))) h5 b1125
                exact ih k1129 hk1129 (k + 1) (zn (ze8 (v (8 + p)) k)) (zn k) _ _ (by omega) (Or.inr ⟨by omega, by omega, by omega⟩) (zFr_trans hf1 f1119) hc1120
      exact hl n 0 _ _ _ _ (Nat.zero_le 8) (Or.inl ⟨rfl, by omega, by omega⟩) zFr_refl (zCr_c f1108 hc0)
    · refine w_alu (pc' := 23) (st' := [.int (Int32.ofInt (-1))]) (ykc_158 (e := (0, .iconst (-1), 0)) rfl) rfl rfl ?_
      refine w_ret (v := (some (.int (Int32.ofInt (-1))))) (ykc_158 (e := (7, .ireturn, 0)) rfl) (zr_v rfl) ?_
      rw [hQ]
      exact zXeig_n (fun q => absurd q.2 (of_decide_eq_false b1107))
theorem zm_eigX {ph : pm_H} {E : zEn} {P G : Nat} {v : Nat → Nat} (hS : zSh ph) (hE : zMe ph E) (hN : zMp ph P G) (hv : zNr ph 174 0 v) (hO : zOk E.1 E.2.1 P G v) {x y : Int32} : zM 272 [.ref 170, .int x, .int y] ph (fun v0 _ => v0 = some (.int (zXeig E P v x y))) := by
  obtain ⟨Q, hQ⟩ : ∃ Q : Option Value → pm_H → Prop, Q = (fun v0 _ => v0 = some (.int (zXeig E P v x y))) := ⟨_, rfl⟩
  rw [← hQ]
  refine zM_mk fun n D => ?_
  show zW n D 272 Q 0 [some (.ref 170), some (.int x), some (.int y), none, none, none, none] [] ph
  have c_0 : ((1000000 : Int32)).toInt = 1000000 := by decide
  have c_1 : ((Int8.ofInt (-2)).toInt32).toInt = -2 := by decide
  have c_2 : ((Int8.ofInt 8).toInt32).toInt = 8 := by decide
  have c_3 : (Int32.ofInt (-1)).toInt = -1 := by decide
  have c_4 : (Int32.ofInt 0).toInt = 0 := by decide
  have c_5 : (Int32.ofInt 1).toInt = 1 := by decide
  have hA : (174 : Nat) = 174 ∨ (174 : Nat) = 175 := Or.inl rfl
  obtain ⟨R, C, rk, sn, sk, cn, cd⟩ := E
  have hL0 : zMl ph R C rk := hE.1
  have hR0 : zMr ph sn sk cn cd := hE.2.1
  have hcg : zcg cn cd := hE.2.2
  have hE0 : zMe ph (R, C, rk, sn, sk, cn, cd) := hE
  have hO0 : zOk R C P G v := hO
  have hN0 := hN
  have hL := hL0
  have hR := hR0
  obtain ⟨gR, gC, gK, hR3, hR7, hC3, hC7⟩ := hL
  have hRC := zRC49 hR7 hC7
  have tR := znt (k := R) (by omega)
  have tC := znt (k := C) (by omega)
  obtain ⟨gP, hP8, gG, hG8⟩ := hN
  have tP := znt (k := P) (by omega)
  have tG := znt (k := G) (by omega)
  obtain ⟨gsn, hs1, hs20, gsk, gcn, hc40, gcd⟩ := hR
  have tsn := znt (k := sn) (by omega)
  have tcn := znt (k := cn) (by omega)
  refine w_load (pc' := 1) (v := .ref 170) (m := 1) (ykc_272 (e := (2, .aload_n kF0, 0)) rfl) rfl rfl ?_
  refine w_alu (pc' := 2) (st' := [.int (Int32.ofInt 0), .ref 170]) (ykc_272 (e := (0, .iconst 0, 0)) rfl) rfl rfl ?_
  refine w_pf (pc' := 5) (ykc_272 (e := (5, .putfield 3, 0)) rfl) rfl rfl (fun ph1131 u1130 => ?_)
  have f0 : zFr [] [(170, 0)] ph ph1131 := zFr_st u1130 (Or.inr (by simp))
  have hS1 := zSh_st u1130 (by decide +kernel) hS
  have hE1 : zMe ph1131 (R, C, rk, sn, sk, cn, cd) := ⟨zMl_F f0 (by simp) (by simp) (by simp) (by simp) hE0.1, zMr_F f0 (by simp) (by simp) (by simp) (by simp) hE0.2.1, hE0.2.2⟩
  have hN1 := zMp_F f0 (by simp) (by simp) (by simp) hN0
  have hv1 := zNr_F f0 (by simp) (by simp) hv
  have hL1 : zMl ph1131 R C rk := hE1.1
  have hR1 : zMr ph1131 sn sk cn cd := hE1.2.1
  refine w_load (pc' := 6) (v := .ref 170) (m := 1) (ykc_272 (e := (2, .aload_n kF0, 0)) rfl) rfl rfl ?_
  refine w_load (pc' := 7) (v := .int x) (m := 1) (ykc_272 (e := (2, .iload_n kF1, 0)) rfl) rfl rfl ?_
  refine w_cv (as := [.ref 170, .int x]) (r := []) (ykc_272 (e := (6, .invokevirtual 315, 0)) rfl) rfl rfl rfl rfl (zm_isPerson hN1 (p := x)) (fun v1132 ph1133 hv => ?_)
  obtain ⟨rfl, rfl⟩ := hv
  show zW n D 272 Q 10 [some (.ref 170), some (.int x), some (.int y), none, none, none, none] [.int (zI (decide (0 ≤ x.toInt ∧ x.toInt < ((P : Nat) : Int))))] ph1131
  refine w_beq (ykc_272 (e := (4, .ifCond .eq 11, 21)) rfl) rfl (fun b1134 => ?_) (fun b1134 => ?_)
  · refine w_alu (pc' := 22) (st' := [.int (Int32.ofInt (-1))]) (ykc_272 (e := (0, .iconst (-1), 0)) rfl) rfl rfl ?_
    refine w_ret (v := (some (.int (Int32.ofInt (-1))))) (ykc_272 (e := (7, .ireturn, 0)) rfl) (zr_v rfl) ?_
    rw [hQ]
    exact zXeig_n (fun q => absurd q.1 (of_decide_eq_false b1134))
  · refine w_load (pc' := 14) (v := .ref 170) (m := 1) (ykc_272 (e := (2, .aload_n kF0, 0)) rfl) rfl rfl ?_
    refine w_load (pc' := 15) (v := .int y) (m := 1) (ykc_272 (e := (2, .iload_n kF2, 0)) rfl) rfl rfl ?_
    refine w_cv (as := [.ref 170, .int y]) (r := []) (ykc_272 (e := (6, .invokevirtual 358, 0)) rfl) rfl rfl rfl rfl (zm_isField hS1 hL1 (f := y)) (fun v1135 ph1136 hv => ?_)
    obtain ⟨rfl, rfl⟩ := hv
    show zW n D 272 Q 18 [some (.ref 170), some (.int x), some (.int y), none, none, none, none] [.int (zI (decide (0 ≤ y.toInt ∧ y.toInt < ((R * C : Nat) : Int))))] ph1131
    refine w_bne (ykc_272 (e := (4, .ifCond .ne 5, 23)) rfl) rfl (fun b1137 => ?_) (fun b1137 => ?_)
    · have b_p := of_decide_eq_true b1134
      obtain ⟨p, h_p, rfl⟩ : ∃ p : Nat, p < P ∧ x = zn p := ⟨x.toInt.toNat, by omega, zn_of (by omega)⟩
      have t_p := znt (k := p) (by omega)
      have op := hO0.1 p h_p
      have tvp := znt (k := v p) (by omega)
      have tvf := znt (k := v (8 + p)) (by omega)
      have tvb := znt (k := v (16 + p)) (by omega)
      have b_g := of_decide_eq_true b1137
      obtain ⟨g, h_g, rfl⟩ : ∃ g : Nat, g < R * C ∧ y = zn g := ⟨y.toInt.toNat, by omega, zn_of (by omega)⟩
      have t_g := znt (k := g) (by omega)
      show zW n D 272 Q 23 [some (.ref 170), some (.int (zn p)), some (.int (zn g)), none, none, none, none] [] ph1131
      refine w_alu (pc' := 24) (st' := [.int (Int32.ofInt (-1))]) (ykc_272 (e := (0, .iconst (-1), 0)) rfl) rfl rfl ?_
      refine w_store (pc' := 25) (L' := [some (.ref 170), some (.int (zn p)), some (.int (zn g)), some (.int (Int32.ofInt (-1))), none, none, none]) (st' := []) (m := 1) (ykc_272 (e := (3, .istore_n kF3, 0)) rfl) rfl rfl ?_
      refine w_push (pc' := 28) (v := .int (1000000 : Int32)) (m := 3) (ykc_272 (e := (1, .ldc_w 432, 0)) rfl) rfl rfl ?_
      refine w_store (pc' := 30) (L' := [some (.ref 170), some (.int (zn p)), some (.int (zn g)), some (.int (Int32.ofInt (-1))), some (.int (1000000 : Int32)), none, none]) (st' := []) (m := 2) (ykc_272 (e := (3, .istore 4, 0)) rfl) rfl rfl ?_
      refine w_alu (pc' := 31) (st' := [.int (Int32.ofInt 0)]) (ykc_272 (e := (0, .iconst 0, 0)) rfl) rfl rfl ?_
      refine w_store (pc' := 33) (L' := [some (.ref 170), some (.int (zn p)), some (.int (zn g)), some (.int (Int32.ofInt (-1))), some (.int (1000000 : Int32)), some (.int (Int32.ofInt 0)), none]) (st' := []) (m := 2) (ykc_272 (e := (3, .istore 5, 0)) rfl) rfl rfl ?_
      have hl : ∀ (n : Nat), ∀ (k : Nat) (b d : Int32) (o7 : Option Value) (ph1 : pm_H), (k ≤ 8) → (((zXe (fun k => zsee (R, C, rk, sn, sk, cn, cd).2.1 (R, C, rk, sn, sk, cn, cd).2.2.1 (v p) g k (v (16 + p)) (zRe (R, C, rk, sn, sk, cn, cd) P v p (v (16 + p)))) (v (8 + p)) k) = 99 ∧ b.toInt = 1000000 ∧ d.toInt = -1) ∨ ((zXe (fun k => zsee (R, C, rk, sn, sk, cn, cd).2.1 (R, C, rk, sn, sk, cn, cd).2.2.1 (v p) g k (v (16 + p)) (zRe (R, C, rk, sn, sk, cn, cd) P v p (v (16 + p)))) (v (8 + p)) k) ≤ 8 ∧ b.toInt = (((zXe (fun k => zsee (R, C, rk, sn, sk, cn, cd).2.1 (R, C, rk, sn, sk, cn, cd).2.2.1 (v p) g k (v (16 + p)) (zRe (R, C, rk, sn, sk, cn, cd) P v p (v (16 + p)))) (v (8 + p)) k) : Nat) : Int) ∧ 0 ≤ d.toInt)) → (zSc ph1131 ph1) → zW n D 272 Q 33 [some (.ref 170), some (.int (zn p)), some (.int (zn g)), some (.int d), some (.int b), some (.int (zn k)), o7] [] ph1 := by
        intro n
        induction n using Nat.strongRecOn with
        | ind n ih =>
          intro k b d o7 ph1 hk hb hf1
          have tk := znt (k := k) (by omega)
          refine w_load (pc' := 35) (v := .int (zn k)) (m := 2) (ykc_272 (e := (2, .iload 5, 0)) rfl) rfl rfl ?_
          refine w_push (pc' := 37) (v := .int ((Int8.ofInt 8).toInt32)) (m := 2) (ykc_272 (e := (1, .bipush 8, 0)) rfl) rfl rfl ?_
          refine w_ige (ykc_272 (e := (4, .if_icmp .ge 50, 87)) rfl) rfl (fun b1138 => ?_) (fun b1138 => ?_)
          · refine w_load (pc' := 88) (v := .int d) (m := 1) (ykc_272 (e := (2, .iload_n kF3, 0)) rfl) rfl rfl ?_
            refine w_zge (ykc_272 (e := (4, .ifCond .ge 6, 94)) rfl) rfl (fun b1139 => ?_) (fun b1139 => ?_)
            · have ek : k = 8 := by omega
              subst ek
              obtain ⟨h1, h2, h3⟩ : (zXe (fun k => zsee (R, C, rk, sn, sk, cn, cd).2.1 (R, C, rk, sn, sk, cn, cd).2.2.1 (v p) g k (v (16 + p)) (zRe (R, C, rk, sn, sk, cn, cd) P v p (v (16 + p)))) (v (8 + p)) 8) ≤ 8 ∧ b.toInt = (((zXe (fun k => zsee (R, C, rk, sn, sk, cn, cd).2.1 (R, C, rk, sn, sk, cn, cd).2.2.1 (v p) g k (v (16 + p)) (zRe (R, C, rk, sn, sk, cn, cd) P v p (v (16 + p)))) (v (8 + p)) 8) : Nat) : Int) ∧ 0 ≤ d.toInt := by rcases hb with ⟨q1, q2, q3⟩ | q1 <;> first | exact q1 | omega
              rw [hQ]
              exact zTail kc_272 false 4 94 9999 (fun _ => rfl) (Or.inl ⟨_, rfl⟩) (by decide +kernel) (by decide) (by decide) rfl (by decide +kernel) (fun _ => zXeig_p (E := (R, C, rk, sn, sk, cn, cd)) h_p (by omega) h_g (show R * C ≤ 64 by omega) ((if_neg (by omega)).trans (zn_of h2).symm))
            · refine w_push (pc' := 93) (v := .int ((Int8.ofInt (-2)).toInt32)) (m := 2) (ykc_272 (e := (1, .bipush (-2), 0)) rfl) rfl rfl ?_
              refine w_ret (v := (some (.int ((Int8.ofInt (-2)).toInt32)))) (ykc_272 (e := (7, .ireturn, 0)) rfl) (zr_v rfl) ?_
              have ek : k = 8 := by omega
              subst ek
              have h1 : (zXe (fun k => zsee (R, C, rk, sn, sk, cn, cd).2.1 (R, C, rk, sn, sk, cn, cd).2.2.1 (v p) g k (v (16 + p)) (zRe (R, C, rk, sn, sk, cn, cd) P v p (v (16 + p)))) (v (8 + p)) 8) = 99 := by rcases hb with ⟨q1, q2, q3⟩ | ⟨q1, q2, q3⟩ <;> omega
              rw [hQ]
              exact zXeig_p (E := (R, C, rk, sn, sk, cn, cd)) h_p (by omega) h_g (show R * C ≤ 64 by omega) (if_pos h1)
          · refine w_load (pc' := 41) (v := .ref 170) (m := 1) (ykc_272 (e := (2, .aload_n kF0, 0)) rfl) rfl rfl ?_
            refine w_gf (pc' := 44) (v := .ref 174) (ykc_272 (e := (5, .getfield 41, 0)) rfl) rfl ((hf1.1 170 11 (by decide) (by decide)).trans ((u1130.2.1 170 11 (fun q => absurd q.2 (by decide))).trans (zsg hS zs_170_11))) rfl ?_
            refine w_push (pc' := 46) (v := .int ((Int8.ofInt 8).toInt32)) (m := 2) (ykc_272 (e := (1, .bipush 8, 0)) rfl) rfl rfl ?_
            refine w_load (pc' := 47) (v := .int (zn p)) (m := 1) (ykc_272 (e := (2, .iload_n kF1, 0)) rfl) rfl rfl ?_
            have e1140 : ((Int8.ofInt 8).toInt32) + (zn p) = zn (8 + p) := (zaddN (a := 8) (b := p) c_2 (znt (by omega)) (by omega)) 
            have te1140 := znt (k := 8 + p) (by omega)
            refine w_alu (pc' := 48) (st' := [.int (zn (8 + p)), .ref 174]) (ykc_272 (e := (0, .iadd, 0)) rfl) (by rw [← e1140]; rfl) rfl ?_
            have q1141 := hO0.1 p (by omega)
            have tq1141 := znt (k := v (8 + p)) (by omega)
            refine w_ialk (pc' := 49) (k := 8 + p) (ykc_272 (e := (5, .iaload, 0)) rfl) ((hf1.1 174 (8 + p) (by decide) (by simp)).trans ((u1130.2.1 174 (8 + p) (fun q => absurd q.1 (by decide))).trans (zNr0 hv (i := 8 + p) (by omega)))) (by omega) rfl ?_
            refine w_load (pc' := 51) (v := .int (zn k)) (m := 2) (ykc_272 (e := (2, .iload 5, 0)) rfl) rfl rfl ?_
            refine w_cs (as := [.int (zn (v (8 + p))), .int (zn k)]) (r := []) (ykc_272 (e := (6, .invokestatic 285, 0)) rfl) rfl rfl rfl rfl (zm_e8 (a := v (8 + p)) (b := k) (by omega) (by omega) (by omega) (by omega)) (fun v1142 ph1143 hv => ?_)
            obtain ⟨rfl, rfl⟩ := hv
            have te := znt (k := ze8 (v (8 + p)) k) (by unfold ze8; omega)
            show zW n D 272 Q 54 [some (.ref 170), some (.int (zn p)), some (.int (zn g)), some (.int d), some (.int b), some (.int (zn k)), o7] [.int (zn (ze8 (v (8 + p)) k))] ph1
            refine w_store (pc' := 56) (L' := [some (.ref 170), some (.int (zn p)), some (.int (zn g)), some (.int d), some (.int b), some (.int (zn k)), some (.int (zn (ze8 (v (8 + p)) k)))]) (st' := []) (m := 2) (ykc_272 (e := (3, .istore 6, 0)) rfl) rfl rfl ?_
            refine w_load (pc' := 58) (v := .int (zn (ze8 (v (8 + p)) k))) (m := 2) (ykc_272 (e := (2, .iload 6, 0)) rfl) rfl rfl ?_
            refine w_load (pc' := 60) (v := .int b) (m := 2) (ykc_272 (e := (2, .iload 4, 0)) rfl) rfl rfl ?_
            refine w_ige (ykc_272 (e := (4, .if_icmp .ge 21, 81)) rfl) rfl (fun b1144 => ?_) (fun b1144 => ?_)
            · have e1145 : (zn k) + Int32.ofInt 1 = zn (k + 1) := (zaddN (a := k) (b := 1) (znt (by omega)) c_5 (by omega))
              have te1145 := znt (k := k + 1) (by omega)
              refine w_store (pc' := 84) (L' := [some (.ref 170), some (.int (zn p)), some (.int (zn g)), some (.int d), some (.int b), some (.int (zn (k + 1))), some (.int (zn (ze8 (v (8 + p)) k)))]) (st' := []) (m := 3) (ykc_272 (e := (3, .iinc 5 1, 0)) rfl) (by rw [← e1145]; rfl) rfl ?_
              refine w_gb (ykc_272 (e := (4, .goto (-51), 33)) rfl) (fun k1146 hk1146 => ?_)
              have h4 : ze8 (v (8 + p)) k ≤ 4 := by unfold ze8; omega
              have h6 := zXe_f (f := (fun k => zsee (R, C, rk, sn, sk, cn, cd).2.1 (R, C, rk, sn, sk, cn, cd).2.2.1 (v p) g k (v (16 + p)) (zRe (R, C, rk, sn, sk, cn, cd) P v p (v (16 + p))))) (fc := v (8 + p)) (k := k) (fun q0 => by have q1 := q0.1; rcases hb with ⟨q2, q3, q4⟩ | ⟨q2, q3, q4⟩ <;> omega)
              rw [← h6] at hb
              exact ih k1146 hk1146 (k + 1) b d _ _ (by omega) hb hf1
            · refine w_load (pc' := 64) (v := .ref 170) (m := 1) (ykc_272 (e := (2, .aload_n kF0, 0)) rfl) rfl rfl ?_
              refine w_load (pc' := 65) (v := .int (zn p)) (m := 1) (ykc_272 (e := (2, .iload_n kF1, 0)) rfl) rfl rfl ?_
              refine w_load (pc' := 66) (v := .int (zn g)) (m := 1) (ykc_272 (e := (2, .iload_n kF2, 0)) rfl) rfl rfl ?_
              refine w_load (pc' := 68) (v := .int (zn k)) (m := 2) (ykc_272 (e := (2, .iload 5, 0)) rfl) rfl rfl ?_
              refine w_cv (as := [.ref 170, .int (zn p), .int (zn g), .int (zn k)]) (r := []) (ykc_272 (e := (6, .invokevirtual 433, 0)) rfl) rfl rfl rfl rfl (zm_would (zSc_S hf1 hS1) (zSc_e hf1 hE1) (zSc_p hf1 hN1) (zSc_a hf1 (⟨hA, hv1⟩ : ((174 : Nat) = 174 ∨ (174 : Nat) = 175) ∧ zNr ph1131 174 0 v)).2 hO0 (p := p) (g := g) (fc := k) (by omega) h_g (by omega)) (fun v1148 ph1149 hv => ?_)
              obtain ⟨f1147, rfl⟩ := hv
              show zW n D 272 Q 71 [some (.ref 170), some (.int (zn p)), some (.int (zn g)), some (.int d), some (.int b), some (.int (zn k)), some (.int (zn (ze8 (v (8 + p)) k)))] [.int (zI (zsee C rk (v p) g k (v (16 + p)) (zRe (R, C, rk, sn, sk, cn, cd) P v p (v (16 + p)))))] ph1149
              refine w_beq (ykc_272 (e := (4, .ifCond .eq 10, 81)) rfl) rfl (fun b1150 => ?_) (fun b1150 => ?_)
              · have e1151 : (zn k) + Int32.ofInt 1 = zn (k + 1) := (zaddN (a := k) (b := 1) (znt (by omega)) c_5 (by omega))
                have te1151 := znt (k := k + 1) (by omega)
                refine w_store (pc' := 84) (L' := [some (.ref 170), some (.int (zn p)), some (.int (zn g)), some (.int d), some (.int b), some (.int (zn (k + 1))), some (.int (zn (ze8 (v (8 + p)) k)))]) (st' := []) (m := 3) (ykc_272 (e := (3, .iinc 5 1, 0)) rfl) (by rw [← e1151]; rfl) rfl ?_
                refine w_gb (ykc_272 (e := (4, .goto (-51), 33)) rfl) (fun k1152 hk1152 => ?_)
                have h4 : ze8 (v (8 + p)) k ≤ 4 := by unfold ze8; omega
                have h6 := zXe_f (f := (fun k => zsee (R, C, rk, sn, sk, cn, cd).2.1 (R, C, rk, sn, sk, cn, cd).2.2.1 (v p) g k (v (16 + p)) (zRe (R, C, rk, sn, sk, cn, cd) P v p (v (16 + p))))) (fc := v (8 + p)) (k := k) (fun q0 => absurd (q0.2.symm.trans b1150) (by decide))
                rw [← h6] at hb
                exact ih k1152 hk1152 (k + 1) b d _ _ (by omega) hb (zFr_trans hf1 f1147)
              · refine w_load (pc' := 76) (v := .int (zn k)) (m := 2) (ykc_272 (e := (2, .iload 5, 0)) rfl) rfl rfl ?_
                refine w_store (pc' := 77) (L' := [some (.ref 170), some (.int (zn p)), some (.int (zn g)), some (.int (zn k)), some (.int b), some (.int (zn k)), some (.int (zn (ze8 (v (8 + p)) k)))]) (st' := []) (m := 1) (ykc_272 (e := (3, .istore_n kF3, 0)) rfl) rfl rfl ?_
                refine w_load (pc' := 79) (v := .int (zn (ze8 (v (8 + p)) k))) (m := 2) (ykc_272 (e := (2, .iload 6, 0)) rfl) rfl rfl ?_
                refine w_store (pc' := 81) (L' := [some (.ref 170), some (.int (zn p)), some (.int (zn g)), some (.int (zn k)), some (.int (zn (ze8 (v (8 + p)) k))), some (.int (zn k)), some (.int (zn (ze8 (v (8 + p)) k)))]) (st' := []) (m := 2) (ykc_272 (e := (3, .istore 4, 0)) rfl) rfl rfl ?_
                have e1153 : (zn k) + Int32.ofInt 1 = zn (k + 1) := (zaddN (a := k) (b := 1) (znt (by omega)) c_5 (by omega))
                have te1153 := znt (k := k + 1) (by omega)
                refine w_store (pc' := 84) (L' := [some (.ref 170), some (.int (zn p)), some (.int (zn g)), some (.int (zn k)), some (.int (zn (ze8 (v (8 + p)) k))), some (.int (zn (k + 1))), some (.int (zn (ze8 (v (8 + p)) k)))]) (st' := []) (m := 3) (ykc_272 (e := (3, .iinc 5 1, 0)) rfl) (by rw [← e1153]; rfl) rfl ?_
                refine w_gb (ykc_272 (e := (4, .goto (-51), 33)) rfl) (fun k1154 hk1154 => ?_)
                have h4 : ze8 (v (8 + p)) k ≤ 4 := by unfold ze8; omega
                have h5 : ze8 (v (8 + p)) k < (zXe (fun k => zsee (R, C, rk, sn, sk, cn, cd).2.1 (R, C, rk, sn, sk, cn, cd).2.2.1 (v p) g k (v (16 + p)) (zRe (R, C, rk, sn, sk, cn, cd) P v p (v (16 + p)))) (v (8 + p)) k) := by rcases hb with ⟨q1, q2, q3⟩ | ⟨q1, q2, q3⟩ <;> omega
                have h6 := zXe_t (f := (fun k => zsee (R, C, rk, sn, sk, cn, cd).2.1 (R, C, rk, sn, sk, cn, cd).2.2.1 (v p) g k (v (16 + p)) (zRe (R, C, rk, sn, sk, cn, cd) P v p (v (16 + p))))) h5 b1150
                exact ih k1154 hk1154 (k + 1) (zn (ze8 (v (8 + p)) k)) (zn k) _ _ (by omega) (Or.inr ⟨by omega, by omega, by omega⟩) (zFr_trans hf1 f1147)
      exact hl n 0 _ _ _ _ (Nat.zero_le 8) (Or.inl ⟨rfl, by omega, by omega⟩) zFr_refl
    · refine w_alu (pc' := 22) (st' := [.int (Int32.ofInt (-1))]) (ykc_272 (e := (0, .iconst (-1), 0)) rfl) rfl rfl ?_
      refine w_ret (v := (some (.int (Int32.ofInt (-1))))) (ykc_272 (e := (7, .ireturn, 0)) rfl) (zr_v rfl) ?_
      rw [hQ]
      exact zXeig_n (fun q => absurd q.2 (of_decide_eq_false b1137))
