/-! person, thing: what they answer, by W; printed by wip/z/z4a_thr.py -/
def zXper (E : zEn) (P G : Nat) (v : Nat → Nat) (p : Nat) : Nat → Int32
  | 0 => zn (v p)
  | 1 => zn (v (8 + p))
  | 2 => zn (v (16 + p))
  | 3 => zn (v (24 + p))
  | 4 => zn (zRe E P v p (v (16 + p)))
  | _ => zTon G v (zVw E P v p)
def zXthg (E : zEn) (P : Nat) (v : Nat → Nat) (t : Nat) : Nat → Int32
  | 0 => zn (v (32 + t))
  | 1 => zT (fun p => zb (zn (v (24 + p))).toInt64 t) P
  | _ => zWho E P v (v (32 + t))
theorem zkb0 : ∀ m, m < 256 → ∀ t, t < 8 → ((zn m >>> ((zn t) &&& 31)) &&& Int32.ofInt 1) = (bif zb (zn m).toInt64 t then Int32.ofInt 1 else Int32.ofInt 0) := by decide +kernel
theorem zsh00 : ∀ k, k < 8 → (Int32.ofInt 0) <<< ((zn k) &&& 31) = Int32.ofInt 0 := by decide +kernel
theorem zXkn_e {v : Nat → Nat} {t n : Nat} (hn : n ≤ 8) (ht : t < 8) (h : ∀ q, q < n → v (24 + q) < 256) : zXkn v t n = zT (fun p => zb (zn (v (24 + p))).toInt64 t) n := by
  induction n with
  | zero => rfl
  | succ k ih =>
    show zXkn v t k ||| ((((zn (v (24 + k))) >>> ((zn t) &&& 31)) &&& (Int32.ofInt 1)) <<< ((zn k) &&& 31)) = zT (fun p => zb (zn (v (24 + p))).toInt64 t) k ||| (bif zb (zn (v (24 + k))).toInt64 t then Int32.ofInt 1 <<< (zn k &&& 31) else Int32.ofInt 0)
    rw [ih (by omega) (fun q hq => h q (by omega)), zkb0 _ (h k (by omega)) t ht]
    cases zb (zn (v (24 + k))).toInt64 t with
    | false => rw [cond_false, cond_false, zsh00 k (by omega)]
    | true => rfl
theorem zc_perX {ph : pm_H} {E : zEn} {F P G : Nat} {v : Nat → Nat} (hS : zSh ph) (hE : zCe ph E F) (ht : zCt ph 25 P G v) (hO : zOk E.1 E.2.1 P G v) (hr : zc ph 10 1 = some (.ref F)) (hc : zCc ph E.1 E.2.1 E.2.2.1) {p y : Nat} (hp : p < P) (hy : y < 6) : zM 129 [.ref 0, .int (zn p), .int (zn y)] ph (fun v0 _ => v0 = some (.int (zXper E P G v p y))) := by
  obtain ⟨Q, hQ⟩ : ∃ Q : Option Value → pm_H → Prop, Q = (fun v0 _ => v0 = some (.int (zXper E P G v p y))) := ⟨_, rfl⟩
  rw [← hQ]
  refine zM_mk fun n D => ?_
  show zW n D 129 Q 0 [some (.ref 0), some (.int (zn p)), some (.int (zn y))] [] ph
  obtain ⟨R, C, rk, sn, sk, cn, cd⟩ := E
  have hL0 : zCl ph R C rk := hE.1
  have hi0 : zCi ph sn sk := hE.2.1
  have hF : F = 11 ∨ F = 16 := hE.2.2.2
  have hE0 : zCe ph (R, C, rk, sn, sk, cn, cd) F := hE
  have hO0 : zOk R C P G v := hO
  have hL := hL0
  have hs := ht.1.2
  have hd := ht.2
  have h25 := ht.1.1
  obtain ⟨gR, gC, gN, gK, gA, hR3, hR7, hC3, hC7⟩ := hL
  have hRC := zRC49 hR7 hC7
  have tR := znt (k := R) (by omega)
  have tC := znt (k := C) (by omega)
  have tRC := znt (k := R * C) (by omega)
  have hd0 := hd
  have hs0 := hs
  obtain ⟨r3, r4, r5, r6, r7, l1, l2, l3, l4, l5⟩ := hs
  obtain ⟨gP, hP8, gG, hG8, gH, gv, gw⟩ := hd
  have tP := znt (k := P) (by omega)
  have tG := znt (k := G) (by omega)
  have h40 := hO0.2.2
  have t40 := znt (k := v 40) (by omega)
  have hc0 := hc
  have tp := znt (k := p) (by omega)
  have ty := znt (k := y) (by omega)
  have op := hO0.1 p hp
  refine w_load (pc' := 1) (v := .ref 0) (m := 1) (ykc_129 (e := (2, .aload_n kF0, 0)) rfl) rfl rfl ?_
  refine w_gf (pc' := 4) (v := .ref 25) (ykc_129 (e := (5, .getfield 42, 0)) rfl) rfl (zsg hS zs_0_4) rfl ?_
  refine w_load (pc' := 5) (v := .int (zn p)) (m := 1) (ykc_129 (e := (2, .iload_n kF1, 0)) rfl) rfl rfl ?_
  refine w_cv (as := [.ref 25, .int (zn p)]) (r := []) (ykc_129 (e := (6, .invokevirtual 167, 0)) rfl) rfl rfl rfl rfl (zc_hasP ht.1.2 ht.2 (i := (zn p))) (fun v1215 ph1216 hv => ?_)
  obtain ⟨rfl, rfl⟩ := hv
  show zW n D 129 Q 8 [some (.ref 0), some (.int (zn p)), some (.int (zn y))] [.int (zI (decide (0 ≤ (zn p).toInt ∧ (zn p).toInt < ((P : Nat) : Int))))] ph
  refine w_bne (ykc_129 (e := (4, .ifCond .ne 11, 19)) rfl) rfl (fun b1217 => ?_) (fun q => by have := of_decide_eq_false q; omega)
  refine w_load (pc' := 20) (v := .int (zn y)) (m := 1) (ykc_129 (e := (2, .iload_n kF2, 0)) rfl) rfl rfl ?_
  rcases (show y = 0 ∨ y = 1 ∨ y = 2 ∨ y = 3 ∨ y = 4 ∨ y = 5 by omega) with rfl | rfl | rfl | rfl | rfl | rfl
  · show zW n D 129 Q 20 [some (.ref 0), some (.int (zn p)), some (.int (zn 0))] [.int (zn 0)] ph
    refine w_br (pc' := 60) (st' := []) (ykc_129 (e := (4, .tableswitch 113 0 5 #[40, 50, 60, 70, 80, 93], 40)) rfl) (by decide +kernel) ?_
    refine w_load (pc' := 61) (v := .ref 0) (m := 1) (ykc_129 (e := (2, .aload_n kF0, 0)) rfl) rfl rfl ?_
    refine w_gf (pc' := 64) (v := .ref 25) (ykc_129 (e := (5, .getfield 42, 0)) rfl) rfl (zsg hS zs_0_4) rfl ?_
    refine w_gf (pc' := 67) (v := .ref (25 + 1)) (ykc_129 (e := (5, .getfield 173, 0)) rfl) rfl r3 rfl ?_
    refine w_load (pc' := 68) (v := .int (zn p)) (m := 1) (ykc_129 (e := (2, .iload_n kF1, 0)) rfl) rfl rfl ?_
    have q1218 := hO0.1 p (by omega)
    have tq1218 := znt (k := v p) (by omega)
    refine w_ialk (pc' := 69) (k := p) (ykc_129 (e := (5, .iaload, 0)) rfl) (gv p (by omega)).1 (by omega) rfl ?_
    refine w_ret (v := (some (.int (zn (v p))))) (ykc_129 (e := (7, .ireturn, 0)) rfl) (zr_v rfl) ?_
    rw [hQ]
    exact rfl
  · show zW n D 129 Q 20 [some (.ref 0), some (.int (zn p)), some (.int (zn 1))] [.int (zn 1)] ph
    refine w_br (pc' := 70) (st' := []) (ykc_129 (e := (4, .tableswitch 113 0 5 #[40, 50, 60, 70, 80, 93], 40)) rfl) (by decide +kernel) ?_
    refine w_load (pc' := 71) (v := .ref 0) (m := 1) (ykc_129 (e := (2, .aload_n kF0, 0)) rfl) rfl rfl ?_
    refine w_gf (pc' := 74) (v := .ref 25) (ykc_129 (e := (5, .getfield 42, 0)) rfl) rfl (zsg hS zs_0_4) rfl ?_
    refine w_gf (pc' := 77) (v := .ref (25 + 2)) (ykc_129 (e := (5, .getfield 177, 0)) rfl) rfl r4 rfl ?_
    refine w_load (pc' := 78) (v := .int (zn p)) (m := 1) (ykc_129 (e := (2, .iload_n kF1, 0)) rfl) rfl rfl ?_
    have q1219 := hO0.1 p (by omega)
    have tq1219 := znt (k := v (8 + p)) (by omega)
    refine w_ialk (pc' := 79) (k := p) (ykc_129 (e := (5, .iaload, 0)) rfl) (gv p (by omega)).2.1 (by omega) rfl ?_
    refine w_ret (v := (some (.int (zn (v (8 + p)))))) (ykc_129 (e := (7, .ireturn, 0)) rfl) (zr_v rfl) ?_
    rw [hQ]
    exact rfl
  · show zW n D 129 Q 20 [some (.ref 0), some (.int (zn p)), some (.int (zn 2))] [.int (zn 2)] ph
    refine w_br (pc' := 80) (st' := []) (ykc_129 (e := (4, .tableswitch 113 0 5 #[40, 50, 60, 70, 80, 93], 40)) rfl) (by decide +kernel) ?_
    refine w_load (pc' := 81) (v := .ref 0) (m := 1) (ykc_129 (e := (2, .aload_n kF0, 0)) rfl) rfl rfl ?_
    refine w_gf (pc' := 84) (v := .ref 25) (ykc_129 (e := (5, .getfield 42, 0)) rfl) rfl (zsg hS zs_0_4) rfl ?_
    refine w_gf (pc' := 87) (v := .ref (25 + 3)) (ykc_129 (e := (5, .getfield 180, 0)) rfl) rfl r5 rfl ?_
    refine w_load (pc' := 88) (v := .int (zn p)) (m := 1) (ykc_129 (e := (2, .iload_n kF1, 0)) rfl) rfl rfl ?_
    have q1220 := hO0.1 p (by omega)
    have tq1220 := znt (k := v (16 + p)) (by omega)
    refine w_ialk (pc' := 89) (k := p) (ykc_129 (e := (5, .iaload, 0)) rfl) (gv p (by omega)).2.2.1 (by omega) rfl ?_
    refine w_ret (v := (some (.int (zn (v (16 + p)))))) (ykc_129 (e := (7, .ireturn, 0)) rfl) (zr_v rfl) ?_
    rw [hQ]
    exact rfl
  · show zW n D 129 Q 20 [some (.ref 0), some (.int (zn p)), some (.int (zn 3))] [.int (zn 3)] ph
    refine w_br (pc' := 90) (st' := []) (ykc_129 (e := (4, .tableswitch 113 0 5 #[40, 50, 60, 70, 80, 93], 40)) rfl) (by decide +kernel) ?_
    refine w_load (pc' := 91) (v := .ref 0) (m := 1) (ykc_129 (e := (2, .aload_n kF0, 0)) rfl) rfl rfl ?_
    refine w_gf (pc' := 94) (v := .ref 25) (ykc_129 (e := (5, .getfield 42, 0)) rfl) rfl (zsg hS zs_0_4) rfl ?_
    refine w_gf (pc' := 97) (v := .ref (25 + 4)) (ykc_129 (e := (5, .getfield 183, 0)) rfl) rfl r6 rfl ?_
    refine w_load (pc' := 98) (v := .int (zn p)) (m := 1) (ykc_129 (e := (2, .iload_n kF1, 0)) rfl) rfl rfl ?_
    have q1221 := hO0.1 p (by omega)
    have tq1221 := znt (k := v (24 + p)) (by omega)
    refine w_ialk (pc' := 99) (k := p) (ykc_129 (e := (5, .iaload, 0)) rfl) (gv p (by omega)).2.2.2 (by omega) rfl ?_
    refine w_ret (v := (some (.int (zn (v (24 + p)))))) (ykc_129 (e := (7, .ireturn, 0)) rfl) (zr_v rfl) ?_
    rw [hQ]
    exact rfl
  · show zW n D 129 Q 20 [some (.ref 0), some (.int (zn p)), some (.int (zn 4))] [.int (zn 4)] ph
    refine w_br (pc' := 100) (st' := []) (ykc_129 (e := (4, .tableswitch 113 0 5 #[40, 50, 60, 70, 80, 93], 40)) rfl) (by decide +kernel) ?_
    refine w_load (pc' := 101) (v := .ref 0) (m := 1) (ykc_129 (e := (2, .aload_n kF0, 0)) rfl) rfl rfl ?_
    refine w_gf (pc' := 104) (v := .ref 10) (ykc_129 (e := (5, .getfield 35, 0)) rfl) rfl (zsg hS zs_0_3) rfl ?_
    refine w_load (pc' := 105) (v := .ref 0) (m := 1) (ykc_129 (e := (2, .aload_n kF0, 0)) rfl) rfl rfl ?_
    refine w_gf (pc' := 108) (v := .ref 25) (ykc_129 (e := (5, .getfield 42, 0)) rfl) rfl (zsg hS zs_0_4) rfl ?_
    refine w_load (pc' := 109) (v := .int (zn p)) (m := 1) (ykc_129 (e := (2, .iload_n kF1, 0)) rfl) rfl rfl ?_
    refine w_cv (as := [.ref 10, .ref 25, .int (zn p)]) (r := []) (ykc_129 (e := (6, .invokevirtual 186, 0)) rfl) rfl rfl rfl rfl (zc_reachP hS hE0 ht hO0 hr (p := p) (by omega)) (fun v1223 ph1224 hv => ?_)
    obtain ⟨f1222, rfl⟩ := hv
    show zW n D 129 Q 112 [some (.ref 0), some (.int (zn p)), some (.int (zn 4))] [.int (zn (zRe (R, C, rk, sn, sk, cn, cd) P v p (v (16 + p))))] ph1224
    refine w_ret (v := (some (.int (zn (zRe (R, C, rk, sn, sk, cn, cd) P v p (v (16 + p))))))) (ykc_129 (e := (7, .ireturn, 0)) rfl) (zr_v rfl) ?_
    rw [hQ]
    exact rfl
  · show zW n D 129 Q 20 [some (.ref 0), some (.int (zn p)), some (.int (zn 5))] [.int (zn 5)] ph
    refine w_br (pc' := 113) (st' := []) (ykc_129 (e := (4, .tableswitch 113 0 5 #[40, 50, 60, 70, 80, 93], 40)) rfl) (by decide +kernel) ?_
    refine w_load (pc' := 114) (v := .ref 0) (m := 1) (ykc_129 (e := (2, .aload_n kF0, 0)) rfl) rfl rfl ?_
    refine w_gf (pc' := 117) (v := .ref 25) (ykc_129 (e := (5, .getfield 42, 0)) rfl) rfl (zsg hS zs_0_4) rfl ?_
    refine w_load (pc' := 118) (v := .ref 0) (m := 1) (ykc_129 (e := (2, .aload_n kF0, 0)) rfl) rfl rfl ?_
    refine w_gf (pc' := 121) (v := .ref 10) (ykc_129 (e := (5, .getfield 35, 0)) rfl) rfl (zsg hS zs_0_3) rfl ?_
    refine w_load (pc' := 122) (v := .ref 0) (m := 1) (ykc_129 (e := (2, .aload_n kF0, 0)) rfl) rfl rfl ?_
    refine w_gf (pc' := 125) (v := .ref 25) (ykc_129 (e := (5, .getfield 42, 0)) rfl) rfl (zsg hS zs_0_4) rfl ?_
    refine w_load (pc' := 126) (v := .int (zn p)) (m := 1) (ykc_129 (e := (2, .iload_n kF1, 0)) rfl) rfl rfl ?_
    refine w_cv (as := [.ref 10, .ref 25, .int (zn p)]) (r := [.ref 25]) (ykc_129 (e := (6, .invokevirtual 190, 0)) rfl) rfl rfl rfl rfl (zc_viewOf hS hE0 ht hO0 hr hc0 (p := p) (by omega)) (fun v1227 ph1228 hv => ?_)
    obtain ⟨f1225, hc1226, rfl⟩ := hv
    show zW n D 129 Q 129 [some (.ref 0), some (.int (zn p)), some (.int (zn 5))] [.long (zVw (R, C, rk, sn, sk, cn, cd) P v p), .ref 25] ph1228
    refine w_cv (as := [.ref 25, .long (zVw (R, C, rk, sn, sk, cn, cd) P v p)]) (r := []) (ykc_129 (e := (6, .invokevirtual 194, 0)) rfl) rfl rfl rfl rfl (zc_ton (zCx_t f1225 ht).1.2 (zCx_t f1225 ht).2 (x := zVw (R, C, rk, sn, sk, cn, cd) P v p) (fun i hi => by have := hO0.2.1 i hi; omega)) (fun v1229 ph1230 hv => ?_)
    obtain ⟨rfl, rfl⟩ := hv
    show zW n D 129 Q 132 [some (.ref 0), some (.int (zn p)), some (.int (zn 5))] [.int (zTon G v (zVw (R, C, rk, sn, sk, cn, cd) P v p))] ph1228
    refine w_ret (v := (some (.int (zTon G v (zVw (R, C, rk, sn, sk, cn, cd) P v p))))) (ykc_129 (e := (7, .ireturn, 0)) rfl) (zr_v rfl) ?_
    rw [hQ]
    exact rfl
  
theorem zc_thgX {ph : pm_H} {E : zEn} {F P G : Nat} {v : Nat → Nat} (hS : zSh ph) (hE : zCe ph E F) (ht : zCt ph 25 P G v) (hO : zOk E.1 E.2.1 P G v) (hr : zc ph 10 1 = some (.ref F)) (hc : zCc ph E.1 E.2.1 E.2.2.1) {p y : Nat} (hp : p < G) (hy : y < 3) : zM 130 [.ref 0, .int (zn p), .int (zn y)] ph (fun v0 _ => v0 = some (.int (zXthg E P v p y))) := by
  obtain ⟨Q, hQ⟩ : ∃ Q : Option Value → pm_H → Prop, Q = (fun v0 _ => v0 = some (.int (zXthg E P v p y))) := ⟨_, rfl⟩
  rw [← hQ]
  refine zM_mk fun n D => ?_
  show zW n D 130 Q 0 [some (.ref 0), some (.int (zn p)), some (.int (zn y))] [] ph
  obtain ⟨R, C, rk, sn, sk, cn, cd⟩ := E
  have hL0 : zCl ph R C rk := hE.1
  have hi0 : zCi ph sn sk := hE.2.1
  have hF : F = 11 ∨ F = 16 := hE.2.2.2
  have hE0 : zCe ph (R, C, rk, sn, sk, cn, cd) F := hE
  have hO0 : zOk R C P G v := hO
  have hL := hL0
  have hs := ht.1.2
  have hd := ht.2
  have h25 := ht.1.1
  obtain ⟨gR, gC, gN, gK, gA, hR3, hR7, hC3, hC7⟩ := hL
  have hRC := zRC49 hR7 hC7
  have tR := znt (k := R) (by omega)
  have tC := znt (k := C) (by omega)
  have tRC := znt (k := R * C) (by omega)
  have hd0 := hd
  have hs0 := hs
  obtain ⟨r3, r4, r5, r6, r7, l1, l2, l3, l4, l5⟩ := hs
  obtain ⟨gP, hP8, gG, hG8, gH, gv, gw⟩ := hd
  have tP := znt (k := P) (by omega)
  have tG := znt (k := G) (by omega)
  have h40 := hO0.2.2
  have t40 := znt (k := v 40) (by omega)
  have hc0 := hc
  have tp := znt (k := p) (by omega)
  have ty := znt (k := y) (by omega)
  have op := hO0.2.1 p hp
  have hP8 : P ≤ 8 := hd0.2.1
  refine w_load (pc' := 1) (v := .ref 0) (m := 1) (ykc_130 (e := (2, .aload_n kF0, 0)) rfl) rfl rfl ?_
  refine w_gf (pc' := 4) (v := .ref 25) (ykc_130 (e := (5, .getfield 42, 0)) rfl) rfl (zsg hS zs_0_4) rfl ?_
  refine w_load (pc' := 5) (v := .int (zn p)) (m := 1) (ykc_130 (e := (2, .iload_n kF1, 0)) rfl) rfl rfl ?_
  refine w_cv (as := [.ref 25, .int (zn p)]) (r := []) (ykc_130 (e := (6, .invokevirtual 198, 0)) rfl) rfl rfl rfl rfl (zc_hasT ht.1.2 ht.2 (i := (zn p))) (fun v1231 ph1232 hv => ?_)
  obtain ⟨rfl, rfl⟩ := hv
  show zW n D 130 Q 8 [some (.ref 0), some (.int (zn p)), some (.int (zn y))] [.int (zI (decide (0 ≤ (zn p).toInt ∧ (zn p).toInt < ((G : Nat) : Int))))] ph
  refine w_bne (ykc_130 (e := (4, .ifCond .ne 11, 19)) rfl) rfl (fun b1233 => ?_) (fun q => by have := of_decide_eq_false q; omega)
  refine w_load (pc' := 20) (v := .int (zn y)) (m := 1) (ykc_130 (e := (2, .iload_n kF2, 0)) rfl) rfl rfl ?_
  rcases (show y = 0 ∨ y = 1 ∨ y = 2 by omega) with rfl | rfl | rfl
  · show zW n D 130 Q 20 [some (.ref 0), some (.int (zn p)), some (.int (zn 0))] [.int (zn 0)] ph
    refine w_br (pc' := 48) (st' := []) (ykc_130 (e := (4, .tableswitch 80 0 2 #[28, 38, 47], 28)) rfl) (by decide +kernel) ?_
    refine w_load (pc' := 49) (v := .ref 0) (m := 1) (ykc_130 (e := (2, .aload_n kF0, 0)) rfl) rfl rfl ?_
    refine w_gf (pc' := 52) (v := .ref 25) (ykc_130 (e := (5, .getfield 42, 0)) rfl) rfl (zsg hS zs_0_4) rfl ?_
    refine w_gf (pc' := 55) (v := .ref (25 + 5)) (ykc_130 (e := (5, .getfield 201, 0)) rfl) rfl r7 rfl ?_
    refine w_load (pc' := 56) (v := .int (zn p)) (m := 1) (ykc_130 (e := (2, .iload_n kF1, 0)) rfl) rfl rfl ?_
    have q1234 := hO0.2.1 p (by omega)
    have tq1234 := znt (k := v (32 + p)) (by omega)
    refine w_ialk (pc' := 57) (k := p) (ykc_130 (e := (5, .iaload, 0)) rfl) (gw p (by omega)) (by omega) rfl ?_
    refine w_ret (v := (some (.int (zn (v (32 + p)))))) (ykc_130 (e := (7, .ireturn, 0)) rfl) (zr_v rfl) ?_
    rw [hQ]
    exact rfl
  · show zW n D 130 Q 20 [some (.ref 0), some (.int (zn p)), some (.int (zn 1))] [.int (zn 1)] ph
    refine w_br (pc' := 58) (st' := []) (ykc_130 (e := (4, .tableswitch 80 0 2 #[28, 38, 47], 28)) rfl) (by decide +kernel) ?_
    refine w_load (pc' := 59) (v := .ref 0) (m := 1) (ykc_130 (e := (2, .aload_n kF0, 0)) rfl) rfl rfl ?_
    refine w_gf (pc' := 62) (v := .ref 25) (ykc_130 (e := (5, .getfield 42, 0)) rfl) rfl (zsg hS zs_0_4) rfl ?_
    refine w_load (pc' := 63) (v := .int (zn p)) (m := 1) (ykc_130 (e := (2, .iload_n kF1, 0)) rfl) rfl rfl ?_
    refine w_cv (as := [.ref 25, .int (zn p)]) (r := []) (ykc_130 (e := (6, .invokevirtual 204, 0)) rfl) rfl rfl rfl rfl (zc_knw ht.1.2 hd0 (t := p) (by omega)) (fun v1235 ph1236 hv => ?_)
    obtain ⟨rfl, rfl⟩ := hv
    show zW n D 130 Q 66 [some (.ref 0), some (.int (zn p)), some (.int (zn 1))] [.int (zXkn v p P)] ph
    refine w_ret (v := (some (.int (zXkn v p P)))) (ykc_130 (e := (7, .ireturn, 0)) rfl) (zr_v rfl) ?_
    rw [hQ, zXkn_e (v := v) (t := p) (n := P) hP8 (by omega) (fun q hq => (hO0.1 q hq).2.2.2)]
    exact rfl
  · show zW n D 130 Q 20 [some (.ref 0), some (.int (zn p)), some (.int (zn 2))] [.int (zn 2)] ph
    refine w_br (pc' := 67) (st' := []) (ykc_130 (e := (4, .tableswitch 80 0 2 #[28, 38, 47], 28)) rfl) (by decide +kernel) ?_
    refine w_load (pc' := 68) (v := .ref 0) (m := 1) (ykc_130 (e := (2, .aload_n kF0, 0)) rfl) rfl rfl ?_
    refine w_gf (pc' := 71) (v := .ref 10) (ykc_130 (e := (5, .getfield 35, 0)) rfl) rfl (zsg hS zs_0_3) rfl ?_
    refine w_load (pc' := 72) (v := .ref 0) (m := 1) (ykc_130 (e := (2, .aload_n kF0, 0)) rfl) rfl rfl ?_
    refine w_gf (pc' := 75) (v := .ref 25) (ykc_130 (e := (5, .getfield 42, 0)) rfl) rfl (zsg hS zs_0_4) rfl ?_
    refine w_cv (as := [.ref 10, .ref 25]) (r := []) (ykc_130 (e := (6, .invokevirtual 208, 0)) rfl) rfl rfl rfl rfl (zc_lookR hS hE0 ht hO0 hr hc0) (fun v1239 ph1240 hv => ?_)
    obtain ⟨f1237, hc1238, hvw, rfl⟩ := hv
    show zW n D 130 Q 78 [some (.ref 0), some (.int (zn p)), some (.int (zn 2))] [.long (zAll (R, C, rk, sn, sk, cn, cd) P v)] ph1240
    refine w_alu (pc' := 79) (st' := []) (ykc_130 (e := (0, .pop2, 0)) rfl) rfl rfl ?_
    refine w_load (pc' := 80) (v := .ref 0) (m := 1) (ykc_130 (e := (2, .aload_n kF0, 0)) rfl) rfl rfl ?_
    refine w_gf (pc' := 83) (v := .ref 10) (ykc_130 (e := (5, .getfield 35, 0)) rfl) rfl ((f1237.1 0 3 (by decide) (by decide)).trans (zsg hS zs_0_3)) rfl ?_
    refine w_load (pc' := 84) (v := .ref 0) (m := 1) (ykc_130 (e := (2, .aload_n kF0, 0)) rfl) rfl rfl ?_
    refine w_gf (pc' := 87) (v := .ref 25) (ykc_130 (e := (5, .getfield 42, 0)) rfl) rfl ((f1237.1 0 4 (by decide) (by decide)).trans (zsg hS zs_0_4)) rfl ?_
    refine w_load (pc' := 88) (v := .ref 0) (m := 1) (ykc_130 (e := (2, .aload_n kF0, 0)) rfl) rfl rfl ?_
    refine w_gf (pc' := 91) (v := .ref 25) (ykc_130 (e := (5, .getfield 42, 0)) rfl) rfl ((f1237.1 0 4 (by decide) (by decide)).trans (zsg hS zs_0_4)) rfl ?_
    refine w_gf (pc' := 94) (v := .ref (25 + 5)) (ykc_130 (e := (5, .getfield 201, 0)) rfl) rfl ((f1237.1 25 7 (by decide) (by decide)).trans r7) rfl ?_
    refine w_load (pc' := 95) (v := .int (zn p)) (m := 1) (ykc_130 (e := (2, .iload_n kF1, 0)) rfl) rfl rfl ?_
    have q1241 := hO0.2.1 p (by omega)
    have tq1241 := znt (k := v (32 + p)) (by omega)
    refine w_ialk (pc' := 96) (k := p) (ykc_130 (e := (5, .iaload, 0)) rfl) ((f1237.1 (25 + 5) p (by simp <;> omega) (by simp <;> omega)).trans (gw p (by omega))) (by omega) rfl ?_
    refine w_cv (as := [.ref 10, .ref 25, .int (zn (v (32 + p)))]) (r := []) (ykc_130 (e := (6, .invokevirtual 212, 0)) rfl) rfl rfl rfl rfl (zc_seers (zCx_S f1237 hS) (zCx_e f1237 hE0) (zCx_t f1237 ht) hO0 hvw (g := v (32 + p)) (show v (32 + p) < R * C by omega)) (fun v1242 ph1243 hv => ?_)
    obtain ⟨rfl, rfl⟩ := hv
    show zW n D 130 Q 99 [some (.ref 0), some (.int (zn p)), some (.int (zn 2))] [.int (zWho (R, C, rk, sn, sk, cn, cd) P v (v (32 + p)))] ph1240
    refine w_ret (v := (some (.int (zWho (R, C, rk, sn, sk, cn, cd) P v (v (32 + p)))))) (ykc_130 (e := (7, .ireturn, 0)) rfl) (zr_v rfl) ?_
    rw [hQ]
    exact rfl
  
theorem zm_refuse {ph : pm_H} : zM 181 [.ref 170] ph (fun v0 q => zFr [] [(170, 0)] ph q ∧ zc q 170 0 = some (.int (Int32.ofInt 1)) ∧ v0 = some (.int (Int32.ofInt 0))) := by
  obtain ⟨Q, hQ⟩ : ∃ Q : Option Value → pm_H → Prop, Q = (fun v0 q => zFr [] [(170, 0)] ph q ∧ zc q 170 0 = some (.int (Int32.ofInt 1)) ∧ v0 = some (.int (Int32.ofInt 0))) := ⟨_, rfl⟩
  rw [← hQ]
  refine zM_mk fun n D => ?_
  show zW n D 181 Q 0 [some (.ref 170)] [] ph
  have c_0 : (Int32.ofInt 0).toInt = 0 := by decide
  have c_1 : (Int32.ofInt 1).toInt = 1 := by decide
  refine w_load (pc' := 1) (v := .ref 170) (m := 1) (ykc_181 (e := (2, .aload_n kF0, 0)) rfl) rfl rfl ?_
  refine w_alu (pc' := 2) (st' := [.int (Int32.ofInt 1), .ref 170]) (ykc_181 (e := (0, .iconst 1, 0)) rfl) rfl rfl ?_
  refine w_pf (pc' := 5) (ykc_181 (e := (5, .putfield 3, 0)) rfl) rfl rfl (fun ph1245 u1244 => ?_)
  refine w_alu (pc' := 6) (st' := [.int (Int32.ofInt 0)]) (ykc_181 (e := (0, .iconst 0, 0)) rfl) rfl rfl ?_
  refine w_ret (v := (some (.int (Int32.ofInt 0)))) (ykc_181 (e := (7, .ireturn, 0)) rfl) (zr_v rfl) ?_
  rw [hQ]
  exact ⟨zFr_st u1244 (Or.inr (by simp)), u1244.1, rfl⟩
theorem zm_perX {ph : pm_H} {E : zEn} {P G : Nat} {v : Nat → Nat} (hS : zSh ph) (hE : zMe ph E) (hN : zMp ph P G) (hv : zNr ph 174 0 v) (hO : zOk E.1 E.2.1 P G v) {x y : Int32} : zM 235 [.ref 170, .int x, .int y] ph (fun v0 q => zc q 201 0 = zc ph 201 0 ∧ ((((0 ≤ x.toInt ∧ x.toInt < (P : Int)) ∧ 0 ≤ y.toInt ∧ y.toInt ≤ 5) ∧ zc q 170 0 = some (.int (Int32.ofInt 0)) ∧ v0 = some (.int (zXper E P G v (x.toInt.toNat) (y.toInt.toNat)))) ∨ (¬ ((0 ≤ x.toInt ∧ x.toInt < (P : Int)) ∧ 0 ≤ y.toInt ∧ y.toInt ≤ 5) ∧ zc q 170 0 = some (.int (Int32.ofInt 1))))) := by
  obtain ⟨Q, hQ⟩ : ∃ Q : Option Value → pm_H → Prop, Q = (fun v0 q => zc q 201 0 = zc ph 201 0 ∧ ((((0 ≤ x.toInt ∧ x.toInt < (P : Int)) ∧ 0 ≤ y.toInt ∧ y.toInt ≤ 5) ∧ zc q 170 0 = some (.int (Int32.ofInt 0)) ∧ v0 = some (.int (zXper E P G v (x.toInt.toNat) (y.toInt.toNat)))) ∨ (¬ ((0 ≤ x.toInt ∧ x.toInt < (P : Int)) ∧ 0 ≤ y.toInt ∧ y.toInt ≤ 5) ∧ zc q 170 0 = some (.int (Int32.ofInt 1))))) := ⟨_, rfl⟩
  rw [← hQ]
  refine zM_mk fun n D => ?_
  show zW n D 235 Q 0 [some (.ref 170), some (.int x), some (.int y)] [] ph
  have c_0 : ((Int8.ofInt 16).toInt32).toInt = 16 := by decide
  have c_1 : ((Int8.ofInt 24).toInt32).toInt = 24 := by decide
  have c_2 : ((Int8.ofInt 8).toInt32).toInt = 8 := by decide
  have c_3 : (Int32.ofInt 0).toInt = 0 := by decide
  have hA : (174 : Nat) = 174 ∨ (174 : Nat) = 175 := Or.inl rfl
  obtain ⟨R, C, rk, sn, sk, cn, cd⟩ := E
  have hL0 : zMl ph R C rk := hE.1
  have hR0 : zMr ph sn sk cn cd := hE.2.1
  have hcg : zcg cn cd := hE.2.2
  have hE0 : zMe ph (R, C, rk, sn, sk, cn, cd) := hE
  have hO0 : zOk R C P G v := hO
  have hN0 := hN
  have hL := hL0
  have hR := hR0
  obtain ⟨gR, gC, gK, hR3, hR7, hC3, hC7⟩ := hL
  have hRC := zRC49 hR7 hC7
  have tR := znt (k := R) (by omega)
  have tC := znt (k := C) (by omega)
  obtain ⟨gP, hP8, gG, hG8⟩ := hN
  have tP := znt (k := P) (by omega)
  have tG := znt (k := G) (by omega)
  obtain ⟨gsn, hs1, hs20, gsk, gcn, hc40, gcd⟩ := hR
  have tsn := znt (k := sn) (by omega)
  have tcn := znt (k := cn) (by omega)
  refine w_load (pc' := 1) (v := .ref 170) (m := 1) (ykc_235 (e := (2, .aload_n kF0, 0)) rfl) rfl rfl ?_
  refine w_alu (pc' := 2) (st' := [.int (Int32.ofInt 0), .ref 170]) (ykc_235 (e := (0, .iconst 0, 0)) rfl) rfl rfl ?_
  refine w_pf (pc' := 5) (ykc_235 (e := (5, .putfield 3, 0)) rfl) rfl rfl (fun ph1247 u1246 => ?_)
  have f0 : zFr [] [(170, 0)] ph ph1247 := zFr_st u1246 (Or.inr (by simp))
  have hS1 := zSh_st u1246 (by decide +kernel) hS
  have hE1 : zMe ph1247 (R, C, rk, sn, sk, cn, cd) := ⟨zMl_F f0 (by simp) (by simp) (by simp) (by simp) hE0.1, zMr_F f0 (by simp) (by simp) (by simp) (by simp) hE0.2.1, hE0.2.2⟩
  have hN1 := zMp_F f0 (by simp) (by simp) (by simp) hN0
  have hv1 := zNr_F f0 (by simp) (by simp) hv
  have hL1 : zMl ph1247 R C rk := hE1.1
  have hR1 : zMr ph1247 sn sk cn cd := hE1.2.1
  have hP8 : P ≤ 8 := hN0.2.1
  have hG8 : G ≤ 8 := hN0.2.2.2
  refine w_load (pc' := 6) (v := .ref 170) (m := 1) (ykc_235 (e := (2, .aload_n kF0, 0)) rfl) rfl rfl ?_
  refine w_load (pc' := 7) (v := .int x) (m := 1) (ykc_235 (e := (2, .iload_n kF1, 0)) rfl) rfl rfl ?_
  refine w_cv (as := [.ref 170, .int x]) (r := []) (ykc_235 (e := (6, .invokevirtual 315, 0)) rfl) rfl rfl rfl rfl (zm_isPerson hN1 (p := x)) (fun v1248 ph1249 hv => ?_)
  obtain ⟨rfl, rfl⟩ := hv
  show zW n D 235 Q 10 [some (.ref 170), some (.int x), some (.int y)] [.int (zI (decide (0 ≤ x.toInt ∧ x.toInt < ((P : Nat) : Int))))] ph1247
  refine w_beq (ykc_235 (e := (4, .ifCond .eq 15, 25)) rfl) rfl (fun b1250 => ?_) (fun b1250 => ?_)
  · refine w_load (pc' := 26) (v := .ref 170) (m := 1) (ykc_235 (e := (2, .aload_n kF0, 0)) rfl) rfl rfl ?_
    refine w_cv (as := [.ref 170]) (r := []) (ykc_235 (e := (6, .invokevirtual 320, 0)) rfl) rfl rfl rfl rfl (zm_refuse) (fun v1252 ph1253 hv => ?_)
    obtain ⟨u1251, u1251_t, rfl⟩ := hv
    show zW n D 235 Q 29 [some (.ref 170), some (.int x), some (.int y)] [.int (Int32.ofInt 0)] ph1253
    refine w_ret (v := (some (.int (Int32.ofInt 0)))) (ykc_235 (e := (7, .ireturn, 0)) rfl) (zr_v rfl) ?_
    rw [hQ]
    exact ⟨((u1251.1 201 0 (by decide) (by decide)).trans ((u1246.2.1 201 0 (fun q => absurd q.1 (by decide))).trans rfl)), Or.inr ⟨fun q => absurd q.1 (of_decide_eq_false b1250), u1251_t⟩⟩
  · refine w_load (pc' := 14) (v := .int y) (m := 1) (ykc_235 (e := (2, .iload_n kF2, 0)) rfl) rfl rfl ?_
    refine w_alu (pc' := 15) (st' := [.long y.toInt64]) (ykc_235 (e := (0, .i2l, 0)) rfl) rfl rfl ?_
    refine w_alu (pc' := 16) (st' := [.long (Int64.ofNat kG0), .long y.toInt64]) (ykc_235 (e := (0, .lconst kG0, 0)) rfl) rfl rfl ?_
    refine w_push (pc' := 19) (v := .long (5 : Int64)) (m := 3) (ykc_235 (e := (1, .ldc2_w 318, 0)) rfl) rfl rfl ?_
    refine w_cs (as := [.long y.toInt64, .long (Int64.ofNat kG0), .long (5 : Int64)]) (r := []) (ykc_235 (e := (6, .invokestatic 126, 0)) rfl) rfl rfl rfl rfl (zm_in (x := y.toInt) (y := (0 : Int)) (z := (5 : Int)) (by first | exact ztl | (rw [ztl]; omega) | decide | omega) (by first | exact ztl | (rw [ztl]; omega) | decide | omega) (by first | exact ztl | (rw [ztl]; omega) | decide | omega)) (fun v1254 ph1255 hv => ?_)
    obtain ⟨rfl, rfl⟩ := hv
    show zW n D 235 Q 22 [some (.ref 170), some (.int x), some (.int y)] [.int (zI (decide ((0 : Int) ≤ y.toInt ∧ y.toInt ≤ (5 : Int))))] ph1247
    refine w_bne (ykc_235 (e := (4, .ifCond .ne 8, 30)) rfl) rfl (fun b1256 => ?_) (fun b1256 => ?_)
    · have b_1 := of_decide_eq_true b1250
      have b_2 := of_decide_eq_true b1256
      obtain ⟨p, h_p, rfl⟩ : ∃ p : Nat, p < P ∧ x = zn p := ⟨x.toInt.toNat, by omega, zn_of (by omega)⟩
      obtain ⟨y, h_y, rfl⟩ : ∃ k : Nat, k < 6 ∧ y = zn k := ⟨y.toInt.toNat, by omega, zn_of (by omega)⟩
      have tp := znt (k := p) (by omega)
      have ty := znt (k := y) (by omega)
      have op := hO0.1 p h_p
      have exn : (zn p).toInt.toNat = p := by omega
      have eyn : (zn y).toInt.toNat = y := by omega
      rw [exn, eyn] at hQ
      show zW n D 235 Q 30 [some (.ref 170), some (.int (zn p)), some (.int (zn y))] [] ph1247
      refine w_load (pc' := 31) (v := .int (zn y)) (m := 1) (ykc_235 (e := (2, .iload_n kF2, 0)) rfl) rfl rfl ?_
      rcases (show y = 0 ∨ y = 1 ∨ y = 2 ∨ y = 3 ∨ y = 4 ∨ y = 5 by omega) with rfl | rfl | rfl | rfl | rfl | rfl
      · show zW n D 235 Q 31 [some (.ref 170), some (.int (zn p)), some (.int (zn 0))] [.int (zn 0)] ph1247
        refine w_br (pc' := 64) (st' := []) (ykc_235 (e := (4, .tableswitch 89 0 4 #[33, 40, 50, 60, 70], 33)) rfl) (by decide +kernel) ?_
        refine w_load (pc' := 65) (v := .ref 170) (m := 1) (ykc_235 (e := (2, .aload_n kF0, 0)) rfl) rfl rfl ?_
        refine w_gf (pc' := 68) (v := .ref 174) (ykc_235 (e := (5, .getfield 41, 0)) rfl) rfl ((u1246.2.1 170 11 (fun q => absurd q.2 (by decide))).trans (zsg hS zs_170_11)) rfl ?_
        refine w_load (pc' := 69) (v := .int (zn p)) (m := 1) (ykc_235 (e := (2, .iload_n kF1, 0)) rfl) rfl rfl ?_
        have q1257 := hO0.1 p (by omega)
        have tq1257 := znt (k := v p) (by omega)
        refine w_ialk (pc' := 70) (k := p) (ykc_235 (e := (5, .iaload, 0)) rfl) ((u1246.2.1 174 p (fun q => absurd q.1 (by decide))).trans (zNr0 hv (i := p) (by omega))) (by omega) rfl ?_
        refine w_ret (v := (some (.int (zn (v p))))) (ykc_235 (e := (7, .ireturn, 0)) rfl) (zr_v rfl) ?_
        rw [hQ]
        exact ⟨((u1246.2.1 201 0 (fun q => absurd q.1 (by decide))).trans rfl), Or.inl ⟨⟨b_1, b_2⟩, u1246.1, rfl⟩⟩
      · show zW n D 235 Q 31 [some (.ref 170), some (.int (zn p)), some (.int (zn 1))] [.int (zn 1)] ph1247
        refine w_br (pc' := 71) (st' := []) (ykc_235 (e := (4, .tableswitch 89 0 4 #[33, 40, 50, 60, 70], 33)) rfl) (by decide +kernel) ?_
        refine w_load (pc' := 72) (v := .ref 170) (m := 1) (ykc_235 (e := (2, .aload_n kF0, 0)) rfl) rfl rfl ?_
        refine w_gf (pc' := 75) (v := .ref 174) (ykc_235 (e := (5, .getfield 41, 0)) rfl) rfl ((u1246.2.1 170 11 (fun q => absurd q.2 (by decide))).trans (zsg hS zs_170_11)) rfl ?_
        refine w_push (pc' := 77) (v := .int ((Int8.ofInt 8).toInt32)) (m := 2) (ykc_235 (e := (1, .bipush 8, 0)) rfl) rfl rfl ?_
        refine w_load (pc' := 78) (v := .int (zn p)) (m := 1) (ykc_235 (e := (2, .iload_n kF1, 0)) rfl) rfl rfl ?_
        have e1258 : ((Int8.ofInt 8).toInt32) + (zn p) = zn (8 + p) := (zaddN (a := 8) (b := p) c_2 (znt (by omega)) (by omega)) 
        have te1258 := znt (k := 8 + p) (by omega)
        refine w_alu (pc' := 79) (st' := [.int (zn (8 + p)), .ref 174]) (ykc_235 (e := (0, .iadd, 0)) rfl) (by rw [← e1258]; rfl) rfl ?_
        have q1259 := hO0.1 p (by omega)
        have tq1259 := znt (k := v (8 + p)) (by omega)
        refine w_ialk (pc' := 80) (k := 8 + p) (ykc_235 (e := (5, .iaload, 0)) rfl) ((u1246.2.1 174 (8 + p) (fun q => absurd q.1 (by decide))).trans (zNr0 hv (i := 8 + p) (by omega))) (by omega) rfl ?_
        refine w_ret (v := (some (.int (zn (v (8 + p)))))) (ykc_235 (e := (7, .ireturn, 0)) rfl) (zr_v rfl) ?_
        rw [hQ]
        exact ⟨((u1246.2.1 201 0 (fun q => absurd q.1 (by decide))).trans rfl), Or.inl ⟨⟨b_1, b_2⟩, u1246.1, rfl⟩⟩
      · show zW n D 235 Q 31 [some (.ref 170), some (.int (zn p)), some (.int (zn 2))] [.int (zn 2)] ph1247
        refine w_br (pc' := 81) (st' := []) (ykc_235 (e := (4, .tableswitch 89 0 4 #[33, 40, 50, 60, 70], 33)) rfl) (by decide +kernel) ?_
        refine w_load (pc' := 82) (v := .ref 170) (m := 1) (ykc_235 (e := (2, .aload_n kF0, 0)) rfl) rfl rfl ?_
        refine w_gf (pc' := 85) (v := .ref 174) (ykc_235 (e := (5, .getfield 41, 0)) rfl) rfl ((u1246.2.1 170 11 (fun q => absurd q.2 (by decide))).trans (zsg hS zs_170_11)) rfl ?_
        refine w_push (pc' := 87) (v := .int ((Int8.ofInt 16).toInt32)) (m := 2) (ykc_235 (e := (1, .bipush 16, 0)) rfl) rfl rfl ?_
        refine w_load (pc' := 88) (v := .int (zn p)) (m := 1) (ykc_235 (e := (2, .iload_n kF1, 0)) rfl) rfl rfl ?_
        have e1260 : ((Int8.ofInt 16).toInt32) + (zn p) = zn (16 + p) := (zaddN (a := 16) (b := p) c_0 (znt (by omega)) (by omega)) 
        have te1260 := znt (k := 16 + p) (by omega)
        refine w_alu (pc' := 89) (st' := [.int (zn (16 + p)), .ref 174]) (ykc_235 (e := (0, .iadd, 0)) rfl) (by rw [← e1260]; rfl) rfl ?_
        have q1261 := hO0.1 p (by omega)
        have tq1261 := znt (k := v (16 + p)) (by omega)
        refine w_ialk (pc' := 90) (k := 16 + p) (ykc_235 (e := (5, .iaload, 0)) rfl) ((u1246.2.1 174 (16 + p) (fun q => absurd q.1 (by decide))).trans (zNr0 hv (i := 16 + p) (by omega))) (by omega) rfl ?_
        refine w_ret (v := (some (.int (zn (v (16 + p)))))) (ykc_235 (e := (7, .ireturn, 0)) rfl) (zr_v rfl) ?_
        rw [hQ]
        exact ⟨((u1246.2.1 201 0 (fun q => absurd q.1 (by decide))).trans rfl), Or.inl ⟨⟨b_1, b_2⟩, u1246.1, rfl⟩⟩
      · show zW n D 235 Q 31 [some (.ref 170), some (.int (zn p)), some (.int (zn 3))] [.int (zn 3)] ph1247
        refine w_br (pc' := 91) (st' := []) (ykc_235 (e := (4, .tableswitch 89 0 4 #[33, 40, 50, 60, 70], 33)) rfl) (by decide +kernel) ?_
        refine w_load (pc' := 92) (v := .ref 170) (m := 1) (ykc_235 (e := (2, .aload_n kF0, 0)) rfl) rfl rfl ?_
        refine w_gf (pc' := 95) (v := .ref 174) (ykc_235 (e := (5, .getfield 41, 0)) rfl) rfl ((u1246.2.1 170 11 (fun q => absurd q.2 (by decide))).trans (zsg hS zs_170_11)) rfl ?_
        refine w_push (pc' := 97) (v := .int ((Int8.ofInt 24).toInt32)) (m := 2) (ykc_235 (e := (1, .bipush 24, 0)) rfl) rfl rfl ?_
        refine w_load (pc' := 98) (v := .int (zn p)) (m := 1) (ykc_235 (e := (2, .iload_n kF1, 0)) rfl) rfl rfl ?_
        have e1262 : ((Int8.ofInt 24).toInt32) + (zn p) = zn (24 + p) := (zaddN (a := 24) (b := p) c_1 (znt (by omega)) (by omega)) 
        have te1262 := znt (k := 24 + p) (by omega)
        refine w_alu (pc' := 99) (st' := [.int (zn (24 + p)), .ref 174]) (ykc_235 (e := (0, .iadd, 0)) rfl) (by rw [← e1262]; rfl) rfl ?_
        have q1263 := hO0.1 p (by omega)
        have tq1263 := znt (k := v (24 + p)) (by omega)
        refine w_ialk (pc' := 100) (k := 24 + p) (ykc_235 (e := (5, .iaload, 0)) rfl) ((u1246.2.1 174 (24 + p) (fun q => absurd q.1 (by decide))).trans (zNr0 hv (i := 24 + p) (by omega))) (by omega) rfl ?_
        refine w_ret (v := (some (.int (zn (v (24 + p)))))) (ykc_235 (e := (7, .ireturn, 0)) rfl) (zr_v rfl) ?_
        rw [hQ]
        exact ⟨((u1246.2.1 201 0 (fun q => absurd q.1 (by decide))).trans rfl), Or.inl ⟨⟨b_1, b_2⟩, u1246.1, rfl⟩⟩
      · show zW n D 235 Q 31 [some (.ref 170), some (.int (zn p)), some (.int (zn 4))] [.int (zn 4)] ph1247
        refine w_br (pc' := 101) (st' := []) (ykc_235 (e := (4, .tableswitch 89 0 4 #[33, 40, 50, 60, 70], 33)) rfl) (by decide +kernel) ?_
        refine w_load (pc' := 102) (v := .ref 170) (m := 1) (ykc_235 (e := (2, .aload_n kF0, 0)) rfl) rfl rfl ?_
        refine w_load (pc' := 103) (v := .ref 170) (m := 1) (ykc_235 (e := (2, .aload_n kF0, 0)) rfl) rfl rfl ?_
        refine w_gf (pc' := 106) (v := .ref 174) (ykc_235 (e := (5, .getfield 41, 0)) rfl) rfl ((u1246.2.1 170 11 (fun q => absurd q.2 (by decide))).trans (zsg hS zs_170_11)) rfl ?_
        refine w_load (pc' := 107) (v := .int (zn p)) (m := 1) (ykc_235 (e := (2, .iload_n kF1, 0)) rfl) rfl rfl ?_
        refine w_load (pc' := 108) (v := .ref 170) (m := 1) (ykc_235 (e := (2, .aload_n kF0, 0)) rfl) rfl rfl ?_
        refine w_gf (pc' := 111) (v := .ref 174) (ykc_235 (e := (5, .getfield 41, 0)) rfl) rfl ((u1246.2.1 170 11 (fun q => absurd q.2 (by decide))).trans (zsg hS zs_170_11)) rfl ?_
        refine w_push (pc' := 113) (v := .int ((Int8.ofInt 16).toInt32)) (m := 2) (ykc_235 (e := (1, .bipush 16, 0)) rfl) rfl rfl ?_
        refine w_load (pc' := 114) (v := .int (zn p)) (m := 1) (ykc_235 (e := (2, .iload_n kF1, 0)) rfl) rfl rfl ?_
        have e1264 : ((Int8.ofInt 16).toInt32) + (zn p) = zn (16 + p) := (zaddN (a := 16) (b := p) c_0 (znt (by omega)) (by omega)) 
        have te1264 := znt (k := 16 + p) (by omega)
        refine w_alu (pc' := 115) (st' := [.int (zn (16 + p)), .ref 174, .int (zn p), .ref 174, .ref 170]) (ykc_235 (e := (0, .iadd, 0)) rfl) (by rw [← e1264]; rfl) rfl ?_
        have q1265 := hO0.1 p (by omega)
        have tq1265 := znt (k := v (16 + p)) (by omega)
        refine w_ialk (pc' := 116) (k := 16 + p) (ykc_235 (e := (5, .iaload, 0)) rfl) ((u1246.2.1 174 (16 + p) (fun q => absurd q.1 (by decide))).trans (zNr0 hv (i := 16 + p) (by omega))) (by omega) rfl ?_
        refine w_cv (as := [.ref 170, .ref 174, .int (zn p), .int (zn (v (16 + p)))]) (r := []) (ykc_235 (e := (6, .invokevirtual 292, 0)) rfl) rfl rfl rfl rfl (zm_reach hS1 hE1 hN1 (⟨hA, hv1⟩ : ((174 : Nat) = 174 ∨ (174 : Nat) = 175) ∧ zNr ph1247 174 0 v).1 (⟨hA, hv1⟩ : ((174 : Nat) = 174 ∨ (174 : Nat) = 175) ∧ zNr ph1247 174 0 v).2 hO0 (p := p) (br := v (16 + p)) (by omega) (by omega)) (fun v1267 ph1268 hv => ?_)
        obtain ⟨f1266, rfl⟩ := hv
        have rf1266 := @zRe_9 (R, C, rk, sn, sk, cn, cd) P v p (v (16 + p))
        have trf1266 := znt (k := zRe (R, C, rk, sn, sk, cn, cd) P v p (v (16 + p))) (by omega)
        show zW n D 235 Q 119 [some (.ref 170), some (.int (zn p)), some (.int (zn 4))] [.int (zn (zRe (R, C, rk, sn, sk, cn, cd) P v p (v (16 + p))))] ph1268
        refine w_ret (v := (some (.int (zn (zRe (R, C, rk, sn, sk, cn, cd) P v p (v (16 + p))))))) (ykc_235 (e := (7, .ireturn, 0)) rfl) (zr_v rfl) ?_
        rw [hQ]
        exact ⟨((f1266.1 201 0 (by decide) (by decide)).trans ((u1246.2.1 201 0 (fun q => absurd q.1 (by decide))).trans rfl)), Or.inl ⟨⟨b_1, b_2⟩, ((f1266.1 170 0 (by decide) (by decide)).trans u1246.1), rfl⟩⟩
      · show zW n D 235 Q 31 [some (.ref 170), some (.int (zn p)), some (.int (zn 5))] [.int (zn 5)] ph1247
        refine w_br (pc' := 120) (st' := []) (ykc_235 (e := (4, .tableswitch 89 0 4 #[33, 40, 50, 60, 70], 33)) rfl) (by decide +kernel) ?_
        refine w_load (pc' := 121) (v := .ref 170) (m := 1) (ykc_235 (e := (2, .aload_n kF0, 0)) rfl) rfl rfl ?_
        refine w_load (pc' := 122) (v := .ref 170) (m := 1) (ykc_235 (e := (2, .aload_n kF0, 0)) rfl) rfl rfl ?_
        refine w_gf (pc' := 125) (v := .ref 174) (ykc_235 (e := (5, .getfield 41, 0)) rfl) rfl ((u1246.2.1 170 11 (fun q => absurd q.2 (by decide))).trans (zsg hS zs_170_11)) rfl ?_
        refine w_load (pc' := 126) (v := .ref 170) (m := 1) (ykc_235 (e := (2, .aload_n kF0, 0)) rfl) rfl rfl ?_
        refine w_load (pc' := 127) (v := .ref 170) (m := 1) (ykc_235 (e := (2, .aload_n kF0, 0)) rfl) rfl rfl ?_
        refine w_gf (pc' := 130) (v := .ref 174) (ykc_235 (e := (5, .getfield 41, 0)) rfl) rfl ((u1246.2.1 170 11 (fun q => absurd q.2 (by decide))).trans (zsg hS zs_170_11)) rfl ?_
        refine w_load (pc' := 131) (v := .int (zn p)) (m := 1) (ykc_235 (e := (2, .iload_n kF1, 0)) rfl) rfl rfl ?_
        refine w_cv (as := [.ref 170, .ref 174, .int (zn p)]) (r := [.ref 174, .ref 170]) (ykc_235 (e := (6, .invokevirtual 300, 0)) rfl) rfl rfl rfl rfl (zm_seen hS1 hE1 hN1 (⟨hA, hv1⟩ : ((174 : Nat) = 174 ∨ (174 : Nat) = 175) ∧ zNr ph1247 174 0 v).1 (⟨hA, hv1⟩ : ((174 : Nat) = 174 ∨ (174 : Nat) = 175) ∧ zNr ph1247 174 0 v).2 hO0 (p := p) (by omega)) (fun v1270 ph1271 hv => ?_)
        obtain ⟨f1269, rfl⟩ := hv
        show zW n D 235 Q 134 [some (.ref 170), some (.int (zn p)), some (.int (zn 5))] [.long (zVw (R, C, rk, sn, sk, cn, cd) P v p), .ref 174, .ref 170] ph1271
        refine w_cv (as := [.ref 170, .ref 174, .long (zVw (R, C, rk, sn, sk, cn, cd) P v p)]) (r := []) (ykc_235 (e := (6, .invokevirtual 323, 0)) rfl) rfl rfl rfl rfl (zm_ton (zSc_S f1269 hS1) (zSc_e f1269 hE1) (zSc_p f1269 hN1) (zSc_a f1269 (⟨hA, hv1⟩ : ((174 : Nat) = 174 ∨ (174 : Nat) = 175) ∧ zNr ph1247 174 0 v)).1 (zSc_a f1269 (⟨hA, hv1⟩ : ((174 : Nat) = 174 ∨ (174 : Nat) = 175) ∧ zNr ph1247 174 0 v)).2 hO0 (x := zVw (R, C, rk, sn, sk, cn, cd) P v p)) (fun v1272 ph1273 hv => ?_)
        obtain ⟨rfl, rfl⟩ := hv
        show zW n D 235 Q 137 [some (.ref 170), some (.int (zn p)), some (.int (zn 5))] [.int (zTon G v (zVw (R, C, rk, sn, sk, cn, cd) P v p))] ph1271
        refine w_ret (v := (some (.int (zTon G v (zVw (R, C, rk, sn, sk, cn, cd) P v p))))) (ykc_235 (e := (7, .ireturn, 0)) rfl) (zr_v rfl) ?_
        rw [hQ]
        exact ⟨((f1269.1 201 0 (by decide) (by decide)).trans ((u1246.2.1 201 0 (fun q => absurd q.1 (by decide))).trans rfl)), Or.inl ⟨⟨b_1, b_2⟩, ((f1269.1 170 0 (by decide) (by decide)).trans u1246.1), rfl⟩⟩
      
    · refine w_load (pc' := 26) (v := .ref 170) (m := 1) (ykc_235 (e := (2, .aload_n kF0, 0)) rfl) rfl rfl ?_
      refine w_cv (as := [.ref 170]) (r := []) (ykc_235 (e := (6, .invokevirtual 320, 0)) rfl) rfl rfl rfl rfl (zm_refuse) (fun v1275 ph1276 hv => ?_)
      obtain ⟨u1274, u1274_t, rfl⟩ := hv
      show zW n D 235 Q 29 [some (.ref 170), some (.int x), some (.int y)] [.int (Int32.ofInt 0)] ph1276
      refine w_ret (v := (some (.int (Int32.ofInt 0)))) (ykc_235 (e := (7, .ireturn, 0)) rfl) (zr_v rfl) ?_
      rw [hQ]
      exact ⟨((u1274.1 201 0 (by decide) (by decide)).trans ((u1246.2.1 201 0 (fun q => absurd q.1 (by decide))).trans rfl)), Or.inr ⟨fun q => absurd q.2 (of_decide_eq_false b1256), u1274_t⟩⟩
theorem zm_thgX {ph : pm_H} {E : zEn} {P G : Nat} {v : Nat → Nat} (hS : zSh ph) (hE : zMe ph E) (hN : zMp ph P G) (hv : zNr ph 174 0 v) (hO : zOk E.1 E.2.1 P G v) {x y : Int32} : zM 236 [.ref 170, .int x, .int y] ph (fun v0 q => zc q 201 0 = zc ph 201 0 ∧ ((((0 ≤ x.toInt ∧ x.toInt < (G : Int)) ∧ 0 ≤ y.toInt ∧ y.toInt ≤ 2) ∧ zc q 170 0 = some (.int (Int32.ofInt 0)) ∧ v0 = some (.int (zXthg E P v (x.toInt.toNat) (y.toInt.toNat)))) ∨ (¬ ((0 ≤ x.toInt ∧ x.toInt < (G : Int)) ∧ 0 ≤ y.toInt ∧ y.toInt ≤ 2) ∧ zc q 170 0 = some (.int (Int32.ofInt 1))))) := by
  obtain ⟨Q, hQ⟩ : ∃ Q : Option Value → pm_H → Prop, Q = (fun v0 q => zc q 201 0 = zc ph 201 0 ∧ ((((0 ≤ x.toInt ∧ x.toInt < (G : Int)) ∧ 0 ≤ y.toInt ∧ y.toInt ≤ 2) ∧ zc q 170 0 = some (.int (Int32.ofInt 0)) ∧ v0 = some (.int (zXthg E P v (x.toInt.toNat) (y.toInt.toNat)))) ∨ (¬ ((0 ≤ x.toInt ∧ x.toInt < (G : Int)) ∧ 0 ≤ y.toInt ∧ y.toInt ≤ 2) ∧ zc q 170 0 = some (.int (Int32.ofInt 1))))) := ⟨_, rfl⟩
  rw [← hQ]
  refine zM_mk fun n D => ?_
  show zW n D 236 Q 0 [some (.ref 170), some (.int x), some (.int y)] [] ph
  have c_0 : ((Int8.ofInt 32).toInt32).toInt = 32 := by decide
  have c_1 : (Int32.ofInt 0).toInt = 0 := by decide
  have c_2 : (Int32.ofInt 1).toInt = 1 := by decide
  have hA : (174 : Nat) = 174 ∨ (174 : Nat) = 175 := Or.inl rfl
  obtain ⟨R, C, rk, sn, sk, cn, cd⟩ := E
  have hL0 : zMl ph R C rk := hE.1
  have hR0 : zMr ph sn sk cn cd := hE.2.1
  have hcg : zcg cn cd := hE.2.2
  have hE0 : zMe ph (R, C, rk, sn, sk, cn, cd) := hE
  have hO0 : zOk R C P G v := hO
  have hN0 := hN
  have hL := hL0
  have hR := hR0
  obtain ⟨gR, gC, gK, hR3, hR7, hC3, hC7⟩ := hL
  have hRC := zRC49 hR7 hC7
  have tR := znt (k := R) (by omega)
  have tC := znt (k := C) (by omega)
  obtain ⟨gP, hP8, gG, hG8⟩ := hN
  have tP := znt (k := P) (by omega)
  have tG := znt (k := G) (by omega)
  obtain ⟨gsn, hs1, hs20, gsk, gcn, hc40, gcd⟩ := hR
  have tsn := znt (k := sn) (by omega)
  have tcn := znt (k := cn) (by omega)
  refine w_load (pc' := 1) (v := .ref 170) (m := 1) (ykc_236 (e := (2, .aload_n kF0, 0)) rfl) rfl rfl ?_
  refine w_alu (pc' := 2) (st' := [.int (Int32.ofInt 0), .ref 170]) (ykc_236 (e := (0, .iconst 0, 0)) rfl) rfl rfl ?_
  refine w_pf (pc' := 5) (ykc_236 (e := (5, .putfield 3, 0)) rfl) rfl rfl (fun ph1278 u1277 => ?_)
  have f0 : zFr [] [(170, 0)] ph ph1278 := zFr_st u1277 (Or.inr (by simp))
  have hS1 := zSh_st u1277 (by decide +kernel) hS
  have hE1 : zMe ph1278 (R, C, rk, sn, sk, cn, cd) := ⟨zMl_F f0 (by simp) (by simp) (by simp) (by simp) hE0.1, zMr_F f0 (by simp) (by simp) (by simp) (by simp) hE0.2.1, hE0.2.2⟩
  have hN1 := zMp_F f0 (by simp) (by simp) (by simp) hN0
  have hv1 := zNr_F f0 (by simp) (by simp) hv
  have hL1 : zMl ph1278 R C rk := hE1.1
  have hR1 : zMr ph1278 sn sk cn cd := hE1.2.1
  have hP8 : P ≤ 8 := hN0.2.1
  have hG8 : G ≤ 8 := hN0.2.2.2
  refine w_load (pc' := 6) (v := .ref 170) (m := 1) (ykc_236 (e := (2, .aload_n kF0, 0)) rfl) rfl rfl ?_
  refine w_load (pc' := 7) (v := .int x) (m := 1) (ykc_236 (e := (2, .iload_n kF1, 0)) rfl) rfl rfl ?_
  refine w_cv (as := [.ref 170, .int x]) (r := []) (ykc_236 (e := (6, .invokevirtual 327, 0)) rfl) rfl rfl rfl rfl (zm_isThing hN1 (t := x)) (fun v1279 ph1280 hv => ?_)
  obtain ⟨rfl, rfl⟩ := hv
  show zW n D 236 Q 10 [some (.ref 170), some (.int x), some (.int y)] [.int (zI (decide (0 ≤ x.toInt ∧ x.toInt < ((G : Nat) : Int))))] ph1278
  refine w_beq (ykc_236 (e := (4, .ifCond .eq 15, 25)) rfl) rfl (fun b1281 => ?_) (fun b1281 => ?_)
  · refine w_load (pc' := 26) (v := .ref 170) (m := 1) (ykc_236 (e := (2, .aload_n kF0, 0)) rfl) rfl rfl ?_
    refine w_cv (as := [.ref 170]) (r := []) (ykc_236 (e := (6, .invokevirtual 320, 0)) rfl) rfl rfl rfl rfl (zm_refuse) (fun v1283 ph1284 hv => ?_)
    obtain ⟨u1282, u1282_t, rfl⟩ := hv
    show zW n D 236 Q 29 [some (.ref 170), some (.int x), some (.int y)] [.int (Int32.ofInt 0)] ph1284
    refine w_ret (v := (some (.int (Int32.ofInt 0)))) (ykc_236 (e := (7, .ireturn, 0)) rfl) (zr_v rfl) ?_
    rw [hQ]
    exact ⟨((u1282.1 201 0 (by decide) (by decide)).trans ((u1277.2.1 201 0 (fun q => absurd q.1 (by decide))).trans rfl)), Or.inr ⟨fun q => absurd q.1 (of_decide_eq_false b1281), u1282_t⟩⟩
  · refine w_load (pc' := 14) (v := .int y) (m := 1) (ykc_236 (e := (2, .iload_n kF2, 0)) rfl) rfl rfl ?_
    refine w_alu (pc' := 15) (st' := [.long y.toInt64]) (ykc_236 (e := (0, .i2l, 0)) rfl) rfl rfl ?_
    refine w_alu (pc' := 16) (st' := [.long (Int64.ofNat kG0), .long y.toInt64]) (ykc_236 (e := (0, .lconst kG0, 0)) rfl) rfl rfl ?_
    refine w_push (pc' := 19) (v := .long (2 : Int64)) (m := 3) (ykc_236 (e := (1, .ldc2_w 330, 0)) rfl) rfl rfl ?_
    refine w_cs (as := [.long y.toInt64, .long (Int64.ofNat kG0), .long (2 : Int64)]) (r := []) (ykc_236 (e := (6, .invokestatic 126, 0)) rfl) rfl rfl rfl rfl (zm_in (x := y.toInt) (y := (0 : Int)) (z := (2 : Int)) (by first | exact ztl | (rw [ztl]; omega) | decide | omega) (by first | exact ztl | (rw [ztl]; omega) | decide | omega) (by first | exact ztl | (rw [ztl]; omega) | decide | omega)) (fun v1285 ph1286 hv => ?_)
    obtain ⟨rfl, rfl⟩ := hv
    show zW n D 236 Q 22 [some (.ref 170), some (.int x), some (.int y)] [.int (zI (decide ((0 : Int) ≤ y.toInt ∧ y.toInt ≤ (2 : Int))))] ph1278
    refine w_bne (ykc_236 (e := (4, .ifCond .ne 8, 30)) rfl) rfl (fun b1287 => ?_) (fun b1287 => ?_)
    · have b_1 := of_decide_eq_true b1281
      have b_2 := of_decide_eq_true b1287
      obtain ⟨g, h_p, rfl⟩ : ∃ g : Nat, g < G ∧ x = zn g := ⟨x.toInt.toNat, by omega, zn_of (by omega)⟩
      obtain ⟨y, h_y, rfl⟩ : ∃ k : Nat, k < 3 ∧ y = zn k := ⟨y.toInt.toNat, by omega, zn_of (by omega)⟩
      have tp := znt (k := g) (by omega)
      have ty := znt (k := y) (by omega)
      have op := hO0.2.1 g h_p
      have exn : (zn g).toInt.toNat = g := by omega
      have eyn : (zn y).toInt.toNat = y := by omega
      rw [exn, eyn] at hQ
      show zW n D 236 Q 30 [some (.ref 170), some (.int (zn g)), some (.int (zn y))] [] ph1278
      rcases (show y = 0 ∨ y = 1 ∨ y = 2 by omega) with rfl | rfl | rfl
      · show zW n D 236 Q 30 [some (.ref 170), some (.int (zn g)), some (.int (zn 0))] [] ph1278
        refine w_load (pc' := 31) (v := .int (zn 0)) (m := 1) (ykc_236 (e := (2, .iload_n kF2, 0)) rfl) rfl rfl ?_
        refine w_zne (ykc_236 (e := (4, .ifCond .ne 15, 46)) rfl) rfl (fun q => by exfalso; omega) (fun b1288 => ?_)
        refine w_load (pc' := 35) (v := .ref 170) (m := 1) (ykc_236 (e := (2, .aload_n kF0, 0)) rfl) rfl rfl ?_
        refine w_gf (pc' := 38) (v := .ref 174) (ykc_236 (e := (5, .getfield 41, 0)) rfl) rfl ((u1277.2.1 170 11 (fun q => absurd q.2 (by decide))).trans (zsg hS zs_170_11)) rfl ?_
        refine w_push (pc' := 40) (v := .int ((Int8.ofInt 32).toInt32)) (m := 2) (ykc_236 (e := (1, .bipush 32, 0)) rfl) rfl rfl ?_
        refine w_load (pc' := 41) (v := .int (zn g)) (m := 1) (ykc_236 (e := (2, .iload_n kF1, 0)) rfl) rfl rfl ?_
        have e1289 : ((Int8.ofInt 32).toInt32) + (zn g) = zn (32 + g) := (zaddN (a := 32) (b := g) c_0 (znt (by omega)) (by omega)) 
        have te1289 := znt (k := 32 + g) (by omega)
        refine w_alu (pc' := 42) (st' := [.int (zn (32 + g)), .ref 174]) (ykc_236 (e := (0, .iadd, 0)) rfl) (by rw [← e1289]; rfl) rfl ?_
        have q1290 := hO0.2.1 g (by omega)
        have tq1290 := znt (k := v (32 + g)) (by omega)
        refine w_ialk (pc' := 43) (k := 32 + g) (ykc_236 (e := (5, .iaload, 0)) rfl) ((u1277.2.1 174 (32 + g) (fun q => absurd q.1 (by decide))).trans (zNr0 hv (i := 32 + g) (by omega))) (by omega) rfl ?_
        refine w_br (pc' := 80) (st' := [.int (zn (v (32 + g)))]) (ykc_236 (e := (4, .goto 37, 80)) rfl) rfl ?_
        refine w_ret (v := (some (.int (zn (v (32 + g)))))) (ykc_236 (e := (7, .ireturn, 0)) rfl) (zr_v rfl) ?_
        rw [hQ]
        exact ⟨((u1277.2.1 201 0 (fun q => absurd q.1 (by decide))).trans rfl), Or.inl ⟨⟨b_1, b_2⟩, u1277.1, rfl⟩⟩
      · show zW n D 236 Q 30 [some (.ref 170), some (.int (zn g)), some (.int (zn 1))] [] ph1278
        refine w_load (pc' := 31) (v := .int (zn 1)) (m := 1) (ykc_236 (e := (2, .iload_n kF2, 0)) rfl) rfl rfl ?_
        refine w_zne (ykc_236 (e := (4, .ifCond .ne 15, 46)) rfl) rfl (fun b1291 => ?_) (fun q => by exfalso; omega)
        refine w_load (pc' := 47) (v := .int (zn 1)) (m := 1) (ykc_236 (e := (2, .iload_n kF2, 0)) rfl) rfl rfl ?_
        refine w_alu (pc' := 48) (st' := [.int (Int32.ofInt 1), .int (zn 1)]) (ykc_236 (e := (0, .iconst 1, 0)) rfl) rfl rfl ?_
        refine w_ine (ykc_236 (e := (4, .if_icmp .ne 15, 63)) rfl) rfl (fun q => by exfalso; omega) (fun b1292 => ?_)
        refine w_load (pc' := 52) (v := .ref 170) (m := 1) (ykc_236 (e := (2, .aload_n kF0, 0)) rfl) rfl rfl ?_
        refine w_load (pc' := 53) (v := .ref 170) (m := 1) (ykc_236 (e := (2, .aload_n kF0, 0)) rfl) rfl rfl ?_
        refine w_gf (pc' := 56) (v := .ref 174) (ykc_236 (e := (5, .getfield 41, 0)) rfl) rfl ((u1277.2.1 170 11 (fun q => absurd q.2 (by decide))).trans (zsg hS zs_170_11)) rfl ?_
        refine w_load (pc' := 57) (v := .int (zn g)) (m := 1) (ykc_236 (e := (2, .iload_n kF1, 0)) rfl) rfl rfl ?_
        refine w_cv (as := [.ref 170, .ref 174, .int (zn g)]) (r := []) (ykc_236 (e := (6, .invokevirtual 332, 0)) rfl) rfl rfl rfl rfl (zm_knowing hS1 hE1 hN1 (⟨hA, hv1⟩ : ((174 : Nat) = 174 ∨ (174 : Nat) = 175) ∧ zNr ph1278 174 0 v).1 (⟨hA, hv1⟩ : ((174 : Nat) = 174 ∨ (174 : Nat) = 175) ∧ zNr ph1278 174 0 v).2 hO0 (t := g) (by omega)) (fun v1293 ph1294 hv => ?_)
        obtain ⟨rfl, rfl⟩ := hv
        show zW n D 236 Q 60 [some (.ref 170), some (.int (zn g)), some (.int (zn 1))] [.int (zT (fun p => zb (zn (v (24 + p))).toInt64 g) P)] ph1278
        refine w_br (pc' := 80) (st' := [.int (zT (fun p => zb (zn (v (24 + p))).toInt64 g) P)]) (ykc_236 (e := (4, .goto 20, 80)) rfl) rfl ?_
        refine w_ret (v := (some (.int (zT (fun p => zb (zn (v (24 + p))).toInt64 g) P)))) (ykc_236 (e := (7, .ireturn, 0)) rfl) (zr_v rfl) ?_
        rw [hQ]
        exact ⟨((u1277.2.1 201 0 (fun q => absurd q.1 (by decide))).trans rfl), Or.inl ⟨⟨b_1, b_2⟩, u1277.1, rfl⟩⟩
      · show zW n D 236 Q 30 [some (.ref 170), some (.int (zn g)), some (.int (zn 2))] [] ph1278
        refine w_load (pc' := 31) (v := .int (zn 2)) (m := 1) (ykc_236 (e := (2, .iload_n kF2, 0)) rfl) rfl rfl ?_
        refine w_zne (ykc_236 (e := (4, .ifCond .ne 15, 46)) rfl) rfl (fun b1295 => ?_) (fun q => by exfalso; omega)
        refine w_load (pc' := 47) (v := .int (zn 2)) (m := 1) (ykc_236 (e := (2, .iload_n kF2, 0)) rfl) rfl rfl ?_
        refine w_alu (pc' := 48) (st' := [.int (Int32.ofInt 1), .int (zn 2)]) (ykc_236 (e := (0, .iconst 1, 0)) rfl) rfl rfl ?_
        refine w_ine (ykc_236 (e := (4, .if_icmp .ne 15, 63)) rfl) rfl (fun b1296 => ?_) (fun q => by exfalso; omega)
        refine w_load (pc' := 64) (v := .ref 170) (m := 1) (ykc_236 (e := (2, .aload_n kF0, 0)) rfl) rfl rfl ?_
        refine w_load (pc' := 65) (v := .ref 170) (m := 1) (ykc_236 (e := (2, .aload_n kF0, 0)) rfl) rfl rfl ?_
        refine w_gf (pc' := 68) (v := .ref 174) (ykc_236 (e := (5, .getfield 41, 0)) rfl) rfl ((u1277.2.1 170 11 (fun q => absurd q.2 (by decide))).trans (zsg hS zs_170_11)) rfl ?_
        refine w_load (pc' := 69) (v := .ref 170) (m := 1) (ykc_236 (e := (2, .aload_n kF0, 0)) rfl) rfl rfl ?_
        refine w_gf (pc' := 72) (v := .ref 174) (ykc_236 (e := (5, .getfield 41, 0)) rfl) rfl ((u1277.2.1 170 11 (fun q => absurd q.2 (by decide))).trans (zsg hS zs_170_11)) rfl ?_
        refine w_push (pc' := 74) (v := .int ((Int8.ofInt 32).toInt32)) (m := 2) (ykc_236 (e := (1, .bipush 32, 0)) rfl) rfl rfl ?_
        refine w_load (pc' := 75) (v := .int (zn g)) (m := 1) (ykc_236 (e := (2, .iload_n kF1, 0)) rfl) rfl rfl ?_
        have e1297 : ((Int8.ofInt 32).toInt32) + (zn g) = zn (32 + g) := (zaddN (a := 32) (b := g) c_0 (znt (by omega)) (by omega)) 
        have te1297 := znt (k := 32 + g) (by omega)
        refine w_alu (pc' := 76) (st' := [.int (zn (32 + g)), .ref 174, .ref 174, .ref 170]) (ykc_236 (e := (0, .iadd, 0)) rfl) (by rw [← e1297]; rfl) rfl ?_
        have q1298 := hO0.2.1 g (by omega)
        have tq1298 := znt (k := v (32 + g)) (by omega)
        refine w_ialk (pc' := 77) (k := 32 + g) (ykc_236 (e := (5, .iaload, 0)) rfl) ((u1277.2.1 174 (32 + g) (fun q => absurd q.1 (by decide))).trans (zNr0 hv (i := 32 + g) (by omega))) (by omega) rfl ?_
        refine w_cv (as := [.ref 170, .ref 174, .int (zn (v (32 + g)))]) (r := []) (ykc_236 (e := (6, .invokevirtual 336, 0)) rfl) rfl rfl rfl rfl (zm_who hS1 hE1 hN1 (⟨hA, hv1⟩ : ((174 : Nat) = 174 ∨ (174 : Nat) = 175) ∧ zNr ph1278 174 0 v).1 (⟨hA, hv1⟩ : ((174 : Nat) = 174 ∨ (174 : Nat) = 175) ∧ zNr ph1278 174 0 v).2 hO0 (g := v (32 + g)) (show v (32 + g) < R * C by omega)) (fun v1300 ph1301 hv => ?_)
        obtain ⟨f1299, rfl⟩ := hv
        show zW n D 236 Q 80 [some (.ref 170), some (.int (zn g)), some (.int (zn 2))] [.int (zWho (R, C, rk, sn, sk, cn, cd) P v (v (32 + g)))] ph1301
        refine w_ret (v := (some (.int (zWho (R, C, rk, sn, sk, cn, cd) P v (v (32 + g)))))) (ykc_236 (e := (7, .ireturn, 0)) rfl) (zr_v rfl) ?_
        rw [hQ]
        exact ⟨((f1299.1 201 0 (by decide) (by decide)).trans ((u1277.2.1 201 0 (fun q => absurd q.1 (by decide))).trans rfl)), Or.inl ⟨⟨b_1, b_2⟩, ((f1299.1 170 0 (by decide) (by decide)).trans u1277.1), rfl⟩⟩
      
    · refine w_load (pc' := 26) (v := .ref 170) (m := 1) (ykc_236 (e := (2, .aload_n kF0, 0)) rfl) rfl rfl ?_
      refine w_cv (as := [.ref 170]) (r := []) (ykc_236 (e := (6, .invokevirtual 320, 0)) rfl) rfl rfl rfl rfl (zm_refuse) (fun v1303 ph1304 hv => ?_)
      obtain ⟨u1302, u1302_t, rfl⟩ := hv
      show zW n D 236 Q 29 [some (.ref 170), some (.int x), some (.int y)] [.int (Int32.ofInt 0)] ph1304
      refine w_ret (v := (some (.int (Int32.ofInt 0)))) (ykc_236 (e := (7, .ireturn, 0)) rfl) (zr_v rfl) ?_
      rw [hQ]
      exact ⟨((u1302.1 201 0 (by decide) (by decide)).trans ((u1277.2.1 201 0 (fun q => absurd q.1 (by decide))).trans rfl)), Or.inr ⟨fun q => absurd q.2 (of_decide_eq_false b1287), u1302_t⟩⟩
