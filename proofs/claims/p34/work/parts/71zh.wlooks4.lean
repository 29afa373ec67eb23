/-! what looks answer: storm, ahead, learns; printed by wip/z/z3c_looks.py -/
def zXstorm (n : Nat) (x y z : Int32) : Int32 := if (0 ≤ x.toInt ∧ x.toInt < (n : Int)) ∧ (0 ≤ y.toInt ∧ y.toInt ≤ 8) ∧ 0 ≤ z.toInt ∧ z.toInt ≤ 10 then Int32.ofInt 0 else Int32.ofInt (-1)
theorem zXstorm_n {n : Nat} {x y z : Int32} (h : ¬ ((0 ≤ x.toInt ∧ x.toInt < (n : Int)) ∧ (0 ≤ y.toInt ∧ y.toInt ≤ 8) ∧ 0 ≤ z.toInt ∧ z.toInt ≤ 10)) : (some (.int (Int32.ofInt (-1))) : Option Value) = some (.int (zXstorm n x y z)) := by
  unfold zXstorm
  rw [if_neg h]
theorem zXstorm_p {n : Nat} {x y z : Int32} (h : (0 ≤ x.toInt ∧ x.toInt < (n : Int)) ∧ (0 ≤ y.toInt ∧ y.toInt ≤ 8) ∧ 0 ≤ z.toInt ∧ z.toInt ≤ 10) : (some (.int (Int32.ofInt 0)) : Option Value) = some (.int (zXstorm n x y z)) := by
  unfold zXstorm
  rw [if_pos h]
theorem zc_stormX {ph : pm_H} {E : zEn} {F P G : Nat} {v : Nat → Nat} (hS : zSh ph) (hE : zCe ph E F) (ht : zCt ph 25 P G v) (hO : zOk E.1 E.2.1 P G v) (hr : zc ph 10 1 = some (.ref F)) (hc : zCc ph E.1 E.2.1 E.2.2.1) {x y z : Int32} : zM 171 [.ref 0, .int x, .int y, .int z] ph (fun v0 _ => v0 = some (.int (zXstorm (E.1 * E.2.1) x y z))) := by
  obtain ⟨Q, hQ⟩ : ∃ Q : Option Value → pm_H → Prop, Q = (fun v0 _ => v0 = some (.int (zXstorm (E.1 * E.2.1) x y z))) := ⟨_, rfl⟩
  rw [← hQ]
  refine zM_mk fun n D => ?_
  show zW n D 171 Q 0 [some (.ref 0), some (.int x), some (.int y), some (.int z), none, none, none] [] ph
  have c_0 : ((Int8.ofInt 10).toInt32).toInt = 10 := by decide
  have c_1 : ((Int8.ofInt 8).toInt32).toInt = 8 := by decide
  have c_2 : (Int32.ofInt (-1)).toInt = -1 := by decide
  have c_3 : (Int32.ofInt 0).toInt = 0 := by decide
  have c_4 : (Int32.ofInt 1).toInt = 1 := by decide
  obtain ⟨R, C, rk, sn, sk, cn, cd⟩ := E
  have hL0 : zCl ph R C rk := hE.1
  have hi0 : zCi ph sn sk := hE.2.1
  have hF : F = 11 ∨ F = 16 := hE.2.2.2
  have hE0 : zCe ph (R, C, rk, sn, sk, cn, cd) F := hE
  have hO0 : zOk R C P G v := hO
  have hL := hL0
  have hs := ht.1.2
  have hd := ht.2
  have h25 := ht.1.1
  obtain ⟨gR, gC, gN, gK, gA, hR3, hR7, hC3, hC7⟩ := hL
  have hRC := zRC49 hR7 hC7
  have tR := znt (k := R) (by omega)
  have tC := znt (k := C) (by omega)
  have tRC := znt (k := R * C) (by omega)
  have hd0 := hd
  have hs0 := hs
  obtain ⟨r3, r4, r5, r6, r7, l1, l2, l3, l4, l5⟩ := hs
  obtain ⟨gP, hP8, gG, hG8, gH, gv, gw⟩ := hd
  have tP := znt (k := P) (by omega)
  have tG := znt (k := G) (by omega)
  have h40 := hO0.2.2
  have t40 := znt (k := v 40) (by omega)
  have hc0 := hc
  refine w_load (pc' := 1) (v := .ref 0) (m := 1) (ykc_171 (e := (2, .aload_n kF0, 0)) rfl) rfl rfl ?_
  refine w_gf (pc' := 4) (v := .ref 5) (ykc_171 (e := (5, .getfield 26, 0)) rfl) rfl (zsg hS zs_0_2) rfl ?_
  refine w_load (pc' := 5) (v := .int x) (m := 1) (ykc_171 (e := (2, .iload_n kF1, 0)) rfl) rfl rfl ?_
  refine w_cv (as := [.ref 5, .int x]) (r := []) (ykc_171 (e := (6, .invokevirtual 302, 0)) rfl) rfl rfl rfl rfl (zc_holds hS hL0 (f := x)) (fun v1215 ph1216 hv => ?_)
  obtain ⟨rfl, rfl⟩ := hv
  show zW n D 171 Q 8 [some (.ref 0), some (.int x), some (.int y), some (.int z), none, none, none] [.int (zI (decide (0 ≤ x.toInt ∧ x.toInt < ((R * C : Nat) : Int))))] ph
  refine w_beq (ykc_171 (e := (4, .ifCond .eq 23, 31)) rfl) rfl (fun b1217 => ?_) (fun b1217 => ?_)
  · refine w_alu (pc' := 32) (st' := [.int (Int32.ofInt (-1))]) (ykc_171 (e := (0, .iconst (-1), 0)) rfl) rfl rfl ?_
    refine w_ret (v := (some (.int (Int32.ofInt (-1))))) (ykc_171 (e := (7, .ireturn, 0)) rfl) (zr_v rfl) ?_
    rw [hQ]
    exact zXstorm_n (n := R * C) (fun q => absurd q.1 (of_decide_eq_false b1217))
  · refine w_load (pc' := 12) (v := .int y) (m := 1) (ykc_171 (e := (2, .iload_n kF2, 0)) rfl) rfl rfl ?_
    refine w_zlt (ykc_171 (e := (4, .ifCond .lt 19, 31)) rfl) rfl (fun b1218 => ?_) (fun b1218 => ?_)
    · refine w_alu (pc' := 32) (st' := [.int (Int32.ofInt (-1))]) (ykc_171 (e := (0, .iconst (-1), 0)) rfl) rfl rfl ?_
      refine w_ret (v := (some (.int (Int32.ofInt (-1))))) (ykc_171 (e := (7, .ireturn, 0)) rfl) (zr_v rfl) ?_
      rw [hQ]
      exact zXstorm_n (n := R * C) (fun q => by have q1 := q.2; omega)
    · refine w_load (pc' := 16) (v := .int y) (m := 1) (ykc_171 (e := (2, .iload_n kF2, 0)) rfl) rfl rfl ?_
      refine w_push (pc' := 18) (v := .int ((Int8.ofInt 8).toInt32)) (m := 2) (ykc_171 (e := (1, .bipush 8, 0)) rfl) rfl rfl ?_
      refine w_igt (ykc_171 (e := (4, .if_icmp .gt 13, 31)) rfl) rfl (fun b1219 => ?_) (fun b1219 => ?_)
      · refine w_alu (pc' := 32) (st' := [.int (Int32.ofInt (-1))]) (ykc_171 (e := (0, .iconst (-1), 0)) rfl) rfl rfl ?_
        refine w_ret (v := (some (.int (Int32.ofInt (-1))))) (ykc_171 (e := (7, .ireturn, 0)) rfl) (zr_v rfl) ?_
        rw [hQ]
        exact zXstorm_n (n := R * C) (fun q => by have q1 := q.2; omega)
      · refine w_load (pc' := 22) (v := .int z) (m := 1) (ykc_171 (e := (2, .iload_n kF3, 0)) rfl) rfl rfl ?_
        refine w_zlt (ykc_171 (e := (4, .ifCond .lt 9, 31)) rfl) rfl (fun b1220 => ?_) (fun b1220 => ?_)
        · refine w_alu (pc' := 32) (st' := [.int (Int32.ofInt (-1))]) (ykc_171 (e := (0, .iconst (-1), 0)) rfl) rfl rfl ?_
          refine w_ret (v := (some (.int (Int32.ofInt (-1))))) (ykc_171 (e := (7, .ireturn, 0)) rfl) (zr_v rfl) ?_
          rw [hQ]
          exact zXstorm_n (n := R * C) (fun q => by have q1 := q.2; omega)
        · refine w_load (pc' := 26) (v := .int z) (m := 1) (ykc_171 (e := (2, .iload_n kF3, 0)) rfl) rfl rfl ?_
          refine w_push (pc' := 28) (v := .int ((Int8.ofInt 10).toInt32)) (m := 2) (ykc_171 (e := (1, .bipush 10, 0)) rfl) rfl rfl ?_
          refine w_ile (ykc_171 (e := (4, .if_icmp .le 5, 33)) rfl) rfl (fun b1221 => ?_) (fun b1221 => ?_)
          · rw [hQ]
            exact zTail0 kc_171 33 147 (fun _ => rfl) (by decide +kernel) (by decide) (by decide) (by decide +kernel) (fun _ => zXstorm_p (n := R * C) ⟨of_decide_eq_true b1217, by omega, by omega⟩)
          · refine w_alu (pc' := 32) (st' := [.int (Int32.ofInt (-1))]) (ykc_171 (e := (0, .iconst (-1), 0)) rfl) rfl rfl ?_
            refine w_ret (v := (some (.int (Int32.ofInt (-1))))) (ykc_171 (e := (7, .ireturn, 0)) rfl) (zr_v rfl) ?_
            rw [hQ]
            exact zXstorm_n (n := R * C) (fun q => by have q1 := q.2; omega)
theorem zm_stormX {ph : pm_H} {E : zEn} {P G : Nat} {v : Nat → Nat} (hS : zSh ph) (hE : zMe ph E) (hN : zMp ph P G) (hv : zNr ph 174 0 v) (hO : zOk E.1 E.2.1 P G v) {x y z : Int32} : zM 288 [.ref 170, .int x, .int y, .int z] ph (fun v0 _ => v0 = some (.int (zXstorm (E.1 * E.2.1) x y z))) := by
  obtain ⟨Q, hQ⟩ : ∃ Q : Option Value → pm_H → Prop, Q = (fun v0 _ => v0 = some (.int (zXstorm (E.1 * E.2.1) x y z))) := ⟨_, rfl⟩
  rw [← hQ]
  refine zM_mk fun n D => ?_
  show zW n D 288 Q 0 [some (.ref 170), some (.int x), some (.int y), some (.int z), none, none, none, none, none, none] [] ph
  have c_0 : ((Int8.ofInt 10).toInt32).toInt = 10 := by decide
  have c_1 : ((Int8.ofInt 8).toInt32).toInt = 8 := by decide
  have c_2 : (Int32.ofInt (-1)).toInt = -1 := by decide
  have c_3 : (Int32.ofInt 0).toInt = 0 := by decide
  have c_4 : (Int32.ofInt 1).toInt = 1 := by decide
  have hA : (174 : Nat) = 174 ∨ (174 : Nat) = 175 := Or.inl rfl
  obtain ⟨R, C, rk, sn, sk, cn, cd⟩ := E
  have hL0 : zMl ph R C rk := hE.1
  have hR0 : zMr ph sn sk cn cd := hE.2.1
  have hcg : zcg cn cd := hE.2.2
  have hE0 : zMe ph (R, C, rk, sn, sk, cn, cd) := hE
  have hO0 : zOk R C P G v := hO
  have hN0 := hN
  have hL := hL0
  have hR := hR0
  obtain ⟨gR, gC, gK, hR3, hR7, hC3, hC7⟩ := hL
  have hRC := zRC49 hR7 hC7
  have tR := znt (k := R) (by omega)
  have tC := znt (k := C) (by omega)
  obtain ⟨gP, hP8, gG, hG8⟩ := hN
  have tP := znt (k := P) (by omega)
  have tG := znt (k := G) (by omega)
  obtain ⟨gsn, hs1, hs20, gsk, gcn, hc40, gcd⟩ := hR
  have tsn := znt (k := sn) (by omega)
  have tcn := znt (k := cn) (by omega)
  refine w_load (pc' := 1) (v := .ref 170) (m := 1) (ykc_288 (e := (2, .aload_n kF0, 0)) rfl) rfl rfl ?_
  refine w_alu (pc' := 2) (st' := [.int (Int32.ofInt 0), .ref 170]) (ykc_288 (e := (0, .iconst 0, 0)) rfl) rfl rfl ?_
  refine w_pf (pc' := 5) (ykc_288 (e := (5, .putfield 3, 0)) rfl) rfl rfl (fun ph1223 u1222 => ?_)
  have f0 : zFr [] [(170, 0)] ph ph1223 := zFr_st u1222 (Or.inr (by simp))
  have hS1 := zSh_st u1222 (by decide +kernel) hS
  have hE1 : zMe ph1223 (R, C, rk, sn, sk, cn, cd) := ⟨zMl_F f0 (by simp) (by simp) (by simp) (by simp) hE0.1, zMr_F f0 (by simp) (by simp) (by simp) (by simp) hE0.2.1, hE0.2.2⟩
  have hN1 := zMp_F f0 (by simp) (by simp) (by simp) hN0
  have hv1 := zNr_F f0 (by simp) (by simp) hv
  have hL1 : zMl ph1223 R C rk := hE1.1
  have hR1 : zMr ph1223 sn sk cn cd := hE1.2.1
  refine w_load (pc' := 6) (v := .ref 170) (m := 1) (ykc_288 (e := (2, .aload_n kF0, 0)) rfl) rfl rfl ?_
  refine w_load (pc' := 7) (v := .int x) (m := 1) (ykc_288 (e := (2, .iload_n kF1, 0)) rfl) rfl rfl ?_
  refine w_cv (as := [.ref 170, .int x]) (r := []) (ykc_288 (e := (6, .invokevirtual 358, 0)) rfl) rfl rfl rfl rfl (zm_isField hS1 hL1 (f := x)) (fun v1224 ph1225 hv => ?_)
  obtain ⟨rfl, rfl⟩ := hv
  show zW n D 288 Q 10 [some (.ref 170), some (.int x), some (.int y), some (.int z), none, none, none, none, none, none] [.int (zI (decide (0 ≤ x.toInt ∧ x.toInt < ((R * C : Nat) : Int))))] ph1223
  refine w_beq (ykc_288 (e := (4, .ifCond .eq 27, 37)) rfl) rfl (fun b1226 => ?_) (fun b1226 => ?_)
  · refine w_alu (pc' := 38) (st' := [.int (Int32.ofInt (-1))]) (ykc_288 (e := (0, .iconst (-1), 0)) rfl) rfl rfl ?_
    refine w_ret (v := (some (.int (Int32.ofInt (-1))))) (ykc_288 (e := (7, .ireturn, 0)) rfl) (zr_v rfl) ?_
    rw [hQ]
    exact zXstorm_n (n := R * C) (fun q => absurd q.1 (of_decide_eq_false b1226))
  · refine w_load (pc' := 14) (v := .int y) (m := 1) (ykc_288 (e := (2, .iload_n kF2, 0)) rfl) rfl rfl ?_
    refine w_alu (pc' := 15) (st' := [.long y.toInt64]) (ykc_288 (e := (0, .i2l, 0)) rfl) rfl rfl ?_
    refine w_alu (pc' := 16) (st' := [.long (Int64.ofNat kG0), .long y.toInt64]) (ykc_288 (e := (0, .lconst kG0, 0)) rfl) rfl rfl ?_
    refine w_push (pc' := 19) (v := .long (8 : Int64)) (m := 3) (ykc_288 (e := (1, .ldc2_w 457, 0)) rfl) rfl rfl ?_
    refine w_cs (as := [.long y.toInt64, .long (Int64.ofNat kG0), .long (8 : Int64)]) (r := []) (ykc_288 (e := (6, .invokestatic 126, 0)) rfl) rfl rfl rfl rfl (zm_in (x := y.toInt) (y := (0 : Int)) (z := (8 : Int)) (by first | exact ztl | (rw [ztl]; omega) | decide | omega) (by first | exact ztl | (rw [ztl]; omega) | decide | omega) (by first | exact ztl | (rw [ztl]; omega) | decide | omega)) (fun v1227 ph1228 hv => ?_)
    obtain ⟨rfl, rfl⟩ := hv
    show zW n D 288 Q 22 [some (.ref 170), some (.int x), some (.int y), some (.int z), none, none, none, none, none, none] [.int (zI (decide ((0 : Int) ≤ y.toInt ∧ y.toInt ≤ (8 : Int))))] ph1223
    refine w_beq (ykc_288 (e := (4, .ifCond .eq 15, 37)) rfl) rfl (fun b1229 => ?_) (fun b1229 => ?_)
    · refine w_alu (pc' := 38) (st' := [.int (Int32.ofInt (-1))]) (ykc_288 (e := (0, .iconst (-1), 0)) rfl) rfl rfl ?_
      refine w_ret (v := (some (.int (Int32.ofInt (-1))))) (ykc_288 (e := (7, .ireturn, 0)) rfl) (zr_v rfl) ?_
      rw [hQ]
      exact zXstorm_n (n := R * C) (fun q => absurd q.2.1 (of_decide_eq_false b1229))
    · refine w_load (pc' := 26) (v := .int z) (m := 1) (ykc_288 (e := (2, .iload_n kF3, 0)) rfl) rfl rfl ?_
      refine w_alu (pc' := 27) (st' := [.long z.toInt64]) (ykc_288 (e := (0, .i2l, 0)) rfl) rfl rfl ?_
      refine w_alu (pc' := 28) (st' := [.long (Int64.ofNat kG0), .long z.toInt64]) (ykc_288 (e := (0, .lconst kG0, 0)) rfl) rfl rfl ?_
      refine w_push (pc' := 31) (v := .long (10 : Int64)) (m := 3) (ykc_288 (e := (1, .ldc2_w 459, 0)) rfl) rfl rfl ?_
      refine w_cs (as := [.long z.toInt64, .long (Int64.ofNat kG0), .long (10 : Int64)]) (r := []) (ykc_288 (e := (6, .invokestatic 126, 0)) rfl) rfl rfl rfl rfl (zm_in (x := z.toInt) (y := (0 : Int)) (z := (10 : Int)) (by first | exact ztl | (rw [ztl]; omega) | decide | omega) (by first | exact ztl | (rw [ztl]; omega) | decide | omega) (by first | exact ztl | (rw [ztl]; omega) | decide | omega)) (fun v1230 ph1231 hv => ?_)
      obtain ⟨rfl, rfl⟩ := hv
      show zW n D 288 Q 34 [some (.ref 170), some (.int x), some (.int y), some (.int z), none, none, none, none, none, none] [.int (zI (decide ((0 : Int) ≤ z.toInt ∧ z.toInt ≤ (10 : Int))))] ph1223
      refine w_bne (ykc_288 (e := (4, .ifCond .ne 5, 39)) rfl) rfl (fun b1232 => ?_) (fun b1232 => ?_)
      · rw [hQ]
        exact zTail0 kc_288 39 289 (fun _ => rfl) (by decide +kernel) (by decide) (by decide) (by decide +kernel) (fun _ => zXstorm_p (n := R * C) ⟨of_decide_eq_true b1226, of_decide_eq_true b1229, of_decide_eq_true b1232⟩)
      · refine w_alu (pc' := 38) (st' := [.int (Int32.ofInt (-1))]) (ykc_288 (e := (0, .iconst (-1), 0)) rfl) rfl rfl ?_
        refine w_ret (v := (some (.int (Int32.ofInt (-1))))) (ykc_288 (e := (7, .ireturn, 0)) rfl) (zr_v rfl) ?_
        rw [hQ]
        exact zXstorm_n (n := R * C) (fun q => absurd q.2.2 (of_decide_eq_false b1232))
/-- the class's row of a trial -/
def zTb (q : pm_H) (E : zEn) (F P G : Nat) (v : Nat → Nat) : Prop := zSh q ∧ zCe q E F ∧ zCt q 37 P G v ∧ zc q 10 1 = some (.ref F) ∧ zCc q E.1 E.2.1 E.2.2.1
theorem zTb_copy {ph q : pm_H} {E : zEn} {F P G : Nat} {v : Nat → Nat} (hS : zSh ph) (hE : zCe ph E F) (hr : zc ph 10 1 = some (.ref F)) (hc : zCc ph E.1 E.2.1 E.2.2.1) (fq : zCo 37 ph q) (db : zSd q 37 P G v) : zTb q E F P G v := by
  have eQ : ∀ a k, ¬ (37 ≤ a ∧ a ≤ 42) → zc q a k = zc ph a k := fun a k ha => fq.1 a k (by simp <;> omega) (by simp <;> omega)
  have hSq : zSh q := zSh_F fq (by decide +kernel) hS
  exact ⟨hSq, zCe_Q hSq (fun a k t => eQ a k (by omega)) (fun a k t => eQ a k (by omega)) (fun a k t => eQ a k (by omega)) hE, ⟨⟨by decide, zSs_of hSq (S := 37) (by decide)⟩, db⟩, (eQ 10 1 (by omega)).trans hr, zCc_Q (fun a k t => eQ a k (by omega)) hc⟩
theorem zTb_pass {ph : pm_H} {E : zEn} {F P G N : Nat} {v : Nat → Nat} (h : zTb ph E F P G v) (hO : zOk E.1 E.2.1 P G v) (hN : v 40 + N < 999999) : zM 92 [.ref 10, .ref 37, .int (zn N)] ph (fun v0 q => zCp 37 ph q ∧ zTb q E F P G (zHqn E P G v N) ∧ v0 = some (.int (zKw (zHqn E P G v N) P))) := by
  obtain ⟨hS, hE, ht, hr, hc⟩ := h
  refine zM_imp (zc_pass hS hE ht hO (Or.inr rfl) hr hc hN) (fun v0 q h => ?_)
  exact ⟨h.1, ⟨zCp_S (Or.inr rfl) h.1 hS, zCp_e (Or.inr rfl) h.1 hE, h.2.1, (h.1.1 10 1 (by decide) (by decide)).trans hr, h.2.2.1⟩, h.2.2.2⟩
theorem zTb_m {ph : pm_H} {P G A : Nat} {E : zEn} {v u : Nat → Nat} {q : pm_H} (hA : A = 174 ∨ A = 175) (f : zHc A ph q) (hS : zSh ph) (hE : zMe ph E) (hN : zMp ph P G) : zSh q ∧ zMe q E ∧ zMp q P G := ⟨zHc_S hA f hS, zHc_e hA f hE, zHc_p hA f hN⟩
noncomputable def zXahd (E : zEn) (P G : Nat) (v : Nat → Nat) (x : Int32) : Int32 := if 0 ≤ x.toInt ∧ x.toInt ≤ 99 then zKw (zHqn E P G v x.toInt.toNat) P else Int32.ofInt (-1)
theorem zXahd_n {E : zEn} {P G : Nat} {v : Nat → Nat} {x : Int32} (h : ¬ (0 ≤ x.toInt ∧ x.toInt ≤ 99)) : (some (.int (Int32.ofInt (-1))) : Option Value) = some (.int (zXahd E P G v x)) := by
  unfold zXahd
  rw [if_neg h]
theorem zXahd_p {E : zEn} {P G N : Nat} {v : Nat → Nat} (h : N ≤ 99) : (some (.int (zKw (zHqn E P G v N) P)) : Option Value) = some (.int (zXahd E P G v (zn N))) := by
  have t := znt (k := N) (by omega)
  unfold zXahd
  rw [if_pos (by omega), show (zn N).toInt.toNat = N by omega]
theorem zc_ahdX {ph : pm_H} {E : zEn} {F P G : Nat} {v : Nat → Nat} (hS : zSh ph) (hE : zCe ph E F) (ht : zCt ph 25 P G v) (hO : zOk E.1 E.2.1 P G v) (hr : zc ph 10 1 = some (.ref F)) (hc : zCc ph E.1 E.2.1 E.2.2.1) (hh : v 40 < 999000) {x : Int32} : zM 156 [.ref 0, .int x] ph (fun v0 _ => v0 = some (.int (zXahd E P G v x))) := by
  obtain ⟨Q, hQ⟩ : ∃ Q : Option Value → pm_H → Prop, Q = (fun v0 _ => v0 = some (.int (zXahd E P G v x))) := ⟨_, rfl⟩
  rw [← hQ]
  refine zM_mk fun n D => ?_
  show zW n D 156 Q 0 [some (.ref 0), some (.int x), none, none] [] ph
  have c_0 : ((Int8.ofInt 8).toInt32).toInt = 8 := by decide
  have c_1 : ((Int8.ofInt 99).toInt32).toInt = 99 := by decide
  have c_2 : (Int32.ofInt (-1)).toInt = -1 := by decide
  have c_3 : (Int32.ofInt 0).toInt = 0 := by decide
  have c_4 : (Int32.ofInt 1).toInt = 1 := by decide
  obtain ⟨R, C, rk, sn, sk, cn, cd⟩ := E
  have hL0 : zCl ph R C rk := hE.1
  have hi0 : zCi ph sn sk := hE.2.1
  have hF : F = 11 ∨ F = 16 := hE.2.2.2
  have hE0 : zCe ph (R, C, rk, sn, sk, cn, cd) F := hE
  have hO0 : zOk R C P G v := hO
  have hL := hL0
  have hs := ht.1.2
  have hd := ht.2
  have h25 := ht.1.1
  obtain ⟨gR, gC, gN, gK, gA, hR3, hR7, hC3, hC7⟩ := hL
  have hRC := zRC49 hR7 hC7
  have tR := znt (k := R) (by omega)
  have tC := znt (k := C) (by omega)
  have tRC := znt (k := R * C) (by omega)
  have hd0 := hd
  have hs0 := hs
  obtain ⟨r3, r4, r5, r6, r7, l1, l2, l3, l4, l5⟩ := hs
  obtain ⟨gP, hP8, gG, hG8, gH, gv, gw⟩ := hd
  have tP := znt (k := P) (by omega)
  have tG := znt (k := G) (by omega)
  have h40 := hO0.2.2
  have t40 := znt (k := v 40) (by omega)
  have hc0 := hc
  refine w_load (pc' := 1) (v := .int x) (m := 1) (ykc_156 (e := (2, .iload_n kF1, 0)) rfl) rfl rfl ?_
  refine w_zlt (ykc_156 (e := (4, .ifCond .lt 9, 10)) rfl) rfl (fun b1233 => ?_) (fun b1233 => ?_)
  · refine w_alu (pc' := 11) (st' := [.int (Int32.ofInt (-1))]) (ykc_156 (e := (0, .iconst (-1), 0)) rfl) rfl rfl ?_
    refine w_ret (v := (some (.int (Int32.ofInt (-1))))) (ykc_156 (e := (7, .ireturn, 0)) rfl) (zr_v rfl) ?_
    rw [hQ]
    exact zXahd_n (by omega)
  · refine w_load (pc' := 5) (v := .int x) (m := 1) (ykc_156 (e := (2, .iload_n kF1, 0)) rfl) rfl rfl ?_
    refine w_push (pc' := 7) (v := .int ((Int8.ofInt 99).toInt32)) (m := 2) (ykc_156 (e := (1, .bipush 99, 0)) rfl) rfl rfl ?_
    refine w_ile (ykc_156 (e := (4, .if_icmp .le 5, 12)) rfl) rfl (fun b1234 => ?_) (fun b1234 => ?_)
    · obtain ⟨N, hN9, rfl⟩ : ∃ N : Nat, N ≤ 99 ∧ x = zn N := ⟨x.toInt.toNat, by omega, zn_of (by omega)⟩
      have tN := znt (k := N) (by omega)
      show zW n D 156 Q 12 [some (.ref 0), some (.int (zn N)), none, none] [] ph
      refine w_load (pc' := 13) (v := .ref 0) (m := 1) (ykc_156 (e := (2, .aload_n kF0, 0)) rfl) rfl rfl ?_
      refine w_gf (pc' := 16) (v := .ref 37) (ykc_156 (e := (5, .getfield 49, 0)) rfl) rfl (zsg hS zs_0_6) rfl ?_
      refine w_load (pc' := 17) (v := .ref 0) (m := 1) (ykc_156 (e := (2, .aload_n kF0, 0)) rfl) rfl rfl ?_
      refine w_gf (pc' := 20) (v := .ref 25) (ykc_156 (e := (5, .getfield 42, 0)) rfl) rfl (zsg hS zs_0_4) rfl ?_
      refine w_cv (as := [.ref 37, .ref 25]) (r := []) (ykc_156 (e := (6, .invokevirtual 235, 0)) rfl) rfl rfl rfl rfl (zc_copy (zSs_of hS (S := 25) (by decide)) (zSs_of hS (S := 37) (by decide)) ht.2 (by omega)) (fun v1235 ph1236 hv => ?_)
      obtain ⟨rfl, fb, db⟩ := hv
      have tb0 := zTb_copy hS hE0 hr hc0 fb db
      show zW n D 156 Q 23 [some (.ref 0), some (.int (zn N)), none, none] [] ph1236
      refine w_load (pc' := 24) (v := .ref 0) (m := 1) (ykc_156 (e := (2, .aload_n kF0, 0)) rfl) rfl rfl ?_
      refine w_gf (pc' := 27) (v := .ref 10) (ykc_156 (e := (5, .getfield 35, 0)) rfl) rfl ((fb.1 0 3 (by decide) (by decide)).trans (zsg hS zs_0_3)) rfl ?_
      refine w_load (pc' := 28) (v := .ref 0) (m := 1) (ykc_156 (e := (2, .aload_n kF0, 0)) rfl) rfl rfl ?_
      refine w_gf (pc' := 31) (v := .ref 37) (ykc_156 (e := (5, .getfield 49, 0)) rfl) rfl ((fb.1 0 6 (by decide) (by decide)).trans (zsg hS zs_0_6)) rfl ?_
      refine w_load (pc' := 32) (v := .int (zn N)) (m := 1) (ykc_156 (e := (2, .iload_n kF1, 0)) rfl) rfl rfl ?_
      refine w_cv (as := [.ref 10, .ref 37, .int (zn N)]) (r := []) (ykc_156 (e := (6, .invokevirtual 239, 0)) rfl) rfl rfl rfl rfl (zTb_pass tb0 hO0 (N := N) (by omega)) (fun v1237 ph1238 hv => ?_)
      obtain ⟨fp, tb1, rfl⟩ := hv
      show zW n D 156 Q 35 [some (.ref 0), some (.int (zn N)), none, none] [.int (zKw (zHqn (R, C, rk, sn, sk, cn, cd) P G v N) P)] ph1238
      refine w_store (pc' := 36) (L' := [some (.ref 0), some (.int (zn N)), some (.int (zKw (zHqn (R, C, rk, sn, sk, cn, cd) P G v N) P)), none]) (st' := []) (m := 1) (ykc_156 (e := (3, .istore_n kF2, 0)) rfl) rfl rfl ?_
      rw [hQ]
      exact zTail kc_156 false 2 36 9999 (fun _ => rfl) (Or.inl ⟨_, rfl⟩) (by decide +kernel) (by decide) (by decide) rfl (by decide +kernel) (fun _ => zXahd_p hN9)
    · refine w_alu (pc' := 11) (st' := [.int (Int32.ofInt (-1))]) (ykc_156 (e := (0, .iconst (-1), 0)) rfl) rfl rfl ?_
      refine w_ret (v := (some (.int (Int32.ofInt (-1))))) (ykc_156 (e := (7, .ireturn, 0)) rfl) (zr_v rfl) ?_
      rw [hQ]
      exact zXahd_n (by omega)
theorem zm_enters {ph : pm_H} (hS : zSh ph) {k : Nat} {x : Int64} (hk : zc ph 170 1 = some (.int (zn k))) (h60 : k < 60) : zM 186 [.ref 170, .long x] ph (fun v0 q => v0 = none ∧ zFr [171] [(170, 1)] ph q ∧ zc q 170 1 = some (.int (zn (k + 1)))) := by
  obtain ⟨Q, hQ⟩ : ∃ Q : Option Value → pm_H → Prop, Q = (fun v0 q => v0 = none ∧ zFr [171] [(170, 1)] ph q ∧ zc q 170 1 = some (.int (zn (k + 1)))) := ⟨_, rfl⟩
  rw [← hQ]
  refine zM_mk fun n D => ?_
  show zW n D 186 Q 0 [some (.ref 170), some (.long x), none] [] ph
  have c_0 : (Int32.ofInt 1).toInt = 1 := by decide
  have tk := znt (k := k) (by omega)
  refine w_load (pc' := 1) (v := .ref 170) (m := 1) (ykc_186 (e := (2, .aload_n kF0, 0)) rfl) rfl rfl ?_
  refine w_gf (pc' := 4) (v := .ref 171) (ykc_186 (e := (5, .getfield 11, 0)) rfl) rfl (zsg hS zs_170_2) rfl ?_
  refine w_load (pc' := 5) (v := .ref 170) (m := 1) (ykc_186 (e := (2, .aload_n kF0, 0)) rfl) rfl rfl ?_
  refine w_gf (pc' := 8) (v := .int (zn k)) (ykc_186 (e := (5, .getfield 15, 0)) rfl) rfl hk rfl ?_
  refine w_load (pc' := 9) (v := .long x) (m := 1) (ykc_186 (e := (2, .lload_n kF1, 0)) rfl) rfl rfl ?_
  refine w_las (pc' := 10) (k := k) (ykc_186 (e := (5, .lastore, 0)) rfl) (by omega) rfl (fun ph1240 u1239 => ?_)
  refine w_load (pc' := 11) (v := .ref 170) (m := 1) (ykc_186 (e := (2, .aload_n kF0, 0)) rfl) rfl rfl ?_
  refine w_alu (pc' := 12) (st' := [.ref 170, .ref 170]) (ykc_186 (e := (0, .dup, 0)) rfl) rfl rfl ?_
  refine w_gf (pc' := 15) (v := .int (zn k)) (ykc_186 (e := (5, .getfield 15, 0)) rfl) rfl ((u1239.2.1 170 1 (fun q => absurd q.1 (by decide))).trans hk) rfl ?_
  refine w_alu (pc' := 16) (st' := [.int (Int32.ofInt 1), .int (zn k), .ref 170]) (ykc_186 (e := (0, .iconst 1, 0)) rfl) rfl rfl ?_
  have e1241 : (zn k) + (Int32.ofInt 1) = zn (k + 1) := (zaddN (a := k) (b := 1) (znt (by omega)) c_0 (by omega)) 
  have te1241 := znt (k := k + 1) (by omega)
  refine w_alu (pc' := 17) (st' := [.int (zn (k + 1)), .ref 170]) (ykc_186 (e := (0, .iadd, 0)) rfl) (by rw [← e1241]; rfl) rfl ?_
  refine w_pf (pc' := 20) (ykc_186 (e := (5, .putfield 15, 0)) rfl) rfl rfl (fun ph1243 u1242 => ?_)
  refine w_ret (v := none) (ykc_186 (e := (7, .return_, 0)) rfl) (zr_v rfl) ?_
  rw [hQ]
  exact ⟨rfl, zFr_trans (zFr_st u1239 (Or.inl (by simp))) (zFr_st u1242 (Or.inr (by simp))), u1242.1⟩
theorem zm_ahdX {ph : pm_H} {E : zEn} {P G : Nat} {v : Nat → Nat} (hS : zSh ph) (hE : zMe ph E) (hN : zMp ph P G) (hv : zNr ph 174 0 v) (hO : zOk E.1 E.2.1 P G v) (hh : v 40 < 999000) {x : Int32} : zM 269 [.ref 170, .int x] ph (fun v0 _ => v0 = some (.int (zXahd E P G v x))) := by
  obtain ⟨Q, hQ⟩ : ∃ Q : Option Value → pm_H → Prop, Q = (fun v0 _ => v0 = some (.int (zXahd E P G v x))) := ⟨_, rfl⟩
  rw [← hQ]
  refine zM_mk fun n D => ?_
  show zW n D 269 Q 0 [some (.ref 170), some (.int x), none] [] ph
  have c_0 : ((Int8.ofInt 24).toInt32).toInt = 24 := by decide
  have c_1 : (Int32.ofInt (-1)).toInt = -1 := by decide
  have c_2 : (Int32.ofInt 0).toInt = 0 := by decide
  have c_3 : (Int32.ofInt 1).toInt = 1 := by decide
  have hA : (174 : Nat) = 174 ∨ (174 : Nat) = 175 := Or.inl rfl
  obtain ⟨R, C, rk, sn, sk, cn, cd⟩ := E
  have hL0 : zMl ph R C rk := hE.1
  have hR0 : zMr ph sn sk cn cd := hE.2.1
  have hcg : zcg cn cd := hE.2.2
  have hE0 : zMe ph (R, C, rk, sn, sk, cn, cd) := hE
  have hO0 : zOk R C P G v := hO
  have hN0 := hN
  have hL := hL0
  have hR := hR0
  obtain ⟨gR, gC, gK, hR3, hR7, hC3, hC7⟩ := hL
  have hRC := zRC49 hR7 hC7
  have tR := znt (k := R) (by omega)
  have tC := znt (k := C) (by omega)
  obtain ⟨gP, hP8, gG, hG8⟩ := hN
  have tP := znt (k := P) (by omega)
  have tG := znt (k := G) (by omega)
  obtain ⟨gsn, hs1, hs20, gsk, gcn, hc40, gcd⟩ := hR
  have tsn := znt (k := sn) (by omega)
  have tcn := znt (k := cn) (by omega)
  refine w_load (pc' := 1) (v := .ref 170) (m := 1) (ykc_269 (e := (2, .aload_n kF0, 0)) rfl) rfl rfl ?_
  refine w_alu (pc' := 2) (st' := [.int (Int32.ofInt 0), .ref 170]) (ykc_269 (e := (0, .iconst 0, 0)) rfl) rfl rfl ?_
  refine w_pf (pc' := 5) (ykc_269 (e := (5, .putfield 3, 0)) rfl) rfl rfl (fun ph1245 u1244 => ?_)
  have f0 : zFr [] [(170, 0)] ph ph1245 := zFr_st u1244 (Or.inr (by simp))
  have hS1 := zSh_st u1244 (by decide +kernel) hS
  have hE1 : zMe ph1245 (R, C, rk, sn, sk, cn, cd) := ⟨zMl_F f0 (by simp) (by simp) (by simp) (by simp) hE0.1, zMr_F f0 (by simp) (by simp) (by simp) (by simp) hE0.2.1, hE0.2.2⟩
  have hN1 := zMp_F f0 (by simp) (by simp) (by simp) hN0
  have hv1 := zNr_F f0 (by simp) (by simp) hv
  have hL1 : zMl ph1245 R C rk := hE1.1
  have hR1 : zMr ph1245 sn sk cn cd := hE1.2.1
  refine w_load (pc' := 6) (v := .int x) (m := 1) (ykc_269 (e := (2, .iload_n kF1, 0)) rfl) rfl rfl ?_
  refine w_alu (pc' := 7) (st' := [.long x.toInt64]) (ykc_269 (e := (0, .i2l, 0)) rfl) rfl rfl ?_
  refine w_alu (pc' := 8) (st' := [.long (Int64.ofNat kG0), .long x.toInt64]) (ykc_269 (e := (0, .lconst kG0, 0)) rfl) rfl rfl ?_
  refine w_push (pc' := 11) (v := .long (99 : Int64)) (m := 3) (ykc_269 (e := (1, .ldc2_w 430, 0)) rfl) rfl rfl ?_
  refine w_cs (as := [.long x.toInt64, .long (Int64.ofNat kG0), .long (99 : Int64)]) (r := []) (ykc_269 (e := (6, .invokestatic 126, 0)) rfl) rfl rfl rfl rfl (zm_in (x := x.toInt) (y := (0 : Int)) (z := (99 : Int)) (by first | exact ztl | (rw [ztl]; omega) | decide | omega) (by first | exact ztl | (rw [ztl]; omega) | decide | omega) (by first | exact ztl | (rw [ztl]; omega) | decide | omega)) (fun v1246 ph1247 hv => ?_)
  obtain ⟨rfl, rfl⟩ := hv
  show zW n D 269 Q 14 [some (.ref 170), some (.int x), none] [.int (zI (decide ((0 : Int) ≤ x.toInt ∧ x.toInt ≤ (99 : Int))))] ph1245
  refine w_bne (ykc_269 (e := (4, .ifCond .ne 5, 19)) rfl) rfl (fun b1248 => ?_) (fun b1248 => ?_)
  · have b_x := of_decide_eq_true b1248
    obtain ⟨N, hN9, rfl⟩ : ∃ N : Nat, N ≤ 99 ∧ x = zn N := ⟨x.toInt.toNat, by omega, zn_of (by omega)⟩
    have tN := znt (k := N) (by omega)
    show zW n D 269 Q 19 [some (.ref 170), some (.int (zn N)), none] [] ph1245
    refine w_load (pc' := 20) (v := .ref 170) (m := 1) (ykc_269 (e := (2, .aload_n kF0, 0)) rfl) rfl rfl ?_
    refine w_cv (as := [.ref 170]) (r := []) (ykc_269 (e := (6, .invokevirtual 424, 0)) rfl) rfl rfl rfl rfl (zm_copies hS1 hv1) (fun v1249 ph1250 hv => ?_)
    obtain ⟨rfl, fc, hv2⟩ := hv
    have hS2 := zSh_F fc (by decide +kernel) hS1
    have hE2 : zMe ph1250 (R, C, rk, sn, sk, cn, cd) := ⟨zMl_F fc (by simp) (by simp) (by simp) (by simp) hE1.1, zMr_F fc (by simp) (by simp) (by simp) (by simp) hE1.2.1, hE1.2.2⟩
    have hN2 := zMp_F fc (by simp) (by simp) (by simp) hN1
    show zW n D 269 Q 23 [some (.ref 170), some (.int (zn N)), none] [] ph1250
    refine w_load (pc' := 24) (v := .ref 170) (m := 1) (ykc_269 (e := (2, .aload_n kF0, 0)) rfl) rfl rfl ?_
    refine w_load (pc' := 25) (v := .ref 170) (m := 1) (ykc_269 (e := (2, .aload_n kF0, 0)) rfl) rfl rfl ?_
    refine w_gf (pc' := 28) (v := .ref 175) (ykc_269 (e := (5, .getfield 44, 0)) rfl) rfl ((fc.1 170 12 (by decide) (by decide)).trans ((u1244.2.1 170 12 (fun q => absurd q.2 (by decide))).trans (zsg hS zs_170_12))) rfl ?_
    refine w_load (pc' := 29) (v := .int (zn N)) (m := 1) (ykc_269 (e := (2, .iload_n kF1, 0)) rfl) rfl rfl ?_
    refine w_cv (as := [.ref 170, .ref 175, .int (zn N)]) (r := []) (ykc_269 (e := (6, .invokevirtual 370, 0)) rfl) rfl rfl rfl rfl (zm_goesOn hS2 hE2 hN2 (Or.inr rfl) hv2 hO0 (N := N) tN (by omega)) (fun v1251 ph1252 hv => ?_)
    obtain ⟨rfl, fd, hv3⟩ := hv
    obtain ⟨hS3, hE3, hN3⟩ := zTb_m (v := v) (u := v) (Or.inr rfl) fd hS2 hE2 hN2
    show zW n D 269 Q 32 [some (.ref 170), some (.int (zn N)), none] [] ph1252
    refine w_load (pc' := 33) (v := .ref 170) (m := 1) (ykc_269 (e := (2, .aload_n kF0, 0)) rfl) rfl rfl ?_
    refine w_alu (pc' := 34) (st' := [.int (Int32.ofInt 0), .ref 170]) (ykc_269 (e := (0, .iconst 0, 0)) rfl) rfl rfl ?_
    refine w_pf (pc' := 37) (ykc_269 (e := (5, .putfield 15, 0)) rfl) rfl rfl (fun ph1254 u1253 => ?_)
    refine w_alu (pc' := 38) (st' := [.int (Int32.ofInt 0)]) (ykc_269 (e := (0, .iconst 0, 0)) rfl) rfl rfl ?_
    refine w_store (pc' := 39) (L' := [some (.ref 170), some (.int (zn N)), some (.int (Int32.ofInt 0))]) (st' := []) (m := 1) (ykc_269 (e := (3, .istore_n kF2, 0)) rfl) rfl rfl ?_
    have hP8 : P ≤ 8 := hN0.2.1
    have g0 := u1253.1
    have hS4 := zSh_st u1253 (by decide +kernel) hS3
    have hN4 := zMp_F (zFr_st (A := []) (F := [(170, 1)]) u1253 (Or.inr (by simp))) (by simp) (by simp) (by simp) hN3
    have hE4 : zMe ph1254 (R, C, rk, sn, sk, cn, cd) := ⟨zMl_F (zFr_st (A := []) (F := [(170, 1)]) u1253 (Or.inr (by simp))) (by simp) (by simp) (by simp) (by simp) hE3.1, zMr_F (zFr_st (A := []) (F := [(170, 1)]) u1253 (Or.inr (by simp))) (by simp) (by simp) (by simp) (by simp) hE3.2.1, hE3.2.2⟩
    have hv4 := zNr_F (zFr_st (A := []) (F := [(170, 1)]) u1253 (Or.inr (by simp))) (by simp) (by simp) hv3
    have hl : ∀ (n : Nat), ∀ (k : Nat) (ph1 : pm_H), (k ≤ P) → (zFr [171] [(170, 1)] ph1254 ph1) → (zc ph1 170 1 = some (.int (zn k))) → zW n D 269 Q 39 [some (.ref 170), some (.int (zn N)), some (.int (zn k))] [] ph1 := by
      intro n
      induction n using Nat.strongRecOn with
      | ind n ih =>
        intro k ph1 hk hf1 ht1
        have tk := znt (k := k) (by omega)
        have hS5 := zSh_F hf1 (by decide +kernel) hS4
        have hN5 := zMp_F hf1 (by simp) (by simp) (by simp) hN4
        have hv5 := zNr_F hf1 (by simp) (by simp) hv4
        have hE5 : zMe ph1 (R, C, rk, sn, sk, cn, cd) := ⟨zMl_F hf1 (by simp) (by simp) (by simp) (by simp) hE4.1, zMr_F hf1 (by simp) (by simp) (by simp) (by simp) hE4.2.1, hE4.2.2⟩
        refine w_load (pc' := 40) (v := .int (zn k)) (m := 1) (ykc_269 (e := (2, .iload_n kF2, 0)) rfl) rfl rfl ?_
        refine w_load (pc' := 41) (v := .ref 170) (m := 1) (ykc_269 (e := (2, .aload_n kF0, 0)) rfl) rfl rfl ?_
        refine w_gf (pc' := 44) (v := .int (zn P)) (ykc_269 (e := (5, .getfield 130, 0)) rfl) rfl ((hf1.1 170 5 (by decide) (by decide)).trans ((u1253.2.1 170 5 (fun q => absurd q.2 (by decide))).trans ((fd.1 170 5 (by decide) (by decide)).trans ((fc.1 170 5 (by decide) (by decide)).trans ((u1244.2.1 170 5 (fun q => absurd q.2 (by decide))).trans gP))))) rfl ?_
        refine w_ige (ykc_269 (e := (4, .if_icmp .ge 23, 67)) rfl) rfl (fun b1255 => ?_) (fun b1255 => ?_)
        · refine w_load (pc' := 68) (v := .ref 170) (m := 1) (ykc_269 (e := (2, .aload_n kF0, 0)) rfl) rfl rfl ?_
          refine w_load (pc' := 69) (v := .ref 170) (m := 1) (ykc_269 (e := (2, .aload_n kF0, 0)) rfl) rfl rfl ?_
          refine w_gf (pc' := 72) (v := .ref 175) (ykc_269 (e := (5, .getfield 44, 0)) rfl) rfl ((hf1.1 170 12 (by decide) (by decide)).trans ((u1253.2.1 170 12 (fun q => absurd q.2 (by decide))).trans ((fd.1 170 12 (by decide) (by decide)).trans ((fc.1 170 12 (by decide) (by decide)).trans ((u1244.2.1 170 12 (fun q => absurd q.2 (by decide))).trans (zsg hS zs_170_12)))))) rfl ?_
          refine w_cv (as := [.ref 170, .ref 175]) (r := []) (ykc_269 (e := (6, .invokevirtual 366, 0)) rfl) rfl rfl rfl rfl (zm_known hS5 hE5 hN5 (Or.inr rfl) hv5 (zHqn_ok hO0 hP8 hN0.2.2.2 N (by omega))) (fun v1256 ph1257 hv => ?_)
          obtain ⟨rfl, rfl⟩ := hv
          show zW n D 269 Q 75 [some (.ref 170), some (.int (zn N)), some (.int (zn k))] [.int (zKw (zHqn (R, C, rk, sn, sk, cn, cd) P G v N) P)] ph1
          refine w_ret (v := (some (.int (zKw (zHqn (R, C, rk, sn, sk, cn, cd) P G v N) P)))) (ykc_269 (e := (7, .ireturn, 0)) rfl) (zr_v rfl) ?_
          rw [hQ]
          exact zXahd_p hN9
        · refine w_load (pc' := 48) (v := .ref 170) (m := 1) (ykc_269 (e := (2, .aload_n kF0, 0)) rfl) rfl rfl ?_
          refine w_load (pc' := 49) (v := .ref 170) (m := 1) (ykc_269 (e := (2, .aload_n kF0, 0)) rfl) rfl rfl ?_
          refine w_gf (pc' := 52) (v := .ref 175) (ykc_269 (e := (5, .getfield 44, 0)) rfl) rfl ((hf1.1 170 12 (by decide) (by decide)).trans ((u1253.2.1 170 12 (fun q => absurd q.2 (by decide))).trans ((fd.1 170 12 (by decide) (by decide)).trans ((fc.1 170 12 (by decide) (by decide)).trans ((u1244.2.1 170 12 (fun q => absurd q.2 (by decide))).trans (zsg hS zs_170_12)))))) rfl ?_
          refine w_push (pc' := 54) (v := .int ((Int8.ofInt 24).toInt32)) (m := 2) (ykc_269 (e := (1, .bipush 24, 0)) rfl) rfl rfl ?_
          refine w_load (pc' := 55) (v := .int (zn k)) (m := 1) (ykc_269 (e := (2, .iload_n kF2, 0)) rfl) rfl rfl ?_
          have e1258 : ((Int8.ofInt 24).toInt32) + (zn k) = zn (24 + k) := (zaddN (a := 24) (b := k) c_0 (znt (by omega)) (by omega)) 
          have te1258 := znt (k := 24 + k) (by omega)
          refine w_alu (pc' := 56) (st' := [.int (zn (24 + k)), .ref 175, .ref 170]) (ykc_269 (e := (0, .iadd, 0)) rfl) (by rw [← e1258]; rfl) rfl ?_
          refine w_ialk (pc' := 57) (k := 24 + k) (ykc_269 (e := (5, .iaload, 0)) rfl) (zNr0 hv5 (i := 24 + k) (by omega)) (by omega) rfl ?_
          refine w_alu (pc' := 58) (st' := [.long ((zn (zHqn (R, C, rk, sn, sk, cn, cd) P G v N (24 + k))).toInt64), .ref 170]) (ykc_269 (e := (0, .i2l, 0)) rfl) rfl rfl ?_
          refine w_cv (as := [.ref 170, .long ((zn (zHqn (R, C, rk, sn, sk, cn, cd) P G v N (24 + k))).toInt64)]) (r := []) (ykc_269 (e := (6, .invokevirtual 373, 0)) rfl) rfl rfl rfl rfl (zm_enters hS5 ht1 (by omega)) (fun v1259 ph1260 hv => ?_)
          obtain ⟨rfl, f6, ht6⟩ := hv
          show zW n D 269 Q 61 [some (.ref 170), some (.int (zn N)), some (.int (zn k))] [] ph1260
          have e1261 : (zn k) + Int32.ofInt 1 = zn (k + 1) := (zaddN (a := k) (b := 1) (znt (by omega)) c_3 (by omega))
          have te1261 := znt (k := k + 1) (by omega)
          refine w_store (pc' := 64) (L' := [some (.ref 170), some (.int (zn N)), some (.int (zn (k + 1)))]) (st' := []) (m := 3) (ykc_269 (e := (3, .iinc 2 1, 0)) rfl) (by rw [← e1261]; rfl) rfl ?_
          refine w_gb (ykc_269 (e := (4, .goto (-25), 39)) rfl) (fun k1262 hk1262 => ?_)
          exact ih k1262 hk1262 (k + 1) _ (by omega) (zFr_trans hf1 f6) ht6
    exact hl n 0 _ (Nat.zero_le _) zFr_refl g0
  · refine w_alu (pc' := 18) (st' := [.int (Int32.ofInt (-1))]) (ykc_269 (e := (0, .iconst (-1), 0)) rfl) rfl rfl ?_
    refine w_ret (v := (some (.int (Int32.ofInt (-1))))) (ykc_269 (e := (7, .ireturn, 0)) rfl) (zr_v rfl) ?_
    have b_n := of_decide_eq_false b1248
    rw [hQ]
    exact zXahd_n b_n
theorem zTb_pass1 {ph : pm_H} {E : zEn} {F P G : Nat} {v : Nat → Nat} (h : zTb ph E F P G v) (hO : zOk E.1 E.2.1 P G v) (hN : v 40 + 1 < 999999) : zM 92 [.ref 10, .ref 37, .int (Int32.ofInt 1)] ph (fun v0 q => zCp 37 ph q ∧ zTb q E F P G (zHqn E P G v 1) ∧ ∃ y, v0 = some (.int y)) := by
  have h9 := zTb_pass (N := 1) h hO hN
  rw [show zn 1 = Int32.ofInt 1 by decide] at h9
  exact zM_imp h9 (fun v0 q h => ⟨h.1, h.2.1, _, h.2.2⟩)
def zXfi (f : Nat → Bool) : Nat → Nat → Int32
  | 0, _ => (Int8.ofInt (-2)).toInt32
  | n + 1, k => bif f k then zn k else zXfi f n (k + 1)
theorem zXfi_b {f : Nat → Bool} {k : Nat} (h : k ≤ 99) (hf : f k = false) : zXfi f (100 - k) k = zXfi f (100 - (k + 1)) (k + 1) := by
  rw [show 100 - k = (100 - (k + 1)) + 1 by omega]
  show (bif f k then zn k else zXfi f (100 - (k + 1)) (k + 1)) = _
  rw [hf]
  rfl
theorem zXfi_e {f : Nat → Bool} {k : Nat} (h : k ≤ 99) (hf : f k = true) : zXfi f (100 - k) k = zn k := by
  rw [show 100 - k = (100 - (k + 1)) + 1 by omega]
  show (bif f k then zn k else zXfi f (100 - (k + 1)) (k + 1)) = _
  rw [hf]
  rfl
def zXkn (v : Nat → Nat) (t : Nat) : Nat → Int32
  | 0 => Int32.ofInt 0
  | k + 1 => zXkn v t k ||| ((((zn (v (24 + k))) >>> ((zn t) &&& 31)) &&& (Int32.ofInt 1)) <<< ((zn k) &&& 31))
theorem zbd8 : ∀ m, m < 256 → ∀ t, t < 8 → zb (zn m).toInt64 t = zd (zn m) t := by decide +kernel
theorem zd_i1 : ∀ i, i < 32 → zd (Int32.ofInt 1) i = decide (i = 0) := by decide +kernel
theorem zd_i0 : ∀ i, i < 32 → zd (Int32.ofInt 0) i = false := by decide +kernel
theorem zXkn_d {v : Nat → Nat} {t p : Nat} (ht : t < 8) (hp : p < 8) : ∀ n, n ≤ 8 → zd (zXkn v t n) p = (decide (p < n) && zd (zn (v (24 + p))) t) := by
  intro n
  induction n with
  | zero =>
    intro _
    show zd (Int32.ofInt 0) p = _
    rw [zd_i0 p (by omega)]
    simp
  | succ n ih =>
    intro hn
    show zd (zXkn v t n ||| ((((zn (v (24 + n))) >>> ((zn t) &&& 31)) &&& (Int32.ofInt 1)) <<< ((zn n) &&& 31))) p = _
    rw [zd_or, ih (by omega), zd_shl (by omega) (by omega), zd_and, zd_i1 (p - n) (by omega)]
    by_cases h1 : p < n
    · have h2 : ¬ n ≤ p := by omega
      simp [h1, h2, show p < n + 1 by omega]
    · by_cases h3 : p = n
      · subst h3
        rw [Nat.sub_self, zd_shr (by omega) (by omega), Nat.add_zero]
        simp
      · have h4 : ¬ p - n = 0 := by omega
        have h5 : ¬ p < n + 1 := by omega
        simp [h1, h4, h5]
theorem zXkn_t {v : Nat → Nat} {t n p : Nat} (hp : p < n) (hn : n ≤ 8) (ht : t < 8) (hv : v (24 + p) < 256) : (((zXkn v t n) >>> ((zn p) &&& 31)) &&& (Int32.ofInt 1)).toInt = (Int32.ofInt 1).toInt ↔ zb (zn (v (24 + p))).toInt64 t = true := by
  rw [Int32.toInt_inj, show (Int32.ofInt 1) = (1 : Int32) by decide, zand1_32, zd_shr (by omega) (by omega), Nat.add_zero, zXkn_d ht (by omega) n hn, decide_eq_true hp, Bool.true_and, zbd8 _ hv t ht]
theorem zc_knw {ph : pm_H} {S P G : Nat} {v : Nat → Nat} (hs : zSs ph S) (hd : zSd ph S P G v) {t : Nat} (ht : t < 32) : zM 110 [.ref S, .int (zn t)] ph (fun v0 q => ph = q ∧ v0 = some (.int (zXkn v t P))) := by
  obtain ⟨Q, hQ⟩ : ∃ Q : Option Value → pm_H → Prop, Q = (fun v0 q => ph = q ∧ v0 = some (.int (zXkn v t P))) := ⟨_, rfl⟩
  rw [← hQ]
  refine zM_mk fun n D => ?_
  show zW n D 110 Q 0 [some (.ref S), some (.int (zn t)), none, none] [] ph
  have c_0 : ((Int8.ofInt 8).toInt32).toInt = 8 := by decide
  have c_1 : (Int32.ofInt 0).toInt = 0 := by decide
  have c_2 : (Int32.ofInt 1).toInt = 1 := by decide
  have hd0 := hd
  have hs0 := hs
  obtain ⟨r3, r4, r5, r6, r7, l1, l2, l3, l4, l5⟩ := hs
  obtain ⟨gP, hP8, gG, hG8, gH, gv, gw⟩ := hd
  have tP := znt (k := P) (by omega)
  have tG := znt (k := G) (by omega)
  have tt := znt (k := t) (by omega)
  refine w_alu (pc' := 1) (st' := [.int (Int32.ofInt 0)]) (ykc_110 (e := (0, .iconst 0, 0)) rfl) rfl rfl ?_
  refine w_store (pc' := 2) (L' := [some (.ref S), some (.int (zn t)), some (.int (Int32.ofInt 0)), none]) (st' := []) (m := 1) (ykc_110 (e := (3, .istore_n kF2, 0)) rfl) rfl rfl ?_
  refine w_alu (pc' := 3) (st' := [.int (Int32.ofInt 0)]) (ykc_110 (e := (0, .iconst 0, 0)) rfl) rfl rfl ?_
  refine w_store (pc' := 4) (L' := [some (.ref S), some (.int (zn t)), some (.int (Int32.ofInt 0)), some (.int (Int32.ofInt 0))]) (st' := []) (m := 1) (ykc_110 (e := (3, .istore_n kF3, 0)) rfl) rfl rfl ?_
  have hl : ∀ (n : Nat), ∀ (k : Nat), (k ≤ P) → zW n D 110 Q 4 [some (.ref S), some (.int (zn t)), some (.int (zXkn v t k)), some (.int (zn k))] [] ph := by
    intro n
    induction n using Nat.strongRecOn with
    | ind n ih =>
      intro k hk
      have tk := znt (k := k) (by omega)
      refine w_load (pc' := 5) (v := .int (zn k)) (m := 1) (ykc_110 (e := (2, .iload_n kF3, 0)) rfl) rfl rfl ?_
      refine w_load (pc' := 6) (v := .ref S) (m := 1) (ykc_110 (e := (2, .aload_n kF0, 0)) rfl) rfl rfl ?_
      refine w_gf (pc' := 9) (v := .int (zn P)) (ykc_110 (e := (5, .getfield 30, 0)) rfl) rfl gP rfl ?_
      refine w_ige (ykc_110 (e := (4, .if_icmp .ge 30, 39)) rfl) rfl (fun b1263 => ?_) (fun b1263 => ?_)
      · refine w_load (pc' := 40) (v := .int (zXkn v t k)) (m := 1) (ykc_110 (e := (2, .iload_n kF2, 0)) rfl) rfl rfl ?_
        refine w_ret (v := (some (.int (zXkn v t k)))) (ykc_110 (e := (7, .ireturn, 0)) rfl) (zr_v rfl) ?_
        have ek : P = k := by omega
        subst ek
        rw [hQ]
        exact ⟨rfl, rfl⟩
      · refine w_load (pc' := 13) (v := .int (zn k)) (m := 1) (ykc_110 (e := (2, .iload_n kF3, 0)) rfl) rfl rfl ?_
        refine w_push (pc' := 15) (v := .int ((Int8.ofInt 8).toInt32)) (m := 2) (ykc_110 (e := (1, .bipush 8, 0)) rfl) rfl rfl ?_
        refine w_ige (ykc_110 (e := (4, .if_icmp .ge 24, 39)) rfl) rfl (fun q => by exfalso; omega) (fun b1264 => ?_)
        refine w_load (pc' := 19) (v := .int (zXkn v t k)) (m := 1) (ykc_110 (e := (2, .iload_n kF2, 0)) rfl) rfl rfl ?_
        refine w_load (pc' := 20) (v := .ref S) (m := 1) (ykc_110 (e := (2, .aload_n kF0, 0)) rfl) rfl rfl ?_
        refine w_gf (pc' := 23) (v := .ref (S + 4)) (ykc_110 (e := (5, .getfield 21, 0)) rfl) rfl r6 rfl ?_
        refine w_load (pc' := 24) (v := .int (zn k)) (m := 1) (ykc_110 (e := (2, .iload_n kF3, 0)) rfl) rfl rfl ?_
        refine w_ialk (pc' := 25) (k := k) (ykc_110 (e := (5, .iaload, 0)) rfl) (gv k (by omega)).2.2.2 (by omega) rfl ?_
        refine w_load (pc' := 26) (v := .int (zn t)) (m := 1) (ykc_110 (e := (2, .iload_n kF1, 0)) rfl) rfl rfl ?_
        refine w_alu (pc' := 27) (st' := [.int ((zn (v (24 + k))) >>> ((zn t) &&& 31)), .int (zXkn v t k)]) (ykc_110 (e := (0, .ishr, 0)) rfl) rfl rfl ?_
        refine w_alu (pc' := 28) (st' := [.int (Int32.ofInt 1), .int ((zn (v (24 + k))) >>> ((zn t) &&& 31)), .int (zXkn v t k)]) (ykc_110 (e := (0, .iconst 1, 0)) rfl) rfl rfl ?_
        refine w_alu (pc' := 29) (st' := [.int (((zn (v (24 + k))) >>> ((zn t) &&& 31)) &&& (Int32.ofInt 1)), .int (zXkn v t k)]) (ykc_110 (e := (0, .iand, 0)) rfl) rfl rfl ?_
        refine w_load (pc' := 30) (v := .int (zn k)) (m := 1) (ykc_110 (e := (2, .iload_n kF3, 0)) rfl) rfl rfl ?_
        refine w_alu (pc' := 31) (st' := [.int ((((zn (v (24 + k))) >>> ((zn t) &&& 31)) &&& (Int32.ofInt 1)) <<< ((zn k) &&& 31)), .int (zXkn v t k)]) (ykc_110 (e := (0, .ishl, 0)) rfl) rfl rfl ?_
        refine w_alu (pc' := 32) (st' := [.int ((zXkn v t k) ||| ((((zn (v (24 + k))) >>> ((zn t) &&& 31)) &&& (Int32.ofInt 1)) <<< ((zn k) &&& 31)))]) (ykc_110 (e := (0, .ior, 0)) rfl) rfl rfl ?_
        refine w_store (pc' := 33) (L' := [some (.ref S), some (.int (zn t)), some (.int ((zXkn v t k) ||| ((((zn (v (24 + k))) >>> ((zn t) &&& 31)) &&& (Int32.ofInt 1)) <<< ((zn k) &&& 31)))), some (.int (zn k))]) (st' := []) (m := 1) (ykc_110 (e := (3, .istore_n kF2, 0)) rfl) rfl rfl ?_
        have e1265 : (zn k) + Int32.ofInt 1 = zn (k + 1) := (zaddN (a := k) (b := 1) (znt (by omega)) c_2 (by omega))
        have te1265 := znt (k := k + 1) (by omega)
        refine w_store (pc' := 36) (L' := [some (.ref S), some (.int (zn t)), some (.int ((zXkn v t k) ||| ((((zn (v (24 + k))) >>> ((zn t) &&& 31)) &&& (Int32.ofInt 1)) <<< ((zn k) &&& 31)))), some (.int (zn (k + 1)))]) (st' := []) (m := 3) (ykc_110 (e := (3, .iinc 3 1, 0)) rfl) (by rw [← e1265]; rfl) rfl ?_
        refine w_gb (ykc_110 (e := (4, .goto (-32), 4)) rfl) (fun k1266 hk1266 => ?_)
        exact ih k1266 hk1266 (k + 1) (by omega)
  exact hl n 0 (Nat.zero_le _)
noncomputable def zXlrn (E : zEn) (P G : Nat) (v : Nat → Nat) (x y : Int32) : Int32 := if ((0 ≤ x.toInt ∧ x.toInt < (P : Int)) ∧ (0 ≤ y.toInt ∧ y.toInt < (G : Int))) then zXfi (fun k => zb (zn (zHqn E P G v k (24 + x.toInt.toNat))).toInt64 y.toInt.toNat) 100 0 else Int32.ofInt (-1)
theorem zXlrn_n {E : zEn} {P G : Nat} {v : Nat → Nat} {x y : Int32} (h : ¬ ((0 ≤ x.toInt ∧ x.toInt < (P : Int)) ∧ (0 ≤ y.toInt ∧ y.toInt < (G : Int)))) : (some (.int (Int32.ofInt (-1))) : Option Value) = some (.int (zXlrn E P G v x y)) := by
  unfold zXlrn
  rw [if_neg h]
theorem zXlrn_p {E : zEn} {P G p g : Nat} {v : Nat → Nat} {z : Int32} (hp : p < P) (hP : P ≤ 8) (hg : g < G) (hG : G ≤ 8) (h : zXfi (fun k => zb (zn (zHqn E P G v k (24 + p))).toInt64 g) 100 0 = z) : (some (.int z) : Option Value) = some (.int (zXlrn E P G v (zn p) (zn g))) := by
  have t := znt (k := p) (by omega)
  have t2 := znt (k := g) (by omega)
  unfold zXlrn
  rw [if_pos ⟨⟨by omega, by omega⟩, ⟨by omega, by omega⟩⟩, show (zn p).toInt.toNat = p by omega, show (zn g).toInt.toNat = g by omega, h]
theorem zc_lrnX {ph : pm_H} {E : zEn} {F P G : Nat} {v : Nat → Nat} (hS : zSh ph) (hE : zCe ph E F) (ht : zCt ph 25 P G v) (hO : zOk E.1 E.2.1 P G v) (hr : zc ph 10 1 = some (.ref F)) (hc : zCc ph E.1 E.2.1 E.2.2.1) (hh : v 40 < 999000) {x y : Int32} : zM 154 [.ref 0, .int x, .int y] ph (fun v0 _ => v0 = some (.int (zXlrn E P G v x y))) := by
  obtain ⟨Q, hQ⟩ : ∃ Q : Option Value → pm_H → Prop, Q = (fun v0 _ => v0 = some (.int (zXlrn E P G v x y))) := ⟨_, rfl⟩
  rw [← hQ]
  refine zM_mk fun n D => ?_
  show zW n D 154 Q 0 [some (.ref 0), some (.int x), some (.int y), none, none] [] ph
  have c_0 : ((Int8.ofInt (-2)).toInt32).toInt = -2 := by decide
  have c_1 : ((Int8.ofInt 99).toInt32).toInt = 99 := by decide
  have c_2 : (Int32.ofInt (-1)).toInt = -1 := by decide
  have c_3 : (Int32.ofInt 0).toInt = 0 := by decide
  have c_4 : (Int32.ofInt 1).toInt = 1 := by decide
  obtain ⟨R, C, rk, sn, sk, cn, cd⟩ := E
  have hL0 : zCl ph R C rk := hE.1
  have hi0 : zCi ph sn sk := hE.2.1
  have hF : F = 11 ∨ F = 16 := hE.2.2.2
  have hE0 : zCe ph (R, C, rk, sn, sk, cn, cd) F := hE
  have hO0 : zOk R C P G v := hO
  have hL := hL0
  have hs := ht.1.2
  have hd := ht.2
  have h25 := ht.1.1
  obtain ⟨gR, gC, gN, gK, gA, hR3, hR7, hC3, hC7⟩ := hL
  have hRC := zRC49 hR7 hC7
  have tR := znt (k := R) (by omega)
  have tC := znt (k := C) (by omega)
  have tRC := znt (k := R * C) (by omega)
  have hd0 := hd
  have hs0 := hs
  obtain ⟨r3, r4, r5, r6, r7, l1, l2, l3, l4, l5⟩ := hs
  obtain ⟨gP, hP8, gG, hG8, gH, gv, gw⟩ := hd
  have tP := znt (k := P) (by omega)
  have tG := znt (k := G) (by omega)
  have h40 := hO0.2.2
  have t40 := znt (k := v 40) (by omega)
  have hc0 := hc
  have hG8 : G ≤ 8 := hd0.2.2.2.1
  refine w_load (pc' := 1) (v := .ref 0) (m := 1) (ykc_154 (e := (2, .aload_n kF0, 0)) rfl) rfl rfl ?_
  refine w_gf (pc' := 4) (v := .ref 25) (ykc_154 (e := (5, .getfield 42, 0)) rfl) rfl (zsg hS zs_0_4) rfl ?_
  refine w_load (pc' := 5) (v := .int x) (m := 1) (ykc_154 (e := (2, .iload_n kF1, 0)) rfl) rfl rfl ?_
  refine w_cv (as := [.ref 25, .int x]) (r := []) (ykc_154 (e := (6, .invokevirtual 167, 0)) rfl) rfl rfl rfl rfl (zc_hasP ht.1.2 ht.2 (i := x)) (fun v1267 ph1268 hv => ?_)
  obtain ⟨rfl, rfl⟩ := hv
  show zW n D 154 Q 8 [some (.ref 0), some (.int x), some (.int y), none, none] [.int (zI (decide (0 ≤ x.toInt ∧ x.toInt < ((P : Nat) : Int))))] ph
  refine w_beq (ykc_154 (e := (4, .ifCond .eq 14, 22)) rfl) rfl (fun b1269 => ?_) (fun b1269 => ?_)
  · refine w_alu (pc' := 23) (st' := [.int (Int32.ofInt (-1))]) (ykc_154 (e := (0, .iconst (-1), 0)) rfl) rfl rfl ?_
    refine w_ret (v := (some (.int (Int32.ofInt (-1))))) (ykc_154 (e := (7, .ireturn, 0)) rfl) (zr_v rfl) ?_
    rw [hQ]
    exact zXlrn_n (fun q => absurd q.1 (of_decide_eq_false b1269))
  · refine w_load (pc' := 12) (v := .ref 0) (m := 1) (ykc_154 (e := (2, .aload_n kF0, 0)) rfl) rfl rfl ?_
    refine w_gf (pc' := 15) (v := .ref 25) (ykc_154 (e := (5, .getfield 42, 0)) rfl) rfl (zsg hS zs_0_4) rfl ?_
    refine w_load (pc' := 16) (v := .int y) (m := 1) (ykc_154 (e := (2, .iload_n kF2, 0)) rfl) rfl rfl ?_
    refine w_cv (as := [.ref 25, .int y]) (r := []) (ykc_154 (e := (6, .invokevirtual 198, 0)) rfl) rfl rfl rfl rfl (zc_hasT ht.1.2 ht.2 (i := y)) (fun v1270 ph1271 hv => ?_)
    obtain ⟨rfl, rfl⟩ := hv
    show zW n D 154 Q 19 [some (.ref 0), some (.int x), some (.int y), none, none] [.int (zI (decide (0 ≤ y.toInt ∧ y.toInt < ((G : Nat) : Int))))] ph
    refine w_bne (ykc_154 (e := (4, .ifCond .ne 5, 24)) rfl) rfl (fun b1272 => ?_) (fun b1272 => ?_)
    · have b_p := of_decide_eq_true b1269
      obtain ⟨p, h_p, rfl⟩ : ∃ p : Nat, p < P ∧ x = zn p := ⟨x.toInt.toNat, by omega, zn_of (by omega)⟩
      have t_p := znt (k := p) (by omega)
      have b_g := of_decide_eq_true b1272
      obtain ⟨g, h_g, rfl⟩ : ∃ g : Nat, g < G ∧ y = zn g := ⟨y.toInt.toNat, by omega, zn_of (by omega)⟩
      have t_g := znt (k := g) (by omega)
      show zW n D 154 Q 24 [some (.ref 0), some (.int (zn p)), some (.int (zn g)), none, none] [] ph
      refine w_load (pc' := 25) (v := .ref 0) (m := 1) (ykc_154 (e := (2, .aload_n kF0, 0)) rfl) rfl rfl ?_
      refine w_gf (pc' := 28) (v := .ref 37) (ykc_154 (e := (5, .getfield 49, 0)) rfl) rfl (zsg hS zs_0_6) rfl ?_
      refine w_load (pc' := 29) (v := .ref 0) (m := 1) (ykc_154 (e := (2, .aload_n kF0, 0)) rfl) rfl rfl ?_
      refine w_gf (pc' := 32) (v := .ref 25) (ykc_154 (e := (5, .getfield 42, 0)) rfl) rfl (zsg hS zs_0_4) rfl ?_
      refine w_cv (as := [.ref 37, .ref 25]) (r := []) (ykc_154 (e := (6, .invokevirtual 235, 0)) rfl) rfl rfl rfl rfl (zc_copy (zSs_of hS (S := 25) (by decide)) (zSs_of hS (S := 37) (by decide)) ht.2 (by omega)) (fun v1273 ph1274 hv => ?_)
      obtain ⟨rfl, fb, db⟩ := hv
      have tb0 := zTb_copy hS hE0 hr hc0 fb db
      show zW n D 154 Q 35 [some (.ref 0), some (.int (zn p)), some (.int (zn g)), none, none] [] ph1274
      refine w_alu (pc' := 36) (st' := [.int (Int32.ofInt 0)]) (ykc_154 (e := (0, .iconst 0, 0)) rfl) rfl rfl ?_
      refine w_store (pc' := 37) (L' := [some (.ref 0), some (.int (zn p)), some (.int (zn g)), some (.int (Int32.ofInt 0)), none]) (st' := []) (m := 1) (ykc_154 (e := (3, .istore_n kF3, 0)) rfl) rfl rfl ?_
      have hl : ∀ (n : Nat), ∀ (k : Nat) (o4 : Option Value) (ph1 : pm_H), (k ≤ 100) → (zSh ph1) → (zTb ph1 (R, C, rk, sn, sk, cn, cd) F P G (zHqn (R, C, rk, sn, sk, cn, cd) P G v k)) → (zXfi (fun k => zb (zn (zHqn (R, C, rk, sn, sk, cn, cd) P G v k (24 + p))).toInt64 g) 100 0 = zXfi (fun k => zb (zn (zHqn (R, C, rk, sn, sk, cn, cd) P G v k (24 + p))).toInt64 g) (100 - k) k) → zW n D 154 Q 37 [some (.ref 0), some (.int (zn p)), some (.int (zn g)), some (.int (zn k)), o4] [] ph1 := by
        intro n
        induction n using Nat.strongRecOn with
        | ind n ih =>
          intro k o4 ph1 hk hS tb he
          have tk := znt (k := k) (by omega)
          have h40 := zHqn_40 (E := (R, C, rk, sn, sk, cn, cd)) (G := G) (v := v) hP8 k
          have hok := (zHqn_ok (E := (R, C, rk, sn, sk, cn, cd)) hO0 hP8 hG8 k (by omega))
          have hvp := (hok.1 p h_p).2.2.2
          refine w_load (pc' := 38) (v := .int (zn k)) (m := 1) (ykc_154 (e := (2, .iload_n kF3, 0)) rfl) rfl rfl ?_
          refine w_push (pc' := 40) (v := .int ((Int8.ofInt 99).toInt32)) (m := 2) (ykc_154 (e := (1, .bipush 99, 0)) rfl) rfl rfl ?_
          refine w_igt (ykc_154 (e := (4, .if_icmp .gt 61, 101)) rfl) rfl (fun b1275 => ?_) (fun b1275 => ?_)
          · refine w_push (pc' := 103) (v := .int ((Int8.ofInt (-2)).toInt32)) (m := 2) (ykc_154 (e := (1, .bipush (-2), 0)) rfl) rfl rfl ?_
            refine w_ret (v := (some (.int ((Int8.ofInt (-2)).toInt32)))) (ykc_154 (e := (7, .ireturn, 0)) rfl) (zr_v rfl) ?_
            have ek : k = 100 := by omega
            subst ek
            rw [hQ]
            exact zXlrn_p (E := (R, C, rk, sn, sk, cn, cd)) h_p (by omega) h_g (by omega) (he.trans rfl)
          · refine w_load (pc' := 44) (v := .ref 0) (m := 1) (ykc_154 (e := (2, .aload_n kF0, 0)) rfl) rfl rfl ?_
            refine w_gf (pc' := 47) (v := .ref 37) (ykc_154 (e := (5, .getfield 49, 0)) rfl) rfl (zsg hS zs_0_6) rfl ?_
            refine w_load (pc' := 48) (v := .int (zn g)) (m := 1) (ykc_154 (e := (2, .iload_n kF2, 0)) rfl) rfl rfl ?_
            refine w_cv (as := [.ref 37, .int (zn g)]) (r := []) (ykc_154 (e := (6, .invokevirtual 204, 0)) rfl) rfl rfl rfl rfl (zc_knw tb.2.2.1.1.2 tb.2.2.1.2 (t := g) (by omega)) (fun v1276 ph1277 hv => ?_)
            obtain ⟨rfl, rfl⟩ := hv
            show zW n D 154 Q 51 [some (.ref 0), some (.int (zn p)), some (.int (zn g)), some (.int (zn k)), o4] [.int (zXkn (zHqn (R, C, rk, sn, sk, cn, cd) P G v k) g P)] ph1
            refine w_store (pc' := 53) (L' := [some (.ref 0), some (.int (zn p)), some (.int (zn g)), some (.int (zn k)), some (.int (zXkn (zHqn (R, C, rk, sn, sk, cn, cd) P G v k) g P))]) (st' := []) (m := 2) (ykc_154 (e := (3, .istore 4, 0)) rfl) rfl rfl ?_
            refine w_load (pc' := 55) (v := .int (zXkn (zHqn (R, C, rk, sn, sk, cn, cd) P G v k) g P)) (m := 2) (ykc_154 (e := (2, .iload 4, 0)) rfl) rfl rfl ?_
            refine w_load (pc' := 56) (v := .int (zn p)) (m := 1) (ykc_154 (e := (2, .iload_n kF1, 0)) rfl) rfl rfl ?_
            refine w_alu (pc' := 57) (st' := [.int ((zXkn (zHqn (R, C, rk, sn, sk, cn, cd) P G v k) g P) >>> ((zn p) &&& 31))]) (ykc_154 (e := (0, .ishr, 0)) rfl) rfl rfl ?_
            refine w_alu (pc' := 58) (st' := [.int (Int32.ofInt 1), .int ((zXkn (zHqn (R, C, rk, sn, sk, cn, cd) P G v k) g P) >>> ((zn p) &&& 31))]) (ykc_154 (e := (0, .iconst 1, 0)) rfl) rfl rfl ?_
            refine w_alu (pc' := 59) (st' := [.int (((zXkn (zHqn (R, C, rk, sn, sk, cn, cd) P G v k) g P) >>> ((zn p) &&& 31)) &&& (Int32.ofInt 1))]) (ykc_154 (e := (0, .iand, 0)) rfl) rfl rfl ?_
            refine w_alu (pc' := 60) (st' := [.int (Int32.ofInt 1), .int (((zXkn (zHqn (R, C, rk, sn, sk, cn, cd) P G v k) g P) >>> ((zn p) &&& 31)) &&& (Int32.ofInt 1))]) (ykc_154 (e := (0, .iconst 1, 0)) rfl) rfl rfl ?_
            refine w_ine (ykc_154 (e := (4, .if_icmp .ne 22, 82)) rfl) rfl (fun b1278 => ?_) (fun b1278 => ?_)
            · refine w_load (pc' := 83) (v := .ref 0) (m := 1) (ykc_154 (e := (2, .aload_n kF0, 0)) rfl) rfl rfl ?_
              refine w_gf (pc' := 86) (v := .ref 10) (ykc_154 (e := (5, .getfield 35, 0)) rfl) rfl (zsg hS zs_0_3) rfl ?_
              refine w_load (pc' := 87) (v := .ref 0) (m := 1) (ykc_154 (e := (2, .aload_n kF0, 0)) rfl) rfl rfl ?_
              refine w_gf (pc' := 90) (v := .ref 37) (ykc_154 (e := (5, .getfield 49, 0)) rfl) rfl (zsg hS zs_0_6) rfl ?_
              refine w_alu (pc' := 91) (st' := [.int (Int32.ofInt 1), .ref 37, .ref 10]) (ykc_154 (e := (0, .iconst 1, 0)) rfl) rfl rfl ?_
              refine w_cv (as := [.ref 10, .ref 37, .int (Int32.ofInt 1)]) (r := []) (ykc_154 (e := (6, .invokevirtual 239, 0)) rfl) rfl rfl rfl rfl (zTb_pass1 tb hok (by omega)) (fun v1279 ph1280 hv => ?_)
              obtain ⟨fp, tb1, y9, rfl⟩ := hv
              show zW n D 154 Q 94 [some (.ref 0), some (.int (zn p)), some (.int (zn g)), some (.int (zn k)), some (.int (zXkn (zHqn (R, C, rk, sn, sk, cn, cd) P G v k) g P))] [.int y9] ph1280
              refine w_alu (pc' := 95) (st' := []) (ykc_154 (e := (0, .pop, 0)) rfl) rfl rfl ?_
              have e1281 : (zn k) + Int32.ofInt 1 = zn (k + 1) := (zaddN (a := k) (b := 1) (znt (by omega)) c_4 (by omega))
              have te1281 := znt (k := k + 1) (by omega)
              refine w_store (pc' := 98) (L' := [some (.ref 0), some (.int (zn p)), some (.int (zn g)), some (.int (zn (k + 1))), some (.int (zXkn (zHqn (R, C, rk, sn, sk, cn, cd) P G v k) g P))]) (st' := []) (m := 3) (ykc_154 (e := (3, .iinc 3 1, 0)) rfl) (by rw [← e1281]; rfl) rfl ?_
              refine w_gb (ykc_154 (e := (4, .goto (-61), 37)) rfl) (fun k1282 hk1282 => ?_)
              have hf : (fun k => zb (zn (zHqn (R, C, rk, sn, sk, cn, cd) P G v k (24 + p))).toInt64 g) k = false := by
                cases hz : (fun k => zb (zn (zHqn (R, C, rk, sn, sk, cn, cd) P G v k (24 + p))).toInt64 g) k with
                | false => rfl
                | true => exact absurd ((zXkn_t (v := zHqn (R, C, rk, sn, sk, cn, cd) P G v k) (t := g) (n := P) (p := p) h_p hP8 (by omega) hvp).mpr hz) b1278
              exact ih k1282 hk1282 (k + 1) _ _ (by omega) tb1.1 tb1 (he.trans (zXfi_b (by omega) hf))
            · rw [hQ]
              exact zTail kc_154 false 3 63 81 (fun _ => rfl) (Or.inl ⟨_, rfl⟩) (by decide +kernel) (by decide) (by decide) rfl (by decide +kernel) (fun _ => zXlrn_p (E := (R, C, rk, sn, sk, cn, cd)) h_p (by omega) h_g (by omega) (he.trans (zXfi_e (f := (fun k => zb (zn (zHqn (R, C, rk, sn, sk, cn, cd) P G v k (24 + p))).toInt64 g)) (by omega) ((zXkn_t (v := zHqn (R, C, rk, sn, sk, cn, cd) P G v k) (t := g) (n := P) (p := p) h_p hP8 (by omega) hvp).mp b1278))))
      exact hl n 0 _ _ (by decide) tb0.1 tb0 rfl
    · refine w_alu (pc' := 23) (st' := [.int (Int32.ofInt (-1))]) (ykc_154 (e := (0, .iconst (-1), 0)) rfl) rfl rfl ?_
      refine w_ret (v := (some (.int (Int32.ofInt (-1))))) (ykc_154 (e := (7, .ireturn, 0)) rfl) (zr_v rfl) ?_
      rw [hQ]
      exact zXlrn_n (fun q => absurd q.2 (of_decide_eq_false b1272))
theorem zm_lrnX {ph : pm_H} {E : zEn} {P G : Nat} {v : Nat → Nat} (hS : zSh ph) (hE : zMe ph E) (hN : zMp ph P G) (hv : zNr ph 174 0 v) (hO : zOk E.1 E.2.1 P G v) (hh : v 40 < 999000) {x y : Int32} : zM 266 [.ref 170, .int x, .int y] ph (fun v0 _ => v0 = some (.int (zXlrn E P G v x y))) := by
  obtain ⟨Q, hQ⟩ : ∃ Q : Option Value → pm_H → Prop, Q = (fun v0 _ => v0 = some (.int (zXlrn E P G v x y))) := ⟨_, rfl⟩
  rw [← hQ]
  refine zM_mk fun n D => ?_
  show zW n D 266 Q 0 [some (.ref 170), some (.int x), some (.int y), none] [] ph
  have c_0 : ((Int8.ofInt (-2)).toInt32).toInt = -2 := by decide
  have c_1 : ((Int8.ofInt 24).toInt32).toInt = 24 := by decide
  have c_2 : ((Int8.ofInt 99).toInt32).toInt = 99 := by decide
  have c_3 : (Int32.ofInt (-1)).toInt = -1 := by decide
  have c_4 : (Int32.ofInt 0).toInt = 0 := by decide
  have c_5 : (Int32.ofInt 1).toInt = 1 := by decide
  have hA : (174 : Nat) = 174 ∨ (174 : Nat) = 175 := Or.inl rfl
  obtain ⟨R, C, rk, sn, sk, cn, cd⟩ := E
  have hL0 : zMl ph R C rk := hE.1
  have hR0 : zMr ph sn sk cn cd := hE.2.1
  have hcg : zcg cn cd := hE.2.2
  have hE0 : zMe ph (R, C, rk, sn, sk, cn, cd) := hE
  have hO0 : zOk R C P G v := hO
  have hN0 := hN
  have hL := hL0
  have hR := hR0
  obtain ⟨gR, gC, gK, hR3, hR7, hC3, hC7⟩ := hL
  have hRC := zRC49 hR7 hC7
  have tR := znt (k := R) (by omega)
  have tC := znt (k := C) (by omega)
  obtain ⟨gP, hP8, gG, hG8⟩ := hN
  have tP := znt (k := P) (by omega)
  have tG := znt (k := G) (by omega)
  obtain ⟨gsn, hs1, hs20, gsk, gcn, hc40, gcd⟩ := hR
  have tsn := znt (k := sn) (by omega)
  have tcn := znt (k := cn) (by omega)
  refine w_load (pc' := 1) (v := .ref 170) (m := 1) (ykc_266 (e := (2, .aload_n kF0, 0)) rfl) rfl rfl ?_
  refine w_alu (pc' := 2) (st' := [.int (Int32.ofInt 0), .ref 170]) (ykc_266 (e := (0, .iconst 0, 0)) rfl) rfl rfl ?_
  refine w_pf (pc' := 5) (ykc_266 (e := (5, .putfield 3, 0)) rfl) rfl rfl (fun ph1284 u1283 => ?_)
  have f0 : zFr [] [(170, 0)] ph ph1284 := zFr_st u1283 (Or.inr (by simp))
  have hS1 := zSh_st u1283 (by decide +kernel) hS
  have hE1 : zMe ph1284 (R, C, rk, sn, sk, cn, cd) := ⟨zMl_F f0 (by simp) (by simp) (by simp) (by simp) hE0.1, zMr_F f0 (by simp) (by simp) (by simp) (by simp) hE0.2.1, hE0.2.2⟩
  have hN1 := zMp_F f0 (by simp) (by simp) (by simp) hN0
  have hv1 := zNr_F f0 (by simp) (by simp) hv
  have hL1 : zMl ph1284 R C rk := hE1.1
  have hR1 : zMr ph1284 sn sk cn cd := hE1.2.1
  have hP8 : P ≤ 8 := hN0.2.1
  have hG8 : G ≤ 8 := hN0.2.2.2
  refine w_load (pc' := 6) (v := .ref 170) (m := 1) (ykc_266 (e := (2, .aload_n kF0, 0)) rfl) rfl rfl ?_
  refine w_load (pc' := 7) (v := .int x) (m := 1) (ykc_266 (e := (2, .iload_n kF1, 0)) rfl) rfl rfl ?_
  refine w_cv (as := [.ref 170, .int x]) (r := []) (ykc_266 (e := (6, .invokevirtual 315, 0)) rfl) rfl rfl rfl rfl (zm_isPerson hN1 (p := x)) (fun v1285 ph1286 hv => ?_)
  obtain ⟨rfl, rfl⟩ := hv
  show zW n D 266 Q 10 [some (.ref 170), some (.int x), some (.int y), none] [.int (zI (decide (0 ≤ x.toInt ∧ x.toInt < ((P : Nat) : Int))))] ph1284
  refine w_beq (ykc_266 (e := (4, .ifCond .eq 11, 21)) rfl) rfl (fun b1287 => ?_) (fun b1287 => ?_)
  · refine w_alu (pc' := 22) (st' := [.int (Int32.ofInt (-1))]) (ykc_266 (e := (0, .iconst (-1), 0)) rfl) rfl rfl ?_
    refine w_ret (v := (some (.int (Int32.ofInt (-1))))) (ykc_266 (e := (7, .ireturn, 0)) rfl) (zr_v rfl) ?_
    rw [hQ]
    exact zXlrn_n (fun q => absurd q.1 (of_decide_eq_false b1287))
  · refine w_load (pc' := 14) (v := .ref 170) (m := 1) (ykc_266 (e := (2, .aload_n kF0, 0)) rfl) rfl rfl ?_
    refine w_load (pc' := 15) (v := .int y) (m := 1) (ykc_266 (e := (2, .iload_n kF2, 0)) rfl) rfl rfl ?_
    refine w_cv (as := [.ref 170, .int y]) (r := []) (ykc_266 (e := (6, .invokevirtual 327, 0)) rfl) rfl rfl rfl rfl (zm_isThing hN1 (t := y)) (fun v1288 ph1289 hv => ?_)
    obtain ⟨rfl, rfl⟩ := hv
    show zW n D 266 Q 18 [some (.ref 170), some (.int x), some (.int y), none] [.int (zI (decide (0 ≤ y.toInt ∧ y.toInt < ((G : Nat) : Int))))] ph1284
    refine w_bne (ykc_266 (e := (4, .ifCond .ne 5, 23)) rfl) rfl (fun b1290 => ?_) (fun b1290 => ?_)
    · have b_p := of_decide_eq_true b1287
      obtain ⟨p, h_p, rfl⟩ : ∃ p : Nat, p < P ∧ x = zn p := ⟨x.toInt.toNat, by omega, zn_of (by omega)⟩
      have t_p := znt (k := p) (by omega)
      have b_g := of_decide_eq_true b1290
      obtain ⟨g, h_g, rfl⟩ : ∃ g : Nat, g < G ∧ y = zn g := ⟨y.toInt.toNat, by omega, zn_of (by omega)⟩
      have t_g := znt (k := g) (by omega)
      show zW n D 266 Q 23 [some (.ref 170), some (.int (zn p)), some (.int (zn g)), none] [] ph1284
      refine w_load (pc' := 24) (v := .ref 170) (m := 1) (ykc_266 (e := (2, .aload_n kF0, 0)) rfl) rfl rfl ?_
      refine w_cv (as := [.ref 170]) (r := []) (ykc_266 (e := (6, .invokevirtual 424, 0)) rfl) rfl rfl rfl rfl (zm_copies hS1 hv1) (fun v1291 ph1292 hv => ?_)
      obtain ⟨rfl, fc, hv2⟩ := hv
      have hS2 := zSh_F fc (by decide +kernel) hS1
      have hE2 : zMe ph1292 (R, C, rk, sn, sk, cn, cd) := ⟨zMl_F fc (by simp) (by simp) (by simp) (by simp) hE1.1, zMr_F fc (by simp) (by simp) (by simp) (by simp) hE1.2.1, hE1.2.2⟩
      have hN2 := zMp_F fc (by simp) (by simp) (by simp) hN1
      show zW n D 266 Q 27 [some (.ref 170), some (.int (zn p)), some (.int (zn g)), none] [] ph1292
      refine w_alu (pc' := 28) (st' := [.int (Int32.ofInt 0)]) (ykc_266 (e := (0, .iconst 0, 0)) rfl) rfl rfl ?_
      refine w_store (pc' := 29) (L' := [some (.ref 170), some (.int (zn p)), some (.int (zn g)), some (.int (Int32.ofInt 0))]) (st' := []) (m := 1) (ykc_266 (e := (3, .istore_n kF3, 0)) rfl) rfl rfl ?_
      have hl : ∀ (n : Nat), ∀ (k : Nat) (ph1 : pm_H), (k ≤ 100) → (zSh ph1) → (zMe ph1 (R, C, rk, sn, sk, cn, cd)) → (zMp ph1 P G) → (zNr ph1 175 0 (zHqn (R, C, rk, sn, sk, cn, cd) P G v k)) → (zXfi (fun k => zb (zn (zHqn (R, C, rk, sn, sk, cn, cd) P G v k (24 + p))).toInt64 g) 100 0 = zXfi (fun k => zb (zn (zHqn (R, C, rk, sn, sk, cn, cd) P G v k (24 + p))).toInt64 g) (100 - k) k) → zW n D 266 Q 29 [some (.ref 170), some (.int (zn p)), some (.int (zn g)), some (.int (zn k))] [] ph1 := by
        intro n
        induction n using Nat.strongRecOn with
        | ind n ih =>
          intro k ph1 hk hS hE5 hN5 hv5 he
          have tk := znt (k := k) (by omega)
          have h40 := zHqn_40 (E := (R, C, rk, sn, sk, cn, cd)) (G := G) (v := v) hP8 k
          have hok := (zHqn_ok (E := (R, C, rk, sn, sk, cn, cd)) hO0 hP8 hG8 k (by omega))
          have hvp := (hok.1 p h_p).2.2.2
          refine w_load (pc' := 30) (v := .int (zn k)) (m := 1) (ykc_266 (e := (2, .iload_n kF3, 0)) rfl) rfl rfl ?_
          refine w_push (pc' := 32) (v := .int ((Int8.ofInt 99).toInt32)) (m := 2) (ykc_266 (e := (1, .bipush 99, 0)) rfl) rfl rfl ?_
          refine w_igt (ykc_266 (e := (4, .if_icmp .gt 58, 90)) rfl) rfl (fun b1293 => ?_) (fun b1293 => ?_)
          · refine w_push (pc' := 92) (v := .int ((Int8.ofInt (-2)).toInt32)) (m := 2) (ykc_266 (e := (1, .bipush (-2), 0)) rfl) rfl rfl ?_
            refine w_ret (v := (some (.int ((Int8.ofInt (-2)).toInt32)))) (ykc_266 (e := (7, .ireturn, 0)) rfl) (zr_v rfl) ?_
            have ek : k = 100 := by omega
            subst ek
            rw [hQ]
            exact zXlrn_p (E := (R, C, rk, sn, sk, cn, cd)) h_p (by omega) h_g (by omega) (he.trans rfl)
          · refine w_load (pc' := 36) (v := .ref 170) (m := 1) (ykc_266 (e := (2, .aload_n kF0, 0)) rfl) rfl rfl ?_
            refine w_gf (pc' := 39) (v := .ref 175) (ykc_266 (e := (5, .getfield 44, 0)) rfl) rfl (zsg hS zs_170_12) rfl ?_
            refine w_push (pc' := 41) (v := .int ((Int8.ofInt 24).toInt32)) (m := 2) (ykc_266 (e := (1, .bipush 24, 0)) rfl) rfl rfl ?_
            refine w_load (pc' := 42) (v := .int (zn p)) (m := 1) (ykc_266 (e := (2, .iload_n kF1, 0)) rfl) rfl rfl ?_
            have e1294 : ((Int8.ofInt 24).toInt32) + (zn p) = zn (24 + p) := (zaddN (a := 24) (b := p) c_1 (znt (by omega)) (by omega)) 
            have te1294 := znt (k := 24 + p) (by omega)
            refine w_alu (pc' := 43) (st' := [.int (zn (24 + p)), .ref 175]) (ykc_266 (e := (0, .iadd, 0)) rfl) (by rw [← e1294]; rfl) rfl ?_
            refine w_ialk (pc' := 44) (k := 24 + p) (ykc_266 (e := (5, .iaload, 0)) rfl) (zNr0 hv5 (i := 24 + p) (by omega)) (by omega) rfl ?_
            refine w_alu (pc' := 45) (st' := [.long ((zn (zHqn (R, C, rk, sn, sk, cn, cd) P G v k (24 + p))).toInt64)]) (ykc_266 (e := (0, .i2l, 0)) rfl) rfl rfl ?_
            refine w_load (pc' := 46) (v := .int (zn g)) (m := 1) (ykc_266 (e := (2, .iload_n kF2, 0)) rfl) rfl rfl ?_
            refine w_cs (as := [.long ((zn (zHqn (R, C, rk, sn, sk, cn, cd) P G v k (24 + p))).toInt64), .int (zn g)]) (r := []) (ykc_266 (e := (6, .invokestatic 304, 0)) rfl) rfl rfl rfl rfl (zm_has (kn := g) (by omega) (by omega)) (fun v1295 ph1296 hv => ?_)
            obtain ⟨rfl, rfl⟩ := hv
            show zW n D 266 Q 49 [some (.ref 170), some (.int (zn p)), some (.int (zn g)), some (.int (zn k))] [.int (zI (zb ((zn (zHqn (R, C, rk, sn, sk, cn, cd) P G v k (24 + p))).toInt64) g))] ph1
            refine w_beq (ykc_266 (e := (4, .ifCond .eq 27, 76)) rfl) rfl (fun b1297 => ?_) (fun b1297 => ?_)
            · refine w_load (pc' := 77) (v := .ref 170) (m := 1) (ykc_266 (e := (2, .aload_n kF0, 0)) rfl) rfl rfl ?_
              refine w_load (pc' := 78) (v := .ref 170) (m := 1) (ykc_266 (e := (2, .aload_n kF0, 0)) rfl) rfl rfl ?_
              refine w_gf (pc' := 81) (v := .ref 175) (ykc_266 (e := (5, .getfield 44, 0)) rfl) rfl (zsg hS zs_170_12) rfl ?_
              refine w_cv (as := [.ref 170, .ref 175]) (r := []) (ykc_266 (e := (6, .invokevirtual 347, 0)) rfl) rfl rfl rfl rfl (zm_hour hS hE5 hN5 (Or.inr rfl) hv5 hok (by omega)) (fun v1298 ph1299 hv => ?_)
              obtain ⟨rfl, f2, hv2⟩ := hv
              obtain ⟨hS6, hE6, hN6⟩ := zTb_m (v := v) (u := v) (Or.inr rfl) f2 hS hE5 hN5
              rw [show zHr (R, C, rk, sn, sk, cn, cd) P G (zHqn (R, C, rk, sn, sk, cn, cd) P G v k) = zHqn (R, C, rk, sn, sk, cn, cd) P G v (k + 1) from zHr_eq] at hv2
              show zW n D 266 Q 84 [some (.ref 170), some (.int (zn p)), some (.int (zn g)), some (.int (zn k))] [] ph1299
              have e1300 : (zn k) + Int32.ofInt 1 = zn (k + 1) := (zaddN (a := k) (b := 1) (znt (by omega)) c_5 (by omega))
              have te1300 := znt (k := k + 1) (by omega)
              refine w_store (pc' := 87) (L' := [some (.ref 170), some (.int (zn p)), some (.int (zn g)), some (.int (zn (k + 1)))]) (st' := []) (m := 3) (ykc_266 (e := (3, .iinc 3 1, 0)) rfl) (by rw [← e1300]; rfl) rfl ?_
              refine w_gb (ykc_266 (e := (4, .goto (-58), 29)) rfl) (fun k1301 hk1301 => ?_)
              exact ih k1301 hk1301 (k + 1) _ (by omega) hS6 hE6 hN6 hv2 (he.trans (zXfi_b (f := (fun k => zb (zn (zHqn (R, C, rk, sn, sk, cn, cd) P G v k (24 + p))).toInt64 g)) (by omega) b1297))
            · rw [hQ]
              exact zTail kc_266 false 3 52 75 (fun _ => rfl) (Or.inl ⟨_, rfl⟩) (by decide +kernel) (by decide) (by decide) rfl (by decide +kernel) (fun _ => zXlrn_p (E := (R, C, rk, sn, sk, cn, cd)) h_p (by omega) h_g (by omega) (he.trans (zXfi_e (f := (fun k => zb (zn (zHqn (R, C, rk, sn, sk, cn, cd) P G v k (24 + p))).toInt64 g)) (by omega) b1297)))
      exact hl n 0 _ (by decide) hS2 hE2 hN2 hv2 rfl
    · refine w_alu (pc' := 22) (st' := [.int (Int32.ofInt (-1))]) (ykc_266 (e := (0, .iconst (-1), 0)) rfl) rfl rfl ?_
      refine w_ret (v := (some (.int (Int32.ofInt (-1))))) (ykc_266 (e := (7, .ireturn, 0)) rfl) (zr_v rfl) ?_
      rw [hQ]
      exact zXlrn_n (fun q => absurd q.2 (of_decide_eq_false b1290))
