/-! the reference: undo, keep, again, heard, forget, by W; printed by wip/z/z_u_mcall2.py -/
theorem zm_undo {ph : pm_H} {R C P G u ch hn : Nat} {rk : Nat → Bool} {v : Nat → Nat} {w : Nat → Nat → Nat} {kp : Nat → Bool} {kc : Nat → Nat} {sv : Nat → Nat → Nat} (hS : zSh ph) (hK : zKM ph R C rk P G v u w ch kp kc sv hn) (hO0 : zOk R C P G v) : zM 241 [.ref 170] ph (fun v0 q => (u = 0 ∧ v0 = some (.int (Int32.ofInt (-1))) ∧ zKM q R C rk P G v u w ch kp kc sv hn) ∨ (0 < u ∧ v0 = some (.int (zn (u - 1))) ∧ zKM q R C rk P G (w (u - 1)) (u - 1) w ch kp kc sv hn)) := by
  obtain ⟨Q, hQ⟩ : ∃ Q : Option Value → pm_H → Prop, Q = (fun v0 q => (u = 0 ∧ v0 = some (.int (Int32.ofInt (-1))) ∧ zKM q R C rk P G v u w ch kp kc sv hn) ∨ (0 < u ∧ v0 = some (.int (zn (u - 1))) ∧ zKM q R C rk P G (w (u - 1)) (u - 1) w ch kp kc sv hn)) := ⟨_, rfl⟩
  rw [← hQ]
  refine zM_mk fun n D => ?_
  show zW n D 241 Q 0 [some (.ref 170), none] [] ph
  have c_0 : ((Int8.ofInt 41).toInt32).toInt = 41 := by decide +kernel
  have c_1 : (Int32.ofInt (-1)).toInt = -1 := by decide +kernel
  have c_2 : (Int32.ofInt 0).toInt = 0 := by decide +kernel
  have c_3 : (Int32.ofInt 1).toInt = 1 := by decide +kernel
  obtain ⟨hL, hN, hv, hU, hk, hh⟩ := hK
  have hL0 := hL
  have hN0 := hN
  have hu15 := hU.2.1
  obtain ⟨gR, gC, gK, hR3, hR7, hC3, hC7⟩ := hL
  have hRC := zRC49 hR7 hC7
  have tR := znt (k := R) (by omega)
  have tC := znt (k := C) (by omega)
  obtain ⟨gP, hP8, gG, hG8⟩ := hN
  have tP := znt (k := P) (by omega)
  have tG := znt (k := G) (by omega)
  have tu := znt (k := u) (by omega)
  have hn10 := hh.2
  have thn := znt (k := hn) (by omega)
  refine w_load (pc' := 1) (v := .ref 170) (m := 1) (ykc_241 (e := (2, .aload_n kF0, 0)) rfl) rfl rfl ?_
  refine w_alu (pc' := 2) (st' := [.int (Int32.ofInt 0), .ref 170]) (ykc_241 (e := (0, .iconst 0, 0)) rfl) rfl rfl ?_
  refine w_pf (pc' := 5) (ykc_241 (e := (5, .putfield 3, 0)) rfl) rfl rfl (fun ph1043 u1042 => ?_)
  have f0 : zFr [] [(170, 0)] ph ph1043 := zFr_st u1042 (Or.inr (by first | exact zqj rfl | simp))
  have hS1 := zSh_st u1042 (by decide +kernel) hS
  refine w_load (pc' := 6) (v := .ref 170) (m := 1) (ykc_241 (e := (2, .aload_n kF0, 0)) rfl) rfl rfl ?_
  refine w_gf (pc' := 9) (v := .int (zn u)) (ykc_241 (e := (5, .getfield 188, 0)) rfl) rfl ((u1042.2.1 170 27 (fun q => absurd q.2 (by first | exact Nat.ne_of_beq_eq_false rfl | decide))).trans hU.1) rfl ?_
  refine w_zne (ykc_241 (e := (4, .ifCond .ne 5, 14)) rfl) rfl (fun b1044 => ?_) (fun b1044 => ?_)
  · refine w_load (pc' := 15) (v := .ref 170) (m := 1) (ykc_241 (e := (2, .aload_n kF0, 0)) rfl) rfl rfl ?_
    refine w_alu (pc' := 16) (st' := [.ref 170, .ref 170]) (ykc_241 (e := (0, .dup, 0)) rfl) rfl rfl ?_
    refine w_gf (pc' := 19) (v := .int (zn u)) (ykc_241 (e := (5, .getfield 188, 0)) rfl) rfl ((u1042.2.1 170 27 (fun q => absurd q.2 (by first | exact Nat.ne_of_beq_eq_false rfl | decide))).trans hU.1) rfl ?_
    refine w_alu (pc' := 20) (st' := [.int (Int32.ofInt 1), .int (zn u), .ref 170]) (ykc_241 (e := (0, .iconst 1, 0)) rfl) rfl rfl ?_
    have e1045 : (zn u) - (Int32.ofInt 1) = zn (u - 1) := zsubN (a := u) (b := 1) (znt (by omega)) c_3 (by omega)
    have te1045 := znt (k := u - 1) (by omega)
    refine w_alu (pc' := 21) (st' := [.int (zn (u - 1)), .ref 170]) (ykc_241 (e := (0, .isub, 0)) rfl) (by show some ([.int ((zn u) - (Int32.ofInt 1)), .ref 170] : List Value) = _; rw [e1045]) rfl ?_
    refine w_pf (pc' := 24) (ykc_241 (e := (5, .putfield 188, 0)) rfl) rfl rfl (fun ph1047 u1046 => ?_)
    refine w_alu (pc' := 25) (st' := [.int (Int32.ofInt 0)]) (ykc_241 (e := (0, .iconst 0, 0)) rfl) rfl rfl ?_
    refine w_store (pc' := 26) (L' := [some (.ref 170), some (.int (Int32.ofInt 0))]) (st' := []) (m := 1) (ykc_241 (e := (3, .istore_n kF1, 0)) rfl) rfl rfl ?_
    have f1 : zFr [] [(170, 0), (170, 27)] ph ph1047 := zFr_trans (zFr_mono f0 (by first | exact zqa rfl | simp) (by first | exact zqf rfl | simp)) (zFr_st u1046 (Or.inr (by first | exact zqj rfl | simp)))
    have g27 := u1046.1
    have tu1 := znt (k := u - 1) (by omega)
    have hl : ∀ (n : Nat), ∀ (k : Nat) (ph9 : pm_H), (k ≤ 41) → (zFr [174] [] ph1047 ph9) → (∀ i, i < k → zc ph9 174 i = some (.int (zn (w (u - 1) i)))) → zW n D 241 Q 26 [some (.ref 170), some (.int (zn k))] [] ph9 := by
      intro n
      induction n using Nat.strongRecOn with
      | ind n ih =>
        intro k ph9 hk9 hf hr
        have tk := znt (k := k) (by omega)
        refine w_load (pc' := 27) (v := .int (zn k)) (m := 1) (ykc_241 (e := (2, .iload_n kF1, 0)) rfl) rfl rfl ?_
        refine w_push (pc' := 29) (v := .int ((Int8.ofInt 41).toInt32)) (m := 2) (ykc_241 (e := (1, .bipush 41, 0)) rfl) rfl rfl ?_
        refine w_ige (ykc_241 (e := (4, .if_icmp .ge 29, 58)) rfl) rfl (fun b1048 => ?_) (fun b1048 => ?_)
        · refine w_load (pc' := 59) (v := .ref 170) (m := 1) (ykc_241 (e := (2, .aload_n kF0, 0)) rfl) rfl rfl ?_
          refine w_gf (pc' := 62) (v := .int (zn (u - 1))) (ykc_241 (e := (5, .getfield 188, 0)) rfl) rfl ((hf.1 170 27 (by first | exact zqm rfl | decide) (by first | exact zqp rfl | decide)).trans g27) rfl ?_
          refine w_ret (v := (some (.int (zn (u - 1))))) (ykc_241 (e := (7, .ireturn, 0)) rfl) (zr_v rfl) ?_
          have f2 : zFr [174] [(170, 0), (170, 27)] ph ph9 := zFr_trans (zFr_mono f1 (by first | exact zqa rfl | simp) (by first | exact zqf rfl | simp)) (zFr_mono hf (by first | exact zqa rfl | simp) (by first | exact zqf rfl | simp))
          rw [hQ]
          exact Or.inr ⟨by omega, rfl, zMl_F f2 (by first | exact zqp rfl | simp) (by first | exact zqp rfl | simp) (by first | exact (fun _ => zqr rfl) | simp) (by first | exact ⟨zqm rfl, zqm rfl⟩ | simp) hL0, zMp_F f2 (by first | exact zqp rfl | simp) (by first | exact zqp rfl | simp) (by first | exact zqm rfl | simp) hN0, fun i hi => by rw [Nat.zero_add]; exact hr i (by omega), ⟨(hf.1 170 27 (by first | exact zqm rfl | decide) (by first | exact zqp rfl | decide)).trans g27, by omega, fun i hi => zNr_F f2 (by first | exact (fun _ => zqr rfl) | simp) (by first | exact zqm rfl | simp) (hU.2.2 i (by omega))⟩, zMk_F f2 (by first | exact ⟨zqm rfl, zqm rfl, zqm rfl, zqm rfl⟩ | simp) (by first | exact zqp rfl | simp) (by first | exact (fun _ => ⟨zqr rfl, zqr rfl, zqr rfl⟩) | simp) hk, zMh_F f2 (by first | exact zqm rfl | simp) (by first | exact zqp rfl | simp) hh⟩
        · refine w_load (pc' := 33) (v := .ref 170) (m := 1) (ykc_241 (e := (2, .aload_n kF0, 0)) rfl) rfl rfl ?_
          refine w_gf (pc' := 36) (v := .ref 174) (ykc_241 (e := (5, .getfield 41, 0)) rfl) rfl ((hf.1 170 11 (by first | exact zqm rfl | decide) (by first | exact zqp rfl | decide)).trans ((f1.1 170 11 (by first | exact zqm rfl | decide) (by first | exact zqp rfl | decide)).trans (zsg hS zs_170_11))) rfl ?_
          refine w_load (pc' := 37) (v := .int (zn k)) (m := 1) (ykc_241 (e := (2, .iload_n kF1, 0)) rfl) rfl rfl ?_
          refine w_load (pc' := 38) (v := .ref 170) (m := 1) (ykc_241 (e := (2, .aload_n kF0, 0)) rfl) rfl rfl ?_
          refine w_gf (pc' := 41) (v := .ref 183) (ykc_241 (e := (5, .getfield 68, 0)) rfl) rfl ((hf.1 170 28 (by first | exact zqm rfl | decide) (by first | exact zqp rfl | decide)).trans ((f1.1 170 28 (by first | exact zqm rfl | decide) (by first | exact zqp rfl | decide)).trans (zsg hS zs_170_28))) rfl ?_
          refine w_push (pc' := 43) (v := .int ((Int8.ofInt 41).toInt32)) (m := 2) (ykc_241 (e := (1, .bipush 41, 0)) rfl) rfl rfl ?_
          refine w_load (pc' := 44) (v := .ref 170) (m := 1) (ykc_241 (e := (2, .aload_n kF0, 0)) rfl) rfl rfl ?_
          refine w_gf (pc' := 47) (v := .int (zn (u - 1))) (ykc_241 (e := (5, .getfield 188, 0)) rfl) rfl ((hf.1 170 27 (by first | exact zqm rfl | decide) (by first | exact zqp rfl | decide)).trans g27) rfl ?_
          have e1049 : ((Int8.ofInt 41).toInt32) * (zn (u - 1)) = zn (41 * (u - 1)) := zn_of (by have e1 : (zn (u - 1)).toInt = ((u - 1 : Nat) : Int) := tu1; have e2 : ((Int8.ofInt 41).toInt32).toInt = 41 := (by omega); rw [ti_mul (x := ((Int8.ofInt 41).toInt32)) (y := (zn (u - 1))) (by rw [e1, e2]; omega) (by rw [e1, e2]; omega), e1, e2]; omega)
          have te1049 := znt (k := 41 * (u - 1)) (by omega)
          refine w_alu (pc' := 48) (st' := [.int (zn (41 * (u - 1))), .ref 183, .int (zn k), .ref 174]) (ykc_241 (e := (0, .imul, 0)) rfl) (by rw [← e1049]; rfl) rfl ?_
          refine w_load (pc' := 49) (v := .int (zn k)) (m := 1) (ykc_241 (e := (2, .iload_n kF1, 0)) rfl) rfl rfl ?_
          have e1050 : (zn (41 * (u - 1))) + (zn k) = zn (41 * (u - 1) + k) := (zaddN (a := 41 * (u - 1)) (b := k) (znt (by omega)) (znt (by omega)) (by omega)) 
          have te1050 := znt (k := 41 * (u - 1) + k) (by omega)
          refine w_alu (pc' := 50) (st' := [.int (zn (41 * (u - 1) + k)), .ref 183, .int (zn k), .ref 174]) (ykc_241 (e := (0, .iadd, 0)) rfl) (by rw [← e1050]; rfl) rfl ?_
          refine w_ialk (pc' := 51) (k := 41 * (u - 1) + k) (ykc_241 (e := (5, .iaload, 0)) rfl) ((hf.1 183 (41 * (u - 1) + k) (by first | exact zqm rfl | decide) (by first | exact zqp rfl | simp)).trans ((f1.1 183 (41 * (u - 1) + k) (by first | exact zqm rfl | simp) (by first | exact zqp rfl | simp)).trans (hU.2.2 (u - 1) (by omega) k (by omega)))) (by omega) rfl ?_
          refine w_ias (pc' := 52) (k := k) (ykc_241 (e := (5, .iastore, 0)) rfl) (by omega) rfl (fun ph1052 u1051 => ?_)
          have e1053 : (zn k) + Int32.ofInt 1 = zn (k + 1) := (zaddN (a := k) (b := 1) (znt (by omega)) c_3 (by omega))
          have te1053 := znt (k := k + 1) (by omega)
          refine w_store (pc' := 55) (L' := [some (.ref 170), some (.int (zn (k + 1)))]) (st' := []) (m := 3) (ykc_241 (e := (3, .iinc 1 1, 0)) rfl) (by rw [← e1053]; rfl) rfl ?_
          refine w_gb (ykc_241 (e := (4, .goto (-29), 26)) rfl) (fun k1054 hk1054 => ?_)
          exact ih k1054 hk1054 (k + 1) _ (by omega) (zFr_add hf u1051 (Or.inl (by first | exact zqi rfl | simp))) (fun i hi => by
            by_cases e : i = k
            · subst e
              exact u1051.1
            · exact (u1051.2.1 174 i (fun q => e q.2)).trans (hr i (by omega)))
    exact hl n 0 _ (by omega) zFr_refl (fun i hi => absurd hi (Nat.not_lt_zero i))
  · refine w_alu (pc' := 13) (st' := [.int (Int32.ofInt (-1))]) (ykc_241 (e := (0, .iconst (-1), 0)) rfl) rfl rfl ?_
    refine w_ret (v := (some (.int (Int32.ofInt (-1))))) (ykc_241 (e := (7, .ireturn, 0)) rfl) (zr_v rfl) ?_
    have eu : u = 0 := by omega
    rw [hQ]
    exact Or.inl ⟨eu, rfl, zMl_F f0 (by first | exact zqp rfl | simp) (by first | exact zqp rfl | simp) (by first | exact (fun _ => zqr rfl) | simp) (by first | exact ⟨zqm rfl, zqm rfl⟩ | simp) hL0, zMp_F f0 (by first | exact zqp rfl | simp) (by first | exact zqp rfl | simp) (by first | exact zqm rfl | simp) hN0, zNr_F f0 (by first | exact (fun _ => zqr rfl) | simp) (by first | exact zqm rfl | simp) hv, zMu_F f0 (by first | exact ⟨zqm rfl, zqm rfl⟩ | simp) (by first | exact zqp rfl | simp) (by first | exact (fun _ => zqr rfl) | simp) hU, zMk_F f0 (by first | exact ⟨zqm rfl, zqm rfl, zqm rfl, zqm rfl⟩ | simp) (by first | exact zqp rfl | simp) (by first | exact (fun _ => ⟨zqr rfl, zqr rfl, zqr rfl⟩) | simp) hk, zMh_F f0 (by first | exact zqm rfl | simp) (by first | exact zqp rfl | simp) hh⟩
theorem zm_forget {ph : pm_H} {R C P G u ch hn : Nat} {rk : Nat → Bool} {v : Nat → Nat} {w : Nat → Nat → Nat} {kp : Nat → Bool} {kc : Nat → Nat} {sv : Nat → Nat → Nat} (hS : zSh ph) (hK : zKM ph R C rk P G v u w ch kp kc sv hn) (hO0 : zOk R C P G v) : zM 284 [.ref 170] ph (fun v0 q => v0 = some (.int (zn hn)) ∧ zKM q R C rk P G v u w ch kp kc sv 0) := by
  obtain ⟨Q, hQ⟩ : ∃ Q : Option Value → pm_H → Prop, Q = (fun v0 q => v0 = some (.int (zn hn)) ∧ zKM q R C rk P G v u w ch kp kc sv 0) := ⟨_, rfl⟩
  rw [← hQ]
  refine zM_mk fun n D => ?_
  show zW n D 284 Q 0 [some (.ref 170), none] [] ph
  have c_0 : (Int32.ofInt 0).toInt = 0 := by decide +kernel
  obtain ⟨hL, hN, hv, hU, hk, hh⟩ := hK
  have hL0 := hL
  have hN0 := hN
  have hu15 := hU.2.1
  obtain ⟨gR, gC, gK, hR3, hR7, hC3, hC7⟩ := hL
  have hRC := zRC49 hR7 hC7
  have tR := znt (k := R) (by omega)
  have tC := znt (k := C) (by omega)
  obtain ⟨gP, hP8, gG, hG8⟩ := hN
  have tP := znt (k := P) (by omega)
  have tG := znt (k := G) (by omega)
  have tu := znt (k := u) (by omega)
  have hn10 := hh.2
  have thn := znt (k := hn) (by omega)
  refine w_load (pc' := 1) (v := .ref 170) (m := 1) (ykc_284 (e := (2, .aload_n kF0, 0)) rfl) rfl rfl ?_
  refine w_alu (pc' := 2) (st' := [.int (Int32.ofInt 0), .ref 170]) (ykc_284 (e := (0, .iconst 0, 0)) rfl) rfl rfl ?_
  refine w_pf (pc' := 5) (ykc_284 (e := (5, .putfield 3, 0)) rfl) rfl rfl (fun ph1056 u1055 => ?_)
  refine w_load (pc' := 6) (v := .ref 170) (m := 1) (ykc_284 (e := (2, .aload_n kF0, 0)) rfl) rfl rfl ?_
  refine w_gf (pc' := 9) (v := .int (zn hn)) (ykc_284 (e := (5, .getfield 194, 0)) rfl) rfl ((u1055.2.1 170 39 (fun q => absurd q.2 (by first | exact Nat.ne_of_beq_eq_false rfl | decide))).trans hh.1) rfl ?_
  refine w_store (pc' := 10) (L' := [some (.ref 170), some (.int (zn hn))]) (st' := []) (m := 1) (ykc_284 (e := (3, .istore_n kF1, 0)) rfl) rfl rfl ?_
  refine w_load (pc' := 11) (v := .ref 170) (m := 1) (ykc_284 (e := (2, .aload_n kF0, 0)) rfl) rfl rfl ?_
  refine w_alu (pc' := 12) (st' := [.int (Int32.ofInt 0), .ref 170]) (ykc_284 (e := (0, .iconst 0, 0)) rfl) rfl rfl ?_
  refine w_pf (pc' := 15) (ykc_284 (e := (5, .putfield 194, 0)) rfl) rfl rfl (fun ph1058 u1057 => ?_)
  refine w_load (pc' := 16) (v := .int (zn hn)) (m := 1) (ykc_284 (e := (2, .iload_n kF1, 0)) rfl) rfl rfl ?_
  refine w_ret (v := (some (.int (zn hn)))) (ykc_284 (e := (7, .ireturn, 0)) rfl) (zr_v rfl) ?_
  have f2 : zFr [] [(170, 0), (170, 39)] ph _ := zFr_trans (zFr_st u1055 (Or.inr (by first | exact zqj rfl | simp))) (zFr_st u1057 (Or.inr (by first | exact zqj rfl | simp)))
  rw [hQ]
  exact ⟨rfl, zMl_F f2 (by first | exact zqp rfl | simp) (by first | exact zqp rfl | simp) (by first | exact (fun _ => zqr rfl) | simp) (by first | exact ⟨zqm rfl, zqm rfl⟩ | simp) hL0, zMp_F f2 (by first | exact zqp rfl | simp) (by first | exact zqp rfl | simp) (by first | exact zqm rfl | simp) hN0, zNr_F f2 (by first | exact (fun _ => zqr rfl) | simp) (by first | exact zqm rfl | simp) hv, zMu_F f2 (by first | exact ⟨zqm rfl, zqm rfl⟩ | simp) (by first | exact zqp rfl | simp) (by first | exact (fun _ => zqr rfl) | simp) hU, zMk_F f2 (by first | exact ⟨zqm rfl, zqm rfl, zqm rfl, zqm rfl⟩ | simp) (by first | exact zqp rfl | simp) (by first | exact (fun _ => ⟨zqr rfl, zqr rfl, zqr rfl⟩) | simp) hk, ⟨u1057.1, by omega⟩⟩
theorem zF0_p {p q : pm_H} {P G : Nat} (f : zFr [] [(170, 0)] p q) (h : zMp p P G) : zMp q P G := zMp_F f (by first | exact zqp rfl | simp) (by first | exact zqp rfl | simp) (by first | exact zqm rfl | simp) h
theorem zm_heard {ph : pm_H} {R C P G u ch hn : Nat} {rk : Nat → Bool} {v : Nat → Nat} {w : Nat → Nat → Nat} {kp : Nat → Bool} {kc : Nat → Nat} {sv : Nat → Nat → Nat} (hS : zSh ph) (hK : zKM ph R C rk P G v u w ch kp kc sv hn) (hO0 : zOk R C P G v) {x y : Int32} : zM 283 [.ref 170, .int x, .int y] ph (fun v0 q => ((x.toInt < 0 ∨ (P : Int) ≤ x.toInt ∨ y.toInt < 0 ∨ 1 < y.toInt ∨ hn = 10) ∧ v0 = some (.int (Int32.ofInt (-1))) ∧ zKM q R C rk P G v u w ch kp kc sv hn) ∨ (0 ≤ x.toInt ∧ x.toInt < (P : Int) ∧ 0 ≤ y.toInt ∧ y.toInt ≤ 1 ∧ hn < 10 ∧ v0 = some (.int (zn (hn + 1))) ∧ zKM q R C rk P G v u w ch kp kc sv (hn + 1))) := by
  obtain ⟨Q, hQ⟩ : ∃ Q : Option Value → pm_H → Prop, Q = (fun v0 q => ((x.toInt < 0 ∨ (P : Int) ≤ x.toInt ∨ y.toInt < 0 ∨ 1 < y.toInt ∨ hn = 10) ∧ v0 = some (.int (Int32.ofInt (-1))) ∧ zKM q R C rk P G v u w ch kp kc sv hn) ∨ (0 ≤ x.toInt ∧ x.toInt < (P : Int) ∧ 0 ≤ y.toInt ∧ y.toInt ≤ 1 ∧ hn < 10 ∧ v0 = some (.int (zn (hn + 1))) ∧ zKM q R C rk P G v u w ch kp kc sv (hn + 1))) := ⟨_, rfl⟩
  rw [← hQ]
  refine zM_mk fun n D => ?_
  show zW n D 283 Q 0 [some (.ref 170), some (.int x), some (.int y)] [] ph
  have c_0 : ((Int8.ofInt 10).toInt32).toInt = 10 := by decide +kernel
  have c_1 : (Int32.ofInt (-1)).toInt = -1 := by decide +kernel
  have c_2 : (Int32.ofInt 0).toInt = 0 := by decide +kernel
  have c_3 : (Int32.ofInt 1).toInt = 1 := by decide +kernel
  obtain ⟨hL, hN, hv, hU, hk, hh⟩ := hK
  have hL0 := hL
  have hN0 := hN
  have hu15 := hU.2.1
  obtain ⟨gR, gC, gK, hR3, hR7, hC3, hC7⟩ := hL
  have hRC := zRC49 hR7 hC7
  have tR := znt (k := R) (by omega)
  have tC := znt (k := C) (by omega)
  obtain ⟨gP, hP8, gG, hG8⟩ := hN
  have tP := znt (k := P) (by omega)
  have tG := znt (k := G) (by omega)
  have tu := znt (k := u) (by omega)
  have hn10 := hh.2
  have thn := znt (k := hn) (by omega)
  refine w_load (pc' := 1) (v := .ref 170) (m := 1) (ykc_283 (e := (2, .aload_n kF0, 0)) rfl) rfl rfl ?_
  refine w_alu (pc' := 2) (st' := [.int (Int32.ofInt 0), .ref 170]) (ykc_283 (e := (0, .iconst 0, 0)) rfl) rfl rfl ?_
  refine w_pf (pc' := 5) (ykc_283 (e := (5, .putfield 3, 0)) rfl) rfl rfl (fun ph1060 u1059 => ?_)
  refine w_load (pc' := 6) (v := .ref 170) (m := 1) (ykc_283 (e := (2, .aload_n kF0, 0)) rfl) rfl rfl ?_
  refine w_load (pc' := 7) (v := .int x) (m := 1) (ykc_283 (e := (2, .iload_n kF1, 0)) rfl) rfl rfl ?_
  refine w_cv (as := [.ref 170, .int x]) (r := []) (ykc_283 (e := (6, .invokevirtual 315, 0)) rfl) rfl rfl rfl rfl (zm_isPerson (zF0_p (zFr_st u1059 (Or.inr (by first | exact zqj rfl | simp))) hN0) (p := x)) (fun v1061 ph1062 hv => ?_)
  obtain ⟨rfl, rfl⟩ := hv
  show zW n D 283 Q 10 [some (.ref 170), some (.int x), some (.int y)] [.int (zI (decide (0 ≤ x.toInt ∧ x.toInt < ((P : Nat) : Int))))] ph1060
  refine w_beq (ykc_283 (e := (4, .ifCond .eq 22, 32)) rfl) rfl (fun b1063 => ?_) (fun b1063 => ?_)
  · refine w_alu (pc' := 33) (st' := [.int (Int32.ofInt (-1))]) (ykc_283 (e := (0, .iconst (-1), 0)) rfl) rfl rfl ?_
    refine w_ret (v := (some (.int (Int32.ofInt (-1))))) (ykc_283 (e := (7, .ireturn, 0)) rfl) (zr_v rfl) ?_
    have db1063 := of_decide_eq_false b1063
    have f2 : zFr [] [(170, 0)] ph _ := zFr_st u1059 (Or.inr (by first | exact zqj rfl | simp))
    rw [hQ]
    exact Or.inl ⟨by omega, rfl, zMl_F f2 (by first | exact zqp rfl | simp) (by first | exact zqp rfl | simp) (by first | exact (fun _ => zqr rfl) | simp) (by first | exact ⟨zqm rfl, zqm rfl⟩ | simp) hL0, zMp_F f2 (by first | exact zqp rfl | simp) (by first | exact zqp rfl | simp) (by first | exact zqm rfl | simp) hN0, zNr_F f2 (by first | exact (fun _ => zqr rfl) | simp) (by first | exact zqm rfl | simp) hv, zMu_F f2 (by first | exact ⟨zqm rfl, zqm rfl⟩ | simp) (by first | exact zqp rfl | simp) (by first | exact (fun _ => zqr rfl) | simp) hU, zMk_F f2 (by first | exact ⟨zqm rfl, zqm rfl, zqm rfl, zqm rfl⟩ | simp) (by first | exact zqp rfl | simp) (by first | exact (fun _ => ⟨zqr rfl, zqr rfl, zqr rfl⟩) | simp) hk, zMh_F f2 (by first | exact zqm rfl | simp) (by first | exact zqp rfl | simp) hh⟩
  · refine w_load (pc' := 14) (v := .int y) (m := 1) (ykc_283 (e := (2, .iload_n kF2, 0)) rfl) rfl rfl ?_
    refine w_alu (pc' := 15) (st' := [.long y.toInt64]) (ykc_283 (e := (0, .i2l, 0)) rfl) rfl rfl ?_
    refine w_alu (pc' := 16) (st' := [.long (Int64.ofNat kG0), .long y.toInt64]) (ykc_283 (e := (0, .lconst kG0, 0)) rfl) rfl rfl ?_
    refine w_alu (pc' := 17) (st' := [.long (Int64.ofNat kG1), .long (Int64.ofNat kG0), .long y.toInt64]) (ykc_283 (e := (0, .lconst kG1, 0)) rfl) rfl rfl ?_
    refine w_cs (as := [.long y.toInt64, .long (Int64.ofNat kG0), .long (Int64.ofNat kG1)]) (r := []) (ykc_283 (e := (6, .invokestatic 126, 0)) rfl) rfl rfl rfl rfl (zm_in (x := y.toInt) (y := (0 : Int)) (z := (1 : Int)) (by first | exact ztl | (rw [ztl]; omega) | decide | omega) (by first | exact ztl | (rw [ztl]; omega) | decide | omega) (by first | exact ztl | (rw [ztl]; omega) | decide | omega)) (fun v1064 ph1065 hv => ?_)
    obtain ⟨rfl, rfl⟩ := hv
    show zW n D 283 Q 20 [some (.ref 170), some (.int x), some (.int y)] [.int (zI (decide ((0 : Int) ≤ y.toInt ∧ y.toInt ≤ (1 : Int))))] ph1060
    refine w_beq (ykc_283 (e := (4, .ifCond .eq 12, 32)) rfl) rfl (fun b1066 => ?_) (fun b1066 => ?_)
    · refine w_alu (pc' := 33) (st' := [.int (Int32.ofInt (-1))]) (ykc_283 (e := (0, .iconst (-1), 0)) rfl) rfl rfl ?_
      refine w_ret (v := (some (.int (Int32.ofInt (-1))))) (ykc_283 (e := (7, .ireturn, 0)) rfl) (zr_v rfl) ?_
      have db1063 := of_decide_eq_true b1063
      have db1066 := of_decide_eq_false b1066
      have f2 : zFr [] [(170, 0)] ph _ := zFr_st u1059 (Or.inr (by first | exact zqj rfl | simp))
      rw [hQ]
      exact Or.inl ⟨by omega, rfl, zMl_F f2 (by first | exact zqp rfl | simp) (by first | exact zqp rfl | simp) (by first | exact (fun _ => zqr rfl) | simp) (by first | exact ⟨zqm rfl, zqm rfl⟩ | simp) hL0, zMp_F f2 (by first | exact zqp rfl | simp) (by first | exact zqp rfl | simp) (by first | exact zqm rfl | simp) hN0, zNr_F f2 (by first | exact (fun _ => zqr rfl) | simp) (by first | exact zqm rfl | simp) hv, zMu_F f2 (by first | exact ⟨zqm rfl, zqm rfl⟩ | simp) (by first | exact zqp rfl | simp) (by first | exact (fun _ => zqr rfl) | simp) hU, zMk_F f2 (by first | exact ⟨zqm rfl, zqm rfl, zqm rfl, zqm rfl⟩ | simp) (by first | exact zqp rfl | simp) (by first | exact (fun _ => ⟨zqr rfl, zqr rfl, zqr rfl⟩) | simp) hk, zMh_F f2 (by first | exact zqm rfl | simp) (by first | exact zqp rfl | simp) hh⟩
    · refine w_load (pc' := 24) (v := .ref 170) (m := 1) (ykc_283 (e := (2, .aload_n kF0, 0)) rfl) rfl rfl ?_
      refine w_gf (pc' := 27) (v := .int (zn hn)) (ykc_283 (e := (5, .getfield 194, 0)) rfl) rfl ((u1059.2.1 170 39 (fun q => absurd q.2 (by first | exact Nat.ne_of_beq_eq_false rfl | decide))).trans hh.1) rfl ?_
      refine w_push (pc' := 29) (v := .int ((Int8.ofInt 10).toInt32)) (m := 2) (ykc_283 (e := (1, .bipush 10, 0)) rfl) rfl rfl ?_
      refine w_ine (ykc_283 (e := (4, .if_icmp .ne 5, 34)) rfl) rfl (fun b1067 => ?_) (fun b1067 => ?_)
      · refine w_load (pc' := 35) (v := .ref 170) (m := 1) (ykc_283 (e := (2, .aload_n kF0, 0)) rfl) rfl rfl ?_
        refine w_gf (pc' := 38) (v := .ref 193) (ykc_283 (e := (5, .getfield 98, 0)) rfl) rfl ((u1059.2.1 170 40 (fun q => absurd q.2 (by first | exact Nat.ne_of_beq_eq_false rfl | decide))).trans (zsg hS zs_170_40)) rfl ?_
        refine w_load (pc' := 39) (v := .ref 170) (m := 1) (ykc_283 (e := (2, .aload_n kF0, 0)) rfl) rfl rfl ?_
        refine w_gf (pc' := 42) (v := .int (zn hn)) (ykc_283 (e := (5, .getfield 194, 0)) rfl) rfl ((u1059.2.1 170 39 (fun q => absurd q.2 (by first | exact Nat.ne_of_beq_eq_false rfl | decide))).trans hh.1) rfl ?_
        refine w_load (pc' := 43) (v := .int x) (m := 1) (ykc_283 (e := (2, .iload_n kF1, 0)) rfl) rfl rfl ?_
        refine w_ias (pc' := 44) (k := hn) (ykc_283 (e := (5, .iastore, 0)) rfl) (by omega) rfl (fun ph1069 u1068 => ?_)
        refine w_load (pc' := 45) (v := .ref 170) (m := 1) (ykc_283 (e := (2, .aload_n kF0, 0)) rfl) rfl rfl ?_
        refine w_gf (pc' := 48) (v := .ref 194) (ykc_283 (e := (5, .getfield 101, 0)) rfl) rfl ((u1068.2.1 170 41 (fun q => absurd q.1 (by first | exact Nat.ne_of_beq_eq_false rfl | decide))).trans ((u1059.2.1 170 41 (fun q => absurd q.2 (by first | exact Nat.ne_of_beq_eq_false rfl | decide))).trans (zsg hS zs_170_41))) rfl ?_
        refine w_load (pc' := 49) (v := .ref 170) (m := 1) (ykc_283 (e := (2, .aload_n kF0, 0)) rfl) rfl rfl ?_
        refine w_gf (pc' := 52) (v := .int (zn hn)) (ykc_283 (e := (5, .getfield 194, 0)) rfl) rfl ((u1068.2.1 170 39 (fun q => absurd q.1 (by first | exact Nat.ne_of_beq_eq_false rfl | decide))).trans ((u1059.2.1 170 39 (fun q => absurd q.2 (by first | exact Nat.ne_of_beq_eq_false rfl | decide))).trans hh.1)) rfl ?_
        refine w_load (pc' := 53) (v := .int y) (m := 1) (ykc_283 (e := (2, .iload_n kF2, 0)) rfl) rfl rfl ?_
        refine w_ias (pc' := 54) (k := hn) (ykc_283 (e := (5, .iastore, 0)) rfl) (by omega) rfl (fun ph1071 u1070 => ?_)
        refine w_load (pc' := 55) (v := .ref 170) (m := 1) (ykc_283 (e := (2, .aload_n kF0, 0)) rfl) rfl rfl ?_
        refine w_alu (pc' := 56) (st' := [.ref 170, .ref 170]) (ykc_283 (e := (0, .dup, 0)) rfl) rfl rfl ?_
        refine w_gf (pc' := 59) (v := .int (zn hn)) (ykc_283 (e := (5, .getfield 194, 0)) rfl) rfl ((u1070.2.1 170 39 (fun q => absurd q.1 (by first | exact Nat.ne_of_beq_eq_false rfl | decide))).trans ((u1068.2.1 170 39 (fun q => absurd q.1 (by first | exact Nat.ne_of_beq_eq_false rfl | decide))).trans ((u1059.2.1 170 39 (fun q => absurd q.2 (by first | exact Nat.ne_of_beq_eq_false rfl | decide))).trans hh.1))) rfl ?_
        refine w_alu (pc' := 60) (st' := [.int (Int32.ofInt 1), .int (zn hn), .ref 170]) (ykc_283 (e := (0, .iconst 1, 0)) rfl) rfl rfl ?_
        have e1072 : (zn hn) + (Int32.ofInt 1) = zn (hn + 1) := (zaddN (a := hn) (b := 1) (znt (by omega)) c_3 (by omega)) 
        have te1072 := znt (k := hn + 1) (by omega)
        refine w_alu (pc' := 61) (st' := [.int (zn (hn + 1)), .ref 170]) (ykc_283 (e := (0, .iadd, 0)) rfl) (by rw [← e1072]; rfl) rfl ?_
        refine w_pf (pc' := 64) (ykc_283 (e := (5, .putfield 194, 0)) rfl) rfl rfl (fun ph1074 u1073 => ?_)
        refine w_load (pc' := 65) (v := .ref 170) (m := 1) (ykc_283 (e := (2, .aload_n kF0, 0)) rfl) rfl rfl ?_
        refine w_gf (pc' := 68) (v := .int (zn (hn + 1))) (ykc_283 (e := (5, .getfield 194, 0)) rfl) rfl u1073.1 rfl ?_
        refine w_ret (v := (some (.int (zn (hn + 1))))) (ykc_283 (e := (7, .ireturn, 0)) rfl) (zr_v rfl) ?_
        have db1063 := of_decide_eq_true b1063
        have db1066 := of_decide_eq_true b1066
        have f2 : zFr [193, 194] [(170, 0), (170, 39)] ph _ := zFr_trans (zFr_trans (zFr_trans (zFr_st u1059 (Or.inr (by first | exact zqj rfl | simp))) (zFr_st u1068 (Or.inl (by first | exact zqi rfl | simp)))) (zFr_st u1070 (Or.inl (by first | exact zqi rfl | simp)))) (zFr_st u1073 (Or.inr (by first | exact zqj rfl | simp)))
        rw [hQ]
        exact Or.inr ⟨by omega, by omega, by omega, by omega, by omega, rfl, zMl_F f2 (by first | exact zqp rfl | simp) (by first | exact zqp rfl | simp) (by first | exact (fun _ => zqr rfl) | simp) (by first | exact ⟨zqm rfl, zqm rfl⟩ | simp) hL0, zMp_F f2 (by first | exact zqp rfl | simp) (by first | exact zqp rfl | simp) (by first | exact zqm rfl | simp) hN0, zNr_F f2 (by first | exact (fun _ => zqr rfl) | simp) (by first | exact zqm rfl | simp) hv, zMu_F f2 (by first | exact ⟨zqm rfl, zqm rfl⟩ | simp) (by first | exact zqp rfl | simp) (by first | exact (fun _ => zqr rfl) | simp) hU, zMk_F f2 (by first | exact ⟨zqm rfl, zqm rfl, zqm rfl, zqm rfl⟩ | simp) (by first | exact zqp rfl | simp) (by first | exact (fun _ => ⟨zqr rfl, zqr rfl, zqr rfl⟩) | simp) hk, ⟨u1073.1, by omega⟩⟩
      · refine w_alu (pc' := 33) (st' := [.int (Int32.ofInt (-1))]) (ykc_283 (e := (0, .iconst (-1), 0)) rfl) rfl rfl ?_
        refine w_ret (v := (some (.int (Int32.ofInt (-1))))) (ykc_283 (e := (7, .ireturn, 0)) rfl) (zr_v rfl) ?_
        have db1063 := of_decide_eq_true b1063
        have db1066 := of_decide_eq_true b1066
        have f2 : zFr [] [(170, 0)] ph _ := zFr_st u1059 (Or.inr (by first | exact zqj rfl | simp))
        rw [hQ]
        exact Or.inl ⟨by omega, rfl, zMl_F f2 (by first | exact zqp rfl | simp) (by first | exact zqp rfl | simp) (by first | exact (fun _ => zqr rfl) | simp) (by first | exact ⟨zqm rfl, zqm rfl⟩ | simp) hL0, zMp_F f2 (by first | exact zqp rfl | simp) (by first | exact zqp rfl | simp) (by first | exact zqm rfl | simp) hN0, zNr_F f2 (by first | exact (fun _ => zqr rfl) | simp) (by first | exact zqm rfl | simp) hv, zMu_F f2 (by first | exact ⟨zqm rfl, zqm rfl⟩ | simp) (by first | exact zqp rfl | simp) (by first | exact (fun _ => zqr rfl) | simp) hU, zMk_F f2 (by first | exact ⟨zqm rfl, zqm rfl, zqm rfl, zqm rfl⟩ | simp) (by first | exact zqp rfl | simp) (by first | exact (fun _ => ⟨zqr rfl, zqr rfl, zqr rfl⟩) | simp) hk, zMh_F f2 (by first | exact zqm rfl | simp) (by first | exact zqp rfl | simp) hh⟩
