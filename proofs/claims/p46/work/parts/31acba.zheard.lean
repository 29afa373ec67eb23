/-! the class: heard, by W; printed by wip/z/z_y_heard.py -/
theorem zc_heard {ph : pm_H} {R C P G nx u fl hn : Nat} {rk : Nat → Bool} {v : Nat → Nat} {w : Nat → Nat → Nat} {sv : Nat → Nat → Nat} (hS : zSh ph) (hK : zKC ph R C rk P G v nx u w fl sv hn) (hO0 : zOk R C P G v) {x y : Int32} (h13 : ∃ m, zc ph 0 13 = some (.long m)) (h82 : ∀ p, p < P → zM 82 [.ref 10, .ref 25, .int (zn p)] ph (fun v0 q => zCx ph q ∧ ∃ m, v0 = some (.long m))) : zM 166 [.ref 0, .int x, .int y] ph (fun v0 q => ((x.toInt < 0 ∨ (P : Int) ≤ x.toInt ∨ y.toInt < 0 ∨ 1 < y.toInt ∨ hn = 10) ∧ v0 = some (.int (Int32.ofInt (-1))) ∧ zKC q R C rk P G v nx u w fl sv hn) ∨ (0 ≤ x.toInt ∧ x.toInt < (P : Int) ∧ 0 ≤ y.toInt ∧ y.toInt ≤ 1 ∧ hn < 10 ∧ v0 = some (.int (zn (hn + 1))) ∧ zKC q R C rk P G v nx u w fl sv (hn + 1))) := by
  obtain ⟨Q, hQ⟩ : ∃ Q : Option Value → pm_H → Prop, Q = (fun v0 q => ((x.toInt < 0 ∨ (P : Int) ≤ x.toInt ∨ y.toInt < 0 ∨ 1 < y.toInt ∨ hn = 10) ∧ v0 = some (.int (Int32.ofInt (-1))) ∧ zKC q R C rk P G v nx u w fl sv hn) ∨ (0 ≤ x.toInt ∧ x.toInt < (P : Int) ∧ 0 ≤ y.toInt ∧ y.toInt ≤ 1 ∧ hn < 10 ∧ v0 = some (.int (zn (hn + 1))) ∧ zKC q R C rk P G v nx u w fl sv (hn + 1))) := ⟨_, rfl⟩
  rw [← hQ]
  refine zM_mk fun n D => ?_
  show zW n D 166 Q 0 [some (.ref 0), some (.int x), some (.int y), none, none] [] ph
  have c_0 : ((Int8.ofInt 10).toInt32).toInt = 10 := by decide +kernel
  have c_1 : (Int32.ofInt (-1)).toInt = -1 := by decide +kernel
  have c_2 : (Int32.ofInt 1).toInt = 1 := by decide +kernel
  obtain ⟨m13, h13m⟩ := h13
  have hd := hK.2.1
  have hh := hK.2.2.2.2
  have hP8 : P ≤ 8 := hd.2.1
  have thn := znt (k := hn) (by have := hh.2; omega)
  have hn10 := hh.2
  refine w_load (pc' := 1) (v := .ref 0) (m := 1) (ykc_166 (e := (2, .aload_n kF0, 0)) rfl) rfl rfl ?_
  refine w_gf (pc' := 4) (v := .ref 25) (ykc_166 (e := (5, .getfield 42, 0)) rfl) rfl (zsg hS zs_0_4) rfl ?_
  refine w_load (pc' := 5) (v := .int x) (m := 1) (ykc_166 (e := (2, .iload_n kF1, 0)) rfl) rfl rfl ?_
  refine w_cv (as := [.ref 25, .int x]) (r := []) (ykc_166 (e := (6, .invokevirtual 167, 0)) rfl) rfl rfl rfl rfl (zc_hasP (zSs_of hS (S := 25) (by decide)) hd (i := x)) (fun v1306 ph1307 hv => ?_)
  obtain ⟨rfl, rfl⟩ := hv
  show zW n D 166 Q 8 [some (.ref 0), some (.int x), some (.int y), none, none] [.int (zI (decide (0 ≤ x.toInt ∧ x.toInt < ((P : Nat) : Int))))] ph
  refine w_beq (ykc_166 (e := (4, .ifCond .eq 21, 29)) rfl) rfl (fun b1308 => ?_) (fun b1308 => ?_)
  · refine w_alu (pc' := 30) (st' := [.int (Int32.ofInt (-1))]) (ykc_166 (e := (0, .iconst (-1), 0)) rfl) rfl rfl ?_
    refine w_ret (v := (some (.int (Int32.ofInt (-1))))) (ykc_166 (e := (7, .ireturn, 0)) rfl) (zr_v rfl) ?_
    have d9 := of_decide_eq_false b1308
    rw [hQ]
    exact Or.inl ⟨by omega, rfl, hK⟩
  · refine w_load (pc' := 12) (v := .int y) (m := 1) (ykc_166 (e := (2, .iload_n kF2, 0)) rfl) rfl rfl ?_
    refine w_zlt (ykc_166 (e := (4, .ifCond .lt 17, 29)) rfl) rfl (fun b1309 => ?_) (fun b1309 => ?_)
    · refine w_alu (pc' := 30) (st' := [.int (Int32.ofInt (-1))]) (ykc_166 (e := (0, .iconst (-1), 0)) rfl) rfl rfl ?_
      refine w_ret (v := (some (.int (Int32.ofInt (-1))))) (ykc_166 (e := (7, .ireturn, 0)) rfl) (zr_v rfl) ?_
      rw [hQ]
      exact Or.inl ⟨by omega, rfl, hK⟩
    · refine w_load (pc' := 16) (v := .int y) (m := 1) (ykc_166 (e := (2, .iload_n kF2, 0)) rfl) rfl rfl ?_
      refine w_alu (pc' := 17) (st' := [.int (Int32.ofInt 1), .int y]) (ykc_166 (e := (0, .iconst 1, 0)) rfl) rfl rfl ?_
      refine w_igt (ykc_166 (e := (4, .if_icmp .gt 12, 29)) rfl) rfl (fun b1310 => ?_) (fun b1310 => ?_)
      · refine w_alu (pc' := 30) (st' := [.int (Int32.ofInt (-1))]) (ykc_166 (e := (0, .iconst (-1), 0)) rfl) rfl rfl ?_
        refine w_ret (v := (some (.int (Int32.ofInt (-1))))) (ykc_166 (e := (7, .ireturn, 0)) rfl) (zr_v rfl) ?_
        rw [hQ]
        exact Or.inl ⟨by omega, rfl, hK⟩
      · refine w_load (pc' := 21) (v := .ref 0) (m := 1) (ykc_166 (e := (2, .aload_n kF0, 0)) rfl) rfl rfl ?_
        refine w_gf (pc' := 24) (v := .int (zn hn)) (ykc_166 (e := (5, .getfield 100, 0)) rfl) rfl hh.1 rfl ?_
        refine w_push (pc' := 26) (v := .int ((Int8.ofInt 10).toInt32)) (m := 2) (ykc_166 (e := (1, .bipush 10, 0)) rfl) rfl rfl ?_
        refine w_ilt (ykc_166 (e := (4, .if_icmp .lt 5, 31)) rfl) rfl (fun b1311 => ?_) (fun b1311 => ?_)
        · have d9 := of_decide_eq_true b1308
          obtain ⟨p, hp⟩ : ∃ p : Nat, x.toInt = (p : Int) := ⟨x.toInt.toNat, by omega⟩
          obtain rfl := zn_of hp
          have hpP : p < P := by omega
          have tp := znt (k := p) (by omega)
          show zW n D 166 Q 31 [some (.ref 0), some (.int (zn p)), some (.int y), none, none] [] ph
          refine w_load (pc' := 32) (v := .ref 0) (m := 1) (ykc_166 (e := (2, .aload_n kF0, 0)) rfl) rfl rfl ?_
          refine w_gf (pc' := 35) (v := .ref 10) (ykc_166 (e := (5, .getfield 35, 0)) rfl) rfl (zsg hS zs_0_3) rfl ?_
          refine w_load (pc' := 36) (v := .ref 0) (m := 1) (ykc_166 (e := (2, .aload_n kF0, 0)) rfl) rfl rfl ?_
          refine w_gf (pc' := 39) (v := .ref 25) (ykc_166 (e := (5, .getfield 42, 0)) rfl) rfl (zsg hS zs_0_4) rfl ?_
          refine w_load (pc' := 40) (v := .int (zn p)) (m := 1) (ykc_166 (e := (2, .iload_n kF1, 0)) rfl) rfl rfl ?_
          refine w_cv (as := [.ref 10, .ref 25, .int (zn p)]) (r := []) (ykc_166 (e := (6, .invokevirtual 190, 0)) rfl) rfl rfl rfl rfl (h82 p hpP) (fun v1312 ph1313 hv => ?_)
          obtain ⟨f82, m82, rfl⟩ := hv
          show zW n D 166 Q 43 [some (.ref 0), some (.int (zn p)), some (.int y), none, none] [.long m82] ph1313
          refine w_store (pc' := 44) (L' := [some (.ref 0), some (.int (zn p)), some (.int y), some (.long m82), none]) (st' := []) (m := 1) (ykc_166 (e := (3, .lstore_n kF3, 0)) rfl) rfl rfl ?_
          refine w_load (pc' := 45) (v := .ref 0) (m := 1) (ykc_166 (e := (2, .aload_n kF0, 0)) rfl) rfl rfl ?_
          refine w_alu (pc' := 46) (st' := [.ref 0, .ref 0]) (ykc_166 (e := (0, .dup, 0)) rfl) rfl rfl ?_
          refine w_gf (pc' := 49) (v := .long m13) (ykc_166 (e := (5, .getfield 96, 0)) rfl) rfl ((f82.1 0 13 (by first | exact zqm rfl | decide) (by first | exact zqp rfl | decide)).trans h13m) rfl ?_
          refine w_load (pc' := 50) (v := .int y) (m := 1) (ykc_166 (e := (2, .iload_n kF2, 0)) rfl) rfl rfl ?_
          refine w_alu (pc' := 51) (st' := [.int (Int32.ofInt 1), .int y, .long m13, .ref 0]) (ykc_166 (e := (0, .iconst 1, 0)) rfl) rfl rfl ?_
          refine w_ine (ykc_166 (e := (4, .if_icmp .ne 7, 58)) rfl) rfl (fun b1314 => ?_) (fun b1314 => ?_)
          · refine w_load (pc' := 59) (v := .long m82) (m := 1) (ykc_166 (e := (2, .lload_n kF3, 0)) rfl) rfl rfl ?_
            refine w_push (pc' := 62) (v := .long (-1 : Int64)) (m := 3) (ykc_166 (e := (1, .ldc2_w 94, 0)) rfl) rfl rfl ?_
            refine w_alu (pc' := 63) (st' := [.long (m82 ^^^ (-1 : Int64)), .long m13, .ref 0]) (ykc_166 (e := (0, .lxor, 0)) rfl) rfl rfl ?_
            refine w_alu (pc' := 64) (st' := [.long (m13 &&& (m82 ^^^ (-1 : Int64))), .ref 0]) (ykc_166 (e := (0, .land, 0)) rfl) rfl rfl ?_
            refine w_pf (pc' := 67) (ykc_166 (e := (5, .putfield 96, 0)) rfl) rfl rfl (fun ph1316 u1315 => ?_)
            refine w_load (pc' := 68) (v := .ref 0) (m := 1) (ykc_166 (e := (2, .aload_n kF0, 0)) rfl) rfl rfl ?_
            refine w_alu (pc' := 69) (st' := [.ref 0, .ref 0]) (ykc_166 (e := (0, .dup, 0)) rfl) rfl rfl ?_
            refine w_gf (pc' := 72) (v := .int (zn hn)) (ykc_166 (e := (5, .getfield 100, 0)) rfl) rfl ((u1315.2.1 0 14 (fun q => absurd q.2 (by first | exact Nat.ne_of_beq_eq_false rfl | decide))).trans ((f82.1 0 14 (by first | exact zqm rfl | decide) (by first | exact zqp rfl | decide)).trans hh.1)) rfl ?_
            refine w_alu (pc' := 73) (st' := [.int (Int32.ofInt 1), .int (zn hn), .ref 0]) (ykc_166 (e := (0, .iconst 1, 0)) rfl) rfl rfl ?_
            have e1317 : (zn hn) + (Int32.ofInt 1) = zn (hn + 1) := (zaddN (a := hn) (b := 1) (znt (by omega)) c_2 (by omega)) 
            have te1317 := znt (k := hn + 1) (by omega)
            refine w_alu (pc' := 74) (st' := [.int (zn (hn + 1)), .ref 0]) (ykc_166 (e := (0, .iadd, 0)) rfl) (by rw [← e1317]; rfl) rfl ?_
            refine w_pf (pc' := 77) (ykc_166 (e := (5, .putfield 100, 0)) rfl) rfl rfl (fun ph1319 u1318 => ?_)
            refine w_load (pc' := 78) (v := .ref 0) (m := 1) (ykc_166 (e := (2, .aload_n kF0, 0)) rfl) rfl rfl ?_
            refine w_gf (pc' := 81) (v := .int (zn (hn + 1))) (ykc_166 (e := (5, .getfield 100, 0)) rfl) rfl u1318.1 rfl ?_
            refine w_ret (v := (some (.int (zn (hn + 1))))) (ykc_166 (e := (7, .ireturn, 0)) rfl) (zr_v rfl) ?_
            have f2 : zFr [8, 9, 15, 20, 22, 23, 24] [(5, 4), (0, 13), (0, 14)] ph _ := zFr_trans (zFr_mono f82 (by first | exact zqa rfl | simp) (by first | exact zqf rfl | simp)) (zFr_trans (zFr_st u1315 (Or.inr (by first | exact zqj rfl | simp))) (zFr_st u1318 (Or.inr (by first | exact zqj rfl | simp))))
            rw [hQ]
            exact Or.inr ⟨by omega, by omega, by omega, by omega, by omega, rfl, zCl_F f2 (by first | exact ⟨zqm rfl, zqm rfl, zqm rfl⟩ | simp) (by intro i hi; simp <;> omega) (by simp) hK.1, zSd_F f2 (by intro j hj; simp <;> omega) (by intro j k hj; simp <;> omega) hd, zCu_F f2 (by first | exact zqm rfl | simp) (by first | exact ⟨zqp rfl, zqp rfl⟩ | simp) (by intro j h1 h2; simp <;> omega) (by intro j i h1 h2; simp <;> omega) hK.2.2.1, zCk_F f2 (by first | exact zqm rfl | simp) (by first | exact zqp rfl | simp) (by intro j h1 h2; simp <;> omega) (by intro j i h1 h2; simp <;> omega) hK.2.2.2.1, u1318.1, by omega⟩
          · refine w_load (pc' := 55) (v := .long m82) (m := 1) (ykc_166 (e := (2, .lload_n kF3, 0)) rfl) rfl rfl ?_
            refine w_br (pc' := 63) (st' := [.long m82, .long m13, .ref 0]) (ykc_166 (e := (4, .goto 8, 63)) rfl) rfl ?_
            refine w_alu (pc' := 64) (st' := [.long (m13 &&& m82), .ref 0]) (ykc_166 (e := (0, .land, 0)) rfl) rfl rfl ?_
            refine w_pf (pc' := 67) (ykc_166 (e := (5, .putfield 96, 0)) rfl) rfl rfl (fun ph1321 u1320 => ?_)
            refine w_load (pc' := 68) (v := .ref 0) (m := 1) (ykc_166 (e := (2, .aload_n kF0, 0)) rfl) rfl rfl ?_
            refine w_alu (pc' := 69) (st' := [.ref 0, .ref 0]) (ykc_166 (e := (0, .dup, 0)) rfl) rfl rfl ?_
            refine w_gf (pc' := 72) (v := .int (zn hn)) (ykc_166 (e := (5, .getfield 100, 0)) rfl) rfl ((u1320.2.1 0 14 (fun q => absurd q.2 (by first | exact Nat.ne_of_beq_eq_false rfl | decide))).trans ((f82.1 0 14 (by first | exact zqm rfl | decide) (by first | exact zqp rfl | decide)).trans hh.1)) rfl ?_
            refine w_alu (pc' := 73) (st' := [.int (Int32.ofInt 1), .int (zn hn), .ref 0]) (ykc_166 (e := (0, .iconst 1, 0)) rfl) rfl rfl ?_
            have e1322 : (zn hn) + (Int32.ofInt 1) = zn (hn + 1) := (zaddN (a := hn) (b := 1) (znt (by omega)) c_2 (by omega)) 
            have te1322 := znt (k := hn + 1) (by omega)
            refine w_alu (pc' := 74) (st' := [.int (zn (hn + 1)), .ref 0]) (ykc_166 (e := (0, .iadd, 0)) rfl) (by rw [← e1322]; rfl) rfl ?_
            refine w_pf (pc' := 77) (ykc_166 (e := (5, .putfield 100, 0)) rfl) rfl rfl (fun ph1324 u1323 => ?_)
            refine w_load (pc' := 78) (v := .ref 0) (m := 1) (ykc_166 (e := (2, .aload_n kF0, 0)) rfl) rfl rfl ?_
            refine w_gf (pc' := 81) (v := .int (zn (hn + 1))) (ykc_166 (e := (5, .getfield 100, 0)) rfl) rfl u1323.1 rfl ?_
            refine w_ret (v := (some (.int (zn (hn + 1))))) (ykc_166 (e := (7, .ireturn, 0)) rfl) (zr_v rfl) ?_
            have f2 : zFr [8, 9, 15, 20, 22, 23, 24] [(5, 4), (0, 13), (0, 14)] ph _ := zFr_trans (zFr_mono f82 (by first | exact zqa rfl | simp) (by first | exact zqf rfl | simp)) (zFr_trans (zFr_st u1320 (Or.inr (by first | exact zqj rfl | simp))) (zFr_st u1323 (Or.inr (by first | exact zqj rfl | simp))))
            rw [hQ]
            exact Or.inr ⟨by omega, by omega, by omega, by omega, by omega, rfl, zCl_F f2 (by first | exact ⟨zqm rfl, zqm rfl, zqm rfl⟩ | simp) (by intro i hi; simp <;> omega) (by simp) hK.1, zSd_F f2 (by intro j hj; simp <;> omega) (by intro j k hj; simp <;> omega) hd, zCu_F f2 (by first | exact zqm rfl | simp) (by first | exact ⟨zqp rfl, zqp rfl⟩ | simp) (by intro j h1 h2; simp <;> omega) (by intro j i h1 h2; simp <;> omega) hK.2.2.1, zCk_F f2 (by first | exact zqm rfl | simp) (by first | exact zqp rfl | simp) (by intro j h1 h2; simp <;> omega) (by intro j i h1 h2; simp <;> omega) hK.2.2.2.1, u1323.1, by omega⟩
        · refine w_alu (pc' := 30) (st' := [.int (Int32.ofInt (-1))]) (ykc_166 (e := (0, .iconst (-1), 0)) rfl) rfl rfl ?_
          refine w_ret (v := (some (.int (Int32.ofInt (-1))))) (ykc_166 (e := (7, .ireturn, 0)) rfl) (zr_v rfl) ?_
          rw [hQ]
          exact Or.inl ⟨by omega, rfl, hK⟩
