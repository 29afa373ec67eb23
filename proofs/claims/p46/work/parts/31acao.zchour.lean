/-! the class: REACH, looks, hours, by W; printed by wip/z/z_m_chour.py -/
def zCr (p q : pm_H) : Prop := zFr [15, 20, 22] [] p q
theorem zCr_x {p q : pm_H} (f : zCr p q) : zCx p q := zFr_mono f (by first | exact zqa rfl | simp) (by first | exact zqf rfl | simp)
theorem zCr_S {p q : pm_H} (f : zCr p q) (h : zSh p) : zSh q := zCx_S (zCr_x f) h
theorem zCr_l {p q : pm_H} {R C : Nat} {rk : Nat → Bool} (f : zCr p q) (h : zCl p R C rk) : zCl q R C rk := zCx_l (zCr_x f) h
theorem zCr_e {p q : pm_H} {E : zEn} {G : Nat} (f : zCr p q) (h : zCe p E G) : zCe q E G := zCx_e (zCr_x f) h
theorem zCr_t {p q : pm_H} {S P G : Nat} {v : Nat → Nat} (f : zCr p q) (h : zCt p S P G v) : zCt q S P G v := zCx_t (zCr_x f) h
theorem zCr_c {p q : pm_H} {R C : Nat} {rk : Nat → Bool} (f : zCr p q) (h : zCc p R C rk) : zCc q R C rk := zCc_F f (by first | exact ⟨zqm rfl, zqm rfl, zqm rfl⟩ | simp) (by first | exact zqp rfl | simp) (by first | exact (fun _ => ⟨zqr rfl, zqr rfl⟩) | simp) h
theorem zCy_x {p q : pm_H} (f : zFr [8, 9] [(5, 4)] p q) : zCx p q := zFr_mono f (by first | exact zqa rfl | simp) (by first | exact zqf rfl | simp)
theorem zCr_i {p q : pm_H} {sn : Nat} {sk : Nat → Nat} (f : zCr p q) (h : zCi p sn sk) : zCi q sn sk := zCi_F f (by first | exact ⟨zqm rfl, zqm rfl⟩ | simp) (by first | exact ⟨zqp rfl, (fun _ => zqr rfl)⟩ | simp) h
theorem zc_reach {ph : pm_H} {E : zEn} {F S P G : Nat} {v : Nat → Nat} (hS : zSh ph) (hE : zCe ph E F) (ht : zCt ph S P G v) (hO : zOk E.1 E.2.1 P G v) {p br : Nat} (hp : p < P) (hb : br ≤ 4) : zM 81 [.ref 10, .ref F, .ref S, .int (zn p), .int (zn br)] ph (fun v0 q => zCr ph q ∧ v0 = some (.int (zn (zRe E P v p br)))) := by
  obtain ⟨Q, hQ⟩ : ∃ Q : Option Value → pm_H → Prop, Q = (fun v0 q => zCr ph q ∧ v0 = some (.int (zn (zRe E P v p br)))) := ⟨_, rfl⟩
  rw [← hQ]
  refine zM_mk fun n D => ?_
  show zW n D 81 Q 0 [some (.ref 10), some (.ref F), some (.ref S), some (.int (zn p)), some (.int (zn br)), none] [] ph
  have c_0 : ((Int8.ofInt 6).toInt32).toInt = 6 := by decide +kernel
  have c_1 : ((Int8.ofInt 7).toInt32).toInt = 7 := by decide +kernel
  have c_2 : ((Int8.ofInt 9).toInt32).toInt = 9 := by decide +kernel
  have c_3 : (Int32.ofInt 0).toInt = 0 := by decide +kernel
  have c_4 : (Int32.ofInt 1).toInt = 1 := by decide +kernel
  have c_5 : (Int32.ofInt 2).toInt = 2 := by decide +kernel
  have c_6 : (Int32.ofInt 3).toInt = 3 := by decide +kernel
  have c_7 : (Int32.ofInt 4).toInt = 4 := by decide +kernel
  have c_8 : (Int32.ofInt 5).toInt = 5 := by decide +kernel
  obtain ⟨R, C, rk, sn, sk, cn, cd⟩ := E
  have hL0 : zCl ph R C rk := hE.1
  have hi0 : zCi ph sn sk := hE.2.1
  have hF : F = 11 ∨ F = 16 := hE.2.2.2
  have hE0 : zCe ph (R, C, rk, sn, sk, cn, cd) F := hE
  have hO0 : zOk R C P G v := hO
  have hL := hL0
  have hs := ht.1.2
  have hd := ht.2
  have h25 := ht.1.1
  obtain ⟨gR, gC, gN, gK, gA, hR3, hR7, hC3, hC7⟩ := hL
  have hRC := zRC49 hR7 hC7
  have tR := znt (k := R) (by omega)
  have tC := znt (k := C) (by omega)
  have tRC := znt (k := R * C) (by omega)
  have hd0 := hd
  have hs0 := hs
  obtain ⟨r3, r4, r5, r6, r7, l1, l2, l3, l4, l5⟩ := hs
  obtain ⟨gP, hP8, gG, hG8, gH, gv, gw⟩ := hd
  have tP := znt (k := P) (by omega)
  have tG := znt (k := G) (by omega)
  have h40 := hO0.2.2
  have t40 := znt (k := v 40) (by omega)
  have tp := znt (k := p) (by omega)
  have tb := znt (k := br) (by omega)
  refine w_load (pc' := 1) (v := .ref S) (m := 1) (ykc_81 (e := (2, .aload_n kF2, 0)) rfl) rfl rfl ?_
  refine w_gf (pc' := 4) (v := .ref (S + 1)) (ykc_81 (e := (5, .getfield 66, 0)) rfl) rfl r3 rfl ?_
  refine w_load (pc' := 5) (v := .int (zn p)) (m := 1) (ykc_81 (e := (2, .iload_n kF3, 0)) rfl) rfl rfl ?_
  have q647 := hO0.1 p (by omega)
  have tq647 := znt (k := v p) (by omega)
  refine w_ialk (pc' := 6) (k := p) (ykc_81 (e := (5, .iaload, 0)) rfl) (gv p (by omega)).1 (by omega) rfl ?_
  refine w_store (pc' := 8) (L' := [some (.ref 10), some (.ref F), some (.ref S), some (.int (zn p)), some (.int (zn br)), some (.int (zn (v p)))]) (st' := []) (m := 2) (ykc_81 (e := (3, .istore 5, 0)) rfl) rfl rfl ?_
  refine w_load (pc' := 9) (v := .ref 10) (m := 1) (ykc_81 (e := (2, .aload_n kF0, 0)) rfl) rfl rfl ?_
  refine w_gf (pc' := 12) (v := .ref 22) (ykc_81 (e := (5, .getfield 33, 0)) rfl) rfl (zsg hS zs_10_5) rfl ?_
  refine w_alu (pc' := 13) (st' := [.int (Int32.ofInt 0), .ref 22]) (ykc_81 (e := (0, .iconst 0, 0)) rfl) rfl rfl ?_
  refine w_load (pc' := 15) (v := .int (zn br)) (m := 2) (ykc_81 (e := (2, .iload 4, 0)) rfl) rfl rfl ?_
  refine w_ias (pc' := 16) (k := 0) (ykc_81 (e := (5, .iastore, 0)) rfl) (by omega) rfl (fun ph649 u648 => ?_)
  refine w_load (pc' := 17) (v := .ref 10) (m := 1) (ykc_81 (e := (2, .aload_n kF0, 0)) rfl) rfl rfl ?_
  refine w_gf (pc' := 20) (v := .ref 22) (ykc_81 (e := (5, .getfield 33, 0)) rfl) rfl ((u648.2.1 10 5 (fun q => absurd q.1 (by first | exact Nat.ne_of_beq_eq_false rfl | decide))).trans (zsg hS zs_10_5)) rfl ?_
  refine w_alu (pc' := 21) (st' := [.int (Int32.ofInt 1), .ref 22]) (ykc_81 (e := (0, .iconst 1, 0)) rfl) rfl rfl ?_
  refine w_load (pc' := 22) (v := .ref 10) (m := 1) (ykc_81 (e := (2, .aload_n kF0, 0)) rfl) rfl rfl ?_
  refine w_load (pc' := 23) (v := .ref S) (m := 1) (ykc_81 (e := (2, .aload_n kF2, 0)) rfl) rfl rfl ?_
  refine w_gf (pc' := 26) (v := .int (zn (v 40))) (ykc_81 (e := (5, .getfield 69, 0)) rfl) rfl ((u648.2.1 S 2 (fun q => by have q2 := q.1; omega)).trans gH) rfl ?_
  refine w_cv (as := [.ref 10, .int (zn (v 40))]) (r := [.int (Int32.ofInt 1), .ref 22]) (ykc_81 (e := (6, .invokevirtual 72, 0)) rfl) rfl rfl rfl rfl (zc_light (zCr_S (zFr_st u648 (Or.inl (by first | exact zqi rfl | simp))) hS) (zCr_i (zFr_st u648 (Or.inl (by first | exact zqi rfl | simp))) hi0) (h := v 40) (by omega)) (fun v650 ph651 hv => ?_)
  obtain ⟨rfl, rfl⟩ := hv
  show zW n D 81 Q 29 [some (.ref 10), some (.ref F), some (.ref S), some (.int (zn p)), some (.int (zn br)), some (.int (zn (v p)))] [.int (zn (sk ((v 40) % sn))), .int (Int32.ofInt 1), .ref 22] ph649
  refine w_ias (pc' := 30) (k := 1) (ykc_81 (e := (5, .iastore, 0)) rfl) (by omega) rfl (fun ph653 u652 => ?_)
  refine w_load (pc' := 31) (v := .ref 10) (m := 1) (ykc_81 (e := (2, .aload_n kF0, 0)) rfl) rfl rfl ?_
  refine w_gf (pc' := 34) (v := .ref 22) (ykc_81 (e := (5, .getfield 33, 0)) rfl) rfl ((u652.2.1 10 5 (fun q => absurd q.1 (by first | exact Nat.ne_of_beq_eq_false rfl | decide))).trans ((u648.2.1 10 5 (fun q => absurd q.1 (by first | exact Nat.ne_of_beq_eq_false rfl | decide))).trans (zsg hS zs_10_5))) rfl ?_
  refine w_alu (pc' := 35) (st' := [.int (Int32.ofInt 2), .ref 22]) (ykc_81 (e := (0, .iconst 2, 0)) rfl) rfl rfl ?_
  refine w_load (pc' := 36) (v := .ref S) (m := 1) (ykc_81 (e := (2, .aload_n kF2, 0)) rfl) rfl rfl ?_
  refine w_gf (pc' := 39) (v := .ref (S + 4)) (ykc_81 (e := (5, .getfield 75, 0)) rfl) rfl ((u652.2.1 S 6 (fun q => by have q2 := q.1; omega)).trans ((u648.2.1 S 6 (fun q => by have q2 := q.1; omega)).trans r6)) rfl ?_
  refine w_load (pc' := 40) (v := .int (zn p)) (m := 1) (ykc_81 (e := (2, .iload_n kF3, 0)) rfl) rfl rfl ?_
  have q654 := hO0.1 p (by omega)
  have tq654 := znt (k := v (24 + p)) (by omega)
  refine w_ialk (pc' := 41) (k := p) (ykc_81 (e := (5, .iaload, 0)) rfl) ((u652.2.1 (S + 4) p (fun q => by have q2 := q.1; omega)).trans ((u648.2.1 (S + 4) p (fun q => by have q2 := q.1; omega)).trans (gv p (by omega)).2.2.2)) (by omega) rfl ?_
  refine w_cs (as := [.int (zn (v (24 + p)))]) (r := [.int (Int32.ofInt 2), .ref 22]) (ykc_81 (e := (6, .invokestatic 78, 0)) rfl) rfl rfl rfl rfl (zj_pc) (fun v655 ph656 hv => ?_)
  obtain ⟨rfl, rfl⟩ := hv
  show zW n D 81 Q 44 [some (.ref 10), some (.ref F), some (.ref S), some (.int (zn p)), some (.int (zn br)), some (.int (zn (v p)))] [.int (zpc (zn (v (24 + p)))), .int (Int32.ofInt 2), .ref 22] ph653
  refine w_ias (pc' := 45) (k := 2) (ykc_81 (e := (5, .iastore, 0)) rfl) (by omega) rfl (fun ph658 u657 => ?_)
  refine w_load (pc' := 46) (v := .ref 10) (m := 1) (ykc_81 (e := (2, .aload_n kF0, 0)) rfl) rfl rfl ?_
  refine w_gf (pc' := 49) (v := .ref 22) (ykc_81 (e := (5, .getfield 33, 0)) rfl) rfl ((u657.2.1 10 5 (fun q => absurd q.1 (by first | exact Nat.ne_of_beq_eq_false rfl | decide))).trans ((u652.2.1 10 5 (fun q => absurd q.1 (by first | exact Nat.ne_of_beq_eq_false rfl | decide))).trans ((u648.2.1 10 5 (fun q => absurd q.1 (by first | exact Nat.ne_of_beq_eq_false rfl | decide))).trans (zsg hS zs_10_5)))) rfl ?_
  refine w_alu (pc' := 50) (st' := [.int (Int32.ofInt 3), .ref 22]) (ykc_81 (e := (0, .iconst 3, 0)) rfl) rfl rfl ?_
  refine w_load (pc' := 51) (v := .ref S) (m := 1) (ykc_81 (e := (2, .aload_n kF2, 0)) rfl) rfl rfl ?_
  refine w_gf (pc' := 54) (v := .ref (S + 2)) (ykc_81 (e := (5, .getfield 83, 0)) rfl) rfl ((u657.2.1 S 4 (fun q => by have q2 := q.1; omega)).trans ((u652.2.1 S 4 (fun q => by have q2 := q.1; omega)).trans ((u648.2.1 S 4 (fun q => by have q2 := q.1; omega)).trans r4))) rfl ?_
  refine w_load (pc' := 55) (v := .int (zn p)) (m := 1) (ykc_81 (e := (2, .iload_n kF3, 0)) rfl) rfl rfl ?_
  have q659 := hO0.1 p (by omega)
  have tq659 := znt (k := v (8 + p)) (by omega)
  refine w_ialk (pc' := 56) (k := p) (ykc_81 (e := (5, .iaload, 0)) rfl) ((u657.2.1 (S + 2) p (fun q => by have q2 := q.1; omega)).trans ((u652.2.1 (S + 2) p (fun q => by have q2 := q.1; omega)).trans ((u648.2.1 (S + 2) p (fun q => by have q2 := q.1; omega)).trans (gv p (by omega)).2.1))) (by omega) rfl ?_
  refine w_ias (pc' := 57) (k := 3) (ykc_81 (e := (5, .iastore, 0)) rfl) (by omega) rfl (fun ph661 u660 => ?_)
  refine w_load (pc' := 58) (v := .ref 10) (m := 1) (ykc_81 (e := (2, .aload_n kF0, 0)) rfl) rfl rfl ?_
  refine w_gf (pc' := 61) (v := .ref 22) (ykc_81 (e := (5, .getfield 33, 0)) rfl) rfl ((u660.2.1 10 5 (fun q => absurd q.1 (by first | exact Nat.ne_of_beq_eq_false rfl | decide))).trans ((u657.2.1 10 5 (fun q => absurd q.1 (by first | exact Nat.ne_of_beq_eq_false rfl | decide))).trans ((u652.2.1 10 5 (fun q => absurd q.1 (by first | exact Nat.ne_of_beq_eq_false rfl | decide))).trans ((u648.2.1 10 5 (fun q => absurd q.1 (by first | exact Nat.ne_of_beq_eq_false rfl | decide))).trans (zsg hS zs_10_5))))) rfl ?_
  refine w_alu (pc' := 62) (st' := [.int (Int32.ofInt 4), .ref 22]) (ykc_81 (e := (0, .iconst 4, 0)) rfl) rfl rfl ?_
  refine w_load (pc' := 63) (v := .ref 10) (m := 1) (ykc_81 (e := (2, .aload_n kF0, 0)) rfl) rfl rfl ?_
  refine w_gf (pc' := 66) (v := .ref 5) (ykc_81 (e := (5, .getfield 9, 0)) rfl) rfl ((u660.2.1 10 0 (fun q => absurd q.1 (by first | exact Nat.ne_of_beq_eq_false rfl | decide))).trans ((u657.2.1 10 0 (fun q => absurd q.1 (by first | exact Nat.ne_of_beq_eq_false rfl | decide))).trans ((u652.2.1 10 0 (fun q => absurd q.1 (by first | exact Nat.ne_of_beq_eq_false rfl | decide))).trans ((u648.2.1 10 0 (fun q => absurd q.1 (by first | exact Nat.ne_of_beq_eq_false rfl | decide))).trans (zsg hS zs_10_0))))) rfl ?_
  refine w_load (pc' := 68) (v := .int (zn (v p))) (m := 2) (ykc_81 (e := (2, .iload 5, 0)) rfl) rfl rfl ?_
  refine w_cv (as := [.ref 5, .int (zn (v p))]) (r := [.int (Int32.ofInt 4), .ref 22]) (ykc_81 (e := (6, .invokevirtual 86, 0)) rfl) rfl rfl rfl rfl (zc_rowOf (zCr_S (zFr_trans (zFr_trans (zFr_trans (zFr_st u648 (Or.inl (by first | exact zqi rfl | simp))) (zFr_st u652 (Or.inl (by first | exact zqi rfl | simp)))) (zFr_st u657 (Or.inl (by first | exact zqi rfl | simp)))) (zFr_st u660 (Or.inl (by first | exact zqi rfl | simp)))) hS) (zCr_l (zFr_trans (zFr_trans (zFr_trans (zFr_st u648 (Or.inl (by first | exact zqi rfl | simp))) (zFr_st u652 (Or.inl (by first | exact zqi rfl | simp)))) (zFr_st u657 (Or.inl (by first | exact zqi rfl | simp)))) (zFr_st u660 (Or.inl (by first | exact zqi rfl | simp)))) hL0) (f := v p) (by omega)) (fun v663 ph664 hv => ?_)
  obtain ⟨rfl, rfl⟩ := hv
  have q662 : v p < R * C := by omega
  have mq662 : (v p) / C < R := (Nat.div_lt_iff_lt_mul (by omega)).mpr q662
  have zq662 := Nat.zero_le ((v p) / C)
  have tq662 := znt (k := (v p) / C) (by omega)
  show zW n D 81 Q 71 [some (.ref 10), some (.ref F), some (.ref S), some (.int (zn p)), some (.int (zn br)), some (.int (zn (v p)))] [.int (zn ((v p) / C)), .int (Int32.ofInt 4), .ref 22] ph661
  refine w_ias (pc' := 72) (k := 4) (ykc_81 (e := (5, .iastore, 0)) rfl) (by omega) rfl (fun ph666 u665 => ?_)
  refine w_load (pc' := 73) (v := .ref 10) (m := 1) (ykc_81 (e := (2, .aload_n kF0, 0)) rfl) rfl rfl ?_
  refine w_gf (pc' := 76) (v := .ref 22) (ykc_81 (e := (5, .getfield 33, 0)) rfl) rfl ((u665.2.1 10 5 (fun q => absurd q.1 (by first | exact Nat.ne_of_beq_eq_false rfl | decide))).trans ((u660.2.1 10 5 (fun q => absurd q.1 (by first | exact Nat.ne_of_beq_eq_false rfl | decide))).trans ((u657.2.1 10 5 (fun q => absurd q.1 (by first | exact Nat.ne_of_beq_eq_false rfl | decide))).trans ((u652.2.1 10 5 (fun q => absurd q.1 (by first | exact Nat.ne_of_beq_eq_false rfl | decide))).trans ((u648.2.1 10 5 (fun q => absurd q.1 (by first | exact Nat.ne_of_beq_eq_false rfl | decide))).trans (zsg hS zs_10_5)))))) rfl ?_
  refine w_alu (pc' := 77) (st' := [.int (Int32.ofInt 5), .ref 22]) (ykc_81 (e := (0, .iconst 5, 0)) rfl) rfl rfl ?_
  refine w_load (pc' := 78) (v := .ref 10) (m := 1) (ykc_81 (e := (2, .aload_n kF0, 0)) rfl) rfl rfl ?_
  refine w_gf (pc' := 81) (v := .ref 5) (ykc_81 (e := (5, .getfield 9, 0)) rfl) rfl ((u665.2.1 10 0 (fun q => absurd q.1 (by first | exact Nat.ne_of_beq_eq_false rfl | decide))).trans ((u660.2.1 10 0 (fun q => absurd q.1 (by first | exact Nat.ne_of_beq_eq_false rfl | decide))).trans ((u657.2.1 10 0 (fun q => absurd q.1 (by first | exact Nat.ne_of_beq_eq_false rfl | decide))).trans ((u652.2.1 10 0 (fun q => absurd q.1 (by first | exact Nat.ne_of_beq_eq_false rfl | decide))).trans ((u648.2.1 10 0 (fun q => absurd q.1 (by first | exact Nat.ne_of_beq_eq_false rfl | decide))).trans (zsg hS zs_10_0)))))) rfl ?_
  refine w_load (pc' := 83) (v := .int (zn (v p))) (m := 2) (ykc_81 (e := (2, .iload 5, 0)) rfl) rfl rfl ?_
  refine w_cv (as := [.ref 5, .int (zn (v p))]) (r := [.int (Int32.ofInt 5), .ref 22]) (ykc_81 (e := (6, .invokevirtual 91, 0)) rfl) rfl rfl rfl rfl (zc_colOf (zCr_S (zFr_trans (zFr_trans (zFr_trans (zFr_trans (zFr_st u648 (Or.inl (by first | exact zqi rfl | simp))) (zFr_st u652 (Or.inl (by first | exact zqi rfl | simp)))) (zFr_st u657 (Or.inl (by first | exact zqi rfl | simp)))) (zFr_st u660 (Or.inl (by first | exact zqi rfl | simp)))) (zFr_st u665 (Or.inl (by first | exact zqi rfl | simp)))) hS) (zCr_l (zFr_trans (zFr_trans (zFr_trans (zFr_trans (zFr_st u648 (Or.inl (by first | exact zqi rfl | simp))) (zFr_st u652 (Or.inl (by first | exact zqi rfl | simp)))) (zFr_st u657 (Or.inl (by first | exact zqi rfl | simp)))) (zFr_st u660 (Or.inl (by first | exact zqi rfl | simp)))) (zFr_st u665 (Or.inl (by first | exact zqi rfl | simp)))) hL0) (f := v p) (by omega)) (fun v668 ph669 hv => ?_)
  obtain ⟨rfl, rfl⟩ := hv
  have q667 : v p < R * C := by omega
  have mq667 := Nat.mod_lt (v p) (show 0 < C by omega)
  have zq667 := Nat.zero_le ((v p) % C)
  have tq667 := znt (k := (v p) % C) (by omega)
  show zW n D 81 Q 86 [some (.ref 10), some (.ref F), some (.ref S), some (.int (zn p)), some (.int (zn br)), some (.int (zn (v p)))] [.int (zn ((v p) % C)), .int (Int32.ofInt 5), .ref 22] ph666
  refine w_ias (pc' := 87) (k := 5) (ykc_81 (e := (5, .iastore, 0)) rfl) (by omega) rfl (fun ph671 u670 => ?_)
  refine w_load (pc' := 88) (v := .ref 10) (m := 1) (ykc_81 (e := (2, .aload_n kF0, 0)) rfl) rfl rfl ?_
  refine w_gf (pc' := 91) (v := .ref 22) (ykc_81 (e := (5, .getfield 33, 0)) rfl) rfl ((u670.2.1 10 5 (fun q => absurd q.1 (by first | exact Nat.ne_of_beq_eq_false rfl | decide))).trans ((u665.2.1 10 5 (fun q => absurd q.1 (by first | exact Nat.ne_of_beq_eq_false rfl | decide))).trans ((u660.2.1 10 5 (fun q => absurd q.1 (by first | exact Nat.ne_of_beq_eq_false rfl | decide))).trans ((u657.2.1 10 5 (fun q => absurd q.1 (by first | exact Nat.ne_of_beq_eq_false rfl | decide))).trans ((u652.2.1 10 5 (fun q => absurd q.1 (by first | exact Nat.ne_of_beq_eq_false rfl | decide))).trans ((u648.2.1 10 5 (fun q => absurd q.1 (by first | exact Nat.ne_of_beq_eq_false rfl | decide))).trans (zsg hS zs_10_5))))))) rfl ?_
  refine w_push (pc' := 93) (v := .int ((Int8.ofInt 6).toInt32)) (m := 2) (ykc_81 (e := (1, .bipush 6, 0)) rfl) rfl rfl ?_
  refine w_load (pc' := 94) (v := .ref S) (m := 1) (ykc_81 (e := (2, .aload_n kF2, 0)) rfl) rfl rfl ?_
  refine w_gf (pc' := 97) (v := .int (zn (v 40))) (ykc_81 (e := (5, .getfield 69, 0)) rfl) rfl ((u670.2.1 S 2 (fun q => by have q2 := q.1; omega)).trans ((u665.2.1 S 2 (fun q => by have q2 := q.1; omega)).trans ((u660.2.1 S 2 (fun q => by have q2 := q.1; omega)).trans ((u657.2.1 S 2 (fun q => by have q2 := q.1; omega)).trans ((u652.2.1 S 2 (fun q => by have q2 := q.1; omega)).trans ((u648.2.1 S 2 (fun q => by have q2 := q.1; omega)).trans gH)))))) rfl ?_
  refine w_push (pc' := 99) (v := .int ((Int8.ofInt 7).toInt32)) (m := 2) (ykc_81 (e := (1, .bipush 7, 0)) rfl) rfl rfl ?_
  refine w_irem (pc' := 100) (ykc_81 (e := (0, .irem, 0)) rfl) rfl (fun d673 => ?_)
  have m672 := Nat.mod_lt (v 40) (show 0 < 7 by omega)
  have zm672 := Nat.zero_le (v 40 % 7)
  have e674 : (zn (v 40)) - (zn (v 40)) / ((Int8.ofInt 7).toInt32) * ((Int8.ofInt 7).toInt32) = zn (v 40 % 7) := zn_of (zremN (by omega) (by omega) (by omega))
  have te674 := znt (k := v 40 % 7) (by omega)
  rw [e674]
  show zW n D 81 Q 100 [some (.ref 10), some (.ref F), some (.ref S), some (.int (zn p)), some (.int (zn br)), some (.int (zn (v p)))] [.int (zn (v 40 % 7)), .int ((Int8.ofInt 6).toInt32), .ref 22] ph671
  refine w_ias (pc' := 101) (k := 6) (ykc_81 (e := (5, .iastore, 0)) rfl) (by omega) rfl (fun ph676 u675 => ?_)
  refine w_load (pc' := 102) (v := .ref 10) (m := 1) (ykc_81 (e := (2, .aload_n kF0, 0)) rfl) rfl rfl ?_
  refine w_gf (pc' := 105) (v := .ref 22) (ykc_81 (e := (5, .getfield 33, 0)) rfl) rfl ((u675.2.1 10 5 (fun q => absurd q.1 (by first | exact Nat.ne_of_beq_eq_false rfl | decide))).trans ((u670.2.1 10 5 (fun q => absurd q.1 (by first | exact Nat.ne_of_beq_eq_false rfl | decide))).trans ((u665.2.1 10 5 (fun q => absurd q.1 (by first | exact Nat.ne_of_beq_eq_false rfl | decide))).trans ((u660.2.1 10 5 (fun q => absurd q.1 (by first | exact Nat.ne_of_beq_eq_false rfl | decide))).trans ((u657.2.1 10 5 (fun q => absurd q.1 (by first | exact Nat.ne_of_beq_eq_false rfl | decide))).trans ((u652.2.1 10 5 (fun q => absurd q.1 (by first | exact Nat.ne_of_beq_eq_false rfl | decide))).trans ((u648.2.1 10 5 (fun q => absurd q.1 (by first | exact Nat.ne_of_beq_eq_false rfl | decide))).trans (zsg hS zs_10_5)))))))) rfl ?_
  refine w_push (pc' := 107) (v := .int ((Int8.ofInt 7).toInt32)) (m := 2) (ykc_81 (e := (1, .bipush 7, 0)) rfl) rfl rfl ?_
  refine w_load (pc' := 108) (v := .ref S) (m := 1) (ykc_81 (e := (2, .aload_n kF2, 0)) rfl) rfl rfl ?_
  refine w_alu (pc' := 109) (st' := [.long (Int64.ofNat kG1), .ref S, .int ((Int8.ofInt 7).toInt32), .ref 22]) (ykc_81 (e := (0, .lconst kG1, 0)) rfl) rfl rfl ?_
  refine w_load (pc' := 111) (v := .int (zn (v p))) (m := 2) (ykc_81 (e := (2, .iload 5, 0)) rfl) rfl rfl ?_
  refine w_alu (pc' := 112) (st' := [.long ((Int64.ofNat kG1) <<< ((zn (v p)).toInt64 &&& 63)), .ref S, .int ((Int8.ofInt 7).toInt32), .ref 22]) (ykc_81 (e := (0, .lshl, 0)) rfl) rfl rfl ?_
  refine w_cv (as := [.ref S, .long ((Int64.ofNat kG1) <<< ((zn (v p)).toInt64 &&& 63))]) (r := [.int ((Int8.ofInt 7).toInt32), .ref 22]) (ykc_81 (e := (6, .invokevirtual 94, 0)) rfl) rfl rfl rfl rfl (zc_pon (zCr_t (zFr_trans (zFr_trans (zFr_trans (zFr_trans (zFr_trans (zFr_trans (zFr_st u648 (Or.inl (by first | exact zqi rfl | simp))) (zFr_st u652 (Or.inl (by first | exact zqi rfl | simp)))) (zFr_st u657 (Or.inl (by first | exact zqi rfl | simp)))) (zFr_st u660 (Or.inl (by first | exact zqi rfl | simp)))) (zFr_st u665 (Or.inl (by first | exact zqi rfl | simp)))) (zFr_st u670 (Or.inl (by first | exact zqi rfl | simp)))) (zFr_st u675 (Or.inl (by first | exact zqi rfl | simp)))) ht).1.2 (zCr_t (zFr_trans (zFr_trans (zFr_trans (zFr_trans (zFr_trans (zFr_trans (zFr_st u648 (Or.inl (by first | exact zqi rfl | simp))) (zFr_st u652 (Or.inl (by first | exact zqi rfl | simp)))) (zFr_st u657 (Or.inl (by first | exact zqi rfl | simp)))) (zFr_st u660 (Or.inl (by first | exact zqi rfl | simp)))) (zFr_st u665 (Or.inl (by first | exact zqi rfl | simp)))) (zFr_st u670 (Or.inl (by first | exact zqi rfl | simp)))) (zFr_st u675 (Or.inl (by first | exact zqi rfl | simp)))) ht).2 (x := (Int64.ofNat kG1) <<< ((zn (v p)).toInt64 &&& 63)) (fun i hi => by have := (hO0.1 i hi).1; omega)) (fun v677 ph678 hv => ?_)
  obtain ⟨rfl, rfl⟩ := hv
  show zW n D 81 Q 115 [some (.ref 10), some (.ref F), some (.ref S), some (.int (zn p)), some (.int (zn br)), some (.int (zn (v p)))] [.int (zPon P v ((Int64.ofNat kG1) <<< ((zn (v p)).toInt64 &&& 63))), .int ((Int8.ofInt 7).toInt32), .ref 22] ph676
  refine w_cs (as := [.int (zPon P v ((Int64.ofNat kG1) <<< ((zn (v p)).toInt64 &&& 63)))]) (r := [.int ((Int8.ofInt 7).toInt32), .ref 22]) (ykc_81 (e := (6, .invokestatic 78, 0)) rfl) rfl rfl rfl rfl (zj_pc) (fun v679 ph680 hv => ?_)
  obtain ⟨rfl, rfl⟩ := hv
  rw [zpon_1 hP8 (by omega) (fun q hq => by have := (hO0.1 q hq).1; omega)]
  have hct := @zct_le v (v p) P
  have tct := znt (k := zct v (v p) P) (by omega)
  show zW n D 81 Q 118 [some (.ref 10), some (.ref F), some (.ref S), some (.int (zn p)), some (.int (zn br)), some (.int (zn (v p)))] [.int (zn (zct v (v p) P)), .int ((Int8.ofInt 7).toInt32), .ref 22] ph676
  refine w_ias (pc' := 119) (k := 7) (ykc_81 (e := (5, .iastore, 0)) rfl) (by omega) rfl (fun ph682 u681 => ?_)
  refine w_alu (pc' := 120) (st' := [.int (Int32.ofInt 0)]) (ykc_81 (e := (0, .iconst 0, 0)) rfl) rfl rfl ?_
  refine w_push (pc' := 122) (v := .int ((Int8.ofInt 9).toInt32)) (m := 2) (ykc_81 (e := (1, .bipush 9, 0)) rfl) rfl rfl ?_
  refine w_load (pc' := 123) (v := .ref F) (m := 1) (ykc_81 (e := (2, .aload_n kF1, 0)) rfl) rfl rfl ?_
  refine w_load (pc' := 124) (v := .ref 10) (m := 1) (ykc_81 (e := (2, .aload_n kF0, 0)) rfl) rfl rfl ?_
  refine w_gf (pc' := 127) (v := .ref 22) (ykc_81 (e := (5, .getfield 33, 0)) rfl) rfl ((u681.2.1 10 5 (fun q => absurd q.1 (by first | exact Nat.ne_of_beq_eq_false rfl | decide))).trans ((u675.2.1 10 5 (fun q => absurd q.1 (by first | exact Nat.ne_of_beq_eq_false rfl | decide))).trans ((u670.2.1 10 5 (fun q => absurd q.1 (by first | exact Nat.ne_of_beq_eq_false rfl | decide))).trans ((u665.2.1 10 5 (fun q => absurd q.1 (by first | exact Nat.ne_of_beq_eq_false rfl | decide))).trans ((u660.2.1 10 5 (fun q => absurd q.1 (by first | exact Nat.ne_of_beq_eq_false rfl | decide))).trans ((u657.2.1 10 5 (fun q => absurd q.1 (by first | exact Nat.ne_of_beq_eq_false rfl | decide))).trans ((u652.2.1 10 5 (fun q => absurd q.1 (by first | exact Nat.ne_of_beq_eq_false rfl | decide))).trans ((u648.2.1 10 5 (fun q => absurd q.1 (by first | exact Nat.ne_of_beq_eq_false rfl | decide))).trans (zsg hS zs_10_5))))))))) rfl ?_
  refine w_cv (as := [.ref F, .ref 22]) (r := [.int ((Int8.ofInt 9).toInt32), .int (Int32.ofInt 0)]) (ykc_81 (e := (6, .invokevirtual 98, 0)) rfl) rfl rfl rfl rfl (zc_value (zCr_S (zFr_trans (zFr_trans (zFr_trans (zFr_trans (zFr_trans (zFr_trans (zFr_trans (zFr_st u648 (Or.inl (by first | exact zqi rfl | simp))) (zFr_st u652 (Or.inl (by first | exact zqi rfl | simp)))) (zFr_st u657 (Or.inl (by first | exact zqi rfl | simp)))) (zFr_st u660 (Or.inl (by first | exact zqi rfl | simp)))) (zFr_st u665 (Or.inl (by first | exact zqi rfl | simp)))) (zFr_st u670 (Or.inl (by first | exact zqi rfl | simp)))) (zFr_st u675 (Or.inl (by first | exact zqi rfl | simp)))) (zFr_st u681 (Or.inl (by first | exact zqi rfl | simp)))) hS) hF (zCr_e (zFr_trans (zFr_trans (zFr_trans (zFr_trans (zFr_trans (zFr_trans (zFr_trans (zFr_st u648 (Or.inl (by first | exact zqi rfl | simp))) (zFr_st u652 (Or.inl (by first | exact zqi rfl | simp)))) (zFr_st u657 (Or.inl (by first | exact zqi rfl | simp)))) (zFr_st u660 (Or.inl (by first | exact zqi rfl | simp)))) (zFr_st u665 (Or.inl (by first | exact zqi rfl | simp)))) (zFr_st u670 (Or.inl (by first | exact zqi rfl | simp)))) (zFr_st u675 (Or.inl (by first | exact zqi rfl | simp)))) (zFr_st u681 (Or.inl (by first | exact zqi rfl | simp)))) hE0).2.2.1 (as := zas (R, C, rk, sn, sk, cn, cd) P v p br) (fun i hi => by
      rcases (show i = 0 ∨ i = 1 ∨ i = 2 ∨ i = 3 ∨ i = 4 ∨ i = 5 ∨ i = 6 ∨ i = 7 by omega) with e | e | e | e | e | e | e | e
      · subst e; exact ((u681.2.1 22 0 (fun q => absurd q.2 (by first | exact Nat.ne_of_beq_eq_false rfl | decide))).trans ((u675.2.1 22 0 (fun q => absurd q.2 (by first | exact Nat.ne_of_beq_eq_false rfl | decide))).trans ((u670.2.1 22 0 (fun q => absurd q.2 (by first | exact Nat.ne_of_beq_eq_false rfl | decide))).trans ((u665.2.1 22 0 (fun q => absurd q.2 (by first | exact Nat.ne_of_beq_eq_false rfl | decide))).trans ((u660.2.1 22 0 (fun q => absurd q.2 (by first | exact Nat.ne_of_beq_eq_false rfl | decide))).trans ((u657.2.1 22 0 (fun q => absurd q.2 (by first | exact Nat.ne_of_beq_eq_false rfl | decide))).trans ((u652.2.1 22 0 (fun q => absurd q.2 (by first | exact Nat.ne_of_beq_eq_false rfl | decide))).trans u648.1))))))).trans (by unfold zas; simp)
      · subst e; exact ((u681.2.1 22 1 (fun q => absurd q.2 (by first | exact Nat.ne_of_beq_eq_false rfl | decide))).trans ((u675.2.1 22 1 (fun q => absurd q.2 (by first | exact Nat.ne_of_beq_eq_false rfl | decide))).trans ((u670.2.1 22 1 (fun q => absurd q.2 (by first | exact Nat.ne_of_beq_eq_false rfl | decide))).trans ((u665.2.1 22 1 (fun q => absurd q.2 (by first | exact Nat.ne_of_beq_eq_false rfl | decide))).trans ((u660.2.1 22 1 (fun q => absurd q.2 (by first | exact Nat.ne_of_beq_eq_false rfl | decide))).trans ((u657.2.1 22 1 (fun q => absurd q.2 (by first | exact Nat.ne_of_beq_eq_false rfl | decide))).trans u652.1)))))).trans (by unfold zas; simp)
      · subst e; exact ((u681.2.1 22 2 (fun q => absurd q.2 (by first | exact Nat.ne_of_beq_eq_false rfl | decide))).trans ((u675.2.1 22 2 (fun q => absurd q.2 (by first | exact Nat.ne_of_beq_eq_false rfl | decide))).trans ((u670.2.1 22 2 (fun q => absurd q.2 (by first | exact Nat.ne_of_beq_eq_false rfl | decide))).trans ((u665.2.1 22 2 (fun q => absurd q.2 (by first | exact Nat.ne_of_beq_eq_false rfl | decide))).trans ((u660.2.1 22 2 (fun q => absurd q.2 (by first | exact Nat.ne_of_beq_eq_false rfl | decide))).trans u657.1))))).trans (by unfold zas; simp)
      · subst e; exact ((u681.2.1 22 3 (fun q => absurd q.2 (by first | exact Nat.ne_of_beq_eq_false rfl | decide))).trans ((u675.2.1 22 3 (fun q => absurd q.2 (by first | exact Nat.ne_of_beq_eq_false rfl | decide))).trans ((u670.2.1 22 3 (fun q => absurd q.2 (by first | exact Nat.ne_of_beq_eq_false rfl | decide))).trans ((u665.2.1 22 3 (fun q => absurd q.2 (by first | exact Nat.ne_of_beq_eq_false rfl | decide))).trans u660.1)))).trans (by unfold zas; simp)
      · subst e; exact ((u681.2.1 22 4 (fun q => absurd q.2 (by first | exact Nat.ne_of_beq_eq_false rfl | decide))).trans ((u675.2.1 22 4 (fun q => absurd q.2 (by first | exact Nat.ne_of_beq_eq_false rfl | decide))).trans ((u670.2.1 22 4 (fun q => absurd q.2 (by first | exact Nat.ne_of_beq_eq_false rfl | decide))).trans u665.1))).trans (by unfold zas; simp)
      · subst e; exact ((u681.2.1 22 5 (fun q => absurd q.2 (by first | exact Nat.ne_of_beq_eq_false rfl | decide))).trans ((u675.2.1 22 5 (fun q => absurd q.2 (by first | exact Nat.ne_of_beq_eq_false rfl | decide))).trans u670.1)).trans (by unfold zas; simp)
      · subst e; exact ((u681.2.1 22 6 (fun q => absurd q.2 (by first | exact Nat.ne_of_beq_eq_false rfl | decide))).trans u675.1).trans (by unfold zas; simp)
      · subst e; exact u681.1.trans (by unfold zas; simp))) (fun v684 ph685 hv => ?_)
  obtain ⟨f683, rfl⟩ := hv
  have f683 : zCr _ _ := zFr_mono f683 (by first | exact zqa rfl | simp) (by first | exact zqf rfl | simp)
  show zW n D 81 Q 130 [some (.ref 10), some (.ref F), some (.ref S), some (.int (zn p)), some (.int (zn br)), some (.int (zn (v p)))] [.int (zval (zas (R, C, rk, sn, sk, cn, cd) P v p br) cn cd), .int ((Int8.ofInt 9).toInt32), .int (Int32.ofInt 0)] ph685
  obtain ⟨z686, e_z686⟩ : ∃ zq : Int32, (if (zval (zas (R, C, rk, sn, sk, cn, cd) P v p br) cn cd) < ((Int8.ofInt 9).toInt32) then (zval (zas (R, C, rk, sn, sk, cn, cd) P v p br) cn cd) else ((Int8.ofInt 9).toInt32)) = zq := ⟨_, rfl⟩
  have h_z686 := zminI e_z686
  refine w_mem1 (pc' := 133) (m := 3) (st' := [.int z686, .int (Int32.ofInt 0)]) (ph' := ph685) (ykc_81 (e := (5, .invokestatic 102, 0)) rfl) (by rw [← e_z686]; rfl) rfl ?_
  obtain ⟨z687, e_z687⟩ : ∃ zq : Int32, (if (Int32.ofInt 0) < z686 then z686 else (Int32.ofInt 0)) = zq := ⟨_, rfl⟩
  have h_z687 := zmaxI e_z687
  refine w_mem1 (pc' := 136) (m := 3) (st' := [.int z687]) (ph' := ph685) (ykc_81 (e := (5, .invokestatic 108, 0)) rfl) (by rw [← e_z687]; rfl) rfl ?_
  refine w_ret (v := (some (.int z687))) (ykc_81 (e := (7, .ireturn, 0)) rfl) (zr_v rfl) ?_
  rw [hQ]
  exact ⟨(zFr_trans (zFr_trans (zFr_trans (zFr_trans (zFr_trans (zFr_trans (zFr_trans (zFr_trans (zFr_st u648 (Or.inl (by first | exact zqi rfl | simp))) (zFr_st u652 (Or.inl (by first | exact zqi rfl | simp)))) (zFr_st u657 (Or.inl (by first | exact zqi rfl | simp)))) (zFr_st u660 (Or.inl (by first | exact zqi rfl | simp)))) (zFr_st u665 (Or.inl (by first | exact zqi rfl | simp)))) (zFr_st u670 (Or.inl (by first | exact zqi rfl | simp)))) (zFr_st u675 (Or.inl (by first | exact zqi rfl | simp)))) (zFr_st u681 (Or.inl (by first | exact zqi rfl | simp)))) f683), by rw [zn_of (x := z687) (k := zrc (zval (zas (R, C, rk, sn, sk, cn, cd) P v p br) cn cd)) (by rw [zrcI]; omega)]; rfl⟩
theorem zc_look {ph : pm_H} {E : zEn} {F S P G : Nat} {v : Nat → Nat} (hS : zSh ph) (hE : zCe ph E F) (ht : zCt ph S P G v) (hO : zOk E.1 E.2.1 P G v) (hc : zCc ph E.1 E.2.1 E.2.2.1) : zM 85 [.ref 10, .ref F, .ref S] ph (fun v0 q => zCx ph q ∧ zCc q E.1 E.2.1 E.2.2.1 ∧ (∀ i, i < P → zc q 23 i = some (.long (zVw E P v i))) ∧ v0 = some (.long (zAll E P v))) := by
  obtain ⟨Q, hQ⟩ : ∃ Q : Option Value → pm_H → Prop, Q = (fun v0 q => zCx ph q ∧ zCc q E.1 E.2.1 E.2.2.1 ∧ (∀ i, i < P → zc q 23 i = some (.long (zVw E P v i))) ∧ v0 = some (.long (zAll E P v))) := ⟨_, rfl⟩
  rw [← hQ]
  refine zM_mk fun n D => ?_
  show zW n D 85 Q 0 [some (.ref 10), some (.ref F), some (.ref S), none, none, none, none] [] ph
  have c_0 : ((Int8.ofInt 8).toInt32).toInt = 8 := by decide +kernel
  have c_1 : (Int32.ofInt 0).toInt = 0 := by decide +kernel
  have c_2 : (Int32.ofInt 1).toInt = 1 := by decide +kernel
  obtain ⟨R, C, rk, sn, sk, cn, cd⟩ := E
  have hL0 : zCl ph R C rk := hE.1
  have hi0 : zCi ph sn sk := hE.2.1
  have hF : F = 11 ∨ F = 16 := hE.2.2.2
  have hE0 : zCe ph (R, C, rk, sn, sk, cn, cd) F := hE
  have hO0 : zOk R C P G v := hO
  have hL := hL0
  have hs := ht.1.2
  have hd := ht.2
  have h25 := ht.1.1
  obtain ⟨gR, gC, gN, gK, gA, hR3, hR7, hC3, hC7⟩ := hL
  have hRC := zRC49 hR7 hC7
  have tR := znt (k := R) (by omega)
  have tC := znt (k := C) (by omega)
  have tRC := znt (k := R * C) (by omega)
  have hd0 := hd
  have hs0 := hs
  obtain ⟨r3, r4, r5, r6, r7, l1, l2, l3, l4, l5⟩ := hs
  obtain ⟨gP, hP8, gG, hG8, gH, gv, gw⟩ := hd
  have tP := znt (k := P) (by omega)
  have tG := znt (k := G) (by omega)
  have h40 := hO0.2.2
  have t40 := znt (k := v 40) (by omega)
  refine w_alu (pc' := 1) (st' := [.long (Int64.ofNat kG0)]) (ykc_85 (e := (0, .lconst kG0, 0)) rfl) rfl rfl ?_
  refine w_store (pc' := 2) (L' := [some (.ref 10), some (.ref F), some (.ref S), some (.long (Int64.ofNat kG0)), none, none, none]) (st' := []) (m := 1) (ykc_85 (e := (3, .lstore_n kF3, 0)) rfl) rfl rfl ?_
  refine w_alu (pc' := 3) (st' := [.int (Int32.ofInt 0)]) (ykc_85 (e := (0, .iconst 0, 0)) rfl) rfl rfl ?_
  refine w_store (pc' := 5) (L' := [some (.ref 10), some (.ref F), some (.ref S), some (.long (Int64.ofNat kG0)), none, some (.int (Int32.ofInt 0)), none]) (st' := []) (m := 2) (ykc_85 (e := (3, .istore 5, 0)) rfl) rfl rfl ?_
  have hl : ∀ (n : Nat), ∀ (k : Nat) (x6 : Option Value) (ph1 : pm_H), (k ≤ P) → (zCx ph ph1) → (zCc ph1 R C rk) → (∀ i, i < k → zc ph1 23 i = some (.long (zVw (R, C, rk, sn, sk, cn, cd) P v i))) → zW n D 85 Q 5 [some (.ref 10), some (.ref F), some (.ref S), some (.long (zU (zVw (R, C, rk, sn, sk, cn, cd) P v) k)), none, some (.int (zn k)), x6] [] ph1 := by
    intro n
    induction n using Nat.strongRecOn with
    | ind n ih =>
      intro k x6 ph1 hk hf hc1 hvw
      have tk := znt (k := k) (by omega)
      refine w_load (pc' := 7) (v := .int (zn k)) (m := 2) (ykc_85 (e := (2, .iload 5, 0)) rfl) rfl rfl ?_
      refine w_load (pc' := 8) (v := .ref S) (m := 1) (ykc_85 (e := (2, .aload_n kF2, 0)) rfl) rfl rfl ?_
      refine w_gf (pc' := 11) (v := .int (zn P)) (ykc_85 (e := (5, .getfield 122, 0)) rfl) rfl ((hf.1 S 0 (by simp <;> omega) (by simp <;> omega)).trans gP) rfl ?_
      refine w_ige (ykc_85 (e := (4, .if_icmp .ge 80, 91)) rfl) rfl (fun b688 => ?_) (fun b688 => ?_)
      · refine w_load (pc' := 92) (v := .long (zU (zVw (R, C, rk, sn, sk, cn, cd) P v) k)) (m := 1) (ykc_85 (e := (2, .lload_n kF3, 0)) rfl) rfl rfl ?_
        refine w_ret (v := (some (.long (zU (zVw (R, C, rk, sn, sk, cn, cd) P v) k)))) (ykc_85 (e := (7, .lreturn, 0)) rfl) (zr_v rfl) ?_
        have ek : P = k := by omega
        subst ek
        rw [hQ]
        exact ⟨hf, hc1, hvw, rfl⟩
      · refine w_load (pc' := 16) (v := .int (zn k)) (m := 2) (ykc_85 (e := (2, .iload 5, 0)) rfl) rfl rfl ?_
        refine w_push (pc' := 18) (v := .int ((Int8.ofInt 8).toInt32)) (m := 2) (ykc_85 (e := (1, .bipush 8, 0)) rfl) rfl rfl ?_
        refine w_ige (ykc_85 (e := (4, .if_icmp .ge 73, 91)) rfl) rfl (fun q => by exfalso; omega) (fun b689 => ?_)
        refine w_load (pc' := 22) (v := .ref 10) (m := 1) (ykc_85 (e := (2, .aload_n kF0, 0)) rfl) rfl rfl ?_
        refine w_load (pc' := 23) (v := .ref F) (m := 1) (ykc_85 (e := (2, .aload_n kF1, 0)) rfl) rfl rfl ?_
        refine w_load (pc' := 24) (v := .ref S) (m := 1) (ykc_85 (e := (2, .aload_n kF2, 0)) rfl) rfl rfl ?_
        refine w_load (pc' := 26) (v := .int (zn k)) (m := 2) (ykc_85 (e := (2, .iload 5, 0)) rfl) rfl rfl ?_
        refine w_load (pc' := 27) (v := .ref S) (m := 1) (ykc_85 (e := (2, .aload_n kF2, 0)) rfl) rfl rfl ?_
        refine w_gf (pc' := 30) (v := .ref (S + 3)) (ykc_85 (e := (5, .getfield 59, 0)) rfl) rfl ((hf.1 S 5 (by simp <;> omega) (by simp <;> omega)).trans r5) rfl ?_
        refine w_load (pc' := 32) (v := .int (zn k)) (m := 2) (ykc_85 (e := (2, .iload 5, 0)) rfl) rfl rfl ?_
        have q690 := hO0.1 k (by omega)
        have tq690 := znt (k := v (16 + k)) (by omega)
        refine w_ialk (pc' := 33) (k := k) (ykc_85 (e := (5, .iaload, 0)) rfl) ((hf.1 (S + 3) k (by simp <;> omega) (by simp <;> omega)).trans (gv k (by omega)).2.2.1) (by omega) rfl ?_
        refine w_cv (as := [.ref 10, .ref F, .ref S, .int (zn k), .int (zn (v (16 + k)))]) (r := []) (ykc_85 (e := (6, .invokevirtual 62, 0)) rfl) rfl rfl rfl rfl (zc_reach (zCx_S hf hS) (zCx_e hf hE0) (zCx_t hf ht) hO0 (p := k) (br := v (16 + k)) (by omega) (by omega)) (fun v692 ph693 hv => ?_)
        obtain ⟨f691, rfl⟩ := hv
        have rf691 := @zRe_9 (R, C, rk, sn, sk, cn, cd) P v k (v (16 + k))
        have trf691 := znt (k := zRe (R, C, rk, sn, sk, cn, cd) P v k (v (16 + k))) (by omega)
        show zW n D 85 Q 36 [some (.ref 10), some (.ref F), some (.ref S), some (.long (zU (zVw (R, C, rk, sn, sk, cn, cd) P v) k)), none, some (.int (zn k)), x6] [.int (zn (zRe (R, C, rk, sn, sk, cn, cd) P v k (v (16 + k))))] ph693
        refine w_store (pc' := 38) (L' := [some (.ref 10), some (.ref F), some (.ref S), some (.long (zU (zVw (R, C, rk, sn, sk, cn, cd) P v) k)), none, some (.int (zn k)), some (.int (zn (zRe (R, C, rk, sn, sk, cn, cd) P v k (v (16 + k)))))]) (st' := []) (m := 2) (ykc_85 (e := (3, .istore 6, 0)) rfl) rfl rfl ?_
        refine w_load (pc' := 39) (v := .ref 10) (m := 1) (ykc_85 (e := (2, .aload_n kF0, 0)) rfl) rfl rfl ?_
        refine w_gf (pc' := 42) (v := .ref 23) (ykc_85 (e := (5, .getfield 36, 0)) rfl) rfl ((f691.1 10 6 (by first | exact zqm rfl | decide) (by first | exact zqp rfl | decide)).trans ((hf.1 10 6 (by first | exact zqm rfl | decide) (by first | exact zqp rfl | decide)).trans (zsg hS zs_10_6))) rfl ?_
        refine w_load (pc' := 44) (v := .int (zn k)) (m := 2) (ykc_85 (e := (2, .iload 5, 0)) rfl) rfl rfl ?_
        refine w_load (pc' := 45) (v := .ref 10) (m := 1) (ykc_85 (e := (2, .aload_n kF0, 0)) rfl) rfl rfl ?_
        refine w_gf (pc' := 48) (v := .ref 5) (ykc_85 (e := (5, .getfield 9, 0)) rfl) rfl ((f691.1 10 0 (by first | exact zqm rfl | decide) (by first | exact zqp rfl | decide)).trans ((hf.1 10 0 (by first | exact zqm rfl | decide) (by first | exact zqp rfl | decide)).trans (zsg hS zs_10_0))) rfl ?_
        refine w_load (pc' := 49) (v := .ref S) (m := 1) (ykc_85 (e := (2, .aload_n kF2, 0)) rfl) rfl rfl ?_
        refine w_gf (pc' := 52) (v := .ref (S + 1)) (ykc_85 (e := (5, .getfield 66, 0)) rfl) rfl ((f691.1 S 3 (by simp <;> omega) (by simp <;> omega)).trans ((hf.1 S 3 (by simp <;> omega) (by simp <;> omega)).trans r3)) rfl ?_
        refine w_load (pc' := 54) (v := .int (zn k)) (m := 2) (ykc_85 (e := (2, .iload 5, 0)) rfl) rfl rfl ?_
        have q694 := hO0.1 k (by omega)
        have tq694 := znt (k := v k) (by omega)
        refine w_ialk (pc' := 55) (k := k) (ykc_85 (e := (5, .iaload, 0)) rfl) ((f691.1 (S + 1) k (by simp <;> omega) (by simp <;> omega)).trans ((hf.1 (S + 1) k (by simp <;> omega) (by simp <;> omega)).trans (gv k (by omega)).1)) (by omega) rfl ?_
        refine w_load (pc' := 56) (v := .ref S) (m := 1) (ykc_85 (e := (2, .aload_n kF2, 0)) rfl) rfl rfl ?_
        refine w_gf (pc' := 59) (v := .ref (S + 2)) (ykc_85 (e := (5, .getfield 83, 0)) rfl) rfl ((f691.1 S 4 (by simp <;> omega) (by simp <;> omega)).trans ((hf.1 S 4 (by simp <;> omega) (by simp <;> omega)).trans r4)) rfl ?_
        refine w_load (pc' := 61) (v := .int (zn k)) (m := 2) (ykc_85 (e := (2, .iload 5, 0)) rfl) rfl rfl ?_
        have q695 := hO0.1 k (by omega)
        have tq695 := znt (k := v (8 + k)) (by omega)
        refine w_ialk (pc' := 62) (k := k) (ykc_85 (e := (5, .iaload, 0)) rfl) ((f691.1 (S + 2) k (by simp <;> omega) (by simp <;> omega)).trans ((hf.1 (S + 2) k (by simp <;> omega) (by simp <;> omega)).trans (gv k (by omega)).2.1)) (by omega) rfl ?_
        refine w_load (pc' := 63) (v := .ref S) (m := 1) (ykc_85 (e := (2, .aload_n kF2, 0)) rfl) rfl rfl ?_
        refine w_gf (pc' := 66) (v := .ref (S + 3)) (ykc_85 (e := (5, .getfield 59, 0)) rfl) rfl ((f691.1 S 5 (by simp <;> omega) (by simp <;> omega)).trans ((hf.1 S 5 (by simp <;> omega) (by simp <;> omega)).trans r5)) rfl ?_
        refine w_load (pc' := 68) (v := .int (zn k)) (m := 2) (ykc_85 (e := (2, .iload 5, 0)) rfl) rfl rfl ?_
        have q696 := hO0.1 k (by omega)
        have tq696 := znt (k := v (16 + k)) (by omega)
        refine w_ialk (pc' := 69) (k := k) (ykc_85 (e := (5, .iaload, 0)) rfl) ((f691.1 (S + 3) k (by simp <;> omega) (by simp <;> omega)).trans ((hf.1 (S + 3) k (by simp <;> omega) (by simp <;> omega)).trans (gv k (by omega)).2.2.1)) (by omega) rfl ?_
        refine w_load (pc' := 71) (v := .int (zn (zRe (R, C, rk, sn, sk, cn, cd) P v k (v (16 + k))))) (m := 2) (ykc_85 (e := (2, .iload 6, 0)) rfl) rfl rfl ?_
        refine w_cv (as := [.ref 5, .int (zn (v k)), .int (zn (v (8 + k))), .int (zn (v (16 + k))), .int (zn (zRe (R, C, rk, sn, sk, cn, cd) P v k (v (16 + k))))]) (r := [.int (zn k), .ref 23]) (ykc_85 (e := (6, .invokevirtual 115, 0)) rfl) rfl rfl rfl rfl (zc_view (zCx_S (zFr_trans hf (zCr_x f691)) hS) (zCx_l (zFr_trans hf (zCr_x f691)) hL0) (f := v k) (fc := v (8 + k)) (br := v (16 + k)) (re := zRe (R, C, rk, sn, sk, cn, cd) P v k (v (16 + k))) (zCr_c f691 hc1) (by omega) (by omega) (by omega) (by omega)) (fun v699 ph700 hv => ?_)
        obtain ⟨f697, hc698, rfl⟩ := hv
        show zW n D 85 Q 74 [some (.ref 10), some (.ref F), some (.ref S), some (.long (zU (zVw (R, C, rk, sn, sk, cn, cd) P v) k)), none, some (.int (zn k)), some (.int (zn (zRe (R, C, rk, sn, sk, cn, cd) P v k (v (16 + k)))))] [.long (zS (fun g => zsee C rk (v k) g (v (8 + k)) (v (16 + k)) (zRe (R, C, rk, sn, sk, cn, cd) P v k (v (16 + k)))) (R * C)), .int (zn k), .ref 23] ph700
        refine w_las (pc' := 75) (k := k) (ykc_85 (e := (5, .lastore, 0)) rfl) (by omega) rfl (fun ph702 u701 => ?_)
        refine w_load (pc' := 76) (v := .long (zU (zVw (R, C, rk, sn, sk, cn, cd) P v) k)) (m := 1) (ykc_85 (e := (2, .lload_n kF3, 0)) rfl) rfl rfl ?_
        refine w_load (pc' := 77) (v := .ref 10) (m := 1) (ykc_85 (e := (2, .aload_n kF0, 0)) rfl) rfl rfl ?_
        refine w_gf (pc' := 80) (v := .ref 23) (ykc_85 (e := (5, .getfield 36, 0)) rfl) rfl ((u701.2.1 10 6 (fun q => absurd q.1 (by first | exact Nat.ne_of_beq_eq_false rfl | decide))).trans ((f697.1 10 6 (by first | exact zqm rfl | decide) (by first | exact zqp rfl | decide)).trans ((f691.1 10 6 (by first | exact zqm rfl | decide) (by first | exact zqp rfl | decide)).trans ((hf.1 10 6 (by first | exact zqm rfl | decide) (by first | exact zqp rfl | decide)).trans (zsg hS zs_10_6))))) rfl ?_
        refine w_load (pc' := 82) (v := .int (zn k)) (m := 2) (ykc_85 (e := (2, .iload 5, 0)) rfl) rfl rfl ?_
        refine w_lalk (pc' := 83) (k := k) (ykc_85 (e := (5, .laload, 0)) rfl) u701.1 (by omega) rfl ?_
        refine w_alu (pc' := 84) (st' := [.long ((zU (zVw (R, C, rk, sn, sk, cn, cd) P v) k) ||| (zS (fun g => zsee C rk (v k) g (v (8 + k)) (v (16 + k)) (zRe (R, C, rk, sn, sk, cn, cd) P v k (v (16 + k)))) (R * C)))]) (ykc_85 (e := (0, .lor, 0)) rfl) rfl rfl ?_
        refine w_store (pc' := 85) (L' := [some (.ref 10), some (.ref F), some (.ref S), some (.long ((zU (zVw (R, C, rk, sn, sk, cn, cd) P v) k) ||| (zS (fun g => zsee C rk (v k) g (v (8 + k)) (v (16 + k)) (zRe (R, C, rk, sn, sk, cn, cd) P v k (v (16 + k)))) (R * C)))), none, some (.int (zn k)), some (.int (zn (zRe (R, C, rk, sn, sk, cn, cd) P v k (v (16 + k)))))]) (st' := []) (m := 1) (ykc_85 (e := (3, .lstore_n kF3, 0)) rfl) rfl rfl ?_
        have e703 : (zn k) + Int32.ofInt 1 = zn (k + 1) := (zaddN (a := k) (b := 1) (znt (by omega)) c_2 (by omega))
        have te703 := znt (k := k + 1) (by omega)
        refine w_store (pc' := 88) (L' := [some (.ref 10), some (.ref F), some (.ref S), some (.long ((zU (zVw (R, C, rk, sn, sk, cn, cd) P v) k) ||| (zS (fun g => zsee C rk (v k) g (v (8 + k)) (v (16 + k)) (zRe (R, C, rk, sn, sk, cn, cd) P v k (v (16 + k)))) (R * C)))), none, some (.int (zn (k + 1))), some (.int (zn (zRe (R, C, rk, sn, sk, cn, cd) P v k (v (16 + k)))))]) (st' := []) (m := 3) (ykc_85 (e := (3, .iinc 5 1, 0)) rfl) (by rw [← e703]; rfl) rfl ?_
        refine w_gb (ykc_85 (e := (4, .goto (-83), 5)) rfl) (fun k704 hk704 => ?_)
        have e1 : zVw (R, C, rk, sn, sk, cn, cd) P v k = zS (fun g => zsee C rk (v k) g (v (8 + k)) (v (16 + k)) (zRe (R, C, rk, sn, sk, cn, cd) P v k (v (16 + k)))) (R * C) := rfl
        exact ih k704 hk704 (k + 1) _ _ (by omega) (zFr_trans (zFr_trans (zFr_trans hf (zCr_x f691)) (zCy_x f697)) (zFr_st u701 (Or.inl (by first | exact zqi rfl | simp)))) (zCc_F (A := [23]) (F := []) (zFr_st u701 (Or.inl (by first | exact zqi rfl | simp))) (by simp) (by simp) (by simp) hc698) (fun i hi => by
          by_cases e : i = k
          · subst e
            exact u701.1
          · exact (u701.2.1 23 i (fun q => e q.2)).trans ((f697.1 23 i (by first | exact zqm rfl | decide) (by first | exact zqp rfl | simp)).trans ((f691.1 23 i (by first | exact zqm rfl | decide) (by first | exact zqp rfl | simp)).trans (hvw i (by omega)))))
  exact hl n 0 none ph (Nat.zero_le _) zFr_refl hc (fun i hi => absurd hi (Nat.not_lt_zero i))
theorem zVw_b {E : zEn} {P p g : Nat} {v : Nat → Nat} (hn : E.1 * E.2.1 ≤ 64) (hg : g < E.1 * E.2.1) : zb (zVw E P v p) g = zSv E P v p g := by
  unfold zVw
  rw [zS_b hn (by omega), decide_eq_true hg, Bool.true_and]
theorem zc_meet {ph : pm_H} {E : zEn} {F S P G : Nat} {v : Nat → Nat} (hS : zSh ph) (hE : zCe ph E F) (ht : zCt ph S P G v) (hO : zOk E.1 E.2.1 P G v) (hvw : ∀ i, i < P → zc ph 23 i = some (.long (zVw E P v i))) {a b : Nat} (ha : a < P) (hb : b < P) : zM 89 [.ref 10, .ref S, .int (zn a), .int (zn b)] ph (fun v0 q => ph = q ∧ v0 = some (.int (zI (zMeet E P v a b)))) := by
  obtain ⟨Q, hQ⟩ : ∃ Q : Option Value → pm_H → Prop, Q = (fun v0 q => ph = q ∧ v0 = some (.int (zI (zMeet E P v a b)))) := ⟨_, rfl⟩
  rw [← hQ]
  refine zM_mk fun n D => ?_
  show zW n D 89 Q 0 [some (.ref 10), some (.ref S), some (.int (zn a)), some (.int (zn b))] [] ph
  have c_0 : (Int32.ofInt 0).toInt = 0 := by decide +kernel
  have c_1 : (Int32.ofInt 1).toInt = 1 := by decide +kernel
  obtain ⟨R, C, rk, sn, sk, cn, cd⟩ := E
  have hL0 : zCl ph R C rk := hE.1
  have hi0 : zCi ph sn sk := hE.2.1
  have hF : F = 11 ∨ F = 16 := hE.2.2.2
  have hE0 : zCe ph (R, C, rk, sn, sk, cn, cd) F := hE
  have hO0 : zOk R C P G v := hO
  have hL := hL0
  have hs := ht.1.2
  have hd := ht.2
  have h25 := ht.1.1
  obtain ⟨gR, gC, gN, gK, gA, hR3, hR7, hC3, hC7⟩ := hL
  have hRC := zRC49 hR7 hC7
  have tR := znt (k := R) (by omega)
  have tC := znt (k := C) (by omega)
  have tRC := znt (k := R * C) (by omega)
  have hd0 := hd
  have hs0 := hs
  obtain ⟨r3, r4, r5, r6, r7, l1, l2, l3, l4, l5⟩ := hs
  obtain ⟨gP, hP8, gG, hG8, gH, gv, gw⟩ := hd
  have tP := znt (k := P) (by omega)
  have tG := znt (k := G) (by omega)
  have h40 := hO0.2.2
  have t40 := znt (k := v 40) (by omega)
  have ta := znt (k := a) (by omega)
  have tb := znt (k := b) (by omega)
  refine w_load (pc' := 1) (v := .ref S) (m := 1) (ykc_89 (e := (2, .aload_n kF1, 0)) rfl) rfl rfl ?_
  refine w_load (pc' := 2) (v := .int (zn a)) (m := 1) (ykc_89 (e := (2, .iload_n kF2, 0)) rfl) rfl rfl ?_
  refine w_cv (as := [.ref S, .int (zn a)]) (r := []) (ykc_89 (e := (6, .invokevirtual 53, 0)) rfl) rfl rfl rfl rfl (zc_hasP ht.1.2 ht.2 (i := (zn a))) (fun v705 ph706 hv => ?_)
  obtain ⟨rfl, rfl⟩ := hv
  show zW n D 89 Q 5 [some (.ref 10), some (.ref S), some (.int (zn a)), some (.int (zn b))] [.int (zI (decide (0 ≤ (zn a).toInt ∧ (zn a).toInt < ((P : Nat) : Int))))] ph
  refine w_beq (ykc_89 (e := (4, .ifCond .eq 11, 16)) rfl) rfl (fun q => by have := of_decide_eq_false q; omega) (fun b707 => ?_)
  refine w_load (pc' := 9) (v := .ref S) (m := 1) (ykc_89 (e := (2, .aload_n kF1, 0)) rfl) rfl rfl ?_
  refine w_load (pc' := 10) (v := .int (zn b)) (m := 1) (ykc_89 (e := (2, .iload_n kF3, 0)) rfl) rfl rfl ?_
  refine w_cv (as := [.ref S, .int (zn b)]) (r := []) (ykc_89 (e := (6, .invokevirtual 53, 0)) rfl) rfl rfl rfl rfl (zc_hasP ht.1.2 ht.2 (i := (zn b))) (fun v708 ph709 hv => ?_)
  obtain ⟨rfl, rfl⟩ := hv
  show zW n D 89 Q 13 [some (.ref 10), some (.ref S), some (.int (zn a)), some (.int (zn b))] [.int (zI (decide (0 ≤ (zn b).toInt ∧ (zn b).toInt < ((P : Nat) : Int))))] ph
  refine w_bne (ykc_89 (e := (4, .ifCond .ne 5, 18)) rfl) rfl (fun b710 => ?_) (fun q => by have := of_decide_eq_false q; omega)
  refine w_load (pc' := 19) (v := .ref 10) (m := 1) (ykc_89 (e := (2, .aload_n kF0, 0)) rfl) rfl rfl ?_
  refine w_gf (pc' := 22) (v := .ref 23) (ykc_89 (e := (5, .getfield 36, 0)) rfl) rfl (zsg hS zs_10_6) rfl ?_
  refine w_load (pc' := 23) (v := .int (zn a)) (m := 1) (ykc_89 (e := (2, .iload_n kF2, 0)) rfl) rfl rfl ?_
  refine w_lalk (pc' := 24) (k := a) (ykc_89 (e := (5, .laload, 0)) rfl) (hvw a (by omega)) (by omega) rfl ?_
  refine w_load (pc' := 25) (v := .ref S) (m := 1) (ykc_89 (e := (2, .aload_n kF1, 0)) rfl) rfl rfl ?_
  refine w_gf (pc' := 28) (v := .ref (S + 1)) (ykc_89 (e := (5, .getfield 66, 0)) rfl) rfl r3 rfl ?_
  refine w_load (pc' := 29) (v := .int (zn b)) (m := 1) (ykc_89 (e := (2, .iload_n kF3, 0)) rfl) rfl rfl ?_
  have q711 := hO0.1 b (by omega)
  have tq711 := znt (k := v b) (by omega)
  refine w_ialk (pc' := 30) (k := b) (ykc_89 (e := (5, .iaload, 0)) rfl) (gv b (by omega)).1 (by omega) rfl ?_
  refine w_cs (as := [.long (zVw (R, C, rk, sn, sk, cn, cd) P v a), .int (zn (v b))]) (r := []) (ykc_89 (e := (6, .invokestatic 125, 0)) rfl) rfl rfl rfl rfl (zc_has (kn := v b) (by omega) (by omega)) (fun v712 ph713 hv => ?_)
  obtain ⟨rfl, rfl⟩ := hv
  rw [zVw_b (show R * C ≤ 64 by omega) (show v b < R * C by omega)]
  show zW n D 89 Q 33 [some (.ref 10), some (.ref S), some (.int (zn a)), some (.int (zn b))] [.int (zI (zSv (R, C, rk, sn, sk, cn, cd) P v a (v b)))] ph
  refine w_beq (ykc_89 (e := (4, .ifCond .eq 25, 58)) rfl) rfl (fun b714 => ?_) (fun b714 => ?_)
  · refine w_alu (pc' := 59) (st' := [.int (Int32.ofInt 0)]) (ykc_89 (e := (0, .iconst 0, 0)) rfl) rfl rfl ?_
    refine w_ret (v := (some (.int (Int32.ofInt 0)))) (ykc_89 (e := (7, .ireturn, 0)) rfl) zr_z ?_
    rw [hQ, zi0]
    exact ⟨rfl, zvB (by unfold zMeet; simp [b714])⟩
  · refine w_load (pc' := 37) (v := .ref 10) (m := 1) (ykc_89 (e := (2, .aload_n kF0, 0)) rfl) rfl rfl ?_
    refine w_gf (pc' := 40) (v := .ref 23) (ykc_89 (e := (5, .getfield 36, 0)) rfl) rfl (zsg hS zs_10_6) rfl ?_
    refine w_load (pc' := 41) (v := .int (zn b)) (m := 1) (ykc_89 (e := (2, .iload_n kF3, 0)) rfl) rfl rfl ?_
    refine w_lalk (pc' := 42) (k := b) (ykc_89 (e := (5, .laload, 0)) rfl) (hvw b (by omega)) (by omega) rfl ?_
    refine w_load (pc' := 43) (v := .ref S) (m := 1) (ykc_89 (e := (2, .aload_n kF1, 0)) rfl) rfl rfl ?_
    refine w_gf (pc' := 46) (v := .ref (S + 1)) (ykc_89 (e := (5, .getfield 66, 0)) rfl) rfl r3 rfl ?_
    refine w_load (pc' := 47) (v := .int (zn a)) (m := 1) (ykc_89 (e := (2, .iload_n kF2, 0)) rfl) rfl rfl ?_
    have q715 := hO0.1 a (by omega)
    have tq715 := znt (k := v a) (by omega)
    refine w_ialk (pc' := 48) (k := a) (ykc_89 (e := (5, .iaload, 0)) rfl) (gv a (by omega)).1 (by omega) rfl ?_
    refine w_cs (as := [.long (zVw (R, C, rk, sn, sk, cn, cd) P v b), .int (zn (v a))]) (r := []) (ykc_89 (e := (6, .invokestatic 125, 0)) rfl) rfl rfl rfl rfl (zc_has (kn := v a) (by omega) (by omega)) (fun v716 ph717 hv => ?_)
    obtain ⟨rfl, rfl⟩ := hv
    rw [zVw_b (show R * C ≤ 64 by omega) (show v a < R * C by omega)]
    show zW n D 89 Q 51 [some (.ref 10), some (.ref S), some (.int (zn a)), some (.int (zn b))] [.int (zI (zSv (R, C, rk, sn, sk, cn, cd) P v b (v a)))] ph
    refine w_beq (ykc_89 (e := (4, .ifCond .eq 7, 58)) rfl) rfl (fun b718 => ?_) (fun b718 => ?_)
    · refine w_alu (pc' := 59) (st' := [.int (Int32.ofInt 0)]) (ykc_89 (e := (0, .iconst 0, 0)) rfl) rfl rfl ?_
      refine w_ret (v := (some (.int (Int32.ofInt 0)))) (ykc_89 (e := (7, .ireturn, 0)) rfl) zr_z ?_
      rw [hQ, zi0]
      exact ⟨rfl, zvB (by unfold zMeet; simp [b714, b718])⟩
    · refine w_alu (pc' := 55) (st' := [.int (Int32.ofInt 1)]) (ykc_89 (e := (0, .iconst 1, 0)) rfl) rfl rfl ?_
      refine w_br (pc' := 59) (st' := [.int (Int32.ofInt 1)]) (ykc_89 (e := (4, .goto 4, 59)) rfl) rfl ?_
      refine w_ret (v := (some (.int (Int32.ofInt 1)))) (ykc_89 (e := (7, .ireturn, 0)) rfl) zr_z ?_
      rw [hQ, zi1]
      exact ⟨rfl, zvB (by unfold zMeet; simp [b714, b718])⟩
theorem zc_tell {ph : pm_H} {E : zEn} {F S P G : Nat} {v : Nat → Nat} (hS : zSh ph) (hE : zCe ph E F) (ht : zCt ph S P G v) (hO : zOk E.1 E.2.1 P G v) (hvw : ∀ i, i < P → zc ph 23 i = some (.long (zVw E P v i))) {a b : Nat} (ha : a < P) (hb : b < P) : zM 90 [.ref 10, .ref S, .int (zn a), .int (zn b)] ph (fun v0 q => ph = q ∧ v0 = some (.int (zI (zTell E P v a b)))) := by
  obtain ⟨Q, hQ⟩ : ∃ Q : Option Value → pm_H → Prop, Q = (fun v0 q => ph = q ∧ v0 = some (.int (zI (zTell E P v a b)))) := ⟨_, rfl⟩
  rw [← hQ]
  refine zM_mk fun n D => ?_
  show zW n D 90 Q 0 [some (.ref 10), some (.ref S), some (.int (zn a)), some (.int (zn b)), none, none] [] ph
  have c_0 : (Int32.ofInt 0).toInt = 0 := by decide +kernel
  have c_1 : (Int32.ofInt 1).toInt = 1 := by decide +kernel
  obtain ⟨R, C, rk, sn, sk, cn, cd⟩ := E
  have hL0 : zCl ph R C rk := hE.1
  have hi0 : zCi ph sn sk := hE.2.1
  have hF : F = 11 ∨ F = 16 := hE.2.2.2
  have hE0 : zCe ph (R, C, rk, sn, sk, cn, cd) F := hE
  have hO0 : zOk R C P G v := hO
  have hL := hL0
  have hs := ht.1.2
  have hd := ht.2
  have h25 := ht.1.1
  obtain ⟨gR, gC, gN, gK, gA, hR3, hR7, hC3, hC7⟩ := hL
  have hRC := zRC49 hR7 hC7
  have tR := znt (k := R) (by omega)
  have tC := znt (k := C) (by omega)
  have tRC := znt (k := R * C) (by omega)
  have hd0 := hd
  have hs0 := hs
  obtain ⟨r3, r4, r5, r6, r7, l1, l2, l3, l4, l5⟩ := hs
  obtain ⟨gP, hP8, gG, hG8, gH, gv, gw⟩ := hd
  have tP := znt (k := P) (by omega)
  have tG := znt (k := G) (by omega)
  have h40 := hO0.2.2
  have t40 := znt (k := v 40) (by omega)
  have ta := znt (k := a) (by omega)
  have tb := znt (k := b) (by omega)
  refine w_load (pc' := 1) (v := .ref 10) (m := 1) (ykc_90 (e := (2, .aload_n kF0, 0)) rfl) rfl rfl ?_
  refine w_load (pc' := 2) (v := .ref S) (m := 1) (ykc_90 (e := (2, .aload_n kF1, 0)) rfl) rfl rfl ?_
  refine w_load (pc' := 3) (v := .int (zn a)) (m := 1) (ykc_90 (e := (2, .iload_n kF2, 0)) rfl) rfl rfl ?_
  refine w_load (pc' := 4) (v := .int (zn b)) (m := 1) (ykc_90 (e := (2, .iload_n kF3, 0)) rfl) rfl rfl ?_
  refine w_cv (as := [.ref 10, .ref S, .int (zn a), .int (zn b)]) (r := []) (ykc_90 (e := (6, .invokevirtual 129, 0)) rfl) rfl rfl rfl rfl (zc_meet hS hE0 ht hO0 hvw (a := a) (b := b) (by omega) (by omega)) (fun v719 ph720 hv => ?_)
  obtain ⟨rfl, rfl⟩ := hv
  show zW n D 90 Q 7 [some (.ref 10), some (.ref S), some (.int (zn a)), some (.int (zn b)), none, none] [.int (zI (zMeet (R, C, rk, sn, sk, cn, cd) P v a b))] ph
  refine w_bne (ykc_90 (e := (4, .ifCond .ne 5, 12)) rfl) rfl (fun b721 => ?_) (fun b721 => ?_)
  · refine w_load (pc' := 13) (v := .ref 10) (m := 1) (ykc_90 (e := (2, .aload_n kF0, 0)) rfl) rfl rfl ?_
    refine w_gf (pc' := 16) (v := .ref 5) (ykc_90 (e := (5, .getfield 9, 0)) rfl) rfl (zsg hS zs_10_0) rfl ?_
    refine w_load (pc' := 17) (v := .ref S) (m := 1) (ykc_90 (e := (2, .aload_n kF1, 0)) rfl) rfl rfl ?_
    refine w_gf (pc' := 20) (v := .ref (S + 1)) (ykc_90 (e := (5, .getfield 66, 0)) rfl) rfl r3 rfl ?_
    refine w_load (pc' := 21) (v := .int (zn a)) (m := 1) (ykc_90 (e := (2, .iload_n kF2, 0)) rfl) rfl rfl ?_
    have q722 := hO0.1 a (by omega)
    have tq722 := znt (k := v a) (by omega)
    refine w_ialk (pc' := 22) (k := a) (ykc_90 (e := (5, .iaload, 0)) rfl) (gv a (by omega)).1 (by omega) rfl ?_
    refine w_cv (as := [.ref 5, .int (zn (v a))]) (r := []) (ykc_90 (e := (6, .invokevirtual 86, 0)) rfl) rfl rfl rfl rfl (zc_rowOf hS hL0 (f := v a) (by omega)) (fun v724 ph725 hv => ?_)
    obtain ⟨rfl, rfl⟩ := hv
    have q723 : v a < R * C := by omega
    have mq723 : (v a) / C < R := (Nat.div_lt_iff_lt_mul (by omega)).mpr q723
    have zq723 := Nat.zero_le ((v a) / C)
    have tq723 := znt (k := (v a) / C) (by omega)
    show zW n D 90 Q 25 [some (.ref 10), some (.ref S), some (.int (zn a)), some (.int (zn b)), none, none] [.int (zn ((v a) / C))] ph
    refine w_load (pc' := 26) (v := .ref 10) (m := 1) (ykc_90 (e := (2, .aload_n kF0, 0)) rfl) rfl rfl ?_
    refine w_gf (pc' := 29) (v := .ref 5) (ykc_90 (e := (5, .getfield 9, 0)) rfl) rfl (zsg hS zs_10_0) rfl ?_
    refine w_load (pc' := 30) (v := .ref S) (m := 1) (ykc_90 (e := (2, .aload_n kF1, 0)) rfl) rfl rfl ?_
    refine w_gf (pc' := 33) (v := .ref (S + 1)) (ykc_90 (e := (5, .getfield 66, 0)) rfl) rfl r3 rfl ?_
    refine w_load (pc' := 34) (v := .int (zn b)) (m := 1) (ykc_90 (e := (2, .iload_n kF3, 0)) rfl) rfl rfl ?_
    have q726 := hO0.1 b (by omega)
    have tq726 := znt (k := v b) (by omega)
    refine w_ialk (pc' := 35) (k := b) (ykc_90 (e := (5, .iaload, 0)) rfl) (gv b (by omega)).1 (by omega) rfl ?_
    refine w_cv (as := [.ref 5, .int (zn (v b))]) (r := [.int (zn ((v a) / C))]) (ykc_90 (e := (6, .invokevirtual 86, 0)) rfl) rfl rfl rfl rfl (zc_rowOf hS hL0 (f := v b) (by omega)) (fun v728 ph729 hv => ?_)
    obtain ⟨rfl, rfl⟩ := hv
    have q727 : v b < R * C := by omega
    have mq727 : (v b) / C < R := (Nat.div_lt_iff_lt_mul (by omega)).mpr q727
    have zq727 := Nat.zero_le ((v b) / C)
    have tq727 := znt (k := (v b) / C) (by omega)
    show zW n D 90 Q 38 [some (.ref 10), some (.ref S), some (.int (zn a)), some (.int (zn b)), none, none] [.int (zn ((v b) / C)), .int (zn ((v a) / C))] ph
    obtain ⟨z730, e_z730, h_z730⟩ : ∃ zq : Int32, (zn ((v a) / C)) - (zn ((v b) / C)) = zq ∧ zq.toInt = (((v a) / C : Nat) : Int) - (((v b) / C : Nat) : Int) := ⟨_, rfl, (by have := ti_sub (x := (zn ((v a) / C))) (y := (zn ((v b) / C))) (by omega) (by omega); omega)⟩
    refine w_alu (pc' := 39) (st' := [.int z730]) (ykc_90 (e := (0, .isub, 0)) rfl) (by rw [← e_z730]; rfl) rfl ?_
    refine w_store (pc' := 41) (L' := [some (.ref 10), some (.ref S), some (.int (zn a)), some (.int (zn b)), some (.int z730), none]) (st' := []) (m := 2) (ykc_90 (e := (3, .istore 4, 0)) rfl) rfl rfl ?_
    refine w_load (pc' := 42) (v := .ref 10) (m := 1) (ykc_90 (e := (2, .aload_n kF0, 0)) rfl) rfl rfl ?_
    refine w_gf (pc' := 45) (v := .ref 5) (ykc_90 (e := (5, .getfield 9, 0)) rfl) rfl (zsg hS zs_10_0) rfl ?_
    refine w_load (pc' := 46) (v := .ref S) (m := 1) (ykc_90 (e := (2, .aload_n kF1, 0)) rfl) rfl rfl ?_
    refine w_gf (pc' := 49) (v := .ref (S + 1)) (ykc_90 (e := (5, .getfield 66, 0)) rfl) rfl r3 rfl ?_
    refine w_load (pc' := 50) (v := .int (zn a)) (m := 1) (ykc_90 (e := (2, .iload_n kF2, 0)) rfl) rfl rfl ?_
    have q731 := hO0.1 a (by omega)
    have tq731 := znt (k := v a) (by omega)
    refine w_ialk (pc' := 51) (k := a) (ykc_90 (e := (5, .iaload, 0)) rfl) (gv a (by omega)).1 (by omega) rfl ?_
    refine w_cv (as := [.ref 5, .int (zn (v a))]) (r := []) (ykc_90 (e := (6, .invokevirtual 91, 0)) rfl) rfl rfl rfl rfl (zc_colOf hS hL0 (f := v a) (by omega)) (fun v733 ph734 hv => ?_)
    obtain ⟨rfl, rfl⟩ := hv
    have q732 : v a < R * C := by omega
    have mq732 := Nat.mod_lt (v a) (show 0 < C by omega)
    have zq732 := Nat.zero_le ((v a) % C)
    have tq732 := znt (k := (v a) % C) (by omega)
    show zW n D 90 Q 54 [some (.ref 10), some (.ref S), some (.int (zn a)), some (.int (zn b)), some (.int z730), none] [.int (zn ((v a) % C))] ph
    refine w_load (pc' := 55) (v := .ref 10) (m := 1) (ykc_90 (e := (2, .aload_n kF0, 0)) rfl) rfl rfl ?_
    refine w_gf (pc' := 58) (v := .ref 5) (ykc_90 (e := (5, .getfield 9, 0)) rfl) rfl (zsg hS zs_10_0) rfl ?_
    refine w_load (pc' := 59) (v := .ref S) (m := 1) (ykc_90 (e := (2, .aload_n kF1, 0)) rfl) rfl rfl ?_
    refine w_gf (pc' := 62) (v := .ref (S + 1)) (ykc_90 (e := (5, .getfield 66, 0)) rfl) rfl r3 rfl ?_
    refine w_load (pc' := 63) (v := .int (zn b)) (m := 1) (ykc_90 (e := (2, .iload_n kF3, 0)) rfl) rfl rfl ?_
    have q735 := hO0.1 b (by omega)
    have tq735 := znt (k := v b) (by omega)
    refine w_ialk (pc' := 64) (k := b) (ykc_90 (e := (5, .iaload, 0)) rfl) (gv b (by omega)).1 (by omega) rfl ?_
    refine w_cv (as := [.ref 5, .int (zn (v b))]) (r := [.int (zn ((v a) % C))]) (ykc_90 (e := (6, .invokevirtual 91, 0)) rfl) rfl rfl rfl rfl (zc_colOf hS hL0 (f := v b) (by omega)) (fun v737 ph738 hv => ?_)
    obtain ⟨rfl, rfl⟩ := hv
    have q736 : v b < R * C := by omega
    have mq736 := Nat.mod_lt (v b) (show 0 < C by omega)
    have zq736 := Nat.zero_le ((v b) % C)
    have tq736 := znt (k := (v b) % C) (by omega)
    show zW n D 90 Q 67 [some (.ref 10), some (.ref S), some (.int (zn a)), some (.int (zn b)), some (.int z730), none] [.int (zn ((v b) % C)), .int (zn ((v a) % C))] ph
    obtain ⟨z739, e_z739, h_z739⟩ : ∃ zq : Int32, (zn ((v a) % C)) - (zn ((v b) % C)) = zq ∧ zq.toInt = (((v a) % C : Nat) : Int) - (((v b) % C : Nat) : Int) := ⟨_, rfl, (by have := ti_sub (x := (zn ((v a) % C))) (y := (zn ((v b) % C))) (by omega) (by omega); omega)⟩
    refine w_alu (pc' := 68) (st' := [.int z739]) (ykc_90 (e := (0, .isub, 0)) rfl) (by rw [← e_z739]; rfl) rfl ?_
    refine w_store (pc' := 70) (L' := [some (.ref 10), some (.ref S), some (.int (zn a)), some (.int (zn b)), some (.int z730), some (.int z739)]) (st' := []) (m := 2) (ykc_90 (e := (3, .istore 5, 0)) rfl) rfl rfl ?_
    refine w_load (pc' := 72) (v := .int z730) (m := 2) (ykc_90 (e := (2, .iload 4, 0)) rfl) rfl rfl ?_
    obtain ⟨z740, e_z740⟩ : ∃ zq : Int32, (if 0 ≤ z730 then z730 else 0 - z730) = zq := ⟨_, rfl⟩
    have h_z740 := zabsI e_z740
    refine w_mem1 (pc' := 75) (m := 3) (st' := [.int z740]) (ph' := ph) (ykc_90 (e := (5, .invokestatic 133, 0)) rfl) (by rw [← e_z740]; rfl) rfl ?_
    refine w_alu (pc' := 76) (st' := [.int (Int32.ofInt 1), .int z740]) (ykc_90 (e := (0, .iconst 1, 0)) rfl) rfl rfl ?_
    refine w_igt (ykc_90 (e := (4, .if_icmp .gt 16, 92)) rfl) rfl (fun b741 => ?_) (fun b741 => ?_)
    · refine w_alu (pc' := 93) (st' := [.int (Int32.ofInt 0)]) (ykc_90 (e := (0, .iconst 0, 0)) rfl) rfl rfl ?_
      refine w_ret (v := (some (.int (Int32.ofInt 0)))) (ykc_90 (e := (7, .ireturn, 0)) rfl) zr_z ?_
      have nr : zNear C (v a) (v b) = false := decide_eq_false (by omega)
      rw [hQ, zi0]
      exact ⟨rfl, zvB (by unfold zTell; rw [b721]; show _ = (zNear C (v a) (v b) && true); rw [nr]; rfl)⟩
    · refine w_load (pc' := 81) (v := .int z739) (m := 2) (ykc_90 (e := (2, .iload 5, 0)) rfl) rfl rfl ?_
      obtain ⟨z742, e_z742⟩ : ∃ zq : Int32, (if 0 ≤ z739 then z739 else 0 - z739) = zq := ⟨_, rfl⟩
      have h_z742 := zabsI e_z742
      refine w_mem1 (pc' := 84) (m := 3) (st' := [.int z742]) (ph' := ph) (ykc_90 (e := (5, .invokestatic 133, 0)) rfl) (by rw [← e_z742]; rfl) rfl ?_
      refine w_alu (pc' := 85) (st' := [.int (Int32.ofInt 1), .int z742]) (ykc_90 (e := (0, .iconst 1, 0)) rfl) rfl rfl ?_
      refine w_igt (ykc_90 (e := (4, .if_icmp .gt 7, 92)) rfl) rfl (fun b743 => ?_) (fun b743 => ?_)
      · refine w_alu (pc' := 93) (st' := [.int (Int32.ofInt 0)]) (ykc_90 (e := (0, .iconst 0, 0)) rfl) rfl rfl ?_
        refine w_ret (v := (some (.int (Int32.ofInt 0)))) (ykc_90 (e := (7, .ireturn, 0)) rfl) zr_z ?_
        have nr : zNear C (v a) (v b) = false := decide_eq_false (by omega)
        rw [hQ, zi0]
        exact ⟨rfl, zvB (by unfold zTell; rw [b721]; show _ = (zNear C (v a) (v b) && true); rw [nr]; rfl)⟩
      · refine w_alu (pc' := 89) (st' := [.int (Int32.ofInt 1)]) (ykc_90 (e := (0, .iconst 1, 0)) rfl) rfl rfl ?_
        refine w_br (pc' := 93) (st' := [.int (Int32.ofInt 1)]) (ykc_90 (e := (4, .goto 4, 93)) rfl) rfl ?_
        refine w_ret (v := (some (.int (Int32.ofInt 1)))) (ykc_90 (e := (7, .ireturn, 0)) rfl) zr_z ?_
        have nr : zNear C (v a) (v b) = true := decide_eq_true (by omega)
        rw [hQ, zi1]
        exact ⟨rfl, zvB (by unfold zTell; rw [b721]; show _ = (zNear C (v a) (v b) && true); rw [nr]; rfl)⟩
  · refine w_alu (pc' := 11) (st' := [.int (Int32.ofInt 0)]) (ykc_90 (e := (0, .iconst 0, 0)) rfl) rfl rfl ?_
    refine w_ret (v := (some (.int (Int32.ofInt 0)))) (ykc_90 (e := (7, .ireturn, 0)) rfl) zr_z ?_
    rw [hQ, zi0]
    exact ⟨rfl, zvB (by unfold zTell; rw [b721]; simp)⟩
/-- what one KNOWS an HOUR later, as the class reckons it -/
noncomputable def zLi (E : zEn) (P G : Nat) (v : Nat → Nat) (p : Nat) : Nat → Nat
  | 0 => zHb E P G v p
  | k + 1 => bif zTell E P v p k then zLi E P G v p k ||| v (24 + k) else zLi E P G v p k
theorem zLi_lt {E : zEn} {P G : Nat} {v : Nat → Nat} {p : Nat} (hv : ∀ i, i < P → v (24 + i) < 256) (hp : p < P) (hG : G ≤ 8) : ∀ k, k ≤ P → zLi E P G v p k < 256 := by
  intro k
  induction k with
  | zero => intro _; exact zHb_lt (hv p hp) hG
  | succ k ih =>
    intro hk
    unfold zLi
    cases zTell E P v p k with
    | true => exact zor_lt (ih (by omega)) (hv k (by omega))
    | false => exact ih (by omega)
noncomputable def zHq (E : zEn) (P G : Nat) (v : Nat → Nat) (i : Nat) : Nat := if 24 ≤ i ∧ i < 24 + P then zLi E P G v (i - 24) P else if i = 40 then v 40 + 1 else v i
theorem znew {a b : Nat} (ha : a < 256) (hb : b < 256) (h : (zn a &&& (zn b ^^^ Int32.ofInt (-1))).toInt = 0) : b ||| a = b := by
  have e : zn a &&& (zn b ^^^ Int32.ofInt (-1)) = 0 := Int32.toInt_inj.mp h
  have e2 : zn b ||| zn a = zn b := zd_ext fun k hk => by
    have h3 : zd (zn a &&& (zn b ^^^ Int32.ofInt (-1))) k = false := by rw [e]; simp [zd]
    have h4 : ∀ k, k < 32 → zd (Int32.ofInt (-1)) k = true := by decide
    rw [zd_and, zd_xor, h4 k hk] at h3
    rw [zd_or]
    cases ha : zd (zn a) k <;> cases hb : zd (zn b) k <;> simp [ha, hb] at h3 ⊢
  rw [zor_n hb ha] at e2
  exact zn_inj e2 (by have := zor_lt hb ha; omega) (by omega)
theorem zc_learn {ph : pm_H} {E : zEn} {F S P G : Nat} {v : Nat → Nat} (hS : zSh ph) (hE : zCe ph E F) (ht : zCt ph S P G v) (hO : zOk E.1 E.2.1 P G v) (hvw : ∀ i, i < P → zc ph 23 i = some (.long (zVw E P v i))) {p : Nat} (hp : p < P) : zM 93 [.ref 10, .ref S, .int (zn p)] ph (fun v0 q => ph = q ∧ v0 = some (.int (zn (zLi E P G v p P)))) := by
  obtain ⟨Q, hQ⟩ : ∃ Q : Option Value → pm_H → Prop, Q = (fun v0 q => ph = q ∧ v0 = some (.int (zn (zLi E P G v p P)))) := ⟨_, rfl⟩
  rw [← hQ]
  refine zM_mk fun n D => ?_
  show zW n D 93 Q 0 [some (.ref 10), some (.ref S), some (.int (zn p)), none, none] [] ph
  have c_0 : ((Int8.ofInt 8).toInt32).toInt = 8 := by decide +kernel
  have c_1 : (Int32.ofInt (-1)).toInt = -1 := by decide +kernel
  have c_2 : (Int32.ofInt 0).toInt = 0 := by decide +kernel
  have c_3 : (Int32.ofInt 1).toInt = 1 := by decide +kernel
  obtain ⟨R, C, rk, sn, sk, cn, cd⟩ := E
  have hL0 : zCl ph R C rk := hE.1
  have hi0 : zCi ph sn sk := hE.2.1
  have hF : F = 11 ∨ F = 16 := hE.2.2.2
  have hE0 : zCe ph (R, C, rk, sn, sk, cn, cd) F := hE
  have hO0 : zOk R C P G v := hO
  have hL := hL0
  have hs := ht.1.2
  have hd := ht.2
  have h25 := ht.1.1
  obtain ⟨gR, gC, gN, gK, gA, hR3, hR7, hC3, hC7⟩ := hL
  have hRC := zRC49 hR7 hC7
  have tR := znt (k := R) (by omega)
  have tC := znt (k := C) (by omega)
  have tRC := znt (k := R * C) (by omega)
  have hd0 := hd
  have hs0 := hs
  obtain ⟨r3, r4, r5, r6, r7, l1, l2, l3, l4, l5⟩ := hs
  obtain ⟨gP, hP8, gG, hG8, gH, gv, gw⟩ := hd
  have tP := znt (k := P) (by omega)
  have tG := znt (k := G) (by omega)
  have h40 := hO0.2.2
  have t40 := znt (k := v 40) (by omega)
  have tp := znt (k := p) (by omega)
  have hv256 : ∀ i, i < P → v (24 + i) < 256 := fun i hi => (hO0.1 i hi).2.2.2
  refine w_load (pc' := 1) (v := .ref S) (m := 1) (ykc_93 (e := (2, .aload_n kF1, 0)) rfl) rfl rfl ?_
  refine w_gf (pc' := 4) (v := .ref (S + 4)) (ykc_93 (e := (5, .getfield 75, 0)) rfl) rfl r6 rfl ?_
  refine w_load (pc' := 5) (v := .int (zn p)) (m := 1) (ykc_93 (e := (2, .iload_n kF2, 0)) rfl) rfl rfl ?_
  have q744 := hO0.1 p (by omega)
  have tq744 := znt (k := v (24 + p)) (by omega)
  refine w_ialk (pc' := 6) (k := p) (ykc_93 (e := (5, .iaload, 0)) rfl) (gv p (by omega)).2.2.2 (by omega) rfl ?_
  refine w_load (pc' := 7) (v := .ref S) (m := 1) (ykc_93 (e := (2, .aload_n kF1, 0)) rfl) rfl rfl ?_
  refine w_load (pc' := 8) (v := .ref 10) (m := 1) (ykc_93 (e := (2, .aload_n kF0, 0)) rfl) rfl rfl ?_
  refine w_gf (pc' := 11) (v := .ref 23) (ykc_93 (e := (5, .getfield 36, 0)) rfl) rfl (zsg hS zs_10_6) rfl ?_
  refine w_load (pc' := 12) (v := .int (zn p)) (m := 1) (ykc_93 (e := (2, .iload_n kF2, 0)) rfl) rfl rfl ?_
  refine w_lalk (pc' := 13) (k := p) (ykc_93 (e := (5, .laload, 0)) rfl) (hvw p (by omega)) (by omega) rfl ?_
  refine w_cv (as := [.ref S, .long (zVw (R, C, rk, sn, sk, cn, cd) P v p)]) (r := [.int (zn (v (24 + p)))]) (ykc_93 (e := (6, .invokevirtual 146, 0)) rfl) rfl rfl rfl rfl (zc_ton ht.1.2 ht.2 (x := zVw (R, C, rk, sn, sk, cn, cd) P v p) (fun i hi => by have := hO0.2.1 i hi; omega)) (fun v745 ph746 hv => ?_)
  obtain ⟨rfl, rfl⟩ := hv
  show zW n D 93 Q 16 [some (.ref 10), some (.ref S), some (.int (zn p)), none, none] [.int (zTon G v (zVw (R, C, rk, sn, sk, cn, cd) P v p)), .int (zn (v (24 + p)))] ph
  refine w_alu (pc' := 17) (st' := [.int (zn (zLi (R, C, rk, sn, sk, cn, cd) P G v p 0))]) (ykc_93 (e := (0, .ior, 0)) rfl) (by rw [← ((by unfold zTon; rw [zT_N hG8, zor_n (by omega) (zNs_lt hG8)]; rfl) : (zn (v (24 + p))) ||| (zTon G v (zVw (R, C, rk, sn, sk, cn, cd) P v p)) = zn (zLi (R, C, rk, sn, sk, cn, cd) P G v p 0))]; rfl) rfl ?_
  refine w_store (pc' := 18) (L' := [some (.ref 10), some (.ref S), some (.int (zn p)), some (.int (zn (zLi (R, C, rk, sn, sk, cn, cd) P G v p 0))), none]) (st' := []) (m := 1) (ykc_93 (e := (3, .istore_n kF3, 0)) rfl) rfl rfl ?_
  refine w_alu (pc' := 19) (st' := [.int (Int32.ofInt 0)]) (ykc_93 (e := (0, .iconst 0, 0)) rfl) rfl rfl ?_
  refine w_store (pc' := 21) (L' := [some (.ref 10), some (.ref S), some (.int (zn p)), some (.int (zn (zLi (R, C, rk, sn, sk, cn, cd) P G v p 0))), some (.int (Int32.ofInt 0))]) (st' := []) (m := 2) (ykc_93 (e := (3, .istore 4, 0)) rfl) rfl rfl ?_
  have hl : ∀ (n : Nat), ∀ (k : Nat), (k ≤ P) → zW n D 93 Q 21 [some (.ref 10), some (.ref S), some (.int (zn p)), some (.int (zn (zLi (R, C, rk, sn, sk, cn, cd) P G v p k))), some (.int (zn k))] [] ph := by
    intro n
    induction n using Nat.strongRecOn with
    | ind n ih =>
      intro k hk
      have tk := znt (k := k) (by omega)
      have hlt := zLi_lt (E := (R, C, rk, sn, sk, cn, cd)) (G := G) hv256 hp hG8 k hk
      have tl := znt (k := zLi (R, C, rk, sn, sk, cn, cd) P G v p k) (by omega)
      refine w_load (pc' := 23) (v := .int (zn k)) (m := 2) (ykc_93 (e := (2, .iload 4, 0)) rfl) rfl rfl ?_
      refine w_load (pc' := 24) (v := .ref S) (m := 1) (ykc_93 (e := (2, .aload_n kF1, 0)) rfl) rfl rfl ?_
      refine w_gf (pc' := 27) (v := .int (zn P)) (ykc_93 (e := (5, .getfield 122, 0)) rfl) rfl gP rfl ?_
      refine w_ige (ykc_93 (e := (4, .if_icmp .ge 51, 78)) rfl) rfl (fun b747 => ?_) (fun b747 => ?_)
      · refine w_load (pc' := 79) (v := .int (zn (zLi (R, C, rk, sn, sk, cn, cd) P G v p k))) (m := 1) (ykc_93 (e := (2, .iload_n kF3, 0)) rfl) rfl rfl ?_
        refine w_ret (v := (some (.int (zn (zLi (R, C, rk, sn, sk, cn, cd) P G v p k))))) (ykc_93 (e := (7, .ireturn, 0)) rfl) (zr_v rfl) ?_
        have ek : P = k := by omega
        subst ek
        rw [hQ]
        exact ⟨rfl, rfl⟩
      · refine w_load (pc' := 32) (v := .int (zn k)) (m := 2) (ykc_93 (e := (2, .iload 4, 0)) rfl) rfl rfl ?_
        refine w_push (pc' := 34) (v := .int ((Int8.ofInt 8).toInt32)) (m := 2) (ykc_93 (e := (1, .bipush 8, 0)) rfl) rfl rfl ?_
        refine w_ige (ykc_93 (e := (4, .if_icmp .ge 44, 78)) rfl) rfl (fun q => by exfalso; omega) (fun b748 => ?_)
        refine w_load (pc' := 38) (v := .ref S) (m := 1) (ykc_93 (e := (2, .aload_n kF1, 0)) rfl) rfl rfl ?_
        refine w_gf (pc' := 41) (v := .ref (S + 4)) (ykc_93 (e := (5, .getfield 75, 0)) rfl) rfl r6 rfl ?_
        refine w_load (pc' := 43) (v := .int (zn k)) (m := 2) (ykc_93 (e := (2, .iload 4, 0)) rfl) rfl rfl ?_
        have q749 := hO0.1 k (by omega)
        have tq749 := znt (k := v (24 + k)) (by omega)
        refine w_ialk (pc' := 44) (k := k) (ykc_93 (e := (5, .iaload, 0)) rfl) (gv k (by omega)).2.2.2 (by omega) rfl ?_
        refine w_load (pc' := 45) (v := .int (zn (zLi (R, C, rk, sn, sk, cn, cd) P G v p k))) (m := 1) (ykc_93 (e := (2, .iload_n kF3, 0)) rfl) rfl rfl ?_
        refine w_alu (pc' := 46) (st' := [.int (Int32.ofInt (-1)), .int (zn (zLi (R, C, rk, sn, sk, cn, cd) P G v p k)), .int (zn (v (24 + k)))]) (ykc_93 (e := (0, .iconst (-1), 0)) rfl) rfl rfl ?_
        refine w_alu (pc' := 47) (st' := [.int ((zn (zLi (R, C, rk, sn, sk, cn, cd) P G v p k)) ^^^ (Int32.ofInt (-1))), .int (zn (v (24 + k)))]) (ykc_93 (e := (0, .ixor, 0)) rfl) rfl rfl ?_
        refine w_alu (pc' := 48) (st' := [.int ((zn (v (24 + k))) &&& ((zn (zLi (R, C, rk, sn, sk, cn, cd) P G v p k)) ^^^ (Int32.ofInt (-1))))]) (ykc_93 (e := (0, .iand, 0)) rfl) rfl rfl ?_
        refine w_zeq (ykc_93 (e := (4, .ifCond .eq 24, 72)) rfl) rfl (fun b750 => ?_) (fun b750 => ?_)
        · have e751 : (zn k) + Int32.ofInt 1 = zn (k + 1) := (zaddN (a := k) (b := 1) (znt (by omega)) c_3 (by omega))
          have te751 := znt (k := k + 1) (by omega)
          refine w_store (pc' := 75) (L' := [some (.ref 10), some (.ref S), some (.int (zn p)), some (.int (zn (zLi (R, C, rk, sn, sk, cn, cd) P G v p k))), some (.int (zn (k + 1)))]) (st' := []) (m := 3) (ykc_93 (e := (3, .iinc 4 1, 0)) rfl) (by rw [← e751]; rfl) rfl ?_
          refine w_gb (ykc_93 (e := (4, .goto (-54), 21)) rfl) (fun k752 hk752 => ?_)
          have et : zLi (R, C, rk, sn, sk, cn, cd) P G v p (k + 1) = zLi (R, C, rk, sn, sk, cn, cd) P G v p k := by
            show (bif zTell (R, C, rk, sn, sk, cn, cd) P v p k then zLi (R, C, rk, sn, sk, cn, cd) P G v p k ||| v (24 + k) else zLi (R, C, rk, sn, sk, cn, cd) P G v p k) = _
            rw [znew (hv256 k (by omega)) hlt b750]
            cases zTell (R, C, rk, sn, sk, cn, cd) P v p k <;> rfl
          have h9 := ih k752 hk752 (k + 1) (by omega)
          rw [et] at h9
          exact h9
        · refine w_load (pc' := 52) (v := .ref 10) (m := 1) (ykc_93 (e := (2, .aload_n kF0, 0)) rfl) rfl rfl ?_
          refine w_load (pc' := 53) (v := .ref S) (m := 1) (ykc_93 (e := (2, .aload_n kF1, 0)) rfl) rfl rfl ?_
          refine w_load (pc' := 54) (v := .int (zn p)) (m := 1) (ykc_93 (e := (2, .iload_n kF2, 0)) rfl) rfl rfl ?_
          refine w_load (pc' := 56) (v := .int (zn k)) (m := 2) (ykc_93 (e := (2, .iload 4, 0)) rfl) rfl rfl ?_
          refine w_cv (as := [.ref 10, .ref S, .int (zn p), .int (zn k)]) (r := []) (ykc_93 (e := (6, .invokevirtual 136, 0)) rfl) rfl rfl rfl rfl (zc_tell hS hE0 ht hO0 hvw (a := p) (b := k) (by omega) (by omega)) (fun v753 ph754 hv => ?_)
          obtain ⟨rfl, rfl⟩ := hv
          show zW n D 93 Q 59 [some (.ref 10), some (.ref S), some (.int (zn p)), some (.int (zn (zLi (R, C, rk, sn, sk, cn, cd) P G v p k))), some (.int (zn k))] [.int (zI (zTell (R, C, rk, sn, sk, cn, cd) P v p k))] ph
          refine w_beq (ykc_93 (e := (4, .ifCond .eq 13, 72)) rfl) rfl (fun b755 => ?_) (fun b755 => ?_)
          · have e756 : (zn k) + Int32.ofInt 1 = zn (k + 1) := (zaddN (a := k) (b := 1) (znt (by omega)) c_3 (by omega))
            have te756 := znt (k := k + 1) (by omega)
            refine w_store (pc' := 75) (L' := [some (.ref 10), some (.ref S), some (.int (zn p)), some (.int (zn (zLi (R, C, rk, sn, sk, cn, cd) P G v p k))), some (.int (zn (k + 1)))]) (st' := []) (m := 3) (ykc_93 (e := (3, .iinc 4 1, 0)) rfl) (by rw [← e756]; rfl) rfl ?_
            refine w_gb (ykc_93 (e := (4, .goto (-54), 21)) rfl) (fun k757 hk757 => ?_)
            have et : zLi (R, C, rk, sn, sk, cn, cd) P G v p (k + 1) = zLi (R, C, rk, sn, sk, cn, cd) P G v p k := by
              show (bif zTell (R, C, rk, sn, sk, cn, cd) P v p k then _ else _) = _
              rw [b755]
              rfl
            have h9 := ih k757 hk757 (k + 1) (by omega)
            rw [et] at h9
            exact h9
          · refine w_load (pc' := 63) (v := .int (zn (zLi (R, C, rk, sn, sk, cn, cd) P G v p k))) (m := 1) (ykc_93 (e := (2, .iload_n kF3, 0)) rfl) rfl rfl ?_
            refine w_load (pc' := 64) (v := .ref S) (m := 1) (ykc_93 (e := (2, .aload_n kF1, 0)) rfl) rfl rfl ?_
            refine w_gf (pc' := 67) (v := .ref (S + 4)) (ykc_93 (e := (5, .getfield 75, 0)) rfl) rfl r6 rfl ?_
            refine w_load (pc' := 69) (v := .int (zn k)) (m := 2) (ykc_93 (e := (2, .iload 4, 0)) rfl) rfl rfl ?_
            have q758 := hO0.1 k (by omega)
            have tq758 := znt (k := v (24 + k)) (by omega)
            refine w_ialk (pc' := 70) (k := k) (ykc_93 (e := (5, .iaload, 0)) rfl) (gv k (by omega)).2.2.2 (by omega) rfl ?_
            refine w_alu (pc' := 71) (st' := [.int (zn (zLi (R, C, rk, sn, sk, cn, cd) P G v p k ||| v (24 + k)))]) (ykc_93 (e := (0, .ior, 0)) rfl) (by rw [← (zor_n hlt (by omega) : (zn (zLi (R, C, rk, sn, sk, cn, cd) P G v p k)) ||| (zn (v (24 + k))) = zn (zLi (R, C, rk, sn, sk, cn, cd) P G v p k ||| v (24 + k)))]; rfl) rfl ?_
            refine w_store (pc' := 72) (L' := [some (.ref 10), some (.ref S), some (.int (zn p)), some (.int (zn (zLi (R, C, rk, sn, sk, cn, cd) P G v p k ||| v (24 + k)))), some (.int (zn k))]) (st' := []) (m := 1) (ykc_93 (e := (3, .istore_n kF3, 0)) rfl) rfl rfl ?_
            have e759 : (zn k) + Int32.ofInt 1 = zn (k + 1) := (zaddN (a := k) (b := 1) (znt (by omega)) c_3 (by omega))
            have te759 := znt (k := k + 1) (by omega)
            refine w_store (pc' := 75) (L' := [some (.ref 10), some (.ref S), some (.int (zn p)), some (.int (zn (zLi (R, C, rk, sn, sk, cn, cd) P G v p k ||| v (24 + k)))), some (.int (zn (k + 1)))]) (st' := []) (m := 3) (ykc_93 (e := (3, .iinc 4 1, 0)) rfl) (by rw [← e759]; rfl) rfl ?_
            refine w_gb (ykc_93 (e := (4, .goto (-54), 21)) rfl) (fun k760 hk760 => ?_)
            have et : zLi (R, C, rk, sn, sk, cn, cd) P G v p (k + 1) = zLi (R, C, rk, sn, sk, cn, cd) P G v p k ||| v (24 + k) := by
              show (bif zTell (R, C, rk, sn, sk, cn, cd) P v p k then _ else _) = _
              rw [b755]
              rfl
            have h9 := ih k760 hk760 (k + 1) (by omega)
            rw [et] at h9
            exact h9
  exact hl n 0 (Nat.zero_le _)
