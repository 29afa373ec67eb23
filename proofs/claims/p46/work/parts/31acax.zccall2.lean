/-! the class: undo, keep, again, forget, by W; printed by wip/z/z_v_ccall2.py -/
theorem zKC_25 {p q1 q : pm_H} {R C P G nx u fl hn nx2 u2 fl2 : Nat} {rk : Nat → Bool} {v v2 : Nat → Nat} {w sv sv2 : Nat → Nat → Nat} (h : zKC p R C rk P G v nx u w fl sv hn) (f : zCo 25 p q1) (g : zFr [] [(43, 1), (43, 2), (43, 4)] q1 q) (hd : zSd q 25 P G v2) (hU : zCu q P G nx2 u2 w) (hk : zCk q P G fl2 sv2) : zKC q R C rk P G v2 nx2 u2 w fl2 sv2 hn := ⟨zCl_F g (by first | exact ⟨zqm rfl, zqm rfl, zqm rfl⟩ | simp) (by intro i hi; simp) (by simp) (zCl_F f (by first | exact ⟨zqm rfl, zqm rfl, zqm rfl⟩ | simp) (by intro i hi; simp) (by simp) h.1), hd, hU, hk, (g.1 _ _ (by first | exact zqm rfl | simp) (by first | exact zqp rfl | simp)).trans ((f.1 _ _ (by first | exact zqm rfl | simp) (by first | exact zqp rfl | simp)).trans h.2.2.2.2.1), h.2.2.2.2.2⟩
theorem zc_hsize {ph : pm_H} {u : Nat} (hu : zc ph 43 2 = some (.int (zn u))) : zM 27 [.ref 43] ph (fun v0 q => ph = q ∧ v0 = some (.int (zn u))) := by
  obtain ⟨Q, hQ⟩ : ∃ Q : Option Value → pm_H → Prop, Q = (fun v0 q => ph = q ∧ v0 = some (.int (zn u))) := ⟨_, rfl⟩
  rw [← hQ]
  refine zM_mk fun n D => ?_
  show zW n D 27 Q 0 [some (.ref 43)] [] ph
  refine w_load (pc' := 1) (v := .ref 43) (m := 1) (ykc_27 (e := (2, .aload_n kF0, 0)) rfl) rfl rfl ?_
  refine w_gf (pc' := 4) (v := .int (zn u)) (ykc_27 (e := (5, .getfield 26, 0)) rfl) rfl hu rfl ?_
  refine w_ret (v := (some (.int (zn u)))) (ykc_27 (e := (7, .ireturn, 0)) rfl) (zr_v rfl) ?_
  rw [hQ]
  exact ⟨rfl, rfl⟩
theorem zc_undo {ph : pm_H} {R C P G nx u fl hn : Nat} {rk : Nat → Bool} {v : Nat → Nat} {w : Nat → Nat → Nat} {sv : Nat → Nat → Nat} (hS : zSh ph) (hK : zKC ph R C rk P G v nx u w fl sv hn) (hO0 : zOk R C P G v) : zM 139 [.ref 0] ph (fun v0 q => (u = 0 ∧ v0 = some (.int (Int32.ofInt (-1))) ∧ zKC q R C rk P G v nx u w fl sv hn) ∨ (0 < u ∧ v0 = some (.int (zn (u - 1))) ∧ ∃ nx1, zKC q R C rk P G (w (u - 1)) nx1 (u - 1) w fl sv hn)) := by
  obtain ⟨Q, hQ⟩ : ∃ Q : Option Value → pm_H → Prop, Q = (fun v0 q => (u = 0 ∧ v0 = some (.int (Int32.ofInt (-1))) ∧ zKC q R C rk P G v nx u w fl sv hn) ∨ (0 < u ∧ v0 = some (.int (zn (u - 1))) ∧ ∃ nx1, zKC q R C rk P G (w (u - 1)) nx1 (u - 1) w fl sv hn)) := ⟨_, rfl⟩
  rw [← hQ]
  refine zM_mk fun n D => ?_
  show zW n D 139 Q 0 [some (.ref 0)] [] ph
  have c_0 : (Int32.ofInt (-1)).toInt = -1 := by decide +kernel
  have hU := hK.2.2.1
  have hP8 : P ≤ 8 := hK.2.1.2.1
  refine w_load (pc' := 1) (v := .ref 0) (m := 1) (ykc_139 (e := (2, .aload_n kF0, 0)) rfl) rfl rfl ?_
  refine w_gf (pc' := 4) (v := .ref 43) (ykc_139 (e := (5, .getfield 55, 0)) rfl) rfl (zsg hS zs_0_7) rfl ?_
  refine w_load (pc' := 5) (v := .ref 0) (m := 1) (ykc_139 (e := (2, .aload_n kF0, 0)) rfl) rfl rfl ?_
  refine w_gf (pc' := 8) (v := .ref 25) (ykc_139 (e := (5, .getfield 42, 0)) rfl) rfl (zsg hS zs_0_4) rfl ?_
  refine w_cv (as := [.ref 43, .ref 25]) (r := []) (ykc_139 (e := (6, .invokevirtual 284, 0)) rfl) rfl rfl rfl rfl (zc_pop hS hU.1 hU.2.2.1 hU.2.1 hU.2.2.2.1 (w := w (u - 1)) (fun h0 => by have h := hU.2.2.2.2 (u - 1) (by omega); rwa [show (nx + 15 - u + (u - 1)) % 15 = (nx + 14) % 15 by have := hU.2.1; have := hU.2.2.2.1; omega] at h)) (fun v1075 ph1076 hv => ?_)
  rcases hv with ⟨hu0, rfl, rfl⟩ | ⟨hu0, rfl, ⟨q1, q2, pf, pu1, pu2⟩, pd⟩
  · show zW n D 139 Q 11 [some (.ref 0)] [.int (zI false)] ph
    refine w_beq (ykc_139 (e := (4, .ifCond .eq 13, 24)) rfl) rfl (fun b1077 => ?_) (fun q => absurd q (by decide))
    refine w_alu (pc' := 25) (st' := [.int (Int32.ofInt (-1))]) (ykc_139 (e := (0, .iconst (-1), 0)) rfl) rfl rfl ?_
    refine w_ret (v := (some (.int (Int32.ofInt (-1))))) (ykc_139 (e := (7, .ireturn, 0)) rfl) (zr_v rfl) ?_
    rw [hQ]
    exact Or.inl ⟨hu0, rfl, hK⟩
  · have fr9 : zFr [26, 27, 28, 29, 30] [(25, 0), (25, 1), (25, 2), (43, 1), (43, 2)] _ ph1076 := zFr_trans (zFr_mono pf (by first | exact zqa rfl | simp) (by first | exact zqf rfl | simp)) (zFr_trans (zFr_st pu1 (Or.inr (by first | exact zqj rfl | simp))) (zFr_st pu2 (Or.inr (by first | exact zqj rfl | simp))))
    show zW n D 139 Q 11 [some (.ref 0)] [.int (zI true)] ph1076
    refine w_beq (ykc_139 (e := (4, .ifCond .eq 13, 24)) rfl) rfl (fun q => absurd q (by decide)) (fun b1078 => ?_)
    refine w_load (pc' := 15) (v := .ref 0) (m := 1) (ykc_139 (e := (2, .aload_n kF0, 0)) rfl) rfl rfl ?_
    refine w_gf (pc' := 18) (v := .ref 43) (ykc_139 (e := (5, .getfield 55, 0)) rfl) rfl ((fr9.1 0 7 (by first | exact zqm rfl | decide) (by first | exact zqp rfl | decide)).trans (zsg hS zs_0_7)) rfl ?_
    refine w_cv (as := [.ref 43]) (r := []) (ykc_139 (e := (6, .invokevirtual 288, 0)) rfl) rfl rfl rfl rfl (zc_hsize pu2.1) (fun v1079 ph1080 hv => ?_)
    obtain ⟨rfl, rfl⟩ := hv
    show zW n D 139 Q 21 [some (.ref 0)] [.int (zn (u - 1))] ph1076
    refine w_br (pc' := 25) (st' := [.int (zn (u - 1))]) (ykc_139 (e := (4, .goto 4, 25)) rfl) rfl ?_
    refine w_ret (v := (some (.int (zn (u - 1))))) (ykc_139 (e := (7, .ireturn, 0)) rfl) (zr_v rfl) ?_
    rw [hQ]
    exact Or.inr ⟨hu0, rfl, _, zKC_25 hK pf (zFr_trans (zFr_st pu1 (Or.inr (by first | exact zqj rfl | simp))) (zFr_st pu2 (Or.inr (by first | exact zqj rfl | simp)))) pd (zCu_pop hU hu0 pf pu1 pu2) (zCk_F (zFr_trans (zFr_st pu1 (Or.inr (by first | exact zqj rfl | simp))) (zFr_st pu2 (Or.inr (by first | exact zqj rfl | simp))) : zFr [] [(43, 1), (43, 2)] _ _) (by first | exact zqm rfl | simp) (by first | exact zqp rfl | simp) (by intro j h1 h2; simp) (by intro j i h1 h2; simp <;> omega) (zCk_F pf (by first | exact zqm rfl | simp) (by first | exact zqp rfl | simp) (by intro j h1 h2; simp <;> omega) (by intro j i h1 h2; simp <;> omega) hK.2.2.2.1))⟩
theorem ztb : ∀ b, b < 8 → ∀ i, i < 3 → ∀ j, j < 3 → (b ||| 2 ^ i).testBit j = (decide (j = i) || b.testBit j) := by decide +kernel
theorem zc_keep {ph : pm_H} {R C P G nx u fl hn : Nat} {rk : Nat → Bool} {v : Nat → Nat} {w : Nat → Nat → Nat} {sv : Nat → Nat → Nat} (hS : zSh ph) (hK : zKC ph R C rk P G v nx u w fl sv hn) (hO0 : zOk R C P G v) {x : Int32} : zM 177 [.ref 0, .int x] ph (fun v0 q => ((x.toInt < 0 ∨ 3 ≤ x.toInt) ∧ v0 = some (.int (zI false)) ∧ zKC q R C rk P G v nx u w fl sv hn) ∨ (∃ i, x.toInt = (i : Nat) ∧ i < 3 ∧ v0 = some (.int (zI true)) ∧ zKC q R C rk P G v nx u w (fl ||| 2 ^ i) (fun j => if j = i then v else sv j) hn)) := by
  obtain ⟨Q, hQ⟩ : ∃ Q : Option Value → pm_H → Prop, Q = (fun v0 q => ((x.toInt < 0 ∨ 3 ≤ x.toInt) ∧ v0 = some (.int (zI false)) ∧ zKC q R C rk P G v nx u w fl sv hn) ∨ (∃ i, x.toInt = (i : Nat) ∧ i < 3 ∧ v0 = some (.int (zI true)) ∧ zKC q R C rk P G v nx u w (fl ||| 2 ^ i) (fun j => if j = i then v else sv j) hn)) := ⟨_, rfl⟩
  rw [← hQ]
  refine zM_mk fun n D => ?_
  show zW n D 177 Q 0 [some (.ref 0), some (.int x)] [] ph
  have hU := hK.2.2.1
  have hk := hK.2.2.2.1
  have hP8 : P ≤ 8 := hK.2.1.2.1
  refine w_load (pc' := 1) (v := .ref 0) (m := 1) (ykc_177 (e := (2, .aload_n kF0, 0)) rfl) rfl rfl ?_
  refine w_gf (pc' := 4) (v := .ref 43) (ykc_177 (e := (5, .getfield 55, 0)) rfl) rfl (zsg hS zs_0_7) rfl ?_
  refine w_load (pc' := 5) (v := .int x) (m := 1) (ykc_177 (e := (2, .iload_n kF1, 0)) rfl) rfl rfl ?_
  refine w_load (pc' := 6) (v := .ref 0) (m := 1) (ykc_177 (e := (2, .aload_n kF0, 0)) rfl) rfl rfl ?_
  refine w_gf (pc' := 9) (v := .ref 25) (ykc_177 (e := (5, .getfield 42, 0)) rfl) rfl (zsg hS zs_0_4) rfl ?_
  refine w_cv (as := [.ref 43, .int x, .ref 25]) (r := []) (ykc_177 (e := (6, .invokevirtual 407, 0)) rfl) rfl rfl rfl rfl (zc_hold hS hK.2.1 hk.1 hk.2.1 (x := x)) (fun v1081 ph1082 hv => ?_)
  rcases hv with ⟨hb, rfl, rfl⟩ | ⟨i, hi, hi3, rfl, ⟨q1, pf, pu⟩, pd⟩
  · show zW n D 177 Q 12 [some (.ref 0), some (.int x)] [.int (zI false)] ph
    refine w_ret (v := (some (.int (zI false)))) (ykc_177 (e := (7, .ireturn, 0)) rfl) zr_z ?_
    rw [hQ]
    exact Or.inl ⟨hb, rfl, hK⟩
  · have fr9 : zFr [] [] ph1082 ph1082 := zFr_refl
    show zW n D 177 Q 12 [some (.ref 0), some (.int x)] [.int (zI true)] ph1082
    refine w_ret (v := (some (.int (zI true)))) (ykc_177 (e := (7, .ireturn, 0)) rfl) zr_z ?_
    rw [hQ]
    have g : zFr [] [(43, 4)] q1 _ := zFr_st pu (Or.inr (by first | exact zqj rfl | simp))
    refine Or.inr ⟨i, hi, hi3, rfl, zCl_F g (by first | exact ⟨zqm rfl, zqm rfl, zqm rfl⟩ | simp) (by intro i hi; simp) (by simp) (zCl_F pf (by simp <;> omega) (by intro i hi; simp <;> omega) (by intro i; simp <;> omega) hK.1), zSd_F g (by intro j hj; simp) (by intro j k hj; simp <;> omega) (zCo_d (by omega) pf hK.2.1), zCu_F g (by first | exact zqm rfl | simp) (by first | exact ⟨zqp rfl, zqp rfl⟩ | simp) (by intro j h1 h2; simp) (by intro j i h1 h2; simp <;> omega) (zCu_F pf (by simp <;> omega) (by simp <;> omega) (by intro j h1 h2; simp <;> omega) (by intro j i h1 h2; simp <;> omega) hU), ⟨pu.1, (zset8 fl hk.2.1 i hi3).2, fun j hj hb => ?_⟩, (g.1 _ _ (by first | exact zqm rfl | simp) (by first | exact zqp rfl | simp)).trans ((pf.1 _ _ (by simp <;> omega) (by simp <;> omega)).trans hK.2.2.2.2.1), hK.2.2.2.2.2⟩
    by_cases e : j = i
    · show zSd _ (136 + 6 * j) P G (if j = i then v else sv j)
      rw [if_pos e, e]
      exact pd
    · show zSd _ (136 + 6 * j) P G (if j = i then v else sv j)
      rw [if_neg e]
      rw [ztb fl hk.2.1 i hi3 j hj, decide_eq_false e, Bool.false_or] at hb
      exact zSd_F g (by intro j hj; simp) (by intro j k hj; simp <;> omega) (zCo_d (by omega) pf (hk.2.2 j hj hb))
theorem zc_again {ph : pm_H} {R C P G nx u fl hn : Nat} {rk : Nat → Bool} {v : Nat → Nat} {w : Nat → Nat → Nat} {sv : Nat → Nat → Nat} (hS : zSh ph) (hK : zKC ph R C rk P G v nx u w fl sv hn) (hO0 : zOk R C P G v) {x : Int32} : zM 178 [.ref 0, .int x] ph (fun v0 q => ((x.toInt < 0 ∨ 3 ≤ x.toInt ∨ fl.testBit x.toInt.toNat = false) ∧ v0 = some (.int (zI false)) ∧ zKC q R C rk P G v nx u w fl sv hn) ∨ (∃ i, x.toInt = (i : Nat) ∧ i < 3 ∧ fl.testBit i = true ∧ v0 = some (.int (zI true)) ∧ zKC q R C rk P G (sv i) nx 0 w fl sv hn)) := by
  obtain ⟨Q, hQ⟩ : ∃ Q : Option Value → pm_H → Prop, Q = (fun v0 q => ((x.toInt < 0 ∨ 3 ≤ x.toInt ∨ fl.testBit x.toInt.toNat = false) ∧ v0 = some (.int (zI false)) ∧ zKC q R C rk P G v nx u w fl sv hn) ∨ (∃ i, x.toInt = (i : Nat) ∧ i < 3 ∧ fl.testBit i = true ∧ v0 = some (.int (zI true)) ∧ zKC q R C rk P G (sv i) nx 0 w fl sv hn)) := ⟨_, rfl⟩
  rw [← hQ]
  refine zM_mk fun n D => ?_
  show zW n D 178 Q 0 [some (.ref 0), some (.int x)] [] ph
  have hU := hK.2.2.1
  have hk := hK.2.2.2.1
  have hP8 : P ≤ 8 := hK.2.1.2.1
  refine w_load (pc' := 1) (v := .ref 0) (m := 1) (ykc_178 (e := (2, .aload_n kF0, 0)) rfl) rfl rfl ?_
  refine w_gf (pc' := 4) (v := .ref 43) (ykc_178 (e := (5, .getfield 55, 0)) rfl) rfl (zsg hS zs_0_7) rfl ?_
  refine w_load (pc' := 5) (v := .int x) (m := 1) (ykc_178 (e := (2, .iload_n kF1, 0)) rfl) rfl rfl ?_
  refine w_load (pc' := 6) (v := .ref 0) (m := 1) (ykc_178 (e := (2, .aload_n kF0, 0)) rfl) rfl rfl ?_
  refine w_gf (pc' := 9) (v := .ref 25) (ykc_178 (e := (5, .getfield 42, 0)) rfl) rfl (zsg hS zs_0_4) rfl ?_
  refine w_cv (as := [.ref 43, .int x, .ref 25]) (r := []) (ykc_178 (e := (6, .invokevirtual 411, 0)) rfl) rfl rfl rfl rfl (zc_bring hS hk.2.2 hk.1 hk.2.1 (x := x)) (fun v1083 ph1084 hv => ?_)
  rcases hv with ⟨hb, rfl, rfl⟩ | ⟨i, hi, hi3, hbt, rfl, ⟨q1, pf, pu⟩, pd⟩
  · show zW n D 178 Q 12 [some (.ref 0), some (.int x)] [.int (zI false)] ph
    refine w_ret (v := (some (.int (zI false)))) (ykc_178 (e := (7, .ireturn, 0)) rfl) zr_z ?_
    rw [hQ]
    exact Or.inl ⟨hb, rfl, hK⟩
  · have fr9 : zFr [] [] ph1084 ph1084 := zFr_refl
    show zW n D 178 Q 12 [some (.ref 0), some (.int x)] [.int (zI true)] ph1084
    refine w_ret (v := (some (.int (zI true)))) (ykc_178 (e := (7, .ireturn, 0)) rfl) zr_z ?_
    rw [hQ]
    have g : zFr [] [(43, 2)] q1 _ := zFr_st pu (Or.inr (by first | exact zqj rfl | simp))
    exact Or.inr ⟨i, hi, hi3, hbt, rfl, zKC_25 hK pf (zFr_mono g (by first | exact zqa rfl | simp) (by first | exact zqf rfl | simp)) pd ⟨(g.1 _ _ (by first | exact zqm rfl | simp) (by first | exact zqp rfl | simp)).trans ((pf.1 _ _ (by first | exact zqm rfl | simp) (by first | exact zqp rfl | simp)).trans hU.1), hU.2.1, pu.1, by omega, fun j hj => absurd hj (Nat.not_lt_zero j)⟩ (zCk_F g (by first | exact zqm rfl | simp) (by first | exact zqp rfl | simp) (by intro j h1 h2; simp) (by intro j i h1 h2; simp <;> omega) (zCk_F pf (by first | exact zqm rfl | simp) (by first | exact zqp rfl | simp) (by intro j h1 h2; simp <;> omega) (by intro j i h1 h2; simp <;> omega) hk))⟩
theorem zc_forgetH {ph : pm_H} : zM 170 [.ref 0] ph (fun v0 q => v0 = none ∧ zFr [] [(0, 13), (0, 14)] ph q ∧ zc q 0 14 = some (.int (zn 0))) := by
  obtain ⟨Q, hQ⟩ : ∃ Q : Option Value → pm_H → Prop, Q = (fun v0 q => v0 = none ∧ zFr [] [(0, 13), (0, 14)] ph q ∧ zc q 0 14 = some (.int (zn 0))) := ⟨_, rfl⟩
  rw [← hQ]
  refine zM_mk fun n D => ?_
  show zW n D 170 Q 0 [some (.ref 0)] [] ph
  have c_0 : (Int32.ofInt 0).toInt = 0 := by decide +kernel
  refine w_load (pc' := 1) (v := .ref 0) (m := 1) (ykc_170 (e := (2, .aload_n kF0, 0)) rfl) rfl rfl ?_
  refine w_push (pc' := 4) (v := .long (-1 : Int64)) (m := 3) (ykc_170 (e := (1, .ldc2_w 94, 0)) rfl) rfl rfl ?_
  refine w_pf (pc' := 7) (ykc_170 (e := (5, .putfield 96, 0)) rfl) rfl rfl (fun ph1086 u1085 => ?_)
  refine w_load (pc' := 8) (v := .ref 0) (m := 1) (ykc_170 (e := (2, .aload_n kF0, 0)) rfl) rfl rfl ?_
  refine w_alu (pc' := 9) (st' := [.int (Int32.ofInt 0), .ref 0]) (ykc_170 (e := (0, .iconst 0, 0)) rfl) rfl rfl ?_
  refine w_pf (pc' := 12) (ykc_170 (e := (5, .putfield 100, 0)) rfl) rfl rfl (fun ph1088 u1087 => ?_)
  refine w_ret (v := none) (ykc_170 (e := (7, .return_, 0)) rfl) (zr_v rfl) ?_
  rw [hQ]
  exact ⟨rfl, zFr_trans (zFr_st u1085 (Or.inr (by first | exact zqj rfl | simp))) (zFr_st u1087 (Or.inr (by first | exact zqj rfl | simp))), u1087.1⟩
theorem zc_forget {ph : pm_H} {R C P G nx u fl hn : Nat} {rk : Nat → Bool} {v : Nat → Nat} {w : Nat → Nat → Nat} {sv : Nat → Nat → Nat} (hS : zSh ph) (hK : zKC ph R C rk P G v nx u w fl sv hn) (hO0 : zOk R C P G v) : zM 167 [.ref 0] ph (fun v0 q => v0 = some (.int (zn hn)) ∧ zKC q R C rk P G v nx u w fl sv 0) := by
  obtain ⟨Q, hQ⟩ : ∃ Q : Option Value → pm_H → Prop, Q = (fun v0 q => v0 = some (.int (zn hn)) ∧ zKC q R C rk P G v nx u w fl sv 0) := ⟨_, rfl⟩
  rw [← hQ]
  refine zM_mk fun n D => ?_
  show zW n D 167 Q 0 [some (.ref 0), none] [] ph
  obtain ⟨hL, hd, hU, hk, hh⟩ := hK
  have thn := znt (k := hn) (by have := hh.2; omega)
  refine w_load (pc' := 1) (v := .ref 0) (m := 1) (ykc_167 (e := (2, .aload_n kF0, 0)) rfl) rfl rfl ?_
  refine w_gf (pc' := 4) (v := .int (zn hn)) (ykc_167 (e := (5, .getfield 100, 0)) rfl) rfl hh.1 rfl ?_
  refine w_store (pc' := 5) (L' := [some (.ref 0), some (.int (zn hn))]) (st' := []) (m := 1) (ykc_167 (e := (3, .istore_n kF1, 0)) rfl) rfl rfl ?_
  refine w_load (pc' := 6) (v := .ref 0) (m := 1) (ykc_167 (e := (2, .aload_n kF0, 0)) rfl) rfl rfl ?_
  refine w_cv (as := [.ref 0]) (r := []) (ykc_167 (e := (6, .invokevirtual 124, 0)) rfl) rfl rfl rfl rfl (zc_forgetH) (fun v1089 ph1090 hv => ?_)
  obtain ⟨rfl, ff, f14⟩ := hv
  show zW n D 167 Q 9 [some (.ref 0), some (.int (zn hn))] [] ph1090
  refine w_load (pc' := 10) (v := .int (zn hn)) (m := 1) (ykc_167 (e := (2, .iload_n kF1, 0)) rfl) rfl rfl ?_
  refine w_ret (v := (some (.int (zn hn)))) (ykc_167 (e := (7, .ireturn, 0)) rfl) (zr_v rfl) ?_
  rw [hQ]
  exact ⟨rfl, zCl_F ff (by first | exact ⟨zqm rfl, zqm rfl, zqm rfl⟩ | simp) (by intro i hi; simp) (by simp) hL, zSd_F ff (by intro j hj; simp) (by intro j k hj; simp <;> omega) hd, zCu_F ff (by first | exact zqm rfl | simp) (by first | exact ⟨zqp rfl, zqp rfl⟩ | simp) (by intro j h1 h2; simp) (by intro j i h1 h2; simp <;> omega) hU, zCk_F ff (by first | exact zqm rfl | simp) (by first | exact zqp rfl | simp) (by intro j h1 h2; simp) (by intro j i h1 h2; simp <;> omega) hk, f14, by omega⟩
