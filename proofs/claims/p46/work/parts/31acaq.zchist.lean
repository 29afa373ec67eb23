/-! the class: copies, history, by W; printed by wip/z/z_o_chist.py -/
theorem zFr_ac {A : List Nat} {F : List (Nat × Nat)} {p q : pm_H} {B : Nat} (hf : ∀ b c, b ≠ B → zc q b c = zc p b c) (hl : ∀ b, zln q b = zln p b) (h : B ∈ A) : zFr A F p q := ⟨fun b c h1 _ => hf b c (fun e => by subst e; exact h1 h), hl⟩
/-- a State is written at S -/
def zCo (S : Nat) (p q : pm_H) : Prop := zFr [S + 1, S + 2, S + 3, S + 4, S + 5] [(S, 0), (S, 1), (S, 2)] p q
theorem zc_copy {ph : pm_H} {S T P G : Nat} {v : Nat → Nat} (hs : zSs ph T) (hs2 : zSs ph S) (hd : zSd ph T P G v) (hst : S + 5 < T ∨ T + 5 < S) : zM 103 [.ref S, .ref T] ph (fun v0 q => v0 = none ∧ zCo S ph q ∧ zSd q S P G v) := by
  obtain ⟨Q, hQ⟩ : ∃ Q : Option Value → pm_H → Prop, Q = (fun v0 q => v0 = none ∧ zCo S ph q ∧ zSd q S P G v) := ⟨_, rfl⟩
  rw [← hQ]
  refine zM_mk fun n D => ?_
  show zW n D 103 Q 0 [some (.ref S), some (.ref T)] [] ph
  have c_0 : ((Int8.ofInt 8).toInt32).toInt = 8 := by decide
  have c_1 : (Int32.ofInt 0).toInt = 0 := by decide
  have hd0 := hd
  have hs0 := hs
  obtain ⟨r3, r4, r5, r6, r7, l1, l2, l3, l4, l5⟩ := hs
  obtain ⟨gP, hP8, gG, hG8, gH, gv, gw⟩ := hd
  have tP := znt (k := P) (by omega)
  have tG := znt (k := G) (by omega)
  obtain ⟨e3, e4, e5, e6, e7, m1, m2, m3, m4, m5⟩ := hs2
  refine w_load (pc' := 1) (v := .ref S) (m := 1) (ykc_103 (e := (2, .aload_n kF0, 0)) rfl) rfl rfl ?_
  refine w_load (pc' := 2) (v := .ref T) (m := 1) (ykc_103 (e := (2, .aload_n kF1, 0)) rfl) rfl rfl ?_
  refine w_gf (pc' := 5) (v := .int (zn P)) (ykc_103 (e := (5, .getfield 30, 0)) rfl) rfl gP rfl ?_
  refine w_pf (pc' := 8) (ykc_103 (e := (5, .putfield 30, 0)) rfl) rfl rfl (fun ph787 u786 => ?_)
  refine w_load (pc' := 9) (v := .ref S) (m := 1) (ykc_103 (e := (2, .aload_n kF0, 0)) rfl) rfl rfl ?_
  refine w_load (pc' := 10) (v := .ref T) (m := 1) (ykc_103 (e := (2, .aload_n kF1, 0)) rfl) rfl rfl ?_
  refine w_gf (pc' := 13) (v := .int (zn G)) (ykc_103 (e := (5, .getfield 34, 0)) rfl) rfl ((u786.2.1 T 1 (fun q => by have q2 := q.1; omega)).trans gG) rfl ?_
  refine w_pf (pc' := 16) (ykc_103 (e := (5, .putfield 34, 0)) rfl) rfl rfl (fun ph789 u788 => ?_)
  refine w_load (pc' := 17) (v := .ref S) (m := 1) (ykc_103 (e := (2, .aload_n kF0, 0)) rfl) rfl rfl ?_
  refine w_load (pc' := 18) (v := .ref T) (m := 1) (ykc_103 (e := (2, .aload_n kF1, 0)) rfl) rfl rfl ?_
  refine w_gf (pc' := 21) (v := .int (zn (v 40))) (ykc_103 (e := (5, .getfield 37, 0)) rfl) rfl ((u788.2.1 T 2 (fun q => by have q2 := q.1; omega)).trans ((u786.2.1 T 2 (fun q => by have q2 := q.1; omega)).trans gH)) rfl ?_
  refine w_pf (pc' := 24) (ykc_103 (e := (5, .putfield 37, 0)) rfl) rfl rfl (fun ph791 u790 => ?_)
  refine w_load (pc' := 25) (v := .ref T) (m := 1) (ykc_103 (e := (2, .aload_n kF1, 0)) rfl) rfl rfl ?_
  refine w_gf (pc' := 28) (v := .ref (T + 1)) (ykc_103 (e := (5, .getfield 9, 0)) rfl) rfl ((u790.2.1 T 3 (fun q => by have q2 := q.1; omega)).trans ((u788.2.1 T 3 (fun q => by have q2 := q.1; omega)).trans ((u786.2.1 T 3 (fun q => by have q2 := q.1; omega)).trans r3))) rfl ?_
  refine w_alu (pc' := 29) (st' := [.int (Int32.ofInt 0), .ref (T + 1)]) (ykc_103 (e := (0, .iconst 0, 0)) rfl) rfl rfl ?_
  refine w_load (pc' := 30) (v := .ref S) (m := 1) (ykc_103 (e := (2, .aload_n kF0, 0)) rfl) rfl rfl ?_
  refine w_gf (pc' := 33) (v := .ref (S + 1)) (ykc_103 (e := (5, .getfield 9, 0)) rfl) rfl ((u790.2.1 S 3 (fun q => absurd q.2 (by decide))).trans ((u788.2.1 S 3 (fun q => absurd q.2 (by decide))).trans ((u786.2.1 S 3 (fun q => absurd q.2 (by decide))).trans e3))) rfl ?_
  refine w_alu (pc' := 34) (st' := [.int (Int32.ofInt 0), .ref (S + 1), .int (Int32.ofInt 0), .ref (T + 1)]) (ykc_103 (e := (0, .iconst 0, 0)) rfl) rfl rfl ?_
  refine w_push (pc' := 36) (v := .int ((Int8.ofInt 8).toInt32)) (m := 2) (ykc_103 (e := (1, .bipush 8, 0)) rfl) rfl rfl ?_
  refine w_ac8 (ykc_103 (e := (5, .invokestatic 40, 0)) rfl) rfl ((u790.2.2 (T + 1)).trans ((u788.2.2 (T + 1)).trans ((u786.2.2 (T + 1)).trans l1))) ((u790.2.2 (S + 1)).trans ((u788.2.2 (S + 1)).trans ((u786.2.2 (S + 1)).trans m1))) rfl (fun ph792 u793_a u793_b u793_c => ?_)
  refine w_load (pc' := 40) (v := .ref T) (m := 1) (ykc_103 (e := (2, .aload_n kF1, 0)) rfl) rfl rfl ?_
  refine w_gf (pc' := 43) (v := .ref (T + 2)) (ykc_103 (e := (5, .getfield 15, 0)) rfl) rfl ((u793_b T 4 (by omega)).trans ((u790.2.1 T 4 (fun q => by have q2 := q.1; omega)).trans ((u788.2.1 T 4 (fun q => by have q2 := q.1; omega)).trans ((u786.2.1 T 4 (fun q => by have q2 := q.1; omega)).trans r4)))) rfl ?_
  refine w_alu (pc' := 44) (st' := [.int (Int32.ofInt 0), .ref (T + 2)]) (ykc_103 (e := (0, .iconst 0, 0)) rfl) rfl rfl ?_
  refine w_load (pc' := 45) (v := .ref S) (m := 1) (ykc_103 (e := (2, .aload_n kF0, 0)) rfl) rfl rfl ?_
  refine w_gf (pc' := 48) (v := .ref (S + 2)) (ykc_103 (e := (5, .getfield 15, 0)) rfl) rfl ((u793_b S 4 (by omega)).trans ((u790.2.1 S 4 (fun q => absurd q.2 (by decide))).trans ((u788.2.1 S 4 (fun q => absurd q.2 (by decide))).trans ((u786.2.1 S 4 (fun q => absurd q.2 (by decide))).trans e4)))) rfl ?_
  refine w_alu (pc' := 49) (st' := [.int (Int32.ofInt 0), .ref (S + 2), .int (Int32.ofInt 0), .ref (T + 2)]) (ykc_103 (e := (0, .iconst 0, 0)) rfl) rfl rfl ?_
  refine w_push (pc' := 51) (v := .int ((Int8.ofInt 8).toInt32)) (m := 2) (ykc_103 (e := (1, .bipush 8, 0)) rfl) rfl rfl ?_
  refine w_ac8 (ykc_103 (e := (5, .invokestatic 40, 0)) rfl) rfl ((u793_c (T + 2)).trans ((u790.2.2 (T + 2)).trans ((u788.2.2 (T + 2)).trans ((u786.2.2 (T + 2)).trans l2)))) ((u793_c (S + 2)).trans ((u790.2.2 (S + 2)).trans ((u788.2.2 (S + 2)).trans ((u786.2.2 (S + 2)).trans m2)))) rfl (fun ph794 u795_a u795_b u795_c => ?_)
  refine w_load (pc' := 55) (v := .ref T) (m := 1) (ykc_103 (e := (2, .aload_n kF1, 0)) rfl) rfl rfl ?_
  refine w_gf (pc' := 58) (v := .ref (T + 3)) (ykc_103 (e := (5, .getfield 18, 0)) rfl) rfl ((u795_b T 5 (by omega)).trans ((u793_b T 5 (by omega)).trans ((u790.2.1 T 5 (fun q => by have q2 := q.1; omega)).trans ((u788.2.1 T 5 (fun q => by have q2 := q.1; omega)).trans ((u786.2.1 T 5 (fun q => by have q2 := q.1; omega)).trans r5))))) rfl ?_
  refine w_alu (pc' := 59) (st' := [.int (Int32.ofInt 0), .ref (T + 3)]) (ykc_103 (e := (0, .iconst 0, 0)) rfl) rfl rfl ?_
  refine w_load (pc' := 60) (v := .ref S) (m := 1) (ykc_103 (e := (2, .aload_n kF0, 0)) rfl) rfl rfl ?_
  refine w_gf (pc' := 63) (v := .ref (S + 3)) (ykc_103 (e := (5, .getfield 18, 0)) rfl) rfl ((u795_b S 5 (by omega)).trans ((u793_b S 5 (by omega)).trans ((u790.2.1 S 5 (fun q => absurd q.2 (by decide))).trans ((u788.2.1 S 5 (fun q => absurd q.2 (by decide))).trans ((u786.2.1 S 5 (fun q => absurd q.2 (by decide))).trans e5))))) rfl ?_
  refine w_alu (pc' := 64) (st' := [.int (Int32.ofInt 0), .ref (S + 3), .int (Int32.ofInt 0), .ref (T + 3)]) (ykc_103 (e := (0, .iconst 0, 0)) rfl) rfl rfl ?_
  refine w_push (pc' := 66) (v := .int ((Int8.ofInt 8).toInt32)) (m := 2) (ykc_103 (e := (1, .bipush 8, 0)) rfl) rfl rfl ?_
  refine w_ac8 (ykc_103 (e := (5, .invokestatic 40, 0)) rfl) rfl ((u795_c (T + 3)).trans ((u793_c (T + 3)).trans ((u790.2.2 (T + 3)).trans ((u788.2.2 (T + 3)).trans ((u786.2.2 (T + 3)).trans l3))))) ((u795_c (S + 3)).trans ((u793_c (S + 3)).trans ((u790.2.2 (S + 3)).trans ((u788.2.2 (S + 3)).trans ((u786.2.2 (S + 3)).trans m3))))) rfl (fun ph796 u797_a u797_b u797_c => ?_)
  refine w_load (pc' := 70) (v := .ref T) (m := 1) (ykc_103 (e := (2, .aload_n kF1, 0)) rfl) rfl rfl ?_
  refine w_gf (pc' := 73) (v := .ref (T + 4)) (ykc_103 (e := (5, .getfield 21, 0)) rfl) rfl ((u797_b T 6 (by omega)).trans ((u795_b T 6 (by omega)).trans ((u793_b T 6 (by omega)).trans ((u790.2.1 T 6 (fun q => by have q2 := q.1; omega)).trans ((u788.2.1 T 6 (fun q => by have q2 := q.1; omega)).trans ((u786.2.1 T 6 (fun q => by have q2 := q.1; omega)).trans r6)))))) rfl ?_
  refine w_alu (pc' := 74) (st' := [.int (Int32.ofInt 0), .ref (T + 4)]) (ykc_103 (e := (0, .iconst 0, 0)) rfl) rfl rfl ?_
  refine w_load (pc' := 75) (v := .ref S) (m := 1) (ykc_103 (e := (2, .aload_n kF0, 0)) rfl) rfl rfl ?_
  refine w_gf (pc' := 78) (v := .ref (S + 4)) (ykc_103 (e := (5, .getfield 21, 0)) rfl) rfl ((u797_b S 6 (by omega)).trans ((u795_b S 6 (by omega)).trans ((u793_b S 6 (by omega)).trans ((u790.2.1 S 6 (fun q => absurd q.2 (by decide))).trans ((u788.2.1 S 6 (fun q => absurd q.2 (by decide))).trans ((u786.2.1 S 6 (fun q => absurd q.2 (by decide))).trans e6)))))) rfl ?_
  refine w_alu (pc' := 79) (st' := [.int (Int32.ofInt 0), .ref (S + 4), .int (Int32.ofInt 0), .ref (T + 4)]) (ykc_103 (e := (0, .iconst 0, 0)) rfl) rfl rfl ?_
  refine w_push (pc' := 81) (v := .int ((Int8.ofInt 8).toInt32)) (m := 2) (ykc_103 (e := (1, .bipush 8, 0)) rfl) rfl rfl ?_
  refine w_ac8 (ykc_103 (e := (5, .invokestatic 40, 0)) rfl) rfl ((u797_c (T + 4)).trans ((u795_c (T + 4)).trans ((u793_c (T + 4)).trans ((u790.2.2 (T + 4)).trans ((u788.2.2 (T + 4)).trans ((u786.2.2 (T + 4)).trans l4)))))) ((u797_c (S + 4)).trans ((u795_c (S + 4)).trans ((u793_c (S + 4)).trans ((u790.2.2 (S + 4)).trans ((u788.2.2 (S + 4)).trans ((u786.2.2 (S + 4)).trans m4)))))) rfl (fun ph798 u799_a u799_b u799_c => ?_)
  refine w_load (pc' := 85) (v := .ref T) (m := 1) (ykc_103 (e := (2, .aload_n kF1, 0)) rfl) rfl rfl ?_
  refine w_gf (pc' := 88) (v := .ref (T + 5)) (ykc_103 (e := (5, .getfield 24, 0)) rfl) rfl ((u799_b T 7 (by omega)).trans ((u797_b T 7 (by omega)).trans ((u795_b T 7 (by omega)).trans ((u793_b T 7 (by omega)).trans ((u790.2.1 T 7 (fun q => by have q2 := q.1; omega)).trans ((u788.2.1 T 7 (fun q => by have q2 := q.1; omega)).trans ((u786.2.1 T 7 (fun q => by have q2 := q.1; omega)).trans r7))))))) rfl ?_
  refine w_alu (pc' := 89) (st' := [.int (Int32.ofInt 0), .ref (T + 5)]) (ykc_103 (e := (0, .iconst 0, 0)) rfl) rfl rfl ?_
  refine w_load (pc' := 90) (v := .ref S) (m := 1) (ykc_103 (e := (2, .aload_n kF0, 0)) rfl) rfl rfl ?_
  refine w_gf (pc' := 93) (v := .ref (S + 5)) (ykc_103 (e := (5, .getfield 24, 0)) rfl) rfl ((u799_b S 7 (by omega)).trans ((u797_b S 7 (by omega)).trans ((u795_b S 7 (by omega)).trans ((u793_b S 7 (by omega)).trans ((u790.2.1 S 7 (fun q => absurd q.2 (by decide))).trans ((u788.2.1 S 7 (fun q => absurd q.2 (by decide))).trans ((u786.2.1 S 7 (fun q => absurd q.2 (by decide))).trans e7))))))) rfl ?_
  refine w_alu (pc' := 94) (st' := [.int (Int32.ofInt 0), .ref (S + 5), .int (Int32.ofInt 0), .ref (T + 5)]) (ykc_103 (e := (0, .iconst 0, 0)) rfl) rfl rfl ?_
  refine w_push (pc' := 96) (v := .int ((Int8.ofInt 8).toInt32)) (m := 2) (ykc_103 (e := (1, .bipush 8, 0)) rfl) rfl rfl ?_
  refine w_ac8 (ykc_103 (e := (5, .invokestatic 40, 0)) rfl) rfl ((u799_c (T + 5)).trans ((u797_c (T + 5)).trans ((u795_c (T + 5)).trans ((u793_c (T + 5)).trans ((u790.2.2 (T + 5)).trans ((u788.2.2 (T + 5)).trans ((u786.2.2 (T + 5)).trans l5))))))) ((u799_c (S + 5)).trans ((u797_c (S + 5)).trans ((u795_c (S + 5)).trans ((u793_c (S + 5)).trans ((u790.2.2 (S + 5)).trans ((u788.2.2 (S + 5)).trans ((u786.2.2 (S + 5)).trans m5))))))) rfl (fun ph800 u801_a u801_b u801_c => ?_)
  refine w_ret (v := none) (ykc_103 (e := (7, .return_, 0)) rfl) (zr_v rfl) ?_
  rw [hQ]
  exact ⟨rfl, (zFr_trans (zFr_trans (zFr_trans (zFr_trans (zFr_trans (zFr_trans (zFr_trans (zFr_st u786 (Or.inr (by simp))) (zFr_st u788 (Or.inr (by simp)))) (zFr_st u790 (Or.inr (by simp)))) (zFr_ac u793_b u793_c (by simp))) (zFr_ac u795_b u795_c (by simp))) (zFr_ac u797_b u797_c (by simp))) (zFr_ac u799_b u799_c (by simp))) (zFr_ac u801_b u801_c (by simp))), ((u801_b S 0 (by omega)).trans ((u799_b S 0 (by omega)).trans ((u797_b S 0 (by omega)).trans ((u795_b S 0 (by omega)).trans ((u793_b S 0 (by omega)).trans ((u790.2.1 S 0 (fun q => absurd q.2 (by decide))).trans ((u788.2.1 S 0 (fun q => absurd q.2 (by decide))).trans u786.1))))))), hP8, ((u801_b S 1 (by omega)).trans ((u799_b S 1 (by omega)).trans ((u797_b S 1 (by omega)).trans ((u795_b S 1 (by omega)).trans ((u793_b S 1 (by omega)).trans ((u790.2.1 S 1 (fun q => absurd q.2 (by decide))).trans u788.1)))))), hG8, ((u801_b S 2 (by omega)).trans ((u799_b S 2 (by omega)).trans ((u797_b S 2 (by omega)).trans ((u795_b S 2 (by omega)).trans ((u793_b S 2 (by omega)).trans u790.1))))), fun i hi => ⟨((u801_b (S + 1) i (by omega)).trans ((u799_b (S + 1) i (by omega)).trans ((u797_b (S + 1) i (by omega)).trans ((u795_b (S + 1) i (by omega)).trans ((u793_a i (by omega)).trans ((u790.2.1 (T + 1) i (fun q => by have q2 := q.1; omega)).trans ((u788.2.1 (T + 1) i (fun q => by have q2 := q.1; omega)).trans ((u786.2.1 (T + 1) i (fun q => by have q2 := q.1; omega)).trans (gv i (by omega)).1)))))))), ((u801_b (S + 2) i (by omega)).trans ((u799_b (S + 2) i (by omega)).trans ((u797_b (S + 2) i (by omega)).trans ((u795_a i (by omega)).trans ((u793_b (T + 2) i (by omega)).trans ((u790.2.1 (T + 2) i (fun q => by have q2 := q.1; omega)).trans ((u788.2.1 (T + 2) i (fun q => by have q2 := q.1; omega)).trans ((u786.2.1 (T + 2) i (fun q => by have q2 := q.1; omega)).trans (gv i (by omega)).2.1)))))))), ((u801_b (S + 3) i (by omega)).trans ((u799_b (S + 3) i (by omega)).trans ((u797_a i (by omega)).trans ((u795_b (T + 3) i (by omega)).trans ((u793_b (T + 3) i (by omega)).trans ((u790.2.1 (T + 3) i (fun q => by have q2 := q.1; omega)).trans ((u788.2.1 (T + 3) i (fun q => by have q2 := q.1; omega)).trans ((u786.2.1 (T + 3) i (fun q => by have q2 := q.1; omega)).trans (gv i (by omega)).2.2.1)))))))), ((u801_b (S + 4) i (by omega)).trans ((u799_a i (by omega)).trans ((u797_b (T + 4) i (by omega)).trans ((u795_b (T + 4) i (by omega)).trans ((u793_b (T + 4) i (by omega)).trans ((u790.2.1 (T + 4) i (fun q => by have q2 := q.1; omega)).trans ((u788.2.1 (T + 4) i (fun q => by have q2 := q.1; omega)).trans ((u786.2.1 (T + 4) i (fun q => by have q2 := q.1; omega)).trans (gv i (by omega)).2.2.2))))))))⟩, fun i hi => ((u801_a i (by omega)).trans ((u799_b (T + 5) i (by omega)).trans ((u797_b (T + 5) i (by omega)).trans ((u795_b (T + 5) i (by omega)).trans ((u793_b (T + 5) i (by omega)).trans ((u790.2.1 (T + 5) i (fun q => by have q2 := q.1; omega)).trans ((u788.2.1 (T + 5) i (fun q => by have q2 := q.1; omega)).trans ((u786.2.1 (T + 5) i (fun q => by have q2 := q.1; omega)).trans (gw i (by omega))))))))))⟩
theorem zCo_d {S T P G : Nat} {v : Nat → Nat} {p q : pm_H} (hst : S + 5 < T ∨ T + 5 < S) (f : zCo S p q) (h : zSd p T P G v) : zSd q T P G v := zSd_F f (by intro i hi; simp <;> omega) (by intro j i hj; simp <;> omega) h
/-- the classes of States: now, before, trial; past; shelf -/
theorem zSadr_past {i : Nat} (hi : i < 15) : zSadr (45 + 6 * i) = true := by
  have h : ∀ i, i < 15 → zSadr (45 + 6 * i) = true := by decide
  exact h i hi
theorem zSadr_shelf {i : Nat} (hi : i < 3) : zSadr (136 + 6 * i) = true := by
  have h : ∀ i, i < 3 → zSadr (136 + 6 * i) = true := by decide
  exact h i hi
theorem zco_ok : (List.range 160).all (fun S => !zSadr S || zok [S + 1, S + 2, S + 3, S + 4, S + 5] [(S, 0), (S, 1), (S, 2)]) = true := by decide +kernel
theorem zCo_S {S : Nat} {p q : pm_H} (hS : zSadr S = true) (f : zCo S p q) (h : zSh p) : zSh q := by
  have hlt : S < 160 := by
    unfold zSadr at hS
    simp only [Bool.or_eq_true, Bool.and_eq_true, beq_iff_eq, decide_eq_true_eq] at hS
    omega
  have h1 := List.all_eq_true.mp zco_ok S (List.mem_range.mpr hlt)
  rw [hS] at h1
  exact zSh_F f (by simpa using h1) h
theorem zs_44 : ∀ i, i < 15 → zlk zstatL 44 i = some (45 + 6 * i) := by decide +kernel
theorem zs_135 : ∀ i, i < 3 → zlk zstatL 135 i = some (136 + 6 * i) := by decide +kernel
theorem zc_push {ph : pm_H} (hS : zSh ph) {T P G nx u : Nat} {v : Nat → Nat} (hT : T = 25 ∨ T = 31) (hd : zSd ph T P G v) (hnx : zc ph 43 1 = some (.int (zn nx))) (hu : zc ph 43 2 = some (.int (zn u))) (hn15 : nx < 15) (hu15 : u ≤ 15) : zM 28 [.ref 43, .ref T] ph (fun v0 q => v0 = none ∧ (∃ q1 q2, zCo (45 + 6 * nx) ph q1 ∧ zst q1 q2 43 1 (.int (zn (if nx + 1 < 15 then nx + 1 else 0))) ∧ zst q2 q 43 2 (.int (zn (min 15 (u + 1))))) ∧ zSd q (45 + 6 * nx) P G v) := by
  obtain ⟨Q, hQ⟩ : ∃ Q : Option Value → pm_H → Prop, Q = (fun v0 q => v0 = none ∧ (∃ q1 q2, zCo (45 + 6 * nx) ph q1 ∧ zst q1 q2 43 1 (.int (zn (if nx + 1 < 15 then nx + 1 else 0))) ∧ zst q2 q 43 2 (.int (zn (min 15 (u + 1))))) ∧ zSd q (45 + 6 * nx) P G v) := ⟨_, rfl⟩
  rw [← hQ]
  refine zM_mk fun n D => ?_
  show zW n D 28 Q 0 [some (.ref 43), some (.ref T)] [] ph
  have c_0 : ((Int8.ofInt 15).toInt32).toInt = 15 := by decide
  have c_1 : (Int32.ofInt 0).toInt = 0 := by decide
  have c_2 : (Int32.ofInt 1).toInt = 1 := by decide
  have tnx := znt (k := nx) (by omega)
  have tu := znt (k := u) (by omega)
  refine w_load (pc' := 1) (v := .ref 43) (m := 1) (ykc_28 (e := (2, .aload_n kF0, 0)) rfl) rfl rfl ?_
  refine w_gf (pc' := 4) (v := .int (zn nx)) (ykc_28 (e := (5, .getfield 23, 0)) rfl) rfl hnx rfl ?_
  refine w_zlt (ykc_28 (e := (4, .ifCond .lt 12, 16)) rfl) rfl (fun q => by exfalso; omega) (fun b802 => ?_)
  refine w_load (pc' := 8) (v := .ref 43) (m := 1) (ykc_28 (e := (2, .aload_n kF0, 0)) rfl) rfl rfl ?_
  refine w_gf (pc' := 11) (v := .int (zn nx)) (ykc_28 (e := (5, .getfield 23, 0)) rfl) rfl hnx rfl ?_
  refine w_push (pc' := 13) (v := .int ((Int8.ofInt 15).toInt32)) (m := 2) (ykc_28 (e := (1, .bipush 15, 0)) rfl) rfl rfl ?_
  refine w_ilt (ykc_28 (e := (4, .if_icmp .lt 4, 17)) rfl) rfl (fun b803 => ?_) (fun q => by exfalso; omega)
  refine w_load (pc' := 18) (v := .ref 43) (m := 1) (ykc_28 (e := (2, .aload_n kF0, 0)) rfl) rfl rfl ?_
  refine w_gf (pc' := 21) (v := .ref 44) (ykc_28 (e := (5, .getfield 11, 0)) rfl) rfl (zsg hS zs_43_0) rfl ?_
  refine w_load (pc' := 22) (v := .ref 43) (m := 1) (ykc_28 (e := (2, .aload_n kF0, 0)) rfl) rfl rfl ?_
  refine w_gf (pc' := 25) (v := .int (zn nx)) (ykc_28 (e := (5, .getfield 23, 0)) rfl) rfl hnx rfl ?_
  refine w_aalk (pc' := 26) (k := nx) (ykc_28 (e := (5, .aaload, 0)) rfl) (hS.1 _ _ _ (zs_44 nx (by omega))) (by omega) rfl ?_
  refine w_load (pc' := 27) (v := .ref T) (m := 1) (ykc_28 (e := (2, .aload_n kF1, 0)) rfl) rfl rfl ?_
  refine w_cv (as := [.ref (45 + 6 * nx), .ref T]) (r := []) (ykc_28 (e := (6, .invokevirtual 29, 0)) rfl) rfl rfl rfl rfl (zc_copy (zSs_of hS (by rcases hT with e | e <;> subst e <;> decide)) (zSs_of hS (zSadr_past hn15)) hd (by omega)) (fun v804 ph805 hv => ?_)
  obtain ⟨rfl, fc, fd⟩ := hv
  show zW n D 28 Q 30 [some (.ref 43), some (.ref T)] [] ph805
  refine w_load (pc' := 31) (v := .ref 43) (m := 1) (ykc_28 (e := (2, .aload_n kF0, 0)) rfl) rfl rfl ?_
  refine w_load (pc' := 32) (v := .ref 43) (m := 1) (ykc_28 (e := (2, .aload_n kF0, 0)) rfl) rfl rfl ?_
  refine w_gf (pc' := 35) (v := .int (zn nx)) (ykc_28 (e := (5, .getfield 23, 0)) rfl) rfl ((fc.1 43 1 (by simp <;> omega) (by simp <;> omega)).trans hnx) rfl ?_
  refine w_alu (pc' := 36) (st' := [.int (Int32.ofInt 1), .int (zn nx), .ref 43]) (ykc_28 (e := (0, .iconst 1, 0)) rfl) rfl rfl ?_
  have e806 : (zn nx) + (Int32.ofInt 1) = zn (nx + 1) := (zaddN (a := nx) (b := 1) (znt (by omega)) c_2 (by omega)) 
  have te806 := znt (k := nx + 1) (by omega)
  refine w_alu (pc' := 37) (st' := [.int (zn (nx + 1)), .ref 43]) (ykc_28 (e := (0, .iadd, 0)) rfl) (by rw [← e806]; rfl) rfl ?_
  refine w_push (pc' := 39) (v := .int ((Int8.ofInt 15).toInt32)) (m := 2) (ykc_28 (e := (1, .bipush 15, 0)) rfl) rfl rfl ?_
  refine w_ige (ykc_28 (e := (4, .if_icmp .ge 12, 51)) rfl) rfl (fun b807 => ?_) (fun b807 => ?_)
  · refine w_alu (pc' := 52) (st' := [.int (Int32.ofInt 0), .ref 43]) (ykc_28 (e := (0, .iconst 0, 0)) rfl) rfl rfl ?_
    refine w_pf (pc' := 55) (ykc_28 (e := (5, .putfield 23, 0)) rfl) rfl rfl (fun ph809 u808 => ?_)
    refine w_load (pc' := 56) (v := .ref 43) (m := 1) (ykc_28 (e := (2, .aload_n kF0, 0)) rfl) rfl rfl ?_
    refine w_push (pc' := 58) (v := .int ((Int8.ofInt 15).toInt32)) (m := 2) (ykc_28 (e := (1, .bipush 15, 0)) rfl) rfl rfl ?_
    refine w_load (pc' := 59) (v := .ref 43) (m := 1) (ykc_28 (e := (2, .aload_n kF0, 0)) rfl) rfl rfl ?_
    refine w_gf (pc' := 62) (v := .int (zn u)) (ykc_28 (e := (5, .getfield 26, 0)) rfl) rfl ((u808.2.1 43 2 (fun q => absurd q.2 (by decide))).trans ((fc.1 43 2 (by simp <;> omega) (by simp <;> omega)).trans hu)) rfl ?_
    refine w_alu (pc' := 63) (st' := [.int (Int32.ofInt 1), .int (zn u), .int ((Int8.ofInt 15).toInt32), .ref 43]) (ykc_28 (e := (0, .iconst 1, 0)) rfl) rfl rfl ?_
    have e810 : (zn u) + (Int32.ofInt 1) = zn (u + 1) := (zaddN (a := u) (b := 1) (znt (by omega)) c_2 (by omega)) 
    have te810 := znt (k := u + 1) (by omega)
    refine w_alu (pc' := 64) (st' := [.int (zn (u + 1)), .int ((Int8.ofInt 15).toInt32), .ref 43]) (ykc_28 (e := (0, .iadd, 0)) rfl) (by rw [← e810]; rfl) rfl ?_
    obtain ⟨z811, e_z811⟩ : ∃ zq : Int32, (if (zn (u + 1)) < ((Int8.ofInt 15).toInt32) then (zn (u + 1)) else ((Int8.ofInt 15).toInt32)) = zq := ⟨_, rfl⟩
    have h_z811 := zminI e_z811
    have n_z811 : z811.toInt = ((min 15 (u + 1) : Nat) : Int) := by omega
    refine w_mem1 (pc' := 67) (m := 3) (st' := [.int z811, .ref 43]) (ph' := ph809) (ykc_28 (e := (5, .invokestatic 33, 0)) rfl) (by rw [← e_z811]; rfl) rfl ?_
    refine w_pf (pc' := 70) (ykc_28 (e := (5, .putfield 26, 0)) rfl) rfl rfl (fun ph813 u812 => ?_)
    refine w_ret (v := none) (ykc_28 (e := (7, .return_, 0)) rfl) (zr_v rfl) ?_
    obtain rfl := zn_of n_z811
    rw [hQ]
    refine ⟨rfl, ⟨_, _, fc, ?_, u812⟩, zSd_F (A := []) (F := [(43, 1), (43, 2)]) (zFr_trans (zFr_st u808 (Or.inr (by simp))) (zFr_st u812 (Or.inr (by simp)))) (by intro i hi; simp) (by intro j i hj; simp <;> omega) fd⟩
    rw [if_neg (show ¬ nx + 1 < 15 by omega)]
    exact u808
  · refine w_load (pc' := 43) (v := .ref 43) (m := 1) (ykc_28 (e := (2, .aload_n kF0, 0)) rfl) rfl rfl ?_
    refine w_gf (pc' := 46) (v := .int (zn nx)) (ykc_28 (e := (5, .getfield 23, 0)) rfl) rfl ((fc.1 43 1 (by simp <;> omega) (by simp <;> omega)).trans hnx) rfl ?_
    refine w_alu (pc' := 47) (st' := [.int (Int32.ofInt 1), .int (zn nx), .ref 43]) (ykc_28 (e := (0, .iconst 1, 0)) rfl) rfl rfl ?_
    have e814 : (zn nx) + (Int32.ofInt 1) = zn (nx + 1) := (zaddN (a := nx) (b := 1) (znt (by omega)) c_2 (by omega)) 
    have te814 := znt (k := nx + 1) (by omega)
    refine w_alu (pc' := 48) (st' := [.int (zn (nx + 1)), .ref 43]) (ykc_28 (e := (0, .iadd, 0)) rfl) (by rw [← e814]; rfl) rfl ?_
    refine w_br (pc' := 52) (st' := [.int (zn (nx + 1)), .ref 43]) (ykc_28 (e := (4, .goto 4, 52)) rfl) rfl ?_
    refine w_pf (pc' := 55) (ykc_28 (e := (5, .putfield 23, 0)) rfl) rfl rfl (fun ph816 u815 => ?_)
    refine w_load (pc' := 56) (v := .ref 43) (m := 1) (ykc_28 (e := (2, .aload_n kF0, 0)) rfl) rfl rfl ?_
    refine w_push (pc' := 58) (v := .int ((Int8.ofInt 15).toInt32)) (m := 2) (ykc_28 (e := (1, .bipush 15, 0)) rfl) rfl rfl ?_
    refine w_load (pc' := 59) (v := .ref 43) (m := 1) (ykc_28 (e := (2, .aload_n kF0, 0)) rfl) rfl rfl ?_
    refine w_gf (pc' := 62) (v := .int (zn u)) (ykc_28 (e := (5, .getfield 26, 0)) rfl) rfl ((u815.2.1 43 2 (fun q => absurd q.2 (by decide))).trans ((fc.1 43 2 (by simp <;> omega) (by simp <;> omega)).trans hu)) rfl ?_
    refine w_alu (pc' := 63) (st' := [.int (Int32.ofInt 1), .int (zn u), .int ((Int8.ofInt 15).toInt32), .ref 43]) (ykc_28 (e := (0, .iconst 1, 0)) rfl) rfl rfl ?_
    have e817 : (zn u) + (Int32.ofInt 1) = zn (u + 1) := (zaddN (a := u) (b := 1) (znt (by omega)) c_2 (by omega)) 
    have te817 := znt (k := u + 1) (by omega)
    refine w_alu (pc' := 64) (st' := [.int (zn (u + 1)), .int ((Int8.ofInt 15).toInt32), .ref 43]) (ykc_28 (e := (0, .iadd, 0)) rfl) (by rw [← e817]; rfl) rfl ?_
    obtain ⟨z818, e_z818⟩ : ∃ zq : Int32, (if (zn (u + 1)) < ((Int8.ofInt 15).toInt32) then (zn (u + 1)) else ((Int8.ofInt 15).toInt32)) = zq := ⟨_, rfl⟩
    have h_z818 := zminI e_z818
    have n_z818 : z818.toInt = ((min 15 (u + 1) : Nat) : Int) := by omega
    refine w_mem1 (pc' := 67) (m := 3) (st' := [.int z818, .ref 43]) (ph' := ph816) (ykc_28 (e := (5, .invokestatic 33, 0)) rfl) (by rw [← e_z818]; rfl) rfl ?_
    refine w_pf (pc' := 70) (ykc_28 (e := (5, .putfield 26, 0)) rfl) rfl rfl (fun ph820 u819 => ?_)
    refine w_ret (v := none) (ykc_28 (e := (7, .return_, 0)) rfl) (zr_v rfl) ?_
    obtain rfl := zn_of n_z818
    rw [hQ]
    refine ⟨rfl, ⟨_, _, fc, ?_, u819⟩, zSd_F (A := []) (F := [(43, 1), (43, 2)]) (zFr_trans (zFr_st u815 (Or.inr (by simp))) (zFr_st u819 (Or.inr (by simp)))) (by intro i hi; simp) (by intro j i hj; simp <;> omega) fd⟩
    rw [if_pos (show nx + 1 < 15 by omega)]
    exact u815
theorem zc_pop {ph : pm_H} (hS : zSh ph) {P G nx u : Nat} {w : Nat → Nat} (hnx : zc ph 43 1 = some (.int (zn nx))) (hu : zc ph 43 2 = some (.int (zn u))) (hn15 : nx < 15) (hu15 : u ≤ 15) (hd : 0 < u → zSd ph (45 + 6 * ((nx + 14) % 15)) P G w) : zM 29 [.ref 43, .ref 25] ph (fun v0 q => (u = 0 ∧ ph = q ∧ v0 = some (.int (zI false))) ∨ (0 < u ∧ v0 = some (.int (zI true)) ∧ (∃ q1 q2, zCo 25 ph q1 ∧ zst q1 q2 43 1 (.int (zn ((nx + 14) % 15))) ∧ zst q2 q 43 2 (.int (zn (u - 1)))) ∧ zSd q 25 P G w)) := by
  obtain ⟨Q, hQ⟩ : ∃ Q : Option Value → pm_H → Prop, Q = (fun v0 q => (u = 0 ∧ ph = q ∧ v0 = some (.int (zI false))) ∨ (0 < u ∧ v0 = some (.int (zI true)) ∧ (∃ q1 q2, zCo 25 ph q1 ∧ zst q1 q2 43 1 (.int (zn ((nx + 14) % 15))) ∧ zst q2 q 43 2 (.int (zn (u - 1)))) ∧ zSd q 25 P G w)) := ⟨_, rfl⟩
  rw [← hQ]
  refine zM_mk fun n D => ?_
  show zW n D 29 Q 0 [some (.ref 43), some (.ref 25), none] [] ph
  have c_0 : ((Int8.ofInt 14).toInt32).toInt = 14 := by decide
  have c_1 : ((Int8.ofInt 15).toInt32).toInt = 15 := by decide
  have c_2 : (Int32.ofInt 0).toInt = 0 := by decide
  have c_3 : (Int32.ofInt 1).toInt = 1 := by decide
  have tnx := znt (k := nx) (by omega)
  have tu := znt (k := u) (by omega)
  have tl := znt (k := (nx + 14) % 15) (by omega)
  refine w_load (pc' := 1) (v := .ref 43) (m := 1) (ykc_29 (e := (2, .aload_n kF0, 0)) rfl) rfl rfl ?_
  refine w_gf (pc' := 4) (v := .int (zn nx)) (ykc_29 (e := (5, .getfield 23, 0)) rfl) rfl hnx rfl ?_
  suffices j822 : ∀ y_ : Int32, (y_ = zn ((nx + 14) % 15)) → zW n D 29 Q 18 [some (.ref 43), some (.ref 25), none] [.int y_] ph by
    refine w_zle (ykc_29 (e := (4, .ifCond .le 12, 16)) rfl) rfl (fun b823 => ?_) (fun b823 => ?_)
    · refine w_push (pc' := 18) (v := .int ((Int8.ofInt 14).toInt32)) (m := 2) (ykc_29 (e := (1, .bipush 14, 0)) rfl) rfl rfl ?_
      exact j822 ((Int8.ofInt 14).toInt32) (zn_of (by omega))
    · refine w_load (pc' := 8) (v := .ref 43) (m := 1) (ykc_29 (e := (2, .aload_n kF0, 0)) rfl) rfl rfl ?_
      refine w_gf (pc' := 11) (v := .int (zn nx)) (ykc_29 (e := (5, .getfield 23, 0)) rfl) rfl hnx rfl ?_
      refine w_alu (pc' := 12) (st' := [.int (Int32.ofInt 1), .int (zn nx)]) (ykc_29 (e := (0, .iconst 1, 0)) rfl) rfl rfl ?_
      obtain ⟨z824, e_z824, h_z824⟩ : ∃ zq : Int32, (zn nx) - (Int32.ofInt 1) = zq ∧ zq.toInt = ((nx : Nat) : Int) - (1 : Int) := ⟨_, rfl, (by have := ti_sub (x := (zn nx)) (y := (Int32.ofInt 1)) (by omega) (by omega); omega)⟩
      refine w_alu (pc' := 13) (st' := [.int z824]) (ykc_29 (e := (0, .isub, 0)) rfl) (by rw [← e_z824]; rfl) rfl ?_
      refine w_br (pc' := 18) (st' := [.int z824]) (ykc_29 (e := (4, .goto 5, 18)) rfl) rfl ?_
      exact j822 z824 (zn_of (by omega))
  intro y821 h_y821
  show zW n D 29 Q 18 [some (.ref 43), some (.ref 25), none] [.int y821] ph
  subst h_y821
  show zW n D 29 Q 18 [some (.ref 43), some (.ref 25), none] [.int (zn ((nx + 14) % 15))] ph
  refine w_store (pc' := 19) (L' := [some (.ref 43), some (.ref 25), some (.int (zn ((nx + 14) % 15)))]) (st' := []) (m := 1) (ykc_29 (e := (3, .istore_n kF2, 0)) rfl) rfl rfl ?_
  refine w_load (pc' := 20) (v := .ref 43) (m := 1) (ykc_29 (e := (2, .aload_n kF0, 0)) rfl) rfl rfl ?_
  refine w_gf (pc' := 23) (v := .int (zn u)) (ykc_29 (e := (5, .getfield 26, 0)) rfl) rfl hu rfl ?_
  refine w_zeq (ykc_29 (e := (4, .ifCond .eq 9, 32)) rfl) rfl (fun b825 => ?_) (fun b825 => ?_)
  · refine w_alu (pc' := 33) (st' := [.int (Int32.ofInt 0)]) (ykc_29 (e := (0, .iconst 0, 0)) rfl) rfl rfl ?_
    refine w_ret (v := (some (.int (Int32.ofInt 0)))) (ykc_29 (e := (7, .ireturn, 0)) rfl) zr_z ?_
    rw [hQ, zi0]
    exact Or.inl ⟨by omega, rfl, rfl⟩
  · refine w_load (pc' := 27) (v := .int (zn ((nx + 14) % 15))) (m := 1) (ykc_29 (e := (2, .iload_n kF2, 0)) rfl) rfl rfl ?_
    refine w_push (pc' := 29) (v := .int ((Int8.ofInt 15).toInt32)) (m := 2) (ykc_29 (e := (1, .bipush 15, 0)) rfl) rfl rfl ?_
    refine w_ilt (ykc_29 (e := (4, .if_icmp .lt 5, 34)) rfl) rfl (fun b826 => ?_) (fun q => by exfalso; omega)
    refine w_load (pc' := 35) (v := .ref 25) (m := 1) (ykc_29 (e := (2, .aload_n kF1, 0)) rfl) rfl rfl ?_
    refine w_load (pc' := 36) (v := .ref 43) (m := 1) (ykc_29 (e := (2, .aload_n kF0, 0)) rfl) rfl rfl ?_
    refine w_gf (pc' := 39) (v := .ref 44) (ykc_29 (e := (5, .getfield 11, 0)) rfl) rfl (zsg hS zs_43_0) rfl ?_
    refine w_load (pc' := 40) (v := .int (zn ((nx + 14) % 15))) (m := 1) (ykc_29 (e := (2, .iload_n kF2, 0)) rfl) rfl rfl ?_
    refine w_aalk (pc' := 41) (k := (nx + 14) % 15) (ykc_29 (e := (5, .aaload, 0)) rfl) (hS.1 _ _ _ (zs_44 ((nx + 14) % 15) (by omega))) (by omega) rfl ?_
    refine w_cv (as := [.ref 25, .ref (45 + 6 * ((nx + 14) % 15))]) (r := []) (ykc_29 (e := (6, .invokevirtual 29, 0)) rfl) rfl rfl rfl rfl (zc_copy (zSs_of hS (zSadr_past (by omega))) (zSs_of hS (S := 25) (by decide)) (hd (by omega)) (by omega)) (fun v827 ph828 hv => ?_)
    obtain ⟨rfl, fc, fd⟩ := hv
    show zW n D 29 Q 44 [some (.ref 43), some (.ref 25), some (.int (zn ((nx + 14) % 15)))] [] ph828
    refine w_load (pc' := 45) (v := .ref 43) (m := 1) (ykc_29 (e := (2, .aload_n kF0, 0)) rfl) rfl rfl ?_
    refine w_load (pc' := 46) (v := .int (zn ((nx + 14) % 15))) (m := 1) (ykc_29 (e := (2, .iload_n kF2, 0)) rfl) rfl rfl ?_
    refine w_pf (pc' := 49) (ykc_29 (e := (5, .putfield 23, 0)) rfl) rfl rfl (fun ph830 u829 => ?_)
    refine w_load (pc' := 50) (v := .ref 43) (m := 1) (ykc_29 (e := (2, .aload_n kF0, 0)) rfl) rfl rfl ?_
    refine w_alu (pc' := 51) (st' := [.ref 43, .ref 43]) (ykc_29 (e := (0, .dup, 0)) rfl) rfl rfl ?_
    refine w_gf (pc' := 54) (v := .int (zn u)) (ykc_29 (e := (5, .getfield 26, 0)) rfl) rfl ((u829.2.1 43 2 (fun q => absurd q.2 (by decide))).trans ((fc.1 43 2 (by decide) (by decide)).trans hu)) rfl ?_
    refine w_alu (pc' := 55) (st' := [.int (Int32.ofInt 1), .int (zn u), .ref 43]) (ykc_29 (e := (0, .iconst 1, 0)) rfl) rfl rfl ?_
    have e831 : (zn u) - (Int32.ofInt 1) = zn (u - 1) := zsubN (a := u) (b := 1) (znt (by omega)) c_3 (by omega)
    have te831 := znt (k := u - 1) (by omega)
    refine w_alu (pc' := 56) (st' := [.int (zn (u - 1)), .ref 43]) (ykc_29 (e := (0, .isub, 0)) rfl) (by show some ([.int ((zn u) - (Int32.ofInt 1)), .ref 43] : List Value) = _; rw [e831]) rfl ?_
    refine w_pf (pc' := 59) (ykc_29 (e := (5, .putfield 26, 0)) rfl) rfl rfl (fun ph833 u832 => ?_)
    refine w_alu (pc' := 60) (st' := [.int (Int32.ofInt 1)]) (ykc_29 (e := (0, .iconst 1, 0)) rfl) rfl rfl ?_
    refine w_ret (v := (some (.int (Int32.ofInt 1)))) (ykc_29 (e := (7, .ireturn, 0)) rfl) zr_z ?_
    rw [hQ, zi1]
    exact Or.inr ⟨by omega, rfl, ⟨_, _, fc, u829, u832⟩, zSd_F (A := []) (F := [(43, 1), (43, 2)]) (zFr_trans (zFr_st u829 (Or.inr (by simp))) (zFr_st u832 (Or.inr (by simp)))) (by intro i hi; simp) (by intro j i hj; simp <;> omega) fd⟩
