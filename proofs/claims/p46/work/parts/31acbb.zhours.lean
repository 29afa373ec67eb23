/-! hours, of both, by W; printed by wip/z/z_z_hours.py -/
theorem zKC_n {p q : pm_H} {R C P G nx u fl hn : Nat} {rk : Nat → Bool} {v : Nat → Nat} {w sv : Nat → Nat → Nat} (f : zFr [4] [(3, 1)] p q) (h : zKC p R C rk P G v nx u w fl sv hn) : zKC q R C rk P G v nx u w fl sv hn := ⟨zCl_F f (by first | exact ⟨zqm rfl, zqm rfl, zqm rfl⟩ | simp) (by intro i hi; simp) (by simp) h.1, zSd_F f (by intro j hj; simp <;> omega) (by intro j k hj; simp <;> omega) h.2.1, zCu_F f (by first | exact zqm rfl | simp) (by first | exact ⟨zqp rfl, zqp rfl⟩ | simp) (by intro j h1 h2; simp <;> omega) (by intro j i h1 h2; simp <;> omega) h.2.2.1, zCk_F f (by first | exact zqm rfl | simp) (by first | exact zqp rfl | simp) (by intro j h1 h2; simp <;> omega) (by intro j i h1 h2; simp <;> omega) h.2.2.2.1, (f.1 _ _ (by first | exact zqm rfl | simp) (by first | exact zqp rfl | simp)).trans h.2.2.2.2.1, h.2.2.2.2.2⟩
theorem zN_S {p q : pm_H} (f : zFr [4] [(3, 1)] p q) (h : zSh p) : zSh q := zSh_F f (by decide +kernel) h
theorem zN_b {p q : pm_H} {P G : Nat} {v : Nat → Nat} (f : zFr [4] [(3, 1)] p q) (h : zSd p 31 P G v) : zSd q 31 P G v := zSd_F f (by intro j hj; simp <;> omega) (by intro j k hj; simp <;> omega) h
/-- hours passed, then the row before them put into the history -/
theorem zKC_pp {p1 p2 q1 q2 q : pm_H} {R C P G nx u fl hn : Nat} {rk : Nat → Bool} {v v2 : Nat → Nat} {w sv : Nat → Nat → Nat} (h : zKC p1 R C rk P G v nx u w fl sv hn) (f0 : zCp 25 p1 p2) (hd2 : zSd p2 25 P G v2) (f : zCo (45 + 6 * nx) p2 q1) (u1 : zst q1 q2 43 1 (.int (zn (if nx + 1 < 15 then nx + 1 else 0)))) (u2 : zst q2 q 43 2 (.int (zn (min 15 (u + 1))))) (hd : zSd q (45 + 6 * nx) P G v) : zKC q R C rk P G v2 (if nx + 1 < 15 then nx + 1 else 0) (zAd u) (zAw u (zWp u w v)) fl sv hn := by
  obtain ⟨hL, h25, hU, hk, hh⟩ := h
  have fr : zFr [] [(43, 1), (43, 2)] q1 q := zFr_trans (zFr_st u1 (Or.inr (by first | exact zqj rfl | simp))) (zFr_st u2 (Or.inr (by first | exact zqj rfl | simp)))
  have hnx := hU.2.1
  refine ⟨?_, ?_, zCu_push (zCu_F f0 (by first | exact zqm rfl | simp) (by first | exact ⟨zqp rfl, zqp rfl⟩ | simp) (by intro j h1 h2; simp <;> omega) (by intro j i h1 h2; simp <;> omega) hU) f u1 u2 hd, ?_, ?_, hh.2⟩
  · exact zCl_F fr (by first | exact ⟨zqm rfl, zqm rfl, zqm rfl⟩ | simp) (by intro i hi; simp) (by simp) (zCl_F f (by simp <;> omega) (by intro i hi; simp <;> omega) (by intro i; simp <;> omega) (zCl_F f0 (by first | exact ⟨zqm rfl, zqm rfl, zqm rfl⟩ | simp) (by intro i hi; simp <;> omega) (by simp) hL))
  · exact zSd_F fr (by intro j hj; simp) (by intro j k hj; simp <;> omega) (zCo_d (by omega) f hd2)
  · exact zCk_F fr (by first | exact zqm rfl | simp) (by first | exact zqp rfl | simp) (by intro j h1 h2; simp) (by intro j i h1 h2; simp <;> omega) (zCk_F f (by simp <;> omega) (by simp <;> omega) (by intro j h1 h2; simp <;> omega) (by intro j i h1 h2; simp <;> omega) (zCk_F f0 (by first | exact zqm rfl | simp) (by first | exact zqp rfl | simp) (by intro j h1 h2; simp <;> omega) (by intro j i h1 h2; simp <;> omega) hk))
  · exact (fr.1 _ _ (by first | exact zqm rfl | simp) (by first | exact zqp rfl | simp)).trans ((f.1 _ _ (by simp <;> omega) (by simp <;> omega)).trans ((f0.1 _ _ (by first | exact zqm rfl | simp) (by first | exact zqp rfl | simp)).trans hh.1))
theorem zc_anew {ph : pm_H} : zM 57 [.ref 3] ph (fun v0 q => v0 = some (.ref 3) ∧ zFr [4] [(3, 1)] ph q ∧ zc q 3 1 = some (.int (zn 0))) := by
  obtain ⟨Q, hQ⟩ : ∃ Q : Option Value → pm_H → Prop, Q = (fun v0 q => v0 = some (.ref 3) ∧ zFr [4] [(3, 1)] ph q ∧ zc q 3 1 = some (.int (zn 0))) := ⟨_, rfl⟩
  rw [← hQ]
  refine zM_mk fun n D => ?_
  show zW n D 57 Q 0 [some (.ref 3)] [] ph
  have c_0 : (Int32.ofInt 0).toInt = 0 := by decide +kernel
  refine w_load (pc' := 1) (v := .ref 3) (m := 1) (ykc_57 (e := (2, .aload_n kF0, 0)) rfl) rfl rfl ?_
  refine w_alu (pc' := 2) (st' := [.int (Int32.ofInt 0), .ref 3]) (ykc_57 (e := (0, .iconst 0, 0)) rfl) rfl rfl ?_
  refine w_pf (pc' := 5) (ykc_57 (e := (5, .putfield 15, 0)) rfl) rfl rfl (fun ph1326 u1325 => ?_)
  refine w_load (pc' := 6) (v := .ref 3) (m := 1) (ykc_57 (e := (2, .aload_n kF0, 0)) rfl) rfl rfl ?_
  refine w_ret (v := (some (.ref 3))) (ykc_57 (e := (7, .areturn, 0)) rfl) (zr_v rfl) ?_
  rw [hQ]
  exact ⟨rfl, zFr_st u1325 (Or.inr (by first | exact zqj rfl | simp)), u1325.1⟩
theorem zc_add {ph : pm_H} (hS : zSh ph) {k : Nat} {x : Int64} (hk : zc ph 3 1 = some (.int (zn k))) (h49 : k < 49) : zM 58 [.ref 3, .long x] ph (fun v0 q => v0 = some (.ref 3) ∧ zFr [4] [(3, 1)] ph q ∧ zc q 3 1 = some (.int (zn (k + 1)))) := by
  obtain ⟨Q, hQ⟩ : ∃ Q : Option Value → pm_H → Prop, Q = (fun v0 q => v0 = some (.ref 3) ∧ zFr [4] [(3, 1)] ph q ∧ zc q 3 1 = some (.int (zn (k + 1)))) := ⟨_, rfl⟩
  rw [← hQ]
  refine zM_mk fun n D => ?_
  show zW n D 58 Q 0 [some (.ref 3), some (.long x), none] [] ph
  have c_0 : ((Int8.ofInt 49).toInt32).toInt = 49 := by decide +kernel
  have c_1 : (Int32.ofInt 1).toInt = 1 := by decide +kernel
  have tk := znt (k := k) (by omega)
  refine w_load (pc' := 1) (v := .ref 3) (m := 1) (ykc_58 (e := (2, .aload_n kF0, 0)) rfl) rfl rfl ?_
  refine w_gf (pc' := 4) (v := .int (zn k)) (ykc_58 (e := (5, .getfield 15, 0)) rfl) rfl hk rfl ?_
  refine w_zlt (ykc_58 (e := (4, .ifCond .lt 32, 36)) rfl) rfl (fun q => by exfalso; omega) (fun b1327 => ?_)
  refine w_load (pc' := 8) (v := .ref 3) (m := 1) (ykc_58 (e := (2, .aload_n kF0, 0)) rfl) rfl rfl ?_
  refine w_gf (pc' := 11) (v := .int (zn k)) (ykc_58 (e := (5, .getfield 15, 0)) rfl) rfl hk rfl ?_
  refine w_push (pc' := 13) (v := .int ((Int8.ofInt 49).toInt32)) (m := 2) (ykc_58 (e := (1, .bipush 49, 0)) rfl) rfl rfl ?_
  refine w_ige (ykc_58 (e := (4, .if_icmp .ge 23, 36)) rfl) rfl (fun q => by exfalso; omega) (fun b1328 => ?_)
  refine w_load (pc' := 17) (v := .ref 3) (m := 1) (ykc_58 (e := (2, .aload_n kF0, 0)) rfl) rfl rfl ?_
  refine w_gf (pc' := 20) (v := .ref 4) (ykc_58 (e := (5, .getfield 11, 0)) rfl) rfl (zsg hS zs_3_0) rfl ?_
  refine w_load (pc' := 21) (v := .ref 3) (m := 1) (ykc_58 (e := (2, .aload_n kF0, 0)) rfl) rfl rfl ?_
  refine w_gf (pc' := 24) (v := .int (zn k)) (ykc_58 (e := (5, .getfield 15, 0)) rfl) rfl hk rfl ?_
  refine w_load (pc' := 25) (v := .long x) (m := 1) (ykc_58 (e := (2, .lload_n kF1, 0)) rfl) rfl rfl ?_
  refine w_las (pc' := 26) (k := k) (ykc_58 (e := (5, .lastore, 0)) rfl) (by omega) rfl (fun ph1330 u1329 => ?_)
  refine w_load (pc' := 27) (v := .ref 3) (m := 1) (ykc_58 (e := (2, .aload_n kF0, 0)) rfl) rfl rfl ?_
  refine w_alu (pc' := 28) (st' := [.ref 3, .ref 3]) (ykc_58 (e := (0, .dup, 0)) rfl) rfl rfl ?_
  refine w_gf (pc' := 31) (v := .int (zn k)) (ykc_58 (e := (5, .getfield 15, 0)) rfl) rfl ((u1329.2.1 3 1 (fun q => absurd q.1 (by first | exact Nat.ne_of_beq_eq_false rfl | decide))).trans hk) rfl ?_
  refine w_alu (pc' := 32) (st' := [.int (Int32.ofInt 1), .int (zn k), .ref 3]) (ykc_58 (e := (0, .iconst 1, 0)) rfl) rfl rfl ?_
  have e1331 : (zn k) + (Int32.ofInt 1) = zn (k + 1) := (zaddN (a := k) (b := 1) (znt (by omega)) c_1 (by omega)) 
  have te1331 := znt (k := k + 1) (by omega)
  refine w_alu (pc' := 33) (st' := [.int (zn (k + 1)), .ref 3]) (ykc_58 (e := (0, .iadd, 0)) rfl) (by rw [← e1331]; rfl) rfl ?_
  refine w_pf (pc' := 36) (ykc_58 (e := (5, .putfield 15, 0)) rfl) rfl rfl (fun ph1333 u1332 => ?_)
  refine w_load (pc' := 37) (v := .ref 3) (m := 1) (ykc_58 (e := (2, .aload_n kF0, 0)) rfl) rfl rfl ?_
  refine w_ret (v := (some (.ref 3))) (ykc_58 (e := (7, .areturn, 0)) rfl) (zr_v rfl) ?_
  rw [hQ]
  exact ⟨rfl, zFr_trans (zFr_st u1329 (Or.inl (by first | exact zqi rfl | simp))) (zFr_st u1332 (Or.inr (by first | exact zqj rfl | simp))), u1332.1⟩
theorem zc_some {ph : pm_H} {S P G : Nat} {v : Nat → Nat} (hs : zSs ph S) (hd : zSd ph S P G v) : zM 109 [.ref S] ph (fun v0 q => ph = q ∧ ∃ y, v0 = some (.int y)) := by
  obtain ⟨Q, hQ⟩ : ∃ Q : Option Value → pm_H → Prop, Q = (fun v0 q => ph = q ∧ ∃ y, v0 = some (.int y)) := ⟨_, rfl⟩
  rw [← hQ]
  refine zM_mk fun n D => ?_
  show zW n D 109 Q 0 [some (.ref S), none, none] [] ph
  have c_0 : ((Int8.ofInt 8).toInt32).toInt = 8 := by decide +kernel
  have c_1 : (Int32.ofInt 0).toInt = 0 := by decide +kernel
  have c_2 : (Int32.ofInt 1).toInt = 1 := by decide +kernel
  have hd0 := hd
  have hs0 := hs
  obtain ⟨r3, r4, r5, r6, r7, l1, l2, l3, l4, l5⟩ := hs
  obtain ⟨gP, hP8, gG, hG8, gH, gv, gw⟩ := hd
  have tP := znt (k := P) (by omega)
  have tG := znt (k := G) (by omega)
  refine w_alu (pc' := 1) (st' := [.int (Int32.ofInt 0)]) (ykc_109 (e := (0, .iconst 0, 0)) rfl) rfl rfl ?_
  refine w_store (pc' := 2) (L' := [some (.ref S), some (.int (Int32.ofInt 0)), none]) (st' := []) (m := 1) (ykc_109 (e := (3, .istore_n kF1, 0)) rfl) rfl rfl ?_
  refine w_alu (pc' := 3) (st' := [.int (Int32.ofInt 0)]) (ykc_109 (e := (0, .iconst 0, 0)) rfl) rfl rfl ?_
  refine w_store (pc' := 4) (L' := [some (.ref S), some (.int (Int32.ofInt 0)), some (.int (Int32.ofInt 0))]) (st' := []) (m := 1) (ykc_109 (e := (3, .istore_n kF2, 0)) rfl) rfl rfl ?_
  have hl : ∀ (n : Nat), ∀ (k : Nat) (a : Int32), (k ≤ P) → zW n D 109 Q 4 [some (.ref S), some (.int a), some (.int (zn k))] [] ph := by
    intro n
    induction n using Nat.strongRecOn with
    | ind n ih =>
      intro k a hk
      have tk := znt (k := k) (by omega)
      refine w_load (pc' := 5) (v := .int (zn k)) (m := 1) (ykc_109 (e := (2, .iload_n kF2, 0)) rfl) rfl rfl ?_
      refine w_load (pc' := 6) (v := .ref S) (m := 1) (ykc_109 (e := (2, .aload_n kF0, 0)) rfl) rfl rfl ?_
      refine w_gf (pc' := 9) (v := .int (zn P)) (ykc_109 (e := (5, .getfield 30, 0)) rfl) rfl gP rfl ?_
      refine w_ige (ykc_109 (e := (4, .if_icmp .ge 24, 33)) rfl) rfl (fun b1334 => ?_) (fun b1334 => ?_)
      · refine w_load (pc' := 34) (v := .int a) (m := 1) (ykc_109 (e := (2, .iload_n kF1, 0)) rfl) rfl rfl ?_
        refine w_ret (v := (some (.int a))) (ykc_109 (e := (7, .ireturn, 0)) rfl) (zr_v rfl) ?_
        rw [hQ]
        exact ⟨rfl, _, rfl⟩
      · refine w_load (pc' := 13) (v := .int (zn k)) (m := 1) (ykc_109 (e := (2, .iload_n kF2, 0)) rfl) rfl rfl ?_
        refine w_push (pc' := 15) (v := .int ((Int8.ofInt 8).toInt32)) (m := 2) (ykc_109 (e := (1, .bipush 8, 0)) rfl) rfl rfl ?_
        refine w_ige (ykc_109 (e := (4, .if_icmp .ge 18, 33)) rfl) rfl (fun q => by exfalso; omega) (fun b1335 => ?_)
        refine w_load (pc' := 19) (v := .int a) (m := 1) (ykc_109 (e := (2, .iload_n kF1, 0)) rfl) rfl rfl ?_
        refine w_load (pc' := 20) (v := .ref S) (m := 1) (ykc_109 (e := (2, .aload_n kF0, 0)) rfl) rfl rfl ?_
        refine w_gf (pc' := 23) (v := .ref (S + 4)) (ykc_109 (e := (5, .getfield 21, 0)) rfl) rfl r6 rfl ?_
        refine w_load (pc' := 24) (v := .int (zn k)) (m := 1) (ykc_109 (e := (2, .iload_n kF2, 0)) rfl) rfl rfl ?_
        refine w_ialk (pc' := 25) (k := k) (ykc_109 (e := (5, .iaload, 0)) rfl) (gv k (by omega)).2.2.2 (by omega) rfl ?_
        refine w_alu (pc' := 26) (st' := [.int (a ||| (zn (v (24 + k))))]) (ykc_109 (e := (0, .ior, 0)) rfl) rfl rfl ?_
        refine w_store (pc' := 27) (L' := [some (.ref S), some (.int (a ||| (zn (v (24 + k))))), some (.int (zn k))]) (st' := []) (m := 1) (ykc_109 (e := (3, .istore_n kF1, 0)) rfl) rfl rfl ?_
        have e1336 : (zn k) + Int32.ofInt 1 = zn (k + 1) := (zaddN (a := k) (b := 1) (znt (by omega)) c_2 (by omega))
        have te1336 := znt (k := k + 1) (by omega)
        refine w_store (pc' := 30) (L' := [some (.ref S), some (.int (a ||| (zn (v (24 + k))))), some (.int (zn (k + 1)))]) (st' := []) (m := 3) (ykc_109 (e := (3, .iinc 2 1, 0)) rfl) (by rw [← e1336]; rfl) rfl ?_
        refine w_gb (ykc_109 (e := (4, .goto (-26), 4)) rfl) (fun k1337 hk1337 => ?_)
        exact ih k1337 hk1337 (k + 1) _ (by omega)
  exact hl n 0 _ (Nat.zero_le _)
theorem zc_hours {ph : pm_H} {R C P G nx u fl hn : Nat} {rk : Nat → Bool} {v : Nat → Nat} {w : Nat → Nat → Nat} {sv : Nat → Nat → Nat} (hS : zSh ph) (hK : zKC ph R C rk P G v nx u w fl sv hn) (hO0 : zOk R C P G v) {x : Int32} {T : (Nat → Nat) → Int32 → Prop} (h92 : 0 ≤ x.toInt → x.toInt ≤ 60 → ∀ q, zCo 31 ph q → zM 92 [.ref 10, .ref 25, .int x] q (fun v0 q2 => zCp 25 q q2 ∧ ∃ v2 y, v0 = some (.int y) ∧ 0 ≤ y.toInt ∧ zSd q2 25 P G v2 ∧ T v2 y)) : zM 133 [.ref 0, .int x] ph (fun v0 q => ((x.toInt < 0 ∨ 60 < x.toInt) ∧ v0 = some (.int (Int32.ofInt (-1))) ∧ zKC q R C rk P G v nx u w fl sv hn) ∨ (0 ≤ x.toInt ∧ x.toInt ≤ 60 ∧ ∃ v2 y, v0 = some (.int y) ∧ T v2 y ∧ ∃ nx1, zKC q R C rk P G v2 nx1 (zAd u) (zAw u (zWp u w v)) fl sv hn)) := by
  obtain ⟨Q, hQ⟩ : ∃ Q : Option Value → pm_H → Prop, Q = (fun v0 q => ((x.toInt < 0 ∨ 60 < x.toInt) ∧ v0 = some (.int (Int32.ofInt (-1))) ∧ zKC q R C rk P G v nx u w fl sv hn) ∨ (0 ≤ x.toInt ∧ x.toInt ≤ 60 ∧ ∃ v2 y, v0 = some (.int y) ∧ T v2 y ∧ ∃ nx1, zKC q R C rk P G v2 nx1 (zAd u) (zAw u (zWp u w v)) fl sv hn)) := ⟨_, rfl⟩
  rw [← hQ]
  refine zM_mk fun n D => ?_
  show zW n D 133 Q 0 [some (.ref 0), some (.int x), none] [] ph
  have c_0 : ((Int8.ofInt 60).toInt32).toInt = 60 := by decide +kernel
  have c_1 : (Int32.ofInt (-1)).toInt = -1 := by decide +kernel
  have hP8 : P ≤ 8 := hK.2.1.2.1
  refine w_load (pc' := 1) (v := .int x) (m := 1) (ykc_133 (e := (2, .iload_n kF1, 0)) rfl) rfl rfl ?_
  refine w_zlt (ykc_133 (e := (4, .ifCond .lt 9, 10)) rfl) rfl (fun b1338 => ?_) (fun b1338 => ?_)
  · refine w_alu (pc' := 11) (st' := [.int (Int32.ofInt (-1))]) (ykc_133 (e := (0, .iconst (-1), 0)) rfl) rfl rfl ?_
    refine w_ret (v := (some (.int (Int32.ofInt (-1))))) (ykc_133 (e := (7, .ireturn, 0)) rfl) (zr_v rfl) ?_
    rw [hQ]
    exact Or.inl ⟨by omega, rfl, hK⟩
  · refine w_load (pc' := 5) (v := .int x) (m := 1) (ykc_133 (e := (2, .iload_n kF1, 0)) rfl) rfl rfl ?_
    refine w_push (pc' := 7) (v := .int ((Int8.ofInt 60).toInt32)) (m := 2) (ykc_133 (e := (1, .bipush 60, 0)) rfl) rfl rfl ?_
    refine w_ile (ykc_133 (e := (4, .if_icmp .le 5, 12)) rfl) rfl (fun b1339 => ?_) (fun b1339 => ?_)
    · refine w_load (pc' := 13) (v := .ref 0) (m := 1) (ykc_133 (e := (2, .aload_n kF0, 0)) rfl) rfl rfl ?_
      refine w_gf (pc' := 16) (v := .ref 31) (ykc_133 (e := (5, .getfield 46, 0)) rfl) rfl (zsg hS zs_0_5) rfl ?_
      refine w_load (pc' := 17) (v := .ref 0) (m := 1) (ykc_133 (e := (2, .aload_n kF0, 0)) rfl) rfl rfl ?_
      refine w_gf (pc' := 20) (v := .ref 25) (ykc_133 (e := (5, .getfield 42, 0)) rfl) rfl (zsg hS zs_0_4) rfl ?_
      refine w_cv (as := [.ref 31, .ref 25]) (r := []) (ykc_133 (e := (6, .invokevirtual 235, 0)) rfl) rfl rfl rfl rfl (zc_copy (zSs_of hS (S := 25) (by decide)) (zSs_of hS (S := 31) (by decide)) hK.2.1 (by omega)) (fun v1340 ph1341 hv => ?_)
      obtain ⟨rfl, fb, db⟩ := hv
      show zW n D 133 Q 23 [some (.ref 0), some (.int x), none] [] ph1341
      have hK1 := zKC_31 fb hK
      have hS1 := zCo_S (S := 31) (by decide) fb hS
      refine w_load (pc' := 24) (v := .ref 0) (m := 1) (ykc_133 (e := (2, .aload_n kF0, 0)) rfl) rfl rfl ?_
      refine w_load (pc' := 25) (v := .ref 0) (m := 1) (ykc_133 (e := (2, .aload_n kF0, 0)) rfl) rfl rfl ?_
      refine w_gf (pc' := 28) (v := .ref 10) (ykc_133 (e := (5, .getfield 35, 0)) rfl) rfl ((fb.1 0 3 (by first | exact zqm rfl | decide) (by first | exact zqp rfl | decide)).trans (zsg hS zs_0_3)) rfl ?_
      refine w_load (pc' := 29) (v := .ref 0) (m := 1) (ykc_133 (e := (2, .aload_n kF0, 0)) rfl) rfl rfl ?_
      refine w_gf (pc' := 32) (v := .ref 25) (ykc_133 (e := (5, .getfield 42, 0)) rfl) rfl ((fb.1 0 4 (by first | exact zqm rfl | decide) (by first | exact zqp rfl | decide)).trans (zsg hS zs_0_4)) rfl ?_
      refine w_load (pc' := 33) (v := .int x) (m := 1) (ykc_133 (e := (2, .iload_n kF1, 0)) rfl) rfl rfl ?_
      refine w_cv (as := [.ref 10, .ref 25, .int x]) (r := [.ref 0]) (ykc_133 (e := (6, .invokevirtual 239, 0)) rfl) rfl rfl rfl rfl (h92 (by omega) (by omega) _ fb) (fun v1342 ph1343 hv => ?_)
      obtain ⟨fp, v2, y, rfl, hy0, hd2, hT⟩ := hv
      show zW n D 133 Q 36 [some (.ref 0), some (.int x), none] [.int y, .ref 0] ph1343
      have hS2 := zCp_S (Or.inl rfl) fp hS1
      have db2 := zSd_F fp (by intro i hi; simp <;> omega) (by intro j i hj; simp <;> omega) db
      have hn2 := (fp.1 43 1 (by first | exact zqm rfl | decide) (by first | exact zqp rfl | decide)).trans hK1.2.2.1.1
      have hu2 := (fp.1 43 2 (by first | exact zqm rfl | decide) (by first | exact zqp rfl | decide)).trans hK1.2.2.1.2.2.1
      have hnx := hK1.2.2.1.2.1
      refine w_cv (as := [.ref 0, .int y]) (r := []) (ykc_133 (e := (6, .invokevirtual 242, 0)) rfl) rfl rfl rfl rfl (zc_rem (x := y) hS2 db2 hn2 hu2 hnx hK1.2.2.1.2.2.2.1) (fun v1344 ph1345 hv => ?_)
      obtain ⟨rfl, ⟨h9, -⟩ | ⟨-, ⟨q1, q2, pf, pu1, pu2⟩, pd⟩⟩ := hv
      · omega
      have fq : zFr [45 + 6 * nx + 1, 45 + 6 * nx + 2, 45 + 6 * nx + 3, 45 + 6 * nx + 4, 45 + 6 * nx + 5] [(45 + 6 * nx, 0), (45 + 6 * nx, 1), (45 + 6 * nx, 2), (43, 1), (43, 2)] _ ph1345 := zFr_trans (zFr_mono pf (by first | exact zqa rfl | simp) (by first | exact zqf rfl | simp)) (zFr_trans (zFr_st pu1 (Or.inr (by first | exact zqj rfl | simp))) (zFr_st pu2 (Or.inr (by first | exact zqj rfl | simp))))
      show zW n D 133 Q 39 [some (.ref 0), some (.int x), none] [.int y] ph1345
      have hK3 := zKC_pp hK1 fp hd2 pf pu1 pu2 pd
      have hS3 := zSh_st pu2 (by decide +kernel) (zSh_st pu1 (by decide +kernel) (zCo_S (zSadr_past hnx) pf hS2))
      have db3 := zSd_F fq (by intro i hi; simp <;> omega) (by intro j i hj; simp <;> omega) db2
      refine w_store (pc' := 40) (L' := [some (.ref 0), some (.int x), some (.int y)]) (st' := []) (m := 1) (ykc_133 (e := (3, .istore_n kF2, 0)) rfl) rfl rfl ?_
      refine w_load (pc' := 41) (v := .ref 0) (m := 1) (ykc_133 (e := (2, .aload_n kF0, 0)) rfl) rfl rfl ?_
      refine w_gf (pc' := 44) (v := .ref 3) (ykc_133 (e := (5, .getfield 19, 0)) rfl) rfl ((fq.1 0 1 (by simp <;> omega) (by simp <;> omega)).trans ((fp.1 0 1 (by first | exact zqm rfl | decide) (by first | exact zqp rfl | decide)).trans ((fb.1 0 1 (by first | exact zqm rfl | decide) (by first | exact zqp rfl | decide)).trans (zsg hS zs_0_1)))) rfl ?_
      refine w_cv (as := [.ref 3]) (r := []) (ykc_133 (e := (6, .invokevirtual 245, 0)) rfl) rfl rfl rfl rfl (zc_anew) (fun v1346 ph1347 hv => ?_)
      obtain ⟨rfl, fn1, gn1⟩ := hv
      show zW n D 133 Q 47 [some (.ref 0), some (.int x), some (.int y)] [.ref 3] ph1347
      refine w_load (pc' := 48) (v := .int y) (m := 1) (ykc_133 (e := (2, .iload_n kF2, 0)) rfl) rfl rfl ?_
      refine w_load (pc' := 49) (v := .ref 0) (m := 1) (ykc_133 (e := (2, .aload_n kF0, 0)) rfl) rfl rfl ?_
      refine w_gf (pc' := 52) (v := .ref 31) (ykc_133 (e := (5, .getfield 46, 0)) rfl) rfl ((fn1.1 0 5 (by first | exact zqm rfl | decide) (by first | exact zqp rfl | decide)).trans ((fq.1 0 5 (by simp <;> omega) (by simp <;> omega)).trans ((fp.1 0 5 (by first | exact zqm rfl | decide) (by first | exact zqp rfl | decide)).trans ((fb.1 0 5 (by first | exact zqm rfl | decide) (by first | exact zqp rfl | decide)).trans (zsg hS zs_0_5))))) rfl ?_
      refine w_cv (as := [.ref 31]) (r := [.int y, .ref 3]) (ykc_133 (e := (6, .invokevirtual 249, 0)) rfl) rfl rfl rfl rfl (zc_known (zSs_of (zN_S fn1 hS3) (S := 31) (by decide)) (zN_b fn1 db3)) (fun v1348 ph1349 hv => ?_)
      obtain ⟨rfl, rfl⟩ := hv
      show zW n D 133 Q 55 [some (.ref 0), some (.int x), some (.int y)] [.int (zKw v P), .int y, .ref 3] ph1347
      refine w_alu (pc' := 56) (st' := [.int (y - (zKw v P)), .ref 3]) (ykc_133 (e := (0, .isub, 0)) rfl) rfl rfl ?_
      refine w_alu (pc' := 57) (st' := [.long ((y - (zKw v P)).toInt64), .ref 3]) (ykc_133 (e := (0, .i2l, 0)) rfl) rfl rfl ?_
      refine w_cv (as := [.ref 3, .long ((y - (zKw v P)).toInt64)]) (r := []) (ykc_133 (e := (6, .invokevirtual 252, 0)) rfl) rfl rfl rfl rfl (zc_add (zN_S fn1 hS3) (k := 0) gn1 (by decide)) (fun v1350 ph1351 hv => ?_)
      obtain ⟨rfl, fn2, gn2⟩ := hv
      show zW n D 133 Q 60 [some (.ref 0), some (.int x), some (.int y)] [.ref 3] ph1351
      refine w_load (pc' := 61) (v := .ref 0) (m := 1) (ykc_133 (e := (2, .aload_n kF0, 0)) rfl) rfl rfl ?_
      refine w_gf (pc' := 64) (v := .ref 25) (ykc_133 (e := (5, .getfield 42, 0)) rfl) rfl ((fn2.1 0 4 (by first | exact zqm rfl | decide) (by first | exact zqp rfl | decide)).trans ((fn1.1 0 4 (by first | exact zqm rfl | decide) (by first | exact zqp rfl | decide)).trans ((fq.1 0 4 (by simp <;> omega) (by simp <;> omega)).trans ((fp.1 0 4 (by first | exact zqm rfl | decide) (by first | exact zqp rfl | decide)).trans ((fb.1 0 4 (by first | exact zqm rfl | decide) (by first | exact zqp rfl | decide)).trans (zsg hS zs_0_4)))))) rfl ?_
      refine w_cv (as := [.ref 25]) (r := [.ref 3]) (ykc_133 (e := (6, .invokevirtual 256, 0)) rfl) rfl rfl rfl rfl (zc_some (zSs_of (zN_S (zFr_trans fn1 fn2) hS3) (S := 25) (by decide)) (zKC_n (zFr_trans fn1 fn2) hK3).2.1) (fun v1352 ph1353 hv => ?_)
      obtain ⟨rfl, y9, rfl⟩ := hv
      show zW n D 133 Q 67 [some (.ref 0), some (.int x), some (.int y)] [.int y9, .ref 3] ph1351
      refine w_alu (pc' := 68) (st' := [.long y9.toInt64, .ref 3]) (ykc_133 (e := (0, .i2l, 0)) rfl) rfl rfl ?_
      refine w_cv (as := [.ref 3, .long y9.toInt64]) (r := []) (ykc_133 (e := (6, .invokevirtual 252, 0)) rfl) rfl rfl rfl rfl (zc_add (zN_S (zFr_trans fn1 fn2) hS3) (k := 1) gn2 (by decide)) (fun v1354 ph1355 hv => ?_)
      obtain ⟨rfl, fn3, gn3⟩ := hv
      show zW n D 133 Q 71 [some (.ref 0), some (.int x), some (.int y)] [.ref 3] ph1355
      refine w_alu (pc' := 72) (st' := []) (ykc_133 (e := (0, .pop, 0)) rfl) rfl rfl ?_
      refine w_load (pc' := 73) (v := .int y) (m := 1) (ykc_133 (e := (2, .iload_n kF2, 0)) rfl) rfl rfl ?_
      refine w_ret (v := (some (.int y))) (ykc_133 (e := (7, .ireturn, 0)) rfl) (zr_v rfl) ?_
      rw [hQ]
      exact Or.inr ⟨by omega, by omega, v2, y, rfl, hT, _, (zKC_n (zFr_trans (zFr_trans fn1 fn2) fn3) hK3)⟩
    · refine w_alu (pc' := 11) (st' := [.int (Int32.ofInt (-1))]) (ykc_133 (e := (0, .iconst (-1), 0)) rfl) rfl rfl ?_
      refine w_ret (v := (some (.int (Int32.ofInt (-1))))) (ykc_133 (e := (7, .ireturn, 0)) rfl) (zr_v rfl) ?_
      rw [hQ]
      exact Or.inl ⟨by omega, rfl, hK⟩
theorem zm_known2 {ph : pm_H} {R C P G : Nat} {v : Nat → Nat} (hS : zSh ph) (hN : zMp ph P G) (hv : zNr ph 174 0 v) (hO0 : zOk R C P G v) : zM 234 [.ref 170, .ref 174] ph (fun v0 q => ph = q ∧ v0 = some (.int (zKw v P))) := by
  obtain ⟨Q, hQ⟩ : ∃ Q : Option Value → pm_H → Prop, Q = (fun v0 q => ph = q ∧ v0 = some (.int (zKw v P))) := ⟨_, rfl⟩
  rw [← hQ]
  refine zM_mk fun n D => ?_
  show zW n D 234 Q 0 [some (.ref 170), some (.ref 174), none, none] [] ph
  have c_0 : ((Int8.ofInt 24).toInt32).toInt = 24 := by decide +kernel
  have c_1 : (Int32.ofInt 0).toInt = 0 := by decide +kernel
  have c_2 : (Int32.ofInt 1).toInt = 1 := by decide +kernel
  obtain ⟨gP, hP8, gG, hG8⟩ := hN
  have tP := znt (k := P) (by omega)
  have tG := znt (k := G) (by omega)
  refine w_alu (pc' := 1) (st' := [.int (Int32.ofInt 0)]) (ykc_234 (e := (0, .iconst 0, 0)) rfl) rfl rfl ?_
  refine w_store (pc' := 2) (L' := [some (.ref 170), some (.ref 174), some (.int (Int32.ofInt 0)), none]) (st' := []) (m := 1) (ykc_234 (e := (3, .istore_n kF2, 0)) rfl) rfl rfl ?_
  refine w_alu (pc' := 3) (st' := [.int (Int32.ofInt 0)]) (ykc_234 (e := (0, .iconst 0, 0)) rfl) rfl rfl ?_
  refine w_store (pc' := 4) (L' := [some (.ref 170), some (.ref 174), some (.int (Int32.ofInt 0)), some (.int (Int32.ofInt 0))]) (st' := []) (m := 1) (ykc_234 (e := (3, .istore_n kF3, 0)) rfl) rfl rfl ?_
  have hl : ∀ (n : Nat), ∀ (k : Nat), (k ≤ P) → zW n D 234 Q 4 [some (.ref 170), some (.ref 174), some (.int (zKw v k)), some (.int (zn k))] [] ph := by
    intro n
    induction n using Nat.strongRecOn with
    | ind n ih =>
      intro k hk
      have tk := znt (k := k) (by omega)
      refine w_load (pc' := 5) (v := .int (zn k)) (m := 1) (ykc_234 (e := (2, .iload_n kF3, 0)) rfl) rfl rfl ?_
      refine w_load (pc' := 6) (v := .ref 170) (m := 1) (ykc_234 (e := (2, .aload_n kF0, 0)) rfl) rfl rfl ?_
      refine w_gf (pc' := 9) (v := .int (zn P)) (ykc_234 (e := (5, .getfield 130, 0)) rfl) rfl gP rfl ?_
      refine w_ige (ykc_234 (e := (4, .if_icmp .ge 21, 30)) rfl) rfl (fun b1356 => ?_) (fun b1356 => ?_)
      · refine w_load (pc' := 31) (v := .int (zKw v k)) (m := 1) (ykc_234 (e := (2, .iload_n kF2, 0)) rfl) rfl rfl ?_
        refine w_ret (v := (some (.int (zKw v k)))) (ykc_234 (e := (7, .ireturn, 0)) rfl) (zr_v rfl) ?_
        have ek : P = k := by omega
        subst ek
        rw [hQ]
        exact ⟨rfl, rfl⟩
      · refine w_load (pc' := 13) (v := .int (zKw v k)) (m := 1) (ykc_234 (e := (2, .iload_n kF2, 0)) rfl) rfl rfl ?_
        refine w_load (pc' := 14) (v := .ref 174) (m := 1) (ykc_234 (e := (2, .aload_n kF1, 0)) rfl) rfl rfl ?_
        refine w_push (pc' := 16) (v := .int ((Int8.ofInt 24).toInt32)) (m := 2) (ykc_234 (e := (1, .bipush 24, 0)) rfl) rfl rfl ?_
        refine w_load (pc' := 17) (v := .int (zn k)) (m := 1) (ykc_234 (e := (2, .iload_n kF3, 0)) rfl) rfl rfl ?_
        have e1357 : ((Int8.ofInt 24).toInt32) + (zn k) = zn (24 + k) := (zaddN (a := 24) (b := k) c_0 (znt (by omega)) (by omega)) 
        have te1357 := znt (k := 24 + k) (by omega)
        refine w_alu (pc' := 18) (st' := [.int (zn (24 + k)), .ref 174, .int (zKw v k)]) (ykc_234 (e := (0, .iadd, 0)) rfl) (by rw [← e1357]; rfl) rfl ?_
        have q1358 := hO0.1 k (by omega)
        have tq1358 := znt (k := v (24 + k)) (by omega)
        refine w_ialk (pc' := 19) (k := 24 + k) (ykc_234 (e := (5, .iaload, 0)) rfl) (zNr0 hv (i := 24 + k) (by omega)) (by omega) rfl ?_
        refine w_cs (as := [.int (zn (v (24 + k)))]) (r := [.int (zKw v k)]) (ykc_234 (e := (6, .invokestatic 265, 0)) rfl) rfl rfl rfl rfl (zj_pc) (fun v1359 ph1360 hv => ?_)
        obtain ⟨rfl, rfl⟩ := hv
        show zW n D 234 Q 22 [some (.ref 170), some (.ref 174), some (.int (zKw v k)), some (.int (zn k))] [.int (zpc (zn (v (24 + k)))), .int (zKw v k)] ph
        refine w_alu (pc' := 23) (st' := [.int ((zKw v k) + (zpc (zn (v (24 + k)))))]) (ykc_234 (e := (0, .iadd, 0)) rfl) rfl rfl ?_
        refine w_store (pc' := 24) (L' := [some (.ref 170), some (.ref 174), some (.int ((zKw v k) + (zpc (zn (v (24 + k)))))), some (.int (zn k))]) (st' := []) (m := 1) (ykc_234 (e := (3, .istore_n kF2, 0)) rfl) rfl rfl ?_
        have e1361 : (zn k) + Int32.ofInt 1 = zn (k + 1) := (zaddN (a := k) (b := 1) (znt (by omega)) c_2 (by omega))
        have te1361 := znt (k := k + 1) (by omega)
        refine w_store (pc' := 27) (L' := [some (.ref 170), some (.ref 174), some (.int ((zKw v k) + (zpc (zn (v (24 + k)))))), some (.int (zn (k + 1)))]) (st' := []) (m := 3) (ykc_234 (e := (3, .iinc 3 1, 0)) rfl) (by rw [← e1361]; rfl) rfl ?_
        refine w_gb (ykc_234 (e := (4, .goto (-23), 4)) rfl) (fun k1362 hk1362 => ?_)
        exact ih k1362 hk1362 (k + 1) (by omega)
  exact hl n 0 (Nat.zero_le _)
theorem zm_enter {ph : pm_H} (hS : zSh ph) {k : Nat} {x : Int64} (hk : zc ph 170 1 = some (.int (zn k))) (h49 : k < 49) : zM 186 [.ref 170, .long x] ph (fun v0 q => v0 = none ∧ zFr [171] [(170, 1)] ph q ∧ zc q 170 1 = some (.int (zn (k + 1)))) := by
  obtain ⟨Q, hQ⟩ : ∃ Q : Option Value → pm_H → Prop, Q = (fun v0 q => v0 = none ∧ zFr [171] [(170, 1)] ph q ∧ zc q 170 1 = some (.int (zn (k + 1)))) := ⟨_, rfl⟩
  rw [← hQ]
  refine zM_mk fun n D => ?_
  show zW n D 186 Q 0 [some (.ref 170), some (.long x), none] [] ph
  have c_0 : (Int32.ofInt 1).toInt = 1 := by decide +kernel
  have tk := znt (k := k) (by omega)
  refine w_load (pc' := 1) (v := .ref 170) (m := 1) (ykc_186 (e := (2, .aload_n kF0, 0)) rfl) rfl rfl ?_
  refine w_gf (pc' := 4) (v := .ref 171) (ykc_186 (e := (5, .getfield 11, 0)) rfl) rfl (zsg hS zs_170_2) rfl ?_
  refine w_load (pc' := 5) (v := .ref 170) (m := 1) (ykc_186 (e := (2, .aload_n kF0, 0)) rfl) rfl rfl ?_
  refine w_gf (pc' := 8) (v := .int (zn k)) (ykc_186 (e := (5, .getfield 15, 0)) rfl) rfl hk rfl ?_
  refine w_load (pc' := 9) (v := .long x) (m := 1) (ykc_186 (e := (2, .lload_n kF1, 0)) rfl) rfl rfl ?_
  refine w_las (pc' := 10) (k := k) (ykc_186 (e := (5, .lastore, 0)) rfl) (by omega) rfl (fun ph1364 u1363 => ?_)
  refine w_load (pc' := 11) (v := .ref 170) (m := 1) (ykc_186 (e := (2, .aload_n kF0, 0)) rfl) rfl rfl ?_
  refine w_alu (pc' := 12) (st' := [.ref 170, .ref 170]) (ykc_186 (e := (0, .dup, 0)) rfl) rfl rfl ?_
  refine w_gf (pc' := 15) (v := .int (zn k)) (ykc_186 (e := (5, .getfield 15, 0)) rfl) rfl ((u1363.2.1 170 1 (fun q => absurd q.1 (by first | exact Nat.ne_of_beq_eq_false rfl | decide))).trans hk) rfl ?_
  refine w_alu (pc' := 16) (st' := [.int (Int32.ofInt 1), .int (zn k), .ref 170]) (ykc_186 (e := (0, .iconst 1, 0)) rfl) rfl rfl ?_
  have e1365 : (zn k) + (Int32.ofInt 1) = zn (k + 1) := (zaddN (a := k) (b := 1) (znt (by omega)) c_0 (by omega)) 
  have te1365 := znt (k := k + 1) (by omega)
  refine w_alu (pc' := 17) (st' := [.int (zn (k + 1)), .ref 170]) (ykc_186 (e := (0, .iadd, 0)) rfl) (by rw [← e1365]; rfl) rfl ?_
  refine w_pf (pc' := 20) (ykc_186 (e := (5, .putfield 15, 0)) rfl) rfl rfl (fun ph1367 u1366 => ?_)
  refine w_ret (v := none) (ykc_186 (e := (7, .return_, 0)) rfl) (zr_v rfl) ?_
  rw [hQ]
  exact ⟨rfl, zFr_trans (zFr_st u1363 (Or.inl (by first | exact zqi rfl | simp))) (zFr_st u1366 (Or.inr (by first | exact zqj rfl | simp))), u1366.1⟩
/-- what the hours of the reference may write -/
def zGo (p q : pm_H) : Prop := zFr [174, 181, 182, 184] [] p q
theorem zm_hours {ph : pm_H} {R C P G u ch hn : Nat} {rk : Nat → Bool} {v : Nat → Nat} {w : Nat → Nat → Nat} {kp : Nat → Bool} {kc : Nat → Nat} {sv : Nat → Nat → Nat} (hS : zSh ph) (hK : zKM ph R C rk P G v u w ch kp kc sv hn) (hO0 : zOk R C P G v) {x : Int32} {T : (Nat → Nat) → Prop} (h243 : 0 ≤ x.toInt → x.toInt ≤ 60 → ∀ q, zFr [183] [(170, 0)] ph q → zM 243 [.ref 170, .ref 174, .int x] q (fun v0 q2 => v0 = none ∧ zGo q q2 ∧ ∃ v2, zNr q2 174 0 v2 ∧ zOk R C P G v2 ∧ T v2)) : zM 248 [.ref 170, .int x] ph (fun v0 q => ((x.toInt < 0 ∨ 60 < x.toInt) ∧ v0 = some (.int (Int32.ofInt (-1))) ∧ zKM q R C rk P G v u w ch kp kc sv hn) ∨ (0 ≤ x.toInt ∧ x.toInt ≤ 60 ∧ ∃ v2, v0 = some (.int (zKw v2 P)) ∧ T v2 ∧ zKM q R C rk P G v2 (zAd u) (zAw u (zWp u w v)) ch kp kc sv hn)) := by
  obtain ⟨Q, hQ⟩ : ∃ Q : Option Value → pm_H → Prop, Q = (fun v0 q => ((x.toInt < 0 ∨ 60 < x.toInt) ∧ v0 = some (.int (Int32.ofInt (-1))) ∧ zKM q R C rk P G v u w ch kp kc sv hn) ∨ (0 ≤ x.toInt ∧ x.toInt ≤ 60 ∧ ∃ v2, v0 = some (.int (zKw v2 P)) ∧ T v2 ∧ zKM q R C rk P G v2 (zAd u) (zAw u (zWp u w v)) ch kp kc sv hn)) := ⟨_, rfl⟩
  rw [← hQ]
  refine zM_mk fun n D => ?_
  show zW n D 248 Q 0 [some (.ref 170), some (.int x), none, none, none] [] ph
  have c_0 : ((Int8.ofInt 24).toInt32).toInt = 24 := by decide +kernel
  have c_1 : (Int32.ofInt (-1)).toInt = -1 := by decide +kernel
  have c_2 : (Int32.ofInt 0).toInt = 0 := by decide +kernel
  have c_3 : (Int32.ofInt 1).toInt = 1 := by decide +kernel
  obtain ⟨hL, hN, hv, hU, hk, hh⟩ := hK
  have hL0 := hL
  have hN0 := hN
  have hu15 := hU.2.1
  obtain ⟨gR, gC, gK, hR3, hR7, hC3, hC7⟩ := hL
  have hRC := zRC49 hR7 hC7
  have tR := znt (k := R) (by omega)
  have tC := znt (k := C) (by omega)
  obtain ⟨gP, hP8, gG, hG8⟩ := hN
  have tP := znt (k := P) (by omega)
  have tG := znt (k := G) (by omega)
  have tu := znt (k := u) (by omega)
  have hn10 := hh.2
  have thn := znt (k := hn) (by omega)
  refine w_load (pc' := 1) (v := .ref 170) (m := 1) (ykc_248 (e := (2, .aload_n kF0, 0)) rfl) rfl rfl ?_
  refine w_alu (pc' := 2) (st' := [.int (Int32.ofInt 0), .ref 170]) (ykc_248 (e := (0, .iconst 0, 0)) rfl) rfl rfl ?_
  refine w_pf (pc' := 5) (ykc_248 (e := (5, .putfield 3, 0)) rfl) rfl rfl (fun ph1369 u1368 => ?_)
  refine w_load (pc' := 6) (v := .int x) (m := 1) (ykc_248 (e := (2, .iload_n kF1, 0)) rfl) rfl rfl ?_
  refine w_alu (pc' := 7) (st' := [.long x.toInt64]) (ykc_248 (e := (0, .i2l, 0)) rfl) rfl rfl ?_
  refine w_alu (pc' := 8) (st' := [.long (Int64.ofNat kG0), .long x.toInt64]) (ykc_248 (e := (0, .lconst kG0, 0)) rfl) rfl rfl ?_
  refine w_push (pc' := 11) (v := .long (60 : Int64)) (m := 3) (ykc_248 (e := (1, .ldc2_w 361, 0)) rfl) rfl rfl ?_
  refine w_cs (as := [.long x.toInt64, .long (Int64.ofNat kG0), .long (60 : Int64)]) (r := []) (ykc_248 (e := (6, .invokestatic 126, 0)) rfl) rfl rfl rfl rfl (zm_in (x := x.toInt) (y := (0 : Int)) (z := (60 : Int)) (by first | exact ztl | (rw [ztl]; omega) | decide | omega) (by first | exact ztl | (rw [ztl]; omega) | decide | omega) (by first | exact ztl | (rw [ztl]; omega) | decide | omega)) (fun v1370 ph1371 hv => ?_)
  obtain ⟨rfl, rfl⟩ := hv
  show zW n D 248 Q 14 [some (.ref 170), some (.int x), none, none, none] [.int (zI (decide ((0 : Int) ≤ x.toInt ∧ x.toInt ≤ (60 : Int))))] ph1369
  refine w_bne (ykc_248 (e := (4, .ifCond .ne 5, 19)) rfl) rfl (fun b1372 => ?_) (fun b1372 => ?_)
  · have d9 := of_decide_eq_true b1372
    have f0 : zFr [] [(170, 0)] ph ph1369 := zFr_st u1368 (Or.inr (by first | exact zqj rfl | simp))
    have hS1 := zSh_st u1368 (by decide +kernel) hS
    have hv1 := zNr_F f0 (by first | exact (fun _ => zqr rfl) | simp) (by first | exact zqm rfl | simp) hv
    have hU1 := zMu_F f0 (by first | exact ⟨zqm rfl, zqm rfl⟩ | simp) (by first | exact zqp rfl | simp) (by first | exact (fun _ => zqr rfl) | simp) hU
    refine w_load (pc' := 20) (v := .ref 170) (m := 1) (ykc_248 (e := (2, .aload_n kF0, 0)) rfl) rfl rfl ?_
    refine w_cv (as := [.ref 170]) (r := []) (ykc_248 (e := (6, .invokevirtual 363, 0)) rfl) rfl rfl rfl rfl (zm_putsBy hS1 hv1 hU1.1 hu15) (fun v1373 ph1374 hv => ?_)
    obtain ⟨rfl, fp, gp, op⟩ := hv
    show zW n D 248 Q 23 [some (.ref 170), some (.int x), none, none, none] [] ph1374
    have hr := zWp_r hU1.2.2 gp op
    have f1 : zFr [183] [(170, 0)] ph ph1374 := zFr_trans (zFr_mono f0 (by first | exact zqa rfl | simp) (by first | exact zqf rfl | simp)) (zFr_mono fp (by first | exact zqa rfl | simp) (by first | exact zqf rfl | simp))
    have hS2 := zSh_F f1 (by decide +kernel) hS
    have hN2 := zMp_F f1 (by first | exact zqp rfl | simp) (by first | exact zqp rfl | simp) (by first | exact zqm rfl | simp) hN0
    have hv2 := zNr_F f1 (by first | exact (fun _ => zqr rfl) | simp) (by first | exact zqm rfl | simp) hv
    refine w_load (pc' := 24) (v := .ref 170) (m := 1) (ykc_248 (e := (2, .aload_n kF0, 0)) rfl) rfl rfl ?_
    refine w_load (pc' := 25) (v := .ref 170) (m := 1) (ykc_248 (e := (2, .aload_n kF0, 0)) rfl) rfl rfl ?_
    refine w_gf (pc' := 28) (v := .ref 174) (ykc_248 (e := (5, .getfield 41, 0)) rfl) rfl ((fp.1 170 11 (by first | exact zqm rfl | decide) (by first | exact zqp rfl | decide)).trans ((u1368.2.1 170 11 (fun q => absurd q.2 (by first | exact Nat.ne_of_beq_eq_false rfl | decide))).trans (zsg hS zs_170_11))) rfl ?_
    refine w_cv (as := [.ref 170, .ref 174]) (r := []) (ykc_248 (e := (6, .invokevirtual 366, 0)) rfl) rfl rfl rfl rfl (zm_known2 hS2 hN2 hv2 hO0) (fun v1375 ph1376 hv => ?_)
    obtain ⟨rfl, rfl⟩ := hv
    show zW n D 248 Q 31 [some (.ref 170), some (.int x), none, none, none] [.int (zKw v P)] ph1374
    refine w_store (pc' := 32) (L' := [some (.ref 170), some (.int x), some (.int (zKw v P)), none, none]) (st' := []) (m := 1) (ykc_248 (e := (3, .istore_n kF2, 0)) rfl) rfl rfl ?_
    refine w_load (pc' := 33) (v := .ref 170) (m := 1) (ykc_248 (e := (2, .aload_n kF0, 0)) rfl) rfl rfl ?_
    refine w_load (pc' := 34) (v := .ref 170) (m := 1) (ykc_248 (e := (2, .aload_n kF0, 0)) rfl) rfl rfl ?_
    refine w_gf (pc' := 37) (v := .ref 174) (ykc_248 (e := (5, .getfield 41, 0)) rfl) rfl ((fp.1 170 11 (by first | exact zqm rfl | decide) (by first | exact zqp rfl | decide)).trans ((u1368.2.1 170 11 (fun q => absurd q.2 (by first | exact Nat.ne_of_beq_eq_false rfl | decide))).trans (zsg hS zs_170_11))) rfl ?_
    refine w_load (pc' := 38) (v := .int x) (m := 1) (ykc_248 (e := (2, .iload_n kF1, 0)) rfl) rfl rfl ?_
    refine w_cv (as := [.ref 170, .ref 174, .int x]) (r := []) (ykc_248 (e := (6, .invokevirtual 370, 0)) rfl) rfl rfl rfl rfl (h243 (by omega) (by omega) _ f1) (fun v1377 ph1378 hv => ?_)
    obtain ⟨rfl, fg, v2, hvv, hov, hT⟩ := hv
    show zW n D 248 Q 41 [some (.ref 170), some (.int x), some (.int (zKw v P)), none, none] [] ph1378
    have f3 : zFr [174, 181, 182, 183, 184] [(170, 0)] ph ph1378 := zFr_trans (zFr_mono f1 (by first | exact zqa rfl | simp) (by first | exact zqf rfl | simp)) (zFr_mono fg (by first | exact zqa rfl | simp) (by first | exact zqf rfl | simp))
    have hS3 := zSh_F f3 (by decide +kernel) hS
    have hN3 := zMp_F f3 (by first | exact zqp rfl | simp) (by first | exact zqp rfl | simp) (by first | exact zqm rfl | simp) hN0
    have hr3 := zUr_F fg (by first | exact (fun _ => zqr rfl) | simp) (by first | exact zqm rfl | simp) hr
    refine w_alu (pc' := 42) (st' := [.int (Int32.ofInt 0)]) (ykc_248 (e := (0, .iconst 0, 0)) rfl) rfl rfl ?_
    refine w_store (pc' := 43) (L' := [some (.ref 170), some (.int x), some (.int (zKw v P)), some (.int (Int32.ofInt 0)), none]) (st' := []) (m := 1) (ykc_248 (e := (3, .istore_n kF3, 0)) rfl) rfl rfl ?_
    refine w_alu (pc' := 44) (st' := [.int (Int32.ofInt 0)]) (ykc_248 (e := (0, .iconst 0, 0)) rfl) rfl rfl ?_
    refine w_store (pc' := 46) (L' := [some (.ref 170), some (.int x), some (.int (zKw v P)), some (.int (Int32.ofInt 0)), some (.int (Int32.ofInt 0))]) (st' := []) (m := 2) (ykc_248 (e := (3, .istore 4, 0)) rfl) rfl rfl ?_
    have hl : ∀ (n : Nat), ∀ (k : Nat) (a : Int32), (k ≤ P) → zW n D 248 Q 46 [some (.ref 170), some (.int x), some (.int (zKw v P)), some (.int a), some (.int (zn k))] [] ph1378 := by
      intro n
      induction n using Nat.strongRecOn with
      | ind n ih =>
        intro k a hk9
        have tk := znt (k := k) (by omega)
        refine w_load (pc' := 48) (v := .int (zn k)) (m := 2) (ykc_248 (e := (2, .iload 4, 0)) rfl) rfl rfl ?_
        refine w_load (pc' := 49) (v := .ref 170) (m := 1) (ykc_248 (e := (2, .aload_n kF0, 0)) rfl) rfl rfl ?_
        refine w_gf (pc' := 52) (v := .int (zn P)) (ykc_248 (e := (5, .getfield 130, 0)) rfl) rfl hN3.1 rfl ?_
        refine w_ige (ykc_248 (e := (4, .if_icmp .ge 22, 74)) rfl) rfl (fun b1379 => ?_) (fun b1379 => ?_)
        · refine w_load (pc' := 75) (v := .ref 170) (m := 1) (ykc_248 (e := (2, .aload_n kF0, 0)) rfl) rfl rfl ?_
          refine w_alu (pc' := 76) (st' := [.int (Int32.ofInt 0), .ref 170]) (ykc_248 (e := (0, .iconst 0, 0)) rfl) rfl rfl ?_
          refine w_pf (pc' := 79) (ykc_248 (e := (5, .putfield 15, 0)) rfl) rfl rfl (fun ph1381 u1380 => ?_)
          refine w_load (pc' := 80) (v := .ref 170) (m := 1) (ykc_248 (e := (2, .aload_n kF0, 0)) rfl) rfl rfl ?_
          refine w_load (pc' := 81) (v := .ref 170) (m := 1) (ykc_248 (e := (2, .aload_n kF0, 0)) rfl) rfl rfl ?_
          refine w_load (pc' := 82) (v := .ref 170) (m := 1) (ykc_248 (e := (2, .aload_n kF0, 0)) rfl) rfl rfl ?_
          refine w_gf (pc' := 85) (v := .ref 174) (ykc_248 (e := (5, .getfield 41, 0)) rfl) rfl ((u1380.2.1 170 11 (fun q => absurd q.2 (by first | exact Nat.ne_of_beq_eq_false rfl | decide))).trans (zsg hS3 zs_170_11)) rfl ?_
          refine w_cv (as := [.ref 170, .ref 174]) (r := [.ref 170]) (ykc_248 (e := (6, .invokevirtual 366, 0)) rfl) rfl rfl rfl rfl (zm_known2 (zSh_F ((zFr_st u1380 (Or.inr (by first | exact zqj rfl | simp))) : zFr [171] [(170, 1)] _ _) (by decide +kernel) hS3) (zMp_F ((zFr_st u1380 (Or.inr (by first | exact zqj rfl | simp))) : zFr [171] [(170, 1)] _ _) (by first | exact zqp rfl | simp) (by first | exact zqp rfl | simp) (by first | exact zqm rfl | simp) hN3) (zNr_F ((zFr_st u1380 (Or.inr (by first | exact zqj rfl | simp))) : zFr [171] [(170, 1)] _ _) (by first | exact (fun _ => zqr rfl) | simp) (by first | exact zqm rfl | simp) hvv) hov) (fun v1382 ph1383 hv => ?_)
          obtain ⟨rfl, rfl⟩ := hv
          show zW n D 248 Q 88 [some (.ref 170), some (.int x), some (.int (zKw v P)), some (.int a), some (.int (zn k))] [.int (zKw v2 P), .ref 170] ph1381
          refine w_load (pc' := 89) (v := .int (zKw v P)) (m := 1) (ykc_248 (e := (2, .iload_n kF2, 0)) rfl) rfl rfl ?_
          refine w_alu (pc' := 90) (st' := [.int ((zKw v2 P) - (zKw v P)), .ref 170]) (ykc_248 (e := (0, .isub, 0)) rfl) rfl rfl ?_
          refine w_alu (pc' := 91) (st' := [.long (((zKw v2 P) - (zKw v P)).toInt64), .ref 170]) (ykc_248 (e := (0, .i2l, 0)) rfl) rfl rfl ?_
          refine w_cv (as := [.ref 170, .long (((zKw v2 P) - (zKw v P)).toInt64)]) (r := []) (ykc_248 (e := (6, .invokevirtual 373, 0)) rfl) rfl rfl rfl rfl (zm_enter (zSh_F ((zFr_st u1380 (Or.inr (by first | exact zqj rfl | simp))) : zFr [171] [(170, 1)] _ _) (by decide +kernel) hS3) (k := 0) u1380.1 (by decide)) (fun v1384 ph1385 hv => ?_)
          obtain ⟨rfl, fe1, ge1⟩ := hv
          show zW n D 248 Q 94 [some (.ref 170), some (.int x), some (.int (zKw v P)), some (.int a), some (.int (zn k))] [] ph1385
          refine w_load (pc' := 95) (v := .ref 170) (m := 1) (ykc_248 (e := (2, .aload_n kF0, 0)) rfl) rfl rfl ?_
          refine w_load (pc' := 96) (v := .int a) (m := 1) (ykc_248 (e := (2, .iload_n kF3, 0)) rfl) rfl rfl ?_
          refine w_alu (pc' := 97) (st' := [.long a.toInt64, .ref 170]) (ykc_248 (e := (0, .i2l, 0)) rfl) rfl rfl ?_
          refine w_cv (as := [.ref 170, .long a.toInt64]) (r := []) (ykc_248 (e := (6, .invokevirtual 373, 0)) rfl) rfl rfl rfl rfl (zm_enter (zSh_F ((zFr_trans (zFr_st u1380 (Or.inr (by first | exact zqj rfl | simp))) fe1) : zFr [171] [(170, 1)] _ _) (by decide +kernel) hS3) (k := 1) ge1 (by decide)) (fun v1386 ph1387 hv => ?_)
          obtain ⟨rfl, fe2, ge2⟩ := hv
          show zW n D 248 Q 100 [some (.ref 170), some (.int x), some (.int (zKw v P)), some (.int a), some (.int (zn k))] [] ph1387
          refine w_load (pc' := 101) (v := .ref 170) (m := 1) (ykc_248 (e := (2, .aload_n kF0, 0)) rfl) rfl rfl ?_
          refine w_load (pc' := 102) (v := .ref 170) (m := 1) (ykc_248 (e := (2, .aload_n kF0, 0)) rfl) rfl rfl ?_
          refine w_load (pc' := 103) (v := .ref 170) (m := 1) (ykc_248 (e := (2, .aload_n kF0, 0)) rfl) rfl rfl ?_
          refine w_gf (pc' := 106) (v := .ref 174) (ykc_248 (e := (5, .getfield 41, 0)) rfl) rfl ((fe2.1 170 11 (by first | exact zqm rfl | decide) (by first | exact zqp rfl | decide)).trans ((fe1.1 170 11 (by first | exact zqm rfl | decide) (by first | exact zqp rfl | decide)).trans ((u1380.2.1 170 11 (fun q => absurd q.2 (by first | exact Nat.ne_of_beq_eq_false rfl | decide))).trans (zsg hS3 zs_170_11)))) rfl ?_
          refine w_cv (as := [.ref 170, .ref 174]) (r := [.ref 170]) (ykc_248 (e := (6, .invokevirtual 366, 0)) rfl) rfl rfl rfl rfl (zm_known2 (zSh_F ((zFr_trans (zFr_trans (zFr_st u1380 (Or.inr (by first | exact zqj rfl | simp))) fe1) fe2) : zFr [171] [(170, 1)] _ _) (by decide +kernel) hS3) (zMp_F ((zFr_trans (zFr_trans (zFr_st u1380 (Or.inr (by first | exact zqj rfl | simp))) fe1) fe2) : zFr [171] [(170, 1)] _ _) (by first | exact zqp rfl | simp) (by first | exact zqp rfl | simp) (by first | exact zqm rfl | simp) hN3) (zNr_F ((zFr_trans (zFr_trans (zFr_st u1380 (Or.inr (by first | exact zqj rfl | simp))) fe1) fe2) : zFr [171] [(170, 1)] _ _) (by first | exact (fun _ => zqr rfl) | simp) (by first | exact zqm rfl | simp) hvv) hov) (fun v1388 ph1389 hv => ?_)
          obtain ⟨rfl, rfl⟩ := hv
          show zW n D 248 Q 109 [some (.ref 170), some (.int x), some (.int (zKw v P)), some (.int a), some (.int (zn k))] [.int (zKw v2 P), .ref 170] ph1387
          refine w_cv (as := [.ref 170, .int (zKw v2 P)]) (r := []) (ykc_248 (e := (6, .invokevirtual 341, 0)) rfl) rfl rfl rfl rfl (zm_adds (x := zKw v2 P) (zSh_F ((zFr_trans (zFr_trans (zFr_st u1380 (Or.inr (by first | exact zqj rfl | simp))) fe1) fe2) : zFr [171] [(170, 1)] _ _) (by decide +kernel) hS3) ((((zFr_trans (zFr_trans (zFr_st u1380 (Or.inr (by first | exact zqj rfl | simp))) fe1) fe2) : zFr [171] [(170, 1)] _ _).1 170 27 (by first | exact zqm rfl | decide) (by first | exact zqp rfl | decide)).trans ((f3.1 170 27 (by first | exact zqm rfl | decide) (by first | exact zqp rfl | decide)).trans hU.1)) hu15 (zUr_F ((zFr_trans (zFr_trans (zFr_st u1380 (Or.inr (by first | exact zqj rfl | simp))) fe1) fe2) : zFr [171] [(170, 1)] _ _) (by first | exact (fun _ => zqr rfl) | simp) (by first | exact zqm rfl | simp) hr3)) (fun v1390 ph1391 hv => ?_)
          obtain ⟨rfl, fa, ga, ra⟩ := hv
          have fb : zFr [171] [(170, 1)] ph1378 _ := (zFr_trans (zFr_trans (zFr_st u1380 (Or.inr (by first | exact zqj rfl | simp))) fe1) fe2)
          show zW n D 248 Q 112 [some (.ref 170), some (.int x), some (.int (zKw v P)), some (.int a), some (.int (zn k))] [.int (zKw v2 P)] ph1391
          refine w_ret (v := (some (.int (zKw v2 P)))) (ykc_248 (e := (7, .ireturn, 0)) rfl) (zr_v rfl) ?_
          have f9 : zFr [171, 174, 181, 182, 183, 184] [(170, 0), (170, 1), (170, 27)] ph _ := zFr_trans (zFr_mono f3 (by first | exact zqa rfl | simp) (by first | exact zqf rfl | simp)) (zFr_trans (zFr_mono fb (by first | exact zqa rfl | simp) (by first | exact zqf rfl | simp)) (zFr_mono fa (by first | exact zqa rfl | simp) (by first | exact zqf rfl | simp)))
          have fz : zFr [171, 183] [(170, 1), (170, 27)] ph1378 _ := zFr_trans (zFr_mono fb (by first | exact zqa rfl | simp) (by first | exact zqf rfl | simp)) (zFr_mono fa (by first | exact zqa rfl | simp) (by first | exact zqf rfl | simp))
          rw [hQ]
          exact Or.inr ⟨by omega, by omega, v2, rfl, hT, zMl_F f9 (by first | exact zqp rfl | simp) (by first | exact zqp rfl | simp) (by first | exact (fun _ => zqr rfl) | simp) (by first | exact ⟨zqm rfl, zqm rfl⟩ | simp) hL0, zMp_F f9 (by first | exact zqp rfl | simp) (by first | exact zqp rfl | simp) (by first | exact zqm rfl | simp) hN0, zNr_F fz (by first | exact (fun _ => zqr rfl) | simp) (by first | exact zqm rfl | simp) hvv, ⟨ga, zAd_15 hu15, ra⟩, zMk_F f9 (by first | exact ⟨zqm rfl, zqm rfl, zqm rfl, zqm rfl⟩ | simp) (by first | exact zqp rfl | simp) (by first | exact (fun _ => ⟨zqr rfl, zqr rfl, zqr rfl⟩) | simp) hk, zMh_F f9 (by first | exact zqm rfl | simp) (by first | exact zqp rfl | simp) hh⟩
        · refine w_load (pc' := 56) (v := .int a) (m := 1) (ykc_248 (e := (2, .iload_n kF3, 0)) rfl) rfl rfl ?_
          refine w_load (pc' := 57) (v := .ref 170) (m := 1) (ykc_248 (e := (2, .aload_n kF0, 0)) rfl) rfl rfl ?_
          refine w_gf (pc' := 60) (v := .ref 174) (ykc_248 (e := (5, .getfield 41, 0)) rfl) rfl (zsg hS3 zs_170_11) rfl ?_
          refine w_push (pc' := 62) (v := .int ((Int8.ofInt 24).toInt32)) (m := 2) (ykc_248 (e := (1, .bipush 24, 0)) rfl) rfl rfl ?_
          refine w_load (pc' := 64) (v := .int (zn k)) (m := 2) (ykc_248 (e := (2, .iload 4, 0)) rfl) rfl rfl ?_
          have e1392 : ((Int8.ofInt 24).toInt32) + (zn k) = zn (24 + k) := (zaddN (a := 24) (b := k) c_0 (znt (by omega)) (by omega)) 
          have te1392 := znt (k := 24 + k) (by omega)
          refine w_alu (pc' := 65) (st' := [.int (zn (24 + k)), .ref 174, .int a]) (ykc_248 (e := (0, .iadd, 0)) rfl) (by rw [← e1392]; rfl) rfl ?_
          refine w_ialk (pc' := 66) (k := 24 + k) (ykc_248 (e := (5, .iaload, 0)) rfl) (zNr0 hvv (i := 24 + k) (by omega)) (by omega) rfl ?_
          refine w_alu (pc' := 67) (st' := [.int (a ||| (zn (v2 (24 + k))))]) (ykc_248 (e := (0, .ior, 0)) rfl) rfl rfl ?_
          refine w_store (pc' := 68) (L' := [some (.ref 170), some (.int x), some (.int (zKw v P)), some (.int (a ||| (zn (v2 (24 + k))))), some (.int (zn k))]) (st' := []) (m := 1) (ykc_248 (e := (3, .istore_n kF3, 0)) rfl) rfl rfl ?_
          have e1393 : (zn k) + Int32.ofInt 1 = zn (k + 1) := (zaddN (a := k) (b := 1) (znt (by omega)) c_3 (by omega))
          have te1393 := znt (k := k + 1) (by omega)
          refine w_store (pc' := 71) (L' := [some (.ref 170), some (.int x), some (.int (zKw v P)), some (.int (a ||| (zn (v2 (24 + k))))), some (.int (zn (k + 1)))]) (st' := []) (m := 3) (ykc_248 (e := (3, .iinc 4 1, 0)) rfl) (by rw [← e1393]; rfl) rfl ?_
          refine w_gb (ykc_248 (e := (4, .goto (-25), 46)) rfl) (fun k1394 hk1394 => ?_)
          exact ih k1394 hk1394 (k + 1) _ (by omega)
    exact hl n 0 _ (Nat.zero_le _)
  · refine w_alu (pc' := 18) (st' := [.int (Int32.ofInt (-1))]) (ykc_248 (e := (0, .iconst (-1), 0)) rfl) rfl rfl ?_
    refine w_ret (v := (some (.int (Int32.ofInt (-1))))) (ykc_248 (e := (7, .ireturn, 0)) rfl) (zr_v rfl) ?_
    have d9 := of_decide_eq_false b1372
    have f2 : zFr [] [(170, 0)] ph _ := zFr_st u1368 (Or.inr (by first | exact zqj rfl | simp))
    rw [hQ]
    exact Or.inl ⟨by omega, rfl, zMl_F f2 (by first | exact zqp rfl | simp) (by first | exact zqp rfl | simp) (by first | exact (fun _ => zqr rfl) | simp) (by first | exact ⟨zqm rfl, zqm rfl⟩ | simp) hL0, zMp_F f2 (by first | exact zqp rfl | simp) (by first | exact zqp rfl | simp) (by first | exact zqm rfl | simp) hN0, zNr_F f2 (by first | exact (fun _ => zqr rfl) | simp) (by first | exact zqm rfl | simp) hv, zMu_F f2 (by first | exact ⟨zqm rfl, zqm rfl⟩ | simp) (by first | exact zqp rfl | simp) (by first | exact (fun _ => zqr rfl) | simp) hU, zMk_F f2 (by first | exact ⟨zqm rfl, zqm rfl, zqm rfl, zqm rfl⟩ | simp) (by first | exact zqp rfl | simp) (by first | exact (fun _ => ⟨zqr rfl, zqr rfl, zqr rfl⟩) | simp) hk, zMh_F f2 (by first | exact zqm rfl | simp) (by first | exact zqp rfl | simp) hh⟩
