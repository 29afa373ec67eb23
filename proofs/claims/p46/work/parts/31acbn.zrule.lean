/-! the two RULES: answers and codes, by W; printed by wip/z/z1j_rule.py -/
section ZRJ
variable {t : Nat → Nat}
theorem zrn_s {s q : zAs} {p k : Nat} (h : zrn t s p k = some q) : zrn t s p (k + 1) = zstep (t (p + k)) q := by
  show (zrn t s p k).bind _ = _
  rw [h]
  rfl
theorem zrn_0 {s : zAs} {p k : Nat} (h : zrn t s p k = none) : ∀ m, zrn t s p (k + m) = none
  | 0 => h
  | m + 1 => by
    show (zrn t s p (k + m)).bind _ = none
    rw [zrn_0 h m]
    rfl
/-- stopped at k: nothing further on -/
theorem zrn_x {s q : zAs} {k m : Nat} (h : zrn t s 0 k = some q) (hn : zstep (t k) q = none) (hm : k < m) : zrn t s 0 m = none := by
  have h1 : zrn t s 0 (k + 1) = none := by
    rw [zrn_s h, Nat.zero_add]
    exact hn
  have h2 := zrn_0 h1 (m - (k + 1))
  rwa [show k + 1 + (m - (k + 1)) = m by omega] at h2
theorem zrn_y {s q q' : zAs} {k m : Nat} (h : zrn t s 0 k = some q) (hn : zstep (t k) q = none) (h2 : zrn t s 0 m = some q') : m ≤ k := by
  by_cases e : k < m
  · rw [zrn_x h hn e] at h2
    cases h2
  · omega
/-- the class's reading and the reference's of the same text -/
theorem zrule_join {ln : Nat} {ok : Bool} {a2 : Nat} {cs2 Cs : List Nat} {cm : Nat → Bool} {z : Int} (h1 : zRu ln t ok a2 cs2) (h2 : zOut ln t ([], [], zub cm 0 false, 0, 0, true) z Cs) : (z = -1 ∧ zFo ln 40 a2 (min ln 40) ok = 0 ∧ ok = true ∧ ((ln = 0 ∧ Cs = [2004, 1000, 1001] ∧ cs2 = []) ∨ (0 < ln ∧ ln ≤ 40 ∧ Cs = cs2))) ∨ (0 ≤ z ∧ z ≤ 40 ∧ zFo ln 40 a2 (min ln 40) ok = -1 - z) := by
  rcases h1 with ⟨e1, e2, e3, e4⟩ | ⟨h0, hab, f, hz⟩
  · subst e1 e2 e3 e4
    rcases h2 with ⟨-, g2, g3⟩ | ⟨g1, -⟩ | ⟨g1, -⟩
    · exact Or.inl ⟨g2, rfl, rfl, Or.inl ⟨rfl, g3, rfl⟩⟩
    · omega
    · omega
  · have hs := (zsim (b := min ln 40) (t := t) f).1 0 0 0 0 [] [] (zub cm 0 false) ok a2 cs2 (by decide) (Nat.zero_le _) (fun _ o ho => by cases ho) (fun _ => zub_e) hz
    -- stopped, or read to the end
    have key : (∃ s2, zrn t ([], [], zub cm 0 false, 0, 0, true) 0 a2 = some s2 ∧ ((a2 < min ln 40 ∧ zstep (t a2) s2 = none) ∨ (a2 = min ln 40 ∧ ok = false ∧ (s2.2.2.2.2.2 = true ∨ 0 < s2.2.2.2.1)))) ∨ (a2 = min ln 40 ∧ ok = true ∧ ∃ C2 W2 cm2 dg2, zrn t ([], [], zub cm 0 false, 0, 0, true) 0 a2 = some (C2, W2, cm2, 0, dg2, false) ∧ cs2 = W2.reverse ++ C2 ∧ ∀ o ∈ W2, 1 ≤ zbd o) := by
      cases ok with
      | false =>
        obtain ⟨k1, k2, s2, k3, k4, k5⟩ := hs.2 rfl
        have k3 : zrn t _ 0 (a2 - 0) = some s2 := k3
        rw [Nat.sub_zero] at k3
        refine Or.inl ⟨s2, k3, ?_⟩
        by_cases e : a2 < min ln 40
        · exact Or.inl ⟨e, k4 e⟩
        · exact Or.inr ⟨by omega, rfl, k5 (by omega)⟩
      | true =>
        obtain ⟨k1, k2, C2, W2, cm2, dg2, k3, k4, k5, k6, k7, k8⟩ := hs.1 rfl
        have k3 : zrn t _ 0 (a2 - 0) = some (C2, W2 ++ [], cm2, 0, dg2, false) := k3
        rw [Nat.sub_zero, List.append_nil] at k3
        by_cases e : a2 < min ln 40
        · refine Or.inl ⟨_, k3, Or.inl ⟨e, ?_⟩⟩
          obtain ⟨n1, n2⟩ := k8 e
          refine zstep_x n1 (fun _ => rfl) (fun q => ?_)
          have hq := zbd_op q
          rcases n2 q with r | r
          · omega
          · exact r
        · exact Or.inr ⟨by omega, rfl, C2, W2, cm2, dg2, k3, k4, k5⟩
    rcases h2 with ⟨g1, -⟩ | ⟨-, g2, g3, C, W, cm3, dg, g4, g5⟩ | ⟨-, p, s, g1, g2, g3, g4, g5⟩
    · omega
    · -- the class read all
      rcases key with ⟨s2, k1, ⟨k2, k3⟩ | ⟨k2, k3, k4⟩⟩ | ⟨k1, k2, C2, W2, cm2, dg2, k3, k4, k5⟩
      · rw [zrn_x k1 k3 (show a2 < ln by omega)] at g4
        cases g4
      · rw [show a2 = ln by omega, g4] at k1
        cases k1
        rcases k4 with q | q
        · cases q
        · exact absurd q (Nat.lt_irrefl 0)
      · have ea : a2 = ln := by omega
        rw [ea, g4] at k3
        cases k3
        refine Or.inl ⟨g3, ?_, k2, Or.inr ⟨h0, g2, ?_⟩⟩
        · subst k2
          rw [zFo_t, if_neg (by omega), if_pos k1]
        · have := zrl_all (b := 1) (W2 := W) (W := []) (C := C) k5 (fun o ho => by cases ho)
          rw [List.append_nil] at this
          rw [g5, this, k4]
    · -- the class stopped at p
      refine Or.inr ⟨by omega, by omega, ?_⟩
      have hp : p = a2 ∧ (ok = true → a2 = min ln 40 → 40 < ln) := by
        rcases key with ⟨s2, k1, ⟨k2, k3⟩ | ⟨k2, k3, k4⟩⟩ | ⟨k1, k2, C2, W2, cm2, dg2, k3, k4, k5⟩
        · refine ⟨?_, fun _ q => by omega⟩
          have hle := zrn_y k1 k3 g3
          rcases g5 with ⟨q1, q2, q3⟩ | ⟨q1, q2⟩ | ⟨q1, q2⟩
          · have := zrn_y g3 q3 k1
            omega
          · omega
          · omega
        · refine ⟨?_, fun q => by rw [k3] at q; cases q⟩
          rcases g5 with ⟨q1, q2, q3⟩ | ⟨q1, q2⟩ | ⟨q1, q2⟩
          · have := zrn_y g3 q3 k1
            omega
          · omega
          · omega
        · rcases g5 with ⟨q1, q2, q3⟩ | ⟨q1, q2⟩ | ⟨q1, q2⟩
          · have := zrn_y g3 q3 k3
            omega
          · exact ⟨by omega, fun _ _ => by omega⟩
          · exfalso
            by_cases e : ln ≤ 40
            · rw [show a2 = p by omega, g3] at k3
              cases k3
              rcases q2 with q | q
              · cases q
              · exact absurd q (Nat.lt_irrefl 0)
            · omega
      obtain ⟨hp1, hp2⟩ := hp
      rw [g4, hp1]
      cases ok with
      | false =>
        rw [zFo_b]
        split
        · omega
        · rfl
      | true =>
        rw [zFo_t]
        have := hp2 rfl
        split
        · omega
        · rw [if_neg (by omega)]
end ZRJ
theorem zm_rule {ph : pm_H} {ln : Nat} {t : Nat → Nat} (hS : zSh ph) (hn : zc ph 170 14 = some (.int (zn ln))) (hn80 : ln ≤ 80) (gt : ∀ i, i < ln → zc ph 176 i = some (.int (zn (t i))) ∧ t i < 256) : zM 217 [.ref 170] ph (fun v0 q => zFr [179, 180] [(170, 0), (170, 14), (170, 15), (170, 16), (170, 17), (170, 23), (170, 24)] ph q ∧ zc q 170 0 = some (.int (zn 0)) ∧ zc q 170 14 = some (.int (zn 0)) ∧ ∃ (ok : Bool) (a2 : Nat) (cs2 : List Nat) (z : Int32), zRu ln t ok a2 cs2 ∧ cs2.length ≤ 40 ∧ v0 = some (.int z) ∧ z.toInt = zFo ln 40 a2 (min ln 40) ok ∧ ((z.toInt = 0 ∧ zc q 170 23 = some (.int (zn cs2.length)) ∧ ∀ i, i < cs2.length → zc q 179 i = some (.int (zn (cs2.reverse.getD i 0))) ∧ cs2.reverse.getD i 0 ≤ 3000) ∨ (z.toInt ≠ 0 ∧ zc q 170 23 = zc ph 170 23 ∧ ∀ i, zc q 179 i = zc ph 179 i))) := by
  obtain ⟨Q, hQ⟩ : ∃ Q : Option Value → pm_H → Prop, Q = (fun v0 q => zFr [179, 180] [(170, 0), (170, 14), (170, 15), (170, 16), (170, 17), (170, 23), (170, 24)] ph q ∧ zc q 170 0 = some (.int (zn 0)) ∧ zc q 170 14 = some (.int (zn 0)) ∧ ∃ (ok : Bool) (a2 : Nat) (cs2 : List Nat) (z : Int32), zRu ln t ok a2 cs2 ∧ cs2.length ≤ 40 ∧ v0 = some (.int z) ∧ z.toInt = zFo ln 40 a2 (min ln 40) ok ∧ ((z.toInt = 0 ∧ zc q 170 23 = some (.int (zn cs2.length)) ∧ ∀ i, i < cs2.length → zc q 179 i = some (.int (zn (cs2.reverse.getD i 0))) ∧ cs2.reverse.getD i 0 ≤ 3000) ∨ (z.toInt ≠ 0 ∧ zc q 170 23 = zc ph 170 23 ∧ ∀ i, zc q 179 i = zc ph 179 i))) := ⟨_, rfl⟩
  rw [← hQ]
  refine zM_mk fun n D => ?_
  show zW n D 217 Q 0 [some (.ref 170), none] [] ph
  have c_0 : (Int32.ofInt 0).toInt = 0 := by decide +kernel
  refine w_load (pc' := 1) (v := .ref 170) (m := 1) (ykc_217 (e := (2, .aload_n kF0, 0)) rfl) rfl rfl ?_
  refine w_alu (pc' := 2) (st' := [.int (Int32.ofInt 0), .ref 170]) (ykc_217 (e := (0, .iconst 0, 0)) rfl) rfl rfl ?_
  refine w_pf (pc' := 5) (ykc_217 (e := (5, .putfield 3, 0)) rfl) rfl rfl (fun ph1518 u1517 => ?_)
  refine w_load (pc' := 6) (v := .ref 170) (m := 1) (ykc_217 (e := (2, .aload_n kF0, 0)) rfl) rfl rfl ?_
  have fu : zFr [] [(170, 0)] _ ph1518 := zFr_st u1517 (Or.inr (by first | exact zqj rfl | simp))
  refine w_cv (as := [.ref 170]) (r := []) (ykc_217 (e := (6, .invokevirtual 251, 0)) rfl) rfl rfl rfl rfl (zm_rulesRead (zSh_F fu (by decide +kernel) hS) ((fu.1 170 14 (by first | exact zqm rfl | decide) (by first | exact zqp rfl | decide)).trans hn) hn80 (fun i hi => ⟨(fu.1 176 i (by first | exact zqm rfl | simp) (by first | exact zqp rfl | simp)).trans (gt i hi).1, (gt i hi).2⟩)) (fun v1519 ph1520 hv => ?_)
  rcases hv with ⟨f2, h14, ok, a2, cs2, z9, hru, hR2, hl2, rfl, hz9⟩
  · have tl9 := znt (k := cs2.length) (by omega)
    show zW n D 217 Q 9 [some (.ref 170), none] [.int z9] ph1520
    refine w_store (pc' := 10) (L' := [some (.ref 170), some (.int z9)]) (st' := []) (m := 1) (ykc_217 (e := (3, .istore_n kF1, 0)) rfl) rfl rfl ?_
    refine w_load (pc' := 11) (v := .int z9) (m := 1) (ykc_217 (e := (2, .iload_n kF1, 0)) rfl) rfl rfl ?_
    refine w_zne (ykc_217 (e := (4, .ifCond .ne 15, 26)) rfl) rfl (fun b1521 => ?_) (fun b1521 => ?_)
    · refine w_load (pc' := 27) (v := .int z9) (m := 1) (ykc_217 (e := (2, .iload_n kF1, 0)) rfl) rfl rfl ?_
      refine w_ret (v := (some (.int z9))) (ykc_217 (e := (7, .ireturn, 0)) rfl) (zr_v rfl) ?_
      rw [hQ]
      exact ⟨(show zFr [179, 180] [(170, 0), (170, 14), (170, 15), (170, 16), (170, 17), (170, 23), (170, 24)] ph ph1520 from (zFr_trans (zFr_st u1517 (Or.inr (by first | exact zqj rfl | simp))) (zFr_mono f2 (by first | exact zqa rfl | simp) (by first | exact zqf rfl | simp)))), (f2.1 170 0 (by first | exact zqm rfl | decide) (by first | exact zqp rfl | decide)).trans u1517.1, h14, ok, a2, cs2, z9, hru, hl2, rfl, hz9, Or.inr ⟨by omega, (f2.1 170 23 (by first | exact zqm rfl | decide) (by first | exact zqp rfl | decide)).trans (fu.1 170 23 (by first | exact zqm rfl | decide) (by first | exact zqp rfl | decide)), fun i => (f2.1 179 i (by first | exact zqm rfl | simp) (by first | exact zqp rfl | simp)).trans (fu.1 179 i (by first | exact zqm rfl | simp) (by first | exact zqp rfl | simp))⟩⟩
    · refine w_load (pc' := 15) (v := .ref 170) (m := 1) (ykc_217 (e := (2, .aload_n kF0, 0)) rfl) rfl rfl ?_
      refine w_load (pc' := 16) (v := .ref 170) (m := 1) (ykc_217 (e := (2, .aload_n kF0, 0)) rfl) rfl rfl ?_
      refine w_gf (pc' := 19) (v := .ref 180) (ykc_217 (e := (5, .getfield 59, 0)) rfl) rfl ((f2.1 170 22 (by first | exact zqm rfl | decide) (by first | exact zqp rfl | decide)).trans ((u1517.2.1 170 22 (fun q => absurd q.2 (by first | exact Nat.ne_of_beq_eq_false rfl | decide))).trans (zsg hS zs_170_22))) rfl ?_
      refine w_load (pc' := 20) (v := .ref 170) (m := 1) (ykc_217 (e := (2, .aload_n kF0, 0)) rfl) rfl rfl ?_
      refine w_gf (pc' := 23) (v := .int (zn cs2.length)) (ykc_217 (e := (5, .getfield 227, 0)) rfl) rfl hR2.1 rfl ?_
      refine w_cv (as := [.ref 170, .ref 180, .int (zn cs2.length)]) (r := []) (ykc_217 (e := (6, .invokevirtual 254, 0)) rfl) rfl rfl rfl rfl (zm_laysCode (zSh_F (show zFr [179, 180] [(170, 0), (170, 14), (170, 15), (170, 16), (170, 17), (170, 23), (170, 24)] ph ph1520 from (zFr_trans (zFr_st u1517 (Or.inr (by first | exact zqj rfl | simp))) (zFr_mono f2 (by first | exact zqa rfl | simp) (by first | exact zqf rfl | simp)))) (by decide +kernel) hS) hR2 rfl hl2) (fun v1522 ph1523 hv => ?_)
      rcases hv with ⟨rfl, f3, h23, h179⟩
      · have hlaid := True.intro
        show zW n D 217 Q 26 [some (.ref 170), some (.int z9)] [] ph1523
        refine w_load (pc' := 27) (v := .int z9) (m := 1) (ykc_217 (e := (2, .iload_n kF1, 0)) rfl) rfl rfl ?_
        refine w_ret (v := (some (.int z9))) (ykc_217 (e := (7, .ireturn, 0)) rfl) (zr_v rfl) ?_
        rw [hQ]
        exact ⟨(show zFr [179, 180] [(170, 0), (170, 14), (170, 15), (170, 16), (170, 17), (170, 23), (170, 24)] ph ph1523 from (zFr_trans (zFr_trans (zFr_st u1517 (Or.inr (by first | exact zqj rfl | simp))) (zFr_mono f2 (by first | exact zqa rfl | simp) (by first | exact zqf rfl | simp))) (zFr_mono f3 (by first | exact zqa rfl | simp) (by first | exact zqf rfl | simp)))), (f3.1 170 0 (by first | exact zqm rfl | decide) (by first | exact zqp rfl | decide)).trans ((f2.1 170 0 (by first | exact zqm rfl | decide) (by first | exact zqp rfl | decide)).trans u1517.1), (f3.1 170 14 (by first | exact zqm rfl | decide) (by first | exact zqp rfl | decide)).trans h14, ok, a2, cs2, z9, hru, hl2, rfl, hz9, Or.inl ⟨by omega, h23, h179⟩⟩
      
  
theorem zc_other {ph : pm_H} {F : Nat} (ho : zc ph 10 2 = some (.ref F)) : zM 77 [.ref 10] ph (fun v q => ph = q ∧ v = some (.ref F)) := by
  obtain ⟨Q, hQ⟩ : ∃ Q : Option Value → pm_H → Prop, Q = (fun v q => ph = q ∧ v = some (.ref F)) := ⟨_, rfl⟩
  rw [← hQ]
  refine zM_mk fun n D => ?_
  show zW n D 77 Q 0 [some (.ref 10)] [] ph
  refine w_load (pc' := 1) (v := .ref 10) (m := 1) (ykc_77 (e := (2, .aload_n kF0, 0)) rfl) rfl rfl ?_
  refine w_gf (pc' := 4) (v := .ref F) (ykc_77 (e := (5, .getfield 22, 0)) rfl) rfl ho rfl ?_
  refine w_ret (v := (some (.ref F))) (ykc_77 (e := (7, .areturn, 0)) rfl) (zr_v rfl) ?_
  rw [hQ]
  exact ⟨rfl, rfl⟩
theorem zc_takeOther {ph : pm_H} {F G : Nat} (ho : zc ph 10 2 = some (.ref F)) (hr : zc ph 10 1 = some (.ref G)) : zM 78 [.ref 10] ph (fun v q => v = none ∧ zFr [] [(10, 1), (10, 2)] ph q ∧ zc q 10 1 = some (.ref F) ∧ zc q 10 2 = some (.ref G)) := by
  obtain ⟨Q, hQ⟩ : ∃ Q : Option Value → pm_H → Prop, Q = (fun v q => v = none ∧ zFr [] [(10, 1), (10, 2)] ph q ∧ zc q 10 1 = some (.ref F) ∧ zc q 10 2 = some (.ref G)) := ⟨_, rfl⟩
  rw [← hQ]
  refine zM_mk fun n D => ?_
  show zW n D 78 Q 0 [some (.ref 10), none] [] ph
  refine w_load (pc' := 1) (v := .ref 10) (m := 1) (ykc_78 (e := (2, .aload_n kF0, 0)) rfl) rfl rfl ?_
  refine w_gf (pc' := 4) (v := .ref G) (ykc_78 (e := (5, .getfield 18, 0)) rfl) rfl hr rfl ?_
  refine w_store (pc' := 5) (L' := [some (.ref 10), some (.ref G)]) (st' := []) (m := 1) (ykc_78 (e := (3, .astore_n kF1, 0)) rfl) rfl rfl ?_
  refine w_load (pc' := 6) (v := .ref 10) (m := 1) (ykc_78 (e := (2, .aload_n kF0, 0)) rfl) rfl rfl ?_
  refine w_load (pc' := 7) (v := .ref 10) (m := 1) (ykc_78 (e := (2, .aload_n kF0, 0)) rfl) rfl rfl ?_
  refine w_gf (pc' := 10) (v := .ref F) (ykc_78 (e := (5, .getfield 22, 0)) rfl) rfl ho rfl ?_
  refine w_pf (pc' := 13) (ykc_78 (e := (5, .putfield 18, 0)) rfl) rfl rfl (fun ph1525 u1524 => ?_)
  refine w_load (pc' := 14) (v := .ref 10) (m := 1) (ykc_78 (e := (2, .aload_n kF0, 0)) rfl) rfl rfl ?_
  refine w_load (pc' := 15) (v := .ref G) (m := 1) (ykc_78 (e := (2, .aload_n kF1, 0)) rfl) rfl rfl ?_
  refine w_pf (pc' := 18) (ykc_78 (e := (5, .putfield 22, 0)) rfl) rfl rfl (fun ph1527 u1526 => ?_)
  refine w_ret (v := none) (ykc_78 (e := (7, .return_, 0)) rfl) (zr_v rfl) ?_
  rw [hQ]
  exact ⟨rfl, zFr_trans (zFr_st u1524 (Or.inr (by first | exact zqj rfl | simp))) (zFr_st u1526 (Or.inr (by first | exact zqj rfl | simp))), ((u1526.2.1 10 1 (fun q => absurd q.2 (by first | exact Nat.ne_of_beq_eq_false rfl | decide))).trans u1524.1), u1526.1⟩
theorem zc_rule {ph : pm_H} {F G ln : Nat} {t : Nat → Nat} {cm : Nat → Bool} (hS : zSh ph) (hF : F = 11 ∨ F = 16) (hT : zTc ph ln t) (ho : zc ph 10 2 = some (.ref F)) (hr : zc ph 10 1 = some (.ref G)) (hp : zFp ph F) (hb : zFb ph F cm) : zM 128 [.ref 0] ph (fun v0 q => zFr [F + 1, F + 2, F + 3] [(F, 1), (F, 3), (F, 5), (F, 6), (F, 7), (1, 1), (10, 1), (10, 2)] ph q ∧ zc q 1 1 = some (.int (zn 0)) ∧ (∃ cm2, zFb q F cm2) ∧ ∃ (z y : Int32) (Cs : List Nat), zOut ln t ([], [], zub cm 0 false, 0, 0, true) z.toInt Cs ∧ v0 = some (.int y) ∧ ((z.toInt = -1 ∧ y.toInt = 0 ∧ zFc q F Cs ∧ zc q 10 1 = some (.ref F) ∧ zc q 10 2 = some (.ref G)) ∨ (0 ≤ z.toInt ∧ y.toInt = -1 - z.toInt ∧ zc q 10 1 = some (.ref G) ∧ zc q 10 2 = some (.ref F)))) := by
  obtain ⟨Q, hQ⟩ : ∃ Q : Option Value → pm_H → Prop, Q = (fun v0 q => zFr [F + 1, F + 2, F + 3] [(F, 1), (F, 3), (F, 5), (F, 6), (F, 7), (1, 1), (10, 1), (10, 2)] ph q ∧ zc q 1 1 = some (.int (zn 0)) ∧ (∃ cm2, zFb q F cm2) ∧ ∃ (z y : Int32) (Cs : List Nat), zOut ln t ([], [], zub cm 0 false, 0, 0, true) z.toInt Cs ∧ v0 = some (.int y) ∧ ((z.toInt = -1 ∧ y.toInt = 0 ∧ zFc q F Cs ∧ zc q 10 1 = some (.ref F) ∧ zc q 10 2 = some (.ref G)) ∨ (0 ≤ z.toInt ∧ y.toInt = -1 - z.toInt ∧ zc q 10 1 = some (.ref G) ∧ zc q 10 2 = some (.ref F)))) := ⟨_, rfl⟩
  rw [← hQ]
  refine zM_mk fun n D => ?_
  show zW n D 128 Q 0 [some (.ref 0), none] [] ph
  have c_0 : (Int32.ofInt (-1)).toInt = -1 := by decide +kernel
  have c_1 : (Int32.ofInt 0).toInt = 0 := by decide +kernel
  refine w_load (pc' := 1) (v := .ref 0) (m := 1) (ykc_128 (e := (2, .aload_n kF0, 0)) rfl) rfl rfl ?_
  refine w_gf (pc' := 4) (v := .ref 10) (ykc_128 (e := (5, .getfield 35, 0)) rfl) rfl (zsg hS zs_0_3) rfl ?_
  refine w_cv (as := [.ref 10]) (r := []) (ykc_128 (e := (6, .invokevirtual 157, 0)) rfl) rfl rfl rfl rfl (zc_other ho) (fun v1528 ph1529 hv => ?_)
  obtain ⟨rfl, rfl⟩ := hv
  show zW n D 128 Q 7 [some (.ref 0), none] [.ref F] ph
  refine w_load (pc' := 8) (v := .ref 0) (m := 1) (ykc_128 (e := (2, .aload_n kF0, 0)) rfl) rfl rfl ?_
  refine w_gf (pc' := 11) (v := .ref 1) (ykc_128 (e := (5, .getfield 10, 0)) rfl) rfl (zsg hS zs_0_0) rfl ?_
  refine w_cv (as := [.ref F, .ref 1]) (r := []) (ykc_128 (e := (6, .invokevirtual 161, 0)) rfl) rfl rfl rfl rfl (zc_fread hS hF hT hp hb) (fun v1530 ph1531 hv => ?_)
  rcases hv with ⟨f1, hcm9, z9, Cs, rfl, ho9, hc9⟩
  · have hzr : z9.toInt = -1 ∨ 0 ≤ z9.toInt := by
      rcases ho9 with ⟨-, q, -⟩ | ⟨-, -, q, -⟩ | ⟨-, p9, s9, -, -, -, q, -⟩ <;> omega
    have hz40 : z9.toInt ≤ 80 := by
      rcases ho9 with ⟨-, q, -⟩ | ⟨-, -, q, -⟩ | ⟨-, p9, s9, q2, q3, -, q, -⟩ <;> omega
    show zW n D 128 Q 14 [some (.ref 0), none] [.int z9] ph1531
    refine w_store (pc' := 15) (L' := [some (.ref 0), some (.int z9)]) (st' := []) (m := 1) (ykc_128 (e := (3, .istore_n kF1, 0)) rfl) rfl rfl ?_
    refine w_load (pc' := 16) (v := .ref 0) (m := 1) (ykc_128 (e := (2, .aload_n kF0, 0)) rfl) rfl rfl ?_
    refine w_gf (pc' := 19) (v := .ref 1) (ykc_128 (e := (5, .getfield 10, 0)) rfl) rfl ((f1.1 0 0 (by simp <;> omega) (by simp <;> omega)).trans (zsg hS zs_0_0)) rfl ?_
    refine w_cv (as := [.ref 1]) (r := []) (ykc_128 (e := (6, .invokevirtual 119, 0)) rfl) rfl rfl rfl rfl (zc_tclear) (fun v1532 ph1533 hv => ?_)
    obtain ⟨rfl, f2, h11⟩ := hv
    show zW n D 128 Q 22 [some (.ref 0), some (.int z9)] [] ph1533
    refine w_load (pc' := 23) (v := .int z9) (m := 1) (ykc_128 (e := (2, .iload_n kF1, 0)) rfl) rfl rfl ?_
    refine w_zlt (ykc_128 (e := (4, .ifCond .lt 7, 30)) rfl) rfl (fun b1534 => ?_) (fun b1534 => ?_)
    · refine w_load (pc' := 31) (v := .ref 0) (m := 1) (ykc_128 (e := (2, .aload_n kF0, 0)) rfl) rfl rfl ?_
      refine w_gf (pc' := 34) (v := .ref 10) (ykc_128 (e := (5, .getfield 35, 0)) rfl) rfl ((f2.1 0 3 (by first | exact zqm rfl | decide) (by first | exact zqp rfl | decide)).trans ((f1.1 0 3 (by simp <;> omega) (by simp <;> omega)).trans (zsg hS zs_0_3))) rfl ?_
      refine w_cv (as := [.ref 10]) (r := []) (ykc_128 (e := (6, .invokevirtual 164, 0)) rfl) rfl rfl rfl rfl (zc_takeOther (F := F) (G := G) ((f2.1 10 2 (by rcases hF with e | e <;> subst e <;> decide) (by rcases hF with e | e <;> subst e <;> decide)).trans ((f1.1 10 2 (by rcases hF with e | e <;> subst e <;> decide) (by rcases hF with e | e <;> subst e <;> decide)).trans ho)) ((f2.1 10 1 (by rcases hF with e | e <;> subst e <;> decide) (by rcases hF with e | e <;> subst e <;> decide)).trans ((f1.1 10 1 (by rcases hF with e | e <;> subst e <;> decide) (by rcases hF with e | e <;> subst e <;> decide)).trans hr))) (fun v1535 ph1536 hv => ?_)
      obtain ⟨rfl, f3, h3r, h3o⟩ := hv
      show zW n D 128 Q 37 [some (.ref 0), some (.int z9)] [] ph1536
      refine w_alu (pc' := 38) (st' := [.int (Int32.ofInt 0)]) (ykc_128 (e := (0, .iconst 0, 0)) rfl) rfl rfl ?_
      refine w_ret (v := (some (.int (Int32.ofInt 0)))) (ykc_128 (e := (7, .ireturn, 0)) rfl) (zr_v rfl) ?_
      obtain ⟨cm9, hcm9⟩ := hcm9
      rw [hQ]
      exact ⟨(show zFr [F + 1, F + 2, F + 3] [(F, 1), (F, 3), (F, 5), (F, 6), (F, 7), (1, 1), (10, 1), (10, 2)] ph ph1536 from (zFr_trans (zFr_trans (zFr_mono f1 (by first | exact zqa rfl | simp) (by first | exact zqf rfl | simp)) (zFr_mono f2 (by first | exact zqa rfl | simp) (by first | exact zqf rfl | simp))) (zFr_mono f3 (by first | exact zqa rfl | simp) (by first | exact zqf rfl | simp)))), (f3.1 1 1 (by first | exact zqm rfl | decide) (by first | exact zqp rfl | decide)).trans h11, ⟨cm9, zFb_F f3 (by first | exact zqm rfl | simp) (by simp <;> omega) (zFb_F f2 (by first | exact zqm rfl | simp) (by simp <;> omega) hcm9)⟩, z9, _, Cs, ho9, rfl, Or.inl ⟨by omega, by decide, zFc_F f3 (by first | exact ⟨zqm rfl, zqm rfl⟩ | simp) (by rcases hF with e | e <;> subst e <;> simp) (zFc_F f2 (by first | exact ⟨zqm rfl, zqm rfl⟩ | simp) (by rcases hF with e | e <;> subst e <;> simp) (hc9 (by omega))), h3r, h3o⟩⟩
    · refine w_alu (pc' := 27) (st' := [.int (Int32.ofInt (-1))]) (ykc_128 (e := (0, .iconst (-1), 0)) rfl) rfl rfl ?_
      refine w_load (pc' := 28) (v := .int z9) (m := 1) (ykc_128 (e := (2, .iload_n kF1, 0)) rfl) rfl rfl ?_
      obtain ⟨z1537, e_z1537, h_z1537⟩ : ∃ zq : Int32, (Int32.ofInt (-1)) - z9 = zq ∧ zq.toInt = (-1 : Int) - z9.toInt := ⟨_, rfl, zm1sub (by omega) (by omega) (by omega)⟩
      refine w_alu (pc' := 29) (st' := [.int z1537]) (ykc_128 (e := (0, .isub, 0)) rfl) (by rw [← e_z1537]; rfl) rfl ?_
      refine w_ret (v := (some (.int z1537))) (ykc_128 (e := (7, .ireturn, 0)) rfl) (zr_v rfl) ?_
      obtain ⟨cm9, hcm9⟩ := hcm9
      rw [hQ]
      exact ⟨(show zFr [F + 1, F + 2, F + 3] [(F, 1), (F, 3), (F, 5), (F, 6), (F, 7), (1, 1), (10, 1), (10, 2)] ph ph1533 from (zFr_trans (zFr_mono f1 (by first | exact zqa rfl | simp) (by first | exact zqf rfl | simp)) (zFr_mono f2 (by first | exact zqa rfl | simp) (by first | exact zqf rfl | simp)))), h11, ⟨cm9, zFb_F f2 (by first | exact zqm rfl | simp) (by simp <;> omega) hcm9⟩, z9, _, Cs, ho9, rfl, Or.inr ⟨by omega, by omega, ((f2.1 10 1 (by rcases hF with e | e <;> subst e <;> decide) (by rcases hF with e | e <;> subst e <;> decide)).trans ((f1.1 10 1 (by rcases hF with e | e <;> subst e <;> decide) (by rcases hF with e | e <;> subst e <;> decide)).trans hr)), ((f2.1 10 2 (by rcases hF with e | e <;> subst e <;> decide) (by rcases hF with e | e <;> subst e <;> decide)).trans ((f1.1 10 2 (by rcases hF with e | e <;> subst e <;> decide) (by rcases hF with e | e <;> subst e <;> decide)).trans ho))⟩⟩
  
