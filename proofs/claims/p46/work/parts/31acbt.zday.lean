/-! DAY, class and reference, by W; printed by wip/z/z1o_day.py -/
theorem zKC_fa {p q : pm_H} {R C : Nat} {rk : Nat → Bool} {v2 : Nat → Nat} {P G nx u fl hn : Nat} {v : Nat → Nat} {w sv : Nat → Nat → Nat} (f : zFr [8, 9, 15, 20, 22, 23, 24, 26, 27, 28, 29, 30] [(5, 4), (25, 2)] p q) (h : zKC p R C rk P G v nx u w fl sv hn) (hd : zSd q 25 P G v2) : zKC q R C rk P G v2 nx u w fl sv hn := ⟨zCl_F f (by first | exact ⟨zqm rfl, zqm rfl, zqm rfl⟩ | simp) (by intro i hi; simp <;> omega) (by simp) h.1, hd, zCu_F f (by first | exact zqm rfl | simp) (by first | exact ⟨zqp rfl, zqp rfl⟩ | simp) (by intro j h1 h2; simp <;> omega) (by intro j i h1 h2; simp <;> omega) h.2.2.1, zCk_F f (by first | exact zqm rfl | simp) (by first | exact zqp rfl | simp) (by intro j h1 h2; simp <;> omega) (by intro j i h1 h2; simp <;> omega) h.2.2.2.1, (f.1 _ _ (by first | exact zqm rfl | simp) (by first | exact zqp rfl | simp)).trans h.2.2.2.2.1, h.2.2.2.2.2⟩
/-- a plan's or a text's cells have changed -/
theorem zKC_pl {p q : pm_H} {R C : Nat} {rk : Nat → Bool} {P G nx u fl hn : Nat} {v : Nat → Nat} {w sv : Nat → Nat → Nat} (f : zFr [158, 159] [(157, 2), (1, 1)] p q) (h : zKC p R C rk P G v nx u w fl sv hn) : zKC q R C rk P G v nx u w fl sv hn := ⟨zCl_F f (by first | exact ⟨zqm rfl, zqm rfl, zqm rfl⟩ | simp) (by intro i hi; simp) (by simp) h.1, zSd_F f (by intro j hj; simp <;> omega) (by intro j k hj; simp <;> omega) h.2.1, zCu_F f (by first | exact zqm rfl | simp) (by first | exact ⟨zqp rfl, zqp rfl⟩ | simp) (by intro j h1 h2; simp <;> omega) (by intro j i h1 h2; simp <;> omega) h.2.2.1, zCk_F2 f (by first | exact zqm rfl | simp) (by first | exact zqp rfl | simp) (by intro j h1 h2; simp <;> omega) (by intro j i h1 h2; simp <;> omega) h.2.2.2.1, (f.1 _ _ (by first | exact zqm rfl | simp) (by first | exact zqp rfl | simp)).trans h.2.2.2.2.1, h.2.2.2.2.2⟩
/-- the row from before put into the history -/
theorem zKC_pu {p q1 q2 q : pm_H} {R C : Nat} {rk : Nat → Bool} {v0 : Nat → Nat} {P G nx u fl hn : Nat} {v : Nat → Nat} {w sv : Nat → Nat → Nat} (h : zKC p R C rk P G v nx u w fl sv hn) (f : zCo (45 + 6 * nx) p q1) (u1 : zst q1 q2 43 1 (.int (zn (if nx + 1 < 15 then nx + 1 else 0)))) (u2 : zst q2 q 43 2 (.int (zn (min 15 (u + 1))))) (hd : zSd q (45 + 6 * nx) P G v0) : zKC q R C rk P G v (if nx + 1 < 15 then nx + 1 else 0) (zAd u) (zAw u (zWp u w v0)) fl sv hn := by
  obtain ⟨hL, h25, hU, hk, hh⟩ := h
  have fr : zFr [] [(43, 1), (43, 2)] q1 q := zFr_trans (zFr_st u1 (Or.inr (by first | exact zqj rfl | simp))) (zFr_st u2 (Or.inr (by first | exact zqj rfl | simp)))
  have hnx := hU.2.1
  refine ⟨?_, ?_, zCu_push hU f u1 u2 hd, ?_, ?_, hh.2⟩
  · exact zCl_F fr (by first | exact ⟨zqm rfl, zqm rfl, zqm rfl⟩ | simp) (by intro i hi; simp) (by simp) (zCl_F f (by simp <;> omega) (by intro i hi; simp <;> omega) (by intro i; simp <;> omega) hL)
  · exact zSd_F fr (by intro j hj; simp) (by intro j k hj; simp <;> omega) (zCo_d (by omega) f h25)
  · exact zCk_F fr (by first | exact zqm rfl | simp) (by first | exact zqp rfl | simp) (by intro j h1 h2; simp) (by intro j i h1 h2; simp <;> omega) (zCk_F f (by simp <;> omega) (by simp <;> omega) (by intro j h1 h2; simp <;> omega) (by intro j i h1 h2; simp <;> omega) hk)
  · exact (fr.1 _ _ (by first | exact zqm rfl | simp) (by first | exact zqp rfl | simp)).trans ((f.1 _ _ (by simp <;> omega) (by simp <;> omega)).trans hh.1)
theorem zMe_F4 {p q : pm_H} {E : zEn} (f : zFr [174, 181, 182, 183, 184, 185, 186, 187, 188] [(170, 0), (170, 14), (170, 15), (170, 16), (170, 17), (170, 34)] p q) (h : zMe p E) : zMe q E := by
  obtain ⟨h1, ⟨a1, a2, a3, a4, a5, a6, a7⟩, h3⟩ := h
  exact ⟨zMl_F f (by first | exact zqp rfl | simp) (by first | exact zqp rfl | simp) (by first | exact (fun _ => zqr rfl) | simp) (by first | exact ⟨zqm rfl, zqm rfl⟩ | simp) h1, ⟨(f.1 _ _ (by first | exact zqm rfl | decide) (by first | exact zqp rfl | decide)).trans a1, a2, a3, fun i hi => ⟨(f.1 _ _ (by first | exact zqm rfl | simp) (by first | exact zqp rfl | simp)).trans (a4 i hi).1, (a4 i hi).2⟩, (f.1 _ _ (by first | exact zqm rfl | decide) (by first | exact zqp rfl | decide)).trans a5, a6, fun i hi => ⟨(f.1 _ _ (by first | exact zqm rfl | simp) (by first | exact zqp rfl | simp)).trans (a7 i hi).1, (a7 i hi).2⟩⟩, h3⟩
theorem zWp_lt {u i : Nat} {w : Nat → Nat → Nat} {v : Nat → Nat} (h : i < u) : zWp u w v i = w i := by
  unfold zWp
  rw [if_neg (by omega)]
theorem zm_day {ph : pm_H} {E : zEn} {P G u ch hn ln : Nat} {v t : Nat → Nat} {w : Nat → Nat → Nat} {kp : Nat → Bool} {kc : Nat → Nat} {sv : Nat → Nat → Nat} (hS : zSh ph) (hK : zKM ph E.1 E.2.1 E.2.2.1 P G v u w ch kp kc sv hn) (hE : zMe ph E) (hO : zOk E.1 E.2.1 P G v) (h40 : v 40 < 990000) (hn0 : zc ph 170 14 = some (.int (zn ln))) (hn80 : ln ≤ 80) (gt : ∀ i, i < ln → zc ph 176 i = some (.int (zn (t i))) ∧ t i < 256) : zM 255 [.ref 170] ph (fun v0 q => zFr [171, 174, 181, 182, 183, 184, 185, 186, 187, 188] [(170, 0), (170, 1), (170, 14), (170, 15), (170, 16), (170, 17), (170, 27), (170, 34)] ph q ∧ zc q 170 0 = some (.int (zn 0)) ∧ zc q 170 14 = some (.int (zn 0)) ∧ ∃ (ok : Bool) (a k : Nat) (y : Int32), zDo (min ln 60) t ok a k ∧ v0 = some (.int y) ∧ ((¬ (ok = true ∧ ln ≤ 60) ∧ y.toInt = -1 - (a : Int) ∧ zKM q E.1 E.2.1 E.2.2.1 P G v u w ch kp kc sv hn) ∨ (ok = true ∧ ln ≤ 60 ∧ ∃ i v2, zAs2 E P G v t k i v2 ∧ y.toInt = (i : Int) ∧ ((i = 0 ∧ zKM q E.1 E.2.1 E.2.2.1 P G v2 u w ch kp kc sv hn) ∨ (0 < i ∧ zKM q E.1 E.2.1 E.2.2.1 P G v2 (zAd u) (zAw u (zWp u w v)) ch kp kc sv hn))))) := by
  obtain ⟨Q, hQ⟩ : ∃ Q : Option Value → pm_H → Prop, Q = (fun v0 q => zFr [171, 174, 181, 182, 183, 184, 185, 186, 187, 188] [(170, 0), (170, 1), (170, 14), (170, 15), (170, 16), (170, 17), (170, 27), (170, 34)] ph q ∧ zc q 170 0 = some (.int (zn 0)) ∧ zc q 170 14 = some (.int (zn 0)) ∧ ∃ (ok : Bool) (a k : Nat) (y : Int32), zDo (min ln 60) t ok a k ∧ v0 = some (.int y) ∧ ((¬ (ok = true ∧ ln ≤ 60) ∧ y.toInt = -1 - (a : Int) ∧ zKM q E.1 E.2.1 E.2.2.1 P G v u w ch kp kc sv hn) ∨ (ok = true ∧ ln ≤ 60 ∧ ∃ i v2, zAs2 E P G v t k i v2 ∧ y.toInt = (i : Int) ∧ ((i = 0 ∧ zKM q E.1 E.2.1 E.2.2.1 P G v2 u w ch kp kc sv hn) ∨ (0 < i ∧ zKM q E.1 E.2.1 E.2.2.1 P G v2 (zAd u) (zAw u (zWp u w v)) ch kp kc sv hn))))) := ⟨_, rfl⟩
  rw [← hQ]
  refine zM_mk fun n D => ?_
  show zW n D 255 Q 0 [some (.ref 170), none, none, none, none] [] ph
  have c_0 : ((Int8.ofInt 40).toInt32).toInt = 40 := by decide +kernel
  have c_1 : ((Int8.ofInt 60).toInt32).toInt = 60 := by decide +kernel
  have c_2 : (Int32.ofInt 0).toInt = 0 := by decide +kernel
  have c_3 : (Int32.ofInt 1).toInt = 1 := by decide +kernel
  have hK0 := hK
  obtain ⟨hL, hN, hv, hU, hk9, hh⟩ := hK
  have hu15 := hU.2.1
  have tln := znt (k := ln) (by omega)
  have tz := znt (k := 0) (by omega)
  have hP8 : P ≤ 8 := hN.2.1
  have hG8 : G ≤ 8 := hN.2.2.2
  refine w_load (pc' := 1) (v := .ref 170) (m := 1) (ykc_255 (e := (2, .aload_n kF0, 0)) rfl) rfl rfl ?_
  refine w_alu (pc' := 2) (st' := [.int (Int32.ofInt 0), .ref 170]) (ykc_255 (e := (0, .iconst 0, 0)) rfl) rfl rfl ?_
  refine w_pf (pc' := 5) (ykc_255 (e := (5, .putfield 3, 0)) rfl) rfl rfl (fun ph1518 u1517 => ?_)
  refine w_load (pc' := 6) (v := .ref 170) (m := 1) (ykc_255 (e := (2, .aload_n kF0, 0)) rfl) rfl rfl ?_
  refine w_push (pc' := 8) (v := .int ((Int8.ofInt 60).toInt32)) (m := 2) (ykc_255 (e := (1, .bipush 60, 0)) rfl) rfl rfl ?_
  have f0 : zFr [] [(170, 0)] ph _ := zFr_st u1517 (Or.inr (by first | exact zqj rfl | simp))
  refine w_cv (as := [.ref 170, .int ((Int8.ofInt 60).toInt32)]) (r := []) (ykc_255 (e := (6, .invokevirtual 175, 0)) rfl) rfl rfl rfl rfl (zm_begins (c := 60) (zSh_F f0 (by decide +kernel) hS) ((f0.1 170 14 (by first | exact zqm rfl | decide) (by first | exact zqp rfl | decide)).trans hn0) hn80 (fun i hi => ⟨(f0.1 176 i (by first | exact zqm rfl | simp) (by first | exact zqp rfl | simp)).trans (gt i hi).1, (gt i hi).2⟩) (by decide) (by decide)) (fun v1519 ph1520 hv => ?_)
  obtain ⟨rfl, f1, h14, hT⟩ := hv
  show zW n D 255 Q 11 [some (.ref 170), none, none, none, none] [.int (zn ln)] ph1520
  refine w_store (pc' := 12) (L' := [some (.ref 170), some (.int (zn ln)), none, none, none]) (st' := []) (m := 1) (ykc_255 (e := (3, .istore_n kF1, 0)) rfl) rfl rfl ?_
  refine w_load (pc' := 13) (v := .ref 170) (m := 1) (ykc_255 (e := (2, .aload_n kF0, 0)) rfl) rfl rfl ?_
  refine w_alu (pc' := 14) (st' := [.int (Int32.ofInt 0), .ref 170]) (ykc_255 (e := (0, .iconst 0, 0)) rfl) rfl rfl ?_
  refine w_pf (pc' := 17) (ykc_255 (e := (5, .putfield 392, 0)) rfl) rfl rfl (fun ph1522 u1521 => ?_)
  refine w_alu (pc' := 18) (st' := [.int (Int32.ofInt 1)]) (ykc_255 (e := (0, .iconst 1, 0)) rfl) rfl rfl ?_
  refine w_store (pc' := 19) (L' := [some (.ref 170), some (.int (zn ln)), some (.int (Int32.ofInt 1)), none, none]) (st' := []) (m := 1) (ykc_255 (e := (3, .istore_n kF2, 0)) rfl) rfl rfl ?_
  have F0 : zFr [185, 186, 187, 188] [(170, 0), (170, 14), (170, 15), (170, 16), (170, 17), (170, 34)] ph ph1522 := (show zFr [185, 186, 187, 188] [(170, 0), (170, 14), (170, 15), (170, 16), (170, 17), (170, 34)] ph ph1522 from (zFr_trans (zFr_trans (zFr_st u1517 (Or.inr (by first | exact zqj rfl | simp))) (zFr_mono f1 (by first | exact zqa rfl | simp) (by first | exact zqf rfl | simp))) (zFr_st u1521 (Or.inr (by first | exact zqj rfl | simp)))))
  have g34 := u1521.1
  have hT1 := zTm_F (zFr_st u1521 (Or.inr (by first | exact zqj rfl | simp)) : zFr [] [(170, 34)] _ _) (by first | exact ⟨zqm rfl, zqm rfl⟩ | simp) (by first | exact ⟨zqp rfl, zqp rfl⟩ | simp) (by first | exact (fun _ => zqr rfl) | simp) hT
  have g0 : zc ph1522 170 0 = some (.int (zn 0)) := (u1521.2.1 170 0 (fun q => absurd q.2 (by first | exact Nat.ne_of_beq_eq_false rfl | decide))).trans ((f1.1 170 0 (by first | exact zqm rfl | decide) (by first | exact zqp rfl | decide)).trans u1517.1)
  have g14 : zc ph1522 170 14 = some (.int (zn 0)) := (u1521.2.1 170 14 (fun q => absurd q.2 (by first | exact Nat.ne_of_beq_eq_false rfl | decide))).trans h14
  have hl1 : ∀ (n : Nat), ∀ (k a : Nat) (p : pm_H), (zFr [185, 186, 187, 188] [(170, 15), (170, 34)] ph1522 p) → (zTm p a (min ln 60) ln t) → (zc p 170 34 = some (.int (zn k))) → (zDok (min ln 60) t k) → (zDp t k = a) → (zEd p t k) → zW n D 255 Q 19 [some (.ref 170), some (.int (zn ln)), some (.int (Int32.ofInt 1)), none, none] [] p := by
    intro n
    induction n using Nat.strongRecOn with
    | ind n ih =>
      intro k a p hf hTa h34 hok hka hD
      have hab := hTa.2.2.1
      have hge := zDp_ge hok
      have tk := znt (k := k) (by omega)
      have ta := znt (k := a) (by omega)
      have tb := znt (k := min ln 60) (by omega)
      have F2 : zFr [185, 186, 187, 188] [(170, 0), (170, 14), (170, 15), (170, 16), (170, 17), (170, 34)] ph p := zFr_trans F0 (zFr_mono hf (by first | exact zqa rfl | simp) (by first | exact zqf rfl | simp))
      have hSp := zSh_F F2 (by decide +kernel) hS
      refine w_load (pc' := 20) (v := .int (Int32.ofInt 1)) (m := 1) (ykc_255 (e := (2, .iload_n kF2, 0)) rfl) rfl rfl ?_
      refine w_zeq (ykc_255 (e := (4, .ifCond .eq 22, 42)) rfl) rfl (fun q => by exfalso; omega) (fun b1523 => ?_)
      refine w_load (pc' := 24) (v := .ref 170) (m := 1) (ykc_255 (e := (2, .aload_n kF0, 0)) rfl) rfl rfl ?_
      refine w_gf (pc' := 27) (v := .int (zn a)) (ykc_255 (e := (5, .getfield 139, 0)) rfl) rfl hTa.1 rfl ?_
      refine w_load (pc' := 28) (v := .ref 170) (m := 1) (ykc_255 (e := (2, .aload_n kF0, 0)) rfl) rfl rfl ?_
      refine w_gf (pc' := 31) (v := .int (zn (min ln 60))) (ykc_255 (e := (5, .getfield 151, 0)) rfl) rfl hTa.2.1 rfl ?_
      refine w_ige (ykc_255 (e := (4, .if_icmp .ge 11, 42)) rfl) rfl (fun b1524 => ?_) (fun b1524 => ?_)
      · refine w_load (pc' := 43) (v := .ref 170) (m := 1) (ykc_255 (e := (2, .aload_n kF0, 0)) rfl) rfl rfl ?_
        refine w_load (pc' := 44) (v := .int (zn ln)) (m := 1) (ykc_255 (e := (2, .iload_n kF1, 0)) rfl) rfl rfl ?_
        refine w_push (pc' := 46) (v := .int ((Int8.ofInt 60).toInt32)) (m := 2) (ykc_255 (e := (1, .bipush 60, 0)) rfl) rfl rfl ?_
        refine w_load (pc' := 47) (v := .int (Int32.ofInt 1)) (m := 1) (ykc_255 (e := (2, .iload_n kF2, 0)) rfl) rfl rfl ?_
        have ea : a = min ln 60 := by omega
        have ho : zDo (min ln 60) t true a k := ⟨hok, Or.inl ⟨rfl, ea, by omega⟩⟩
        refine w_cv (as := [.ref 170, .int (zn ln), .int ((Int8.ofInt 60).toInt32), .int (Int32.ofInt 1)]) (r := []) (ykc_255 (e := (6, .invokevirtual 213, 0)) rfl) rfl rfl rfl rfl (zm_fault (is := true) (n9 := ln) (c := 60) hSp hTa (by omega) (by decide)) (fun v1525 ph1526 hv => ?_)
        rcases hv with ⟨rfl, z9, rfl, hz9⟩
        · rw [zFo_t] at hz9
          have hzc : (60 < ln ∧ z9.toInt = -1 - (a : Int)) ∨ (ln ≤ 60 ∧ z9.toInt = 0) := by
            split at hz9
            · omega
            · first | omega | (rw [if_pos ea] at hz9; omega)
          show zW n D 255 Q 50 [some (.ref 170), some (.int (zn ln)), some (.int (Int32.ofInt 1)), none, none] [.int z9] p
          refine w_store (pc' := 51) (L' := [some (.ref 170), some (.int (zn ln)), some (.int (Int32.ofInt 1)), some (.int z9), none]) (st' := []) (m := 1) (ykc_255 (e := (3, .istore_n kF3, 0)) rfl) rfl rfl ?_
          refine w_load (pc' := 52) (v := .int z9) (m := 1) (ykc_255 (e := (2, .iload_n kF3, 0)) rfl) rfl rfl ?_
          refine w_zge (ykc_255 (e := (4, .ifCond .ge 5, 57)) rfl) rfl (fun b1527 => ?_) (fun b1527 => ?_)
          · refine w_load (pc' := 58) (v := .ref 170) (m := 1) (ykc_255 (e := (2, .aload_n kF0, 0)) rfl) rfl rfl ?_
            have hv1 := zNr_F F2 (by first | exact (fun _ => zqr rfl) | simp) (by first | exact zqm rfl | simp) hv
            have hU1 := zMu_F F2 (by first | exact ⟨zqm rfl, zqm rfl⟩ | simp) (by first | exact zqp rfl | simp) (by first | exact (fun _ => zqr rfl) | simp) hU
            have hln : ln ≤ 60 := by omega
            refine w_cv (as := [.ref 170]) (r := []) (ykc_255 (e := (6, .invokevirtual 363, 0)) rfl) rfl rfl rfl rfl (zm_putsBy hSp hv1 hU1.1 hu15) (fun v1528 ph1529 hv => ?_)
            rcases hv with ⟨rfl, fp, gp, op⟩
            · show zW n D 255 Q 61 [some (.ref 170), some (.int (zn ln)), some (.int (Int32.ofInt 1)), some (.int z9), none] [] ph1529
              refine w_alu (pc' := 62) (st' := [.int (Int32.ofInt 0)]) (ykc_255 (e := (0, .iconst 0, 0)) rfl) rfl rfl ?_
              refine w_store (pc' := 64) (L' := [some (.ref 170), some (.int (zn ln)), some (.int (Int32.ofInt 1)), some (.int z9), some (.int (Int32.ofInt 0))]) (st' := []) (m := 2) (ykc_255 (e := (3, .istore 4, 0)) rfl) rfl rfl ?_
              have hr := zWp_r hU1.2.2 gp op
              have F3 : zFr [183, 185, 186, 187, 188] [(170, 0), (170, 14), (170, 15), (170, 16), (170, 17), (170, 34)] ph ph1529 := zFr_trans (zFr_mono F2 (by first | exact zqa rfl | simp) (by first | exact zqf rfl | simp)) (zFr_mono fp (by first | exact zqa rfl | simp) (by first | exact zqf rfl | simp))
              have hv2 := zNr_F fp (by first | exact (fun _ => zqr rfl) | simp) (by first | exact zqm rfl | simp) hv1
              have hD3 := zEd_F fp (by first | exact ⟨zqm rfl, zqm rfl, zqm rfl, zqm rfl⟩ | simp) (by first | exact (fun _ => ⟨zqr rfl, zqr rfl, zqr rfl, zqr rfl⟩) | simp) hD
              have h34b := (fp.1 170 34 (by first | exact zqm rfl | decide) (by first | exact zqp rfl | decide)).trans h34
              have hl2 : ∀ (n : Nat), ∀ (i : Nat) (v2 : Nat → Nat) (p2 : pm_H), (i ≤ k) → (zFr [174, 181, 182, 184] [] ph1529 p2) → (zNr p2 174 0 v2) → (zAr E P G v t i = some v2) → zW n D 255 Q 64 [some (.ref 170), some (.int (zn ln)), some (.int (Int32.ofInt 1)), some (.int z9), some (.int (zn i))] [] p2 := by
                intro n
                induction n using Nat.strongRecOn with
                | ind n ih =>
                  intro i v2 p2 hi hf2 hv3 hr2
                  have ti := znt (k := i) (by omega)
                  have F4 : zFr [174, 181, 182, 183, 184, 185, 186, 187, 188] [(170, 0), (170, 14), (170, 15), (170, 16), (170, 17), (170, 34)] ph p2 := zFr_trans (zFr_mono F3 (by first | exact zqa rfl | simp) (by first | exact zqf rfl | simp)) (zFr_mono hf2 (by first | exact zqa rfl | simp) (by first | exact zqf rfl | simp))
                  have hS4 := zSh_F F4 (by decide +kernel) hS
                  obtain ⟨hO2, h402⟩ := zAr_ok hO hP8 hG8 hok (by omega) i hi hr2
                  have h34c := (hf2.1 170 34 (by first | exact zqm rfl | decide) (by first | exact zqp rfl | decide)).trans h34b
                  refine w_load (pc' := 66) (v := .int (zn i)) (m := 2) (ykc_255 (e := (2, .iload 4, 0)) rfl) rfl rfl ?_
                  refine w_load (pc' := 67) (v := .ref 170) (m := 1) (ykc_255 (e := (2, .aload_n kF0, 0)) rfl) rfl rfl ?_
                  refine w_gf (pc' := 70) (v := .int (zn k)) (ykc_255 (e := (5, .getfield 392, 0)) rfl) rfl h34c rfl ?_
                  refine w_ige (ykc_255 (e := (4, .if_icmp .ge 18, 88)) rfl) rfl (fun b1530 => ?_) (fun b1530 => ?_)
                  · have has : zAs2 E P G v t k i v2 := ⟨hi, hr2, fun q => absurd q (by omega)⟩
                    have F5 := F4
                    have FX := hf2
                    have hv5 := hv3
                    have hS5 := zSh_F F5 (by decide +kernel) hS
                    have h34d := (FX.1 170 34 (by first | exact zqm rfl | decide) (by first | exact zqp rfl | decide)).trans h34b
                    refine w_load (pc' := 89) (v := .ref 170) (m := 1) (ykc_255 (e := (2, .aload_n kF0, 0)) rfl) rfl rfl ?_
                    refine w_alu (pc' := 90) (st' := [.int (Int32.ofInt 0), .ref 170]) (ykc_255 (e := (0, .iconst 0, 0)) rfl) rfl rfl ?_
                    refine w_pf (pc' := 93) (ykc_255 (e := (5, .putfield 15, 0)) rfl) rfl rfl (fun ph1532 u1531 => ?_)
                    refine w_load (pc' := 94) (v := .ref 170) (m := 1) (ykc_255 (e := (2, .aload_n kF0, 0)) rfl) rfl rfl ?_
                    refine w_load (pc' := 96) (v := .int (zn i)) (m := 2) (ykc_255 (e := (2, .iload 4, 0)) rfl) rfl rfl ?_
                    refine w_load (pc' := 97) (v := .ref 170) (m := 1) (ykc_255 (e := (2, .aload_n kF0, 0)) rfl) rfl rfl ?_
                    refine w_gf (pc' := 100) (v := .int (zn k)) (ykc_255 (e := (5, .getfield 392, 0)) rfl) rfl ((u1531.2.1 170 34 (fun q => absurd q.2 (by first | exact Nat.ne_of_beq_eq_false rfl | decide))).trans h34d) rfl ?_
                    refine w_ige (ykc_255 (e := (4, .if_icmp .ge 7, 107)) rfl) rfl (fun b1533 => ?_) (fun b1533 => ?_)
                    · refine w_alu (pc' := 108) (st' := [.int (Int32.ofInt 0), .ref 170]) (ykc_255 (e := (0, .iconst 0, 0)) rfl) rfl rfl ?_
                      refine w_cs (as := [.int (Int32.ofInt 0)]) (r := [.ref 170]) (ykc_255 (e := (6, .invokestatic 154, 0)) rfl) rfl rfl rfl rfl (zm_flag0) (fun v1534 ph1535 hv => ?_)
                      obtain ⟨rfl, rfl⟩ := hv
                      show zW n D 255 Q 111 [some (.ref 170), some (.int (zn ln)), some (.int (Int32.ofInt 1)), some (.int z9), some (.int (zn i))] [.int (zI false), .ref 170] ph1532
                      refine w_alu (pc' := 112) (st' := [.long ((zI false).toInt64), .ref 170]) (ykc_255 (e := (0, .i2l, 0)) rfl) rfl rfl ?_
                      refine w_cv (as := [.ref 170, .long ((zI false).toInt64)]) (r := []) (ykc_255 (e := (6, .invokevirtual 373, 0)) rfl) rfl rfl rfl rfl (zm_enter (zSh_F (show zFr [171] [(170, 1)] p2 ph1532 from (zFr_st u1531 (Or.inr (by first | exact zqj rfl | simp)))) (by decide +kernel) hS5) (k := 0) u1531.1 (by decide)) (fun v1536 ph1537 hv => ?_)
                      obtain ⟨rfl, fe1, ge1⟩ := hv
                      show zW n D 255 Q 115 [some (.ref 170), some (.int (zn ln)), some (.int (Int32.ofInt 1)), some (.int z9), some (.int (zn i))] [] ph1537
                      refine w_load (pc' := 116) (v := .ref 170) (m := 1) (ykc_255 (e := (2, .aload_n kF0, 0)) rfl) rfl rfl ?_
                      refine w_load (pc' := 117) (v := .ref 170) (m := 1) (ykc_255 (e := (2, .aload_n kF0, 0)) rfl) rfl rfl ?_
                      refine w_gf (pc' := 120) (v := .ref 174) (ykc_255 (e := (5, .getfield 41, 0)) rfl) rfl ((fe1.1 170 11 (by first | exact zqm rfl | decide) (by first | exact zqp rfl | decide)).trans ((u1531.2.1 170 11 (fun q => absurd q.2 (by first | exact Nat.ne_of_beq_eq_false rfl | decide))).trans (zsg hS5 zs_170_11))) rfl ?_
                      refine w_push (pc' := 122) (v := .int ((Int8.ofInt 40).toInt32)) (m := 2) (ykc_255 (e := (1, .bipush 40, 0)) rfl) rfl rfl ?_
                      refine w_ialk (pc' := 123) (k := 40) (ykc_255 (e := (5, .iaload, 0)) rfl) ((fe1.1 174 40 (by first | exact zqm rfl | decide) (by first | exact zqp rfl | decide)).trans ((u1531.2.1 174 40 (fun q => absurd q.1 (by first | exact Nat.ne_of_beq_eq_false rfl | decide))).trans (zNr0 hv5 (i := 40) (by decide)))) (by omega) rfl ?_
                      refine w_alu (pc' := 124) (st' := [.long ((zn (v2 40)).toInt64), .ref 170]) (ykc_255 (e := (0, .i2l, 0)) rfl) rfl rfl ?_
                      refine w_cv (as := [.ref 170, .long ((zn (v2 40)).toInt64)]) (r := []) (ykc_255 (e := (6, .invokevirtual 373, 0)) rfl) rfl rfl rfl rfl (zm_enter (zSh_F (show zFr [171] [(170, 1)] p2 ph1537 from (zFr_trans (zFr_st u1531 (Or.inr (by first | exact zqj rfl | simp))) (zFr_mono fe1 (by first | exact zqa rfl | simp) (by first | exact zqf rfl | simp)))) (by decide +kernel) hS5) (k := 1) ge1 (by decide)) (fun v1538 ph1539 hv => ?_)
                      obtain ⟨rfl, fe2, ge2⟩ := hv
                      show zW n D 255 Q 127 [some (.ref 170), some (.int (zn ln)), some (.int (Int32.ofInt 1)), some (.int z9), some (.int (zn i))] [] ph1539
                      refine w_load (pc' := 129) (v := .int (zn i)) (m := 2) (ykc_255 (e := (2, .iload 4, 0)) rfl) rfl rfl ?_
                      refine w_zle (ykc_255 (e := (4, .ifCond .le 12, 141)) rfl) rfl (fun b1540 => ?_) (fun b1540 => ?_)
                      · refine w_alu (pc' := 142) (st' := [.int (Int32.ofInt 0)]) (ykc_255 (e := (0, .iconst 0, 0)) rfl) rfl rfl ?_
                        refine w_ret (v := (some (.int (Int32.ofInt 0)))) (ykc_255 (e := (7, .ireturn, 0)) rfl) (zr_v rfl) ?_
                        have F9 := (show zFr [171] [(170, 1)] p2 ph1539 from (zFr_trans (zFr_trans (zFr_st u1531 (Or.inr (by first | exact zqj rfl | simp))) (zFr_mono fe1 (by first | exact zqa rfl | simp) (by first | exact zqf rfl | simp))) (zFr_mono fe2 (by first | exact zqa rfl | simp) (by first | exact zqf rfl | simp))))
                        have F8 : zFr [171, 174, 181, 182, 183, 184, 185, 186, 187, 188] [(170, 0), (170, 1), (170, 14), (170, 15), (170, 16), (170, 17), (170, 27), (170, 34)] ph ph1539 := zFr_trans (zFr_mono F5 (by first | exact zqa rfl | simp) (by first | exact zqf rfl | simp)) (zFr_mono F9 (by first | exact zqa rfl | simp) (by first | exact zqf rfl | simp))
                        have F7 : zFr [171, 174, 181, 182, 183, 184, 185, 186, 187, 188] [(170, 0), (170, 1), (170, 14), (170, 15), (170, 16), (170, 17), (170, 34)] ph ph1539 := zFr_trans (zFr_mono F5 (by first | exact zqa rfl | simp) (by first | exact zqf rfl | simp)) (zFr_mono F9 (by first | exact zqa rfl | simp) (by first | exact zqf rfl | simp))
                        have ei : i = 0 := by omega
                        rw [hQ]
                        exact ⟨F8, (F9.1 170 0 (by first | exact zqm rfl | decide) (by first | exact zqp rfl | decide)).trans ((FX.1 170 0 (by first | exact zqm rfl | decide) (by first | exact zqp rfl | decide)).trans ((fp.1 170 0 (by first | exact zqm rfl | decide) (by first | exact zqp rfl | decide)).trans ((hf.1 170 0 (by first | exact zqm rfl | decide) (by first | exact zqp rfl | decide)).trans g0))), (F9.1 170 14 (by first | exact zqm rfl | decide) (by first | exact zqp rfl | decide)).trans ((FX.1 170 14 (by first | exact zqm rfl | decide) (by first | exact zqp rfl | decide)).trans ((fp.1 170 14 (by first | exact zqm rfl | decide) (by first | exact zqp rfl | decide)).trans ((hf.1 170 14 (by first | exact zqm rfl | decide) (by first | exact zqp rfl | decide)).trans g14))), true, a, k, _, ho, rfl, Or.inr ⟨rfl, hln, i, v2, has, by rw [ei]; decide, Or.inl ⟨ei, zMl_F F7 (by first | exact zqp rfl | simp) (by first | exact zqp rfl | simp) (by first | exact (fun _ => zqr rfl) | simp) (by first | exact ⟨zqm rfl, zqm rfl⟩ | simp) hL, zMp_F F7 (by first | exact zqp rfl | simp) (by first | exact zqp rfl | simp) (by first | exact zqm rfl | simp) hN, zNr_F F9 (by first | exact (fun _ => zqr rfl) | simp) (by first | exact zqm rfl | simp) hv5, ⟨(F7.1 170 27 (by first | exact zqm rfl | decide) (by first | exact zqp rfl | decide)).trans hU.1, hu15, fun j hj => (zUr_F F9 (by first | exact (fun _ => zqr rfl) | simp) (by first | exact zqm rfl | simp) (zUr_F FX (by first | exact (fun _ => zqr rfl) | simp) (by first | exact zqm rfl | simp) hr)) j (by omega) |> fun h => (by
                          have h2 := h
                          rw [zWp_lt hj] at h2
                          exact h2)⟩, zMk_F F7 (by first | exact ⟨zqm rfl, zqm rfl, zqm rfl, zqm rfl⟩ | simp) (by first | exact zqp rfl | simp) (by first | exact (fun _ => ⟨zqr rfl, zqr rfl, zqr rfl⟩) | simp) hk9, zMh_F F7 (by first | exact zqm rfl | simp) (by first | exact zqp rfl | simp) hh⟩⟩⟩
                      · refine w_load (pc' := 133) (v := .ref 170) (m := 1) (ykc_255 (e := (2, .aload_n kF0, 0)) rfl) rfl rfl ?_
                        refine w_load (pc' := 135) (v := .int (zn i)) (m := 2) (ykc_255 (e := (2, .iload 4, 0)) rfl) rfl rfl ?_
                        refine w_cv (as := [.ref 170, .int (zn i)]) (r := []) (ykc_255 (e := (6, .invokevirtual 341, 0)) rfl) rfl rfl rfl rfl (zm_adds (x := zn i) (zSh_F (show zFr [171] [(170, 1)] p2 ph1539 from (zFr_trans (zFr_trans (zFr_st u1531 (Or.inr (by first | exact zqj rfl | simp))) (zFr_mono fe1 (by first | exact zqa rfl | simp) (by first | exact zqf rfl | simp))) (zFr_mono fe2 (by first | exact zqa rfl | simp) (by first | exact zqf rfl | simp)))) (by decide +kernel) hS5) (((show zFr [171] [(170, 1)] p2 ph1539 from (zFr_trans (zFr_trans (zFr_st u1531 (Or.inr (by first | exact zqj rfl | simp))) (zFr_mono fe1 (by first | exact zqa rfl | simp) (by first | exact zqf rfl | simp))) (zFr_mono fe2 (by first | exact zqa rfl | simp) (by first | exact zqf rfl | simp)))).1 170 27 (by first | exact zqm rfl | decide) (by first | exact zqp rfl | decide)).trans ((F5.1 170 27 (by first | exact zqm rfl | decide) (by first | exact zqp rfl | decide)).trans hU.1)) hu15 (zUr_F (show zFr [171] [(170, 1)] p2 ph1539 from (zFr_trans (zFr_trans (zFr_st u1531 (Or.inr (by first | exact zqj rfl | simp))) (zFr_mono fe1 (by first | exact zqa rfl | simp) (by first | exact zqf rfl | simp))) (zFr_mono fe2 (by first | exact zqa rfl | simp) (by first | exact zqf rfl | simp)))) (by first | exact (fun _ => zqr rfl) | simp) (by first | exact zqm rfl | simp) (zUr_F FX (by first | exact (fun _ => zqr rfl) | simp) (by first | exact zqm rfl | simp) hr))) (fun v1541 ph1542 hv => ?_)
                        obtain ⟨rfl, fa, ga, ra⟩ := hv
                        have fb := (show zFr [171] [(170, 1)] p2 ph1539 from (zFr_trans (zFr_trans (zFr_st u1531 (Or.inr (by first | exact zqj rfl | simp))) (zFr_mono fe1 (by first | exact zqa rfl | simp) (by first | exact zqf rfl | simp))) (zFr_mono fe2 (by first | exact zqa rfl | simp) (by first | exact zqf rfl | simp))))
                        show zW n D 255 Q 138 [some (.ref 170), some (.int (zn ln)), some (.int (Int32.ofInt 1)), some (.int z9), some (.int (zn i))] [.int (zn i)] ph1542
                        refine w_br (pc' := 142) (st' := [.int (zn i)]) (ykc_255 (e := (4, .goto 4, 142)) rfl) rfl ?_
                        refine w_ret (v := (some (.int (zn i)))) (ykc_255 (e := (7, .ireturn, 0)) rfl) (zr_v rfl) ?_
                        have F9 : zFr [171, 183] [(170, 1), (170, 27)] p2 ph1542 := zFr_trans (zFr_mono fb (by first | exact zqa rfl | simp) (by first | exact zqf rfl | simp)) (zFr_mono fa (by first | exact zqa rfl | simp) (by first | exact zqf rfl | simp))
                        have F8 : zFr [171, 174, 181, 182, 183, 184, 185, 186, 187, 188] [(170, 0), (170, 1), (170, 14), (170, 15), (170, 16), (170, 17), (170, 27), (170, 34)] ph ph1542 := zFr_trans (zFr_mono F5 (by first | exact zqa rfl | simp) (by first | exact zqf rfl | simp)) (zFr_mono F9 (by first | exact zqa rfl | simp) (by first | exact zqf rfl | simp))
                        rw [hQ]
                        exact ⟨F8, (F9.1 170 0 (by first | exact zqm rfl | decide) (by first | exact zqp rfl | decide)).trans ((FX.1 170 0 (by first | exact zqm rfl | decide) (by first | exact zqp rfl | decide)).trans ((fp.1 170 0 (by first | exact zqm rfl | decide) (by first | exact zqp rfl | decide)).trans ((hf.1 170 0 (by first | exact zqm rfl | decide) (by first | exact zqp rfl | decide)).trans g0))), (F9.1 170 14 (by first | exact zqm rfl | decide) (by first | exact zqp rfl | decide)).trans ((FX.1 170 14 (by first | exact zqm rfl | decide) (by first | exact zqp rfl | decide)).trans ((fp.1 170 14 (by first | exact zqm rfl | decide) (by first | exact zqp rfl | decide)).trans ((hf.1 170 14 (by first | exact zqm rfl | decide) (by first | exact zqp rfl | decide)).trans g14))), true, a, k, _, ho, rfl, Or.inr ⟨rfl, hln, i, v2, has, ti, Or.inr ⟨by omega, zMl_F F8 (by first | exact zqp rfl | simp) (by first | exact zqp rfl | simp) (by first | exact (fun _ => zqr rfl) | simp) (by first | exact ⟨zqm rfl, zqm rfl⟩ | simp) hL, zMp_F F8 (by first | exact zqp rfl | simp) (by first | exact zqp rfl | simp) (by first | exact zqm rfl | simp) hN, zNr_F F9 (by first | exact (fun _ => zqr rfl) | simp) (by first | exact zqm rfl | simp) hv5, ⟨ga, zAd_15 hu15, ra⟩, zMk_F F8 (by first | exact ⟨zqm rfl, zqm rfl, zqm rfl, zqm rfl⟩ | simp) (by first | exact zqp rfl | simp) (by first | exact (fun _ => ⟨zqr rfl, zqr rfl, zqr rfl⟩) | simp) hk9, zMh_F F8 (by first | exact zqm rfl | simp) (by first | exact zqp rfl | simp) hh⟩⟩⟩
                    · refine w_alu (pc' := 104) (st' := [.int (Int32.ofInt 1), .ref 170]) (ykc_255 (e := (0, .iconst 1, 0)) rfl) rfl rfl ?_
                      refine w_br (pc' := 108) (st' := [.int (Int32.ofInt 1), .ref 170]) (ykc_255 (e := (4, .goto 4, 108)) rfl) rfl ?_
                      refine w_cs (as := [.int (Int32.ofInt 1)]) (r := [.ref 170]) (ykc_255 (e := (6, .invokestatic 154, 0)) rfl) rfl rfl rfl rfl (zm_flag1) (fun v1543 ph1544 hv => ?_)
                      obtain ⟨rfl, rfl⟩ := hv
                      show zW n D 255 Q 111 [some (.ref 170), some (.int (zn ln)), some (.int (Int32.ofInt 1)), some (.int z9), some (.int (zn i))] [.int (zI true), .ref 170] ph1532
                      refine w_alu (pc' := 112) (st' := [.long ((zI true).toInt64), .ref 170]) (ykc_255 (e := (0, .i2l, 0)) rfl) rfl rfl ?_
                      refine w_cv (as := [.ref 170, .long ((zI true).toInt64)]) (r := []) (ykc_255 (e := (6, .invokevirtual 373, 0)) rfl) rfl rfl rfl rfl (zm_enter (zSh_F (show zFr [171] [(170, 1)] p2 ph1532 from (zFr_st u1531 (Or.inr (by first | exact zqj rfl | simp)))) (by decide +kernel) hS5) (k := 0) u1531.1 (by decide)) (fun v1545 ph1546 hv => ?_)
                      obtain ⟨rfl, fe1, ge1⟩ := hv
                      show zW n D 255 Q 115 [some (.ref 170), some (.int (zn ln)), some (.int (Int32.ofInt 1)), some (.int z9), some (.int (zn i))] [] ph1546
                      refine w_load (pc' := 116) (v := .ref 170) (m := 1) (ykc_255 (e := (2, .aload_n kF0, 0)) rfl) rfl rfl ?_
                      refine w_load (pc' := 117) (v := .ref 170) (m := 1) (ykc_255 (e := (2, .aload_n kF0, 0)) rfl) rfl rfl ?_
                      refine w_gf (pc' := 120) (v := .ref 174) (ykc_255 (e := (5, .getfield 41, 0)) rfl) rfl ((fe1.1 170 11 (by first | exact zqm rfl | decide) (by first | exact zqp rfl | decide)).trans ((u1531.2.1 170 11 (fun q => absurd q.2 (by first | exact Nat.ne_of_beq_eq_false rfl | decide))).trans (zsg hS5 zs_170_11))) rfl ?_
                      refine w_push (pc' := 122) (v := .int ((Int8.ofInt 40).toInt32)) (m := 2) (ykc_255 (e := (1, .bipush 40, 0)) rfl) rfl rfl ?_
                      refine w_ialk (pc' := 123) (k := 40) (ykc_255 (e := (5, .iaload, 0)) rfl) ((fe1.1 174 40 (by first | exact zqm rfl | decide) (by first | exact zqp rfl | decide)).trans ((u1531.2.1 174 40 (fun q => absurd q.1 (by first | exact Nat.ne_of_beq_eq_false rfl | decide))).trans (zNr0 hv5 (i := 40) (by decide)))) (by omega) rfl ?_
                      refine w_alu (pc' := 124) (st' := [.long ((zn (v2 40)).toInt64), .ref 170]) (ykc_255 (e := (0, .i2l, 0)) rfl) rfl rfl ?_
                      refine w_cv (as := [.ref 170, .long ((zn (v2 40)).toInt64)]) (r := []) (ykc_255 (e := (6, .invokevirtual 373, 0)) rfl) rfl rfl rfl rfl (zm_enter (zSh_F (show zFr [171] [(170, 1)] p2 ph1546 from (zFr_trans (zFr_st u1531 (Or.inr (by first | exact zqj rfl | simp))) (zFr_mono fe1 (by first | exact zqa rfl | simp) (by first | exact zqf rfl | simp)))) (by decide +kernel) hS5) (k := 1) ge1 (by decide)) (fun v1547 ph1548 hv => ?_)
                      obtain ⟨rfl, fe2, ge2⟩ := hv
                      show zW n D 255 Q 127 [some (.ref 170), some (.int (zn ln)), some (.int (Int32.ofInt 1)), some (.int z9), some (.int (zn i))] [] ph1548
                      refine w_load (pc' := 129) (v := .int (zn i)) (m := 2) (ykc_255 (e := (2, .iload 4, 0)) rfl) rfl rfl ?_
                      refine w_zle (ykc_255 (e := (4, .ifCond .le 12, 141)) rfl) rfl (fun b1549 => ?_) (fun b1549 => ?_)
                      · refine w_alu (pc' := 142) (st' := [.int (Int32.ofInt 0)]) (ykc_255 (e := (0, .iconst 0, 0)) rfl) rfl rfl ?_
                        refine w_ret (v := (some (.int (Int32.ofInt 0)))) (ykc_255 (e := (7, .ireturn, 0)) rfl) (zr_v rfl) ?_
                        have F9 := (show zFr [171] [(170, 1)] p2 ph1548 from (zFr_trans (zFr_trans (zFr_st u1531 (Or.inr (by first | exact zqj rfl | simp))) (zFr_mono fe1 (by first | exact zqa rfl | simp) (by first | exact zqf rfl | simp))) (zFr_mono fe2 (by first | exact zqa rfl | simp) (by first | exact zqf rfl | simp))))
                        have F8 : zFr [171, 174, 181, 182, 183, 184, 185, 186, 187, 188] [(170, 0), (170, 1), (170, 14), (170, 15), (170, 16), (170, 17), (170, 27), (170, 34)] ph ph1548 := zFr_trans (zFr_mono F5 (by first | exact zqa rfl | simp) (by first | exact zqf rfl | simp)) (zFr_mono F9 (by first | exact zqa rfl | simp) (by first | exact zqf rfl | simp))
                        have F7 : zFr [171, 174, 181, 182, 183, 184, 185, 186, 187, 188] [(170, 0), (170, 1), (170, 14), (170, 15), (170, 16), (170, 17), (170, 34)] ph ph1548 := zFr_trans (zFr_mono F5 (by first | exact zqa rfl | simp) (by first | exact zqf rfl | simp)) (zFr_mono F9 (by first | exact zqa rfl | simp) (by first | exact zqf rfl | simp))
                        have ei : i = 0 := by omega
                        rw [hQ]
                        exact ⟨F8, (F9.1 170 0 (by first | exact zqm rfl | decide) (by first | exact zqp rfl | decide)).trans ((FX.1 170 0 (by first | exact zqm rfl | decide) (by first | exact zqp rfl | decide)).trans ((fp.1 170 0 (by first | exact zqm rfl | decide) (by first | exact zqp rfl | decide)).trans ((hf.1 170 0 (by first | exact zqm rfl | decide) (by first | exact zqp rfl | decide)).trans g0))), (F9.1 170 14 (by first | exact zqm rfl | decide) (by first | exact zqp rfl | decide)).trans ((FX.1 170 14 (by first | exact zqm rfl | decide) (by first | exact zqp rfl | decide)).trans ((fp.1 170 14 (by first | exact zqm rfl | decide) (by first | exact zqp rfl | decide)).trans ((hf.1 170 14 (by first | exact zqm rfl | decide) (by first | exact zqp rfl | decide)).trans g14))), true, a, k, _, ho, rfl, Or.inr ⟨rfl, hln, i, v2, has, by rw [ei]; decide, Or.inl ⟨ei, zMl_F F7 (by first | exact zqp rfl | simp) (by first | exact zqp rfl | simp) (by first | exact (fun _ => zqr rfl) | simp) (by first | exact ⟨zqm rfl, zqm rfl⟩ | simp) hL, zMp_F F7 (by first | exact zqp rfl | simp) (by first | exact zqp rfl | simp) (by first | exact zqm rfl | simp) hN, zNr_F F9 (by first | exact (fun _ => zqr rfl) | simp) (by first | exact zqm rfl | simp) hv5, ⟨(F7.1 170 27 (by first | exact zqm rfl | decide) (by first | exact zqp rfl | decide)).trans hU.1, hu15, fun j hj => (zUr_F F9 (by first | exact (fun _ => zqr rfl) | simp) (by first | exact zqm rfl | simp) (zUr_F FX (by first | exact (fun _ => zqr rfl) | simp) (by first | exact zqm rfl | simp) hr)) j (by omega) |> fun h => (by
                          have h2 := h
                          rw [zWp_lt hj] at h2
                          exact h2)⟩, zMk_F F7 (by first | exact ⟨zqm rfl, zqm rfl, zqm rfl, zqm rfl⟩ | simp) (by first | exact zqp rfl | simp) (by first | exact (fun _ => ⟨zqr rfl, zqr rfl, zqr rfl⟩) | simp) hk9, zMh_F F7 (by first | exact zqm rfl | simp) (by first | exact zqp rfl | simp) hh⟩⟩⟩
                      · refine w_load (pc' := 133) (v := .ref 170) (m := 1) (ykc_255 (e := (2, .aload_n kF0, 0)) rfl) rfl rfl ?_
                        refine w_load (pc' := 135) (v := .int (zn i)) (m := 2) (ykc_255 (e := (2, .iload 4, 0)) rfl) rfl rfl ?_
                        refine w_cv (as := [.ref 170, .int (zn i)]) (r := []) (ykc_255 (e := (6, .invokevirtual 341, 0)) rfl) rfl rfl rfl rfl (zm_adds (x := zn i) (zSh_F (show zFr [171] [(170, 1)] p2 ph1548 from (zFr_trans (zFr_trans (zFr_st u1531 (Or.inr (by first | exact zqj rfl | simp))) (zFr_mono fe1 (by first | exact zqa rfl | simp) (by first | exact zqf rfl | simp))) (zFr_mono fe2 (by first | exact zqa rfl | simp) (by first | exact zqf rfl | simp)))) (by decide +kernel) hS5) (((show zFr [171] [(170, 1)] p2 ph1548 from (zFr_trans (zFr_trans (zFr_st u1531 (Or.inr (by first | exact zqj rfl | simp))) (zFr_mono fe1 (by first | exact zqa rfl | simp) (by first | exact zqf rfl | simp))) (zFr_mono fe2 (by first | exact zqa rfl | simp) (by first | exact zqf rfl | simp)))).1 170 27 (by first | exact zqm rfl | decide) (by first | exact zqp rfl | decide)).trans ((F5.1 170 27 (by first | exact zqm rfl | decide) (by first | exact zqp rfl | decide)).trans hU.1)) hu15 (zUr_F (show zFr [171] [(170, 1)] p2 ph1548 from (zFr_trans (zFr_trans (zFr_st u1531 (Or.inr (by first | exact zqj rfl | simp))) (zFr_mono fe1 (by first | exact zqa rfl | simp) (by first | exact zqf rfl | simp))) (zFr_mono fe2 (by first | exact zqa rfl | simp) (by first | exact zqf rfl | simp)))) (by first | exact (fun _ => zqr rfl) | simp) (by first | exact zqm rfl | simp) (zUr_F FX (by first | exact (fun _ => zqr rfl) | simp) (by first | exact zqm rfl | simp) hr))) (fun v1550 ph1551 hv => ?_)
                        obtain ⟨rfl, fa, ga, ra⟩ := hv
                        have fb := (show zFr [171] [(170, 1)] p2 ph1548 from (zFr_trans (zFr_trans (zFr_st u1531 (Or.inr (by first | exact zqj rfl | simp))) (zFr_mono fe1 (by first | exact zqa rfl | simp) (by first | exact zqf rfl | simp))) (zFr_mono fe2 (by first | exact zqa rfl | simp) (by first | exact zqf rfl | simp))))
                        show zW n D 255 Q 138 [some (.ref 170), some (.int (zn ln)), some (.int (Int32.ofInt 1)), some (.int z9), some (.int (zn i))] [.int (zn i)] ph1551
                        refine w_br (pc' := 142) (st' := [.int (zn i)]) (ykc_255 (e := (4, .goto 4, 142)) rfl) rfl ?_
                        refine w_ret (v := (some (.int (zn i)))) (ykc_255 (e := (7, .ireturn, 0)) rfl) (zr_v rfl) ?_
                        have F9 : zFr [171, 183] [(170, 1), (170, 27)] p2 ph1551 := zFr_trans (zFr_mono fb (by first | exact zqa rfl | simp) (by first | exact zqf rfl | simp)) (zFr_mono fa (by first | exact zqa rfl | simp) (by first | exact zqf rfl | simp))
                        have F8 : zFr [171, 174, 181, 182, 183, 184, 185, 186, 187, 188] [(170, 0), (170, 1), (170, 14), (170, 15), (170, 16), (170, 17), (170, 27), (170, 34)] ph ph1551 := zFr_trans (zFr_mono F5 (by first | exact zqa rfl | simp) (by first | exact zqf rfl | simp)) (zFr_mono F9 (by first | exact zqa rfl | simp) (by first | exact zqf rfl | simp))
                        rw [hQ]
                        exact ⟨F8, (F9.1 170 0 (by first | exact zqm rfl | decide) (by first | exact zqp rfl | decide)).trans ((FX.1 170 0 (by first | exact zqm rfl | decide) (by first | exact zqp rfl | decide)).trans ((fp.1 170 0 (by first | exact zqm rfl | decide) (by first | exact zqp rfl | decide)).trans ((hf.1 170 0 (by first | exact zqm rfl | decide) (by first | exact zqp rfl | decide)).trans g0))), (F9.1 170 14 (by first | exact zqm rfl | decide) (by first | exact zqp rfl | decide)).trans ((FX.1 170 14 (by first | exact zqm rfl | decide) (by first | exact zqp rfl | decide)).trans ((fp.1 170 14 (by first | exact zqm rfl | decide) (by first | exact zqp rfl | decide)).trans ((hf.1 170 14 (by first | exact zqm rfl | decide) (by first | exact zqp rfl | decide)).trans g14))), true, a, k, _, ho, rfl, Or.inr ⟨rfl, hln, i, v2, has, ti, Or.inr ⟨by omega, zMl_F F8 (by first | exact zqp rfl | simp) (by first | exact zqp rfl | simp) (by first | exact (fun _ => zqr rfl) | simp) (by first | exact ⟨zqm rfl, zqm rfl⟩ | simp) hL, zMp_F F8 (by first | exact zqp rfl | simp) (by first | exact zqp rfl | simp) (by first | exact zqm rfl | simp) hN, zNr_F F9 (by first | exact (fun _ => zqr rfl) | simp) (by first | exact zqm rfl | simp) hv5, ⟨ga, zAd_15 hu15, ra⟩, zMk_F F8 (by first | exact ⟨zqm rfl, zqm rfl, zqm rfl, zqm rfl⟩ | simp) (by first | exact zqp rfl | simp) (by first | exact (fun _ => ⟨zqr rfl, zqr rfl, zqr rfl⟩) | simp) hk9, zMh_F F8 (by first | exact zqm rfl | simp) (by first | exact zqp rfl | simp) hh⟩⟩⟩
                    
                  · refine w_load (pc' := 74) (v := .ref 170) (m := 1) (ykc_255 (e := (2, .aload_n kF0, 0)) rfl) rfl rfl ?_
                    refine w_load (pc' := 76) (v := .int (zn i)) (m := 2) (ykc_255 (e := (2, .iload 4, 0)) rfl) rfl rfl ?_
                    refine w_cv (as := [.ref 170, .int (zn i)]) (r := []) (ykc_255 (e := (6, .invokevirtual 400, 0)) rfl) rfl rfl rfl rfl (zm_doesR (b := min ln 60) (k := k) hS4 (zMe_F4 F4 hE) (zMp_F F4 (by first | exact zqp rfl | simp) (by first | exact zqp rfl | simp) (by first | exact zqm rfl | simp) hN) hv3 hO2 (by omega) (zEd_F hf2 (by first | exact ⟨zqm rfl, zqm rfl, zqm rfl, zqm rfl⟩ | simp) (by first | exact (fun _ => ⟨zqr rfl, zqr rfl, zqr rfl, zqr rfl⟩) | simp) hD3) hok (by omega) ti (by omega)) (fun v1552 ph1553 hv => ?_)
                    rcases hv with ⟨fd, ⟨v3, hac, rfl, hv4⟩ | ⟨hac, rfl, hv4⟩⟩
                    · show zW n D 255 Q 79 [some (.ref 170), some (.int (zn ln)), some (.int (Int32.ofInt 1)), some (.int z9), some (.int (zn i))] [.int (zI true)] ph1553
                      refine w_beq (ykc_255 (e := (4, .ifCond .eq 9, 88)) rfl) rfl (fun q => absurd q (by decide)) (fun b1554 => ?_)
                      have e1555 : (zn i) + Int32.ofInt 1 = zn (i + 1) := (zaddN (a := i) (b := 1) (znt (by omega)) c_3 (by omega))
                      have te1555 := znt (k := i + 1) (by omega)
                      refine w_store (pc' := 85) (L' := [some (.ref 170), some (.int (zn ln)), some (.int (Int32.ofInt 1)), some (.int z9), some (.int (zn (i + 1)))]) (st' := []) (m := 3) (ykc_255 (e := (3, .iinc 4 1, 0)) rfl) (by rw [← e1555]; rfl) rfl ?_
                      refine w_gb (ykc_255 (e := (4, .goto (-21), 64)) rfl) (fun k1556 hk1556 => ?_)
                      exact ih k1556 hk1556 (i + 1) v3 _ (by omega) (zFr_trans hf2 (zFr_mono fd (by first | exact zqa rfl | simp) (by first | exact zqf rfl | simp))) hv4 (by rw [zAr_s hr2]; exact hac)
                    · have has : zAs2 E P G v t k i v2 := ⟨hi, hr2, fun _ => hac⟩
                      have F5 : zFr [174, 181, 182, 183, 184, 185, 186, 187, 188] [(170, 0), (170, 14), (170, 15), (170, 16), (170, 17), (170, 34)] ph ph1553 := zFr_trans F4 (zFr_mono fd (by first | exact zqa rfl | simp) (by first | exact zqf rfl | simp))
                      have FX : zFr [174, 181, 182, 184] [] ph1529 ph1553 := zFr_trans hf2 fd
                      have hv5 := hv4
                      show zW n D 255 Q 79 [some (.ref 170), some (.int (zn ln)), some (.int (Int32.ofInt 1)), some (.int z9), some (.int (zn i))] [.int (zI false)] ph1553
                      refine w_beq (ykc_255 (e := (4, .ifCond .eq 9, 88)) rfl) rfl (fun b1557 => ?_) (fun q => absurd q (by decide))
                      have hS5 := zSh_F F5 (by decide +kernel) hS
                      have h34d := (FX.1 170 34 (by first | exact zqm rfl | decide) (by first | exact zqp rfl | decide)).trans h34b
                      refine w_load (pc' := 89) (v := .ref 170) (m := 1) (ykc_255 (e := (2, .aload_n kF0, 0)) rfl) rfl rfl ?_
                      refine w_alu (pc' := 90) (st' := [.int (Int32.ofInt 0), .ref 170]) (ykc_255 (e := (0, .iconst 0, 0)) rfl) rfl rfl ?_
                      refine w_pf (pc' := 93) (ykc_255 (e := (5, .putfield 15, 0)) rfl) rfl rfl (fun ph1559 u1558 => ?_)
                      refine w_load (pc' := 94) (v := .ref 170) (m := 1) (ykc_255 (e := (2, .aload_n kF0, 0)) rfl) rfl rfl ?_
                      refine w_load (pc' := 96) (v := .int (zn i)) (m := 2) (ykc_255 (e := (2, .iload 4, 0)) rfl) rfl rfl ?_
                      refine w_load (pc' := 97) (v := .ref 170) (m := 1) (ykc_255 (e := (2, .aload_n kF0, 0)) rfl) rfl rfl ?_
                      refine w_gf (pc' := 100) (v := .int (zn k)) (ykc_255 (e := (5, .getfield 392, 0)) rfl) rfl ((u1558.2.1 170 34 (fun q => absurd q.2 (by first | exact Nat.ne_of_beq_eq_false rfl | decide))).trans h34d) rfl ?_
                      refine w_ige (ykc_255 (e := (4, .if_icmp .ge 7, 107)) rfl) rfl (fun b1560 => ?_) (fun b1560 => ?_)
                      · refine w_alu (pc' := 108) (st' := [.int (Int32.ofInt 0), .ref 170]) (ykc_255 (e := (0, .iconst 0, 0)) rfl) rfl rfl ?_
                        refine w_cs (as := [.int (Int32.ofInt 0)]) (r := [.ref 170]) (ykc_255 (e := (6, .invokestatic 154, 0)) rfl) rfl rfl rfl rfl (zm_flag0) (fun v1561 ph1562 hv => ?_)
                        obtain ⟨rfl, rfl⟩ := hv
                        show zW n D 255 Q 111 [some (.ref 170), some (.int (zn ln)), some (.int (Int32.ofInt 1)), some (.int z9), some (.int (zn i))] [.int (zI false), .ref 170] ph1559
                        refine w_alu (pc' := 112) (st' := [.long ((zI false).toInt64), .ref 170]) (ykc_255 (e := (0, .i2l, 0)) rfl) rfl rfl ?_
                        refine w_cv (as := [.ref 170, .long ((zI false).toInt64)]) (r := []) (ykc_255 (e := (6, .invokevirtual 373, 0)) rfl) rfl rfl rfl rfl (zm_enter (zSh_F (show zFr [171] [(170, 1)] ph1553 ph1559 from (zFr_st u1558 (Or.inr (by first | exact zqj rfl | simp)))) (by decide +kernel) hS5) (k := 0) u1558.1 (by decide)) (fun v1563 ph1564 hv => ?_)
                        obtain ⟨rfl, fe1, ge1⟩ := hv
                        show zW n D 255 Q 115 [some (.ref 170), some (.int (zn ln)), some (.int (Int32.ofInt 1)), some (.int z9), some (.int (zn i))] [] ph1564
                        refine w_load (pc' := 116) (v := .ref 170) (m := 1) (ykc_255 (e := (2, .aload_n kF0, 0)) rfl) rfl rfl ?_
                        refine w_load (pc' := 117) (v := .ref 170) (m := 1) (ykc_255 (e := (2, .aload_n kF0, 0)) rfl) rfl rfl ?_
                        refine w_gf (pc' := 120) (v := .ref 174) (ykc_255 (e := (5, .getfield 41, 0)) rfl) rfl ((fe1.1 170 11 (by first | exact zqm rfl | decide) (by first | exact zqp rfl | decide)).trans ((u1558.2.1 170 11 (fun q => absurd q.2 (by first | exact Nat.ne_of_beq_eq_false rfl | decide))).trans (zsg hS5 zs_170_11))) rfl ?_
                        refine w_push (pc' := 122) (v := .int ((Int8.ofInt 40).toInt32)) (m := 2) (ykc_255 (e := (1, .bipush 40, 0)) rfl) rfl rfl ?_
                        refine w_ialk (pc' := 123) (k := 40) (ykc_255 (e := (5, .iaload, 0)) rfl) ((fe1.1 174 40 (by first | exact zqm rfl | decide) (by first | exact zqp rfl | decide)).trans ((u1558.2.1 174 40 (fun q => absurd q.1 (by first | exact Nat.ne_of_beq_eq_false rfl | decide))).trans (zNr0 hv5 (i := 40) (by decide)))) (by omega) rfl ?_
                        refine w_alu (pc' := 124) (st' := [.long ((zn (v2 40)).toInt64), .ref 170]) (ykc_255 (e := (0, .i2l, 0)) rfl) rfl rfl ?_
                        refine w_cv (as := [.ref 170, .long ((zn (v2 40)).toInt64)]) (r := []) (ykc_255 (e := (6, .invokevirtual 373, 0)) rfl) rfl rfl rfl rfl (zm_enter (zSh_F (show zFr [171] [(170, 1)] ph1553 ph1564 from (zFr_trans (zFr_st u1558 (Or.inr (by first | exact zqj rfl | simp))) (zFr_mono fe1 (by first | exact zqa rfl | simp) (by first | exact zqf rfl | simp)))) (by decide +kernel) hS5) (k := 1) ge1 (by decide)) (fun v1565 ph1566 hv => ?_)
                        obtain ⟨rfl, fe2, ge2⟩ := hv
                        show zW n D 255 Q 127 [some (.ref 170), some (.int (zn ln)), some (.int (Int32.ofInt 1)), some (.int z9), some (.int (zn i))] [] ph1566
                        refine w_load (pc' := 129) (v := .int (zn i)) (m := 2) (ykc_255 (e := (2, .iload 4, 0)) rfl) rfl rfl ?_
                        refine w_zle (ykc_255 (e := (4, .ifCond .le 12, 141)) rfl) rfl (fun b1567 => ?_) (fun b1567 => ?_)
                        · refine w_alu (pc' := 142) (st' := [.int (Int32.ofInt 0)]) (ykc_255 (e := (0, .iconst 0, 0)) rfl) rfl rfl ?_
                          refine w_ret (v := (some (.int (Int32.ofInt 0)))) (ykc_255 (e := (7, .ireturn, 0)) rfl) (zr_v rfl) ?_
                          have F9 := (show zFr [171] [(170, 1)] ph1553 ph1566 from (zFr_trans (zFr_trans (zFr_st u1558 (Or.inr (by first | exact zqj rfl | simp))) (zFr_mono fe1 (by first | exact zqa rfl | simp) (by first | exact zqf rfl | simp))) (zFr_mono fe2 (by first | exact zqa rfl | simp) (by first | exact zqf rfl | simp))))
                          have F8 : zFr [171, 174, 181, 182, 183, 184, 185, 186, 187, 188] [(170, 0), (170, 1), (170, 14), (170, 15), (170, 16), (170, 17), (170, 27), (170, 34)] ph ph1566 := zFr_trans (zFr_mono F5 (by first | exact zqa rfl | simp) (by first | exact zqf rfl | simp)) (zFr_mono F9 (by first | exact zqa rfl | simp) (by first | exact zqf rfl | simp))
                          have F7 : zFr [171, 174, 181, 182, 183, 184, 185, 186, 187, 188] [(170, 0), (170, 1), (170, 14), (170, 15), (170, 16), (170, 17), (170, 34)] ph ph1566 := zFr_trans (zFr_mono F5 (by first | exact zqa rfl | simp) (by first | exact zqf rfl | simp)) (zFr_mono F9 (by first | exact zqa rfl | simp) (by first | exact zqf rfl | simp))
                          have ei : i = 0 := by omega
                          rw [hQ]
                          exact ⟨F8, (F9.1 170 0 (by first | exact zqm rfl | decide) (by first | exact zqp rfl | decide)).trans ((FX.1 170 0 (by first | exact zqm rfl | decide) (by first | exact zqp rfl | decide)).trans ((fp.1 170 0 (by first | exact zqm rfl | decide) (by first | exact zqp rfl | decide)).trans ((hf.1 170 0 (by first | exact zqm rfl | decide) (by first | exact zqp rfl | decide)).trans g0))), (F9.1 170 14 (by first | exact zqm rfl | decide) (by first | exact zqp rfl | decide)).trans ((FX.1 170 14 (by first | exact zqm rfl | decide) (by first | exact zqp rfl | decide)).trans ((fp.1 170 14 (by first | exact zqm rfl | decide) (by first | exact zqp rfl | decide)).trans ((hf.1 170 14 (by first | exact zqm rfl | decide) (by first | exact zqp rfl | decide)).trans g14))), true, a, k, _, ho, rfl, Or.inr ⟨rfl, hln, i, v2, has, by rw [ei]; decide, Or.inl ⟨ei, zMl_F F7 (by first | exact zqp rfl | simp) (by first | exact zqp rfl | simp) (by first | exact (fun _ => zqr rfl) | simp) (by first | exact ⟨zqm rfl, zqm rfl⟩ | simp) hL, zMp_F F7 (by first | exact zqp rfl | simp) (by first | exact zqp rfl | simp) (by first | exact zqm rfl | simp) hN, zNr_F F9 (by first | exact (fun _ => zqr rfl) | simp) (by first | exact zqm rfl | simp) hv5, ⟨(F7.1 170 27 (by first | exact zqm rfl | decide) (by first | exact zqp rfl | decide)).trans hU.1, hu15, fun j hj => (zUr_F F9 (by first | exact (fun _ => zqr rfl) | simp) (by first | exact zqm rfl | simp) (zUr_F FX (by first | exact (fun _ => zqr rfl) | simp) (by first | exact zqm rfl | simp) hr)) j (by omega) |> fun h => (by
                            have h2 := h
                            rw [zWp_lt hj] at h2
                            exact h2)⟩, zMk_F F7 (by first | exact ⟨zqm rfl, zqm rfl, zqm rfl, zqm rfl⟩ | simp) (by first | exact zqp rfl | simp) (by first | exact (fun _ => ⟨zqr rfl, zqr rfl, zqr rfl⟩) | simp) hk9, zMh_F F7 (by first | exact zqm rfl | simp) (by first | exact zqp rfl | simp) hh⟩⟩⟩
                        · refine w_load (pc' := 133) (v := .ref 170) (m := 1) (ykc_255 (e := (2, .aload_n kF0, 0)) rfl) rfl rfl ?_
                          refine w_load (pc' := 135) (v := .int (zn i)) (m := 2) (ykc_255 (e := (2, .iload 4, 0)) rfl) rfl rfl ?_
                          refine w_cv (as := [.ref 170, .int (zn i)]) (r := []) (ykc_255 (e := (6, .invokevirtual 341, 0)) rfl) rfl rfl rfl rfl (zm_adds (x := zn i) (zSh_F (show zFr [171] [(170, 1)] ph1553 ph1566 from (zFr_trans (zFr_trans (zFr_st u1558 (Or.inr (by first | exact zqj rfl | simp))) (zFr_mono fe1 (by first | exact zqa rfl | simp) (by first | exact zqf rfl | simp))) (zFr_mono fe2 (by first | exact zqa rfl | simp) (by first | exact zqf rfl | simp)))) (by decide +kernel) hS5) (((show zFr [171] [(170, 1)] ph1553 ph1566 from (zFr_trans (zFr_trans (zFr_st u1558 (Or.inr (by first | exact zqj rfl | simp))) (zFr_mono fe1 (by first | exact zqa rfl | simp) (by first | exact zqf rfl | simp))) (zFr_mono fe2 (by first | exact zqa rfl | simp) (by first | exact zqf rfl | simp)))).1 170 27 (by first | exact zqm rfl | decide) (by first | exact zqp rfl | decide)).trans ((F5.1 170 27 (by first | exact zqm rfl | decide) (by first | exact zqp rfl | decide)).trans hU.1)) hu15 (zUr_F (show zFr [171] [(170, 1)] ph1553 ph1566 from (zFr_trans (zFr_trans (zFr_st u1558 (Or.inr (by first | exact zqj rfl | simp))) (zFr_mono fe1 (by first | exact zqa rfl | simp) (by first | exact zqf rfl | simp))) (zFr_mono fe2 (by first | exact zqa rfl | simp) (by first | exact zqf rfl | simp)))) (by first | exact (fun _ => zqr rfl) | simp) (by first | exact zqm rfl | simp) (zUr_F FX (by first | exact (fun _ => zqr rfl) | simp) (by first | exact zqm rfl | simp) hr))) (fun v1568 ph1569 hv => ?_)
                          obtain ⟨rfl, fa, ga, ra⟩ := hv
                          have fb := (show zFr [171] [(170, 1)] ph1553 ph1566 from (zFr_trans (zFr_trans (zFr_st u1558 (Or.inr (by first | exact zqj rfl | simp))) (zFr_mono fe1 (by first | exact zqa rfl | simp) (by first | exact zqf rfl | simp))) (zFr_mono fe2 (by first | exact zqa rfl | simp) (by first | exact zqf rfl | simp))))
                          show zW n D 255 Q 138 [some (.ref 170), some (.int (zn ln)), some (.int (Int32.ofInt 1)), some (.int z9), some (.int (zn i))] [.int (zn i)] ph1569
                          refine w_br (pc' := 142) (st' := [.int (zn i)]) (ykc_255 (e := (4, .goto 4, 142)) rfl) rfl ?_
                          refine w_ret (v := (some (.int (zn i)))) (ykc_255 (e := (7, .ireturn, 0)) rfl) (zr_v rfl) ?_
                          have F9 : zFr [171, 183] [(170, 1), (170, 27)] ph1553 ph1569 := zFr_trans (zFr_mono fb (by first | exact zqa rfl | simp) (by first | exact zqf rfl | simp)) (zFr_mono fa (by first | exact zqa rfl | simp) (by first | exact zqf rfl | simp))
                          have F8 : zFr [171, 174, 181, 182, 183, 184, 185, 186, 187, 188] [(170, 0), (170, 1), (170, 14), (170, 15), (170, 16), (170, 17), (170, 27), (170, 34)] ph ph1569 := zFr_trans (zFr_mono F5 (by first | exact zqa rfl | simp) (by first | exact zqf rfl | simp)) (zFr_mono F9 (by first | exact zqa rfl | simp) (by first | exact zqf rfl | simp))
                          rw [hQ]
                          exact ⟨F8, (F9.1 170 0 (by first | exact zqm rfl | decide) (by first | exact zqp rfl | decide)).trans ((FX.1 170 0 (by first | exact zqm rfl | decide) (by first | exact zqp rfl | decide)).trans ((fp.1 170 0 (by first | exact zqm rfl | decide) (by first | exact zqp rfl | decide)).trans ((hf.1 170 0 (by first | exact zqm rfl | decide) (by first | exact zqp rfl | decide)).trans g0))), (F9.1 170 14 (by first | exact zqm rfl | decide) (by first | exact zqp rfl | decide)).trans ((FX.1 170 14 (by first | exact zqm rfl | decide) (by first | exact zqp rfl | decide)).trans ((fp.1 170 14 (by first | exact zqm rfl | decide) (by first | exact zqp rfl | decide)).trans ((hf.1 170 14 (by first | exact zqm rfl | decide) (by first | exact zqp rfl | decide)).trans g14))), true, a, k, _, ho, rfl, Or.inr ⟨rfl, hln, i, v2, has, ti, Or.inr ⟨by omega, zMl_F F8 (by first | exact zqp rfl | simp) (by first | exact zqp rfl | simp) (by first | exact (fun _ => zqr rfl) | simp) (by first | exact ⟨zqm rfl, zqm rfl⟩ | simp) hL, zMp_F F8 (by first | exact zqp rfl | simp) (by first | exact zqp rfl | simp) (by first | exact zqm rfl | simp) hN, zNr_F F9 (by first | exact (fun _ => zqr rfl) | simp) (by first | exact zqm rfl | simp) hv5, ⟨ga, zAd_15 hu15, ra⟩, zMk_F F8 (by first | exact ⟨zqm rfl, zqm rfl, zqm rfl, zqm rfl⟩ | simp) (by first | exact zqp rfl | simp) (by first | exact (fun _ => ⟨zqr rfl, zqr rfl, zqr rfl⟩) | simp) hk9, zMh_F F8 (by first | exact zqm rfl | simp) (by first | exact zqp rfl | simp) hh⟩⟩⟩
                      · refine w_alu (pc' := 104) (st' := [.int (Int32.ofInt 1), .ref 170]) (ykc_255 (e := (0, .iconst 1, 0)) rfl) rfl rfl ?_
                        refine w_br (pc' := 108) (st' := [.int (Int32.ofInt 1), .ref 170]) (ykc_255 (e := (4, .goto 4, 108)) rfl) rfl ?_
                        refine w_cs (as := [.int (Int32.ofInt 1)]) (r := [.ref 170]) (ykc_255 (e := (6, .invokestatic 154, 0)) rfl) rfl rfl rfl rfl (zm_flag1) (fun v1570 ph1571 hv => ?_)
                        obtain ⟨rfl, rfl⟩ := hv
                        show zW n D 255 Q 111 [some (.ref 170), some (.int (zn ln)), some (.int (Int32.ofInt 1)), some (.int z9), some (.int (zn i))] [.int (zI true), .ref 170] ph1559
                        refine w_alu (pc' := 112) (st' := [.long ((zI true).toInt64), .ref 170]) (ykc_255 (e := (0, .i2l, 0)) rfl) rfl rfl ?_
                        refine w_cv (as := [.ref 170, .long ((zI true).toInt64)]) (r := []) (ykc_255 (e := (6, .invokevirtual 373, 0)) rfl) rfl rfl rfl rfl (zm_enter (zSh_F (show zFr [171] [(170, 1)] ph1553 ph1559 from (zFr_st u1558 (Or.inr (by first | exact zqj rfl | simp)))) (by decide +kernel) hS5) (k := 0) u1558.1 (by decide)) (fun v1572 ph1573 hv => ?_)
                        obtain ⟨rfl, fe1, ge1⟩ := hv
                        show zW n D 255 Q 115 [some (.ref 170), some (.int (zn ln)), some (.int (Int32.ofInt 1)), some (.int z9), some (.int (zn i))] [] ph1573
                        refine w_load (pc' := 116) (v := .ref 170) (m := 1) (ykc_255 (e := (2, .aload_n kF0, 0)) rfl) rfl rfl ?_
                        refine w_load (pc' := 117) (v := .ref 170) (m := 1) (ykc_255 (e := (2, .aload_n kF0, 0)) rfl) rfl rfl ?_
                        refine w_gf (pc' := 120) (v := .ref 174) (ykc_255 (e := (5, .getfield 41, 0)) rfl) rfl ((fe1.1 170 11 (by first | exact zqm rfl | decide) (by first | exact zqp rfl | decide)).trans ((u1558.2.1 170 11 (fun q => absurd q.2 (by first | exact Nat.ne_of_beq_eq_false rfl | decide))).trans (zsg hS5 zs_170_11))) rfl ?_
                        refine w_push (pc' := 122) (v := .int ((Int8.ofInt 40).toInt32)) (m := 2) (ykc_255 (e := (1, .bipush 40, 0)) rfl) rfl rfl ?_
                        refine w_ialk (pc' := 123) (k := 40) (ykc_255 (e := (5, .iaload, 0)) rfl) ((fe1.1 174 40 (by first | exact zqm rfl | decide) (by first | exact zqp rfl | decide)).trans ((u1558.2.1 174 40 (fun q => absurd q.1 (by first | exact Nat.ne_of_beq_eq_false rfl | decide))).trans (zNr0 hv5 (i := 40) (by decide)))) (by omega) rfl ?_
                        refine w_alu (pc' := 124) (st' := [.long ((zn (v2 40)).toInt64), .ref 170]) (ykc_255 (e := (0, .i2l, 0)) rfl) rfl rfl ?_
                        refine w_cv (as := [.ref 170, .long ((zn (v2 40)).toInt64)]) (r := []) (ykc_255 (e := (6, .invokevirtual 373, 0)) rfl) rfl rfl rfl rfl (zm_enter (zSh_F (show zFr [171] [(170, 1)] ph1553 ph1573 from (zFr_trans (zFr_st u1558 (Or.inr (by first | exact zqj rfl | simp))) (zFr_mono fe1 (by first | exact zqa rfl | simp) (by first | exact zqf rfl | simp)))) (by decide +kernel) hS5) (k := 1) ge1 (by decide)) (fun v1574 ph1575 hv => ?_)
                        obtain ⟨rfl, fe2, ge2⟩ := hv
                        show zW n D 255 Q 127 [some (.ref 170), some (.int (zn ln)), some (.int (Int32.ofInt 1)), some (.int z9), some (.int (zn i))] [] ph1575
                        refine w_load (pc' := 129) (v := .int (zn i)) (m := 2) (ykc_255 (e := (2, .iload 4, 0)) rfl) rfl rfl ?_
                        refine w_zle (ykc_255 (e := (4, .ifCond .le 12, 141)) rfl) rfl (fun b1576 => ?_) (fun b1576 => ?_)
                        · refine w_alu (pc' := 142) (st' := [.int (Int32.ofInt 0)]) (ykc_255 (e := (0, .iconst 0, 0)) rfl) rfl rfl ?_
                          refine w_ret (v := (some (.int (Int32.ofInt 0)))) (ykc_255 (e := (7, .ireturn, 0)) rfl) (zr_v rfl) ?_
                          have F9 := (show zFr [171] [(170, 1)] ph1553 ph1575 from (zFr_trans (zFr_trans (zFr_st u1558 (Or.inr (by first | exact zqj rfl | simp))) (zFr_mono fe1 (by first | exact zqa rfl | simp) (by first | exact zqf rfl | simp))) (zFr_mono fe2 (by first | exact zqa rfl | simp) (by first | exact zqf rfl | simp))))
                          have F8 : zFr [171, 174, 181, 182, 183, 184, 185, 186, 187, 188] [(170, 0), (170, 1), (170, 14), (170, 15), (170, 16), (170, 17), (170, 27), (170, 34)] ph ph1575 := zFr_trans (zFr_mono F5 (by first | exact zqa rfl | simp) (by first | exact zqf rfl | simp)) (zFr_mono F9 (by first | exact zqa rfl | simp) (by first | exact zqf rfl | simp))
                          have F7 : zFr [171, 174, 181, 182, 183, 184, 185, 186, 187, 188] [(170, 0), (170, 1), (170, 14), (170, 15), (170, 16), (170, 17), (170, 34)] ph ph1575 := zFr_trans (zFr_mono F5 (by first | exact zqa rfl | simp) (by first | exact zqf rfl | simp)) (zFr_mono F9 (by first | exact zqa rfl | simp) (by first | exact zqf rfl | simp))
                          have ei : i = 0 := by omega
                          rw [hQ]
                          exact ⟨F8, (F9.1 170 0 (by first | exact zqm rfl | decide) (by first | exact zqp rfl | decide)).trans ((FX.1 170 0 (by first | exact zqm rfl | decide) (by first | exact zqp rfl | decide)).trans ((fp.1 170 0 (by first | exact zqm rfl | decide) (by first | exact zqp rfl | decide)).trans ((hf.1 170 0 (by first | exact zqm rfl | decide) (by first | exact zqp rfl | decide)).trans g0))), (F9.1 170 14 (by first | exact zqm rfl | decide) (by first | exact zqp rfl | decide)).trans ((FX.1 170 14 (by first | exact zqm rfl | decide) (by first | exact zqp rfl | decide)).trans ((fp.1 170 14 (by first | exact zqm rfl | decide) (by first | exact zqp rfl | decide)).trans ((hf.1 170 14 (by first | exact zqm rfl | decide) (by first | exact zqp rfl | decide)).trans g14))), true, a, k, _, ho, rfl, Or.inr ⟨rfl, hln, i, v2, has, by rw [ei]; decide, Or.inl ⟨ei, zMl_F F7 (by first | exact zqp rfl | simp) (by first | exact zqp rfl | simp) (by first | exact (fun _ => zqr rfl) | simp) (by first | exact ⟨zqm rfl, zqm rfl⟩ | simp) hL, zMp_F F7 (by first | exact zqp rfl | simp) (by first | exact zqp rfl | simp) (by first | exact zqm rfl | simp) hN, zNr_F F9 (by first | exact (fun _ => zqr rfl) | simp) (by first | exact zqm rfl | simp) hv5, ⟨(F7.1 170 27 (by first | exact zqm rfl | decide) (by first | exact zqp rfl | decide)).trans hU.1, hu15, fun j hj => (zUr_F F9 (by first | exact (fun _ => zqr rfl) | simp) (by first | exact zqm rfl | simp) (zUr_F FX (by first | exact (fun _ => zqr rfl) | simp) (by first | exact zqm rfl | simp) hr)) j (by omega) |> fun h => (by
                            have h2 := h
                            rw [zWp_lt hj] at h2
                            exact h2)⟩, zMk_F F7 (by first | exact ⟨zqm rfl, zqm rfl, zqm rfl, zqm rfl⟩ | simp) (by first | exact zqp rfl | simp) (by first | exact (fun _ => ⟨zqr rfl, zqr rfl, zqr rfl⟩) | simp) hk9, zMh_F F7 (by first | exact zqm rfl | simp) (by first | exact zqp rfl | simp) hh⟩⟩⟩
                        · refine w_load (pc' := 133) (v := .ref 170) (m := 1) (ykc_255 (e := (2, .aload_n kF0, 0)) rfl) rfl rfl ?_
                          refine w_load (pc' := 135) (v := .int (zn i)) (m := 2) (ykc_255 (e := (2, .iload 4, 0)) rfl) rfl rfl ?_
                          refine w_cv (as := [.ref 170, .int (zn i)]) (r := []) (ykc_255 (e := (6, .invokevirtual 341, 0)) rfl) rfl rfl rfl rfl (zm_adds (x := zn i) (zSh_F (show zFr [171] [(170, 1)] ph1553 ph1575 from (zFr_trans (zFr_trans (zFr_st u1558 (Or.inr (by first | exact zqj rfl | simp))) (zFr_mono fe1 (by first | exact zqa rfl | simp) (by first | exact zqf rfl | simp))) (zFr_mono fe2 (by first | exact zqa rfl | simp) (by first | exact zqf rfl | simp)))) (by decide +kernel) hS5) (((show zFr [171] [(170, 1)] ph1553 ph1575 from (zFr_trans (zFr_trans (zFr_st u1558 (Or.inr (by first | exact zqj rfl | simp))) (zFr_mono fe1 (by first | exact zqa rfl | simp) (by first | exact zqf rfl | simp))) (zFr_mono fe2 (by first | exact zqa rfl | simp) (by first | exact zqf rfl | simp)))).1 170 27 (by first | exact zqm rfl | decide) (by first | exact zqp rfl | decide)).trans ((F5.1 170 27 (by first | exact zqm rfl | decide) (by first | exact zqp rfl | decide)).trans hU.1)) hu15 (zUr_F (show zFr [171] [(170, 1)] ph1553 ph1575 from (zFr_trans (zFr_trans (zFr_st u1558 (Or.inr (by first | exact zqj rfl | simp))) (zFr_mono fe1 (by first | exact zqa rfl | simp) (by first | exact zqf rfl | simp))) (zFr_mono fe2 (by first | exact zqa rfl | simp) (by first | exact zqf rfl | simp)))) (by first | exact (fun _ => zqr rfl) | simp) (by first | exact zqm rfl | simp) (zUr_F FX (by first | exact (fun _ => zqr rfl) | simp) (by first | exact zqm rfl | simp) hr))) (fun v1577 ph1578 hv => ?_)
                          obtain ⟨rfl, fa, ga, ra⟩ := hv
                          have fb := (show zFr [171] [(170, 1)] ph1553 ph1575 from (zFr_trans (zFr_trans (zFr_st u1558 (Or.inr (by first | exact zqj rfl | simp))) (zFr_mono fe1 (by first | exact zqa rfl | simp) (by first | exact zqf rfl | simp))) (zFr_mono fe2 (by first | exact zqa rfl | simp) (by first | exact zqf rfl | simp))))
                          show zW n D 255 Q 138 [some (.ref 170), some (.int (zn ln)), some (.int (Int32.ofInt 1)), some (.int z9), some (.int (zn i))] [.int (zn i)] ph1578
                          refine w_br (pc' := 142) (st' := [.int (zn i)]) (ykc_255 (e := (4, .goto 4, 142)) rfl) rfl ?_
                          refine w_ret (v := (some (.int (zn i)))) (ykc_255 (e := (7, .ireturn, 0)) rfl) (zr_v rfl) ?_
                          have F9 : zFr [171, 183] [(170, 1), (170, 27)] ph1553 ph1578 := zFr_trans (zFr_mono fb (by first | exact zqa rfl | simp) (by first | exact zqf rfl | simp)) (zFr_mono fa (by first | exact zqa rfl | simp) (by first | exact zqf rfl | simp))
                          have F8 : zFr [171, 174, 181, 182, 183, 184, 185, 186, 187, 188] [(170, 0), (170, 1), (170, 14), (170, 15), (170, 16), (170, 17), (170, 27), (170, 34)] ph ph1578 := zFr_trans (zFr_mono F5 (by first | exact zqa rfl | simp) (by first | exact zqf rfl | simp)) (zFr_mono F9 (by first | exact zqa rfl | simp) (by first | exact zqf rfl | simp))
                          rw [hQ]
                          exact ⟨F8, (F9.1 170 0 (by first | exact zqm rfl | decide) (by first | exact zqp rfl | decide)).trans ((FX.1 170 0 (by first | exact zqm rfl | decide) (by first | exact zqp rfl | decide)).trans ((fp.1 170 0 (by first | exact zqm rfl | decide) (by first | exact zqp rfl | decide)).trans ((hf.1 170 0 (by first | exact zqm rfl | decide) (by first | exact zqp rfl | decide)).trans g0))), (F9.1 170 14 (by first | exact zqm rfl | decide) (by first | exact zqp rfl | decide)).trans ((FX.1 170 14 (by first | exact zqm rfl | decide) (by first | exact zqp rfl | decide)).trans ((fp.1 170 14 (by first | exact zqm rfl | decide) (by first | exact zqp rfl | decide)).trans ((hf.1 170 14 (by first | exact zqm rfl | decide) (by first | exact zqp rfl | decide)).trans g14))), true, a, k, _, ho, rfl, Or.inr ⟨rfl, hln, i, v2, has, ti, Or.inr ⟨by omega, zMl_F F8 (by first | exact zqp rfl | simp) (by first | exact zqp rfl | simp) (by first | exact (fun _ => zqr rfl) | simp) (by first | exact ⟨zqm rfl, zqm rfl⟩ | simp) hL, zMp_F F8 (by first | exact zqp rfl | simp) (by first | exact zqp rfl | simp) (by first | exact zqm rfl | simp) hN, zNr_F F9 (by first | exact (fun _ => zqr rfl) | simp) (by first | exact zqm rfl | simp) hv5, ⟨ga, zAd_15 hu15, ra⟩, zMk_F F8 (by first | exact ⟨zqm rfl, zqm rfl, zqm rfl, zqm rfl⟩ | simp) (by first | exact zqp rfl | simp) (by first | exact (fun _ => ⟨zqr rfl, zqr rfl, zqr rfl⟩) | simp) hk9, zMh_F F8 (by first | exact zqm rfl | simp) (by first | exact zqp rfl | simp) hh⟩⟩⟩
                      
                    
              exact hl2 n 0 v _ (Nat.zero_le _) zFr_refl hv2 rfl
              
            
          · refine w_load (pc' := 56) (v := .int z9) (m := 1) (ykc_255 (e := (2, .iload_n kF3, 0)) rfl) rfl rfl ?_
            refine w_ret (v := (some (.int z9))) (ykc_255 (e := (7, .ireturn, 0)) rfl) (zr_v rfl) ?_
            rw [hQ]
            exact ⟨zFr_mono F2 (by first | exact zqa rfl | simp) (by first | exact zqf rfl | simp), (hf.1 170 0 (by first | exact zqm rfl | decide) (by first | exact zqp rfl | decide)).trans g0, (hf.1 170 14 (by first | exact zqm rfl | decide) (by first | exact zqp rfl | decide)).trans g14, true, a, k, z9, ho, rfl, Or.inl ⟨fun q => absurd q.2 (by omega), by omega, ⟨zMl_F F2 (by first | exact zqp rfl | simp) (by first | exact zqp rfl | simp) (by first | exact (fun _ => zqr rfl) | simp) (by first | exact ⟨zqm rfl, zqm rfl⟩ | simp) hL, zMp_F F2 (by first | exact zqp rfl | simp) (by first | exact zqp rfl | simp) (by first | exact zqm rfl | simp) hN, zNr_F F2 (by first | exact (fun _ => zqr rfl) | simp) (by first | exact zqm rfl | simp) hv, zMu_F F2 (by first | exact ⟨zqm rfl, zqm rfl⟩ | simp) (by first | exact zqp rfl | simp) (by first | exact (fun _ => zqr rfl) | simp) hU, zMk_F F2 (by first | exact ⟨zqm rfl, zqm rfl, zqm rfl, zqm rfl⟩ | simp) (by first | exact zqp rfl | simp) (by first | exact (fun _ => ⟨zqr rfl, zqr rfl, zqr rfl⟩) | simp) hk9, zMh_F F2 (by first | exact zqm rfl | simp) (by first | exact zqp rfl | simp) hh⟩⟩⟩
        
      · refine w_load (pc' := 35) (v := .ref 170) (m := 1) (ykc_255 (e := (2, .aload_n kF0, 0)) rfl) rfl rfl ?_
        refine w_cv (as := [.ref 170]) (r := []) (ykc_255 (e := (6, .invokevirtual 397, 0)) rfl) rfl rfl rfl rfl (zm_readsAct hSp hTa h34 (by omega) (by omega)) (fun v1579 ph1580 hv => ?_)
        rcases hv with ⟨fr, gr1, gr2, ⟨rfl, w1, w2, w3, wT, w4, w5, w6, w7⟩ | ⟨rfl, a2, hb2, wT⟩⟩
        · have hg9 : zDg (min ln 60) t k := ⟨by rw [hka]; exact w1, by rw [hka]; exact w2, by rw [hka]; exact w3⟩
          show zW n D 255 Q 38 [some (.ref 170), some (.int (zn ln)), some (.int (Int32.ofInt 1)), none, none] [.int (zI true)] ph1580
          refine w_store (pc' := 39) (L' := [some (.ref 170), some (.int (zn ln)), some (.int (zI true)), none, none]) (st' := []) (m := 1) (ykc_255 (e := (3, .istore_n kF2, 0)) rfl) rfl rfl ?_
          refine w_gb (ykc_255 (e := (4, .goto (-20), 19)) rfl) (fun k1581 hk1581 => ?_)
          exact ih k1581 hk1581 (k + 1) _ _ (zFr_trans hf fr) wT gr1 (zDok_s hok hg9) (by show zDp t k + 1 + zdw (t (zDp t k)) = _; rw [hka]) (fun i hi => by
            by_cases e : i = k
            · subst e
              rw [hka]
              exact ⟨w4, w5, w6, w7⟩
            · obtain ⟨o1, o2, o3, o4⟩ := gr2 i e
              obtain ⟨d1, d2, d3, d4⟩ := hD i (by omega)
              exact ⟨o1.trans d1, o2.trans d2, fun h => o3.trans (d3 h), fun h => o4.trans (d4 h)⟩)
        · show zW n D 255 Q 38 [some (.ref 170), some (.int (zn ln)), some (.int (Int32.ofInt 1)), none, none] [.int (zI false)] ph1580
          refine w_store (pc' := 39) (L' := [some (.ref 170), some (.int (zn ln)), some (.int (zI false)), none, none]) (st' := []) (m := 1) (ykc_255 (e := (3, .istore_n kF2, 0)) rfl) rfl rfl ?_
          refine w_gb (ykc_255 (e := (4, .goto (-20), 19)) rfl) (fun k1582 hk1582 => ?_)
          refine w_load (pc' := 20) (v := .int (zI false)) (m := 1) (ykc_255 (e := (2, .iload_n kF2, 0)) rfl) rfl rfl ?_
          refine w_beq (ykc_255 (e := (4, .ifCond .eq 22, 42)) rfl) rfl (fun b1583 => ?_) (fun q => absurd q (by decide))
          refine w_load (pc' := 43) (v := .ref 170) (m := 1) (ykc_255 (e := (2, .aload_n kF0, 0)) rfl) rfl rfl ?_
          refine w_load (pc' := 44) (v := .int (zn ln)) (m := 1) (ykc_255 (e := (2, .iload_n kF1, 0)) rfl) rfl rfl ?_
          refine w_push (pc' := 46) (v := .int ((Int8.ofInt 60).toInt32)) (m := 2) (ykc_255 (e := (1, .bipush 60, 0)) rfl) rfl rfl ?_
          refine w_load (pc' := 47) (v := .int (zI false)) (m := 1) (ykc_255 (e := (2, .iload_n kF2, 0)) rfl) rfl rfl ?_
          have ho : zDo (min ln 60) t false a2 k := ⟨hok, Or.inr ⟨rfl, by rw [hka]; exact hb2⟩⟩
          have ha2 := zDo_a ho
          have F3 : zFr [185, 186, 187, 188] [(170, 0), (170, 14), (170, 15), (170, 16), (170, 17), (170, 34)] ph ph1580 := zFr_trans F2 (zFr_mono fr (by first | exact zqa rfl | simp) (by first | exact zqf rfl | simp))
          refine w_cv (as := [.ref 170, .int (zn ln), .int ((Int8.ofInt 60).toInt32), .int (zI false)]) (r := []) (ykc_255 (e := (6, .invokevirtual 213, 0)) rfl) rfl rfl rfl rfl (zm_fault (is := false) (n9 := ln) (c := 60) (zSh_F F3 (by decide +kernel) hS) wT (by omega) (by decide)) (fun v1584 ph1585 hv => ?_)
          rcases hv with ⟨rfl, z9, rfl, hz9⟩
          · have hzn : z9.toInt = -1 - (a2 : Int) := by
              rw [hz9, zFo_b]
              split <;> omega
            show zW k1582 D 255 Q 50 [some (.ref 170), some (.int (zn ln)), some (.int (zI false)), none, none] [.int z9] ph1580
            refine w_store (pc' := 51) (L' := [some (.ref 170), some (.int (zn ln)), some (.int (zI false)), some (.int z9), none]) (st' := []) (m := 1) (ykc_255 (e := (3, .istore_n kF3, 0)) rfl) rfl rfl ?_
            refine w_load (pc' := 52) (v := .int z9) (m := 1) (ykc_255 (e := (2, .iload_n kF3, 0)) rfl) rfl rfl ?_
            refine w_zge (ykc_255 (e := (4, .ifCond .ge 5, 57)) rfl) rfl (fun q => by exfalso; omega) (fun b1586 => ?_)
            refine w_load (pc' := 56) (v := .int z9) (m := 1) (ykc_255 (e := (2, .iload_n kF3, 0)) rfl) rfl rfl ?_
            refine w_ret (v := (some (.int z9))) (ykc_255 (e := (7, .ireturn, 0)) rfl) (zr_v rfl) ?_
            rw [hQ]
            exact ⟨zFr_mono F3 (by first | exact zqa rfl | simp) (by first | exact zqf rfl | simp), (fr.1 170 0 (by first | exact zqm rfl | decide) (by first | exact zqp rfl | decide)).trans ((hf.1 170 0 (by first | exact zqm rfl | decide) (by first | exact zqp rfl | decide)).trans g0), (fr.1 170 14 (by first | exact zqm rfl | decide) (by first | exact zqp rfl | decide)).trans ((hf.1 170 14 (by first | exact zqm rfl | decide) (by first | exact zqp rfl | decide)).trans g14), false, a2, k, z9, ho, rfl, Or.inl ⟨fun q => absurd q.1 (by first | exact Nat.ne_of_beq_eq_false rfl | decide), hzn, ⟨zMl_F F3 (by first | exact zqp rfl | simp) (by first | exact zqp rfl | simp) (by first | exact (fun _ => zqr rfl) | simp) (by first | exact ⟨zqm rfl, zqm rfl⟩ | simp) hL, zMp_F F3 (by first | exact zqp rfl | simp) (by first | exact zqp rfl | simp) (by first | exact zqm rfl | simp) hN, zNr_F F3 (by first | exact (fun _ => zqr rfl) | simp) (by first | exact zqm rfl | simp) hv, zMu_F F3 (by first | exact ⟨zqm rfl, zqm rfl⟩ | simp) (by first | exact zqp rfl | simp) (by first | exact (fun _ => zqr rfl) | simp) hU, zMk_F F3 (by first | exact ⟨zqm rfl, zqm rfl, zqm rfl, zqm rfl⟩ | simp) (by first | exact zqp rfl | simp) (by first | exact (fun _ => ⟨zqr rfl, zqr rfl, zqr rfl⟩) | simp) hk9, zMh_F F3 (by first | exact zqm rfl | simp) (by first | exact zqp rfl | simp) hh⟩⟩⟩
          
        
  exact hl1 n 0 0 _ zFr_refl hT1 g34 (fun i hi => absurd hi (Nat.not_lt_zero i)) rfl (fun i hi => absurd hi (Nat.not_lt_zero i))
  
theorem zc_plActs {ph : pm_H} {k : Nat} (hk : zc ph 157 2 = some (.int (zn k))) : zM 62 [.ref 157] ph (fun v0 q => ph = q ∧ v0 = some (.int (zn k))) := by
  obtain ⟨Q, hQ⟩ : ∃ Q : Option Value → pm_H → Prop, Q = (fun v0 q => ph = q ∧ v0 = some (.int (zn k))) := ⟨_, rfl⟩
  rw [← hQ]
  refine zM_mk fun n D => ?_
  show zW n D 62 Q 0 [some (.ref 157)] [] ph
  refine w_load (pc' := 1) (v := .ref 157) (m := 1) (ykc_62 (e := (2, .aload_n kF0, 0)) rfl) rfl rfl ?_
  refine w_gf (pc' := 4) (v := .int (zn k)) (ykc_62 (e := (5, .getfield 18, 0)) rfl) rfl hk rfl ?_
  refine w_ret (v := (some (.int (zn k)))) (ykc_62 (e := (7, .ireturn, 0)) rfl) (zr_v rfl) ?_
  rw [hQ]
  exact ⟨rfl, rfl⟩
theorem zCi_F2 {A : List Nat} {L : List (Nat × Nat)} {p q : pm_H} {E : zEn} {F : Nat} (f : zFr A L p q) (h1 : 5 ∉ A ∧ 6 ∉ A ∧ 7 ∉ A ∧ 10 ∉ A ∧ 21 ∉ A ∧ 11 ∉ A ∧ 12 ∉ A ∧ 16 ∉ A ∧ 17 ∉ A) (h2 : ∀ i, i < 4 → (5, i) ∉ L) (h3 : ∀ i, (6, i) ∉ L ∧ (7, i) ∉ L ∧ (21, i) ∉ L ∧ (11, i) ∉ L ∧ (12, i) ∉ L ∧ (16, i) ∉ L ∧ (17, i) ∉ L) (h4 : (10, 4) ∉ L) (h : zCe p E F) : zCe q E F := by
  obtain ⟨a1, a2, a3, a4⟩ := h
  refine ⟨zCl_F f ⟨h1.1, h1.2.1, h1.2.2.1⟩ h2 (fun i => ⟨(h3 i).1, (h3 i).2.1⟩) a1, zCi_F f ⟨h1.2.2.2.1, h1.2.2.2.2.1⟩ ⟨h4, fun i => (h3 i).2.2.1⟩ a2, ?_, a4⟩
  rcases a4 with e | e <;> subst e
  · exact zFm_F f ⟨h1.2.2.2.2.2.1, h1.2.2.2.2.2.2.1⟩ (fun i => ⟨(h3 i).2.2.2.1, (h3 i).2.2.2.2.1⟩) a3
  · exact zFm_F f ⟨h1.2.2.2.2.2.2.2.1, h1.2.2.2.2.2.2.2.2⟩ (fun i => ⟨(h3 i).2.2.2.2.2.1, (h3 i).2.2.2.2.2.2⟩) a3
theorem zCe_pl {p q : pm_H} {E : zEn} {F : Nat} (f : zFr [158, 159] [(157, 2), (1, 1)] p q) (h : zCe p E F) : zCe q E F := zCi_F2 f (by first | exact ⟨zqm rfl, zqm rfl, zqm rfl, zqm rfl, zqm rfl, zqm rfl, zqm rfl, zqm rfl, zqm rfl⟩ | simp) (by intro i hi; simp) (by simp) (by simp) h
theorem zCe_31 {p q : pm_H} {E : zEn} {F : Nat} (f : zCo 31 p q) (h : zCe p E F) : zCe q E F := zCi_F2 f (by first | exact ⟨zqm rfl, zqm rfl, zqm rfl, zqm rfl, zqm rfl, zqm rfl, zqm rfl, zqm rfl, zqm rfl⟩ | simp) (by intro i hi; simp) (by simp) (by simp) h
theorem zCe_fa {p q : pm_H} {E : zEn} {F : Nat} (f : zFr [8, 9, 15, 20, 22, 23, 24, 26, 27, 28, 29, 30] [(5, 4), (25, 2)] p q) (h : zCe p E F) : zCe q E F := zCi_F2 f (by first | exact ⟨zqm rfl, zqm rfl, zqm rfl, zqm rfl, zqm rfl, zqm rfl, zqm rfl, zqm rfl, zqm rfl⟩ | simp) (by intro i hi; simp <;> omega) (by simp) (by simp) h
theorem zCe_n {p q : pm_H} {E : zEn} {F : Nat} (f : zFr [4] [(3, 1)] p q) (h : zCe p E F) : zCe q E F := zCi_F2 f (by first | exact ⟨zqm rfl, zqm rfl, zqm rfl, zqm rfl, zqm rfl, zqm rfl, zqm rfl, zqm rfl, zqm rfl⟩ | simp) (by intro i hi; simp) (by simp) (by simp) h
theorem zCe_q {p q : pm_H} {E : zEn} {F nx : Nat} (hnx : nx < 15) (f : zFr [45 + 6 * nx + 1, 45 + 6 * nx + 2, 45 + 6 * nx + 3, 45 + 6 * nx + 4, 45 + 6 * nx + 5] [(45 + 6 * nx, 0), (45 + 6 * nx, 1), (45 + 6 * nx, 2), (43, 1), (43, 2)] p q) (h : zCe p E F) : zCe q E F := zCi_F2 f (by simp <;> omega) (by intro i hi; simp <;> omega) (by intro i; simp <;> omega) (by simp <;> omega) h
theorem zc_day {ph : pm_H} {E : zEn} {F P G nx u fl hn ln : Nat} {v t : Nat → Nat} {w sv : Nat → Nat → Nat} (hS : zSh ph) (hK : zKC ph E.1 E.2.1 E.2.2.1 P G v nx u w fl sv hn) (hE : zCe ph E F) (hr : zc ph 10 1 = some (.ref F)) (hc : zCc ph E.1 E.2.1 E.2.2.1) (hO : zOk E.1 E.2.1 P G v) (h40 : v 40 < 990000) (hT : zTc ph ln t) : zM 138 [.ref 0] ph (fun v0 q => zc q 1 1 = some (.int (zn 0)) ∧ zCe q E F ∧ zc q 10 1 = some (.ref F) ∧ zCc q E.1 E.2.1 E.2.2.1 ∧ ∃ (ok : Bool) (a k : Nat) (y : Int32), zDo (min ln 60) t ok a k ∧ v0 = some (.int y) ∧ ((¬ (ok = true ∧ ln ≤ 60) ∧ y.toInt = -1 - (a : Int) ∧ zKC q E.1 E.2.1 E.2.2.1 P G v nx u w fl sv hn) ∨ (ok = true ∧ ln ≤ 60 ∧ ∃ i v2, zAs2 E P G v t k i v2 ∧ y.toInt = (i : Int) ∧ ((i = 0 ∧ zKC q E.1 E.2.1 E.2.2.1 P G v2 nx u w fl sv hn) ∨ (0 < i ∧ ∃ nx1, zKC q E.1 E.2.1 E.2.2.1 P G v2 nx1 (zAd u) (zAw u (zWp u w v)) fl sv hn))))) := by
  obtain ⟨Q, hQ⟩ : ∃ Q : Option Value → pm_H → Prop, Q = (fun v0 q => zc q 1 1 = some (.int (zn 0)) ∧ zCe q E F ∧ zc q 10 1 = some (.ref F) ∧ zCc q E.1 E.2.1 E.2.2.1 ∧ ∃ (ok : Bool) (a k : Nat) (y : Int32), zDo (min ln 60) t ok a k ∧ v0 = some (.int y) ∧ ((¬ (ok = true ∧ ln ≤ 60) ∧ y.toInt = -1 - (a : Int) ∧ zKC q E.1 E.2.1 E.2.2.1 P G v nx u w fl sv hn) ∨ (ok = true ∧ ln ≤ 60 ∧ ∃ i v2, zAs2 E P G v t k i v2 ∧ y.toInt = (i : Int) ∧ ((i = 0 ∧ zKC q E.1 E.2.1 E.2.2.1 P G v2 nx u w fl sv hn) ∨ (0 < i ∧ ∃ nx1, zKC q E.1 E.2.1 E.2.2.1 P G v2 nx1 (zAd u) (zAw u (zWp u w v)) fl sv hn))))) := ⟨_, rfl⟩
  rw [← hQ]
  refine zM_mk fun n D => ?_
  show zW n D 138 Q 0 [some (.ref 0), none, none] [] ph
  have c_0 : (Int32.ofInt (-1)).toInt = -1 := by decide +kernel
  have c_1 : (Int32.ofInt 0).toInt = 0 := by decide +kernel
  have c_2 : (Int32.ofInt 1).toInt = 1 := by decide +kernel
  have hP8 : P ≤ 8 := hK.2.1.2.1
  have hG8 : G ≤ 8 := hK.2.1.2.2.2.1
  have hln80 := hT.2.1
  refine w_load (pc' := 1) (v := .ref 0) (m := 1) (ykc_138 (e := (2, .aload_n kF0, 0)) rfl) rfl rfl ?_
  refine w_gf (pc' := 4) (v := .ref 157) (ykc_138 (e := (5, .getfield 69, 0)) rfl) rfl (zsg hS zs_0_9) rfl ?_
  refine w_load (pc' := 5) (v := .ref 0) (m := 1) (ykc_138 (e := (2, .aload_n kF0, 0)) rfl) rfl rfl ?_
  refine w_gf (pc' := 8) (v := .ref 1) (ykc_138 (e := (5, .getfield 10, 0)) rfl) rfl (zsg hS zs_0_0) rfl ?_
  refine w_cv (as := [.ref 157, .ref 1]) (r := []) (ykc_138 (e := (6, .invokevirtual 271, 0)) rfl) rfl rfl rfl rfl (zc_planRead hS hT) (fun v1587 ph1588 hv => ?_)
  rcases hv with ⟨f1, ok, a, k, ho, ⟨hok, hl60, rfl, hk30, hk2, hdd⟩ | ⟨hno, rfl⟩⟩
  · have ha60 := zDo_a ho
    have ta := znt (k := a) (by omega)
    have tm1 : (Int32.ofInt (-1)).toInt = -1 := by decide
    show zW n D 138 Q 11 [some (.ref 0), none, none] [.int (Int32.ofInt (-1))] ph1588
    refine w_store (pc' := 12) (L' := [some (.ref 0), some (.int (Int32.ofInt (-1))), none]) (st' := []) (m := 1) (ykc_138 (e := (3, .istore_n kF1, 0)) rfl) rfl rfl ?_
    refine w_load (pc' := 13) (v := .ref 0) (m := 1) (ykc_138 (e := (2, .aload_n kF0, 0)) rfl) rfl rfl ?_
    refine w_gf (pc' := 16) (v := .ref 1) (ykc_138 (e := (5, .getfield 10, 0)) rfl) rfl ((f1.1 0 0 (by first | exact zqm rfl | decide) (by first | exact zqp rfl | decide)).trans (zsg hS zs_0_0)) rfl ?_
    refine w_cv (as := [.ref 1]) (r := []) (ykc_138 (e := (6, .invokevirtual 119, 0)) rfl) rfl rfl rfl rfl (zc_tclear) (fun v1589 ph1590 hv => ?_)
    obtain ⟨rfl, f2, g1⟩ := hv
    have fz : zFr [158, 159] [(157, 2), (1, 1)] ph _ := zFr_trans (zFr_mono f1 (by first | exact zqa rfl | simp) (by first | exact zqf rfl | simp)) (zFr_mono f2 (by first | exact zqa rfl | simp) (by first | exact zqf rfl | simp))
    show zW n D 138 Q 19 [some (.ref 0), some (.int (Int32.ofInt (-1))), none] [] ph1590
    refine w_load (pc' := 20) (v := .int (Int32.ofInt (-1))) (m := 1) (ykc_138 (e := (2, .iload_n kF1, 0)) rfl) rfl rfl ?_
    refine w_zlt (ykc_138 (e := (4, .ifCond .lt 7, 27)) rfl) rfl (fun b1591 => ?_) (fun q => by exfalso; omega)
    refine w_load (pc' := 28) (v := .ref 0) (m := 1) (ykc_138 (e := (2, .aload_n kF0, 0)) rfl) rfl rfl ?_
    refine w_gf (pc' := 31) (v := .ref 31) (ykc_138 (e := (5, .getfield 46, 0)) rfl) rfl ((f2.1 0 5 (by first | exact zqm rfl | decide) (by first | exact zqp rfl | decide)).trans ((f1.1 0 5 (by first | exact zqm rfl | decide) (by first | exact zqp rfl | decide)).trans (zsg hS zs_0_5))) rfl ?_
    refine w_load (pc' := 32) (v := .ref 0) (m := 1) (ykc_138 (e := (2, .aload_n kF0, 0)) rfl) rfl rfl ?_
    refine w_gf (pc' := 35) (v := .ref 25) (ykc_138 (e := (5, .getfield 42, 0)) rfl) rfl ((f2.1 0 4 (by first | exact zqm rfl | decide) (by first | exact zqp rfl | decide)).trans ((f1.1 0 4 (by first | exact zqm rfl | decide) (by first | exact zqp rfl | decide)).trans (zsg hS zs_0_4))) rfl ?_
    have hSz := zSh_F fz (by decide +kernel) hS
    have hKz := zKC_pl fz hK
    have hEz := zCe_pl fz hE
    have hrz := (fz.1 10 1 (by first | exact zqm rfl | decide) (by first | exact zqp rfl | decide)).trans hr
    have hcz := zCc_F fz (by first | exact ⟨zqm rfl, zqm rfl, zqm rfl⟩ | simp) (by first | exact zqp rfl | simp) (by first | exact (fun _ => ⟨zqr rfl, zqr rfl⟩) | simp) hc
    have hkz := (f2.1 157 2 (by first | exact zqm rfl | decide) (by first | exact zqp rfl | decide)).trans hk2
    have hdz := zDd_F f2 (by first | exact ⟨zqm rfl, zqm rfl⟩ | simp) (by simp) hdd
    refine w_cv (as := [.ref 31, .ref 25]) (r := []) (ykc_138 (e := (6, .invokevirtual 235, 0)) rfl) rfl rfl rfl rfl (zc_copy (zSs_of hSz (S := 25) (by decide)) (zSs_of hSz (S := 31) (by decide)) hKz.2.1 (by omega)) (fun v1592 ph1593 hv => ?_)
    rcases hv with ⟨rfl, fb, db⟩
    · show zW n D 138 Q 38 [some (.ref 0), some (.int (Int32.ofInt (-1))), none] [] ph1593
      refine w_alu (pc' := 39) (st' := [.int (Int32.ofInt 0)]) (ykc_138 (e := (0, .iconst 0, 0)) rfl) rfl rfl ?_
      refine w_store (pc' := 40) (L' := [some (.ref 0), some (.int (Int32.ofInt (-1))), some (.int (Int32.ofInt 0))]) (st' := []) (m := 1) (ykc_138 (e := (3, .istore_n kF2, 0)) rfl) rfl rfl ?_
      have hSb := zCo_S (S := 31) (by decide) fb hSz
      have hKb := zKC_31 fb hKz
      have hEb : zCe ph1593 E F := zCe_31 fb hEz
      have hrb := (fb.1 10 1 (by first | exact zqm rfl | simp) (by first | exact zqp rfl | simp)).trans hrz
      have hcb := zCc_F fb (by first | exact ⟨zqm rfl, zqm rfl, zqm rfl⟩ | simp) (by first | exact zqp rfl | simp) (by first | exact (fun _ => ⟨zqr rfl, zqr rfl⟩) | simp) hcz
      have hkb := (fb.1 157 2 (by first | exact zqm rfl | simp) (by first | exact zqp rfl | simp)).trans hkz
      have hdb := zDd_F fb (by first | exact ⟨zqm rfl, zqm rfl⟩ | simp) (by simp) hdz
      have hgb := (fb.1 1 1 (by first | exact zqm rfl | simp) (by first | exact zqp rfl | simp)).trans g1
      have htb : zCt ph1593 25 P G v := ⟨⟨by decide, zSs_of hSb (S := 25) (by decide)⟩, hKb.2.1⟩
      have hl1 : ∀ (n : Nat), ∀ (i : Nat) (v2 : Nat → Nat) (p : pm_H), (i ≤ k) → (zFr [8, 9, 15, 20, 22, 23, 24, 26, 27, 28, 29, 30] [(5, 4), (25, 2)] ph1593 p) → (zCt p 25 P G v2) → (zCc p E.1 E.2.1 E.2.2.1) → (zAr E P G v t i = some v2) → zW n D 138 Q 40 [some (.ref 0), some (.int (Int32.ofInt (-1))), some (.int (zn i))] [] p := by
        intro n
        induction n using Nat.strongRecOn with
        | ind n ih =>
          intro i v2 p hi hf ht2 hc2 hr2
          have ti := znt (k := i) (by omega)
          have tk := znt (k := k) (by omega)
          have hSp := zSh_F hf (by decide +kernel) hSb
          have hkp := (hf.1 157 2 (by first | exact zqm rfl | simp) (by first | exact zqp rfl | simp)).trans hkb
          obtain ⟨hO2, h402⟩ := zAr_ok hO hP8 hG8 ho.1 (by omega) i hi hr2
          have hEp := zCe_fa hf hEb
          have hrp := (hf.1 10 1 (by first | exact zqm rfl | simp) (by first | exact zqp rfl | simp)).trans hrb
          refine w_load (pc' := 41) (v := .int (zn i)) (m := 1) (ykc_138 (e := (2, .iload_n kF2, 0)) rfl) rfl rfl ?_
          refine w_load (pc' := 42) (v := .ref 0) (m := 1) (ykc_138 (e := (2, .aload_n kF0, 0)) rfl) rfl rfl ?_
          refine w_gf (pc' := 45) (v := .ref 157) (ykc_138 (e := (5, .getfield 69, 0)) rfl) rfl ((hf.1 0 9 (by first | exact zqm rfl | decide) (by first | exact zqp rfl | decide)).trans ((fb.1 0 9 (by first | exact zqm rfl | decide) (by first | exact zqp rfl | decide)).trans ((f2.1 0 9 (by first | exact zqm rfl | decide) (by first | exact zqp rfl | decide)).trans ((f1.1 0 9 (by first | exact zqm rfl | decide) (by first | exact zqp rfl | decide)).trans (zsg hS zs_0_9))))) rfl ?_
          refine w_cv (as := [.ref 157]) (r := [.int (zn i)]) (ykc_138 (e := (6, .invokevirtual 272, 0)) rfl) rfl rfl rfl rfl (zc_plActs hkp) (fun v1594 ph1595 hv => ?_)
          obtain ⟨rfl, rfl⟩ := hv
          show zW n D 138 Q 48 [some (.ref 0), some (.int (Int32.ofInt (-1))), some (.int (zn i))] [.int (zn k), .int (zn i)] p
          refine w_ige (ykc_138 (e := (4, .if_icmp .ge 17, 65)) rfl) rfl (fun b1596 => ?_) (fun b1596 => ?_)
          · refine w_load (pc' := 66) (v := .int (zn i)) (m := 1) (ykc_138 (e := (2, .iload_n kF2, 0)) rfl) rfl rfl ?_
            have has : zAs2 E P G v t k i v2 := ⟨hi, hr2, fun q => absurd q (by omega)⟩
            have FX := hf
            have ht3 := ht2
            have hc3 := hc2
            have hSx := zSh_F FX (by decide +kernel) hSb
            have hKx := zKC_fa FX hKb ht3.2
            have hEx := zCe_fa FX hEb
            have hrx := (FX.1 10 1 (by first | exact zqm rfl | simp) (by first | exact zqp rfl | simp)).trans hrb
            have hgx := (FX.1 1 1 (by first | exact zqm rfl | simp) (by first | exact zqp rfl | simp)).trans hgb
            have dbx := zSd_F FX (by intro j hj; simp <;> omega) (by intro j i hj; simp <;> omega) db
            have hkx := (FX.1 157 2 (by first | exact zqm rfl | simp) (by first | exact zqp rfl | simp)).trans hkb
            have hnx := hKx.2.2.1.2.1
            refine w_zle (ykc_138 (e := (4, .ifCond .le 14, 80)) rfl) rfl (fun b1597 => ?_) (fun b1597 => ?_)
            · have hKy := hKx
              have hSy := hSx
              have hgy := hgx
              have hEy := hEx
              have hry := hrx
              have hcy := hc3
              refine w_load (pc' := 81) (v := .ref 0) (m := 1) (ykc_138 (e := (2, .aload_n kF0, 0)) rfl) rfl rfl ?_
              refine w_gf (pc' := 84) (v := .ref 3) (ykc_138 (e := (5, .getfield 19, 0)) rfl) rfl ((hf.1 0 1 (by first | exact zqm rfl | decide) (by first | exact zqp rfl | decide)).trans ((fb.1 0 1 (by first | exact zqm rfl | decide) (by first | exact zqp rfl | decide)).trans ((f2.1 0 1 (by first | exact zqm rfl | decide) (by first | exact zqp rfl | decide)).trans ((f1.1 0 1 (by first | exact zqm rfl | decide) (by first | exact zqp rfl | decide)).trans (zsg hS zs_0_1))))) rfl ?_
              refine w_cv (as := [.ref 3]) (r := []) (ykc_138 (e := (6, .invokevirtual 245, 0)) rfl) rfl rfl rfl rfl (zc_anew) (fun v1598 ph1599 hv => ?_)
              obtain ⟨rfl, fn1, gn1⟩ := hv
              show zW n D 138 Q 87 [some (.ref 0), some (.int (Int32.ofInt (-1))), some (.int (zn i))] [.ref 3] ph1599
              refine w_load (pc' := 88) (v := .int (zn i)) (m := 1) (ykc_138 (e := (2, .iload_n kF2, 0)) rfl) rfl rfl ?_
              refine w_load (pc' := 89) (v := .ref 0) (m := 1) (ykc_138 (e := (2, .aload_n kF0, 0)) rfl) rfl rfl ?_
              refine w_gf (pc' := 92) (v := .ref 157) (ykc_138 (e := (5, .getfield 69, 0)) rfl) rfl ((fn1.1 0 9 (by first | exact zqm rfl | decide) (by first | exact zqp rfl | decide)).trans ((hf.1 0 9 (by first | exact zqm rfl | decide) (by first | exact zqp rfl | decide)).trans ((fb.1 0 9 (by first | exact zqm rfl | decide) (by first | exact zqp rfl | decide)).trans ((f2.1 0 9 (by first | exact zqm rfl | decide) (by first | exact zqp rfl | decide)).trans ((f1.1 0 9 (by first | exact zqm rfl | decide) (by first | exact zqp rfl | decide)).trans (zsg hS zs_0_9)))))) rfl ?_
              refine w_cv (as := [.ref 157]) (r := [.int (zn i), .ref 3]) (ykc_138 (e := (6, .invokevirtual 272, 0)) rfl) rfl rfl rfl rfl (zc_plActs ((fn1.1 157 2 (by simp <;> omega) (by simp <;> omega)).trans hkx)) (fun v1600 ph1601 hv => ?_)
              obtain ⟨rfl, rfl⟩ := hv
              show zW n D 138 Q 95 [some (.ref 0), some (.int (Int32.ofInt (-1))), some (.int (zn i))] [.int (zn k), .int (zn i), .ref 3] ph1599
              refine w_ige (ykc_138 (e := (4, .if_icmp .ge 7, 102)) rfl) rfl (fun b1602 => ?_) (fun b1602 => ?_)
              · refine w_alu (pc' := 103) (st' := [.long (Int64.ofNat kG0), .ref 3]) (ykc_138 (e := (0, .lconst kG0, 0)) rfl) rfl rfl ?_
                refine w_cv (as := [.ref 3, .long (Int64.ofNat kG0)]) (r := []) (ykc_138 (e := (6, .invokevirtual 252, 0)) rfl) rfl rfl rfl rfl (zc_add (zN_S (show zFr [4] [(3, 1)] p ph1599 from (zFr_mono fn1 (by first | exact zqa rfl | simp) (by first | exact zqf rfl | simp))) hSy) (k := 0) gn1 (by decide)) (fun v1603 ph1604 hv => ?_)
                obtain ⟨rfl, fn2, gn2⟩ := hv
                show zW n D 138 Q 106 [some (.ref 0), some (.int (Int32.ofInt (-1))), some (.int (zn i))] [.ref 3] ph1604
                refine w_load (pc' := 107) (v := .ref 0) (m := 1) (ykc_138 (e := (2, .aload_n kF0, 0)) rfl) rfl rfl ?_
                refine w_gf (pc' := 110) (v := .ref 25) (ykc_138 (e := (5, .getfield 42, 0)) rfl) rfl ((fn2.1 0 4 (by first | exact zqm rfl | decide) (by first | exact zqp rfl | decide)).trans ((fn1.1 0 4 (by first | exact zqm rfl | decide) (by first | exact zqp rfl | decide)).trans ((hf.1 0 4 (by first | exact zqm rfl | decide) (by first | exact zqp rfl | decide)).trans ((fb.1 0 4 (by first | exact zqm rfl | decide) (by first | exact zqp rfl | decide)).trans ((f2.1 0 4 (by first | exact zqm rfl | decide) (by first | exact zqp rfl | decide)).trans ((f1.1 0 4 (by first | exact zqm rfl | decide) (by first | exact zqp rfl | decide)).trans (zsg hS zs_0_4))))))) rfl ?_
                refine w_gf (pc' := 113) (v := .int (zn (v2 40))) (ykc_138 (e := (5, .getfield 281, 0)) rfl) rfl ((fn2.1 25 2 (by first | exact zqm rfl | decide) (by first | exact zqp rfl | decide)).trans ((fn1.1 25 2 (by first | exact zqm rfl | decide) (by first | exact zqp rfl | decide)).trans hKy.2.1.2.2.2.2.1)) rfl ?_
                refine w_alu (pc' := 114) (st' := [.long ((zn (v2 40)).toInt64), .ref 3]) (ykc_138 (e := (0, .i2l, 0)) rfl) rfl rfl ?_
                refine w_cv (as := [.ref 3, .long ((zn (v2 40)).toInt64)]) (r := []) (ykc_138 (e := (6, .invokevirtual 252, 0)) rfl) rfl rfl rfl rfl (zc_add (zN_S (show zFr [4] [(3, 1)] p ph1604 from (zFr_trans (zFr_mono fn1 (by first | exact zqa rfl | simp) (by first | exact zqf rfl | simp)) (zFr_mono fn2 (by first | exact zqa rfl | simp) (by first | exact zqf rfl | simp)))) hSy) (k := 1) gn2 (by decide)) (fun v1605 ph1606 hv => ?_)
                obtain ⟨rfl, fn3, gn3⟩ := hv
                show zW n D 138 Q 117 [some (.ref 0), some (.int (Int32.ofInt (-1))), some (.int (zn i))] [.ref 3] ph1606
                refine w_alu (pc' := 118) (st' := []) (ykc_138 (e := (0, .pop, 0)) rfl) rfl rfl ?_
                refine w_load (pc' := 119) (v := .int (zn i)) (m := 1) (ykc_138 (e := (2, .iload_n kF2, 0)) rfl) rfl rfl ?_
                refine w_ret (v := (some (.int (zn i)))) (ykc_138 (e := (7, .ireturn, 0)) rfl) (zr_v rfl) ?_
                have FN := (show zFr [4] [(3, 1)] p ph1606 from (zFr_trans (zFr_trans (zFr_mono fn1 (by first | exact zqa rfl | simp) (by first | exact zqf rfl | simp)) (zFr_mono fn2 (by first | exact zqa rfl | simp) (by first | exact zqf rfl | simp))) (zFr_mono fn3 (by first | exact zqa rfl | simp) (by first | exact zqf rfl | simp))))
                rw [hQ]
                exact ⟨(FN.1 1 1 (by first | exact zqm rfl | decide) (by first | exact zqp rfl | decide)).trans hgy, zCe_n FN hEy, (FN.1 10 1 (by first | exact zqm rfl | decide) (by first | exact zqp rfl | decide)).trans hry, zCc_F FN (by first | exact ⟨zqm rfl, zqm rfl, zqm rfl⟩ | simp) (by first | exact zqp rfl | simp) (by first | exact (fun _ => ⟨zqr rfl, zqr rfl⟩) | simp) hcy, ok, a, k, _, ho, rfl, Or.inr ⟨hok, hl60, i, v2, has, ti, Or.inl ⟨by omega, zKC_n FN hKy⟩⟩⟩
              · refine w_alu (pc' := 99) (st' := [.long (Int64.ofNat kG1), .ref 3]) (ykc_138 (e := (0, .lconst kG1, 0)) rfl) rfl rfl ?_
                refine w_br (pc' := 103) (st' := [.long (Int64.ofNat kG1), .ref 3]) (ykc_138 (e := (4, .goto 4, 103)) rfl) rfl ?_
                refine w_cv (as := [.ref 3, .long (Int64.ofNat kG1)]) (r := []) (ykc_138 (e := (6, .invokevirtual 252, 0)) rfl) rfl rfl rfl rfl (zc_add (zN_S (show zFr [4] [(3, 1)] p ph1599 from (zFr_mono fn1 (by first | exact zqa rfl | simp) (by first | exact zqf rfl | simp))) hSy) (k := 0) gn1 (by decide)) (fun v1607 ph1608 hv => ?_)
                obtain ⟨rfl, fn2, gn2⟩ := hv
                show zW n D 138 Q 106 [some (.ref 0), some (.int (Int32.ofInt (-1))), some (.int (zn i))] [.ref 3] ph1608
                refine w_load (pc' := 107) (v := .ref 0) (m := 1) (ykc_138 (e := (2, .aload_n kF0, 0)) rfl) rfl rfl ?_
                refine w_gf (pc' := 110) (v := .ref 25) (ykc_138 (e := (5, .getfield 42, 0)) rfl) rfl ((fn2.1 0 4 (by first | exact zqm rfl | decide) (by first | exact zqp rfl | decide)).trans ((fn1.1 0 4 (by first | exact zqm rfl | decide) (by first | exact zqp rfl | decide)).trans ((hf.1 0 4 (by first | exact zqm rfl | decide) (by first | exact zqp rfl | decide)).trans ((fb.1 0 4 (by first | exact zqm rfl | decide) (by first | exact zqp rfl | decide)).trans ((f2.1 0 4 (by first | exact zqm rfl | decide) (by first | exact zqp rfl | decide)).trans ((f1.1 0 4 (by first | exact zqm rfl | decide) (by first | exact zqp rfl | decide)).trans (zsg hS zs_0_4))))))) rfl ?_
                refine w_gf (pc' := 113) (v := .int (zn (v2 40))) (ykc_138 (e := (5, .getfield 281, 0)) rfl) rfl ((fn2.1 25 2 (by first | exact zqm rfl | decide) (by first | exact zqp rfl | decide)).trans ((fn1.1 25 2 (by first | exact zqm rfl | decide) (by first | exact zqp rfl | decide)).trans hKy.2.1.2.2.2.2.1)) rfl ?_
                refine w_alu (pc' := 114) (st' := [.long ((zn (v2 40)).toInt64), .ref 3]) (ykc_138 (e := (0, .i2l, 0)) rfl) rfl rfl ?_
                refine w_cv (as := [.ref 3, .long ((zn (v2 40)).toInt64)]) (r := []) (ykc_138 (e := (6, .invokevirtual 252, 0)) rfl) rfl rfl rfl rfl (zc_add (zN_S (show zFr [4] [(3, 1)] p ph1608 from (zFr_trans (zFr_mono fn1 (by first | exact zqa rfl | simp) (by first | exact zqf rfl | simp)) (zFr_mono fn2 (by first | exact zqa rfl | simp) (by first | exact zqf rfl | simp)))) hSy) (k := 1) gn2 (by decide)) (fun v1609 ph1610 hv => ?_)
                obtain ⟨rfl, fn3, gn3⟩ := hv
                show zW n D 138 Q 117 [some (.ref 0), some (.int (Int32.ofInt (-1))), some (.int (zn i))] [.ref 3] ph1610
                refine w_alu (pc' := 118) (st' := []) (ykc_138 (e := (0, .pop, 0)) rfl) rfl rfl ?_
                refine w_load (pc' := 119) (v := .int (zn i)) (m := 1) (ykc_138 (e := (2, .iload_n kF2, 0)) rfl) rfl rfl ?_
                refine w_ret (v := (some (.int (zn i)))) (ykc_138 (e := (7, .ireturn, 0)) rfl) (zr_v rfl) ?_
                have FN := (show zFr [4] [(3, 1)] p ph1610 from (zFr_trans (zFr_trans (zFr_mono fn1 (by first | exact zqa rfl | simp) (by first | exact zqf rfl | simp)) (zFr_mono fn2 (by first | exact zqa rfl | simp) (by first | exact zqf rfl | simp))) (zFr_mono fn3 (by first | exact zqa rfl | simp) (by first | exact zqf rfl | simp))))
                rw [hQ]
                exact ⟨(FN.1 1 1 (by first | exact zqm rfl | decide) (by first | exact zqp rfl | decide)).trans hgy, zCe_n FN hEy, (FN.1 10 1 (by first | exact zqm rfl | decide) (by first | exact zqp rfl | decide)).trans hry, zCc_F FN (by first | exact ⟨zqm rfl, zqm rfl, zqm rfl⟩ | simp) (by first | exact zqp rfl | simp) (by first | exact (fun _ => ⟨zqr rfl, zqr rfl⟩) | simp) hcy, ok, a, k, _, ho, rfl, Or.inr ⟨hok, hl60, i, v2, has, ti, Or.inl ⟨by omega, zKC_n FN hKy⟩⟩⟩
            · refine w_load (pc' := 70) (v := .ref 0) (m := 1) (ykc_138 (e := (2, .aload_n kF0, 0)) rfl) rfl rfl ?_
              refine w_gf (pc' := 73) (v := .ref 43) (ykc_138 (e := (5, .getfield 55, 0)) rfl) rfl ((hf.1 0 7 (by first | exact zqm rfl | decide) (by first | exact zqp rfl | decide)).trans ((fb.1 0 7 (by first | exact zqm rfl | decide) (by first | exact zqp rfl | decide)).trans ((f2.1 0 7 (by first | exact zqm rfl | decide) (by first | exact zqp rfl | decide)).trans ((f1.1 0 7 (by first | exact zqm rfl | decide) (by first | exact zqp rfl | decide)).trans (zsg hS zs_0_7))))) rfl ?_
              refine w_load (pc' := 74) (v := .ref 0) (m := 1) (ykc_138 (e := (2, .aload_n kF0, 0)) rfl) rfl rfl ?_
              refine w_gf (pc' := 77) (v := .ref 31) (ykc_138 (e := (5, .getfield 46, 0)) rfl) rfl ((hf.1 0 5 (by first | exact zqm rfl | decide) (by first | exact zqp rfl | decide)).trans ((fb.1 0 5 (by first | exact zqm rfl | decide) (by first | exact zqp rfl | decide)).trans ((f2.1 0 5 (by first | exact zqm rfl | decide) (by first | exact zqp rfl | decide)).trans ((f1.1 0 5 (by first | exact zqm rfl | decide) (by first | exact zqp rfl | decide)).trans (zsg hS zs_0_5))))) rfl ?_
              refine w_cv (as := [.ref 43, .ref 31]) (r := []) (ykc_138 (e := (6, .invokevirtual 278, 0)) rfl) rfl rfl rfl rfl (zc_push (T := 31) hSx (Or.inr rfl) dbx hKx.2.2.1.1 hKx.2.2.1.2.2.1 hnx hKx.2.2.1.2.2.2.1) (fun v1611 ph1612 hv => ?_)
              rcases hv with ⟨rfl, ⟨q1, q2, pf, pu1, pu2⟩, pd⟩
              · have fq : zFr [45 + 6 * nx + 1, 45 + 6 * nx + 2, 45 + 6 * nx + 3, 45 + 6 * nx + 4, 45 + 6 * nx + 5] [(45 + 6 * nx, 0), (45 + 6 * nx, 1), (45 + 6 * nx, 2), (43, 1), (43, 2)] p ph1612 := zFr_trans (zFr_mono pf (by first | exact zqa rfl | simp) (by first | exact zqf rfl | simp)) (zFr_trans (zFr_st pu1 (Or.inr (by first | exact zqj rfl | simp))) (zFr_st pu2 (Or.inr (by first | exact zqj rfl | simp))))
                have hKy := zKC_pu hKx pf pu1 pu2 pd
                have hSy := zSh_st pu2 (by decide +kernel) (zSh_st pu1 (by decide +kernel) (zCo_S (zSadr_past hnx) pf hSx))
                have hgy := (fq.1 1 1 (by simp <;> omega) (by simp <;> omega)).trans hgx
                have hEy := zCe_q hnx fq hEx
                have hry := (fq.1 10 1 (by simp <;> omega) (by simp <;> omega)).trans hrx
                have hcy := zCc_F fq (by simp <;> omega) (by simp <;> omega) (by intro i; simp <;> omega) hc3
                show zW n D 138 Q 80 [some (.ref 0), some (.int (Int32.ofInt (-1))), some (.int (zn i))] [] ph1612
                refine w_load (pc' := 81) (v := .ref 0) (m := 1) (ykc_138 (e := (2, .aload_n kF0, 0)) rfl) rfl rfl ?_
                refine w_gf (pc' := 84) (v := .ref 3) (ykc_138 (e := (5, .getfield 19, 0)) rfl) rfl ((fq.1 0 1 (by simp <;> omega) (by simp <;> omega)).trans ((hf.1 0 1 (by first | exact zqm rfl | decide) (by first | exact zqp rfl | decide)).trans ((fb.1 0 1 (by first | exact zqm rfl | decide) (by first | exact zqp rfl | decide)).trans ((f2.1 0 1 (by first | exact zqm rfl | decide) (by first | exact zqp rfl | decide)).trans ((f1.1 0 1 (by first | exact zqm rfl | decide) (by first | exact zqp rfl | decide)).trans (zsg hS zs_0_1)))))) rfl ?_
                refine w_cv (as := [.ref 3]) (r := []) (ykc_138 (e := (6, .invokevirtual 245, 0)) rfl) rfl rfl rfl rfl (zc_anew) (fun v1613 ph1614 hv => ?_)
                obtain ⟨rfl, fn1, gn1⟩ := hv
                show zW n D 138 Q 87 [some (.ref 0), some (.int (Int32.ofInt (-1))), some (.int (zn i))] [.ref 3] ph1614
                refine w_load (pc' := 88) (v := .int (zn i)) (m := 1) (ykc_138 (e := (2, .iload_n kF2, 0)) rfl) rfl rfl ?_
                refine w_load (pc' := 89) (v := .ref 0) (m := 1) (ykc_138 (e := (2, .aload_n kF0, 0)) rfl) rfl rfl ?_
                refine w_gf (pc' := 92) (v := .ref 157) (ykc_138 (e := (5, .getfield 69, 0)) rfl) rfl ((fn1.1 0 9 (by first | exact zqm rfl | decide) (by first | exact zqp rfl | decide)).trans ((fq.1 0 9 (by simp <;> omega) (by simp <;> omega)).trans ((hf.1 0 9 (by first | exact zqm rfl | decide) (by first | exact zqp rfl | decide)).trans ((fb.1 0 9 (by first | exact zqm rfl | decide) (by first | exact zqp rfl | decide)).trans ((f2.1 0 9 (by first | exact zqm rfl | decide) (by first | exact zqp rfl | decide)).trans ((f1.1 0 9 (by first | exact zqm rfl | decide) (by first | exact zqp rfl | decide)).trans (zsg hS zs_0_9))))))) rfl ?_
                refine w_cv (as := [.ref 157]) (r := [.int (zn i), .ref 3]) (ykc_138 (e := (6, .invokevirtual 272, 0)) rfl) rfl rfl rfl rfl (zc_plActs ((fn1.1 157 2 (by simp <;> omega) (by simp <;> omega)).trans ((fq.1 157 2 (by simp <;> omega) (by simp <;> omega)).trans hkx))) (fun v1615 ph1616 hv => ?_)
                obtain ⟨rfl, rfl⟩ := hv
                show zW n D 138 Q 95 [some (.ref 0), some (.int (Int32.ofInt (-1))), some (.int (zn i))] [.int (zn k), .int (zn i), .ref 3] ph1614
                refine w_ige (ykc_138 (e := (4, .if_icmp .ge 7, 102)) rfl) rfl (fun b1617 => ?_) (fun b1617 => ?_)
                · refine w_alu (pc' := 103) (st' := [.long (Int64.ofNat kG0), .ref 3]) (ykc_138 (e := (0, .lconst kG0, 0)) rfl) rfl rfl ?_
                  refine w_cv (as := [.ref 3, .long (Int64.ofNat kG0)]) (r := []) (ykc_138 (e := (6, .invokevirtual 252, 0)) rfl) rfl rfl rfl rfl (zc_add (zN_S (show zFr [4] [(3, 1)] ph1612 ph1614 from (zFr_mono fn1 (by first | exact zqa rfl | simp) (by first | exact zqf rfl | simp))) hSy) (k := 0) gn1 (by decide)) (fun v1618 ph1619 hv => ?_)
                  obtain ⟨rfl, fn2, gn2⟩ := hv
                  show zW n D 138 Q 106 [some (.ref 0), some (.int (Int32.ofInt (-1))), some (.int (zn i))] [.ref 3] ph1619
                  refine w_load (pc' := 107) (v := .ref 0) (m := 1) (ykc_138 (e := (2, .aload_n kF0, 0)) rfl) rfl rfl ?_
                  refine w_gf (pc' := 110) (v := .ref 25) (ykc_138 (e := (5, .getfield 42, 0)) rfl) rfl ((fn2.1 0 4 (by first | exact zqm rfl | decide) (by first | exact zqp rfl | decide)).trans ((fn1.1 0 4 (by first | exact zqm rfl | decide) (by first | exact zqp rfl | decide)).trans ((fq.1 0 4 (by simp <;> omega) (by simp <;> omega)).trans ((hf.1 0 4 (by first | exact zqm rfl | decide) (by first | exact zqp rfl | decide)).trans ((fb.1 0 4 (by first | exact zqm rfl | decide) (by first | exact zqp rfl | decide)).trans ((f2.1 0 4 (by first | exact zqm rfl | decide) (by first | exact zqp rfl | decide)).trans ((f1.1 0 4 (by first | exact zqm rfl | decide) (by first | exact zqp rfl | decide)).trans (zsg hS zs_0_4)))))))) rfl ?_
                  refine w_gf (pc' := 113) (v := .int (zn (v2 40))) (ykc_138 (e := (5, .getfield 281, 0)) rfl) rfl ((fn2.1 25 2 (by first | exact zqm rfl | decide) (by first | exact zqp rfl | decide)).trans ((fn1.1 25 2 (by first | exact zqm rfl | decide) (by first | exact zqp rfl | decide)).trans hKy.2.1.2.2.2.2.1)) rfl ?_
                  refine w_alu (pc' := 114) (st' := [.long ((zn (v2 40)).toInt64), .ref 3]) (ykc_138 (e := (0, .i2l, 0)) rfl) rfl rfl ?_
                  refine w_cv (as := [.ref 3, .long ((zn (v2 40)).toInt64)]) (r := []) (ykc_138 (e := (6, .invokevirtual 252, 0)) rfl) rfl rfl rfl rfl (zc_add (zN_S (show zFr [4] [(3, 1)] ph1612 ph1619 from (zFr_trans (zFr_mono fn1 (by first | exact zqa rfl | simp) (by first | exact zqf rfl | simp)) (zFr_mono fn2 (by first | exact zqa rfl | simp) (by first | exact zqf rfl | simp)))) hSy) (k := 1) gn2 (by decide)) (fun v1620 ph1621 hv => ?_)
                  obtain ⟨rfl, fn3, gn3⟩ := hv
                  show zW n D 138 Q 117 [some (.ref 0), some (.int (Int32.ofInt (-1))), some (.int (zn i))] [.ref 3] ph1621
                  refine w_alu (pc' := 118) (st' := []) (ykc_138 (e := (0, .pop, 0)) rfl) rfl rfl ?_
                  refine w_load (pc' := 119) (v := .int (zn i)) (m := 1) (ykc_138 (e := (2, .iload_n kF2, 0)) rfl) rfl rfl ?_
                  refine w_ret (v := (some (.int (zn i)))) (ykc_138 (e := (7, .ireturn, 0)) rfl) (zr_v rfl) ?_
                  have FN := (show zFr [4] [(3, 1)] ph1612 ph1621 from (zFr_trans (zFr_trans (zFr_mono fn1 (by first | exact zqa rfl | simp) (by first | exact zqf rfl | simp)) (zFr_mono fn2 (by first | exact zqa rfl | simp) (by first | exact zqf rfl | simp))) (zFr_mono fn3 (by first | exact zqa rfl | simp) (by first | exact zqf rfl | simp))))
                  rw [hQ]
                  exact ⟨(FN.1 1 1 (by first | exact zqm rfl | decide) (by first | exact zqp rfl | decide)).trans hgy, zCe_n FN hEy, (FN.1 10 1 (by first | exact zqm rfl | decide) (by first | exact zqp rfl | decide)).trans hry, zCc_F FN (by first | exact ⟨zqm rfl, zqm rfl, zqm rfl⟩ | simp) (by first | exact zqp rfl | simp) (by first | exact (fun _ => ⟨zqr rfl, zqr rfl⟩) | simp) hcy, ok, a, k, _, ho, rfl, Or.inr ⟨hok, hl60, i, v2, has, ti, Or.inr ⟨by omega, _, zKC_n FN hKy⟩⟩⟩
                · refine w_alu (pc' := 99) (st' := [.long (Int64.ofNat kG1), .ref 3]) (ykc_138 (e := (0, .lconst kG1, 0)) rfl) rfl rfl ?_
                  refine w_br (pc' := 103) (st' := [.long (Int64.ofNat kG1), .ref 3]) (ykc_138 (e := (4, .goto 4, 103)) rfl) rfl ?_
                  refine w_cv (as := [.ref 3, .long (Int64.ofNat kG1)]) (r := []) (ykc_138 (e := (6, .invokevirtual 252, 0)) rfl) rfl rfl rfl rfl (zc_add (zN_S (show zFr [4] [(3, 1)] ph1612 ph1614 from (zFr_mono fn1 (by first | exact zqa rfl | simp) (by first | exact zqf rfl | simp))) hSy) (k := 0) gn1 (by decide)) (fun v1622 ph1623 hv => ?_)
                  obtain ⟨rfl, fn2, gn2⟩ := hv
                  show zW n D 138 Q 106 [some (.ref 0), some (.int (Int32.ofInt (-1))), some (.int (zn i))] [.ref 3] ph1623
                  refine w_load (pc' := 107) (v := .ref 0) (m := 1) (ykc_138 (e := (2, .aload_n kF0, 0)) rfl) rfl rfl ?_
                  refine w_gf (pc' := 110) (v := .ref 25) (ykc_138 (e := (5, .getfield 42, 0)) rfl) rfl ((fn2.1 0 4 (by first | exact zqm rfl | decide) (by first | exact zqp rfl | decide)).trans ((fn1.1 0 4 (by first | exact zqm rfl | decide) (by first | exact zqp rfl | decide)).trans ((fq.1 0 4 (by simp <;> omega) (by simp <;> omega)).trans ((hf.1 0 4 (by first | exact zqm rfl | decide) (by first | exact zqp rfl | decide)).trans ((fb.1 0 4 (by first | exact zqm rfl | decide) (by first | exact zqp rfl | decide)).trans ((f2.1 0 4 (by first | exact zqm rfl | decide) (by first | exact zqp rfl | decide)).trans ((f1.1 0 4 (by first | exact zqm rfl | decide) (by first | exact zqp rfl | decide)).trans (zsg hS zs_0_4)))))))) rfl ?_
                  refine w_gf (pc' := 113) (v := .int (zn (v2 40))) (ykc_138 (e := (5, .getfield 281, 0)) rfl) rfl ((fn2.1 25 2 (by first | exact zqm rfl | decide) (by first | exact zqp rfl | decide)).trans ((fn1.1 25 2 (by first | exact zqm rfl | decide) (by first | exact zqp rfl | decide)).trans hKy.2.1.2.2.2.2.1)) rfl ?_
                  refine w_alu (pc' := 114) (st' := [.long ((zn (v2 40)).toInt64), .ref 3]) (ykc_138 (e := (0, .i2l, 0)) rfl) rfl rfl ?_
                  refine w_cv (as := [.ref 3, .long ((zn (v2 40)).toInt64)]) (r := []) (ykc_138 (e := (6, .invokevirtual 252, 0)) rfl) rfl rfl rfl rfl (zc_add (zN_S (show zFr [4] [(3, 1)] ph1612 ph1623 from (zFr_trans (zFr_mono fn1 (by first | exact zqa rfl | simp) (by first | exact zqf rfl | simp)) (zFr_mono fn2 (by first | exact zqa rfl | simp) (by first | exact zqf rfl | simp)))) hSy) (k := 1) gn2 (by decide)) (fun v1624 ph1625 hv => ?_)
                  obtain ⟨rfl, fn3, gn3⟩ := hv
                  show zW n D 138 Q 117 [some (.ref 0), some (.int (Int32.ofInt (-1))), some (.int (zn i))] [.ref 3] ph1625
                  refine w_alu (pc' := 118) (st' := []) (ykc_138 (e := (0, .pop, 0)) rfl) rfl rfl ?_
                  refine w_load (pc' := 119) (v := .int (zn i)) (m := 1) (ykc_138 (e := (2, .iload_n kF2, 0)) rfl) rfl rfl ?_
                  refine w_ret (v := (some (.int (zn i)))) (ykc_138 (e := (7, .ireturn, 0)) rfl) (zr_v rfl) ?_
                  have FN := (show zFr [4] [(3, 1)] ph1612 ph1625 from (zFr_trans (zFr_trans (zFr_mono fn1 (by first | exact zqa rfl | simp) (by first | exact zqf rfl | simp)) (zFr_mono fn2 (by first | exact zqa rfl | simp) (by first | exact zqf rfl | simp))) (zFr_mono fn3 (by first | exact zqa rfl | simp) (by first | exact zqf rfl | simp))))
                  rw [hQ]
                  exact ⟨(FN.1 1 1 (by first | exact zqm rfl | decide) (by first | exact zqp rfl | decide)).trans hgy, zCe_n FN hEy, (FN.1 10 1 (by first | exact zqm rfl | decide) (by first | exact zqp rfl | decide)).trans hry, zCc_F FN (by first | exact ⟨zqm rfl, zqm rfl, zqm rfl⟩ | simp) (by first | exact zqp rfl | simp) (by first | exact (fun _ => ⟨zqr rfl, zqr rfl⟩) | simp) hcy, ok, a, k, _, ho, rfl, Or.inr ⟨hok, hl60, i, v2, has, ti, Or.inr ⟨by omega, _, zKC_n FN hKy⟩⟩⟩
              
            
          · refine w_load (pc' := 52) (v := .ref 0) (m := 1) (ykc_138 (e := (2, .aload_n kF0, 0)) rfl) rfl rfl ?_
            refine w_load (pc' := 53) (v := .int (zn i)) (m := 1) (ykc_138 (e := (2, .iload_n kF2, 0)) rfl) rfl rfl ?_
            refine w_cv (as := [.ref 0, .int (zn i)]) (r := []) (ykc_138 (e := (6, .invokevirtual 275, 0)) rfl) rfl rfl rfl rfl (zc_act hSp hEp ht2 hO2 hrp hc2 (by omega) hkp hk30 (zDd_F hf (by first | exact ⟨zqm rfl, zqm rfl⟩ | simp) (by simp) hdb) ho.1 ti (by omega)) (fun v1626 ph1627 hv => ?_)
            rcases hv with ⟨fa, y9, rfl, ⟨v3, hac, hy0, ht3, hc3⟩ | ⟨hac, hy0, ht3, hc3⟩⟩
            · show zW n D 138 Q 56 [some (.ref 0), some (.int (Int32.ofInt (-1))), some (.int (zn i))] [.int y9] ph1627
              refine w_zlt (ykc_138 (e := (4, .ifCond .lt 9, 65)) rfl) rfl (fun q => by exfalso; omega) (fun b1628 => ?_)
              have e1629 : (zn i) + Int32.ofInt 1 = zn (i + 1) := (zaddN (a := i) (b := 1) (znt (by omega)) c_2 (by omega))
              have te1629 := znt (k := i + 1) (by omega)
              refine w_store (pc' := 62) (L' := [some (.ref 0), some (.int (Int32.ofInt (-1))), some (.int (zn (i + 1)))]) (st' := []) (m := 3) (ykc_138 (e := (3, .iinc 2 1, 0)) rfl) (by rw [← e1629]; rfl) rfl ?_
              refine w_gb (ykc_138 (e := (4, .goto (-22), 40)) rfl) (fun k1630 hk1630 => ?_)
              exact ih k1630 hk1630 (i + 1) v3 _ (by omega) (zFr_trans hf fa) ht3 hc3 (by rw [zAr_s hr2]; exact hac)
            · have has : zAs2 E P G v t k i v2 := ⟨hi, hr2, fun _ => hac⟩
              have FX := zFr_trans hf fa
              show zW n D 138 Q 56 [some (.ref 0), some (.int (Int32.ofInt (-1))), some (.int (zn i))] [.int y9] ph1627
              refine w_zlt (ykc_138 (e := (4, .ifCond .lt 9, 65)) rfl) rfl (fun b1631 => ?_) (fun q => by exfalso; omega)
              refine w_load (pc' := 66) (v := .int (zn i)) (m := 1) (ykc_138 (e := (2, .iload_n kF2, 0)) rfl) rfl rfl ?_
              have hSx := zSh_F FX (by decide +kernel) hSb
              have hKx := zKC_fa FX hKb ht3.2
              have hEx := zCe_fa FX hEb
              have hrx := (FX.1 10 1 (by first | exact zqm rfl | simp) (by first | exact zqp rfl | simp)).trans hrb
              have hgx := (FX.1 1 1 (by first | exact zqm rfl | simp) (by first | exact zqp rfl | simp)).trans hgb
              have dbx := zSd_F FX (by intro j hj; simp <;> omega) (by intro j i hj; simp <;> omega) db
              have hkx := (FX.1 157 2 (by first | exact zqm rfl | simp) (by first | exact zqp rfl | simp)).trans hkb
              have hnx := hKx.2.2.1.2.1
              refine w_zle (ykc_138 (e := (4, .ifCond .le 14, 80)) rfl) rfl (fun b1632 => ?_) (fun b1632 => ?_)
              · have hKy := hKx
                have hSy := hSx
                have hgy := hgx
                have hEy := hEx
                have hry := hrx
                have hcy := hc3
                refine w_load (pc' := 81) (v := .ref 0) (m := 1) (ykc_138 (e := (2, .aload_n kF0, 0)) rfl) rfl rfl ?_
                refine w_gf (pc' := 84) (v := .ref 3) (ykc_138 (e := (5, .getfield 19, 0)) rfl) rfl ((fa.1 0 1 (by simp <;> omega) (by simp <;> omega)).trans ((hf.1 0 1 (by first | exact zqm rfl | decide) (by first | exact zqp rfl | decide)).trans ((fb.1 0 1 (by first | exact zqm rfl | decide) (by first | exact zqp rfl | decide)).trans ((f2.1 0 1 (by first | exact zqm rfl | decide) (by first | exact zqp rfl | decide)).trans ((f1.1 0 1 (by first | exact zqm rfl | decide) (by first | exact zqp rfl | decide)).trans (zsg hS zs_0_1)))))) rfl ?_
                refine w_cv (as := [.ref 3]) (r := []) (ykc_138 (e := (6, .invokevirtual 245, 0)) rfl) rfl rfl rfl rfl (zc_anew) (fun v1633 ph1634 hv => ?_)
                obtain ⟨rfl, fn1, gn1⟩ := hv
                show zW n D 138 Q 87 [some (.ref 0), some (.int (Int32.ofInt (-1))), some (.int (zn i))] [.ref 3] ph1634
                refine w_load (pc' := 88) (v := .int (zn i)) (m := 1) (ykc_138 (e := (2, .iload_n kF2, 0)) rfl) rfl rfl ?_
                refine w_load (pc' := 89) (v := .ref 0) (m := 1) (ykc_138 (e := (2, .aload_n kF0, 0)) rfl) rfl rfl ?_
                refine w_gf (pc' := 92) (v := .ref 157) (ykc_138 (e := (5, .getfield 69, 0)) rfl) rfl ((fn1.1 0 9 (by first | exact zqm rfl | decide) (by first | exact zqp rfl | decide)).trans ((fa.1 0 9 (by simp <;> omega) (by simp <;> omega)).trans ((hf.1 0 9 (by first | exact zqm rfl | decide) (by first | exact zqp rfl | decide)).trans ((fb.1 0 9 (by first | exact zqm rfl | decide) (by first | exact zqp rfl | decide)).trans ((f2.1 0 9 (by first | exact zqm rfl | decide) (by first | exact zqp rfl | decide)).trans ((f1.1 0 9 (by first | exact zqm rfl | decide) (by first | exact zqp rfl | decide)).trans (zsg hS zs_0_9))))))) rfl ?_
                refine w_cv (as := [.ref 157]) (r := [.int (zn i), .ref 3]) (ykc_138 (e := (6, .invokevirtual 272, 0)) rfl) rfl rfl rfl rfl (zc_plActs ((fn1.1 157 2 (by simp <;> omega) (by simp <;> omega)).trans hkx)) (fun v1635 ph1636 hv => ?_)
                obtain ⟨rfl, rfl⟩ := hv
                show zW n D 138 Q 95 [some (.ref 0), some (.int (Int32.ofInt (-1))), some (.int (zn i))] [.int (zn k), .int (zn i), .ref 3] ph1634
                refine w_ige (ykc_138 (e := (4, .if_icmp .ge 7, 102)) rfl) rfl (fun b1637 => ?_) (fun b1637 => ?_)
                · refine w_alu (pc' := 103) (st' := [.long (Int64.ofNat kG0), .ref 3]) (ykc_138 (e := (0, .lconst kG0, 0)) rfl) rfl rfl ?_
                  refine w_cv (as := [.ref 3, .long (Int64.ofNat kG0)]) (r := []) (ykc_138 (e := (6, .invokevirtual 252, 0)) rfl) rfl rfl rfl rfl (zc_add (zN_S (show zFr [4] [(3, 1)] ph1627 ph1634 from (zFr_mono fn1 (by first | exact zqa rfl | simp) (by first | exact zqf rfl | simp))) hSy) (k := 0) gn1 (by decide)) (fun v1638 ph1639 hv => ?_)
                  obtain ⟨rfl, fn2, gn2⟩ := hv
                  show zW n D 138 Q 106 [some (.ref 0), some (.int (Int32.ofInt (-1))), some (.int (zn i))] [.ref 3] ph1639
                  refine w_load (pc' := 107) (v := .ref 0) (m := 1) (ykc_138 (e := (2, .aload_n kF0, 0)) rfl) rfl rfl ?_
                  refine w_gf (pc' := 110) (v := .ref 25) (ykc_138 (e := (5, .getfield 42, 0)) rfl) rfl ((fn2.1 0 4 (by first | exact zqm rfl | decide) (by first | exact zqp rfl | decide)).trans ((fn1.1 0 4 (by first | exact zqm rfl | decide) (by first | exact zqp rfl | decide)).trans ((fa.1 0 4 (by simp <;> omega) (by simp <;> omega)).trans ((hf.1 0 4 (by first | exact zqm rfl | decide) (by first | exact zqp rfl | decide)).trans ((fb.1 0 4 (by first | exact zqm rfl | decide) (by first | exact zqp rfl | decide)).trans ((f2.1 0 4 (by first | exact zqm rfl | decide) (by first | exact zqp rfl | decide)).trans ((f1.1 0 4 (by first | exact zqm rfl | decide) (by first | exact zqp rfl | decide)).trans (zsg hS zs_0_4)))))))) rfl ?_
                  refine w_gf (pc' := 113) (v := .int (zn (v2 40))) (ykc_138 (e := (5, .getfield 281, 0)) rfl) rfl ((fn2.1 25 2 (by first | exact zqm rfl | decide) (by first | exact zqp rfl | decide)).trans ((fn1.1 25 2 (by first | exact zqm rfl | decide) (by first | exact zqp rfl | decide)).trans hKy.2.1.2.2.2.2.1)) rfl ?_
                  refine w_alu (pc' := 114) (st' := [.long ((zn (v2 40)).toInt64), .ref 3]) (ykc_138 (e := (0, .i2l, 0)) rfl) rfl rfl ?_
                  refine w_cv (as := [.ref 3, .long ((zn (v2 40)).toInt64)]) (r := []) (ykc_138 (e := (6, .invokevirtual 252, 0)) rfl) rfl rfl rfl rfl (zc_add (zN_S (show zFr [4] [(3, 1)] ph1627 ph1639 from (zFr_trans (zFr_mono fn1 (by first | exact zqa rfl | simp) (by first | exact zqf rfl | simp)) (zFr_mono fn2 (by first | exact zqa rfl | simp) (by first | exact zqf rfl | simp)))) hSy) (k := 1) gn2 (by decide)) (fun v1640 ph1641 hv => ?_)
                  obtain ⟨rfl, fn3, gn3⟩ := hv
                  show zW n D 138 Q 117 [some (.ref 0), some (.int (Int32.ofInt (-1))), some (.int (zn i))] [.ref 3] ph1641
                  refine w_alu (pc' := 118) (st' := []) (ykc_138 (e := (0, .pop, 0)) rfl) rfl rfl ?_
                  refine w_load (pc' := 119) (v := .int (zn i)) (m := 1) (ykc_138 (e := (2, .iload_n kF2, 0)) rfl) rfl rfl ?_
                  refine w_ret (v := (some (.int (zn i)))) (ykc_138 (e := (7, .ireturn, 0)) rfl) (zr_v rfl) ?_
                  have FN := (show zFr [4] [(3, 1)] ph1627 ph1641 from (zFr_trans (zFr_trans (zFr_mono fn1 (by first | exact zqa rfl | simp) (by first | exact zqf rfl | simp)) (zFr_mono fn2 (by first | exact zqa rfl | simp) (by first | exact zqf rfl | simp))) (zFr_mono fn3 (by first | exact zqa rfl | simp) (by first | exact zqf rfl | simp))))
                  rw [hQ]
                  exact ⟨(FN.1 1 1 (by first | exact zqm rfl | decide) (by first | exact zqp rfl | decide)).trans hgy, zCe_n FN hEy, (FN.1 10 1 (by first | exact zqm rfl | decide) (by first | exact zqp rfl | decide)).trans hry, zCc_F FN (by first | exact ⟨zqm rfl, zqm rfl, zqm rfl⟩ | simp) (by first | exact zqp rfl | simp) (by first | exact (fun _ => ⟨zqr rfl, zqr rfl⟩) | simp) hcy, ok, a, k, _, ho, rfl, Or.inr ⟨hok, hl60, i, v2, has, ti, Or.inl ⟨by omega, zKC_n FN hKy⟩⟩⟩
                · refine w_alu (pc' := 99) (st' := [.long (Int64.ofNat kG1), .ref 3]) (ykc_138 (e := (0, .lconst kG1, 0)) rfl) rfl rfl ?_
                  refine w_br (pc' := 103) (st' := [.long (Int64.ofNat kG1), .ref 3]) (ykc_138 (e := (4, .goto 4, 103)) rfl) rfl ?_
                  refine w_cv (as := [.ref 3, .long (Int64.ofNat kG1)]) (r := []) (ykc_138 (e := (6, .invokevirtual 252, 0)) rfl) rfl rfl rfl rfl (zc_add (zN_S (show zFr [4] [(3, 1)] ph1627 ph1634 from (zFr_mono fn1 (by first | exact zqa rfl | simp) (by first | exact zqf rfl | simp))) hSy) (k := 0) gn1 (by decide)) (fun v1642 ph1643 hv => ?_)
                  obtain ⟨rfl, fn2, gn2⟩ := hv
                  show zW n D 138 Q 106 [some (.ref 0), some (.int (Int32.ofInt (-1))), some (.int (zn i))] [.ref 3] ph1643
                  refine w_load (pc' := 107) (v := .ref 0) (m := 1) (ykc_138 (e := (2, .aload_n kF0, 0)) rfl) rfl rfl ?_
                  refine w_gf (pc' := 110) (v := .ref 25) (ykc_138 (e := (5, .getfield 42, 0)) rfl) rfl ((fn2.1 0 4 (by first | exact zqm rfl | decide) (by first | exact zqp rfl | decide)).trans ((fn1.1 0 4 (by first | exact zqm rfl | decide) (by first | exact zqp rfl | decide)).trans ((fa.1 0 4 (by simp <;> omega) (by simp <;> omega)).trans ((hf.1 0 4 (by first | exact zqm rfl | decide) (by first | exact zqp rfl | decide)).trans ((fb.1 0 4 (by first | exact zqm rfl | decide) (by first | exact zqp rfl | decide)).trans ((f2.1 0 4 (by first | exact zqm rfl | decide) (by first | exact zqp rfl | decide)).trans ((f1.1 0 4 (by first | exact zqm rfl | decide) (by first | exact zqp rfl | decide)).trans (zsg hS zs_0_4)))))))) rfl ?_
                  refine w_gf (pc' := 113) (v := .int (zn (v2 40))) (ykc_138 (e := (5, .getfield 281, 0)) rfl) rfl ((fn2.1 25 2 (by first | exact zqm rfl | decide) (by first | exact zqp rfl | decide)).trans ((fn1.1 25 2 (by first | exact zqm rfl | decide) (by first | exact zqp rfl | decide)).trans hKy.2.1.2.2.2.2.1)) rfl ?_
                  refine w_alu (pc' := 114) (st' := [.long ((zn (v2 40)).toInt64), .ref 3]) (ykc_138 (e := (0, .i2l, 0)) rfl) rfl rfl ?_
                  refine w_cv (as := [.ref 3, .long ((zn (v2 40)).toInt64)]) (r := []) (ykc_138 (e := (6, .invokevirtual 252, 0)) rfl) rfl rfl rfl rfl (zc_add (zN_S (show zFr [4] [(3, 1)] ph1627 ph1643 from (zFr_trans (zFr_mono fn1 (by first | exact zqa rfl | simp) (by first | exact zqf rfl | simp)) (zFr_mono fn2 (by first | exact zqa rfl | simp) (by first | exact zqf rfl | simp)))) hSy) (k := 1) gn2 (by decide)) (fun v1644 ph1645 hv => ?_)
                  obtain ⟨rfl, fn3, gn3⟩ := hv
                  show zW n D 138 Q 117 [some (.ref 0), some (.int (Int32.ofInt (-1))), some (.int (zn i))] [.ref 3] ph1645
                  refine w_alu (pc' := 118) (st' := []) (ykc_138 (e := (0, .pop, 0)) rfl) rfl rfl ?_
                  refine w_load (pc' := 119) (v := .int (zn i)) (m := 1) (ykc_138 (e := (2, .iload_n kF2, 0)) rfl) rfl rfl ?_
                  refine w_ret (v := (some (.int (zn i)))) (ykc_138 (e := (7, .ireturn, 0)) rfl) (zr_v rfl) ?_
                  have FN := (show zFr [4] [(3, 1)] ph1627 ph1645 from (zFr_trans (zFr_trans (zFr_mono fn1 (by first | exact zqa rfl | simp) (by first | exact zqf rfl | simp)) (zFr_mono fn2 (by first | exact zqa rfl | simp) (by first | exact zqf rfl | simp))) (zFr_mono fn3 (by first | exact zqa rfl | simp) (by first | exact zqf rfl | simp))))
                  rw [hQ]
                  exact ⟨(FN.1 1 1 (by first | exact zqm rfl | decide) (by first | exact zqp rfl | decide)).trans hgy, zCe_n FN hEy, (FN.1 10 1 (by first | exact zqm rfl | decide) (by first | exact zqp rfl | decide)).trans hry, zCc_F FN (by first | exact ⟨zqm rfl, zqm rfl, zqm rfl⟩ | simp) (by first | exact zqp rfl | simp) (by first | exact (fun _ => ⟨zqr rfl, zqr rfl⟩) | simp) hcy, ok, a, k, _, ho, rfl, Or.inr ⟨hok, hl60, i, v2, has, ti, Or.inl ⟨by omega, zKC_n FN hKy⟩⟩⟩
              · refine w_load (pc' := 70) (v := .ref 0) (m := 1) (ykc_138 (e := (2, .aload_n kF0, 0)) rfl) rfl rfl ?_
                refine w_gf (pc' := 73) (v := .ref 43) (ykc_138 (e := (5, .getfield 55, 0)) rfl) rfl ((fa.1 0 7 (by simp <;> omega) (by simp <;> omega)).trans ((hf.1 0 7 (by first | exact zqm rfl | decide) (by first | exact zqp rfl | decide)).trans ((fb.1 0 7 (by first | exact zqm rfl | decide) (by first | exact zqp rfl | decide)).trans ((f2.1 0 7 (by first | exact zqm rfl | decide) (by first | exact zqp rfl | decide)).trans ((f1.1 0 7 (by first | exact zqm rfl | decide) (by first | exact zqp rfl | decide)).trans (zsg hS zs_0_7)))))) rfl ?_
                refine w_load (pc' := 74) (v := .ref 0) (m := 1) (ykc_138 (e := (2, .aload_n kF0, 0)) rfl) rfl rfl ?_
                refine w_gf (pc' := 77) (v := .ref 31) (ykc_138 (e := (5, .getfield 46, 0)) rfl) rfl ((fa.1 0 5 (by simp <;> omega) (by simp <;> omega)).trans ((hf.1 0 5 (by first | exact zqm rfl | decide) (by first | exact zqp rfl | decide)).trans ((fb.1 0 5 (by first | exact zqm rfl | decide) (by first | exact zqp rfl | decide)).trans ((f2.1 0 5 (by first | exact zqm rfl | decide) (by first | exact zqp rfl | decide)).trans ((f1.1 0 5 (by first | exact zqm rfl | decide) (by first | exact zqp rfl | decide)).trans (zsg hS zs_0_5)))))) rfl ?_
                refine w_cv (as := [.ref 43, .ref 31]) (r := []) (ykc_138 (e := (6, .invokevirtual 278, 0)) rfl) rfl rfl rfl rfl (zc_push (T := 31) hSx (Or.inr rfl) dbx hKx.2.2.1.1 hKx.2.2.1.2.2.1 hnx hKx.2.2.1.2.2.2.1) (fun v1646 ph1647 hv => ?_)
                rcases hv with ⟨rfl, ⟨q1, q2, pf, pu1, pu2⟩, pd⟩
                · have fq : zFr [45 + 6 * nx + 1, 45 + 6 * nx + 2, 45 + 6 * nx + 3, 45 + 6 * nx + 4, 45 + 6 * nx + 5] [(45 + 6 * nx, 0), (45 + 6 * nx, 1), (45 + 6 * nx, 2), (43, 1), (43, 2)] ph1627 ph1647 := zFr_trans (zFr_mono pf (by first | exact zqa rfl | simp) (by first | exact zqf rfl | simp)) (zFr_trans (zFr_st pu1 (Or.inr (by first | exact zqj rfl | simp))) (zFr_st pu2 (Or.inr (by first | exact zqj rfl | simp))))
                  have hKy := zKC_pu hKx pf pu1 pu2 pd
                  have hSy := zSh_st pu2 (by decide +kernel) (zSh_st pu1 (by decide +kernel) (zCo_S (zSadr_past hnx) pf hSx))
                  have hgy := (fq.1 1 1 (by simp <;> omega) (by simp <;> omega)).trans hgx
                  have hEy := zCe_q hnx fq hEx
                  have hry := (fq.1 10 1 (by simp <;> omega) (by simp <;> omega)).trans hrx
                  have hcy := zCc_F fq (by simp <;> omega) (by simp <;> omega) (by intro i; simp <;> omega) hc3
                  show zW n D 138 Q 80 [some (.ref 0), some (.int (Int32.ofInt (-1))), some (.int (zn i))] [] ph1647
                  refine w_load (pc' := 81) (v := .ref 0) (m := 1) (ykc_138 (e := (2, .aload_n kF0, 0)) rfl) rfl rfl ?_
                  refine w_gf (pc' := 84) (v := .ref 3) (ykc_138 (e := (5, .getfield 19, 0)) rfl) rfl ((fq.1 0 1 (by simp <;> omega) (by simp <;> omega)).trans ((fa.1 0 1 (by simp <;> omega) (by simp <;> omega)).trans ((hf.1 0 1 (by first | exact zqm rfl | decide) (by first | exact zqp rfl | decide)).trans ((fb.1 0 1 (by first | exact zqm rfl | decide) (by first | exact zqp rfl | decide)).trans ((f2.1 0 1 (by first | exact zqm rfl | decide) (by first | exact zqp rfl | decide)).trans ((f1.1 0 1 (by first | exact zqm rfl | decide) (by first | exact zqp rfl | decide)).trans (zsg hS zs_0_1))))))) rfl ?_
                  refine w_cv (as := [.ref 3]) (r := []) (ykc_138 (e := (6, .invokevirtual 245, 0)) rfl) rfl rfl rfl rfl (zc_anew) (fun v1648 ph1649 hv => ?_)
                  obtain ⟨rfl, fn1, gn1⟩ := hv
                  show zW n D 138 Q 87 [some (.ref 0), some (.int (Int32.ofInt (-1))), some (.int (zn i))] [.ref 3] ph1649
                  refine w_load (pc' := 88) (v := .int (zn i)) (m := 1) (ykc_138 (e := (2, .iload_n kF2, 0)) rfl) rfl rfl ?_
                  refine w_load (pc' := 89) (v := .ref 0) (m := 1) (ykc_138 (e := (2, .aload_n kF0, 0)) rfl) rfl rfl ?_
                  refine w_gf (pc' := 92) (v := .ref 157) (ykc_138 (e := (5, .getfield 69, 0)) rfl) rfl ((fn1.1 0 9 (by first | exact zqm rfl | decide) (by first | exact zqp rfl | decide)).trans ((fq.1 0 9 (by simp <;> omega) (by simp <;> omega)).trans ((fa.1 0 9 (by simp <;> omega) (by simp <;> omega)).trans ((hf.1 0 9 (by first | exact zqm rfl | decide) (by first | exact zqp rfl | decide)).trans ((fb.1 0 9 (by first | exact zqm rfl | decide) (by first | exact zqp rfl | decide)).trans ((f2.1 0 9 (by first | exact zqm rfl | decide) (by first | exact zqp rfl | decide)).trans ((f1.1 0 9 (by first | exact zqm rfl | decide) (by first | exact zqp rfl | decide)).trans (zsg hS zs_0_9)))))))) rfl ?_
                  refine w_cv (as := [.ref 157]) (r := [.int (zn i), .ref 3]) (ykc_138 (e := (6, .invokevirtual 272, 0)) rfl) rfl rfl rfl rfl (zc_plActs ((fn1.1 157 2 (by simp <;> omega) (by simp <;> omega)).trans ((fq.1 157 2 (by simp <;> omega) (by simp <;> omega)).trans hkx))) (fun v1650 ph1651 hv => ?_)
                  obtain ⟨rfl, rfl⟩ := hv
                  show zW n D 138 Q 95 [some (.ref 0), some (.int (Int32.ofInt (-1))), some (.int (zn i))] [.int (zn k), .int (zn i), .ref 3] ph1649
                  refine w_ige (ykc_138 (e := (4, .if_icmp .ge 7, 102)) rfl) rfl (fun b1652 => ?_) (fun b1652 => ?_)
                  · refine w_alu (pc' := 103) (st' := [.long (Int64.ofNat kG0), .ref 3]) (ykc_138 (e := (0, .lconst kG0, 0)) rfl) rfl rfl ?_
                    refine w_cv (as := [.ref 3, .long (Int64.ofNat kG0)]) (r := []) (ykc_138 (e := (6, .invokevirtual 252, 0)) rfl) rfl rfl rfl rfl (zc_add (zN_S (show zFr [4] [(3, 1)] ph1647 ph1649 from (zFr_mono fn1 (by first | exact zqa rfl | simp) (by first | exact zqf rfl | simp))) hSy) (k := 0) gn1 (by decide)) (fun v1653 ph1654 hv => ?_)
                    obtain ⟨rfl, fn2, gn2⟩ := hv
                    show zW n D 138 Q 106 [some (.ref 0), some (.int (Int32.ofInt (-1))), some (.int (zn i))] [.ref 3] ph1654
                    refine w_load (pc' := 107) (v := .ref 0) (m := 1) (ykc_138 (e := (2, .aload_n kF0, 0)) rfl) rfl rfl ?_
                    refine w_gf (pc' := 110) (v := .ref 25) (ykc_138 (e := (5, .getfield 42, 0)) rfl) rfl ((fn2.1 0 4 (by first | exact zqm rfl | decide) (by first | exact zqp rfl | decide)).trans ((fn1.1 0 4 (by first | exact zqm rfl | decide) (by first | exact zqp rfl | decide)).trans ((fq.1 0 4 (by simp <;> omega) (by simp <;> omega)).trans ((fa.1 0 4 (by simp <;> omega) (by simp <;> omega)).trans ((hf.1 0 4 (by first | exact zqm rfl | decide) (by first | exact zqp rfl | decide)).trans ((fb.1 0 4 (by first | exact zqm rfl | decide) (by first | exact zqp rfl | decide)).trans ((f2.1 0 4 (by first | exact zqm rfl | decide) (by first | exact zqp rfl | decide)).trans ((f1.1 0 4 (by first | exact zqm rfl | decide) (by first | exact zqp rfl | decide)).trans (zsg hS zs_0_4))))))))) rfl ?_
                    refine w_gf (pc' := 113) (v := .int (zn (v2 40))) (ykc_138 (e := (5, .getfield 281, 0)) rfl) rfl ((fn2.1 25 2 (by first | exact zqm rfl | decide) (by first | exact zqp rfl | decide)).trans ((fn1.1 25 2 (by first | exact zqm rfl | decide) (by first | exact zqp rfl | decide)).trans hKy.2.1.2.2.2.2.1)) rfl ?_
                    refine w_alu (pc' := 114) (st' := [.long ((zn (v2 40)).toInt64), .ref 3]) (ykc_138 (e := (0, .i2l, 0)) rfl) rfl rfl ?_
                    refine w_cv (as := [.ref 3, .long ((zn (v2 40)).toInt64)]) (r := []) (ykc_138 (e := (6, .invokevirtual 252, 0)) rfl) rfl rfl rfl rfl (zc_add (zN_S (show zFr [4] [(3, 1)] ph1647 ph1654 from (zFr_trans (zFr_mono fn1 (by first | exact zqa rfl | simp) (by first | exact zqf rfl | simp)) (zFr_mono fn2 (by first | exact zqa rfl | simp) (by first | exact zqf rfl | simp)))) hSy) (k := 1) gn2 (by decide)) (fun v1655 ph1656 hv => ?_)
                    obtain ⟨rfl, fn3, gn3⟩ := hv
                    show zW n D 138 Q 117 [some (.ref 0), some (.int (Int32.ofInt (-1))), some (.int (zn i))] [.ref 3] ph1656
                    refine w_alu (pc' := 118) (st' := []) (ykc_138 (e := (0, .pop, 0)) rfl) rfl rfl ?_
                    refine w_load (pc' := 119) (v := .int (zn i)) (m := 1) (ykc_138 (e := (2, .iload_n kF2, 0)) rfl) rfl rfl ?_
                    refine w_ret (v := (some (.int (zn i)))) (ykc_138 (e := (7, .ireturn, 0)) rfl) (zr_v rfl) ?_
                    have FN := (show zFr [4] [(3, 1)] ph1647 ph1656 from (zFr_trans (zFr_trans (zFr_mono fn1 (by first | exact zqa rfl | simp) (by first | exact zqf rfl | simp)) (zFr_mono fn2 (by first | exact zqa rfl | simp) (by first | exact zqf rfl | simp))) (zFr_mono fn3 (by first | exact zqa rfl | simp) (by first | exact zqf rfl | simp))))
                    rw [hQ]
                    exact ⟨(FN.1 1 1 (by first | exact zqm rfl | decide) (by first | exact zqp rfl | decide)).trans hgy, zCe_n FN hEy, (FN.1 10 1 (by first | exact zqm rfl | decide) (by first | exact zqp rfl | decide)).trans hry, zCc_F FN (by first | exact ⟨zqm rfl, zqm rfl, zqm rfl⟩ | simp) (by first | exact zqp rfl | simp) (by first | exact (fun _ => ⟨zqr rfl, zqr rfl⟩) | simp) hcy, ok, a, k, _, ho, rfl, Or.inr ⟨hok, hl60, i, v2, has, ti, Or.inr ⟨by omega, _, zKC_n FN hKy⟩⟩⟩
                  · refine w_alu (pc' := 99) (st' := [.long (Int64.ofNat kG1), .ref 3]) (ykc_138 (e := (0, .lconst kG1, 0)) rfl) rfl rfl ?_
                    refine w_br (pc' := 103) (st' := [.long (Int64.ofNat kG1), .ref 3]) (ykc_138 (e := (4, .goto 4, 103)) rfl) rfl ?_
                    refine w_cv (as := [.ref 3, .long (Int64.ofNat kG1)]) (r := []) (ykc_138 (e := (6, .invokevirtual 252, 0)) rfl) rfl rfl rfl rfl (zc_add (zN_S (show zFr [4] [(3, 1)] ph1647 ph1649 from (zFr_mono fn1 (by first | exact zqa rfl | simp) (by first | exact zqf rfl | simp))) hSy) (k := 0) gn1 (by decide)) (fun v1657 ph1658 hv => ?_)
                    obtain ⟨rfl, fn2, gn2⟩ := hv
                    show zW n D 138 Q 106 [some (.ref 0), some (.int (Int32.ofInt (-1))), some (.int (zn i))] [.ref 3] ph1658
                    refine w_load (pc' := 107) (v := .ref 0) (m := 1) (ykc_138 (e := (2, .aload_n kF0, 0)) rfl) rfl rfl ?_
                    refine w_gf (pc' := 110) (v := .ref 25) (ykc_138 (e := (5, .getfield 42, 0)) rfl) rfl ((fn2.1 0 4 (by first | exact zqm rfl | decide) (by first | exact zqp rfl | decide)).trans ((fn1.1 0 4 (by first | exact zqm rfl | decide) (by first | exact zqp rfl | decide)).trans ((fq.1 0 4 (by simp <;> omega) (by simp <;> omega)).trans ((fa.1 0 4 (by simp <;> omega) (by simp <;> omega)).trans ((hf.1 0 4 (by first | exact zqm rfl | decide) (by first | exact zqp rfl | decide)).trans ((fb.1 0 4 (by first | exact zqm rfl | decide) (by first | exact zqp rfl | decide)).trans ((f2.1 0 4 (by first | exact zqm rfl | decide) (by first | exact zqp rfl | decide)).trans ((f1.1 0 4 (by first | exact zqm rfl | decide) (by first | exact zqp rfl | decide)).trans (zsg hS zs_0_4))))))))) rfl ?_
                    refine w_gf (pc' := 113) (v := .int (zn (v2 40))) (ykc_138 (e := (5, .getfield 281, 0)) rfl) rfl ((fn2.1 25 2 (by first | exact zqm rfl | decide) (by first | exact zqp rfl | decide)).trans ((fn1.1 25 2 (by first | exact zqm rfl | decide) (by first | exact zqp rfl | decide)).trans hKy.2.1.2.2.2.2.1)) rfl ?_
                    refine w_alu (pc' := 114) (st' := [.long ((zn (v2 40)).toInt64), .ref 3]) (ykc_138 (e := (0, .i2l, 0)) rfl) rfl rfl ?_
                    refine w_cv (as := [.ref 3, .long ((zn (v2 40)).toInt64)]) (r := []) (ykc_138 (e := (6, .invokevirtual 252, 0)) rfl) rfl rfl rfl rfl (zc_add (zN_S (show zFr [4] [(3, 1)] ph1647 ph1658 from (zFr_trans (zFr_mono fn1 (by first | exact zqa rfl | simp) (by first | exact zqf rfl | simp)) (zFr_mono fn2 (by first | exact zqa rfl | simp) (by first | exact zqf rfl | simp)))) hSy) (k := 1) gn2 (by decide)) (fun v1659 ph1660 hv => ?_)
                    obtain ⟨rfl, fn3, gn3⟩ := hv
                    show zW n D 138 Q 117 [some (.ref 0), some (.int (Int32.ofInt (-1))), some (.int (zn i))] [.ref 3] ph1660
                    refine w_alu (pc' := 118) (st' := []) (ykc_138 (e := (0, .pop, 0)) rfl) rfl rfl ?_
                    refine w_load (pc' := 119) (v := .int (zn i)) (m := 1) (ykc_138 (e := (2, .iload_n kF2, 0)) rfl) rfl rfl ?_
                    refine w_ret (v := (some (.int (zn i)))) (ykc_138 (e := (7, .ireturn, 0)) rfl) (zr_v rfl) ?_
                    have FN := (show zFr [4] [(3, 1)] ph1647 ph1660 from (zFr_trans (zFr_trans (zFr_mono fn1 (by first | exact zqa rfl | simp) (by first | exact zqf rfl | simp)) (zFr_mono fn2 (by first | exact zqa rfl | simp) (by first | exact zqf rfl | simp))) (zFr_mono fn3 (by first | exact zqa rfl | simp) (by first | exact zqf rfl | simp))))
                    rw [hQ]
                    exact ⟨(FN.1 1 1 (by first | exact zqm rfl | decide) (by first | exact zqp rfl | decide)).trans hgy, zCe_n FN hEy, (FN.1 10 1 (by first | exact zqm rfl | decide) (by first | exact zqp rfl | decide)).trans hry, zCc_F FN (by first | exact ⟨zqm rfl, zqm rfl, zqm rfl⟩ | simp) (by first | exact zqp rfl | simp) (by first | exact (fun _ => ⟨zqr rfl, zqr rfl⟩) | simp) hcy, ok, a, k, _, ho, rfl, Or.inr ⟨hok, hl60, i, v2, has, ti, Or.inr ⟨by omega, _, zKC_n FN hKy⟩⟩⟩
                
              
            
      exact hl1 n 0 v _ (Nat.zero_le _) zFr_refl htb hcb rfl
      
    
  · have ha60 := zDo_a ho
    have ta := znt (k := a) (by omega)
    show zW n D 138 Q 11 [some (.ref 0), none, none] [.int (zn a)] ph1588
    refine w_store (pc' := 12) (L' := [some (.ref 0), some (.int (zn a)), none]) (st' := []) (m := 1) (ykc_138 (e := (3, .istore_n kF1, 0)) rfl) rfl rfl ?_
    refine w_load (pc' := 13) (v := .ref 0) (m := 1) (ykc_138 (e := (2, .aload_n kF0, 0)) rfl) rfl rfl ?_
    refine w_gf (pc' := 16) (v := .ref 1) (ykc_138 (e := (5, .getfield 10, 0)) rfl) rfl ((f1.1 0 0 (by first | exact zqm rfl | decide) (by first | exact zqp rfl | decide)).trans (zsg hS zs_0_0)) rfl ?_
    refine w_cv (as := [.ref 1]) (r := []) (ykc_138 (e := (6, .invokevirtual 119, 0)) rfl) rfl rfl rfl rfl (zc_tclear) (fun v1661 ph1662 hv => ?_)
    obtain ⟨rfl, f2, g1⟩ := hv
    have fz : zFr [158, 159] [(157, 2), (1, 1)] ph _ := zFr_trans (zFr_mono f1 (by first | exact zqa rfl | simp) (by first | exact zqf rfl | simp)) (zFr_mono f2 (by first | exact zqa rfl | simp) (by first | exact zqf rfl | simp))
    show zW n D 138 Q 19 [some (.ref 0), some (.int (zn a)), none] [] ph1662
    refine w_load (pc' := 20) (v := .int (zn a)) (m := 1) (ykc_138 (e := (2, .iload_n kF1, 0)) rfl) rfl rfl ?_
    refine w_zlt (ykc_138 (e := (4, .ifCond .lt 7, 27)) rfl) rfl (fun q => by exfalso; omega) (fun b1663 => ?_)
    refine w_alu (pc' := 24) (st' := [.int (Int32.ofInt (-1))]) (ykc_138 (e := (0, .iconst (-1), 0)) rfl) rfl rfl ?_
    refine w_load (pc' := 25) (v := .int (zn a)) (m := 1) (ykc_138 (e := (2, .iload_n kF1, 0)) rfl) rfl rfl ?_
    obtain ⟨z1664, e_z1664, h_z1664⟩ : ∃ zq : Int32, (Int32.ofInt (-1)) - (zn a) = zq ∧ zq.toInt = (-1 : Int) - ((a : Nat) : Int) := ⟨_, rfl, zm1sub (by omega) (by omega) (by omega)⟩
    refine w_alu (pc' := 26) (st' := [.int z1664]) (ykc_138 (e := (0, .isub, 0)) rfl) (by rw [← e_z1664]; rfl) rfl ?_
    refine w_ret (v := (some (.int z1664))) (ykc_138 (e := (7, .ireturn, 0)) rfl) (zr_v rfl) ?_
    rw [hQ]
    exact ⟨g1, zCe_pl fz hE, (fz.1 10 1 (by first | exact zqm rfl | decide) (by first | exact zqp rfl | decide)).trans hr, zCc_F fz (by first | exact ⟨zqm rfl, zqm rfl, zqm rfl⟩ | simp) (by first | exact zqp rfl | simp) (by first | exact (fun _ => ⟨zqr rfl, zqr rfl⟩) | simp) hc, ok, a, k, _, ho, rfl, Or.inl ⟨hno, by omega, zKC_pl fz hK⟩⟩
  
