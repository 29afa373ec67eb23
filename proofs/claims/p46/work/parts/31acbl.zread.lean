/-! the class reads a RULE: take, read, by W; printed by wip/z/z1h_read.py -/
def zFs (ph : pm_H) (F : Nat) (s : zAs) : Prop := zFp ph F ∧ zFc ph F s.1 ∧ zFw ph F s.2.1 ∧ zFb ph F s.2.2.1 ∧ zFd ph F s.2.2.2.1 s.2.2.2.2.1 s.2.2.2.2.2
def zFf (F : Nat) (p q : pm_H) : Prop := zFr [F + 1, F + 2, F + 3] [(F, 1), (F, 3), (F, 5), (F, 6), (F, 7)] p q
theorem zFs_mk {ph : pm_H} {F : Nat} {C W : List Nat} {cm : Nat → Bool} {dp dg : Nat} {wt : Bool} (h : zFp ph F ∧ zFc ph F C ∧ zFw ph F W ∧ zFb ph F cm ∧ zFd ph F dp dg wt) : zFs ph F (C, W, cm, dp, dg, wt) := h
theorem zTk1 {ph q : pm_H} {F c : Nat} {s0 s : zAs} (f : zFf F ph q) (h : zstep c s0 = some s) (hF : zFs q F s) : zFf F ph q ∧ (∃ cm9, zFb q F cm9) ∧ ((∃ s', zstep c s0 = some s' ∧ (some (Value.int (zI true)) : Option Value) = some (.int (zI true)) ∧ zFs q F s') ∨ (zstep c s0 = none ∧ (some (Value.int (zI true)) : Option Value) = some (.int (zI false)))) := ⟨f, ⟨_, hF.2.2.2.1⟩, Or.inl ⟨s, h, rfl, hF⟩⟩
/-- a number that is being told -/
def zIv (s : zAs) : Prop := 1 ≤ s.2.2.2.2.1 → ∃ x C, s.1 = x :: C ∧ x < 10 ^ s.2.2.2.2.1
def zLn (s : zAs) : Nat := s.1.length + s.2.1.length
theorem zi2c : (List.range 256).all (fun c => decide (((zn c).toUInt32 % 65536).toInt32 = zn c)) = true := by decide +kernel
theorem zi2cc {c : Nat} (h : c < 256) : ((zn c).toUInt32 % 65536).toInt32 = zn c := of_decide_eq_true (List.all_eq_true.mp zi2c c (List.mem_range.mpr h))
theorem zdi_t {c : Nat} (h : 48 ≤ c ∧ c ≤ 57) : zdi c = true := decide_eq_true h
theorem zdi_f {c : Nat} (h : ¬ (48 ≤ c ∧ c ≤ 57)) : zdi c = false := decide_eq_false h
theorem zstep_iv {c : Nat} {s s' : zAs} (hi : zIv s) (h : zstep c s = some s') : zIv s' ∧ zLn s' ≤ zLn s + 1 := by
  obtain ⟨C, W, cm, dp, dg, wt⟩ := s
  unfold zstep at h
  simp only at h
  have z0 : ∀ (C W : List Nat) (cm : Nat → Bool) (dp : Nat) (wt : Bool), zIv (C, W, cm, dp, 0, wt) := fun C W cm dp wt h => absurd h (by show ¬ 1 ≤ 0; decide)
  by_cases e1 : zdi c = true
  · rw [if_pos e1] at h
    have hc : 48 ≤ c ∧ c ≤ 57 := of_decide_eq_true e1
    by_cases e2 : wt = true
    · rw [if_pos e2] at h
      cases h
      exact ⟨fun _ => ⟨_, _, rfl, by show c - 48 < 10 ^ 1; omega⟩, by show C.length + 1 + W.length ≤ C.length + W.length + 1; omega⟩
    · rw [if_neg e2] at h
      cases C with
      | nil => cases h
      | cons x C =>
        by_cases e3 : 1 ≤ dg ∧ dg ≤ 2
        · simp only [if_pos e3] at h
          cases h
          obtain ⟨x2, C2, g1, g2⟩ := hi e3.1
          have g1 : x :: C = x2 :: C2 := g1
          cases g1
          have g2 : x < 10 ^ dg := g2
          refine ⟨fun _ => ⟨_, _, rfl, ?_⟩, by show C.length + 1 + W.length ≤ C.length + 1 + W.length + 1; omega⟩
          show 10 * x + (c - 48) < 10 ^ (dg + 1)
          rw [Nat.pow_succ]
          omega
        · simp only [if_neg e3] at h
          cases h
  · rw [if_neg e1] at h
    by_cases e2 : wt = true
    · rw [if_pos e2] at h
      by_cases e3 : c = 45
      · rw [if_pos e3] at h
        cases h
        exact ⟨z0 _ _ _ _ _, by show C.length + (W.length + 1) ≤ C.length + W.length + 1; omega⟩
      · rw [if_neg e3] at h
        by_cases e4 : c = 40
        · rw [if_pos e4] at h
          by_cases e5 : dp < 4
          · rw [if_pos e5] at h
            cases h
            exact ⟨z0 _ _ _ _ _, by show C.length + (W.length + 1) ≤ C.length + W.length + 1; omega⟩
          · rw [if_neg e5] at h
            cases h
        · rw [if_neg e4] at h
          by_cases e5 : zlt c < 8
          · rw [if_pos e5] at h
            cases h
            exact ⟨z0 _ _ _ _ _, by show C.length + 1 + W.length ≤ C.length + W.length + 1; omega⟩
          · rw [if_neg e5] at h
            cases h
    · rw [if_neg e2] at h
      have hl := fun b => @zrl_len b W C
      by_cases e3 : c = 41
      · rw [if_pos e3] at h
        by_cases e4 : dp = 0
        · rw [if_pos e4] at h
          cases h
        · rw [if_neg e4] at h
          cases h
          refine ⟨z0 _ _ _ _ _, ?_⟩
          show (zrl 1 W C).2.length + (zrl 1 W C).1.tail.length ≤ C.length + W.length + 1
          have := hl 1
          rw [List.length_tail]
          omega
      · rw [if_neg e3] at h
        by_cases e4 : zop c = 0
        · rw [if_pos e4] at h
          cases h
        · rw [if_neg e4] at h
          by_cases e5 : zbd (zop c) = 1 ∧ cm dp = true
          · rw [if_pos e5] at h
            cases h
          · rw [if_neg e5] at h
            cases h
            refine ⟨z0 _ _ _ _ _, ?_⟩
            show (zrl (zbd (zop c)) W C).2.length + ((zrl (zbd (zop c)) W C).1.length + 1) ≤ C.length + W.length + 1
            have := hl (zbd (zop c))
            omega
theorem zc_takeD {ph : pm_H} {F : Nat} {C W : List Nat} {cm : Nat → Bool} {dp dg : Nat} {wt : Bool} {d : Nat} (hd9 : d ≤ 9) (hiv : zIv (C, W, cm, dp, dg, wt)) (hF : zFs ph F (C, W, cm, dp, dg, wt)) (h40 : C.length + W.length < 40) : zM 5 [.ref F, .int (zn d)] ph (fun v0 q => zFf F ph q ∧ (∃ cm9, zFb q F cm9) ∧ ((∃ s, zstep (48 + d) (C, W, cm, dp, dg, wt) = some s ∧ v0 = some (.int (zI true)) ∧ zFs q F s) ∨ (zstep (48 + d) (C, W, cm, dp, dg, wt) = none ∧ v0 = some (.int (zI false))))) := by
  obtain ⟨Q, hQ⟩ : ∃ Q : Option Value → pm_H → Prop, Q = (fun v0 q => zFf F ph q ∧ (∃ cm9, zFb q F cm9) ∧ ((∃ s, zstep (48 + d) (C, W, cm, dp, dg, wt) = some s ∧ v0 = some (.int (zI true)) ∧ zFs q F s) ∨ (zstep (48 + d) (C, W, cm, dp, dg, wt) = none ∧ v0 = some (.int (zI false))))) := ⟨_, rfl⟩
  rw [← hQ]
  refine zM_mk fun n D => ?_
  show zW n D 5 Q 0 [some (.ref F), some (.int (zn d))] [] ph
  have c_0 : ((Int8.ofInt 10).toInt32).toInt = 10 := by decide
  have c_1 : (Int32.ofInt 0).toInt = 0 := by decide
  have c_2 : (Int32.ofInt 1).toInt = 1 := by decide
  have c_3 : (Int32.ofInt 2).toInt = 2 := by decide
  obtain ⟨hp, hC, hW, hb, hd⟩ := hF
  have hp : zFp ph F := hp
  have hC : zFc ph F C := hC
  have hW : zFw ph F W := hW
  have hb : zFb ph F cm := hb
  have hd : zFd ph F dp dg wt := hd
  have tdp := znt (k := dp) (by have := hd.2.1; omega)
  have tdg := znt (k := dg) (by have := hd.2.2.2.1; omega)
  have hdp4 := hd.2.1
  have hdg3 := hd.2.2.2.1
  have tCl := znt (k := C.length) (by omega)
  have tWl := znt (k := W.length) (by omega)
  have td := znt (k := d) (by omega)
  have hdi : zdi (48 + d) = true := zdi_t (by omega)
  refine w_load (pc' := 1) (v := .ref F) (m := 1) (ykc_5 (e := (2, .aload_n kF0, 0)) rfl) rfl rfl ?_
  refine w_gf (pc' := 4) (v := .int (zI wt)) (ykc_5 (e := (5, .getfield 43, 0)) rfl) rfl hd.2.2.2.2 rfl ?_
  refine w_beq (ykc_5 (e := (4, .ifCond .eq 20, 24)) rfl) rfl (fun b1566 => ?_) (fun b1566 => ?_)
  · refine w_load (pc' := 25) (v := .ref F) (m := 1) (ykc_5 (e := (2, .aload_n kF0, 0)) rfl) rfl rfl ?_
    refine w_gf (pc' := 28) (v := .int (zn dg)) (ykc_5 (e := (5, .getfield 60, 0)) rfl) rfl hd.2.2.1 rfl ?_
    refine w_alu (pc' := 29) (st' := [.int (Int32.ofInt 1), .int (zn dg)]) (ykc_5 (e := (0, .iconst 1, 0)) rfl) rfl rfl ?_
    refine w_ilt (ykc_5 (e := (4, .if_icmp .lt 19, 48)) rfl) rfl (fun b1567 => ?_) (fun b1567 => ?_)
    · refine w_alu (pc' := 49) (st' := [.int (Int32.ofInt 0)]) (ykc_5 (e := (0, .iconst 0, 0)) rfl) rfl rfl ?_
      refine w_ret (v := (some (.int (Int32.ofInt 0)))) (ykc_5 (e := (7, .ireturn, 0)) rfl) zr_z ?_
      rw [hQ, zi0]
      have hwt : wt = false := b1566
      subst hwt
      exact ⟨zFr_refl, ⟨cm, hb⟩, Or.inr ⟨zstep_d0 hdi (by omega), rfl⟩⟩
    · obtain ⟨x, C1, eC, hx⟩ := hiv (by show 1 ≤ dg; omega)
      have eC : C = x :: C1 := eC
      subst eC
      have hlx : (x :: C1).length = C1.length + 1 := rfl
      have hx : x < 10 ^ dg := hx
      have tC1 := znt (k := C1.length + 1) (by show (x :: C1).length < _; omega)
      have tC0 := znt (k := C1.length) (by have : (x :: C1).length = C1.length + 1 := rfl; omega)
      refine w_load (pc' := 33) (v := .ref F) (m := 1) (ykc_5 (e := (2, .aload_n kF0, 0)) rfl) rfl rfl ?_
      refine w_gf (pc' := 36) (v := .int (zn dg)) (ykc_5 (e := (5, .getfield 60, 0)) rfl) rfl hd.2.2.1 rfl ?_
      refine w_alu (pc' := 37) (st' := [.int (Int32.ofInt 2), .int (zn dg)]) (ykc_5 (e := (0, .iconst 2, 0)) rfl) rfl rfl ?_
      refine w_igt (ykc_5 (e := (4, .if_icmp .gt 11, 48)) rfl) rfl (fun b1568 => ?_) (fun b1568 => ?_)
      · refine w_alu (pc' := 49) (st' := [.int (Int32.ofInt 0)]) (ykc_5 (e := (0, .iconst 0, 0)) rfl) rfl rfl ?_
        refine w_ret (v := (some (.int (Int32.ofInt 0)))) (ykc_5 (e := (7, .ireturn, 0)) rfl) zr_z ?_
        rw [hQ, zi0]
        have hwt : wt = false := b1566
        subst hwt
        exact ⟨zFr_refl, ⟨cm, hb⟩, Or.inr ⟨zstep_d0 hdi (by omega), rfl⟩⟩
      · refine w_load (pc' := 41) (v := .ref F) (m := 1) (ykc_5 (e := (2, .aload_n kF0, 0)) rfl) rfl rfl ?_
        refine w_gf (pc' := 44) (v := .int (zn (C1.length + 1))) (ykc_5 (e := (5, .getfield 55, 0)) rfl) rfl hC.1 rfl ?_
        refine w_alu (pc' := 45) (st' := [.int (Int32.ofInt 1), .int (zn (C1.length + 1))]) (ykc_5 (e := (0, .iconst 1, 0)) rfl) rfl rfl ?_
        refine w_ige (ykc_5 (e := (4, .if_icmp .ge 5, 50)) rfl) rfl (fun b1569 => ?_) (fun q => by exfalso; omega)
        have hx2 : x < 100 := by
          rcases (show dg = 1 ∨ dg = 2 by omega) with e | e <;> subst e <;> omega
        have tx := znt (k := x) (by omega)
        have ex : zcc x = zn x := zcc_n (by omega)
        have hx0 := (hC.2 0 x rfl).1
        rw [show (x :: C1).length - 1 - 0 = C1.length by simp, ex] at hx0
        refine w_load (pc' := 51) (v := .ref F) (m := 1) (ykc_5 (e := (2, .aload_n kF0, 0)) rfl) rfl rfl ?_
        refine w_gf (pc' := 54) (v := .ref (F + 1)) (ykc_5 (e := (5, .getfield 9, 0)) rfl) rfl hp.1 rfl ?_
        refine w_load (pc' := 55) (v := .ref F) (m := 1) (ykc_5 (e := (2, .aload_n kF0, 0)) rfl) rfl rfl ?_
        refine w_gf (pc' := 58) (v := .int (zn (C1.length + 1))) (ykc_5 (e := (5, .getfield 55, 0)) rfl) rfl hC.1 rfl ?_
        refine w_alu (pc' := 59) (st' := [.int (Int32.ofInt 1), .int (zn (C1.length + 1)), .ref (F + 1)]) (ykc_5 (e := (0, .iconst 1, 0)) rfl) rfl rfl ?_
        have e1570 : (zn (C1.length + 1)) - (Int32.ofInt 1) = zn (C1.length) := zsubN (a := C1.length + 1) (b := 1) (znt (by omega)) c_2 (by omega)
        have te1570 := znt (k := C1.length) (by omega)
        refine w_alu (pc' := 60) (st' := [.int (zn (C1.length)), .ref (F + 1)]) (ykc_5 (e := (0, .isub, 0)) rfl) (by show some ([.int ((zn (C1.length + 1)) - (Int32.ofInt 1)), .ref (F + 1)] : List Value) = _; rw [e1570]) rfl ?_
        refine w_load (pc' := 61) (v := .ref F) (m := 1) (ykc_5 (e := (2, .aload_n kF0, 0)) rfl) rfl rfl ?_
        refine w_gf (pc' := 64) (v := .ref (F + 1)) (ykc_5 (e := (5, .getfield 9, 0)) rfl) rfl hp.1 rfl ?_
        refine w_load (pc' := 65) (v := .ref F) (m := 1) (ykc_5 (e := (2, .aload_n kF0, 0)) rfl) rfl rfl ?_
        refine w_gf (pc' := 68) (v := .int (zn (C1.length + 1))) (ykc_5 (e := (5, .getfield 55, 0)) rfl) rfl hC.1 rfl ?_
        refine w_alu (pc' := 69) (st' := [.int (Int32.ofInt 1), .int (zn (C1.length + 1)), .ref (F + 1), .int (zn (C1.length)), .ref (F + 1)]) (ykc_5 (e := (0, .iconst 1, 0)) rfl) rfl rfl ?_
        have e1571 : (zn (C1.length + 1)) - (Int32.ofInt 1) = zn (C1.length) := zsubN (a := C1.length + 1) (b := 1) (znt (by omega)) c_2 (by omega)
        have te1571 := znt (k := C1.length) (by omega)
        refine w_alu (pc' := 70) (st' := [.int (zn (C1.length)), .ref (F + 1), .int (zn (C1.length)), .ref (F + 1)]) (ykc_5 (e := (0, .isub, 0)) rfl) (by show some ([.int ((zn (C1.length + 1)) - (Int32.ofInt 1)), .ref (F + 1), .int (zn (C1.length)), .ref (F + 1)] : List Value) = _; rw [e1571]) rfl ?_
        refine w_ialk (pc' := 71) (k := C1.length) (ykc_5 (e := (5, .iaload, 0)) rfl) hx0 (by omega) rfl ?_
        refine w_push (pc' := 73) (v := .int ((Int8.ofInt 10).toInt32)) (m := 2) (ykc_5 (e := (1, .bipush 10, 0)) rfl) rfl rfl ?_
        have e1572 : (zn x) * ((Int8.ofInt 10).toInt32) = zn (x * 10) := zn_of (by rw [ti_mul (by rw [show (zn x).toInt = ((x : Nat) : Int) by omega, show ((Int8.ofInt 10).toInt32).toInt = (10 : Int) by omega]; omega) (by rw [show (zn x).toInt = ((x : Nat) : Int) by omega, show ((Int8.ofInt 10).toInt32).toInt = (10 : Int) by omega]; omega), show (zn x).toInt = ((x : Nat) : Int) by omega, show ((Int8.ofInt 10).toInt32).toInt = (10 : Int) by omega] <;> omega)
        have te1572 := znt (k := x * 10) (by omega)
        refine w_alu (pc' := 74) (st' := [.int (zn (x * 10)), .int (zn (C1.length)), .ref (F + 1)]) (ykc_5 (e := (0, .imul, 0)) rfl) (by rw [← e1572]; rfl) rfl ?_
        refine w_load (pc' := 75) (v := .int (zn d)) (m := 1) (ykc_5 (e := (2, .iload_n kF1, 0)) rfl) rfl rfl ?_
        have e1573 : (zn (x * 10)) + (zn d) = zn (x * 10 + d) := (zaddN (a := x * 10) (b := d) (znt (by omega)) (znt (by omega)) (by omega)) 
        have te1573 := znt (k := x * 10 + d) (by omega)
        refine w_alu (pc' := 76) (st' := [.int (zn (x * 10 + d)), .int (zn (C1.length)), .ref (F + 1)]) (ykc_5 (e := (0, .iadd, 0)) rfl) (by rw [← e1573]; rfl) rfl ?_
        refine w_ias (pc' := 77) (k := C1.length) (ykc_5 (e := (5, .iastore, 0)) rfl) (by omega) rfl (fun ph1575 u1574 => ?_)
        refine w_load (pc' := 78) (v := .ref F) (m := 1) (ykc_5 (e := (2, .aload_n kF0, 0)) rfl) rfl rfl ?_
        refine w_alu (pc' := 79) (st' := [.ref F, .ref F]) (ykc_5 (e := (0, .dup, 0)) rfl) rfl rfl ?_
        refine w_gf (pc' := 82) (v := .int (zn dg)) (ykc_5 (e := (5, .getfield 60, 0)) rfl) rfl ((u1574.2.1 F 6 (fun q => by have q2 := q.1; omega)).trans hd.2.2.1) rfl ?_
        refine w_alu (pc' := 83) (st' := [.int (Int32.ofInt 1), .int (zn dg), .ref F]) (ykc_5 (e := (0, .iconst 1, 0)) rfl) rfl rfl ?_
        have e1576 : (zn dg) + (Int32.ofInt 1) = zn (dg + 1) := (zaddN (a := dg) (b := 1) (znt (by omega)) c_2 (by omega)) 
        have te1576 := znt (k := dg + 1) (by omega)
        refine w_alu (pc' := 84) (st' := [.int (zn (dg + 1)), .ref F]) (ykc_5 (e := (0, .iadd, 0)) rfl) (by rw [← e1576]; rfl) rfl ?_
        refine w_pf (pc' := 87) (ykc_5 (e := (5, .putfield 60, 0)) rfl) rfl rfl (fun ph1578 u1577 => ?_)
        refine w_alu (pc' := 88) (st' := [.int (Int32.ofInt 1)]) (ykc_5 (e := (0, .iconst 1, 0)) rfl) rfl rfl ?_
        refine w_ret (v := (some (.int (Int32.ofInt 1)))) (ykc_5 (e := (7, .ireturn, 0)) rfl) zr_z ?_
        have hwt : wt = false := b1566
        subst hwt
        have hc2 : zFc ph1578 F ((10 * x + (48 + d - 48)) :: C1) := by
          refine ⟨((u1577.2.1 F 1 (fun q => absurd q.2 (by decide))).trans ((u1574.2.1 F 1 (fun q => by have q2 := q.1; omega)).trans hC.1)), fun i c hc => ?_⟩
          cases i with
          | zero =>
            cases hc
            refine ⟨?_, Or.inl (by omega)⟩
            rw [show ((10 * x + (48 + d - 48)) :: C1).length - 1 - 0 = C1.length by simp, zcc_n (by omega), show 10 * x + (48 + d - 48) = x * 10 + d by omega]
            exact (u1577.2.1 (F + 1) C1.length (fun q => by have q1 := q.1; omega)).trans u1574.1
          | succ i =>
            have h1 := hC.2 (i + 1) c hc
            have hi := (List.getElem?_eq_some_iff.mp (show C1[i]? = some c from hc)).1
            refine ⟨?_, h1.2⟩
            refine (u1577.2.1 (F + 1) _ (fun q => by have q1 := q.1; omega)).trans ((u1574.2.1 (F + 1) _ (fun q => ?_)).trans h1.1)
            have q2 : (x :: C1).length - 1 - (i + 1) = C1.length := q.2
            simp only [List.length_cons] at q2
            omega
        have f1 : zFr [F + 1] [(F, 6)] ph ph1578 := zFr_trans (zFr_st u1574 (Or.inl (by simp))) (zFr_st u1577 (Or.inr (by simp)))
        rw [hQ, zi1]
        exact zTk1 (show zFr [F + 1, F + 2, F + 3] [(F, 1), (F, 3), (F, 5), (F, 6), (F, 7)] ph ph1578 from (zFr_trans (zFr_st u1574 (Or.inl (by simp))) (zFr_st u1577 (Or.inr (by simp))))) (zstep_d2 hdi (by omega)) (zFs_mk ⟨zFp_F f1 (by simp) (by simp) hp, hc2, zFw_F f1 (by simp) (by simp) hW, zFb_F f1 (by simp) (by simp) hb, ⟨((u1577.2.1 F 5 (fun q => absurd q.2 (by decide))).trans ((u1574.2.1 F 5 (fun q => by have q2 := q.1; omega)).trans hd.1)), hd.2.1, u1577.1, by omega, ((u1577.2.1 F 7 (fun q => absurd q.2 (by decide))).trans ((u1574.2.1 F 7 (fun q => by have q2 := q.1; omega)).trans hd.2.2.2.2))⟩⟩)
  · refine w_load (pc' := 8) (v := .ref F) (m := 1) (ykc_5 (e := (2, .aload_n kF0, 0)) rfl) rfl rfl ?_
    refine w_load (pc' := 9) (v := .int (zn d)) (m := 1) (ykc_5 (e := (2, .iload_n kF1, 0)) rfl) rfl rfl ?_
    refine w_cv (as := [.ref F, .int (zn d)]) (r := []) (ykc_5 (e := (6, .invokevirtual 70, 0)) rfl) rfl rfl rfl rfl (zc_emit hp.1 hC.1 (by omega)) (fun v1579 ph1580 hv => ?_)
    obtain ⟨rfl, fe, g1_fe, g2_fe, g3_fe⟩ := hv
    show zW n D 5 Q 12 [some (.ref F), some (.int (zn d))] [] ph1580
    refine w_load (pc' := 13) (v := .ref F) (m := 1) (ykc_5 (e := (2, .aload_n kF0, 0)) rfl) rfl rfl ?_
    refine w_alu (pc' := 14) (st' := [.int (Int32.ofInt 1), .ref F]) (ykc_5 (e := (0, .iconst 1, 0)) rfl) rfl rfl ?_
    refine w_pf (pc' := 17) (ykc_5 (e := (5, .putfield 60, 0)) rfl) rfl rfl (fun ph1582 u1581 => ?_)
    refine w_load (pc' := 18) (v := .ref F) (m := 1) (ykc_5 (e := (2, .aload_n kF0, 0)) rfl) rfl rfl ?_
    refine w_alu (pc' := 19) (st' := [.int (Int32.ofInt 0), .ref F]) (ykc_5 (e := (0, .iconst 0, 0)) rfl) rfl rfl ?_
    refine w_pf (pc' := 22) (ykc_5 (e := (5, .putfield 43, 0)) rfl) rfl rfl (fun ph1584 u1583 => ?_)
    refine w_alu (pc' := 23) (st' := [.int (Int32.ofInt 1)]) (ykc_5 (e := (0, .iconst 1, 0)) rfl) rfl rfl ?_
    refine w_ret (v := (some (.int (Int32.ofInt 1)))) (ykc_5 (e := (7, .ireturn, 0)) rfl) zr_z ?_
    rw [hQ, zi1]
    have hwt : wt = true := b1566
    subst hwt
    have f2 : zFr [] [(F, 6), (F, 7)] _ ph1584 := zFr_trans (zFr_st u1581 (Or.inr (by simp))) (zFr_st u1583 (Or.inr (by simp)))
    have h6 : zc ph1584 F 6 = some (.int (zn 1)) := ((u1583.2.1 F 6 (fun q => absurd q.2 (by decide))).trans u1581.1)
    have h7 : zc ph1584 F 7 = some (.int (zI false)) := u1583.1
    exact zTk1 (show zFr [F + 1, F + 2, F + 3] [(F, 1), (F, 3), (F, 5), (F, 6), (F, 7)] ph ph1584 from (zFr_trans (zFr_trans (zFr_mono fe (by simp) (by simp)) (zFr_st u1581 (Or.inr (by simp)))) (zFr_st u1583 (Or.inr (by simp))))) (zstep_d1 hdi) (zFs_mk ⟨zFp_F f2 (by simp) (by simp) (zFp_F fe (by simp) (by simp) hp), zFc_F f2 (by simp) (by simp) (zFc_c (c := 48 + d - 48) hC g1_fe (by rw [show 48 + d - 48 = d by omega, zcc_n (by omega)]; exact g2_fe) g3_fe (Or.inl (by omega))), zFw_F f2 (by simp) (by simp) (zFw_F fe (by simp) (by simp) hW), zFb_F f2 (by simp) (by simp) (zFb_F fe (by simp) (by simp) hb), ⟨((u1583.2.1 F 5 (fun q => absurd q.2 (by decide))).trans ((u1581.2.1 F 5 (fun q => absurd q.2 (by decide))).trans ((fe.1 F 5 (by simp <;> omega) (by simp <;> omega)).trans hd.1))), hd.2.1, h6, by decide, h7⟩⟩)
theorem zc_takeT {ph : pm_H} {F : Nat} {C W : List Nat} {cm : Nat → Bool} {dp : Nat} {c : Nat} (hc : c < 256) (hnd : zdi c = false) (hF : zFs ph F (C, W, cm, dp, 0, true)) (h40 : C.length + W.length < 40) : zM 6 [.ref F, .int (zn c)] ph (fun v0 q => zFf F ph q ∧ (∃ cm9, zFb q F cm9) ∧ ((∃ s, zstep c (C, W, cm, dp, 0, true) = some s ∧ v0 = some (.int (zI true)) ∧ zFs q F s) ∨ (zstep c (C, W, cm, dp, 0, true) = none ∧ v0 = some (.int (zI false))))) := by
  obtain ⟨Q, hQ⟩ : ∃ Q : Option Value → pm_H → Prop, Q = (fun v0 q => zFf F ph q ∧ (∃ cm9, zFb q F cm9) ∧ ((∃ s, zstep c (C, W, cm, dp, 0, true) = some s ∧ v0 = some (.int (zI true)) ∧ zFs q F s) ∨ (zstep c (C, W, cm, dp, 0, true) = none ∧ v0 = some (.int (zI false))))) := ⟨_, rfl⟩
  rw [← hQ]
  refine zM_mk fun n D => ?_
  show zW n D 6 Q 0 [some (.ref F), some (.int (zn c)), none] [] ph
  have c_0 : ((Int16.ofInt 1000).toInt32).toInt = 1000 := by decide
  have c_1 : ((Int8.ofInt 109).toInt32).toInt = 109 := by decide
  have c_2 : ((Int8.ofInt 40).toInt32).toInt = 40 := by decide
  have c_3 : ((Int8.ofInt 45).toInt32).toInt = 45 := by decide
  have c_4 : (Int32.ofInt 0).toInt = 0 := by decide
  have c_5 : (Int32.ofInt 1).toInt = 1 := by decide
  have c_6 : (Int32.ofInt 4).toInt = 4 := by decide
  obtain ⟨hp, hC, hW, hb, hd⟩ := hF
  have hp : zFp ph F := hp
  have hC : zFc ph F C := hC
  have hW : zFw ph F W := hW
  have hb : zFb ph F cm := hb
  have hd : zFd ph F dp 0 true := hd
  have tdp := znt (k := dp) (by have := hd.2.1; omega)
  have tdg := znt (k := 0) (by have := hd.2.2.2.1; omega)
  have hdp4 := hd.2.1
  have hdg3 := hd.2.2.2.1
  have tCl := znt (k := C.length) (by omega)
  have tWl := znt (k := W.length) (by omega)
  have tc := znt (k := c) (by omega)
  refine w_load (pc' := 1) (v := .int (zn c)) (m := 1) (ykc_6 (e := (2, .iload_n kF1, 0)) rfl) rfl rfl ?_
  refine w_push (pc' := 3) (v := .int ((Int8.ofInt 45).toInt32)) (m := 2) (ykc_6 (e := (1, .bipush 45, 0)) rfl) rfl rfl ?_
  refine w_ine (ykc_6 (e := (4, .if_icmp .ne 11, 14)) rfl) rfl (fun b1585 => ?_) (fun b1585 => ?_)
  · refine w_load (pc' := 15) (v := .int (zn c)) (m := 1) (ykc_6 (e := (2, .iload_n kF1, 0)) rfl) rfl rfl ?_
    refine w_push (pc' := 17) (v := .int ((Int8.ofInt 40).toInt32)) (m := 2) (ykc_6 (e := (1, .bipush 40, 0)) rfl) rfl rfl ?_
    refine w_ine (ykc_6 (e := (4, .if_icmp .ne 48, 65)) rfl) rfl (fun b1586 => ?_) (fun b1586 => ?_)
    · refine w_push (pc' := 67) (v := .ref 1048626) (m := 2) (ykc_6 (e := (1, .ldc 63, 0)) rfl) rfl rfl ?_
      refine w_load (pc' := 68) (v := .int (zn c)) (m := 1) (ykc_6 (e := (2, .iload_n kF1, 0)) rfl) rfl rfl ?_
      refine w_alu (pc' := 69) (st' := [.int (zn c), .ref 1048626]) (ykc_6 (e := (0, .i2c, 0)) rfl) (by show some ([.int (((zn c).toUInt32 % 65536).toInt32), .ref 1048626] : List Value) = _; rw [(zi2cc hc : ((zn c).toUInt32 % 65536).toInt32 = zn c)]) rfl ?_
      refine w_cvr (show Nat.blt 1048626 1048576 = false ∧ 1048626 - 1048576 = 50 from ⟨rfl, rfl⟩) (as := [.ref 1048626, .int (zn c)]) (r := []) (ykc_6 (e := (6, .invokevirtual 65, 0)) rfl) rfl rfl rfl rfl (zc_letter hc) (fun v1587 ph1588 hv => ?_)
      rcases hv with ⟨rfl, ⟨h8, rfl⟩ | ⟨h8, rfl⟩⟩
      · have t8 := znt (k := zlt c) (by omega)
        show zW n D 6 Q 72 [some (.ref F), some (.int (zn c)), none] [.int (zn (zlt c))] ph
        refine w_store (pc' := 73) (L' := [some (.ref F), some (.int (zn c)), some (.int (zn (zlt c)))]) (st' := []) (m := 1) (ykc_6 (e := (3, .istore_n kF2, 0)) rfl) rfl rfl ?_
        refine w_load (pc' := 74) (v := .int (zn (zlt c))) (m := 1) (ykc_6 (e := (2, .iload_n kF2, 0)) rfl) rfl rfl ?_
        refine w_zge (ykc_6 (e := (4, .ifCond .ge 5, 79)) rfl) rfl (fun b1589 => ?_) (fun q => by exfalso; omega)
        refine w_load (pc' := 80) (v := .ref F) (m := 1) (ykc_6 (e := (2, .aload_n kF0, 0)) rfl) rfl rfl ?_
        refine w_push (pc' := 83) (v := .int ((Int16.ofInt 1000).toInt32)) (m := 3) (ykc_6 (e := (1, .sipush 1000, 0)) rfl) rfl rfl ?_
        refine w_load (pc' := 84) (v := .int (zn (zlt c))) (m := 1) (ykc_6 (e := (2, .iload_n kF2, 0)) rfl) rfl rfl ?_
        have e1590 : ((Int16.ofInt 1000).toInt32) + (zn (zlt c)) = zn (1000 + (zlt c)) := (zaddN (a := 1000) (b := zlt c) c_0 (znt (by omega)) (by omega)) 
        have te1590 := znt (k := 1000 + (zlt c)) (by omega)
        refine w_alu (pc' := 85) (st' := [.int (zn (1000 + (zlt c))), .ref F]) (ykc_6 (e := (0, .iadd, 0)) rfl) (by rw [← e1590]; rfl) rfl ?_
        refine w_cv (as := [.ref F, .int (zn (1000 + (zlt c)))]) (r := []) (ykc_6 (e := (6, .invokevirtual 70, 0)) rfl) rfl rfl rfl rfl (zc_emit hp.1 hC.1 (by omega)) (fun v1591 ph1592 hv => ?_)
        obtain ⟨rfl, fe, g1_fe, g2_fe, g3_fe⟩ := hv
        show zW n D 6 Q 88 [some (.ref F), some (.int (zn c)), some (.int (zn (zlt c)))] [] ph1592
        refine w_load (pc' := 89) (v := .ref F) (m := 1) (ykc_6 (e := (2, .aload_n kF0, 0)) rfl) rfl rfl ?_
        refine w_alu (pc' := 90) (st' := [.int (Int32.ofInt 0), .ref F]) (ykc_6 (e := (0, .iconst 0, 0)) rfl) rfl rfl ?_
        refine w_pf (pc' := 93) (ykc_6 (e := (5, .putfield 43, 0)) rfl) rfl rfl (fun ph1594 u1593 => ?_)
        refine w_alu (pc' := 94) (st' := [.int (Int32.ofInt 1)]) (ykc_6 (e := (0, .iconst 1, 0)) rfl) rfl rfl ?_
        refine w_ret (v := (some (.int (Int32.ofInt 1)))) (ykc_6 (e := (7, .ireturn, 0)) rfl) zr_z ?_
        have f2 : zFr [] [(F, 7)] _ ph1594 := zFr_st u1593 (Or.inr (by simp))
        have h7 : zc ph1594 F 7 = some (.int (zI false)) := u1593.1
        rw [hQ, zi1]
        exact zTk1 (show zFr [F + 1, F + 2, F + 3] [(F, 1), (F, 3), (F, 5), (F, 6), (F, 7)] ph ph1594 from (zFr_trans (zFr_mono fe (by simp) (by simp)) (zFr_st u1593 (Or.inr (by simp))))) (zstep_l h8) (zFs_mk ⟨zFp_F f2 (by simp) (by simp) (zFp_F fe (by simp) (by simp) hp), zFc_F f2 (by simp) (by simp) (zFc_c (c := 1000 + zlt c) hC g1_fe (by rw [zcc_n (by omega)]; exact g2_fe) g3_fe (Or.inl (by omega))), zFw_F f2 (by simp) (by simp) (zFw_F fe (by simp) (by simp) hW), zFb_F f2 (by simp) (by simp) (zFb_F fe (by simp) (by simp) hb), ⟨((u1593.2.1 F 5 (fun q => absurd q.2 (by decide))).trans ((fe.1 F 5 (by simp <;> omega) (by simp <;> omega)).trans hd.1)), hd.2.1, ((u1593.2.1 F 6 (fun q => absurd q.2 (by decide))).trans ((fe.1 F 6 (by simp <;> omega) (by simp <;> omega)).trans hd.2.2.1)), by decide, h7⟩⟩)
      · have tm1 : (Int32.ofInt (-1)).toInt = -1 := by decide
        show zW n D 6 Q 72 [some (.ref F), some (.int (zn c)), none] [.int (Int32.ofInt (-1))] ph
        refine w_store (pc' := 73) (L' := [some (.ref F), some (.int (zn c)), some (.int (Int32.ofInt (-1)))]) (st' := []) (m := 1) (ykc_6 (e := (3, .istore_n kF2, 0)) rfl) rfl rfl ?_
        refine w_load (pc' := 74) (v := .int (Int32.ofInt (-1))) (m := 1) (ykc_6 (e := (2, .iload_n kF2, 0)) rfl) rfl rfl ?_
        refine w_zge (ykc_6 (e := (4, .ifCond .ge 5, 79)) rfl) rfl (fun q => by exfalso; omega) (fun b1595 => ?_)
        refine w_alu (pc' := 78) (st' := [.int (Int32.ofInt 0)]) (ykc_6 (e := (0, .iconst 0, 0)) rfl) rfl rfl ?_
        refine w_ret (v := (some (.int (Int32.ofInt 0)))) (ykc_6 (e := (7, .ireturn, 0)) rfl) zr_z ?_
        rw [hQ, zi0]
        exact ⟨zFr_refl, ⟨cm, hb⟩, Or.inr ⟨zstep_n (by omega) hnd h8 (by omega), rfl⟩⟩
      
    · refine w_load (pc' := 21) (v := .ref F) (m := 1) (ykc_6 (e := (2, .aload_n kF0, 0)) rfl) rfl rfl ?_
      refine w_gf (pc' := 24) (v := .int (zn dp)) (ykc_6 (e := (5, .getfield 47, 0)) rfl) rfl hd.1 rfl ?_
      refine w_zlt (ykc_6 (e := (4, .ifCond .lt 11, 35)) rfl) rfl (fun q => by exfalso; omega) (fun b1596 => ?_)
      refine w_load (pc' := 28) (v := .ref F) (m := 1) (ykc_6 (e := (2, .aload_n kF0, 0)) rfl) rfl rfl ?_
      refine w_gf (pc' := 31) (v := .int (zn dp)) (ykc_6 (e := (5, .getfield 47, 0)) rfl) rfl hd.1 rfl ?_
      refine w_alu (pc' := 32) (st' := [.int (Int32.ofInt 4), .int (zn dp)]) (ykc_6 (e := (0, .iconst 4, 0)) rfl) rfl rfl ?_
      refine w_ilt (ykc_6 (e := (4, .if_icmp .lt 5, 37)) rfl) rfl (fun b1597 => ?_) (fun b1597 => ?_)
      · refine w_load (pc' := 38) (v := .ref F) (m := 1) (ykc_6 (e := (2, .aload_n kF0, 0)) rfl) rfl rfl ?_
        refine w_alu (pc' := 39) (st' := [.ref F, .ref F]) (ykc_6 (e := (0, .dup, 0)) rfl) rfl rfl ?_
        refine w_gf (pc' := 42) (v := .int (zn dp)) (ykc_6 (e := (5, .getfield 47, 0)) rfl) rfl hd.1 rfl ?_
        refine w_alu (pc' := 43) (st' := [.int (Int32.ofInt 1), .int (zn dp), .ref F]) (ykc_6 (e := (0, .iconst 1, 0)) rfl) rfl rfl ?_
        have e1598 : (zn dp) + (Int32.ofInt 1) = zn (dp + 1) := (zaddN (a := dp) (b := 1) (znt (by omega)) c_5 (by omega)) 
        have te1598 := znt (k := dp + 1) (by omega)
        refine w_alu (pc' := 44) (st' := [.int (zn (dp + 1)), .ref F]) (ykc_6 (e := (0, .iadd, 0)) rfl) (by rw [← e1598]; rfl) rfl ?_
        refine w_pf (pc' := 47) (ykc_6 (e := (5, .putfield 47, 0)) rfl) rfl rfl (fun ph1600 u1599 => ?_)
        refine w_load (pc' := 48) (v := .ref F) (m := 1) (ykc_6 (e := (2, .aload_n kF0, 0)) rfl) rfl rfl ?_
        refine w_gf (pc' := 51) (v := .ref (F + 3)) (ykc_6 (e := (5, .getfield 16, 0)) rfl) rfl ((u1599.2.1 F 4 (fun q => absurd q.2 (by decide))).trans hp.2.2) rfl ?_
        refine w_load (pc' := 52) (v := .ref F) (m := 1) (ykc_6 (e := (2, .aload_n kF0, 0)) rfl) rfl rfl ?_
        refine w_gf (pc' := 55) (v := .int (zn (dp + 1))) (ykc_6 (e := (5, .getfield 47, 0)) rfl) rfl u1599.1 rfl ?_
        refine w_alu (pc' := 56) (st' := [.int (Int32.ofInt 0), .int (zn (dp + 1)), .ref (F + 3)]) (ykc_6 (e := (0, .iconst 0, 0)) rfl) rfl rfl ?_
        refine w_bas (pc' := 57) (k := dp + 1) (ykc_6 (e := (5, .bastore, 0)) rfl) (by omega) rfl (fun ph1602 u1601 => ?_)
        refine w_load (pc' := 58) (v := .ref F) (m := 1) (ykc_6 (e := (2, .aload_n kF0, 0)) rfl) rfl rfl ?_
        refine w_push (pc' := 60) (v := .int ((Int8.ofInt 40).toInt32)) (m := 2) (ykc_6 (e := (1, .bipush 40, 0)) rfl) rfl rfl ?_
        refine w_cv (as := [.ref F, .int ((Int8.ofInt 40).toInt32)]) (r := []) (ykc_6 (e := (6, .invokevirtual 82, 0)) rfl) rfl rfl rfl rfl (zc_holdF ((u1601.2.1 F 2 (fun q => by have q2 := q.1; omega)).trans ((u1599.2.1 F 2 (fun q => absurd q.2 (by decide))).trans hp.2.1)) ((u1601.2.1 F 3 (fun q => by have q2 := q.1; omega)).trans ((u1599.2.1 F 3 (fun q => absurd q.2 (by decide))).trans hW.1)) (by omega)) (fun v1603 ph1604 hv => ?_)
        obtain ⟨rfl, fh, g1_fh, g2_fh, g3_fh⟩ := hv
        show zW n D 6 Q 63 [some (.ref F), some (.int (zn c)), none] [] ph1604
        refine w_alu (pc' := 64) (st' := [.int (Int32.ofInt 1)]) (ykc_6 (e := (0, .iconst 1, 0)) rfl) rfl rfl ?_
        refine w_ret (v := (some (.int (Int32.ofInt 1)))) (ykc_6 (e := (7, .ireturn, 0)) rfl) zr_z ?_
        have ec : c = 40 := by omega
        subst ec
        have f1 : zFr [F + 3] [(F, 5)] ph _ := zFr_trans (zFr_st u1599 (Or.inr (by simp))) (zFr_st u1601 (Or.inl (by simp)))
        have hbb : zFb ph1604 F (zub cm (dp + 1) false) := fun i hi => by
          refine (fh.1 (F + 3) i (by simp) (by simp)).trans ?_
          by_cases e : i = dp + 1
          · subst e; rw [zub_e]; exact u1601.1
          · rw [zub_n e]; exact (u1601.2.1 (F + 3) i (fun q => e q.2)).trans ((u1599.2.1 (F + 3) i (fun q => by have q1 := q.1; omega)).trans (hb i hi))
        rw [hQ, zi1]
        exact zTk1 (show zFr [F + 1, F + 2, F + 3] [(F, 1), (F, 3), (F, 5), (F, 6), (F, 7)] ph ph1604 from (zFr_trans (zFr_trans (zFr_st u1599 (Or.inr (by simp))) (zFr_st u1601 (Or.inl (by simp)))) (zFr_mono fh (by simp) (by simp)))) (zstep_b (by omega)) (zFs_mk ⟨zFp_F fh (by simp) (by simp) (zFp_F f1 (by simp) (by simp) hp), zFc_F fh (by simp) (by simp) (zFc_F f1 (by simp) (by simp) hC), zFw_c (o := 0) (zFw_F f1 (by simp) (by simp) hW) g1_fh (by rw [show zn (zwo 0) = (Int8.ofInt 40).toInt32 by decide]; exact g2_fh) g3_fh (Or.inl rfl), hbb, ⟨((fh.1 F 5 (by simp <;> omega) (by simp <;> omega)).trans ((u1601.2.1 F 5 (fun q => by have q2 := q.1; omega)).trans u1599.1)), by omega, ((fh.1 F 6 (by simp <;> omega) (by simp <;> omega)).trans ((u1601.2.1 F 6 (fun q => by have q2 := q.1; omega)).trans ((u1599.2.1 F 6 (fun q => absurd q.2 (by decide))).trans hd.2.2.1))), by decide, ((fh.1 F 7 (by simp <;> omega) (by simp <;> omega)).trans ((u1601.2.1 F 7 (fun q => by have q2 := q.1; omega)).trans ((u1599.2.1 F 7 (fun q => absurd q.2 (by decide))).trans hd.2.2.2.2)))⟩⟩)
      · refine w_alu (pc' := 36) (st' := [.int (Int32.ofInt 0)]) (ykc_6 (e := (0, .iconst 0, 0)) rfl) rfl rfl ?_
        refine w_ret (v := (some (.int (Int32.ofInt 0)))) (ykc_6 (e := (7, .ireturn, 0)) rfl) zr_z ?_
        have ec : c = 40 := by omega
        subst ec
        rw [hQ, zi0]
        exact ⟨zFr_refl, ⟨cm, hb⟩, Or.inr ⟨zstep_n (by decide) rfl (by decide) (by omega), rfl⟩⟩
  · refine w_load (pc' := 7) (v := .ref F) (m := 1) (ykc_6 (e := (2, .aload_n kF0, 0)) rfl) rfl rfl ?_
    refine w_push (pc' := 9) (v := .int ((Int8.ofInt 109).toInt32)) (m := 2) (ykc_6 (e := (1, .bipush 109, 0)) rfl) rfl rfl ?_
    refine w_cv (as := [.ref F, .int ((Int8.ofInt 109).toInt32)]) (r := []) (ykc_6 (e := (6, .invokevirtual 82, 0)) rfl) rfl rfl rfl rfl (zc_holdF hp.2.1 hW.1 (by omega)) (fun v1605 ph1606 hv => ?_)
    obtain ⟨rfl, fh, g1_fh, g2_fh, g3_fh⟩ := hv
    show zW n D 6 Q 12 [some (.ref F), some (.int (zn c)), none] [] ph1606
    refine w_alu (pc' := 13) (st' := [.int (Int32.ofInt 1)]) (ykc_6 (e := (0, .iconst 1, 0)) rfl) rfl rfl ?_
    refine w_ret (v := (some (.int (Int32.ofInt 1)))) (ykc_6 (e := (7, .ireturn, 0)) rfl) zr_z ?_
    have ec : c = 45 := by omega
    subst ec
    have tr : zc ph1606 F 7 = some (.int (zI true)) := ((fh.1 F 7 (by simp <;> omega) (by simp <;> omega)).trans hd.2.2.2.2)
    rw [hQ, zi1]
    exact zTk1 (show zFr [F + 1, F + 2, F + 3] [(F, 1), (F, 3), (F, 5), (F, 6), (F, 7)] ph ph1606 from (zFr_mono fh (by simp) (by simp))) (zstep_m) (zFs_mk ⟨zFp_F fh (by simp) (by simp) hp, zFc_F fh (by simp) (by simp) hC, zFw_c (o := 3000) hW g1_fh (by rw [show zn (zwo 3000) = (Int8.ofInt 109).toInt32 by decide]; exact g2_fh) g3_fh (Or.inr (Or.inr rfl)), zFb_F fh (by simp) (by simp) hb, ⟨((fh.1 F 5 (by simp <;> omega) (by simp <;> omega)).trans hd.1), hd.2.1, ((fh.1 F 6 (by simp <;> omega) (by simp <;> omega)).trans hd.2.2.1), by decide, tr⟩⟩)
theorem zc_close {ph : pm_H} {F : Nat} {C W : List Nat} {cm : Nat → Bool} {dp : Nat} (hF : zFs ph F (C, W, cm, dp, 0, false)) (h40 : C.length + W.length < 40) : zM 8 [.ref F] ph (fun v0 q => zFf F ph q ∧ (∃ cm9, zFb q F cm9) ∧ ((∃ s, zstep 41 (C, W, cm, dp, 0, false) = some s ∧ v0 = some (.int (zI true)) ∧ zFs q F s) ∨ (zstep 41 (C, W, cm, dp, 0, false) = none ∧ v0 = some (.int (zI false))))) := by
  obtain ⟨Q, hQ⟩ : ∃ Q : Option Value → pm_H → Prop, Q = (fun v0 q => zFf F ph q ∧ (∃ cm9, zFb q F cm9) ∧ ((∃ s, zstep 41 (C, W, cm, dp, 0, false) = some s ∧ v0 = some (.int (zI true)) ∧ zFs q F s) ∨ (zstep 41 (C, W, cm, dp, 0, false) = none ∧ v0 = some (.int (zI false))))) := ⟨_, rfl⟩
  rw [← hQ]
  refine zM_mk fun n D => ?_
  show zW n D 8 Q 0 [some (.ref F)] [] ph
  have c_0 : (Int32.ofInt 0).toInt = 0 := by decide
  have c_1 : (Int32.ofInt 1).toInt = 1 := by decide
  obtain ⟨hp, hC, hW, hb, hd⟩ := hF
  have hp : zFp ph F := hp
  have hC : zFc ph F C := hC
  have hW : zFw ph F W := hW
  have hb : zFb ph F cm := hb
  have hd : zFd ph F dp 0 false := hd
  have tdp := znt (k := dp) (by have := hd.2.1; omega)
  have tdg := znt (k := 0) (by have := hd.2.2.2.1; omega)
  have hdp4 := hd.2.1
  have hdg3 := hd.2.2.2.1
  have tCl := znt (k := C.length) (by omega)
  have tWl := znt (k := W.length) (by omega)
  have hlen := @zrl_len 1 W C
  refine w_load (pc' := 1) (v := .ref F) (m := 1) (ykc_8 (e := (2, .aload_n kF0, 0)) rfl) rfl rfl ?_
  refine w_gf (pc' := 4) (v := .int (zn dp)) (ykc_8 (e := (5, .getfield 47, 0)) rfl) rfl hd.1 rfl ?_
  refine w_zne (ykc_8 (e := (4, .ifCond .ne 5, 9)) rfl) rfl (fun b1607 => ?_) (fun b1607 => ?_)
  · refine w_load (pc' := 10) (v := .ref F) (m := 1) (ykc_8 (e := (2, .aload_n kF0, 0)) rfl) rfl rfl ?_
    refine w_alu (pc' := 11) (st' := [.ref F, .ref F]) (ykc_8 (e := (0, .dup, 0)) rfl) rfl rfl ?_
    refine w_gf (pc' := 14) (v := .int (zn dp)) (ykc_8 (e := (5, .getfield 47, 0)) rfl) rfl hd.1 rfl ?_
    refine w_alu (pc' := 15) (st' := [.int (Int32.ofInt 1), .int (zn dp), .ref F]) (ykc_8 (e := (0, .iconst 1, 0)) rfl) rfl rfl ?_
    have e1608 : (zn dp) - (Int32.ofInt 1) = zn (dp - 1) := zsubN (a := dp) (b := 1) tdp c_1 (by omega)
    have te1608 := znt (k := dp - 1) (by omega)
    refine w_alu (pc' := 16) (st' := [.int (zn (dp - 1)), .ref F]) (ykc_8 (e := (0, .isub, 0)) rfl) (by show some ([.int ((zn dp) - (Int32.ofInt 1)), .ref F] : List Value) = _; rw [e1608]) rfl ?_
    refine w_pf (pc' := 19) (ykc_8 (e := (5, .putfield 47, 0)) rfl) rfl rfl (fun ph1610 u1609 => ?_)
    refine w_load (pc' := 20) (v := .ref F) (m := 1) (ykc_8 (e := (2, .aload_n kF0, 0)) rfl) rfl rfl ?_
    refine w_alu (pc' := 21) (st' := [.int (Int32.ofInt 1), .ref F]) (ykc_8 (e := (0, .iconst 1, 0)) rfl) rfl rfl ?_
    have f1 : zFr [] [(F, 5)] ph ph1610 := zFr_st u1609 (Or.inr (by simp))
    refine w_cv (as := [.ref F, .int (Int32.ofInt 1)]) (r := []) (ykc_8 (e := (6, .invokevirtual 51, 0)) rfl) rfl rfl rfl rfl (zc_release (b := 1) (zFp_F f1 (by simp) (by simp) hp) (zFc_F f1 (by simp) (by simp) hC) (zFw_F f1 (by simp) (by simp) hW) (by omega) (by decide) (by omega)) (fun v1611 ph1612 hv => ?_)
    obtain ⟨rfl, fr, hC2, hW2⟩ := hv
    generalize hzr : zrl 1 W C = zr at *
    obtain ⟨W2, C2⟩ := zr
    have hC2 : zFc ph1612 F C2 := hC2
    have hW2 : zFw ph1612 F W2 := hW2
    have hlen : W2.length + C2.length = W.length + C.length := hlen
    show zW n D 8 Q 24 [some (.ref F)] [] ph1612
    refine w_load (pc' := 25) (v := .ref F) (m := 1) (ykc_8 (e := (2, .aload_n kF0, 0)) rfl) rfl rfl ?_
    have tW2 := znt (k := W2.length) (by omega)
    refine w_gf (pc' := 28) (v := .int (zn W2.length)) (ykc_8 (e := (5, .getfield 57, 0)) rfl) rfl hW2.1 rfl ?_
    refine w_zle (ykc_8 (e := (4, .ifCond .le 13, 41)) rfl) rfl (fun b1613 => ?_) (fun b1613 => ?_)
    · refine w_alu (pc' := 42) (st' := [.int (Int32.ofInt 1)]) (ykc_8 (e := (0, .iconst 1, 0)) rfl) rfl rfl ?_
      refine w_ret (v := (some (.int (Int32.ofInt 1)))) (ykc_8 (e := (7, .ireturn, 0)) rfl) zr_z ?_
      have hst := zstep_c (C := C) (W := W) (cm := cm) (dp := dp) (dg := 0) (by omega)
      rw [hzr] at hst
      cases W2 with
      | cons o W3 => exact absurd (show (o :: W3).length = 0 by omega) (by simp)
      | nil =>
        have hst : zstep 41 (C, W, cm, dp, 0, false) = some (C2, [], cm, dp - 1, 0, false) := hst
        rw [hQ, zi1]
        exact zTk1 (show zFr [F + 1, F + 2, F + 3] [(F, 1), (F, 3), (F, 5), (F, 6), (F, 7)] ph ph1612 from (zFr_trans (zFr_st u1609 (Or.inr (by simp))) (zFr_mono fr (by simp) (by simp)))) (hst) (zFs_mk ⟨zFp_F fr (by simp) (by simp) (zFp_F f1 (by simp) (by simp) hp), hC2, hW2, zFb_F fr (by simp) (by simp) (zFb_F f1 (by simp) (by simp) hb), ⟨((fr.1 F 5 (by simp <;> omega) (by simp <;> omega)).trans u1609.1), by omega, ((fr.1 F 6 (by simp <;> omega) (by simp <;> omega)).trans ((u1609.2.1 F 6 (fun q => absurd q.2 (by decide))).trans hd.2.2.1)), by decide, ((fr.1 F 7 (by simp <;> omega) (by simp <;> omega)).trans ((u1609.2.1 F 7 (fun q => absurd q.2 (by decide))).trans hd.2.2.2.2))⟩⟩)
    · refine w_load (pc' := 32) (v := .ref F) (m := 1) (ykc_8 (e := (2, .aload_n kF0, 0)) rfl) rfl rfl ?_
      refine w_alu (pc' := 33) (st' := [.ref F, .ref F]) (ykc_8 (e := (0, .dup, 0)) rfl) rfl rfl ?_
      refine w_gf (pc' := 36) (v := .int (zn W2.length)) (ykc_8 (e := (5, .getfield 57, 0)) rfl) rfl hW2.1 rfl ?_
      refine w_alu (pc' := 37) (st' := [.int (Int32.ofInt 1), .int (zn W2.length), .ref F]) (ykc_8 (e := (0, .iconst 1, 0)) rfl) rfl rfl ?_
      have e1614 : (zn W2.length) - (Int32.ofInt 1) = zn (W2.length - 1) := zsubN (a := W2.length) (b := 1) (znt (by omega)) c_1 (by omega)
      have te1614 := znt (k := W2.length - 1) (by omega)
      refine w_alu (pc' := 38) (st' := [.int (zn (W2.length - 1)), .ref F]) (ykc_8 (e := (0, .isub, 0)) rfl) (by show some ([.int ((zn W2.length) - (Int32.ofInt 1)), .ref F] : List Value) = _; rw [e1614]) rfl ?_
      refine w_pf (pc' := 41) (ykc_8 (e := (5, .putfield 57, 0)) rfl) rfl rfl (fun ph1616 u1615 => ?_)
      refine w_alu (pc' := 42) (st' := [.int (Int32.ofInt 1)]) (ykc_8 (e := (0, .iconst 1, 0)) rfl) rfl rfl ?_
      refine w_ret (v := (some (.int (Int32.ofInt 1)))) (ykc_8 (e := (7, .ireturn, 0)) rfl) zr_z ?_
      have f3 : zFr [] [(F, 3)] _ ph1616 := zFr_st u1615 (Or.inr (by simp))
      have hst := zstep_c (C := C) (W := W) (cm := cm) (dp := dp) (dg := 0) (by omega)
      rw [hzr] at hst
      cases W2 with
      | nil => exact absurd (show (0 : Nat) < 0 by have h : (zn ([] : List Nat).length).toInt = 0 := rfl; omega) (by decide)
      | cons o W3 =>
        have hst : zstep 41 (C, W, cm, dp, 0, false) = some (C2, W3, cm, dp - 1, 0, false) := hst
        rw [hQ, zi1]
        exact zTk1 (show zFr [F + 1, F + 2, F + 3] [(F, 1), (F, 3), (F, 5), (F, 6), (F, 7)] ph ph1616 from (zFr_trans (zFr_trans (zFr_st u1609 (Or.inr (by simp))) (zFr_mono fr (by simp) (by simp))) (zFr_st u1615 (Or.inr (by simp))))) (hst) (zFs_mk ⟨zFp_F f3 (by simp) (by simp) (zFp_F fr (by simp) (by simp) (zFp_F f1 (by simp) (by simp) hp)), zFc_F f3 (by simp) (by simp) hC2, zFw_t hW2 u1615.1 (fun i => u1615.2.1 (F + 2) i (fun q => by have q1 := q.1; omega)), zFb_F f3 (by simp) (by simp) (zFb_F fr (by simp) (by simp) (zFb_F f1 (by simp) (by simp) hb)), ⟨((u1615.2.1 F 5 (fun q => absurd q.2 (by decide))).trans ((fr.1 F 5 (by simp <;> omega) (by simp <;> omega)).trans u1609.1)), by omega, ((u1615.2.1 F 6 (fun q => absurd q.2 (by decide))).trans ((fr.1 F 6 (by simp <;> omega) (by simp <;> omega)).trans ((u1609.2.1 F 6 (fun q => absurd q.2 (by decide))).trans hd.2.2.1))), by decide, ((u1615.2.1 F 7 (fun q => absurd q.2 (by decide))).trans ((fr.1 F 7 (by simp <;> omega) (by simp <;> omega)).trans ((u1609.2.1 F 7 (fun q => absurd q.2 (by decide))).trans hd.2.2.2.2)))⟩⟩)
  · refine w_alu (pc' := 8) (st' := [.int (Int32.ofInt 0)]) (ykc_8 (e := (0, .iconst 0, 0)) rfl) rfl rfl ?_
    refine w_ret (v := (some (.int (Int32.ofInt 0)))) (ykc_8 (e := (7, .ireturn, 0)) rfl) zr_z ?_
    have e0 : dp = 0 := by omega
    subst e0
    rw [hQ, zi0]
    exact ⟨zFr_refl, ⟨cm, hb⟩, Or.inr ⟨by unfold zstep; simp [zdi], rfl⟩⟩
theorem zc_takeO {ph : pm_H} {F : Nat} {C W : List Nat} {cm : Nat → Bool} {dp : Nat} (hF : zFs ph F (C, W, cm, dp, 0, false)) (h40 : C.length + W.length < 40) {c : Nat} (hc : c < 256) (hnd : zdi c = false) : zM 7 [.ref F, .int (zn c)] ph (fun v0 q => zFf F ph q ∧ (∃ cm9, zFb q F cm9) ∧ ((∃ s, zstep c (C, W, cm, dp, 0, false) = some s ∧ v0 = some (.int (zI true)) ∧ zFs q F s) ∨ (zstep c (C, W, cm, dp, 0, false) = none ∧ v0 = some (.int (zI false))))) := by
  obtain ⟨Q, hQ⟩ : ∃ Q : Option Value → pm_H → Prop, Q = (fun v0 q => zFf F ph q ∧ (∃ cm9, zFb q F cm9) ∧ ((∃ s, zstep c (C, W, cm, dp, 0, false) = some s ∧ v0 = some (.int (zI true)) ∧ zFs q F s) ∨ (zstep c (C, W, cm, dp, 0, false) = none ∧ v0 = some (.int (zI false))))) := ⟨_, rfl⟩
  rw [← hQ]
  refine zM_mk fun n D => ?_
  show zW n D 7 Q 0 [some (.ref F), some (.int (zn c)), none] [] ph
  have c_0 : ((Int8.ofInt 41).toInt32).toInt = 41 := by decide
  have c_1 : (Int32.ofInt 0).toInt = 0 := by decide
  have c_2 : (Int32.ofInt 1).toInt = 1 := by decide
  have c_3 : (Int32.ofInt 3).toInt = 3 := by decide
  have c_4 : (Int32.ofInt 4).toInt = 4 := by decide
  have hF0 := hF
  obtain ⟨hp, hC, hW, hb, hd⟩ := hF
  have hp : zFp ph F := hp
  have hC : zFc ph F C := hC
  have hW : zFw ph F W := hW
  have hb : zFb ph F cm := hb
  have hd : zFd ph F dp 0 false := hd
  have tdp := znt (k := dp) (by have := hd.2.1; omega)
  have tdg := znt (k := 0) (by have := hd.2.2.2.1; omega)
  have hdp4 := hd.2.1
  have hdg3 := hd.2.2.2.1
  have tCl := znt (k := C.length) (by omega)
  have tWl := znt (k := W.length) (by omega)
  have tc := znt (k := c) (by omega)
  refine w_load (pc' := 1) (v := .int (zn c)) (m := 1) (ykc_7 (e := (2, .iload_n kF1, 0)) rfl) rfl rfl ?_
  refine w_push (pc' := 3) (v := .int ((Int8.ofInt 41).toInt32)) (m := 2) (ykc_7 (e := (1, .bipush 41, 0)) rfl) rfl rfl ?_
  refine w_ine (ykc_7 (e := (4, .if_icmp .ne 8, 11)) rfl) rfl (fun b1617 => ?_) (fun b1617 => ?_)
  · refine w_load (pc' := 12) (v := .int (zn c)) (m := 1) (ykc_7 (e := (2, .iload_n kF1, 0)) rfl) rfl rfl ?_
    refine w_cs (as := [.int (zn c)]) (r := []) (ykc_7 (e := (6, .invokestatic 89, 0)) rfl) rfl rfl rfl rfl (zc_bind (c := c) (by omega)) (fun v1618 ph1619 hv => ?_)
    obtain ⟨rfl, rfl⟩ := hv
    have tb9 := znt (k := zbs c) (by have := @zbs_4 c; omega)
    have hb9 := @zbs_4 c
    show zW n D 7 Q 15 [some (.ref F), some (.int (zn c)), none] [.int (zn (zbs c))] ph
    have hop : zbs c ≠ 0 → zbs c ≤ 3 → zop c ≠ 0 ∧ zbd (zop c) = zbs c := fun h1 h2 => by
      unfold zbs at h1 h2 ⊢
      by_cases e : c = 109
      · rw [if_pos e] at h2; omega
      · rw [if_neg e] at h1 ⊢
        by_cases e2 : zop c = 0
        · rw [if_pos e2] at h1; omega
        · rw [if_neg e2]; exact ⟨e2, rfl⟩
    have hno : zbs c = 0 ∨ 3 < zbs c → zop c = 0 := fun h => by
      apply Classical.byContradiction
      intro q
      have h3 := zbd_op q
      unfold zbs at h
      by_cases e : c = 109
      · subst e; exact q rfl
      · rw [if_neg e, if_neg q] at h; omega
    refine w_store (pc' := 16) (L' := [some (.ref F), some (.int (zn c)), some (.int (zn (zbs c)))]) (st' := []) (m := 1) (ykc_7 (e := (3, .istore_n kF2, 0)) rfl) rfl rfl ?_
    refine w_load (pc' := 17) (v := .int (zn (zbs c))) (m := 1) (ykc_7 (e := (2, .iload_n kF2, 0)) rfl) rfl rfl ?_
    refine w_zeq (ykc_7 (e := (4, .ifCond .eq 23, 40)) rfl) rfl (fun b1620 => ?_) (fun b1620 => ?_)
    · refine w_alu (pc' := 41) (st' := [.int (Int32.ofInt 0)]) (ykc_7 (e := (0, .iconst 0, 0)) rfl) rfl rfl ?_
      refine w_ret (v := (some (.int (Int32.ofInt 0)))) (ykc_7 (e := (7, .ireturn, 0)) rfl) zr_z ?_
      rw [hQ, zi0]
      exact ⟨zFr_refl, ⟨cm, hb⟩, Or.inr ⟨zstep_x (fun q => absurd q (by rw [hnd]; decide)) (fun q => absurd q (by omega)) (fun q => absurd (hno (by omega)) q), rfl⟩⟩
    · refine w_load (pc' := 21) (v := .int (zn (zbs c))) (m := 1) (ykc_7 (e := (2, .iload_n kF2, 0)) rfl) rfl rfl ?_
      refine w_alu (pc' := 22) (st' := [.int (Int32.ofInt 3), .int (zn (zbs c))]) (ykc_7 (e := (0, .iconst 3, 0)) rfl) rfl rfl ?_
      refine w_igt (ykc_7 (e := (4, .if_icmp .gt 18, 40)) rfl) rfl (fun b1621 => ?_) (fun b1621 => ?_)
      · refine w_alu (pc' := 41) (st' := [.int (Int32.ofInt 0)]) (ykc_7 (e := (0, .iconst 0, 0)) rfl) rfl rfl ?_
        refine w_ret (v := (some (.int (Int32.ofInt 0)))) (ykc_7 (e := (7, .ireturn, 0)) rfl) zr_z ?_
        rw [hQ, zi0]
        exact ⟨zFr_refl, ⟨cm, hb⟩, Or.inr ⟨zstep_x (fun q => absurd q (by rw [hnd]; decide)) (fun q => absurd q (by omega)) (fun q => absurd (hno (by omega)) q), rfl⟩⟩
      · refine w_load (pc' := 26) (v := .ref F) (m := 1) (ykc_7 (e := (2, .aload_n kF0, 0)) rfl) rfl rfl ?_
        refine w_gf (pc' := 29) (v := .int (zn dp)) (ykc_7 (e := (5, .getfield 47, 0)) rfl) rfl hd.1 rfl ?_
        refine w_zlt (ykc_7 (e := (4, .ifCond .lt 11, 40)) rfl) rfl (fun q => by exfalso; omega) (fun b1622 => ?_)
        refine w_load (pc' := 33) (v := .ref F) (m := 1) (ykc_7 (e := (2, .aload_n kF0, 0)) rfl) rfl rfl ?_
        refine w_gf (pc' := 36) (v := .int (zn dp)) (ykc_7 (e := (5, .getfield 47, 0)) rfl) rfl hd.1 rfl ?_
        refine w_alu (pc' := 37) (st' := [.int (Int32.ofInt 4), .int (zn dp)]) (ykc_7 (e := (0, .iconst 4, 0)) rfl) rfl rfl ?_
        refine w_ile (ykc_7 (e := (4, .if_icmp .le 5, 42)) rfl) rfl (fun b1623 => ?_) (fun q => by exfalso; omega)
        refine w_load (pc' := 43) (v := .int (zn (zbs c))) (m := 1) (ykc_7 (e := (2, .iload_n kF2, 0)) rfl) rfl rfl ?_
        refine w_alu (pc' := 44) (st' := [.int (Int32.ofInt 1), .int (zn (zbs c))]) (ykc_7 (e := (0, .iconst 1, 0)) rfl) rfl rfl ?_
        refine w_ine (ykc_7 (e := (4, .if_icmp .ne 27, 71)) rfl) rfl (fun b1624 => ?_) (fun b1624 => ?_)
        · refine w_load (pc' := 72) (v := .ref F) (m := 1) (ykc_7 (e := (2, .aload_n kF0, 0)) rfl) rfl rfl ?_
          refine w_load (pc' := 73) (v := .int (zn (zbs c))) (m := 1) (ykc_7 (e := (2, .iload_n kF2, 0)) rfl) rfl rfl ?_
          obtain ⟨ho1, ho2⟩ := hop (by omega) (by omega)
          refine w_cv (as := [.ref F, .int (zn (zbs c))]) (r := []) (ykc_7 (e := (6, .invokevirtual 51, 0)) rfl) rfl rfl rfl rfl (zc_release (b := zbs c) hp hC hW (by omega) (by omega) (by omega)) (fun v1625 ph1626 hv => ?_)
          obtain ⟨rfl, fr, hC2, hW2⟩ := hv
          have hlen := @zrl_len (zbs c) W C
          show zW n D 7 Q 76 [some (.ref F), some (.int (zn c)), some (.int (zn (zbs c)))] [] ph1626
          refine w_load (pc' := 77) (v := .ref F) (m := 1) (ykc_7 (e := (2, .aload_n kF0, 0)) rfl) rfl rfl ?_
          refine w_load (pc' := 78) (v := .int (zn c)) (m := 1) (ykc_7 (e := (2, .iload_n kF1, 0)) rfl) rfl rfl ?_
          refine w_cv (as := [.ref F, .int (zn c)]) (r := []) (ykc_7 (e := (6, .invokevirtual 82, 0)) rfl) rfl rfl rfl rfl (zc_holdF ((fr.1 F 2 (by simp <;> omega) (by simp <;> omega)).trans hp.2.1) hW2.1 (by omega)) (fun v1627 ph1628 hv => ?_)
          obtain ⟨rfl, fh, g1_fh, g2_fh, g3_fh⟩ := hv
          show zW n D 7 Q 81 [some (.ref F), some (.int (zn c)), some (.int (zn (zbs c)))] [] ph1628
          refine w_load (pc' := 82) (v := .ref F) (m := 1) (ykc_7 (e := (2, .aload_n kF0, 0)) rfl) rfl rfl ?_
          refine w_alu (pc' := 83) (st' := [.int (Int32.ofInt 1), .ref F]) (ykc_7 (e := (0, .iconst 1, 0)) rfl) rfl rfl ?_
          refine w_pf (pc' := 86) (ykc_7 (e := (5, .putfield 43, 0)) rfl) rfl rfl (fun ph1630 u1629 => ?_)
          refine w_alu (pc' := 87) (st' := [.int (Int32.ofInt 1)]) (ykc_7 (e := (0, .iconst 1, 0)) rfl) rfl rfl ?_
          refine w_ret (v := (some (.int (Int32.ofInt 1)))) (ykc_7 (e := (7, .ireturn, 0)) rfl) zr_z ?_
          have hst := zstep_o (C := C) (W := W) (cm := cm) (dp := dp) (dg := 0) ho1 (fun q => by omega)
          rw [ho2, if_neg (show ¬ zbs c = 1 by omega)] at hst
          have f9 : zFr [] [(F, 7)] _ ph1630 := zFr_st u1629 (Or.inr (by simp))
          obtain ⟨hwo, hvo9⟩ := zwo_op ho1
          have hW3 := zFw_c (o := zop c) hW2 g1_fh (by rw [hwo]; exact g2_fh) g3_fh hvo9
          have h7 : zc ph1630 F 7 = some (.int (zI true)) := u1629.1
          rw [hQ, zi1]
          exact zTk1 (show zFr [F + 1, F + 2, F + 3] [(F, 1), (F, 3), (F, 5), (F, 6), (F, 7)] ph ph1630 from (zFr_trans (zFr_trans (zFr_mono fr (by simp) (by simp)) (zFr_mono fh (by simp) (by simp))) (zFr_st u1629 (Or.inr (by simp))))) (hst) (zFs_mk ⟨zFp_F f9 (by simp) (by simp) (zFp_F fh (by simp) (by simp) (zFp_F fr (by simp) (by simp) hp)), zFc_F f9 (by simp) (by simp) (zFc_F fh (by simp) (by simp) hC2), zFw_F f9 (by simp) (by simp) hW3, zFb_F f9 (by simp) (by simp) (zFb_F fh (by simp) (by simp) (zFb_F fr (by simp) (by simp) hb)), ⟨((u1629.2.1 F 5 (fun q => absurd q.2 (by decide))).trans ((fh.1 F 5 (by simp <;> omega) (by simp <;> omega)).trans ((fr.1 F 5 (by simp <;> omega) (by simp <;> omega)).trans hd.1))), hd.2.1, ((u1629.2.1 F 6 (fun q => absurd q.2 (by decide))).trans ((fh.1 F 6 (by simp <;> omega) (by simp <;> omega)).trans ((fr.1 F 6 (by simp <;> omega) (by simp <;> omega)).trans hd.2.2.1))), by decide, h7⟩⟩)
        · refine w_load (pc' := 48) (v := .ref F) (m := 1) (ykc_7 (e := (2, .aload_n kF0, 0)) rfl) rfl rfl ?_
          refine w_gf (pc' := 51) (v := .ref (F + 3)) (ykc_7 (e := (5, .getfield 16, 0)) rfl) rfl hp.2.2 rfl ?_
          refine w_load (pc' := 52) (v := .ref F) (m := 1) (ykc_7 (e := (2, .aload_n kF0, 0)) rfl) rfl rfl ?_
          refine w_gf (pc' := 55) (v := .int (zn dp)) (ykc_7 (e := (5, .getfield 47, 0)) rfl) rfl hd.1 rfl ?_
          refine w_balk (pc' := 56) (k := dp) (ykc_7 (e := (5, .baload, 0)) rfl) (hb dp (by omega)) (by omega) rfl ?_
          refine w_beq (ykc_7 (e := (4, .ifCond .eq 5, 61)) rfl) rfl (fun b1631 => ?_) (fun b1631 => ?_)
          · refine w_load (pc' := 62) (v := .ref F) (m := 1) (ykc_7 (e := (2, .aload_n kF0, 0)) rfl) rfl rfl ?_
            refine w_gf (pc' := 65) (v := .ref (F + 3)) (ykc_7 (e := (5, .getfield 16, 0)) rfl) rfl hp.2.2 rfl ?_
            refine w_load (pc' := 66) (v := .ref F) (m := 1) (ykc_7 (e := (2, .aload_n kF0, 0)) rfl) rfl rfl ?_
            refine w_gf (pc' := 69) (v := .int (zn dp)) (ykc_7 (e := (5, .getfield 47, 0)) rfl) rfl hd.1 rfl ?_
            refine w_alu (pc' := 70) (st' := [.int (Int32.ofInt 1), .int (zn dp), .ref (F + 3)]) (ykc_7 (e := (0, .iconst 1, 0)) rfl) rfl rfl ?_
            refine w_bas (pc' := 71) (k := dp) (ykc_7 (e := (5, .bastore, 0)) rfl) (by omega) rfl (fun ph1633 u1632 => ?_)
            refine w_load (pc' := 72) (v := .ref F) (m := 1) (ykc_7 (e := (2, .aload_n kF0, 0)) rfl) rfl rfl ?_
            refine w_load (pc' := 73) (v := .int (zn (zbs c))) (m := 1) (ykc_7 (e := (2, .iload_n kF2, 0)) rfl) rfl rfl ?_
            obtain ⟨ho1, ho2⟩ := hop (by omega) (by omega)
            have f1 : zFr [F + 3] [] ph ph1633 := zFr_st u1632 (Or.inl (by simp))
            refine w_cv (as := [.ref F, .int (zn (zbs c))]) (r := []) (ykc_7 (e := (6, .invokevirtual 51, 0)) rfl) rfl rfl rfl rfl (zc_release (b := zbs c) (zFp_F f1 (by simp) (by simp) hp) (zFc_F f1 (by simp) (by simp) hC) (zFw_F f1 (by simp) (by simp) hW) (by omega) (by omega) (by omega)) (fun v1634 ph1635 hv => ?_)
            obtain ⟨rfl, fr, hC2, hW2⟩ := hv
            have hlen := @zrl_len (zbs c) W C
            show zW n D 7 Q 76 [some (.ref F), some (.int (zn c)), some (.int (zn (zbs c)))] [] ph1635
            refine w_load (pc' := 77) (v := .ref F) (m := 1) (ykc_7 (e := (2, .aload_n kF0, 0)) rfl) rfl rfl ?_
            refine w_load (pc' := 78) (v := .int (zn c)) (m := 1) (ykc_7 (e := (2, .iload_n kF1, 0)) rfl) rfl rfl ?_
            refine w_cv (as := [.ref F, .int (zn c)]) (r := []) (ykc_7 (e := (6, .invokevirtual 82, 0)) rfl) rfl rfl rfl rfl (zc_holdF ((fr.1 F 2 (by simp <;> omega) (by simp <;> omega)).trans ((u1632.2.1 F 2 (fun q => by have q2 := q.1; omega)).trans hp.2.1)) hW2.1 (by omega)) (fun v1636 ph1637 hv => ?_)
            obtain ⟨rfl, fh, g1_fh, g2_fh, g3_fh⟩ := hv
            show zW n D 7 Q 81 [some (.ref F), some (.int (zn c)), some (.int (zn (zbs c)))] [] ph1637
            refine w_load (pc' := 82) (v := .ref F) (m := 1) (ykc_7 (e := (2, .aload_n kF0, 0)) rfl) rfl rfl ?_
            refine w_alu (pc' := 83) (st' := [.int (Int32.ofInt 1), .ref F]) (ykc_7 (e := (0, .iconst 1, 0)) rfl) rfl rfl ?_
            refine w_pf (pc' := 86) (ykc_7 (e := (5, .putfield 43, 0)) rfl) rfl rfl (fun ph1639 u1638 => ?_)
            refine w_alu (pc' := 87) (st' := [.int (Int32.ofInt 1)]) (ykc_7 (e := (0, .iconst 1, 0)) rfl) rfl rfl ?_
            refine w_ret (v := (some (.int (Int32.ofInt 1)))) (ykc_7 (e := (7, .ireturn, 0)) rfl) zr_z ?_
            have hcm : cm dp = false := b1631
            have hst := zstep_o (C := C) (W := W) (cm := cm) (dp := dp) (dg := 0) ho1 (fun q => by rw [hcm] at q; exact absurd q.2 (by decide))
            rw [ho2, if_pos (show zbs c = 1 by omega)] at hst
            have hbb : zFb ph1639 F (zub cm dp true) := fun i hi => by
              refine Eq.trans (u1638.2.1 (F + 3) i (fun q => by have q1 := q.1; omega)) ((fh.1 (F + 3) i (by simp) (by simp)).trans ((fr.1 (F + 3) i (by simp) (by simp)).trans ?_))
              by_cases e : i = dp
              · subst e; rw [zub_e]; exact u1632.1
              · rw [zub_n e]; exact (u1632.2.1 (F + 3) i (fun q => e q.2)).trans (hb i hi)
            have f9 : zFr [] [(F, 7)] _ ph1639 := zFr_st u1638 (Or.inr (by simp))
            obtain ⟨hwo, hvo9⟩ := zwo_op ho1
            have hW3 := zFw_c (o := zop c) hW2 g1_fh (by rw [hwo]; exact g2_fh) g3_fh hvo9
            have h7 : zc ph1639 F 7 = some (.int (zI true)) := u1638.1
            rw [hQ, zi1]
            exact zTk1 (show zFr [F + 1, F + 2, F + 3] [(F, 1), (F, 3), (F, 5), (F, 6), (F, 7)] ph ph1639 from (zFr_trans (zFr_trans (zFr_trans (zFr_st u1632 (Or.inl (by simp))) (zFr_mono fr (by simp) (by simp))) (zFr_mono fh (by simp) (by simp))) (zFr_st u1638 (Or.inr (by simp))))) (hst) (zFs_mk ⟨zFp_F f9 (by simp) (by simp) (zFp_F fh (by simp) (by simp) (zFp_F fr (by simp) (by simp) (zFp_F f1 (by simp) (by simp) hp))), zFc_F f9 (by simp) (by simp) (zFc_F fh (by simp) (by simp) hC2), zFw_F f9 (by simp) (by simp) hW3, hbb, ⟨((u1638.2.1 F 5 (fun q => absurd q.2 (by decide))).trans ((fh.1 F 5 (by simp <;> omega) (by simp <;> omega)).trans ((fr.1 F 5 (by simp <;> omega) (by simp <;> omega)).trans ((u1632.2.1 F 5 (fun q => by have q2 := q.1; omega)).trans hd.1)))), hd.2.1, ((u1638.2.1 F 6 (fun q => absurd q.2 (by decide))).trans ((fh.1 F 6 (by simp <;> omega) (by simp <;> omega)).trans ((fr.1 F 6 (by simp <;> omega) (by simp <;> omega)).trans ((u1632.2.1 F 6 (fun q => by have q2 := q.1; omega)).trans hd.2.2.1)))), by decide, h7⟩⟩)
          · refine w_alu (pc' := 60) (st' := [.int (Int32.ofInt 0)]) (ykc_7 (e := (0, .iconst 0, 0)) rfl) rfl rfl ?_
            refine w_ret (v := (some (.int (Int32.ofInt 0)))) (ykc_7 (e := (7, .ireturn, 0)) rfl) zr_z ?_
            obtain ⟨ho1, ho2⟩ := hop (by omega) (by omega)
            rw [hQ, zi0]
            exact ⟨zFr_refl, ⟨cm, hb⟩, Or.inr ⟨zstep_x (fun q => absurd q (by rw [hnd]; decide)) (fun q => absurd q (by omega)) (fun _ => ⟨by omega, b1631⟩), rfl⟩⟩
  · refine w_load (pc' := 7) (v := .ref F) (m := 1) (ykc_7 (e := (2, .aload_n kF0, 0)) rfl) rfl rfl ?_
    have ec : c = 41 := by omega
    subst ec
    refine w_cv (as := [.ref F]) (r := []) (ykc_7 (e := (6, .invokevirtual 85, 0)) rfl) rfl rfl rfl rfl (zc_close hF0 h40) (fun v1640 ph1641 hv => ?_)
    rcases hv with ⟨fcl, h9cl, ⟨s, hs, rfl, hcl⟩ | ⟨hs, rfl⟩⟩
    · show zW n D 7 Q 10 [some (.ref F), some (.int (zn 41)), none] [.int (zI true)] ph1641
      refine w_ret (v := (some (.int (zI true)))) (ykc_7 (e := (7, .ireturn, 0)) rfl) zr_z ?_
      rw [hQ]
      exact ⟨fcl, h9cl, Or.inl ⟨s, hs, rfl, hcl⟩⟩
    · show zW n D 7 Q 10 [some (.ref F), some (.int (zn 41)), none] [.int (zI false)] ph1641
      refine w_ret (v := (some (.int (zI false)))) (ykc_7 (e := (7, .ireturn, 0)) rfl) zr_z ?_
      rw [hQ]
      exact ⟨fcl, h9cl, Or.inr ⟨hs, rfl⟩⟩
    
theorem zstep_dg {C W : List Nat} {cm : Nat → Bool} {dp dg c : Nat} {wt : Bool} (h : zdi c = false) : zstep c (C, W, cm, dp, dg, wt) = zstep c (C, W, cm, dp, 0, wt) := by
  unfold zstep
  simp [h]
theorem zc_take {ph : pm_H} {F : Nat} {C W : List Nat} {cm : Nat → Bool} {dp dg : Nat} {wt : Bool} {c : Nat} (hc : c < 256) (hiv : zIv (C, W, cm, dp, dg, wt)) (hF : zFs ph F (C, W, cm, dp, dg, wt)) (h40 : C.length + W.length < 40) : zM 4 [.ref F, .int (zn c)] ph (fun v0 q => zFf F ph q ∧ (∃ cm9, zFb q F cm9) ∧ ((∃ s, zstep c (C, W, cm, dp, dg, wt) = some s ∧ v0 = some (.int (zI true)) ∧ zFs q F s) ∨ (zstep c (C, W, cm, dp, dg, wt) = none ∧ v0 = some (.int (zI false))))) := by
  obtain ⟨Q, hQ⟩ : ∃ Q : Option Value → pm_H → Prop, Q = (fun v0 q => zFf F ph q ∧ (∃ cm9, zFb q F cm9) ∧ ((∃ s, zstep c (C, W, cm, dp, dg, wt) = some s ∧ v0 = some (.int (zI true)) ∧ zFs q F s) ∨ (zstep c (C, W, cm, dp, dg, wt) = none ∧ v0 = some (.int (zI false))))) := ⟨_, rfl⟩
  rw [← hQ]
  refine zM_mk fun n D => ?_
  show zW n D 4 Q 0 [some (.ref F), some (.int (zn c))] [] ph
  have c_0 : ((Int8.ofInt 48).toInt32).toInt = 48 := by decide
  have c_1 : ((Int8.ofInt 57).toInt32).toInt = 57 := by decide
  have c_2 : (Int32.ofInt 0).toInt = 0 := by decide
  have hF0 := hF
  obtain ⟨hp, hC, hW, hb, hd⟩ := hF
  have hp : zFp ph F := hp
  have hC : zFc ph F C := hC
  have hW : zFw ph F W := hW
  have hb : zFb ph F cm := hb
  have hd : zFd ph F dp dg wt := hd
  have tdp := znt (k := dp) (by have := hd.2.1; omega)
  have tdg := znt (k := dg) (by have := hd.2.2.2.1; omega)
  have hdp4 := hd.2.1
  have hdg3 := hd.2.2.2.1
  have tCl := znt (k := C.length) (by omega)
  have tWl := znt (k := W.length) (by omega)
  have tc := znt (k := c) (by omega)
  refine w_load (pc' := 1) (v := .int (zn c)) (m := 1) (ykc_4 (e := (2, .iload_n kF1, 0)) rfl) rfl rfl ?_
  refine w_push (pc' := 3) (v := .int ((Int8.ofInt 48).toInt32)) (m := 2) (ykc_4 (e := (1, .bipush 48, 0)) rfl) rfl rfl ?_
  refine w_ilt (ykc_4 (e := (4, .if_icmp .lt 18, 21)) rfl) rfl (fun b1642 => ?_) (fun b1642 => ?_)
  · refine w_load (pc' := 22) (v := .ref F) (m := 1) (ykc_4 (e := (2, .aload_n kF0, 0)) rfl) rfl rfl ?_
    refine w_alu (pc' := 23) (st' := [.int (Int32.ofInt 0), .ref F]) (ykc_4 (e := (0, .iconst 0, 0)) rfl) rfl rfl ?_
    refine w_pf (pc' := 26) (ykc_4 (e := (5, .putfield 60, 0)) rfl) rfl rfl (fun ph1644 u1643 => ?_)
    refine w_load (pc' := 27) (v := .ref F) (m := 1) (ykc_4 (e := (2, .aload_n kF0, 0)) rfl) rfl rfl ?_
    refine w_gf (pc' := 30) (v := .int (zI wt)) (ykc_4 (e := (5, .getfield 43, 0)) rfl) rfl ((u1643.2.1 F 7 (fun q => absurd q.2 (by decide))).trans hd.2.2.2.2) rfl ?_
    refine w_beq (ykc_4 (e := (4, .ifCond .eq 11, 41)) rfl) rfl (fun b1645 => ?_) (fun b1645 => ?_)
    · refine w_load (pc' := 42) (v := .ref F) (m := 1) (ykc_4 (e := (2, .aload_n kF0, 0)) rfl) rfl rfl ?_
      refine w_load (pc' := 43) (v := .int (zn c)) (m := 1) (ykc_4 (e := (2, .iload_n kF1, 0)) rfl) rfl rfl ?_
      have hnd : zdi c = false := zdi_f (by omega)
      have hwt : wt = false := b1645
      subst hwt
      have f1 : zFr [] [(F, 6)] ph ph1644 := zFr_st u1643 (Or.inr (by simp))
      have hF1 : zFs ph1644 F (C, W, cm, dp, 0, false) := zFs_mk ⟨zFp_F f1 (by simp) (by simp) hp, zFc_F f1 (by simp) (by simp) hC, zFw_F f1 (by simp) (by simp) hW, zFb_F f1 (by simp) (by simp) hb, ⟨(f1.1 F 5 (by simp) (by simp)).trans hd.1, hd.2.1, u1643.1, by decide, (f1.1 F 7 (by simp) (by simp)).trans hd.2.2.2.2⟩⟩
      rw [zstep_dg hnd] at hQ
      refine w_cv (as := [.ref F, .int (zn c)]) (r := []) (ykc_4 (e := (6, .invokevirtual 79, 0)) rfl) rfl rfl rfl rfl (zc_takeO hF1 h40 hc hnd) (fun v1646 ph1647 hv => ?_)
      rcases hv with ⟨ff, h9f, ⟨s, hs, rfl, hs2⟩ | ⟨hs, rfl⟩⟩
      · show zW n D 4 Q 46 [some (.ref F), some (.int (zn c))] [.int (zI true)] ph1647
        refine w_ret (v := (some (.int (zI true)))) (ykc_4 (e := (7, .ireturn, 0)) rfl) zr_z ?_
        rw [hQ]
        exact ⟨zFr_trans (zFr_mono f1 (by simp) (by simp)) ff, h9f, Or.inl ⟨s, hs, rfl, hs2⟩⟩
      · show zW n D 4 Q 46 [some (.ref F), some (.int (zn c))] [.int (zI false)] ph1647
        refine w_ret (v := (some (.int (zI false)))) (ykc_4 (e := (7, .ireturn, 0)) rfl) zr_z ?_
        rw [hQ]
        exact ⟨zFr_trans (zFr_mono f1 (by simp) (by simp)) ff, h9f, Or.inr ⟨hs, rfl⟩⟩
      
    · refine w_load (pc' := 34) (v := .ref F) (m := 1) (ykc_4 (e := (2, .aload_n kF0, 0)) rfl) rfl rfl ?_
      refine w_load (pc' := 35) (v := .int (zn c)) (m := 1) (ykc_4 (e := (2, .iload_n kF1, 0)) rfl) rfl rfl ?_
      have hnd : zdi c = false := zdi_f (by omega)
      have hwt : wt = true := b1645
      subst hwt
      have f1 : zFr [] [(F, 6)] ph ph1644 := zFr_st u1643 (Or.inr (by simp))
      have hF1 : zFs ph1644 F (C, W, cm, dp, 0, true) := zFs_mk ⟨zFp_F f1 (by simp) (by simp) hp, zFc_F f1 (by simp) (by simp) hC, zFw_F f1 (by simp) (by simp) hW, zFb_F f1 (by simp) (by simp) hb, ⟨(f1.1 F 5 (by simp) (by simp)).trans hd.1, hd.2.1, u1643.1, by decide, (f1.1 F 7 (by simp) (by simp)).trans hd.2.2.2.2⟩⟩
      rw [zstep_dg hnd] at hQ
      refine w_cv (as := [.ref F, .int (zn c)]) (r := []) (ykc_4 (e := (6, .invokevirtual 76, 0)) rfl) rfl rfl rfl rfl (zc_takeT hc hnd hF1 h40) (fun v1648 ph1649 hv => ?_)
      rcases hv with ⟨ff, h9f, ⟨s, hs, rfl, hs2⟩ | ⟨hs, rfl⟩⟩
      · show zW n D 4 Q 38 [some (.ref F), some (.int (zn c))] [.int (zI true)] ph1649
        refine w_br (pc' := 46) (st' := [.int (zI true)]) (ykc_4 (e := (4, .goto 8, 46)) rfl) rfl ?_
        refine w_ret (v := (some (.int (zI true)))) (ykc_4 (e := (7, .ireturn, 0)) rfl) zr_z ?_
        rw [hQ]
        exact ⟨zFr_trans (zFr_mono f1 (by simp) (by simp)) ff, h9f, Or.inl ⟨s, hs, rfl, hs2⟩⟩
      · show zW n D 4 Q 38 [some (.ref F), some (.int (zn c))] [.int (zI false)] ph1649
        refine w_br (pc' := 46) (st' := [.int (zI false)]) (ykc_4 (e := (4, .goto 8, 46)) rfl) rfl ?_
        refine w_ret (v := (some (.int (zI false)))) (ykc_4 (e := (7, .ireturn, 0)) rfl) zr_z ?_
        rw [hQ]
        exact ⟨zFr_trans (zFr_mono f1 (by simp) (by simp)) ff, h9f, Or.inr ⟨hs, rfl⟩⟩
      
  · refine w_load (pc' := 7) (v := .int (zn c)) (m := 1) (ykc_4 (e := (2, .iload_n kF1, 0)) rfl) rfl rfl ?_
    refine w_push (pc' := 9) (v := .int ((Int8.ofInt 57).toInt32)) (m := 2) (ykc_4 (e := (1, .bipush 57, 0)) rfl) rfl rfl ?_
    refine w_igt (ykc_4 (e := (4, .if_icmp .gt 12, 21)) rfl) rfl (fun b1650 => ?_) (fun b1650 => ?_)
    · refine w_load (pc' := 22) (v := .ref F) (m := 1) (ykc_4 (e := (2, .aload_n kF0, 0)) rfl) rfl rfl ?_
      refine w_alu (pc' := 23) (st' := [.int (Int32.ofInt 0), .ref F]) (ykc_4 (e := (0, .iconst 0, 0)) rfl) rfl rfl ?_
      refine w_pf (pc' := 26) (ykc_4 (e := (5, .putfield 60, 0)) rfl) rfl rfl (fun ph1652 u1651 => ?_)
      refine w_load (pc' := 27) (v := .ref F) (m := 1) (ykc_4 (e := (2, .aload_n kF0, 0)) rfl) rfl rfl ?_
      refine w_gf (pc' := 30) (v := .int (zI wt)) (ykc_4 (e := (5, .getfield 43, 0)) rfl) rfl ((u1651.2.1 F 7 (fun q => absurd q.2 (by decide))).trans hd.2.2.2.2) rfl ?_
      refine w_beq (ykc_4 (e := (4, .ifCond .eq 11, 41)) rfl) rfl (fun b1653 => ?_) (fun b1653 => ?_)
      · refine w_load (pc' := 42) (v := .ref F) (m := 1) (ykc_4 (e := (2, .aload_n kF0, 0)) rfl) rfl rfl ?_
        refine w_load (pc' := 43) (v := .int (zn c)) (m := 1) (ykc_4 (e := (2, .iload_n kF1, 0)) rfl) rfl rfl ?_
        have hnd : zdi c = false := zdi_f (by omega)
        have hwt : wt = false := b1653
        subst hwt
        have f1 : zFr [] [(F, 6)] ph ph1652 := zFr_st u1651 (Or.inr (by simp))
        have hF1 : zFs ph1652 F (C, W, cm, dp, 0, false) := zFs_mk ⟨zFp_F f1 (by simp) (by simp) hp, zFc_F f1 (by simp) (by simp) hC, zFw_F f1 (by simp) (by simp) hW, zFb_F f1 (by simp) (by simp) hb, ⟨(f1.1 F 5 (by simp) (by simp)).trans hd.1, hd.2.1, u1651.1, by decide, (f1.1 F 7 (by simp) (by simp)).trans hd.2.2.2.2⟩⟩
        rw [zstep_dg hnd] at hQ
        refine w_cv (as := [.ref F, .int (zn c)]) (r := []) (ykc_4 (e := (6, .invokevirtual 79, 0)) rfl) rfl rfl rfl rfl (zc_takeO hF1 h40 hc hnd) (fun v1654 ph1655 hv => ?_)
        rcases hv with ⟨ff, h9f, ⟨s, hs, rfl, hs2⟩ | ⟨hs, rfl⟩⟩
        · show zW n D 4 Q 46 [some (.ref F), some (.int (zn c))] [.int (zI true)] ph1655
          refine w_ret (v := (some (.int (zI true)))) (ykc_4 (e := (7, .ireturn, 0)) rfl) zr_z ?_
          rw [hQ]
          exact ⟨zFr_trans (zFr_mono f1 (by simp) (by simp)) ff, h9f, Or.inl ⟨s, hs, rfl, hs2⟩⟩
        · show zW n D 4 Q 46 [some (.ref F), some (.int (zn c))] [.int (zI false)] ph1655
          refine w_ret (v := (some (.int (zI false)))) (ykc_4 (e := (7, .ireturn, 0)) rfl) zr_z ?_
          rw [hQ]
          exact ⟨zFr_trans (zFr_mono f1 (by simp) (by simp)) ff, h9f, Or.inr ⟨hs, rfl⟩⟩
        
      · refine w_load (pc' := 34) (v := .ref F) (m := 1) (ykc_4 (e := (2, .aload_n kF0, 0)) rfl) rfl rfl ?_
        refine w_load (pc' := 35) (v := .int (zn c)) (m := 1) (ykc_4 (e := (2, .iload_n kF1, 0)) rfl) rfl rfl ?_
        have hnd : zdi c = false := zdi_f (by omega)
        have hwt : wt = true := b1653
        subst hwt
        have f1 : zFr [] [(F, 6)] ph ph1652 := zFr_st u1651 (Or.inr (by simp))
        have hF1 : zFs ph1652 F (C, W, cm, dp, 0, true) := zFs_mk ⟨zFp_F f1 (by simp) (by simp) hp, zFc_F f1 (by simp) (by simp) hC, zFw_F f1 (by simp) (by simp) hW, zFb_F f1 (by simp) (by simp) hb, ⟨(f1.1 F 5 (by simp) (by simp)).trans hd.1, hd.2.1, u1651.1, by decide, (f1.1 F 7 (by simp) (by simp)).trans hd.2.2.2.2⟩⟩
        rw [zstep_dg hnd] at hQ
        refine w_cv (as := [.ref F, .int (zn c)]) (r := []) (ykc_4 (e := (6, .invokevirtual 76, 0)) rfl) rfl rfl rfl rfl (zc_takeT hc hnd hF1 h40) (fun v1656 ph1657 hv => ?_)
        rcases hv with ⟨ff, h9f, ⟨s, hs, rfl, hs2⟩ | ⟨hs, rfl⟩⟩
        · show zW n D 4 Q 38 [some (.ref F), some (.int (zn c))] [.int (zI true)] ph1657
          refine w_br (pc' := 46) (st' := [.int (zI true)]) (ykc_4 (e := (4, .goto 8, 46)) rfl) rfl ?_
          refine w_ret (v := (some (.int (zI true)))) (ykc_4 (e := (7, .ireturn, 0)) rfl) zr_z ?_
          rw [hQ]
          exact ⟨zFr_trans (zFr_mono f1 (by simp) (by simp)) ff, h9f, Or.inl ⟨s, hs, rfl, hs2⟩⟩
        · show zW n D 4 Q 38 [some (.ref F), some (.int (zn c))] [.int (zI false)] ph1657
          refine w_br (pc' := 46) (st' := [.int (zI false)]) (ykc_4 (e := (4, .goto 8, 46)) rfl) rfl ?_
          refine w_ret (v := (some (.int (zI false)))) (ykc_4 (e := (7, .ireturn, 0)) rfl) zr_z ?_
          rw [hQ]
          exact ⟨zFr_trans (zFr_mono f1 (by simp) (by simp)) ff, h9f, Or.inr ⟨hs, rfl⟩⟩
        
    · refine w_load (pc' := 13) (v := .ref F) (m := 1) (ykc_4 (e := (2, .aload_n kF0, 0)) rfl) rfl rfl ?_
      refine w_load (pc' := 14) (v := .int (zn c)) (m := 1) (ykc_4 (e := (2, .iload_n kF1, 0)) rfl) rfl rfl ?_
      refine w_push (pc' := 16) (v := .int ((Int8.ofInt 48).toInt32)) (m := 2) (ykc_4 (e := (1, .bipush 48, 0)) rfl) rfl rfl ?_
      have e1658 : (zn c) - ((Int8.ofInt 48).toInt32) = zn (c - 48) := zsubN (a := c) (b := 48) tc c_0 (by omega)
      have te1658 := znt (k := c - 48) (by omega)
      refine w_alu (pc' := 17) (st' := [.int (zn (c - 48)), .ref F]) (ykc_4 (e := (0, .isub, 0)) rfl) (by show some ([.int ((zn c) - ((Int8.ofInt 48).toInt32)), .ref F] : List Value) = _; rw [e1658]) rfl ?_
      have e48 : 48 + (c - 48) = c := by omega
      refine w_cv (as := [.ref F, .int (zn (c - 48))]) (r := []) (ykc_4 (e := (6, .invokevirtual 73, 0)) rfl) rfl rfl rfl rfl (zc_takeD (d := c - 48) (by omega) hiv hF0 h40) (fun v1659 ph1660 hv => ?_)
      rcases hv with ⟨ff, h9f, ⟨s, hs, rfl, hs2⟩ | ⟨hs, rfl⟩⟩
      · show zW n D 4 Q 20 [some (.ref F), some (.int (zn c))] [.int (zI true)] ph1660
        refine w_ret (v := (some (.int (zI true)))) (ykc_4 (e := (7, .ireturn, 0)) rfl) zr_z ?_
        rw [e48] at hs
        rw [hQ]
        exact ⟨ff, h9f, Or.inl ⟨s, hs, rfl, hs2⟩⟩
      · show zW n D 4 Q 20 [some (.ref F), some (.int (zn c))] [.int (zI false)] ph1660
        refine w_ret (v := (some (.int (zI false)))) (ykc_4 (e := (7, .ireturn, 0)) rfl) zr_z ?_
        rw [e48] at hs
        rw [hQ]
        exact ⟨ff, h9f, Or.inr ⟨hs, rfl⟩⟩
      
theorem zc_start {ph : pm_H} {F : Nat} {cm : Nat → Bool} (hp : zFp ph F) (hb : zFb ph F cm) : zM 2 [.ref F] ph (fun v0 q => v0 = none ∧ zFf F ph q ∧ zFs q F ([], [], zub cm 0 false, 0, 0, true)) := by
  obtain ⟨Q, hQ⟩ : ∃ Q : Option Value → pm_H → Prop, Q = (fun v0 q => v0 = none ∧ zFf F ph q ∧ zFs q F ([], [], zub cm 0 false, 0, 0, true)) := ⟨_, rfl⟩
  rw [← hQ]
  refine zM_mk fun n D => ?_
  show zW n D 2 Q 0 [some (.ref F)] [] ph
  have c_0 : (Int32.ofInt 0).toInt = 0 := by decide
  have c_1 : (Int32.ofInt 1).toInt = 1 := by decide
  refine w_load (pc' := 1) (v := .ref F) (m := 1) (ykc_2 (e := (2, .aload_n kF0, 0)) rfl) rfl rfl ?_
  refine w_alu (pc' := 2) (st' := [.int (Int32.ofInt 0), .ref F]) (ykc_2 (e := (0, .iconst 0, 0)) rfl) rfl rfl ?_
  refine w_pf (pc' := 5) (ykc_2 (e := (5, .putfield 55, 0)) rfl) rfl rfl (fun ph1662 u1661 => ?_)
  refine w_load (pc' := 6) (v := .ref F) (m := 1) (ykc_2 (e := (2, .aload_n kF0, 0)) rfl) rfl rfl ?_
  refine w_alu (pc' := 7) (st' := [.int (Int32.ofInt 0), .ref F]) (ykc_2 (e := (0, .iconst 0, 0)) rfl) rfl rfl ?_
  refine w_pf (pc' := 10) (ykc_2 (e := (5, .putfield 57, 0)) rfl) rfl rfl (fun ph1664 u1663 => ?_)
  refine w_load (pc' := 11) (v := .ref F) (m := 1) (ykc_2 (e := (2, .aload_n kF0, 0)) rfl) rfl rfl ?_
  refine w_alu (pc' := 12) (st' := [.int (Int32.ofInt 0), .ref F]) (ykc_2 (e := (0, .iconst 0, 0)) rfl) rfl rfl ?_
  refine w_pf (pc' := 15) (ykc_2 (e := (5, .putfield 47, 0)) rfl) rfl rfl (fun ph1666 u1665 => ?_)
  refine w_load (pc' := 16) (v := .ref F) (m := 1) (ykc_2 (e := (2, .aload_n kF0, 0)) rfl) rfl rfl ?_
  refine w_alu (pc' := 17) (st' := [.int (Int32.ofInt 0), .ref F]) (ykc_2 (e := (0, .iconst 0, 0)) rfl) rfl rfl ?_
  refine w_pf (pc' := 20) (ykc_2 (e := (5, .putfield 60, 0)) rfl) rfl rfl (fun ph1668 u1667 => ?_)
  refine w_load (pc' := 21) (v := .ref F) (m := 1) (ykc_2 (e := (2, .aload_n kF0, 0)) rfl) rfl rfl ?_
  refine w_alu (pc' := 22) (st' := [.int (Int32.ofInt 1), .ref F]) (ykc_2 (e := (0, .iconst 1, 0)) rfl) rfl rfl ?_
  refine w_pf (pc' := 25) (ykc_2 (e := (5, .putfield 43, 0)) rfl) rfl rfl (fun ph1670 u1669 => ?_)
  refine w_load (pc' := 26) (v := .ref F) (m := 1) (ykc_2 (e := (2, .aload_n kF0, 0)) rfl) rfl rfl ?_
  refine w_gf (pc' := 29) (v := .ref (F + 3)) (ykc_2 (e := (5, .getfield 16, 0)) rfl) rfl ((u1669.2.1 F 4 (fun q => absurd q.2 (by decide))).trans ((u1667.2.1 F 4 (fun q => absurd q.2 (by decide))).trans ((u1665.2.1 F 4 (fun q => absurd q.2 (by decide))).trans ((u1663.2.1 F 4 (fun q => absurd q.2 (by decide))).trans ((u1661.2.1 F 4 (fun q => absurd q.2 (by decide))).trans hp.2.2))))) rfl ?_
  refine w_alu (pc' := 30) (st' := [.int (Int32.ofInt 0), .ref (F + 3)]) (ykc_2 (e := (0, .iconst 0, 0)) rfl) rfl rfl ?_
  refine w_alu (pc' := 31) (st' := [.int (Int32.ofInt 0), .int (Int32.ofInt 0), .ref (F + 3)]) (ykc_2 (e := (0, .iconst 0, 0)) rfl) rfl rfl ?_
  refine w_bas (pc' := 32) (k := 0) (ykc_2 (e := (5, .bastore, 0)) rfl) (by omega) rfl (fun ph1672 u1671 => ?_)
  refine w_ret (v := none) (ykc_2 (e := (7, .return_, 0)) rfl) (zr_v rfl) ?_
  have ff : zFr [F + 1, F + 2, F + 3] [(F, 1), (F, 3), (F, 5), (F, 6), (F, 7)] ph ph1672 := (show zFr [F + 1, F + 2, F + 3] [(F, 1), (F, 3), (F, 5), (F, 6), (F, 7)] ph ph1672 from (zFr_trans (zFr_trans (zFr_trans (zFr_trans (zFr_trans (zFr_st u1661 (Or.inr (by simp))) (zFr_st u1663 (Or.inr (by simp)))) (zFr_st u1665 (Or.inr (by simp)))) (zFr_st u1667 (Or.inr (by simp)))) (zFr_st u1669 (Or.inr (by simp)))) (zFr_st u1671 (Or.inl (by simp)))))
  rw [hQ]
  refine ⟨rfl, ff, zFs_mk ⟨zFp_F ff (by simp) (by simp) hp, ⟨((u1671.2.1 F 1 (fun q => by have q2 := q.1; omega)).trans ((u1669.2.1 F 1 (fun q => absurd q.2 (by decide))).trans ((u1667.2.1 F 1 (fun q => absurd q.2 (by decide))).trans ((u1665.2.1 F 1 (fun q => absurd q.2 (by decide))).trans ((u1663.2.1 F 1 (fun q => absurd q.2 (by decide))).trans u1661.1))))), fun i c h => by cases h⟩, ⟨((u1671.2.1 F 3 (fun q => by have q2 := q.1; omega)).trans ((u1669.2.1 F 3 (fun q => absurd q.2 (by decide))).trans ((u1667.2.1 F 3 (fun q => absurd q.2 (by decide))).trans ((u1665.2.1 F 3 (fun q => absurd q.2 (by decide))).trans u1663.1)))), fun i c h => by cases h⟩, fun i hi => ?_, ⟨((u1671.2.1 F 5 (fun q => by have q2 := q.1; omega)).trans ((u1669.2.1 F 5 (fun q => absurd q.2 (by decide))).trans ((u1667.2.1 F 5 (fun q => absurd q.2 (by decide))).trans u1665.1))), by decide, ((u1671.2.1 F 6 (fun q => by have q2 := q.1; omega)).trans ((u1669.2.1 F 6 (fun q => absurd q.2 (by decide))).trans u1667.1)), by decide, ((u1671.2.1 F 7 (fun q => by have q2 := q.1; omega)).trans u1669.1)⟩⟩⟩
  by_cases e : i = 0
  · subst e; rw [zub_e]; exact u1671.1
  · rw [zub_n e]; exact ((u1671.2.1 (F + 3) i (fun q => e q.2)).trans ((u1669.2.1 (F + 3) i (fun q => by have q2 := q.1; omega)).trans ((u1667.2.1 (F + 3) i (fun q => by have q2 := q.1; omega)).trans ((u1665.2.1 (F + 3) i (fun q => by have q2 := q.1; omega)).trans ((u1663.2.1 (F + 3) i (fun q => by have q2 := q.1; omega)).trans ((u1661.2.1 (F + 3) i (fun q => by have q2 := q.1; omega)).trans (hb i hi)))))))
theorem zc_default {ph : pm_H} {F : Nat} (hp : zFp ph F) (hC : zFc ph F []) : zM 3 [.ref F] ph (fun v0 q => v0 = none ∧ zFr [F + 1] [(F, 1)] ph q ∧ zFc q F [2004, 1000, 1001]) := by
  obtain ⟨Q, hQ⟩ : ∃ Q : Option Value → pm_H → Prop, Q = (fun v0 q => v0 = none ∧ zFr [F + 1] [(F, 1)] ph q ∧ zFc q F [2004, 1000, 1001]) := ⟨_, rfl⟩
  rw [← hQ]
  refine zM_mk fun n D => ?_
  show zW n D 3 Q 0 [some (.ref F)] [] ph
  have c_0 : ((Int16.ofInt 1000).toInt32).toInt = 1000 := by decide
  have c_1 : ((Int8.ofInt (-45)).toInt32).toInt = -45 := by decide
  have c_2 : ((Int8.ofInt 108).toInt32).toInt = 108 := by decide
  have c_3 : ((Int8.ofInt 98).toInt32).toInt = 98 := by decide
  refine w_load (pc' := 1) (v := .ref F) (m := 1) (ykc_3 (e := (2, .aload_n kF0, 0)) rfl) rfl rfl ?_
  refine w_push (pc' := 4) (v := .int ((Int16.ofInt 1000).toInt32)) (m := 3) (ykc_3 (e := (1, .sipush 1000, 0)) rfl) rfl rfl ?_
  refine w_push (pc' := 6) (v := .ref 1048626) (m := 2) (ykc_3 (e := (1, .ldc 63, 0)) rfl) rfl rfl ?_
  refine w_push (pc' := 8) (v := .int ((Int8.ofInt 108).toInt32)) (m := 2) (ykc_3 (e := (1, .bipush 108, 0)) rfl) rfl rfl ?_
  refine w_cvr (show Nat.blt 1048626 1048576 = false ∧ 1048626 - 1048576 = 50 from ⟨rfl, rfl⟩) (as := [.ref 1048626, .int ((Int8.ofInt 108).toInt32)]) (r := [.int ((Int16.ofInt 1000).toInt32), .ref F]) (ykc_3 (e := (6, .invokevirtual 65, 0)) rfl) rfl rfl rfl rfl ((show zM 308 [.ref 1048626, .int ((Int8.ofInt 108).toInt32)] ph _ from (show (Int8.ofInt 108).toInt32 = zn 108 by decide) ▸ zc_letter (c := 108) (ph := ph) (by decide))) (fun v1673 ph1674 hv => ?_)
  obtain ⟨rfl, hl9⟩ := hv
  obtain rfl := (show _ = some (Value.int (zn 1)) by
    rcases hl9 with ⟨h8, h9⟩ | ⟨h8, h9⟩
    · exact h9
    · exact absurd (show zlt 108 < 8 by decide) h8)
  show zW n D 3 Q 11 [some (.ref F)] [.int (zn 1), .int ((Int16.ofInt 1000).toInt32), .ref F] ph
  have e1675 : ((Int16.ofInt 1000).toInt32) + (zn 1) = zn (1001) := (zaddN (a := 1000) (b := 1) c_0 (znt (by omega)) (by omega)) 
  have te1675 := znt (k := 1001) (by omega)
  refine w_alu (pc' := 12) (st' := [.int (zn (1001)), .ref F]) (ykc_3 (e := (0, .iadd, 0)) rfl) (by rw [← e1675]; rfl) rfl ?_
  refine w_cv (as := [.ref F, .int (zn (1001))]) (r := []) (ykc_3 (e := (6, .invokevirtual 70, 0)) rfl) rfl rfl rfl rfl (zc_emit (k := 0) hp.1 hC.1 (by decide)) (fun v1676 ph1677 hv => ?_)
  obtain ⟨rfl, ea, g1_ea, g2_ea, g3_ea⟩ := hv
  show zW n D 3 Q 15 [some (.ref F)] [] ph1677
  refine w_load (pc' := 16) (v := .ref F) (m := 1) (ykc_3 (e := (2, .aload_n kF0, 0)) rfl) rfl rfl ?_
  refine w_push (pc' := 19) (v := .int ((Int16.ofInt 1000).toInt32)) (m := 3) (ykc_3 (e := (1, .sipush 1000, 0)) rfl) rfl rfl ?_
  refine w_push (pc' := 21) (v := .ref 1048626) (m := 2) (ykc_3 (e := (1, .ldc 63, 0)) rfl) rfl rfl ?_
  refine w_push (pc' := 23) (v := .int ((Int8.ofInt 98).toInt32)) (m := 2) (ykc_3 (e := (1, .bipush 98, 0)) rfl) rfl rfl ?_
  refine w_cvr (show Nat.blt 1048626 1048576 = false ∧ 1048626 - 1048576 = 50 from ⟨rfl, rfl⟩) (as := [.ref 1048626, .int ((Int8.ofInt 98).toInt32)]) (r := [.int ((Int16.ofInt 1000).toInt32), .ref F]) (ykc_3 (e := (6, .invokevirtual 65, 0)) rfl) rfl rfl rfl rfl ((show zM 308 [.ref 1048626, .int ((Int8.ofInt 98).toInt32)] ph1677 _ from (show (Int8.ofInt 98).toInt32 = zn 98 by decide) ▸ zc_letter (c := 98) (ph := ph1677) (by decide))) (fun v1678 ph1679 hv => ?_)
  obtain ⟨rfl, hl9⟩ := hv
  obtain rfl := (show _ = some (Value.int (zn 0)) by
    rcases hl9 with ⟨h8, h9⟩ | ⟨h8, h9⟩
    · exact h9
    · exact absurd (show zlt 98 < 8 by decide) h8)
  show zW n D 3 Q 26 [some (.ref F)] [.int (zn 0), .int ((Int16.ofInt 1000).toInt32), .ref F] ph1677
  have e1680 : ((Int16.ofInt 1000).toInt32) + (zn 0) = zn (1000) := (zaddN (a := 1000) (b := 0) c_0 (znt (by omega)) (by omega)) 
  have te1680 := znt (k := 1000) (by omega)
  refine w_alu (pc' := 27) (st' := [.int (zn (1000)), .ref F]) (ykc_3 (e := (0, .iadd, 0)) rfl) (by rw [← e1680]; rfl) rfl ?_
  refine w_cv (as := [.ref F, .int (zn (1000))]) (r := []) (ykc_3 (e := (6, .invokevirtual 70, 0)) rfl) rfl rfl rfl rfl (zc_emit (k := 1) ((ea.1 F 0 (by simp <;> omega) (by simp <;> omega)).trans hp.1) g1_ea (by decide)) (fun v1681 ph1682 hv => ?_)
  obtain ⟨rfl, eb, g1_eb, g2_eb, g3_eb⟩ := hv
  show zW n D 3 Q 30 [some (.ref F)] [] ph1682
  refine w_load (pc' := 31) (v := .ref F) (m := 1) (ykc_3 (e := (2, .aload_n kF0, 0)) rfl) rfl rfl ?_
  refine w_push (pc' := 33) (v := .int ((Int8.ofInt (-45)).toInt32)) (m := 2) (ykc_3 (e := (1, .bipush (-45), 0)) rfl) rfl rfl ?_
  refine w_cv (as := [.ref F, .int ((Int8.ofInt (-45)).toInt32)]) (r := []) (ykc_3 (e := (6, .invokevirtual 70, 0)) rfl) rfl rfl rfl rfl (zc_emit (k := 2) ((eb.1 F 0 (by simp <;> omega) (by simp <;> omega)).trans ((ea.1 F 0 (by simp <;> omega) (by simp <;> omega)).trans hp.1)) g1_eb (by decide)) (fun v1683 ph1684 hv => ?_)
  obtain ⟨rfl, ec, g1_ec, g2_ec, g3_ec⟩ := hv
  show zW n D 3 Q 36 [some (.ref F)] [] ph1684
  refine w_ret (v := none) (ykc_3 (e := (7, .return_, 0)) rfl) (zr_v rfl) ?_
  rw [hQ]
  have e3 : zcc 2004 = (Int8.ofInt (-45)).toInt32 := by decide
  refine ⟨rfl, zFr_trans ea (zFr_trans eb ec), g1_ec, fun i c h => ?_⟩
  rcases (show i = 0 ∨ i = 1 ∨ i = 2 ∨ 3 ≤ i by omega) with e | e | e | e
  · subst e; cases h; exact ⟨by rw [e3]; exact g2_ec, Or.inr (Or.inl (by decide))⟩
  · subst e; cases h; exact ⟨(g3_ec 1 (by decide)).trans g2_eb, Or.inl (by decide)⟩
  · subst e; cases h; exact ⟨(g3_ec 0 (by decide)).trans ((g3_eb 0 (by decide)).trans g2_ea), Or.inl (by decide)⟩
  · rw [List.getElem?_eq_none (by simpa using e)] at h; cases h
/-- what the class's reading of n signs comes to: so many signs were taken, s then -/
def zOut (n : Nat) (t : Nat → Nat) (s0 : zAs) (z : Int) (Cs : List Nat) : Prop := (n = 0 ∧ z = -1 ∧ Cs = [2004, 1000, 1001]) ∨ (0 < n ∧ n ≤ 40 ∧ z = -1 ∧ ∃ C W cm dg, zrn t s0 0 n = some (C, W, cm, 0, dg, false) ∧ Cs = (zrl 1 W C).2) ∨ (0 < n ∧ ∃ (p : Nat) (s : zAs), p ≤ n ∧ p ≤ 40 ∧ zrn t s0 0 p = some s ∧ z = (p : Int) ∧ ((p < n ∧ p < 40 ∧ zstep (t p) s = none) ∨ (p = 40 ∧ p < n) ∨ (p = n ∧ (s.2.2.2.2.2 = true ∨ 0 < s.2.2.2.1))))
theorem zc_fread {ph : pm_H} {F ln : Nat} {t : Nat → Nat} {cm : Nat → Bool} (hS : zSh ph) (hF : F = 11 ∨ F = 16) (hT : zTc ph ln t) (hp : zFp ph F) (hb : zFb ph F cm) : zM 1 [.ref F, .ref 1] ph (fun v0 q => zFf F ph q ∧ (∃ cm2, zFb q F cm2) ∧ ∃ (z : Int32) (Cs : List Nat), v0 = some (.int z) ∧ zOut ln t ([], [], zub cm 0 false, 0, 0, true) z.toInt Cs ∧ (z.toInt = -1 → zFc q F Cs)) := by
  obtain ⟨Q, hQ⟩ : ∃ Q : Option Value → pm_H → Prop, Q = (fun v0 q => zFf F ph q ∧ (∃ cm2, zFb q F cm2) ∧ ∃ (z : Int32) (Cs : List Nat), v0 = some (.int z) ∧ zOut ln t ([], [], zub cm 0 false, 0, 0, true) z.toInt Cs ∧ (z.toInt = -1 → zFc q F Cs)) := ⟨_, rfl⟩
  rw [← hQ]
  refine zM_mk fun n D => ?_
  show zW n D 1 Q 0 [some (.ref F), some (.ref 1), none, none] [] ph
  have c_0 : ((Int8.ofInt 40).toInt32).toInt = 40 := by decide
  have c_1 : (Int32.ofInt (-1)).toInt = -1 := by decide
  have c_2 : (Int32.ofInt 0).toInt = 0 := by decide
  have c_3 : (Int32.ofInt 1).toInt = 1 := by decide
  have hT0 := hT
  obtain ⟨gn, hn80, gt⟩ := hT
  have tn := znt (k := ln) (by omega)
  refine w_load (pc' := 1) (v := .ref F) (m := 1) (ykc_1 (e := (2, .aload_n kF0, 0)) rfl) rfl rfl ?_
  refine w_cv (as := [.ref F]) (r := []) (ykc_1 (e := (6, .invokevirtual 23, 0)) rfl) rfl rfl rfl rfl (zc_start hp hb) (fun v1685 ph1686 hv => ?_)
  obtain ⟨rfl, f0, hs0⟩ := hv
  have hS1 := zSh_F f0 (by rcases hF with e | e <;> subst e <;> decide +kernel) hS
  have hT1 := zTc_F f0 (by rcases hF with e | e <;> subst e <;> decide) (by rcases hF with e | e <;> subst e <;> decide) (by rcases hF with e | e <;> subst e <;> simp) hT0
  show zW n D 1 Q 4 [some (.ref F), some (.ref 1), none, none] [] ph1686
  refine w_load (pc' := 5) (v := .ref 1) (m := 1) (ykc_1 (e := (2, .aload_n kF1, 0)) rfl) rfl rfl ?_
  refine w_cv (as := [.ref 1]) (r := []) (ykc_1 (e := (6, .invokevirtual 29, 0)) rfl) rfl rfl rfl rfl (zc_tsize hT1.1) (fun v1687 ph1688 hv => ?_)
  obtain ⟨rfl, rfl⟩ := hv
  show zW n D 1 Q 8 [some (.ref F), some (.ref 1), none, none] [.int (zn ln)] ph1686
  refine w_store (pc' := 9) (L' := [some (.ref F), some (.ref 1), some (.int (zn ln)), none]) (st' := []) (m := 1) (ykc_1 (e := (3, .istore_n kF2, 0)) rfl) rfl rfl ?_
  refine w_load (pc' := 10) (v := .int (zn ln)) (m := 1) (ykc_1 (e := (2, .iload_n kF2, 0)) rfl) rfl rfl ?_
  refine w_zne (ykc_1 (e := (4, .ifCond .ne 9, 19)) rfl) rfl (fun b1689 => ?_) (fun b1689 => ?_)
  · refine w_alu (pc' := 20) (st' := [.int (Int32.ofInt 0)]) (ykc_1 (e := (0, .iconst 0, 0)) rfl) rfl rfl ?_
    refine w_store (pc' := 21) (L' := [some (.ref F), some (.ref 1), some (.int (zn ln)), some (.int (Int32.ofInt 0))]) (st' := []) (m := 1) (ykc_1 (e := (3, .istore_n kF3, 0)) rfl) rfl rfl ?_
    have hl : ∀ (n : Nat), ∀ (p : Nat) (s : zAs) (ph2 : pm_H), (p ≤ ln) → (p ≤ 40) → (zrn t ([], [], zub cm 0 false, 0, 0, true) 0 p = some s) → (zFf F ph1686 ph2) → (zFs ph2 F s) → (zIv s) → (zLn s ≤ p) → zW n D 1 Q 21 [some (.ref F), some (.ref 1), some (.int (zn ln)), some (.int (zn p))] [] ph2 := by
      intro n
      induction n using Nat.strongRecOn with
      | ind n ih =>
        intro p s ph2 hpn hp40 hr hf hs hi hlen
        have tp := znt (k := p) (by omega)
        have hS2 := zSh_F hf (by rcases hF with e | e <;> subst e <;> decide +kernel) hS1
        have hT2 := zTc_F hf (by rcases hF with e | e <;> subst e <;> decide) (by rcases hF with e | e <;> subst e <;> decide) (by rcases hF with e | e <;> subst e <;> simp) hT1
        obtain ⟨C, W, cm1, dp, dg, wt⟩ := s
        have hlen : C.length + W.length ≤ p := hlen
        have hd : zFd ph2 F dp dg wt := hs.2.2.2.2
        have tdp := znt (k := dp) (by have := hd.2.1; omega)
        refine w_load (pc' := 22) (v := .int (zn p)) (m := 1) (ykc_1 (e := (2, .iload_n kF3, 0)) rfl) rfl rfl ?_
        refine w_load (pc' := 23) (v := .int (zn ln)) (m := 1) (ykc_1 (e := (2, .iload_n kF2, 0)) rfl) rfl rfl ?_
        refine w_ige (ykc_1 (e := (4, .if_icmp .ge 29, 52)) rfl) rfl (fun b1690 => ?_) (fun b1690 => ?_)
        · refine w_load (pc' := 53) (v := .ref F) (m := 1) (ykc_1 (e := (2, .aload_n kF0, 0)) rfl) rfl rfl ?_
          refine w_gf (pc' := 56) (v := .int (zI wt)) (ykc_1 (e := (5, .getfield 43, 0)) rfl) rfl hd.2.2.2.2 rfl ?_
          refine w_bne (ykc_1 (e := (4, .ifCond .ne 10, 66)) rfl) rfl (fun b1691 => ?_) (fun b1691 => ?_)
          · refine w_load (pc' := 67) (v := .int (zn ln)) (m := 1) (ykc_1 (e := (2, .iload_n kF2, 0)) rfl) rfl rfl ?_
            refine w_ret (v := (some (.int (zn ln)))) (ykc_1 (e := (7, .ireturn, 0)) rfl) (zr_v rfl) ?_
            have ep : p = ln := by omega
            rw [hQ]
            exact ⟨zFr_trans f0 hf, ⟨cm1, hs.2.2.2.1⟩, _, [], rfl, Or.inr (Or.inr ⟨by omega, p, _, hpn, hp40, hr, by omega, Or.inr (Or.inr ⟨ep, Or.inl b1691⟩)⟩), fun q => absurd q (by omega)⟩
          · refine w_load (pc' := 60) (v := .ref F) (m := 1) (ykc_1 (e := (2, .aload_n kF0, 0)) rfl) rfl rfl ?_
            refine w_gf (pc' := 63) (v := .int (zn dp)) (ykc_1 (e := (5, .getfield 47, 0)) rfl) rfl hd.1 rfl ?_
            refine w_zle (ykc_1 (e := (4, .ifCond .le 5, 68)) rfl) rfl (fun b1692 => ?_) (fun b1692 => ?_)
            · refine w_load (pc' := 69) (v := .ref F) (m := 1) (ykc_1 (e := (2, .aload_n kF0, 0)) rfl) rfl rfl ?_
              refine w_alu (pc' := 70) (st' := [.int (Int32.ofInt 1), .ref F]) (ykc_1 (e := (0, .iconst 1, 0)) rfl) rfl rfl ?_
              refine w_cv (as := [.ref F, .int (Int32.ofInt 1)]) (r := []) (ykc_1 (e := (6, .invokevirtual 51, 0)) rfl) rfl rfl rfl rfl (zc_release (b := 1) hs.1 hs.2.1 hs.2.2.1 (by omega) (by decide) (by show C.length + W.length ≤ 40; omega)) (fun v1693 ph1694 hv => ?_)
              obtain ⟨rfl, frl, hcr, hwr⟩ := hv
              show zW n D 1 Q 73 [some (.ref F), some (.ref 1), some (.int (zn ln)), some (.int (zn p))] [] ph1694
              refine w_alu (pc' := 74) (st' := [.int (Int32.ofInt (-1))]) (ykc_1 (e := (0, .iconst (-1), 0)) rfl) rfl rfl ?_
              refine w_ret (v := (some (.int (Int32.ofInt (-1))))) (ykc_1 (e := (7, .ireturn, 0)) rfl) (zr_v rfl) ?_
              have h0 : (Int32.ofInt (-1)).toInt = -1 := by decide
              have ep : p = ln := by omega
              have ew : wt = false := b1691
              have ed : dp = 0 := by omega
              subst ep ew ed
              rw [hQ]
              exact ⟨zFr_trans f0 (zFr_trans hf (zFr_mono frl (by simp) (by simp))), ⟨cm1, zFb_F frl (by simp) (by simp) hs.2.2.2.1⟩, _, _, rfl, Or.inr (Or.inl ⟨by omega, hp40, h0, C, W, cm1, dg, hr, rfl⟩), fun _ => hcr⟩
            · refine w_load (pc' := 67) (v := .int (zn ln)) (m := 1) (ykc_1 (e := (2, .iload_n kF2, 0)) rfl) rfl rfl ?_
              refine w_ret (v := (some (.int (zn ln)))) (ykc_1 (e := (7, .ireturn, 0)) rfl) (zr_v rfl) ?_
              have ep : p = ln := by omega
              rw [hQ]
              exact ⟨zFr_trans f0 hf, ⟨cm1, hs.2.2.2.1⟩, _, [], rfl, Or.inr (Or.inr ⟨by omega, p, _, hpn, hp40, hr, by omega, Or.inr (Or.inr ⟨ep, Or.inr (by show 0 < dp; omega)⟩)⟩), fun q => absurd q (by omega)⟩
        · refine w_load (pc' := 27) (v := .int (zn p)) (m := 1) (ykc_1 (e := (2, .iload_n kF3, 0)) rfl) rfl rfl ?_
          refine w_push (pc' := 29) (v := .int ((Int8.ofInt 40).toInt32)) (m := 2) (ykc_1 (e := (1, .bipush 40, 0)) rfl) rfl rfl ?_
          refine w_ieq (ykc_1 (e := (4, .if_icmp .eq 15, 44)) rfl) rfl (fun b1695 => ?_) (fun b1695 => ?_)
          · refine w_load (pc' := 45) (v := .int (zn p)) (m := 1) (ykc_1 (e := (2, .iload_n kF3, 0)) rfl) rfl rfl ?_
            refine w_ret (v := (some (.int (zn p)))) (ykc_1 (e := (7, .ireturn, 0)) rfl) (zr_v rfl) ?_
            rw [hQ]
            exact ⟨zFr_trans f0 hf, ⟨cm1, hs.2.2.2.1⟩, _, [], rfl, Or.inr (Or.inr ⟨by omega, p, _, hpn, hp40, hr, tp, Or.inr (Or.inl ⟨by omega, by omega⟩)⟩), fun q => absurd q (by omega)⟩
          · refine w_load (pc' := 33) (v := .ref F) (m := 1) (ykc_1 (e := (2, .aload_n kF0, 0)) rfl) rfl rfl ?_
            refine w_load (pc' := 34) (v := .ref 1) (m := 1) (ykc_1 (e := (2, .aload_n kF1, 0)) rfl) rfl rfl ?_
            refine w_load (pc' := 35) (v := .int (zn p)) (m := 1) (ykc_1 (e := (2, .iload_n kF3, 0)) rfl) rfl rfl ?_
            refine w_cv (as := [.ref 1, .int (zn p)]) (r := [.ref F]) (ykc_1 (e := (6, .invokevirtual 35, 0)) rfl) rfl rfl rfl rfl (zc_at hS2 hT2 (k := p) (by omega)) (fun v1696 ph1697 hv => ?_)
            obtain ⟨rfl, xa, rfl, exa⟩ := hv
            have da := @zTi_c ln p t
            have hgt := (gt p (by omega)).2
            obtain rfl : xa = zn (t p) := zn_of (by omega)
            show zW n D 1 Q 38 [some (.ref F), some (.ref 1), some (.int (zn ln)), some (.int (zn p))] [.int (zn (t p)), .ref F] ph2
            refine w_cv (as := [.ref F, .int (zn (t p))]) (r := []) (ykc_1 (e := (6, .invokevirtual 39, 0)) rfl) rfl rfl rfl rfl (zc_take (by omega) hi hs (by omega)) (fun v1698 ph1699 hv => ?_)
            rcases hv with ⟨ft, ⟨cm9, hcm9⟩, ⟨s2, h1, rfl, h2⟩ | ⟨h1, rfl⟩⟩
            · show zW n D 1 Q 41 [some (.ref F), some (.ref 1), some (.int (zn ln)), some (.int (zn p))] [.int (zI true)] ph1699
              refine w_bne (ykc_1 (e := (4, .ifCond .ne 5, 46)) rfl) rfl (fun b1700 => ?_) (fun q => absurd q (by decide))
              have e1701 : (zn p) + Int32.ofInt 1 = zn (p + 1) := (zaddN (a := p) (b := 1) (znt (by omega)) c_3 (by omega))
              have te1701 := znt (k := p + 1) (by omega)
              refine w_store (pc' := 49) (L' := [some (.ref F), some (.ref 1), some (.int (zn ln)), some (.int (zn (p + 1)))]) (st' := []) (m := 3) (ykc_1 (e := (3, .iinc 3 1, 0)) rfl) (by rw [← e1701]; rfl) rfl ?_
              refine w_gb (ykc_1 (e := (4, .goto (-28), 21)) rfl) (fun k1702 hk1702 => ?_)
              obtain ⟨hi2, hl2⟩ := zstep_iv hi h1
              exact ih k1702 hk1702 (p + 1) s2 _ (by omega) (by omega) (by show (zrn t _ 0 p).bind (zstep (t (0 + p))) = some s2; rw [hr, Nat.zero_add]; exact h1) (zFr_trans hf ft) h2 hi2 (Nat.le_trans hl2 (by show C.length + W.length + 1 ≤ p + 1; omega))
            · show zW n D 1 Q 41 [some (.ref F), some (.ref 1), some (.int (zn ln)), some (.int (zn p))] [.int (zI false)] ph1699
              refine w_bne (ykc_1 (e := (4, .ifCond .ne 5, 46)) rfl) rfl (fun q => absurd q (by decide)) (fun b1703 => ?_)
              refine w_load (pc' := 45) (v := .int (zn p)) (m := 1) (ykc_1 (e := (2, .iload_n kF3, 0)) rfl) rfl rfl ?_
              refine w_ret (v := (some (.int (zn p)))) (ykc_1 (e := (7, .ireturn, 0)) rfl) (zr_v rfl) ?_
              rw [hQ]
              exact ⟨zFr_trans f0 (zFr_trans hf ft), ⟨cm9, hcm9⟩, _, [], rfl, Or.inr (Or.inr ⟨by omega, p, _, hpn, hp40, hr, tp, Or.inl ⟨by omega, by omega, h1⟩⟩), fun q => absurd q (by omega)⟩
            
    exact hl n 0 _ ph1686 (Nat.zero_le _) (Nat.zero_le _) rfl zFr_refl hs0 (fun h => absurd h (by show ¬ 1 ≤ 0; decide)) (Nat.le_refl _)
  · refine w_load (pc' := 14) (v := .ref F) (m := 1) (ykc_1 (e := (2, .aload_n kF0, 0)) rfl) rfl rfl ?_
    refine w_cv (as := [.ref F]) (r := []) (ykc_1 (e := (6, .invokevirtual 26, 0)) rfl) rfl rfl rfl rfl (zc_default hs0.1 hs0.2.1) (fun v1704 ph1705 hv => ?_)
    obtain ⟨rfl, fd, hcd⟩ := hv
    show zW n D 1 Q 17 [some (.ref F), some (.ref 1), some (.int (zn ln)), none] [] ph1705
    refine w_alu (pc' := 18) (st' := [.int (Int32.ofInt (-1))]) (ykc_1 (e := (0, .iconst (-1), 0)) rfl) rfl rfl ?_
    refine w_ret (v := (some (.int (Int32.ofInt (-1))))) (ykc_1 (e := (7, .ireturn, 0)) rfl) (zr_v rfl) ?_
    have h0 : (Int32.ofInt (-1)).toInt = -1 := by decide
    rw [hQ]
    exact ⟨zFr_trans f0 (zFr_mono fd (by simp) (by simp)), ⟨_, zFb_F fd (by simp) (by simp) hs0.2.2.2.1⟩, _, [2004, 1000, 1001], rfl, Or.inl ⟨by omega, h0, rfl⟩, fun _ => hcd⟩
