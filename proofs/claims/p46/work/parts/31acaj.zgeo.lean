/-! steps and acts, the reference, by W; printed by wip/z/z_h_geo.py -/
/-- rows down, columns to the right, by a way -/
def zdn (w : Nat) : Int := if w = 7 ∨ w < 2 then -1 else if 2 < w ∧ w < 6 then 1 else 0
def zrg (w : Nat) : Int := if 0 < w ∧ w < 4 then 1 else if 4 < w then -1 else 0
theorem zdn_b {w : Nat} : -1 ≤ zdn w ∧ zdn w ≤ 1 := by
  unfold zdn
  (repeat' split) <;> omega
theorem zrt_b {w : Nat} : -1 ≤ zrg w ∧ zrg w ≤ 1 := by
  unfold zrg
  (repeat' split) <;> omega
/-- the FIELD a step leads to, or -1 -/
def zin (R C f w : Nat) : Bool := decide (0 ≤ ((f / C : Nat) : Int) + zdn w ∧ ((f / C : Nat) : Int) + zdn w < (R : Int) ∧ 0 ≤ ((f % C : Nat) : Int) + zrg w ∧ ((f % C : Nat) : Int) + zrg w < (C : Int))
def zto (C f w : Nat) : Nat := C * (((f / C : Nat) : Int) + zdn w).toNat + (((f % C : Nat) : Int) + zrg w).toNat
def zbf (R C f w : Nat) : Int := if zin R C f w = true then (zto C f w : Int) else -1
theorem zto_lt {R C f w : Nat} (h : zin R C f w = true) : zto C f w < R * C := by
  have h := of_decide_eq_true h
  have h1 : (((f / C : Nat) : Int) + zdn w).toNat + 1 ≤ R := by omega
  have h2 : (((f % C : Nat) : Int) + zrg w).toNat < C := by omega
  have h3 : C * ((((f / C : Nat) : Int) + zdn w).toNat + 1) ≤ C * R := Nat.mul_le_mul_left C h1
  rw [Nat.mul_add, Nat.mul_comm C R] at h3
  unfold zto
  omega
theorem zbf_b {R C f w : Nat} : -1 ≤ zbf R C f w ∧ zbf R C f w < ((R * C : Nat) : Int) ∨ R * C = 0 := by
  unfold zbf
  split
  · next h => have := zto_lt h; omega
  · omega
theorem zm_beside {ph : pm_H} {R C : Nat} {rk : Nat → Bool} (hS : zSh ph) (hL : zMl ph R C rk) {f w : Nat} (hf : f < R * C) (hw : w < 8) : zM 192 [.ref 170, .int (zn f), .int (zn w)] ph (fun v0 q => ph = q ∧ ∃ z : Int32, v0 = some (.int z) ∧ z.toInt = zbf R C f w) := by
  obtain ⟨Q, hQ⟩ : ∃ Q : Option Value → pm_H → Prop, Q = (fun v0 q => ph = q ∧ ∃ z : Int32, v0 = some (.int z) ∧ z.toInt = zbf R C f w) := ⟨_, rfl⟩
  rw [← hQ]
  refine zM_mk fun n D => ?_
  show zW n D 192 Q 0 [some (.ref 170), some (.int (zn f)), some (.int (zn w)), none, none] [] ph
  have c_0 : ((Int8.ofInt 6).toInt32).toInt = 6 := by decide +kernel
  have c_1 : ((Int8.ofInt 7).toInt32).toInt = 7 := by decide +kernel
  have c_2 : (Int32.ofInt (-1)).toInt = -1 := by decide +kernel
  have c_3 : (Int32.ofInt 0).toInt = 0 := by decide +kernel
  have c_4 : (Int32.ofInt 1).toInt = 1 := by decide +kernel
  have c_5 : (Int32.ofInt 2).toInt = 2 := by decide +kernel
  have c_6 : (Int32.ofInt 4).toInt = 4 := by decide +kernel
  have hS0 := hS
  have hL0 := hL
  obtain ⟨gR, gC, gK, hR3, hR7, hC3, hC7⟩ := hL
  have hRC := zRC49 hR7 hC7
  have tR := znt (k := R) (by omega)
  have tC := znt (k := C) (by omega)
  have tf := znt (k := f) (by omega)
  have tw := znt (k := w) (by omega)
  have a1 : f / C < R := (Nat.div_lt_iff_lt_mul (by omega)).mpr hf
  have a2 := Nat.mod_lt f (show 0 < C by omega)
  have p1 := Nat.zero_le (f / C)
  have p2 := Nat.zero_le (f % C)
  have d1 := @zdn_b w
  have d2 := @zrt_b w
  refine w_load (pc' := 1) (v := .int (zn f)) (m := 1) (ykc_192 (e := (2, .iload_n kF1, 0)) rfl) rfl rfl ?_
  refine w_load (pc' := 2) (v := .ref 170) (m := 1) (ykc_192 (e := (2, .aload_n kF0, 0)) rfl) rfl rfl ?_
  refine w_gf (pc' := 5) (v := .int (zn C)) (ykc_192 (e := (5, .getfield 27, 0)) rfl) rfl gC rfl ?_
  refine w_idiv (pc' := 6) (ykc_192 (e := (0, .idiv, 0)) rfl) rfl (fun d404 => ?_)
  have e405 : (zn f) / (zn C) = zn (f / C) := zn_of (zdivN (by omega) (by omega) (by omega))
  have te405 := znt (k := f / C) (by omega)
  rw [e405]
  show zW n D 192 Q 6 [some (.ref 170), some (.int (zn f)), some (.int (zn w)), none, none] [.int (zn (f / C))] ph
  refine w_load (pc' := 7) (v := .int (zn w)) (m := 1) (ykc_192 (e := (2, .iload_n kF2, 0)) rfl) rfl rfl ?_
  refine w_push (pc' := 9) (v := .int ((Int8.ofInt 7).toInt32)) (m := 2) (ykc_192 (e := (1, .bipush 7, 0)) rfl) rfl rfl ?_
  suffices j407 : ∀ y_ : Int32, (y_.toInt = zdn w) → zW n D 192 Q 37 [some (.ref 170), some (.int (zn f)), some (.int (zn w)), none, none] [.int y_, .int (zn (f / C))] ph by
    refine w_ieq (ykc_192 (e := (4, .if_icmp .eq 8, 17)) rfl) rfl (fun b408 => ?_) (fun b408 => ?_)
    · refine w_alu (pc' := 18) (st' := [.int (Int32.ofInt (-1)), .int (zn (f / C))]) (ykc_192 (e := (0, .iconst (-1), 0)) rfl) rfl rfl ?_
      refine w_br (pc' := 37) (st' := [.int (Int32.ofInt (-1)), .int (zn (f / C))]) (ykc_192 (e := (4, .goto 19, 37)) rfl) rfl ?_
      exact j407 (Int32.ofInt (-1)) (by unfold zdn; (repeat' split) <;> omega)
    · refine w_load (pc' := 13) (v := .int (zn w)) (m := 1) (ykc_192 (e := (2, .iload_n kF2, 0)) rfl) rfl rfl ?_
      refine w_alu (pc' := 14) (st' := [.int (Int32.ofInt 2), .int (zn w), .int (zn (f / C))]) (ykc_192 (e := (0, .iconst 2, 0)) rfl) rfl rfl ?_
      refine w_ige (ykc_192 (e := (4, .if_icmp .ge 7, 21)) rfl) rfl (fun b409 => ?_) (fun b409 => ?_)
      · refine w_load (pc' := 22) (v := .int (zn w)) (m := 1) (ykc_192 (e := (2, .iload_n kF2, 0)) rfl) rfl rfl ?_
        refine w_alu (pc' := 23) (st' := [.int (Int32.ofInt 2), .int (zn w), .int (zn (f / C))]) (ykc_192 (e := (0, .iconst 2, 0)) rfl) rfl rfl ?_
        refine w_ile (ykc_192 (e := (4, .if_icmp .le 13, 36)) rfl) rfl (fun b410 => ?_) (fun b410 => ?_)
        · refine w_alu (pc' := 37) (st' := [.int (Int32.ofInt 0), .int (zn (f / C))]) (ykc_192 (e := (0, .iconst 0, 0)) rfl) rfl rfl ?_
          exact j407 (Int32.ofInt 0) (by unfold zdn; (repeat' split) <;> omega)
        · refine w_load (pc' := 27) (v := .int (zn w)) (m := 1) (ykc_192 (e := (2, .iload_n kF2, 0)) rfl) rfl rfl ?_
          refine w_push (pc' := 29) (v := .int ((Int8.ofInt 6).toInt32)) (m := 2) (ykc_192 (e := (1, .bipush 6, 0)) rfl) rfl rfl ?_
          refine w_ige (ykc_192 (e := (4, .if_icmp .ge 7, 36)) rfl) rfl (fun b411 => ?_) (fun b411 => ?_)
          · refine w_alu (pc' := 37) (st' := [.int (Int32.ofInt 0), .int (zn (f / C))]) (ykc_192 (e := (0, .iconst 0, 0)) rfl) rfl rfl ?_
            exact j407 (Int32.ofInt 0) (by unfold zdn; (repeat' split) <;> omega)
          · refine w_alu (pc' := 33) (st' := [.int (Int32.ofInt 1), .int (zn (f / C))]) (ykc_192 (e := (0, .iconst 1, 0)) rfl) rfl rfl ?_
            refine w_br (pc' := 37) (st' := [.int (Int32.ofInt 1), .int (zn (f / C))]) (ykc_192 (e := (4, .goto 4, 37)) rfl) rfl ?_
            exact j407 (Int32.ofInt 1) (by unfold zdn; (repeat' split) <;> omega)
      · refine w_alu (pc' := 18) (st' := [.int (Int32.ofInt (-1)), .int (zn (f / C))]) (ykc_192 (e := (0, .iconst (-1), 0)) rfl) rfl rfl ?_
        refine w_br (pc' := 37) (st' := [.int (Int32.ofInt (-1)), .int (zn (f / C))]) (ykc_192 (e := (4, .goto 19, 37)) rfl) rfl ?_
        exact j407 (Int32.ofInt (-1)) (by unfold zdn; (repeat' split) <;> omega)
  intro y406 h_y406
  show zW n D 192 Q 37 [some (.ref 170), some (.int (zn f)), some (.int (zn w)), none, none] [.int y406, .int (zn (f / C))] ph
  obtain ⟨z412, e_z412, h_z412⟩ : ∃ zq : Int32, (zn (f / C)) + y406 = zq ∧ zq.toInt = ((f / C : Nat) : Int) + (zdn w) := ⟨_, rfl, (by have := ti_add (x := (zn (f / C))) (y := y406) (by omega) (by omega); omega)⟩
  refine w_alu (pc' := 38) (st' := [.int z412]) (ykc_192 (e := (0, .iadd, 0)) rfl) (by rw [← e_z412]; rfl) rfl ?_
  refine w_store (pc' := 39) (L' := [some (.ref 170), some (.int (zn f)), some (.int (zn w)), some (.int z412), none]) (st' := []) (m := 1) (ykc_192 (e := (3, .istore_n kF3, 0)) rfl) rfl rfl ?_
  refine w_load (pc' := 40) (v := .int (zn f)) (m := 1) (ykc_192 (e := (2, .iload_n kF1, 0)) rfl) rfl rfl ?_
  refine w_load (pc' := 41) (v := .ref 170) (m := 1) (ykc_192 (e := (2, .aload_n kF0, 0)) rfl) rfl rfl ?_
  refine w_gf (pc' := 44) (v := .int (zn C)) (ykc_192 (e := (5, .getfield 27, 0)) rfl) rfl gC rfl ?_
  refine w_irem (pc' := 45) (ykc_192 (e := (0, .irem, 0)) rfl) rfl (fun d413 => ?_)
  have e414 : (zn f) - (zn f) / (zn C) * (zn C) = zn (f % C) := zn_of (zremN (by omega) (by omega) (by omega))
  have te414 := znt (k := f % C) (by omega)
  rw [e414]
  show zW n D 192 Q 45 [some (.ref 170), some (.int (zn f)), some (.int (zn w)), some (.int z412), none] [.int (zn (f % C))] ph
  refine w_load (pc' := 46) (v := .int (zn w)) (m := 1) (ykc_192 (e := (2, .iload_n kF2, 0)) rfl) rfl rfl ?_
  suffices j416 : ∀ y_ : Int32, (y_.toInt = zrg w) → zW n D 192 Q 68 [some (.ref 170), some (.int (zn f)), some (.int (zn w)), some (.int z412), none] [.int y_, .int (zn (f % C))] ph by
    refine w_zle (ykc_192 (e := (4, .ifCond .le 12, 58)) rfl) rfl (fun b417 => ?_) (fun b417 => ?_)
    · refine w_load (pc' := 59) (v := .int (zn w)) (m := 1) (ykc_192 (e := (2, .iload_n kF2, 0)) rfl) rfl rfl ?_
      refine w_alu (pc' := 60) (st' := [.int (Int32.ofInt 4), .int (zn w), .int (zn (f % C))]) (ykc_192 (e := (0, .iconst 4, 0)) rfl) rfl rfl ?_
      refine w_ile (ykc_192 (e := (4, .if_icmp .le 7, 67)) rfl) rfl (fun b418 => ?_) (fun b418 => ?_)
      · refine w_alu (pc' := 68) (st' := [.int (Int32.ofInt 0), .int (zn (f % C))]) (ykc_192 (e := (0, .iconst 0, 0)) rfl) rfl rfl ?_
        exact j416 (Int32.ofInt 0) (by unfold zrg; (repeat' split) <;> omega)
      · refine w_alu (pc' := 64) (st' := [.int (Int32.ofInt (-1)), .int (zn (f % C))]) (ykc_192 (e := (0, .iconst (-1), 0)) rfl) rfl rfl ?_
        refine w_br (pc' := 68) (st' := [.int (Int32.ofInt (-1)), .int (zn (f % C))]) (ykc_192 (e := (4, .goto 4, 68)) rfl) rfl ?_
        exact j416 (Int32.ofInt (-1)) (by unfold zrg; (repeat' split) <;> omega)
    · refine w_load (pc' := 50) (v := .int (zn w)) (m := 1) (ykc_192 (e := (2, .iload_n kF2, 0)) rfl) rfl rfl ?_
      refine w_alu (pc' := 51) (st' := [.int (Int32.ofInt 4), .int (zn w), .int (zn (f % C))]) (ykc_192 (e := (0, .iconst 4, 0)) rfl) rfl rfl ?_
      refine w_ige (ykc_192 (e := (4, .if_icmp .ge 7, 58)) rfl) rfl (fun b419 => ?_) (fun b419 => ?_)
      · refine w_load (pc' := 59) (v := .int (zn w)) (m := 1) (ykc_192 (e := (2, .iload_n kF2, 0)) rfl) rfl rfl ?_
        refine w_alu (pc' := 60) (st' := [.int (Int32.ofInt 4), .int (zn w), .int (zn (f % C))]) (ykc_192 (e := (0, .iconst 4, 0)) rfl) rfl rfl ?_
        refine w_ile (ykc_192 (e := (4, .if_icmp .le 7, 67)) rfl) rfl (fun b420 => ?_) (fun b420 => ?_)
        · refine w_alu (pc' := 68) (st' := [.int (Int32.ofInt 0), .int (zn (f % C))]) (ykc_192 (e := (0, .iconst 0, 0)) rfl) rfl rfl ?_
          exact j416 (Int32.ofInt 0) (by unfold zrg; (repeat' split) <;> omega)
        · refine w_alu (pc' := 64) (st' := [.int (Int32.ofInt (-1)), .int (zn (f % C))]) (ykc_192 (e := (0, .iconst (-1), 0)) rfl) rfl rfl ?_
          refine w_br (pc' := 68) (st' := [.int (Int32.ofInt (-1)), .int (zn (f % C))]) (ykc_192 (e := (4, .goto 4, 68)) rfl) rfl ?_
          exact j416 (Int32.ofInt (-1)) (by unfold zrg; (repeat' split) <;> omega)
      · refine w_alu (pc' := 55) (st' := [.int (Int32.ofInt 1), .int (zn (f % C))]) (ykc_192 (e := (0, .iconst 1, 0)) rfl) rfl rfl ?_
        refine w_br (pc' := 68) (st' := [.int (Int32.ofInt 1), .int (zn (f % C))]) (ykc_192 (e := (4, .goto 13, 68)) rfl) rfl ?_
        exact j416 (Int32.ofInt 1) (by unfold zrg; (repeat' split) <;> omega)
  intro y415 h_y415
  show zW n D 192 Q 68 [some (.ref 170), some (.int (zn f)), some (.int (zn w)), some (.int z412), none] [.int y415, .int (zn (f % C))] ph
  obtain ⟨z421, e_z421, h_z421⟩ : ∃ zq : Int32, (zn (f % C)) + y415 = zq ∧ zq.toInt = ((f % C : Nat) : Int) + (zrg w) := ⟨_, rfl, (by have := ti_add (x := (zn (f % C))) (y := y415) (by omega) (by omega); omega)⟩
  refine w_alu (pc' := 69) (st' := [.int z421]) (ykc_192 (e := (0, .iadd, 0)) rfl) (by rw [← e_z421]; rfl) rfl ?_
  refine w_store (pc' := 71) (L' := [some (.ref 170), some (.int (zn f)), some (.int (zn w)), some (.int z412), some (.int z421)]) (st' := []) (m := 2) (ykc_192 (e := (3, .istore 4, 0)) rfl) rfl rfl ?_
  refine w_load (pc' := 72) (v := .int z412) (m := 1) (ykc_192 (e := (2, .iload_n kF3, 0)) rfl) rfl rfl ?_
  refine w_alu (pc' := 73) (st' := [.long z412.toInt64]) (ykc_192 (e := (0, .i2l, 0)) rfl) rfl rfl ?_
  refine w_alu (pc' := 74) (st' := [.long (Int64.ofNat kG0), .long z412.toInt64]) (ykc_192 (e := (0, .lconst kG0, 0)) rfl) rfl rfl ?_
  refine w_load (pc' := 75) (v := .ref 170) (m := 1) (ykc_192 (e := (2, .aload_n kF0, 0)) rfl) rfl rfl ?_
  refine w_gf (pc' := 78) (v := .int (zn R)) (ykc_192 (e := (5, .getfield 24, 0)) rfl) rfl gR rfl ?_
  refine w_alu (pc' := 79) (st' := [.int (Int32.ofInt 1), .int (zn R), .long (Int64.ofNat kG0), .long z412.toInt64]) (ykc_192 (e := (0, .iconst 1, 0)) rfl) rfl rfl ?_
  obtain ⟨z422, e_z422, h_z422⟩ : ∃ zq : Int32, (zn R) - (Int32.ofInt 1) = zq ∧ zq.toInt = ((R : Nat) : Int) - (1 : Int) := ⟨_, rfl, (by have := ti_sub (x := (zn R)) (y := (Int32.ofInt 1)) (by omega) (by omega); omega)⟩
  refine w_alu (pc' := 80) (st' := [.int z422, .long (Int64.ofNat kG0), .long z412.toInt64]) (ykc_192 (e := (0, .isub, 0)) rfl) (by rw [← e_z422]; rfl) rfl ?_
  refine w_alu (pc' := 81) (st' := [.long z422.toInt64, .long (Int64.ofNat kG0), .long z412.toInt64]) (ykc_192 (e := (0, .i2l, 0)) rfl) rfl rfl ?_
  refine w_cs (as := [.long z412.toInt64, .long (Int64.ofNat kG0), .long z422.toInt64]) (r := []) (ykc_192 (e := (6, .invokestatic 126, 0)) rfl) rfl rfl rfl rfl (zm_in (x := ((f / C : Nat) : Int) + (zdn w)) (y := (0 : Int)) (z := ((R : Nat) : Int) - (1 : Int)) (by first | exact ztl | (rw [ztl]; omega) | decide | omega) (by first | exact ztl | (rw [ztl]; omega) | decide | omega) (by first | exact ztl | (rw [ztl]; omega) | decide | omega)) (fun v423 ph424 hv => ?_)
  obtain ⟨rfl, rfl⟩ := hv
  show zW n D 192 Q 84 [some (.ref 170), some (.int (zn f)), some (.int (zn w)), some (.int z412), some (.int z421)] [.int (zI (decide ((0 : Int) ≤ ((f / C : Nat) : Int) + (zdn w) ∧ ((f / C : Nat) : Int) + (zdn w) ≤ ((R : Nat) : Int) - (1 : Int))))] ph
  refine w_beq (ykc_192 (e := (4, .ifCond .eq 32, 116)) rfl) rfl (fun b425 => ?_) (fun b425 => ?_)
  · refine w_alu (pc' := 117) (st' := [.int (Int32.ofInt (-1))]) (ykc_192 (e := (0, .iconst (-1), 0)) rfl) rfl rfl ?_
    refine w_ret (v := (some (.int (Int32.ofInt (-1))))) (ykc_192 (e := (7, .ireturn, 0)) rfl) (zr_v rfl) ?_
    rw [hQ]
    have hi : ¬ zin R C f w = true := fun q => by
      have q := of_decide_eq_true q
      have b1 := of_decide_eq_false b425
      omega
    exact ⟨rfl, _, rfl, by unfold zbf; rw [if_neg hi]; omega⟩
  · refine w_load (pc' := 89) (v := .int z421) (m := 2) (ykc_192 (e := (2, .iload 4, 0)) rfl) rfl rfl ?_
    refine w_alu (pc' := 90) (st' := [.long z421.toInt64]) (ykc_192 (e := (0, .i2l, 0)) rfl) rfl rfl ?_
    refine w_alu (pc' := 91) (st' := [.long (Int64.ofNat kG0), .long z421.toInt64]) (ykc_192 (e := (0, .lconst kG0, 0)) rfl) rfl rfl ?_
    refine w_load (pc' := 92) (v := .ref 170) (m := 1) (ykc_192 (e := (2, .aload_n kF0, 0)) rfl) rfl rfl ?_
    refine w_gf (pc' := 95) (v := .int (zn C)) (ykc_192 (e := (5, .getfield 27, 0)) rfl) rfl gC rfl ?_
    refine w_alu (pc' := 96) (st' := [.int (Int32.ofInt 1), .int (zn C), .long (Int64.ofNat kG0), .long z421.toInt64]) (ykc_192 (e := (0, .iconst 1, 0)) rfl) rfl rfl ?_
    obtain ⟨z426, e_z426, h_z426⟩ : ∃ zq : Int32, (zn C) - (Int32.ofInt 1) = zq ∧ zq.toInt = ((C : Nat) : Int) - (1 : Int) := ⟨_, rfl, (by have := ti_sub (x := (zn C)) (y := (Int32.ofInt 1)) (by omega) (by omega); omega)⟩
    refine w_alu (pc' := 97) (st' := [.int z426, .long (Int64.ofNat kG0), .long z421.toInt64]) (ykc_192 (e := (0, .isub, 0)) rfl) (by rw [← e_z426]; rfl) rfl ?_
    refine w_alu (pc' := 98) (st' := [.long z426.toInt64, .long (Int64.ofNat kG0), .long z421.toInt64]) (ykc_192 (e := (0, .i2l, 0)) rfl) rfl rfl ?_
    refine w_cs (as := [.long z421.toInt64, .long (Int64.ofNat kG0), .long z426.toInt64]) (r := []) (ykc_192 (e := (6, .invokestatic 126, 0)) rfl) rfl rfl rfl rfl (zm_in (x := ((f % C : Nat) : Int) + (zrg w)) (y := (0 : Int)) (z := ((C : Nat) : Int) - (1 : Int)) (by first | exact ztl | (rw [ztl]; omega) | decide | omega) (by first | exact ztl | (rw [ztl]; omega) | decide | omega) (by first | exact ztl | (rw [ztl]; omega) | decide | omega)) (fun v427 ph428 hv => ?_)
    obtain ⟨rfl, rfl⟩ := hv
    show zW n D 192 Q 101 [some (.ref 170), some (.int (zn f)), some (.int (zn w)), some (.int z412), some (.int z421)] [.int (zI (decide ((0 : Int) ≤ ((f % C : Nat) : Int) + (zrg w) ∧ ((f % C : Nat) : Int) + (zrg w) ≤ ((C : Nat) : Int) - (1 : Int))))] ph
    refine w_beq (ykc_192 (e := (4, .ifCond .eq 15, 116)) rfl) rfl (fun b429 => ?_) (fun b429 => ?_)
    · refine w_alu (pc' := 117) (st' := [.int (Int32.ofInt (-1))]) (ykc_192 (e := (0, .iconst (-1), 0)) rfl) rfl rfl ?_
      refine w_ret (v := (some (.int (Int32.ofInt (-1))))) (ykc_192 (e := (7, .ireturn, 0)) rfl) (zr_v rfl) ?_
      rw [hQ]
      have hi : ¬ zin R C f w = true := fun q => by
        have q := of_decide_eq_true q
        have b1 := of_decide_eq_false b429
        omega
      exact ⟨rfl, _, rfl, by unfold zbf; rw [if_neg hi]; omega⟩
    · have b1 := of_decide_eq_true b425
      have b2 := of_decide_eq_true b429
      refine w_load (pc' := 105) (v := .ref 170) (m := 1) (ykc_192 (e := (2, .aload_n kF0, 0)) rfl) rfl rfl ?_
      refine w_gf (pc' := 108) (v := .int (zn C)) (ykc_192 (e := (5, .getfield 27, 0)) rfl) rfl gC rfl ?_
      refine w_load (pc' := 109) (v := .int z412) (m := 1) (ykc_192 (e := (2, .iload_n kF3, 0)) rfl) rfl rfl ?_
      have m430 : C * (((f / C : Nat) : Int) + zdn w).toNat ≤ 7 * 7 := Nat.mul_le_mul (by omega) (by omega)
      have zm430 := Nat.zero_le (C * (((f / C : Nat) : Int) + zdn w).toNat)
      have e431 : (zn C) * z412 = zn (C * (((f / C : Nat) : Int) + zdn w).toNat) := zn_of (zmulN (by omega) (by omega) (by omega) (by omega))
      have te431 := znt (k := C * (((f / C : Nat) : Int) + zdn w).toNat) (by omega)
      refine w_alu (pc' := 110) (st' := [.int (zn (C * (((f / C : Nat) : Int) + zdn w).toNat))]) (ykc_192 (e := (0, .imul, 0)) rfl) (by rw [← e431]; rfl) rfl ?_
      refine w_load (pc' := 112) (v := .int z421) (m := 2) (ykc_192 (e := (2, .iload 4, 0)) rfl) rfl rfl ?_
      have zt : zto C f w = C * (((f / C : Nat) : Int) + zdn w).toNat + (((f % C : Nat) : Int) + zrg w).toNat := rfl
      have e432 : (zn (C * (((f / C : Nat) : Int) + zdn w).toNat)) + z421 = zn (zto C f w) := zn_of (by have := ti_add (x := (zn (C * (((f / C : Nat) : Int) + zdn w).toNat))) (y := z421) (by omega) (by omega); unfold zto; omega)
      have te432 := znt (k := zto C f w) (by omega)
      refine w_alu (pc' := 113) (st' := [.int (zn (zto C f w))]) (ykc_192 (e := (0, .iadd, 0)) rfl) (by rw [← e432]; rfl) rfl ?_
      refine w_br (pc' := 117) (st' := [.int (zn (zto C f w))]) (ykc_192 (e := (4, .goto 4, 117)) rfl) rfl ?_
      refine w_ret (v := (some (.int (zn (zto C f w))))) (ykc_192 (e := (7, .ireturn, 0)) rfl) (zr_v rfl) ?_
      rw [hQ]
      have hi : zin R C f w = true := decide_eq_true (by omega)
      exact ⟨rfl, _, rfl, by unfold zbf; rw [if_pos hi]; exact znt (by omega)⟩
