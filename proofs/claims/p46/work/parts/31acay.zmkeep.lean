/-! the reference: keep, again, by W; printed by wip/z/z_w_mkeep.py -/
theorem zm_keep {ph : pm_H} {R C P G u ch hn : Nat} {rk : Nat → Bool} {v : Nat → Nat} {w : Nat → Nat → Nat} {kp : Nat → Bool} {kc : Nat → Nat} {sv : Nat → Nat → Nat} (hS : zSh ph) (hK : zKM ph R C rk P G v u w ch kp kc sv hn) (hO0 : zOk R C P G v) {x : Int32} : zM 296 [.ref 170, .int x] ph (fun v0 q => ((x.toInt < 0 ∨ 3 ≤ x.toInt) ∧ v0 = some (.int (zI false)) ∧ zKM q R C rk P G v u w ch kp kc sv hn) ∨ (∃ i, x.toInt = (i : Nat) ∧ i < 3 ∧ v0 = some (.int (zI true)) ∧ zKM q R C rk P G v u w ch (fun j => if j = i then true else kp j) (fun j => if j = i then ch else kc j) (fun j => if j = i then v else sv j) hn)) := by
  obtain ⟨Q, hQ⟩ : ∃ Q : Option Value → pm_H → Prop, Q = (fun v0 q => ((x.toInt < 0 ∨ 3 ≤ x.toInt) ∧ v0 = some (.int (zI false)) ∧ zKM q R C rk P G v u w ch kp kc sv hn) ∨ (∃ i, x.toInt = (i : Nat) ∧ i < 3 ∧ v0 = some (.int (zI true)) ∧ zKM q R C rk P G v u w ch (fun j => if j = i then true else kp j) (fun j => if j = i then ch else kc j) (fun j => if j = i then v else sv j) hn)) := ⟨_, rfl⟩
  rw [← hQ]
  refine zM_mk fun n D => ?_
  show zW n D 296 Q 0 [some (.ref 170), some (.int x), none] [] ph
  have c_0 : ((Int8.ofInt 41).toInt32).toInt = 41 := by decide +kernel
  have c_1 : (Int32.ofInt 0).toInt = 0 := by decide +kernel
  have c_2 : (Int32.ofInt 1).toInt = 1 := by decide +kernel
  obtain ⟨hL, hN, hv, hU, hk, hh⟩ := hK
  have hL0 := hL
  have hN0 := hN
  have hu15 := hU.2.1
  obtain ⟨gR, gC, gK, hR3, hR7, hC3, hC7⟩ := hL
  have hRC := zRC49 hR7 hC7
  have tR := znt (k := R) (by omega)
  have tC := znt (k := C) (by omega)
  obtain ⟨gP, hP8, gG, hG8⟩ := hN
  have tP := znt (k := P) (by omega)
  have tG := znt (k := G) (by omega)
  have tu := znt (k := u) (by omega)
  have hn10 := hh.2
  have thn := znt (k := hn) (by omega)
  have hch := hk.2.1
  have tch := znt (k := ch) (by omega)
  refine w_load (pc' := 1) (v := .ref 170) (m := 1) (ykc_296 (e := (2, .aload_n kF0, 0)) rfl) rfl rfl ?_
  refine w_alu (pc' := 2) (st' := [.int (Int32.ofInt 0), .ref 170]) (ykc_296 (e := (0, .iconst 0, 0)) rfl) rfl rfl ?_
  refine w_pf (pc' := 5) (ykc_296 (e := (5, .putfield 3, 0)) rfl) rfl rfl (fun ph1092 u1091 => ?_)
  refine w_load (pc' := 6) (v := .int x) (m := 1) (ykc_296 (e := (2, .iload_n kF1, 0)) rfl) rfl rfl ?_
  refine w_alu (pc' := 7) (st' := [.long x.toInt64]) (ykc_296 (e := (0, .i2l, 0)) rfl) rfl rfl ?_
  refine w_alu (pc' := 8) (st' := [.long (Int64.ofNat kG0), .long x.toInt64]) (ykc_296 (e := (0, .lconst kG0, 0)) rfl) rfl rfl ?_
  refine w_push (pc' := 11) (v := .long (2 : Int64)) (m := 3) (ykc_296 (e := (1, .ldc2_w 330, 0)) rfl) rfl rfl ?_
  refine w_cs (as := [.long x.toInt64, .long (Int64.ofNat kG0), .long (2 : Int64)]) (r := []) (ykc_296 (e := (6, .invokestatic 126, 0)) rfl) rfl rfl rfl rfl (zm_in (x := x.toInt) (y := (0 : Int)) (z := (2 : Int)) (by first | exact ztl | (rw [ztl]; omega) | decide | omega) (by first | exact ztl | (rw [ztl]; omega) | decide | omega) (by first | exact ztl | (rw [ztl]; omega) | decide | omega)) (fun v1093 ph1094 hv => ?_)
  obtain ⟨rfl, rfl⟩ := hv
  show zW n D 296 Q 14 [some (.ref 170), some (.int x), none] [.int (zI (decide ((0 : Int) ≤ x.toInt ∧ x.toInt ≤ (2 : Int))))] ph1092
  refine w_bne (ykc_296 (e := (4, .ifCond .ne 5, 19)) rfl) rfl (fun b1095 => ?_) (fun b1095 => ?_)
  · have d9 := of_decide_eq_true b1095
    obtain ⟨i, hi⟩ : ∃ i : Nat, x.toInt = (i : Int) := ⟨x.toInt.toNat, by omega⟩
    obtain rfl := zn_of hi
    have hi3 : i < 3 := by omega
    have ti := znt (k := i) (by omega)
    show zW n D 296 Q 19 [some (.ref 170), some (.int (zn i)), none] [] ph1092
    refine w_load (pc' := 20) (v := .ref 170) (m := 1) (ykc_296 (e := (2, .aload_n kF0, 0)) rfl) rfl rfl ?_
    refine w_gf (pc' := 23) (v := .ref 198) (ykc_296 (e := (5, .getfield 113, 0)) rfl) rfl ((u1091.2.1 170 46 (fun q => absurd q.2 (by first | exact Nat.ne_of_beq_eq_false rfl | decide))).trans (zsg hS zs_170_46)) rfl ?_
    refine w_load (pc' := 24) (v := .int (zn i)) (m := 1) (ykc_296 (e := (2, .iload_n kF1, 0)) rfl) rfl rfl ?_
    refine w_alu (pc' := 25) (st' := [.int (Int32.ofInt 1), .int (zn i), .ref 198]) (ykc_296 (e := (0, .iconst 1, 0)) rfl) rfl rfl ?_
    refine w_bas (pc' := 26) (k := i) (ykc_296 (e := (5, .bastore, 0)) rfl) (by omega) rfl (fun ph1097 u1096 => ?_)
    refine w_load (pc' := 27) (v := .ref 170) (m := 1) (ykc_296 (e := (2, .aload_n kF0, 0)) rfl) rfl rfl ?_
    refine w_gf (pc' := 30) (v := .ref 199) (ykc_296 (e := (5, .getfield 116, 0)) rfl) rfl ((u1096.2.1 170 47 (fun q => absurd q.1 (by first | exact Nat.ne_of_beq_eq_false rfl | decide))).trans ((u1091.2.1 170 47 (fun q => absurd q.2 (by first | exact Nat.ne_of_beq_eq_false rfl | decide))).trans (zsg hS zs_170_47))) rfl ?_
    refine w_load (pc' := 31) (v := .int (zn i)) (m := 1) (ykc_296 (e := (2, .iload_n kF1, 0)) rfl) rfl rfl ?_
    refine w_load (pc' := 32) (v := .ref 170) (m := 1) (ykc_296 (e := (2, .aload_n kF0, 0)) rfl) rfl rfl ?_
    refine w_gf (pc' := 35) (v := .int (zn ch)) (ykc_296 (e := (5, .getfield 191, 0)) rfl) rfl ((u1096.2.1 170 7 (fun q => absurd q.1 (by first | exact Nat.ne_of_beq_eq_false rfl | decide))).trans ((u1091.2.1 170 7 (fun q => absurd q.2 (by first | exact Nat.ne_of_beq_eq_false rfl | decide))).trans hk.1)) rfl ?_
    refine w_ias (pc' := 36) (k := i) (ykc_296 (e := (5, .iastore, 0)) rfl) (by omega) rfl (fun ph1099 u1098 => ?_)
    refine w_alu (pc' := 37) (st' := [.int (Int32.ofInt 0)]) (ykc_296 (e := (0, .iconst 0, 0)) rfl) rfl rfl ?_
    refine w_store (pc' := 38) (L' := [some (.ref 170), some (.int (zn i)), some (.int (Int32.ofInt 0))]) (st' := []) (m := 1) (ykc_296 (e := (3, .istore_n kF2, 0)) rfl) rfl rfl ?_
    have f1 : zFr [198, 199] [(170, 0)] ph ph1099 := zFr_trans (zFr_trans (zFr_st u1091 (Or.inr (by first | exact zqj rfl | simp))) (zFr_st u1096 (Or.inl (by first | exact zqi rfl | simp)))) (zFr_st u1098 (Or.inl (by first | exact zqi rfl | simp)))
    have hS1 := zSh_F f1 (by decide +kernel) hS
    have g198 : zc ph1099 198 i = some (.int (zI true)) := by
      have h := (u1098.2.1 198 i (fun q => absurd q.1 (by first | exact Nat.ne_of_beq_eq_false rfl | decide))).trans u1096.1
      rwa [show Int32.ofInt 1 &&& 1 = zI true by decide] at h
    have g199 : zc ph1099 199 i = some (.int (zn ch)) := u1098.1
    have o198 : ∀ j, j ≠ i → zc ph1099 198 j = zc ph 198 j := fun j hj => (u1098.2.1 198 j (fun q => absurd q.1 (by first | exact Nat.ne_of_beq_eq_false rfl | decide))).trans ((u1096.2.1 198 j (fun q => hj q.2)).trans (u1091.2.1 198 j (fun q => absurd q.1 (by first | exact Nat.ne_of_beq_eq_false rfl | decide))))
    have o199 : ∀ j, j ≠ i → zc ph1099 199 j = zc ph 199 j := fun j hj => (u1098.2.1 199 j (fun q => hj q.2)).trans ((u1096.2.1 199 j (fun q => absurd q.1 (by first | exact Nat.ne_of_beq_eq_false rfl | decide))).trans (u1091.2.1 199 j (fun q => absurd q.1 (by first | exact Nat.ne_of_beq_eq_false rfl | decide))))
    have hl : ∀ (n : Nat), ∀ (k : Nat) (ph9 : pm_H), (k ≤ 41) → (zFr [200] [] ph1099 ph9) → (∀ j, j < k → zc ph9 200 (41 * i + j) = some (.int (zn (v j)))) → (∀ j, j < 41 * i ∨ 41 * i + 41 ≤ j → zc ph9 200 j = zc ph1099 200 j) → zW n D 296 Q 38 [some (.ref 170), some (.int (zn i)), some (.int (zn k))] [] ph9 := by
      intro n
      induction n using Nat.strongRecOn with
      | ind n ih =>
        intro k ph9 hk9 hf hr ho
        have tk := znt (k := k) (by omega)
        refine w_load (pc' := 39) (v := .int (zn k)) (m := 1) (ykc_296 (e := (2, .iload_n kF2, 0)) rfl) rfl rfl ?_
        refine w_push (pc' := 41) (v := .int ((Int8.ofInt 41).toInt32)) (m := 2) (ykc_296 (e := (1, .bipush 41, 0)) rfl) rfl rfl ?_
        refine w_ige (ykc_296 (e := (4, .if_icmp .ge 26, 67)) rfl) rfl (fun b1100 => ?_) (fun b1100 => ?_)
        · refine w_alu (pc' := 68) (st' := [.int (Int32.ofInt 1)]) (ykc_296 (e := (0, .iconst 1, 0)) rfl) rfl rfl ?_
          refine w_ret (v := (some (.int (Int32.ofInt 1)))) (ykc_296 (e := (7, .ireturn, 0)) rfl) zr_z ?_
          have f2 : zFr [198, 199, 200] [(170, 0)] ph ph9 := zFr_trans (zFr_mono f1 (by first | exact zqa rfl | simp) (by first | exact zqf rfl | simp)) (zFr_mono hf (by first | exact zqa rfl | simp) (by first | exact zqf rfl | simp))
          rw [hQ, zi1]
          refine Or.inr ⟨i, hi, hi3, rfl, zMl_F f2 (by first | exact zqp rfl | simp) (by first | exact zqp rfl | simp) (by first | exact (fun _ => zqr rfl) | simp) (by first | exact ⟨zqm rfl, zqm rfl⟩ | simp) hL0, zMp_F f2 (by first | exact zqp rfl | simp) (by first | exact zqp rfl | simp) (by first | exact zqm rfl | simp) hN0, zNr_F f2 (by first | exact (fun _ => zqr rfl) | simp) (by first | exact zqm rfl | simp) hv, zMu_F f2 (by first | exact ⟨zqm rfl, zqm rfl⟩ | simp) (by first | exact zqp rfl | simp) (by first | exact (fun _ => zqr rfl) | simp) hU, ⟨(f2.1 _ _ (by first | exact zqm rfl | simp) (by first | exact zqp rfl | simp)).trans hk.1, hch, fun j hj => ?_⟩, zMh_F f2 (by first | exact zqm rfl | simp) (by first | exact zqp rfl | simp) hh⟩
          by_cases e : j = i
          · subst e
            refine ⟨?_, ?_, ?_, fun _ => ?_⟩
            · show zc ph9 198 j = some (.int (zI (if j = j then true else kp j)))
              rw [if_pos rfl]; exact (hf.1 198 j (by first | exact zqm rfl | simp) (by first | exact zqp rfl | simp)).trans g198
            · show zc ph9 199 j = some (.int (zn (if j = j then ch else kc j)))
              rw [if_pos rfl]; exact (hf.1 199 j (by first | exact zqm rfl | simp) (by first | exact zqp rfl | simp)).trans g199
            · show (if j = j then ch else kc j) ≤ ch
              rw [if_pos rfl]; exact Nat.le_refl _
            · show zNr ph9 200 (41 * j) (if j = j then v else sv j)
              rw [if_pos rfl]; exact fun l hl => hr l (by omega)
          · obtain ⟨k1, k2, k3, k4⟩ := hk.2.2 j hj
            refine ⟨?_, ?_, ?_, ?_⟩
            · show zc ph9 198 j = some (.int (zI (if j = i then true else kp j)))
              rw [if_neg e]; exact (hf.1 198 j (by first | exact zqm rfl | simp) (by first | exact zqp rfl | simp)).trans ((o198 j e).trans k1)
            · show zc ph9 199 j = some (.int (zn (if j = i then ch else kc j)))
              rw [if_neg e]; exact (hf.1 199 j (by first | exact zqm rfl | simp) (by first | exact zqp rfl | simp)).trans ((o199 j e).trans k2)
            · show (if j = i then ch else kc j) ≤ ch
              rw [if_neg e]; exact k3
            · show (if j = i then true else kp j) = true → zNr ph9 200 (41 * j) (if j = i then v else sv j)
              rw [if_neg e, if_neg e]
              intro hkp l hl
              exact (ho _ (by omega)).trans ((f1.1 200 _ (by first | exact zqm rfl | simp) (by first | exact zqp rfl | simp)).trans (k4 hkp l hl))
        · refine w_load (pc' := 45) (v := .ref 170) (m := 1) (ykc_296 (e := (2, .aload_n kF0, 0)) rfl) rfl rfl ?_
          refine w_gf (pc' := 48) (v := .ref 200) (ykc_296 (e := (5, .getfield 119, 0)) rfl) rfl ((hf.1 170 48 (by first | exact zqm rfl | decide) (by first | exact zqp rfl | decide)).trans (zsg hS1 zs_170_48)) rfl ?_
          refine w_push (pc' := 50) (v := .int ((Int8.ofInt 41).toInt32)) (m := 2) (ykc_296 (e := (1, .bipush 41, 0)) rfl) rfl rfl ?_
          refine w_load (pc' := 51) (v := .int (zn i)) (m := 1) (ykc_296 (e := (2, .iload_n kF1, 0)) rfl) rfl rfl ?_
          have e1101 : ((Int8.ofInt 41).toInt32) * (zn i) = zn (41 * i) := zn_of (by have e1 : (zn i).toInt = (i : Int) := znt (by omega); rw [ti_mul (x := ((Int8.ofInt 41).toInt32)) (y := (zn i)) (by rw [e1, c_0]; omega) (by rw [e1, c_0]; omega), e1, c_0]; omega)
          have te1101 := znt (k := 41 * i) (by omega)
          refine w_alu (pc' := 52) (st' := [.int (zn (41 * i)), .ref 200]) (ykc_296 (e := (0, .imul, 0)) rfl) (by rw [← e1101]; rfl) rfl ?_
          refine w_load (pc' := 53) (v := .int (zn k)) (m := 1) (ykc_296 (e := (2, .iload_n kF2, 0)) rfl) rfl rfl ?_
          have e1102 : (zn (41 * i)) + (zn k) = zn (41 * i + k) := (zaddN (a := 41 * i) (b := k) (znt (by omega)) (znt (by omega)) (by omega)) 
          have te1102 := znt (k := 41 * i + k) (by omega)
          refine w_alu (pc' := 54) (st' := [.int (zn (41 * i + k)), .ref 200]) (ykc_296 (e := (0, .iadd, 0)) rfl) (by rw [← e1102]; rfl) rfl ?_
          refine w_load (pc' := 55) (v := .ref 170) (m := 1) (ykc_296 (e := (2, .aload_n kF0, 0)) rfl) rfl rfl ?_
          refine w_gf (pc' := 58) (v := .ref 174) (ykc_296 (e := (5, .getfield 41, 0)) rfl) rfl ((hf.1 170 11 (by first | exact zqm rfl | decide) (by first | exact zqp rfl | decide)).trans (zsg hS1 zs_170_11)) rfl ?_
          refine w_load (pc' := 59) (v := .int (zn k)) (m := 1) (ykc_296 (e := (2, .iload_n kF2, 0)) rfl) rfl rfl ?_
          refine w_ialk (pc' := 60) (k := k) (ykc_296 (e := (5, .iaload, 0)) rfl) ((hf.1 174 k (by first | exact zqm rfl | decide) (by first | exact zqp rfl | simp)).trans ((f1.1 174 k (by first | exact zqm rfl | simp) (by first | exact zqp rfl | simp)).trans (zNr0 hv (i := k) (by omega)))) (by omega) rfl ?_
          refine w_ias (pc' := 61) (k := 41 * i + k) (ykc_296 (e := (5, .iastore, 0)) rfl) (by omega) rfl (fun ph1104 u1103 => ?_)
          have e1105 : (zn k) + Int32.ofInt 1 = zn (k + 1) := (zaddN (a := k) (b := 1) (znt (by omega)) c_2 (by omega))
          have te1105 := znt (k := k + 1) (by omega)
          refine w_store (pc' := 64) (L' := [some (.ref 170), some (.int (zn i)), some (.int (zn (k + 1)))]) (st' := []) (m := 3) (ykc_296 (e := (3, .iinc 2 1, 0)) rfl) (by rw [← e1105]; rfl) rfl ?_
          refine w_gb (ykc_296 (e := (4, .goto (-26), 38)) rfl) (fun k1106 hk1106 => ?_)
          exact ih k1106 hk1106 (k + 1) _ (by omega) (zFr_add hf u1103 (Or.inl (by first | exact zqi rfl | simp))) (fun j hj => by
            by_cases e : j = k
            · subst e
              exact u1103.1
            · exact (u1103.2.1 200 (41 * i + j) (fun q => e (by have q2 := q.2; omega))).trans (hr j (by omega))) (fun j hj => (u1103.2.1 200 j (fun q => by have q2 := q.2; omega)).trans (ho j hj))
    exact hl n 0 _ (by omega) zFr_refl (fun j hj => absurd hj (Nat.not_lt_zero j)) (fun j _ => rfl)
  · refine w_alu (pc' := 18) (st' := [.int (Int32.ofInt 0)]) (ykc_296 (e := (0, .iconst 0, 0)) rfl) rfl rfl ?_
    refine w_ret (v := (some (.int (Int32.ofInt 0)))) (ykc_296 (e := (7, .ireturn, 0)) rfl) zr_z ?_
    have d9 := of_decide_eq_false b1095
    have f2 : zFr [] [(170, 0)] ph _ := zFr_st u1091 (Or.inr (by first | exact zqj rfl | simp))
    rw [hQ, zi0]
    exact Or.inl ⟨by omega, rfl, zMl_F f2 (by first | exact zqp rfl | simp) (by first | exact zqp rfl | simp) (by first | exact (fun _ => zqr rfl) | simp) (by first | exact ⟨zqm rfl, zqm rfl⟩ | simp) hL0, zMp_F f2 (by first | exact zqp rfl | simp) (by first | exact zqp rfl | simp) (by first | exact zqm rfl | simp) hN0, zNr_F f2 (by first | exact (fun _ => zqr rfl) | simp) (by first | exact zqm rfl | simp) hv, zMu_F f2 (by first | exact ⟨zqm rfl, zqm rfl⟩ | simp) (by first | exact zqp rfl | simp) (by first | exact (fun _ => zqr rfl) | simp) hU, zMk_F f2 (by first | exact ⟨zqm rfl, zqm rfl, zqm rfl, zqm rfl⟩ | simp) (by first | exact zqp rfl | simp) (by first | exact (fun _ => ⟨zqr rfl, zqr rfl, zqr rfl⟩) | simp) hk, zMh_F f2 (by first | exact zqm rfl | simp) (by first | exact zqp rfl | simp) hh⟩
theorem zm_again {ph : pm_H} {R C P G u ch hn : Nat} {rk : Nat → Bool} {v : Nat → Nat} {w : Nat → Nat → Nat} {kp : Nat → Bool} {kc : Nat → Nat} {sv : Nat → Nat → Nat} (hS : zSh ph) (hK : zKM ph R C rk P G v u w ch kp kc sv hn) (hO0 : zOk R C P G v) {x : Int32} : zM 297 [.ref 170, .int x] ph (fun v0 q => ((x.toInt < 0 ∨ 3 ≤ x.toInt ∨ kp x.toInt.toNat = false ∨ kc x.toInt.toNat ≠ ch) ∧ v0 = some (.int (zI false)) ∧ zKM q R C rk P G v u w ch kp kc sv hn) ∨ (∃ i, x.toInt = (i : Nat) ∧ i < 3 ∧ kp i = true ∧ kc i = ch ∧ v0 = some (.int (zI true)) ∧ zKM q R C rk P G (sv i) 0 w ch kp kc sv hn)) := by
  obtain ⟨Q, hQ⟩ : ∃ Q : Option Value → pm_H → Prop, Q = (fun v0 q => ((x.toInt < 0 ∨ 3 ≤ x.toInt ∨ kp x.toInt.toNat = false ∨ kc x.toInt.toNat ≠ ch) ∧ v0 = some (.int (zI false)) ∧ zKM q R C rk P G v u w ch kp kc sv hn) ∨ (∃ i, x.toInt = (i : Nat) ∧ i < 3 ∧ kp i = true ∧ kc i = ch ∧ v0 = some (.int (zI true)) ∧ zKM q R C rk P G (sv i) 0 w ch kp kc sv hn)) := ⟨_, rfl⟩
  rw [← hQ]
  refine zM_mk fun n D => ?_
  show zW n D 297 Q 0 [some (.ref 170), some (.int x), none] [] ph
  have c_0 : ((Int8.ofInt 41).toInt32).toInt = 41 := by decide +kernel
  have c_1 : (Int32.ofInt 0).toInt = 0 := by decide +kernel
  have c_2 : (Int32.ofInt 1).toInt = 1 := by decide +kernel
  obtain ⟨hL, hN, hv, hU, hk, hh⟩ := hK
  have hL0 := hL
  have hN0 := hN
  have hu15 := hU.2.1
  obtain ⟨gR, gC, gK, hR3, hR7, hC3, hC7⟩ := hL
  have hRC := zRC49 hR7 hC7
  have tR := znt (k := R) (by omega)
  have tC := znt (k := C) (by omega)
  obtain ⟨gP, hP8, gG, hG8⟩ := hN
  have tP := znt (k := P) (by omega)
  have tG := znt (k := G) (by omega)
  have tu := znt (k := u) (by omega)
  have hn10 := hh.2
  have thn := znt (k := hn) (by omega)
  have hch := hk.2.1
  have tch := znt (k := ch) (by omega)
  refine w_load (pc' := 1) (v := .ref 170) (m := 1) (ykc_297 (e := (2, .aload_n kF0, 0)) rfl) rfl rfl ?_
  refine w_alu (pc' := 2) (st' := [.int (Int32.ofInt 0), .ref 170]) (ykc_297 (e := (0, .iconst 0, 0)) rfl) rfl rfl ?_
  refine w_pf (pc' := 5) (ykc_297 (e := (5, .putfield 3, 0)) rfl) rfl rfl (fun ph1108 u1107 => ?_)
  refine w_load (pc' := 6) (v := .int x) (m := 1) (ykc_297 (e := (2, .iload_n kF1, 0)) rfl) rfl rfl ?_
  refine w_alu (pc' := 7) (st' := [.long x.toInt64]) (ykc_297 (e := (0, .i2l, 0)) rfl) rfl rfl ?_
  refine w_alu (pc' := 8) (st' := [.long (Int64.ofNat kG0), .long x.toInt64]) (ykc_297 (e := (0, .lconst kG0, 0)) rfl) rfl rfl ?_
  refine w_push (pc' := 11) (v := .long (2 : Int64)) (m := 3) (ykc_297 (e := (1, .ldc2_w 330, 0)) rfl) rfl rfl ?_
  refine w_cs (as := [.long x.toInt64, .long (Int64.ofNat kG0), .long (2 : Int64)]) (r := []) (ykc_297 (e := (6, .invokestatic 126, 0)) rfl) rfl rfl rfl rfl (zm_in (x := x.toInt) (y := (0 : Int)) (z := (2 : Int)) (by first | exact ztl | (rw [ztl]; omega) | decide | omega) (by first | exact ztl | (rw [ztl]; omega) | decide | omega) (by first | exact ztl | (rw [ztl]; omega) | decide | omega)) (fun v1109 ph1110 hv => ?_)
  obtain ⟨rfl, rfl⟩ := hv
  show zW n D 297 Q 14 [some (.ref 170), some (.int x), none] [.int (zI (decide ((0 : Int) ≤ x.toInt ∧ x.toInt ≤ (2 : Int))))] ph1108
  refine w_beq (ykc_297 (e := (4, .ifCond .eq 25, 39)) rfl) rfl (fun b1111 => ?_) (fun b1111 => ?_)
  · refine w_alu (pc' := 40) (st' := [.int (Int32.ofInt 0)]) (ykc_297 (e := (0, .iconst 0, 0)) rfl) rfl rfl ?_
    refine w_ret (v := (some (.int (Int32.ofInt 0)))) (ykc_297 (e := (7, .ireturn, 0)) rfl) zr_z ?_
    have f2 : zFr [] [(170, 0)] ph _ := zFr_st u1107 (Or.inr (by first | exact zqj rfl | simp))
    rw [hQ, zi0]
    exact Or.inl ⟨by have d9 := of_decide_eq_false b1111; omega, rfl, zMl_F f2 (by first | exact zqp rfl | simp) (by first | exact zqp rfl | simp) (by first | exact (fun _ => zqr rfl) | simp) (by first | exact ⟨zqm rfl, zqm rfl⟩ | simp) hL0, zMp_F f2 (by first | exact zqp rfl | simp) (by first | exact zqp rfl | simp) (by first | exact zqm rfl | simp) hN0, zNr_F f2 (by first | exact (fun _ => zqr rfl) | simp) (by first | exact zqm rfl | simp) hv, zMu_F f2 (by first | exact ⟨zqm rfl, zqm rfl⟩ | simp) (by first | exact zqp rfl | simp) (by first | exact (fun _ => zqr rfl) | simp) hU, zMk_F f2 (by first | exact ⟨zqm rfl, zqm rfl, zqm rfl, zqm rfl⟩ | simp) (by first | exact zqp rfl | simp) (by first | exact (fun _ => ⟨zqr rfl, zqr rfl, zqr rfl⟩) | simp) hk, zMh_F f2 (by first | exact zqm rfl | simp) (by first | exact zqp rfl | simp) hh⟩
  · have d9 := of_decide_eq_true b1111
    obtain ⟨i, hi⟩ : ∃ i : Nat, x.toInt = (i : Int) := ⟨x.toInt.toNat, by omega⟩
    obtain rfl := zn_of hi
    have hi3 : i < 3 := by omega
    have ti := znt (k := i) (by omega)
    show zW n D 297 Q 17 [some (.ref 170), some (.int (zn i)), none] [] ph1108
    refine w_load (pc' := 18) (v := .ref 170) (m := 1) (ykc_297 (e := (2, .aload_n kF0, 0)) rfl) rfl rfl ?_
    refine w_gf (pc' := 21) (v := .ref 198) (ykc_297 (e := (5, .getfield 113, 0)) rfl) rfl ((u1107.2.1 170 46 (fun q => absurd q.2 (by first | exact Nat.ne_of_beq_eq_false rfl | decide))).trans (zsg hS zs_170_46)) rfl ?_
    refine w_load (pc' := 22) (v := .int (zn i)) (m := 1) (ykc_297 (e := (2, .iload_n kF1, 0)) rfl) rfl rfl ?_
    refine w_balk (pc' := 23) (k := i) (ykc_297 (e := (5, .baload, 0)) rfl) ((u1107.2.1 198 i (fun q => absurd q.1 (by first | exact Nat.ne_of_beq_eq_false rfl | decide))).trans (hk.2.2 i (by omega)).1) (by omega) rfl ?_
    refine w_beq (ykc_297 (e := (4, .ifCond .eq 16, 39)) rfl) rfl (fun b1112 => ?_) (fun b1112 => ?_)
    · refine w_alu (pc' := 40) (st' := [.int (Int32.ofInt 0)]) (ykc_297 (e := (0, .iconst 0, 0)) rfl) rfl rfl ?_
      refine w_ret (v := (some (.int (Int32.ofInt 0)))) (ykc_297 (e := (7, .ireturn, 0)) rfl) zr_z ?_
      have f2 : zFr [] [(170, 0)] ph _ := zFr_st u1107 (Or.inr (by first | exact zqj rfl | simp))
      rw [hQ, zi0]
      exact Or.inl ⟨Or.inr (Or.inr (Or.inl (by rw [hi]; exact b1112))), rfl, zMl_F f2 (by first | exact zqp rfl | simp) (by first | exact zqp rfl | simp) (by first | exact (fun _ => zqr rfl) | simp) (by first | exact ⟨zqm rfl, zqm rfl⟩ | simp) hL0, zMp_F f2 (by first | exact zqp rfl | simp) (by first | exact zqp rfl | simp) (by first | exact zqm rfl | simp) hN0, zNr_F f2 (by first | exact (fun _ => zqr rfl) | simp) (by first | exact zqm rfl | simp) hv, zMu_F f2 (by first | exact ⟨zqm rfl, zqm rfl⟩ | simp) (by first | exact zqp rfl | simp) (by first | exact (fun _ => zqr rfl) | simp) hU, zMk_F f2 (by first | exact ⟨zqm rfl, zqm rfl, zqm rfl, zqm rfl⟩ | simp) (by first | exact zqp rfl | simp) (by first | exact (fun _ => ⟨zqr rfl, zqr rfl, zqr rfl⟩) | simp) hk, zMh_F f2 (by first | exact zqm rfl | simp) (by first | exact zqp rfl | simp) hh⟩
    · refine w_load (pc' := 27) (v := .ref 170) (m := 1) (ykc_297 (e := (2, .aload_n kF0, 0)) rfl) rfl rfl ?_
      refine w_gf (pc' := 30) (v := .ref 199) (ykc_297 (e := (5, .getfield 116, 0)) rfl) rfl ((u1107.2.1 170 47 (fun q => absurd q.2 (by first | exact Nat.ne_of_beq_eq_false rfl | decide))).trans (zsg hS zs_170_47)) rfl ?_
      refine w_load (pc' := 31) (v := .int (zn i)) (m := 1) (ykc_297 (e := (2, .iload_n kF1, 0)) rfl) rfl rfl ?_
      have q1113 := (hk.2.2 i (by omega)).2.2.1
      have tq1113 := znt (k := kc i) (by omega)
      refine w_ialk (pc' := 32) (k := i) (ykc_297 (e := (5, .iaload, 0)) rfl) ((u1107.2.1 199 i (fun q => absurd q.1 (by first | exact Nat.ne_of_beq_eq_false rfl | decide))).trans (hk.2.2 i (by omega)).2.1) (by omega) rfl ?_
      refine w_load (pc' := 33) (v := .ref 170) (m := 1) (ykc_297 (e := (2, .aload_n kF0, 0)) rfl) rfl rfl ?_
      refine w_gf (pc' := 36) (v := .int (zn ch)) (ykc_297 (e := (5, .getfield 191, 0)) rfl) rfl ((u1107.2.1 170 7 (fun q => absurd q.2 (by first | exact Nat.ne_of_beq_eq_false rfl | decide))).trans hk.1) rfl ?_
      refine w_ieq (ykc_297 (e := (4, .if_icmp .eq 5, 41)) rfl) rfl (fun b1114 => ?_) (fun b1114 => ?_)
      · refine w_alu (pc' := 42) (st' := [.int (Int32.ofInt 0)]) (ykc_297 (e := (0, .iconst 0, 0)) rfl) rfl rfl ?_
        refine w_store (pc' := 43) (L' := [some (.ref 170), some (.int (zn i)), some (.int (Int32.ofInt 0))]) (st' := []) (m := 1) (ykc_297 (e := (3, .istore_n kF2, 0)) rfl) rfl rfl ?_
        have f1 : zFr [] [(170, 0)] ph ph1108 := zFr_st u1107 (Or.inr (by first | exact zqj rfl | simp))
        have hS1 := zSh_F f1 (by decide +kernel) hS
        have hsv := (hk.2.2 i hi3).2.2.2 b1112
        have hkc : kc i = ch := by omega
        have hl : ∀ (n : Nat), ∀ (k : Nat) (ph9 : pm_H), (k ≤ 41) → (zFr [174] [] ph1108 ph9) → (∀ j, j < k → zc ph9 174 j = some (.int (zn (sv i j)))) → zW n D 297 Q 43 [some (.ref 170), some (.int (zn i)), some (.int (zn k))] [] ph9 := by
          intro n
          induction n using Nat.strongRecOn with
          | ind n ih =>
            intro k ph9 hk9 hf hr
            have tk := znt (k := k) (by omega)
            refine w_load (pc' := 44) (v := .int (zn k)) (m := 1) (ykc_297 (e := (2, .iload_n kF2, 0)) rfl) rfl rfl ?_
            refine w_push (pc' := 46) (v := .int ((Int8.ofInt 41).toInt32)) (m := 2) (ykc_297 (e := (1, .bipush 41, 0)) rfl) rfl rfl ?_
            refine w_ige (ykc_297 (e := (4, .if_icmp .ge 26, 72)) rfl) rfl (fun b1115 => ?_) (fun b1115 => ?_)
            · refine w_load (pc' := 73) (v := .ref 170) (m := 1) (ykc_297 (e := (2, .aload_n kF0, 0)) rfl) rfl rfl ?_
              refine w_alu (pc' := 74) (st' := [.int (Int32.ofInt 0), .ref 170]) (ykc_297 (e := (0, .iconst 0, 0)) rfl) rfl rfl ?_
              refine w_pf (pc' := 77) (ykc_297 (e := (5, .putfield 188, 0)) rfl) rfl rfl (fun ph1117 u1116 => ?_)
              refine w_alu (pc' := 78) (st' := [.int (Int32.ofInt 1)]) (ykc_297 (e := (0, .iconst 1, 0)) rfl) rfl rfl ?_
              refine w_ret (v := (some (.int (Int32.ofInt 1)))) (ykc_297 (e := (7, .ireturn, 0)) rfl) zr_z ?_
              have f2 : zFr [174] [(170, 0), (170, 27)] ph _ := zFr_trans (zFr_mono f1 (by first | exact zqa rfl | simp) (by first | exact zqf rfl | simp)) (zFr_trans (zFr_mono hf (by first | exact zqa rfl | simp) (by first | exact zqf rfl | simp)) (zFr_st u1116 (Or.inr (by first | exact zqj rfl | simp))))
              rw [hQ, zi1]
              exact Or.inr ⟨i, hi, hi3, b1112, hkc, rfl, zMl_F f2 (by first | exact zqp rfl | simp) (by first | exact zqp rfl | simp) (by first | exact (fun _ => zqr rfl) | simp) (by first | exact ⟨zqm rfl, zqm rfl⟩ | simp) hL0, zMp_F f2 (by first | exact zqp rfl | simp) (by first | exact zqp rfl | simp) (by first | exact zqm rfl | simp) hN0, fun j hj => by rw [Nat.zero_add]; exact (u1116.2.1 174 j (fun q => absurd q.1 (by first | exact Nat.ne_of_beq_eq_false rfl | decide))).trans (hr j (by omega)), ⟨u1116.1, by omega, fun j hj => absurd hj (Nat.not_lt_zero j)⟩, zMk_F f2 (by first | exact ⟨zqm rfl, zqm rfl, zqm rfl, zqm rfl⟩ | simp) (by first | exact zqp rfl | simp) (by first | exact (fun _ => ⟨zqr rfl, zqr rfl, zqr rfl⟩) | simp) hk, zMh_F f2 (by first | exact zqm rfl | simp) (by first | exact zqp rfl | simp) hh⟩
            · refine w_load (pc' := 50) (v := .ref 170) (m := 1) (ykc_297 (e := (2, .aload_n kF0, 0)) rfl) rfl rfl ?_
              refine w_gf (pc' := 53) (v := .ref 174) (ykc_297 (e := (5, .getfield 41, 0)) rfl) rfl ((hf.1 170 11 (by first | exact zqm rfl | decide) (by first | exact zqp rfl | decide)).trans (zsg hS1 zs_170_11)) rfl ?_
              refine w_load (pc' := 54) (v := .int (zn k)) (m := 1) (ykc_297 (e := (2, .iload_n kF2, 0)) rfl) rfl rfl ?_
              refine w_load (pc' := 55) (v := .ref 170) (m := 1) (ykc_297 (e := (2, .aload_n kF0, 0)) rfl) rfl rfl ?_
              refine w_gf (pc' := 58) (v := .ref 200) (ykc_297 (e := (5, .getfield 119, 0)) rfl) rfl ((hf.1 170 48 (by first | exact zqm rfl | decide) (by first | exact zqp rfl | decide)).trans (zsg hS1 zs_170_48)) rfl ?_
              refine w_push (pc' := 60) (v := .int ((Int8.ofInt 41).toInt32)) (m := 2) (ykc_297 (e := (1, .bipush 41, 0)) rfl) rfl rfl ?_
              refine w_load (pc' := 61) (v := .int (zn i)) (m := 1) (ykc_297 (e := (2, .iload_n kF1, 0)) rfl) rfl rfl ?_
              have e1118 : ((Int8.ofInt 41).toInt32) * (zn i) = zn (41 * i) := zn_of (by have e1 : (zn i).toInt = (i : Int) := znt (by omega); rw [ti_mul (x := ((Int8.ofInt 41).toInt32)) (y := (zn i)) (by rw [e1, c_0]; omega) (by rw [e1, c_0]; omega), e1, c_0]; omega)
              have te1118 := znt (k := 41 * i) (by omega)
              refine w_alu (pc' := 62) (st' := [.int (zn (41 * i)), .ref 200, .int (zn k), .ref 174]) (ykc_297 (e := (0, .imul, 0)) rfl) (by rw [← e1118]; rfl) rfl ?_
              refine w_load (pc' := 63) (v := .int (zn k)) (m := 1) (ykc_297 (e := (2, .iload_n kF2, 0)) rfl) rfl rfl ?_
              have e1119 : (zn (41 * i)) + (zn k) = zn (41 * i + k) := (zaddN (a := 41 * i) (b := k) (znt (by omega)) (znt (by omega)) (by omega)) 
              have te1119 := znt (k := 41 * i + k) (by omega)
              refine w_alu (pc' := 64) (st' := [.int (zn (41 * i + k)), .ref 200, .int (zn k), .ref 174]) (ykc_297 (e := (0, .iadd, 0)) rfl) (by rw [← e1119]; rfl) rfl ?_
              refine w_ialk (pc' := 65) (k := 41 * i + k) (ykc_297 (e := (5, .iaload, 0)) rfl) ((hf.1 200 (41 * i + k) (by first | exact zqm rfl | decide) (by first | exact zqp rfl | simp)).trans ((f1.1 200 (41 * i + k) (by first | exact zqm rfl | simp) (by first | exact zqp rfl | simp)).trans (hsv k (by omega)))) (by omega) rfl ?_
              refine w_ias (pc' := 66) (k := k) (ykc_297 (e := (5, .iastore, 0)) rfl) (by omega) rfl (fun ph1121 u1120 => ?_)
              have e1122 : (zn k) + Int32.ofInt 1 = zn (k + 1) := (zaddN (a := k) (b := 1) (znt (by omega)) c_2 (by omega))
              have te1122 := znt (k := k + 1) (by omega)
              refine w_store (pc' := 69) (L' := [some (.ref 170), some (.int (zn i)), some (.int (zn (k + 1)))]) (st' := []) (m := 3) (ykc_297 (e := (3, .iinc 2 1, 0)) rfl) (by rw [← e1122]; rfl) rfl ?_
              refine w_gb (ykc_297 (e := (4, .goto (-26), 43)) rfl) (fun k1123 hk1123 => ?_)
              exact ih k1123 hk1123 (k + 1) _ (by omega) (zFr_add hf u1120 (Or.inl (by first | exact zqi rfl | simp))) (fun j hj => by
                by_cases e : j = k
                · subst e
                  exact u1120.1
                · exact (u1120.2.1 174 j (fun q => e q.2)).trans (hr j (by omega)))
        exact hl n 0 _ (by omega) zFr_refl (fun j hj => absurd hj (Nat.not_lt_zero j))
      · refine w_alu (pc' := 40) (st' := [.int (Int32.ofInt 0)]) (ykc_297 (e := (0, .iconst 0, 0)) rfl) rfl rfl ?_
        refine w_ret (v := (some (.int (Int32.ofInt 0)))) (ykc_297 (e := (7, .ireturn, 0)) rfl) zr_z ?_
        have f2 : zFr [] [(170, 0)] ph _ := zFr_st u1107 (Or.inr (by first | exact zqj rfl | simp))
        rw [hQ, zi0]
        exact Or.inl ⟨Or.inr (Or.inr (Or.inr (by rw [hi]; show kc i ≠ ch; omega))), rfl, zMl_F f2 (by first | exact zqp rfl | simp) (by first | exact zqp rfl | simp) (by first | exact (fun _ => zqr rfl) | simp) (by first | exact ⟨zqm rfl, zqm rfl⟩ | simp) hL0, zMp_F f2 (by first | exact zqp rfl | simp) (by first | exact zqp rfl | simp) (by first | exact zqm rfl | simp) hN0, zNr_F f2 (by first | exact (fun _ => zqr rfl) | simp) (by first | exact zqm rfl | simp) hv, zMu_F f2 (by first | exact ⟨zqm rfl, zqm rfl⟩ | simp) (by first | exact zqp rfl | simp) (by first | exact (fun _ => zqr rfl) | simp) hU, zMk_F f2 (by first | exact ⟨zqm rfl, zqm rfl, zqm rfl, zqm rfl⟩ | simp) (by first | exact zqp rfl | simp) (by first | exact (fun _ => ⟨zqr rfl, zqr rfl, zqr rfl⟩) | simp) hk, zMh_F f2 (by first | exact zqm rfl | simp) (by first | exact zqp rfl | simp) hh⟩
