/-! what looks answer, class and reference, by W; printed by wip/z/z3a_looks.py -/
noncomputable def zXsees (E : zEn) (P : Nat) (v : Nat → Nat) (x : Int32) : Int64 := if 0 ≤ x.toInt ∧ x.toInt < (P : Int) then zVw E P v x.toInt.toNat else -1
theorem zXsees_n {E : zEn} {P : Nat} {v : Nat → Nat} {x : Int32} (h : ¬ (0 ≤ x.toInt ∧ x.toInt < (P : Int))) : (some (.long (-1)) : Option Value) = some (.long (zXsees E P v x)) := by
  unfold zXsees
  rw [if_neg h]
theorem zXsees_p {E : zEn} {P p : Nat} {v : Nat → Nat} (hp : p < P) (hP : P ≤ 8) : (some (.long (zVw E P v p)) : Option Value) = some (.long (zXsees E P v (zn p))) := by
  have t := znt (k := p) (by omega)
  unfold zXsees
  rw [if_pos (by omega), show (zn p).toInt.toNat = p by omega]
theorem zc_seesX {ph : pm_H} {E : zEn} {F P G : Nat} {v : Nat → Nat} (hS : zSh ph) (hE : zCe ph E F) (ht : zCt ph 25 P G v) (hO : zOk E.1 E.2.1 P G v) (hr : zc ph 10 1 = some (.ref F)) (hc : zCc ph E.1 E.2.1 E.2.2.1) {x : Int32} : zM 147 [.ref 0, .int x] ph (fun v0 _ => v0 = some (.long (zXsees E P v x))) := by
  obtain ⟨Q, hQ⟩ : ∃ Q : Option Value → pm_H → Prop, Q = (fun v0 _ => v0 = some (.long (zXsees E P v x))) := ⟨_, rfl⟩
  rw [← hQ]
  refine zM_mk fun n D => ?_
  show zW n D 147 Q 0 [some (.ref 0), some (.int x), none, none] [] ph
  have c_0 : (Int32.ofInt (-1)).toInt = -1 := by decide
  have c_1 : (Int32.ofInt 1).toInt = 1 := by decide
  obtain ⟨R, C, rk, sn, sk, cn, cd⟩ := E
  have hL0 : zCl ph R C rk := hE.1
  have hi0 : zCi ph sn sk := hE.2.1
  have hF : F = 11 ∨ F = 16 := hE.2.2.2
  have hE0 : zCe ph (R, C, rk, sn, sk, cn, cd) F := hE
  have hO0 : zOk R C P G v := hO
  have hL := hL0
  have hs := ht.1.2
  have hd := ht.2
  have h25 := ht.1.1
  obtain ⟨gR, gC, gN, gK, gA, hR3, hR7, hC3, hC7⟩ := hL
  have hRC := zRC49 hR7 hC7
  have tR := znt (k := R) (by omega)
  have tC := znt (k := C) (by omega)
  have tRC := znt (k := R * C) (by omega)
  have hd0 := hd
  have hs0 := hs
  obtain ⟨r3, r4, r5, r6, r7, l1, l2, l3, l4, l5⟩ := hs
  obtain ⟨gP, hP8, gG, hG8, gH, gv, gw⟩ := hd
  have tP := znt (k := P) (by omega)
  have tG := znt (k := G) (by omega)
  have h40 := hO0.2.2
  have t40 := znt (k := v 40) (by omega)
  have hc0 := hc
  refine w_load (pc' := 1) (v := .ref 0) (m := 1) (ykc_147 (e := (2, .aload_n kF0, 0)) rfl) rfl rfl ?_
  refine w_gf (pc' := 4) (v := .ref 25) (ykc_147 (e := (5, .getfield 42, 0)) rfl) rfl (zsg hS zs_0_4) rfl ?_
  refine w_load (pc' := 5) (v := .int x) (m := 1) (ykc_147 (e := (2, .iload_n kF1, 0)) rfl) rfl rfl ?_
  refine w_cv (as := [.ref 25, .int x]) (r := []) (ykc_147 (e := (6, .invokevirtual 167, 0)) rfl) rfl rfl rfl rfl (zc_hasP ht.1.2 ht.2 (i := x)) (fun v827 ph828 hv => ?_)
  obtain ⟨rfl, rfl⟩ := hv
  show zW n D 147 Q 8 [some (.ref 0), some (.int x), none, none] [.int (zI (decide (0 ≤ x.toInt ∧ x.toInt < ((P : Nat) : Int))))] ph
  refine w_bne (ykc_147 (e := (4, .ifCond .ne 7, 15)) rfl) rfl (fun b829 => ?_) (fun b829 => ?_)
  · have b_p := of_decide_eq_true b829
    obtain ⟨p, h_p, rfl⟩ : ∃ p : Nat, p < P ∧ x = zn p := ⟨x.toInt.toNat, by omega, zn_of (by omega)⟩
    have t_p := znt (k := p) (by omega)
    show zW n D 147 Q 15 [some (.ref 0), some (.int (zn p)), none, none] [] ph
    refine w_load (pc' := 16) (v := .ref 0) (m := 1) (ykc_147 (e := (2, .aload_n kF0, 0)) rfl) rfl rfl ?_
    refine w_gf (pc' := 19) (v := .ref 10) (ykc_147 (e := (5, .getfield 35, 0)) rfl) rfl (zsg hS zs_0_3) rfl ?_
    refine w_load (pc' := 20) (v := .ref 0) (m := 1) (ykc_147 (e := (2, .aload_n kF0, 0)) rfl) rfl rfl ?_
    refine w_gf (pc' := 23) (v := .ref 25) (ykc_147 (e := (5, .getfield 42, 0)) rfl) rfl (zsg hS zs_0_4) rfl ?_
    refine w_load (pc' := 24) (v := .int (zn p)) (m := 1) (ykc_147 (e := (2, .iload_n kF1, 0)) rfl) rfl rfl ?_
    refine w_cv (as := [.ref 10, .ref 25, .int (zn p)]) (r := []) (ykc_147 (e := (6, .invokevirtual 190, 0)) rfl) rfl rfl rfl rfl (zc_viewOf hS hE0 ht hO0 hr hc0 (p := p) (by omega)) (fun v832 ph833 hv => ?_)
    obtain ⟨f830, hc831, rfl⟩ := hv
    show zW n D 147 Q 27 [some (.ref 0), some (.int (zn p)), none, none] [.long (zVw (R, C, rk, sn, sk, cn, cd) P v p)] ph833
    refine w_store (pc' := 28) (L' := [some (.ref 0), some (.int (zn p)), some (.long (zVw (R, C, rk, sn, sk, cn, cd) P v p)), none]) (st' := []) (m := 1) (ykc_147 (e := (3, .lstore_n kF2, 0)) rfl) rfl rfl ?_
    rw [hQ]
    exact zTail kc_147 true 2 28 9999 (fun _ => rfl) (Or.inr ⟨rfl, _, rfl⟩) (by decide +kernel) (by decide) (by decide) rfl (by decide +kernel) (fun _ => zXsees_p h_p (by omega))
  · refine w_push (pc' := 14) (v := .long (-1 : Int64)) (m := 3) (ykc_147 (e := (1, .ldc2_w 94, 0)) rfl) rfl rfl ?_
    refine w_ret (v := (some (.long (-1 : Int64)))) (ykc_147 (e := (7, .lreturn, 0)) rfl) (zr_v rfl) ?_
    have b_n := of_decide_eq_false b829
    rw [hQ]
    exact zXsees_n b_n
theorem zm_seesX {ph : pm_H} {E : zEn} {P G : Nat} {v : Nat → Nat} (hS : zSh ph) (hE : zMe ph E) (hN : zMp ph P G) (hv : zNr ph 174 0 v) (hO : zOk E.1 E.2.1 P G v) {x : Int32} : zM 257 [.ref 170, .int x] ph (fun v0 _ => v0 = some (.long (zXsees E P v x))) := by
  obtain ⟨Q, hQ⟩ : ∃ Q : Option Value → pm_H → Prop, Q = (fun v0 _ => v0 = some (.long (zXsees E P v x))) := ⟨_, rfl⟩
  rw [← hQ]
  refine zM_mk fun n D => ?_
  show zW n D 257 Q 0 [some (.ref 170), some (.int x), none, none] [] ph
  have c_0 : (Int32.ofInt (-1)).toInt = -1 := by decide
  have c_1 : (Int32.ofInt 0).toInt = 0 := by decide
  have c_2 : (Int32.ofInt 1).toInt = 1 := by decide
  have hA : (174 : Nat) = 174 ∨ (174 : Nat) = 175 := Or.inl rfl
  obtain ⟨R, C, rk, sn, sk, cn, cd⟩ := E
  have hL0 : zMl ph R C rk := hE.1
  have hR0 : zMr ph sn sk cn cd := hE.2.1
  have hcg : zcg cn cd := hE.2.2
  have hE0 : zMe ph (R, C, rk, sn, sk, cn, cd) := hE
  have hO0 : zOk R C P G v := hO
  have hN0 := hN
  have hL := hL0
  have hR := hR0
  obtain ⟨gR, gC, gK, hR3, hR7, hC3, hC7⟩ := hL
  have hRC := zRC49 hR7 hC7
  have tR := znt (k := R) (by omega)
  have tC := znt (k := C) (by omega)
  obtain ⟨gP, hP8, gG, hG8⟩ := hN
  have tP := znt (k := P) (by omega)
  have tG := znt (k := G) (by omega)
  obtain ⟨gsn, hs1, hs20, gsk, gcn, hc40, gcd⟩ := hR
  have tsn := znt (k := sn) (by omega)
  have tcn := znt (k := cn) (by omega)
  refine w_load (pc' := 1) (v := .ref 170) (m := 1) (ykc_257 (e := (2, .aload_n kF0, 0)) rfl) rfl rfl ?_
  refine w_alu (pc' := 2) (st' := [.int (Int32.ofInt 0), .ref 170]) (ykc_257 (e := (0, .iconst 0, 0)) rfl) rfl rfl ?_
  refine w_pf (pc' := 5) (ykc_257 (e := (5, .putfield 3, 0)) rfl) rfl rfl (fun ph835 u834 => ?_)
  have f0 : zFr [] [(170, 0)] ph ph835 := zFr_st u834 (Or.inr (by simp))
  have hS1 := zSh_st u834 (by decide +kernel) hS
  have hE1 : zMe ph835 (R, C, rk, sn, sk, cn, cd) := ⟨zMl_F f0 (by simp) (by simp) (by simp) (by simp) hE0.1, zMr_F f0 (by simp) (by simp) (by simp) (by simp) hE0.2.1, hE0.2.2⟩
  have hN1 := zMp_F f0 (by simp) (by simp) (by simp) hN0
  have hv1 := zNr_F f0 (by simp) (by simp) hv
  have hL1 : zMl ph835 R C rk := hE1.1
  have hR1 : zMr ph835 sn sk cn cd := hE1.2.1
  refine w_load (pc' := 6) (v := .ref 170) (m := 1) (ykc_257 (e := (2, .aload_n kF0, 0)) rfl) rfl rfl ?_
  refine w_load (pc' := 7) (v := .int x) (m := 1) (ykc_257 (e := (2, .iload_n kF1, 0)) rfl) rfl rfl ?_
  refine w_cv (as := [.ref 170, .int x]) (r := []) (ykc_257 (e := (6, .invokevirtual 315, 0)) rfl) rfl rfl rfl rfl (zm_isPerson hN1 (p := x)) (fun v836 ph837 hv => ?_)
  obtain ⟨rfl, rfl⟩ := hv
  show zW n D 257 Q 10 [some (.ref 170), some (.int x), none, none] [.int (zI (decide (0 ≤ x.toInt ∧ x.toInt < ((P : Nat) : Int))))] ph835
  refine w_bne (ykc_257 (e := (4, .ifCond .ne 7, 17)) rfl) rfl (fun b838 => ?_) (fun b838 => ?_)
  · have b_p := of_decide_eq_true b838
    obtain ⟨p, h_p, rfl⟩ : ∃ p : Nat, p < P ∧ x = zn p := ⟨x.toInt.toNat, by omega, zn_of (by omega)⟩
    have t_p := znt (k := p) (by omega)
    show zW n D 257 Q 17 [some (.ref 170), some (.int (zn p)), none, none] [] ph835
    refine w_load (pc' := 18) (v := .ref 170) (m := 1) (ykc_257 (e := (2, .aload_n kF0, 0)) rfl) rfl rfl ?_
    refine w_load (pc' := 19) (v := .ref 170) (m := 1) (ykc_257 (e := (2, .aload_n kF0, 0)) rfl) rfl rfl ?_
    refine w_gf (pc' := 22) (v := .ref 174) (ykc_257 (e := (5, .getfield 41, 0)) rfl) rfl ((u834.2.1 170 11 (fun q => absurd q.2 (by decide))).trans (zsg hS zs_170_11)) rfl ?_
    refine w_load (pc' := 23) (v := .int (zn p)) (m := 1) (ykc_257 (e := (2, .iload_n kF1, 0)) rfl) rfl rfl ?_
    refine w_cv (as := [.ref 170, .ref 174, .int (zn p)]) (r := []) (ykc_257 (e := (6, .invokevirtual 300, 0)) rfl) rfl rfl rfl rfl (zm_seen hS1 hE1 hN1 (⟨hA, hv1⟩ : ((174 : Nat) = 174 ∨ (174 : Nat) = 175) ∧ zNr ph835 174 0 v).1 (⟨hA, hv1⟩ : ((174 : Nat) = 174 ∨ (174 : Nat) = 175) ∧ zNr ph835 174 0 v).2 hO0 (p := p) (by omega)) (fun v840 ph841 hv => ?_)
    obtain ⟨f839, rfl⟩ := hv
    show zW n D 257 Q 26 [some (.ref 170), some (.int (zn p)), none, none] [.long (zVw (R, C, rk, sn, sk, cn, cd) P v p)] ph841
    refine w_store (pc' := 27) (L' := [some (.ref 170), some (.int (zn p)), some (.long (zVw (R, C, rk, sn, sk, cn, cd) P v p)), none]) (st' := []) (m := 1) (ykc_257 (e := (3, .lstore_n kF2, 0)) rfl) rfl rfl ?_
    rw [hQ]
    exact zTail kc_257 true 2 27 9999 (fun _ => rfl) (Or.inr ⟨rfl, _, rfl⟩) (by decide +kernel) (by decide) (by decide) rfl (by decide +kernel) (fun _ => zXsees_p h_p (by omega))
  · refine w_push (pc' := 16) (v := .long (-1 : Int64)) (m := 3) (ykc_257 (e := (1, .ldc2_w 403, 0)) rfl) rfl rfl ?_
    refine w_ret (v := (some (.long (-1 : Int64)))) (ykc_257 (e := (7, .lreturn, 0)) rfl) (zr_v rfl) ?_
    have b_n := of_decide_eq_false b838
    rw [hQ]
    exact zXsees_n b_n