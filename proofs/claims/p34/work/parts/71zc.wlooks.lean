/-! what looks answer, class and reference, by W; printed by wip/z/z3a_looks.py -/
noncomputable def zXsees (E : zEn) (P : Nat) (v : Nat → Nat) (x : Int32) : Int64 := if 0 ≤ x.toInt ∧ x.toInt < (P : Int) then zVw E P v x.toInt.toNat else -1
theorem zXsees_n {E : zEn} {P : Nat} {v : Nat → Nat} {x : Int32} (h : ¬ (0 ≤ x.toInt ∧ x.toInt < (P : Int))) : (some (.long (-1)) : Option Value) = some (.long (zXsees E P v x)) := by
  unfold zXsees
  rw [if_neg h]
theorem zXsees_p {E : zEn} {P p : Nat} {v : Nat → Nat} (hp : p < P) (hP : P ≤ 8) : (some (.long (zVw E P v p)) : Option Value) = some (.long (zXsees E P v (zn p))) := by
  have t := znt (k := p) (by omega)
  unfold zXsees
  rw [if_pos (by omega), show (zn p).toInt.toNat = p by omega]
theorem zc_seesX {ph : pm_H} {E : zEn} {F P G : Nat} {v : Nat → Nat} (hS : zSh ph) (hE : zCe ph E F) (ht : zCt ph 25 P G v) (hO : zOk E.1 E.2.1 P G v) (hr : zc ph 10 1 = some (.ref F)) (hc : zCc ph E.1 E.2.1 E.2.2.1) {x : Int32} : zM 147 [.ref 0, .int x] ph (fun v0 _ => v0 = some (.long (zXsees E P v x))) := by
  obtain ⟨Q, hQ⟩ : ∃ Q : Option Value → pm_H → Prop, Q = (fun v0 _ => v0 = some (.long (zXsees E P v x))) := ⟨_, rfl⟩
  rw [← hQ]
  refine zM_mk fun n D => ?_
  show zW n D 147 Q 0 [some (.ref 0), some (.int x), none, none] [] ph
  have c_0 : (Int32.ofInt (-1)).toInt = -1 := by decide
  have c_1 : (Int32.ofInt 1).toInt = 1 := by decide
  obtain ⟨R, C, rk, sn, sk, cn, cd⟩ := E
  have hL0 : zCl ph R C rk := hE.1
  have hi0 : zCi ph sn sk := hE.2.1
  have hF : F = 11 ∨ F = 16 := hE.2.2.2
  have hE0 : zCe ph (R, C, rk, sn, sk, cn, cd) F := hE
  have hO0 : zOk R C P G v := hO
  have hL := hL0
  have hs := ht.1.2
  have hd := ht.2
  have h25 := ht.1.1
  obtain ⟨gR, gC, gN, gK, gA, hR3, hR7, hC3, hC7⟩ := hL
  have hRC := zRC49 hR7 hC7
  have tR := znt (k := R) (by omega)
  have tC := znt (k := C) (by omega)
  have tRC := znt (k := R * C) (by omega)
  have hd0 := hd
  have hs0 := hs
  obtain ⟨r3, r4, r5, r6, r7, l1, l2, l3, l4, l5⟩ := hs
  obtain ⟨gP, hP8, gG, hG8, gH, gv, gw⟩ := hd
  have tP := znt (k := P) (by omega)
  have tG := znt (k := G) (by omega)
  have h40 := hO0.2.2
  have t40 := znt (k := v 40) (by omega)
  have hc0 := hc
  refine w_load (pc' := 1) (v := .ref 0) (m := 1) (ykc_147 (e := (2, .aload_n kF0, 0)) rfl) rfl rfl ?_
  refine w_gf (pc' := 4) (v := .ref 25) (ykc_147 (e := (5, .getfield 42, 0)) rfl) rfl (zsg hS zs_0_4) rfl ?_
  refine w_load (pc' := 5) (v := .int x) (m := 1) (ykc_147 (e := (2, .iload_n kF1, 0)) rfl) rfl rfl ?_
  refine w_cv (as := [.ref 25, .int x]) (r := []) (ykc_147 (e := (6, .invokevirtual 167, 0)) rfl) rfl rfl rfl rfl (zc_hasP ht.1.2 ht.2 (i := x)) (fun v827 ph828 hv => ?_)
  obtain ⟨rfl, rfl⟩ := hv
  show zW n D 147 Q 8 [some (.ref 0), some (.int x), none, none] [.int (zI (decide (0 ≤ x.toInt ∧ x.toInt < ((P : Nat) : Int))))] ph
  refine w_bne (ykc_147 (e := (4, .ifCond .ne 7, 15)) rfl) rfl (fun b829 => ?_) (fun b829 => ?_)
  · have b_p := of_decide_eq_true b829
    obtain ⟨p, h_p, rfl⟩ : ∃ p : Nat, p < P ∧ x = zn p := ⟨x.toInt.toNat, by omega, zn_of (by omega)⟩
    have t_p := znt (k := p) (by omega)
    show zW n D 147 Q 15 [some (.ref 0), some (.int (zn p)), none, none] [] ph
    refine w_load (pc' := 16) (v := .ref 0) (m := 1) (ykc_147 (e := (2, .aload_n kF0, 0)) rfl) rfl rfl ?_
    refine w_gf (pc' := 19) (v := .ref 10) (ykc_147 (e := (5, .getfield 35, 0)) rfl) rfl (zsg hS zs_0_3) rfl ?_
    refine w_load (pc' := 20) (v := .ref 0) (m := 1) (ykc_147 (e := (2, .aload_n kF0, 0)) rfl) rfl rfl ?_
    refine w_gf (pc' := 23) (v := .ref 25) (ykc_147 (e := (5, .getfield 42, 0)) rfl) rfl (zsg hS zs_0_4) rfl ?_
    refine w_load (pc' := 24) (v := .int (zn p)) (m := 1) (ykc_147 (e := (2, .iload_n kF1, 0)) rfl) rfl rfl ?_
    refine w_cv (as := [.ref 10, .ref 25, .int (zn p)]) (r := []) (ykc_147 (e := (6, .invokevirtual 190, 0)) rfl) rfl rfl rfl rfl (zc_viewOf hS hE0 ht hO0 hr hc0 (p := p) (by omega)) (fun v832 ph833 hv => ?_)
    obtain ⟨f830, hc831, rfl⟩ := hv
    show zW n D 147 Q 27 [some (.ref 0), some (.int (zn p)), none, none] [.long (zVw (R, C, rk, sn, sk, cn, cd) P v p)] ph833
    refine w_store (pc' := 28) (L' := [some (.ref 0), some (.int (zn p)), some (.long (zVw (R, C, rk, sn, sk, cn, cd) P v p)), none]) (st' := []) (m := 1) (ykc_147 (e := (3, .lstore_n kF2, 0)) rfl) rfl rfl ?_
    rw [hQ]
    exact zTail kc_147 true 2 28 9999 (fun _ => rfl) (Or.inr ⟨rfl, _, rfl⟩) (by decide +kernel) (by decide) (by decide) rfl (by decide +kernel) (fun _ => zXsees_p h_p (by omega))
  · refine w_push (pc' := 14) (v := .long (-1 : Int64)) (m := 3) (ykc_147 (e := (1, .ldc2_w 94, 0)) rfl) rfl rfl ?_
    refine w_ret (v := (some (.long (-1 : Int64)))) (ykc_147 (e := (7, .lreturn, 0)) rfl) (zr_v rfl) ?_
    have b_n := of_decide_eq_false b829
    rw [hQ]
    exact zXsees_n b_n
theorem zm_seesX {ph : pm_H} {E : zEn} {P G : Nat} {v : Nat → Nat} (hS : zSh ph) (hE : zMe ph E) (hN : zMp ph P G) (hv : zNr ph 174 0 v) (hO : zOk E.1 E.2.1 P G v) {x : Int32} : zM 257 [.ref 170, .int x] ph (fun v0 _ => v0 = some (.long (zXsees E P v x))) := by
  obtain ⟨Q, hQ⟩ : ∃ Q : Option Value → pm_H → Prop, Q = (fun v0 _ => v0 = some (.long (zXsees E P v x))) := ⟨_, rfl⟩
  rw [← hQ]
  refine zM_mk fun n D => ?_
  show zW n D 257 Q 0 [some (.ref 170), some (.int x), none, none] [] ph
  have c_0 : (Int32.ofInt (-1)).toInt = -1 := by decide
  have c_1 : (Int32.ofInt 0).toInt = 0 := by decide
  have c_2 : (Int32.ofInt 1).toInt = 1 := by decide
  have hA : (174 : Nat) = 174 ∨ (174 : Nat) = 175 := Or.inl rfl
  obtain ⟨R, C, rk, sn, sk, cn, cd⟩ := E
  have hL0 : zMl ph R C rk := hE.1
  have hR0 : zMr ph sn sk cn cd := hE.2.1
  have hcg : zcg cn cd := hE.2.2
  have hE0 : zMe ph (R, C, rk, sn, sk, cn, cd) := hE
  have hO0 : zOk R C P G v := hO
  have hN0 := hN
  have hL := hL0
  have hR := hR0
  obtain ⟨gR, gC, gK, hR3, hR7, hC3, hC7⟩ := hL
  have hRC := zRC49 hR7 hC7
  have tR := znt (k := R) (by omega)
  have tC := znt (k := C) (by omega)
  obtain ⟨gP, hP8, gG, hG8⟩ := hN
  have tP := znt (k := P) (by omega)
  have tG := znt (k := G) (by omega)
  obtain ⟨gsn, hs1, hs20, gsk, gcn, hc40, gcd⟩ := hR
  have tsn := znt (k := sn) (by omega)
  have tcn := znt (k := cn) (by omega)
  refine w_load (pc' := 1) (v := .ref 170) (m := 1) (ykc_257 (e := (2, .aload_n kF0, 0)) rfl) rfl rfl ?_
  refine w_alu (pc' := 2) (st' := [.int (Int32.ofInt 0), .ref 170]) (ykc_257 (e := (0, .iconst 0, 0)) rfl) rfl rfl ?_
  refine w_pf (pc' := 5) (ykc_257 (e := (5, .putfield 3, 0)) rfl) rfl rfl (fun ph835 u834 => ?_)
  have f0 : zFr [] [(170, 0)] ph ph835 := zFr_st u834 (Or.inr (by simp))
  have hS1 := zSh_st u834 (by decide +kernel) hS
  have hE1 : zMe ph835 (R, C, rk, sn, sk, cn, cd) := ⟨zMl_F f0 (by simp) (by simp) (by simp) (by simp) hE0.1, zMr_F f0 (by simp) (by simp) (by simp) (by simp) hE0.2.1, hE0.2.2⟩
  have hN1 := zMp_F f0 (by simp) (by simp) (by simp) hN0
  have hv1 := zNr_F f0 (by simp) (by simp) hv
  have hL1 : zMl ph835 R C rk := hE1.1
  have hR1 : zMr ph835 sn sk cn cd := hE1.2.1
  refine w_load (pc' := 6) (v := .ref 170) (m := 1) (ykc_257 (e := (2, .aload_n kF0, 0)) rfl) rfl rfl ?_
  refine w_load (pc' := 7) (v := .int x) (m := 1) (ykc_257 (e := (2, .iload_n kF1, 0)) rfl) rfl rfl ?_
  refine w_cv (as := [.ref 170, .int x]) (r := []) (ykc_257 (e := (6, .invokevirtual 315, 0)) rfl) rfl rfl rfl rfl (zm_isPerson hN1 (p := x)) (fun v836 ph837 hv => ?_)
  obtain ⟨rfl, rfl⟩ := hv
  show zW n D 257 Q 10 [some (.ref 170), some (.int x), none, none] [.int (zI (decide (0 ≤ x.toInt ∧ x.toInt < ((P : Nat) : Int))))] ph835
  refine w_bne (ykc_257 (e := (4, .ifCond .ne 7, 17)) rfl) rfl (fun b838 => ?_) (fun b838 => ?_)
  · have b_p := of_decide_eq_true b838
    obtain ⟨p, h_p, rfl⟩ : ∃ p : Nat, p < P ∧ x = zn p := ⟨x.toInt.toNat, by omega, zn_of (by omega)⟩
    have t_p := znt (k := p) (by omega)
    show zW n D 257 Q 17 [some (.ref 170), some (.int (zn p)), none, none] [] ph835
    refine w_load (pc' := 18) (v := .ref 170) (m := 1) (ykc_257 (e := (2, .aload_n kF0, 0)) rfl) rfl rfl ?_
    refine w_load (pc' := 19) (v := .ref 170) (m := 1) (ykc_257 (e := (2, .aload_n kF0, 0)) rfl) rfl rfl ?_
    refine w_gf (pc' := 22) (v := .ref 174) (ykc_257 (e := (5, .getfield 41, 0)) rfl) rfl ((u834.2.1 170 11 (fun q => absurd q.2 (by decide))).trans (zsg hS zs_170_11)) rfl ?_
    refine w_load (pc' := 23) (v := .int (zn p)) (m := 1) (ykc_257 (e := (2, .iload_n kF1, 0)) rfl) rfl rfl ?_
    refine w_cv (as := [.ref 170, .ref 174, .int (zn p)]) (r := []) (ykc_257 (e := (6, .invokevirtual 300, 0)) rfl) rfl rfl rfl rfl (zm_seen hS1 hE1 hN1 (⟨hA, hv1⟩ : ((174 : Nat) = 174 ∨ (174 : Nat) = 175) ∧ zNr ph835 174 0 v).1 (⟨hA, hv1⟩ : ((174 : Nat) = 174 ∨ (174 : Nat) = 175) ∧ zNr ph835 174 0 v).2 hO0 (p := p) (by omega)) (fun v840 ph841 hv => ?_)
    obtain ⟨f839, rfl⟩ := hv
    show zW n D 257 Q 26 [some (.ref 170), some (.int (zn p)), none, none] [.long (zVw (R, C, rk, sn, sk, cn, cd) P v p)] ph841
    refine w_store (pc' := 27) (L' := [some (.ref 170), some (.int (zn p)), some (.long (zVw (R, C, rk, sn, sk, cn, cd) P v p)), none]) (st' := []) (m := 1) (ykc_257 (e := (3, .lstore_n kF2, 0)) rfl) rfl rfl ?_
    rw [hQ]
    exact zTail kc_257 true 2 27 9999 (fun _ => rfl) (Or.inr ⟨rfl, _, rfl⟩) (by decide +kernel) (by decide) (by decide) rfl (by decide +kernel) (fun _ => zXsees_p h_p (by omega))
  · refine w_push (pc' := 16) (v := .long (-1 : Int64)) (m := 3) (ykc_257 (e := (1, .ldc2_w 403, 0)) rfl) rfl rfl ?_
    refine w_ret (v := (some (.long (-1 : Int64)))) (ykc_257 (e := (7, .lreturn, 0)) rfl) (zr_v rfl) ?_
    have b_n := of_decide_eq_false b838
    rw [hQ]
    exact zXsees_n b_n
def zXseers (E : zEn) (P : Nat) (v : Nat → Nat) (x : Int32) : Int32 := if 0 ≤ x.toInt ∧ x.toInt < ((E.1 * E.2.1 : Nat) : Int) then zWho E P v x.toInt.toNat else Int32.ofInt (-1)
theorem zXseers_n {E : zEn} {P : Nat} {v : Nat → Nat} {x : Int32} (h : ¬ (0 ≤ x.toInt ∧ x.toInt < ((E.1 * E.2.1 : Nat) : Int))) : (some (.int (Int32.ofInt (-1))) : Option Value) = some (.int (zXseers E P v x)) := by
  unfold zXseers
  rw [if_neg h]
theorem zXseers_p {E : zEn} {P p : Nat} {v : Nat → Nat} (hp : p < E.1 * E.2.1) (hP : E.1 * E.2.1 ≤ 64) : (some (.int (zWho E P v p)) : Option Value) = some (.int (zXseers E P v (zn p))) := by
  have t := znt (k := p) (by omega)
  unfold zXseers
  rw [if_pos (by omega), show (zn p).toInt.toNat = p by omega]
theorem zc_seersX {ph : pm_H} {E : zEn} {F P G : Nat} {v : Nat → Nat} (hS : zSh ph) (hE : zCe ph E F) (ht : zCt ph 25 P G v) (hO : zOk E.1 E.2.1 P G v) (hr : zc ph 10 1 = some (.ref F)) (hc : zCc ph E.1 E.2.1 E.2.2.1) {x : Int32} : zM 148 [.ref 0, .int x] ph (fun v0 _ => v0 = some (.int (zXseers E P v x))) := by
  obtain ⟨Q, hQ⟩ : ∃ Q : Option Value → pm_H → Prop, Q = (fun v0 _ => v0 = some (.int (zXseers E P v x))) := ⟨_, rfl⟩
  rw [← hQ]
  refine zM_mk fun n D => ?_
  show zW n D 148 Q 0 [some (.ref 0), some (.int x), none] [] ph
  have c_0 : (Int32.ofInt (-1)).toInt = -1 := by decide
  obtain ⟨R, C, rk, sn, sk, cn, cd⟩ := E
  have hL0 : zCl ph R C rk := hE.1
  have hi0 : zCi ph sn sk := hE.2.1
  have hF : F = 11 ∨ F = 16 := hE.2.2.2
  have hE0 : zCe ph (R, C, rk, sn, sk, cn, cd) F := hE
  have hO0 : zOk R C P G v := hO
  have hL := hL0
  have hs := ht.1.2
  have hd := ht.2
  have h25 := ht.1.1
  obtain ⟨gR, gC, gN, gK, gA, hR3, hR7, hC3, hC7⟩ := hL
  have hRC := zRC49 hR7 hC7
  have tR := znt (k := R) (by omega)
  have tC := znt (k := C) (by omega)
  have tRC := znt (k := R * C) (by omega)
  have hd0 := hd
  have hs0 := hs
  obtain ⟨r3, r4, r5, r6, r7, l1, l2, l3, l4, l5⟩ := hs
  obtain ⟨gP, hP8, gG, hG8, gH, gv, gw⟩ := hd
  have tP := znt (k := P) (by omega)
  have tG := znt (k := G) (by omega)
  have h40 := hO0.2.2
  have t40 := znt (k := v 40) (by omega)
  have hc0 := hc
  refine w_load (pc' := 1) (v := .ref 0) (m := 1) (ykc_148 (e := (2, .aload_n kF0, 0)) rfl) rfl rfl ?_
  refine w_gf (pc' := 4) (v := .ref 5) (ykc_148 (e := (5, .getfield 26, 0)) rfl) rfl (zsg hS zs_0_2) rfl ?_
  refine w_load (pc' := 5) (v := .int x) (m := 1) (ykc_148 (e := (2, .iload_n kF1, 0)) rfl) rfl rfl ?_
  refine w_cv (as := [.ref 5, .int x]) (r := []) (ykc_148 (e := (6, .invokevirtual 302, 0)) rfl) rfl rfl rfl rfl (zc_holds hS hL0 (f := x)) (fun v842 ph843 hv => ?_)
  obtain ⟨rfl, rfl⟩ := hv
  show zW n D 148 Q 8 [some (.ref 0), some (.int x), none] [.int (zI (decide (0 ≤ x.toInt ∧ x.toInt < ((R * C : Nat) : Int))))] ph
  refine w_bne (ykc_148 (e := (4, .ifCond .ne 5, 13)) rfl) rfl (fun b844 => ?_) (fun b844 => ?_)
  · have b_g := of_decide_eq_true b844
    obtain ⟨g, h_g, rfl⟩ : ∃ g : Nat, g < R * C ∧ x = zn g := ⟨x.toInt.toNat, by omega, zn_of (by omega)⟩
    have t_g := znt (k := g) (by omega)
    show zW n D 148 Q 13 [some (.ref 0), some (.int (zn g)), none] [] ph
    refine w_load (pc' := 14) (v := .ref 0) (m := 1) (ykc_148 (e := (2, .aload_n kF0, 0)) rfl) rfl rfl ?_
    refine w_gf (pc' := 17) (v := .ref 10) (ykc_148 (e := (5, .getfield 35, 0)) rfl) rfl (zsg hS zs_0_3) rfl ?_
    refine w_load (pc' := 18) (v := .ref 0) (m := 1) (ykc_148 (e := (2, .aload_n kF0, 0)) rfl) rfl rfl ?_
    refine w_gf (pc' := 21) (v := .ref 25) (ykc_148 (e := (5, .getfield 42, 0)) rfl) rfl (zsg hS zs_0_4) rfl ?_
    refine w_cv (as := [.ref 10, .ref 25]) (r := []) (ykc_148 (e := (6, .invokevirtual 208, 0)) rfl) rfl rfl rfl rfl (zc_lookR hS hE0 ht hO0 hr hc0) (fun v847 ph848 hv => ?_)
    obtain ⟨f845, hc846, hvw, rfl⟩ := hv
    show zW n D 148 Q 24 [some (.ref 0), some (.int (zn g)), none] [.long (zAll (R, C, rk, sn, sk, cn, cd) P v)] ph848
    refine w_alu (pc' := 25) (st' := []) (ykc_148 (e := (0, .pop2, 0)) rfl) rfl rfl ?_
    refine w_load (pc' := 26) (v := .ref 0) (m := 1) (ykc_148 (e := (2, .aload_n kF0, 0)) rfl) rfl rfl ?_
    refine w_gf (pc' := 29) (v := .ref 10) (ykc_148 (e := (5, .getfield 35, 0)) rfl) rfl ((f845.1 0 3 (by decide) (by decide)).trans (zsg hS zs_0_3)) rfl ?_
    refine w_load (pc' := 30) (v := .ref 0) (m := 1) (ykc_148 (e := (2, .aload_n kF0, 0)) rfl) rfl rfl ?_
    refine w_gf (pc' := 33) (v := .ref 25) (ykc_148 (e := (5, .getfield 42, 0)) rfl) rfl ((f845.1 0 4 (by decide) (by decide)).trans (zsg hS zs_0_4)) rfl ?_
    refine w_load (pc' := 34) (v := .int (zn g)) (m := 1) (ykc_148 (e := (2, .iload_n kF1, 0)) rfl) rfl rfl ?_
    refine w_cv (as := [.ref 10, .ref 25, .int (zn g)]) (r := []) (ykc_148 (e := (6, .invokevirtual 212, 0)) rfl) rfl rfl rfl rfl (zc_seers (zCx_S f845 hS) (zCx_e f845 hE0) (zCx_t f845 ht) hO0 hvw (g := g) (show g < R * C by omega)) (fun v849 ph850 hv => ?_)
    obtain ⟨rfl, rfl⟩ := hv
    show zW n D 148 Q 37 [some (.ref 0), some (.int (zn g)), none] [.int (zWho (R, C, rk, sn, sk, cn, cd) P v g)] ph848
    refine w_store (pc' := 38) (L' := [some (.ref 0), some (.int (zn g)), some (.int (zWho (R, C, rk, sn, sk, cn, cd) P v g))]) (st' := []) (m := 1) (ykc_148 (e := (3, .istore_n kF2, 0)) rfl) rfl rfl ?_
    rw [hQ]
    exact zTail kc_148 false 2 38 9999 (fun _ => rfl) (Or.inl ⟨_, rfl⟩) (by decide +kernel) (by decide) (by decide) rfl (by decide +kernel) (fun _ => zXseers_p (E := (R, C, rk, sn, sk, cn, cd)) h_g (show R * C ≤ 64 by omega))
  · refine w_alu (pc' := 12) (st' := [.int (Int32.ofInt (-1))]) (ykc_148 (e := (0, .iconst (-1), 0)) rfl) rfl rfl ?_
    refine w_ret (v := (some (.int (Int32.ofInt (-1))))) (ykc_148 (e := (7, .ireturn, 0)) rfl) (zr_v rfl) ?_
    have b_n := of_decide_eq_false b844
    rw [hQ]
    exact zXseers_n b_n
theorem zm_seersX {ph : pm_H} {E : zEn} {P G : Nat} {v : Nat → Nat} (hS : zSh ph) (hE : zMe ph E) (hN : zMp ph P G) (hv : zNr ph 174 0 v) (hO : zOk E.1 E.2.1 P G v) {x : Int32} : zM 258 [.ref 170, .int x] ph (fun v0 _ => v0 = some (.int (zXseers E P v x))) := by
  obtain ⟨Q, hQ⟩ : ∃ Q : Option Value → pm_H → Prop, Q = (fun v0 _ => v0 = some (.int (zXseers E P v x))) := ⟨_, rfl⟩
  rw [← hQ]
  refine zM_mk fun n D => ?_
  show zW n D 258 Q 0 [some (.ref 170), some (.int x), none] [] ph
  have c_0 : (Int32.ofInt (-1)).toInt = -1 := by decide
  have c_1 : (Int32.ofInt 0).toInt = 0 := by decide
  have hA : (174 : Nat) = 174 ∨ (174 : Nat) = 175 := Or.inl rfl
  obtain ⟨R, C, rk, sn, sk, cn, cd⟩ := E
  have hL0 : zMl ph R C rk := hE.1
  have hR0 : zMr ph sn sk cn cd := hE.2.1
  have hcg : zcg cn cd := hE.2.2
  have hE0 : zMe ph (R, C, rk, sn, sk, cn, cd) := hE
  have hO0 : zOk R C P G v := hO
  have hN0 := hN
  have hL := hL0
  have hR := hR0
  obtain ⟨gR, gC, gK, hR3, hR7, hC3, hC7⟩ := hL
  have hRC := zRC49 hR7 hC7
  have tR := znt (k := R) (by omega)
  have tC := znt (k := C) (by omega)
  obtain ⟨gP, hP8, gG, hG8⟩ := hN
  have tP := znt (k := P) (by omega)
  have tG := znt (k := G) (by omega)
  obtain ⟨gsn, hs1, hs20, gsk, gcn, hc40, gcd⟩ := hR
  have tsn := znt (k := sn) (by omega)
  have tcn := znt (k := cn) (by omega)
  refine w_load (pc' := 1) (v := .ref 170) (m := 1) (ykc_258 (e := (2, .aload_n kF0, 0)) rfl) rfl rfl ?_
  refine w_alu (pc' := 2) (st' := [.int (Int32.ofInt 0), .ref 170]) (ykc_258 (e := (0, .iconst 0, 0)) rfl) rfl rfl ?_
  refine w_pf (pc' := 5) (ykc_258 (e := (5, .putfield 3, 0)) rfl) rfl rfl (fun ph852 u851 => ?_)
  have f0 : zFr [] [(170, 0)] ph ph852 := zFr_st u851 (Or.inr (by simp))
  have hS1 := zSh_st u851 (by decide +kernel) hS
  have hE1 : zMe ph852 (R, C, rk, sn, sk, cn, cd) := ⟨zMl_F f0 (by simp) (by simp) (by simp) (by simp) hE0.1, zMr_F f0 (by simp) (by simp) (by simp) (by simp) hE0.2.1, hE0.2.2⟩
  have hN1 := zMp_F f0 (by simp) (by simp) (by simp) hN0
  have hv1 := zNr_F f0 (by simp) (by simp) hv
  have hL1 : zMl ph852 R C rk := hE1.1
  have hR1 : zMr ph852 sn sk cn cd := hE1.2.1
  refine w_load (pc' := 6) (v := .ref 170) (m := 1) (ykc_258 (e := (2, .aload_n kF0, 0)) rfl) rfl rfl ?_
  refine w_load (pc' := 7) (v := .int x) (m := 1) (ykc_258 (e := (2, .iload_n kF1, 0)) rfl) rfl rfl ?_
  refine w_cv (as := [.ref 170, .int x]) (r := []) (ykc_258 (e := (6, .invokevirtual 358, 0)) rfl) rfl rfl rfl rfl (zm_isField hS1 hL1 (f := x)) (fun v853 ph854 hv => ?_)
  obtain ⟨rfl, rfl⟩ := hv
  show zW n D 258 Q 10 [some (.ref 170), some (.int x), none] [.int (zI (decide (0 ≤ x.toInt ∧ x.toInt < ((R * C : Nat) : Int))))] ph852
  refine w_bne (ykc_258 (e := (4, .ifCond .ne 5, 15)) rfl) rfl (fun b855 => ?_) (fun b855 => ?_)
  · have b_g := of_decide_eq_true b855
    obtain ⟨g, h_g, rfl⟩ : ∃ g : Nat, g < R * C ∧ x = zn g := ⟨x.toInt.toNat, by omega, zn_of (by omega)⟩
    have t_g := znt (k := g) (by omega)
    show zW n D 258 Q 15 [some (.ref 170), some (.int (zn g)), none] [] ph852
    refine w_load (pc' := 16) (v := .ref 170) (m := 1) (ykc_258 (e := (2, .aload_n kF0, 0)) rfl) rfl rfl ?_
    refine w_load (pc' := 17) (v := .ref 170) (m := 1) (ykc_258 (e := (2, .aload_n kF0, 0)) rfl) rfl rfl ?_
    refine w_gf (pc' := 20) (v := .ref 174) (ykc_258 (e := (5, .getfield 41, 0)) rfl) rfl ((u851.2.1 170 11 (fun q => absurd q.2 (by decide))).trans (zsg hS zs_170_11)) rfl ?_
    refine w_load (pc' := 21) (v := .int (zn g)) (m := 1) (ykc_258 (e := (2, .iload_n kF1, 0)) rfl) rfl rfl ?_
    refine w_cv (as := [.ref 170, .ref 174, .int (zn g)]) (r := []) (ykc_258 (e := (6, .invokevirtual 336, 0)) rfl) rfl rfl rfl rfl (zm_who hS1 hE1 hN1 (⟨hA, hv1⟩ : ((174 : Nat) = 174 ∨ (174 : Nat) = 175) ∧ zNr ph852 174 0 v).1 (⟨hA, hv1⟩ : ((174 : Nat) = 174 ∨ (174 : Nat) = 175) ∧ zNr ph852 174 0 v).2 hO0 (g := g) (show g < R * C by omega)) (fun v857 ph858 hv => ?_)
    obtain ⟨f856, rfl⟩ := hv
    show zW n D 258 Q 24 [some (.ref 170), some (.int (zn g)), none] [.int (zWho (R, C, rk, sn, sk, cn, cd) P v g)] ph858
    refine w_store (pc' := 25) (L' := [some (.ref 170), some (.int (zn g)), some (.int (zWho (R, C, rk, sn, sk, cn, cd) P v g))]) (st' := []) (m := 1) (ykc_258 (e := (3, .istore_n kF2, 0)) rfl) rfl rfl ?_
    rw [hQ]
    exact zTail kc_258 false 2 25 9999 (fun _ => rfl) (Or.inl ⟨_, rfl⟩) (by decide +kernel) (by decide) (by decide) rfl (by decide +kernel) (fun _ => zXseers_p (E := (R, C, rk, sn, sk, cn, cd)) h_g (show R * C ≤ 64 by omega))
  · refine w_alu (pc' := 14) (st' := [.int (Int32.ofInt (-1))]) (ykc_258 (e := (0, .iconst (-1), 0)) rfl) rfl rfl ?_
    refine w_ret (v := (some (.int (Int32.ofInt (-1))))) (ykc_258 (e := (7, .ireturn, 0)) rfl) (zr_v rfl) ?_
    have b_n := of_decide_eq_false b855
    rw [hQ]
    exact zXseers_n b_n
noncomputable def zXbeh (E : zEn) (P : Nat) (v : Nat → Nat) (x : Int32) : Int32 := if 0 ≤ x.toInt ∧ x.toInt < (P : Int) then zWho E P v (v x.toInt.toNat) &&& (zPon P v (zVw E P v x.toInt.toNat) ^^^ Int32.ofInt (-1)) else Int32.ofInt (-1)
theorem zXbeh_n {E : zEn} {P : Nat} {v : Nat → Nat} {x : Int32} (h : ¬ (0 ≤ x.toInt ∧ x.toInt < (P : Int))) : (some (.int (Int32.ofInt (-1))) : Option Value) = some (.int (zXbeh E P v x)) := by
  unfold zXbeh
  rw [if_neg h]
theorem zXbeh_p {E : zEn} {P p : Nat} {v : Nat → Nat} (hp : p < P) (hP : P ≤ 8) : (some (.int (zWho E P v (v p) &&& (zPon P v (zVw E P v p) ^^^ Int32.ofInt (-1)))) : Option Value) = some (.int (zXbeh E P v (zn p))) := by
  have t := znt (k := p) (by omega)
  unfold zXbeh
  rw [if_pos (by omega), show (zn p).toInt.toNat = p by omega]
theorem zc_behX {ph : pm_H} {E : zEn} {F P G : Nat} {v : Nat → Nat} (hS : zSh ph) (hE : zCe ph E F) (ht : zCt ph 25 P G v) (hO : zOk E.1 E.2.1 P G v) (hr : zc ph 10 1 = some (.ref F)) (hc : zCc ph E.1 E.2.1 E.2.2.1) {x : Int32} : zM 151 [.ref 0, .int x] ph (fun v0 _ => v0 = some (.int (zXbeh E P v x))) := by
  obtain ⟨Q, hQ⟩ : ∃ Q : Option Value → pm_H → Prop, Q = (fun v0 _ => v0 = some (.int (zXbeh E P v x))) := ⟨_, rfl⟩
  rw [← hQ]
  refine zM_mk fun n D => ?_
  show zW n D 151 Q 0 [some (.ref 0), some (.int x), none, none] [] ph
  have c_0 : (Int32.ofInt (-1)).toInt = -1 := by decide
  obtain ⟨R, C, rk, sn, sk, cn, cd⟩ := E
  have hL0 : zCl ph R C rk := hE.1
  have hi0 : zCi ph sn sk := hE.2.1
  have hF : F = 11 ∨ F = 16 := hE.2.2.2
  have hE0 : zCe ph (R, C, rk, sn, sk, cn, cd) F := hE
  have hO0 : zOk R C P G v := hO
  have hL := hL0
  have hs := ht.1.2
  have hd := ht.2
  have h25 := ht.1.1
  obtain ⟨gR, gC, gN, gK, gA, hR3, hR7, hC3, hC7⟩ := hL
  have hRC := zRC49 hR7 hC7
  have tR := znt (k := R) (by omega)
  have tC := znt (k := C) (by omega)
  have tRC := znt (k := R * C) (by omega)
  have hd0 := hd
  have hs0 := hs
  obtain ⟨r3, r4, r5, r6, r7, l1, l2, l3, l4, l5⟩ := hs
  obtain ⟨gP, hP8, gG, hG8, gH, gv, gw⟩ := hd
  have tP := znt (k := P) (by omega)
  have tG := znt (k := G) (by omega)
  have h40 := hO0.2.2
  have t40 := znt (k := v 40) (by omega)
  have hc0 := hc
  refine w_load (pc' := 1) (v := .ref 0) (m := 1) (ykc_151 (e := (2, .aload_n kF0, 0)) rfl) rfl rfl ?_
  refine w_gf (pc' := 4) (v := .ref 25) (ykc_151 (e := (5, .getfield 42, 0)) rfl) rfl (zsg hS zs_0_4) rfl ?_
  refine w_load (pc' := 5) (v := .int x) (m := 1) (ykc_151 (e := (2, .iload_n kF1, 0)) rfl) rfl rfl ?_
  refine w_cv (as := [.ref 25, .int x]) (r := []) (ykc_151 (e := (6, .invokevirtual 167, 0)) rfl) rfl rfl rfl rfl (zc_hasP ht.1.2 ht.2 (i := x)) (fun v859 ph860 hv => ?_)
  obtain ⟨rfl, rfl⟩ := hv
  show zW n D 151 Q 8 [some (.ref 0), some (.int x), none, none] [.int (zI (decide (0 ≤ x.toInt ∧ x.toInt < ((P : Nat) : Int))))] ph
  refine w_bne (ykc_151 (e := (4, .ifCond .ne 5, 13)) rfl) rfl (fun b861 => ?_) (fun b861 => ?_)
  · have b_p := of_decide_eq_true b861
    obtain ⟨p, h_p, rfl⟩ : ∃ p : Nat, p < P ∧ x = zn p := ⟨x.toInt.toNat, by omega, zn_of (by omega)⟩
    have t_p := znt (k := p) (by omega)
    have op := hO0.1 p h_p
    show zW n D 151 Q 13 [some (.ref 0), some (.int (zn p)), none, none] [] ph
    refine w_load (pc' := 14) (v := .ref 0) (m := 1) (ykc_151 (e := (2, .aload_n kF0, 0)) rfl) rfl rfl ?_
    refine w_gf (pc' := 17) (v := .ref 10) (ykc_151 (e := (5, .getfield 35, 0)) rfl) rfl (zsg hS zs_0_3) rfl ?_
    refine w_load (pc' := 18) (v := .ref 0) (m := 1) (ykc_151 (e := (2, .aload_n kF0, 0)) rfl) rfl rfl ?_
    refine w_gf (pc' := 21) (v := .ref 25) (ykc_151 (e := (5, .getfield 42, 0)) rfl) rfl (zsg hS zs_0_4) rfl ?_
    refine w_cv (as := [.ref 10, .ref 25]) (r := []) (ykc_151 (e := (6, .invokevirtual 208, 0)) rfl) rfl rfl rfl rfl (zc_lookR hS hE0 ht hO0 hr hc0) (fun v864 ph865 hv => ?_)
    obtain ⟨f862, hc863, hvw, rfl⟩ := hv
    show zW n D 151 Q 24 [some (.ref 0), some (.int (zn p)), none, none] [.long (zAll (R, C, rk, sn, sk, cn, cd) P v)] ph865
    refine w_alu (pc' := 25) (st' := []) (ykc_151 (e := (0, .pop2, 0)) rfl) rfl rfl ?_
    refine w_load (pc' := 26) (v := .ref 0) (m := 1) (ykc_151 (e := (2, .aload_n kF0, 0)) rfl) rfl rfl ?_
    refine w_gf (pc' := 29) (v := .ref 10) (ykc_151 (e := (5, .getfield 35, 0)) rfl) rfl ((f862.1 0 3 (by decide) (by decide)).trans (zsg hS zs_0_3)) rfl ?_
    refine w_load (pc' := 30) (v := .ref 0) (m := 1) (ykc_151 (e := (2, .aload_n kF0, 0)) rfl) rfl rfl ?_
    refine w_gf (pc' := 33) (v := .ref 25) (ykc_151 (e := (5, .getfield 42, 0)) rfl) rfl ((f862.1 0 4 (by decide) (by decide)).trans (zsg hS zs_0_4)) rfl ?_
    refine w_load (pc' := 34) (v := .ref 0) (m := 1) (ykc_151 (e := (2, .aload_n kF0, 0)) rfl) rfl rfl ?_
    refine w_gf (pc' := 37) (v := .ref 25) (ykc_151 (e := (5, .getfield 42, 0)) rfl) rfl ((f862.1 0 4 (by decide) (by decide)).trans (zsg hS zs_0_4)) rfl ?_
    refine w_gf (pc' := 40) (v := .ref (25 + 1)) (ykc_151 (e := (5, .getfield 173, 0)) rfl) rfl ((f862.1 25 3 (by decide) (by decide)).trans r3) rfl ?_
    refine w_load (pc' := 41) (v := .int (zn p)) (m := 1) (ykc_151 (e := (2, .iload_n kF1, 0)) rfl) rfl rfl ?_
    have q866 := hO0.1 p (by omega)
    have tq866 := znt (k := v p) (by omega)
    refine w_ialk (pc' := 42) (k := p) (ykc_151 (e := (5, .iaload, 0)) rfl) ((f862.1 (25 + 1) p (by simp <;> omega) (by simp <;> omega)).trans (gv p (by omega)).1) (by omega) rfl ?_
    refine w_cv (as := [.ref 10, .ref 25, .int (zn (v p))]) (r := []) (ykc_151 (e := (6, .invokevirtual 212, 0)) rfl) rfl rfl rfl rfl (zc_seers (zCx_S f862 hS) (zCx_e f862 hE0) (zCx_t f862 ht) hO0 hvw (g := v p) (show v p < R * C by omega)) (fun v867 ph868 hv => ?_)
    obtain ⟨rfl, rfl⟩ := hv
    show zW n D 151 Q 45 [some (.ref 0), some (.int (zn p)), none, none] [.int (zWho (R, C, rk, sn, sk, cn, cd) P v (v p))] ph865
    refine w_store (pc' := 46) (L' := [some (.ref 0), some (.int (zn p)), some (.int (zWho (R, C, rk, sn, sk, cn, cd) P v (v p))), none]) (st' := []) (m := 1) (ykc_151 (e := (3, .istore_n kF2, 0)) rfl) rfl rfl ?_
    refine w_load (pc' := 47) (v := .int (zWho (R, C, rk, sn, sk, cn, cd) P v (v p))) (m := 1) (ykc_151 (e := (2, .iload_n kF2, 0)) rfl) rfl rfl ?_
    refine w_load (pc' := 48) (v := .ref 0) (m := 1) (ykc_151 (e := (2, .aload_n kF0, 0)) rfl) rfl rfl ?_
    refine w_gf (pc' := 51) (v := .ref 25) (ykc_151 (e := (5, .getfield 42, 0)) rfl) rfl ((f862.1 0 4 (by decide) (by decide)).trans (zsg hS zs_0_4)) rfl ?_
    refine w_load (pc' := 52) (v := .ref 0) (m := 1) (ykc_151 (e := (2, .aload_n kF0, 0)) rfl) rfl rfl ?_
    refine w_gf (pc' := 55) (v := .ref 10) (ykc_151 (e := (5, .getfield 35, 0)) rfl) rfl ((f862.1 0 3 (by decide) (by decide)).trans (zsg hS zs_0_3)) rfl ?_
    refine w_load (pc' := 56) (v := .int (zn p)) (m := 1) (ykc_151 (e := (2, .iload_n kF1, 0)) rfl) rfl rfl ?_
    refine w_cv (as := [.ref 10, .int (zn p)]) (r := [.ref 25, .int (zWho (R, C, rk, sn, sk, cn, cd) P v (v p))]) (ykc_151 (e := (6, .invokevirtual 328, 0)) rfl) rfl rfl rfl rfl (zc_viewAt (zCx_S f862 hS) (zCx_e f862 hE0) (zCx_t f862 ht) hO0 hvw (p := p) (by omega)) (fun v869 ph870 hv => ?_)
    obtain ⟨rfl, rfl⟩ := hv
    show zW n D 151 Q 59 [some (.ref 0), some (.int (zn p)), some (.int (zWho (R, C, rk, sn, sk, cn, cd) P v (v p))), none] [.long (zVw (R, C, rk, sn, sk, cn, cd) P v p), .ref 25, .int (zWho (R, C, rk, sn, sk, cn, cd) P v (v p))] ph865
    refine w_cv (as := [.ref 25, .long (zVw (R, C, rk, sn, sk, cn, cd) P v p)]) (r := [.int (zWho (R, C, rk, sn, sk, cn, cd) P v (v p))]) (ykc_151 (e := (6, .invokevirtual 310, 0)) rfl) rfl rfl rfl rfl (zc_pon (zCx_t f862 ht).1.2 (zCx_t f862 ht).2 (x := zVw (R, C, rk, sn, sk, cn, cd) P v p) (fun i hi => by have := (hO0.1 i hi).1; omega)) (fun v871 ph872 hv => ?_)
    obtain ⟨rfl, rfl⟩ := hv
    show zW n D 151 Q 62 [some (.ref 0), some (.int (zn p)), some (.int (zWho (R, C, rk, sn, sk, cn, cd) P v (v p))), none] [.int (zPon P v (zVw (R, C, rk, sn, sk, cn, cd) P v p)), .int (zWho (R, C, rk, sn, sk, cn, cd) P v (v p))] ph865
    refine w_alu (pc' := 63) (st' := [.int (Int32.ofInt (-1)), .int (zPon P v (zVw (R, C, rk, sn, sk, cn, cd) P v p)), .int (zWho (R, C, rk, sn, sk, cn, cd) P v (v p))]) (ykc_151 (e := (0, .iconst (-1), 0)) rfl) rfl rfl ?_
    refine w_alu (pc' := 64) (st' := [.int ((zPon P v (zVw (R, C, rk, sn, sk, cn, cd) P v p)) ^^^ (Int32.ofInt (-1))), .int (zWho (R, C, rk, sn, sk, cn, cd) P v (v p))]) (ykc_151 (e := (0, .ixor, 0)) rfl) rfl rfl ?_
    refine w_alu (pc' := 65) (st' := [.int ((zWho (R, C, rk, sn, sk, cn, cd) P v (v p)) &&& ((zPon P v (zVw (R, C, rk, sn, sk, cn, cd) P v p)) ^^^ (Int32.ofInt (-1))))]) (ykc_151 (e := (0, .iand, 0)) rfl) rfl rfl ?_
    refine w_store (pc' := 66) (L' := [some (.ref 0), some (.int (zn p)), some (.int (zWho (R, C, rk, sn, sk, cn, cd) P v (v p))), some (.int ((zWho (R, C, rk, sn, sk, cn, cd) P v (v p)) &&& ((zPon P v (zVw (R, C, rk, sn, sk, cn, cd) P v p)) ^^^ (Int32.ofInt (-1)))))]) (st' := []) (m := 1) (ykc_151 (e := (3, .istore_n kF3, 0)) rfl) rfl rfl ?_
    rw [hQ]
    exact zTail kc_151 false 3 66 9999 (fun _ => rfl) (Or.inl ⟨_, rfl⟩) (by decide +kernel) (by decide) (by decide) rfl (by decide +kernel) (fun _ => zXbeh_p h_p (by omega))
  · refine w_alu (pc' := 12) (st' := [.int (Int32.ofInt (-1))]) (ykc_151 (e := (0, .iconst (-1), 0)) rfl) rfl rfl ?_
    refine w_ret (v := (some (.int (Int32.ofInt (-1))))) (ykc_151 (e := (7, .ireturn, 0)) rfl) (zr_v rfl) ?_
    have b_n := of_decide_eq_false b861
    rw [hQ]
    exact zXbeh_n b_n
theorem zm_behX {ph : pm_H} {E : zEn} {P G : Nat} {v : Nat → Nat} (hS : zSh ph) (hE : zMe ph E) (hN : zMp ph P G) (hv : zNr ph 174 0 v) (hO : zOk E.1 E.2.1 P G v) {x : Int32} : zM 262 [.ref 170, .int x] ph (fun v0 _ => v0 = some (.int (zXbeh E P v x))) := by
  obtain ⟨Q, hQ⟩ : ∃ Q : Option Value → pm_H → Prop, Q = (fun v0 _ => v0 = some (.int (zXbeh E P v x))) := ⟨_, rfl⟩
  rw [← hQ]
  refine zM_mk fun n D => ?_
  show zW n D 262 Q 0 [some (.ref 170), some (.int x), none] [] ph
  have c_0 : (Int32.ofInt (-1)).toInt = -1 := by decide
  have c_1 : (Int32.ofInt 0).toInt = 0 := by decide
  have hA : (174 : Nat) = 174 ∨ (174 : Nat) = 175 := Or.inl rfl
  obtain ⟨R, C, rk, sn, sk, cn, cd⟩ := E
  have hL0 : zMl ph R C rk := hE.1
  have hR0 : zMr ph sn sk cn cd := hE.2.1
  have hcg : zcg cn cd := hE.2.2
  have hE0 : zMe ph (R, C, rk, sn, sk, cn, cd) := hE
  have hO0 : zOk R C P G v := hO
  have hN0 := hN
  have hL := hL0
  have hR := hR0
  obtain ⟨gR, gC, gK, hR3, hR7, hC3, hC7⟩ := hL
  have hRC := zRC49 hR7 hC7
  have tR := znt (k := R) (by omega)
  have tC := znt (k := C) (by omega)
  obtain ⟨gP, hP8, gG, hG8⟩ := hN
  have tP := znt (k := P) (by omega)
  have tG := znt (k := G) (by omega)
  obtain ⟨gsn, hs1, hs20, gsk, gcn, hc40, gcd⟩ := hR
  have tsn := znt (k := sn) (by omega)
  have tcn := znt (k := cn) (by omega)
  refine w_load (pc' := 1) (v := .ref 170) (m := 1) (ykc_262 (e := (2, .aload_n kF0, 0)) rfl) rfl rfl ?_
  refine w_alu (pc' := 2) (st' := [.int (Int32.ofInt 0), .ref 170]) (ykc_262 (e := (0, .iconst 0, 0)) rfl) rfl rfl ?_
  refine w_pf (pc' := 5) (ykc_262 (e := (5, .putfield 3, 0)) rfl) rfl rfl (fun ph874 u873 => ?_)
  have f0 : zFr [] [(170, 0)] ph ph874 := zFr_st u873 (Or.inr (by simp))
  have hS1 := zSh_st u873 (by decide +kernel) hS
  have hE1 : zMe ph874 (R, C, rk, sn, sk, cn, cd) := ⟨zMl_F f0 (by simp) (by simp) (by simp) (by simp) hE0.1, zMr_F f0 (by simp) (by simp) (by simp) (by simp) hE0.2.1, hE0.2.2⟩
  have hN1 := zMp_F f0 (by simp) (by simp) (by simp) hN0
  have hv1 := zNr_F f0 (by simp) (by simp) hv
  have hL1 : zMl ph874 R C rk := hE1.1
  have hR1 : zMr ph874 sn sk cn cd := hE1.2.1
  refine w_load (pc' := 6) (v := .ref 170) (m := 1) (ykc_262 (e := (2, .aload_n kF0, 0)) rfl) rfl rfl ?_
  refine w_load (pc' := 7) (v := .int x) (m := 1) (ykc_262 (e := (2, .iload_n kF1, 0)) rfl) rfl rfl ?_
  refine w_cv (as := [.ref 170, .int x]) (r := []) (ykc_262 (e := (6, .invokevirtual 315, 0)) rfl) rfl rfl rfl rfl (zm_isPerson hN1 (p := x)) (fun v875 ph876 hv => ?_)
  obtain ⟨rfl, rfl⟩ := hv
  show zW n D 262 Q 10 [some (.ref 170), some (.int x), none] [.int (zI (decide (0 ≤ x.toInt ∧ x.toInt < ((P : Nat) : Int))))] ph874
  refine w_bne (ykc_262 (e := (4, .ifCond .ne 5, 15)) rfl) rfl (fun b877 => ?_) (fun b877 => ?_)
  · have b_p := of_decide_eq_true b877
    obtain ⟨p, h_p, rfl⟩ : ∃ p : Nat, p < P ∧ x = zn p := ⟨x.toInt.toNat, by omega, zn_of (by omega)⟩
    have t_p := znt (k := p) (by omega)
    have op := hO0.1 p h_p
    show zW n D 262 Q 15 [some (.ref 170), some (.int (zn p)), none] [] ph874
    refine w_load (pc' := 16) (v := .ref 170) (m := 1) (ykc_262 (e := (2, .aload_n kF0, 0)) rfl) rfl rfl ?_
    refine w_load (pc' := 17) (v := .ref 170) (m := 1) (ykc_262 (e := (2, .aload_n kF0, 0)) rfl) rfl rfl ?_
    refine w_gf (pc' := 20) (v := .ref 174) (ykc_262 (e := (5, .getfield 41, 0)) rfl) rfl ((u873.2.1 170 11 (fun q => absurd q.2 (by decide))).trans (zsg hS zs_170_11)) rfl ?_
    refine w_load (pc' := 21) (v := .ref 170) (m := 1) (ykc_262 (e := (2, .aload_n kF0, 0)) rfl) rfl rfl ?_
    refine w_gf (pc' := 24) (v := .ref 174) (ykc_262 (e := (5, .getfield 41, 0)) rfl) rfl ((u873.2.1 170 11 (fun q => absurd q.2 (by decide))).trans (zsg hS zs_170_11)) rfl ?_
    refine w_load (pc' := 25) (v := .int (zn p)) (m := 1) (ykc_262 (e := (2, .iload_n kF1, 0)) rfl) rfl rfl ?_
    have q878 := hO0.1 p (by omega)
    have tq878 := znt (k := v p) (by omega)
    refine w_ialk (pc' := 26) (k := p) (ykc_262 (e := (5, .iaload, 0)) rfl) ((u873.2.1 174 p (fun q => absurd q.1 (by decide))).trans (zNr0 hv (i := p) (by omega))) (by omega) rfl ?_
    refine w_cv (as := [.ref 170, .ref 174, .int (zn (v p))]) (r := []) (ykc_262 (e := (6, .invokevirtual 336, 0)) rfl) rfl rfl rfl rfl (zm_who hS1 hE1 hN1 (⟨hA, hv1⟩ : ((174 : Nat) = 174 ∨ (174 : Nat) = 175) ∧ zNr ph874 174 0 v).1 (⟨hA, hv1⟩ : ((174 : Nat) = 174 ∨ (174 : Nat) = 175) ∧ zNr ph874 174 0 v).2 hO0 (g := v p) (show v p < R * C by omega)) (fun v880 ph881 hv => ?_)
    obtain ⟨f879, rfl⟩ := hv
    show zW n D 262 Q 29 [some (.ref 170), some (.int (zn p)), none] [.int (zWho (R, C, rk, sn, sk, cn, cd) P v (v p))] ph881
    refine w_load (pc' := 30) (v := .ref 170) (m := 1) (ykc_262 (e := (2, .aload_n kF0, 0)) rfl) rfl rfl ?_
    refine w_load (pc' := 31) (v := .ref 170) (m := 1) (ykc_262 (e := (2, .aload_n kF0, 0)) rfl) rfl rfl ?_
    refine w_gf (pc' := 34) (v := .ref 174) (ykc_262 (e := (5, .getfield 41, 0)) rfl) rfl ((f879.1 170 11 (by decide) (by decide)).trans ((u873.2.1 170 11 (fun q => absurd q.2 (by decide))).trans (zsg hS zs_170_11))) rfl ?_
    refine w_load (pc' := 35) (v := .ref 170) (m := 1) (ykc_262 (e := (2, .aload_n kF0, 0)) rfl) rfl rfl ?_
    refine w_load (pc' := 36) (v := .ref 170) (m := 1) (ykc_262 (e := (2, .aload_n kF0, 0)) rfl) rfl rfl ?_
    refine w_gf (pc' := 39) (v := .ref 174) (ykc_262 (e := (5, .getfield 41, 0)) rfl) rfl ((f879.1 170 11 (by decide) (by decide)).trans ((u873.2.1 170 11 (fun q => absurd q.2 (by decide))).trans (zsg hS zs_170_11))) rfl ?_
    refine w_load (pc' := 40) (v := .int (zn p)) (m := 1) (ykc_262 (e := (2, .iload_n kF1, 0)) rfl) rfl rfl ?_
    refine w_cv (as := [.ref 170, .ref 174, .int (zn p)]) (r := [.ref 174, .ref 170, .int (zWho (R, C, rk, sn, sk, cn, cd) P v (v p))]) (ykc_262 (e := (6, .invokevirtual 300, 0)) rfl) rfl rfl rfl rfl (zm_seen (zSc_S f879 hS1) (zSc_e f879 hE1) (zSc_p f879 hN1) (zSc_a f879 (⟨hA, hv1⟩ : ((174 : Nat) = 174 ∨ (174 : Nat) = 175) ∧ zNr ph874 174 0 v)).1 (zSc_a f879 (⟨hA, hv1⟩ : ((174 : Nat) = 174 ∨ (174 : Nat) = 175) ∧ zNr ph874 174 0 v)).2 hO0 (p := p) (by omega)) (fun v883 ph884 hv => ?_)
    obtain ⟨f882, rfl⟩ := hv
    show zW n D 262 Q 43 [some (.ref 170), some (.int (zn p)), none] [.long (zVw (R, C, rk, sn, sk, cn, cd) P v p), .ref 174, .ref 170, .int (zWho (R, C, rk, sn, sk, cn, cd) P v (v p))] ph884
    refine w_cv (as := [.ref 170, .ref 174, .long (zVw (R, C, rk, sn, sk, cn, cd) P v p)]) (r := [.int (zWho (R, C, rk, sn, sk, cn, cd) P v (v p))]) (ykc_262 (e := (6, .invokevirtual 410, 0)) rfl) rfl rfl rfl rfl (zm_pon (zSc_S (zFr_trans f879 f882) hS1) (zSc_e (zFr_trans f879 f882) hE1) (zSc_p (zFr_trans f879 f882) hN1) (zSc_a (zFr_trans f879 f882) (⟨hA, hv1⟩ : ((174 : Nat) = 174 ∨ (174 : Nat) = 175) ∧ zNr ph874 174 0 v)).1 (zSc_a (zFr_trans f879 f882) (⟨hA, hv1⟩ : ((174 : Nat) = 174 ∨ (174 : Nat) = 175) ∧ zNr ph874 174 0 v)).2 hO0 (x := zVw (R, C, rk, sn, sk, cn, cd) P v p)) (fun v885 ph886 hv => ?_)
    obtain ⟨rfl, rfl⟩ := hv
    show zW n D 262 Q 46 [some (.ref 170), some (.int (zn p)), none] [.int (zPon P v (zVw (R, C, rk, sn, sk, cn, cd) P v p)), .int (zWho (R, C, rk, sn, sk, cn, cd) P v (v p))] ph884
    refine w_alu (pc' := 47) (st' := [.int (Int32.ofInt (-1)), .int (zPon P v (zVw (R, C, rk, sn, sk, cn, cd) P v p)), .int (zWho (R, C, rk, sn, sk, cn, cd) P v (v p))]) (ykc_262 (e := (0, .iconst (-1), 0)) rfl) rfl rfl ?_
    refine w_alu (pc' := 48) (st' := [.int ((zPon P v (zVw (R, C, rk, sn, sk, cn, cd) P v p)) ^^^ (Int32.ofInt (-1))), .int (zWho (R, C, rk, sn, sk, cn, cd) P v (v p))]) (ykc_262 (e := (0, .ixor, 0)) rfl) rfl rfl ?_
    refine w_alu (pc' := 49) (st' := [.int ((zWho (R, C, rk, sn, sk, cn, cd) P v (v p)) &&& ((zPon P v (zVw (R, C, rk, sn, sk, cn, cd) P v p)) ^^^ (Int32.ofInt (-1))))]) (ykc_262 (e := (0, .iand, 0)) rfl) rfl rfl ?_
    refine w_store (pc' := 50) (L' := [some (.ref 170), some (.int (zn p)), some (.int ((zWho (R, C, rk, sn, sk, cn, cd) P v (v p)) &&& ((zPon P v (zVw (R, C, rk, sn, sk, cn, cd) P v p)) ^^^ (Int32.ofInt (-1)))))]) (st' := []) (m := 1) (ykc_262 (e := (3, .istore_n kF2, 0)) rfl) rfl rfl ?_
    rw [hQ]
    exact zTail kc_262 false 2 50 9999 (fun _ => rfl) (Or.inl ⟨_, rfl⟩) (by decide +kernel) (by decide) (by decide) rfl (by decide +kernel) (fun _ => zXbeh_p h_p (by omega))
  · refine w_alu (pc' := 14) (st' := [.int (Int32.ofInt (-1))]) (ykc_262 (e := (0, .iconst (-1), 0)) rfl) rfl rfl ?_
    refine w_ret (v := (some (.int (Int32.ofInt (-1))))) (ykc_262 (e := (7, .ireturn, 0)) rfl) (zr_v rfl) ?_
    have b_n := of_decide_eq_false b877
    rw [hQ]
    exact zXbeh_n b_n
def zXi (M : Nat → Nat → Bool) (c i : Nat) : Nat → Nat
  | 0 => c
  | d + 1 => zXi M c i d + bif M i (i + 1 + d) then 1 else 0
def zXo (M : Nat → Nat → Bool) (P : Nat) : Nat → Nat
  | 0 => 0
  | i + 1 => zXi M (zXo M P i) i (P - (i + 1))
theorem zXi_le {M : Nat → Nat → Bool} {c i d : Nat} : zXi M c i d ≤ c + d := by
  induction d with
  | zero => exact Nat.le_refl _
  | succ d ih =>
    show zXi M c i d + (bif M i (i + 1 + d) then 1 else 0) ≤ c + (d + 1)
    cases M i (i + 1 + d) with
    | false => rw [cond_false]; omega
    | true => rw [cond_true]; omega
theorem zXo_le {M : Nat → Nat → Bool} {P i : Nat} (hP : P ≤ 8) : zXo M P i ≤ i * 8 := by
  induction i with
  | zero => exact Nat.le_refl _
  | succ i ih =>
    have h := @zXi_le M (zXo M P i) i (P - (i + 1))
    show zXi M (zXo M P i) i (P - (i + 1)) ≤ _
    omega
theorem zc_pairs {ph : pm_H} {E : zEn} {F P G : Nat} {v : Nat → Nat} (hS : zSh ph) (hE : zCe ph E F) (ht : zCt ph 25 P G v) (hO : zOk E.1 E.2.1 P G v) (hr : zc ph 10 1 = some (.ref F)) (hc : zCc ph E.1 E.2.1 E.2.2.1) : zM 150 [.ref 0] ph (fun v0 _ => v0 = some (.int (zn (zXo (zMeet E P v) P P)))) := by
  obtain ⟨Q, hQ⟩ : ∃ Q : Option Value → pm_H → Prop, Q = (fun v0 _ => v0 = some (.int (zn (zXo (zMeet E P v) P P)))) := ⟨_, rfl⟩
  rw [← hQ]
  refine zM_mk fun n D => ?_
  show zW n D 150 Q 0 [some (.ref 0), none, none, none, none, none, none] [] ph
  have c_0 : (Int32.ofInt (-1)).toInt = -1 := by decide
  have c_1 : (Int32.ofInt 0).toInt = 0 := by decide
  have c_2 : (Int32.ofInt 1).toInt = 1 := by decide
  obtain ⟨R, C, rk, sn, sk, cn, cd⟩ := E
  have hL0 : zCl ph R C rk := hE.1
  have hi0 : zCi ph sn sk := hE.2.1
  have hF : F = 11 ∨ F = 16 := hE.2.2.2
  have hE0 : zCe ph (R, C, rk, sn, sk, cn, cd) F := hE
  have hO0 : zOk R C P G v := hO
  have hL := hL0
  have hs := ht.1.2
  have hd := ht.2
  have h25 := ht.1.1
  obtain ⟨gR, gC, gN, gK, gA, hR3, hR7, hC3, hC7⟩ := hL
  have hRC := zRC49 hR7 hC7
  have tR := znt (k := R) (by omega)
  have tC := znt (k := C) (by omega)
  have tRC := znt (k := R * C) (by omega)
  have hd0 := hd
  have hs0 := hs
  obtain ⟨r3, r4, r5, r6, r7, l1, l2, l3, l4, l5⟩ := hs
  obtain ⟨gP, hP8, gG, hG8, gH, gv, gw⟩ := hd
  have tP := znt (k := P) (by omega)
  have tG := znt (k := G) (by omega)
  have h40 := hO0.2.2
  have t40 := znt (k := v 40) (by omega)
  have hc0 := hc
  refine w_load (pc' := 1) (v := .ref 0) (m := 1) (ykc_150 (e := (2, .aload_n kF0, 0)) rfl) rfl rfl ?_
  refine w_gf (pc' := 4) (v := .ref 10) (ykc_150 (e := (5, .getfield 35, 0)) rfl) rfl (zsg hS zs_0_3) rfl ?_
  refine w_load (pc' := 5) (v := .ref 0) (m := 1) (ykc_150 (e := (2, .aload_n kF0, 0)) rfl) rfl rfl ?_
  refine w_gf (pc' := 8) (v := .ref 25) (ykc_150 (e := (5, .getfield 42, 0)) rfl) rfl (zsg hS zs_0_4) rfl ?_
  refine w_cv (as := [.ref 10, .ref 25]) (r := []) (ykc_150 (e := (6, .invokevirtual 208, 0)) rfl) rfl rfl rfl rfl (zc_lookR hS hE0 ht hO0 hr hc0) (fun v889 ph890 hv => ?_)
  obtain ⟨f887, hc888, hvw, rfl⟩ := hv
  show zW n D 150 Q 11 [some (.ref 0), none, none, none, none, none, none] [.long (zAll (R, C, rk, sn, sk, cn, cd) P v)] ph890
  refine w_alu (pc' := 12) (st' := []) (ykc_150 (e := (0, .pop2, 0)) rfl) rfl rfl ?_
  refine w_alu (pc' := 13) (st' := [.int (Int32.ofInt 0)]) (ykc_150 (e := (0, .iconst 0, 0)) rfl) rfl rfl ?_
  refine w_store (pc' := 14) (L' := [some (.ref 0), some (.int (Int32.ofInt 0)), none, none, none, none, none]) (st' := []) (m := 1) (ykc_150 (e := (3, .istore_n kF1, 0)) rfl) rfl rfl ?_
  refine w_alu (pc' := 15) (st' := [.int (Int32.ofInt 0)]) (ykc_150 (e := (0, .iconst 0, 0)) rfl) rfl rfl ?_
  refine w_store (pc' := 16) (L' := [some (.ref 0), some (.int (Int32.ofInt 0)), some (.int (Int32.ofInt 0)), none, none, none, none]) (st' := []) (m := 1) (ykc_150 (e := (3, .istore_n kF2, 0)) rfl) rfl rfl ?_
  refine w_alu (pc' := 17) (st' := [.int (Int32.ofInt (-1))]) (ykc_150 (e := (0, .iconst (-1), 0)) rfl) rfl rfl ?_
  refine w_store (pc' := 18) (L' := [some (.ref 0), some (.int (Int32.ofInt 0)), some (.int (Int32.ofInt 0)), some (.int (Int32.ofInt (-1))), none, none, none]) (st' := []) (m := 1) (ykc_150 (e := (3, .istore_n kF3, 0)) rfl) rfl rfl ?_
  refine w_alu (pc' := 19) (st' := [.int (Int32.ofInt (-1))]) (ykc_150 (e := (0, .iconst (-1), 0)) rfl) rfl rfl ?_
  refine w_store (pc' := 21) (L' := [some (.ref 0), some (.int (Int32.ofInt 0)), some (.int (Int32.ofInt 0)), some (.int (Int32.ofInt (-1))), some (.int (Int32.ofInt (-1))), none, none]) (st' := []) (m := 2) (ykc_150 (e := (3, .istore 4, 0)) rfl) rfl rfl ?_
  refine w_alu (pc' := 22) (st' := [.int (Int32.ofInt 0)]) (ykc_150 (e := (0, .iconst 0, 0)) rfl) rfl rfl ?_
  refine w_store (pc' := 24) (L' := [some (.ref 0), some (.int (Int32.ofInt 0)), some (.int (Int32.ofInt 0)), some (.int (Int32.ofInt (-1))), some (.int (Int32.ofInt (-1))), some (.int (Int32.ofInt 0)), none]) (st' := []) (m := 2) (ykc_150 (e := (3, .istore 5, 0)) rfl) rfl rfl ?_
  have hl : ∀ (n : Nat), ∀ (i : Nat) (a b c : Int32) (o6 : Option Value), (i ≤ P) → zW n D 150 Q 24 [some (.ref 0), some (.int (zn (zXo (zMeet (R, C, rk, sn, sk, cn, cd) P v) P i))), some (.int a), some (.int b), some (.int c), some (.int (zn i)), o6] [] ph890 := by
    intro n
    induction n using Nat.strongRecOn with
    | ind n ih =>
      intro i a b c o6 hi
      have ti := znt (k := i) (by omega)
      have mo := @zXo_le (zMeet (R, C, rk, sn, sk, cn, cd) P v) P i (by omega)
      have tm := znt (k := zXo (zMeet (R, C, rk, sn, sk, cn, cd) P v) P i) (by omega)
      refine w_load (pc' := 26) (v := .int (zn i)) (m := 2) (ykc_150 (e := (2, .iload 5, 0)) rfl) rfl rfl ?_
      refine w_load (pc' := 27) (v := .ref 0) (m := 1) (ykc_150 (e := (2, .aload_n kF0, 0)) rfl) rfl rfl ?_
      refine w_gf (pc' := 30) (v := .ref 25) (ykc_150 (e := (5, .getfield 42, 0)) rfl) rfl ((f887.1 0 4 (by decide) (by decide)).trans (zsg hS zs_0_4)) rfl ?_
      refine w_gf (pc' := 33) (v := .int (zn P)) (ykc_150 (e := (5, .getfield 130, 0)) rfl) rfl ((f887.1 25 0 (by decide) (by decide)).trans gP) rfl ?_
      refine w_ige (ykc_150 (e := (4, .if_icmp .ge 94, 127)) rfl) rfl (fun b891 => ?_) (fun b891 => ?_)
      · rw [hQ]
        exact zTail kc_150 false 1 127 9999 (fun _ => rfl) (Or.inl ⟨_, rfl⟩) (by decide +kernel) (by decide) (by decide) rfl (by decide +kernel) (fun _ => (by rw [show P = i by omega]))
      · refine w_load (pc' := 38) (v := .int (zn i)) (m := 2) (ykc_150 (e := (2, .iload 5, 0)) rfl) rfl rfl ?_
        refine w_alu (pc' := 39) (st' := [.int (Int32.ofInt 1), .int (zn i)]) (ykc_150 (e := (0, .iconst 1, 0)) rfl) rfl rfl ?_
        have e892 : (zn i) + (Int32.ofInt 1) = zn (i + 1) := (zaddN (a := i) (b := 1) (znt (by omega)) c_2 (by omega)) 
        have te892 := znt (k := i + 1) (by omega)
        refine w_alu (pc' := 40) (st' := [.int (zn (i + 1))]) (ykc_150 (e := (0, .iadd, 0)) rfl) (by rw [← e892]; rfl) rfl ?_
        refine w_store (pc' := 42) (L' := [some (.ref 0), some (.int (zn (zXo (zMeet (R, C, rk, sn, sk, cn, cd) P v) P i))), some (.int a), some (.int b), some (.int c), some (.int (zn i)), some (.int (zn (i + 1)))]) (st' := []) (m := 2) (ykc_150 (e := (3, .istore 6, 0)) rfl) rfl rfl ?_
        have iho := ih
        have hj : ∀ (n2 : Nat), n2 ≤ n → ∀ (d : Nat) (a b c : Int32), (d ≤ P - (i + 1)) → zW n2 D 150 Q 42 [some (.ref 0), some (.int (zn (zXi (zMeet (R, C, rk, sn, sk, cn, cd) P v) (zXo (zMeet (R, C, rk, sn, sk, cn, cd) P v) P i) i d))), some (.int a), some (.int b), some (.int c), some (.int (zn i)), some (.int (zn (i + 1 + d)))] [] ph890 := by
          intro n2
          induction n2 using Nat.strongRecOn with
          | ind n2 ih =>
            intro hlim d a b c hd
            have td := znt (k := i + 1 + d) (by omega)
            have mi := @zXi_le (zMeet (R, C, rk, sn, sk, cn, cd) P v) (zXo (zMeet (R, C, rk, sn, sk, cn, cd) P v) P i) i d
            have tm2 := znt (k := zXi (zMeet (R, C, rk, sn, sk, cn, cd) P v) (zXo (zMeet (R, C, rk, sn, sk, cn, cd) P v) P i) i d) (by omega)
            refine w_load (pc' := 44) (v := .int (zn (i + 1 + d))) (m := 2) (ykc_150 (e := (2, .iload 6, 0)) rfl) rfl rfl ?_
            refine w_load (pc' := 45) (v := .ref 0) (m := 1) (ykc_150 (e := (2, .aload_n kF0, 0)) rfl) rfl rfl ?_
            refine w_gf (pc' := 48) (v := .ref 25) (ykc_150 (e := (5, .getfield 42, 0)) rfl) rfl ((f887.1 0 4 (by decide) (by decide)).trans (zsg hS zs_0_4)) rfl ?_
            refine w_gf (pc' := 51) (v := .int (zn P)) (ykc_150 (e := (5, .getfield 130, 0)) rfl) rfl ((f887.1 25 0 (by decide) (by decide)).trans gP) rfl ?_
            refine w_ige (ykc_150 (e := (4, .if_icmp .ge 70, 121)) rfl) rfl (fun b893 => ?_) (fun b893 => ?_)
            · have e894 : (zn i) + Int32.ofInt 1 = zn (i + 1) := (zaddN (a := i) (b := 1) (znt (by omega)) c_2 (by omega))
              have te894 := znt (k := i + 1) (by omega)
              refine w_store (pc' := 124) (L' := [some (.ref 0), some (.int (zn (zXi (zMeet (R, C, rk, sn, sk, cn, cd) P v) (zXo (zMeet (R, C, rk, sn, sk, cn, cd) P v) P i) i d))), some (.int a), some (.int b), some (.int c), some (.int (zn (i + 1))), some (.int (zn (i + 1 + d)))]) (st' := []) (m := 3) (ykc_150 (e := (3, .iinc 5 1, 0)) rfl) (by rw [← e894]; rfl) rfl ?_
              refine w_gb (ykc_150 (e := (4, .goto (-100), 24)) rfl) (fun k895 hk895 => ?_)
              have ed : d = P - (i + 1) := by omega
              subst ed
              exact iho k895 (by omega) (i + 1) a b c _ (by omega)
            · refine w_load (pc' := 55) (v := .ref 0) (m := 1) (ykc_150 (e := (2, .aload_n kF0, 0)) rfl) rfl rfl ?_
              refine w_gf (pc' := 58) (v := .ref 10) (ykc_150 (e := (5, .getfield 35, 0)) rfl) rfl ((f887.1 0 3 (by decide) (by decide)).trans (zsg hS zs_0_3)) rfl ?_
              refine w_load (pc' := 59) (v := .ref 0) (m := 1) (ykc_150 (e := (2, .aload_n kF0, 0)) rfl) rfl rfl ?_
              refine w_gf (pc' := 62) (v := .ref 25) (ykc_150 (e := (5, .getfield 42, 0)) rfl) rfl ((f887.1 0 4 (by decide) (by decide)).trans (zsg hS zs_0_4)) rfl ?_
              refine w_load (pc' := 64) (v := .int (zn i)) (m := 2) (ykc_150 (e := (2, .iload 5, 0)) rfl) rfl rfl ?_
              refine w_load (pc' := 66) (v := .int (zn (i + 1 + d))) (m := 2) (ykc_150 (e := (2, .iload 6, 0)) rfl) rfl rfl ?_
              refine w_cv (as := [.ref 10, .ref 25, .int (zn i), .int (zn (i + 1 + d))]) (r := []) (ykc_150 (e := (6, .invokevirtual 321, 0)) rfl) rfl rfl rfl rfl (zc_meet (zCx_S f887 hS) (zCx_e f887 hE0) (zCx_t f887 ht) hO0 hvw (a := i) (b := i + 1 + d) (by omega) (by omega)) (fun v896 ph897 hv => ?_)
              obtain ⟨rfl, rfl⟩ := hv
              show zW n2 D 150 Q 69 [some (.ref 0), some (.int (zn (zXi (zMeet (R, C, rk, sn, sk, cn, cd) P v) (zXo (zMeet (R, C, rk, sn, sk, cn, cd) P v) P i) i d))), some (.int a), some (.int b), some (.int c), some (.int (zn i)), some (.int (zn (i + 1 + d)))] [.int (zI (zMeet (R, C, rk, sn, sk, cn, cd) P v i (i + 1 + d)))] ph890
              refine w_bne (ykc_150 (e := (4, .ifCond .ne 6, 75)) rfl) rfl (fun b898 => ?_) (fun b898 => ?_)
              · refine w_load (pc' := 76) (v := .int (zn (zXi (zMeet (R, C, rk, sn, sk, cn, cd) P v) (zXo (zMeet (R, C, rk, sn, sk, cn, cd) P v) P i) i d))) (m := 1) (ykc_150 (e := (2, .iload_n kF1, 0)) rfl) rfl rfl ?_
                refine w_zne (ykc_150 (e := (4, .ifCond .ne 10, 86)) rfl) rfl (fun b899 => ?_) (fun b899 => ?_)
                · have e900 : (zn (zXi (zMeet (R, C, rk, sn, sk, cn, cd) P v) (zXo (zMeet (R, C, rk, sn, sk, cn, cd) P v) P i) i d)) + Int32.ofInt 1 = zn (zXi (zMeet (R, C, rk, sn, sk, cn, cd) P v) (zXo (zMeet (R, C, rk, sn, sk, cn, cd) P v) P i) i d + 1) := (zaddN (a := zXi (zMeet (R, C, rk, sn, sk, cn, cd) P v) (zXo (zMeet (R, C, rk, sn, sk, cn, cd) P v) P i) i d) (b := 1) (znt (by omega)) c_2 (by omega))
                  have te900 := znt (k := zXi (zMeet (R, C, rk, sn, sk, cn, cd) P v) (zXo (zMeet (R, C, rk, sn, sk, cn, cd) P v) P i) i d + 1) (by omega)
                  refine w_store (pc' := 89) (L' := [some (.ref 0), some (.int (zn (zXi (zMeet (R, C, rk, sn, sk, cn, cd) P v) (zXo (zMeet (R, C, rk, sn, sk, cn, cd) P v) P i) i d + 1))), some (.int a), some (.int b), some (.int c), some (.int (zn i)), some (.int (zn (i + 1 + d)))]) (st' := []) (m := 3) (ykc_150 (e := (3, .iinc 1 1, 0)) rfl) (by rw [← e900]; rfl) rfl ?_
                  refine w_load (pc' := 90) (v := .int a) (m := 1) (ykc_150 (e := (2, .iload_n kF2, 0)) rfl) rfl rfl ?_
                  refine w_load (pc' := 91) (v := .ref 0) (m := 1) (ykc_150 (e := (2, .aload_n kF0, 0)) rfl) rfl rfl ?_
                  refine w_gf (pc' := 94) (v := .ref 10) (ykc_150 (e := (5, .getfield 35, 0)) rfl) rfl ((f887.1 0 3 (by decide) (by decide)).trans (zsg hS zs_0_3)) rfl ?_
                  refine w_load (pc' := 95) (v := .ref 0) (m := 1) (ykc_150 (e := (2, .aload_n kF0, 0)) rfl) rfl rfl ?_
                  refine w_gf (pc' := 98) (v := .ref 25) (ykc_150 (e := (5, .getfield 42, 0)) rfl) rfl ((f887.1 0 4 (by decide) (by decide)).trans (zsg hS zs_0_4)) rfl ?_
                  refine w_load (pc' := 100) (v := .int (zn i)) (m := 2) (ykc_150 (e := (2, .iload 5, 0)) rfl) rfl rfl ?_
                  refine w_load (pc' := 102) (v := .int (zn (i + 1 + d))) (m := 2) (ykc_150 (e := (2, .iload 6, 0)) rfl) rfl rfl ?_
                  refine w_cv (as := [.ref 10, .ref 25, .int (zn i), .int (zn (i + 1 + d))]) (r := [.int a]) (ykc_150 (e := (6, .invokevirtual 325, 0)) rfl) rfl rfl rfl rfl (zc_tell (zCx_S f887 hS) (zCx_e f887 hE0) (zCx_t f887 ht) hO0 hvw (a := i) (b := i + 1 + d) (by omega) (by omega)) (fun v901 ph902 hv => ?_)
                  obtain ⟨rfl, rfl⟩ := hv
                  show zW n2 D 150 Q 105 [some (.ref 0), some (.int (zn (zXi (zMeet (R, C, rk, sn, sk, cn, cd) P v) (zXo (zMeet (R, C, rk, sn, sk, cn, cd) P v) P i) i d + 1))), some (.int a), some (.int b), some (.int c), some (.int (zn i)), some (.int (zn (i + 1 + d)))] [.int (zI (zTell (R, C, rk, sn, sk, cn, cd) P v i (i + 1 + d))), .int a] ph890
                  refine w_beq (ykc_150 (e := (4, .ifCond .eq 7, 112)) rfl) rfl (fun b903 => ?_) (fun b903 => ?_)
                  · refine w_alu (pc' := 113) (st' := [.int (Int32.ofInt 0), .int a]) (ykc_150 (e := (0, .iconst 0, 0)) rfl) rfl rfl ?_
                    refine w_alu (pc' := 114) (st' := [.int (a + (Int32.ofInt 0))]) (ykc_150 (e := (0, .iadd, 0)) rfl) rfl rfl ?_
                    refine w_store (pc' := 115) (L' := [some (.ref 0), some (.int (zn (zXi (zMeet (R, C, rk, sn, sk, cn, cd) P v) (zXo (zMeet (R, C, rk, sn, sk, cn, cd) P v) P i) i d + 1))), some (.int (a + (Int32.ofInt 0))), some (.int b), some (.int c), some (.int (zn i)), some (.int (zn (i + 1 + d)))]) (st' := []) (m := 1) (ykc_150 (e := (3, .istore_n kF2, 0)) rfl) rfl rfl ?_
                    have e904 : (zn (i + 1 + d)) + Int32.ofInt 1 = zn (i + 1 + d + 1) := (zaddN (a := i + 1 + d) (b := 1) (znt (by omega)) c_2 (by omega))
                    have te904 := znt (k := i + 1 + d + 1) (by omega)
                    refine w_store (pc' := 118) (L' := [some (.ref 0), some (.int (zn (zXi (zMeet (R, C, rk, sn, sk, cn, cd) P v) (zXo (zMeet (R, C, rk, sn, sk, cn, cd) P v) P i) i d + 1))), some (.int (a + (Int32.ofInt 0))), some (.int b), some (.int c), some (.int (zn i)), some (.int (zn (i + 1 + d + 1)))]) (st' := []) (m := 3) (ykc_150 (e := (3, .iinc 6 1, 0)) rfl) (by rw [← e904]; rfl) rfl ?_
                    refine w_gb (ykc_150 (e := (4, .goto (-76), 42)) rfl) (fun k905 hk905 => ?_)
                    have et : zXi (zMeet (R, C, rk, sn, sk, cn, cd) P v) (zXo (zMeet (R, C, rk, sn, sk, cn, cd) P v) P i) i (d + 1) = zXi (zMeet (R, C, rk, sn, sk, cn, cd) P v) (zXo (zMeet (R, C, rk, sn, sk, cn, cd) P v) P i) i d + 1 := by
                      show zXi (zMeet (R, C, rk, sn, sk, cn, cd) P v) (zXo (zMeet (R, C, rk, sn, sk, cn, cd) P v) P i) i d + (bif zMeet (R, C, rk, sn, sk, cn, cd) P v i (i + 1 + d) then 1 else 0) = _
                      rw [b898]
                      rfl
                    have h9 := ih k905 hk905 (by omega) (d + 1) (a + (Int32.ofInt 0)) b c (by omega)
                    rw [et] at h9
                    exact h9
                  · refine w_alu (pc' := 109) (st' := [.int (Int32.ofInt 1), .int a]) (ykc_150 (e := (0, .iconst 1, 0)) rfl) rfl rfl ?_
                    refine w_br (pc' := 113) (st' := [.int (Int32.ofInt 1), .int a]) (ykc_150 (e := (4, .goto 4, 113)) rfl) rfl ?_
                    refine w_alu (pc' := 114) (st' := [.int (a + (Int32.ofInt 1))]) (ykc_150 (e := (0, .iadd, 0)) rfl) rfl rfl ?_
                    refine w_store (pc' := 115) (L' := [some (.ref 0), some (.int (zn (zXi (zMeet (R, C, rk, sn, sk, cn, cd) P v) (zXo (zMeet (R, C, rk, sn, sk, cn, cd) P v) P i) i d + 1))), some (.int (a + (Int32.ofInt 1))), some (.int b), some (.int c), some (.int (zn i)), some (.int (zn (i + 1 + d)))]) (st' := []) (m := 1) (ykc_150 (e := (3, .istore_n kF2, 0)) rfl) rfl rfl ?_
                    have e906 : (zn (i + 1 + d)) + Int32.ofInt 1 = zn (i + 1 + d + 1) := (zaddN (a := i + 1 + d) (b := 1) (znt (by omega)) c_2 (by omega))
                    have te906 := znt (k := i + 1 + d + 1) (by omega)
                    refine w_store (pc' := 118) (L' := [some (.ref 0), some (.int (zn (zXi (zMeet (R, C, rk, sn, sk, cn, cd) P v) (zXo (zMeet (R, C, rk, sn, sk, cn, cd) P v) P i) i d + 1))), some (.int (a + (Int32.ofInt 1))), some (.int b), some (.int c), some (.int (zn i)), some (.int (zn (i + 1 + d + 1)))]) (st' := []) (m := 3) (ykc_150 (e := (3, .iinc 6 1, 0)) rfl) (by rw [← e906]; rfl) rfl ?_
                    refine w_gb (ykc_150 (e := (4, .goto (-76), 42)) rfl) (fun k907 hk907 => ?_)
                    have et : zXi (zMeet (R, C, rk, sn, sk, cn, cd) P v) (zXo (zMeet (R, C, rk, sn, sk, cn, cd) P v) P i) i (d + 1) = zXi (zMeet (R, C, rk, sn, sk, cn, cd) P v) (zXo (zMeet (R, C, rk, sn, sk, cn, cd) P v) P i) i d + 1 := by
                      show zXi (zMeet (R, C, rk, sn, sk, cn, cd) P v) (zXo (zMeet (R, C, rk, sn, sk, cn, cd) P v) P i) i d + (bif zMeet (R, C, rk, sn, sk, cn, cd) P v i (i + 1 + d) then 1 else 0) = _
                      rw [b898]
                      rfl
                    have h9 := ih k907 hk907 (by omega) (d + 1) (a + (Int32.ofInt 1)) b c (by omega)
                    rw [et] at h9
                    exact h9
                · refine w_load (pc' := 81) (v := .int (zn i)) (m := 2) (ykc_150 (e := (2, .iload 5, 0)) rfl) rfl rfl ?_
                  refine w_store (pc' := 82) (L' := [some (.ref 0), some (.int (zn (zXi (zMeet (R, C, rk, sn, sk, cn, cd) P v) (zXo (zMeet (R, C, rk, sn, sk, cn, cd) P v) P i) i d))), some (.int a), some (.int (zn i)), some (.int c), some (.int (zn i)), some (.int (zn (i + 1 + d)))]) (st' := []) (m := 1) (ykc_150 (e := (3, .istore_n kF3, 0)) rfl) rfl rfl ?_
                  refine w_load (pc' := 84) (v := .int (zn (i + 1 + d))) (m := 2) (ykc_150 (e := (2, .iload 6, 0)) rfl) rfl rfl ?_
                  refine w_store (pc' := 86) (L' := [some (.ref 0), some (.int (zn (zXi (zMeet (R, C, rk, sn, sk, cn, cd) P v) (zXo (zMeet (R, C, rk, sn, sk, cn, cd) P v) P i) i d))), some (.int a), some (.int (zn i)), some (.int (zn (i + 1 + d))), some (.int (zn i)), some (.int (zn (i + 1 + d)))]) (st' := []) (m := 2) (ykc_150 (e := (3, .istore 4, 0)) rfl) rfl rfl ?_
                  have e908 : (zn (zXi (zMeet (R, C, rk, sn, sk, cn, cd) P v) (zXo (zMeet (R, C, rk, sn, sk, cn, cd) P v) P i) i d)) + Int32.ofInt 1 = zn (zXi (zMeet (R, C, rk, sn, sk, cn, cd) P v) (zXo (zMeet (R, C, rk, sn, sk, cn, cd) P v) P i) i d + 1) := (zaddN (a := zXi (zMeet (R, C, rk, sn, sk, cn, cd) P v) (zXo (zMeet (R, C, rk, sn, sk, cn, cd) P v) P i) i d) (b := 1) (znt (by omega)) c_2 (by omega))
                  have te908 := znt (k := zXi (zMeet (R, C, rk, sn, sk, cn, cd) P v) (zXo (zMeet (R, C, rk, sn, sk, cn, cd) P v) P i) i d + 1) (by omega)
                  refine w_store (pc' := 89) (L' := [some (.ref 0), some (.int (zn (zXi (zMeet (R, C, rk, sn, sk, cn, cd) P v) (zXo (zMeet (R, C, rk, sn, sk, cn, cd) P v) P i) i d + 1))), some (.int a), some (.int (zn i)), some (.int (zn (i + 1 + d))), some (.int (zn i)), some (.int (zn (i + 1 + d)))]) (st' := []) (m := 3) (ykc_150 (e := (3, .iinc 1 1, 0)) rfl) (by rw [← e908]; rfl) rfl ?_
                  refine w_load (pc' := 90) (v := .int a) (m := 1) (ykc_150 (e := (2, .iload_n kF2, 0)) rfl) rfl rfl ?_
                  refine w_load (pc' := 91) (v := .ref 0) (m := 1) (ykc_150 (e := (2, .aload_n kF0, 0)) rfl) rfl rfl ?_
                  refine w_gf (pc' := 94) (v := .ref 10) (ykc_150 (e := (5, .getfield 35, 0)) rfl) rfl ((f887.1 0 3 (by decide) (by decide)).trans (zsg hS zs_0_3)) rfl ?_
                  refine w_load (pc' := 95) (v := .ref 0) (m := 1) (ykc_150 (e := (2, .aload_n kF0, 0)) rfl) rfl rfl ?_
                  refine w_gf (pc' := 98) (v := .ref 25) (ykc_150 (e := (5, .getfield 42, 0)) rfl) rfl ((f887.1 0 4 (by decide) (by decide)).trans (zsg hS zs_0_4)) rfl ?_
                  refine w_load (pc' := 100) (v := .int (zn i)) (m := 2) (ykc_150 (e := (2, .iload 5, 0)) rfl) rfl rfl ?_
                  refine w_load (pc' := 102) (v := .int (zn (i + 1 + d))) (m := 2) (ykc_150 (e := (2, .iload 6, 0)) rfl) rfl rfl ?_
                  refine w_cv (as := [.ref 10, .ref 25, .int (zn i), .int (zn (i + 1 + d))]) (r := [.int a]) (ykc_150 (e := (6, .invokevirtual 325, 0)) rfl) rfl rfl rfl rfl (zc_tell (zCx_S f887 hS) (zCx_e f887 hE0) (zCx_t f887 ht) hO0 hvw (a := i) (b := i + 1 + d) (by omega) (by omega)) (fun v909 ph910 hv => ?_)
                  obtain ⟨rfl, rfl⟩ := hv
                  show zW n2 D 150 Q 105 [some (.ref 0), some (.int (zn (zXi (zMeet (R, C, rk, sn, sk, cn, cd) P v) (zXo (zMeet (R, C, rk, sn, sk, cn, cd) P v) P i) i d + 1))), some (.int a), some (.int (zn i)), some (.int (zn (i + 1 + d))), some (.int (zn i)), some (.int (zn (i + 1 + d)))] [.int (zI (zTell (R, C, rk, sn, sk, cn, cd) P v i (i + 1 + d))), .int a] ph890
                  refine w_beq (ykc_150 (e := (4, .ifCond .eq 7, 112)) rfl) rfl (fun b911 => ?_) (fun b911 => ?_)
                  · refine w_alu (pc' := 113) (st' := [.int (Int32.ofInt 0), .int a]) (ykc_150 (e := (0, .iconst 0, 0)) rfl) rfl rfl ?_
                    refine w_alu (pc' := 114) (st' := [.int (a + (Int32.ofInt 0))]) (ykc_150 (e := (0, .iadd, 0)) rfl) rfl rfl ?_
                    refine w_store (pc' := 115) (L' := [some (.ref 0), some (.int (zn (zXi (zMeet (R, C, rk, sn, sk, cn, cd) P v) (zXo (zMeet (R, C, rk, sn, sk, cn, cd) P v) P i) i d + 1))), some (.int (a + (Int32.ofInt 0))), some (.int (zn i)), some (.int (zn (i + 1 + d))), some (.int (zn i)), some (.int (zn (i + 1 + d)))]) (st' := []) (m := 1) (ykc_150 (e := (3, .istore_n kF2, 0)) rfl) rfl rfl ?_
                    have e912 : (zn (i + 1 + d)) + Int32.ofInt 1 = zn (i + 1 + d + 1) := (zaddN (a := i + 1 + d) (b := 1) (znt (by omega)) c_2 (by omega))
                    have te912 := znt (k := i + 1 + d + 1) (by omega)
                    refine w_store (pc' := 118) (L' := [some (.ref 0), some (.int (zn (zXi (zMeet (R, C, rk, sn, sk, cn, cd) P v) (zXo (zMeet (R, C, rk, sn, sk, cn, cd) P v) P i) i d + 1))), some (.int (a + (Int32.ofInt 0))), some (.int (zn i)), some (.int (zn (i + 1 + d))), some (.int (zn i)), some (.int (zn (i + 1 + d + 1)))]) (st' := []) (m := 3) (ykc_150 (e := (3, .iinc 6 1, 0)) rfl) (by rw [← e912]; rfl) rfl ?_
                    refine w_gb (ykc_150 (e := (4, .goto (-76), 42)) rfl) (fun k913 hk913 => ?_)
                    have et : zXi (zMeet (R, C, rk, sn, sk, cn, cd) P v) (zXo (zMeet (R, C, rk, sn, sk, cn, cd) P v) P i) i (d + 1) = zXi (zMeet (R, C, rk, sn, sk, cn, cd) P v) (zXo (zMeet (R, C, rk, sn, sk, cn, cd) P v) P i) i d + 1 := by
                      show zXi (zMeet (R, C, rk, sn, sk, cn, cd) P v) (zXo (zMeet (R, C, rk, sn, sk, cn, cd) P v) P i) i d + (bif zMeet (R, C, rk, sn, sk, cn, cd) P v i (i + 1 + d) then 1 else 0) = _
                      rw [b898]
                      rfl
                    have h9 := ih k913 hk913 (by omega) (d + 1) (a + (Int32.ofInt 0)) (zn i) (zn (i + 1 + d)) (by omega)
                    rw [et] at h9
                    exact h9
                  · refine w_alu (pc' := 109) (st' := [.int (Int32.ofInt 1), .int a]) (ykc_150 (e := (0, .iconst 1, 0)) rfl) rfl rfl ?_
                    refine w_br (pc' := 113) (st' := [.int (Int32.ofInt 1), .int a]) (ykc_150 (e := (4, .goto 4, 113)) rfl) rfl ?_
                    refine w_alu (pc' := 114) (st' := [.int (a + (Int32.ofInt 1))]) (ykc_150 (e := (0, .iadd, 0)) rfl) rfl rfl ?_
                    refine w_store (pc' := 115) (L' := [some (.ref 0), some (.int (zn (zXi (zMeet (R, C, rk, sn, sk, cn, cd) P v) (zXo (zMeet (R, C, rk, sn, sk, cn, cd) P v) P i) i d + 1))), some (.int (a + (Int32.ofInt 1))), some (.int (zn i)), some (.int (zn (i + 1 + d))), some (.int (zn i)), some (.int (zn (i + 1 + d)))]) (st' := []) (m := 1) (ykc_150 (e := (3, .istore_n kF2, 0)) rfl) rfl rfl ?_
                    have e914 : (zn (i + 1 + d)) + Int32.ofInt 1 = zn (i + 1 + d + 1) := (zaddN (a := i + 1 + d) (b := 1) (znt (by omega)) c_2 (by omega))
                    have te914 := znt (k := i + 1 + d + 1) (by omega)
                    refine w_store (pc' := 118) (L' := [some (.ref 0), some (.int (zn (zXi (zMeet (R, C, rk, sn, sk, cn, cd) P v) (zXo (zMeet (R, C, rk, sn, sk, cn, cd) P v) P i) i d + 1))), some (.int (a + (Int32.ofInt 1))), some (.int (zn i)), some (.int (zn (i + 1 + d))), some (.int (zn i)), some (.int (zn (i + 1 + d + 1)))]) (st' := []) (m := 3) (ykc_150 (e := (3, .iinc 6 1, 0)) rfl) (by rw [← e914]; rfl) rfl ?_
                    refine w_gb (ykc_150 (e := (4, .goto (-76), 42)) rfl) (fun k915 hk915 => ?_)
                    have et : zXi (zMeet (R, C, rk, sn, sk, cn, cd) P v) (zXo (zMeet (R, C, rk, sn, sk, cn, cd) P v) P i) i (d + 1) = zXi (zMeet (R, C, rk, sn, sk, cn, cd) P v) (zXo (zMeet (R, C, rk, sn, sk, cn, cd) P v) P i) i d + 1 := by
                      show zXi (zMeet (R, C, rk, sn, sk, cn, cd) P v) (zXo (zMeet (R, C, rk, sn, sk, cn, cd) P v) P i) i d + (bif zMeet (R, C, rk, sn, sk, cn, cd) P v i (i + 1 + d) then 1 else 0) = _
                      rw [b898]
                      rfl
                    have h9 := ih k915 hk915 (by omega) (d + 1) (a + (Int32.ofInt 1)) (zn i) (zn (i + 1 + d)) (by omega)
                    rw [et] at h9
                    exact h9
              · refine w_br (pc' := 115) (st' := []) (ykc_150 (e := (4, .goto 43, 115)) rfl) rfl ?_
                have e916 : (zn (i + 1 + d)) + Int32.ofInt 1 = zn (i + 1 + d + 1) := (zaddN (a := i + 1 + d) (b := 1) (znt (by omega)) c_2 (by omega))
                have te916 := znt (k := i + 1 + d + 1) (by omega)
                refine w_store (pc' := 118) (L' := [some (.ref 0), some (.int (zn (zXi (zMeet (R, C, rk, sn, sk, cn, cd) P v) (zXo (zMeet (R, C, rk, sn, sk, cn, cd) P v) P i) i d))), some (.int a), some (.int b), some (.int c), some (.int (zn i)), some (.int (zn (i + 1 + d + 1)))]) (st' := []) (m := 3) (ykc_150 (e := (3, .iinc 6 1, 0)) rfl) (by rw [← e916]; rfl) rfl ?_
                refine w_gb (ykc_150 (e := (4, .goto (-76), 42)) rfl) (fun k917 hk917 => ?_)
                have et : zXi (zMeet (R, C, rk, sn, sk, cn, cd) P v) (zXo (zMeet (R, C, rk, sn, sk, cn, cd) P v) P i) i (d + 1) = zXi (zMeet (R, C, rk, sn, sk, cn, cd) P v) (zXo (zMeet (R, C, rk, sn, sk, cn, cd) P v) P i) i d := by
                  show zXi (zMeet (R, C, rk, sn, sk, cn, cd) P v) (zXo (zMeet (R, C, rk, sn, sk, cn, cd) P v) P i) i d + (bif zMeet (R, C, rk, sn, sk, cn, cd) P v i (i + 1 + d) then 1 else 0) = _
                  rw [b898]
                  rfl
                have h9 := ih k917 hk917 (by omega) (d + 1) a b c (by omega)
                rw [et] at h9
                exact h9
        exact hj n (Nat.le_refl _) 0 _ _ _ (Nat.zero_le _)
  exact hl n 0 _ _ _ _ (Nat.zero_le _)
theorem zm_pairs {ph : pm_H} {E : zEn} {P G : Nat} {v : Nat → Nat} (hS : zSh ph) (hE : zMe ph E) (hN : zMp ph P G) (hv : zNr ph 174 0 v) (hO : zOk E.1 E.2.1 P G v) : zM 261 [.ref 170] ph (fun v0 _ => v0 = some (.int (zn (zXo (zMeet E P v) P P)))) := by
  obtain ⟨Q, hQ⟩ : ∃ Q : Option Value → pm_H → Prop, Q = (fun v0 _ => v0 = some (.int (zn (zXo (zMeet E P v) P P)))) := ⟨_, rfl⟩
  rw [← hQ]
  refine zM_mk fun n D => ?_
  show zW n D 261 Q 0 [some (.ref 170), none, none, none, none, none, none] [] ph
  have c_0 : (Int32.ofInt (-1)).toInt = -1 := by decide
  have c_1 : (Int32.ofInt 0).toInt = 0 := by decide
  have c_2 : (Int32.ofInt 1).toInt = 1 := by decide
  have hA : (174 : Nat) = 174 ∨ (174 : Nat) = 175 := Or.inl rfl
  obtain ⟨R, C, rk, sn, sk, cn, cd⟩ := E
  have hL0 : zMl ph R C rk := hE.1
  have hR0 : zMr ph sn sk cn cd := hE.2.1
  have hcg : zcg cn cd := hE.2.2
  have hE0 : zMe ph (R, C, rk, sn, sk, cn, cd) := hE
  have hO0 : zOk R C P G v := hO
  have hN0 := hN
  have hL := hL0
  have hR := hR0
  obtain ⟨gR, gC, gK, hR3, hR7, hC3, hC7⟩ := hL
  have hRC := zRC49 hR7 hC7
  have tR := znt (k := R) (by omega)
  have tC := znt (k := C) (by omega)
  obtain ⟨gP, hP8, gG, hG8⟩ := hN
  have tP := znt (k := P) (by omega)
  have tG := znt (k := G) (by omega)
  obtain ⟨gsn, hs1, hs20, gsk, gcn, hc40, gcd⟩ := hR
  have tsn := znt (k := sn) (by omega)
  have tcn := znt (k := cn) (by omega)
  refine w_load (pc' := 1) (v := .ref 170) (m := 1) (ykc_261 (e := (2, .aload_n kF0, 0)) rfl) rfl rfl ?_
  refine w_alu (pc' := 2) (st' := [.int (Int32.ofInt 0), .ref 170]) (ykc_261 (e := (0, .iconst 0, 0)) rfl) rfl rfl ?_
  refine w_pf (pc' := 5) (ykc_261 (e := (5, .putfield 3, 0)) rfl) rfl rfl (fun ph919 u918 => ?_)
  have f0 : zFr [] [(170, 0)] ph ph919 := zFr_st u918 (Or.inr (by simp))
  have hS1 := zSh_st u918 (by decide +kernel) hS
  have hE1 : zMe ph919 (R, C, rk, sn, sk, cn, cd) := ⟨zMl_F f0 (by simp) (by simp) (by simp) (by simp) hE0.1, zMr_F f0 (by simp) (by simp) (by simp) (by simp) hE0.2.1, hE0.2.2⟩
  have hN1 := zMp_F f0 (by simp) (by simp) (by simp) hN0
  have hv1 := zNr_F f0 (by simp) (by simp) hv
  have hL1 : zMl ph919 R C rk := hE1.1
  have hR1 : zMr ph919 sn sk cn cd := hE1.2.1
  refine w_alu (pc' := 6) (st' := [.int (Int32.ofInt 0)]) (ykc_261 (e := (0, .iconst 0, 0)) rfl) rfl rfl ?_
  refine w_store (pc' := 7) (L' := [some (.ref 170), some (.int (Int32.ofInt 0)), none, none, none, none, none]) (st' := []) (m := 1) (ykc_261 (e := (3, .istore_n kF1, 0)) rfl) rfl rfl ?_
  refine w_alu (pc' := 8) (st' := [.int (Int32.ofInt 0)]) (ykc_261 (e := (0, .iconst 0, 0)) rfl) rfl rfl ?_
  refine w_store (pc' := 9) (L' := [some (.ref 170), some (.int (Int32.ofInt 0)), some (.int (Int32.ofInt 0)), none, none, none, none]) (st' := []) (m := 1) (ykc_261 (e := (3, .istore_n kF2, 0)) rfl) rfl rfl ?_
  refine w_alu (pc' := 10) (st' := [.int (Int32.ofInt (-1))]) (ykc_261 (e := (0, .iconst (-1), 0)) rfl) rfl rfl ?_
  refine w_store (pc' := 11) (L' := [some (.ref 170), some (.int (Int32.ofInt 0)), some (.int (Int32.ofInt 0)), some (.int (Int32.ofInt (-1))), none, none, none]) (st' := []) (m := 1) (ykc_261 (e := (3, .istore_n kF3, 0)) rfl) rfl rfl ?_
  refine w_alu (pc' := 12) (st' := [.int (Int32.ofInt (-1))]) (ykc_261 (e := (0, .iconst (-1), 0)) rfl) rfl rfl ?_
  refine w_store (pc' := 14) (L' := [some (.ref 170), some (.int (Int32.ofInt 0)), some (.int (Int32.ofInt 0)), some (.int (Int32.ofInt (-1))), some (.int (Int32.ofInt (-1))), none, none]) (st' := []) (m := 2) (ykc_261 (e := (3, .istore 4, 0)) rfl) rfl rfl ?_
  refine w_alu (pc' := 15) (st' := [.int (Int32.ofInt 0)]) (ykc_261 (e := (0, .iconst 0, 0)) rfl) rfl rfl ?_
  refine w_store (pc' := 17) (L' := [some (.ref 170), some (.int (Int32.ofInt 0)), some (.int (Int32.ofInt 0)), some (.int (Int32.ofInt (-1))), some (.int (Int32.ofInt (-1))), some (.int (Int32.ofInt 0)), none]) (st' := []) (m := 2) (ykc_261 (e := (3, .istore 5, 0)) rfl) rfl rfl ?_
  have hl : ∀ (n : Nat), ∀ (i : Nat) (a b c : Int32) (o6 : Option Value) (ph1 : pm_H), (i ≤ P) → (zSc ph919 ph1) → zW n D 261 Q 17 [some (.ref 170), some (.int (zn (zXo (zMeet (R, C, rk, sn, sk, cn, cd) P v) P i))), some (.int a), some (.int b), some (.int c), some (.int (zn i)), o6] [] ph1 := by
    intro n
    induction n using Nat.strongRecOn with
    | ind n ih =>
      intro i a b c o6 ph1 hi hf1
      have ti := znt (k := i) (by omega)
      have mo := @zXo_le (zMeet (R, C, rk, sn, sk, cn, cd) P v) P i (by omega)
      have tm := znt (k := zXo (zMeet (R, C, rk, sn, sk, cn, cd) P v) P i) (by omega)
      refine w_load (pc' := 19) (v := .int (zn i)) (m := 2) (ykc_261 (e := (2, .iload 5, 0)) rfl) rfl rfl ?_
      refine w_load (pc' := 20) (v := .ref 170) (m := 1) (ykc_261 (e := (2, .aload_n kF0, 0)) rfl) rfl rfl ?_
      refine w_gf (pc' := 23) (v := .int (zn P)) (ykc_261 (e := (5, .getfield 130, 0)) rfl) rfl ((hf1.1 170 5 (by decide) (by decide)).trans ((u918.2.1 170 5 (fun q => absurd q.2 (by decide))).trans gP)) rfl ?_
      refine w_ige (ykc_261 (e := (4, .if_icmp .ge 90, 113)) rfl) rfl (fun b920 => ?_) (fun b920 => ?_)
      · rw [hQ]
        exact zTail kc_261 false 1 113 9999 (fun _ => rfl) (Or.inl ⟨_, rfl⟩) (by decide +kernel) (by decide) (by decide) rfl (by decide +kernel) (fun _ => (by rw [show P = i by omega]))
      · refine w_load (pc' := 28) (v := .int (zn i)) (m := 2) (ykc_261 (e := (2, .iload 5, 0)) rfl) rfl rfl ?_
        refine w_alu (pc' := 29) (st' := [.int (Int32.ofInt 1), .int (zn i)]) (ykc_261 (e := (0, .iconst 1, 0)) rfl) rfl rfl ?_
        have e921 : (zn i) + (Int32.ofInt 1) = zn (i + 1) := (zaddN (a := i) (b := 1) (znt (by omega)) c_2 (by omega)) 
        have te921 := znt (k := i + 1) (by omega)
        refine w_alu (pc' := 30) (st' := [.int (zn (i + 1))]) (ykc_261 (e := (0, .iadd, 0)) rfl) (by rw [← e921]; rfl) rfl ?_
        refine w_store (pc' := 32) (L' := [some (.ref 170), some (.int (zn (zXo (zMeet (R, C, rk, sn, sk, cn, cd) P v) P i))), some (.int a), some (.int b), some (.int c), some (.int (zn i)), some (.int (zn (i + 1)))]) (st' := []) (m := 2) (ykc_261 (e := (3, .istore 6, 0)) rfl) rfl rfl ?_
        have iho := ih
        have hj : ∀ (n2 : Nat), n2 ≤ n → ∀ (d : Nat) (a b c : Int32) (ph2 : pm_H), (d ≤ P - (i + 1)) → (zSc ph919 ph2) → zW n2 D 261 Q 32 [some (.ref 170), some (.int (zn (zXi (zMeet (R, C, rk, sn, sk, cn, cd) P v) (zXo (zMeet (R, C, rk, sn, sk, cn, cd) P v) P i) i d))), some (.int a), some (.int b), some (.int c), some (.int (zn i)), some (.int (zn (i + 1 + d)))] [] ph2 := by
          intro n2
          induction n2 using Nat.strongRecOn with
          | ind n2 ih =>
            intro hlim d a b c ph2 hd hf2
            have td := znt (k := i + 1 + d) (by omega)
            have mi := @zXi_le (zMeet (R, C, rk, sn, sk, cn, cd) P v) (zXo (zMeet (R, C, rk, sn, sk, cn, cd) P v) P i) i d
            have tm2 := znt (k := zXi (zMeet (R, C, rk, sn, sk, cn, cd) P v) (zXo (zMeet (R, C, rk, sn, sk, cn, cd) P v) P i) i d) (by omega)
            refine w_load (pc' := 34) (v := .int (zn (i + 1 + d))) (m := 2) (ykc_261 (e := (2, .iload 6, 0)) rfl) rfl rfl ?_
            refine w_load (pc' := 35) (v := .ref 170) (m := 1) (ykc_261 (e := (2, .aload_n kF0, 0)) rfl) rfl rfl ?_
            refine w_gf (pc' := 38) (v := .int (zn P)) (ykc_261 (e := (5, .getfield 130, 0)) rfl) rfl ((hf2.1 170 5 (by decide) (by decide)).trans ((u918.2.1 170 5 (fun q => absurd q.2 (by decide))).trans gP)) rfl ?_
            refine w_ige (ykc_261 (e := (4, .if_icmp .ge 69, 107)) rfl) rfl (fun b922 => ?_) (fun b922 => ?_)
            · have e923 : (zn i) + Int32.ofInt 1 = zn (i + 1) := (zaddN (a := i) (b := 1) (znt (by omega)) c_2 (by omega))
              have te923 := znt (k := i + 1) (by omega)
              refine w_store (pc' := 110) (L' := [some (.ref 170), some (.int (zn (zXi (zMeet (R, C, rk, sn, sk, cn, cd) P v) (zXo (zMeet (R, C, rk, sn, sk, cn, cd) P v) P i) i d))), some (.int a), some (.int b), some (.int c), some (.int (zn (i + 1))), some (.int (zn (i + 1 + d)))]) (st' := []) (m := 3) (ykc_261 (e := (3, .iinc 5 1, 0)) rfl) (by rw [← e923]; rfl) rfl ?_
              refine w_gb (ykc_261 (e := (4, .goto (-93), 17)) rfl) (fun k924 hk924 => ?_)
              have ed : d = P - (i + 1) := by omega
              subst ed
              exact iho k924 (by omega) (i + 1) a b c _ _ (by omega) hf2
            · refine w_load (pc' := 42) (v := .ref 170) (m := 1) (ykc_261 (e := (2, .aload_n kF0, 0)) rfl) rfl rfl ?_
              refine w_load (pc' := 43) (v := .ref 170) (m := 1) (ykc_261 (e := (2, .aload_n kF0, 0)) rfl) rfl rfl ?_
              refine w_gf (pc' := 46) (v := .ref 174) (ykc_261 (e := (5, .getfield 41, 0)) rfl) rfl ((hf2.1 170 11 (by decide) (by decide)).trans ((u918.2.1 170 11 (fun q => absurd q.2 (by decide))).trans (zsg hS zs_170_11))) rfl ?_
              refine w_load (pc' := 48) (v := .int (zn i)) (m := 2) (ykc_261 (e := (2, .iload 5, 0)) rfl) rfl rfl ?_
              refine w_load (pc' := 50) (v := .int (zn (i + 1 + d))) (m := 2) (ykc_261 (e := (2, .iload 6, 0)) rfl) rfl rfl ?_
              refine w_cv (as := [.ref 170, .ref 174, .int (zn i), .int (zn (i + 1 + d))]) (r := []) (ykc_261 (e := (6, .invokevirtual 312, 0)) rfl) rfl rfl rfl rfl (zm_meet (zSc_S hf2 hS1) (zSc_e hf2 hE1) (zSc_p hf2 hN1) (zSc_a hf2 (⟨hA, hv1⟩ : ((174 : Nat) = 174 ∨ (174 : Nat) = 175) ∧ zNr ph919 174 0 v)).1 (zSc_a hf2 (⟨hA, hv1⟩ : ((174 : Nat) = 174 ∨ (174 : Nat) = 175) ∧ zNr ph919 174 0 v)).2 hO0 (a := i) (b := i + 1 + d) (by omega) (by omega)) (fun v926 ph927 hv => ?_)
              obtain ⟨f925, rfl⟩ := hv
              show zW n2 D 261 Q 53 [some (.ref 170), some (.int (zn (zXi (zMeet (R, C, rk, sn, sk, cn, cd) P v) (zXo (zMeet (R, C, rk, sn, sk, cn, cd) P v) P i) i d))), some (.int a), some (.int b), some (.int c), some (.int (zn i)), some (.int (zn (i + 1 + d)))] [.int (zI (zMeet (R, C, rk, sn, sk, cn, cd) P v i (i + 1 + d)))] ph927
              refine w_beq (ykc_261 (e := (4, .ifCond .eq 48, 101)) rfl) rfl (fun b928 => ?_) (fun b928 => ?_)
              · have e929 : (zn (i + 1 + d)) + Int32.ofInt 1 = zn (i + 1 + d + 1) := (zaddN (a := i + 1 + d) (b := 1) (znt (by omega)) c_2 (by omega))
                have te929 := znt (k := i + 1 + d + 1) (by omega)
                refine w_store (pc' := 104) (L' := [some (.ref 170), some (.int (zn (zXi (zMeet (R, C, rk, sn, sk, cn, cd) P v) (zXo (zMeet (R, C, rk, sn, sk, cn, cd) P v) P i) i d))), some (.int a), some (.int b), some (.int c), some (.int (zn i)), some (.int (zn (i + 1 + d + 1)))]) (st' := []) (m := 3) (ykc_261 (e := (3, .iinc 6 1, 0)) rfl) (by rw [← e929]; rfl) rfl ?_
                refine w_gb (ykc_261 (e := (4, .goto (-72), 32)) rfl) (fun k930 hk930 => ?_)
                have et : zXi (zMeet (R, C, rk, sn, sk, cn, cd) P v) (zXo (zMeet (R, C, rk, sn, sk, cn, cd) P v) P i) i (d + 1) = zXi (zMeet (R, C, rk, sn, sk, cn, cd) P v) (zXo (zMeet (R, C, rk, sn, sk, cn, cd) P v) P i) i d := by
                  show zXi (zMeet (R, C, rk, sn, sk, cn, cd) P v) (zXo (zMeet (R, C, rk, sn, sk, cn, cd) P v) P i) i d + (bif zMeet (R, C, rk, sn, sk, cn, cd) P v i (i + 1 + d) then 1 else 0) = _
                  rw [b928]
                  rfl
                have h9 := ih k930 hk930 (by omega) (d + 1) a b c _ (by omega) (zFr_trans hf2 f925)
                rw [et] at h9
                exact h9
              · refine w_load (pc' := 57) (v := .int (zn (zXi (zMeet (R, C, rk, sn, sk, cn, cd) P v) (zXo (zMeet (R, C, rk, sn, sk, cn, cd) P v) P i) i d))) (m := 1) (ykc_261 (e := (2, .iload_n kF1, 0)) rfl) rfl rfl ?_
                refine w_zne (ykc_261 (e := (4, .ifCond .ne 8, 65)) rfl) rfl (fun b931 => ?_) (fun b931 => ?_)
                · refine w_load (pc' := 66) (v := .int b) (m := 1) (ykc_261 (e := (2, .iload_n kF3, 0)) rfl) rfl rfl ?_
                  refine w_store (pc' := 67) (L' := [some (.ref 170), some (.int (zn (zXi (zMeet (R, C, rk, sn, sk, cn, cd) P v) (zXo (zMeet (R, C, rk, sn, sk, cn, cd) P v) P i) i d))), some (.int a), some (.int b), some (.int c), some (.int (zn i)), some (.int (zn (i + 1 + d)))]) (st' := []) (m := 1) (ykc_261 (e := (3, .istore_n kF3, 0)) rfl) rfl rfl ?_
                  refine w_load (pc' := 68) (v := .int (zn (zXi (zMeet (R, C, rk, sn, sk, cn, cd) P v) (zXo (zMeet (R, C, rk, sn, sk, cn, cd) P v) P i) i d))) (m := 1) (ykc_261 (e := (2, .iload_n kF1, 0)) rfl) rfl rfl ?_
                  refine w_zne (ykc_261 (e := (4, .ifCond .ne 8, 76)) rfl) rfl (fun b932 => ?_) (fun b932 => ?_)
                  · refine w_load (pc' := 78) (v := .int c) (m := 2) (ykc_261 (e := (2, .iload 4, 0)) rfl) rfl rfl ?_
                    refine w_store (pc' := 80) (L' := [some (.ref 170), some (.int (zn (zXi (zMeet (R, C, rk, sn, sk, cn, cd) P v) (zXo (zMeet (R, C, rk, sn, sk, cn, cd) P v) P i) i d))), some (.int a), some (.int b), some (.int c), some (.int (zn i)), some (.int (zn (i + 1 + d)))]) (st' := []) (m := 2) (ykc_261 (e := (3, .istore 4, 0)) rfl) rfl rfl ?_
                    have e933 : (zn (zXi (zMeet (R, C, rk, sn, sk, cn, cd) P v) (zXo (zMeet (R, C, rk, sn, sk, cn, cd) P v) P i) i d)) + Int32.ofInt 1 = zn (zXi (zMeet (R, C, rk, sn, sk, cn, cd) P v) (zXo (zMeet (R, C, rk, sn, sk, cn, cd) P v) P i) i d + 1) := (zaddN (a := zXi (zMeet (R, C, rk, sn, sk, cn, cd) P v) (zXo (zMeet (R, C, rk, sn, sk, cn, cd) P v) P i) i d) (b := 1) (znt (by omega)) c_2 (by omega))
                    have te933 := znt (k := zXi (zMeet (R, C, rk, sn, sk, cn, cd) P v) (zXo (zMeet (R, C, rk, sn, sk, cn, cd) P v) P i) i d + 1) (by omega)
                    refine w_store (pc' := 83) (L' := [some (.ref 170), some (.int (zn (zXi (zMeet (R, C, rk, sn, sk, cn, cd) P v) (zXo (zMeet (R, C, rk, sn, sk, cn, cd) P v) P i) i d + 1))), some (.int a), some (.int b), some (.int c), some (.int (zn i)), some (.int (zn (i + 1 + d)))]) (st' := []) (m := 3) (ykc_261 (e := (3, .iinc 1 1, 0)) rfl) (by rw [← e933]; rfl) rfl ?_
                    refine w_load (pc' := 84) (v := .int a) (m := 1) (ykc_261 (e := (2, .iload_n kF2, 0)) rfl) rfl rfl ?_
                    refine w_load (pc' := 85) (v := .ref 170) (m := 1) (ykc_261 (e := (2, .aload_n kF0, 0)) rfl) rfl rfl ?_
                    refine w_load (pc' := 86) (v := .ref 170) (m := 1) (ykc_261 (e := (2, .aload_n kF0, 0)) rfl) rfl rfl ?_
                    refine w_gf (pc' := 89) (v := .ref 174) (ykc_261 (e := (5, .getfield 41, 0)) rfl) rfl ((f925.1 170 11 (by decide) (by decide)).trans ((hf2.1 170 11 (by decide) (by decide)).trans ((u918.2.1 170 11 (fun q => absurd q.2 (by decide))).trans (zsg hS zs_170_11)))) rfl ?_
                    refine w_load (pc' := 91) (v := .int (zn i)) (m := 2) (ykc_261 (e := (2, .iload 5, 0)) rfl) rfl rfl ?_
                    refine w_load (pc' := 93) (v := .int (zn (i + 1 + d))) (m := 2) (ykc_261 (e := (2, .iload 6, 0)) rfl) rfl rfl ?_
                    refine w_cv (as := [.ref 170, .ref 174, .int (zn i), .int (zn (i + 1 + d))]) (r := [.int a]) (ykc_261 (e := (6, .invokevirtual 344, 0)) rfl) rfl rfl rfl rfl (zm_tell (zSc_S (zFr_trans hf2 f925) hS1) (zSc_e (zFr_trans hf2 f925) hE1) (zSc_p (zFr_trans hf2 f925) hN1) (zSc_a (zFr_trans hf2 f925) (⟨hA, hv1⟩ : ((174 : Nat) = 174 ∨ (174 : Nat) = 175) ∧ zNr ph919 174 0 v)).1 (zSc_a (zFr_trans hf2 f925) (⟨hA, hv1⟩ : ((174 : Nat) = 174 ∨ (174 : Nat) = 175) ∧ zNr ph919 174 0 v)).2 hO0 (a := i) (b := i + 1 + d) (by omega) (by omega)) (fun v935 ph936 hv => ?_)
                    obtain ⟨f934, rfl⟩ := hv
                    show zW n2 D 261 Q 96 [some (.ref 170), some (.int (zn (zXi (zMeet (R, C, rk, sn, sk, cn, cd) P v) (zXo (zMeet (R, C, rk, sn, sk, cn, cd) P v) P i) i d + 1))), some (.int a), some (.int b), some (.int c), some (.int (zn i)), some (.int (zn (i + 1 + d)))] [.int (zI (zTell (R, C, rk, sn, sk, cn, cd) P v i (i + 1 + d))), .int a] ph936
                    refine w_cs (as := [.int (zI (zTell (R, C, rk, sn, sk, cn, cd) P v i (i + 1 + d)))]) (r := [.int a]) (ykc_261 (e := (6, .invokestatic 154, 0)) rfl) rfl rfl rfl rfl (zm_flag (b := (zTell (R, C, rk, sn, sk, cn, cd) P v i (i + 1 + d)))) (fun v937 ph938 hv => ?_)
                    obtain ⟨rfl, rfl⟩ := hv
                    have cI1 : (zI true).toInt = 1 := rfl
                    have cI0 : (zI false).toInt = 0 := rfl
                    show zW n2 D 261 Q 99 [some (.ref 170), some (.int (zn (zXi (zMeet (R, C, rk, sn, sk, cn, cd) P v) (zXo (zMeet (R, C, rk, sn, sk, cn, cd) P v) P i) i d + 1))), some (.int a), some (.int b), some (.int c), some (.int (zn i)), some (.int (zn (i + 1 + d)))] [.int (zI (zTell (R, C, rk, sn, sk, cn, cd) P v i (i + 1 + d))), .int a] ph936
                    refine w_alu (pc' := 100) (st' := [.int (a + (zI (zTell (R, C, rk, sn, sk, cn, cd) P v i (i + 1 + d))))]) (ykc_261 (e := (0, .iadd, 0)) rfl) rfl rfl ?_
                    refine w_store (pc' := 101) (L' := [some (.ref 170), some (.int (zn (zXi (zMeet (R, C, rk, sn, sk, cn, cd) P v) (zXo (zMeet (R, C, rk, sn, sk, cn, cd) P v) P i) i d + 1))), some (.int (a + (zI (zTell (R, C, rk, sn, sk, cn, cd) P v i (i + 1 + d))))), some (.int b), some (.int c), some (.int (zn i)), some (.int (zn (i + 1 + d)))]) (st' := []) (m := 1) (ykc_261 (e := (3, .istore_n kF2, 0)) rfl) rfl rfl ?_
                    have e939 : (zn (i + 1 + d)) + Int32.ofInt 1 = zn (i + 1 + d + 1) := (zaddN (a := i + 1 + d) (b := 1) (znt (by omega)) c_2 (by omega))
                    have te939 := znt (k := i + 1 + d + 1) (by omega)
                    refine w_store (pc' := 104) (L' := [some (.ref 170), some (.int (zn (zXi (zMeet (R, C, rk, sn, sk, cn, cd) P v) (zXo (zMeet (R, C, rk, sn, sk, cn, cd) P v) P i) i d + 1))), some (.int (a + (zI (zTell (R, C, rk, sn, sk, cn, cd) P v i (i + 1 + d))))), some (.int b), some (.int c), some (.int (zn i)), some (.int (zn (i + 1 + d + 1)))]) (st' := []) (m := 3) (ykc_261 (e := (3, .iinc 6 1, 0)) rfl) (by rw [← e939]; rfl) rfl ?_
                    refine w_gb (ykc_261 (e := (4, .goto (-72), 32)) rfl) (fun k940 hk940 => ?_)
                    have et : zXi (zMeet (R, C, rk, sn, sk, cn, cd) P v) (zXo (zMeet (R, C, rk, sn, sk, cn, cd) P v) P i) i (d + 1) = zXi (zMeet (R, C, rk, sn, sk, cn, cd) P v) (zXo (zMeet (R, C, rk, sn, sk, cn, cd) P v) P i) i d + 1 := by
                      show zXi (zMeet (R, C, rk, sn, sk, cn, cd) P v) (zXo (zMeet (R, C, rk, sn, sk, cn, cd) P v) P i) i d + (bif zMeet (R, C, rk, sn, sk, cn, cd) P v i (i + 1 + d) then 1 else 0) = _
                      rw [b928]
                      rfl
                    have h9 := ih k940 hk940 (by omega) (d + 1) (a + (zI (zTell (R, C, rk, sn, sk, cn, cd) P v i (i + 1 + d)))) b c _ (by omega) (zFr_trans (zFr_trans hf2 f925) f934)
                    rw [et] at h9
                    exact h9
                  · refine w_load (pc' := 73) (v := .int (zn (i + 1 + d))) (m := 2) (ykc_261 (e := (2, .iload 6, 0)) rfl) rfl rfl ?_
                    refine w_br (pc' := 78) (st' := [.int (zn (i + 1 + d))]) (ykc_261 (e := (4, .goto 5, 78)) rfl) rfl ?_
                    refine w_store (pc' := 80) (L' := [some (.ref 170), some (.int (zn (zXi (zMeet (R, C, rk, sn, sk, cn, cd) P v) (zXo (zMeet (R, C, rk, sn, sk, cn, cd) P v) P i) i d))), some (.int a), some (.int b), some (.int (zn (i + 1 + d))), some (.int (zn i)), some (.int (zn (i + 1 + d)))]) (st' := []) (m := 2) (ykc_261 (e := (3, .istore 4, 0)) rfl) rfl rfl ?_
                    have e941 : (zn (zXi (zMeet (R, C, rk, sn, sk, cn, cd) P v) (zXo (zMeet (R, C, rk, sn, sk, cn, cd) P v) P i) i d)) + Int32.ofInt 1 = zn (zXi (zMeet (R, C, rk, sn, sk, cn, cd) P v) (zXo (zMeet (R, C, rk, sn, sk, cn, cd) P v) P i) i d + 1) := (zaddN (a := zXi (zMeet (R, C, rk, sn, sk, cn, cd) P v) (zXo (zMeet (R, C, rk, sn, sk, cn, cd) P v) P i) i d) (b := 1) (znt (by omega)) c_2 (by omega))
                    have te941 := znt (k := zXi (zMeet (R, C, rk, sn, sk, cn, cd) P v) (zXo (zMeet (R, C, rk, sn, sk, cn, cd) P v) P i) i d + 1) (by omega)
                    refine w_store (pc' := 83) (L' := [some (.ref 170), some (.int (zn (zXi (zMeet (R, C, rk, sn, sk, cn, cd) P v) (zXo (zMeet (R, C, rk, sn, sk, cn, cd) P v) P i) i d + 1))), some (.int a), some (.int b), some (.int (zn (i + 1 + d))), some (.int (zn i)), some (.int (zn (i + 1 + d)))]) (st' := []) (m := 3) (ykc_261 (e := (3, .iinc 1 1, 0)) rfl) (by rw [← e941]; rfl) rfl ?_
                    refine w_load (pc' := 84) (v := .int a) (m := 1) (ykc_261 (e := (2, .iload_n kF2, 0)) rfl) rfl rfl ?_
                    refine w_load (pc' := 85) (v := .ref 170) (m := 1) (ykc_261 (e := (2, .aload_n kF0, 0)) rfl) rfl rfl ?_
                    refine w_load (pc' := 86) (v := .ref 170) (m := 1) (ykc_261 (e := (2, .aload_n kF0, 0)) rfl) rfl rfl ?_
                    refine w_gf (pc' := 89) (v := .ref 174) (ykc_261 (e := (5, .getfield 41, 0)) rfl) rfl ((f925.1 170 11 (by decide) (by decide)).trans ((hf2.1 170 11 (by decide) (by decide)).trans ((u918.2.1 170 11 (fun q => absurd q.2 (by decide))).trans (zsg hS zs_170_11)))) rfl ?_
                    refine w_load (pc' := 91) (v := .int (zn i)) (m := 2) (ykc_261 (e := (2, .iload 5, 0)) rfl) rfl rfl ?_
                    refine w_load (pc' := 93) (v := .int (zn (i + 1 + d))) (m := 2) (ykc_261 (e := (2, .iload 6, 0)) rfl) rfl rfl ?_
                    refine w_cv (as := [.ref 170, .ref 174, .int (zn i), .int (zn (i + 1 + d))]) (r := [.int a]) (ykc_261 (e := (6, .invokevirtual 344, 0)) rfl) rfl rfl rfl rfl (zm_tell (zSc_S (zFr_trans hf2 f925) hS1) (zSc_e (zFr_trans hf2 f925) hE1) (zSc_p (zFr_trans hf2 f925) hN1) (zSc_a (zFr_trans hf2 f925) (⟨hA, hv1⟩ : ((174 : Nat) = 174 ∨ (174 : Nat) = 175) ∧ zNr ph919 174 0 v)).1 (zSc_a (zFr_trans hf2 f925) (⟨hA, hv1⟩ : ((174 : Nat) = 174 ∨ (174 : Nat) = 175) ∧ zNr ph919 174 0 v)).2 hO0 (a := i) (b := i + 1 + d) (by omega) (by omega)) (fun v943 ph944 hv => ?_)
                    obtain ⟨f942, rfl⟩ := hv
                    show zW n2 D 261 Q 96 [some (.ref 170), some (.int (zn (zXi (zMeet (R, C, rk, sn, sk, cn, cd) P v) (zXo (zMeet (R, C, rk, sn, sk, cn, cd) P v) P i) i d + 1))), some (.int a), some (.int b), some (.int (zn (i + 1 + d))), some (.int (zn i)), some (.int (zn (i + 1 + d)))] [.int (zI (zTell (R, C, rk, sn, sk, cn, cd) P v i (i + 1 + d))), .int a] ph944
                    refine w_cs (as := [.int (zI (zTell (R, C, rk, sn, sk, cn, cd) P v i (i + 1 + d)))]) (r := [.int a]) (ykc_261 (e := (6, .invokestatic 154, 0)) rfl) rfl rfl rfl rfl (zm_flag (b := (zTell (R, C, rk, sn, sk, cn, cd) P v i (i + 1 + d)))) (fun v945 ph946 hv => ?_)
                    obtain ⟨rfl, rfl⟩ := hv
                    have cI1 : (zI true).toInt = 1 := rfl
                    have cI0 : (zI false).toInt = 0 := rfl
                    show zW n2 D 261 Q 99 [some (.ref 170), some (.int (zn (zXi (zMeet (R, C, rk, sn, sk, cn, cd) P v) (zXo (zMeet (R, C, rk, sn, sk, cn, cd) P v) P i) i d + 1))), some (.int a), some (.int b), some (.int (zn (i + 1 + d))), some (.int (zn i)), some (.int (zn (i + 1 + d)))] [.int (zI (zTell (R, C, rk, sn, sk, cn, cd) P v i (i + 1 + d))), .int a] ph944
                    refine w_alu (pc' := 100) (st' := [.int (a + (zI (zTell (R, C, rk, sn, sk, cn, cd) P v i (i + 1 + d))))]) (ykc_261 (e := (0, .iadd, 0)) rfl) rfl rfl ?_
                    refine w_store (pc' := 101) (L' := [some (.ref 170), some (.int (zn (zXi (zMeet (R, C, rk, sn, sk, cn, cd) P v) (zXo (zMeet (R, C, rk, sn, sk, cn, cd) P v) P i) i d + 1))), some (.int (a + (zI (zTell (R, C, rk, sn, sk, cn, cd) P v i (i + 1 + d))))), some (.int b), some (.int (zn (i + 1 + d))), some (.int (zn i)), some (.int (zn (i + 1 + d)))]) (st' := []) (m := 1) (ykc_261 (e := (3, .istore_n kF2, 0)) rfl) rfl rfl ?_
                    have e947 : (zn (i + 1 + d)) + Int32.ofInt 1 = zn (i + 1 + d + 1) := (zaddN (a := i + 1 + d) (b := 1) (znt (by omega)) c_2 (by omega))
                    have te947 := znt (k := i + 1 + d + 1) (by omega)
                    refine w_store (pc' := 104) (L' := [some (.ref 170), some (.int (zn (zXi (zMeet (R, C, rk, sn, sk, cn, cd) P v) (zXo (zMeet (R, C, rk, sn, sk, cn, cd) P v) P i) i d + 1))), some (.int (a + (zI (zTell (R, C, rk, sn, sk, cn, cd) P v i (i + 1 + d))))), some (.int b), some (.int (zn (i + 1 + d))), some (.int (zn i)), some (.int (zn (i + 1 + d + 1)))]) (st' := []) (m := 3) (ykc_261 (e := (3, .iinc 6 1, 0)) rfl) (by rw [← e947]; rfl) rfl ?_
                    refine w_gb (ykc_261 (e := (4, .goto (-72), 32)) rfl) (fun k948 hk948 => ?_)
                    have et : zXi (zMeet (R, C, rk, sn, sk, cn, cd) P v) (zXo (zMeet (R, C, rk, sn, sk, cn, cd) P v) P i) i (d + 1) = zXi (zMeet (R, C, rk, sn, sk, cn, cd) P v) (zXo (zMeet (R, C, rk, sn, sk, cn, cd) P v) P i) i d + 1 := by
                      show zXi (zMeet (R, C, rk, sn, sk, cn, cd) P v) (zXo (zMeet (R, C, rk, sn, sk, cn, cd) P v) P i) i d + (bif zMeet (R, C, rk, sn, sk, cn, cd) P v i (i + 1 + d) then 1 else 0) = _
                      rw [b928]
                      rfl
                    have h9 := ih k948 hk948 (by omega) (d + 1) (a + (zI (zTell (R, C, rk, sn, sk, cn, cd) P v i (i + 1 + d)))) b (zn (i + 1 + d)) _ (by omega) (zFr_trans (zFr_trans hf2 f925) f942)
                    rw [et] at h9
                    exact h9
                · refine w_load (pc' := 62) (v := .int (zn i)) (m := 2) (ykc_261 (e := (2, .iload 5, 0)) rfl) rfl rfl ?_
                  refine w_br (pc' := 66) (st' := [.int (zn i)]) (ykc_261 (e := (4, .goto 4, 66)) rfl) rfl ?_
                  refine w_store (pc' := 67) (L' := [some (.ref 170), some (.int (zn (zXi (zMeet (R, C, rk, sn, sk, cn, cd) P v) (zXo (zMeet (R, C, rk, sn, sk, cn, cd) P v) P i) i d))), some (.int a), some (.int (zn i)), some (.int c), some (.int (zn i)), some (.int (zn (i + 1 + d)))]) (st' := []) (m := 1) (ykc_261 (e := (3, .istore_n kF3, 0)) rfl) rfl rfl ?_
                  refine w_load (pc' := 68) (v := .int (zn (zXi (zMeet (R, C, rk, sn, sk, cn, cd) P v) (zXo (zMeet (R, C, rk, sn, sk, cn, cd) P v) P i) i d))) (m := 1) (ykc_261 (e := (2, .iload_n kF1, 0)) rfl) rfl rfl ?_
                  refine w_zne (ykc_261 (e := (4, .ifCond .ne 8, 76)) rfl) rfl (fun b949 => ?_) (fun b949 => ?_)
                  · refine w_load (pc' := 78) (v := .int c) (m := 2) (ykc_261 (e := (2, .iload 4, 0)) rfl) rfl rfl ?_
                    refine w_store (pc' := 80) (L' := [some (.ref 170), some (.int (zn (zXi (zMeet (R, C, rk, sn, sk, cn, cd) P v) (zXo (zMeet (R, C, rk, sn, sk, cn, cd) P v) P i) i d))), some (.int a), some (.int (zn i)), some (.int c), some (.int (zn i)), some (.int (zn (i + 1 + d)))]) (st' := []) (m := 2) (ykc_261 (e := (3, .istore 4, 0)) rfl) rfl rfl ?_
                    have e950 : (zn (zXi (zMeet (R, C, rk, sn, sk, cn, cd) P v) (zXo (zMeet (R, C, rk, sn, sk, cn, cd) P v) P i) i d)) + Int32.ofInt 1 = zn (zXi (zMeet (R, C, rk, sn, sk, cn, cd) P v) (zXo (zMeet (R, C, rk, sn, sk, cn, cd) P v) P i) i d + 1) := (zaddN (a := zXi (zMeet (R, C, rk, sn, sk, cn, cd) P v) (zXo (zMeet (R, C, rk, sn, sk, cn, cd) P v) P i) i d) (b := 1) (znt (by omega)) c_2 (by omega))
                    have te950 := znt (k := zXi (zMeet (R, C, rk, sn, sk, cn, cd) P v) (zXo (zMeet (R, C, rk, sn, sk, cn, cd) P v) P i) i d + 1) (by omega)
                    refine w_store (pc' := 83) (L' := [some (.ref 170), some (.int (zn (zXi (zMeet (R, C, rk, sn, sk, cn, cd) P v) (zXo (zMeet (R, C, rk, sn, sk, cn, cd) P v) P i) i d + 1))), some (.int a), some (.int (zn i)), some (.int c), some (.int (zn i)), some (.int (zn (i + 1 + d)))]) (st' := []) (m := 3) (ykc_261 (e := (3, .iinc 1 1, 0)) rfl) (by rw [← e950]; rfl) rfl ?_
                    refine w_load (pc' := 84) (v := .int a) (m := 1) (ykc_261 (e := (2, .iload_n kF2, 0)) rfl) rfl rfl ?_
                    refine w_load (pc' := 85) (v := .ref 170) (m := 1) (ykc_261 (e := (2, .aload_n kF0, 0)) rfl) rfl rfl ?_
                    refine w_load (pc' := 86) (v := .ref 170) (m := 1) (ykc_261 (e := (2, .aload_n kF0, 0)) rfl) rfl rfl ?_
                    refine w_gf (pc' := 89) (v := .ref 174) (ykc_261 (e := (5, .getfield 41, 0)) rfl) rfl ((f925.1 170 11 (by decide) (by decide)).trans ((hf2.1 170 11 (by decide) (by decide)).trans ((u918.2.1 170 11 (fun q => absurd q.2 (by decide))).trans (zsg hS zs_170_11)))) rfl ?_
                    refine w_load (pc' := 91) (v := .int (zn i)) (m := 2) (ykc_261 (e := (2, .iload 5, 0)) rfl) rfl rfl ?_
                    refine w_load (pc' := 93) (v := .int (zn (i + 1 + d))) (m := 2) (ykc_261 (e := (2, .iload 6, 0)) rfl) rfl rfl ?_
                    refine w_cv (as := [.ref 170, .ref 174, .int (zn i), .int (zn (i + 1 + d))]) (r := [.int a]) (ykc_261 (e := (6, .invokevirtual 344, 0)) rfl) rfl rfl rfl rfl (zm_tell (zSc_S (zFr_trans hf2 f925) hS1) (zSc_e (zFr_trans hf2 f925) hE1) (zSc_p (zFr_trans hf2 f925) hN1) (zSc_a (zFr_trans hf2 f925) (⟨hA, hv1⟩ : ((174 : Nat) = 174 ∨ (174 : Nat) = 175) ∧ zNr ph919 174 0 v)).1 (zSc_a (zFr_trans hf2 f925) (⟨hA, hv1⟩ : ((174 : Nat) = 174 ∨ (174 : Nat) = 175) ∧ zNr ph919 174 0 v)).2 hO0 (a := i) (b := i + 1 + d) (by omega) (by omega)) (fun v952 ph953 hv => ?_)
                    obtain ⟨f951, rfl⟩ := hv
                    show zW n2 D 261 Q 96 [some (.ref 170), some (.int (zn (zXi (zMeet (R, C, rk, sn, sk, cn, cd) P v) (zXo (zMeet (R, C, rk, sn, sk, cn, cd) P v) P i) i d + 1))), some (.int a), some (.int (zn i)), some (.int c), some (.int (zn i)), some (.int (zn (i + 1 + d)))] [.int (zI (zTell (R, C, rk, sn, sk, cn, cd) P v i (i + 1 + d))), .int a] ph953
                    refine w_cs (as := [.int (zI (zTell (R, C, rk, sn, sk, cn, cd) P v i (i + 1 + d)))]) (r := [.int a]) (ykc_261 (e := (6, .invokestatic 154, 0)) rfl) rfl rfl rfl rfl (zm_flag (b := (zTell (R, C, rk, sn, sk, cn, cd) P v i (i + 1 + d)))) (fun v954 ph955 hv => ?_)
                    obtain ⟨rfl, rfl⟩ := hv
                    have cI1 : (zI true).toInt = 1 := rfl
                    have cI0 : (zI false).toInt = 0 := rfl
                    show zW n2 D 261 Q 99 [some (.ref 170), some (.int (zn (zXi (zMeet (R, C, rk, sn, sk, cn, cd) P v) (zXo (zMeet (R, C, rk, sn, sk, cn, cd) P v) P i) i d + 1))), some (.int a), some (.int (zn i)), some (.int c), some (.int (zn i)), some (.int (zn (i + 1 + d)))] [.int (zI (zTell (R, C, rk, sn, sk, cn, cd) P v i (i + 1 + d))), .int a] ph953
                    refine w_alu (pc' := 100) (st' := [.int (a + (zI (zTell (R, C, rk, sn, sk, cn, cd) P v i (i + 1 + d))))]) (ykc_261 (e := (0, .iadd, 0)) rfl) rfl rfl ?_
                    refine w_store (pc' := 101) (L' := [some (.ref 170), some (.int (zn (zXi (zMeet (R, C, rk, sn, sk, cn, cd) P v) (zXo (zMeet (R, C, rk, sn, sk, cn, cd) P v) P i) i d + 1))), some (.int (a + (zI (zTell (R, C, rk, sn, sk, cn, cd) P v i (i + 1 + d))))), some (.int (zn i)), some (.int c), some (.int (zn i)), some (.int (zn (i + 1 + d)))]) (st' := []) (m := 1) (ykc_261 (e := (3, .istore_n kF2, 0)) rfl) rfl rfl ?_
                    have e956 : (zn (i + 1 + d)) + Int32.ofInt 1 = zn (i + 1 + d + 1) := (zaddN (a := i + 1 + d) (b := 1) (znt (by omega)) c_2 (by omega))
                    have te956 := znt (k := i + 1 + d + 1) (by omega)
                    refine w_store (pc' := 104) (L' := [some (.ref 170), some (.int (zn (zXi (zMeet (R, C, rk, sn, sk, cn, cd) P v) (zXo (zMeet (R, C, rk, sn, sk, cn, cd) P v) P i) i d + 1))), some (.int (a + (zI (zTell (R, C, rk, sn, sk, cn, cd) P v i (i + 1 + d))))), some (.int (zn i)), some (.int c), some (.int (zn i)), some (.int (zn (i + 1 + d + 1)))]) (st' := []) (m := 3) (ykc_261 (e := (3, .iinc 6 1, 0)) rfl) (by rw [← e956]; rfl) rfl ?_
                    refine w_gb (ykc_261 (e := (4, .goto (-72), 32)) rfl) (fun k957 hk957 => ?_)
                    have et : zXi (zMeet (R, C, rk, sn, sk, cn, cd) P v) (zXo (zMeet (R, C, rk, sn, sk, cn, cd) P v) P i) i (d + 1) = zXi (zMeet (R, C, rk, sn, sk, cn, cd) P v) (zXo (zMeet (R, C, rk, sn, sk, cn, cd) P v) P i) i d + 1 := by
                      show zXi (zMeet (R, C, rk, sn, sk, cn, cd) P v) (zXo (zMeet (R, C, rk, sn, sk, cn, cd) P v) P i) i d + (bif zMeet (R, C, rk, sn, sk, cn, cd) P v i (i + 1 + d) then 1 else 0) = _
                      rw [b928]
                      rfl
                    have h9 := ih k957 hk957 (by omega) (d + 1) (a + (zI (zTell (R, C, rk, sn, sk, cn, cd) P v i (i + 1 + d)))) (zn i) c _ (by omega) (zFr_trans (zFr_trans hf2 f925) f951)
                    rw [et] at h9
                    exact h9
                  · refine w_load (pc' := 73) (v := .int (zn (i + 1 + d))) (m := 2) (ykc_261 (e := (2, .iload 6, 0)) rfl) rfl rfl ?_
                    refine w_br (pc' := 78) (st' := [.int (zn (i + 1 + d))]) (ykc_261 (e := (4, .goto 5, 78)) rfl) rfl ?_
                    refine w_store (pc' := 80) (L' := [some (.ref 170), some (.int (zn (zXi (zMeet (R, C, rk, sn, sk, cn, cd) P v) (zXo (zMeet (R, C, rk, sn, sk, cn, cd) P v) P i) i d))), some (.int a), some (.int (zn i)), some (.int (zn (i + 1 + d))), some (.int (zn i)), some (.int (zn (i + 1 + d)))]) (st' := []) (m := 2) (ykc_261 (e := (3, .istore 4, 0)) rfl) rfl rfl ?_
                    have e958 : (zn (zXi (zMeet (R, C, rk, sn, sk, cn, cd) P v) (zXo (zMeet (R, C, rk, sn, sk, cn, cd) P v) P i) i d)) + Int32.ofInt 1 = zn (zXi (zMeet (R, C, rk, sn, sk, cn, cd) P v) (zXo (zMeet (R, C, rk, sn, sk, cn, cd) P v) P i) i d + 1) := (zaddN (a := zXi (zMeet (R, C, rk, sn, sk, cn, cd) P v) (zXo (zMeet (R, C, rk, sn, sk, cn, cd) P v) P i) i d) (b := 1) (znt (by omega)) c_2 (by omega))
                    have te958 := znt (k := zXi (zMeet (R, C, rk, sn, sk, cn, cd) P v) (zXo (zMeet (R, C, rk, sn, sk, cn, cd) P v) P i) i d + 1) (by omega)
                    refine w_store (pc' := 83) (L' := [some (.ref 170), some (.int (zn (zXi (zMeet (R, C, rk, sn, sk, cn, cd) P v) (zXo (zMeet (R, C, rk, sn, sk, cn, cd) P v) P i) i d + 1))), some (.int a), some (.int (zn i)), some (.int (zn (i + 1 + d))), some (.int (zn i)), some (.int (zn (i + 1 + d)))]) (st' := []) (m := 3) (ykc_261 (e := (3, .iinc 1 1, 0)) rfl) (by rw [← e958]; rfl) rfl ?_
                    refine w_load (pc' := 84) (v := .int a) (m := 1) (ykc_261 (e := (2, .iload_n kF2, 0)) rfl) rfl rfl ?_
                    refine w_load (pc' := 85) (v := .ref 170) (m := 1) (ykc_261 (e := (2, .aload_n kF0, 0)) rfl) rfl rfl ?_
                    refine w_load (pc' := 86) (v := .ref 170) (m := 1) (ykc_261 (e := (2, .aload_n kF0, 0)) rfl) rfl rfl ?_
                    refine w_gf (pc' := 89) (v := .ref 174) (ykc_261 (e := (5, .getfield 41, 0)) rfl) rfl ((f925.1 170 11 (by decide) (by decide)).trans ((hf2.1 170 11 (by decide) (by decide)).trans ((u918.2.1 170 11 (fun q => absurd q.2 (by decide))).trans (zsg hS zs_170_11)))) rfl ?_
                    refine w_load (pc' := 91) (v := .int (zn i)) (m := 2) (ykc_261 (e := (2, .iload 5, 0)) rfl) rfl rfl ?_
                    refine w_load (pc' := 93) (v := .int (zn (i + 1 + d))) (m := 2) (ykc_261 (e := (2, .iload 6, 0)) rfl) rfl rfl ?_
                    refine w_cv (as := [.ref 170, .ref 174, .int (zn i), .int (zn (i + 1 + d))]) (r := [.int a]) (ykc_261 (e := (6, .invokevirtual 344, 0)) rfl) rfl rfl rfl rfl (zm_tell (zSc_S (zFr_trans hf2 f925) hS1) (zSc_e (zFr_trans hf2 f925) hE1) (zSc_p (zFr_trans hf2 f925) hN1) (zSc_a (zFr_trans hf2 f925) (⟨hA, hv1⟩ : ((174 : Nat) = 174 ∨ (174 : Nat) = 175) ∧ zNr ph919 174 0 v)).1 (zSc_a (zFr_trans hf2 f925) (⟨hA, hv1⟩ : ((174 : Nat) = 174 ∨ (174 : Nat) = 175) ∧ zNr ph919 174 0 v)).2 hO0 (a := i) (b := i + 1 + d) (by omega) (by omega)) (fun v960 ph961 hv => ?_)
                    obtain ⟨f959, rfl⟩ := hv
                    show zW n2 D 261 Q 96 [some (.ref 170), some (.int (zn (zXi (zMeet (R, C, rk, sn, sk, cn, cd) P v) (zXo (zMeet (R, C, rk, sn, sk, cn, cd) P v) P i) i d + 1))), some (.int a), some (.int (zn i)), some (.int (zn (i + 1 + d))), some (.int (zn i)), some (.int (zn (i + 1 + d)))] [.int (zI (zTell (R, C, rk, sn, sk, cn, cd) P v i (i + 1 + d))), .int a] ph961
                    refine w_cs (as := [.int (zI (zTell (R, C, rk, sn, sk, cn, cd) P v i (i + 1 + d)))]) (r := [.int a]) (ykc_261 (e := (6, .invokestatic 154, 0)) rfl) rfl rfl rfl rfl (zm_flag (b := (zTell (R, C, rk, sn, sk, cn, cd) P v i (i + 1 + d)))) (fun v962 ph963 hv => ?_)
                    obtain ⟨rfl, rfl⟩ := hv
                    have cI1 : (zI true).toInt = 1 := rfl
                    have cI0 : (zI false).toInt = 0 := rfl
                    show zW n2 D 261 Q 99 [some (.ref 170), some (.int (zn (zXi (zMeet (R, C, rk, sn, sk, cn, cd) P v) (zXo (zMeet (R, C, rk, sn, sk, cn, cd) P v) P i) i d + 1))), some (.int a), some (.int (zn i)), some (.int (zn (i + 1 + d))), some (.int (zn i)), some (.int (zn (i + 1 + d)))] [.int (zI (zTell (R, C, rk, sn, sk, cn, cd) P v i (i + 1 + d))), .int a] ph961
                    refine w_alu (pc' := 100) (st' := [.int (a + (zI (zTell (R, C, rk, sn, sk, cn, cd) P v i (i + 1 + d))))]) (ykc_261 (e := (0, .iadd, 0)) rfl) rfl rfl ?_
                    refine w_store (pc' := 101) (L' := [some (.ref 170), some (.int (zn (zXi (zMeet (R, C, rk, sn, sk, cn, cd) P v) (zXo (zMeet (R, C, rk, sn, sk, cn, cd) P v) P i) i d + 1))), some (.int (a + (zI (zTell (R, C, rk, sn, sk, cn, cd) P v i (i + 1 + d))))), some (.int (zn i)), some (.int (zn (i + 1 + d))), some (.int (zn i)), some (.int (zn (i + 1 + d)))]) (st' := []) (m := 1) (ykc_261 (e := (3, .istore_n kF2, 0)) rfl) rfl rfl ?_
                    have e964 : (zn (i + 1 + d)) + Int32.ofInt 1 = zn (i + 1 + d + 1) := (zaddN (a := i + 1 + d) (b := 1) (znt (by omega)) c_2 (by omega))
                    have te964 := znt (k := i + 1 + d + 1) (by omega)
                    refine w_store (pc' := 104) (L' := [some (.ref 170), some (.int (zn (zXi (zMeet (R, C, rk, sn, sk, cn, cd) P v) (zXo (zMeet (R, C, rk, sn, sk, cn, cd) P v) P i) i d + 1))), some (.int (a + (zI (zTell (R, C, rk, sn, sk, cn, cd) P v i (i + 1 + d))))), some (.int (zn i)), some (.int (zn (i + 1 + d))), some (.int (zn i)), some (.int (zn (i + 1 + d + 1)))]) (st' := []) (m := 3) (ykc_261 (e := (3, .iinc 6 1, 0)) rfl) (by rw [← e964]; rfl) rfl ?_
                    refine w_gb (ykc_261 (e := (4, .goto (-72), 32)) rfl) (fun k965 hk965 => ?_)
                    have et : zXi (zMeet (R, C, rk, sn, sk, cn, cd) P v) (zXo (zMeet (R, C, rk, sn, sk, cn, cd) P v) P i) i (d + 1) = zXi (zMeet (R, C, rk, sn, sk, cn, cd) P v) (zXo (zMeet (R, C, rk, sn, sk, cn, cd) P v) P i) i d + 1 := by
                      show zXi (zMeet (R, C, rk, sn, sk, cn, cd) P v) (zXo (zMeet (R, C, rk, sn, sk, cn, cd) P v) P i) i d + (bif zMeet (R, C, rk, sn, sk, cn, cd) P v i (i + 1 + d) then 1 else 0) = _
                      rw [b928]
                      rfl
                    have h9 := ih k965 hk965 (by omega) (d + 1) (a + (zI (zTell (R, C, rk, sn, sk, cn, cd) P v i (i + 1 + d)))) (zn i) (zn (i + 1 + d)) _ (by omega) (zFr_trans (zFr_trans hf2 f925) f959)
                    rw [et] at h9
                    exact h9
        exact hj n (Nat.le_refl _) 0 _ _ _ _ (Nat.zero_le _) hf1
  exact hl n 0 _ _ _ _ _ (Nat.zero_le _) zFr_refl
def zXw (f : Nat → Int32) : Nat → Nat
  | 0 => 0
  | k + 1 => if (f (zXw f k)).toInt < (f (k + 1)).toInt then k + 1 else zXw f k
theorem zXw_le {f : Nat → Int32} {k : Nat} : zXw f k ≤ k := by
  induction k with
  | zero => exact Nat.le_refl _
  | succ k ih =>
    show (if (f (zXw f k)).toInt < (f (k + 1)).toInt then k + 1 else zXw f k) ≤ k + 1
    by_cases h : (f (zXw f k)).toInt < (f (k + 1)).toInt
    · rw [if_pos h]; exact Nat.le_refl _
    · rw [if_neg h]; omega
noncomputable def zXwid (E : zEn) (P : Nat) (v : Nat → Nat) : Int32 := if P = 0 then (Int8.ofInt (-2)).toInt32 else zn (zXw (fun i => zpcl (zVw E P v i)) (P - 1))
theorem zXwid_n {E : zEn} {P : Nat} {v : Nat → Nat} (h : P = 0) : (some (.int (Int8.ofInt (-2)).toInt32) : Option Value) = some (.int (zXwid E P v)) := by
  unfold zXwid
  rw [if_pos h]
theorem zXwid_p {E : zEn} {P k : Nat} {v : Nat → Nat} (h : P = k + 1) : (some (.int (zn (zXw (fun i => zpcl (zVw E P v i)) k))) : Option Value) = some (.int (zXwid E P v)) := by
  unfold zXwid
  rw [if_neg (by omega), show P - 1 = k by omega]
theorem zc_widX {ph : pm_H} {E : zEn} {F P G : Nat} {v : Nat → Nat} (hS : zSh ph) (hE : zCe ph E F) (ht : zCt ph 25 P G v) (hO : zOk E.1 E.2.1 P G v) (hr : zc ph 10 1 = some (.ref F)) (hc : zCc ph E.1 E.2.1 E.2.2.1) : zM 152 [.ref 0] ph (fun v0 _ => v0 = some (.int (zXwid E P v))) := by
  obtain ⟨Q, hQ⟩ : ∃ Q : Option Value → pm_H → Prop, Q = (fun v0 _ => v0 = some (.int (zXwid E P v))) := ⟨_, rfl⟩
  rw [← hQ]
  refine zM_mk fun n D => ?_
  show zW n D 152 Q 0 [some (.ref 0), none, none, none, none] [] ph
  have c_0 : ((Int8.ofInt (-2)).toInt32).toInt = -2 := by decide
  have c_1 : (Int32.ofInt 0).toInt = 0 := by decide
  have c_2 : (Int32.ofInt 1).toInt = 1 := by decide
  obtain ⟨R, C, rk, sn, sk, cn, cd⟩ := E
  have hL0 : zCl ph R C rk := hE.1
  have hi0 : zCi ph sn sk := hE.2.1
  have hF : F = 11 ∨ F = 16 := hE.2.2.2
  have hE0 : zCe ph (R, C, rk, sn, sk, cn, cd) F := hE
  have hO0 : zOk R C P G v := hO
  have hL := hL0
  have hs := ht.1.2
  have hd := ht.2
  have h25 := ht.1.1
  obtain ⟨gR, gC, gN, gK, gA, hR3, hR7, hC3, hC7⟩ := hL
  have hRC := zRC49 hR7 hC7
  have tR := znt (k := R) (by omega)
  have tC := znt (k := C) (by omega)
  have tRC := znt (k := R * C) (by omega)
  have hd0 := hd
  have hs0 := hs
  obtain ⟨r3, r4, r5, r6, r7, l1, l2, l3, l4, l5⟩ := hs
  obtain ⟨gP, hP8, gG, hG8, gH, gv, gw⟩ := hd
  have tP := znt (k := P) (by omega)
  have tG := znt (k := G) (by omega)
  have h40 := hO0.2.2
  have t40 := znt (k := v 40) (by omega)
  have hc0 := hc
  refine w_load (pc' := 1) (v := .ref 0) (m := 1) (ykc_152 (e := (2, .aload_n kF0, 0)) rfl) rfl rfl ?_
  refine w_gf (pc' := 4) (v := .ref 25) (ykc_152 (e := (5, .getfield 42, 0)) rfl) rfl (zsg hS zs_0_4) rfl ?_
  refine w_gf (pc' := 7) (v := .int (zn P)) (ykc_152 (e := (5, .getfield 130, 0)) rfl) rfl gP rfl ?_
  refine w_zne (ykc_152 (e := (4, .ifCond .ne 6, 13)) rfl) rfl (fun b966 => ?_) (fun b966 => ?_)
  · refine w_load (pc' := 14) (v := .ref 0) (m := 1) (ykc_152 (e := (2, .aload_n kF0, 0)) rfl) rfl rfl ?_
    refine w_gf (pc' := 17) (v := .ref 10) (ykc_152 (e := (5, .getfield 35, 0)) rfl) rfl (zsg hS zs_0_3) rfl ?_
    refine w_load (pc' := 18) (v := .ref 0) (m := 1) (ykc_152 (e := (2, .aload_n kF0, 0)) rfl) rfl rfl ?_
    refine w_gf (pc' := 21) (v := .ref 25) (ykc_152 (e := (5, .getfield 42, 0)) rfl) rfl (zsg hS zs_0_4) rfl ?_
    refine w_cv (as := [.ref 10, .ref 25]) (r := []) (ykc_152 (e := (6, .invokevirtual 208, 0)) rfl) rfl rfl rfl rfl (zc_lookR hS hE0 ht hO0 hr hc0) (fun v969 ph970 hv => ?_)
    obtain ⟨f967, hc968, hvw, rfl⟩ := hv
    show zW n D 152 Q 24 [some (.ref 0), none, none, none, none] [.long (zAll (R, C, rk, sn, sk, cn, cd) P v)] ph970
    refine w_alu (pc' := 25) (st' := []) (ykc_152 (e := (0, .pop2, 0)) rfl) rfl rfl ?_
    refine w_alu (pc' := 26) (st' := [.int (Int32.ofInt 0)]) (ykc_152 (e := (0, .iconst 0, 0)) rfl) rfl rfl ?_
    refine w_store (pc' := 27) (L' := [some (.ref 0), some (.int (Int32.ofInt 0)), none, none, none]) (st' := []) (m := 1) (ykc_152 (e := (3, .istore_n kF1, 0)) rfl) rfl rfl ?_
    refine w_alu (pc' := 28) (st' := [.int (Int32.ofInt 0)]) (ykc_152 (e := (0, .iconst 0, 0)) rfl) rfl rfl ?_
    refine w_store (pc' := 29) (L' := [some (.ref 0), some (.int (Int32.ofInt 0)), some (.int (Int32.ofInt 0)), none, none]) (st' := []) (m := 1) (ykc_152 (e := (3, .istore_n kF2, 0)) rfl) rfl rfl ?_
    refine w_alu (pc' := 30) (st' := [.int (Int32.ofInt 1)]) (ykc_152 (e := (0, .iconst 1, 0)) rfl) rfl rfl ?_
    refine w_store (pc' := 31) (L' := [some (.ref 0), some (.int (Int32.ofInt 0)), some (.int (Int32.ofInt 0)), some (.int (Int32.ofInt 1)), none]) (st' := []) (m := 1) (ykc_152 (e := (3, .istore_n kF3, 0)) rfl) rfl rfl ?_
    have hP0 : 0 < P := by omega
    have hl : ∀ (n : Nat), ∀ (k m : Nat) (o4 : Option Value), (k + 1 ≤ P) → (m < P) → zW n D 152 Q 31 [some (.ref 0), some (.int (zn (zXw (fun i => zpcl (zVw (R, C, rk, sn, sk, cn, cd) P v i)) k))), some (.int (zn m)), some (.int (zn (k + 1))), o4] [] ph970 := by
      intro n
      induction n using Nat.strongRecOn with
      | ind n ih =>
        intro k m o4 hk hm
        have tk := znt (k := k + 1) (by omega)
        have tm := znt (k := m) (by omega)
        have lw := @zXw_le (fun i => zpcl (zVw (R, C, rk, sn, sk, cn, cd) P v i)) k
        have tw := znt (k := zXw (fun i => zpcl (zVw (R, C, rk, sn, sk, cn, cd) P v i)) k) (by omega)
        refine w_load (pc' := 32) (v := .int (zn (k + 1))) (m := 1) (ykc_152 (e := (2, .iload_n kF3, 0)) rfl) rfl rfl ?_
        refine w_load (pc' := 33) (v := .ref 0) (m := 1) (ykc_152 (e := (2, .aload_n kF0, 0)) rfl) rfl rfl ?_
        refine w_gf (pc' := 36) (v := .ref 25) (ykc_152 (e := (5, .getfield 42, 0)) rfl) rfl ((f967.1 0 4 (by decide) (by decide)).trans (zsg hS zs_0_4)) rfl ?_
        refine w_gf (pc' := 39) (v := .int (zn P)) (ykc_152 (e := (5, .getfield 130, 0)) rfl) rfl ((f967.1 25 0 (by decide) (by decide)).trans gP) rfl ?_
        refine w_ige (ykc_152 (e := (4, .if_icmp .ge 58, 97)) rfl) rfl (fun b971 => ?_) (fun b971 => ?_)
        · rw [hQ]
          exact zTail kc_152 false 1 97 9999 (fun _ => rfl) (Or.inl ⟨_, rfl⟩) (by decide +kernel) (by decide) (by decide) rfl (by decide +kernel) (fun _ => zXwid_p (E := (R, C, rk, sn, sk, cn, cd)) (show P = k + 1 by omega))
        · refine w_load (pc' := 43) (v := .ref 0) (m := 1) (ykc_152 (e := (2, .aload_n kF0, 0)) rfl) rfl rfl ?_
          refine w_gf (pc' := 46) (v := .ref 10) (ykc_152 (e := (5, .getfield 35, 0)) rfl) rfl ((f967.1 0 3 (by decide) (by decide)).trans (zsg hS zs_0_3)) rfl ?_
          refine w_load (pc' := 47) (v := .int (zn (k + 1))) (m := 1) (ykc_152 (e := (2, .iload_n kF3, 0)) rfl) rfl rfl ?_
          refine w_cv (as := [.ref 10, .int (zn (k + 1))]) (r := []) (ykc_152 (e := (6, .invokevirtual 328, 0)) rfl) rfl rfl rfl rfl (zc_viewAt (zCx_S f967 hS) (zCx_e f967 hE0) (zCx_t f967 ht) hO0 hvw (p := k + 1) (by omega)) (fun v972 ph973 hv => ?_)
          obtain ⟨rfl, rfl⟩ := hv
          show zW n D 152 Q 50 [some (.ref 0), some (.int (zn (zXw (fun i => zpcl (zVw (R, C, rk, sn, sk, cn, cd) P v i)) k))), some (.int (zn m)), some (.int (zn (k + 1))), o4] [.long (zVw (R, C, rk, sn, sk, cn, cd) P v (k + 1))] ph970
          refine w_cs (as := [.long (zVw (R, C, rk, sn, sk, cn, cd) P v (k + 1))]) (r := []) (ykc_152 (e := (6, .invokestatic 305, 0)) rfl) rfl rfl rfl rfl (zj_pcl (x := zVw (R, C, rk, sn, sk, cn, cd) P v (k + 1))) (fun v974 ph975 hv => ?_)
          obtain ⟨rfl, rfl⟩ := hv
          show zW n D 152 Q 53 [some (.ref 0), some (.int (zn (zXw (fun i => zpcl (zVw (R, C, rk, sn, sk, cn, cd) P v i)) k))), some (.int (zn m)), some (.int (zn (k + 1))), o4] [.int (zpcl (zVw (R, C, rk, sn, sk, cn, cd) P v (k + 1)))] ph970
          refine w_store (pc' := 55) (L' := [some (.ref 0), some (.int (zn (zXw (fun i => zpcl (zVw (R, C, rk, sn, sk, cn, cd) P v i)) k))), some (.int (zn m)), some (.int (zn (k + 1))), some (.int (zpcl (zVw (R, C, rk, sn, sk, cn, cd) P v (k + 1))))]) (st' := []) (m := 2) (ykc_152 (e := (3, .istore 4, 0)) rfl) rfl rfl ?_
          refine w_load (pc' := 57) (v := .int (zpcl (zVw (R, C, rk, sn, sk, cn, cd) P v (k + 1)))) (m := 2) (ykc_152 (e := (2, .iload 4, 0)) rfl) rfl rfl ?_
          refine w_load (pc' := 58) (v := .ref 0) (m := 1) (ykc_152 (e := (2, .aload_n kF0, 0)) rfl) rfl rfl ?_
          refine w_gf (pc' := 61) (v := .ref 10) (ykc_152 (e := (5, .getfield 35, 0)) rfl) rfl ((f967.1 0 3 (by decide) (by decide)).trans (zsg hS zs_0_3)) rfl ?_
          refine w_load (pc' := 62) (v := .int (zn (zXw (fun i => zpcl (zVw (R, C, rk, sn, sk, cn, cd) P v i)) k))) (m := 1) (ykc_152 (e := (2, .iload_n kF1, 0)) rfl) rfl rfl ?_
          refine w_cv (as := [.ref 10, .int (zn (zXw (fun i => zpcl (zVw (R, C, rk, sn, sk, cn, cd) P v i)) k))]) (r := [.int (zpcl (zVw (R, C, rk, sn, sk, cn, cd) P v (k + 1)))]) (ykc_152 (e := (6, .invokevirtual 328, 0)) rfl) rfl rfl rfl rfl (zc_viewAt (zCx_S f967 hS) (zCx_e f967 hE0) (zCx_t f967 ht) hO0 hvw (p := zXw (fun i => zpcl (zVw (R, C, rk, sn, sk, cn, cd) P v i)) k) (by omega)) (fun v976 ph977 hv => ?_)
          obtain ⟨rfl, rfl⟩ := hv
          show zW n D 152 Q 65 [some (.ref 0), some (.int (zn (zXw (fun i => zpcl (zVw (R, C, rk, sn, sk, cn, cd) P v i)) k))), some (.int (zn m)), some (.int (zn (k + 1))), some (.int (zpcl (zVw (R, C, rk, sn, sk, cn, cd) P v (k + 1))))] [.long (zVw (R, C, rk, sn, sk, cn, cd) P v (zXw (fun i => zpcl (zVw (R, C, rk, sn, sk, cn, cd) P v i)) k)), .int (zpcl (zVw (R, C, rk, sn, sk, cn, cd) P v (k + 1)))] ph970
          refine w_cs (as := [.long (zVw (R, C, rk, sn, sk, cn, cd) P v (zXw (fun i => zpcl (zVw (R, C, rk, sn, sk, cn, cd) P v i)) k))]) (r := [.int (zpcl (zVw (R, C, rk, sn, sk, cn, cd) P v (k + 1)))]) (ykc_152 (e := (6, .invokestatic 305, 0)) rfl) rfl rfl rfl rfl (zj_pcl (x := zVw (R, C, rk, sn, sk, cn, cd) P v (zXw (fun i => zpcl (zVw (R, C, rk, sn, sk, cn, cd) P v i)) k))) (fun v978 ph979 hv => ?_)
          obtain ⟨rfl, rfl⟩ := hv
          show zW n D 152 Q 68 [some (.ref 0), some (.int (zn (zXw (fun i => zpcl (zVw (R, C, rk, sn, sk, cn, cd) P v i)) k))), some (.int (zn m)), some (.int (zn (k + 1))), some (.int (zpcl (zVw (R, C, rk, sn, sk, cn, cd) P v (k + 1))))] [.int (zpcl (zVw (R, C, rk, sn, sk, cn, cd) P v (zXw (fun i => zpcl (zVw (R, C, rk, sn, sk, cn, cd) P v i)) k))), .int (zpcl (zVw (R, C, rk, sn, sk, cn, cd) P v (k + 1)))] ph970
          refine w_ile (ykc_152 (e := (4, .if_icmp .le 5, 73)) rfl) rfl (fun b980 => ?_) (fun b980 => ?_)
          · refine w_load (pc' := 75) (v := .int (zpcl (zVw (R, C, rk, sn, sk, cn, cd) P v (k + 1)))) (m := 2) (ykc_152 (e := (2, .iload 4, 0)) rfl) rfl rfl ?_
            refine w_load (pc' := 76) (v := .ref 0) (m := 1) (ykc_152 (e := (2, .aload_n kF0, 0)) rfl) rfl rfl ?_
            refine w_gf (pc' := 79) (v := .ref 10) (ykc_152 (e := (5, .getfield 35, 0)) rfl) rfl ((f967.1 0 3 (by decide) (by decide)).trans (zsg hS zs_0_3)) rfl ?_
            refine w_load (pc' := 80) (v := .int (zn m)) (m := 1) (ykc_152 (e := (2, .iload_n kF2, 0)) rfl) rfl rfl ?_
            refine w_cv (as := [.ref 10, .int (zn m)]) (r := [.int (zpcl (zVw (R, C, rk, sn, sk, cn, cd) P v (k + 1)))]) (ykc_152 (e := (6, .invokevirtual 328, 0)) rfl) rfl rfl rfl rfl (zc_viewAt (zCx_S f967 hS) (zCx_e f967 hE0) (zCx_t f967 ht) hO0 hvw (p := m) (by omega)) (fun v981 ph982 hv => ?_)
            obtain ⟨rfl, rfl⟩ := hv
            show zW n D 152 Q 83 [some (.ref 0), some (.int (zn (zXw (fun i => zpcl (zVw (R, C, rk, sn, sk, cn, cd) P v i)) k))), some (.int (zn m)), some (.int (zn (k + 1))), some (.int (zpcl (zVw (R, C, rk, sn, sk, cn, cd) P v (k + 1))))] [.long (zVw (R, C, rk, sn, sk, cn, cd) P v m), .int (zpcl (zVw (R, C, rk, sn, sk, cn, cd) P v (k + 1)))] ph970
            refine w_cs (as := [.long (zVw (R, C, rk, sn, sk, cn, cd) P v m)]) (r := [.int (zpcl (zVw (R, C, rk, sn, sk, cn, cd) P v (k + 1)))]) (ykc_152 (e := (6, .invokestatic 305, 0)) rfl) rfl rfl rfl rfl (zj_pcl (x := zVw (R, C, rk, sn, sk, cn, cd) P v m)) (fun v983 ph984 hv => ?_)
            obtain ⟨rfl, rfl⟩ := hv
            show zW n D 152 Q 86 [some (.ref 0), some (.int (zn (zXw (fun i => zpcl (zVw (R, C, rk, sn, sk, cn, cd) P v i)) k))), some (.int (zn m)), some (.int (zn (k + 1))), some (.int (zpcl (zVw (R, C, rk, sn, sk, cn, cd) P v (k + 1))))] [.int (zpcl (zVw (R, C, rk, sn, sk, cn, cd) P v m)), .int (zpcl (zVw (R, C, rk, sn, sk, cn, cd) P v (k + 1)))] ph970
            refine w_ige (ykc_152 (e := (4, .if_icmp .ge 5, 91)) rfl) rfl (fun b985 => ?_) (fun b985 => ?_)
            · have e986 : (zn (k + 1)) + Int32.ofInt 1 = zn (k + 1 + 1) := (zaddN (a := k + 1) (b := 1) (znt (by omega)) c_2 (by omega))
              have te986 := znt (k := k + 1 + 1) (by omega)
              refine w_store (pc' := 94) (L' := [some (.ref 0), some (.int (zn (zXw (fun i => zpcl (zVw (R, C, rk, sn, sk, cn, cd) P v i)) k))), some (.int (zn m)), some (.int (zn (k + 1 + 1))), some (.int (zpcl (zVw (R, C, rk, sn, sk, cn, cd) P v (k + 1))))]) (st' := []) (m := 3) (ykc_152 (e := (3, .iinc 3 1, 0)) rfl) (by rw [← e986]; rfl) rfl ?_
              refine w_gb (ykc_152 (e := (4, .goto (-63), 31)) rfl) (fun k987 hk987 => ?_)
              have et : zXw (fun i => zpcl (zVw (R, C, rk, sn, sk, cn, cd) P v i)) (k + 1) = zXw (fun i => zpcl (zVw (R, C, rk, sn, sk, cn, cd) P v i)) k := by
                show (if (zpcl (zVw (R, C, rk, sn, sk, cn, cd) P v (zXw (fun i => zpcl (zVw (R, C, rk, sn, sk, cn, cd) P v i)) k))).toInt < (zpcl (zVw (R, C, rk, sn, sk, cn, cd) P v (k + 1))).toInt then k + 1 else zXw (fun i => zpcl (zVw (R, C, rk, sn, sk, cn, cd) P v i)) k) = _
                rw [if_neg (by omega)]
              have h9 := ih k987 hk987 (k + 1) m (some (.int (zpcl (zVw (R, C, rk, sn, sk, cn, cd) P v (k + 1))))) (by omega) (by omega)
              rw [et] at h9
              exact h9
            · refine w_load (pc' := 90) (v := .int (zn (k + 1))) (m := 1) (ykc_152 (e := (2, .iload_n kF3, 0)) rfl) rfl rfl ?_
              refine w_store (pc' := 91) (L' := [some (.ref 0), some (.int (zn (zXw (fun i => zpcl (zVw (R, C, rk, sn, sk, cn, cd) P v i)) k))), some (.int (zn (k + 1))), some (.int (zn (k + 1))), some (.int (zpcl (zVw (R, C, rk, sn, sk, cn, cd) P v (k + 1))))]) (st' := []) (m := 1) (ykc_152 (e := (3, .istore_n kF2, 0)) rfl) rfl rfl ?_
              have e988 : (zn (k + 1)) + Int32.ofInt 1 = zn (k + 1 + 1) := (zaddN (a := k + 1) (b := 1) (znt (by omega)) c_2 (by omega))
              have te988 := znt (k := k + 1 + 1) (by omega)
              refine w_store (pc' := 94) (L' := [some (.ref 0), some (.int (zn (zXw (fun i => zpcl (zVw (R, C, rk, sn, sk, cn, cd) P v i)) k))), some (.int (zn (k + 1))), some (.int (zn (k + 1 + 1))), some (.int (zpcl (zVw (R, C, rk, sn, sk, cn, cd) P v (k + 1))))]) (st' := []) (m := 3) (ykc_152 (e := (3, .iinc 3 1, 0)) rfl) (by rw [← e988]; rfl) rfl ?_
              refine w_gb (ykc_152 (e := (4, .goto (-63), 31)) rfl) (fun k989 hk989 => ?_)
              have et : zXw (fun i => zpcl (zVw (R, C, rk, sn, sk, cn, cd) P v i)) (k + 1) = zXw (fun i => zpcl (zVw (R, C, rk, sn, sk, cn, cd) P v i)) k := by
                show (if (zpcl (zVw (R, C, rk, sn, sk, cn, cd) P v (zXw (fun i => zpcl (zVw (R, C, rk, sn, sk, cn, cd) P v i)) k))).toInt < (zpcl (zVw (R, C, rk, sn, sk, cn, cd) P v (k + 1))).toInt then k + 1 else zXw (fun i => zpcl (zVw (R, C, rk, sn, sk, cn, cd) P v i)) k) = _
                rw [if_neg (by omega)]
              have h9 := ih k989 hk989 (k + 1) (k + 1) (some (.int (zpcl (zVw (R, C, rk, sn, sk, cn, cd) P v (k + 1))))) (by omega) (by omega)
              rw [et] at h9
              exact h9
          · refine w_load (pc' := 72) (v := .int (zn (k + 1))) (m := 1) (ykc_152 (e := (2, .iload_n kF3, 0)) rfl) rfl rfl ?_
            refine w_store (pc' := 73) (L' := [some (.ref 0), some (.int (zn (k + 1))), some (.int (zn m)), some (.int (zn (k + 1))), some (.int (zpcl (zVw (R, C, rk, sn, sk, cn, cd) P v (k + 1))))]) (st' := []) (m := 1) (ykc_152 (e := (3, .istore_n kF1, 0)) rfl) rfl rfl ?_
            refine w_load (pc' := 75) (v := .int (zpcl (zVw (R, C, rk, sn, sk, cn, cd) P v (k + 1)))) (m := 2) (ykc_152 (e := (2, .iload 4, 0)) rfl) rfl rfl ?_
            refine w_load (pc' := 76) (v := .ref 0) (m := 1) (ykc_152 (e := (2, .aload_n kF0, 0)) rfl) rfl rfl ?_
            refine w_gf (pc' := 79) (v := .ref 10) (ykc_152 (e := (5, .getfield 35, 0)) rfl) rfl ((f967.1 0 3 (by decide) (by decide)).trans (zsg hS zs_0_3)) rfl ?_
            refine w_load (pc' := 80) (v := .int (zn m)) (m := 1) (ykc_152 (e := (2, .iload_n kF2, 0)) rfl) rfl rfl ?_
            refine w_cv (as := [.ref 10, .int (zn m)]) (r := [.int (zpcl (zVw (R, C, rk, sn, sk, cn, cd) P v (k + 1)))]) (ykc_152 (e := (6, .invokevirtual 328, 0)) rfl) rfl rfl rfl rfl (zc_viewAt (zCx_S f967 hS) (zCx_e f967 hE0) (zCx_t f967 ht) hO0 hvw (p := m) (by omega)) (fun v990 ph991 hv => ?_)
            obtain ⟨rfl, rfl⟩ := hv
            show zW n D 152 Q 83 [some (.ref 0), some (.int (zn (k + 1))), some (.int (zn m)), some (.int (zn (k + 1))), some (.int (zpcl (zVw (R, C, rk, sn, sk, cn, cd) P v (k + 1))))] [.long (zVw (R, C, rk, sn, sk, cn, cd) P v m), .int (zpcl (zVw (R, C, rk, sn, sk, cn, cd) P v (k + 1)))] ph970
            refine w_cs (as := [.long (zVw (R, C, rk, sn, sk, cn, cd) P v m)]) (r := [.int (zpcl (zVw (R, C, rk, sn, sk, cn, cd) P v (k + 1)))]) (ykc_152 (e := (6, .invokestatic 305, 0)) rfl) rfl rfl rfl rfl (zj_pcl (x := zVw (R, C, rk, sn, sk, cn, cd) P v m)) (fun v992 ph993 hv => ?_)
            obtain ⟨rfl, rfl⟩ := hv
            show zW n D 152 Q 86 [some (.ref 0), some (.int (zn (k + 1))), some (.int (zn m)), some (.int (zn (k + 1))), some (.int (zpcl (zVw (R, C, rk, sn, sk, cn, cd) P v (k + 1))))] [.int (zpcl (zVw (R, C, rk, sn, sk, cn, cd) P v m)), .int (zpcl (zVw (R, C, rk, sn, sk, cn, cd) P v (k + 1)))] ph970
            refine w_ige (ykc_152 (e := (4, .if_icmp .ge 5, 91)) rfl) rfl (fun b994 => ?_) (fun b994 => ?_)
            · have e995 : (zn (k + 1)) + Int32.ofInt 1 = zn (k + 1 + 1) := (zaddN (a := k + 1) (b := 1) (znt (by omega)) c_2 (by omega))
              have te995 := znt (k := k + 1 + 1) (by omega)
              refine w_store (pc' := 94) (L' := [some (.ref 0), some (.int (zn (k + 1))), some (.int (zn m)), some (.int (zn (k + 1 + 1))), some (.int (zpcl (zVw (R, C, rk, sn, sk, cn, cd) P v (k + 1))))]) (st' := []) (m := 3) (ykc_152 (e := (3, .iinc 3 1, 0)) rfl) (by rw [← e995]; rfl) rfl ?_
              refine w_gb (ykc_152 (e := (4, .goto (-63), 31)) rfl) (fun k996 hk996 => ?_)
              have et : zXw (fun i => zpcl (zVw (R, C, rk, sn, sk, cn, cd) P v i)) (k + 1) = k + 1 := by
                show (if (zpcl (zVw (R, C, rk, sn, sk, cn, cd) P v (zXw (fun i => zpcl (zVw (R, C, rk, sn, sk, cn, cd) P v i)) k))).toInt < (zpcl (zVw (R, C, rk, sn, sk, cn, cd) P v (k + 1))).toInt then k + 1 else zXw (fun i => zpcl (zVw (R, C, rk, sn, sk, cn, cd) P v i)) k) = _
                rw [if_pos (by omega)]
              have h9 := ih k996 hk996 (k + 1) m (some (.int (zpcl (zVw (R, C, rk, sn, sk, cn, cd) P v (k + 1))))) (by omega) (by omega)
              rw [et] at h9
              exact h9
            · refine w_load (pc' := 90) (v := .int (zn (k + 1))) (m := 1) (ykc_152 (e := (2, .iload_n kF3, 0)) rfl) rfl rfl ?_
              refine w_store (pc' := 91) (L' := [some (.ref 0), some (.int (zn (k + 1))), some (.int (zn (k + 1))), some (.int (zn (k + 1))), some (.int (zpcl (zVw (R, C, rk, sn, sk, cn, cd) P v (k + 1))))]) (st' := []) (m := 1) (ykc_152 (e := (3, .istore_n kF2, 0)) rfl) rfl rfl ?_
              have e997 : (zn (k + 1)) + Int32.ofInt 1 = zn (k + 1 + 1) := (zaddN (a := k + 1) (b := 1) (znt (by omega)) c_2 (by omega))
              have te997 := znt (k := k + 1 + 1) (by omega)
              refine w_store (pc' := 94) (L' := [some (.ref 0), some (.int (zn (k + 1))), some (.int (zn (k + 1))), some (.int (zn (k + 1 + 1))), some (.int (zpcl (zVw (R, C, rk, sn, sk, cn, cd) P v (k + 1))))]) (st' := []) (m := 3) (ykc_152 (e := (3, .iinc 3 1, 0)) rfl) (by rw [← e997]; rfl) rfl ?_
              refine w_gb (ykc_152 (e := (4, .goto (-63), 31)) rfl) (fun k998 hk998 => ?_)
              have et : zXw (fun i => zpcl (zVw (R, C, rk, sn, sk, cn, cd) P v i)) (k + 1) = k + 1 := by
                show (if (zpcl (zVw (R, C, rk, sn, sk, cn, cd) P v (zXw (fun i => zpcl (zVw (R, C, rk, sn, sk, cn, cd) P v i)) k))).toInt < (zpcl (zVw (R, C, rk, sn, sk, cn, cd) P v (k + 1))).toInt then k + 1 else zXw (fun i => zpcl (zVw (R, C, rk, sn, sk, cn, cd) P v i)) k) = _
                rw [if_pos (by omega)]
              have h9 := ih k998 hk998 (k + 1) (k + 1) (some (.int (zpcl (zVw (R, C, rk, sn, sk, cn, cd) P v (k + 1))))) (by omega) (by omega)
              rw [et] at h9
              exact h9
    exact hl n 0 0 _ (by omega) (by omega)
  · refine w_push (pc' := 12) (v := .int ((Int8.ofInt (-2)).toInt32)) (m := 2) (ykc_152 (e := (1, .bipush (-2), 0)) rfl) rfl rfl ?_
    refine w_ret (v := (some (.int ((Int8.ofInt (-2)).toInt32)))) (ykc_152 (e := (7, .ireturn, 0)) rfl) (zr_v rfl) ?_
    rw [hQ]
    exact zXwid_n (show P = 0 by omega)
theorem zm_widX {ph : pm_H} {E : zEn} {P G : Nat} {v : Nat → Nat} (hS : zSh ph) (hE : zMe ph E) (hN : zMp ph P G) (hv : zNr ph 174 0 v) (hO : zOk E.1 E.2.1 P G v) : zM 263 [.ref 170] ph (fun v0 _ => v0 = some (.int (zXwid E P v))) := by
  obtain ⟨Q, hQ⟩ : ∃ Q : Option Value → pm_H → Prop, Q = (fun v0 _ => v0 = some (.int (zXwid E P v))) := ⟨_, rfl⟩
  rw [← hQ]
  refine zM_mk fun n D => ?_
  show zW n D 263 Q 0 [some (.ref 170), none, none, none, none] [] ph
  have c_0 : ((Int8.ofInt (-2)).toInt32).toInt = -2 := by decide
  have c_1 : (Int32.ofInt 0).toInt = 0 := by decide
  have c_2 : (Int32.ofInt 1).toInt = 1 := by decide
  have hA : (174 : Nat) = 174 ∨ (174 : Nat) = 175 := Or.inl rfl
  obtain ⟨R, C, rk, sn, sk, cn, cd⟩ := E
  have hL0 : zMl ph R C rk := hE.1
  have hR0 : zMr ph sn sk cn cd := hE.2.1
  have hcg : zcg cn cd := hE.2.2
  have hE0 : zMe ph (R, C, rk, sn, sk, cn, cd) := hE
  have hO0 : zOk R C P G v := hO
  have hN0 := hN
  have hL := hL0
  have hR := hR0
  obtain ⟨gR, gC, gK, hR3, hR7, hC3, hC7⟩ := hL
  have hRC := zRC49 hR7 hC7
  have tR := znt (k := R) (by omega)
  have tC := znt (k := C) (by omega)
  obtain ⟨gP, hP8, gG, hG8⟩ := hN
  have tP := znt (k := P) (by omega)
  have tG := znt (k := G) (by omega)
  obtain ⟨gsn, hs1, hs20, gsk, gcn, hc40, gcd⟩ := hR
  have tsn := znt (k := sn) (by omega)
  have tcn := znt (k := cn) (by omega)
  refine w_load (pc' := 1) (v := .ref 170) (m := 1) (ykc_263 (e := (2, .aload_n kF0, 0)) rfl) rfl rfl ?_
  refine w_alu (pc' := 2) (st' := [.int (Int32.ofInt 0), .ref 170]) (ykc_263 (e := (0, .iconst 0, 0)) rfl) rfl rfl ?_
  refine w_pf (pc' := 5) (ykc_263 (e := (5, .putfield 3, 0)) rfl) rfl rfl (fun ph1000 u999 => ?_)
  have f0 : zFr [] [(170, 0)] ph ph1000 := zFr_st u999 (Or.inr (by simp))
  have hS1 := zSh_st u999 (by decide +kernel) hS
  have hE1 : zMe ph1000 (R, C, rk, sn, sk, cn, cd) := ⟨zMl_F f0 (by simp) (by simp) (by simp) (by simp) hE0.1, zMr_F f0 (by simp) (by simp) (by simp) (by simp) hE0.2.1, hE0.2.2⟩
  have hN1 := zMp_F f0 (by simp) (by simp) (by simp) hN0
  have hv1 := zNr_F f0 (by simp) (by simp) hv
  have hL1 : zMl ph1000 R C rk := hE1.1
  have hR1 : zMr ph1000 sn sk cn cd := hE1.2.1
  refine w_load (pc' := 6) (v := .ref 170) (m := 1) (ykc_263 (e := (2, .aload_n kF0, 0)) rfl) rfl rfl ?_
  refine w_gf (pc' := 9) (v := .int (zn P)) (ykc_263 (e := (5, .getfield 130, 0)) rfl) rfl ((u999.2.1 170 5 (fun q => absurd q.2 (by decide))).trans gP) rfl ?_
  refine w_zne (ykc_263 (e := (4, .ifCond .ne 6, 15)) rfl) rfl (fun b1001 => ?_) (fun b1001 => ?_)
  · refine w_alu (pc' := 16) (st' := [.int (Int32.ofInt 0)]) (ykc_263 (e := (0, .iconst 0, 0)) rfl) rfl rfl ?_
    refine w_store (pc' := 17) (L' := [some (.ref 170), some (.int (Int32.ofInt 0)), none, none, none]) (st' := []) (m := 1) (ykc_263 (e := (3, .istore_n kF1, 0)) rfl) rfl rfl ?_
    refine w_alu (pc' := 18) (st' := [.int (Int32.ofInt 0)]) (ykc_263 (e := (0, .iconst 0, 0)) rfl) rfl rfl ?_
    refine w_store (pc' := 19) (L' := [some (.ref 170), some (.int (Int32.ofInt 0)), some (.int (Int32.ofInt 0)), none, none]) (st' := []) (m := 1) (ykc_263 (e := (3, .istore_n kF2, 0)) rfl) rfl rfl ?_
    refine w_alu (pc' := 20) (st' := [.int (Int32.ofInt 1)]) (ykc_263 (e := (0, .iconst 1, 0)) rfl) rfl rfl ?_
    refine w_store (pc' := 21) (L' := [some (.ref 170), some (.int (Int32.ofInt 0)), some (.int (Int32.ofInt 0)), some (.int (Int32.ofInt 1)), none]) (st' := []) (m := 1) (ykc_263 (e := (3, .istore_n kF3, 0)) rfl) rfl rfl ?_
    have hP0 : 0 < P := by omega
    have hl : ∀ (n : Nat), ∀ (k m : Nat) (o4 : Option Value) (ph1 : pm_H), (k + 1 ≤ P) → (m < P) → (zSc ph1000 ph1) → zW n D 263 Q 21 [some (.ref 170), some (.int (zn (zXw (fun i => zpcl (zVw (R, C, rk, sn, sk, cn, cd) P v i)) k))), some (.int (zn m)), some (.int (zn (k + 1))), o4] [] ph1 := by
      intro n
      induction n using Nat.strongRecOn with
      | ind n ih =>
        intro k m o4 ph1 hk hm hf1
        have tk := znt (k := k + 1) (by omega)
        have tm := znt (k := m) (by omega)
        have lw := @zXw_le (fun i => zpcl (zVw (R, C, rk, sn, sk, cn, cd) P v i)) k
        have tw := znt (k := zXw (fun i => zpcl (zVw (R, C, rk, sn, sk, cn, cd) P v i)) k) (by omega)
        refine w_load (pc' := 22) (v := .int (zn (k + 1))) (m := 1) (ykc_263 (e := (2, .iload_n kF3, 0)) rfl) rfl rfl ?_
        refine w_load (pc' := 23) (v := .ref 170) (m := 1) (ykc_263 (e := (2, .aload_n kF0, 0)) rfl) rfl rfl ?_
        refine w_gf (pc' := 26) (v := .int (zn P)) (ykc_263 (e := (5, .getfield 130, 0)) rfl) rfl ((hf1.1 170 5 (by decide) (by decide)).trans ((u999.2.1 170 5 (fun q => absurd q.2 (by decide))).trans gP)) rfl ?_
        refine w_ige (ykc_263 (e := (4, .if_icmp .ge 69, 95)) rfl) rfl (fun b1002 => ?_) (fun b1002 => ?_)
        · rw [hQ]
          exact zTail kc_263 false 1 95 9999 (fun _ => rfl) (Or.inl ⟨_, rfl⟩) (by decide +kernel) (by decide) (by decide) rfl (by decide +kernel) (fun _ => zXwid_p (E := (R, C, rk, sn, sk, cn, cd)) (show P = k + 1 by omega))
        · refine w_load (pc' := 30) (v := .ref 170) (m := 1) (ykc_263 (e := (2, .aload_n kF0, 0)) rfl) rfl rfl ?_
          refine w_load (pc' := 31) (v := .ref 170) (m := 1) (ykc_263 (e := (2, .aload_n kF0, 0)) rfl) rfl rfl ?_
          refine w_gf (pc' := 34) (v := .ref 174) (ykc_263 (e := (5, .getfield 41, 0)) rfl) rfl ((hf1.1 170 11 (by decide) (by decide)).trans ((u999.2.1 170 11 (fun q => absurd q.2 (by decide))).trans (zsg hS zs_170_11))) rfl ?_
          refine w_load (pc' := 35) (v := .int (zn (k + 1))) (m := 1) (ykc_263 (e := (2, .iload_n kF3, 0)) rfl) rfl rfl ?_
          refine w_cv (as := [.ref 170, .ref 174, .int (zn (k + 1))]) (r := []) (ykc_263 (e := (6, .invokevirtual 300, 0)) rfl) rfl rfl rfl rfl (zm_seen (zSc_S hf1 hS1) (zSc_e hf1 hE1) (zSc_p hf1 hN1) (zSc_a hf1 (⟨hA, hv1⟩ : ((174 : Nat) = 174 ∨ (174 : Nat) = 175) ∧ zNr ph1000 174 0 v)).1 (zSc_a hf1 (⟨hA, hv1⟩ : ((174 : Nat) = 174 ∨ (174 : Nat) = 175) ∧ zNr ph1000 174 0 v)).2 hO0 (p := k + 1) (by omega)) (fun v1004 ph1005 hv => ?_)
          obtain ⟨f1003, rfl⟩ := hv
          show zW n D 263 Q 38 [some (.ref 170), some (.int (zn (zXw (fun i => zpcl (zVw (R, C, rk, sn, sk, cn, cd) P v i)) k))), some (.int (zn m)), some (.int (zn (k + 1))), o4] [.long (zVw (R, C, rk, sn, sk, cn, cd) P v (k + 1))] ph1005
          refine w_cs (as := [.long (zVw (R, C, rk, sn, sk, cn, cd) P v (k + 1))]) (r := []) (ykc_263 (e := (6, .invokestatic 405, 0)) rfl) rfl rfl rfl rfl (zj_pcl (x := zVw (R, C, rk, sn, sk, cn, cd) P v (k + 1))) (fun v1006 ph1007 hv => ?_)
          obtain ⟨rfl, rfl⟩ := hv
          show zW n D 263 Q 41 [some (.ref 170), some (.int (zn (zXw (fun i => zpcl (zVw (R, C, rk, sn, sk, cn, cd) P v i)) k))), some (.int (zn m)), some (.int (zn (k + 1))), o4] [.int (zpcl (zVw (R, C, rk, sn, sk, cn, cd) P v (k + 1)))] ph1005
          refine w_store (pc' := 43) (L' := [some (.ref 170), some (.int (zn (zXw (fun i => zpcl (zVw (R, C, rk, sn, sk, cn, cd) P v i)) k))), some (.int (zn m)), some (.int (zn (k + 1))), some (.int (zpcl (zVw (R, C, rk, sn, sk, cn, cd) P v (k + 1))))]) (st' := []) (m := 2) (ykc_263 (e := (3, .istore 4, 0)) rfl) rfl rfl ?_
          refine w_load (pc' := 45) (v := .int (zpcl (zVw (R, C, rk, sn, sk, cn, cd) P v (k + 1)))) (m := 2) (ykc_263 (e := (2, .iload 4, 0)) rfl) rfl rfl ?_
          refine w_load (pc' := 46) (v := .ref 170) (m := 1) (ykc_263 (e := (2, .aload_n kF0, 0)) rfl) rfl rfl ?_
          refine w_load (pc' := 47) (v := .ref 170) (m := 1) (ykc_263 (e := (2, .aload_n kF0, 0)) rfl) rfl rfl ?_
          refine w_gf (pc' := 50) (v := .ref 174) (ykc_263 (e := (5, .getfield 41, 0)) rfl) rfl ((f1003.1 170 11 (by decide) (by decide)).trans ((hf1.1 170 11 (by decide) (by decide)).trans ((u999.2.1 170 11 (fun q => absurd q.2 (by decide))).trans (zsg hS zs_170_11)))) rfl ?_
          refine w_load (pc' := 51) (v := .int (zn (zXw (fun i => zpcl (zVw (R, C, rk, sn, sk, cn, cd) P v i)) k))) (m := 1) (ykc_263 (e := (2, .iload_n kF1, 0)) rfl) rfl rfl ?_
          refine w_cv (as := [.ref 170, .ref 174, .int (zn (zXw (fun i => zpcl (zVw (R, C, rk, sn, sk, cn, cd) P v i)) k))]) (r := [.int (zpcl (zVw (R, C, rk, sn, sk, cn, cd) P v (k + 1)))]) (ykc_263 (e := (6, .invokevirtual 300, 0)) rfl) rfl rfl rfl rfl (zm_seen (zSc_S (zFr_trans hf1 f1003) hS1) (zSc_e (zFr_trans hf1 f1003) hE1) (zSc_p (zFr_trans hf1 f1003) hN1) (zSc_a (zFr_trans hf1 f1003) (⟨hA, hv1⟩ : ((174 : Nat) = 174 ∨ (174 : Nat) = 175) ∧ zNr ph1000 174 0 v)).1 (zSc_a (zFr_trans hf1 f1003) (⟨hA, hv1⟩ : ((174 : Nat) = 174 ∨ (174 : Nat) = 175) ∧ zNr ph1000 174 0 v)).2 hO0 (p := zXw (fun i => zpcl (zVw (R, C, rk, sn, sk, cn, cd) P v i)) k) (by omega)) (fun v1009 ph1010 hv => ?_)
          obtain ⟨f1008, rfl⟩ := hv
          show zW n D 263 Q 54 [some (.ref 170), some (.int (zn (zXw (fun i => zpcl (zVw (R, C, rk, sn, sk, cn, cd) P v i)) k))), some (.int (zn m)), some (.int (zn (k + 1))), some (.int (zpcl (zVw (R, C, rk, sn, sk, cn, cd) P v (k + 1))))] [.long (zVw (R, C, rk, sn, sk, cn, cd) P v (zXw (fun i => zpcl (zVw (R, C, rk, sn, sk, cn, cd) P v i)) k)), .int (zpcl (zVw (R, C, rk, sn, sk, cn, cd) P v (k + 1)))] ph1010
          refine w_cs (as := [.long (zVw (R, C, rk, sn, sk, cn, cd) P v (zXw (fun i => zpcl (zVw (R, C, rk, sn, sk, cn, cd) P v i)) k))]) (r := [.int (zpcl (zVw (R, C, rk, sn, sk, cn, cd) P v (k + 1)))]) (ykc_263 (e := (6, .invokestatic 405, 0)) rfl) rfl rfl rfl rfl (zj_pcl (x := zVw (R, C, rk, sn, sk, cn, cd) P v (zXw (fun i => zpcl (zVw (R, C, rk, sn, sk, cn, cd) P v i)) k))) (fun v1011 ph1012 hv => ?_)
          obtain ⟨rfl, rfl⟩ := hv
          show zW n D 263 Q 57 [some (.ref 170), some (.int (zn (zXw (fun i => zpcl (zVw (R, C, rk, sn, sk, cn, cd) P v i)) k))), some (.int (zn m)), some (.int (zn (k + 1))), some (.int (zpcl (zVw (R, C, rk, sn, sk, cn, cd) P v (k + 1))))] [.int (zpcl (zVw (R, C, rk, sn, sk, cn, cd) P v (zXw (fun i => zpcl (zVw (R, C, rk, sn, sk, cn, cd) P v i)) k))), .int (zpcl (zVw (R, C, rk, sn, sk, cn, cd) P v (k + 1)))] ph1010
          refine w_ile (ykc_263 (e := (4, .if_icmp .le 7, 64)) rfl) rfl (fun b1013 => ?_) (fun b1013 => ?_)
          · refine w_load (pc' := 65) (v := .int (zn (zXw (fun i => zpcl (zVw (R, C, rk, sn, sk, cn, cd) P v i)) k))) (m := 1) (ykc_263 (e := (2, .iload_n kF1, 0)) rfl) rfl rfl ?_
            refine w_store (pc' := 66) (L' := [some (.ref 170), some (.int (zn (zXw (fun i => zpcl (zVw (R, C, rk, sn, sk, cn, cd) P v i)) k))), some (.int (zn m)), some (.int (zn (k + 1))), some (.int (zpcl (zVw (R, C, rk, sn, sk, cn, cd) P v (k + 1))))]) (st' := []) (m := 1) (ykc_263 (e := (3, .istore_n kF1, 0)) rfl) rfl rfl ?_
            refine w_load (pc' := 68) (v := .int (zpcl (zVw (R, C, rk, sn, sk, cn, cd) P v (k + 1)))) (m := 2) (ykc_263 (e := (2, .iload 4, 0)) rfl) rfl rfl ?_
            refine w_load (pc' := 69) (v := .ref 170) (m := 1) (ykc_263 (e := (2, .aload_n kF0, 0)) rfl) rfl rfl ?_
            refine w_load (pc' := 70) (v := .ref 170) (m := 1) (ykc_263 (e := (2, .aload_n kF0, 0)) rfl) rfl rfl ?_
            refine w_gf (pc' := 73) (v := .ref 174) (ykc_263 (e := (5, .getfield 41, 0)) rfl) rfl ((f1008.1 170 11 (by decide) (by decide)).trans ((f1003.1 170 11 (by decide) (by decide)).trans ((hf1.1 170 11 (by decide) (by decide)).trans ((u999.2.1 170 11 (fun q => absurd q.2 (by decide))).trans (zsg hS zs_170_11))))) rfl ?_
            refine w_load (pc' := 74) (v := .int (zn m)) (m := 1) (ykc_263 (e := (2, .iload_n kF2, 0)) rfl) rfl rfl ?_
            refine w_cv (as := [.ref 170, .ref 174, .int (zn m)]) (r := [.int (zpcl (zVw (R, C, rk, sn, sk, cn, cd) P v (k + 1)))]) (ykc_263 (e := (6, .invokevirtual 300, 0)) rfl) rfl rfl rfl rfl (zm_seen (zSc_S (zFr_trans (zFr_trans hf1 f1003) f1008) hS1) (zSc_e (zFr_trans (zFr_trans hf1 f1003) f1008) hE1) (zSc_p (zFr_trans (zFr_trans hf1 f1003) f1008) hN1) (zSc_a (zFr_trans (zFr_trans hf1 f1003) f1008) (⟨hA, hv1⟩ : ((174 : Nat) = 174 ∨ (174 : Nat) = 175) ∧ zNr ph1000 174 0 v)).1 (zSc_a (zFr_trans (zFr_trans hf1 f1003) f1008) (⟨hA, hv1⟩ : ((174 : Nat) = 174 ∨ (174 : Nat) = 175) ∧ zNr ph1000 174 0 v)).2 hO0 (p := m) (by omega)) (fun v1015 ph1016 hv => ?_)
            obtain ⟨f1014, rfl⟩ := hv
            show zW n D 263 Q 77 [some (.ref 170), some (.int (zn (zXw (fun i => zpcl (zVw (R, C, rk, sn, sk, cn, cd) P v i)) k))), some (.int (zn m)), some (.int (zn (k + 1))), some (.int (zpcl (zVw (R, C, rk, sn, sk, cn, cd) P v (k + 1))))] [.long (zVw (R, C, rk, sn, sk, cn, cd) P v m), .int (zpcl (zVw (R, C, rk, sn, sk, cn, cd) P v (k + 1)))] ph1016
            refine w_cs (as := [.long (zVw (R, C, rk, sn, sk, cn, cd) P v m)]) (r := [.int (zpcl (zVw (R, C, rk, sn, sk, cn, cd) P v (k + 1)))]) (ykc_263 (e := (6, .invokestatic 405, 0)) rfl) rfl rfl rfl rfl (zj_pcl (x := zVw (R, C, rk, sn, sk, cn, cd) P v m)) (fun v1017 ph1018 hv => ?_)
            obtain ⟨rfl, rfl⟩ := hv
            show zW n D 263 Q 80 [some (.ref 170), some (.int (zn (zXw (fun i => zpcl (zVw (R, C, rk, sn, sk, cn, cd) P v i)) k))), some (.int (zn m)), some (.int (zn (k + 1))), some (.int (zpcl (zVw (R, C, rk, sn, sk, cn, cd) P v (k + 1))))] [.int (zpcl (zVw (R, C, rk, sn, sk, cn, cd) P v m)), .int (zpcl (zVw (R, C, rk, sn, sk, cn, cd) P v (k + 1)))] ph1016
            refine w_ige (ykc_263 (e := (4, .if_icmp .ge 7, 87)) rfl) rfl (fun b1019 => ?_) (fun b1019 => ?_)
            · refine w_load (pc' := 88) (v := .int (zn m)) (m := 1) (ykc_263 (e := (2, .iload_n kF2, 0)) rfl) rfl rfl ?_
              refine w_store (pc' := 89) (L' := [some (.ref 170), some (.int (zn (zXw (fun i => zpcl (zVw (R, C, rk, sn, sk, cn, cd) P v i)) k))), some (.int (zn m)), some (.int (zn (k + 1))), some (.int (zpcl (zVw (R, C, rk, sn, sk, cn, cd) P v (k + 1))))]) (st' := []) (m := 1) (ykc_263 (e := (3, .istore_n kF2, 0)) rfl) rfl rfl ?_
              have e1020 : (zn (k + 1)) + Int32.ofInt 1 = zn (k + 1 + 1) := (zaddN (a := k + 1) (b := 1) (znt (by omega)) c_2 (by omega))
              have te1020 := znt (k := k + 1 + 1) (by omega)
              refine w_store (pc' := 92) (L' := [some (.ref 170), some (.int (zn (zXw (fun i => zpcl (zVw (R, C, rk, sn, sk, cn, cd) P v i)) k))), some (.int (zn m)), some (.int (zn (k + 1 + 1))), some (.int (zpcl (zVw (R, C, rk, sn, sk, cn, cd) P v (k + 1))))]) (st' := []) (m := 3) (ykc_263 (e := (3, .iinc 3 1, 0)) rfl) (by rw [← e1020]; rfl) rfl ?_
              refine w_gb (ykc_263 (e := (4, .goto (-71), 21)) rfl) (fun k1021 hk1021 => ?_)
              have et : zXw (fun i => zpcl (zVw (R, C, rk, sn, sk, cn, cd) P v i)) (k + 1) = zXw (fun i => zpcl (zVw (R, C, rk, sn, sk, cn, cd) P v i)) k := by
                show (if (zpcl (zVw (R, C, rk, sn, sk, cn, cd) P v (zXw (fun i => zpcl (zVw (R, C, rk, sn, sk, cn, cd) P v i)) k))).toInt < (zpcl (zVw (R, C, rk, sn, sk, cn, cd) P v (k + 1))).toInt then k + 1 else zXw (fun i => zpcl (zVw (R, C, rk, sn, sk, cn, cd) P v i)) k) = _
                rw [if_neg (by omega)]
              have h9 := ih k1021 hk1021 (k + 1) m (some (.int (zpcl (zVw (R, C, rk, sn, sk, cn, cd) P v (k + 1))))) _ (by omega) (by omega) (zFr_trans (zFr_trans (zFr_trans hf1 f1003) f1008) f1014)
              rw [et] at h9
              exact h9
            · refine w_load (pc' := 84) (v := .int (zn (k + 1))) (m := 1) (ykc_263 (e := (2, .iload_n kF3, 0)) rfl) rfl rfl ?_
              refine w_br (pc' := 88) (st' := [.int (zn (k + 1))]) (ykc_263 (e := (4, .goto 4, 88)) rfl) rfl ?_
              refine w_store (pc' := 89) (L' := [some (.ref 170), some (.int (zn (zXw (fun i => zpcl (zVw (R, C, rk, sn, sk, cn, cd) P v i)) k))), some (.int (zn (k + 1))), some (.int (zn (k + 1))), some (.int (zpcl (zVw (R, C, rk, sn, sk, cn, cd) P v (k + 1))))]) (st' := []) (m := 1) (ykc_263 (e := (3, .istore_n kF2, 0)) rfl) rfl rfl ?_
              have e1022 : (zn (k + 1)) + Int32.ofInt 1 = zn (k + 1 + 1) := (zaddN (a := k + 1) (b := 1) (znt (by omega)) c_2 (by omega))
              have te1022 := znt (k := k + 1 + 1) (by omega)
              refine w_store (pc' := 92) (L' := [some (.ref 170), some (.int (zn (zXw (fun i => zpcl (zVw (R, C, rk, sn, sk, cn, cd) P v i)) k))), some (.int (zn (k + 1))), some (.int (zn (k + 1 + 1))), some (.int (zpcl (zVw (R, C, rk, sn, sk, cn, cd) P v (k + 1))))]) (st' := []) (m := 3) (ykc_263 (e := (3, .iinc 3 1, 0)) rfl) (by rw [← e1022]; rfl) rfl ?_
              refine w_gb (ykc_263 (e := (4, .goto (-71), 21)) rfl) (fun k1023 hk1023 => ?_)
              have et : zXw (fun i => zpcl (zVw (R, C, rk, sn, sk, cn, cd) P v i)) (k + 1) = zXw (fun i => zpcl (zVw (R, C, rk, sn, sk, cn, cd) P v i)) k := by
                show (if (zpcl (zVw (R, C, rk, sn, sk, cn, cd) P v (zXw (fun i => zpcl (zVw (R, C, rk, sn, sk, cn, cd) P v i)) k))).toInt < (zpcl (zVw (R, C, rk, sn, sk, cn, cd) P v (k + 1))).toInt then k + 1 else zXw (fun i => zpcl (zVw (R, C, rk, sn, sk, cn, cd) P v i)) k) = _
                rw [if_neg (by omega)]
              have h9 := ih k1023 hk1023 (k + 1) (k + 1) (some (.int (zpcl (zVw (R, C, rk, sn, sk, cn, cd) P v (k + 1))))) _ (by omega) (by omega) (zFr_trans (zFr_trans (zFr_trans hf1 f1003) f1008) f1014)
              rw [et] at h9
              exact h9
          · refine w_load (pc' := 61) (v := .int (zn (k + 1))) (m := 1) (ykc_263 (e := (2, .iload_n kF3, 0)) rfl) rfl rfl ?_
            refine w_br (pc' := 65) (st' := [.int (zn (k + 1))]) (ykc_263 (e := (4, .goto 4, 65)) rfl) rfl ?_
            refine w_store (pc' := 66) (L' := [some (.ref 170), some (.int (zn (k + 1))), some (.int (zn m)), some (.int (zn (k + 1))), some (.int (zpcl (zVw (R, C, rk, sn, sk, cn, cd) P v (k + 1))))]) (st' := []) (m := 1) (ykc_263 (e := (3, .istore_n kF1, 0)) rfl) rfl rfl ?_
            refine w_load (pc' := 68) (v := .int (zpcl (zVw (R, C, rk, sn, sk, cn, cd) P v (k + 1)))) (m := 2) (ykc_263 (e := (2, .iload 4, 0)) rfl) rfl rfl ?_
            refine w_load (pc' := 69) (v := .ref 170) (m := 1) (ykc_263 (e := (2, .aload_n kF0, 0)) rfl) rfl rfl ?_
            refine w_load (pc' := 70) (v := .ref 170) (m := 1) (ykc_263 (e := (2, .aload_n kF0, 0)) rfl) rfl rfl ?_
            refine w_gf (pc' := 73) (v := .ref 174) (ykc_263 (e := (5, .getfield 41, 0)) rfl) rfl ((f1008.1 170 11 (by decide) (by decide)).trans ((f1003.1 170 11 (by decide) (by decide)).trans ((hf1.1 170 11 (by decide) (by decide)).trans ((u999.2.1 170 11 (fun q => absurd q.2 (by decide))).trans (zsg hS zs_170_11))))) rfl ?_
            refine w_load (pc' := 74) (v := .int (zn m)) (m := 1) (ykc_263 (e := (2, .iload_n kF2, 0)) rfl) rfl rfl ?_
            refine w_cv (as := [.ref 170, .ref 174, .int (zn m)]) (r := [.int (zpcl (zVw (R, C, rk, sn, sk, cn, cd) P v (k + 1)))]) (ykc_263 (e := (6, .invokevirtual 300, 0)) rfl) rfl rfl rfl rfl (zm_seen (zSc_S (zFr_trans (zFr_trans hf1 f1003) f1008) hS1) (zSc_e (zFr_trans (zFr_trans hf1 f1003) f1008) hE1) (zSc_p (zFr_trans (zFr_trans hf1 f1003) f1008) hN1) (zSc_a (zFr_trans (zFr_trans hf1 f1003) f1008) (⟨hA, hv1⟩ : ((174 : Nat) = 174 ∨ (174 : Nat) = 175) ∧ zNr ph1000 174 0 v)).1 (zSc_a (zFr_trans (zFr_trans hf1 f1003) f1008) (⟨hA, hv1⟩ : ((174 : Nat) = 174 ∨ (174 : Nat) = 175) ∧ zNr ph1000 174 0 v)).2 hO0 (p := m) (by omega)) (fun v1025 ph1026 hv => ?_)
            obtain ⟨f1024, rfl⟩ := hv
            show zW n D 263 Q 77 [some (.ref 170), some (.int (zn (k + 1))), some (.int (zn m)), some (.int (zn (k + 1))), some (.int (zpcl (zVw (R, C, rk, sn, sk, cn, cd) P v (k + 1))))] [.long (zVw (R, C, rk, sn, sk, cn, cd) P v m), .int (zpcl (zVw (R, C, rk, sn, sk, cn, cd) P v (k + 1)))] ph1026
            refine w_cs (as := [.long (zVw (R, C, rk, sn, sk, cn, cd) P v m)]) (r := [.int (zpcl (zVw (R, C, rk, sn, sk, cn, cd) P v (k + 1)))]) (ykc_263 (e := (6, .invokestatic 405, 0)) rfl) rfl rfl rfl rfl (zj_pcl (x := zVw (R, C, rk, sn, sk, cn, cd) P v m)) (fun v1027 ph1028 hv => ?_)
            obtain ⟨rfl, rfl⟩ := hv
            show zW n D 263 Q 80 [some (.ref 170), some (.int (zn (k + 1))), some (.int (zn m)), some (.int (zn (k + 1))), some (.int (zpcl (zVw (R, C, rk, sn, sk, cn, cd) P v (k + 1))))] [.int (zpcl (zVw (R, C, rk, sn, sk, cn, cd) P v m)), .int (zpcl (zVw (R, C, rk, sn, sk, cn, cd) P v (k + 1)))] ph1026
            refine w_ige (ykc_263 (e := (4, .if_icmp .ge 7, 87)) rfl) rfl (fun b1029 => ?_) (fun b1029 => ?_)
            · refine w_load (pc' := 88) (v := .int (zn m)) (m := 1) (ykc_263 (e := (2, .iload_n kF2, 0)) rfl) rfl rfl ?_
              refine w_store (pc' := 89) (L' := [some (.ref 170), some (.int (zn (k + 1))), some (.int (zn m)), some (.int (zn (k + 1))), some (.int (zpcl (zVw (R, C, rk, sn, sk, cn, cd) P v (k + 1))))]) (st' := []) (m := 1) (ykc_263 (e := (3, .istore_n kF2, 0)) rfl) rfl rfl ?_
              have e1030 : (zn (k + 1)) + Int32.ofInt 1 = zn (k + 1 + 1) := (zaddN (a := k + 1) (b := 1) (znt (by omega)) c_2 (by omega))
              have te1030 := znt (k := k + 1 + 1) (by omega)
              refine w_store (pc' := 92) (L' := [some (.ref 170), some (.int (zn (k + 1))), some (.int (zn m)), some (.int (zn (k + 1 + 1))), some (.int (zpcl (zVw (R, C, rk, sn, sk, cn, cd) P v (k + 1))))]) (st' := []) (m := 3) (ykc_263 (e := (3, .iinc 3 1, 0)) rfl) (by rw [← e1030]; rfl) rfl ?_
              refine w_gb (ykc_263 (e := (4, .goto (-71), 21)) rfl) (fun k1031 hk1031 => ?_)
              have et : zXw (fun i => zpcl (zVw (R, C, rk, sn, sk, cn, cd) P v i)) (k + 1) = k + 1 := by
                show (if (zpcl (zVw (R, C, rk, sn, sk, cn, cd) P v (zXw (fun i => zpcl (zVw (R, C, rk, sn, sk, cn, cd) P v i)) k))).toInt < (zpcl (zVw (R, C, rk, sn, sk, cn, cd) P v (k + 1))).toInt then k + 1 else zXw (fun i => zpcl (zVw (R, C, rk, sn, sk, cn, cd) P v i)) k) = _
                rw [if_pos (by omega)]
              have h9 := ih k1031 hk1031 (k + 1) m (some (.int (zpcl (zVw (R, C, rk, sn, sk, cn, cd) P v (k + 1))))) _ (by omega) (by omega) (zFr_trans (zFr_trans (zFr_trans hf1 f1003) f1008) f1024)
              rw [et] at h9
              exact h9
            · refine w_load (pc' := 84) (v := .int (zn (k + 1))) (m := 1) (ykc_263 (e := (2, .iload_n kF3, 0)) rfl) rfl rfl ?_
              refine w_br (pc' := 88) (st' := [.int (zn (k + 1))]) (ykc_263 (e := (4, .goto 4, 88)) rfl) rfl ?_
              refine w_store (pc' := 89) (L' := [some (.ref 170), some (.int (zn (k + 1))), some (.int (zn (k + 1))), some (.int (zn (k + 1))), some (.int (zpcl (zVw (R, C, rk, sn, sk, cn, cd) P v (k + 1))))]) (st' := []) (m := 1) (ykc_263 (e := (3, .istore_n kF2, 0)) rfl) rfl rfl ?_
              have e1032 : (zn (k + 1)) + Int32.ofInt 1 = zn (k + 1 + 1) := (zaddN (a := k + 1) (b := 1) (znt (by omega)) c_2 (by omega))
              have te1032 := znt (k := k + 1 + 1) (by omega)
              refine w_store (pc' := 92) (L' := [some (.ref 170), some (.int (zn (k + 1))), some (.int (zn (k + 1))), some (.int (zn (k + 1 + 1))), some (.int (zpcl (zVw (R, C, rk, sn, sk, cn, cd) P v (k + 1))))]) (st' := []) (m := 3) (ykc_263 (e := (3, .iinc 3 1, 0)) rfl) (by rw [← e1032]; rfl) rfl ?_
              refine w_gb (ykc_263 (e := (4, .goto (-71), 21)) rfl) (fun k1033 hk1033 => ?_)
              have et : zXw (fun i => zpcl (zVw (R, C, rk, sn, sk, cn, cd) P v i)) (k + 1) = k + 1 := by
                show (if (zpcl (zVw (R, C, rk, sn, sk, cn, cd) P v (zXw (fun i => zpcl (zVw (R, C, rk, sn, sk, cn, cd) P v i)) k))).toInt < (zpcl (zVw (R, C, rk, sn, sk, cn, cd) P v (k + 1))).toInt then k + 1 else zXw (fun i => zpcl (zVw (R, C, rk, sn, sk, cn, cd) P v i)) k) = _
                rw [if_pos (by omega)]
              have h9 := ih k1033 hk1033 (k + 1) (k + 1) (some (.int (zpcl (zVw (R, C, rk, sn, sk, cn, cd) P v (k + 1))))) _ (by omega) (by omega) (zFr_trans (zFr_trans (zFr_trans hf1 f1003) f1008) f1024)
              rw [et] at h9
              exact h9
    exact hl n 0 0 _ _ (by omega) (by omega) zFr_refl
  · refine w_push (pc' := 14) (v := .int ((Int8.ofInt (-2)).toInt32)) (m := 2) (ykc_263 (e := (1, .bipush (-2), 0)) rfl) rfl rfl ?_
    refine w_ret (v := (some (.int ((Int8.ofInt (-2)).toInt32)))) (ykc_263 (e := (7, .ireturn, 0)) rfl) (zr_v rfl) ?_
    rw [hQ]
    exact zXwid_n (show P = 0 by omega)
theorem zmlow : ∀ n, n < 50 → ∀ k, k < 64 → zb ((Int64.ofNat 1 <<< ((zn n).toInt64 &&& 63)) - Int64.ofNat 1) k = decide (k < n) := by decide +kernel
theorem zfreeL {rk : Nat → Bool} {n : Nat} (hn : n < 50) : ((Int64.ofNat 1 <<< ((zn n).toInt64 &&& 63)) - Int64.ofNat 1) &&& (zS rk n ^^^ (-1 : Int64)) = zFree rk n := by
  apply zb_ext
  intro k hk
  unfold zFree
  rw [zb_and, zb_xor, zmlow n hn k hk, zS_b (by omega) hk, zS_b (by omega) hk, (show ∀ k, k < 64 → zb (-1 : Int64) k = true by decide +kernel) k hk]
  cases decide (k < n) <;> cases rk k <;> rfl
theorem zc_freeL {ph : pm_H} {R C : Nat} {rk : Nat → Bool} (hS : zSh ph) (hL : zCl ph R C rk) : zM 41 [.ref 5] ph (fun v0 q => ph = q ∧ v0 = some (.long (zFree rk (R * C)))) := by
  obtain ⟨Q, hQ⟩ : ∃ Q : Option Value → pm_H → Prop, Q = (fun v0 q => ph = q ∧ v0 = some (.long (zFree rk (R * C)))) := ⟨_, rfl⟩
  rw [← hQ]
  refine zM_mk fun n D => ?_
  show zW n D 41 Q 0 [some (.ref 5)] [] ph
  have hL0 := hL
  obtain ⟨gR, gC, gN, gK, gA, hR3, hR7, hC3, hC7⟩ := hL
  have hRC := zRC49 hR7 hC7
  have tR := znt (k := R) (by omega)
  have tC := znt (k := C) (by omega)
  have tRC := znt (k := R * C) (by omega)
  refine w_alu (pc' := 1) (st' := [.long (Int64.ofNat kG1)]) (ykc_41 (e := (0, .lconst kG1, 0)) rfl) rfl rfl ?_
  refine w_load (pc' := 2) (v := .ref 5) (m := 1) (ykc_41 (e := (2, .aload_n kF0, 0)) rfl) rfl rfl ?_
  refine w_gf (pc' := 5) (v := .int (zn (R * C))) (ykc_41 (e := (5, .getfield 60, 0)) rfl) rfl gN rfl ?_
  refine w_alu (pc' := 6) (st' := [.long ((Int64.ofNat kG1) <<< ((zn (R * C)).toInt64 &&& 63))]) (ykc_41 (e := (0, .lshl, 0)) rfl) rfl rfl ?_
  refine w_alu (pc' := 7) (st' := [.long (Int64.ofNat kG1), .long ((Int64.ofNat kG1) <<< ((zn (R * C)).toInt64 &&& 63))]) (ykc_41 (e := (0, .lconst kG1, 0)) rfl) rfl rfl ?_
  refine w_alu (pc' := 8) (st' := [.long (((Int64.ofNat kG1) <<< ((zn (R * C)).toInt64 &&& 63)) - (Int64.ofNat kG1))]) (ykc_41 (e := (0, .lsub, 0)) rfl) rfl rfl ?_
  refine w_load (pc' := 9) (v := .ref 5) (m := 1) (ykc_41 (e := (2, .aload_n kF0, 0)) rfl) rfl rfl ?_
  refine w_gf (pc' := 12) (v := .long (zS rk (R * C))) (ykc_41 (e := (5, .getfield 53, 0)) rfl) rfl gK rfl ?_
  refine w_push (pc' := 15) (v := .long (-1 : Int64)) (m := 3) (ykc_41 (e := (1, .ldc2_w 62, 0)) rfl) rfl rfl ?_
  refine w_alu (pc' := 16) (st' := [.long ((zS rk (R * C)) ^^^ (-1 : Int64)), .long (((Int64.ofNat kG1) <<< ((zn (R * C)).toInt64 &&& 63)) - (Int64.ofNat kG1))]) (ykc_41 (e := (0, .lxor, 0)) rfl) rfl rfl ?_
  refine w_alu (pc' := 17) (st' := [.long ((((Int64.ofNat kG1) <<< ((zn (R * C)).toInt64 &&& 63)) - (Int64.ofNat kG1)) &&& ((zS rk (R * C)) ^^^ (-1 : Int64)))]) (ykc_41 (e := (0, .land, 0)) rfl) rfl rfl ?_
  refine w_ret (v := (some (.long ((((Int64.ofNat kG1) <<< ((zn (R * C)).toInt64 &&& 63)) - (Int64.ofNat kG1)) &&& ((zS rk (R * C)) ^^^ (-1 : Int64)))))) (ykc_41 (e := (7, .lreturn, 0)) rfl) (zr_v rfl) ?_
  rw [hQ]
  have hrc : R * C < 50 := by
    have := Nat.mul_le_mul (show R ≤ 7 by omega) (show C ≤ 7 by omega)
    omega
  exact ⟨rfl, by rw [← zfreeL hrc]; rfl⟩
theorem zc_hidX {ph : pm_H} {E : zEn} {F P G : Nat} {v : Nat → Nat} (hS : zSh ph) (hE : zCe ph E F) (ht : zCt ph 25 P G v) (hO : zOk E.1 E.2.1 P G v) (hr : zc ph 10 1 = some (.ref F)) (hc : zCc ph E.1 E.2.1 E.2.2.1) : zM 149 [.ref 0] ph (fun v0 _ => v0 = some (.long (zFree E.2.2.1 (E.1 * E.2.1) &&& (zAll E P v ^^^ (-1 : Int64))))) := by
  obtain ⟨Q, hQ⟩ : ∃ Q : Option Value → pm_H → Prop, Q = (fun v0 _ => v0 = some (.long (zFree E.2.2.1 (E.1 * E.2.1) &&& (zAll E P v ^^^ (-1 : Int64))))) := ⟨_, rfl⟩
  rw [← hQ]
  refine zM_mk fun n D => ?_
  show zW n D 149 Q 0 [some (.ref 0), none, none] [] ph
  obtain ⟨R, C, rk, sn, sk, cn, cd⟩ := E
  have hL0 : zCl ph R C rk := hE.1
  have hi0 : zCi ph sn sk := hE.2.1
  have hF : F = 11 ∨ F = 16 := hE.2.2.2
  have hE0 : zCe ph (R, C, rk, sn, sk, cn, cd) F := hE
  have hO0 : zOk R C P G v := hO
  have hL := hL0
  have hs := ht.1.2
  have hd := ht.2
  have h25 := ht.1.1
  obtain ⟨gR, gC, gN, gK, gA, hR3, hR7, hC3, hC7⟩ := hL
  have hRC := zRC49 hR7 hC7
  have tR := znt (k := R) (by omega)
  have tC := znt (k := C) (by omega)
  have tRC := znt (k := R * C) (by omega)
  have hd0 := hd
  have hs0 := hs
  obtain ⟨r3, r4, r5, r6, r7, l1, l2, l3, l4, l5⟩ := hs
  obtain ⟨gP, hP8, gG, hG8, gH, gv, gw⟩ := hd
  have tP := znt (k := P) (by omega)
  have tG := znt (k := G) (by omega)
  have h40 := hO0.2.2
  have t40 := znt (k := v 40) (by omega)
  have hc0 := hc
  refine w_load (pc' := 1) (v := .ref 0) (m := 1) (ykc_149 (e := (2, .aload_n kF0, 0)) rfl) rfl rfl ?_
  refine w_gf (pc' := 4) (v := .ref 5) (ykc_149 (e := (5, .getfield 26, 0)) rfl) rfl (zsg hS zs_0_2) rfl ?_
  refine w_cv (as := [.ref 5]) (r := []) (ykc_149 (e := (6, .invokevirtual 317, 0)) rfl) rfl rfl rfl rfl (zc_freeL hS hL0) (fun v1034 ph1035 hv => ?_)
  obtain ⟨rfl, rfl⟩ := hv
  show zW n D 149 Q 7 [some (.ref 0), none, none] [.long (zFree rk (R * C))] ph
  refine w_load (pc' := 8) (v := .ref 0) (m := 1) (ykc_149 (e := (2, .aload_n kF0, 0)) rfl) rfl rfl ?_
  refine w_gf (pc' := 11) (v := .ref 10) (ykc_149 (e := (5, .getfield 35, 0)) rfl) rfl (zsg hS zs_0_3) rfl ?_
  refine w_load (pc' := 12) (v := .ref 0) (m := 1) (ykc_149 (e := (2, .aload_n kF0, 0)) rfl) rfl rfl ?_
  refine w_gf (pc' := 15) (v := .ref 25) (ykc_149 (e := (5, .getfield 42, 0)) rfl) rfl (zsg hS zs_0_4) rfl ?_
  refine w_cv (as := [.ref 10, .ref 25]) (r := [.long (zFree rk (R * C))]) (ykc_149 (e := (6, .invokevirtual 208, 0)) rfl) rfl rfl rfl rfl (zc_lookR hS hE0 ht hO0 hr hc0) (fun v1038 ph1039 hv => ?_)
  obtain ⟨f1036, hc1037, hvw, rfl⟩ := hv
  show zW n D 149 Q 18 [some (.ref 0), none, none] [.long (zAll (R, C, rk, sn, sk, cn, cd) P v), .long (zFree rk (R * C))] ph1039
  refine w_push (pc' := 21) (v := .long (-1 : Int64)) (m := 3) (ykc_149 (e := (1, .ldc2_w 94, 0)) rfl) rfl rfl ?_
  refine w_alu (pc' := 22) (st' := [.long ((zAll (R, C, rk, sn, sk, cn, cd) P v) ^^^ (-1 : Int64)), .long (zFree rk (R * C))]) (ykc_149 (e := (0, .lxor, 0)) rfl) rfl rfl ?_
  refine w_alu (pc' := 23) (st' := [.long ((zFree rk (R * C)) &&& ((zAll (R, C, rk, sn, sk, cn, cd) P v) ^^^ (-1 : Int64)))]) (ykc_149 (e := (0, .land, 0)) rfl) rfl rfl ?_
  refine w_store (pc' := 24) (L' := [some (.ref 0), some (.long ((zFree rk (R * C)) &&& ((zAll (R, C, rk, sn, sk, cn, cd) P v) ^^^ (-1 : Int64)))), none]) (st' := []) (m := 1) (ykc_149 (e := (3, .lstore_n kF1, 0)) rfl) rfl rfl ?_
  rw [hQ]
  exact zTail kc_149 true 1 24 9999 (fun _ => rfl) (Or.inr ⟨rfl, _, rfl⟩) (by decide +kernel) (by decide) (by decide) rfl (by decide +kernel) (fun _ => rfl)
theorem zm_hidX {ph : pm_H} {E : zEn} {P G : Nat} {v : Nat → Nat} (hS : zSh ph) (hE : zMe ph E) (hN : zMp ph P G) (hv : zNr ph 174 0 v) (hO : zOk E.1 E.2.1 P G v) : zM 260 [.ref 170] ph (fun v0 _ => v0 = some (.long (zFree E.2.2.1 (E.1 * E.2.1) &&& (zAll E P v ^^^ (-1 : Int64))))) := by
  obtain ⟨Q, hQ⟩ : ∃ Q : Option Value → pm_H → Prop, Q = (fun v0 _ => v0 = some (.long (zFree E.2.2.1 (E.1 * E.2.1) &&& (zAll E P v ^^^ (-1 : Int64))))) := ⟨_, rfl⟩
  rw [← hQ]
  refine zM_mk fun n D => ?_
  show zW n D 260 Q 0 [some (.ref 170), none, none] [] ph
  have c_0 : (Int32.ofInt 0).toInt = 0 := by decide
  have hA : (174 : Nat) = 174 ∨ (174 : Nat) = 175 := Or.inl rfl
  obtain ⟨R, C, rk, sn, sk, cn, cd⟩ := E
  have hL0 : zMl ph R C rk := hE.1
  have hR0 : zMr ph sn sk cn cd := hE.2.1
  have hcg : zcg cn cd := hE.2.2
  have hE0 : zMe ph (R, C, rk, sn, sk, cn, cd) := hE
  have hO0 : zOk R C P G v := hO
  have hN0 := hN
  have hL := hL0
  have hR := hR0
  obtain ⟨gR, gC, gK, hR3, hR7, hC3, hC7⟩ := hL
  have hRC := zRC49 hR7 hC7
  have tR := znt (k := R) (by omega)
  have tC := znt (k := C) (by omega)
  obtain ⟨gP, hP8, gG, hG8⟩ := hN
  have tP := znt (k := P) (by omega)
  have tG := znt (k := G) (by omega)
  obtain ⟨gsn, hs1, hs20, gsk, gcn, hc40, gcd⟩ := hR
  have tsn := znt (k := sn) (by omega)
  have tcn := znt (k := cn) (by omega)
  refine w_load (pc' := 1) (v := .ref 170) (m := 1) (ykc_260 (e := (2, .aload_n kF0, 0)) rfl) rfl rfl ?_
  refine w_alu (pc' := 2) (st' := [.int (Int32.ofInt 0), .ref 170]) (ykc_260 (e := (0, .iconst 0, 0)) rfl) rfl rfl ?_
  refine w_pf (pc' := 5) (ykc_260 (e := (5, .putfield 3, 0)) rfl) rfl rfl (fun ph1041 u1040 => ?_)
  have f0 : zFr [] [(170, 0)] ph ph1041 := zFr_st u1040 (Or.inr (by simp))
  have hS1 := zSh_st u1040 (by decide +kernel) hS
  have hE1 : zMe ph1041 (R, C, rk, sn, sk, cn, cd) := ⟨zMl_F f0 (by simp) (by simp) (by simp) (by simp) hE0.1, zMr_F f0 (by simp) (by simp) (by simp) (by simp) hE0.2.1, hE0.2.2⟩
  have hN1 := zMp_F f0 (by simp) (by simp) (by simp) hN0
  have hv1 := zNr_F f0 (by simp) (by simp) hv
  have hL1 : zMl ph1041 R C rk := hE1.1
  have hR1 : zMr ph1041 sn sk cn cd := hE1.2.1
  refine w_load (pc' := 6) (v := .ref 170) (m := 1) (ykc_260 (e := (2, .aload_n kF0, 0)) rfl) rfl rfl ?_
  refine w_cv (as := [.ref 170]) (r := []) (ykc_260 (e := (6, .invokevirtual 413, 0)) rfl) rfl rfl rfl rfl (zm_free hS1 hL1) (fun v1042 ph1043 hv => ?_)
  obtain ⟨rfl, rfl⟩ := hv
  show zW n D 260 Q 9 [some (.ref 170), none, none] [.long (zFree rk (R * C))] ph1041
  refine w_load (pc' := 10) (v := .ref 170) (m := 1) (ykc_260 (e := (2, .aload_n kF0, 0)) rfl) rfl rfl ?_
  refine w_load (pc' := 11) (v := .ref 170) (m := 1) (ykc_260 (e := (2, .aload_n kF0, 0)) rfl) rfl rfl ?_
  refine w_gf (pc' := 14) (v := .ref 174) (ykc_260 (e := (5, .getfield 41, 0)) rfl) rfl ((u1040.2.1 170 11 (fun q => absurd q.2 (by decide))).trans (zsg hS zs_170_11)) rfl ?_
  refine w_cv (as := [.ref 170, .ref 174]) (r := [.long (zFree rk (R * C))]) (ykc_260 (e := (6, .invokevirtual 417, 0)) rfl) rfl rfl rfl rfl (zm_all hS1 hE1 hN1 (⟨hA, hv1⟩ : ((174 : Nat) = 174 ∨ (174 : Nat) = 175) ∧ zNr ph1041 174 0 v).1 (⟨hA, hv1⟩ : ((174 : Nat) = 174 ∨ (174 : Nat) = 175) ∧ zNr ph1041 174 0 v).2 hO0) (fun v1045 ph1046 hv => ?_)
  obtain ⟨f1044, rfl⟩ := hv
  show zW n D 260 Q 17 [some (.ref 170), none, none] [.long (zAll (R, C, rk, sn, sk, cn, cd) P v), .long (zFree rk (R * C))] ph1046
  refine w_push (pc' := 20) (v := .long (-1 : Int64)) (m := 3) (ykc_260 (e := (1, .ldc2_w 403, 0)) rfl) rfl rfl ?_
  refine w_alu (pc' := 21) (st' := [.long ((zAll (R, C, rk, sn, sk, cn, cd) P v) ^^^ (-1 : Int64)), .long (zFree rk (R * C))]) (ykc_260 (e := (0, .lxor, 0)) rfl) rfl rfl ?_
  refine w_alu (pc' := 22) (st' := [.long ((zFree rk (R * C)) &&& ((zAll (R, C, rk, sn, sk, cn, cd) P v) ^^^ (-1 : Int64)))]) (ykc_260 (e := (0, .land, 0)) rfl) rfl rfl ?_
  refine w_store (pc' := 23) (L' := [some (.ref 170), some (.long ((zFree rk (R * C)) &&& ((zAll (R, C, rk, sn, sk, cn, cd) P v) ^^^ (-1 : Int64)))), none]) (st' := []) (m := 1) (ykc_260 (e := (3, .lstore_n kF1, 0)) rfl) rfl rfl ?_
  rw [hQ]
  exact zTail kc_260 true 1 23 9999 (fun _ => rfl) (Or.inr ⟨rfl, _, rfl⟩) (by decide +kernel) (by decide) (by decide) rfl (by decide +kernel) (fun _ => rfl)
