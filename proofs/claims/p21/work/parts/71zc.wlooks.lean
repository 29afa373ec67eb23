/-! what looks answer, class and reference, by W; printed by wip/z/z3a_looks.py -/
theorem zmlow : ∀ n, n < 50 → ∀ k, k < 64 → zb ((Int64.ofNat 1 <<< ((zn n).toInt64 &&& 63)) - Int64.ofNat 1) k = decide (k < n) := by decide +kernel
theorem zfreeL {rk : Nat → Bool} {n : Nat} (hn : n < 50) : ((Int64.ofNat 1 <<< ((zn n).toInt64 &&& 63)) - Int64.ofNat 1) &&& (zS rk n ^^^ (-1 : Int64)) = zFree rk n := by
  apply zb_ext
  intro k hk
  unfold zFree
  rw [zb_and, zb_xor, zmlow n hn k hk, zS_b (by omega) hk, zS_b (by omega) hk, (show ∀ k, k < 64 → zb (-1 : Int64) k = true by decide +kernel) k hk]
  cases decide (k < n) <;> cases rk k <;> rfl
theorem zc_freeL {ph : pm_H} {R C : Nat} {rk : Nat → Bool} (hS : zSh ph) (hL : zCl ph R C rk) : zM 41 [.ref 5] ph (fun v0 q => ph = q ∧ v0 = some (.long (zFree rk (R * C)))) := by
  obtain ⟨Q, hQ⟩ : ∃ Q : Option Value → pm_H → Prop, Q = (fun v0 q => ph = q ∧ v0 = some (.long (zFree rk (R * C)))) := ⟨_, rfl⟩
  rw [← hQ]
  refine zM_mk fun n D => ?_
  show zW n D 41 Q 0 [some (.ref 5)] [] ph
  have hL0 := hL
  obtain ⟨gR, gC, gN, gK, gA, hR3, hR7, hC3, hC7⟩ := hL
  have hRC := zRC49 hR7 hC7
  have tR := znt (k := R) (by omega)
  have tC := znt (k := C) (by omega)
  have tRC := znt (k := R * C) (by omega)
  refine w_alu (pc' := 1) (st' := [.long (Int64.ofNat kG1)]) (ykc_41 (e := (0, .lconst kG1, 0)) rfl) rfl rfl ?_
  refine w_load (pc' := 2) (v := .ref 5) (m := 1) (ykc_41 (e := (2, .aload_n kF0, 0)) rfl) rfl rfl ?_
  refine w_gf (pc' := 5) (v := .int (zn (R * C))) (ykc_41 (e := (5, .getfield 60, 0)) rfl) rfl gN rfl ?_
  refine w_alu (pc' := 6) (st' := [.long ((Int64.ofNat kG1) <<< ((zn (R * C)).toInt64 &&& 63))]) (ykc_41 (e := (0, .lshl, 0)) rfl) rfl rfl ?_
  refine w_alu (pc' := 7) (st' := [.long (Int64.ofNat kG1), .long ((Int64.ofNat kG1) <<< ((zn (R * C)).toInt64 &&& 63))]) (ykc_41 (e := (0, .lconst kG1, 0)) rfl) rfl rfl ?_
  refine w_alu (pc' := 8) (st' := [.long (((Int64.ofNat kG1) <<< ((zn (R * C)).toInt64 &&& 63)) - (Int64.ofNat kG1))]) (ykc_41 (e := (0, .lsub, 0)) rfl) rfl rfl ?_
  refine w_load (pc' := 9) (v := .ref 5) (m := 1) (ykc_41 (e := (2, .aload_n kF0, 0)) rfl) rfl rfl ?_
  refine w_gf (pc' := 12) (v := .long (zS rk (R * C))) (ykc_41 (e := (5, .getfield 53, 0)) rfl) rfl gK rfl ?_
  refine w_push (pc' := 15) (v := .long (-1 : Int64)) (m := 3) (ykc_41 (e := (1, .ldc2_w 62, 0)) rfl) rfl rfl ?_
  refine w_alu (pc' := 16) (st' := [.long ((zS rk (R * C)) ^^^ (-1 : Int64)), .long (((Int64.ofNat kG1) <<< ((zn (R * C)).toInt64 &&& 63)) - (Int64.ofNat kG1))]) (ykc_41 (e := (0, .lxor, 0)) rfl) rfl rfl ?_
  refine w_alu (pc' := 17) (st' := [.long ((((Int64.ofNat kG1) <<< ((zn (R * C)).toInt64 &&& 63)) - (Int64.ofNat kG1)) &&& ((zS rk (R * C)) ^^^ (-1 : Int64)))]) (ykc_41 (e := (0, .land, 0)) rfl) rfl rfl ?_
  refine w_ret (v := (some (.long ((((Int64.ofNat kG1) <<< ((zn (R * C)).toInt64 &&& 63)) - (Int64.ofNat kG1)) &&& ((zS rk (R * C)) ^^^ (-1 : Int64)))))) (ykc_41 (e := (7, .lreturn, 0)) rfl) (zr_v rfl) ?_
  rw [hQ]
  have hrc : R * C < 50 := by
    have := Nat.mul_le_mul (show R ≤ 7 by omega) (show C ≤ 7 by omega)
    omega
  exact ⟨rfl, by rw [← zfreeL hrc]; rfl⟩
theorem zc_hidX {ph : pm_H} {E : zEn} {F P G : Nat} {v : Nat → Nat} (hS : zSh ph) (hE : zCe ph E F) (ht : zCt ph 25 P G v) (hO : zOk E.1 E.2.1 P G v) (hr : zc ph 10 1 = some (.ref F)) (hc : zCc ph E.1 E.2.1 E.2.2.1) : zM 149 [.ref 0] ph (fun v0 _ => v0 = some (.long (zFree E.2.2.1 (E.1 * E.2.1) &&& (zAll E P v ^^^ (-1 : Int64))))) := by
  obtain ⟨Q, hQ⟩ : ∃ Q : Option Value → pm_H → Prop, Q = (fun v0 _ => v0 = some (.long (zFree E.2.2.1 (E.1 * E.2.1) &&& (zAll E P v ^^^ (-1 : Int64))))) := ⟨_, rfl⟩
  rw [← hQ]
  refine zM_mk fun n D => ?_
  show zW n D 149 Q 0 [some (.ref 0), none, none] [] ph
  obtain ⟨R, C, rk, sn, sk, cn, cd⟩ := E
  have hL0 : zCl ph R C rk := hE.1
  have hi0 : zCi ph sn sk := hE.2.1
  have hF : F = 11 ∨ F = 16 := hE.2.2.2
  have hE0 : zCe ph (R, C, rk, sn, sk, cn, cd) F := hE
  have hO0 : zOk R C P G v := hO
  have hL := hL0
  have hs := ht.1.2
  have hd := ht.2
  have h25 := ht.1.1
  obtain ⟨gR, gC, gN, gK, gA, hR3, hR7, hC3, hC7⟩ := hL
  have hRC := zRC49 hR7 hC7
  have tR := znt (k := R) (by omega)
  have tC := znt (k := C) (by omega)
  have tRC := znt (k := R * C) (by omega)
  have hd0 := hd
  have hs0 := hs
  obtain ⟨r3, r4, r5, r6, r7, l1, l2, l3, l4, l5⟩ := hs
  obtain ⟨gP, hP8, gG, hG8, gH, gv, gw⟩ := hd
  have tP := znt (k := P) (by omega)
  have tG := znt (k := G) (by omega)
  have h40 := hO0.2.2
  have t40 := znt (k := v 40) (by omega)
  have hc0 := hc
  refine w_load (pc' := 1) (v := .ref 0) (m := 1) (ykc_149 (e := (2, .aload_n kF0, 0)) rfl) rfl rfl ?_
  refine w_gf (pc' := 4) (v := .ref 5) (ykc_149 (e := (5, .getfield 26, 0)) rfl) rfl (zsg hS zs_0_2) rfl ?_
  refine w_cv (as := [.ref 5]) (r := []) (ykc_149 (e := (6, .invokevirtual 317, 0)) rfl) rfl rfl rfl rfl (zc_freeL hS hL0) (fun v1034 ph1035 hv => ?_)
  obtain ⟨rfl, rfl⟩ := hv
  show zW n D 149 Q 7 [some (.ref 0), none, none] [.long (zFree rk (R * C))] ph
  refine w_load (pc' := 8) (v := .ref 0) (m := 1) (ykc_149 (e := (2, .aload_n kF0, 0)) rfl) rfl rfl ?_
  refine w_gf (pc' := 11) (v := .ref 10) (ykc_149 (e := (5, .getfield 35, 0)) rfl) rfl (zsg hS zs_0_3) rfl ?_
  refine w_load (pc' := 12) (v := .ref 0) (m := 1) (ykc_149 (e := (2, .aload_n kF0, 0)) rfl) rfl rfl ?_
  refine w_gf (pc' := 15) (v := .ref 25) (ykc_149 (e := (5, .getfield 42, 0)) rfl) rfl (zsg hS zs_0_4) rfl ?_
  refine w_cv (as := [.ref 10, .ref 25]) (r := [.long (zFree rk (R * C))]) (ykc_149 (e := (6, .invokevirtual 208, 0)) rfl) rfl rfl rfl rfl (zc_lookR hS hE0 ht hO0 hr hc0) (fun v1038 ph1039 hv => ?_)
  obtain ⟨f1036, hc1037, hvw, rfl⟩ := hv
  show zW n D 149 Q 18 [some (.ref 0), none, none] [.long (zAll (R, C, rk, sn, sk, cn, cd) P v), .long (zFree rk (R * C))] ph1039
  refine w_push (pc' := 21) (v := .long (-1 : Int64)) (m := 3) (ykc_149 (e := (1, .ldc2_w 94, 0)) rfl) rfl rfl ?_
  refine w_alu (pc' := 22) (st' := [.long ((zAll (R, C, rk, sn, sk, cn, cd) P v) ^^^ (-1 : Int64)), .long (zFree rk (R * C))]) (ykc_149 (e := (0, .lxor, 0)) rfl) rfl rfl ?_
  refine w_alu (pc' := 23) (st' := [.long ((zFree rk (R * C)) &&& ((zAll (R, C, rk, sn, sk, cn, cd) P v) ^^^ (-1 : Int64)))]) (ykc_149 (e := (0, .land, 0)) rfl) rfl rfl ?_
  refine w_store (pc' := 24) (L' := [some (.ref 0), some (.long ((zFree rk (R * C)) &&& ((zAll (R, C, rk, sn, sk, cn, cd) P v) ^^^ (-1 : Int64)))), none]) (st' := []) (m := 1) (ykc_149 (e := (3, .lstore_n kF1, 0)) rfl) rfl rfl ?_
  rw [hQ]
  exact zTail kc_149 true 1 24 9999 (fun _ => rfl) (Or.inr ⟨rfl, _, rfl⟩) (by decide +kernel) (by decide) (by decide) rfl (by decide +kernel) (fun _ => rfl)
theorem zm_hidX {ph : pm_H} {E : zEn} {P G : Nat} {v : Nat → Nat} (hS : zSh ph) (hE : zMe ph E) (hN : zMp ph P G) (hv : zNr ph 174 0 v) (hO : zOk E.1 E.2.1 P G v) : zM 260 [.ref 170] ph (fun v0 _ => v0 = some (.long (zFree E.2.2.1 (E.1 * E.2.1) &&& (zAll E P v ^^^ (-1 : Int64))))) := by
  obtain ⟨Q, hQ⟩ : ∃ Q : Option Value → pm_H → Prop, Q = (fun v0 _ => v0 = some (.long (zFree E.2.2.1 (E.1 * E.2.1) &&& (zAll E P v ^^^ (-1 : Int64))))) := ⟨_, rfl⟩
  rw [← hQ]
  refine zM_mk fun n D => ?_
  show zW n D 260 Q 0 [some (.ref 170), none, none] [] ph
  have c_0 : (Int32.ofInt 0).toInt = 0 := by decide
  have hA : (174 : Nat) = 174 ∨ (174 : Nat) = 175 := Or.inl rfl
  obtain ⟨R, C, rk, sn, sk, cn, cd⟩ := E
  have hL0 : zMl ph R C rk := hE.1
  have hR0 : zMr ph sn sk cn cd := hE.2.1
  have hcg : zcg cn cd := hE.2.2
  have hE0 : zMe ph (R, C, rk, sn, sk, cn, cd) := hE
  have hO0 : zOk R C P G v := hO
  have hN0 := hN
  have hL := hL0
  have hR := hR0
  obtain ⟨gR, gC, gK, hR3, hR7, hC3, hC7⟩ := hL
  have hRC := zRC49 hR7 hC7
  have tR := znt (k := R) (by omega)
  have tC := znt (k := C) (by omega)
  obtain ⟨gP, hP8, gG, hG8⟩ := hN
  have tP := znt (k := P) (by omega)
  have tG := znt (k := G) (by omega)
  obtain ⟨gsn, hs1, hs20, gsk, gcn, hc40, gcd⟩ := hR
  have tsn := znt (k := sn) (by omega)
  have tcn := znt (k := cn) (by omega)
  refine w_load (pc' := 1) (v := .ref 170) (m := 1) (ykc_260 (e := (2, .aload_n kF0, 0)) rfl) rfl rfl ?_
  refine w_alu (pc' := 2) (st' := [.int (Int32.ofInt 0), .ref 170]) (ykc_260 (e := (0, .iconst 0, 0)) rfl) rfl rfl ?_
  refine w_pf (pc' := 5) (ykc_260 (e := (5, .putfield 3, 0)) rfl) rfl rfl (fun ph1041 u1040 => ?_)
  have f0 : zFr [] [(170, 0)] ph ph1041 := zFr_st u1040 (Or.inr (by simp))
  have hS1 := zSh_st u1040 (by decide +kernel) hS
  have hE1 : zMe ph1041 (R, C, rk, sn, sk, cn, cd) := ⟨zMl_F f0 (by simp) (by simp) (by simp) (by simp) hE0.1, zMr_F f0 (by simp) (by simp) (by simp) (by simp) hE0.2.1, hE0.2.2⟩
  have hN1 := zMp_F f0 (by simp) (by simp) (by simp) hN0
  have hv1 := zNr_F f0 (by simp) (by simp) hv
  have hL1 : zMl ph1041 R C rk := hE1.1
  have hR1 : zMr ph1041 sn sk cn cd := hE1.2.1
  refine w_load (pc' := 6) (v := .ref 170) (m := 1) (ykc_260 (e := (2, .aload_n kF0, 0)) rfl) rfl rfl ?_
  refine w_cv (as := [.ref 170]) (r := []) (ykc_260 (e := (6, .invokevirtual 413, 0)) rfl) rfl rfl rfl rfl (zm_free hS1 hL1) (fun v1042 ph1043 hv => ?_)
  obtain ⟨rfl, rfl⟩ := hv
  show zW n D 260 Q 9 [some (.ref 170), none, none] [.long (zFree rk (R * C))] ph1041
  refine w_load (pc' := 10) (v := .ref 170) (m := 1) (ykc_260 (e := (2, .aload_n kF0, 0)) rfl) rfl rfl ?_
  refine w_load (pc' := 11) (v := .ref 170) (m := 1) (ykc_260 (e := (2, .aload_n kF0, 0)) rfl) rfl rfl ?_
  refine w_gf (pc' := 14) (v := .ref 174) (ykc_260 (e := (5, .getfield 41, 0)) rfl) rfl ((u1040.2.1 170 11 (fun q => absurd q.2 (by decide))).trans (zsg hS zs_170_11)) rfl ?_
  refine w_cv (as := [.ref 170, .ref 174]) (r := [.long (zFree rk (R * C))]) (ykc_260 (e := (6, .invokevirtual 417, 0)) rfl) rfl rfl rfl rfl (zm_all hS1 hE1 hN1 (⟨hA, hv1⟩ : ((174 : Nat) = 174 ∨ (174 : Nat) = 175) ∧ zNr ph1041 174 0 v).1 (⟨hA, hv1⟩ : ((174 : Nat) = 174 ∨ (174 : Nat) = 175) ∧ zNr ph1041 174 0 v).2 hO0) (fun v1045 ph1046 hv => ?_)
  obtain ⟨f1044, rfl⟩ := hv
  show zW n D 260 Q 17 [some (.ref 170), none, none] [.long (zAll (R, C, rk, sn, sk, cn, cd) P v), .long (zFree rk (R * C))] ph1046
  refine w_push (pc' := 20) (v := .long (-1 : Int64)) (m := 3) (ykc_260 (e := (1, .ldc2_w 403, 0)) rfl) rfl rfl ?_
  refine w_alu (pc' := 21) (st' := [.long ((zAll (R, C, rk, sn, sk, cn, cd) P v) ^^^ (-1 : Int64)), .long (zFree rk (R * C))]) (ykc_260 (e := (0, .lxor, 0)) rfl) rfl rfl ?_
  refine w_alu (pc' := 22) (st' := [.long ((zFree rk (R * C)) &&& ((zAll (R, C, rk, sn, sk, cn, cd) P v) ^^^ (-1 : Int64)))]) (ykc_260 (e := (0, .land, 0)) rfl) rfl rfl ?_
  refine w_store (pc' := 23) (L' := [some (.ref 170), some (.long ((zFree rk (R * C)) &&& ((zAll (R, C, rk, sn, sk, cn, cd) P v) ^^^ (-1 : Int64)))), none]) (st' := []) (m := 1) (ykc_260 (e := (3, .lstore_n kF1, 0)) rfl) rfl rfl ?_
  rw [hQ]
  exact zTail kc_260 true 1 23 9999 (fun _ => rfl) (Or.inr ⟨rfl, _, rfl⟩) (by decide +kernel) (by decide) (by decide) rfl (by decide +kernel) (fun _ => rfl)
