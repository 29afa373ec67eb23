/-! another RULE tried: class and reference, by W; printed by wip/z/z2b_law.py -/
/-- the codes that were read, in their order -/
def zCd (Cs : List Nat) (i : Nat) : Nat := Cs.reverse.getD i 0
theorem zFc_cd {q : pm_H} {F : Nat} {Cs : List Nat} (h : zFc q F Cs) : ∀ i, i < Cs.length → zc q (F + 1) i = some (.int (zcc (zCd Cs i))) := fun i hi => by
  have e1 : Cs[Cs.length - 1 - i]? = some (zCd Cs i) := by
    show _ = some (Cs.reverse.getD i 0)
    rw [List.getD_eq_getElem?_getD, List.getElem?_reverse hi, List.getElem?_eq_getElem (by omega)]
    rfl
  have h1 := (h.2 _ _ e1).1
  rwa [show Cs.length - 1 - (Cs.length - 1 - i) = i by omega] at h1
/-- what the class's law may write -/
def zLw (F2 : Nat) (p q : pm_H) : Prop := zFr [F2 + 1, F2 + 2, F2 + 3, 4, 8, 9, 15, 20, 22, 23, 24] [(F2, 1), (F2, 3), (F2, 5), (F2, 6), (F2, 7), (1, 1), (5, 4), (3, 1)] p q
theorem zLw_f {F2 : Nat} {p q : pm_H} (f : zFr [F2 + 1, F2 + 2, F2 + 3] [(F2, 1), (F2, 3), (F2, 5), (F2, 6), (F2, 7), (1, 1)] p q) : zLw F2 p q := zFr_mono f (by simp) (by simp)
theorem zLw_x {F2 : Nat} {p q : pm_H} (f : zCx p q) : zLw F2 p q := zFr_mono f (by simp) (by simp)
theorem zLw_n {F2 : Nat} {p q : pm_H} (f : zFr [4] [(3, 1)] p q) : zLw F2 p q := zFr_mono f (by simp) (by simp)
theorem zf_S {F2 : Nat} (h2 : F2 = 11 ∨ F2 = 16) {p q : pm_H} (f : zFr [F2 + 1, F2 + 2, F2 + 3] [(F2, 1), (F2, 3), (F2, 5), (F2, 6), (F2, 7), (1, 1)] p q) (h : zSh p) : zSh q := by
  rcases h2 with e | e <;> subst e <;> exact zSh_F f (by decide +kernel) h
theorem zf_e {F F2 : Nat} (h2 : (F = 11 ∧ F2 = 16) ∨ (F = 16 ∧ F2 = 11)) {p q : pm_H} {E : zEn} (f : zFr [F2 + 1, F2 + 2, F2 + 3] [(F2, 1), (F2, 3), (F2, 5), (F2, 6), (F2, 7), (1, 1)] p q) (h : zCe p E F) : zCe q E F := by
  refine ⟨zCl_F f (by simp <;> omega) (by intro i hi; simp <;> omega) (by simp <;> omega) h.1, zCi_F f (by simp <;> omega) (by simp <;> omega) h.2.1, zFm_F f (by simp <;> omega) (by simp <;> omega) h.2.2.1, h.2.2.2⟩
theorem zf_t {F2 P G : Nat} {v : Nat → Nat} (h2 : F2 = 11 ∨ F2 = 16) {p q : pm_H} (f : zFr [F2 + 1, F2 + 2, F2 + 3] [(F2, 1), (F2, 3), (F2, 5), (F2, 6), (F2, 7), (1, 1)] p q) (h : zCt p 25 P G v) : zCt q 25 P G v := ⟨⟨h.1.1, zSs_F f (by simp <;> omega) (by simp <;> omega) h.1.2⟩, zSd_F f (by intro i hi; simp <;> omega) (by intro j i hj; simp <;> omega) h.2⟩
theorem zf_c {F2 R C : Nat} {rk : Nat → Bool} (h2 : F2 = 11 ∨ F2 = 16) {p q : pm_H} (f : zFr [F2 + 1, F2 + 2, F2 + 3] [(F2, 1), (F2, 3), (F2, 5), (F2, 6), (F2, 7), (1, 1)] p q) (h : zCc p R C rk) : zCc q R C rk := zCc_F f (by simp <;> omega) (by simp <;> omega) (by simp <;> omega) h
theorem zc_law {ph : pm_H} {R C sn cn F F2 P G ln : Nat} {rk : Nat → Bool} {sk cd v t : Nat → Nat} {cm : Nat → Bool} (hS : zSh ph) (hE : zCe ph (R, C, rk, sn, sk, cn, cd) F) (ht : zCt ph 25 P G v) (hO : zOk R C P G v) (hr : zc ph 10 1 = some (.ref F)) (ho : zc ph 10 2 = some (.ref F2)) (h2 : (F = 11 ∧ F2 = 16) ∨ (F = 16 ∧ F2 = 11)) (hc : zCc ph R C rk) (hT : zTc ph ln t) (hp : zFp ph F2) (hb : zFb ph F2 cm) (hg : ∀ (Cs : List Nat), zOut ln t ([], [], zub cm 0 false, 0, 0, true) (-1) Cs → zcg Cs.length (zCd Cs) ∧ 1 ≤ Cs.length ∧ Cs.length ≤ 40) : zM 173 [.ref 0] ph (fun v0 q => zLw F2 ph q ∧ zCc q R C rk ∧ ∃ (z y : Int32) (Cs : List Nat), zOut ln t ([], [], zub cm 0 false, 0, 0, true) z.toInt Cs ∧ v0 = some (.int y) ∧ ((0 ≤ z.toInt ∧ y.toInt = -10000 - z.toInt) ∨ (z.toInt = -1 ∧ y = zpcl (zAll (R, C, rk, sn, sk, Cs.length, zCd Cs) P v) - zpcl (zAll (R, C, rk, sn, sk, cn, cd) P v)))) := by
  obtain ⟨Q, hQ⟩ : ∃ Q : Option Value → pm_H → Prop, Q = (fun v0 q => zLw F2 ph q ∧ zCc q R C rk ∧ ∃ (z y : Int32) (Cs : List Nat), zOut ln t ([], [], zub cm 0 false, 0, 0, true) z.toInt Cs ∧ v0 = some (.int y) ∧ ((0 ≤ z.toInt ∧ y.toInt = -10000 - z.toInt) ∨ (z.toInt = -1 ∧ y = zpcl (zAll (R, C, rk, sn, sk, Cs.length, zCd Cs) P v) - zpcl (zAll (R, C, rk, sn, sk, cn, cd) P v)))) := ⟨_, rfl⟩
  rw [← hQ]
  refine zM_mk fun n D => ?_
  show zW n D 173 Q 0 [some (.ref 0), none, none, none] [] ph
  have c_0 : ((Int16.ofInt (-10000)).toInt32).toInt = -10000 := by decide
  have hF2 : F2 = 11 ∨ F2 = 16 := by omega
  refine w_load (pc' := 1) (v := .ref 0) (m := 1) (ykc_173 (e := (2, .aload_n kF0, 0)) rfl) rfl rfl ?_
  refine w_gf (pc' := 4) (v := .ref 10) (ykc_173 (e := (5, .getfield 35, 0)) rfl) rfl (zsg hS zs_0_3) rfl ?_
  refine w_cv (as := [.ref 10]) (r := []) (ykc_173 (e := (6, .invokevirtual 157, 0)) rfl) rfl rfl rfl rfl (zc_other ho) (fun v827 ph828 hv => ?_)
  obtain ⟨rfl, rfl⟩ := hv
  show zW n D 173 Q 7 [some (.ref 0), none, none, none] [.ref F2] ph
  refine w_load (pc' := 8) (v := .ref 0) (m := 1) (ykc_173 (e := (2, .aload_n kF0, 0)) rfl) rfl rfl ?_
  refine w_gf (pc' := 11) (v := .ref 1) (ykc_173 (e := (5, .getfield 10, 0)) rfl) rfl (zsg hS zs_0_0) rfl ?_
  refine w_cv (as := [.ref F2, .ref 1]) (r := []) (ykc_173 (e := (6, .invokevirtual 161, 0)) rfl) rfl rfl rfl rfl (zc_fread hS hF2 hT hp hb) (fun v829 ph830 hv => ?_)
  rcases hv with ⟨f1, hcm9, z9, Cs, rfl, ho9, hc9⟩
  · have hzr : z9.toInt = -1 ∨ 0 ≤ z9.toInt := by
      rcases ho9 with ⟨-, q, -⟩ | ⟨-, -, q, -⟩ | ⟨-, p9, s9, -, -, -, q, -⟩ <;> omega
    have hz40 : z9.toInt ≤ 80 := by
      rcases ho9 with ⟨-, q, -⟩ | ⟨-, -, q, -⟩ | ⟨-, p9, s9, q2, q3, -, q, -⟩ <;> omega
    show zW n D 173 Q 14 [some (.ref 0), none, none, none] [.int z9] ph830
    refine w_store (pc' := 15) (L' := [some (.ref 0), some (.int z9), none, none]) (st' := []) (m := 1) (ykc_173 (e := (3, .istore_n kF1, 0)) rfl) rfl rfl ?_
    refine w_load (pc' := 16) (v := .ref 0) (m := 1) (ykc_173 (e := (2, .aload_n kF0, 0)) rfl) rfl rfl ?_
    refine w_gf (pc' := 19) (v := .ref 1) (ykc_173 (e := (5, .getfield 10, 0)) rfl) rfl ((f1.1 0 0 (by simp <;> omega) (by simp <;> omega)).trans (zsg hS zs_0_0)) rfl ?_
    refine w_cv (as := [.ref 1]) (r := []) (ykc_173 (e := (6, .invokevirtual 119, 0)) rfl) rfl rfl rfl rfl (zc_tclear) (fun v831 ph832 hv => ?_)
    obtain ⟨rfl, f2, h11⟩ := hv
    have f3 : zFr [F2 + 1, F2 + 2, F2 + 3] [(F2, 1), (F2, 3), (F2, 5), (F2, 6), (F2, 7), (1, 1)] ph ph832 := zFr_trans (zFr_mono f1 (by simp) (by simp)) (zFr_mono f2 (by simp) (by simp))
    show zW n D 173 Q 22 [some (.ref 0), some (.int z9), none, none] [] ph832
    refine w_load (pc' := 23) (v := .int z9) (m := 1) (ykc_173 (e := (2, .iload_n kF1, 0)) rfl) rfl rfl ?_
    refine w_zlt (ykc_173 (e := (4, .ifCond .lt 9, 32)) rfl) rfl (fun b833 => ?_) (fun b833 => ?_)
    · refine w_load (pc' := 33) (v := .ref 0) (m := 1) (ykc_173 (e := (2, .aload_n kF0, 0)) rfl) rfl rfl ?_
      refine w_gf (pc' := 36) (v := .ref 10) (ykc_173 (e := (5, .getfield 35, 0)) rfl) rfl ((f2.1 0 3 (by decide) (by decide)).trans ((f1.1 0 3 (by simp <;> omega) (by simp <;> omega)).trans (zsg hS zs_0_3))) rfl ?_
      refine w_load (pc' := 37) (v := .ref 0) (m := 1) (ykc_173 (e := (2, .aload_n kF0, 0)) rfl) rfl rfl ?_
      refine w_gf (pc' := 40) (v := .ref 10) (ykc_173 (e := (5, .getfield 35, 0)) rfl) rfl ((f2.1 0 3 (by decide) (by decide)).trans ((f1.1 0 3 (by simp <;> omega) (by simp <;> omega)).trans (zsg hS zs_0_3))) rfl ?_
      refine w_cv (as := [.ref 10]) (r := [.ref 10]) (ykc_173 (e := (6, .invokevirtual 157, 0)) rfl) rfl rfl rfl rfl (zc_other ((f3.1 10 2 (by simp <;> omega) (by simp <;> omega)).trans ho)) (fun v834 ph835 hv => ?_)
      obtain ⟨rfl, rfl⟩ := hv
      show zW n D 173 Q 43 [some (.ref 0), some (.int z9), none, none] [.ref F2, .ref 10] ph832
      refine w_load (pc' := 44) (v := .ref 0) (m := 1) (ykc_173 (e := (2, .aload_n kF0, 0)) rfl) rfl rfl ?_
      refine w_gf (pc' := 47) (v := .ref 25) (ykc_173 (e := (5, .getfield 42, 0)) rfl) rfl ((f2.1 0 4 (by decide) (by decide)).trans ((f1.1 0 4 (by simp <;> omega) (by simp <;> omega)).trans (zsg hS zs_0_4))) rfl ?_
      have hz1 : z9.toInt = -1 := by omega
      have hg9 := hg Cs (by rw [← hz1]; exact ho9)
      have hS3 := zf_S hF2 f3 hS
      have hE3 := zf_e h2 f3 hE
      have ht3 := zf_t hF2 f3 ht
      have hc3 := zf_c hF2 f3 hc
      have hfc := zFc_F f2 (by simp) (by simp <;> omega) (hc9 hz1)
      have hE4 : zCe ph832 (R, C, rk, sn, sk, Cs.length, zCd Cs) F2 := ⟨hE3.1, hE3.2.1, ⟨by rcases hF2 with e | e <;> subst e <;> first | exact zsg hS3 zs_11_0 | exact zsg hS3 zs_16_0, by rcases hF2 with e | e <;> subst e <;> first | exact zsg hS3 zs_11_8 | exact zsg hS3 zs_16_8, hfc.1, hg9.2.1, hg9.2.2, zFc_cd hfc, hg9.1⟩, hF2⟩
      refine w_cv (as := [.ref 10, .ref F2, .ref 25]) (r := []) (ykc_173 (e := (6, .invokevirtual 390, 0)) rfl) rfl rfl rfl rfl (zc_look hS3 hE4 ht3 hO hc3) (fun v836 ph837 hv => ?_)
      obtain ⟨f4, hc4, -, rfl⟩ := hv
      show zW n D 173 Q 50 [some (.ref 0), some (.int z9), none, none] [.long (zAll (R, C, rk, sn, sk, Cs.length, zCd Cs) P v)] ph837
      refine w_cs (as := [.long (zAll (R, C, rk, sn, sk, Cs.length, zCd Cs) P v)]) (r := []) (ykc_173 (e := (6, .invokestatic 305, 0)) rfl) rfl rfl rfl rfl (zj_pcl) (fun v838 ph839 hv => ?_)
      obtain ⟨rfl, rfl⟩ := hv
      show zW n D 173 Q 53 [some (.ref 0), some (.int z9), none, none] [.int (zpcl (zAll (R, C, rk, sn, sk, Cs.length, zCd Cs) P v))] ph837
      refine w_store (pc' := 54) (L' := [some (.ref 0), some (.int z9), some (.int (zpcl (zAll (R, C, rk, sn, sk, Cs.length, zCd Cs) P v))), none]) (st' := []) (m := 1) (ykc_173 (e := (3, .istore_n kF2, 0)) rfl) rfl rfl ?_
      refine w_load (pc' := 55) (v := .ref 0) (m := 1) (ykc_173 (e := (2, .aload_n kF0, 0)) rfl) rfl rfl ?_
      refine w_gf (pc' := 58) (v := .ref 10) (ykc_173 (e := (5, .getfield 35, 0)) rfl) rfl ((f4.1 0 3 (by decide) (by decide)).trans ((f2.1 0 3 (by decide) (by decide)).trans ((f1.1 0 3 (by simp <;> omega) (by simp <;> omega)).trans (zsg hS zs_0_3)))) rfl ?_
      refine w_load (pc' := 59) (v := .ref 0) (m := 1) (ykc_173 (e := (2, .aload_n kF0, 0)) rfl) rfl rfl ?_
      refine w_gf (pc' := 62) (v := .ref 25) (ykc_173 (e := (5, .getfield 42, 0)) rfl) rfl ((f4.1 0 4 (by decide) (by decide)).trans ((f2.1 0 4 (by decide) (by decide)).trans ((f1.1 0 4 (by simp <;> omega) (by simp <;> omega)).trans (zsg hS zs_0_4)))) rfl ?_
      have hS4 := zCx_S f4 hS3
      have hr4 : zc ph837 10 1 = some (.ref F) := (f4.1 10 1 (by decide) (by decide)).trans ((f3.1 10 1 (by simp <;> omega) (by simp <;> omega)).trans hr)
      refine w_cv (as := [.ref 10, .ref 25]) (r := []) (ykc_173 (e := (6, .invokevirtual 208, 0)) rfl) rfl rfl rfl rfl (zc_lookR hS4 (zCx_e f4 hE3) (zCx_t f4 ht3) hO hr4 hc4) (fun v840 ph841 hv => ?_)
      obtain ⟨f5, hc5, -, rfl⟩ := hv
      have hS5 := zCx_S f5 hS4
      show zW n D 173 Q 65 [some (.ref 0), some (.int z9), some (.int (zpcl (zAll (R, C, rk, sn, sk, Cs.length, zCd Cs) P v))), none] [.long (zAll (R, C, rk, sn, sk, cn, cd) P v)] ph841
      refine w_cs (as := [.long (zAll (R, C, rk, sn, sk, cn, cd) P v)]) (r := []) (ykc_173 (e := (6, .invokestatic 305, 0)) rfl) rfl rfl rfl rfl (zj_pcl) (fun v842 ph843 hv => ?_)
      obtain ⟨rfl, rfl⟩ := hv
      show zW n D 173 Q 68 [some (.ref 0), some (.int z9), some (.int (zpcl (zAll (R, C, rk, sn, sk, Cs.length, zCd Cs) P v))), none] [.int (zpcl (zAll (R, C, rk, sn, sk, cn, cd) P v))] ph841
      refine w_store (pc' := 69) (L' := [some (.ref 0), some (.int z9), some (.int (zpcl (zAll (R, C, rk, sn, sk, Cs.length, zCd Cs) P v))), some (.int (zpcl (zAll (R, C, rk, sn, sk, cn, cd) P v)))]) (st' := []) (m := 1) (ykc_173 (e := (3, .istore_n kF3, 0)) rfl) rfl rfl ?_
      refine w_load (pc' := 70) (v := .ref 0) (m := 1) (ykc_173 (e := (2, .aload_n kF0, 0)) rfl) rfl rfl ?_
      refine w_gf (pc' := 73) (v := .ref 3) (ykc_173 (e := (5, .getfield 19, 0)) rfl) rfl ((f5.1 0 1 (by decide) (by decide)).trans ((f4.1 0 1 (by decide) (by decide)).trans ((f2.1 0 1 (by decide) (by decide)).trans ((f1.1 0 1 (by simp <;> omega) (by simp <;> omega)).trans (zsg hS zs_0_1))))) rfl ?_
      refine w_cv (as := [.ref 3]) (r := []) (ykc_173 (e := (6, .invokevirtual 245, 0)) rfl) rfl rfl rfl rfl (zc_anew) (fun v844 ph845 hv => ?_)
      obtain ⟨rfl, f8, hn8⟩ := hv
      show zW n D 173 Q 76 [some (.ref 0), some (.int z9), some (.int (zpcl (zAll (R, C, rk, sn, sk, Cs.length, zCd Cs) P v))), some (.int (zpcl (zAll (R, C, rk, sn, sk, cn, cd) P v)))] [.ref 3] ph845
      refine w_load (pc' := 77) (v := .int (zpcl (zAll (R, C, rk, sn, sk, Cs.length, zCd Cs) P v))) (m := 1) (ykc_173 (e := (2, .iload_n kF2, 0)) rfl) rfl rfl ?_
      refine w_alu (pc' := 78) (st' := [.long ((zpcl (zAll (R, C, rk, sn, sk, Cs.length, zCd Cs) P v)).toInt64), .ref 3]) (ykc_173 (e := (0, .i2l, 0)) rfl) rfl rfl ?_
      refine w_cv (as := [.ref 3, .long ((zpcl (zAll (R, C, rk, sn, sk, Cs.length, zCd Cs) P v)).toInt64)]) (r := []) (ykc_173 (e := (6, .invokevirtual 252, 0)) rfl) rfl rfl rfl rfl (zc_add (k := 0) (x := (zpcl (zAll (R, C, rk, sn, sk, Cs.length, zCd Cs) P v)).toInt64) (zSh_F f8 (by decide +kernel) hS5) hn8 (by decide)) (fun v846 ph847 hv => ?_)
      obtain ⟨rfl, f10, hn10⟩ := hv
      show zW n D 173 Q 81 [some (.ref 0), some (.int z9), some (.int (zpcl (zAll (R, C, rk, sn, sk, Cs.length, zCd Cs) P v))), some (.int (zpcl (zAll (R, C, rk, sn, sk, cn, cd) P v)))] [.ref 3] ph847
      refine w_load (pc' := 82) (v := .int (zpcl (zAll (R, C, rk, sn, sk, cn, cd) P v))) (m := 1) (ykc_173 (e := (2, .iload_n kF3, 0)) rfl) rfl rfl ?_
      refine w_alu (pc' := 83) (st' := [.long ((zpcl (zAll (R, C, rk, sn, sk, cn, cd) P v)).toInt64), .ref 3]) (ykc_173 (e := (0, .i2l, 0)) rfl) rfl rfl ?_
      refine w_cv (as := [.ref 3, .long ((zpcl (zAll (R, C, rk, sn, sk, cn, cd) P v)).toInt64)]) (r := []) (ykc_173 (e := (6, .invokevirtual 252, 0)) rfl) rfl rfl rfl rfl (zc_add (k := 1) (x := (zpcl (zAll (R, C, rk, sn, sk, cn, cd) P v)).toInt64) (zSh_F f10 (by decide +kernel) (zSh_F f8 (by decide +kernel) hS5)) hn10 (by decide)) (fun v848 ph849 hv => ?_)
      obtain ⟨rfl, f11, hn11⟩ := hv
      show zW n D 173 Q 86 [some (.ref 0), some (.int z9), some (.int (zpcl (zAll (R, C, rk, sn, sk, Cs.length, zCd Cs) P v))), some (.int (zpcl (zAll (R, C, rk, sn, sk, cn, cd) P v)))] [.ref 3] ph849
      refine w_alu (pc' := 87) (st' := []) (ykc_173 (e := (0, .pop, 0)) rfl) rfl rfl ?_
      refine w_load (pc' := 88) (v := .int (zpcl (zAll (R, C, rk, sn, sk, Cs.length, zCd Cs) P v))) (m := 1) (ykc_173 (e := (2, .iload_n kF2, 0)) rfl) rfl rfl ?_
      refine w_load (pc' := 89) (v := .int (zpcl (zAll (R, C, rk, sn, sk, cn, cd) P v))) (m := 1) (ykc_173 (e := (2, .iload_n kF3, 0)) rfl) rfl rfl ?_
      refine w_alu (pc' := 90) (st' := [.int ((zpcl (zAll (R, C, rk, sn, sk, Cs.length, zCd Cs) P v)) - (zpcl (zAll (R, C, rk, sn, sk, cn, cd) P v)))]) (ykc_173 (e := (0, .isub, 0)) rfl) rfl rfl ?_
      refine w_ret (v := (some (.int ((zpcl (zAll (R, C, rk, sn, sk, Cs.length, zCd Cs) P v)) - (zpcl (zAll (R, C, rk, sn, sk, cn, cd) P v)))))) (ykc_173 (e := (7, .ireturn, 0)) rfl) (zr_v rfl) ?_
      rw [hQ]
      exact ⟨zFr_trans (zLw_f f3) (zFr_trans (zLw_x f4) (zFr_trans (zLw_x f5) (zFr_trans (zLw_n f8) (zFr_trans (zLw_n f10) (zLw_n f11))))), zCc_F f11 (by simp) (by simp) (by simp) (zCc_F f10 (by simp) (by simp) (by simp) (zCc_F f8 (by simp) (by simp) (by simp) hc5)), z9, _, Cs, ho9, rfl, Or.inr ⟨hz1, rfl⟩⟩
    · refine w_push (pc' := 29) (v := .int ((Int16.ofInt (-10000)).toInt32)) (m := 3) (ykc_173 (e := (1, .sipush (-10000), 0)) rfl) rfl rfl ?_
      refine w_load (pc' := 30) (v := .int z9) (m := 1) (ykc_173 (e := (2, .iload_n kF1, 0)) rfl) rfl rfl ?_
      obtain ⟨z850, e_z850, h_z850⟩ : ∃ zq : Int32, ((Int16.ofInt (-10000)).toInt32) - z9 = zq ∧ zq.toInt = (-10000 : Int) - z9.toInt := ⟨_, rfl, (by have := ti_sub (x := ((Int16.ofInt (-10000)).toInt32)) (y := z9) (by omega) (by omega); omega)⟩
      refine w_alu (pc' := 31) (st' := [.int z850]) (ykc_173 (e := (0, .isub, 0)) rfl) (by rw [← e_z850]; rfl) rfl ?_
      refine w_ret (v := (some (.int z850))) (ykc_173 (e := (7, .ireturn, 0)) rfl) (zr_v rfl) ?_
      rw [hQ]
      exact ⟨zLw_f f3, zf_c hF2 f3 hc, z9, _, Cs, ho9, rfl, Or.inl ⟨by omega, by omega⟩⟩
  
/-- what the reference's law writes: till it lays the codes; in all -/
def zFA (p q : pm_H) : Prop := zFr [180, 181, 182, 197] [(170, 0), (170, 14), (170, 15), (170, 16), (170, 17), (170, 24)] p q
def zFL (p q : pm_H) : Prop := zFr [171, 179, 180, 181, 182, 197] [(170, 0), (170, 1), (170, 14), (170, 15), (170, 16), (170, 17), (170, 23), (170, 24)] p q
theorem zFA_L {p q : pm_H} (f : zFA p q) : zFL p q := zFr_mono f (by simp) (by simp)
theorem zFL_S {p q : pm_H} (f : zFL p q) (h : zSh p) : zSh q := zSh_F f (by decide +kernel) h
theorem zFL_l {p q : pm_H} {R C : Nat} {rk : Nat → Bool} (f : zFL p q) (h : zMl p R C rk) : zMl q R C rk := zMl_F f (by simp) (by simp) (by simp) (by simp) h
theorem zFL_p {p q : pm_H} {P G : Nat} (f : zFL p q) (h : zMp p P G) : zMp q P G := zMp_F f (by simp) (by simp) (by simp) h
theorem zFL_n {p q : pm_H} {v : Nat → Nat} (f : zFL p q) (h : zNr p 174 0 v) : zNr q 174 0 v := zNr_F f (by simp) (by simp) h
theorem zFA_e {p q : pm_H} {E : zEn} (f : zFA p q) (h : zMe p E) : zMe q E := ⟨zFL_l (zFA_L f) h.1, zMr_F f (by simp) (by simp) (by simp) (by simp) h.2.1, h.2.2⟩
theorem zFL_m {p q : pm_H} {R C sn cm cn : Nat} {rk : Nat → Bool} {sk cdm cd : Nat → Nat} (f : zFL p q) (h : zMe p (R, C, rk, sn, sk, cm, cdm)) (h23 : zc q 170 23 = some (.int (zn cn))) (hl : cn ≤ 40) (h179 : ∀ i, i < cn → zc q 179 i = some (.int (zn (cd i))) ∧ cd i ≤ 3000) (hcg : zcg cn cd) : zMe q (R, C, rk, sn, sk, cn, cd) := ⟨zFL_l f h.1, ⟨(f.1 170 8 (by simp) (by simp)).trans h.2.1.1, h.2.1.2.1, h.2.1.2.2.1, fun i hi => ⟨(f.1 173 i (by simp) (by simp)).trans (h.2.1.2.2.2.1 i hi).1, (h.2.1.2.2.2.1 i hi).2⟩, h23, hl, h179⟩, hcg⟩
theorem zm_laysWas {ph : pm_H} {cn : Nat} {cd : Nat → Nat} (hS : zSh ph) (hw : ∀ i, i < cn → zc ph 197 i = some (.int (zn (cd i)))) (hl : cn ≤ 40) : zM 216 [.ref 170, .ref 197, .int (zn cn)] ph (fun v0 q => v0 = none ∧ zFr [179] [(170, 23)] ph q ∧ zc q 170 23 = some (.int (zn cn)) ∧ ∀ i, i < cn → zc q 179 i = some (.int (zn (cd i)))) := by
  obtain ⟨Q, hQ⟩ : ∃ Q : Option Value → pm_H → Prop, Q = (fun v0 q => v0 = none ∧ zFr [179] [(170, 23)] ph q ∧ zc q 170 23 = some (.int (zn cn)) ∧ ∀ i, i < cn → zc q 179 i = some (.int (zn (cd i)))) := ⟨_, rfl⟩
  rw [← hQ]
  refine zM_mk fun n D => ?_
  show zW n D 216 Q 0 [some (.ref 170), some (.ref 197), some (.int (zn cn)), none] [] ph
  have c_0 : (Int32.ofInt 0).toInt = 0 := by decide
  have c_1 : (Int32.ofInt 1).toInt = 1 := by decide
  have tl := znt (k := cn) (by omega)
  refine w_load (pc' := 1) (v := .ref 170) (m := 1) (ykc_216 (e := (2, .aload_n kF0, 0)) rfl) rfl rfl ?_
  refine w_load (pc' := 2) (v := .int (zn cn)) (m := 1) (ykc_216 (e := (2, .iload_n kF2, 0)) rfl) rfl rfl ?_
  refine w_pf (pc' := 5) (ykc_216 (e := (5, .putfield 248, 0)) rfl) rfl rfl (fun ph852 u851 => ?_)
  refine w_alu (pc' := 6) (st' := [.int (Int32.ofInt 0)]) (ykc_216 (e := (0, .iconst 0, 0)) rfl) rfl rfl ?_
  refine w_store (pc' := 7) (L' := [some (.ref 170), some (.ref 197), some (.int (zn cn)), some (.int (Int32.ofInt 0))]) (st' := []) (m := 1) (ykc_216 (e := (3, .istore_n kF3, 0)) rfl) rfl rfl ?_
  have hl9 : ∀ (n : Nat), ∀ (k : Nat) (p : pm_H), (k ≤ cn) → (zFr [179] [] ph852 p) → (∀ i, i < k → zc p 179 i = some (.int (zn (cd i)))) → zW n D 216 Q 7 [some (.ref 170), some (.ref 197), some (.int (zn cn)), some (.int (zn k))] [] p := by
    intro n
    induction n using Nat.strongRecOn with
    | ind n ih =>
      intro k p hk hf hg
      have tk := znt (k := k) (by omega)
      have fz : zFr [179] [(170, 23)] ph p := zFr_trans (zFr_st u851 (Or.inr (by simp))) (zFr_mono hf (by simp) (by simp))
      have hx9 : k < cn → zc p 197 k = some (.int (zn (cd k))) := fun h => (fz.1 197 k (by simp) (by simp)).trans (hw k h)
      refine w_load (pc' := 8) (v := .int (zn k)) (m := 1) (ykc_216 (e := (2, .iload_n kF3, 0)) rfl) rfl rfl ?_
      refine w_load (pc' := 9) (v := .int (zn cn)) (m := 1) (ykc_216 (e := (2, .iload_n kF2, 0)) rfl) rfl rfl ?_
      refine w_ige (ykc_216 (e := (4, .if_icmp .ge 18, 27)) rfl) rfl (fun b853 => ?_) (fun b853 => ?_)
      · refine w_ret (v := none) (ykc_216 (e := (7, .return_, 0)) rfl) (zr_v rfl) ?_
        have ek : k = cn := by omega
        subst ek
        rw [hQ]
        exact ⟨rfl, fz, (hf.1 170 23 (by decide) (by decide)).trans u851.1, hg⟩
      · refine w_load (pc' := 13) (v := .ref 170) (m := 1) (ykc_216 (e := (2, .aload_n kF0, 0)) rfl) rfl rfl ?_
        refine w_gf (pc' := 16) (v := .ref 179) (ykc_216 (e := (5, .getfield 56, 0)) rfl) rfl (zsg (zSh_F fz (by decide +kernel) hS) zs_170_21) rfl ?_
        refine w_load (pc' := 17) (v := .int (zn k)) (m := 1) (ykc_216 (e := (2, .iload_n kF3, 0)) rfl) rfl rfl ?_
        refine w_load (pc' := 18) (v := .ref 197) (m := 1) (ykc_216 (e := (2, .aload_n kF1, 0)) rfl) rfl rfl ?_
        refine w_load (pc' := 19) (v := .int (zn k)) (m := 1) (ykc_216 (e := (2, .iload_n kF3, 0)) rfl) rfl rfl ?_
        refine w_ialk (pc' := 20) (k := k) (ykc_216 (e := (5, .iaload, 0)) rfl) (hx9 (by omega)) (by omega) rfl ?_
        refine w_ias (pc' := 21) (k := k) (ykc_216 (e := (5, .iastore, 0)) rfl) (by omega) rfl (fun ph855 u854 => ?_)
        have e856 : (zn k) + Int32.ofInt 1 = zn (k + 1) := (zaddN (a := k) (b := 1) (znt (by omega)) c_1 (by omega))
        have te856 := znt (k := k + 1) (by omega)
        refine w_store (pc' := 24) (L' := [some (.ref 170), some (.ref 197), some (.int (zn cn)), some (.int (zn (k + 1)))]) (st' := []) (m := 3) (ykc_216 (e := (3, .iinc 3 1, 0)) rfl) (by rw [← e856]; rfl) rfl ?_
        refine w_gb (ykc_216 (e := (4, .goto (-17), 7)) rfl) (fun k857 hk857 => ?_)
        exact ih k857 hk857 (k + 1) _ (by omega) (zFr_add hf u854 (Or.inl (by simp))) (fun i hi => by
          by_cases e : i = k
          · subst e; exact u854.1
          · exact (u854.2.1 179 i (fun q => e q.2)).trans (hg i (by omega)))
  exact hl9 n 0 _ (Nat.zero_le _) zFr_refl (fun i hi => absurd hi (Nat.not_lt_zero i))
theorem zm_law {ph : pm_H} {R C sn cm P G ln : Nat} {rk : Nat → Bool} {sk cdm v t : Nat → Nat} (hS : zSh ph) (hE : zMe ph (R, C, rk, sn, sk, cm, cdm)) (hN : zMp ph P G) (hrow : zNr ph 174 0 v) (hO : zOk R C P G v) (hn : zc ph 170 14 = some (.int (zn ln))) (hn80 : ln ≤ 80) (gt : ∀ i, i < ln → zc ph 176 i = some (.int (zn (t i))) ∧ t i < 256) : zM 290 [.ref 170] ph (fun v0 q => zFL ph q ∧ zc q 170 23 = some (.int (zn cm)) ∧ (∀ i, i < cm → zc q 179 i = some (.int (zn (cdm i)))) ∧ ∃ (ok : Bool) (a2 : Nat) (cs2 : List Nat) (y : Int32), zRu ln t ok a2 cs2 ∧ cs2.length ≤ 40 ∧ v0 = some (.int y) ∧ ((zFo ln 40 a2 (min ln 40) ok < 0 ∧ y.toInt = zFo ln 40 a2 (min ln 40) ok + 1 - 10000) ∨ (zFo ln 40 a2 (min ln 40) ok = 0 ∧ y = zpcl (zAll (R, C, rk, sn, sk, cs2.length, zCd cs2) P v) - zpcl (zAll (R, C, rk, sn, sk, cm, cdm) P v)))) := by
  obtain ⟨Q, hQ⟩ : ∃ Q : Option Value → pm_H → Prop, Q = (fun v0 q => zFL ph q ∧ zc q 170 23 = some (.int (zn cm)) ∧ (∀ i, i < cm → zc q 179 i = some (.int (zn (cdm i)))) ∧ ∃ (ok : Bool) (a2 : Nat) (cs2 : List Nat) (y : Int32), zRu ln t ok a2 cs2 ∧ cs2.length ≤ 40 ∧ v0 = some (.int y) ∧ ((zFo ln 40 a2 (min ln 40) ok < 0 ∧ y.toInt = zFo ln 40 a2 (min ln 40) ok + 1 - 10000) ∨ (zFo ln 40 a2 (min ln 40) ok = 0 ∧ y = zpcl (zAll (R, C, rk, sn, sk, cs2.length, zCd cs2) P v) - zpcl (zAll (R, C, rk, sn, sk, cm, cdm) P v)))) := ⟨_, rfl⟩
  rw [← hQ]
  refine zM_mk fun n D => ?_
  show zW n D 290 Q 0 [some (.ref 170), none, none, none, none] [] ph
  have c_0 : ((Int16.ofInt 10000).toInt32).toInt = 10000 := by decide
  have c_1 : (Int32.ofInt 0).toInt = 0 := by decide
  have c_2 : (Int32.ofInt 1).toInt = 1 := by decide
  have hcm40 : cm ≤ 40 := hE.2.1.2.2.2.2.2.1
  have tcm := znt (k := cm) (by omega)
  refine w_load (pc' := 1) (v := .ref 170) (m := 1) (ykc_290 (e := (2, .aload_n kF0, 0)) rfl) rfl rfl ?_
  refine w_alu (pc' := 2) (st' := [.int (Int32.ofInt 0), .ref 170]) (ykc_290 (e := (0, .iconst 0, 0)) rfl) rfl rfl ?_
  refine w_pf (pc' := 5) (ykc_290 (e := (5, .putfield 3, 0)) rfl) rfl rfl (fun ph859 u858 => ?_)
  refine w_load (pc' := 6) (v := .ref 170) (m := 1) (ykc_290 (e := (2, .aload_n kF0, 0)) rfl) rfl rfl ?_
  have fu : zFr [] [(170, 0)] _ ph859 := zFr_st u858 (Or.inr (by simp))
  refine w_cv (as := [.ref 170]) (r := []) (ykc_290 (e := (6, .invokevirtual 251, 0)) rfl) rfl rfl rfl rfl (zm_rulesRead (zSh_F fu (by decide +kernel) hS) ((fu.1 170 14 (by decide) (by decide)).trans hn) hn80 (fun i hi => ⟨(fu.1 176 i (by simp) (by simp)).trans (gt i hi).1, (gt i hi).2⟩)) (fun v860 ph861 hv => ?_)
  rcases hv with ⟨f2, h14, ok, a2, cs2, z9, hru, hR2, hl2, rfl, hz9⟩
  · have tl9 := znt (k := cs2.length) (by omega)
    have g1 : zFA ph ph861 := zFr_trans (zFr_mono fu (by simp) (by simp)) (zFr_mono f2 (by simp) (by simp))
    have hF0 : zFo ln 40 a2 (min ln 40) ok ≤ 0 ∧ -100 ≤ zFo ln 40 a2 (min ln 40) ok ∧ (zFo ln 40 a2 (min ln 40) ok = 0 → ok = true) := by
      have ha9 : a2 ≤ 40 := by
        rcases hru with ⟨-, -, q, -⟩ | ⟨-, q, -⟩ <;> omega
      unfold zFo
      split
      · exact ⟨by omega, by omega, fun q => by omega⟩
      · split
        · next q => exact ⟨by omega, by omega, fun _ => q.1⟩
        · exact ⟨by omega, by omega, fun q => by omega⟩
    show zW n D 290 Q 9 [some (.ref 170), none, none, none, none] [.int z9] ph861
    refine w_store (pc' := 10) (L' := [some (.ref 170), some (.int z9), none, none, none]) (st' := []) (m := 1) (ykc_290 (e := (3, .istore_n kF1, 0)) rfl) rfl rfl ?_
    refine w_load (pc' := 11) (v := .int z9) (m := 1) (ykc_290 (e := (2, .iload_n kF1, 0)) rfl) rfl rfl ?_
    refine w_zge (ykc_290 (e := (4, .ifCond .ge 11, 22)) rfl) rfl (fun b862 => ?_) (fun b862 => ?_)
    · refine w_load (pc' := 23) (v := .ref 170) (m := 1) (ykc_290 (e := (2, .aload_n kF0, 0)) rfl) rfl rfl ?_
      refine w_load (pc' := 24) (v := .ref 170) (m := 1) (ykc_290 (e := (2, .aload_n kF0, 0)) rfl) rfl rfl ?_
      refine w_gf (pc' := 27) (v := .ref 174) (ykc_290 (e := (5, .getfield 41, 0)) rfl) rfl ((f2.1 170 11 (by decide) (by decide)).trans ((u858.2.1 170 11 (fun q => absurd q.2 (by decide))).trans (zsg hS zs_170_11))) rfl ?_
      refine w_cv (as := [.ref 170, .ref 174]) (r := []) (ykc_290 (e := (6, .invokevirtual 417, 0)) rfl) rfl rfl rfl rfl (zm_all (zFL_S (zFA_L g1) hS) (zFA_e g1 hE) (zFL_p (zFA_L g1) hN) (Or.inl rfl) (zFL_n (zFA_L g1) hrow) hO) (fun v863 ph864 hv => ?_)
      obtain ⟨f3, rfl⟩ := hv
      have g2 : zFA ph ph864 := zFr_trans g1 (zFr_mono f3 (by simp) (by simp))
      have hok : ok = true := hF0.2.2 (by omega)
      subst hok
      have hcg9 := (zRu_cg hru).1
      show zW n D 290 Q 30 [some (.ref 170), some (.int z9), none, none, none] [.long (zAll (R, C, rk, sn, sk, cm, cdm) P v)] ph864
      refine w_cs (as := [.long (zAll (R, C, rk, sn, sk, cm, cdm) P v)]) (r := []) (ykc_290 (e := (6, .invokestatic 405, 0)) rfl) rfl rfl rfl rfl (zj_pcl) (fun v865 ph866 hv => ?_)
      obtain ⟨rfl, rfl⟩ := hv
      show zW n D 290 Q 33 [some (.ref 170), some (.int z9), none, none, none] [.int (zpcl (zAll (R, C, rk, sn, sk, cm, cdm) P v))] ph864
      refine w_store (pc' := 34) (L' := [some (.ref 170), some (.int z9), some (.int (zpcl (zAll (R, C, rk, sn, sk, cm, cdm) P v))), none, none]) (st' := []) (m := 1) (ykc_290 (e := (3, .istore_n kF2, 0)) rfl) rfl rfl ?_
      refine w_load (pc' := 35) (v := .ref 170) (m := 1) (ykc_290 (e := (2, .aload_n kF0, 0)) rfl) rfl rfl ?_
      refine w_gf (pc' := 38) (v := .int (zn cm)) (ykc_290 (e := (5, .getfield 248, 0)) rfl) rfl ((f3.1 170 23 (by decide) (by decide)).trans ((g1.1 170 23 (by decide) (by decide)).trans hE.2.1.2.2.2.2.1)) rfl ?_
      refine w_store (pc' := 39) (L' := [some (.ref 170), some (.int z9), some (.int (zpcl (zAll (R, C, rk, sn, sk, cm, cdm) P v))), some (.int (zn cm)), none]) (st' := []) (m := 1) (ykc_290 (e := (3, .istore_n kF3, 0)) rfl) rfl rfl ?_
      refine w_alu (pc' := 40) (st' := [.int (Int32.ofInt 0)]) (ykc_290 (e := (0, .iconst 0, 0)) rfl) rfl rfl ?_
      refine w_store (pc' := 42) (L' := [some (.ref 170), some (.int z9), some (.int (zpcl (zAll (R, C, rk, sn, sk, cm, cdm) P v))), some (.int (zn cm)), some (.int (Int32.ofInt 0))]) (st' := []) (m := 2) (ykc_290 (e := (3, .istore 4, 0)) rfl) rfl rfl ?_
      have hl9 : ∀ (n : Nat), ∀ (k : Nat) (p : pm_H), (k ≤ cm) → (zFr [197] [] ph864 p) → (∀ i, i < k → zc p 197 i = some (.int (zn (cdm i)))) → zW n D 290 Q 42 [some (.ref 170), some (.int z9), some (.int (zpcl (zAll (R, C, rk, sn, sk, cm, cdm) P v))), some (.int (zn cm)), some (.int (zn k))] [] p := by
        intro n
        induction n using Nat.strongRecOn with
        | ind n ih =>
          intro k p hk hf hg
          have tk := znt (k := k) (by omega)
          have gp : zFA ph p := zFr_trans g2 (zFr_mono hf (by simp) (by simp))
          have hEp := zFA_e gp hE
          have hRp : zRc p cs2 := zRc_F hf (by simp) (by simp) (zRc_F f3 (by simp) (by simp) hR2)
          have gp0 := gp
          refine w_load (pc' := 44) (v := .int (zn k)) (m := 2) (ykc_290 (e := (2, .iload 4, 0)) rfl) rfl rfl ?_
          refine w_load (pc' := 45) (v := .ref 170) (m := 1) (ykc_290 (e := (2, .aload_n kF0, 0)) rfl) rfl rfl ?_
          refine w_gf (pc' := 48) (v := .int (zn cm)) (ykc_290 (e := (5, .getfield 248, 0)) rfl) rfl hEp.2.1.2.2.2.2.1 rfl ?_
          refine w_ige (ykc_290 (e := (4, .if_icmp .ge 23, 71)) rfl) rfl (fun b867 => ?_) (fun b867 => ?_)
          · refine w_load (pc' := 72) (v := .ref 170) (m := 1) (ykc_290 (e := (2, .aload_n kF0, 0)) rfl) rfl rfl ?_
            refine w_load (pc' := 73) (v := .ref 170) (m := 1) (ykc_290 (e := (2, .aload_n kF0, 0)) rfl) rfl rfl ?_
            refine w_gf (pc' := 76) (v := .ref 180) (ykc_290 (e := (5, .getfield 59, 0)) rfl) rfl ((gp.1 170 22 (by decide) (by decide)).trans (zsg hS zs_170_22)) rfl ?_
            refine w_load (pc' := 77) (v := .ref 170) (m := 1) (ykc_290 (e := (2, .aload_n kF0, 0)) rfl) rfl rfl ?_
            refine w_gf (pc' := 80) (v := .int (zn cs2.length)) (ykc_290 (e := (5, .getfield 227, 0)) rfl) rfl hRp.1 rfl ?_
            refine w_cv (as := [.ref 170, .ref 180, .int (zn cs2.length)]) (r := []) (ykc_290 (e := (6, .invokevirtual 254, 0)) rfl) rfl rfl rfl rfl (zm_laysCode (zFL_S (zFA_L gp) hS) hRp rfl hl2) (fun v868 ph869 hv => ?_)
            obtain ⟨rfl, f5, h23, h179⟩ := hv
            have g5 : zFL ph ph869 := zFr_trans (zFA_L gp) (zFr_mono f5 (by simp) (by simp))
            show zW n D 290 Q 83 [some (.ref 170), some (.int z9), some (.int (zpcl (zAll (R, C, rk, sn, sk, cm, cdm) P v))), some (.int (zn cm)), some (.int (zn k))] [] ph869
            refine w_load (pc' := 84) (v := .ref 170) (m := 1) (ykc_290 (e := (2, .aload_n kF0, 0)) rfl) rfl rfl ?_
            refine w_load (pc' := 85) (v := .ref 170) (m := 1) (ykc_290 (e := (2, .aload_n kF0, 0)) rfl) rfl rfl ?_
            refine w_gf (pc' := 88) (v := .ref 174) (ykc_290 (e := (5, .getfield 41, 0)) rfl) rfl ((f5.1 170 11 (by decide) (by decide)).trans ((gp.1 170 11 (by decide) (by decide)).trans (zsg hS zs_170_11))) rfl ?_
            refine w_cv (as := [.ref 170, .ref 174]) (r := []) (ykc_290 (e := (6, .invokevirtual 417, 0)) rfl) rfl rfl rfl rfl (zm_all (zFL_S g5 hS) (zFL_m g5 hE h23 hl2 h179 hcg9) (zFL_p g5 hN) (Or.inl rfl) (zFL_n g5 hrow) hO) (fun v870 ph871 hv => ?_)
            obtain ⟨f6, rfl⟩ := hv
            have g6 : zFL ph ph871 := zFr_trans g5 (zFr_mono f6 (by simp) (by simp))
            show zW n D 290 Q 91 [some (.ref 170), some (.int z9), some (.int (zpcl (zAll (R, C, rk, sn, sk, cm, cdm) P v))), some (.int (zn cm)), some (.int (zn k))] [.long (zAll (R, C, rk, sn, sk, cs2.length, zCd cs2) P v)] ph871
            refine w_cs (as := [.long (zAll (R, C, rk, sn, sk, cs2.length, zCd cs2) P v)]) (r := []) (ykc_290 (e := (6, .invokestatic 405, 0)) rfl) rfl rfl rfl rfl (zj_pcl) (fun v872 ph873 hv => ?_)
            obtain ⟨rfl, rfl⟩ := hv
            show zW n D 290 Q 94 [some (.ref 170), some (.int z9), some (.int (zpcl (zAll (R, C, rk, sn, sk, cm, cdm) P v))), some (.int (zn cm)), some (.int (zn k))] [.int (zpcl (zAll (R, C, rk, sn, sk, cs2.length, zCd cs2) P v))] ph871
            refine w_store (pc' := 96) (L' := [some (.ref 170), some (.int z9), some (.int (zpcl (zAll (R, C, rk, sn, sk, cm, cdm) P v))), some (.int (zn cm)), some (.int (zpcl (zAll (R, C, rk, sn, sk, cs2.length, zCd cs2) P v)))]) (st' := []) (m := 2) (ykc_290 (e := (3, .istore 4, 0)) rfl) rfl rfl ?_
            refine w_load (pc' := 97) (v := .ref 170) (m := 1) (ykc_290 (e := (2, .aload_n kF0, 0)) rfl) rfl rfl ?_
            refine w_load (pc' := 98) (v := .ref 170) (m := 1) (ykc_290 (e := (2, .aload_n kF0, 0)) rfl) rfl rfl ?_
            refine w_gf (pc' := 101) (v := .ref 197) (ykc_290 (e := (5, .getfield 110, 0)) rfl) rfl ((f6.1 170 44 (by decide) (by decide)).trans ((f5.1 170 44 (by decide) (by decide)).trans ((gp.1 170 44 (by decide) (by decide)).trans (zsg hS zs_170_44)))) rfl ?_
            refine w_load (pc' := 102) (v := .int (zn cm)) (m := 1) (ykc_290 (e := (2, .iload_n kF3, 0)) rfl) rfl rfl ?_
            refine w_cv (as := [.ref 170, .ref 197, .int (zn cm)]) (r := []) (ykc_290 (e := (6, .invokevirtual 254, 0)) rfl) rfl rfl rfl rfl (zm_laysWas (cn := cm) (cd := cdm) (zFL_S g6 hS) (fun i hi => (f6.1 197 i (by simp) (by simp)).trans ((f5.1 197 i (by simp) (by simp)).trans (hg i (by omega)))) hcm40) (fun v874 ph875 hv => ?_)
            obtain ⟨rfl, f7, h23b, h179b⟩ := hv
            have g7 : zFL ph ph875 := zFr_trans g6 (zFr_mono f7 (by simp) (by simp))
            show zW n D 290 Q 105 [some (.ref 170), some (.int z9), some (.int (zpcl (zAll (R, C, rk, sn, sk, cm, cdm) P v))), some (.int (zn cm)), some (.int (zpcl (zAll (R, C, rk, sn, sk, cs2.length, zCd cs2) P v)))] [] ph875
            refine w_load (pc' := 106) (v := .ref 170) (m := 1) (ykc_290 (e := (2, .aload_n kF0, 0)) rfl) rfl rfl ?_
            refine w_alu (pc' := 107) (st' := [.int (Int32.ofInt 0), .ref 170]) (ykc_290 (e := (0, .iconst 0, 0)) rfl) rfl rfl ?_
            refine w_pf (pc' := 110) (ykc_290 (e := (5, .putfield 15, 0)) rfl) rfl rfl (fun ph877 u876 => ?_)
            refine w_load (pc' := 111) (v := .ref 170) (m := 1) (ykc_290 (e := (2, .aload_n kF0, 0)) rfl) rfl rfl ?_
            refine w_load (pc' := 113) (v := .int (zpcl (zAll (R, C, rk, sn, sk, cs2.length, zCd cs2) P v))) (m := 2) (ykc_290 (e := (2, .iload 4, 0)) rfl) rfl rfl ?_
            refine w_alu (pc' := 114) (st' := [.long ((zpcl (zAll (R, C, rk, sn, sk, cs2.length, zCd cs2) P v)).toInt64), .ref 170]) (ykc_290 (e := (0, .i2l, 0)) rfl) rfl rfl ?_
            have g8 : zFL ph ph877 := zFr_trans g7 (zFr_st u876 (Or.inr (by simp)))
            refine w_cv (as := [.ref 170, .long ((zpcl (zAll (R, C, rk, sn, sk, cs2.length, zCd cs2) P v)).toInt64)]) (r := []) (ykc_290 (e := (6, .invokevirtual 373, 0)) rfl) rfl rfl rfl rfl (zm_enter (k := 0) (x := (zpcl (zAll (R, C, rk, sn, sk, cs2.length, zCd cs2) P v)).toInt64) (zFL_S g8 hS) u876.1 (by decide)) (fun v878 ph879 hv => ?_)
            obtain ⟨rfl, f9, h9t⟩ := hv
            have g9 : zFL ph ph879 := zFr_trans g8 (zFr_mono f9 (by simp) (by simp))
            show zW n D 290 Q 117 [some (.ref 170), some (.int z9), some (.int (zpcl (zAll (R, C, rk, sn, sk, cm, cdm) P v))), some (.int (zn cm)), some (.int (zpcl (zAll (R, C, rk, sn, sk, cs2.length, zCd cs2) P v)))] [] ph879
            refine w_load (pc' := 118) (v := .ref 170) (m := 1) (ykc_290 (e := (2, .aload_n kF0, 0)) rfl) rfl rfl ?_
            refine w_load (pc' := 119) (v := .int (zpcl (zAll (R, C, rk, sn, sk, cm, cdm) P v))) (m := 1) (ykc_290 (e := (2, .iload_n kF2, 0)) rfl) rfl rfl ?_
            refine w_alu (pc' := 120) (st' := [.long ((zpcl (zAll (R, C, rk, sn, sk, cm, cdm) P v)).toInt64), .ref 170]) (ykc_290 (e := (0, .i2l, 0)) rfl) rfl rfl ?_
            refine w_cv (as := [.ref 170, .long ((zpcl (zAll (R, C, rk, sn, sk, cm, cdm) P v)).toInt64)]) (r := []) (ykc_290 (e := (6, .invokevirtual 373, 0)) rfl) rfl rfl rfl rfl (zm_enter (k := 1) (x := (zpcl (zAll (R, C, rk, sn, sk, cm, cdm) P v)).toInt64) (zFL_S g9 hS) h9t (by decide)) (fun v880 ph881 hv => ?_)
            obtain ⟨rfl, f10, h10t⟩ := hv
            have g10 : zFL ph ph881 := zFr_trans g9 (zFr_mono f10 (by simp) (by simp))
            show zW n D 290 Q 123 [some (.ref 170), some (.int z9), some (.int (zpcl (zAll (R, C, rk, sn, sk, cm, cdm) P v))), some (.int (zn cm)), some (.int (zpcl (zAll (R, C, rk, sn, sk, cs2.length, zCd cs2) P v)))] [] ph881
            refine w_load (pc' := 125) (v := .int (zpcl (zAll (R, C, rk, sn, sk, cs2.length, zCd cs2) P v))) (m := 2) (ykc_290 (e := (2, .iload 4, 0)) rfl) rfl rfl ?_
            refine w_load (pc' := 126) (v := .int (zpcl (zAll (R, C, rk, sn, sk, cm, cdm) P v))) (m := 1) (ykc_290 (e := (2, .iload_n kF2, 0)) rfl) rfl rfl ?_
            refine w_alu (pc' := 127) (st' := [.int ((zpcl (zAll (R, C, rk, sn, sk, cs2.length, zCd cs2) P v)) - (zpcl (zAll (R, C, rk, sn, sk, cm, cdm) P v)))]) (ykc_290 (e := (0, .isub, 0)) rfl) rfl rfl ?_
            refine w_ret (v := (some (.int ((zpcl (zAll (R, C, rk, sn, sk, cs2.length, zCd cs2) P v)) - (zpcl (zAll (R, C, rk, sn, sk, cm, cdm) P v)))))) (ykc_290 (e := (7, .ireturn, 0)) rfl) (zr_v rfl) ?_
            rw [hQ]
            exact ⟨g10, (f10.1 170 23 (by simp) (by simp)).trans ((f9.1 170 23 (by simp) (by simp)).trans ((u876.2.1 170 23 (fun q => absurd q.2 (by decide))).trans h23b)), fun i hi => (f10.1 179 i (by simp) (by simp)).trans ((f9.1 179 i (by simp) (by simp)).trans ((u876.2.1 179 i (fun q => absurd q.1 (by decide))).trans (h179b i hi))), true, a2, cs2, _, hru, hl2, rfl, Or.inr ⟨by omega, rfl⟩⟩
          · refine w_load (pc' := 52) (v := .ref 170) (m := 1) (ykc_290 (e := (2, .aload_n kF0, 0)) rfl) rfl rfl ?_
            refine w_gf (pc' := 55) (v := .ref 197) (ykc_290 (e := (5, .getfield 110, 0)) rfl) rfl ((gp.1 170 44 (by decide) (by decide)).trans (zsg hS zs_170_44)) rfl ?_
            refine w_load (pc' := 57) (v := .int (zn k)) (m := 2) (ykc_290 (e := (2, .iload 4, 0)) rfl) rfl rfl ?_
            refine w_load (pc' := 58) (v := .ref 170) (m := 1) (ykc_290 (e := (2, .aload_n kF0, 0)) rfl) rfl rfl ?_
            refine w_gf (pc' := 61) (v := .ref 179) (ykc_290 (e := (5, .getfield 56, 0)) rfl) rfl ((gp.1 170 21 (by decide) (by decide)).trans (zsg hS zs_170_21)) rfl ?_
            refine w_load (pc' := 63) (v := .int (zn k)) (m := 2) (ykc_290 (e := (2, .iload 4, 0)) rfl) rfl rfl ?_
            refine w_ialk (pc' := 64) (k := k) (ykc_290 (e := (5, .iaload, 0)) rfl) (hEp.2.1.2.2.2.2.2.2 k (show k < cm by omega)).1 (by omega) rfl ?_
            refine w_ias (pc' := 65) (k := k) (ykc_290 (e := (5, .iastore, 0)) rfl) (by omega) rfl (fun ph883 u882 => ?_)
            have e884 : (zn k) + Int32.ofInt 1 = zn (k + 1) := (zaddN (a := k) (b := 1) (znt (by omega)) c_2 (by omega))
            have te884 := znt (k := k + 1) (by omega)
            refine w_store (pc' := 68) (L' := [some (.ref 170), some (.int z9), some (.int (zpcl (zAll (R, C, rk, sn, sk, cm, cdm) P v))), some (.int (zn cm)), some (.int (zn (k + 1)))]) (st' := []) (m := 3) (ykc_290 (e := (3, .iinc 4 1, 0)) rfl) (by rw [← e884]; rfl) rfl ?_
            refine w_gb (ykc_290 (e := (4, .goto (-26), 42)) rfl) (fun k885 hk885 => ?_)
            exact ih k885 hk885 (k + 1) _ (by omega) (zFr_add hf u882 (Or.inl (by simp))) (fun i hi => by
              by_cases e : i = k
              · subst e; exact u882.1
              · exact (u882.2.1 197 i (fun q => e q.2)).trans (hg i (by omega)))
      exact hl9 n 0 _ (Nat.zero_le _) zFr_refl (fun i hi => absurd hi (Nat.not_lt_zero i))
    · refine w_load (pc' := 15) (v := .int z9) (m := 1) (ykc_290 (e := (2, .iload_n kF1, 0)) rfl) rfl rfl ?_
      refine w_alu (pc' := 16) (st' := [.int (Int32.ofInt 1), .int z9]) (ykc_290 (e := (0, .iconst 1, 0)) rfl) rfl rfl ?_
      obtain ⟨z886, e_z886, h_z886⟩ : ∃ zq : Int32, z9 + (Int32.ofInt 1) = zq ∧ zq.toInt = z9.toInt + (1 : Int) := ⟨_, rfl, (by have := ti_add (x := z9) (y := (Int32.ofInt 1)) (by omega) (by omega); omega)⟩
      refine w_alu (pc' := 17) (st' := [.int z886]) (ykc_290 (e := (0, .iadd, 0)) rfl) (by rw [← e_z886]; rfl) rfl ?_
      refine w_push (pc' := 20) (v := .int ((Int16.ofInt 10000).toInt32)) (m := 3) (ykc_290 (e := (1, .sipush 10000, 0)) rfl) rfl rfl ?_
      obtain ⟨z887, e_z887, h_z887⟩ : ∃ zq : Int32, z886 - ((Int16.ofInt 10000).toInt32) = zq ∧ zq.toInt = z9.toInt + (1 : Int) - (10000 : Int) := ⟨_, rfl, (by have := ti_sub (x := z886) (y := ((Int16.ofInt 10000).toInt32)) (by omega) (by omega); omega)⟩
      refine w_alu (pc' := 21) (st' := [.int z887]) (ykc_290 (e := (0, .isub, 0)) rfl) (by rw [← e_z887]; rfl) rfl ?_
      refine w_ret (v := (some (.int z887))) (ykc_290 (e := (7, .ireturn, 0)) rfl) (zr_v rfl) ?_
      rw [hQ]
      exact ⟨zFA_L g1, (g1.1 170 23 (by decide) (by decide)).trans hE.2.1.2.2.2.2.1, fun i hi => (g1.1 179 i (by decide) (by simp)).trans (hE.2.1.2.2.2.2.2.2 i hi).1, ok, a2, cs2, _, hru, hl2, rfl, Or.inl ⟨by omega, by omega⟩⟩
  
