/-! back, open: what they answer, class and reference, by W; printed by wip/z/z5a_route.py -/
theorem zsh1b : ∀ f, f < 49 → ∀ g, g < 49 → zb (Int64.ofNat kG1 <<< ((zn f).toInt64 &&& 63)) g = decide (g = f) := by decide +kernel
theorem zbm1 : ∀ k, k < 64 → zb (-1 : Int64) k = true := by decide +kernel
theorem z1000 : (Int16.ofInt 1000).toInt32 = zn 1000 := by decide
theorem zdecY {y : Int32} (h : -2147483647 ≤ y.toInt) (h2 : y.toInt ≤ 2147483648) : (y + Int32.ofInt (-1)).toInt = y.toInt + (-1 : Int) := by
  have c : (Int32.ofInt (-1)).toInt = -1 := by decide
  have := ti_add (x := y) (y := Int32.ofInt (-1)) (by omega) (by omega)
  omega
theorem zCl_W2 {p q : pm_H} {R C : Nat} {rk : Nat → Bool} (f : zFr [161, 162] [] p q) (h : zCl p R C rk) : zCl q R C rk := ⟨(f.1 5 0 (by decide) (by simp)).trans h.1, (f.1 5 1 (by decide) (by simp)).trans h.2.1, (f.1 5 2 (by decide) (by simp)).trans h.2.2.1, (f.1 5 3 (by decide) (by simp)).trans h.2.2.2.1, fun i hi => ⟨(f.1 6 i (by decide) (by simp)).trans (h.2.2.2.2.1 i hi).1, (f.1 7 i (by decide) (by simp)).trans (h.2.2.2.2.1 i hi).2⟩, h.2.2.2.2.2⟩
theorem zc_fillA {ph : pm_H} (hS : zSh ph) : zM 328 [.ref 161, .int (zn 1000)] ph (fun v0 q => v0 = none ∧ zFr [161] [] ph q ∧ ∀ i, i < 49 → zc q 161 i = some (.int (zn 1000))) := by
  obtain ⟨Q, hQ⟩ : ∃ Q : Option Value → pm_H → Prop, Q = (fun v0 q => v0 = none ∧ zFr [161] [] ph q ∧ ∀ i, i < 49 → zc q 161 i = some (.int (zn 1000))) := ⟨_, rfl⟩
  rw [← hQ]
  refine zM_mk fun n D => ?_
  show zW n D 328 Q 0 [some (.ref 161), some (.int (zn 1000)), none, none] [] ph
  have c_0 : (Int32.ofInt 0).toInt = 0 := by decide
  have c_1 : (Int32.ofInt 1).toInt = 1 := by decide
  refine w_alu (pc' := 1) (st' := [.int (Int32.ofInt 0)]) (ykc_328 (e := (0, .iconst 0, 0)) rfl) rfl rfl ?_
  refine w_store (pc' := 2) (L' := [some (.ref 161), some (.int (zn 1000)), some (.int (Int32.ofInt 0)), none]) (st' := []) (m := 1) (ykc_328 (e := (3, .istore_n kF2, 0)) rfl) rfl rfl ?_
  refine w_load (pc' := 3) (v := .ref 161) (m := 1) (ykc_328 (e := (2, .aload_n kF0, 0)) rfl) rfl rfl ?_
  have cn1302 : (Int32.ofNat 49).toInt = 49 := by decide
  refine w_aln (ykc_328 (e := (5, .arraylength, 0)) rfl) (zsl hS zl_161) rfl ?_
  refine w_store (pc' := 5) (L' := [some (.ref 161), some (.int (zn 1000)), some (.int (Int32.ofInt 0)), some (.int (Int32.ofNat 49))]) (st' := []) (m := 1) (ykc_328 (e := (3, .istore_n kF3, 0)) rfl) rfl rfl ?_
  have hl : ∀ (n : Nat), ∀ (k : Nat) (ph1 : pm_H), (k ≤ 49) → (zFr [161] [] ph ph1) → (∀ i, i < k → zc ph1 161 i = some (.int (zn 1000))) → zW n D 328 Q 5 [some (.ref 161), some (.int (zn 1000)), some (.int (zn k)), some (.int (Int32.ofNat 49))] [] ph1 := by
    intro n
    induction n using Nat.strongRecOn with
    | ind n ih =>
      intro k ph1 hk hf hr
      have tk := znt (k := k) (by omega)
      refine w_load (pc' := 6) (v := .int (zn k)) (m := 1) (ykc_328 (e := (2, .iload_n kF2, 0)) rfl) rfl rfl ?_
      refine w_load (pc' := 7) (v := .int (Int32.ofNat 49)) (m := 1) (ykc_328 (e := (2, .iload_n kF3, 0)) rfl) rfl rfl ?_
      refine w_ige (ykc_328 (e := (4, .if_icmp .ge 13, 20)) rfl) rfl (fun b1303 => ?_) (fun b1303 => ?_)
      · refine w_ret (v := none) (ykc_328 (e := (7, .return_, 0)) rfl) (zr_v rfl) ?_
        have ek : k = 49 := by omega
        subst ek
        rw [hQ]
        exact ⟨rfl, hf, hr⟩
      · refine w_load (pc' := 11) (v := .ref 161) (m := 1) (ykc_328 (e := (2, .aload_n kF0, 0)) rfl) rfl rfl ?_
        refine w_load (pc' := 12) (v := .int (zn k)) (m := 1) (ykc_328 (e := (2, .iload_n kF2, 0)) rfl) rfl rfl ?_
        refine w_load (pc' := 13) (v := .int (zn 1000)) (m := 1) (ykc_328 (e := (2, .iload_n kF1, 0)) rfl) rfl rfl ?_
        refine w_ias (pc' := 14) (k := k) (ykc_328 (e := (5, .iastore, 0)) rfl) (by omega) rfl (fun ph1305 u1304 => ?_)
        have e1306 : (zn k) + Int32.ofInt 1 = zn (k + 1) := (zaddN (a := k) (b := 1) (znt (by omega)) c_1 (by omega))
        have te1306 := znt (k := k + 1) (by omega)
        refine w_store (pc' := 17) (L' := [some (.ref 161), some (.int (zn 1000)), some (.int (zn (k + 1))), some (.int (Int32.ofNat 49))]) (st' := []) (m := 3) (ykc_328 (e := (3, .iinc 2 1, 0)) rfl) (by rw [← e1306]; rfl) rfl ?_
        refine w_gb (ykc_328 (e := (4, .goto (-12), 5)) rfl) (fun k1307 hk1307 => ?_)
        exact ih k1307 hk1307 (k + 1) _ (by omega) (zFr_add hf u1304 (Or.inl (by simp))) (fun i hi => by
          by_cases e : i = k
          · subst e
            exact u1304.1
          · exact (u1304.2.1 161 i (fun q => e q.2)).trans (hr i (by omega)))
  exact hl n 0 ph (Nat.zero_le _) zFr_refl (fun i hi => absurd hi (Nat.not_lt_zero i))
theorem zc_measure {ph : pm_H} {R C : Nat} {rk : Nat → Bool} (hS : zSh ph) (hL : zCl ph R C rk) {t fr : Nat} {x : Int64} {al : Nat → Bool} (ht : t < R * C) (hrt : rk t = false) (hx : ∀ g, g < R * C → (zb x g = true ↔ g = fr ∨ al g = true)) : zM 72 [.ref 160, .ref 5, .int (zn t), .long x] ph (fun v0 q => v0 = none ∧ zFr [161, 162] [] ph q ∧ ∃ aw qu hd sz, zBf R C t fr rk al aw qu hd sz ∧ sz ≤ hd ∧ ∀ f, f < R * C → zc q 161 f = some (.int (zn (aw f)))) := by
  obtain ⟨Q, hQ⟩ : ∃ Q : Option Value → pm_H → Prop, Q = (fun v0 q => v0 = none ∧ zFr [161, 162] [] ph q ∧ ∃ aw qu hd sz, zBf R C t fr rk al aw qu hd sz ∧ sz ≤ hd ∧ ∀ f, f < R * C → zc q 161 f = some (.int (zn (aw f)))) := ⟨_, rfl⟩
  rw [← hQ]
  refine zM_mk fun n D => ?_
  show zW n D 72 Q 0 [some (.ref 160), some (.ref 5), some (.int (zn t)), some (.long x), none, none, none, none, none, none] [] ph
  have c_0 : ((Int16.ofInt 1000).toInt32).toInt = 1000 := by decide
  have c_1 : ((Int8.ofInt 49).toInt32).toInt = 49 := by decide
  have c_2 : ((Int8.ofInt 8).toInt32).toInt = 8 := by decide
  have c_3 : (Int32.ofInt 0).toInt = 0 := by decide
  have c_4 : (Int32.ofInt 1).toInt = 1 := by decide
  have hC3 : 3 ≤ C := hL.2.2.2.2.2.2.2.1
  have hN : R * C ≤ 49 := zRC49 hL.2.2.2.2.2.2.1 hL.2.2.2.2.2.2.2.2
  have tt := znt (k := t) (by omega)
  have hS0 := hS
  have hL0 := hL
  refine w_load (pc' := 1) (v := .ref 160) (m := 1) (ykc_72 (e := (2, .aload_n kF0, 0)) rfl) rfl rfl ?_
  refine w_gf (pc' := 4) (v := .ref 161) (ykc_72 (e := (5, .getfield 9, 0)) rfl) rfl (zsg hS zs_160_0) rfl ?_
  refine w_push (pc' := 7) (v := .int ((Int16.ofInt 1000).toInt32)) (m := 3) (ykc_72 (e := (1, .sipush 1000, 0)) rfl) rfl rfl ?_
  rw [z1000]
  refine w_cs (as := [.ref 161, .int (zn 1000)]) (r := []) (ykc_72 (e := (6, .invokestatic 38, 0)) rfl) rfl rfl rfl rfl (zc_fillA hS) (fun v1308 ph1309 hv => ?_)
  obtain ⟨rfl, ff, hr⟩ := hv
  show zW n D 72 Q 10 [some (.ref 160), some (.ref 5), some (.int (zn t)), some (.long x), none, none, none, none, none, none] [] ph1309
  refine w_load (pc' := 11) (v := .ref 160) (m := 1) (ykc_72 (e := (2, .aload_n kF0, 0)) rfl) rfl rfl ?_
  refine w_gf (pc' := 14) (v := .ref 161) (ykc_72 (e := (5, .getfield 9, 0)) rfl) rfl ((ff.1 160 0 (by decide) (by decide)).trans (zsg hS zs_160_0)) rfl ?_
  refine w_load (pc' := 15) (v := .int (zn t)) (m := 1) (ykc_72 (e := (2, .iload_n kF2, 0)) rfl) rfl rfl ?_
  refine w_alu (pc' := 16) (st' := [.int (Int32.ofInt 0), .int (zn t), .ref 161]) (ykc_72 (e := (0, .iconst 0, 0)) rfl) rfl rfl ?_
  refine w_ias (pc' := 17) (k := t) (ykc_72 (e := (5, .iastore, 0)) rfl) (by omega) rfl (fun ph1311 u1310 => ?_)
  refine w_load (pc' := 18) (v := .ref 160) (m := 1) (ykc_72 (e := (2, .aload_n kF0, 0)) rfl) rfl rfl ?_
  refine w_gf (pc' := 21) (v := .ref 162) (ykc_72 (e := (5, .getfield 15, 0)) rfl) rfl ((u1310.2.1 160 1 (fun q => absurd q.1 (by decide))).trans ((ff.1 160 1 (by decide) (by decide)).trans (zsg hS zs_160_1))) rfl ?_
  refine w_alu (pc' := 22) (st' := [.int (Int32.ofInt 0), .ref 162]) (ykc_72 (e := (0, .iconst 0, 0)) rfl) rfl rfl ?_
  refine w_load (pc' := 23) (v := .int (zn t)) (m := 1) (ykc_72 (e := (2, .iload_n kF2, 0)) rfl) rfl rfl ?_
  refine w_ias (pc' := 24) (k := 0) (ykc_72 (e := (5, .iastore, 0)) rfl) (by omega) rfl (fun ph1313 u1312 => ?_)
  refine w_alu (pc' := 25) (st' := [.int (Int32.ofInt 1)]) (ykc_72 (e := (0, .iconst 1, 0)) rfl) rfl rfl ?_
  refine w_store (pc' := 27) (L' := [some (.ref 160), some (.ref 5), some (.int (zn t)), some (.long x), none, some (.int (Int32.ofInt 1)), none, none, none, none]) (st' := []) (m := 2) (ykc_72 (e := (3, .istore 5, 0)) rfl) rfl rfl ?_
  refine w_alu (pc' := 28) (st' := [.int (Int32.ofInt 0)]) (ykc_72 (e := (0, .iconst 0, 0)) rfl) rfl rfl ?_
  refine w_store (pc' := 30) (L' := [some (.ref 160), some (.ref 5), some (.int (zn t)), some (.long x), none, some (.int (Int32.ofInt 1)), some (.int (Int32.ofInt 0)), none, none, none]) (st' := []) (m := 2) (ykc_72 (e := (3, .istore 6, 0)) rfl) rfl rfl ?_
  have hB0 := zBf_0 (R := R) (C := C) (gl := t) (fr := fr) (al := al) (qu := fun _ => 0) ht hrt
  have hf0 : zFr [161, 162] [] ph ph1313 := zFr_add (zFr_add (zFr_mono ff (by simp) (by simp)) u1310 (Or.inl (by simp))) u1312 (Or.inl (by simp))
  have ha0 : ∀ f, f < R * C → zc ph1313 161 f = some (.int (zn (zUp (fun _ => 1000) t 0 f))) := fun f hf => by
    rw [u1312.2.1 161 f (fun q => absurd q.1 (by decide))]
    by_cases e : f = t
    · subst e
      rw [zUp_e]
      exact u1310.1
    · rw [zUp_n e]
      exact (u1310.2.1 161 f (fun q => e q.2)).trans (hr f (by omega))
  have hq0 : ∀ i, i < 1 → zc ph1313 162 i = some (.int (zn (zUp (fun _ => 0) 0 t i))) := fun i hi => by
    obtain rfl : i = 0 := by omega
    rw [zUp_e]
    exact u1312.1
  have hl : ∀ (n : Nat), ∀ (hd sz : Nat) (aw qu : Nat → Nat) (o7 o8 o9 : Option Value) (ph1 : pm_H), (hd ≤ sz) → (zBf R C t fr rk al aw qu hd sz) → (zFr [161, 162] [] ph ph1) → (∀ f, f < R * C → zc ph1 161 f = some (.int (zn (aw f)))) → (∀ i, i < sz → zc ph1 162 i = some (.int (zn (qu i)))) → zW n D 72 Q 30 [some (.ref 160), some (.ref 5), some (.int (zn t)), some (.long x), none, some (.int (zn sz)), some (.int (zn hd)), o7, o8, o9] [] ph1 := by
    intro n
    induction n using Nat.strongRecOn with
    | ind n ih =>
      intro hd sz aw qu o7 o8 o9 ph1 hle hB hf1 ha hq
      have hsz := zBf_sz hB
      have thd := znt (k := hd) (by omega)
      have tsz := znt (k := sz) (by omega)
      refine w_load (pc' := 32) (v := .int (zn hd)) (m := 2) (ykc_72 (e := (2, .iload 6, 0)) rfl) rfl rfl ?_
      refine w_load (pc' := 34) (v := .int (zn sz)) (m := 2) (ykc_72 (e := (2, .iload 5, 0)) rfl) rfl rfl ?_
      refine w_ige (ykc_72 (e := (4, .if_icmp .ge 133, 167)) rfl) rfl (fun b1314 => ?_) (fun b1314 => ?_)
      · refine w_ret (v := none) (ykc_72 (e := (7, .return_, 0)) rfl) (zr_v rfl) ?_
        rw [hQ]
        exact ⟨rfl, hf1, aw, qu, hd, sz, hB, by omega, ha⟩
      · refine w_load (pc' := 39) (v := .int (zn hd)) (m := 2) (ykc_72 (e := (2, .iload 6, 0)) rfl) rfl rfl ?_
        refine w_push (pc' := 41) (v := .int ((Int8.ofInt 49).toInt32)) (m := 2) (ykc_72 (e := (1, .bipush 49, 0)) rfl) rfl rfl ?_
        refine w_ige (ykc_72 (e := (4, .if_icmp .ge 126, 167)) rfl) rfl (fun q => by exfalso; omega) (fun b1315 => ?_)
        refine w_alu (pc' := 45) (st' := [.int (Int32.ofInt 0)]) (ykc_72 (e := (0, .iconst 0, 0)) rfl) rfl rfl ?_
        refine w_store (pc' := 47) (L' := [some (.ref 160), some (.ref 5), some (.int (zn t)), some (.long x), none, some (.int (zn sz)), some (.int (zn hd)), some (.int (Int32.ofInt 0)), o8, o9]) (st' := []) (m := 2) (ykc_72 (e := (3, .istore 7, 0)) rfl) rfl rfl ?_
        have iho := ih
        have hh : hd < sz := by omega
        have hj : ∀ (n2 : Nat), n2 ≤ n → ∀ (w sz : Nat) (aw qu : Nat → Nat) (o8 o9 : Option Value) (ph2 : pm_H), (w ≤ 8) → (hd < sz) → (zBf R C t fr rk al aw qu hd sz) → (zBw R C fr rk al aw qu hd w) → (zFr [161, 162] [] ph ph2) → (∀ f, f < R * C → zc ph2 161 f = some (.int (zn (aw f)))) → (∀ i, i < sz → zc ph2 162 i = some (.int (zn (qu i)))) → zW n2 D 72 Q 47 [some (.ref 160), some (.ref 5), some (.int (zn t)), some (.long x), none, some (.int (zn sz)), some (.int (zn hd)), some (.int (zn w)), o8, o9] [] ph2 := by
          intro n2
          induction n2 using Nat.strongRecOn with
          | ind n2 ih =>
            intro hlim w sz aw qu o8 o9 ph2 hw hh hB hz hf2 ha hq
            have hsz := zBf_sz hB
            have thd := znt (k := hd) (by omega)
            have tsz := znt (k := sz) (by omega)
            have tw := znt (k := w) (by omega)
            have hS2 := zSh_F hf2 (by decide +kernel) hS0
            have hL2 : zCl ph2 R C rk := zCl_W2 hf2 hL0
            obtain ⟨q1, q2, q3⟩ := hB.i2 hd hh
            have tq := znt (k := qu hd) (by omega)
            refine w_load (pc' := 49) (v := .int (zn w)) (m := 2) (ykc_72 (e := (2, .iload 7, 0)) rfl) rfl rfl ?_
            refine w_push (pc' := 51) (v := .int ((Int8.ofInt 8).toInt32)) (m := 2) (ykc_72 (e := (1, .bipush 8, 0)) rfl) rfl rfl ?_
            refine w_ige (ykc_72 (e := (4, .if_icmp .ge 110, 161)) rfl) rfl (fun b1316 => ?_) (fun b1316 => ?_)
            · have e1317 : (zn hd) + Int32.ofInt 1 = zn (hd + 1) := (zaddN (a := hd) (b := 1) (znt (by omega)) c_4 (by omega))
              have te1317 := znt (k := hd + 1) (by omega)
              refine w_store (pc' := 164) (L' := [some (.ref 160), some (.ref 5), some (.int (zn t)), some (.long x), none, some (.int (zn sz)), some (.int (zn (hd + 1))), some (.int (zn w)), o8, o9]) (st' := []) (m := 3) (ykc_72 (e := (3, .iinc 6 1, 0)) rfl) (by rw [← e1317]; rfl) rfl ?_
              refine w_gb (ykc_72 (e := (4, .goto (-134), 30)) rfl) (fun k1318 hk1318 => ?_)
              obtain rfl : w = 8 := by omega
              exact iho k1318 (by omega) (hd + 1) sz aw qu _ _ _ ph2 (by omega) (zBf_next hB hh hz) hf2 ha hq
            · refine w_load (pc' := 55) (v := .ref 5) (m := 1) (ykc_72 (e := (2, .aload_n kF1, 0)) rfl) rfl rfl ?_
              refine w_load (pc' := 56) (v := .ref 160) (m := 1) (ykc_72 (e := (2, .aload_n kF0, 0)) rfl) rfl rfl ?_
              refine w_gf (pc' := 59) (v := .ref 162) (ykc_72 (e := (5, .getfield 15, 0)) rfl) rfl ((hf2.1 160 1 (by decide) (by decide)).trans (zsg hS zs_160_1)) rfl ?_
              refine w_load (pc' := 61) (v := .int (zn hd)) (m := 2) (ykc_72 (e := (2, .iload 6, 0)) rfl) rfl rfl ?_
              refine w_ialk (pc' := 62) (k := hd) (ykc_72 (e := (5, .iaload, 0)) rfl) (hq hd hh) (by omega) rfl ?_
              refine w_load (pc' := 64) (v := .int (zn w)) (m := 2) (ykc_72 (e := (2, .iload 7, 0)) rfl) rfl rfl ?_
              refine w_cv (as := [.ref 5, .int (zn (qu hd)), .int (zn w)]) (r := []) (ykc_72 (e := (6, .invokevirtual 44, 0)) rfl) rfl rfl rfl rfl (zc_beside hS2 hL2 (f := qu hd) (w := w) q1 (by omega)) (fun v1319 ph1320 hv => ?_)
              obtain ⟨rfl, z, rfl, hz5⟩ := hv
              show zW n2 D 72 Q 67 [some (.ref 160), some (.ref 5), some (.int (zn t)), some (.long x), none, some (.int (zn sz)), some (.int (zn hd)), some (.int (zn w)), o8, o9] [.int z] ph2
              refine w_store (pc' := 69) (L' := [some (.ref 160), some (.ref 5), some (.int (zn t)), some (.long x), none, some (.int (zn sz)), some (.int (zn hd)), some (.int (zn w)), some (.int z), o9]) (st' := []) (m := 2) (ykc_72 (e := (3, .istore 8, 0)) rfl) rfl rfl ?_
              refine w_load (pc' := 71) (v := .int z) (m := 2) (ykc_72 (e := (2, .iload 8, 0)) rfl) rfl rfl ?_
              refine w_zlt (ykc_72 (e := (4, .ifCond .lt 27, 98)) rfl) rfl (fun b1321 => ?_) (fun b1321 => ?_)
              · refine w_alu (pc' := 99) (st' := [.int (Int32.ofInt 0)]) (ykc_72 (e := (0, .iconst 0, 0)) rfl) rfl rfl ?_
                refine w_store (pc' := 101) (L' := [some (.ref 160), some (.ref 5), some (.int (zn t)), some (.long x), none, some (.int (zn sz)), some (.int (zn hd)), some (.int (zn w)), some (.int z), some (.int (Int32.ofInt 0))]) (st' := []) (m := 2) (ykc_72 (e := (3, .istore 9, 0)) rfl) rfl rfl ?_
                refine w_load (pc' := 103) (v := .int (Int32.ofInt 0)) (m := 2) (ykc_72 (e := (2, .iload 9, 0)) rfl) rfl rfl ?_
                refine w_zeq (ykc_72 (e := (4, .ifCond .eq 52, 155)) rfl) rfl (fun b1322 => ?_) (fun q => by exfalso; omega)
                have e1323 : (zn w) + Int32.ofInt 1 = zn (w + 1) := (zaddN (a := w) (b := 1) (znt (by omega)) c_4 (by omega))
                have te1323 := znt (k := w + 1) (by omega)
                refine w_store (pc' := 158) (L' := [some (.ref 160), some (.ref 5), some (.int (zn t)), some (.long x), none, some (.int (zn sz)), some (.int (zn hd)), some (.int (zn (w + 1))), some (.int z), some (.int (Int32.ofInt 0))]) (st' := []) (m := 3) (ykc_72 (e := (3, .iinc 7 1, 0)) rfl) (by rw [← e1323]; rfl) rfl ?_
                refine w_gb (ykc_72 (e := (4, .goto (-111), 47)) rfl) (fun k1324 hk1324 => ?_)
                exact ih k1324 hk1324 (by omega) (w + 1) sz aw qu (some (.int z)) (some (.int (Int32.ofInt 0))) ph2 (by omega) hh hB (zBw_no hz (fun g2 hb2 _ => absurd hb2 (by omega))) hf2 ha hq
              · obtain ⟨g, hg⟩ : ∃ g : Nat, zbk R C rk (qu hd) w = g := ⟨(zbk R C rk (qu hd) w).toNat, by omega⟩
                have hgN : g < R * C := by
                  have h := zbk_lt (R := R) (C := C) (rk := rk) (f := qu hd) (w := w) (by omega)
                  omega
                obtain rfl := zn_of (k := g) (show z.toInt = _ by omega)
                have tg := znt (k := g) (by omega)
                have hag : aw g ≤ 1000 := by
                  by_cases e : aw g = 1000
                  · omega
                  · have := hB.i10 g hgN e
                    omega
                have tag := znt (k := aw g) (by omega)
                show zW n2 D 72 Q 74 [some (.ref 160), some (.ref 5), some (.int (zn t)), some (.long x), none, some (.int (zn sz)), some (.int (zn hd)), some (.int (zn w)), some (.int (zn g)), o9] [] ph2
                refine w_load (pc' := 76) (v := .int (zn g)) (m := 2) (ykc_72 (e := (2, .iload 8, 0)) rfl) rfl rfl ?_
                refine w_push (pc' := 78) (v := .int ((Int8.ofInt 49).toInt32)) (m := 2) (ykc_72 (e := (1, .bipush 49, 0)) rfl) rfl rfl ?_
                refine w_ige (ykc_72 (e := (4, .if_icmp .ge 20, 98)) rfl) rfl (fun q => by exfalso; omega) (fun b1325 => ?_)
                refine w_load (pc' := 82) (v := .ref 160) (m := 1) (ykc_72 (e := (2, .aload_n kF0, 0)) rfl) rfl rfl ?_
                refine w_gf (pc' := 85) (v := .ref 161) (ykc_72 (e := (5, .getfield 9, 0)) rfl) rfl ((hf2.1 160 0 (by decide) (by decide)).trans (zsg hS zs_160_0)) rfl ?_
                refine w_load (pc' := 87) (v := .int (zn g)) (m := 2) (ykc_72 (e := (2, .iload 8, 0)) rfl) rfl rfl ?_
                refine w_ialk (pc' := 88) (k := g) (ykc_72 (e := (5, .iaload, 0)) rfl) (ha g hgN) (by omega) rfl ?_
                refine w_push (pc' := 91) (v := .int ((Int16.ofInt 1000).toInt32)) (m := 3) (ykc_72 (e := (1, .sipush 1000, 0)) rfl) rfl rfl ?_
                refine w_ine (ykc_72 (e := (4, .if_icmp .ne 7, 98)) rfl) rfl (fun b1326 => ?_) (fun b1326 => ?_)
                · refine w_alu (pc' := 99) (st' := [.int (Int32.ofInt 0)]) (ykc_72 (e := (0, .iconst 0, 0)) rfl) rfl rfl ?_
                  refine w_store (pc' := 101) (L' := [some (.ref 160), some (.ref 5), some (.int (zn t)), some (.long x), none, some (.int (zn sz)), some (.int (zn hd)), some (.int (zn w)), some (.int (zn g)), some (.int (Int32.ofInt 0))]) (st' := []) (m := 2) (ykc_72 (e := (3, .istore 9, 0)) rfl) rfl rfl ?_
                  refine w_load (pc' := 103) (v := .int (Int32.ofInt 0)) (m := 2) (ykc_72 (e := (2, .iload 9, 0)) rfl) rfl rfl ?_
                  refine w_zeq (ykc_72 (e := (4, .ifCond .eq 52, 155)) rfl) rfl (fun b1327 => ?_) (fun q => by exfalso; omega)
                  have e1328 : (zn w) + Int32.ofInt 1 = zn (w + 1) := (zaddN (a := w) (b := 1) (znt (by omega)) c_4 (by omega))
                  have te1328 := znt (k := w + 1) (by omega)
                  refine w_store (pc' := 158) (L' := [some (.ref 160), some (.ref 5), some (.int (zn t)), some (.long x), none, some (.int (zn sz)), some (.int (zn hd)), some (.int (zn (w + 1))), some (.int (zn g)), some (.int (Int32.ofInt 0))]) (st' := []) (m := 3) (ykc_72 (e := (3, .iinc 7 1, 0)) rfl) (by rw [← e1328]; rfl) rfl ?_
                  refine w_gb (ykc_72 (e := (4, .goto (-111), 47)) rfl) (fun k1329 hk1329 => ?_)
                  exact ih k1329 hk1329 (by omega) (w + 1) sz aw qu (some (.int (zn g))) (some (.int (Int32.ofInt 0))) ph2 (by omega) hh hB (zBw_no hz (fun g2 hb2 _ => by
                    obtain rfl : g2 = g := by omega
                    exact ⟨by omega, zBf_old hB hh hgN (by omega)⟩)) hf2 ha hq
                · refine w_alu (pc' := 95) (st' := [.int (Int32.ofInt 1)]) (ykc_72 (e := (0, .iconst 1, 0)) rfl) rfl rfl ?_
                  refine w_br (pc' := 99) (st' := [.int (Int32.ofInt 1)]) (ykc_72 (e := (4, .goto 4, 99)) rfl) rfl ?_
                  refine w_store (pc' := 101) (L' := [some (.ref 160), some (.ref 5), some (.int (zn t)), some (.long x), none, some (.int (zn sz)), some (.int (zn hd)), some (.int (zn w)), some (.int (zn g)), some (.int (Int32.ofInt 1))]) (st' := []) (m := 2) (ykc_72 (e := (3, .istore 9, 0)) rfl) rfl rfl ?_
                  refine w_load (pc' := 103) (v := .int (Int32.ofInt 1)) (m := 2) (ykc_72 (e := (2, .iload 9, 0)) rfl) rfl rfl ?_
                  refine w_zeq (ykc_72 (e := (4, .ifCond .eq 52, 155)) rfl) rfl (fun q => by exfalso; omega) (fun b1330 => ?_)
                  refine w_load (pc' := 108) (v := .int (zn sz)) (m := 2) (ykc_72 (e := (2, .iload 5, 0)) rfl) rfl rfl ?_
                  refine w_push (pc' := 110) (v := .int ((Int8.ofInt 49).toInt32)) (m := 2) (ykc_72 (e := (1, .bipush 49, 0)) rfl) rfl rfl ?_
                  have hg1 : aw g = 1000 := by omega
                  have hnw := zBf_new hB hgN hg1
                  refine w_ige (ykc_72 (e := (4, .if_icmp .ge 45, 155)) rfl) rfl (fun q => by exfalso; omega) (fun b1331 => ?_)
                  refine w_load (pc' := 114) (v := .long x) (m := 1) (ykc_72 (e := (2, .lload_n kF3, 0)) rfl) rfl rfl ?_
                  refine w_load (pc' := 116) (v := .int (zn g)) (m := 2) (ykc_72 (e := (2, .iload 8, 0)) rfl) rfl rfl ?_
                  refine w_cs (as := [.long x, .int (zn g)]) (r := []) (ykc_72 (e := (6, .invokestatic 48, 0)) rfl) rfl rfl rfl rfl (zc_has (kn := g) (by omega) (by omega)) (fun v1332 ph1333 hv => ?_)
                  obtain ⟨rfl, rfl⟩ := hv
                  show zW n2 D 72 Q 119 [some (.ref 160), some (.ref 5), some (.int (zn t)), some (.long x), none, some (.int (zn sz)), some (.int (zn hd)), some (.int (zn w)), some (.int (zn g)), some (.int (Int32.ofInt 1))] [.int (zI (zb x g))] ph2
                  refine w_beq (ykc_72 (e := (4, .ifCond .eq 36, 155)) rfl) rfl (fun b1334 => ?_) (fun b1334 => ?_)
                  · have e1335 : (zn w) + Int32.ofInt 1 = zn (w + 1) := (zaddN (a := w) (b := 1) (znt (by omega)) c_4 (by omega))
                    have te1335 := znt (k := w + 1) (by omega)
                    refine w_store (pc' := 158) (L' := [some (.ref 160), some (.ref 5), some (.int (zn t)), some (.long x), none, some (.int (zn sz)), some (.int (zn hd)), some (.int (zn (w + 1))), some (.int (zn g)), some (.int (Int32.ofInt 1))]) (st' := []) (m := 3) (ykc_72 (e := (3, .iinc 7 1, 0)) rfl) (by rw [← e1335]; rfl) rfl ?_
                    refine w_gb (ykc_72 (e := (4, .goto (-111), 47)) rfl) (fun k1336 hk1336 => ?_)
                    exact ih k1336 hk1336 (by omega) (w + 1) sz aw qu (some (.int (zn g))) (some (.int (Int32.ofInt 1))) ph2 (by omega) hh hB (zBw_no hz (fun g2 hb2 hal => by
                      obtain rfl : g2 = g := by omega
                      exact absurd ((hx g2 hgN).mpr hal) (by rw [b1334]; decide))) hf2 ha hq
                  · refine w_load (pc' := 123) (v := .ref 160) (m := 1) (ykc_72 (e := (2, .aload_n kF0, 0)) rfl) rfl rfl ?_
                    refine w_gf (pc' := 126) (v := .ref 161) (ykc_72 (e := (5, .getfield 9, 0)) rfl) rfl ((hf2.1 160 0 (by decide) (by decide)).trans (zsg hS zs_160_0)) rfl ?_
                    refine w_load (pc' := 128) (v := .int (zn g)) (m := 2) (ykc_72 (e := (2, .iload 8, 0)) rfl) rfl rfl ?_
                    refine w_load (pc' := 129) (v := .ref 160) (m := 1) (ykc_72 (e := (2, .aload_n kF0, 0)) rfl) rfl rfl ?_
                    refine w_gf (pc' := 132) (v := .ref 161) (ykc_72 (e := (5, .getfield 9, 0)) rfl) rfl ((hf2.1 160 0 (by decide) (by decide)).trans (zsg hS zs_160_0)) rfl ?_
                    refine w_load (pc' := 133) (v := .ref 160) (m := 1) (ykc_72 (e := (2, .aload_n kF0, 0)) rfl) rfl rfl ?_
                    refine w_gf (pc' := 136) (v := .ref 162) (ykc_72 (e := (5, .getfield 15, 0)) rfl) rfl ((hf2.1 160 1 (by decide) (by decide)).trans (zsg hS zs_160_1)) rfl ?_
                    refine w_load (pc' := 138) (v := .int (zn hd)) (m := 2) (ykc_72 (e := (2, .iload 6, 0)) rfl) rfl rfl ?_
                    refine w_ialk (pc' := 139) (k := hd) (ykc_72 (e := (5, .iaload, 0)) rfl) (hq hd hh) (by omega) rfl ?_
                    have taq := znt (k := aw (qu hd)) (by omega)
                    refine w_ialk (pc' := 140) (k := qu hd) (ykc_72 (e := (5, .iaload, 0)) rfl) (ha (qu hd) q1) (by omega) rfl ?_
                    refine w_alu (pc' := 141) (st' := [.int (Int32.ofInt 1), .int (zn (aw (qu hd))), .int (zn g), .ref 161]) (ykc_72 (e := (0, .iconst 1, 0)) rfl) rfl rfl ?_
                    have e1337 : (zn (aw (qu hd))) + (Int32.ofInt 1) = zn (aw (qu hd) + 1) := (zaddN (a := aw (qu hd)) (b := 1) (znt (by omega)) c_4 (by omega)) 
                    have te1337 := znt (k := aw (qu hd) + 1) (by omega)
                    refine w_alu (pc' := 142) (st' := [.int (zn (aw (qu hd) + 1)), .int (zn g), .ref 161]) (ykc_72 (e := (0, .iadd, 0)) rfl) (by rw [← e1337]; rfl) rfl ?_
                    refine w_ias (pc' := 143) (k := g) (ykc_72 (e := (5, .iastore, 0)) rfl) (by omega) rfl (fun ph1339 u1338 => ?_)
                    refine w_load (pc' := 144) (v := .ref 160) (m := 1) (ykc_72 (e := (2, .aload_n kF0, 0)) rfl) rfl rfl ?_
                    refine w_gf (pc' := 147) (v := .ref 162) (ykc_72 (e := (5, .getfield 15, 0)) rfl) rfl ((u1338.2.1 160 1 (fun q => absurd q.1 (by decide))).trans ((hf2.1 160 1 (by decide) (by decide)).trans (zsg hS zs_160_1))) rfl ?_
                    refine w_load (pc' := 149) (v := .int (zn sz)) (m := 2) (ykc_72 (e := (2, .iload 5, 0)) rfl) rfl rfl ?_
                    refine w_load (pc' := 151) (v := .int (zn g)) (m := 2) (ykc_72 (e := (2, .iload 8, 0)) rfl) rfl rfl ?_
                    refine w_ias (pc' := 152) (k := sz) (ykc_72 (e := (5, .iastore, 0)) rfl) (by omega) rfl (fun ph1341 u1340 => ?_)
                    have e1342 : (zn sz) + Int32.ofInt 1 = zn (sz + 1) := (zaddN (a := sz) (b := 1) (znt (by omega)) c_4 (by omega))
                    have te1342 := znt (k := sz + 1) (by omega)
                    refine w_store (pc' := 155) (L' := [some (.ref 160), some (.ref 5), some (.int (zn t)), some (.long x), none, some (.int (zn (sz + 1))), some (.int (zn hd)), some (.int (zn w)), some (.int (zn g)), some (.int (Int32.ofInt 1))]) (st' := []) (m := 3) (ykc_72 (e := (3, .iinc 5 1, 0)) rfl) (by rw [← e1342]; rfl) rfl ?_
                    have e1343 : (zn w) + Int32.ofInt 1 = zn (w + 1) := (zaddN (a := w) (b := 1) (znt (by omega)) c_4 (by omega))
                    have te1343 := znt (k := w + 1) (by omega)
                    refine w_store (pc' := 158) (L' := [some (.ref 160), some (.ref 5), some (.int (zn t)), some (.long x), none, some (.int (zn (sz + 1))), some (.int (zn hd)), some (.int (zn (w + 1))), some (.int (zn g)), some (.int (Int32.ofInt 1))]) (st' := []) (m := 3) (ykc_72 (e := (3, .iinc 7 1, 0)) rfl) (by rw [← e1343]; rfl) rfl ?_
                    refine w_gb (ykc_72 (e := (4, .goto (-111), 47)) rfl) (fun k1344 hk1344 => ?_)
                    obtain ⟨hB2, hz2⟩ := zBf_add hB hN (by omega) hh (show w < 8 by omega) hg hg1 ((hx g hgN).mp b1334) hz
                    exact ih k1344 hk1344 (by omega) (w + 1) (sz + 1) _ _ (some (.int (zn g))) (some (.int (Int32.ofInt 1))) ph1341 (by omega) (by omega) hB2 hz2 (zFr_add (zFr_add hf2 u1338 (Or.inl (by simp))) u1340 (Or.inl (by simp))) (fun f hf => by
                      rw [u1340.2.1 161 f (fun q => absurd q.1 (by decide))]
                      by_cases e : f = g
                      · subst e
                        rw [zUp_e]
                        exact u1338.1
                      · rw [zUp_n e]
                        exact (u1338.2.1 161 f (fun q => e q.2)).trans (ha f hf)) (fun i hi => by
                      by_cases e : i = sz
                      · subst e
                        rw [zUp_e]
                        exact u1340.1
                      · rw [zUp_n e, u1340.2.1 162 i (fun q => e q.2), u1338.2.1 162 i (fun q => absurd q.1 (by decide))]
                        exact hq i (by omega))
        exact hj n (Nat.le_refl _) 0 sz aw qu _ _ ph1 (Nat.zero_le 8) hh hB (fun u hu => absurd hu (Nat.not_lt_zero u)) hf1 ha hq
  exact hl n 0 1 _ _ _ _ _ ph1313 (by omega) hB0 hf0 ha0 hq0
theorem zc_find {ph : pm_H} {R C : Nat} {rk : Nat → Bool} (hS : zSh ph) (hL : zCl ph R C rk) {t fr : Nat} {x : Int64} {al : Nat → Bool} (hfr : fr < R * C) (ht : t < R * C) (hx : ∀ g, g < R * C → zb x g = al g) : zM 71 [.ref 160, .ref 5, .int (zn fr), .int (zn t), .long x] ph (fun v0 _ => zWy R C t fr (fun g => al g = true ∧ rk g = false) rk (Int32.ofInt (-1)) v0) := by
  obtain ⟨Q, hQ⟩ : ∃ Q : Option Value → pm_H → Prop, Q = (fun v0 _ => zWy R C t fr (fun g => al g = true ∧ rk g = false) rk (Int32.ofInt (-1)) v0) := ⟨_, rfl⟩
  rw [← hQ]
  refine zM_mk fun n D => ?_
  show zW n D 71 Q 0 [some (.ref 160), some (.ref 5), some (.int (zn fr)), some (.int (zn t)), some (.long x), none, none, none, none] [] ph
  have c_0 : ((Int16.ofInt 1000).toInt32).toInt = 1000 := by decide
  have c_1 : ((Int8.ofInt 49).toInt32).toInt = 49 := by decide
  have c_2 : (Int32.ofInt (-1)).toInt = -1 := by decide
  have c_3 : (Int32.ofInt 0).toInt = 0 := by decide
  have c_4 : (Int32.ofInt 1).toInt = 1 := by decide
  have hC3 : 3 ≤ C := hL.2.2.2.2.2.2.2.1
  have hN : R * C ≤ 49 := zRC49 hL.2.2.2.2.2.2.1 hL.2.2.2.2.2.2.2.2
  have tt := znt (k := t) (by omega)
  have tf := znt (k := fr) (by omega)
  refine w_load (pc' := 1) (v := .ref 5) (m := 1) (ykc_71 (e := (2, .aload_n kF1, 0)) rfl) rfl rfl ?_
  refine w_load (pc' := 2) (v := .int (zn fr)) (m := 1) (ykc_71 (e := (2, .iload_n kF2, 0)) rfl) rfl rfl ?_
  refine w_cv (as := [.ref 5, .int (zn fr)]) (r := []) (ykc_71 (e := (6, .invokevirtual 21, 0)) rfl) rfl rfl rfl rfl (zc_holds hS hL (f := zn fr)) (fun v1345 ph1346 hv => ?_)
  obtain ⟨rfl, rfl⟩ := hv
  show zW n D 71 Q 5 [some (.ref 160), some (.ref 5), some (.int (zn fr)), some (.int (zn t)), some (.long x), none, none, none, none] [.int (zI (decide (0 ≤ (zn fr).toInt ∧ (zn fr).toInt < ((R * C : Nat) : Int))))] ph
  refine w_beq (ykc_71 (e := (4, .ifCond .eq 15, 20)) rfl) rfl (fun q => by have := of_decide_eq_false q; omega) (fun b1347 => ?_)
  refine w_load (pc' := 9) (v := .ref 5) (m := 1) (ykc_71 (e := (2, .aload_n kF1, 0)) rfl) rfl rfl ?_
  refine w_load (pc' := 10) (v := .int (zn t)) (m := 1) (ykc_71 (e := (2, .iload_n kF3, 0)) rfl) rfl rfl ?_
  refine w_cv (as := [.ref 5, .int (zn t)]) (r := []) (ykc_71 (e := (6, .invokevirtual 21, 0)) rfl) rfl rfl rfl rfl (zc_holds hS hL (f := zn t)) (fun v1348 ph1349 hv => ?_)
  obtain ⟨rfl, rfl⟩ := hv
  show zW n D 71 Q 13 [some (.ref 160), some (.ref 5), some (.int (zn fr)), some (.int (zn t)), some (.long x), none, none, none, none] [.int (zI (decide (0 ≤ (zn t).toInt ∧ (zn t).toInt < ((R * C : Nat) : Int))))] ph
  refine w_beq (ykc_71 (e := (4, .ifCond .eq 7, 20)) rfl) rfl (fun q => by have := of_decide_eq_false q; omega) (fun b1350 => ?_)
  refine w_alu (pc' := 17) (st' := [.int (Int32.ofInt 1)]) (ykc_71 (e := (0, .iconst 1, 0)) rfl) rfl rfl ?_
  refine w_br (pc' := 21) (st' := [.int (Int32.ofInt 1)]) (ykc_71 (e := (4, .goto 4, 21)) rfl) rfl ?_
  refine w_store (pc' := 23) (L' := [some (.ref 160), some (.ref 5), some (.int (zn fr)), some (.int (zn t)), some (.long x), none, some (.int (Int32.ofInt 1)), none, none]) (st' := []) (m := 2) (ykc_71 (e := (3, .istore 6, 0)) rfl) rfl rfl ?_
  refine w_load (pc' := 25) (v := .int (Int32.ofInt 1)) (m := 2) (ykc_71 (e := (2, .iload 6, 0)) rfl) rfl rfl ?_
  refine w_zeq (ykc_71 (e := (4, .ifCond .eq 19, 44)) rfl) rfl (fun q => by exfalso; omega) (fun b1351 => ?_)
  refine w_load (pc' := 29) (v := .ref 5) (m := 1) (ykc_71 (e := (2, .aload_n kF1, 0)) rfl) rfl rfl ?_
  refine w_load (pc' := 30) (v := .int (zn fr)) (m := 1) (ykc_71 (e := (2, .iload_n kF2, 0)) rfl) rfl rfl ?_
  refine w_cv (as := [.ref 5, .int (zn fr)]) (r := []) (ykc_71 (e := (6, .invokevirtual 27, 0)) rfl) rfl rfl rfl rfl (zc_rock hS hL (f := zn fr) (by omega)) (fun v1352 ph1353 hv => ?_)
  obtain ⟨rfl, rfl⟩ := hv
  rw [show (decide (0 ≤ (zn fr).toInt) && rk (zn fr).toInt.toNat) = rk fr from by rw [decide_eq_true (by omega), Bool.true_and, show (zn fr).toInt.toNat = fr by omega]]
  show zW n D 71 Q 33 [some (.ref 160), some (.ref 5), some (.int (zn fr)), some (.int (zn t)), some (.long x), none, some (.int (Int32.ofInt 1)), none, none] [.int (zI (rk fr))] ph
  refine w_bne (ykc_71 (e := (4, .ifCond .ne 11, 44)) rfl) rfl (fun b1354 => ?_) (fun b1354 => ?_)
  · refine w_alu (pc' := 45) (st' := [.int (Int32.ofInt (-1))]) (ykc_71 (e := (0, .iconst (-1), 0)) rfl) rfl rfl ?_
    refine w_ret (v := (some (.int (Int32.ofInt (-1))))) (ykc_71 (e := (7, .ireturn, 0)) rfl) (zr_v rfl) ?_
    rw [hQ]
    show zWy R C t fr (fun g => al g = true ∧ rk g = false) rk (Int32.ofInt (-1)) _
    unfold zWy
    exact (if_pos (Or.inl b1354)).mpr rfl
  · refine w_load (pc' := 37) (v := .ref 5) (m := 1) (ykc_71 (e := (2, .aload_n kF1, 0)) rfl) rfl rfl ?_
    refine w_load (pc' := 38) (v := .int (zn t)) (m := 1) (ykc_71 (e := (2, .iload_n kF3, 0)) rfl) rfl rfl ?_
    refine w_cv (as := [.ref 5, .int (zn t)]) (r := []) (ykc_71 (e := (6, .invokevirtual 27, 0)) rfl) rfl rfl rfl rfl (zc_rock hS hL (f := zn t) (by omega)) (fun v1355 ph1356 hv => ?_)
    obtain ⟨rfl, rfl⟩ := hv
    rw [show (decide (0 ≤ (zn t).toInt) && rk (zn t).toInt.toNat) = rk t from by rw [decide_eq_true (by omega), Bool.true_and, show (zn t).toInt.toNat = t by omega]]
    show zW n D 71 Q 41 [some (.ref 160), some (.ref 5), some (.int (zn fr)), some (.int (zn t)), some (.long x), none, some (.int (Int32.ofInt 1)), none, none] [.int (zI (rk t))] ph
    refine w_beq (ykc_71 (e := (4, .ifCond .eq 5, 46)) rfl) rfl (fun b1357 => ?_) (fun b1357 => ?_)
    · refine w_load (pc' := 47) (v := .ref 160) (m := 1) (ykc_71 (e := (2, .aload_n kF0, 0)) rfl) rfl rfl ?_
      refine w_load (pc' := 48) (v := .ref 5) (m := 1) (ykc_71 (e := (2, .aload_n kF1, 0)) rfl) rfl rfl ?_
      refine w_load (pc' := 49) (v := .int (zn t)) (m := 1) (ykc_71 (e := (2, .iload_n kF3, 0)) rfl) rfl rfl ?_
      refine w_load (pc' := 51) (v := .long x) (m := 2) (ykc_71 (e := (2, .lload 4, 0)) rfl) rfl rfl ?_
      refine w_alu (pc' := 52) (st' := [.long (Int64.ofNat kG1), .long x, .int (zn t), .ref 5, .ref 160]) (ykc_71 (e := (0, .lconst kG1, 0)) rfl) rfl rfl ?_
      refine w_load (pc' := 53) (v := .int (zn fr)) (m := 1) (ykc_71 (e := (2, .iload_n kF2, 0)) rfl) rfl rfl ?_
      refine w_alu (pc' := 54) (st' := [.long ((Int64.ofNat kG1) <<< ((zn fr).toInt64 &&& 63)), .long x, .int (zn t), .ref 5, .ref 160]) (ykc_71 (e := (0, .lshl, 0)) rfl) rfl rfl ?_
      refine w_alu (pc' := 55) (st' := [.long (x ||| ((Int64.ofNat kG1) <<< ((zn fr).toInt64 &&& 63))), .int (zn t), .ref 5, .ref 160]) (ykc_71 (e := (0, .lor, 0)) rfl) rfl rfl ?_
      have hrf := b1354
      have hrt := b1357
      refine w_cv (as := [.ref 160, .ref 5, .int (zn t), .long (x ||| ((Int64.ofNat kG1) <<< ((zn fr).toInt64 &&& 63)))]) (r := []) (ykc_71 (e := (6, .invokevirtual 30, 0)) rfl) rfl rfl rfl rfl (zc_measure (fr := fr) (al := al) hS hL ht hrt (fun g hg => by rw [zb_or, zsh1b fr (by omega) g (by omega), hx g hg]; cases al g <;> simp)) (fun v1358 ph1359 hv => ?_)
      obtain ⟨rfl, f7, aw, qu, hd, sz, hB, hs, ha⟩ := hv
      have hfin := zBf_fr hB hN (by omega) hs ht hrt hfr hrf
      have haw : aw fr ≤ 1000 := by rcases hfin with h | h <;> omega
      have taw := znt (k := aw fr) (by omega)
      show zW n D 71 Q 58 [some (.ref 160), some (.ref 5), some (.int (zn fr)), some (.int (zn t)), some (.long x), none, some (.int (Int32.ofInt 1)), none, none] [] ph1359
      refine w_load (pc' := 59) (v := .ref 160) (m := 1) (ykc_71 (e := (2, .aload_n kF0, 0)) rfl) rfl rfl ?_
      refine w_gf (pc' := 62) (v := .ref 161) (ykc_71 (e := (5, .getfield 9, 0)) rfl) rfl ((f7.1 160 0 (by decide) (by decide)).trans (zsg hS zs_160_0)) rfl ?_
      refine w_load (pc' := 63) (v := .int (zn fr)) (m := 1) (ykc_71 (e := (2, .iload_n kF2, 0)) rfl) rfl rfl ?_
      refine w_ialk (pc' := 64) (k := fr) (ykc_71 (e := (5, .iaload, 0)) rfl) (ha fr hfr) (by omega) rfl ?_
      refine w_store (pc' := 66) (L' := [some (.ref 160), some (.ref 5), some (.int (zn fr)), some (.int (zn t)), some (.long x), none, some (.int (Int32.ofInt 1)), some (.int (zn (aw fr))), none]) (st' := []) (m := 2) (ykc_71 (e := (3, .istore 7, 0)) rfl) rfl rfl ?_
      refine w_load (pc' := 68) (v := .int (zn (aw fr))) (m := 2) (ykc_71 (e := (2, .iload 7, 0)) rfl) rfl rfl ?_
      refine w_push (pc' := 71) (v := .int ((Int16.ofInt 1000).toInt32)) (m := 3) (ykc_71 (e := (1, .sipush 1000, 0)) rfl) rfl rfl ?_
      refine w_ilt (ykc_71 (e := (4, .if_icmp .lt 5, 76)) rfl) rfl (fun b1360 => ?_) (fun b1360 => ?_)
      · rw [hQ]
        exact zTail kc_71 false 7 76 9999 (fun _ => rfl) (Or.inl ⟨_, rfl⟩) (by decide +kernel) (by decide) (by decide) rfl (by decide +kernel) (fun _ => (show zWy R C t fr (fun g => al g = true ∧ rk g = false) rk (Int32.ofInt (-1)) (some (.int (zn (aw fr)))) from by
          unfold zWy
          rw [if_neg (by rw [hrf, hrt]; decide)]
          rcases hfin with ⟨h1, h2⟩ | ⟨h1, h2, h3⟩
          · exact absurd h1 (by omega)
          · exact Or.inl ⟨aw fr, h1, h2, h3, rfl⟩))
      · refine w_alu (pc' := 75) (st' := [.int (Int32.ofInt (-1))]) (ykc_71 (e := (0, .iconst (-1), 0)) rfl) rfl rfl ?_
        refine w_ret (v := (some (.int (Int32.ofInt (-1))))) (ykc_71 (e := (7, .ireturn, 0)) rfl) (zr_v rfl) ?_
        rw [hQ]
        show zWy R C t fr (fun g => al g = true ∧ rk g = false) rk (Int32.ofInt (-1)) _
        unfold zWy
        rw [if_neg (by rw [hrf, hrt]; decide)]
        rcases hfin with ⟨h1, h2⟩ | ⟨h1, -⟩
        · exact Or.inr ⟨h2, rfl⟩
        · exact absurd h1 (by omega)
    · refine w_alu (pc' := 45) (st' := [.int (Int32.ofInt (-1))]) (ykc_71 (e := (0, .iconst (-1), 0)) rfl) rfl rfl ?_
      refine w_ret (v := (some (.int (Int32.ofInt (-1))))) (ykc_71 (e := (7, .ireturn, 0)) rfl) (zr_v rfl) ?_
      rw [hQ]
      show zWy R C t fr (fun g => al g = true ∧ rk g = false) rk (Int32.ofInt (-1)) _
      unfold zWy
      exact (if_pos (Or.inr b1357)).mpr rfl
def zBk (E : zEn) (al : Nat → Bool) (x y : Int32) (v0 : Option Value) : Prop := if (0 ≤ x.toInt ∧ x.toInt < ((E.1 * E.2.1 : Nat) : Int)) ∧ 0 ≤ y.toInt ∧ y.toInt < ((E.1 * E.2.1 : Nat) : Int) then zWy E.1 E.2.1 y.toInt.toNat x.toInt.toNat (fun g => al g = true ∧ E.2.2.1 g = false) E.2.2.1 (Int8.ofInt (-2)).toInt32 v0 else v0 = some (.int (Int32.ofInt (-1)))
theorem zWy_2 {R C gl fr : Nat} {ov : Nat → Prop} {rk : Nat → Bool} {z : Int32} (hN : R * C ≤ 49) (h : zWy R C gl fr ov rk (Int32.ofInt (-1)) (some (.int z))) (hz : z.toInt < 0) : zWy R C gl fr ov rk (Int8.ofInt (-2)).toInt32 (some (.int (Int8.ofInt (-2)).toInt32)) := by
  unfold zWy at h ⊢
  by_cases e : rk fr = true ∨ rk gl = true
  · rw [if_pos e]
  · rw [if_neg e] at h ⊢
    rcases h with ⟨k, h1, h2, h3, h4⟩ | ⟨h1, -⟩
    · have e2 := Value.int.inj (Option.some.inj h4)
      have t := znt (k := k) (by omega)
      rw [← e2] at t
      exact absurd t (by omega)
    · exact Or.inr ⟨h1, rfl⟩
theorem zWy_3 {R C gl fr : Nat} {ov : Nat → Prop} {rk : Nat → Bool} {z : Int32} (h : zWy R C gl fr ov rk (Int32.ofInt (-1)) (some (.int z))) (hz : 0 ≤ z.toInt) : zWy R C gl fr ov rk (Int8.ofInt (-2)).toInt32 (some (.int z)) := by
  have no : ¬ z = Int32.ofInt (-1) := fun e => by rw [e] at hz; exact absurd hz (by decide)
  unfold zWy at h ⊢
  by_cases e : rk fr = true ∨ rk gl = true
  · rw [if_pos e] at h
    exact absurd (Value.int.inj (Option.some.inj h)) no
  · rw [if_neg e] at h ⊢
    rcases h with h | ⟨-, h⟩
    · exact Or.inl h
    · exact absurd (Value.int.inj (Option.some.inj h)) no
theorem zBk_n {E : zEn} {al : Nat → Bool} {x y : Int32} (h : ¬ ((0 ≤ x.toInt ∧ x.toInt < ((E.1 * E.2.1 : Nat) : Int)) ∧ 0 ≤ y.toInt ∧ y.toInt < ((E.1 * E.2.1 : Nat) : Int))) : zBk E al x y (some (.int (Int32.ofInt (-1)))) := by
  unfold zBk
  rw [if_neg h]
theorem zBk_p {R C sn cn : Nat} {rk : Nat → Bool} {sk cd : Nat → Nat} {al : Nat → Bool} {f t : Nat} {v0 : Option Value} (hN : R * C ≤ 49) (hf : f < R * C) (ht : t < R * C) (h : zWy R C t f (fun g => al g = true ∧ rk g = false) rk (Int8.ofInt (-2)).toInt32 v0) : zBk (R, C, rk, sn, sk, cn, cd) al (zn f) (zn t) v0 := by
  have t1 := znt (k := f) (by omega)
  have t2 := znt (k := t) (by omega)
  unfold zBk
  rw [if_pos (show (0 ≤ (zn f).toInt ∧ (zn f).toInt < ((R * C : Nat) : Int)) ∧ 0 ≤ (zn t).toInt ∧ (zn t).toInt < ((R * C : Nat) : Int) by omega), show (zn f).toInt.toNat = f by omega, show (zn t).toInt.toNat = t by omega]
  exact h
theorem zWy_i {R C gl fr : Nat} {ov : Nat → Prop} {rk : Nat → Bool} {no : Int32} {v : Option Value} (h : zWy R C gl fr ov rk no v) : ∃ z, v = some (.int z) := by
  unfold zWy at h
  by_cases e : rk fr = true ∨ rk gl = true
  · rw [if_pos e] at h
    exact ⟨_, h⟩
  · rw [if_neg e] at h
    rcases h with ⟨k, -, -, -, h⟩ | ⟨-, h⟩
    · exact ⟨_, h⟩
    · exact ⟨_, h⟩
theorem zc_backX {ph : pm_H} {E : zEn} {F P G : Nat} {v : Nat → Nat} (hS : zSh ph) (hE : zCe ph E F) (ht : zCt ph 25 P G v) (hO : zOk E.1 E.2.1 P G v) (hr : zc ph 10 1 = some (.ref F)) (hc : zCc ph E.1 E.2.1 E.2.2.1) {x y : Int32} : zM 164 [.ref 0, .int x, .int y] ph (fun v0 _ => zBk E (fun g => !(zb (zAll E P v) g)) x y v0) := by
  obtain ⟨Q, hQ⟩ : ∃ Q : Option Value → pm_H → Prop, Q = (fun v0 _ => zBk E (fun g => !(zb (zAll E P v) g)) x y v0) := ⟨_, rfl⟩
  rw [← hQ]
  refine zM_mk fun n D => ?_
  show zW n D 164 Q 0 [some (.ref 0), some (.int x), some (.int y), none, none] [] ph
  have c_0 : ((Int8.ofInt (-2)).toInt32).toInt = -2 := by decide
  have c_1 : (Int32.ofInt (-1)).toInt = -1 := by decide
  have c_2 : (Int32.ofInt 0).toInt = 0 := by decide
  have c_3 : (Int32.ofInt 1).toInt = 1 := by decide
  obtain ⟨R, C, rk, sn, sk, cn, cd⟩ := E
  have hL0 : zCl ph R C rk := hE.1
  have hi0 : zCi ph sn sk := hE.2.1
  have hF : F = 11 ∨ F = 16 := hE.2.2.2
  have hE0 : zCe ph (R, C, rk, sn, sk, cn, cd) F := hE
  have hO0 : zOk R C P G v := hO
  have hL := hL0
  have hs := ht.1.2
  have hd := ht.2
  have h25 := ht.1.1
  obtain ⟨gR, gC, gN, gK, gA, hR3, hR7, hC3, hC7⟩ := hL
  have hRC := zRC49 hR7 hC7
  have tR := znt (k := R) (by omega)
  have tC := znt (k := C) (by omega)
  have tRC := znt (k := R * C) (by omega)
  have hd0 := hd
  have hs0 := hs
  obtain ⟨r3, r4, r5, r6, r7, l1, l2, l3, l4, l5⟩ := hs
  obtain ⟨gP, hP8, gG, hG8, gH, gv, gw⟩ := hd
  have tP := znt (k := P) (by omega)
  have tG := znt (k := G) (by omega)
  have h40 := hO0.2.2
  have t40 := znt (k := v 40) (by omega)
  have hc0 := hc
  have hN9 : R * C ≤ 49 := zRC49 hE0.1.2.2.2.2.2.2.1 hE0.1.2.2.2.2.2.2.2.2
  refine w_load (pc' := 1) (v := .ref 0) (m := 1) (ykc_164 (e := (2, .aload_n kF0, 0)) rfl) rfl rfl ?_
  refine w_gf (pc' := 4) (v := .ref 5) (ykc_164 (e := (5, .getfield 26, 0)) rfl) rfl (zsg hS zs_0_2) rfl ?_
  refine w_load (pc' := 5) (v := .int x) (m := 1) (ykc_164 (e := (2, .iload_n kF1, 0)) rfl) rfl rfl ?_
  refine w_cv (as := [.ref 5, .int x]) (r := []) (ykc_164 (e := (6, .invokevirtual 302, 0)) rfl) rfl rfl rfl rfl (zc_holds hS hL0 (f := x)) (fun v1361 ph1362 hv => ?_)
  obtain ⟨rfl, rfl⟩ := hv
  show zW n D 164 Q 8 [some (.ref 0), some (.int x), some (.int y), none, none] [.int (zI (decide (0 ≤ x.toInt ∧ x.toInt < ((R * C : Nat) : Int))))] ph
  refine w_beq (ykc_164 (e := (4, .ifCond .eq 14, 22)) rfl) rfl (fun b1363 => ?_) (fun b1363 => ?_)
  · refine w_alu (pc' := 23) (st' := [.int (Int32.ofInt (-1))]) (ykc_164 (e := (0, .iconst (-1), 0)) rfl) rfl rfl ?_
    refine w_ret (v := (some (.int (Int32.ofInt (-1))))) (ykc_164 (e := (7, .ireturn, 0)) rfl) (zr_v rfl) ?_
    rw [hQ]
    exact zBk_n (E := (R, C, rk, sn, sk, cn, cd)) (fun q => absurd q.1 (of_decide_eq_false b1363))
  · refine w_load (pc' := 12) (v := .ref 0) (m := 1) (ykc_164 (e := (2, .aload_n kF0, 0)) rfl) rfl rfl ?_
    refine w_gf (pc' := 15) (v := .ref 5) (ykc_164 (e := (5, .getfield 26, 0)) rfl) rfl (zsg hS zs_0_2) rfl ?_
    refine w_load (pc' := 16) (v := .int y) (m := 1) (ykc_164 (e := (2, .iload_n kF2, 0)) rfl) rfl rfl ?_
    refine w_cv (as := [.ref 5, .int y]) (r := []) (ykc_164 (e := (6, .invokevirtual 302, 0)) rfl) rfl rfl rfl rfl (zc_holds hS hL0 (f := y)) (fun v1364 ph1365 hv => ?_)
    obtain ⟨rfl, rfl⟩ := hv
    show zW n D 164 Q 19 [some (.ref 0), some (.int x), some (.int y), none, none] [.int (zI (decide (0 ≤ y.toInt ∧ y.toInt < ((R * C : Nat) : Int))))] ph
    refine w_bne (ykc_164 (e := (4, .ifCond .ne 5, 24)) rfl) rfl (fun b1366 => ?_) (fun b1366 => ?_)
    · have b_x := of_decide_eq_true b1363
      have b_y := of_decide_eq_true b1366
      obtain ⟨f, h_f, rfl⟩ : ∃ k : Nat, k < R * C ∧ x = zn k := ⟨x.toInt.toNat, by omega, zn_of (by omega)⟩
      obtain ⟨t, h_t, rfl⟩ : ∃ k : Nat, k < R * C ∧ y = zn k := ⟨y.toInt.toNat, by omega, zn_of (by omega)⟩
      have tf := znt (k := f) (by omega)
      have tt := znt (k := t) (by omega)
      show zW n D 164 Q 24 [some (.ref 0), some (.int (zn f)), some (.int (zn t)), none, none] [] ph
      refine w_load (pc' := 25) (v := .ref 0) (m := 1) (ykc_164 (e := (2, .aload_n kF0, 0)) rfl) rfl rfl ?_
      refine w_gf (pc' := 28) (v := .ref 160) (ykc_164 (e := (5, .getfield 76, 0)) rfl) rfl (zsg hS zs_0_10) rfl ?_
      refine w_load (pc' := 29) (v := .ref 0) (m := 1) (ykc_164 (e := (2, .aload_n kF0, 0)) rfl) rfl rfl ?_
      refine w_gf (pc' := 32) (v := .ref 5) (ykc_164 (e := (5, .getfield 26, 0)) rfl) rfl (zsg hS zs_0_2) rfl ?_
      refine w_load (pc' := 33) (v := .int (zn f)) (m := 1) (ykc_164 (e := (2, .iload_n kF1, 0)) rfl) rfl rfl ?_
      refine w_load (pc' := 34) (v := .int (zn t)) (m := 1) (ykc_164 (e := (2, .iload_n kF2, 0)) rfl) rfl rfl ?_
      refine w_load (pc' := 35) (v := .ref 0) (m := 1) (ykc_164 (e := (2, .aload_n kF0, 0)) rfl) rfl rfl ?_
      refine w_gf (pc' := 38) (v := .ref 10) (ykc_164 (e := (5, .getfield 35, 0)) rfl) rfl (zsg hS zs_0_3) rfl ?_
      refine w_load (pc' := 39) (v := .ref 0) (m := 1) (ykc_164 (e := (2, .aload_n kF0, 0)) rfl) rfl rfl ?_
      refine w_gf (pc' := 42) (v := .ref 25) (ykc_164 (e := (5, .getfield 42, 0)) rfl) rfl (zsg hS zs_0_4) rfl ?_
      refine w_cv (as := [.ref 10, .ref 25]) (r := [.int (zn t), .int (zn f), .ref 5, .ref 160]) (ykc_164 (e := (6, .invokevirtual 208, 0)) rfl) rfl rfl rfl rfl (zc_lookR hS hE0 ht hO0 hr hc0) (fun v1369 ph1370 hv => ?_)
      obtain ⟨f1367, hc1368, hvw, rfl⟩ := hv
      show zW n D 164 Q 45 [some (.ref 0), some (.int (zn f)), some (.int (zn t)), none, none] [.long (zAll (R, C, rk, sn, sk, cn, cd) P v), .int (zn t), .int (zn f), .ref 5, .ref 160] ph1370
      refine w_push (pc' := 48) (v := .long (-1 : Int64)) (m := 3) (ykc_164 (e := (1, .ldc2_w 94, 0)) rfl) rfl rfl ?_
      refine w_alu (pc' := 49) (st' := [.long ((zAll (R, C, rk, sn, sk, cn, cd) P v) ^^^ (-1 : Int64)), .int (zn t), .int (zn f), .ref 5, .ref 160]) (ykc_164 (e := (0, .lxor, 0)) rfl) rfl rfl ?_
      refine w_cv (as := [.ref 160, .ref 5, .int (zn f), .int (zn t), .long ((zAll (R, C, rk, sn, sk, cn, cd) P v) ^^^ (-1 : Int64))]) (r := []) (ykc_164 (e := (6, .invokevirtual 371, 0)) rfl) rfl rfl rfl rfl (zc_find (zCx_S f1367 hS) (zCx_e f1367 hE0).1 (fr := f) (t := t) (x := (zAll (R, C, rk, sn, sk, cn, cd) P v) ^^^ (-1 : Int64)) (al := (fun g => !(zb (zAll (R, C, rk, sn, sk, cn, cd) P v) g))) h_f h_t (fun g hg => by rw [zb_xor, zbm1 g (Nat.lt_of_lt_of_le (show g < R * C from hg) (Nat.le_trans hRC (by decide)))]; show _ = !(zb (zAll (R, C, rk, sn, sk, cn, cd) P v) g); cases zb (zAll (R, C, rk, sn, sk, cn, cd) P v) g <;> rfl)) (fun v1371 ph1372 hv => ?_)
      have hv9 := hv
      obtain ⟨z, rfl⟩ := zWy_i hv9
      show zW n D 164 Q 52 [some (.ref 0), some (.int (zn f)), some (.int (zn t)), none, none] [.int z] ph1372
      refine w_store (pc' := 53) (L' := [some (.ref 0), some (.int (zn f)), some (.int (zn t)), some (.int z), none]) (st' := []) (m := 1) (ykc_164 (e := (3, .istore_n kF3, 0)) rfl) rfl rfl ?_
      refine w_load (pc' := 54) (v := .int z) (m := 1) (ykc_164 (e := (2, .iload_n kF3, 0)) rfl) rfl rfl ?_
      refine w_zge (ykc_164 (e := (4, .ifCond .ge 6, 60)) rfl) rfl (fun b1373 => ?_) (fun b1373 => ?_)
      · rw [hQ]
        exact zTail kc_164 false 3 60 9999 (fun _ => rfl) (Or.inl ⟨_, rfl⟩) (by decide +kernel) (by decide) (by decide) rfl (by decide +kernel) (fun _ => (show zBk (R, C, rk, sn, sk, cn, cd) (fun g => !(zb (zAll (R, C, rk, sn, sk, cn, cd) P v) g)) (zn f) (zn t) (some (.int z)) from zBk_p hN9 h_f h_t (zWy_3 hv9 (by omega))))
      · refine w_push (pc' := 59) (v := .int ((Int8.ofInt (-2)).toInt32)) (m := 2) (ykc_164 (e := (1, .bipush (-2), 0)) rfl) rfl rfl ?_
        refine w_ret (v := (some (.int ((Int8.ofInt (-2)).toInt32)))) (ykc_164 (e := (7, .ireturn, 0)) rfl) (zr_v rfl) ?_
        rw [hQ]
        exact zBk_p hN9 h_f h_t (zWy_2 hN9 hv9 (by omega))
    · refine w_alu (pc' := 23) (st' := [.int (Int32.ofInt (-1))]) (ykc_164 (e := (0, .iconst (-1), 0)) rfl) rfl rfl ?_
      refine w_ret (v := (some (.int (Int32.ofInt (-1))))) (ykc_164 (e := (7, .ireturn, 0)) rfl) (zr_v rfl) ?_
      rw [hQ]
      exact zBk_n (E := (R, C, rk, sn, sk, cn, cd)) (fun q => absurd q.2 (of_decide_eq_false b1366))
theorem zc_openX {ph : pm_H} {E : zEn} {F P G : Nat} {v : Nat → Nat} (hS : zSh ph) (hE : zCe ph E F) (ht : zCt ph 25 P G v) (hO : zOk E.1 E.2.1 P G v) (hr : zc ph 10 1 = some (.ref F)) (hc : zCc ph E.1 E.2.1 E.2.2.1) {x y : Int32} : zM 165 [.ref 0, .int x, .int y] ph (fun v0 _ => zBk E (fun _ => true) x y v0) := by
  obtain ⟨Q, hQ⟩ : ∃ Q : Option Value → pm_H → Prop, Q = (fun v0 _ => zBk E (fun _ => true) x y v0) := ⟨_, rfl⟩
  rw [← hQ]
  refine zM_mk fun n D => ?_
  show zW n D 165 Q 0 [some (.ref 0), some (.int x), some (.int y), none, none, none, none, none] [] ph
  have c_0 : ((Int8.ofInt (-2)).toInt32).toInt = -2 := by decide
  have c_1 : (Int32.ofInt (-1)).toInt = -1 := by decide
  have c_2 : (Int32.ofInt 0).toInt = 0 := by decide
  have c_3 : (Int32.ofInt 1).toInt = 1 := by decide
  obtain ⟨R, C, rk, sn, sk, cn, cd⟩ := E
  have hL0 : zCl ph R C rk := hE.1
  have hi0 : zCi ph sn sk := hE.2.1
  have hF : F = 11 ∨ F = 16 := hE.2.2.2
  have hE0 : zCe ph (R, C, rk, sn, sk, cn, cd) F := hE
  have hO0 : zOk R C P G v := hO
  have hL := hL0
  have hs := ht.1.2
  have hd := ht.2
  have h25 := ht.1.1
  obtain ⟨gR, gC, gN, gK, gA, hR3, hR7, hC3, hC7⟩ := hL
  have hRC := zRC49 hR7 hC7
  have tR := znt (k := R) (by omega)
  have tC := znt (k := C) (by omega)
  have tRC := znt (k := R * C) (by omega)
  have hd0 := hd
  have hs0 := hs
  obtain ⟨r3, r4, r5, r6, r7, l1, l2, l3, l4, l5⟩ := hs
  obtain ⟨gP, hP8, gG, hG8, gH, gv, gw⟩ := hd
  have tP := znt (k := P) (by omega)
  have tG := znt (k := G) (by omega)
  have h40 := hO0.2.2
  have t40 := znt (k := v 40) (by omega)
  have hc0 := hc
  have hN9 : R * C ≤ 49 := zRC49 hE0.1.2.2.2.2.2.2.1 hE0.1.2.2.2.2.2.2.2.2
  refine w_load (pc' := 1) (v := .ref 0) (m := 1) (ykc_165 (e := (2, .aload_n kF0, 0)) rfl) rfl rfl ?_
  refine w_gf (pc' := 4) (v := .ref 5) (ykc_165 (e := (5, .getfield 26, 0)) rfl) rfl (zsg hS zs_0_2) rfl ?_
  refine w_load (pc' := 5) (v := .int x) (m := 1) (ykc_165 (e := (2, .iload_n kF1, 0)) rfl) rfl rfl ?_
  refine w_cv (as := [.ref 5, .int x]) (r := []) (ykc_165 (e := (6, .invokevirtual 302, 0)) rfl) rfl rfl rfl rfl (zc_holds hS hL0 (f := x)) (fun v1374 ph1375 hv => ?_)
  obtain ⟨rfl, rfl⟩ := hv
  show zW n D 165 Q 8 [some (.ref 0), some (.int x), some (.int y), none, none, none, none, none] [.int (zI (decide (0 ≤ x.toInt ∧ x.toInt < ((R * C : Nat) : Int))))] ph
  refine w_beq (ykc_165 (e := (4, .ifCond .eq 14, 22)) rfl) rfl (fun b1376 => ?_) (fun b1376 => ?_)
  · refine w_alu (pc' := 23) (st' := [.int (Int32.ofInt (-1))]) (ykc_165 (e := (0, .iconst (-1), 0)) rfl) rfl rfl ?_
    refine w_ret (v := (some (.int (Int32.ofInt (-1))))) (ykc_165 (e := (7, .ireturn, 0)) rfl) (zr_v rfl) ?_
    rw [hQ]
    exact zBk_n (E := (R, C, rk, sn, sk, cn, cd)) (fun q => absurd q.1 (of_decide_eq_false b1376))
  · refine w_load (pc' := 12) (v := .ref 0) (m := 1) (ykc_165 (e := (2, .aload_n kF0, 0)) rfl) rfl rfl ?_
    refine w_gf (pc' := 15) (v := .ref 5) (ykc_165 (e := (5, .getfield 26, 0)) rfl) rfl (zsg hS zs_0_2) rfl ?_
    refine w_load (pc' := 16) (v := .int y) (m := 1) (ykc_165 (e := (2, .iload_n kF2, 0)) rfl) rfl rfl ?_
    refine w_cv (as := [.ref 5, .int y]) (r := []) (ykc_165 (e := (6, .invokevirtual 302, 0)) rfl) rfl rfl rfl rfl (zc_holds hS hL0 (f := y)) (fun v1377 ph1378 hv => ?_)
    obtain ⟨rfl, rfl⟩ := hv
    show zW n D 165 Q 19 [some (.ref 0), some (.int x), some (.int y), none, none, none, none, none] [.int (zI (decide (0 ≤ y.toInt ∧ y.toInt < ((R * C : Nat) : Int))))] ph
    refine w_bne (ykc_165 (e := (4, .ifCond .ne 5, 24)) rfl) rfl (fun b1379 => ?_) (fun b1379 => ?_)
    · have b_x := of_decide_eq_true b1376
      have b_y := of_decide_eq_true b1379
      obtain ⟨f, h_f, rfl⟩ : ∃ k : Nat, k < R * C ∧ x = zn k := ⟨x.toInt.toNat, by omega, zn_of (by omega)⟩
      obtain ⟨t, h_t, rfl⟩ : ∃ k : Nat, k < R * C ∧ y = zn k := ⟨y.toInt.toNat, by omega, zn_of (by omega)⟩
      have tf := znt (k := f) (by omega)
      have tt := znt (k := t) (by omega)
      show zW n D 165 Q 24 [some (.ref 0), some (.int (zn f)), some (.int (zn t)), none, none, none, none, none] [] ph
      refine w_load (pc' := 25) (v := .ref 0) (m := 1) (ykc_165 (e := (2, .aload_n kF0, 0)) rfl) rfl rfl ?_
      refine w_gf (pc' := 28) (v := .ref 160) (ykc_165 (e := (5, .getfield 76, 0)) rfl) rfl (zsg hS zs_0_10) rfl ?_
      refine w_load (pc' := 29) (v := .ref 0) (m := 1) (ykc_165 (e := (2, .aload_n kF0, 0)) rfl) rfl rfl ?_
      refine w_gf (pc' := 32) (v := .ref 5) (ykc_165 (e := (5, .getfield 26, 0)) rfl) rfl (zsg hS zs_0_2) rfl ?_
      refine w_load (pc' := 33) (v := .int (zn f)) (m := 1) (ykc_165 (e := (2, .iload_n kF1, 0)) rfl) rfl rfl ?_
      refine w_load (pc' := 34) (v := .int (zn t)) (m := 1) (ykc_165 (e := (2, .iload_n kF2, 0)) rfl) rfl rfl ?_
      refine w_push (pc' := 37) (v := .long (-1 : Int64)) (m := 3) (ykc_165 (e := (1, .ldc2_w 94, 0)) rfl) rfl rfl ?_
      refine w_cv (as := [.ref 160, .ref 5, .int (zn f), .int (zn t), .long (-1 : Int64)]) (r := []) (ykc_165 (e := (6, .invokevirtual 371, 0)) rfl) rfl rfl rfl rfl (zc_find hS hE0.1 (fr := f) (t := t) (x := (-1 : Int64)) (al := (fun _ => true)) h_f h_t (fun g hg => zbm1 g (Nat.lt_of_lt_of_le (show g < R * C from hg) (Nat.le_trans hRC (by decide))))) (fun v1380 ph1381 hv => ?_)
      have hv9 := hv
      obtain ⟨z, rfl⟩ := zWy_i hv9
      show zW n D 165 Q 40 [some (.ref 0), some (.int (zn f)), some (.int (zn t)), none, none, none, none, none] [.int z] ph1381
      refine w_store (pc' := 41) (L' := [some (.ref 0), some (.int (zn f)), some (.int (zn t)), some (.int z), none, none, none, none]) (st' := []) (m := 1) (ykc_165 (e := (3, .istore_n kF3, 0)) rfl) rfl rfl ?_
      refine w_load (pc' := 42) (v := .int z) (m := 1) (ykc_165 (e := (2, .iload_n kF3, 0)) rfl) rfl rfl ?_
      refine w_zge (ykc_165 (e := (4, .ifCond .ge 6, 48)) rfl) rfl (fun b1382 => ?_) (fun b1382 => ?_)
      · rw [hQ]
        exact zTail kc_165 false 3 48 9999 (fun _ => rfl) (Or.inl ⟨_, rfl⟩) (by decide +kernel) (by decide) (by decide) rfl (by decide +kernel) (fun _ => (show zBk (R, C, rk, sn, sk, cn, cd) (fun _ => true) (zn f) (zn t) (some (.int z)) from zBk_p hN9 h_f h_t (zWy_3 hv9 (by omega))))
      · refine w_push (pc' := 47) (v := .int ((Int8.ofInt (-2)).toInt32)) (m := 2) (ykc_165 (e := (1, .bipush (-2), 0)) rfl) rfl rfl ?_
        refine w_ret (v := (some (.int ((Int8.ofInt (-2)).toInt32)))) (ykc_165 (e := (7, .ireturn, 0)) rfl) (zr_v rfl) ?_
        rw [hQ]
        exact zBk_p hN9 h_f h_t (zWy_2 hN9 hv9 (by omega))
    · refine w_alu (pc' := 23) (st' := [.int (Int32.ofInt (-1))]) (ykc_165 (e := (0, .iconst (-1), 0)) rfl) rfl rfl ?_
      refine w_ret (v := (some (.int (Int32.ofInt (-1))))) (ykc_165 (e := (7, .ireturn, 0)) rfl) (zr_v rfl) ?_
      rw [hQ]
      exact zBk_n (E := (R, C, rk, sn, sk, cn, cd)) (fun q => absurd q.2 (of_decide_eq_false b1379))
theorem zMl_f {A : List Nat} {F : List (Nat × Nat)} {p q : pm_H} {R C : Nat} {rk : Nat → Bool} (f : zFr A F p q) (h : zMl p R C rk) (h1 : (170, 3) ∉ F ∧ (170, 4) ∉ F ∧ ∀ i, (172, i) ∉ F) (h2 : 170 ∉ A ∧ 172 ∉ A) : zMl q R C rk := zMl_F f h1.1 h1.2.1 h1.2.2 h2 h
theorem zUp_s {f : Nat → Nat} {i : Nat} : zUp f i (f i) = f := by
  funext j
  by_cases e : j = i
  · subst e; exact zUp_e
  · exact zUp_n e
theorem z1e6 : (1000000 : Int32) = zn 1000000 := by decide
theorem zm_lays {ph : pm_H} {R C : Nat} {rk : Nat → Bool} (hS : zSh ph) (hL : zMl ph R C rk) {fr gl : Nat} {x : Int64} {ov : Nat → Prop} (hfr : fr < R * C) (hgl : gl < R * C) (hx : ∀ g, g < R * C → (zb x g = true ↔ ov g)) : zM 279 [.ref 170, .int (zn fr), .int (zn gl), .long x] ph (fun v0 q => v0 = none ∧ zFr [192] [] ph q ∧ ∃ fa, zFi R C gl fr ov fa (R * C) 0 0 ∧ ∀ f, f < R * C → zc q 192 f = some (.int (zn (fa f)))) := by
  obtain ⟨Q, hQ⟩ : ∃ Q : Option Value → pm_H → Prop, Q = (fun v0 q => v0 = none ∧ zFr [192] [] ph q ∧ ∃ fa, zFi R C gl fr ov fa (R * C) 0 0 ∧ ∀ f, f < R * C → zc q 192 f = some (.int (zn (fa f)))) := ⟨_, rfl⟩
  rw [← hQ]
  refine zM_mk fun n D => ?_
  show zW n D 279 Q 0 [some (.ref 170), some (.int (zn fr)), some (.int (zn gl)), some (.long x), none, none, none, none, none, none] [] ph
  have c_0 : ((1000000 : Int32)).toInt = 1000000 := by decide
  have c_1 : ((Int8.ofInt 8).toInt32).toInt = 8 := by decide
  have c_2 : (Int32.ofInt 0).toInt = 0 := by decide
  have c_3 : (Int32.ofInt 1).toInt = 1 := by decide
  have hC3 : 3 ≤ C := hL.2.2.2.2.2.1
  have hN : R * C ≤ 49 := zRC49 hL.2.2.2.2.1 hL.2.2.2.2.2.2
  have tgl := znt (k := gl) (by omega)
  have tfr := znt (k := fr) (by omega)
  have hS0 := hS
  have hL0 := hL
  refine w_alu (pc' := 1) (st' := [.int (Int32.ofInt 0)]) (ykc_279 (e := (0, .iconst 0, 0)) rfl) rfl rfl ?_
  refine w_store (pc' := 3) (L' := [some (.ref 170), some (.int (zn fr)), some (.int (zn gl)), some (.long x), none, some (.int (Int32.ofInt 0)), none, none, none, none]) (st' := []) (m := 2) (ykc_279 (e := (3, .istore 5, 0)) rfl) rfl rfl ?_
  have ha : ∀ (n : Nat), ∀ (f : Nat) (o6 o7 o8 o9 : Option Value) (ph1 : pm_H), (f ≤ R * C) → (zFr [192] [] ph ph1) → (∀ g, g < f → zc ph1 192 g = some (.int (zn (if g = gl then 0 else 1000000)))) → zW n D 279 Q 3 [some (.ref 170), some (.int (zn fr)), some (.int (zn gl)), some (.long x), none, some (.int (zn f)), o6, o7, o8, o9] [] ph1 := by
    intro n
    induction n using Nat.strongRecOn with
    | ind n ih =>
      intro f o6 o7 o8 o9 ph1 hf hf1 hi
      have tf := znt (k := f) (by omega)
      have hS1 := zSh_F hf1 (by decide +kernel) hS0
      have hL1 := zMl_f hf1 hL0 (by simp) (by simp)
      refine w_load (pc' := 5) (v := .int (zn f)) (m := 2) (ykc_279 (e := (2, .iload 5, 0)) rfl) rfl rfl ?_
      refine w_load (pc' := 6) (v := .ref 170) (m := 1) (ykc_279 (e := (2, .aload_n kF0, 0)) rfl) rfl rfl ?_
      refine w_cv (as := [.ref 170]) (r := [.int (zn f)]) (ykc_279 (e := (6, .invokevirtual 122, 0)) rfl) rfl rfl rfl rfl (zm_fields hS1 hL1) (fun v1383 ph1384 hv => ?_)
      obtain ⟨rfl, rfl⟩ := hv
      have tRC := znt (k := R * C) (by omega)
      show zW n D 279 Q 9 [some (.ref 170), some (.int (zn fr)), some (.int (zn gl)), some (.long x), none, some (.int (zn f)), o6, o7, o8, o9] [.int (zn (R * C)), .int (zn f)] ph1
      refine w_ige (ykc_279 (e := (4, .if_icmp .ge 29, 38)) rfl) rfl (fun b1385 => ?_) (fun b1385 => ?_)
      · obtain rfl : f = R * C := by omega
        have hI0 := zFi_0 (R := R) (C := C) (gl := gl) (fr := fr) (ov := ov) (fa := fun g => if g = gl then 0 else 1000000) (fun f hf => rfl)
        refine w_alu (pc' := 39) (st' := [.int (Int32.ofInt 0)]) (ykc_279 (e := (0, .iconst 0, 0)) rfl) rfl rfl ?_
        refine w_store (pc' := 41) (L' := [some (.ref 170), some (.int (zn fr)), some (.int (zn gl)), some (.long x), none, some (.int (Int32.ofInt 0)), o6, o7, o8, o9]) (st' := []) (m := 2) (ykc_279 (e := (3, .istore 5, 0)) rfl) rfl rfl ?_
        have hb : ∀ (n2 : Nat), ∀ (n0 : Nat) (fa : Nat → Nat) (o6 o7 o8 o9 : Option Value) (ph2 : pm_H), (n0 ≤ R * C) → (zFr [192] [] ph ph2) → (zFi R C gl fr ov fa n0 0 0) → (∀ f, f < R * C → zc ph2 192 f = some (.int (zn (fa f)))) → zW n2 D 279 Q 41 [some (.ref 170), some (.int (zn fr)), some (.int (zn gl)), some (.long x), none, some (.int (zn n0)), o6, o7, o8, o9] [] ph2 := by
          intro n2
          induction n2 using Nat.strongRecOn with
          | ind n2 ih =>
            intro n0 fa o6 o7 o8 o9 ph2 hn hf2 hI ha
            have tn := znt (k := n0) (by omega)
            have hS2 := zSh_F hf2 (by decide +kernel) hS0
            have hL2 := zMl_f hf2 hL0 (by simp) (by simp)
            refine w_load (pc' := 43) (v := .int (zn n0)) (m := 2) (ykc_279 (e := (2, .iload 5, 0)) rfl) rfl rfl ?_
            refine w_load (pc' := 44) (v := .ref 170) (m := 1) (ykc_279 (e := (2, .aload_n kF0, 0)) rfl) rfl rfl ?_
            refine w_cv (as := [.ref 170]) (r := [.int (zn n0)]) (ykc_279 (e := (6, .invokevirtual 122, 0)) rfl) rfl rfl rfl rfl (zm_fields hS2 hL2) (fun v1386 ph1387 hv => ?_)
            obtain ⟨rfl, rfl⟩ := hv
            have tRC := znt (k := R * C) (by omega)
            show zW n2 D 279 Q 47 [some (.ref 170), some (.int (zn fr)), some (.int (zn gl)), some (.long x), none, some (.int (zn n0)), o6, o7, o8, o9] [.int (zn (R * C)), .int (zn n0)] ph2
            refine w_ige (ykc_279 (e := (4, .if_icmp .ge 136, 183)) rfl) rfl (fun b1388 => ?_) (fun b1388 => ?_)
            · refine w_ret (v := none) (ykc_279 (e := (7, .return_, 0)) rfl) (zr_v rfl) ?_
              obtain rfl : n0 = R * C := by omega
              rw [hQ]
              exact ⟨rfl, hf2, fa, hI, ha⟩
            · refine w_alu (pc' := 51) (st' := [.int (Int32.ofInt 0)]) (ykc_279 (e := (0, .iconst 0, 0)) rfl) rfl rfl ?_
              refine w_store (pc' := 53) (L' := [some (.ref 170), some (.int (zn fr)), some (.int (zn gl)), some (.long x), none, some (.int (zn n0)), some (.int (Int32.ofInt 0)), o7, o8, o9]) (st' := []) (m := 2) (ykc_279 (e := (3, .istore 6, 0)) rfl) rfl rfl ?_
              have iho := ih
              have hc : ∀ (n3 : Nat), n3 ≤ n2 → ∀ (f : Nat) (fa : Nat → Nat) (o7 o8 o9 : Option Value) (ph3 : pm_H), (f ≤ R * C) → (zFr [192] [] ph ph3) → (zFi R C gl fr ov fa n0 f 0) → (∀ f, f < R * C → zc ph3 192 f = some (.int (zn (fa f)))) → zW n3 D 279 Q 53 [some (.ref 170), some (.int (zn fr)), some (.int (zn gl)), some (.long x), none, some (.int (zn n0)), some (.int (zn f)), o7, o8, o9] [] ph3 := by
                intro n3
                induction n3 using Nat.strongRecOn with
                | ind n3 ih =>
                  intro hlim f fa o7 o8 o9 ph3 hf hf3 hI ha
                  have tf := znt (k := f) (by omega)
                  have hS3 := zSh_F hf3 (by decide +kernel) hS0
                  have hL3 := zMl_f hf3 hL0 (by simp) (by simp)
                  refine w_load (pc' := 55) (v := .int (zn f)) (m := 2) (ykc_279 (e := (2, .iload 6, 0)) rfl) rfl rfl ?_
                  refine w_load (pc' := 56) (v := .ref 170) (m := 1) (ykc_279 (e := (2, .aload_n kF0, 0)) rfl) rfl rfl ?_
                  refine w_cv (as := [.ref 170]) (r := [.int (zn f)]) (ykc_279 (e := (6, .invokevirtual 122, 0)) rfl) rfl rfl rfl rfl (zm_fields hS3 hL3) (fun v1389 ph1390 hv => ?_)
                  obtain ⟨rfl, rfl⟩ := hv
                  have tRC := znt (k := R * C) (by omega)
                  show zW n3 D 279 Q 59 [some (.ref 170), some (.int (zn fr)), some (.int (zn gl)), some (.long x), none, some (.int (zn n0)), some (.int (zn f)), o7, o8, o9] [.int (zn (R * C)), .int (zn f)] ph3
                  refine w_ige (ykc_279 (e := (4, .if_icmp .ge 118, 177)) rfl) rfl (fun b1391 => ?_) (fun b1391 => ?_)
                  · have e1392 : (zn n0) + Int32.ofInt 1 = zn (n0 + 1) := (zaddN (a := n0) (b := 1) (znt (by omega)) c_3 (by omega))
                    have te1392 := znt (k := n0 + 1) (by omega)
                    refine w_store (pc' := 180) (L' := [some (.ref 170), some (.int (zn fr)), some (.int (zn gl)), some (.long x), none, some (.int (zn (n0 + 1))), some (.int (zn f)), o7, o8, o9]) (st' := []) (m := 3) (ykc_279 (e := (3, .iinc 5 1, 0)) rfl) (by rw [← e1392]; rfl) rfl ?_
                    refine w_gb (ykc_279 (e := (4, .goto (-139), 41)) rfl) (fun k1393 hk1393 => ?_)
                    exact iho k1393 (by omega) (n0 + 1) fa _ _ _ _ ph3 (by omega) hf3 (zFi_n hI (by omega)) ha
                  · refine w_alu (pc' := 63) (st' := [.int (Int32.ofInt 0)]) (ykc_279 (e := (0, .iconst 0, 0)) rfl) rfl rfl ?_
                    refine w_store (pc' := 65) (L' := [some (.ref 170), some (.int (zn fr)), some (.int (zn gl)), some (.long x), none, some (.int (zn n0)), some (.int (zn f)), some (.int (Int32.ofInt 0)), o8, o9]) (st' := []) (m := 2) (ykc_279 (e := (3, .istore 7, 0)) rfl) rfl rfl ?_
                    have ihs := ih
                    have hfN : f < R * C := by omega
                    have hd : ∀ (n4 : Nat), n4 ≤ n3 → ∀ (w : Nat) (fa : Nat → Nat) (o8 o9 : Option Value) (ph4 : pm_H), (w ≤ 8) → (zFr [192] [] ph ph4) → (zFi R C gl fr ov fa n0 f w) → (∀ f, f < R * C → zc ph4 192 f = some (.int (zn (fa f)))) → zW n4 D 279 Q 65 [some (.ref 170), some (.int (zn fr)), some (.int (zn gl)), some (.long x), none, some (.int (zn n0)), some (.int (zn f)), some (.int (zn w)), o8, o9] [] ph4 := by
                      intro n4
                      induction n4 using Nat.strongRecOn with
                      | ind n4 ih =>
                        intro hlim w fa o8 o9 ph4 hw hf4 hI ha
                        have tw := znt (k := w) (by omega)
                        have hS4 := zSh_F hf4 (by decide +kernel) hS0
                        have hL4 := zMl_f hf4 hL0 (by simp) (by simp)
                        have lf := hI.t f hfN
                        have tff := znt (k := fa f) (by omega)
                        refine w_load (pc' := 67) (v := .int (zn w)) (m := 2) (ykc_279 (e := (2, .iload 7, 0)) rfl) rfl rfl ?_
                        refine w_push (pc' := 69) (v := .int ((Int8.ofInt 8).toInt32)) (m := 2) (ykc_279 (e := (1, .bipush 8, 0)) rfl) rfl rfl ?_
                        refine w_ige (ykc_279 (e := (4, .if_icmp .ge 102, 171)) rfl) rfl (fun b1394 => ?_) (fun b1394 => ?_)
                        · have e1395 : (zn f) + Int32.ofInt 1 = zn (f + 1) := (zaddN (a := f) (b := 1) (znt (by omega)) c_3 (by omega))
                          have te1395 := znt (k := f + 1) (by omega)
                          refine w_store (pc' := 174) (L' := [some (.ref 170), some (.int (zn fr)), some (.int (zn gl)), some (.long x), none, some (.int (zn n0)), some (.int (zn (f + 1))), some (.int (zn w)), o8, o9]) (st' := []) (m := 3) (ykc_279 (e := (3, .iinc 6 1, 0)) rfl) (by rw [← e1395]; rfl) rfl ?_
                          refine w_gb (ykc_279 (e := (4, .goto (-121), 53)) rfl) (fun k1396 hk1396 => ?_)
                          obtain rfl : w = 8 := by omega
                          exact ihs k1396 (by omega) (by omega) (f + 1) fa _ _ _ ph4 (by omega) hf4 (zFi_f hI hfN) ha
                        · refine w_load (pc' := 73) (v := .ref 170) (m := 1) (ykc_279 (e := (2, .aload_n kF0, 0)) rfl) rfl rfl ?_
                          refine w_load (pc' := 75) (v := .int (zn f)) (m := 2) (ykc_279 (e := (2, .iload 6, 0)) rfl) rfl rfl ?_
                          refine w_load (pc' := 77) (v := .int (zn w)) (m := 2) (ykc_279 (e := (2, .iload 7, 0)) rfl) rfl rfl ?_
                          refine w_cv (as := [.ref 170, .int (zn f), .int (zn w)]) (r := []) (ykc_279 (e := (6, .invokevirtual 353, 0)) rfl) rfl rfl rfl rfl (zm_beside hS4 hL4 (f := f) (w := w) hfN (by omega)) (fun v1397 ph1398 hv => ?_)
                          obtain ⟨rfl, z, rfl, hz⟩ := hv
                          have hzb := @zbf_b R C f w
                          show zW n4 D 279 Q 80 [some (.ref 170), some (.int (zn fr)), some (.int (zn gl)), some (.long x), none, some (.int (zn n0)), some (.int (zn f)), some (.int (zn w)), o8, o9] [.int z] ph4
                          refine w_store (pc' := 82) (L' := [some (.ref 170), some (.int (zn fr)), some (.int (zn gl)), some (.long x), none, some (.int (zn n0)), some (.int (zn f)), some (.int (zn w)), some (.int z), o9]) (st' := []) (m := 2) (ykc_279 (e := (3, .istore 8, 0)) rfl) rfl rfl ?_
                          refine w_load (pc' := 84) (v := .int z) (m := 2) (ykc_279 (e := (2, .iload 8, 0)) rfl) rfl rfl ?_
                          refine w_zlt (ykc_279 (e := (4, .ifCond .lt 37, 121)) rfl) rfl (fun b1399 => ?_) (fun b1399 => ?_)
                          · refine w_alu (pc' := 122) (st' := [.int (Int32.ofInt 0)]) (ykc_279 (e := (0, .iconst 0, 0)) rfl) rfl rfl ?_
                            refine w_store (pc' := 124) (L' := [some (.ref 170), some (.int (zn fr)), some (.int (zn gl)), some (.long x), none, some (.int (zn n0)), some (.int (zn f)), some (.int (zn w)), some (.int z), some (.int (Int32.ofInt 0))]) (st' := []) (m := 2) (ykc_279 (e := (3, .istore 9, 0)) rfl) rfl rfl ?_
                            refine w_load (pc' := 125) (v := .ref 170) (m := 1) (ykc_279 (e := (2, .aload_n kF0, 0)) rfl) rfl rfl ?_
                            refine w_gf (pc' := 128) (v := .ref 192) (ykc_279 (e := (5, .getfield 95, 0)) rfl) rfl ((hf4.1 170 38 (by decide) (by decide)).trans (zsg hS zs_170_38)) rfl ?_
                            refine w_load (pc' := 130) (v := .int (zn f)) (m := 2) (ykc_279 (e := (2, .iload 6, 0)) rfl) rfl rfl ?_
                            refine w_load (pc' := 132) (v := .int (Int32.ofInt 0)) (m := 2) (ykc_279 (e := (2, .iload 9, 0)) rfl) rfl rfl ?_
                            refine w_zeq (ykc_279 (e := (4, .ifCond .eq 25, 157)) rfl) rfl (fun b1400 => ?_) (fun q => by exfalso; omega)
                            refine w_load (pc' := 158) (v := .ref 170) (m := 1) (ykc_279 (e := (2, .aload_n kF0, 0)) rfl) rfl rfl ?_
                            refine w_gf (pc' := 161) (v := .ref 192) (ykc_279 (e := (5, .getfield 95, 0)) rfl) rfl ((hf4.1 170 38 (by decide) (by decide)).trans (zsg hS zs_170_38)) rfl ?_
                            refine w_load (pc' := 163) (v := .int (zn f)) (m := 2) (ykc_279 (e := (2, .iload 6, 0)) rfl) rfl rfl ?_
                            refine w_ialk (pc' := 164) (k := f) (ykc_279 (e := (5, .iaload, 0)) rfl) (ha f hfN) (by omega) rfl ?_
                            refine w_ias (pc' := 165) (k := f) (ykc_279 (e := (5, .iastore, 0)) rfl) (by omega) rfl (fun ph1402 u1401 => ?_)
                            have e1403 : (zn w) + Int32.ofInt 1 = zn (w + 1) := (zaddN (a := w) (b := 1) (znt (by omega)) c_3 (by omega))
                            have te1403 := znt (k := w + 1) (by omega)
                            refine w_store (pc' := 168) (L' := [some (.ref 170), some (.int (zn fr)), some (.int (zn gl)), some (.long x), none, some (.int (zn n0)), some (.int (zn f)), some (.int (zn (w + 1))), some (.int z), some (.int (Int32.ofInt 0))]) (st' := []) (m := 3) (ykc_279 (e := (3, .iinc 7 1, 0)) rfl) (by rw [← e1403]; rfl) rfl ?_
                            refine w_gb (ykc_279 (e := (4, .goto (-103), 65)) rfl) (fun k1404 hk1404 => ?_)
                            have hI2 := zFi_no hI (fun q => by
                              have h9 : zbf R C f w = (zto C f w : Nat) := if_pos q.1
                              omega)
                            exact ih k1404 hk1404 (by omega) (w + 1) fa _ _ ph1402 (by omega) (zFr_trans hf4 (zFr_st u1401 (Or.inl (by simp)))) hI2 (fun h hh => by
                              by_cases e : h = f
                              · subst e
                                exact u1401.1
                              · exact (u1401.2.1 192 h (fun q => e q.2)).trans (ha h hh))
                          · have hin : zin R C f w = true := by
                              cases e : zin R C f w with
                              | true => rfl
                              | false =>
                                unfold zbf at hz
                                rw [e, if_neg (by decide)] at hz
                                omega
                            have hto : zbf R C f w = (zto C f w : Nat) := if_pos hin
                            obtain ⟨g, hg⟩ : ∃ g, zto C f w = g := ⟨_, rfl⟩
                            rw [hg] at hto
                            have hgN : g < R * C := by rw [← hg]; exact zto_lt hin
                            obtain rfl := zn_of (k := g) (show z.toInt = _ by omega)
                            have tg := znt (k := g) (by omega)
                            have lg := hI.t g hgN
                            have tfg := znt (k := fa g) (by omega)
                            show zW n4 D 279 Q 87 [some (.ref 170), some (.int (zn fr)), some (.int (zn gl)), some (.long x), none, some (.int (zn n0)), some (.int (zn f)), some (.int (zn w)), some (.int (zn g)), o9] [] ph4
                            refine w_load (pc' := 89) (v := .int (zn f)) (m := 2) (ykc_279 (e := (2, .iload 6, 0)) rfl) rfl rfl ?_
                            refine w_load (pc' := 90) (v := .int (zn fr)) (m := 1) (ykc_279 (e := (2, .iload_n kF1, 0)) rfl) rfl rfl ?_
                            refine w_ieq (ykc_279 (e := (4, .if_icmp .eq 12, 102)) rfl) rfl (fun b1405 => ?_) (fun b1405 => ?_)
                            · refine w_load (pc' := 104) (v := .int (zn g)) (m := 2) (ykc_279 (e := (2, .iload 8, 0)) rfl) rfl rfl ?_
                              refine w_load (pc' := 105) (v := .int (zn gl)) (m := 1) (ykc_279 (e := (2, .iload_n kF2, 0)) rfl) rfl rfl ?_
                              refine w_ieq (ykc_279 (e := (4, .if_icmp .eq 12, 117)) rfl) rfl (fun b1406 => ?_) (fun b1406 => ?_)
                              · refine w_alu (pc' := 118) (st' := [.int (Int32.ofInt 1)]) (ykc_279 (e := (0, .iconst 1, 0)) rfl) rfl rfl ?_
                                refine w_br (pc' := 122) (st' := [.int (Int32.ofInt 1)]) (ykc_279 (e := (4, .goto 4, 122)) rfl) rfl ?_
                                refine w_store (pc' := 124) (L' := [some (.ref 170), some (.int (zn fr)), some (.int (zn gl)), some (.long x), none, some (.int (zn n0)), some (.int (zn f)), some (.int (zn w)), some (.int (zn g)), some (.int (Int32.ofInt 1))]) (st' := []) (m := 2) (ykc_279 (e := (3, .istore 9, 0)) rfl) rfl rfl ?_
                                refine w_load (pc' := 125) (v := .ref 170) (m := 1) (ykc_279 (e := (2, .aload_n kF0, 0)) rfl) rfl rfl ?_
                                refine w_gf (pc' := 128) (v := .ref 192) (ykc_279 (e := (5, .getfield 95, 0)) rfl) rfl ((hf4.1 170 38 (by decide) (by decide)).trans (zsg hS zs_170_38)) rfl ?_
                                refine w_load (pc' := 130) (v := .int (zn f)) (m := 2) (ykc_279 (e := (2, .iload 6, 0)) rfl) rfl rfl ?_
                                refine w_load (pc' := 132) (v := .int (Int32.ofInt 1)) (m := 2) (ykc_279 (e := (2, .iload 9, 0)) rfl) rfl rfl ?_
                                refine w_zeq (ykc_279 (e := (4, .ifCond .eq 25, 157)) rfl) rfl (fun q => by exfalso; omega) (fun b1407 => ?_)
                                refine w_load (pc' := 136) (v := .ref 170) (m := 1) (ykc_279 (e := (2, .aload_n kF0, 0)) rfl) rfl rfl ?_
                                refine w_gf (pc' := 139) (v := .ref 192) (ykc_279 (e := (5, .getfield 95, 0)) rfl) rfl ((hf4.1 170 38 (by decide) (by decide)).trans (zsg hS zs_170_38)) rfl ?_
                                refine w_load (pc' := 141) (v := .int (zn f)) (m := 2) (ykc_279 (e := (2, .iload 6, 0)) rfl) rfl rfl ?_
                                refine w_ialk (pc' := 142) (k := f) (ykc_279 (e := (5, .iaload, 0)) rfl) (ha f hfN) (by omega) rfl ?_
                                refine w_load (pc' := 143) (v := .ref 170) (m := 1) (ykc_279 (e := (2, .aload_n kF0, 0)) rfl) rfl rfl ?_
                                refine w_gf (pc' := 146) (v := .ref 192) (ykc_279 (e := (5, .getfield 95, 0)) rfl) rfl ((hf4.1 170 38 (by decide) (by decide)).trans (zsg hS zs_170_38)) rfl ?_
                                refine w_load (pc' := 148) (v := .int (zn g)) (m := 2) (ykc_279 (e := (2, .iload 8, 0)) rfl) rfl rfl ?_
                                refine w_ialk (pc' := 149) (k := g) (ykc_279 (e := (5, .iaload, 0)) rfl) (ha g hgN) (by omega) rfl ?_
                                refine w_alu (pc' := 150) (st' := [.int (Int32.ofInt 1), .int (zn (fa g)), .int (zn (fa f)), .int (zn f), .ref 192]) (ykc_279 (e := (0, .iconst 1, 0)) rfl) rfl rfl ?_
                                have e1408 : (zn (fa g)) + (Int32.ofInt 1) = zn (fa g + 1) := (zaddN (a := fa g) (b := 1) (znt (by omega)) c_3 (by omega)) 
                                have te1408 := znt (k := fa g + 1) (by omega)
                                refine w_alu (pc' := 151) (st' := [.int (zn (fa g + 1)), .int (zn (fa f)), .int (zn f), .ref 192]) (ykc_279 (e := (0, .iadd, 0)) rfl) (by rw [← e1408]; rfl) rfl ?_
                                obtain ⟨z1409, e_z1409⟩ : ∃ zq : Int32, (if (zn (fa g + 1)) < (zn (fa f)) then (zn (fa g + 1)) else (zn (fa f))) = zq := ⟨_, rfl⟩
                                have h_z1409 := zminI e_z1409
                                have n_z1409 : z1409.toInt = ((min (fa f) (fa g + 1) : Nat) : Int) := by omega
                                refine w_mem1 (pc' := 154) (m := 3) (st' := [.int z1409, .int (zn f), .ref 192]) (ph' := ph4) (ykc_279 (e := (5, .invokestatic 145, 0)) rfl) (by rw [← e_z1409]; rfl) rfl ?_
                                refine w_br (pc' := 164) (st' := [.int z1409, .int (zn f), .ref 192]) (ykc_279 (e := (4, .goto 10, 164)) rfl) rfl ?_
                                obtain rfl := zn_of (k := min (fa f) (fa g + 1)) (show z1409.toInt = _ by omega)
                                refine w_ias (pc' := 165) (k := f) (ykc_279 (e := (5, .iastore, 0)) rfl) (by omega) rfl (fun ph1411 u1410 => ?_)
                                have e1412 : (zn w) + Int32.ofInt 1 = zn (w + 1) := (zaddN (a := w) (b := 1) (znt (by omega)) c_3 (by omega))
                                have te1412 := znt (k := w + 1) (by omega)
                                refine w_store (pc' := 168) (L' := [some (.ref 170), some (.int (zn fr)), some (.int (zn gl)), some (.long x), none, some (.int (zn n0)), some (.int (zn f)), some (.int (zn (w + 1))), some (.int (zn g)), some (.int (Int32.ofInt 1))]) (st' := []) (m := 3) (ykc_279 (e := (3, .iinc 7 1, 0)) rfl) (by rw [← e1412]; rfl) rfl ?_
                                refine w_gb (ykc_279 (e := (4, .goto (-103), 65)) rfl) (fun k1413 hk1413 => ?_)
                                have hI2 := zFi_set hI hfN (show w < 8 by omega) hin (by rw [hg]; exact (Or.inl (by omega) : g = gl ∨ ov g))
                                rw [hg] at hI2
                                exact ih k1413 hk1413 (by omega) (w + 1) (zUp fa f (min (fa f) (fa g + 1))) _ _ ph1411 (by omega) (zFr_trans hf4 (zFr_st u1410 (Or.inl (by simp)))) hI2 (fun h hh => by
                                  by_cases e : h = f
                                  · subst e
                                    rw [zUp_e]
                                    exact u1410.1
                                  · rw [zUp_n e]
                                    exact (u1410.2.1 192 h (fun q => e q.2)).trans (ha h hh))
                              · refine w_load (pc' := 109) (v := .long x) (m := 1) (ykc_279 (e := (2, .lload_n kF3, 0)) rfl) rfl rfl ?_
                                refine w_load (pc' := 111) (v := .int (zn g)) (m := 2) (ykc_279 (e := (2, .iload 8, 0)) rfl) rfl rfl ?_
                                refine w_cs (as := [.long x, .int (zn g)]) (r := []) (ykc_279 (e := (6, .invokestatic 304, 0)) rfl) rfl rfl rfl rfl (zm_has (x := x) (kn := g) (by omega) (by omega)) (fun v1414 ph1415 hv => ?_)
                                obtain ⟨rfl, rfl⟩ := hv
                                show zW n4 D 279 Q 114 [some (.ref 170), some (.int (zn fr)), some (.int (zn gl)), some (.long x), none, some (.int (zn n0)), some (.int (zn f)), some (.int (zn w)), some (.int (zn g)), o9] [.int (zI (zb x g))] ph4
                                refine w_beq (ykc_279 (e := (4, .ifCond .eq 7, 121)) rfl) rfl (fun b1416 => ?_) (fun b1416 => ?_)
                                · refine w_alu (pc' := 122) (st' := [.int (Int32.ofInt 0)]) (ykc_279 (e := (0, .iconst 0, 0)) rfl) rfl rfl ?_
                                  refine w_store (pc' := 124) (L' := [some (.ref 170), some (.int (zn fr)), some (.int (zn gl)), some (.long x), none, some (.int (zn n0)), some (.int (zn f)), some (.int (zn w)), some (.int (zn g)), some (.int (Int32.ofInt 0))]) (st' := []) (m := 2) (ykc_279 (e := (3, .istore 9, 0)) rfl) rfl rfl ?_
                                  refine w_load (pc' := 125) (v := .ref 170) (m := 1) (ykc_279 (e := (2, .aload_n kF0, 0)) rfl) rfl rfl ?_
                                  refine w_gf (pc' := 128) (v := .ref 192) (ykc_279 (e := (5, .getfield 95, 0)) rfl) rfl ((hf4.1 170 38 (by decide) (by decide)).trans (zsg hS zs_170_38)) rfl ?_
                                  refine w_load (pc' := 130) (v := .int (zn f)) (m := 2) (ykc_279 (e := (2, .iload 6, 0)) rfl) rfl rfl ?_
                                  refine w_load (pc' := 132) (v := .int (Int32.ofInt 0)) (m := 2) (ykc_279 (e := (2, .iload 9, 0)) rfl) rfl rfl ?_
                                  refine w_zeq (ykc_279 (e := (4, .ifCond .eq 25, 157)) rfl) rfl (fun b1417 => ?_) (fun q => by exfalso; omega)
                                  refine w_load (pc' := 158) (v := .ref 170) (m := 1) (ykc_279 (e := (2, .aload_n kF0, 0)) rfl) rfl rfl ?_
                                  refine w_gf (pc' := 161) (v := .ref 192) (ykc_279 (e := (5, .getfield 95, 0)) rfl) rfl ((hf4.1 170 38 (by decide) (by decide)).trans (zsg hS zs_170_38)) rfl ?_
                                  refine w_load (pc' := 163) (v := .int (zn f)) (m := 2) (ykc_279 (e := (2, .iload 6, 0)) rfl) rfl rfl ?_
                                  refine w_ialk (pc' := 164) (k := f) (ykc_279 (e := (5, .iaload, 0)) rfl) (ha f hfN) (by omega) rfl ?_
                                  refine w_ias (pc' := 165) (k := f) (ykc_279 (e := (5, .iastore, 0)) rfl) (by omega) rfl (fun ph1419 u1418 => ?_)
                                  have e1420 : (zn w) + Int32.ofInt 1 = zn (w + 1) := (zaddN (a := w) (b := 1) (znt (by omega)) c_3 (by omega))
                                  have te1420 := znt (k := w + 1) (by omega)
                                  refine w_store (pc' := 168) (L' := [some (.ref 170), some (.int (zn fr)), some (.int (zn gl)), some (.long x), none, some (.int (zn n0)), some (.int (zn f)), some (.int (zn (w + 1))), some (.int (zn g)), some (.int (Int32.ofInt 0))]) (st' := []) (m := 3) (ykc_279 (e := (3, .iinc 7 1, 0)) rfl) (by rw [← e1420]; rfl) rfl ?_
                                  refine w_gb (ykc_279 (e := (4, .goto (-103), 65)) rfl) (fun k1421 hk1421 => ?_)
                                  have hI2 := zFi_no hI (fun q => by
                                    rcases q.2.2 with e | e
                                    · omega
                                    · rw [hg] at e
                                      exact absurd ((hx g hgN).mpr e) (by rw [b1416]; decide))
                                  exact ih k1421 hk1421 (by omega) (w + 1) fa _ _ ph1419 (by omega) (zFr_trans hf4 (zFr_st u1418 (Or.inl (by simp)))) hI2 (fun h hh => by
                                    by_cases e : h = f
                                    · subst e
                                      exact u1418.1
                                    · exact (u1418.2.1 192 h (fun q => e q.2)).trans (ha h hh))
                                · refine w_alu (pc' := 118) (st' := [.int (Int32.ofInt 1)]) (ykc_279 (e := (0, .iconst 1, 0)) rfl) rfl rfl ?_
                                  refine w_br (pc' := 122) (st' := [.int (Int32.ofInt 1)]) (ykc_279 (e := (4, .goto 4, 122)) rfl) rfl ?_
                                  refine w_store (pc' := 124) (L' := [some (.ref 170), some (.int (zn fr)), some (.int (zn gl)), some (.long x), none, some (.int (zn n0)), some (.int (zn f)), some (.int (zn w)), some (.int (zn g)), some (.int (Int32.ofInt 1))]) (st' := []) (m := 2) (ykc_279 (e := (3, .istore 9, 0)) rfl) rfl rfl ?_
                                  refine w_load (pc' := 125) (v := .ref 170) (m := 1) (ykc_279 (e := (2, .aload_n kF0, 0)) rfl) rfl rfl ?_
                                  refine w_gf (pc' := 128) (v := .ref 192) (ykc_279 (e := (5, .getfield 95, 0)) rfl) rfl ((hf4.1 170 38 (by decide) (by decide)).trans (zsg hS zs_170_38)) rfl ?_
                                  refine w_load (pc' := 130) (v := .int (zn f)) (m := 2) (ykc_279 (e := (2, .iload 6, 0)) rfl) rfl rfl ?_
                                  refine w_load (pc' := 132) (v := .int (Int32.ofInt 1)) (m := 2) (ykc_279 (e := (2, .iload 9, 0)) rfl) rfl rfl ?_
                                  refine w_zeq (ykc_279 (e := (4, .ifCond .eq 25, 157)) rfl) rfl (fun q => by exfalso; omega) (fun b1422 => ?_)
                                  refine w_load (pc' := 136) (v := .ref 170) (m := 1) (ykc_279 (e := (2, .aload_n kF0, 0)) rfl) rfl rfl ?_
                                  refine w_gf (pc' := 139) (v := .ref 192) (ykc_279 (e := (5, .getfield 95, 0)) rfl) rfl ((hf4.1 170 38 (by decide) (by decide)).trans (zsg hS zs_170_38)) rfl ?_
                                  refine w_load (pc' := 141) (v := .int (zn f)) (m := 2) (ykc_279 (e := (2, .iload 6, 0)) rfl) rfl rfl ?_
                                  refine w_ialk (pc' := 142) (k := f) (ykc_279 (e := (5, .iaload, 0)) rfl) (ha f hfN) (by omega) rfl ?_
                                  refine w_load (pc' := 143) (v := .ref 170) (m := 1) (ykc_279 (e := (2, .aload_n kF0, 0)) rfl) rfl rfl ?_
                                  refine w_gf (pc' := 146) (v := .ref 192) (ykc_279 (e := (5, .getfield 95, 0)) rfl) rfl ((hf4.1 170 38 (by decide) (by decide)).trans (zsg hS zs_170_38)) rfl ?_
                                  refine w_load (pc' := 148) (v := .int (zn g)) (m := 2) (ykc_279 (e := (2, .iload 8, 0)) rfl) rfl rfl ?_
                                  refine w_ialk (pc' := 149) (k := g) (ykc_279 (e := (5, .iaload, 0)) rfl) (ha g hgN) (by omega) rfl ?_
                                  refine w_alu (pc' := 150) (st' := [.int (Int32.ofInt 1), .int (zn (fa g)), .int (zn (fa f)), .int (zn f), .ref 192]) (ykc_279 (e := (0, .iconst 1, 0)) rfl) rfl rfl ?_
                                  have e1423 : (zn (fa g)) + (Int32.ofInt 1) = zn (fa g + 1) := (zaddN (a := fa g) (b := 1) (znt (by omega)) c_3 (by omega)) 
                                  have te1423 := znt (k := fa g + 1) (by omega)
                                  refine w_alu (pc' := 151) (st' := [.int (zn (fa g + 1)), .int (zn (fa f)), .int (zn f), .ref 192]) (ykc_279 (e := (0, .iadd, 0)) rfl) (by rw [← e1423]; rfl) rfl ?_
                                  obtain ⟨z1424, e_z1424⟩ : ∃ zq : Int32, (if (zn (fa g + 1)) < (zn (fa f)) then (zn (fa g + 1)) else (zn (fa f))) = zq := ⟨_, rfl⟩
                                  have h_z1424 := zminI e_z1424
                                  have n_z1424 : z1424.toInt = ((min (fa f) (fa g + 1) : Nat) : Int) := by omega
                                  refine w_mem1 (pc' := 154) (m := 3) (st' := [.int z1424, .int (zn f), .ref 192]) (ph' := ph4) (ykc_279 (e := (5, .invokestatic 145, 0)) rfl) (by rw [← e_z1424]; rfl) rfl ?_
                                  refine w_br (pc' := 164) (st' := [.int z1424, .int (zn f), .ref 192]) (ykc_279 (e := (4, .goto 10, 164)) rfl) rfl ?_
                                  obtain rfl := zn_of (k := min (fa f) (fa g + 1)) (show z1424.toInt = _ by omega)
                                  refine w_ias (pc' := 165) (k := f) (ykc_279 (e := (5, .iastore, 0)) rfl) (by omega) rfl (fun ph1426 u1425 => ?_)
                                  have e1427 : (zn w) + Int32.ofInt 1 = zn (w + 1) := (zaddN (a := w) (b := 1) (znt (by omega)) c_3 (by omega))
                                  have te1427 := znt (k := w + 1) (by omega)
                                  refine w_store (pc' := 168) (L' := [some (.ref 170), some (.int (zn fr)), some (.int (zn gl)), some (.long x), none, some (.int (zn n0)), some (.int (zn f)), some (.int (zn (w + 1))), some (.int (zn g)), some (.int (Int32.ofInt 1))]) (st' := []) (m := 3) (ykc_279 (e := (3, .iinc 7 1, 0)) rfl) (by rw [← e1427]; rfl) rfl ?_
                                  refine w_gb (ykc_279 (e := (4, .goto (-103), 65)) rfl) (fun k1428 hk1428 => ?_)
                                  have hI2 := zFi_set hI hfN (show w < 8 by omega) hin (by rw [hg]; exact (Or.inr ((hx g hgN).mp b1416) : g = gl ∨ ov g))
                                  rw [hg] at hI2
                                  exact ih k1428 hk1428 (by omega) (w + 1) (zUp fa f (min (fa f) (fa g + 1))) _ _ ph1426 (by omega) (zFr_trans hf4 (zFr_st u1425 (Or.inl (by simp)))) hI2 (fun h hh => by
                                    by_cases e : h = f
                                    · subst e
                                      rw [zUp_e]
                                      exact u1425.1
                                    · rw [zUp_n e]
                                      exact (u1425.2.1 192 h (fun q => e q.2)).trans (ha h hh))
                            · refine w_load (pc' := 94) (v := .long x) (m := 1) (ykc_279 (e := (2, .lload_n kF3, 0)) rfl) rfl rfl ?_
                              refine w_load (pc' := 96) (v := .int (zn f)) (m := 2) (ykc_279 (e := (2, .iload 6, 0)) rfl) rfl rfl ?_
                              refine w_cs (as := [.long x, .int (zn f)]) (r := []) (ykc_279 (e := (6, .invokestatic 304, 0)) rfl) rfl rfl rfl rfl (zm_has (x := x) (kn := f) (by omega) (by omega)) (fun v1429 ph1430 hv => ?_)
                              obtain ⟨rfl, rfl⟩ := hv
                              show zW n4 D 279 Q 99 [some (.ref 170), some (.int (zn fr)), some (.int (zn gl)), some (.long x), none, some (.int (zn n0)), some (.int (zn f)), some (.int (zn w)), some (.int (zn g)), o9] [.int (zI (zb x f))] ph4
                              refine w_beq (ykc_279 (e := (4, .ifCond .eq 22, 121)) rfl) rfl (fun b1431 => ?_) (fun b1431 => ?_)
                              · refine w_alu (pc' := 122) (st' := [.int (Int32.ofInt 0)]) (ykc_279 (e := (0, .iconst 0, 0)) rfl) rfl rfl ?_
                                refine w_store (pc' := 124) (L' := [some (.ref 170), some (.int (zn fr)), some (.int (zn gl)), some (.long x), none, some (.int (zn n0)), some (.int (zn f)), some (.int (zn w)), some (.int (zn g)), some (.int (Int32.ofInt 0))]) (st' := []) (m := 2) (ykc_279 (e := (3, .istore 9, 0)) rfl) rfl rfl ?_
                                refine w_load (pc' := 125) (v := .ref 170) (m := 1) (ykc_279 (e := (2, .aload_n kF0, 0)) rfl) rfl rfl ?_
                                refine w_gf (pc' := 128) (v := .ref 192) (ykc_279 (e := (5, .getfield 95, 0)) rfl) rfl ((hf4.1 170 38 (by decide) (by decide)).trans (zsg hS zs_170_38)) rfl ?_
                                refine w_load (pc' := 130) (v := .int (zn f)) (m := 2) (ykc_279 (e := (2, .iload 6, 0)) rfl) rfl rfl ?_
                                refine w_load (pc' := 132) (v := .int (Int32.ofInt 0)) (m := 2) (ykc_279 (e := (2, .iload 9, 0)) rfl) rfl rfl ?_
                                refine w_zeq (ykc_279 (e := (4, .ifCond .eq 25, 157)) rfl) rfl (fun b1432 => ?_) (fun q => by exfalso; omega)
                                refine w_load (pc' := 158) (v := .ref 170) (m := 1) (ykc_279 (e := (2, .aload_n kF0, 0)) rfl) rfl rfl ?_
                                refine w_gf (pc' := 161) (v := .ref 192) (ykc_279 (e := (5, .getfield 95, 0)) rfl) rfl ((hf4.1 170 38 (by decide) (by decide)).trans (zsg hS zs_170_38)) rfl ?_
                                refine w_load (pc' := 163) (v := .int (zn f)) (m := 2) (ykc_279 (e := (2, .iload 6, 0)) rfl) rfl rfl ?_
                                refine w_ialk (pc' := 164) (k := f) (ykc_279 (e := (5, .iaload, 0)) rfl) (ha f hfN) (by omega) rfl ?_
                                refine w_ias (pc' := 165) (k := f) (ykc_279 (e := (5, .iastore, 0)) rfl) (by omega) rfl (fun ph1434 u1433 => ?_)
                                have e1435 : (zn w) + Int32.ofInt 1 = zn (w + 1) := (zaddN (a := w) (b := 1) (znt (by omega)) c_3 (by omega))
                                have te1435 := znt (k := w + 1) (by omega)
                                refine w_store (pc' := 168) (L' := [some (.ref 170), some (.int (zn fr)), some (.int (zn gl)), some (.long x), none, some (.int (zn n0)), some (.int (zn f)), some (.int (zn (w + 1))), some (.int (zn g)), some (.int (Int32.ofInt 0))]) (st' := []) (m := 3) (ykc_279 (e := (3, .iinc 7 1, 0)) rfl) (by rw [← e1435]; rfl) rfl ?_
                                refine w_gb (ykc_279 (e := (4, .goto (-103), 65)) rfl) (fun k1436 hk1436 => ?_)
                                have hI2 := zFi_no hI (fun q => by
                                  rcases q.2.1 with e | e
                                  · omega
                                  · exact absurd ((hx f hfN).mpr e) (by rw [b1431]; decide))
                                exact ih k1436 hk1436 (by omega) (w + 1) fa _ _ ph1434 (by omega) (zFr_trans hf4 (zFr_st u1433 (Or.inl (by simp)))) hI2 (fun h hh => by
                                  by_cases e : h = f
                                  · subst e
                                    exact u1433.1
                                  · exact (u1433.2.1 192 h (fun q => e q.2)).trans (ha h hh))
                              · refine w_load (pc' := 104) (v := .int (zn g)) (m := 2) (ykc_279 (e := (2, .iload 8, 0)) rfl) rfl rfl ?_
                                refine w_load (pc' := 105) (v := .int (zn gl)) (m := 1) (ykc_279 (e := (2, .iload_n kF2, 0)) rfl) rfl rfl ?_
                                refine w_ieq (ykc_279 (e := (4, .if_icmp .eq 12, 117)) rfl) rfl (fun b1437 => ?_) (fun b1437 => ?_)
                                · refine w_alu (pc' := 118) (st' := [.int (Int32.ofInt 1)]) (ykc_279 (e := (0, .iconst 1, 0)) rfl) rfl rfl ?_
                                  refine w_br (pc' := 122) (st' := [.int (Int32.ofInt 1)]) (ykc_279 (e := (4, .goto 4, 122)) rfl) rfl ?_
                                  refine w_store (pc' := 124) (L' := [some (.ref 170), some (.int (zn fr)), some (.int (zn gl)), some (.long x), none, some (.int (zn n0)), some (.int (zn f)), some (.int (zn w)), some (.int (zn g)), some (.int (Int32.ofInt 1))]) (st' := []) (m := 2) (ykc_279 (e := (3, .istore 9, 0)) rfl) rfl rfl ?_
                                  refine w_load (pc' := 125) (v := .ref 170) (m := 1) (ykc_279 (e := (2, .aload_n kF0, 0)) rfl) rfl rfl ?_
                                  refine w_gf (pc' := 128) (v := .ref 192) (ykc_279 (e := (5, .getfield 95, 0)) rfl) rfl ((hf4.1 170 38 (by decide) (by decide)).trans (zsg hS zs_170_38)) rfl ?_
                                  refine w_load (pc' := 130) (v := .int (zn f)) (m := 2) (ykc_279 (e := (2, .iload 6, 0)) rfl) rfl rfl ?_
                                  refine w_load (pc' := 132) (v := .int (Int32.ofInt 1)) (m := 2) (ykc_279 (e := (2, .iload 9, 0)) rfl) rfl rfl ?_
                                  refine w_zeq (ykc_279 (e := (4, .ifCond .eq 25, 157)) rfl) rfl (fun q => by exfalso; omega) (fun b1438 => ?_)
                                  refine w_load (pc' := 136) (v := .ref 170) (m := 1) (ykc_279 (e := (2, .aload_n kF0, 0)) rfl) rfl rfl ?_
                                  refine w_gf (pc' := 139) (v := .ref 192) (ykc_279 (e := (5, .getfield 95, 0)) rfl) rfl ((hf4.1 170 38 (by decide) (by decide)).trans (zsg hS zs_170_38)) rfl ?_
                                  refine w_load (pc' := 141) (v := .int (zn f)) (m := 2) (ykc_279 (e := (2, .iload 6, 0)) rfl) rfl rfl ?_
                                  refine w_ialk (pc' := 142) (k := f) (ykc_279 (e := (5, .iaload, 0)) rfl) (ha f hfN) (by omega) rfl ?_
                                  refine w_load (pc' := 143) (v := .ref 170) (m := 1) (ykc_279 (e := (2, .aload_n kF0, 0)) rfl) rfl rfl ?_
                                  refine w_gf (pc' := 146) (v := .ref 192) (ykc_279 (e := (5, .getfield 95, 0)) rfl) rfl ((hf4.1 170 38 (by decide) (by decide)).trans (zsg hS zs_170_38)) rfl ?_
                                  refine w_load (pc' := 148) (v := .int (zn g)) (m := 2) (ykc_279 (e := (2, .iload 8, 0)) rfl) rfl rfl ?_
                                  refine w_ialk (pc' := 149) (k := g) (ykc_279 (e := (5, .iaload, 0)) rfl) (ha g hgN) (by omega) rfl ?_
                                  refine w_alu (pc' := 150) (st' := [.int (Int32.ofInt 1), .int (zn (fa g)), .int (zn (fa f)), .int (zn f), .ref 192]) (ykc_279 (e := (0, .iconst 1, 0)) rfl) rfl rfl ?_
                                  have e1439 : (zn (fa g)) + (Int32.ofInt 1) = zn (fa g + 1) := (zaddN (a := fa g) (b := 1) (znt (by omega)) c_3 (by omega)) 
                                  have te1439 := znt (k := fa g + 1) (by omega)
                                  refine w_alu (pc' := 151) (st' := [.int (zn (fa g + 1)), .int (zn (fa f)), .int (zn f), .ref 192]) (ykc_279 (e := (0, .iadd, 0)) rfl) (by rw [← e1439]; rfl) rfl ?_
                                  obtain ⟨z1440, e_z1440⟩ : ∃ zq : Int32, (if (zn (fa g + 1)) < (zn (fa f)) then (zn (fa g + 1)) else (zn (fa f))) = zq := ⟨_, rfl⟩
                                  have h_z1440 := zminI e_z1440
                                  have n_z1440 : z1440.toInt = ((min (fa f) (fa g + 1) : Nat) : Int) := by omega
                                  refine w_mem1 (pc' := 154) (m := 3) (st' := [.int z1440, .int (zn f), .ref 192]) (ph' := ph4) (ykc_279 (e := (5, .invokestatic 145, 0)) rfl) (by rw [← e_z1440]; rfl) rfl ?_
                                  refine w_br (pc' := 164) (st' := [.int z1440, .int (zn f), .ref 192]) (ykc_279 (e := (4, .goto 10, 164)) rfl) rfl ?_
                                  obtain rfl := zn_of (k := min (fa f) (fa g + 1)) (show z1440.toInt = _ by omega)
                                  refine w_ias (pc' := 165) (k := f) (ykc_279 (e := (5, .iastore, 0)) rfl) (by omega) rfl (fun ph1442 u1441 => ?_)
                                  have e1443 : (zn w) + Int32.ofInt 1 = zn (w + 1) := (zaddN (a := w) (b := 1) (znt (by omega)) c_3 (by omega))
                                  have te1443 := znt (k := w + 1) (by omega)
                                  refine w_store (pc' := 168) (L' := [some (.ref 170), some (.int (zn fr)), some (.int (zn gl)), some (.long x), none, some (.int (zn n0)), some (.int (zn f)), some (.int (zn (w + 1))), some (.int (zn g)), some (.int (Int32.ofInt 1))]) (st' := []) (m := 3) (ykc_279 (e := (3, .iinc 7 1, 0)) rfl) (by rw [← e1443]; rfl) rfl ?_
                                  refine w_gb (ykc_279 (e := (4, .goto (-103), 65)) rfl) (fun k1444 hk1444 => ?_)
                                  have hI2 := zFi_set hI hfN (show w < 8 by omega) hin (by rw [hg]; exact (Or.inl (by omega) : g = gl ∨ ov g))
                                  rw [hg] at hI2
                                  exact ih k1444 hk1444 (by omega) (w + 1) (zUp fa f (min (fa f) (fa g + 1))) _ _ ph1442 (by omega) (zFr_trans hf4 (zFr_st u1441 (Or.inl (by simp)))) hI2 (fun h hh => by
                                    by_cases e : h = f
                                    · subst e
                                      rw [zUp_e]
                                      exact u1441.1
                                    · rw [zUp_n e]
                                      exact (u1441.2.1 192 h (fun q => e q.2)).trans (ha h hh))
                                · refine w_load (pc' := 109) (v := .long x) (m := 1) (ykc_279 (e := (2, .lload_n kF3, 0)) rfl) rfl rfl ?_
                                  refine w_load (pc' := 111) (v := .int (zn g)) (m := 2) (ykc_279 (e := (2, .iload 8, 0)) rfl) rfl rfl ?_
                                  refine w_cs (as := [.long x, .int (zn g)]) (r := []) (ykc_279 (e := (6, .invokestatic 304, 0)) rfl) rfl rfl rfl rfl (zm_has (x := x) (kn := g) (by omega) (by omega)) (fun v1445 ph1446 hv => ?_)
                                  obtain ⟨rfl, rfl⟩ := hv
                                  show zW n4 D 279 Q 114 [some (.ref 170), some (.int (zn fr)), some (.int (zn gl)), some (.long x), none, some (.int (zn n0)), some (.int (zn f)), some (.int (zn w)), some (.int (zn g)), o9] [.int (zI (zb x g))] ph4
                                  refine w_beq (ykc_279 (e := (4, .ifCond .eq 7, 121)) rfl) rfl (fun b1447 => ?_) (fun b1447 => ?_)
                                  · refine w_alu (pc' := 122) (st' := [.int (Int32.ofInt 0)]) (ykc_279 (e := (0, .iconst 0, 0)) rfl) rfl rfl ?_
                                    refine w_store (pc' := 124) (L' := [some (.ref 170), some (.int (zn fr)), some (.int (zn gl)), some (.long x), none, some (.int (zn n0)), some (.int (zn f)), some (.int (zn w)), some (.int (zn g)), some (.int (Int32.ofInt 0))]) (st' := []) (m := 2) (ykc_279 (e := (3, .istore 9, 0)) rfl) rfl rfl ?_
                                    refine w_load (pc' := 125) (v := .ref 170) (m := 1) (ykc_279 (e := (2, .aload_n kF0, 0)) rfl) rfl rfl ?_
                                    refine w_gf (pc' := 128) (v := .ref 192) (ykc_279 (e := (5, .getfield 95, 0)) rfl) rfl ((hf4.1 170 38 (by decide) (by decide)).trans (zsg hS zs_170_38)) rfl ?_
                                    refine w_load (pc' := 130) (v := .int (zn f)) (m := 2) (ykc_279 (e := (2, .iload 6, 0)) rfl) rfl rfl ?_
                                    refine w_load (pc' := 132) (v := .int (Int32.ofInt 0)) (m := 2) (ykc_279 (e := (2, .iload 9, 0)) rfl) rfl rfl ?_
                                    refine w_zeq (ykc_279 (e := (4, .ifCond .eq 25, 157)) rfl) rfl (fun b1448 => ?_) (fun q => by exfalso; omega)
                                    refine w_load (pc' := 158) (v := .ref 170) (m := 1) (ykc_279 (e := (2, .aload_n kF0, 0)) rfl) rfl rfl ?_
                                    refine w_gf (pc' := 161) (v := .ref 192) (ykc_279 (e := (5, .getfield 95, 0)) rfl) rfl ((hf4.1 170 38 (by decide) (by decide)).trans (zsg hS zs_170_38)) rfl ?_
                                    refine w_load (pc' := 163) (v := .int (zn f)) (m := 2) (ykc_279 (e := (2, .iload 6, 0)) rfl) rfl rfl ?_
                                    refine w_ialk (pc' := 164) (k := f) (ykc_279 (e := (5, .iaload, 0)) rfl) (ha f hfN) (by omega) rfl ?_
                                    refine w_ias (pc' := 165) (k := f) (ykc_279 (e := (5, .iastore, 0)) rfl) (by omega) rfl (fun ph1450 u1449 => ?_)
                                    have e1451 : (zn w) + Int32.ofInt 1 = zn (w + 1) := (zaddN (a := w) (b := 1) (znt (by omega)) c_3 (by omega))
                                    have te1451 := znt (k := w + 1) (by omega)
                                    refine w_store (pc' := 168) (L' := [some (.ref 170), some (.int (zn fr)), some (.int (zn gl)), some (.long x), none, some (.int (zn n0)), some (.int (zn f)), some (.int (zn (w + 1))), some (.int (zn g)), some (.int (Int32.ofInt 0))]) (st' := []) (m := 3) (ykc_279 (e := (3, .iinc 7 1, 0)) rfl) (by rw [← e1451]; rfl) rfl ?_
                                    refine w_gb (ykc_279 (e := (4, .goto (-103), 65)) rfl) (fun k1452 hk1452 => ?_)
                                    have hI2 := zFi_no hI (fun q => by
                                      rcases q.2.2 with e | e
                                      · omega
                                      · rw [hg] at e
                                        exact absurd ((hx g hgN).mpr e) (by rw [b1447]; decide))
                                    exact ih k1452 hk1452 (by omega) (w + 1) fa _ _ ph1450 (by omega) (zFr_trans hf4 (zFr_st u1449 (Or.inl (by simp)))) hI2 (fun h hh => by
                                      by_cases e : h = f
                                      · subst e
                                        exact u1449.1
                                      · exact (u1449.2.1 192 h (fun q => e q.2)).trans (ha h hh))
                                  · refine w_alu (pc' := 118) (st' := [.int (Int32.ofInt 1)]) (ykc_279 (e := (0, .iconst 1, 0)) rfl) rfl rfl ?_
                                    refine w_br (pc' := 122) (st' := [.int (Int32.ofInt 1)]) (ykc_279 (e := (4, .goto 4, 122)) rfl) rfl ?_
                                    refine w_store (pc' := 124) (L' := [some (.ref 170), some (.int (zn fr)), some (.int (zn gl)), some (.long x), none, some (.int (zn n0)), some (.int (zn f)), some (.int (zn w)), some (.int (zn g)), some (.int (Int32.ofInt 1))]) (st' := []) (m := 2) (ykc_279 (e := (3, .istore 9, 0)) rfl) rfl rfl ?_
                                    refine w_load (pc' := 125) (v := .ref 170) (m := 1) (ykc_279 (e := (2, .aload_n kF0, 0)) rfl) rfl rfl ?_
                                    refine w_gf (pc' := 128) (v := .ref 192) (ykc_279 (e := (5, .getfield 95, 0)) rfl) rfl ((hf4.1 170 38 (by decide) (by decide)).trans (zsg hS zs_170_38)) rfl ?_
                                    refine w_load (pc' := 130) (v := .int (zn f)) (m := 2) (ykc_279 (e := (2, .iload 6, 0)) rfl) rfl rfl ?_
                                    refine w_load (pc' := 132) (v := .int (Int32.ofInt 1)) (m := 2) (ykc_279 (e := (2, .iload 9, 0)) rfl) rfl rfl ?_
                                    refine w_zeq (ykc_279 (e := (4, .ifCond .eq 25, 157)) rfl) rfl (fun q => by exfalso; omega) (fun b1453 => ?_)
                                    refine w_load (pc' := 136) (v := .ref 170) (m := 1) (ykc_279 (e := (2, .aload_n kF0, 0)) rfl) rfl rfl ?_
                                    refine w_gf (pc' := 139) (v := .ref 192) (ykc_279 (e := (5, .getfield 95, 0)) rfl) rfl ((hf4.1 170 38 (by decide) (by decide)).trans (zsg hS zs_170_38)) rfl ?_
                                    refine w_load (pc' := 141) (v := .int (zn f)) (m := 2) (ykc_279 (e := (2, .iload 6, 0)) rfl) rfl rfl ?_
                                    refine w_ialk (pc' := 142) (k := f) (ykc_279 (e := (5, .iaload, 0)) rfl) (ha f hfN) (by omega) rfl ?_
                                    refine w_load (pc' := 143) (v := .ref 170) (m := 1) (ykc_279 (e := (2, .aload_n kF0, 0)) rfl) rfl rfl ?_
                                    refine w_gf (pc' := 146) (v := .ref 192) (ykc_279 (e := (5, .getfield 95, 0)) rfl) rfl ((hf4.1 170 38 (by decide) (by decide)).trans (zsg hS zs_170_38)) rfl ?_
                                    refine w_load (pc' := 148) (v := .int (zn g)) (m := 2) (ykc_279 (e := (2, .iload 8, 0)) rfl) rfl rfl ?_
                                    refine w_ialk (pc' := 149) (k := g) (ykc_279 (e := (5, .iaload, 0)) rfl) (ha g hgN) (by omega) rfl ?_
                                    refine w_alu (pc' := 150) (st' := [.int (Int32.ofInt 1), .int (zn (fa g)), .int (zn (fa f)), .int (zn f), .ref 192]) (ykc_279 (e := (0, .iconst 1, 0)) rfl) rfl rfl ?_
                                    have e1454 : (zn (fa g)) + (Int32.ofInt 1) = zn (fa g + 1) := (zaddN (a := fa g) (b := 1) (znt (by omega)) c_3 (by omega)) 
                                    have te1454 := znt (k := fa g + 1) (by omega)
                                    refine w_alu (pc' := 151) (st' := [.int (zn (fa g + 1)), .int (zn (fa f)), .int (zn f), .ref 192]) (ykc_279 (e := (0, .iadd, 0)) rfl) (by rw [← e1454]; rfl) rfl ?_
                                    obtain ⟨z1455, e_z1455⟩ : ∃ zq : Int32, (if (zn (fa g + 1)) < (zn (fa f)) then (zn (fa g + 1)) else (zn (fa f))) = zq := ⟨_, rfl⟩
                                    have h_z1455 := zminI e_z1455
                                    have n_z1455 : z1455.toInt = ((min (fa f) (fa g + 1) : Nat) : Int) := by omega
                                    refine w_mem1 (pc' := 154) (m := 3) (st' := [.int z1455, .int (zn f), .ref 192]) (ph' := ph4) (ykc_279 (e := (5, .invokestatic 145, 0)) rfl) (by rw [← e_z1455]; rfl) rfl ?_
                                    refine w_br (pc' := 164) (st' := [.int z1455, .int (zn f), .ref 192]) (ykc_279 (e := (4, .goto 10, 164)) rfl) rfl ?_
                                    obtain rfl := zn_of (k := min (fa f) (fa g + 1)) (show z1455.toInt = _ by omega)
                                    refine w_ias (pc' := 165) (k := f) (ykc_279 (e := (5, .iastore, 0)) rfl) (by omega) rfl (fun ph1457 u1456 => ?_)
                                    have e1458 : (zn w) + Int32.ofInt 1 = zn (w + 1) := (zaddN (a := w) (b := 1) (znt (by omega)) c_3 (by omega))
                                    have te1458 := znt (k := w + 1) (by omega)
                                    refine w_store (pc' := 168) (L' := [some (.ref 170), some (.int (zn fr)), some (.int (zn gl)), some (.long x), none, some (.int (zn n0)), some (.int (zn f)), some (.int (zn (w + 1))), some (.int (zn g)), some (.int (Int32.ofInt 1))]) (st' := []) (m := 3) (ykc_279 (e := (3, .iinc 7 1, 0)) rfl) (by rw [← e1458]; rfl) rfl ?_
                                    refine w_gb (ykc_279 (e := (4, .goto (-103), 65)) rfl) (fun k1459 hk1459 => ?_)
                                    have hI2 := zFi_set hI hfN (show w < 8 by omega) hin (by rw [hg]; exact (Or.inr ((hx g hgN).mp b1447) : g = gl ∨ ov g))
                                    rw [hg] at hI2
                                    exact ih k1459 hk1459 (by omega) (w + 1) (zUp fa f (min (fa f) (fa g + 1))) _ _ ph1457 (by omega) (zFr_trans hf4 (zFr_st u1456 (Or.inl (by simp)))) hI2 (fun h hh => by
                                      by_cases e : h = f
                                      · subst e
                                        rw [zUp_e]
                                        exact u1456.1
                                      · rw [zUp_n e]
                                        exact (u1456.2.1 192 h (fun q => e q.2)).trans (ha h hh))
                    exact hd n3 (Nat.le_refl _) 0 fa _ _ ph3 (Nat.zero_le 8) hf3 hI ha
              exact hc n2 (Nat.le_refl _) 0 fa _ _ _ ph2 (Nat.zero_le _) hf2 hI ha
        exact hb n 0 _ _ _ _ _ ph1 (Nat.zero_le _) hf1 hI0 (fun f hf => hi f hf)
        
      · refine w_load (pc' := 13) (v := .ref 170) (m := 1) (ykc_279 (e := (2, .aload_n kF0, 0)) rfl) rfl rfl ?_
        refine w_gf (pc' := 16) (v := .ref 192) (ykc_279 (e := (5, .getfield 95, 0)) rfl) rfl ((hf1.1 170 38 (by decide) (by decide)).trans (zsg hS zs_170_38)) rfl ?_
        refine w_load (pc' := 18) (v := .int (zn f)) (m := 2) (ykc_279 (e := (2, .iload 5, 0)) rfl) rfl rfl ?_
        refine w_load (pc' := 20) (v := .int (zn f)) (m := 2) (ykc_279 (e := (2, .iload 5, 0)) rfl) rfl rfl ?_
        refine w_load (pc' := 21) (v := .int (zn gl)) (m := 1) (ykc_279 (e := (2, .iload_n kF2, 0)) rfl) rfl rfl ?_
        refine w_ine (ykc_279 (e := (4, .if_icmp .ne 7, 28)) rfl) rfl (fun b1460 => ?_) (fun b1460 => ?_)
        · refine w_push (pc' := 31) (v := .int (1000000 : Int32)) (m := 3) (ykc_279 (e := (1, .ldc_w 432, 0)) rfl) rfl rfl ?_
          rw [z1e6]
          refine w_ias (pc' := 32) (k := f) (ykc_279 (e := (5, .iastore, 0)) rfl) (by omega) rfl (fun ph1462 u1461 => ?_)
          have e1463 : (zn f) + Int32.ofInt 1 = zn (f + 1) := (zaddN (a := f) (b := 1) (znt (by omega)) c_3 (by omega))
          have te1463 := znt (k := f + 1) (by omega)
          refine w_store (pc' := 35) (L' := [some (.ref 170), some (.int (zn fr)), some (.int (zn gl)), some (.long x), none, some (.int (zn (f + 1))), o6, o7, o8, o9]) (st' := []) (m := 3) (ykc_279 (e := (3, .iinc 5 1, 0)) rfl) (by rw [← e1463]; rfl) rfl ?_
          refine w_gb (ykc_279 (e := (4, .goto (-32), 3)) rfl) (fun k1464 hk1464 => ?_)
          exact ih k1464 hk1464 (f + 1) _ _ _ _ ph1462 (by omega) (zFr_trans hf1 (zFr_st u1461 (Or.inl (by simp)))) (fun g hg => by
            by_cases e : g = f
            · subst e
              rw [if_neg (by omega)]
              exact u1461.1
            · exact (u1461.2.1 192 g (fun q => e q.2)).trans (hi g (by omega)))
        · refine w_alu (pc' := 25) (st' := [.int (Int32.ofInt 0), .int (zn f), .ref 192]) (ykc_279 (e := (0, .iconst 0, 0)) rfl) rfl rfl ?_
          refine w_br (pc' := 31) (st' := [.int (Int32.ofInt 0), .int (zn f), .ref 192]) (ykc_279 (e := (4, .goto 6, 31)) rfl) rfl ?_
          refine w_ias (pc' := 32) (k := f) (ykc_279 (e := (5, .iastore, 0)) rfl) (by omega) rfl (fun ph1466 u1465 => ?_)
          have e1467 : (zn f) + Int32.ofInt 1 = zn (f + 1) := (zaddN (a := f) (b := 1) (znt (by omega)) c_3 (by omega))
          have te1467 := znt (k := f + 1) (by omega)
          refine w_store (pc' := 35) (L' := [some (.ref 170), some (.int (zn fr)), some (.int (zn gl)), some (.long x), none, some (.int (zn (f + 1))), o6, o7, o8, o9]) (st' := []) (m := 3) (ykc_279 (e := (3, .iinc 5 1, 0)) rfl) (by rw [← e1467]; rfl) rfl ?_
          refine w_gb (ykc_279 (e := (4, .goto (-32), 3)) rfl) (fun k1468 hk1468 => ?_)
          exact ih k1468 hk1468 (f + 1) _ _ _ _ ph1466 (by omega) (zFr_trans hf1 (zFr_st u1465 (Or.inl (by simp)))) (fun g hg => by
            by_cases e : g = f
            · subst e
              rw [if_pos (by omega)]
              exact u1465.1
            · exact (u1465.2.1 192 g (fun q => e q.2)).trans (hi g (by omega)))
  exact ha n 0 _ _ _ _ ph (Nat.zero_le _) zFr_refl (fun g hg => absurd hg (Nat.not_lt_zero g))
theorem zm_besideA {ph : pm_H} {R C : Nat} {rk : Nat → Bool} (hS : zSh ph) (hL : zMl ph R C rk) {y : Int32} {w : Nat} (hw : w < 8) : zM 192 [.ref 170, .int y, .int (zn w)] ph (fun v0 q => ph = q ∧ ∃ z : Int32, v0 = some (.int z)) := by
  obtain ⟨Q, hQ⟩ : ∃ Q : Option Value → pm_H → Prop, Q = (fun v0 q => ph = q ∧ ∃ z : Int32, v0 = some (.int z)) := ⟨_, rfl⟩
  rw [← hQ]
  refine zM_mk fun n D => ?_
  show zW n D 192 Q 0 [some (.ref 170), some (.int y), some (.int (zn w)), none, none] [] ph
  have c_0 : ((Int8.ofInt 6).toInt32).toInt = 6 := by decide
  have c_1 : ((Int8.ofInt 7).toInt32).toInt = 7 := by decide
  have c_2 : (Int32.ofInt (-1)).toInt = -1 := by decide
  have c_3 : (Int32.ofInt 0).toInt = 0 := by decide
  have c_4 : (Int32.ofInt 1).toInt = 1 := by decide
  have c_5 : (Int32.ofInt 2).toInt = 2 := by decide
  have c_6 : (Int32.ofInt 4).toInt = 4 := by decide
  have hS0 := hS
  have hL0 := hL
  obtain ⟨gR, gC, gK, hR3, hR7, hC3, hC7⟩ := hL
  have hRC := zRC49 hR7 hC7
  have tR := znt (k := R) (by omega)
  have tC := znt (k := C) (by omega)
  have tw := znt (k := w) (by omega)
  refine w_load (pc' := 1) (v := .int y) (m := 1) (ykc_192 (e := (2, .iload_n kF1, 0)) rfl) rfl rfl ?_
  refine w_load (pc' := 2) (v := .ref 170) (m := 1) (ykc_192 (e := (2, .aload_n kF0, 0)) rfl) rfl rfl ?_
  refine w_gf (pc' := 5) (v := .int (zn C)) (ykc_192 (e := (5, .getfield 27, 0)) rfl) rfl gC rfl ?_
  refine w_idiv (pc' := 6) (ykc_192 (e := (0, .idiv, 0)) rfl) rfl (fun d1469 => ?_)
  show zW n D 192 Q 6 [some (.ref 170), some (.int y), some (.int (zn w)), none, none] [.int (y / (zn C))] ph
  refine w_load (pc' := 7) (v := .int (zn w)) (m := 1) (ykc_192 (e := (2, .iload_n kF2, 0)) rfl) rfl rfl ?_
  refine w_push (pc' := 9) (v := .int ((Int8.ofInt 7).toInt32)) (m := 2) (ykc_192 (e := (1, .bipush 7, 0)) rfl) rfl rfl ?_
  refine w_ieq (ykc_192 (e := (4, .if_icmp .eq 8, 17)) rfl) rfl (fun b1470 => ?_) (fun b1470 => ?_)
  · refine w_alu (pc' := 18) (st' := [.int (Int32.ofInt (-1)), .int (y / (zn C))]) (ykc_192 (e := (0, .iconst (-1), 0)) rfl) rfl rfl ?_
    refine w_br (pc' := 37) (st' := [.int (Int32.ofInt (-1)), .int (y / (zn C))]) (ykc_192 (e := (4, .goto 19, 37)) rfl) rfl ?_
    refine w_alu (pc' := 38) (st' := [.int ((y / (zn C)) + (Int32.ofInt (-1)))]) (ykc_192 (e := (0, .iadd, 0)) rfl) rfl rfl ?_
    obtain ⟨za0, e_za0⟩ : ∃ zq : Int32, ((y / (zn C)) + (Int32.ofInt (-1))) = zq := ⟨_, rfl⟩
    rw [e_za0]
    refine w_store (pc' := 39) (L' := [some (.ref 170), some (.int y), some (.int (zn w)), some (.int za0), none]) (st' := []) (m := 1) (ykc_192 (e := (3, .istore_n kF3, 0)) rfl) rfl rfl ?_
    refine w_load (pc' := 40) (v := .int y) (m := 1) (ykc_192 (e := (2, .iload_n kF1, 0)) rfl) rfl rfl ?_
    refine w_load (pc' := 41) (v := .ref 170) (m := 1) (ykc_192 (e := (2, .aload_n kF0, 0)) rfl) rfl rfl ?_
    refine w_gf (pc' := 44) (v := .int (zn C)) (ykc_192 (e := (5, .getfield 27, 0)) rfl) rfl gC rfl ?_
    refine w_irem (pc' := 45) (ykc_192 (e := (0, .irem, 0)) rfl) rfl (fun d1471 => ?_)
    show zW n D 192 Q 45 [some (.ref 170), some (.int y), some (.int (zn w)), some (.int za0), none] [.int (y - y / (zn C) * (zn C))] ph
    refine w_load (pc' := 46) (v := .int (zn w)) (m := 1) (ykc_192 (e := (2, .iload_n kF2, 0)) rfl) rfl rfl ?_
    refine w_zle (ykc_192 (e := (4, .ifCond .le 12, 58)) rfl) rfl (fun b1472 => ?_) (fun b1472 => ?_)
    · refine w_load (pc' := 59) (v := .int (zn w)) (m := 1) (ykc_192 (e := (2, .iload_n kF2, 0)) rfl) rfl rfl ?_
      refine w_alu (pc' := 60) (st' := [.int (Int32.ofInt 4), .int (zn w), .int (y - y / (zn C) * (zn C))]) (ykc_192 (e := (0, .iconst 4, 0)) rfl) rfl rfl ?_
      refine w_ile (ykc_192 (e := (4, .if_icmp .le 7, 67)) rfl) rfl (fun b1473 => ?_) (fun b1473 => ?_)
      · refine w_alu (pc' := 68) (st' := [.int (Int32.ofInt 0), .int (y - y / (zn C) * (zn C))]) (ykc_192 (e := (0, .iconst 0, 0)) rfl) rfl rfl ?_
        refine w_alu (pc' := 69) (st' := [.int ((y - y / (zn C) * (zn C)) + (Int32.ofInt 0))]) (ykc_192 (e := (0, .iadd, 0)) rfl) rfl rfl ?_
        obtain ⟨za1, e_za1⟩ : ∃ zq : Int32, ((y - y / (zn C) * (zn C)) + (Int32.ofInt 0)) = zq := ⟨_, rfl⟩
        rw [e_za1]
        refine w_store (pc' := 71) (L' := [some (.ref 170), some (.int y), some (.int (zn w)), some (.int za0), some (.int za1)]) (st' := []) (m := 2) (ykc_192 (e := (3, .istore 4, 0)) rfl) rfl rfl ?_
        refine w_load (pc' := 72) (v := .int za0) (m := 1) (ykc_192 (e := (2, .iload_n kF3, 0)) rfl) rfl rfl ?_
        refine w_alu (pc' := 73) (st' := [.long za0.toInt64]) (ykc_192 (e := (0, .i2l, 0)) rfl) rfl rfl ?_
        refine w_alu (pc' := 74) (st' := [.long (Int64.ofNat kG0), .long za0.toInt64]) (ykc_192 (e := (0, .lconst kG0, 0)) rfl) rfl rfl ?_
        refine w_load (pc' := 75) (v := .ref 170) (m := 1) (ykc_192 (e := (2, .aload_n kF0, 0)) rfl) rfl rfl ?_
        refine w_gf (pc' := 78) (v := .int (zn R)) (ykc_192 (e := (5, .getfield 24, 0)) rfl) rfl gR rfl ?_
        refine w_alu (pc' := 79) (st' := [.int (Int32.ofInt 1), .int (zn R), .long (Int64.ofNat kG0), .long za0.toInt64]) (ykc_192 (e := (0, .iconst 1, 0)) rfl) rfl rfl ?_
        obtain ⟨z1474, e_z1474, h_z1474⟩ : ∃ zq : Int32, (zn R) - (Int32.ofInt 1) = zq ∧ zq.toInt = ((R : Nat) : Int) - (1 : Int) := ⟨_, rfl, (by have := ti_sub (x := (zn R)) (y := (Int32.ofInt 1)) (by omega) (by omega); omega)⟩
        refine w_alu (pc' := 80) (st' := [.int z1474, .long (Int64.ofNat kG0), .long za0.toInt64]) (ykc_192 (e := (0, .isub, 0)) rfl) (by rw [← e_z1474]; rfl) rfl ?_
        refine w_alu (pc' := 81) (st' := [.long z1474.toInt64, .long (Int64.ofNat kG0), .long za0.toInt64]) (ykc_192 (e := (0, .i2l, 0)) rfl) rfl rfl ?_
        refine w_cs (as := [.long za0.toInt64, .long (Int64.ofNat kG0), .long z1474.toInt64]) (r := []) (ykc_192 (e := (6, .invokestatic 126, 0)) rfl) rfl rfl rfl rfl (zm_in (x := za0.toInt) (y := (0 : Int)) (z := ((R : Nat) : Int) - (1 : Int)) (by first | exact ztl | (rw [ztl]; omega) | decide | omega) (by first | exact ztl | (rw [ztl]; omega) | decide | omega) (by first | exact ztl | (rw [ztl]; omega) | decide | omega)) (fun v1475 ph1476 hv => ?_)
        obtain ⟨rfl, rfl⟩ := hv
        show zW n D 192 Q 84 [some (.ref 170), some (.int y), some (.int (zn w)), some (.int za0), some (.int za1)] [.int (zI (decide ((0 : Int) ≤ za0.toInt ∧ za0.toInt ≤ ((R : Nat) : Int) - (1 : Int))))] ph
        refine w_beq (ykc_192 (e := (4, .ifCond .eq 32, 116)) rfl) rfl (fun b1477 => ?_) (fun b1477 => ?_)
        · refine w_alu (pc' := 117) (st' := [.int (Int32.ofInt (-1))]) (ykc_192 (e := (0, .iconst (-1), 0)) rfl) rfl rfl ?_
          refine w_ret (v := (some (.int (Int32.ofInt (-1))))) (ykc_192 (e := (7, .ireturn, 0)) rfl) (zr_v rfl) ?_
          rw [hQ]
          exact ⟨rfl, _, rfl⟩
        · refine w_load (pc' := 89) (v := .int za1) (m := 2) (ykc_192 (e := (2, .iload 4, 0)) rfl) rfl rfl ?_
          refine w_alu (pc' := 90) (st' := [.long za1.toInt64]) (ykc_192 (e := (0, .i2l, 0)) rfl) rfl rfl ?_
          refine w_alu (pc' := 91) (st' := [.long (Int64.ofNat kG0), .long za1.toInt64]) (ykc_192 (e := (0, .lconst kG0, 0)) rfl) rfl rfl ?_
          refine w_load (pc' := 92) (v := .ref 170) (m := 1) (ykc_192 (e := (2, .aload_n kF0, 0)) rfl) rfl rfl ?_
          refine w_gf (pc' := 95) (v := .int (zn C)) (ykc_192 (e := (5, .getfield 27, 0)) rfl) rfl gC rfl ?_
          refine w_alu (pc' := 96) (st' := [.int (Int32.ofInt 1), .int (zn C), .long (Int64.ofNat kG0), .long za1.toInt64]) (ykc_192 (e := (0, .iconst 1, 0)) rfl) rfl rfl ?_
          obtain ⟨z1478, e_z1478, h_z1478⟩ : ∃ zq : Int32, (zn C) - (Int32.ofInt 1) = zq ∧ zq.toInt = ((C : Nat) : Int) - (1 : Int) := ⟨_, rfl, (by have := ti_sub (x := (zn C)) (y := (Int32.ofInt 1)) (by omega) (by omega); omega)⟩
          refine w_alu (pc' := 97) (st' := [.int z1478, .long (Int64.ofNat kG0), .long za1.toInt64]) (ykc_192 (e := (0, .isub, 0)) rfl) (by rw [← e_z1478]; rfl) rfl ?_
          refine w_alu (pc' := 98) (st' := [.long z1478.toInt64, .long (Int64.ofNat kG0), .long za1.toInt64]) (ykc_192 (e := (0, .i2l, 0)) rfl) rfl rfl ?_
          refine w_cs (as := [.long za1.toInt64, .long (Int64.ofNat kG0), .long z1478.toInt64]) (r := []) (ykc_192 (e := (6, .invokestatic 126, 0)) rfl) rfl rfl rfl rfl (zm_in (x := za1.toInt) (y := (0 : Int)) (z := ((C : Nat) : Int) - (1 : Int)) (by first | exact ztl | (rw [ztl]; omega) | decide | omega) (by first | exact ztl | (rw [ztl]; omega) | decide | omega) (by first | exact ztl | (rw [ztl]; omega) | decide | omega)) (fun v1479 ph1480 hv => ?_)
          obtain ⟨rfl, rfl⟩ := hv
          show zW n D 192 Q 101 [some (.ref 170), some (.int y), some (.int (zn w)), some (.int za0), some (.int za1)] [.int (zI (decide ((0 : Int) ≤ za1.toInt ∧ za1.toInt ≤ ((C : Nat) : Int) - (1 : Int))))] ph
          refine w_beq (ykc_192 (e := (4, .ifCond .eq 15, 116)) rfl) rfl (fun b1481 => ?_) (fun b1481 => ?_)
          · refine w_alu (pc' := 117) (st' := [.int (Int32.ofInt (-1))]) (ykc_192 (e := (0, .iconst (-1), 0)) rfl) rfl rfl ?_
            refine w_ret (v := (some (.int (Int32.ofInt (-1))))) (ykc_192 (e := (7, .ireturn, 0)) rfl) (zr_v rfl) ?_
            rw [hQ]
            exact ⟨rfl, _, rfl⟩
          · refine w_load (pc' := 105) (v := .ref 170) (m := 1) (ykc_192 (e := (2, .aload_n kF0, 0)) rfl) rfl rfl ?_
            refine w_gf (pc' := 108) (v := .int (zn C)) (ykc_192 (e := (5, .getfield 27, 0)) rfl) rfl gC rfl ?_
            refine w_load (pc' := 109) (v := .int za0) (m := 1) (ykc_192 (e := (2, .iload_n kF3, 0)) rfl) rfl rfl ?_
            refine w_alu (pc' := 110) (st' := [.int ((zn C) * za0)]) (ykc_192 (e := (0, .imul, 0)) rfl) rfl rfl ?_
            refine w_load (pc' := 112) (v := .int za1) (m := 2) (ykc_192 (e := (2, .iload 4, 0)) rfl) rfl rfl ?_
            refine w_alu (pc' := 113) (st' := [.int (((zn C) * za0) + za1)]) (ykc_192 (e := (0, .iadd, 0)) rfl) rfl rfl ?_
            refine w_br (pc' := 117) (st' := [.int (((zn C) * za0) + za1)]) (ykc_192 (e := (4, .goto 4, 117)) rfl) rfl ?_
            refine w_ret (v := (some (.int (((zn C) * za0) + za1)))) (ykc_192 (e := (7, .ireturn, 0)) rfl) (zr_v rfl) ?_
            rw [hQ]
            exact ⟨rfl, _, rfl⟩
      · refine w_alu (pc' := 64) (st' := [.int (Int32.ofInt (-1)), .int (y - y / (zn C) * (zn C))]) (ykc_192 (e := (0, .iconst (-1), 0)) rfl) rfl rfl ?_
        refine w_br (pc' := 68) (st' := [.int (Int32.ofInt (-1)), .int (y - y / (zn C) * (zn C))]) (ykc_192 (e := (4, .goto 4, 68)) rfl) rfl ?_
        refine w_alu (pc' := 69) (st' := [.int ((y - y / (zn C) * (zn C)) + (Int32.ofInt (-1)))]) (ykc_192 (e := (0, .iadd, 0)) rfl) rfl rfl ?_
        obtain ⟨za1, e_za1⟩ : ∃ zq : Int32, ((y - y / (zn C) * (zn C)) + (Int32.ofInt (-1))) = zq := ⟨_, rfl⟩
        rw [e_za1]
        refine w_store (pc' := 71) (L' := [some (.ref 170), some (.int y), some (.int (zn w)), some (.int za0), some (.int za1)]) (st' := []) (m := 2) (ykc_192 (e := (3, .istore 4, 0)) rfl) rfl rfl ?_
        refine w_load (pc' := 72) (v := .int za0) (m := 1) (ykc_192 (e := (2, .iload_n kF3, 0)) rfl) rfl rfl ?_
        refine w_alu (pc' := 73) (st' := [.long za0.toInt64]) (ykc_192 (e := (0, .i2l, 0)) rfl) rfl rfl ?_
        refine w_alu (pc' := 74) (st' := [.long (Int64.ofNat kG0), .long za0.toInt64]) (ykc_192 (e := (0, .lconst kG0, 0)) rfl) rfl rfl ?_
        refine w_load (pc' := 75) (v := .ref 170) (m := 1) (ykc_192 (e := (2, .aload_n kF0, 0)) rfl) rfl rfl ?_
        refine w_gf (pc' := 78) (v := .int (zn R)) (ykc_192 (e := (5, .getfield 24, 0)) rfl) rfl gR rfl ?_
        refine w_alu (pc' := 79) (st' := [.int (Int32.ofInt 1), .int (zn R), .long (Int64.ofNat kG0), .long za0.toInt64]) (ykc_192 (e := (0, .iconst 1, 0)) rfl) rfl rfl ?_
        obtain ⟨z1482, e_z1482, h_z1482⟩ : ∃ zq : Int32, (zn R) - (Int32.ofInt 1) = zq ∧ zq.toInt = ((R : Nat) : Int) - (1 : Int) := ⟨_, rfl, (by have := ti_sub (x := (zn R)) (y := (Int32.ofInt 1)) (by omega) (by omega); omega)⟩
        refine w_alu (pc' := 80) (st' := [.int z1482, .long (Int64.ofNat kG0), .long za0.toInt64]) (ykc_192 (e := (0, .isub, 0)) rfl) (by rw [← e_z1482]; rfl) rfl ?_
        refine w_alu (pc' := 81) (st' := [.long z1482.toInt64, .long (Int64.ofNat kG0), .long za0.toInt64]) (ykc_192 (e := (0, .i2l, 0)) rfl) rfl rfl ?_
        refine w_cs (as := [.long za0.toInt64, .long (Int64.ofNat kG0), .long z1482.toInt64]) (r := []) (ykc_192 (e := (6, .invokestatic 126, 0)) rfl) rfl rfl rfl rfl (zm_in (x := za0.toInt) (y := (0 : Int)) (z := ((R : Nat) : Int) - (1 : Int)) (by first | exact ztl | (rw [ztl]; omega) | decide | omega) (by first | exact ztl | (rw [ztl]; omega) | decide | omega) (by first | exact ztl | (rw [ztl]; omega) | decide | omega)) (fun v1483 ph1484 hv => ?_)
        obtain ⟨rfl, rfl⟩ := hv
        show zW n D 192 Q 84 [some (.ref 170), some (.int y), some (.int (zn w)), some (.int za0), some (.int za1)] [.int (zI (decide ((0 : Int) ≤ za0.toInt ∧ za0.toInt ≤ ((R : Nat) : Int) - (1 : Int))))] ph
        refine w_beq (ykc_192 (e := (4, .ifCond .eq 32, 116)) rfl) rfl (fun b1485 => ?_) (fun b1485 => ?_)
        · refine w_alu (pc' := 117) (st' := [.int (Int32.ofInt (-1))]) (ykc_192 (e := (0, .iconst (-1), 0)) rfl) rfl rfl ?_
          refine w_ret (v := (some (.int (Int32.ofInt (-1))))) (ykc_192 (e := (7, .ireturn, 0)) rfl) (zr_v rfl) ?_
          rw [hQ]
          exact ⟨rfl, _, rfl⟩
        · refine w_load (pc' := 89) (v := .int za1) (m := 2) (ykc_192 (e := (2, .iload 4, 0)) rfl) rfl rfl ?_
          refine w_alu (pc' := 90) (st' := [.long za1.toInt64]) (ykc_192 (e := (0, .i2l, 0)) rfl) rfl rfl ?_
          refine w_alu (pc' := 91) (st' := [.long (Int64.ofNat kG0), .long za1.toInt64]) (ykc_192 (e := (0, .lconst kG0, 0)) rfl) rfl rfl ?_
          refine w_load (pc' := 92) (v := .ref 170) (m := 1) (ykc_192 (e := (2, .aload_n kF0, 0)) rfl) rfl rfl ?_
          refine w_gf (pc' := 95) (v := .int (zn C)) (ykc_192 (e := (5, .getfield 27, 0)) rfl) rfl gC rfl ?_
          refine w_alu (pc' := 96) (st' := [.int (Int32.ofInt 1), .int (zn C), .long (Int64.ofNat kG0), .long za1.toInt64]) (ykc_192 (e := (0, .iconst 1, 0)) rfl) rfl rfl ?_
          obtain ⟨z1486, e_z1486, h_z1486⟩ : ∃ zq : Int32, (zn C) - (Int32.ofInt 1) = zq ∧ zq.toInt = ((C : Nat) : Int) - (1 : Int) := ⟨_, rfl, (by have := ti_sub (x := (zn C)) (y := (Int32.ofInt 1)) (by omega) (by omega); omega)⟩
          refine w_alu (pc' := 97) (st' := [.int z1486, .long (Int64.ofNat kG0), .long za1.toInt64]) (ykc_192 (e := (0, .isub, 0)) rfl) (by rw [← e_z1486]; rfl) rfl ?_
          refine w_alu (pc' := 98) (st' := [.long z1486.toInt64, .long (Int64.ofNat kG0), .long za1.toInt64]) (ykc_192 (e := (0, .i2l, 0)) rfl) rfl rfl ?_
          refine w_cs (as := [.long za1.toInt64, .long (Int64.ofNat kG0), .long z1486.toInt64]) (r := []) (ykc_192 (e := (6, .invokestatic 126, 0)) rfl) rfl rfl rfl rfl (zm_in (x := za1.toInt) (y := (0 : Int)) (z := ((C : Nat) : Int) - (1 : Int)) (by first | exact ztl | (rw [ztl]; omega) | decide | omega) (by first | exact ztl | (rw [ztl]; omega) | decide | omega) (by first | exact ztl | (rw [ztl]; omega) | decide | omega)) (fun v1487 ph1488 hv => ?_)
          obtain ⟨rfl, rfl⟩ := hv
          show zW n D 192 Q 101 [some (.ref 170), some (.int y), some (.int (zn w)), some (.int za0), some (.int za1)] [.int (zI (decide ((0 : Int) ≤ za1.toInt ∧ za1.toInt ≤ ((C : Nat) : Int) - (1 : Int))))] ph
          refine w_beq (ykc_192 (e := (4, .ifCond .eq 15, 116)) rfl) rfl (fun b1489 => ?_) (fun b1489 => ?_)
          · refine w_alu (pc' := 117) (st' := [.int (Int32.ofInt (-1))]) (ykc_192 (e := (0, .iconst (-1), 0)) rfl) rfl rfl ?_
            refine w_ret (v := (some (.int (Int32.ofInt (-1))))) (ykc_192 (e := (7, .ireturn, 0)) rfl) (zr_v rfl) ?_
            rw [hQ]
            exact ⟨rfl, _, rfl⟩
          · refine w_load (pc' := 105) (v := .ref 170) (m := 1) (ykc_192 (e := (2, .aload_n kF0, 0)) rfl) rfl rfl ?_
            refine w_gf (pc' := 108) (v := .int (zn C)) (ykc_192 (e := (5, .getfield 27, 0)) rfl) rfl gC rfl ?_
            refine w_load (pc' := 109) (v := .int za0) (m := 1) (ykc_192 (e := (2, .iload_n kF3, 0)) rfl) rfl rfl ?_
            refine w_alu (pc' := 110) (st' := [.int ((zn C) * za0)]) (ykc_192 (e := (0, .imul, 0)) rfl) rfl rfl ?_
            refine w_load (pc' := 112) (v := .int za1) (m := 2) (ykc_192 (e := (2, .iload 4, 0)) rfl) rfl rfl ?_
            refine w_alu (pc' := 113) (st' := [.int (((zn C) * za0) + za1)]) (ykc_192 (e := (0, .iadd, 0)) rfl) rfl rfl ?_
            refine w_br (pc' := 117) (st' := [.int (((zn C) * za0) + za1)]) (ykc_192 (e := (4, .goto 4, 117)) rfl) rfl ?_
            refine w_ret (v := (some (.int (((zn C) * za0) + za1)))) (ykc_192 (e := (7, .ireturn, 0)) rfl) (zr_v rfl) ?_
            rw [hQ]
            exact ⟨rfl, _, rfl⟩
    · refine w_load (pc' := 50) (v := .int (zn w)) (m := 1) (ykc_192 (e := (2, .iload_n kF2, 0)) rfl) rfl rfl ?_
      refine w_alu (pc' := 51) (st' := [.int (Int32.ofInt 4), .int (zn w), .int (y - y / (zn C) * (zn C))]) (ykc_192 (e := (0, .iconst 4, 0)) rfl) rfl rfl ?_
      refine w_ige (ykc_192 (e := (4, .if_icmp .ge 7, 58)) rfl) rfl (fun b1490 => ?_) (fun b1490 => ?_)
      · refine w_load (pc' := 59) (v := .int (zn w)) (m := 1) (ykc_192 (e := (2, .iload_n kF2, 0)) rfl) rfl rfl ?_
        refine w_alu (pc' := 60) (st' := [.int (Int32.ofInt 4), .int (zn w), .int (y - y / (zn C) * (zn C))]) (ykc_192 (e := (0, .iconst 4, 0)) rfl) rfl rfl ?_
        refine w_ile (ykc_192 (e := (4, .if_icmp .le 7, 67)) rfl) rfl (fun b1491 => ?_) (fun b1491 => ?_)
        · refine w_alu (pc' := 68) (st' := [.int (Int32.ofInt 0), .int (y - y / (zn C) * (zn C))]) (ykc_192 (e := (0, .iconst 0, 0)) rfl) rfl rfl ?_
          refine w_alu (pc' := 69) (st' := [.int ((y - y / (zn C) * (zn C)) + (Int32.ofInt 0))]) (ykc_192 (e := (0, .iadd, 0)) rfl) rfl rfl ?_
          obtain ⟨za1, e_za1⟩ : ∃ zq : Int32, ((y - y / (zn C) * (zn C)) + (Int32.ofInt 0)) = zq := ⟨_, rfl⟩
          rw [e_za1]
          refine w_store (pc' := 71) (L' := [some (.ref 170), some (.int y), some (.int (zn w)), some (.int za0), some (.int za1)]) (st' := []) (m := 2) (ykc_192 (e := (3, .istore 4, 0)) rfl) rfl rfl ?_
          refine w_load (pc' := 72) (v := .int za0) (m := 1) (ykc_192 (e := (2, .iload_n kF3, 0)) rfl) rfl rfl ?_
          refine w_alu (pc' := 73) (st' := [.long za0.toInt64]) (ykc_192 (e := (0, .i2l, 0)) rfl) rfl rfl ?_
          refine w_alu (pc' := 74) (st' := [.long (Int64.ofNat kG0), .long za0.toInt64]) (ykc_192 (e := (0, .lconst kG0, 0)) rfl) rfl rfl ?_
          refine w_load (pc' := 75) (v := .ref 170) (m := 1) (ykc_192 (e := (2, .aload_n kF0, 0)) rfl) rfl rfl ?_
          refine w_gf (pc' := 78) (v := .int (zn R)) (ykc_192 (e := (5, .getfield 24, 0)) rfl) rfl gR rfl ?_
          refine w_alu (pc' := 79) (st' := [.int (Int32.ofInt 1), .int (zn R), .long (Int64.ofNat kG0), .long za0.toInt64]) (ykc_192 (e := (0, .iconst 1, 0)) rfl) rfl rfl ?_
          obtain ⟨z1492, e_z1492, h_z1492⟩ : ∃ zq : Int32, (zn R) - (Int32.ofInt 1) = zq ∧ zq.toInt = ((R : Nat) : Int) - (1 : Int) := ⟨_, rfl, (by have := ti_sub (x := (zn R)) (y := (Int32.ofInt 1)) (by omega) (by omega); omega)⟩
          refine w_alu (pc' := 80) (st' := [.int z1492, .long (Int64.ofNat kG0), .long za0.toInt64]) (ykc_192 (e := (0, .isub, 0)) rfl) (by rw [← e_z1492]; rfl) rfl ?_
          refine w_alu (pc' := 81) (st' := [.long z1492.toInt64, .long (Int64.ofNat kG0), .long za0.toInt64]) (ykc_192 (e := (0, .i2l, 0)) rfl) rfl rfl ?_
          refine w_cs (as := [.long za0.toInt64, .long (Int64.ofNat kG0), .long z1492.toInt64]) (r := []) (ykc_192 (e := (6, .invokestatic 126, 0)) rfl) rfl rfl rfl rfl (zm_in (x := za0.toInt) (y := (0 : Int)) (z := ((R : Nat) : Int) - (1 : Int)) (by first | exact ztl | (rw [ztl]; omega) | decide | omega) (by first | exact ztl | (rw [ztl]; omega) | decide | omega) (by first | exact ztl | (rw [ztl]; omega) | decide | omega)) (fun v1493 ph1494 hv => ?_)
          obtain ⟨rfl, rfl⟩ := hv
          show zW n D 192 Q 84 [some (.ref 170), some (.int y), some (.int (zn w)), some (.int za0), some (.int za1)] [.int (zI (decide ((0 : Int) ≤ za0.toInt ∧ za0.toInt ≤ ((R : Nat) : Int) - (1 : Int))))] ph
          refine w_beq (ykc_192 (e := (4, .ifCond .eq 32, 116)) rfl) rfl (fun b1495 => ?_) (fun b1495 => ?_)
          · refine w_alu (pc' := 117) (st' := [.int (Int32.ofInt (-1))]) (ykc_192 (e := (0, .iconst (-1), 0)) rfl) rfl rfl ?_
            refine w_ret (v := (some (.int (Int32.ofInt (-1))))) (ykc_192 (e := (7, .ireturn, 0)) rfl) (zr_v rfl) ?_
            rw [hQ]
            exact ⟨rfl, _, rfl⟩
          · refine w_load (pc' := 89) (v := .int za1) (m := 2) (ykc_192 (e := (2, .iload 4, 0)) rfl) rfl rfl ?_
            refine w_alu (pc' := 90) (st' := [.long za1.toInt64]) (ykc_192 (e := (0, .i2l, 0)) rfl) rfl rfl ?_
            refine w_alu (pc' := 91) (st' := [.long (Int64.ofNat kG0), .long za1.toInt64]) (ykc_192 (e := (0, .lconst kG0, 0)) rfl) rfl rfl ?_
            refine w_load (pc' := 92) (v := .ref 170) (m := 1) (ykc_192 (e := (2, .aload_n kF0, 0)) rfl) rfl rfl ?_
            refine w_gf (pc' := 95) (v := .int (zn C)) (ykc_192 (e := (5, .getfield 27, 0)) rfl) rfl gC rfl ?_
            refine w_alu (pc' := 96) (st' := [.int (Int32.ofInt 1), .int (zn C), .long (Int64.ofNat kG0), .long za1.toInt64]) (ykc_192 (e := (0, .iconst 1, 0)) rfl) rfl rfl ?_
            obtain ⟨z1496, e_z1496, h_z1496⟩ : ∃ zq : Int32, (zn C) - (Int32.ofInt 1) = zq ∧ zq.toInt = ((C : Nat) : Int) - (1 : Int) := ⟨_, rfl, (by have := ti_sub (x := (zn C)) (y := (Int32.ofInt 1)) (by omega) (by omega); omega)⟩
            refine w_alu (pc' := 97) (st' := [.int z1496, .long (Int64.ofNat kG0), .long za1.toInt64]) (ykc_192 (e := (0, .isub, 0)) rfl) (by rw [← e_z1496]; rfl) rfl ?_
            refine w_alu (pc' := 98) (st' := [.long z1496.toInt64, .long (Int64.ofNat kG0), .long za1.toInt64]) (ykc_192 (e := (0, .i2l, 0)) rfl) rfl rfl ?_
            refine w_cs (as := [.long za1.toInt64, .long (Int64.ofNat kG0), .long z1496.toInt64]) (r := []) (ykc_192 (e := (6, .invokestatic 126, 0)) rfl) rfl rfl rfl rfl (zm_in (x := za1.toInt) (y := (0 : Int)) (z := ((C : Nat) : Int) - (1 : Int)) (by first | exact ztl | (rw [ztl]; omega) | decide | omega) (by first | exact ztl | (rw [ztl]; omega) | decide | omega) (by first | exact ztl | (rw [ztl]; omega) | decide | omega)) (fun v1497 ph1498 hv => ?_)
            obtain ⟨rfl, rfl⟩ := hv
            show zW n D 192 Q 101 [some (.ref 170), some (.int y), some (.int (zn w)), some (.int za0), some (.int za1)] [.int (zI (decide ((0 : Int) ≤ za1.toInt ∧ za1.toInt ≤ ((C : Nat) : Int) - (1 : Int))))] ph
            refine w_beq (ykc_192 (e := (4, .ifCond .eq 15, 116)) rfl) rfl (fun b1499 => ?_) (fun b1499 => ?_)
            · refine w_alu (pc' := 117) (st' := [.int (Int32.ofInt (-1))]) (ykc_192 (e := (0, .iconst (-1), 0)) rfl) rfl rfl ?_
              refine w_ret (v := (some (.int (Int32.ofInt (-1))))) (ykc_192 (e := (7, .ireturn, 0)) rfl) (zr_v rfl) ?_
              rw [hQ]
              exact ⟨rfl, _, rfl⟩
            · refine w_load (pc' := 105) (v := .ref 170) (m := 1) (ykc_192 (e := (2, .aload_n kF0, 0)) rfl) rfl rfl ?_
              refine w_gf (pc' := 108) (v := .int (zn C)) (ykc_192 (e := (5, .getfield 27, 0)) rfl) rfl gC rfl ?_
              refine w_load (pc' := 109) (v := .int za0) (m := 1) (ykc_192 (e := (2, .iload_n kF3, 0)) rfl) rfl rfl ?_
              refine w_alu (pc' := 110) (st' := [.int ((zn C) * za0)]) (ykc_192 (e := (0, .imul, 0)) rfl) rfl rfl ?_
              refine w_load (pc' := 112) (v := .int za1) (m := 2) (ykc_192 (e := (2, .iload 4, 0)) rfl) rfl rfl ?_
              refine w_alu (pc' := 113) (st' := [.int (((zn C) * za0) + za1)]) (ykc_192 (e := (0, .iadd, 0)) rfl) rfl rfl ?_
              refine w_br (pc' := 117) (st' := [.int (((zn C) * za0) + za1)]) (ykc_192 (e := (4, .goto 4, 117)) rfl) rfl ?_
              refine w_ret (v := (some (.int (((zn C) * za0) + za1)))) (ykc_192 (e := (7, .ireturn, 0)) rfl) (zr_v rfl) ?_
              rw [hQ]
              exact ⟨rfl, _, rfl⟩
        · refine w_alu (pc' := 64) (st' := [.int (Int32.ofInt (-1)), .int (y - y / (zn C) * (zn C))]) (ykc_192 (e := (0, .iconst (-1), 0)) rfl) rfl rfl ?_
          refine w_br (pc' := 68) (st' := [.int (Int32.ofInt (-1)), .int (y - y / (zn C) * (zn C))]) (ykc_192 (e := (4, .goto 4, 68)) rfl) rfl ?_
          refine w_alu (pc' := 69) (st' := [.int ((y - y / (zn C) * (zn C)) + (Int32.ofInt (-1)))]) (ykc_192 (e := (0, .iadd, 0)) rfl) rfl rfl ?_
          obtain ⟨za1, e_za1⟩ : ∃ zq : Int32, ((y - y / (zn C) * (zn C)) + (Int32.ofInt (-1))) = zq := ⟨_, rfl⟩
          rw [e_za1]
          refine w_store (pc' := 71) (L' := [some (.ref 170), some (.int y), some (.int (zn w)), some (.int za0), some (.int za1)]) (st' := []) (m := 2) (ykc_192 (e := (3, .istore 4, 0)) rfl) rfl rfl ?_
          refine w_load (pc' := 72) (v := .int za0) (m := 1) (ykc_192 (e := (2, .iload_n kF3, 0)) rfl) rfl rfl ?_
          refine w_alu (pc' := 73) (st' := [.long za0.toInt64]) (ykc_192 (e := (0, .i2l, 0)) rfl) rfl rfl ?_
          refine w_alu (pc' := 74) (st' := [.long (Int64.ofNat kG0), .long za0.toInt64]) (ykc_192 (e := (0, .lconst kG0, 0)) rfl) rfl rfl ?_
          refine w_load (pc' := 75) (v := .ref 170) (m := 1) (ykc_192 (e := (2, .aload_n kF0, 0)) rfl) rfl rfl ?_
          refine w_gf (pc' := 78) (v := .int (zn R)) (ykc_192 (e := (5, .getfield 24, 0)) rfl) rfl gR rfl ?_
          refine w_alu (pc' := 79) (st' := [.int (Int32.ofInt 1), .int (zn R), .long (Int64.ofNat kG0), .long za0.toInt64]) (ykc_192 (e := (0, .iconst 1, 0)) rfl) rfl rfl ?_
          obtain ⟨z1500, e_z1500, h_z1500⟩ : ∃ zq : Int32, (zn R) - (Int32.ofInt 1) = zq ∧ zq.toInt = ((R : Nat) : Int) - (1 : Int) := ⟨_, rfl, (by have := ti_sub (x := (zn R)) (y := (Int32.ofInt 1)) (by omega) (by omega); omega)⟩
          refine w_alu (pc' := 80) (st' := [.int z1500, .long (Int64.ofNat kG0), .long za0.toInt64]) (ykc_192 (e := (0, .isub, 0)) rfl) (by rw [← e_z1500]; rfl) rfl ?_
          refine w_alu (pc' := 81) (st' := [.long z1500.toInt64, .long (Int64.ofNat kG0), .long za0.toInt64]) (ykc_192 (e := (0, .i2l, 0)) rfl) rfl rfl ?_
          refine w_cs (as := [.long za0.toInt64, .long (Int64.ofNat kG0), .long z1500.toInt64]) (r := []) (ykc_192 (e := (6, .invokestatic 126, 0)) rfl) rfl rfl rfl rfl (zm_in (x := za0.toInt) (y := (0 : Int)) (z := ((R : Nat) : Int) - (1 : Int)) (by first | exact ztl | (rw [ztl]; omega) | decide | omega) (by first | exact ztl | (rw [ztl]; omega) | decide | omega) (by first | exact ztl | (rw [ztl]; omega) | decide | omega)) (fun v1501 ph1502 hv => ?_)
          obtain ⟨rfl, rfl⟩ := hv
          show zW n D 192 Q 84 [some (.ref 170), some (.int y), some (.int (zn w)), some (.int za0), some (.int za1)] [.int (zI (decide ((0 : Int) ≤ za0.toInt ∧ za0.toInt ≤ ((R : Nat) : Int) - (1 : Int))))] ph
          refine w_beq (ykc_192 (e := (4, .ifCond .eq 32, 116)) rfl) rfl (fun b1503 => ?_) (fun b1503 => ?_)
          · refine w_alu (pc' := 117) (st' := [.int (Int32.ofInt (-1))]) (ykc_192 (e := (0, .iconst (-1), 0)) rfl) rfl rfl ?_
            refine w_ret (v := (some (.int (Int32.ofInt (-1))))) (ykc_192 (e := (7, .ireturn, 0)) rfl) (zr_v rfl) ?_
            rw [hQ]
            exact ⟨rfl, _, rfl⟩
          · refine w_load (pc' := 89) (v := .int za1) (m := 2) (ykc_192 (e := (2, .iload 4, 0)) rfl) rfl rfl ?_
            refine w_alu (pc' := 90) (st' := [.long za1.toInt64]) (ykc_192 (e := (0, .i2l, 0)) rfl) rfl rfl ?_
            refine w_alu (pc' := 91) (st' := [.long (Int64.ofNat kG0), .long za1.toInt64]) (ykc_192 (e := (0, .lconst kG0, 0)) rfl) rfl rfl ?_
            refine w_load (pc' := 92) (v := .ref 170) (m := 1) (ykc_192 (e := (2, .aload_n kF0, 0)) rfl) rfl rfl ?_
            refine w_gf (pc' := 95) (v := .int (zn C)) (ykc_192 (e := (5, .getfield 27, 0)) rfl) rfl gC rfl ?_
            refine w_alu (pc' := 96) (st' := [.int (Int32.ofInt 1), .int (zn C), .long (Int64.ofNat kG0), .long za1.toInt64]) (ykc_192 (e := (0, .iconst 1, 0)) rfl) rfl rfl ?_
            obtain ⟨z1504, e_z1504, h_z1504⟩ : ∃ zq : Int32, (zn C) - (Int32.ofInt 1) = zq ∧ zq.toInt = ((C : Nat) : Int) - (1 : Int) := ⟨_, rfl, (by have := ti_sub (x := (zn C)) (y := (Int32.ofInt 1)) (by omega) (by omega); omega)⟩
            refine w_alu (pc' := 97) (st' := [.int z1504, .long (Int64.ofNat kG0), .long za1.toInt64]) (ykc_192 (e := (0, .isub, 0)) rfl) (by rw [← e_z1504]; rfl) rfl ?_
            refine w_alu (pc' := 98) (st' := [.long z1504.toInt64, .long (Int64.ofNat kG0), .long za1.toInt64]) (ykc_192 (e := (0, .i2l, 0)) rfl) rfl rfl ?_
            refine w_cs (as := [.long za1.toInt64, .long (Int64.ofNat kG0), .long z1504.toInt64]) (r := []) (ykc_192 (e := (6, .invokestatic 126, 0)) rfl) rfl rfl rfl rfl (zm_in (x := za1.toInt) (y := (0 : Int)) (z := ((C : Nat) : Int) - (1 : Int)) (by first | exact ztl | (rw [ztl]; omega) | decide | omega) (by first | exact ztl | (rw [ztl]; omega) | decide | omega) (by first | exact ztl | (rw [ztl]; omega) | decide | omega)) (fun v1505 ph1506 hv => ?_)
            obtain ⟨rfl, rfl⟩ := hv
            show zW n D 192 Q 101 [some (.ref 170), some (.int y), some (.int (zn w)), some (.int za0), some (.int za1)] [.int (zI (decide ((0 : Int) ≤ za1.toInt ∧ za1.toInt ≤ ((C : Nat) : Int) - (1 : Int))))] ph
            refine w_beq (ykc_192 (e := (4, .ifCond .eq 15, 116)) rfl) rfl (fun b1507 => ?_) (fun b1507 => ?_)
            · refine w_alu (pc' := 117) (st' := [.int (Int32.ofInt (-1))]) (ykc_192 (e := (0, .iconst (-1), 0)) rfl) rfl rfl ?_
              refine w_ret (v := (some (.int (Int32.ofInt (-1))))) (ykc_192 (e := (7, .ireturn, 0)) rfl) (zr_v rfl) ?_
              rw [hQ]
              exact ⟨rfl, _, rfl⟩
            · refine w_load (pc' := 105) (v := .ref 170) (m := 1) (ykc_192 (e := (2, .aload_n kF0, 0)) rfl) rfl rfl ?_
              refine w_gf (pc' := 108) (v := .int (zn C)) (ykc_192 (e := (5, .getfield 27, 0)) rfl) rfl gC rfl ?_
              refine w_load (pc' := 109) (v := .int za0) (m := 1) (ykc_192 (e := (2, .iload_n kF3, 0)) rfl) rfl rfl ?_
              refine w_alu (pc' := 110) (st' := [.int ((zn C) * za0)]) (ykc_192 (e := (0, .imul, 0)) rfl) rfl rfl ?_
              refine w_load (pc' := 112) (v := .int za1) (m := 2) (ykc_192 (e := (2, .iload 4, 0)) rfl) rfl rfl ?_
              refine w_alu (pc' := 113) (st' := [.int (((zn C) * za0) + za1)]) (ykc_192 (e := (0, .iadd, 0)) rfl) rfl rfl ?_
              refine w_br (pc' := 117) (st' := [.int (((zn C) * za0) + za1)]) (ykc_192 (e := (4, .goto 4, 117)) rfl) rfl ?_
              refine w_ret (v := (some (.int (((zn C) * za0) + za1)))) (ykc_192 (e := (7, .ireturn, 0)) rfl) (zr_v rfl) ?_
              rw [hQ]
              exact ⟨rfl, _, rfl⟩
      · refine w_alu (pc' := 55) (st' := [.int (Int32.ofInt 1), .int (y - y / (zn C) * (zn C))]) (ykc_192 (e := (0, .iconst 1, 0)) rfl) rfl rfl ?_
        refine w_br (pc' := 68) (st' := [.int (Int32.ofInt 1), .int (y - y / (zn C) * (zn C))]) (ykc_192 (e := (4, .goto 13, 68)) rfl) rfl ?_
        refine w_alu (pc' := 69) (st' := [.int ((y - y / (zn C) * (zn C)) + (Int32.ofInt 1))]) (ykc_192 (e := (0, .iadd, 0)) rfl) rfl rfl ?_
        obtain ⟨za1, e_za1⟩ : ∃ zq : Int32, ((y - y / (zn C) * (zn C)) + (Int32.ofInt 1)) = zq := ⟨_, rfl⟩
        rw [e_za1]
        refine w_store (pc' := 71) (L' := [some (.ref 170), some (.int y), some (.int (zn w)), some (.int za0), some (.int za1)]) (st' := []) (m := 2) (ykc_192 (e := (3, .istore 4, 0)) rfl) rfl rfl ?_
        refine w_load (pc' := 72) (v := .int za0) (m := 1) (ykc_192 (e := (2, .iload_n kF3, 0)) rfl) rfl rfl ?_
        refine w_alu (pc' := 73) (st' := [.long za0.toInt64]) (ykc_192 (e := (0, .i2l, 0)) rfl) rfl rfl ?_
        refine w_alu (pc' := 74) (st' := [.long (Int64.ofNat kG0), .long za0.toInt64]) (ykc_192 (e := (0, .lconst kG0, 0)) rfl) rfl rfl ?_
        refine w_load (pc' := 75) (v := .ref 170) (m := 1) (ykc_192 (e := (2, .aload_n kF0, 0)) rfl) rfl rfl ?_
        refine w_gf (pc' := 78) (v := .int (zn R)) (ykc_192 (e := (5, .getfield 24, 0)) rfl) rfl gR rfl ?_
        refine w_alu (pc' := 79) (st' := [.int (Int32.ofInt 1), .int (zn R), .long (Int64.ofNat kG0), .long za0.toInt64]) (ykc_192 (e := (0, .iconst 1, 0)) rfl) rfl rfl ?_
        obtain ⟨z1508, e_z1508, h_z1508⟩ : ∃ zq : Int32, (zn R) - (Int32.ofInt 1) = zq ∧ zq.toInt = ((R : Nat) : Int) - (1 : Int) := ⟨_, rfl, (by have := ti_sub (x := (zn R)) (y := (Int32.ofInt 1)) (by omega) (by omega); omega)⟩
        refine w_alu (pc' := 80) (st' := [.int z1508, .long (Int64.ofNat kG0), .long za0.toInt64]) (ykc_192 (e := (0, .isub, 0)) rfl) (by rw [← e_z1508]; rfl) rfl ?_
        refine w_alu (pc' := 81) (st' := [.long z1508.toInt64, .long (Int64.ofNat kG0), .long za0.toInt64]) (ykc_192 (e := (0, .i2l, 0)) rfl) rfl rfl ?_
        refine w_cs (as := [.long za0.toInt64, .long (Int64.ofNat kG0), .long z1508.toInt64]) (r := []) (ykc_192 (e := (6, .invokestatic 126, 0)) rfl) rfl rfl rfl rfl (zm_in (x := za0.toInt) (y := (0 : Int)) (z := ((R : Nat) : Int) - (1 : Int)) (by first | exact ztl | (rw [ztl]; omega) | decide | omega) (by first | exact ztl | (rw [ztl]; omega) | decide | omega) (by first | exact ztl | (rw [ztl]; omega) | decide | omega)) (fun v1509 ph1510 hv => ?_)
        obtain ⟨rfl, rfl⟩ := hv
        show zW n D 192 Q 84 [some (.ref 170), some (.int y), some (.int (zn w)), some (.int za0), some (.int za1)] [.int (zI (decide ((0 : Int) ≤ za0.toInt ∧ za0.toInt ≤ ((R : Nat) : Int) - (1 : Int))))] ph
        refine w_beq (ykc_192 (e := (4, .ifCond .eq 32, 116)) rfl) rfl (fun b1511 => ?_) (fun b1511 => ?_)
        · refine w_alu (pc' := 117) (st' := [.int (Int32.ofInt (-1))]) (ykc_192 (e := (0, .iconst (-1), 0)) rfl) rfl rfl ?_
          refine w_ret (v := (some (.int (Int32.ofInt (-1))))) (ykc_192 (e := (7, .ireturn, 0)) rfl) (zr_v rfl) ?_
          rw [hQ]
          exact ⟨rfl, _, rfl⟩
        · refine w_load (pc' := 89) (v := .int za1) (m := 2) (ykc_192 (e := (2, .iload 4, 0)) rfl) rfl rfl ?_
          refine w_alu (pc' := 90) (st' := [.long za1.toInt64]) (ykc_192 (e := (0, .i2l, 0)) rfl) rfl rfl ?_
          refine w_alu (pc' := 91) (st' := [.long (Int64.ofNat kG0), .long za1.toInt64]) (ykc_192 (e := (0, .lconst kG0, 0)) rfl) rfl rfl ?_
          refine w_load (pc' := 92) (v := .ref 170) (m := 1) (ykc_192 (e := (2, .aload_n kF0, 0)) rfl) rfl rfl ?_
          refine w_gf (pc' := 95) (v := .int (zn C)) (ykc_192 (e := (5, .getfield 27, 0)) rfl) rfl gC rfl ?_
          refine w_alu (pc' := 96) (st' := [.int (Int32.ofInt 1), .int (zn C), .long (Int64.ofNat kG0), .long za1.toInt64]) (ykc_192 (e := (0, .iconst 1, 0)) rfl) rfl rfl ?_
          obtain ⟨z1512, e_z1512, h_z1512⟩ : ∃ zq : Int32, (zn C) - (Int32.ofInt 1) = zq ∧ zq.toInt = ((C : Nat) : Int) - (1 : Int) := ⟨_, rfl, (by have := ti_sub (x := (zn C)) (y := (Int32.ofInt 1)) (by omega) (by omega); omega)⟩
          refine w_alu (pc' := 97) (st' := [.int z1512, .long (Int64.ofNat kG0), .long za1.toInt64]) (ykc_192 (e := (0, .isub, 0)) rfl) (by rw [← e_z1512]; rfl) rfl ?_
          refine w_alu (pc' := 98) (st' := [.long z1512.toInt64, .long (Int64.ofNat kG0), .long za1.toInt64]) (ykc_192 (e := (0, .i2l, 0)) rfl) rfl rfl ?_
          refine w_cs (as := [.long za1.toInt64, .long (Int64.ofNat kG0), .long z1512.toInt64]) (r := []) (ykc_192 (e := (6, .invokestatic 126, 0)) rfl) rfl rfl rfl rfl (zm_in (x := za1.toInt) (y := (0 : Int)) (z := ((C : Nat) : Int) - (1 : Int)) (by first | exact ztl | (rw [ztl]; omega) | decide | omega) (by first | exact ztl | (rw [ztl]; omega) | decide | omega) (by first | exact ztl | (rw [ztl]; omega) | decide | omega)) (fun v1513 ph1514 hv => ?_)
          obtain ⟨rfl, rfl⟩ := hv
          show zW n D 192 Q 101 [some (.ref 170), some (.int y), some (.int (zn w)), some (.int za0), some (.int za1)] [.int (zI (decide ((0 : Int) ≤ za1.toInt ∧ za1.toInt ≤ ((C : Nat) : Int) - (1 : Int))))] ph
          refine w_beq (ykc_192 (e := (4, .ifCond .eq 15, 116)) rfl) rfl (fun b1515 => ?_) (fun b1515 => ?_)
          · refine w_alu (pc' := 117) (st' := [.int (Int32.ofInt (-1))]) (ykc_192 (e := (0, .iconst (-1), 0)) rfl) rfl rfl ?_
            refine w_ret (v := (some (.int (Int32.ofInt (-1))))) (ykc_192 (e := (7, .ireturn, 0)) rfl) (zr_v rfl) ?_
            rw [hQ]
            exact ⟨rfl, _, rfl⟩
          · refine w_load (pc' := 105) (v := .ref 170) (m := 1) (ykc_192 (e := (2, .aload_n kF0, 0)) rfl) rfl rfl ?_
            refine w_gf (pc' := 108) (v := .int (zn C)) (ykc_192 (e := (5, .getfield 27, 0)) rfl) rfl gC rfl ?_
            refine w_load (pc' := 109) (v := .int za0) (m := 1) (ykc_192 (e := (2, .iload_n kF3, 0)) rfl) rfl rfl ?_
            refine w_alu (pc' := 110) (st' := [.int ((zn C) * za0)]) (ykc_192 (e := (0, .imul, 0)) rfl) rfl rfl ?_
            refine w_load (pc' := 112) (v := .int za1) (m := 2) (ykc_192 (e := (2, .iload 4, 0)) rfl) rfl rfl ?_
            refine w_alu (pc' := 113) (st' := [.int (((zn C) * za0) + za1)]) (ykc_192 (e := (0, .iadd, 0)) rfl) rfl rfl ?_
            refine w_br (pc' := 117) (st' := [.int (((zn C) * za0) + za1)]) (ykc_192 (e := (4, .goto 4, 117)) rfl) rfl ?_
            refine w_ret (v := (some (.int (((zn C) * za0) + za1)))) (ykc_192 (e := (7, .ireturn, 0)) rfl) (zr_v rfl) ?_
            rw [hQ]
            exact ⟨rfl, _, rfl⟩
  · refine w_load (pc' := 13) (v := .int (zn w)) (m := 1) (ykc_192 (e := (2, .iload_n kF2, 0)) rfl) rfl rfl ?_
    refine w_alu (pc' := 14) (st' := [.int (Int32.ofInt 2), .int (zn w), .int (y / (zn C))]) (ykc_192 (e := (0, .iconst 2, 0)) rfl) rfl rfl ?_
    refine w_ige (ykc_192 (e := (4, .if_icmp .ge 7, 21)) rfl) rfl (fun b1516 => ?_) (fun b1516 => ?_)
    · refine w_load (pc' := 22) (v := .int (zn w)) (m := 1) (ykc_192 (e := (2, .iload_n kF2, 0)) rfl) rfl rfl ?_
      refine w_alu (pc' := 23) (st' := [.int (Int32.ofInt 2), .int (zn w), .int (y / (zn C))]) (ykc_192 (e := (0, .iconst 2, 0)) rfl) rfl rfl ?_
      refine w_ile (ykc_192 (e := (4, .if_icmp .le 13, 36)) rfl) rfl (fun b1517 => ?_) (fun b1517 => ?_)
      · refine w_alu (pc' := 37) (st' := [.int (Int32.ofInt 0), .int (y / (zn C))]) (ykc_192 (e := (0, .iconst 0, 0)) rfl) rfl rfl ?_
        refine w_alu (pc' := 38) (st' := [.int ((y / (zn C)) + (Int32.ofInt 0))]) (ykc_192 (e := (0, .iadd, 0)) rfl) rfl rfl ?_
        obtain ⟨za0, e_za0⟩ : ∃ zq : Int32, ((y / (zn C)) + (Int32.ofInt 0)) = zq := ⟨_, rfl⟩
        rw [e_za0]
        refine w_store (pc' := 39) (L' := [some (.ref 170), some (.int y), some (.int (zn w)), some (.int za0), none]) (st' := []) (m := 1) (ykc_192 (e := (3, .istore_n kF3, 0)) rfl) rfl rfl ?_
        refine w_load (pc' := 40) (v := .int y) (m := 1) (ykc_192 (e := (2, .iload_n kF1, 0)) rfl) rfl rfl ?_
        refine w_load (pc' := 41) (v := .ref 170) (m := 1) (ykc_192 (e := (2, .aload_n kF0, 0)) rfl) rfl rfl ?_
        refine w_gf (pc' := 44) (v := .int (zn C)) (ykc_192 (e := (5, .getfield 27, 0)) rfl) rfl gC rfl ?_
        refine w_irem (pc' := 45) (ykc_192 (e := (0, .irem, 0)) rfl) rfl (fun d1518 => ?_)
        show zW n D 192 Q 45 [some (.ref 170), some (.int y), some (.int (zn w)), some (.int za0), none] [.int (y - y / (zn C) * (zn C))] ph
        refine w_load (pc' := 46) (v := .int (zn w)) (m := 1) (ykc_192 (e := (2, .iload_n kF2, 0)) rfl) rfl rfl ?_
        refine w_zle (ykc_192 (e := (4, .ifCond .le 12, 58)) rfl) rfl (fun b1519 => ?_) (fun b1519 => ?_)
        · refine w_load (pc' := 59) (v := .int (zn w)) (m := 1) (ykc_192 (e := (2, .iload_n kF2, 0)) rfl) rfl rfl ?_
          refine w_alu (pc' := 60) (st' := [.int (Int32.ofInt 4), .int (zn w), .int (y - y / (zn C) * (zn C))]) (ykc_192 (e := (0, .iconst 4, 0)) rfl) rfl rfl ?_
          refine w_ile (ykc_192 (e := (4, .if_icmp .le 7, 67)) rfl) rfl (fun b1520 => ?_) (fun b1520 => ?_)
          · refine w_alu (pc' := 68) (st' := [.int (Int32.ofInt 0), .int (y - y / (zn C) * (zn C))]) (ykc_192 (e := (0, .iconst 0, 0)) rfl) rfl rfl ?_
            refine w_alu (pc' := 69) (st' := [.int ((y - y / (zn C) * (zn C)) + (Int32.ofInt 0))]) (ykc_192 (e := (0, .iadd, 0)) rfl) rfl rfl ?_
            obtain ⟨za1, e_za1⟩ : ∃ zq : Int32, ((y - y / (zn C) * (zn C)) + (Int32.ofInt 0)) = zq := ⟨_, rfl⟩
            rw [e_za1]
            refine w_store (pc' := 71) (L' := [some (.ref 170), some (.int y), some (.int (zn w)), some (.int za0), some (.int za1)]) (st' := []) (m := 2) (ykc_192 (e := (3, .istore 4, 0)) rfl) rfl rfl ?_
            refine w_load (pc' := 72) (v := .int za0) (m := 1) (ykc_192 (e := (2, .iload_n kF3, 0)) rfl) rfl rfl ?_
            refine w_alu (pc' := 73) (st' := [.long za0.toInt64]) (ykc_192 (e := (0, .i2l, 0)) rfl) rfl rfl ?_
            refine w_alu (pc' := 74) (st' := [.long (Int64.ofNat kG0), .long za0.toInt64]) (ykc_192 (e := (0, .lconst kG0, 0)) rfl) rfl rfl ?_
            refine w_load (pc' := 75) (v := .ref 170) (m := 1) (ykc_192 (e := (2, .aload_n kF0, 0)) rfl) rfl rfl ?_
            refine w_gf (pc' := 78) (v := .int (zn R)) (ykc_192 (e := (5, .getfield 24, 0)) rfl) rfl gR rfl ?_
            refine w_alu (pc' := 79) (st' := [.int (Int32.ofInt 1), .int (zn R), .long (Int64.ofNat kG0), .long za0.toInt64]) (ykc_192 (e := (0, .iconst 1, 0)) rfl) rfl rfl ?_
            obtain ⟨z1521, e_z1521, h_z1521⟩ : ∃ zq : Int32, (zn R) - (Int32.ofInt 1) = zq ∧ zq.toInt = ((R : Nat) : Int) - (1 : Int) := ⟨_, rfl, (by have := ti_sub (x := (zn R)) (y := (Int32.ofInt 1)) (by omega) (by omega); omega)⟩
            refine w_alu (pc' := 80) (st' := [.int z1521, .long (Int64.ofNat kG0), .long za0.toInt64]) (ykc_192 (e := (0, .isub, 0)) rfl) (by rw [← e_z1521]; rfl) rfl ?_
            refine w_alu (pc' := 81) (st' := [.long z1521.toInt64, .long (Int64.ofNat kG0), .long za0.toInt64]) (ykc_192 (e := (0, .i2l, 0)) rfl) rfl rfl ?_
            refine w_cs (as := [.long za0.toInt64, .long (Int64.ofNat kG0), .long z1521.toInt64]) (r := []) (ykc_192 (e := (6, .invokestatic 126, 0)) rfl) rfl rfl rfl rfl (zm_in (x := za0.toInt) (y := (0 : Int)) (z := ((R : Nat) : Int) - (1 : Int)) (by first | exact ztl | (rw [ztl]; omega) | decide | omega) (by first | exact ztl | (rw [ztl]; omega) | decide | omega) (by first | exact ztl | (rw [ztl]; omega) | decide | omega)) (fun v1522 ph1523 hv => ?_)
            obtain ⟨rfl, rfl⟩ := hv
            show zW n D 192 Q 84 [some (.ref 170), some (.int y), some (.int (zn w)), some (.int za0), some (.int za1)] [.int (zI (decide ((0 : Int) ≤ za0.toInt ∧ za0.toInt ≤ ((R : Nat) : Int) - (1 : Int))))] ph
            refine w_beq (ykc_192 (e := (4, .ifCond .eq 32, 116)) rfl) rfl (fun b1524 => ?_) (fun b1524 => ?_)
            · refine w_alu (pc' := 117) (st' := [.int (Int32.ofInt (-1))]) (ykc_192 (e := (0, .iconst (-1), 0)) rfl) rfl rfl ?_
              refine w_ret (v := (some (.int (Int32.ofInt (-1))))) (ykc_192 (e := (7, .ireturn, 0)) rfl) (zr_v rfl) ?_
              rw [hQ]
              exact ⟨rfl, _, rfl⟩
            · refine w_load (pc' := 89) (v := .int za1) (m := 2) (ykc_192 (e := (2, .iload 4, 0)) rfl) rfl rfl ?_
              refine w_alu (pc' := 90) (st' := [.long za1.toInt64]) (ykc_192 (e := (0, .i2l, 0)) rfl) rfl rfl ?_
              refine w_alu (pc' := 91) (st' := [.long (Int64.ofNat kG0), .long za1.toInt64]) (ykc_192 (e := (0, .lconst kG0, 0)) rfl) rfl rfl ?_
              refine w_load (pc' := 92) (v := .ref 170) (m := 1) (ykc_192 (e := (2, .aload_n kF0, 0)) rfl) rfl rfl ?_
              refine w_gf (pc' := 95) (v := .int (zn C)) (ykc_192 (e := (5, .getfield 27, 0)) rfl) rfl gC rfl ?_
              refine w_alu (pc' := 96) (st' := [.int (Int32.ofInt 1), .int (zn C), .long (Int64.ofNat kG0), .long za1.toInt64]) (ykc_192 (e := (0, .iconst 1, 0)) rfl) rfl rfl ?_
              obtain ⟨z1525, e_z1525, h_z1525⟩ : ∃ zq : Int32, (zn C) - (Int32.ofInt 1) = zq ∧ zq.toInt = ((C : Nat) : Int) - (1 : Int) := ⟨_, rfl, (by have := ti_sub (x := (zn C)) (y := (Int32.ofInt 1)) (by omega) (by omega); omega)⟩
              refine w_alu (pc' := 97) (st' := [.int z1525, .long (Int64.ofNat kG0), .long za1.toInt64]) (ykc_192 (e := (0, .isub, 0)) rfl) (by rw [← e_z1525]; rfl) rfl ?_
              refine w_alu (pc' := 98) (st' := [.long z1525.toInt64, .long (Int64.ofNat kG0), .long za1.toInt64]) (ykc_192 (e := (0, .i2l, 0)) rfl) rfl rfl ?_
              refine w_cs (as := [.long za1.toInt64, .long (Int64.ofNat kG0), .long z1525.toInt64]) (r := []) (ykc_192 (e := (6, .invokestatic 126, 0)) rfl) rfl rfl rfl rfl (zm_in (x := za1.toInt) (y := (0 : Int)) (z := ((C : Nat) : Int) - (1 : Int)) (by first | exact ztl | (rw [ztl]; omega) | decide | omega) (by first | exact ztl | (rw [ztl]; omega) | decide | omega) (by first | exact ztl | (rw [ztl]; omega) | decide | omega)) (fun v1526 ph1527 hv => ?_)
              obtain ⟨rfl, rfl⟩ := hv
              show zW n D 192 Q 101 [some (.ref 170), some (.int y), some (.int (zn w)), some (.int za0), some (.int za1)] [.int (zI (decide ((0 : Int) ≤ za1.toInt ∧ za1.toInt ≤ ((C : Nat) : Int) - (1 : Int))))] ph
              refine w_beq (ykc_192 (e := (4, .ifCond .eq 15, 116)) rfl) rfl (fun b1528 => ?_) (fun b1528 => ?_)
              · refine w_alu (pc' := 117) (st' := [.int (Int32.ofInt (-1))]) (ykc_192 (e := (0, .iconst (-1), 0)) rfl) rfl rfl ?_
                refine w_ret (v := (some (.int (Int32.ofInt (-1))))) (ykc_192 (e := (7, .ireturn, 0)) rfl) (zr_v rfl) ?_
                rw [hQ]
                exact ⟨rfl, _, rfl⟩
              · refine w_load (pc' := 105) (v := .ref 170) (m := 1) (ykc_192 (e := (2, .aload_n kF0, 0)) rfl) rfl rfl ?_
                refine w_gf (pc' := 108) (v := .int (zn C)) (ykc_192 (e := (5, .getfield 27, 0)) rfl) rfl gC rfl ?_
                refine w_load (pc' := 109) (v := .int za0) (m := 1) (ykc_192 (e := (2, .iload_n kF3, 0)) rfl) rfl rfl ?_
                refine w_alu (pc' := 110) (st' := [.int ((zn C) * za0)]) (ykc_192 (e := (0, .imul, 0)) rfl) rfl rfl ?_
                refine w_load (pc' := 112) (v := .int za1) (m := 2) (ykc_192 (e := (2, .iload 4, 0)) rfl) rfl rfl ?_
                refine w_alu (pc' := 113) (st' := [.int (((zn C) * za0) + za1)]) (ykc_192 (e := (0, .iadd, 0)) rfl) rfl rfl ?_
                refine w_br (pc' := 117) (st' := [.int (((zn C) * za0) + za1)]) (ykc_192 (e := (4, .goto 4, 117)) rfl) rfl ?_
                refine w_ret (v := (some (.int (((zn C) * za0) + za1)))) (ykc_192 (e := (7, .ireturn, 0)) rfl) (zr_v rfl) ?_
                rw [hQ]
                exact ⟨rfl, _, rfl⟩
          · refine w_alu (pc' := 64) (st' := [.int (Int32.ofInt (-1)), .int (y - y / (zn C) * (zn C))]) (ykc_192 (e := (0, .iconst (-1), 0)) rfl) rfl rfl ?_
            refine w_br (pc' := 68) (st' := [.int (Int32.ofInt (-1)), .int (y - y / (zn C) * (zn C))]) (ykc_192 (e := (4, .goto 4, 68)) rfl) rfl ?_
            refine w_alu (pc' := 69) (st' := [.int ((y - y / (zn C) * (zn C)) + (Int32.ofInt (-1)))]) (ykc_192 (e := (0, .iadd, 0)) rfl) rfl rfl ?_
            obtain ⟨za1, e_za1⟩ : ∃ zq : Int32, ((y - y / (zn C) * (zn C)) + (Int32.ofInt (-1))) = zq := ⟨_, rfl⟩
            rw [e_za1]
            refine w_store (pc' := 71) (L' := [some (.ref 170), some (.int y), some (.int (zn w)), some (.int za0), some (.int za1)]) (st' := []) (m := 2) (ykc_192 (e := (3, .istore 4, 0)) rfl) rfl rfl ?_
            refine w_load (pc' := 72) (v := .int za0) (m := 1) (ykc_192 (e := (2, .iload_n kF3, 0)) rfl) rfl rfl ?_
            refine w_alu (pc' := 73) (st' := [.long za0.toInt64]) (ykc_192 (e := (0, .i2l, 0)) rfl) rfl rfl ?_
            refine w_alu (pc' := 74) (st' := [.long (Int64.ofNat kG0), .long za0.toInt64]) (ykc_192 (e := (0, .lconst kG0, 0)) rfl) rfl rfl ?_
            refine w_load (pc' := 75) (v := .ref 170) (m := 1) (ykc_192 (e := (2, .aload_n kF0, 0)) rfl) rfl rfl ?_
            refine w_gf (pc' := 78) (v := .int (zn R)) (ykc_192 (e := (5, .getfield 24, 0)) rfl) rfl gR rfl ?_
            refine w_alu (pc' := 79) (st' := [.int (Int32.ofInt 1), .int (zn R), .long (Int64.ofNat kG0), .long za0.toInt64]) (ykc_192 (e := (0, .iconst 1, 0)) rfl) rfl rfl ?_
            obtain ⟨z1529, e_z1529, h_z1529⟩ : ∃ zq : Int32, (zn R) - (Int32.ofInt 1) = zq ∧ zq.toInt = ((R : Nat) : Int) - (1 : Int) := ⟨_, rfl, (by have := ti_sub (x := (zn R)) (y := (Int32.ofInt 1)) (by omega) (by omega); omega)⟩
            refine w_alu (pc' := 80) (st' := [.int z1529, .long (Int64.ofNat kG0), .long za0.toInt64]) (ykc_192 (e := (0, .isub, 0)) rfl) (by rw [← e_z1529]; rfl) rfl ?_
            refine w_alu (pc' := 81) (st' := [.long z1529.toInt64, .long (Int64.ofNat kG0), .long za0.toInt64]) (ykc_192 (e := (0, .i2l, 0)) rfl) rfl rfl ?_
            refine w_cs (as := [.long za0.toInt64, .long (Int64.ofNat kG0), .long z1529.toInt64]) (r := []) (ykc_192 (e := (6, .invokestatic 126, 0)) rfl) rfl rfl rfl rfl (zm_in (x := za0.toInt) (y := (0 : Int)) (z := ((R : Nat) : Int) - (1 : Int)) (by first | exact ztl | (rw [ztl]; omega) | decide | omega) (by first | exact ztl | (rw [ztl]; omega) | decide | omega) (by first | exact ztl | (rw [ztl]; omega) | decide | omega)) (fun v1530 ph1531 hv => ?_)
            obtain ⟨rfl, rfl⟩ := hv
            show zW n D 192 Q 84 [some (.ref 170), some (.int y), some (.int (zn w)), some (.int za0), some (.int za1)] [.int (zI (decide ((0 : Int) ≤ za0.toInt ∧ za0.toInt ≤ ((R : Nat) : Int) - (1 : Int))))] ph
            refine w_beq (ykc_192 (e := (4, .ifCond .eq 32, 116)) rfl) rfl (fun b1532 => ?_) (fun b1532 => ?_)
            · refine w_alu (pc' := 117) (st' := [.int (Int32.ofInt (-1))]) (ykc_192 (e := (0, .iconst (-1), 0)) rfl) rfl rfl ?_
              refine w_ret (v := (some (.int (Int32.ofInt (-1))))) (ykc_192 (e := (7, .ireturn, 0)) rfl) (zr_v rfl) ?_
              rw [hQ]
              exact ⟨rfl, _, rfl⟩
            · refine w_load (pc' := 89) (v := .int za1) (m := 2) (ykc_192 (e := (2, .iload 4, 0)) rfl) rfl rfl ?_
              refine w_alu (pc' := 90) (st' := [.long za1.toInt64]) (ykc_192 (e := (0, .i2l, 0)) rfl) rfl rfl ?_
              refine w_alu (pc' := 91) (st' := [.long (Int64.ofNat kG0), .long za1.toInt64]) (ykc_192 (e := (0, .lconst kG0, 0)) rfl) rfl rfl ?_
              refine w_load (pc' := 92) (v := .ref 170) (m := 1) (ykc_192 (e := (2, .aload_n kF0, 0)) rfl) rfl rfl ?_
              refine w_gf (pc' := 95) (v := .int (zn C)) (ykc_192 (e := (5, .getfield 27, 0)) rfl) rfl gC rfl ?_
              refine w_alu (pc' := 96) (st' := [.int (Int32.ofInt 1), .int (zn C), .long (Int64.ofNat kG0), .long za1.toInt64]) (ykc_192 (e := (0, .iconst 1, 0)) rfl) rfl rfl ?_
              obtain ⟨z1533, e_z1533, h_z1533⟩ : ∃ zq : Int32, (zn C) - (Int32.ofInt 1) = zq ∧ zq.toInt = ((C : Nat) : Int) - (1 : Int) := ⟨_, rfl, (by have := ti_sub (x := (zn C)) (y := (Int32.ofInt 1)) (by omega) (by omega); omega)⟩
              refine w_alu (pc' := 97) (st' := [.int z1533, .long (Int64.ofNat kG0), .long za1.toInt64]) (ykc_192 (e := (0, .isub, 0)) rfl) (by rw [← e_z1533]; rfl) rfl ?_
              refine w_alu (pc' := 98) (st' := [.long z1533.toInt64, .long (Int64.ofNat kG0), .long za1.toInt64]) (ykc_192 (e := (0, .i2l, 0)) rfl) rfl rfl ?_
              refine w_cs (as := [.long za1.toInt64, .long (Int64.ofNat kG0), .long z1533.toInt64]) (r := []) (ykc_192 (e := (6, .invokestatic 126, 0)) rfl) rfl rfl rfl rfl (zm_in (x := za1.toInt) (y := (0 : Int)) (z := ((C : Nat) : Int) - (1 : Int)) (by first | exact ztl | (rw [ztl]; omega) | decide | omega) (by first | exact ztl | (rw [ztl]; omega) | decide | omega) (by first | exact ztl | (rw [ztl]; omega) | decide | omega)) (fun v1534 ph1535 hv => ?_)
              obtain ⟨rfl, rfl⟩ := hv
              show zW n D 192 Q 101 [some (.ref 170), some (.int y), some (.int (zn w)), some (.int za0), some (.int za1)] [.int (zI (decide ((0 : Int) ≤ za1.toInt ∧ za1.toInt ≤ ((C : Nat) : Int) - (1 : Int))))] ph
              refine w_beq (ykc_192 (e := (4, .ifCond .eq 15, 116)) rfl) rfl (fun b1536 => ?_) (fun b1536 => ?_)
              · refine w_alu (pc' := 117) (st' := [.int (Int32.ofInt (-1))]) (ykc_192 (e := (0, .iconst (-1), 0)) rfl) rfl rfl ?_
                refine w_ret (v := (some (.int (Int32.ofInt (-1))))) (ykc_192 (e := (7, .ireturn, 0)) rfl) (zr_v rfl) ?_
                rw [hQ]
                exact ⟨rfl, _, rfl⟩
              · refine w_load (pc' := 105) (v := .ref 170) (m := 1) (ykc_192 (e := (2, .aload_n kF0, 0)) rfl) rfl rfl ?_
                refine w_gf (pc' := 108) (v := .int (zn C)) (ykc_192 (e := (5, .getfield 27, 0)) rfl) rfl gC rfl ?_
                refine w_load (pc' := 109) (v := .int za0) (m := 1) (ykc_192 (e := (2, .iload_n kF3, 0)) rfl) rfl rfl ?_
                refine w_alu (pc' := 110) (st' := [.int ((zn C) * za0)]) (ykc_192 (e := (0, .imul, 0)) rfl) rfl rfl ?_
                refine w_load (pc' := 112) (v := .int za1) (m := 2) (ykc_192 (e := (2, .iload 4, 0)) rfl) rfl rfl ?_
                refine w_alu (pc' := 113) (st' := [.int (((zn C) * za0) + za1)]) (ykc_192 (e := (0, .iadd, 0)) rfl) rfl rfl ?_
                refine w_br (pc' := 117) (st' := [.int (((zn C) * za0) + za1)]) (ykc_192 (e := (4, .goto 4, 117)) rfl) rfl ?_
                refine w_ret (v := (some (.int (((zn C) * za0) + za1)))) (ykc_192 (e := (7, .ireturn, 0)) rfl) (zr_v rfl) ?_
                rw [hQ]
                exact ⟨rfl, _, rfl⟩
        · refine w_load (pc' := 50) (v := .int (zn w)) (m := 1) (ykc_192 (e := (2, .iload_n kF2, 0)) rfl) rfl rfl ?_
          refine w_alu (pc' := 51) (st' := [.int (Int32.ofInt 4), .int (zn w), .int (y - y / (zn C) * (zn C))]) (ykc_192 (e := (0, .iconst 4, 0)) rfl) rfl rfl ?_
          refine w_ige (ykc_192 (e := (4, .if_icmp .ge 7, 58)) rfl) rfl (fun b1537 => ?_) (fun b1537 => ?_)
          · refine w_load (pc' := 59) (v := .int (zn w)) (m := 1) (ykc_192 (e := (2, .iload_n kF2, 0)) rfl) rfl rfl ?_
            refine w_alu (pc' := 60) (st' := [.int (Int32.ofInt 4), .int (zn w), .int (y - y / (zn C) * (zn C))]) (ykc_192 (e := (0, .iconst 4, 0)) rfl) rfl rfl ?_
            refine w_ile (ykc_192 (e := (4, .if_icmp .le 7, 67)) rfl) rfl (fun b1538 => ?_) (fun b1538 => ?_)
            · refine w_alu (pc' := 68) (st' := [.int (Int32.ofInt 0), .int (y - y / (zn C) * (zn C))]) (ykc_192 (e := (0, .iconst 0, 0)) rfl) rfl rfl ?_
              refine w_alu (pc' := 69) (st' := [.int ((y - y / (zn C) * (zn C)) + (Int32.ofInt 0))]) (ykc_192 (e := (0, .iadd, 0)) rfl) rfl rfl ?_
              obtain ⟨za1, e_za1⟩ : ∃ zq : Int32, ((y - y / (zn C) * (zn C)) + (Int32.ofInt 0)) = zq := ⟨_, rfl⟩
              rw [e_za1]
              refine w_store (pc' := 71) (L' := [some (.ref 170), some (.int y), some (.int (zn w)), some (.int za0), some (.int za1)]) (st' := []) (m := 2) (ykc_192 (e := (3, .istore 4, 0)) rfl) rfl rfl ?_
              refine w_load (pc' := 72) (v := .int za0) (m := 1) (ykc_192 (e := (2, .iload_n kF3, 0)) rfl) rfl rfl ?_
              refine w_alu (pc' := 73) (st' := [.long za0.toInt64]) (ykc_192 (e := (0, .i2l, 0)) rfl) rfl rfl ?_
              refine w_alu (pc' := 74) (st' := [.long (Int64.ofNat kG0), .long za0.toInt64]) (ykc_192 (e := (0, .lconst kG0, 0)) rfl) rfl rfl ?_
              refine w_load (pc' := 75) (v := .ref 170) (m := 1) (ykc_192 (e := (2, .aload_n kF0, 0)) rfl) rfl rfl ?_
              refine w_gf (pc' := 78) (v := .int (zn R)) (ykc_192 (e := (5, .getfield 24, 0)) rfl) rfl gR rfl ?_
              refine w_alu (pc' := 79) (st' := [.int (Int32.ofInt 1), .int (zn R), .long (Int64.ofNat kG0), .long za0.toInt64]) (ykc_192 (e := (0, .iconst 1, 0)) rfl) rfl rfl ?_
              obtain ⟨z1539, e_z1539, h_z1539⟩ : ∃ zq : Int32, (zn R) - (Int32.ofInt 1) = zq ∧ zq.toInt = ((R : Nat) : Int) - (1 : Int) := ⟨_, rfl, (by have := ti_sub (x := (zn R)) (y := (Int32.ofInt 1)) (by omega) (by omega); omega)⟩
              refine w_alu (pc' := 80) (st' := [.int z1539, .long (Int64.ofNat kG0), .long za0.toInt64]) (ykc_192 (e := (0, .isub, 0)) rfl) (by rw [← e_z1539]; rfl) rfl ?_
              refine w_alu (pc' := 81) (st' := [.long z1539.toInt64, .long (Int64.ofNat kG0), .long za0.toInt64]) (ykc_192 (e := (0, .i2l, 0)) rfl) rfl rfl ?_
              refine w_cs (as := [.long za0.toInt64, .long (Int64.ofNat kG0), .long z1539.toInt64]) (r := []) (ykc_192 (e := (6, .invokestatic 126, 0)) rfl) rfl rfl rfl rfl (zm_in (x := za0.toInt) (y := (0 : Int)) (z := ((R : Nat) : Int) - (1 : Int)) (by first | exact ztl | (rw [ztl]; omega) | decide | omega) (by first | exact ztl | (rw [ztl]; omega) | decide | omega) (by first | exact ztl | (rw [ztl]; omega) | decide | omega)) (fun v1540 ph1541 hv => ?_)
              obtain ⟨rfl, rfl⟩ := hv
              show zW n D 192 Q 84 [some (.ref 170), some (.int y), some (.int (zn w)), some (.int za0), some (.int za1)] [.int (zI (decide ((0 : Int) ≤ za0.toInt ∧ za0.toInt ≤ ((R : Nat) : Int) - (1 : Int))))] ph
              refine w_beq (ykc_192 (e := (4, .ifCond .eq 32, 116)) rfl) rfl (fun b1542 => ?_) (fun b1542 => ?_)
              · refine w_alu (pc' := 117) (st' := [.int (Int32.ofInt (-1))]) (ykc_192 (e := (0, .iconst (-1), 0)) rfl) rfl rfl ?_
                refine w_ret (v := (some (.int (Int32.ofInt (-1))))) (ykc_192 (e := (7, .ireturn, 0)) rfl) (zr_v rfl) ?_
                rw [hQ]
                exact ⟨rfl, _, rfl⟩
              · refine w_load (pc' := 89) (v := .int za1) (m := 2) (ykc_192 (e := (2, .iload 4, 0)) rfl) rfl rfl ?_
                refine w_alu (pc' := 90) (st' := [.long za1.toInt64]) (ykc_192 (e := (0, .i2l, 0)) rfl) rfl rfl ?_
                refine w_alu (pc' := 91) (st' := [.long (Int64.ofNat kG0), .long za1.toInt64]) (ykc_192 (e := (0, .lconst kG0, 0)) rfl) rfl rfl ?_
                refine w_load (pc' := 92) (v := .ref 170) (m := 1) (ykc_192 (e := (2, .aload_n kF0, 0)) rfl) rfl rfl ?_
                refine w_gf (pc' := 95) (v := .int (zn C)) (ykc_192 (e := (5, .getfield 27, 0)) rfl) rfl gC rfl ?_
                refine w_alu (pc' := 96) (st' := [.int (Int32.ofInt 1), .int (zn C), .long (Int64.ofNat kG0), .long za1.toInt64]) (ykc_192 (e := (0, .iconst 1, 0)) rfl) rfl rfl ?_
                obtain ⟨z1543, e_z1543, h_z1543⟩ : ∃ zq : Int32, (zn C) - (Int32.ofInt 1) = zq ∧ zq.toInt = ((C : Nat) : Int) - (1 : Int) := ⟨_, rfl, (by have := ti_sub (x := (zn C)) (y := (Int32.ofInt 1)) (by omega) (by omega); omega)⟩
                refine w_alu (pc' := 97) (st' := [.int z1543, .long (Int64.ofNat kG0), .long za1.toInt64]) (ykc_192 (e := (0, .isub, 0)) rfl) (by rw [← e_z1543]; rfl) rfl ?_
                refine w_alu (pc' := 98) (st' := [.long z1543.toInt64, .long (Int64.ofNat kG0), .long za1.toInt64]) (ykc_192 (e := (0, .i2l, 0)) rfl) rfl rfl ?_
                refine w_cs (as := [.long za1.toInt64, .long (Int64.ofNat kG0), .long z1543.toInt64]) (r := []) (ykc_192 (e := (6, .invokestatic 126, 0)) rfl) rfl rfl rfl rfl (zm_in (x := za1.toInt) (y := (0 : Int)) (z := ((C : Nat) : Int) - (1 : Int)) (by first | exact ztl | (rw [ztl]; omega) | decide | omega) (by first | exact ztl | (rw [ztl]; omega) | decide | omega) (by first | exact ztl | (rw [ztl]; omega) | decide | omega)) (fun v1544 ph1545 hv => ?_)
                obtain ⟨rfl, rfl⟩ := hv
                show zW n D 192 Q 101 [some (.ref 170), some (.int y), some (.int (zn w)), some (.int za0), some (.int za1)] [.int (zI (decide ((0 : Int) ≤ za1.toInt ∧ za1.toInt ≤ ((C : Nat) : Int) - (1 : Int))))] ph
                refine w_beq (ykc_192 (e := (4, .ifCond .eq 15, 116)) rfl) rfl (fun b1546 => ?_) (fun b1546 => ?_)
                · refine w_alu (pc' := 117) (st' := [.int (Int32.ofInt (-1))]) (ykc_192 (e := (0, .iconst (-1), 0)) rfl) rfl rfl ?_
                  refine w_ret (v := (some (.int (Int32.ofInt (-1))))) (ykc_192 (e := (7, .ireturn, 0)) rfl) (zr_v rfl) ?_
                  rw [hQ]
                  exact ⟨rfl, _, rfl⟩
                · refine w_load (pc' := 105) (v := .ref 170) (m := 1) (ykc_192 (e := (2, .aload_n kF0, 0)) rfl) rfl rfl ?_
                  refine w_gf (pc' := 108) (v := .int (zn C)) (ykc_192 (e := (5, .getfield 27, 0)) rfl) rfl gC rfl ?_
                  refine w_load (pc' := 109) (v := .int za0) (m := 1) (ykc_192 (e := (2, .iload_n kF3, 0)) rfl) rfl rfl ?_
                  refine w_alu (pc' := 110) (st' := [.int ((zn C) * za0)]) (ykc_192 (e := (0, .imul, 0)) rfl) rfl rfl ?_
                  refine w_load (pc' := 112) (v := .int za1) (m := 2) (ykc_192 (e := (2, .iload 4, 0)) rfl) rfl rfl ?_
                  refine w_alu (pc' := 113) (st' := [.int (((zn C) * za0) + za1)]) (ykc_192 (e := (0, .iadd, 0)) rfl) rfl rfl ?_
                  refine w_br (pc' := 117) (st' := [.int (((zn C) * za0) + za1)]) (ykc_192 (e := (4, .goto 4, 117)) rfl) rfl ?_
                  refine w_ret (v := (some (.int (((zn C) * za0) + za1)))) (ykc_192 (e := (7, .ireturn, 0)) rfl) (zr_v rfl) ?_
                  rw [hQ]
                  exact ⟨rfl, _, rfl⟩
            · refine w_alu (pc' := 64) (st' := [.int (Int32.ofInt (-1)), .int (y - y / (zn C) * (zn C))]) (ykc_192 (e := (0, .iconst (-1), 0)) rfl) rfl rfl ?_
              refine w_br (pc' := 68) (st' := [.int (Int32.ofInt (-1)), .int (y - y / (zn C) * (zn C))]) (ykc_192 (e := (4, .goto 4, 68)) rfl) rfl ?_
              refine w_alu (pc' := 69) (st' := [.int ((y - y / (zn C) * (zn C)) + (Int32.ofInt (-1)))]) (ykc_192 (e := (0, .iadd, 0)) rfl) rfl rfl ?_
              obtain ⟨za1, e_za1⟩ : ∃ zq : Int32, ((y - y / (zn C) * (zn C)) + (Int32.ofInt (-1))) = zq := ⟨_, rfl⟩
              rw [e_za1]
              refine w_store (pc' := 71) (L' := [some (.ref 170), some (.int y), some (.int (zn w)), some (.int za0), some (.int za1)]) (st' := []) (m := 2) (ykc_192 (e := (3, .istore 4, 0)) rfl) rfl rfl ?_
              refine w_load (pc' := 72) (v := .int za0) (m := 1) (ykc_192 (e := (2, .iload_n kF3, 0)) rfl) rfl rfl ?_
              refine w_alu (pc' := 73) (st' := [.long za0.toInt64]) (ykc_192 (e := (0, .i2l, 0)) rfl) rfl rfl ?_
              refine w_alu (pc' := 74) (st' := [.long (Int64.ofNat kG0), .long za0.toInt64]) (ykc_192 (e := (0, .lconst kG0, 0)) rfl) rfl rfl ?_
              refine w_load (pc' := 75) (v := .ref 170) (m := 1) (ykc_192 (e := (2, .aload_n kF0, 0)) rfl) rfl rfl ?_
              refine w_gf (pc' := 78) (v := .int (zn R)) (ykc_192 (e := (5, .getfield 24, 0)) rfl) rfl gR rfl ?_
              refine w_alu (pc' := 79) (st' := [.int (Int32.ofInt 1), .int (zn R), .long (Int64.ofNat kG0), .long za0.toInt64]) (ykc_192 (e := (0, .iconst 1, 0)) rfl) rfl rfl ?_
              obtain ⟨z1547, e_z1547, h_z1547⟩ : ∃ zq : Int32, (zn R) - (Int32.ofInt 1) = zq ∧ zq.toInt = ((R : Nat) : Int) - (1 : Int) := ⟨_, rfl, (by have := ti_sub (x := (zn R)) (y := (Int32.ofInt 1)) (by omega) (by omega); omega)⟩
              refine w_alu (pc' := 80) (st' := [.int z1547, .long (Int64.ofNat kG0), .long za0.toInt64]) (ykc_192 (e := (0, .isub, 0)) rfl) (by rw [← e_z1547]; rfl) rfl ?_
              refine w_alu (pc' := 81) (st' := [.long z1547.toInt64, .long (Int64.ofNat kG0), .long za0.toInt64]) (ykc_192 (e := (0, .i2l, 0)) rfl) rfl rfl ?_
              refine w_cs (as := [.long za0.toInt64, .long (Int64.ofNat kG0), .long z1547.toInt64]) (r := []) (ykc_192 (e := (6, .invokestatic 126, 0)) rfl) rfl rfl rfl rfl (zm_in (x := za0.toInt) (y := (0 : Int)) (z := ((R : Nat) : Int) - (1 : Int)) (by first | exact ztl | (rw [ztl]; omega) | decide | omega) (by first | exact ztl | (rw [ztl]; omega) | decide | omega) (by first | exact ztl | (rw [ztl]; omega) | decide | omega)) (fun v1548 ph1549 hv => ?_)
              obtain ⟨rfl, rfl⟩ := hv
              show zW n D 192 Q 84 [some (.ref 170), some (.int y), some (.int (zn w)), some (.int za0), some (.int za1)] [.int (zI (decide ((0 : Int) ≤ za0.toInt ∧ za0.toInt ≤ ((R : Nat) : Int) - (1 : Int))))] ph
              refine w_beq (ykc_192 (e := (4, .ifCond .eq 32, 116)) rfl) rfl (fun b1550 => ?_) (fun b1550 => ?_)
              · refine w_alu (pc' := 117) (st' := [.int (Int32.ofInt (-1))]) (ykc_192 (e := (0, .iconst (-1), 0)) rfl) rfl rfl ?_
                refine w_ret (v := (some (.int (Int32.ofInt (-1))))) (ykc_192 (e := (7, .ireturn, 0)) rfl) (zr_v rfl) ?_
                rw [hQ]
                exact ⟨rfl, _, rfl⟩
              · refine w_load (pc' := 89) (v := .int za1) (m := 2) (ykc_192 (e := (2, .iload 4, 0)) rfl) rfl rfl ?_
                refine w_alu (pc' := 90) (st' := [.long za1.toInt64]) (ykc_192 (e := (0, .i2l, 0)) rfl) rfl rfl ?_
                refine w_alu (pc' := 91) (st' := [.long (Int64.ofNat kG0), .long za1.toInt64]) (ykc_192 (e := (0, .lconst kG0, 0)) rfl) rfl rfl ?_
                refine w_load (pc' := 92) (v := .ref 170) (m := 1) (ykc_192 (e := (2, .aload_n kF0, 0)) rfl) rfl rfl ?_
                refine w_gf (pc' := 95) (v := .int (zn C)) (ykc_192 (e := (5, .getfield 27, 0)) rfl) rfl gC rfl ?_
                refine w_alu (pc' := 96) (st' := [.int (Int32.ofInt 1), .int (zn C), .long (Int64.ofNat kG0), .long za1.toInt64]) (ykc_192 (e := (0, .iconst 1, 0)) rfl) rfl rfl ?_
                obtain ⟨z1551, e_z1551, h_z1551⟩ : ∃ zq : Int32, (zn C) - (Int32.ofInt 1) = zq ∧ zq.toInt = ((C : Nat) : Int) - (1 : Int) := ⟨_, rfl, (by have := ti_sub (x := (zn C)) (y := (Int32.ofInt 1)) (by omega) (by omega); omega)⟩
                refine w_alu (pc' := 97) (st' := [.int z1551, .long (Int64.ofNat kG0), .long za1.toInt64]) (ykc_192 (e := (0, .isub, 0)) rfl) (by rw [← e_z1551]; rfl) rfl ?_
                refine w_alu (pc' := 98) (st' := [.long z1551.toInt64, .long (Int64.ofNat kG0), .long za1.toInt64]) (ykc_192 (e := (0, .i2l, 0)) rfl) rfl rfl ?_
                refine w_cs (as := [.long za1.toInt64, .long (Int64.ofNat kG0), .long z1551.toInt64]) (r := []) (ykc_192 (e := (6, .invokestatic 126, 0)) rfl) rfl rfl rfl rfl (zm_in (x := za1.toInt) (y := (0 : Int)) (z := ((C : Nat) : Int) - (1 : Int)) (by first | exact ztl | (rw [ztl]; omega) | decide | omega) (by first | exact ztl | (rw [ztl]; omega) | decide | omega) (by first | exact ztl | (rw [ztl]; omega) | decide | omega)) (fun v1552 ph1553 hv => ?_)
                obtain ⟨rfl, rfl⟩ := hv
                show zW n D 192 Q 101 [some (.ref 170), some (.int y), some (.int (zn w)), some (.int za0), some (.int za1)] [.int (zI (decide ((0 : Int) ≤ za1.toInt ∧ za1.toInt ≤ ((C : Nat) : Int) - (1 : Int))))] ph
                refine w_beq (ykc_192 (e := (4, .ifCond .eq 15, 116)) rfl) rfl (fun b1554 => ?_) (fun b1554 => ?_)
                · refine w_alu (pc' := 117) (st' := [.int (Int32.ofInt (-1))]) (ykc_192 (e := (0, .iconst (-1), 0)) rfl) rfl rfl ?_
                  refine w_ret (v := (some (.int (Int32.ofInt (-1))))) (ykc_192 (e := (7, .ireturn, 0)) rfl) (zr_v rfl) ?_
                  rw [hQ]
                  exact ⟨rfl, _, rfl⟩
                · refine w_load (pc' := 105) (v := .ref 170) (m := 1) (ykc_192 (e := (2, .aload_n kF0, 0)) rfl) rfl rfl ?_
                  refine w_gf (pc' := 108) (v := .int (zn C)) (ykc_192 (e := (5, .getfield 27, 0)) rfl) rfl gC rfl ?_
                  refine w_load (pc' := 109) (v := .int za0) (m := 1) (ykc_192 (e := (2, .iload_n kF3, 0)) rfl) rfl rfl ?_
                  refine w_alu (pc' := 110) (st' := [.int ((zn C) * za0)]) (ykc_192 (e := (0, .imul, 0)) rfl) rfl rfl ?_
                  refine w_load (pc' := 112) (v := .int za1) (m := 2) (ykc_192 (e := (2, .iload 4, 0)) rfl) rfl rfl ?_
                  refine w_alu (pc' := 113) (st' := [.int (((zn C) * za0) + za1)]) (ykc_192 (e := (0, .iadd, 0)) rfl) rfl rfl ?_
                  refine w_br (pc' := 117) (st' := [.int (((zn C) * za0) + za1)]) (ykc_192 (e := (4, .goto 4, 117)) rfl) rfl ?_
                  refine w_ret (v := (some (.int (((zn C) * za0) + za1)))) (ykc_192 (e := (7, .ireturn, 0)) rfl) (zr_v rfl) ?_
                  rw [hQ]
                  exact ⟨rfl, _, rfl⟩
          · refine w_alu (pc' := 55) (st' := [.int (Int32.ofInt 1), .int (y - y / (zn C) * (zn C))]) (ykc_192 (e := (0, .iconst 1, 0)) rfl) rfl rfl ?_
            refine w_br (pc' := 68) (st' := [.int (Int32.ofInt 1), .int (y - y / (zn C) * (zn C))]) (ykc_192 (e := (4, .goto 13, 68)) rfl) rfl ?_
            refine w_alu (pc' := 69) (st' := [.int ((y - y / (zn C) * (zn C)) + (Int32.ofInt 1))]) (ykc_192 (e := (0, .iadd, 0)) rfl) rfl rfl ?_
            obtain ⟨za1, e_za1⟩ : ∃ zq : Int32, ((y - y / (zn C) * (zn C)) + (Int32.ofInt 1)) = zq := ⟨_, rfl⟩
            rw [e_za1]
            refine w_store (pc' := 71) (L' := [some (.ref 170), some (.int y), some (.int (zn w)), some (.int za0), some (.int za1)]) (st' := []) (m := 2) (ykc_192 (e := (3, .istore 4, 0)) rfl) rfl rfl ?_
            refine w_load (pc' := 72) (v := .int za0) (m := 1) (ykc_192 (e := (2, .iload_n kF3, 0)) rfl) rfl rfl ?_
            refine w_alu (pc' := 73) (st' := [.long za0.toInt64]) (ykc_192 (e := (0, .i2l, 0)) rfl) rfl rfl ?_
            refine w_alu (pc' := 74) (st' := [.long (Int64.ofNat kG0), .long za0.toInt64]) (ykc_192 (e := (0, .lconst kG0, 0)) rfl) rfl rfl ?_
            refine w_load (pc' := 75) (v := .ref 170) (m := 1) (ykc_192 (e := (2, .aload_n kF0, 0)) rfl) rfl rfl ?_
            refine w_gf (pc' := 78) (v := .int (zn R)) (ykc_192 (e := (5, .getfield 24, 0)) rfl) rfl gR rfl ?_
            refine w_alu (pc' := 79) (st' := [.int (Int32.ofInt 1), .int (zn R), .long (Int64.ofNat kG0), .long za0.toInt64]) (ykc_192 (e := (0, .iconst 1, 0)) rfl) rfl rfl ?_
            obtain ⟨z1555, e_z1555, h_z1555⟩ : ∃ zq : Int32, (zn R) - (Int32.ofInt 1) = zq ∧ zq.toInt = ((R : Nat) : Int) - (1 : Int) := ⟨_, rfl, (by have := ti_sub (x := (zn R)) (y := (Int32.ofInt 1)) (by omega) (by omega); omega)⟩
            refine w_alu (pc' := 80) (st' := [.int z1555, .long (Int64.ofNat kG0), .long za0.toInt64]) (ykc_192 (e := (0, .isub, 0)) rfl) (by rw [← e_z1555]; rfl) rfl ?_
            refine w_alu (pc' := 81) (st' := [.long z1555.toInt64, .long (Int64.ofNat kG0), .long za0.toInt64]) (ykc_192 (e := (0, .i2l, 0)) rfl) rfl rfl ?_
            refine w_cs (as := [.long za0.toInt64, .long (Int64.ofNat kG0), .long z1555.toInt64]) (r := []) (ykc_192 (e := (6, .invokestatic 126, 0)) rfl) rfl rfl rfl rfl (zm_in (x := za0.toInt) (y := (0 : Int)) (z := ((R : Nat) : Int) - (1 : Int)) (by first | exact ztl | (rw [ztl]; omega) | decide | omega) (by first | exact ztl | (rw [ztl]; omega) | decide | omega) (by first | exact ztl | (rw [ztl]; omega) | decide | omega)) (fun v1556 ph1557 hv => ?_)
            obtain ⟨rfl, rfl⟩ := hv
            show zW n D 192 Q 84 [some (.ref 170), some (.int y), some (.int (zn w)), some (.int za0), some (.int za1)] [.int (zI (decide ((0 : Int) ≤ za0.toInt ∧ za0.toInt ≤ ((R : Nat) : Int) - (1 : Int))))] ph
            refine w_beq (ykc_192 (e := (4, .ifCond .eq 32, 116)) rfl) rfl (fun b1558 => ?_) (fun b1558 => ?_)
            · refine w_alu (pc' := 117) (st' := [.int (Int32.ofInt (-1))]) (ykc_192 (e := (0, .iconst (-1), 0)) rfl) rfl rfl ?_
              refine w_ret (v := (some (.int (Int32.ofInt (-1))))) (ykc_192 (e := (7, .ireturn, 0)) rfl) (zr_v rfl) ?_
              rw [hQ]
              exact ⟨rfl, _, rfl⟩
            · refine w_load (pc' := 89) (v := .int za1) (m := 2) (ykc_192 (e := (2, .iload 4, 0)) rfl) rfl rfl ?_
              refine w_alu (pc' := 90) (st' := [.long za1.toInt64]) (ykc_192 (e := (0, .i2l, 0)) rfl) rfl rfl ?_
              refine w_alu (pc' := 91) (st' := [.long (Int64.ofNat kG0), .long za1.toInt64]) (ykc_192 (e := (0, .lconst kG0, 0)) rfl) rfl rfl ?_
              refine w_load (pc' := 92) (v := .ref 170) (m := 1) (ykc_192 (e := (2, .aload_n kF0, 0)) rfl) rfl rfl ?_
              refine w_gf (pc' := 95) (v := .int (zn C)) (ykc_192 (e := (5, .getfield 27, 0)) rfl) rfl gC rfl ?_
              refine w_alu (pc' := 96) (st' := [.int (Int32.ofInt 1), .int (zn C), .long (Int64.ofNat kG0), .long za1.toInt64]) (ykc_192 (e := (0, .iconst 1, 0)) rfl) rfl rfl ?_
              obtain ⟨z1559, e_z1559, h_z1559⟩ : ∃ zq : Int32, (zn C) - (Int32.ofInt 1) = zq ∧ zq.toInt = ((C : Nat) : Int) - (1 : Int) := ⟨_, rfl, (by have := ti_sub (x := (zn C)) (y := (Int32.ofInt 1)) (by omega) (by omega); omega)⟩
              refine w_alu (pc' := 97) (st' := [.int z1559, .long (Int64.ofNat kG0), .long za1.toInt64]) (ykc_192 (e := (0, .isub, 0)) rfl) (by rw [← e_z1559]; rfl) rfl ?_
              refine w_alu (pc' := 98) (st' := [.long z1559.toInt64, .long (Int64.ofNat kG0), .long za1.toInt64]) (ykc_192 (e := (0, .i2l, 0)) rfl) rfl rfl ?_
              refine w_cs (as := [.long za1.toInt64, .long (Int64.ofNat kG0), .long z1559.toInt64]) (r := []) (ykc_192 (e := (6, .invokestatic 126, 0)) rfl) rfl rfl rfl rfl (zm_in (x := za1.toInt) (y := (0 : Int)) (z := ((C : Nat) : Int) - (1 : Int)) (by first | exact ztl | (rw [ztl]; omega) | decide | omega) (by first | exact ztl | (rw [ztl]; omega) | decide | omega) (by first | exact ztl | (rw [ztl]; omega) | decide | omega)) (fun v1560 ph1561 hv => ?_)
              obtain ⟨rfl, rfl⟩ := hv
              show zW n D 192 Q 101 [some (.ref 170), some (.int y), some (.int (zn w)), some (.int za0), some (.int za1)] [.int (zI (decide ((0 : Int) ≤ za1.toInt ∧ za1.toInt ≤ ((C : Nat) : Int) - (1 : Int))))] ph
              refine w_beq (ykc_192 (e := (4, .ifCond .eq 15, 116)) rfl) rfl (fun b1562 => ?_) (fun b1562 => ?_)
              · refine w_alu (pc' := 117) (st' := [.int (Int32.ofInt (-1))]) (ykc_192 (e := (0, .iconst (-1), 0)) rfl) rfl rfl ?_
                refine w_ret (v := (some (.int (Int32.ofInt (-1))))) (ykc_192 (e := (7, .ireturn, 0)) rfl) (zr_v rfl) ?_
                rw [hQ]
                exact ⟨rfl, _, rfl⟩
              · refine w_load (pc' := 105) (v := .ref 170) (m := 1) (ykc_192 (e := (2, .aload_n kF0, 0)) rfl) rfl rfl ?_
                refine w_gf (pc' := 108) (v := .int (zn C)) (ykc_192 (e := (5, .getfield 27, 0)) rfl) rfl gC rfl ?_
                refine w_load (pc' := 109) (v := .int za0) (m := 1) (ykc_192 (e := (2, .iload_n kF3, 0)) rfl) rfl rfl ?_
                refine w_alu (pc' := 110) (st' := [.int ((zn C) * za0)]) (ykc_192 (e := (0, .imul, 0)) rfl) rfl rfl ?_
                refine w_load (pc' := 112) (v := .int za1) (m := 2) (ykc_192 (e := (2, .iload 4, 0)) rfl) rfl rfl ?_
                refine w_alu (pc' := 113) (st' := [.int (((zn C) * za0) + za1)]) (ykc_192 (e := (0, .iadd, 0)) rfl) rfl rfl ?_
                refine w_br (pc' := 117) (st' := [.int (((zn C) * za0) + za1)]) (ykc_192 (e := (4, .goto 4, 117)) rfl) rfl ?_
                refine w_ret (v := (some (.int (((zn C) * za0) + za1)))) (ykc_192 (e := (7, .ireturn, 0)) rfl) (zr_v rfl) ?_
                rw [hQ]
                exact ⟨rfl, _, rfl⟩
      · refine w_load (pc' := 27) (v := .int (zn w)) (m := 1) (ykc_192 (e := (2, .iload_n kF2, 0)) rfl) rfl rfl ?_
        refine w_push (pc' := 29) (v := .int ((Int8.ofInt 6).toInt32)) (m := 2) (ykc_192 (e := (1, .bipush 6, 0)) rfl) rfl rfl ?_
        refine w_ige (ykc_192 (e := (4, .if_icmp .ge 7, 36)) rfl) rfl (fun b1563 => ?_) (fun b1563 => ?_)
        · refine w_alu (pc' := 37) (st' := [.int (Int32.ofInt 0), .int (y / (zn C))]) (ykc_192 (e := (0, .iconst 0, 0)) rfl) rfl rfl ?_
          refine w_alu (pc' := 38) (st' := [.int ((y / (zn C)) + (Int32.ofInt 0))]) (ykc_192 (e := (0, .iadd, 0)) rfl) rfl rfl ?_
          obtain ⟨za0, e_za0⟩ : ∃ zq : Int32, ((y / (zn C)) + (Int32.ofInt 0)) = zq := ⟨_, rfl⟩
          rw [e_za0]
          refine w_store (pc' := 39) (L' := [some (.ref 170), some (.int y), some (.int (zn w)), some (.int za0), none]) (st' := []) (m := 1) (ykc_192 (e := (3, .istore_n kF3, 0)) rfl) rfl rfl ?_
          refine w_load (pc' := 40) (v := .int y) (m := 1) (ykc_192 (e := (2, .iload_n kF1, 0)) rfl) rfl rfl ?_
          refine w_load (pc' := 41) (v := .ref 170) (m := 1) (ykc_192 (e := (2, .aload_n kF0, 0)) rfl) rfl rfl ?_
          refine w_gf (pc' := 44) (v := .int (zn C)) (ykc_192 (e := (5, .getfield 27, 0)) rfl) rfl gC rfl ?_
          refine w_irem (pc' := 45) (ykc_192 (e := (0, .irem, 0)) rfl) rfl (fun d1564 => ?_)
          show zW n D 192 Q 45 [some (.ref 170), some (.int y), some (.int (zn w)), some (.int za0), none] [.int (y - y / (zn C) * (zn C))] ph
          refine w_load (pc' := 46) (v := .int (zn w)) (m := 1) (ykc_192 (e := (2, .iload_n kF2, 0)) rfl) rfl rfl ?_
          refine w_zle (ykc_192 (e := (4, .ifCond .le 12, 58)) rfl) rfl (fun b1565 => ?_) (fun b1565 => ?_)
          · refine w_load (pc' := 59) (v := .int (zn w)) (m := 1) (ykc_192 (e := (2, .iload_n kF2, 0)) rfl) rfl rfl ?_
            refine w_alu (pc' := 60) (st' := [.int (Int32.ofInt 4), .int (zn w), .int (y - y / (zn C) * (zn C))]) (ykc_192 (e := (0, .iconst 4, 0)) rfl) rfl rfl ?_
            refine w_ile (ykc_192 (e := (4, .if_icmp .le 7, 67)) rfl) rfl (fun b1566 => ?_) (fun b1566 => ?_)
            · refine w_alu (pc' := 68) (st' := [.int (Int32.ofInt 0), .int (y - y / (zn C) * (zn C))]) (ykc_192 (e := (0, .iconst 0, 0)) rfl) rfl rfl ?_
              refine w_alu (pc' := 69) (st' := [.int ((y - y / (zn C) * (zn C)) + (Int32.ofInt 0))]) (ykc_192 (e := (0, .iadd, 0)) rfl) rfl rfl ?_
              obtain ⟨za1, e_za1⟩ : ∃ zq : Int32, ((y - y / (zn C) * (zn C)) + (Int32.ofInt 0)) = zq := ⟨_, rfl⟩
              rw [e_za1]
              refine w_store (pc' := 71) (L' := [some (.ref 170), some (.int y), some (.int (zn w)), some (.int za0), some (.int za1)]) (st' := []) (m := 2) (ykc_192 (e := (3, .istore 4, 0)) rfl) rfl rfl ?_
              refine w_load (pc' := 72) (v := .int za0) (m := 1) (ykc_192 (e := (2, .iload_n kF3, 0)) rfl) rfl rfl ?_
              refine w_alu (pc' := 73) (st' := [.long za0.toInt64]) (ykc_192 (e := (0, .i2l, 0)) rfl) rfl rfl ?_
              refine w_alu (pc' := 74) (st' := [.long (Int64.ofNat kG0), .long za0.toInt64]) (ykc_192 (e := (0, .lconst kG0, 0)) rfl) rfl rfl ?_
              refine w_load (pc' := 75) (v := .ref 170) (m := 1) (ykc_192 (e := (2, .aload_n kF0, 0)) rfl) rfl rfl ?_
              refine w_gf (pc' := 78) (v := .int (zn R)) (ykc_192 (e := (5, .getfield 24, 0)) rfl) rfl gR rfl ?_
              refine w_alu (pc' := 79) (st' := [.int (Int32.ofInt 1), .int (zn R), .long (Int64.ofNat kG0), .long za0.toInt64]) (ykc_192 (e := (0, .iconst 1, 0)) rfl) rfl rfl ?_
              obtain ⟨z1567, e_z1567, h_z1567⟩ : ∃ zq : Int32, (zn R) - (Int32.ofInt 1) = zq ∧ zq.toInt = ((R : Nat) : Int) - (1 : Int) := ⟨_, rfl, (by have := ti_sub (x := (zn R)) (y := (Int32.ofInt 1)) (by omega) (by omega); omega)⟩
              refine w_alu (pc' := 80) (st' := [.int z1567, .long (Int64.ofNat kG0), .long za0.toInt64]) (ykc_192 (e := (0, .isub, 0)) rfl) (by rw [← e_z1567]; rfl) rfl ?_
              refine w_alu (pc' := 81) (st' := [.long z1567.toInt64, .long (Int64.ofNat kG0), .long za0.toInt64]) (ykc_192 (e := (0, .i2l, 0)) rfl) rfl rfl ?_
              refine w_cs (as := [.long za0.toInt64, .long (Int64.ofNat kG0), .long z1567.toInt64]) (r := []) (ykc_192 (e := (6, .invokestatic 126, 0)) rfl) rfl rfl rfl rfl (zm_in (x := za0.toInt) (y := (0 : Int)) (z := ((R : Nat) : Int) - (1 : Int)) (by first | exact ztl | (rw [ztl]; omega) | decide | omega) (by first | exact ztl | (rw [ztl]; omega) | decide | omega) (by first | exact ztl | (rw [ztl]; omega) | decide | omega)) (fun v1568 ph1569 hv => ?_)
              obtain ⟨rfl, rfl⟩ := hv
              show zW n D 192 Q 84 [some (.ref 170), some (.int y), some (.int (zn w)), some (.int za0), some (.int za1)] [.int (zI (decide ((0 : Int) ≤ za0.toInt ∧ za0.toInt ≤ ((R : Nat) : Int) - (1 : Int))))] ph
              refine w_beq (ykc_192 (e := (4, .ifCond .eq 32, 116)) rfl) rfl (fun b1570 => ?_) (fun b1570 => ?_)
              · refine w_alu (pc' := 117) (st' := [.int (Int32.ofInt (-1))]) (ykc_192 (e := (0, .iconst (-1), 0)) rfl) rfl rfl ?_
                refine w_ret (v := (some (.int (Int32.ofInt (-1))))) (ykc_192 (e := (7, .ireturn, 0)) rfl) (zr_v rfl) ?_
                rw [hQ]
                exact ⟨rfl, _, rfl⟩
              · refine w_load (pc' := 89) (v := .int za1) (m := 2) (ykc_192 (e := (2, .iload 4, 0)) rfl) rfl rfl ?_
                refine w_alu (pc' := 90) (st' := [.long za1.toInt64]) (ykc_192 (e := (0, .i2l, 0)) rfl) rfl rfl ?_
                refine w_alu (pc' := 91) (st' := [.long (Int64.ofNat kG0), .long za1.toInt64]) (ykc_192 (e := (0, .lconst kG0, 0)) rfl) rfl rfl ?_
                refine w_load (pc' := 92) (v := .ref 170) (m := 1) (ykc_192 (e := (2, .aload_n kF0, 0)) rfl) rfl rfl ?_
                refine w_gf (pc' := 95) (v := .int (zn C)) (ykc_192 (e := (5, .getfield 27, 0)) rfl) rfl gC rfl ?_
                refine w_alu (pc' := 96) (st' := [.int (Int32.ofInt 1), .int (zn C), .long (Int64.ofNat kG0), .long za1.toInt64]) (ykc_192 (e := (0, .iconst 1, 0)) rfl) rfl rfl ?_
                obtain ⟨z1571, e_z1571, h_z1571⟩ : ∃ zq : Int32, (zn C) - (Int32.ofInt 1) = zq ∧ zq.toInt = ((C : Nat) : Int) - (1 : Int) := ⟨_, rfl, (by have := ti_sub (x := (zn C)) (y := (Int32.ofInt 1)) (by omega) (by omega); omega)⟩
                refine w_alu (pc' := 97) (st' := [.int z1571, .long (Int64.ofNat kG0), .long za1.toInt64]) (ykc_192 (e := (0, .isub, 0)) rfl) (by rw [← e_z1571]; rfl) rfl ?_
                refine w_alu (pc' := 98) (st' := [.long z1571.toInt64, .long (Int64.ofNat kG0), .long za1.toInt64]) (ykc_192 (e := (0, .i2l, 0)) rfl) rfl rfl ?_
                refine w_cs (as := [.long za1.toInt64, .long (Int64.ofNat kG0), .long z1571.toInt64]) (r := []) (ykc_192 (e := (6, .invokestatic 126, 0)) rfl) rfl rfl rfl rfl (zm_in (x := za1.toInt) (y := (0 : Int)) (z := ((C : Nat) : Int) - (1 : Int)) (by first | exact ztl | (rw [ztl]; omega) | decide | omega) (by first | exact ztl | (rw [ztl]; omega) | decide | omega) (by first | exact ztl | (rw [ztl]; omega) | decide | omega)) (fun v1572 ph1573 hv => ?_)
                obtain ⟨rfl, rfl⟩ := hv
                show zW n D 192 Q 101 [some (.ref 170), some (.int y), some (.int (zn w)), some (.int za0), some (.int za1)] [.int (zI (decide ((0 : Int) ≤ za1.toInt ∧ za1.toInt ≤ ((C : Nat) : Int) - (1 : Int))))] ph
                refine w_beq (ykc_192 (e := (4, .ifCond .eq 15, 116)) rfl) rfl (fun b1574 => ?_) (fun b1574 => ?_)
                · refine w_alu (pc' := 117) (st' := [.int (Int32.ofInt (-1))]) (ykc_192 (e := (0, .iconst (-1), 0)) rfl) rfl rfl ?_
                  refine w_ret (v := (some (.int (Int32.ofInt (-1))))) (ykc_192 (e := (7, .ireturn, 0)) rfl) (zr_v rfl) ?_
                  rw [hQ]
                  exact ⟨rfl, _, rfl⟩
                · refine w_load (pc' := 105) (v := .ref 170) (m := 1) (ykc_192 (e := (2, .aload_n kF0, 0)) rfl) rfl rfl ?_
                  refine w_gf (pc' := 108) (v := .int (zn C)) (ykc_192 (e := (5, .getfield 27, 0)) rfl) rfl gC rfl ?_
                  refine w_load (pc' := 109) (v := .int za0) (m := 1) (ykc_192 (e := (2, .iload_n kF3, 0)) rfl) rfl rfl ?_
                  refine w_alu (pc' := 110) (st' := [.int ((zn C) * za0)]) (ykc_192 (e := (0, .imul, 0)) rfl) rfl rfl ?_
                  refine w_load (pc' := 112) (v := .int za1) (m := 2) (ykc_192 (e := (2, .iload 4, 0)) rfl) rfl rfl ?_
                  refine w_alu (pc' := 113) (st' := [.int (((zn C) * za0) + za1)]) (ykc_192 (e := (0, .iadd, 0)) rfl) rfl rfl ?_
                  refine w_br (pc' := 117) (st' := [.int (((zn C) * za0) + za1)]) (ykc_192 (e := (4, .goto 4, 117)) rfl) rfl ?_
                  refine w_ret (v := (some (.int (((zn C) * za0) + za1)))) (ykc_192 (e := (7, .ireturn, 0)) rfl) (zr_v rfl) ?_
                  rw [hQ]
                  exact ⟨rfl, _, rfl⟩
            · refine w_alu (pc' := 64) (st' := [.int (Int32.ofInt (-1)), .int (y - y / (zn C) * (zn C))]) (ykc_192 (e := (0, .iconst (-1), 0)) rfl) rfl rfl ?_
              refine w_br (pc' := 68) (st' := [.int (Int32.ofInt (-1)), .int (y - y / (zn C) * (zn C))]) (ykc_192 (e := (4, .goto 4, 68)) rfl) rfl ?_
              refine w_alu (pc' := 69) (st' := [.int ((y - y / (zn C) * (zn C)) + (Int32.ofInt (-1)))]) (ykc_192 (e := (0, .iadd, 0)) rfl) rfl rfl ?_
              obtain ⟨za1, e_za1⟩ : ∃ zq : Int32, ((y - y / (zn C) * (zn C)) + (Int32.ofInt (-1))) = zq := ⟨_, rfl⟩
              rw [e_za1]
              refine w_store (pc' := 71) (L' := [some (.ref 170), some (.int y), some (.int (zn w)), some (.int za0), some (.int za1)]) (st' := []) (m := 2) (ykc_192 (e := (3, .istore 4, 0)) rfl) rfl rfl ?_
              refine w_load (pc' := 72) (v := .int za0) (m := 1) (ykc_192 (e := (2, .iload_n kF3, 0)) rfl) rfl rfl ?_
              refine w_alu (pc' := 73) (st' := [.long za0.toInt64]) (ykc_192 (e := (0, .i2l, 0)) rfl) rfl rfl ?_
              refine w_alu (pc' := 74) (st' := [.long (Int64.ofNat kG0), .long za0.toInt64]) (ykc_192 (e := (0, .lconst kG0, 0)) rfl) rfl rfl ?_
              refine w_load (pc' := 75) (v := .ref 170) (m := 1) (ykc_192 (e := (2, .aload_n kF0, 0)) rfl) rfl rfl ?_
              refine w_gf (pc' := 78) (v := .int (zn R)) (ykc_192 (e := (5, .getfield 24, 0)) rfl) rfl gR rfl ?_
              refine w_alu (pc' := 79) (st' := [.int (Int32.ofInt 1), .int (zn R), .long (Int64.ofNat kG0), .long za0.toInt64]) (ykc_192 (e := (0, .iconst 1, 0)) rfl) rfl rfl ?_
              obtain ⟨z1575, e_z1575, h_z1575⟩ : ∃ zq : Int32, (zn R) - (Int32.ofInt 1) = zq ∧ zq.toInt = ((R : Nat) : Int) - (1 : Int) := ⟨_, rfl, (by have := ti_sub (x := (zn R)) (y := (Int32.ofInt 1)) (by omega) (by omega); omega)⟩
              refine w_alu (pc' := 80) (st' := [.int z1575, .long (Int64.ofNat kG0), .long za0.toInt64]) (ykc_192 (e := (0, .isub, 0)) rfl) (by rw [← e_z1575]; rfl) rfl ?_
              refine w_alu (pc' := 81) (st' := [.long z1575.toInt64, .long (Int64.ofNat kG0), .long za0.toInt64]) (ykc_192 (e := (0, .i2l, 0)) rfl) rfl rfl ?_
              refine w_cs (as := [.long za0.toInt64, .long (Int64.ofNat kG0), .long z1575.toInt64]) (r := []) (ykc_192 (e := (6, .invokestatic 126, 0)) rfl) rfl rfl rfl rfl (zm_in (x := za0.toInt) (y := (0 : Int)) (z := ((R : Nat) : Int) - (1 : Int)) (by first | exact ztl | (rw [ztl]; omega) | decide | omega) (by first | exact ztl | (rw [ztl]; omega) | decide | omega) (by first | exact ztl | (rw [ztl]; omega) | decide | omega)) (fun v1576 ph1577 hv => ?_)
              obtain ⟨rfl, rfl⟩ := hv
              show zW n D 192 Q 84 [some (.ref 170), some (.int y), some (.int (zn w)), some (.int za0), some (.int za1)] [.int (zI (decide ((0 : Int) ≤ za0.toInt ∧ za0.toInt ≤ ((R : Nat) : Int) - (1 : Int))))] ph
              refine w_beq (ykc_192 (e := (4, .ifCond .eq 32, 116)) rfl) rfl (fun b1578 => ?_) (fun b1578 => ?_)
              · refine w_alu (pc' := 117) (st' := [.int (Int32.ofInt (-1))]) (ykc_192 (e := (0, .iconst (-1), 0)) rfl) rfl rfl ?_
                refine w_ret (v := (some (.int (Int32.ofInt (-1))))) (ykc_192 (e := (7, .ireturn, 0)) rfl) (zr_v rfl) ?_
                rw [hQ]
                exact ⟨rfl, _, rfl⟩
              · refine w_load (pc' := 89) (v := .int za1) (m := 2) (ykc_192 (e := (2, .iload 4, 0)) rfl) rfl rfl ?_
                refine w_alu (pc' := 90) (st' := [.long za1.toInt64]) (ykc_192 (e := (0, .i2l, 0)) rfl) rfl rfl ?_
                refine w_alu (pc' := 91) (st' := [.long (Int64.ofNat kG0), .long za1.toInt64]) (ykc_192 (e := (0, .lconst kG0, 0)) rfl) rfl rfl ?_
                refine w_load (pc' := 92) (v := .ref 170) (m := 1) (ykc_192 (e := (2, .aload_n kF0, 0)) rfl) rfl rfl ?_
                refine w_gf (pc' := 95) (v := .int (zn C)) (ykc_192 (e := (5, .getfield 27, 0)) rfl) rfl gC rfl ?_
                refine w_alu (pc' := 96) (st' := [.int (Int32.ofInt 1), .int (zn C), .long (Int64.ofNat kG0), .long za1.toInt64]) (ykc_192 (e := (0, .iconst 1, 0)) rfl) rfl rfl ?_
                obtain ⟨z1579, e_z1579, h_z1579⟩ : ∃ zq : Int32, (zn C) - (Int32.ofInt 1) = zq ∧ zq.toInt = ((C : Nat) : Int) - (1 : Int) := ⟨_, rfl, (by have := ti_sub (x := (zn C)) (y := (Int32.ofInt 1)) (by omega) (by omega); omega)⟩
                refine w_alu (pc' := 97) (st' := [.int z1579, .long (Int64.ofNat kG0), .long za1.toInt64]) (ykc_192 (e := (0, .isub, 0)) rfl) (by rw [← e_z1579]; rfl) rfl ?_
                refine w_alu (pc' := 98) (st' := [.long z1579.toInt64, .long (Int64.ofNat kG0), .long za1.toInt64]) (ykc_192 (e := (0, .i2l, 0)) rfl) rfl rfl ?_
                refine w_cs (as := [.long za1.toInt64, .long (Int64.ofNat kG0), .long z1579.toInt64]) (r := []) (ykc_192 (e := (6, .invokestatic 126, 0)) rfl) rfl rfl rfl rfl (zm_in (x := za1.toInt) (y := (0 : Int)) (z := ((C : Nat) : Int) - (1 : Int)) (by first | exact ztl | (rw [ztl]; omega) | decide | omega) (by first | exact ztl | (rw [ztl]; omega) | decide | omega) (by first | exact ztl | (rw [ztl]; omega) | decide | omega)) (fun v1580 ph1581 hv => ?_)
                obtain ⟨rfl, rfl⟩ := hv
                show zW n D 192 Q 101 [some (.ref 170), some (.int y), some (.int (zn w)), some (.int za0), some (.int za1)] [.int (zI (decide ((0 : Int) ≤ za1.toInt ∧ za1.toInt ≤ ((C : Nat) : Int) - (1 : Int))))] ph
                refine w_beq (ykc_192 (e := (4, .ifCond .eq 15, 116)) rfl) rfl (fun b1582 => ?_) (fun b1582 => ?_)
                · refine w_alu (pc' := 117) (st' := [.int (Int32.ofInt (-1))]) (ykc_192 (e := (0, .iconst (-1), 0)) rfl) rfl rfl ?_
                  refine w_ret (v := (some (.int (Int32.ofInt (-1))))) (ykc_192 (e := (7, .ireturn, 0)) rfl) (zr_v rfl) ?_
                  rw [hQ]
                  exact ⟨rfl, _, rfl⟩
                · refine w_load (pc' := 105) (v := .ref 170) (m := 1) (ykc_192 (e := (2, .aload_n kF0, 0)) rfl) rfl rfl ?_
                  refine w_gf (pc' := 108) (v := .int (zn C)) (ykc_192 (e := (5, .getfield 27, 0)) rfl) rfl gC rfl ?_
                  refine w_load (pc' := 109) (v := .int za0) (m := 1) (ykc_192 (e := (2, .iload_n kF3, 0)) rfl) rfl rfl ?_
                  refine w_alu (pc' := 110) (st' := [.int ((zn C) * za0)]) (ykc_192 (e := (0, .imul, 0)) rfl) rfl rfl ?_
                  refine w_load (pc' := 112) (v := .int za1) (m := 2) (ykc_192 (e := (2, .iload 4, 0)) rfl) rfl rfl ?_
                  refine w_alu (pc' := 113) (st' := [.int (((zn C) * za0) + za1)]) (ykc_192 (e := (0, .iadd, 0)) rfl) rfl rfl ?_
                  refine w_br (pc' := 117) (st' := [.int (((zn C) * za0) + za1)]) (ykc_192 (e := (4, .goto 4, 117)) rfl) rfl ?_
                  refine w_ret (v := (some (.int (((zn C) * za0) + za1)))) (ykc_192 (e := (7, .ireturn, 0)) rfl) (zr_v rfl) ?_
                  rw [hQ]
                  exact ⟨rfl, _, rfl⟩
          · refine w_load (pc' := 50) (v := .int (zn w)) (m := 1) (ykc_192 (e := (2, .iload_n kF2, 0)) rfl) rfl rfl ?_
            refine w_alu (pc' := 51) (st' := [.int (Int32.ofInt 4), .int (zn w), .int (y - y / (zn C) * (zn C))]) (ykc_192 (e := (0, .iconst 4, 0)) rfl) rfl rfl ?_
            refine w_ige (ykc_192 (e := (4, .if_icmp .ge 7, 58)) rfl) rfl (fun b1583 => ?_) (fun b1583 => ?_)
            · refine w_load (pc' := 59) (v := .int (zn w)) (m := 1) (ykc_192 (e := (2, .iload_n kF2, 0)) rfl) rfl rfl ?_
              refine w_alu (pc' := 60) (st' := [.int (Int32.ofInt 4), .int (zn w), .int (y - y / (zn C) * (zn C))]) (ykc_192 (e := (0, .iconst 4, 0)) rfl) rfl rfl ?_
              refine w_ile (ykc_192 (e := (4, .if_icmp .le 7, 67)) rfl) rfl (fun b1584 => ?_) (fun b1584 => ?_)
              · refine w_alu (pc' := 68) (st' := [.int (Int32.ofInt 0), .int (y - y / (zn C) * (zn C))]) (ykc_192 (e := (0, .iconst 0, 0)) rfl) rfl rfl ?_
                refine w_alu (pc' := 69) (st' := [.int ((y - y / (zn C) * (zn C)) + (Int32.ofInt 0))]) (ykc_192 (e := (0, .iadd, 0)) rfl) rfl rfl ?_
                obtain ⟨za1, e_za1⟩ : ∃ zq : Int32, ((y - y / (zn C) * (zn C)) + (Int32.ofInt 0)) = zq := ⟨_, rfl⟩
                rw [e_za1]
                refine w_store (pc' := 71) (L' := [some (.ref 170), some (.int y), some (.int (zn w)), some (.int za0), some (.int za1)]) (st' := []) (m := 2) (ykc_192 (e := (3, .istore 4, 0)) rfl) rfl rfl ?_
                refine w_load (pc' := 72) (v := .int za0) (m := 1) (ykc_192 (e := (2, .iload_n kF3, 0)) rfl) rfl rfl ?_
                refine w_alu (pc' := 73) (st' := [.long za0.toInt64]) (ykc_192 (e := (0, .i2l, 0)) rfl) rfl rfl ?_
                refine w_alu (pc' := 74) (st' := [.long (Int64.ofNat kG0), .long za0.toInt64]) (ykc_192 (e := (0, .lconst kG0, 0)) rfl) rfl rfl ?_
                refine w_load (pc' := 75) (v := .ref 170) (m := 1) (ykc_192 (e := (2, .aload_n kF0, 0)) rfl) rfl rfl ?_
                refine w_gf (pc' := 78) (v := .int (zn R)) (ykc_192 (e := (5, .getfield 24, 0)) rfl) rfl gR rfl ?_
                refine w_alu (pc' := 79) (st' := [.int (Int32.ofInt 1), .int (zn R), .long (Int64.ofNat kG0), .long za0.toInt64]) (ykc_192 (e := (0, .iconst 1, 0)) rfl) rfl rfl ?_
                obtain ⟨z1585, e_z1585, h_z1585⟩ : ∃ zq : Int32, (zn R) - (Int32.ofInt 1) = zq ∧ zq.toInt = ((R : Nat) : Int) - (1 : Int) := ⟨_, rfl, (by have := ti_sub (x := (zn R)) (y := (Int32.ofInt 1)) (by omega) (by omega); omega)⟩
                refine w_alu (pc' := 80) (st' := [.int z1585, .long (Int64.ofNat kG0), .long za0.toInt64]) (ykc_192 (e := (0, .isub, 0)) rfl) (by rw [← e_z1585]; rfl) rfl ?_
                refine w_alu (pc' := 81) (st' := [.long z1585.toInt64, .long (Int64.ofNat kG0), .long za0.toInt64]) (ykc_192 (e := (0, .i2l, 0)) rfl) rfl rfl ?_
                refine w_cs (as := [.long za0.toInt64, .long (Int64.ofNat kG0), .long z1585.toInt64]) (r := []) (ykc_192 (e := (6, .invokestatic 126, 0)) rfl) rfl rfl rfl rfl (zm_in (x := za0.toInt) (y := (0 : Int)) (z := ((R : Nat) : Int) - (1 : Int)) (by first | exact ztl | (rw [ztl]; omega) | decide | omega) (by first | exact ztl | (rw [ztl]; omega) | decide | omega) (by first | exact ztl | (rw [ztl]; omega) | decide | omega)) (fun v1586 ph1587 hv => ?_)
                obtain ⟨rfl, rfl⟩ := hv
                show zW n D 192 Q 84 [some (.ref 170), some (.int y), some (.int (zn w)), some (.int za0), some (.int za1)] [.int (zI (decide ((0 : Int) ≤ za0.toInt ∧ za0.toInt ≤ ((R : Nat) : Int) - (1 : Int))))] ph
                refine w_beq (ykc_192 (e := (4, .ifCond .eq 32, 116)) rfl) rfl (fun b1588 => ?_) (fun b1588 => ?_)
                · refine w_alu (pc' := 117) (st' := [.int (Int32.ofInt (-1))]) (ykc_192 (e := (0, .iconst (-1), 0)) rfl) rfl rfl ?_
                  refine w_ret (v := (some (.int (Int32.ofInt (-1))))) (ykc_192 (e := (7, .ireturn, 0)) rfl) (zr_v rfl) ?_
                  rw [hQ]
                  exact ⟨rfl, _, rfl⟩
                · refine w_load (pc' := 89) (v := .int za1) (m := 2) (ykc_192 (e := (2, .iload 4, 0)) rfl) rfl rfl ?_
                  refine w_alu (pc' := 90) (st' := [.long za1.toInt64]) (ykc_192 (e := (0, .i2l, 0)) rfl) rfl rfl ?_
                  refine w_alu (pc' := 91) (st' := [.long (Int64.ofNat kG0), .long za1.toInt64]) (ykc_192 (e := (0, .lconst kG0, 0)) rfl) rfl rfl ?_
                  refine w_load (pc' := 92) (v := .ref 170) (m := 1) (ykc_192 (e := (2, .aload_n kF0, 0)) rfl) rfl rfl ?_
                  refine w_gf (pc' := 95) (v := .int (zn C)) (ykc_192 (e := (5, .getfield 27, 0)) rfl) rfl gC rfl ?_
                  refine w_alu (pc' := 96) (st' := [.int (Int32.ofInt 1), .int (zn C), .long (Int64.ofNat kG0), .long za1.toInt64]) (ykc_192 (e := (0, .iconst 1, 0)) rfl) rfl rfl ?_
                  obtain ⟨z1589, e_z1589, h_z1589⟩ : ∃ zq : Int32, (zn C) - (Int32.ofInt 1) = zq ∧ zq.toInt = ((C : Nat) : Int) - (1 : Int) := ⟨_, rfl, (by have := ti_sub (x := (zn C)) (y := (Int32.ofInt 1)) (by omega) (by omega); omega)⟩
                  refine w_alu (pc' := 97) (st' := [.int z1589, .long (Int64.ofNat kG0), .long za1.toInt64]) (ykc_192 (e := (0, .isub, 0)) rfl) (by rw [← e_z1589]; rfl) rfl ?_
                  refine w_alu (pc' := 98) (st' := [.long z1589.toInt64, .long (Int64.ofNat kG0), .long za1.toInt64]) (ykc_192 (e := (0, .i2l, 0)) rfl) rfl rfl ?_
                  refine w_cs (as := [.long za1.toInt64, .long (Int64.ofNat kG0), .long z1589.toInt64]) (r := []) (ykc_192 (e := (6, .invokestatic 126, 0)) rfl) rfl rfl rfl rfl (zm_in (x := za1.toInt) (y := (0 : Int)) (z := ((C : Nat) : Int) - (1 : Int)) (by first | exact ztl | (rw [ztl]; omega) | decide | omega) (by first | exact ztl | (rw [ztl]; omega) | decide | omega) (by first | exact ztl | (rw [ztl]; omega) | decide | omega)) (fun v1590 ph1591 hv => ?_)
                  obtain ⟨rfl, rfl⟩ := hv
                  show zW n D 192 Q 101 [some (.ref 170), some (.int y), some (.int (zn w)), some (.int za0), some (.int za1)] [.int (zI (decide ((0 : Int) ≤ za1.toInt ∧ za1.toInt ≤ ((C : Nat) : Int) - (1 : Int))))] ph
                  refine w_beq (ykc_192 (e := (4, .ifCond .eq 15, 116)) rfl) rfl (fun b1592 => ?_) (fun b1592 => ?_)
                  · refine w_alu (pc' := 117) (st' := [.int (Int32.ofInt (-1))]) (ykc_192 (e := (0, .iconst (-1), 0)) rfl) rfl rfl ?_
                    refine w_ret (v := (some (.int (Int32.ofInt (-1))))) (ykc_192 (e := (7, .ireturn, 0)) rfl) (zr_v rfl) ?_
                    rw [hQ]
                    exact ⟨rfl, _, rfl⟩
                  · refine w_load (pc' := 105) (v := .ref 170) (m := 1) (ykc_192 (e := (2, .aload_n kF0, 0)) rfl) rfl rfl ?_
                    refine w_gf (pc' := 108) (v := .int (zn C)) (ykc_192 (e := (5, .getfield 27, 0)) rfl) rfl gC rfl ?_
                    refine w_load (pc' := 109) (v := .int za0) (m := 1) (ykc_192 (e := (2, .iload_n kF3, 0)) rfl) rfl rfl ?_
                    refine w_alu (pc' := 110) (st' := [.int ((zn C) * za0)]) (ykc_192 (e := (0, .imul, 0)) rfl) rfl rfl ?_
                    refine w_load (pc' := 112) (v := .int za1) (m := 2) (ykc_192 (e := (2, .iload 4, 0)) rfl) rfl rfl ?_
                    refine w_alu (pc' := 113) (st' := [.int (((zn C) * za0) + za1)]) (ykc_192 (e := (0, .iadd, 0)) rfl) rfl rfl ?_
                    refine w_br (pc' := 117) (st' := [.int (((zn C) * za0) + za1)]) (ykc_192 (e := (4, .goto 4, 117)) rfl) rfl ?_
                    refine w_ret (v := (some (.int (((zn C) * za0) + za1)))) (ykc_192 (e := (7, .ireturn, 0)) rfl) (zr_v rfl) ?_
                    rw [hQ]
                    exact ⟨rfl, _, rfl⟩
              · refine w_alu (pc' := 64) (st' := [.int (Int32.ofInt (-1)), .int (y - y / (zn C) * (zn C))]) (ykc_192 (e := (0, .iconst (-1), 0)) rfl) rfl rfl ?_
                refine w_br (pc' := 68) (st' := [.int (Int32.ofInt (-1)), .int (y - y / (zn C) * (zn C))]) (ykc_192 (e := (4, .goto 4, 68)) rfl) rfl ?_
                refine w_alu (pc' := 69) (st' := [.int ((y - y / (zn C) * (zn C)) + (Int32.ofInt (-1)))]) (ykc_192 (e := (0, .iadd, 0)) rfl) rfl rfl ?_
                obtain ⟨za1, e_za1⟩ : ∃ zq : Int32, ((y - y / (zn C) * (zn C)) + (Int32.ofInt (-1))) = zq := ⟨_, rfl⟩
                rw [e_za1]
                refine w_store (pc' := 71) (L' := [some (.ref 170), some (.int y), some (.int (zn w)), some (.int za0), some (.int za1)]) (st' := []) (m := 2) (ykc_192 (e := (3, .istore 4, 0)) rfl) rfl rfl ?_
                refine w_load (pc' := 72) (v := .int za0) (m := 1) (ykc_192 (e := (2, .iload_n kF3, 0)) rfl) rfl rfl ?_
                refine w_alu (pc' := 73) (st' := [.long za0.toInt64]) (ykc_192 (e := (0, .i2l, 0)) rfl) rfl rfl ?_
                refine w_alu (pc' := 74) (st' := [.long (Int64.ofNat kG0), .long za0.toInt64]) (ykc_192 (e := (0, .lconst kG0, 0)) rfl) rfl rfl ?_
                refine w_load (pc' := 75) (v := .ref 170) (m := 1) (ykc_192 (e := (2, .aload_n kF0, 0)) rfl) rfl rfl ?_
                refine w_gf (pc' := 78) (v := .int (zn R)) (ykc_192 (e := (5, .getfield 24, 0)) rfl) rfl gR rfl ?_
                refine w_alu (pc' := 79) (st' := [.int (Int32.ofInt 1), .int (zn R), .long (Int64.ofNat kG0), .long za0.toInt64]) (ykc_192 (e := (0, .iconst 1, 0)) rfl) rfl rfl ?_
                obtain ⟨z1593, e_z1593, h_z1593⟩ : ∃ zq : Int32, (zn R) - (Int32.ofInt 1) = zq ∧ zq.toInt = ((R : Nat) : Int) - (1 : Int) := ⟨_, rfl, (by have := ti_sub (x := (zn R)) (y := (Int32.ofInt 1)) (by omega) (by omega); omega)⟩
                refine w_alu (pc' := 80) (st' := [.int z1593, .long (Int64.ofNat kG0), .long za0.toInt64]) (ykc_192 (e := (0, .isub, 0)) rfl) (by rw [← e_z1593]; rfl) rfl ?_
                refine w_alu (pc' := 81) (st' := [.long z1593.toInt64, .long (Int64.ofNat kG0), .long za0.toInt64]) (ykc_192 (e := (0, .i2l, 0)) rfl) rfl rfl ?_
                refine w_cs (as := [.long za0.toInt64, .long (Int64.ofNat kG0), .long z1593.toInt64]) (r := []) (ykc_192 (e := (6, .invokestatic 126, 0)) rfl) rfl rfl rfl rfl (zm_in (x := za0.toInt) (y := (0 : Int)) (z := ((R : Nat) : Int) - (1 : Int)) (by first | exact ztl | (rw [ztl]; omega) | decide | omega) (by first | exact ztl | (rw [ztl]; omega) | decide | omega) (by first | exact ztl | (rw [ztl]; omega) | decide | omega)) (fun v1594 ph1595 hv => ?_)
                obtain ⟨rfl, rfl⟩ := hv
                show zW n D 192 Q 84 [some (.ref 170), some (.int y), some (.int (zn w)), some (.int za0), some (.int za1)] [.int (zI (decide ((0 : Int) ≤ za0.toInt ∧ za0.toInt ≤ ((R : Nat) : Int) - (1 : Int))))] ph
                refine w_beq (ykc_192 (e := (4, .ifCond .eq 32, 116)) rfl) rfl (fun b1596 => ?_) (fun b1596 => ?_)
                · refine w_alu (pc' := 117) (st' := [.int (Int32.ofInt (-1))]) (ykc_192 (e := (0, .iconst (-1), 0)) rfl) rfl rfl ?_
                  refine w_ret (v := (some (.int (Int32.ofInt (-1))))) (ykc_192 (e := (7, .ireturn, 0)) rfl) (zr_v rfl) ?_
                  rw [hQ]
                  exact ⟨rfl, _, rfl⟩
                · refine w_load (pc' := 89) (v := .int za1) (m := 2) (ykc_192 (e := (2, .iload 4, 0)) rfl) rfl rfl ?_
                  refine w_alu (pc' := 90) (st' := [.long za1.toInt64]) (ykc_192 (e := (0, .i2l, 0)) rfl) rfl rfl ?_
                  refine w_alu (pc' := 91) (st' := [.long (Int64.ofNat kG0), .long za1.toInt64]) (ykc_192 (e := (0, .lconst kG0, 0)) rfl) rfl rfl ?_
                  refine w_load (pc' := 92) (v := .ref 170) (m := 1) (ykc_192 (e := (2, .aload_n kF0, 0)) rfl) rfl rfl ?_
                  refine w_gf (pc' := 95) (v := .int (zn C)) (ykc_192 (e := (5, .getfield 27, 0)) rfl) rfl gC rfl ?_
                  refine w_alu (pc' := 96) (st' := [.int (Int32.ofInt 1), .int (zn C), .long (Int64.ofNat kG0), .long za1.toInt64]) (ykc_192 (e := (0, .iconst 1, 0)) rfl) rfl rfl ?_
                  obtain ⟨z1597, e_z1597, h_z1597⟩ : ∃ zq : Int32, (zn C) - (Int32.ofInt 1) = zq ∧ zq.toInt = ((C : Nat) : Int) - (1 : Int) := ⟨_, rfl, (by have := ti_sub (x := (zn C)) (y := (Int32.ofInt 1)) (by omega) (by omega); omega)⟩
                  refine w_alu (pc' := 97) (st' := [.int z1597, .long (Int64.ofNat kG0), .long za1.toInt64]) (ykc_192 (e := (0, .isub, 0)) rfl) (by rw [← e_z1597]; rfl) rfl ?_
                  refine w_alu (pc' := 98) (st' := [.long z1597.toInt64, .long (Int64.ofNat kG0), .long za1.toInt64]) (ykc_192 (e := (0, .i2l, 0)) rfl) rfl rfl ?_
                  refine w_cs (as := [.long za1.toInt64, .long (Int64.ofNat kG0), .long z1597.toInt64]) (r := []) (ykc_192 (e := (6, .invokestatic 126, 0)) rfl) rfl rfl rfl rfl (zm_in (x := za1.toInt) (y := (0 : Int)) (z := ((C : Nat) : Int) - (1 : Int)) (by first | exact ztl | (rw [ztl]; omega) | decide | omega) (by first | exact ztl | (rw [ztl]; omega) | decide | omega) (by first | exact ztl | (rw [ztl]; omega) | decide | omega)) (fun v1598 ph1599 hv => ?_)
                  obtain ⟨rfl, rfl⟩ := hv
                  show zW n D 192 Q 101 [some (.ref 170), some (.int y), some (.int (zn w)), some (.int za0), some (.int za1)] [.int (zI (decide ((0 : Int) ≤ za1.toInt ∧ za1.toInt ≤ ((C : Nat) : Int) - (1 : Int))))] ph
                  refine w_beq (ykc_192 (e := (4, .ifCond .eq 15, 116)) rfl) rfl (fun b1600 => ?_) (fun b1600 => ?_)
                  · refine w_alu (pc' := 117) (st' := [.int (Int32.ofInt (-1))]) (ykc_192 (e := (0, .iconst (-1), 0)) rfl) rfl rfl ?_
                    refine w_ret (v := (some (.int (Int32.ofInt (-1))))) (ykc_192 (e := (7, .ireturn, 0)) rfl) (zr_v rfl) ?_
                    rw [hQ]
                    exact ⟨rfl, _, rfl⟩
                  · refine w_load (pc' := 105) (v := .ref 170) (m := 1) (ykc_192 (e := (2, .aload_n kF0, 0)) rfl) rfl rfl ?_
                    refine w_gf (pc' := 108) (v := .int (zn C)) (ykc_192 (e := (5, .getfield 27, 0)) rfl) rfl gC rfl ?_
                    refine w_load (pc' := 109) (v := .int za0) (m := 1) (ykc_192 (e := (2, .iload_n kF3, 0)) rfl) rfl rfl ?_
                    refine w_alu (pc' := 110) (st' := [.int ((zn C) * za0)]) (ykc_192 (e := (0, .imul, 0)) rfl) rfl rfl ?_
                    refine w_load (pc' := 112) (v := .int za1) (m := 2) (ykc_192 (e := (2, .iload 4, 0)) rfl) rfl rfl ?_
                    refine w_alu (pc' := 113) (st' := [.int (((zn C) * za0) + za1)]) (ykc_192 (e := (0, .iadd, 0)) rfl) rfl rfl ?_
                    refine w_br (pc' := 117) (st' := [.int (((zn C) * za0) + za1)]) (ykc_192 (e := (4, .goto 4, 117)) rfl) rfl ?_
                    refine w_ret (v := (some (.int (((zn C) * za0) + za1)))) (ykc_192 (e := (7, .ireturn, 0)) rfl) (zr_v rfl) ?_
                    rw [hQ]
                    exact ⟨rfl, _, rfl⟩
            · refine w_alu (pc' := 55) (st' := [.int (Int32.ofInt 1), .int (y - y / (zn C) * (zn C))]) (ykc_192 (e := (0, .iconst 1, 0)) rfl) rfl rfl ?_
              refine w_br (pc' := 68) (st' := [.int (Int32.ofInt 1), .int (y - y / (zn C) * (zn C))]) (ykc_192 (e := (4, .goto 13, 68)) rfl) rfl ?_
              refine w_alu (pc' := 69) (st' := [.int ((y - y / (zn C) * (zn C)) + (Int32.ofInt 1))]) (ykc_192 (e := (0, .iadd, 0)) rfl) rfl rfl ?_
              obtain ⟨za1, e_za1⟩ : ∃ zq : Int32, ((y - y / (zn C) * (zn C)) + (Int32.ofInt 1)) = zq := ⟨_, rfl⟩
              rw [e_za1]
              refine w_store (pc' := 71) (L' := [some (.ref 170), some (.int y), some (.int (zn w)), some (.int za0), some (.int za1)]) (st' := []) (m := 2) (ykc_192 (e := (3, .istore 4, 0)) rfl) rfl rfl ?_
              refine w_load (pc' := 72) (v := .int za0) (m := 1) (ykc_192 (e := (2, .iload_n kF3, 0)) rfl) rfl rfl ?_
              refine w_alu (pc' := 73) (st' := [.long za0.toInt64]) (ykc_192 (e := (0, .i2l, 0)) rfl) rfl rfl ?_
              refine w_alu (pc' := 74) (st' := [.long (Int64.ofNat kG0), .long za0.toInt64]) (ykc_192 (e := (0, .lconst kG0, 0)) rfl) rfl rfl ?_
              refine w_load (pc' := 75) (v := .ref 170) (m := 1) (ykc_192 (e := (2, .aload_n kF0, 0)) rfl) rfl rfl ?_
              refine w_gf (pc' := 78) (v := .int (zn R)) (ykc_192 (e := (5, .getfield 24, 0)) rfl) rfl gR rfl ?_
              refine w_alu (pc' := 79) (st' := [.int (Int32.ofInt 1), .int (zn R), .long (Int64.ofNat kG0), .long za0.toInt64]) (ykc_192 (e := (0, .iconst 1, 0)) rfl) rfl rfl ?_
              obtain ⟨z1601, e_z1601, h_z1601⟩ : ∃ zq : Int32, (zn R) - (Int32.ofInt 1) = zq ∧ zq.toInt = ((R : Nat) : Int) - (1 : Int) := ⟨_, rfl, (by have := ti_sub (x := (zn R)) (y := (Int32.ofInt 1)) (by omega) (by omega); omega)⟩
              refine w_alu (pc' := 80) (st' := [.int z1601, .long (Int64.ofNat kG0), .long za0.toInt64]) (ykc_192 (e := (0, .isub, 0)) rfl) (by rw [← e_z1601]; rfl) rfl ?_
              refine w_alu (pc' := 81) (st' := [.long z1601.toInt64, .long (Int64.ofNat kG0), .long za0.toInt64]) (ykc_192 (e := (0, .i2l, 0)) rfl) rfl rfl ?_
              refine w_cs (as := [.long za0.toInt64, .long (Int64.ofNat kG0), .long z1601.toInt64]) (r := []) (ykc_192 (e := (6, .invokestatic 126, 0)) rfl) rfl rfl rfl rfl (zm_in (x := za0.toInt) (y := (0 : Int)) (z := ((R : Nat) : Int) - (1 : Int)) (by first | exact ztl | (rw [ztl]; omega) | decide | omega) (by first | exact ztl | (rw [ztl]; omega) | decide | omega) (by first | exact ztl | (rw [ztl]; omega) | decide | omega)) (fun v1602 ph1603 hv => ?_)
              obtain ⟨rfl, rfl⟩ := hv
              show zW n D 192 Q 84 [some (.ref 170), some (.int y), some (.int (zn w)), some (.int za0), some (.int za1)] [.int (zI (decide ((0 : Int) ≤ za0.toInt ∧ za0.toInt ≤ ((R : Nat) : Int) - (1 : Int))))] ph
              refine w_beq (ykc_192 (e := (4, .ifCond .eq 32, 116)) rfl) rfl (fun b1604 => ?_) (fun b1604 => ?_)
              · refine w_alu (pc' := 117) (st' := [.int (Int32.ofInt (-1))]) (ykc_192 (e := (0, .iconst (-1), 0)) rfl) rfl rfl ?_
                refine w_ret (v := (some (.int (Int32.ofInt (-1))))) (ykc_192 (e := (7, .ireturn, 0)) rfl) (zr_v rfl) ?_
                rw [hQ]
                exact ⟨rfl, _, rfl⟩
              · refine w_load (pc' := 89) (v := .int za1) (m := 2) (ykc_192 (e := (2, .iload 4, 0)) rfl) rfl rfl ?_
                refine w_alu (pc' := 90) (st' := [.long za1.toInt64]) (ykc_192 (e := (0, .i2l, 0)) rfl) rfl rfl ?_
                refine w_alu (pc' := 91) (st' := [.long (Int64.ofNat kG0), .long za1.toInt64]) (ykc_192 (e := (0, .lconst kG0, 0)) rfl) rfl rfl ?_
                refine w_load (pc' := 92) (v := .ref 170) (m := 1) (ykc_192 (e := (2, .aload_n kF0, 0)) rfl) rfl rfl ?_
                refine w_gf (pc' := 95) (v := .int (zn C)) (ykc_192 (e := (5, .getfield 27, 0)) rfl) rfl gC rfl ?_
                refine w_alu (pc' := 96) (st' := [.int (Int32.ofInt 1), .int (zn C), .long (Int64.ofNat kG0), .long za1.toInt64]) (ykc_192 (e := (0, .iconst 1, 0)) rfl) rfl rfl ?_
                obtain ⟨z1605, e_z1605, h_z1605⟩ : ∃ zq : Int32, (zn C) - (Int32.ofInt 1) = zq ∧ zq.toInt = ((C : Nat) : Int) - (1 : Int) := ⟨_, rfl, (by have := ti_sub (x := (zn C)) (y := (Int32.ofInt 1)) (by omega) (by omega); omega)⟩
                refine w_alu (pc' := 97) (st' := [.int z1605, .long (Int64.ofNat kG0), .long za1.toInt64]) (ykc_192 (e := (0, .isub, 0)) rfl) (by rw [← e_z1605]; rfl) rfl ?_
                refine w_alu (pc' := 98) (st' := [.long z1605.toInt64, .long (Int64.ofNat kG0), .long za1.toInt64]) (ykc_192 (e := (0, .i2l, 0)) rfl) rfl rfl ?_
                refine w_cs (as := [.long za1.toInt64, .long (Int64.ofNat kG0), .long z1605.toInt64]) (r := []) (ykc_192 (e := (6, .invokestatic 126, 0)) rfl) rfl rfl rfl rfl (zm_in (x := za1.toInt) (y := (0 : Int)) (z := ((C : Nat) : Int) - (1 : Int)) (by first | exact ztl | (rw [ztl]; omega) | decide | omega) (by first | exact ztl | (rw [ztl]; omega) | decide | omega) (by first | exact ztl | (rw [ztl]; omega) | decide | omega)) (fun v1606 ph1607 hv => ?_)
                obtain ⟨rfl, rfl⟩ := hv
                show zW n D 192 Q 101 [some (.ref 170), some (.int y), some (.int (zn w)), some (.int za0), some (.int za1)] [.int (zI (decide ((0 : Int) ≤ za1.toInt ∧ za1.toInt ≤ ((C : Nat) : Int) - (1 : Int))))] ph
                refine w_beq (ykc_192 (e := (4, .ifCond .eq 15, 116)) rfl) rfl (fun b1608 => ?_) (fun b1608 => ?_)
                · refine w_alu (pc' := 117) (st' := [.int (Int32.ofInt (-1))]) (ykc_192 (e := (0, .iconst (-1), 0)) rfl) rfl rfl ?_
                  refine w_ret (v := (some (.int (Int32.ofInt (-1))))) (ykc_192 (e := (7, .ireturn, 0)) rfl) (zr_v rfl) ?_
                  rw [hQ]
                  exact ⟨rfl, _, rfl⟩
                · refine w_load (pc' := 105) (v := .ref 170) (m := 1) (ykc_192 (e := (2, .aload_n kF0, 0)) rfl) rfl rfl ?_
                  refine w_gf (pc' := 108) (v := .int (zn C)) (ykc_192 (e := (5, .getfield 27, 0)) rfl) rfl gC rfl ?_
                  refine w_load (pc' := 109) (v := .int za0) (m := 1) (ykc_192 (e := (2, .iload_n kF3, 0)) rfl) rfl rfl ?_
                  refine w_alu (pc' := 110) (st' := [.int ((zn C) * za0)]) (ykc_192 (e := (0, .imul, 0)) rfl) rfl rfl ?_
                  refine w_load (pc' := 112) (v := .int za1) (m := 2) (ykc_192 (e := (2, .iload 4, 0)) rfl) rfl rfl ?_
                  refine w_alu (pc' := 113) (st' := [.int (((zn C) * za0) + za1)]) (ykc_192 (e := (0, .iadd, 0)) rfl) rfl rfl ?_
                  refine w_br (pc' := 117) (st' := [.int (((zn C) * za0) + za1)]) (ykc_192 (e := (4, .goto 4, 117)) rfl) rfl ?_
                  refine w_ret (v := (some (.int (((zn C) * za0) + za1)))) (ykc_192 (e := (7, .ireturn, 0)) rfl) (zr_v rfl) ?_
                  rw [hQ]
                  exact ⟨rfl, _, rfl⟩
        · refine w_alu (pc' := 33) (st' := [.int (Int32.ofInt 1), .int (y / (zn C))]) (ykc_192 (e := (0, .iconst 1, 0)) rfl) rfl rfl ?_
          refine w_br (pc' := 37) (st' := [.int (Int32.ofInt 1), .int (y / (zn C))]) (ykc_192 (e := (4, .goto 4, 37)) rfl) rfl ?_
          refine w_alu (pc' := 38) (st' := [.int ((y / (zn C)) + (Int32.ofInt 1))]) (ykc_192 (e := (0, .iadd, 0)) rfl) rfl rfl ?_
          obtain ⟨za0, e_za0⟩ : ∃ zq : Int32, ((y / (zn C)) + (Int32.ofInt 1)) = zq := ⟨_, rfl⟩
          rw [e_za0]
          refine w_store (pc' := 39) (L' := [some (.ref 170), some (.int y), some (.int (zn w)), some (.int za0), none]) (st' := []) (m := 1) (ykc_192 (e := (3, .istore_n kF3, 0)) rfl) rfl rfl ?_
          refine w_load (pc' := 40) (v := .int y) (m := 1) (ykc_192 (e := (2, .iload_n kF1, 0)) rfl) rfl rfl ?_
          refine w_load (pc' := 41) (v := .ref 170) (m := 1) (ykc_192 (e := (2, .aload_n kF0, 0)) rfl) rfl rfl ?_
          refine w_gf (pc' := 44) (v := .int (zn C)) (ykc_192 (e := (5, .getfield 27, 0)) rfl) rfl gC rfl ?_
          refine w_irem (pc' := 45) (ykc_192 (e := (0, .irem, 0)) rfl) rfl (fun d1609 => ?_)
          show zW n D 192 Q 45 [some (.ref 170), some (.int y), some (.int (zn w)), some (.int za0), none] [.int (y - y / (zn C) * (zn C))] ph
          refine w_load (pc' := 46) (v := .int (zn w)) (m := 1) (ykc_192 (e := (2, .iload_n kF2, 0)) rfl) rfl rfl ?_
          refine w_zle (ykc_192 (e := (4, .ifCond .le 12, 58)) rfl) rfl (fun b1610 => ?_) (fun b1610 => ?_)
          · refine w_load (pc' := 59) (v := .int (zn w)) (m := 1) (ykc_192 (e := (2, .iload_n kF2, 0)) rfl) rfl rfl ?_
            refine w_alu (pc' := 60) (st' := [.int (Int32.ofInt 4), .int (zn w), .int (y - y / (zn C) * (zn C))]) (ykc_192 (e := (0, .iconst 4, 0)) rfl) rfl rfl ?_
            refine w_ile (ykc_192 (e := (4, .if_icmp .le 7, 67)) rfl) rfl (fun b1611 => ?_) (fun b1611 => ?_)
            · refine w_alu (pc' := 68) (st' := [.int (Int32.ofInt 0), .int (y - y / (zn C) * (zn C))]) (ykc_192 (e := (0, .iconst 0, 0)) rfl) rfl rfl ?_
              refine w_alu (pc' := 69) (st' := [.int ((y - y / (zn C) * (zn C)) + (Int32.ofInt 0))]) (ykc_192 (e := (0, .iadd, 0)) rfl) rfl rfl ?_
              obtain ⟨za1, e_za1⟩ : ∃ zq : Int32, ((y - y / (zn C) * (zn C)) + (Int32.ofInt 0)) = zq := ⟨_, rfl⟩
              rw [e_za1]
              refine w_store (pc' := 71) (L' := [some (.ref 170), some (.int y), some (.int (zn w)), some (.int za0), some (.int za1)]) (st' := []) (m := 2) (ykc_192 (e := (3, .istore 4, 0)) rfl) rfl rfl ?_
              refine w_load (pc' := 72) (v := .int za0) (m := 1) (ykc_192 (e := (2, .iload_n kF3, 0)) rfl) rfl rfl ?_
              refine w_alu (pc' := 73) (st' := [.long za0.toInt64]) (ykc_192 (e := (0, .i2l, 0)) rfl) rfl rfl ?_
              refine w_alu (pc' := 74) (st' := [.long (Int64.ofNat kG0), .long za0.toInt64]) (ykc_192 (e := (0, .lconst kG0, 0)) rfl) rfl rfl ?_
              refine w_load (pc' := 75) (v := .ref 170) (m := 1) (ykc_192 (e := (2, .aload_n kF0, 0)) rfl) rfl rfl ?_
              refine w_gf (pc' := 78) (v := .int (zn R)) (ykc_192 (e := (5, .getfield 24, 0)) rfl) rfl gR rfl ?_
              refine w_alu (pc' := 79) (st' := [.int (Int32.ofInt 1), .int (zn R), .long (Int64.ofNat kG0), .long za0.toInt64]) (ykc_192 (e := (0, .iconst 1, 0)) rfl) rfl rfl ?_
              obtain ⟨z1612, e_z1612, h_z1612⟩ : ∃ zq : Int32, (zn R) - (Int32.ofInt 1) = zq ∧ zq.toInt = ((R : Nat) : Int) - (1 : Int) := ⟨_, rfl, (by have := ti_sub (x := (zn R)) (y := (Int32.ofInt 1)) (by omega) (by omega); omega)⟩
              refine w_alu (pc' := 80) (st' := [.int z1612, .long (Int64.ofNat kG0), .long za0.toInt64]) (ykc_192 (e := (0, .isub, 0)) rfl) (by rw [← e_z1612]; rfl) rfl ?_
              refine w_alu (pc' := 81) (st' := [.long z1612.toInt64, .long (Int64.ofNat kG0), .long za0.toInt64]) (ykc_192 (e := (0, .i2l, 0)) rfl) rfl rfl ?_
              refine w_cs (as := [.long za0.toInt64, .long (Int64.ofNat kG0), .long z1612.toInt64]) (r := []) (ykc_192 (e := (6, .invokestatic 126, 0)) rfl) rfl rfl rfl rfl (zm_in (x := za0.toInt) (y := (0 : Int)) (z := ((R : Nat) : Int) - (1 : Int)) (by first | exact ztl | (rw [ztl]; omega) | decide | omega) (by first | exact ztl | (rw [ztl]; omega) | decide | omega) (by first | exact ztl | (rw [ztl]; omega) | decide | omega)) (fun v1613 ph1614 hv => ?_)
              obtain ⟨rfl, rfl⟩ := hv
              show zW n D 192 Q 84 [some (.ref 170), some (.int y), some (.int (zn w)), some (.int za0), some (.int za1)] [.int (zI (decide ((0 : Int) ≤ za0.toInt ∧ za0.toInt ≤ ((R : Nat) : Int) - (1 : Int))))] ph
              refine w_beq (ykc_192 (e := (4, .ifCond .eq 32, 116)) rfl) rfl (fun b1615 => ?_) (fun b1615 => ?_)
              · refine w_alu (pc' := 117) (st' := [.int (Int32.ofInt (-1))]) (ykc_192 (e := (0, .iconst (-1), 0)) rfl) rfl rfl ?_
                refine w_ret (v := (some (.int (Int32.ofInt (-1))))) (ykc_192 (e := (7, .ireturn, 0)) rfl) (zr_v rfl) ?_
                rw [hQ]
                exact ⟨rfl, _, rfl⟩
              · refine w_load (pc' := 89) (v := .int za1) (m := 2) (ykc_192 (e := (2, .iload 4, 0)) rfl) rfl rfl ?_
                refine w_alu (pc' := 90) (st' := [.long za1.toInt64]) (ykc_192 (e := (0, .i2l, 0)) rfl) rfl rfl ?_
                refine w_alu (pc' := 91) (st' := [.long (Int64.ofNat kG0), .long za1.toInt64]) (ykc_192 (e := (0, .lconst kG0, 0)) rfl) rfl rfl ?_
                refine w_load (pc' := 92) (v := .ref 170) (m := 1) (ykc_192 (e := (2, .aload_n kF0, 0)) rfl) rfl rfl ?_
                refine w_gf (pc' := 95) (v := .int (zn C)) (ykc_192 (e := (5, .getfield 27, 0)) rfl) rfl gC rfl ?_
                refine w_alu (pc' := 96) (st' := [.int (Int32.ofInt 1), .int (zn C), .long (Int64.ofNat kG0), .long za1.toInt64]) (ykc_192 (e := (0, .iconst 1, 0)) rfl) rfl rfl ?_
                obtain ⟨z1616, e_z1616, h_z1616⟩ : ∃ zq : Int32, (zn C) - (Int32.ofInt 1) = zq ∧ zq.toInt = ((C : Nat) : Int) - (1 : Int) := ⟨_, rfl, (by have := ti_sub (x := (zn C)) (y := (Int32.ofInt 1)) (by omega) (by omega); omega)⟩
                refine w_alu (pc' := 97) (st' := [.int z1616, .long (Int64.ofNat kG0), .long za1.toInt64]) (ykc_192 (e := (0, .isub, 0)) rfl) (by rw [← e_z1616]; rfl) rfl ?_
                refine w_alu (pc' := 98) (st' := [.long z1616.toInt64, .long (Int64.ofNat kG0), .long za1.toInt64]) (ykc_192 (e := (0, .i2l, 0)) rfl) rfl rfl ?_
                refine w_cs (as := [.long za1.toInt64, .long (Int64.ofNat kG0), .long z1616.toInt64]) (r := []) (ykc_192 (e := (6, .invokestatic 126, 0)) rfl) rfl rfl rfl rfl (zm_in (x := za1.toInt) (y := (0 : Int)) (z := ((C : Nat) : Int) - (1 : Int)) (by first | exact ztl | (rw [ztl]; omega) | decide | omega) (by first | exact ztl | (rw [ztl]; omega) | decide | omega) (by first | exact ztl | (rw [ztl]; omega) | decide | omega)) (fun v1617 ph1618 hv => ?_)
                obtain ⟨rfl, rfl⟩ := hv
                show zW n D 192 Q 101 [some (.ref 170), some (.int y), some (.int (zn w)), some (.int za0), some (.int za1)] [.int (zI (decide ((0 : Int) ≤ za1.toInt ∧ za1.toInt ≤ ((C : Nat) : Int) - (1 : Int))))] ph
                refine w_beq (ykc_192 (e := (4, .ifCond .eq 15, 116)) rfl) rfl (fun b1619 => ?_) (fun b1619 => ?_)
                · refine w_alu (pc' := 117) (st' := [.int (Int32.ofInt (-1))]) (ykc_192 (e := (0, .iconst (-1), 0)) rfl) rfl rfl ?_
                  refine w_ret (v := (some (.int (Int32.ofInt (-1))))) (ykc_192 (e := (7, .ireturn, 0)) rfl) (zr_v rfl) ?_
                  rw [hQ]
                  exact ⟨rfl, _, rfl⟩
                · refine w_load (pc' := 105) (v := .ref 170) (m := 1) (ykc_192 (e := (2, .aload_n kF0, 0)) rfl) rfl rfl ?_
                  refine w_gf (pc' := 108) (v := .int (zn C)) (ykc_192 (e := (5, .getfield 27, 0)) rfl) rfl gC rfl ?_
                  refine w_load (pc' := 109) (v := .int za0) (m := 1) (ykc_192 (e := (2, .iload_n kF3, 0)) rfl) rfl rfl ?_
                  refine w_alu (pc' := 110) (st' := [.int ((zn C) * za0)]) (ykc_192 (e := (0, .imul, 0)) rfl) rfl rfl ?_
                  refine w_load (pc' := 112) (v := .int za1) (m := 2) (ykc_192 (e := (2, .iload 4, 0)) rfl) rfl rfl ?_
                  refine w_alu (pc' := 113) (st' := [.int (((zn C) * za0) + za1)]) (ykc_192 (e := (0, .iadd, 0)) rfl) rfl rfl ?_
                  refine w_br (pc' := 117) (st' := [.int (((zn C) * za0) + za1)]) (ykc_192 (e := (4, .goto 4, 117)) rfl) rfl ?_
                  refine w_ret (v := (some (.int (((zn C) * za0) + za1)))) (ykc_192 (e := (7, .ireturn, 0)) rfl) (zr_v rfl) ?_
                  rw [hQ]
                  exact ⟨rfl, _, rfl⟩
            · refine w_alu (pc' := 64) (st' := [.int (Int32.ofInt (-1)), .int (y - y / (zn C) * (zn C))]) (ykc_192 (e := (0, .iconst (-1), 0)) rfl) rfl rfl ?_
              refine w_br (pc' := 68) (st' := [.int (Int32.ofInt (-1)), .int (y - y / (zn C) * (zn C))]) (ykc_192 (e := (4, .goto 4, 68)) rfl) rfl ?_
              refine w_alu (pc' := 69) (st' := [.int ((y - y / (zn C) * (zn C)) + (Int32.ofInt (-1)))]) (ykc_192 (e := (0, .iadd, 0)) rfl) rfl rfl ?_
              obtain ⟨za1, e_za1⟩ : ∃ zq : Int32, ((y - y / (zn C) * (zn C)) + (Int32.ofInt (-1))) = zq := ⟨_, rfl⟩
              rw [e_za1]
              refine w_store (pc' := 71) (L' := [some (.ref 170), some (.int y), some (.int (zn w)), some (.int za0), some (.int za1)]) (st' := []) (m := 2) (ykc_192 (e := (3, .istore 4, 0)) rfl) rfl rfl ?_
              refine w_load (pc' := 72) (v := .int za0) (m := 1) (ykc_192 (e := (2, .iload_n kF3, 0)) rfl) rfl rfl ?_
              refine w_alu (pc' := 73) (st' := [.long za0.toInt64]) (ykc_192 (e := (0, .i2l, 0)) rfl) rfl rfl ?_
              refine w_alu (pc' := 74) (st' := [.long (Int64.ofNat kG0), .long za0.toInt64]) (ykc_192 (e := (0, .lconst kG0, 0)) rfl) rfl rfl ?_
              refine w_load (pc' := 75) (v := .ref 170) (m := 1) (ykc_192 (e := (2, .aload_n kF0, 0)) rfl) rfl rfl ?_
              refine w_gf (pc' := 78) (v := .int (zn R)) (ykc_192 (e := (5, .getfield 24, 0)) rfl) rfl gR rfl ?_
              refine w_alu (pc' := 79) (st' := [.int (Int32.ofInt 1), .int (zn R), .long (Int64.ofNat kG0), .long za0.toInt64]) (ykc_192 (e := (0, .iconst 1, 0)) rfl) rfl rfl ?_
              obtain ⟨z1620, e_z1620, h_z1620⟩ : ∃ zq : Int32, (zn R) - (Int32.ofInt 1) = zq ∧ zq.toInt = ((R : Nat) : Int) - (1 : Int) := ⟨_, rfl, (by have := ti_sub (x := (zn R)) (y := (Int32.ofInt 1)) (by omega) (by omega); omega)⟩
              refine w_alu (pc' := 80) (st' := [.int z1620, .long (Int64.ofNat kG0), .long za0.toInt64]) (ykc_192 (e := (0, .isub, 0)) rfl) (by rw [← e_z1620]; rfl) rfl ?_
              refine w_alu (pc' := 81) (st' := [.long z1620.toInt64, .long (Int64.ofNat kG0), .long za0.toInt64]) (ykc_192 (e := (0, .i2l, 0)) rfl) rfl rfl ?_
              refine w_cs (as := [.long za0.toInt64, .long (Int64.ofNat kG0), .long z1620.toInt64]) (r := []) (ykc_192 (e := (6, .invokestatic 126, 0)) rfl) rfl rfl rfl rfl (zm_in (x := za0.toInt) (y := (0 : Int)) (z := ((R : Nat) : Int) - (1 : Int)) (by first | exact ztl | (rw [ztl]; omega) | decide | omega) (by first | exact ztl | (rw [ztl]; omega) | decide | omega) (by first | exact ztl | (rw [ztl]; omega) | decide | omega)) (fun v1621 ph1622 hv => ?_)
              obtain ⟨rfl, rfl⟩ := hv
              show zW n D 192 Q 84 [some (.ref 170), some (.int y), some (.int (zn w)), some (.int za0), some (.int za1)] [.int (zI (decide ((0 : Int) ≤ za0.toInt ∧ za0.toInt ≤ ((R : Nat) : Int) - (1 : Int))))] ph
              refine w_beq (ykc_192 (e := (4, .ifCond .eq 32, 116)) rfl) rfl (fun b1623 => ?_) (fun b1623 => ?_)
              · refine w_alu (pc' := 117) (st' := [.int (Int32.ofInt (-1))]) (ykc_192 (e := (0, .iconst (-1), 0)) rfl) rfl rfl ?_
                refine w_ret (v := (some (.int (Int32.ofInt (-1))))) (ykc_192 (e := (7, .ireturn, 0)) rfl) (zr_v rfl) ?_
                rw [hQ]
                exact ⟨rfl, _, rfl⟩
              · refine w_load (pc' := 89) (v := .int za1) (m := 2) (ykc_192 (e := (2, .iload 4, 0)) rfl) rfl rfl ?_
                refine w_alu (pc' := 90) (st' := [.long za1.toInt64]) (ykc_192 (e := (0, .i2l, 0)) rfl) rfl rfl ?_
                refine w_alu (pc' := 91) (st' := [.long (Int64.ofNat kG0), .long za1.toInt64]) (ykc_192 (e := (0, .lconst kG0, 0)) rfl) rfl rfl ?_
                refine w_load (pc' := 92) (v := .ref 170) (m := 1) (ykc_192 (e := (2, .aload_n kF0, 0)) rfl) rfl rfl ?_
                refine w_gf (pc' := 95) (v := .int (zn C)) (ykc_192 (e := (5, .getfield 27, 0)) rfl) rfl gC rfl ?_
                refine w_alu (pc' := 96) (st' := [.int (Int32.ofInt 1), .int (zn C), .long (Int64.ofNat kG0), .long za1.toInt64]) (ykc_192 (e := (0, .iconst 1, 0)) rfl) rfl rfl ?_
                obtain ⟨z1624, e_z1624, h_z1624⟩ : ∃ zq : Int32, (zn C) - (Int32.ofInt 1) = zq ∧ zq.toInt = ((C : Nat) : Int) - (1 : Int) := ⟨_, rfl, (by have := ti_sub (x := (zn C)) (y := (Int32.ofInt 1)) (by omega) (by omega); omega)⟩
                refine w_alu (pc' := 97) (st' := [.int z1624, .long (Int64.ofNat kG0), .long za1.toInt64]) (ykc_192 (e := (0, .isub, 0)) rfl) (by rw [← e_z1624]; rfl) rfl ?_
                refine w_alu (pc' := 98) (st' := [.long z1624.toInt64, .long (Int64.ofNat kG0), .long za1.toInt64]) (ykc_192 (e := (0, .i2l, 0)) rfl) rfl rfl ?_
                refine w_cs (as := [.long za1.toInt64, .long (Int64.ofNat kG0), .long z1624.toInt64]) (r := []) (ykc_192 (e := (6, .invokestatic 126, 0)) rfl) rfl rfl rfl rfl (zm_in (x := za1.toInt) (y := (0 : Int)) (z := ((C : Nat) : Int) - (1 : Int)) (by first | exact ztl | (rw [ztl]; omega) | decide | omega) (by first | exact ztl | (rw [ztl]; omega) | decide | omega) (by first | exact ztl | (rw [ztl]; omega) | decide | omega)) (fun v1625 ph1626 hv => ?_)
                obtain ⟨rfl, rfl⟩ := hv
                show zW n D 192 Q 101 [some (.ref 170), some (.int y), some (.int (zn w)), some (.int za0), some (.int za1)] [.int (zI (decide ((0 : Int) ≤ za1.toInt ∧ za1.toInt ≤ ((C : Nat) : Int) - (1 : Int))))] ph
                refine w_beq (ykc_192 (e := (4, .ifCond .eq 15, 116)) rfl) rfl (fun b1627 => ?_) (fun b1627 => ?_)
                · refine w_alu (pc' := 117) (st' := [.int (Int32.ofInt (-1))]) (ykc_192 (e := (0, .iconst (-1), 0)) rfl) rfl rfl ?_
                  refine w_ret (v := (some (.int (Int32.ofInt (-1))))) (ykc_192 (e := (7, .ireturn, 0)) rfl) (zr_v rfl) ?_
                  rw [hQ]
                  exact ⟨rfl, _, rfl⟩
                · refine w_load (pc' := 105) (v := .ref 170) (m := 1) (ykc_192 (e := (2, .aload_n kF0, 0)) rfl) rfl rfl ?_
                  refine w_gf (pc' := 108) (v := .int (zn C)) (ykc_192 (e := (5, .getfield 27, 0)) rfl) rfl gC rfl ?_
                  refine w_load (pc' := 109) (v := .int za0) (m := 1) (ykc_192 (e := (2, .iload_n kF3, 0)) rfl) rfl rfl ?_
                  refine w_alu (pc' := 110) (st' := [.int ((zn C) * za0)]) (ykc_192 (e := (0, .imul, 0)) rfl) rfl rfl ?_
                  refine w_load (pc' := 112) (v := .int za1) (m := 2) (ykc_192 (e := (2, .iload 4, 0)) rfl) rfl rfl ?_
                  refine w_alu (pc' := 113) (st' := [.int (((zn C) * za0) + za1)]) (ykc_192 (e := (0, .iadd, 0)) rfl) rfl rfl ?_
                  refine w_br (pc' := 117) (st' := [.int (((zn C) * za0) + za1)]) (ykc_192 (e := (4, .goto 4, 117)) rfl) rfl ?_
                  refine w_ret (v := (some (.int (((zn C) * za0) + za1)))) (ykc_192 (e := (7, .ireturn, 0)) rfl) (zr_v rfl) ?_
                  rw [hQ]
                  exact ⟨rfl, _, rfl⟩
          · refine w_load (pc' := 50) (v := .int (zn w)) (m := 1) (ykc_192 (e := (2, .iload_n kF2, 0)) rfl) rfl rfl ?_
            refine w_alu (pc' := 51) (st' := [.int (Int32.ofInt 4), .int (zn w), .int (y - y / (zn C) * (zn C))]) (ykc_192 (e := (0, .iconst 4, 0)) rfl) rfl rfl ?_
            refine w_ige (ykc_192 (e := (4, .if_icmp .ge 7, 58)) rfl) rfl (fun b1628 => ?_) (fun b1628 => ?_)
            · refine w_load (pc' := 59) (v := .int (zn w)) (m := 1) (ykc_192 (e := (2, .iload_n kF2, 0)) rfl) rfl rfl ?_
              refine w_alu (pc' := 60) (st' := [.int (Int32.ofInt 4), .int (zn w), .int (y - y / (zn C) * (zn C))]) (ykc_192 (e := (0, .iconst 4, 0)) rfl) rfl rfl ?_
              refine w_ile (ykc_192 (e := (4, .if_icmp .le 7, 67)) rfl) rfl (fun b1629 => ?_) (fun b1629 => ?_)
              · refine w_alu (pc' := 68) (st' := [.int (Int32.ofInt 0), .int (y - y / (zn C) * (zn C))]) (ykc_192 (e := (0, .iconst 0, 0)) rfl) rfl rfl ?_
                refine w_alu (pc' := 69) (st' := [.int ((y - y / (zn C) * (zn C)) + (Int32.ofInt 0))]) (ykc_192 (e := (0, .iadd, 0)) rfl) rfl rfl ?_
                obtain ⟨za1, e_za1⟩ : ∃ zq : Int32, ((y - y / (zn C) * (zn C)) + (Int32.ofInt 0)) = zq := ⟨_, rfl⟩
                rw [e_za1]
                refine w_store (pc' := 71) (L' := [some (.ref 170), some (.int y), some (.int (zn w)), some (.int za0), some (.int za1)]) (st' := []) (m := 2) (ykc_192 (e := (3, .istore 4, 0)) rfl) rfl rfl ?_
                refine w_load (pc' := 72) (v := .int za0) (m := 1) (ykc_192 (e := (2, .iload_n kF3, 0)) rfl) rfl rfl ?_
                refine w_alu (pc' := 73) (st' := [.long za0.toInt64]) (ykc_192 (e := (0, .i2l, 0)) rfl) rfl rfl ?_
                refine w_alu (pc' := 74) (st' := [.long (Int64.ofNat kG0), .long za0.toInt64]) (ykc_192 (e := (0, .lconst kG0, 0)) rfl) rfl rfl ?_
                refine w_load (pc' := 75) (v := .ref 170) (m := 1) (ykc_192 (e := (2, .aload_n kF0, 0)) rfl) rfl rfl ?_
                refine w_gf (pc' := 78) (v := .int (zn R)) (ykc_192 (e := (5, .getfield 24, 0)) rfl) rfl gR rfl ?_
                refine w_alu (pc' := 79) (st' := [.int (Int32.ofInt 1), .int (zn R), .long (Int64.ofNat kG0), .long za0.toInt64]) (ykc_192 (e := (0, .iconst 1, 0)) rfl) rfl rfl ?_
                obtain ⟨z1630, e_z1630, h_z1630⟩ : ∃ zq : Int32, (zn R) - (Int32.ofInt 1) = zq ∧ zq.toInt = ((R : Nat) : Int) - (1 : Int) := ⟨_, rfl, (by have := ti_sub (x := (zn R)) (y := (Int32.ofInt 1)) (by omega) (by omega); omega)⟩
                refine w_alu (pc' := 80) (st' := [.int z1630, .long (Int64.ofNat kG0), .long za0.toInt64]) (ykc_192 (e := (0, .isub, 0)) rfl) (by rw [← e_z1630]; rfl) rfl ?_
                refine w_alu (pc' := 81) (st' := [.long z1630.toInt64, .long (Int64.ofNat kG0), .long za0.toInt64]) (ykc_192 (e := (0, .i2l, 0)) rfl) rfl rfl ?_
                refine w_cs (as := [.long za0.toInt64, .long (Int64.ofNat kG0), .long z1630.toInt64]) (r := []) (ykc_192 (e := (6, .invokestatic 126, 0)) rfl) rfl rfl rfl rfl (zm_in (x := za0.toInt) (y := (0 : Int)) (z := ((R : Nat) : Int) - (1 : Int)) (by first | exact ztl | (rw [ztl]; omega) | decide | omega) (by first | exact ztl | (rw [ztl]; omega) | decide | omega) (by first | exact ztl | (rw [ztl]; omega) | decide | omega)) (fun v1631 ph1632 hv => ?_)
                obtain ⟨rfl, rfl⟩ := hv
                show zW n D 192 Q 84 [some (.ref 170), some (.int y), some (.int (zn w)), some (.int za0), some (.int za1)] [.int (zI (decide ((0 : Int) ≤ za0.toInt ∧ za0.toInt ≤ ((R : Nat) : Int) - (1 : Int))))] ph
                refine w_beq (ykc_192 (e := (4, .ifCond .eq 32, 116)) rfl) rfl (fun b1633 => ?_) (fun b1633 => ?_)
                · refine w_alu (pc' := 117) (st' := [.int (Int32.ofInt (-1))]) (ykc_192 (e := (0, .iconst (-1), 0)) rfl) rfl rfl ?_
                  refine w_ret (v := (some (.int (Int32.ofInt (-1))))) (ykc_192 (e := (7, .ireturn, 0)) rfl) (zr_v rfl) ?_
                  rw [hQ]
                  exact ⟨rfl, _, rfl⟩
                · refine w_load (pc' := 89) (v := .int za1) (m := 2) (ykc_192 (e := (2, .iload 4, 0)) rfl) rfl rfl ?_
                  refine w_alu (pc' := 90) (st' := [.long za1.toInt64]) (ykc_192 (e := (0, .i2l, 0)) rfl) rfl rfl ?_
                  refine w_alu (pc' := 91) (st' := [.long (Int64.ofNat kG0), .long za1.toInt64]) (ykc_192 (e := (0, .lconst kG0, 0)) rfl) rfl rfl ?_
                  refine w_load (pc' := 92) (v := .ref 170) (m := 1) (ykc_192 (e := (2, .aload_n kF0, 0)) rfl) rfl rfl ?_
                  refine w_gf (pc' := 95) (v := .int (zn C)) (ykc_192 (e := (5, .getfield 27, 0)) rfl) rfl gC rfl ?_
                  refine w_alu (pc' := 96) (st' := [.int (Int32.ofInt 1), .int (zn C), .long (Int64.ofNat kG0), .long za1.toInt64]) (ykc_192 (e := (0, .iconst 1, 0)) rfl) rfl rfl ?_
                  obtain ⟨z1634, e_z1634, h_z1634⟩ : ∃ zq : Int32, (zn C) - (Int32.ofInt 1) = zq ∧ zq.toInt = ((C : Nat) : Int) - (1 : Int) := ⟨_, rfl, (by have := ti_sub (x := (zn C)) (y := (Int32.ofInt 1)) (by omega) (by omega); omega)⟩
                  refine w_alu (pc' := 97) (st' := [.int z1634, .long (Int64.ofNat kG0), .long za1.toInt64]) (ykc_192 (e := (0, .isub, 0)) rfl) (by rw [← e_z1634]; rfl) rfl ?_
                  refine w_alu (pc' := 98) (st' := [.long z1634.toInt64, .long (Int64.ofNat kG0), .long za1.toInt64]) (ykc_192 (e := (0, .i2l, 0)) rfl) rfl rfl ?_
                  refine w_cs (as := [.long za1.toInt64, .long (Int64.ofNat kG0), .long z1634.toInt64]) (r := []) (ykc_192 (e := (6, .invokestatic 126, 0)) rfl) rfl rfl rfl rfl (zm_in (x := za1.toInt) (y := (0 : Int)) (z := ((C : Nat) : Int) - (1 : Int)) (by first | exact ztl | (rw [ztl]; omega) | decide | omega) (by first | exact ztl | (rw [ztl]; omega) | decide | omega) (by first | exact ztl | (rw [ztl]; omega) | decide | omega)) (fun v1635 ph1636 hv => ?_)
                  obtain ⟨rfl, rfl⟩ := hv
                  show zW n D 192 Q 101 [some (.ref 170), some (.int y), some (.int (zn w)), some (.int za0), some (.int za1)] [.int (zI (decide ((0 : Int) ≤ za1.toInt ∧ za1.toInt ≤ ((C : Nat) : Int) - (1 : Int))))] ph
                  refine w_beq (ykc_192 (e := (4, .ifCond .eq 15, 116)) rfl) rfl (fun b1637 => ?_) (fun b1637 => ?_)
                  · refine w_alu (pc' := 117) (st' := [.int (Int32.ofInt (-1))]) (ykc_192 (e := (0, .iconst (-1), 0)) rfl) rfl rfl ?_
                    refine w_ret (v := (some (.int (Int32.ofInt (-1))))) (ykc_192 (e := (7, .ireturn, 0)) rfl) (zr_v rfl) ?_
                    rw [hQ]
                    exact ⟨rfl, _, rfl⟩
                  · refine w_load (pc' := 105) (v := .ref 170) (m := 1) (ykc_192 (e := (2, .aload_n kF0, 0)) rfl) rfl rfl ?_
                    refine w_gf (pc' := 108) (v := .int (zn C)) (ykc_192 (e := (5, .getfield 27, 0)) rfl) rfl gC rfl ?_
                    refine w_load (pc' := 109) (v := .int za0) (m := 1) (ykc_192 (e := (2, .iload_n kF3, 0)) rfl) rfl rfl ?_
                    refine w_alu (pc' := 110) (st' := [.int ((zn C) * za0)]) (ykc_192 (e := (0, .imul, 0)) rfl) rfl rfl ?_
                    refine w_load (pc' := 112) (v := .int za1) (m := 2) (ykc_192 (e := (2, .iload 4, 0)) rfl) rfl rfl ?_
                    refine w_alu (pc' := 113) (st' := [.int (((zn C) * za0) + za1)]) (ykc_192 (e := (0, .iadd, 0)) rfl) rfl rfl ?_
                    refine w_br (pc' := 117) (st' := [.int (((zn C) * za0) + za1)]) (ykc_192 (e := (4, .goto 4, 117)) rfl) rfl ?_
                    refine w_ret (v := (some (.int (((zn C) * za0) + za1)))) (ykc_192 (e := (7, .ireturn, 0)) rfl) (zr_v rfl) ?_
                    rw [hQ]
                    exact ⟨rfl, _, rfl⟩
              · refine w_alu (pc' := 64) (st' := [.int (Int32.ofInt (-1)), .int (y - y / (zn C) * (zn C))]) (ykc_192 (e := (0, .iconst (-1), 0)) rfl) rfl rfl ?_
                refine w_br (pc' := 68) (st' := [.int (Int32.ofInt (-1)), .int (y - y / (zn C) * (zn C))]) (ykc_192 (e := (4, .goto 4, 68)) rfl) rfl ?_
                refine w_alu (pc' := 69) (st' := [.int ((y - y / (zn C) * (zn C)) + (Int32.ofInt (-1)))]) (ykc_192 (e := (0, .iadd, 0)) rfl) rfl rfl ?_
                obtain ⟨za1, e_za1⟩ : ∃ zq : Int32, ((y - y / (zn C) * (zn C)) + (Int32.ofInt (-1))) = zq := ⟨_, rfl⟩
                rw [e_za1]
                refine w_store (pc' := 71) (L' := [some (.ref 170), some (.int y), some (.int (zn w)), some (.int za0), some (.int za1)]) (st' := []) (m := 2) (ykc_192 (e := (3, .istore 4, 0)) rfl) rfl rfl ?_
                refine w_load (pc' := 72) (v := .int za0) (m := 1) (ykc_192 (e := (2, .iload_n kF3, 0)) rfl) rfl rfl ?_
                refine w_alu (pc' := 73) (st' := [.long za0.toInt64]) (ykc_192 (e := (0, .i2l, 0)) rfl) rfl rfl ?_
                refine w_alu (pc' := 74) (st' := [.long (Int64.ofNat kG0), .long za0.toInt64]) (ykc_192 (e := (0, .lconst kG0, 0)) rfl) rfl rfl ?_
                refine w_load (pc' := 75) (v := .ref 170) (m := 1) (ykc_192 (e := (2, .aload_n kF0, 0)) rfl) rfl rfl ?_
                refine w_gf (pc' := 78) (v := .int (zn R)) (ykc_192 (e := (5, .getfield 24, 0)) rfl) rfl gR rfl ?_
                refine w_alu (pc' := 79) (st' := [.int (Int32.ofInt 1), .int (zn R), .long (Int64.ofNat kG0), .long za0.toInt64]) (ykc_192 (e := (0, .iconst 1, 0)) rfl) rfl rfl ?_
                obtain ⟨z1638, e_z1638, h_z1638⟩ : ∃ zq : Int32, (zn R) - (Int32.ofInt 1) = zq ∧ zq.toInt = ((R : Nat) : Int) - (1 : Int) := ⟨_, rfl, (by have := ti_sub (x := (zn R)) (y := (Int32.ofInt 1)) (by omega) (by omega); omega)⟩
                refine w_alu (pc' := 80) (st' := [.int z1638, .long (Int64.ofNat kG0), .long za0.toInt64]) (ykc_192 (e := (0, .isub, 0)) rfl) (by rw [← e_z1638]; rfl) rfl ?_
                refine w_alu (pc' := 81) (st' := [.long z1638.toInt64, .long (Int64.ofNat kG0), .long za0.toInt64]) (ykc_192 (e := (0, .i2l, 0)) rfl) rfl rfl ?_
                refine w_cs (as := [.long za0.toInt64, .long (Int64.ofNat kG0), .long z1638.toInt64]) (r := []) (ykc_192 (e := (6, .invokestatic 126, 0)) rfl) rfl rfl rfl rfl (zm_in (x := za0.toInt) (y := (0 : Int)) (z := ((R : Nat) : Int) - (1 : Int)) (by first | exact ztl | (rw [ztl]; omega) | decide | omega) (by first | exact ztl | (rw [ztl]; omega) | decide | omega) (by first | exact ztl | (rw [ztl]; omega) | decide | omega)) (fun v1639 ph1640 hv => ?_)
                obtain ⟨rfl, rfl⟩ := hv
                show zW n D 192 Q 84 [some (.ref 170), some (.int y), some (.int (zn w)), some (.int za0), some (.int za1)] [.int (zI (decide ((0 : Int) ≤ za0.toInt ∧ za0.toInt ≤ ((R : Nat) : Int) - (1 : Int))))] ph
                refine w_beq (ykc_192 (e := (4, .ifCond .eq 32, 116)) rfl) rfl (fun b1641 => ?_) (fun b1641 => ?_)
                · refine w_alu (pc' := 117) (st' := [.int (Int32.ofInt (-1))]) (ykc_192 (e := (0, .iconst (-1), 0)) rfl) rfl rfl ?_
                  refine w_ret (v := (some (.int (Int32.ofInt (-1))))) (ykc_192 (e := (7, .ireturn, 0)) rfl) (zr_v rfl) ?_
                  rw [hQ]
                  exact ⟨rfl, _, rfl⟩
                · refine w_load (pc' := 89) (v := .int za1) (m := 2) (ykc_192 (e := (2, .iload 4, 0)) rfl) rfl rfl ?_
                  refine w_alu (pc' := 90) (st' := [.long za1.toInt64]) (ykc_192 (e := (0, .i2l, 0)) rfl) rfl rfl ?_
                  refine w_alu (pc' := 91) (st' := [.long (Int64.ofNat kG0), .long za1.toInt64]) (ykc_192 (e := (0, .lconst kG0, 0)) rfl) rfl rfl ?_
                  refine w_load (pc' := 92) (v := .ref 170) (m := 1) (ykc_192 (e := (2, .aload_n kF0, 0)) rfl) rfl rfl ?_
                  refine w_gf (pc' := 95) (v := .int (zn C)) (ykc_192 (e := (5, .getfield 27, 0)) rfl) rfl gC rfl ?_
                  refine w_alu (pc' := 96) (st' := [.int (Int32.ofInt 1), .int (zn C), .long (Int64.ofNat kG0), .long za1.toInt64]) (ykc_192 (e := (0, .iconst 1, 0)) rfl) rfl rfl ?_
                  obtain ⟨z1642, e_z1642, h_z1642⟩ : ∃ zq : Int32, (zn C) - (Int32.ofInt 1) = zq ∧ zq.toInt = ((C : Nat) : Int) - (1 : Int) := ⟨_, rfl, (by have := ti_sub (x := (zn C)) (y := (Int32.ofInt 1)) (by omega) (by omega); omega)⟩
                  refine w_alu (pc' := 97) (st' := [.int z1642, .long (Int64.ofNat kG0), .long za1.toInt64]) (ykc_192 (e := (0, .isub, 0)) rfl) (by rw [← e_z1642]; rfl) rfl ?_
                  refine w_alu (pc' := 98) (st' := [.long z1642.toInt64, .long (Int64.ofNat kG0), .long za1.toInt64]) (ykc_192 (e := (0, .i2l, 0)) rfl) rfl rfl ?_
                  refine w_cs (as := [.long za1.toInt64, .long (Int64.ofNat kG0), .long z1642.toInt64]) (r := []) (ykc_192 (e := (6, .invokestatic 126, 0)) rfl) rfl rfl rfl rfl (zm_in (x := za1.toInt) (y := (0 : Int)) (z := ((C : Nat) : Int) - (1 : Int)) (by first | exact ztl | (rw [ztl]; omega) | decide | omega) (by first | exact ztl | (rw [ztl]; omega) | decide | omega) (by first | exact ztl | (rw [ztl]; omega) | decide | omega)) (fun v1643 ph1644 hv => ?_)
                  obtain ⟨rfl, rfl⟩ := hv
                  show zW n D 192 Q 101 [some (.ref 170), some (.int y), some (.int (zn w)), some (.int za0), some (.int za1)] [.int (zI (decide ((0 : Int) ≤ za1.toInt ∧ za1.toInt ≤ ((C : Nat) : Int) - (1 : Int))))] ph
                  refine w_beq (ykc_192 (e := (4, .ifCond .eq 15, 116)) rfl) rfl (fun b1645 => ?_) (fun b1645 => ?_)
                  · refine w_alu (pc' := 117) (st' := [.int (Int32.ofInt (-1))]) (ykc_192 (e := (0, .iconst (-1), 0)) rfl) rfl rfl ?_
                    refine w_ret (v := (some (.int (Int32.ofInt (-1))))) (ykc_192 (e := (7, .ireturn, 0)) rfl) (zr_v rfl) ?_
                    rw [hQ]
                    exact ⟨rfl, _, rfl⟩
                  · refine w_load (pc' := 105) (v := .ref 170) (m := 1) (ykc_192 (e := (2, .aload_n kF0, 0)) rfl) rfl rfl ?_
                    refine w_gf (pc' := 108) (v := .int (zn C)) (ykc_192 (e := (5, .getfield 27, 0)) rfl) rfl gC rfl ?_
                    refine w_load (pc' := 109) (v := .int za0) (m := 1) (ykc_192 (e := (2, .iload_n kF3, 0)) rfl) rfl rfl ?_
                    refine w_alu (pc' := 110) (st' := [.int ((zn C) * za0)]) (ykc_192 (e := (0, .imul, 0)) rfl) rfl rfl ?_
                    refine w_load (pc' := 112) (v := .int za1) (m := 2) (ykc_192 (e := (2, .iload 4, 0)) rfl) rfl rfl ?_
                    refine w_alu (pc' := 113) (st' := [.int (((zn C) * za0) + za1)]) (ykc_192 (e := (0, .iadd, 0)) rfl) rfl rfl ?_
                    refine w_br (pc' := 117) (st' := [.int (((zn C) * za0) + za1)]) (ykc_192 (e := (4, .goto 4, 117)) rfl) rfl ?_
                    refine w_ret (v := (some (.int (((zn C) * za0) + za1)))) (ykc_192 (e := (7, .ireturn, 0)) rfl) (zr_v rfl) ?_
                    rw [hQ]
                    exact ⟨rfl, _, rfl⟩
            · refine w_alu (pc' := 55) (st' := [.int (Int32.ofInt 1), .int (y - y / (zn C) * (zn C))]) (ykc_192 (e := (0, .iconst 1, 0)) rfl) rfl rfl ?_
              refine w_br (pc' := 68) (st' := [.int (Int32.ofInt 1), .int (y - y / (zn C) * (zn C))]) (ykc_192 (e := (4, .goto 13, 68)) rfl) rfl ?_
              refine w_alu (pc' := 69) (st' := [.int ((y - y / (zn C) * (zn C)) + (Int32.ofInt 1))]) (ykc_192 (e := (0, .iadd, 0)) rfl) rfl rfl ?_
              obtain ⟨za1, e_za1⟩ : ∃ zq : Int32, ((y - y / (zn C) * (zn C)) + (Int32.ofInt 1)) = zq := ⟨_, rfl⟩
              rw [e_za1]
              refine w_store (pc' := 71) (L' := [some (.ref 170), some (.int y), some (.int (zn w)), some (.int za0), some (.int za1)]) (st' := []) (m := 2) (ykc_192 (e := (3, .istore 4, 0)) rfl) rfl rfl ?_
              refine w_load (pc' := 72) (v := .int za0) (m := 1) (ykc_192 (e := (2, .iload_n kF3, 0)) rfl) rfl rfl ?_
              refine w_alu (pc' := 73) (st' := [.long za0.toInt64]) (ykc_192 (e := (0, .i2l, 0)) rfl) rfl rfl ?_
              refine w_alu (pc' := 74) (st' := [.long (Int64.ofNat kG0), .long za0.toInt64]) (ykc_192 (e := (0, .lconst kG0, 0)) rfl) rfl rfl ?_
              refine w_load (pc' := 75) (v := .ref 170) (m := 1) (ykc_192 (e := (2, .aload_n kF0, 0)) rfl) rfl rfl ?_
              refine w_gf (pc' := 78) (v := .int (zn R)) (ykc_192 (e := (5, .getfield 24, 0)) rfl) rfl gR rfl ?_
              refine w_alu (pc' := 79) (st' := [.int (Int32.ofInt 1), .int (zn R), .long (Int64.ofNat kG0), .long za0.toInt64]) (ykc_192 (e := (0, .iconst 1, 0)) rfl) rfl rfl ?_
              obtain ⟨z1646, e_z1646, h_z1646⟩ : ∃ zq : Int32, (zn R) - (Int32.ofInt 1) = zq ∧ zq.toInt = ((R : Nat) : Int) - (1 : Int) := ⟨_, rfl, (by have := ti_sub (x := (zn R)) (y := (Int32.ofInt 1)) (by omega) (by omega); omega)⟩
              refine w_alu (pc' := 80) (st' := [.int z1646, .long (Int64.ofNat kG0), .long za0.toInt64]) (ykc_192 (e := (0, .isub, 0)) rfl) (by rw [← e_z1646]; rfl) rfl ?_
              refine w_alu (pc' := 81) (st' := [.long z1646.toInt64, .long (Int64.ofNat kG0), .long za0.toInt64]) (ykc_192 (e := (0, .i2l, 0)) rfl) rfl rfl ?_
              refine w_cs (as := [.long za0.toInt64, .long (Int64.ofNat kG0), .long z1646.toInt64]) (r := []) (ykc_192 (e := (6, .invokestatic 126, 0)) rfl) rfl rfl rfl rfl (zm_in (x := za0.toInt) (y := (0 : Int)) (z := ((R : Nat) : Int) - (1 : Int)) (by first | exact ztl | (rw [ztl]; omega) | decide | omega) (by first | exact ztl | (rw [ztl]; omega) | decide | omega) (by first | exact ztl | (rw [ztl]; omega) | decide | omega)) (fun v1647 ph1648 hv => ?_)
              obtain ⟨rfl, rfl⟩ := hv
              show zW n D 192 Q 84 [some (.ref 170), some (.int y), some (.int (zn w)), some (.int za0), some (.int za1)] [.int (zI (decide ((0 : Int) ≤ za0.toInt ∧ za0.toInt ≤ ((R : Nat) : Int) - (1 : Int))))] ph
              refine w_beq (ykc_192 (e := (4, .ifCond .eq 32, 116)) rfl) rfl (fun b1649 => ?_) (fun b1649 => ?_)
              · refine w_alu (pc' := 117) (st' := [.int (Int32.ofInt (-1))]) (ykc_192 (e := (0, .iconst (-1), 0)) rfl) rfl rfl ?_
                refine w_ret (v := (some (.int (Int32.ofInt (-1))))) (ykc_192 (e := (7, .ireturn, 0)) rfl) (zr_v rfl) ?_
                rw [hQ]
                exact ⟨rfl, _, rfl⟩
              · refine w_load (pc' := 89) (v := .int za1) (m := 2) (ykc_192 (e := (2, .iload 4, 0)) rfl) rfl rfl ?_
                refine w_alu (pc' := 90) (st' := [.long za1.toInt64]) (ykc_192 (e := (0, .i2l, 0)) rfl) rfl rfl ?_
                refine w_alu (pc' := 91) (st' := [.long (Int64.ofNat kG0), .long za1.toInt64]) (ykc_192 (e := (0, .lconst kG0, 0)) rfl) rfl rfl ?_
                refine w_load (pc' := 92) (v := .ref 170) (m := 1) (ykc_192 (e := (2, .aload_n kF0, 0)) rfl) rfl rfl ?_
                refine w_gf (pc' := 95) (v := .int (zn C)) (ykc_192 (e := (5, .getfield 27, 0)) rfl) rfl gC rfl ?_
                refine w_alu (pc' := 96) (st' := [.int (Int32.ofInt 1), .int (zn C), .long (Int64.ofNat kG0), .long za1.toInt64]) (ykc_192 (e := (0, .iconst 1, 0)) rfl) rfl rfl ?_
                obtain ⟨z1650, e_z1650, h_z1650⟩ : ∃ zq : Int32, (zn C) - (Int32.ofInt 1) = zq ∧ zq.toInt = ((C : Nat) : Int) - (1 : Int) := ⟨_, rfl, (by have := ti_sub (x := (zn C)) (y := (Int32.ofInt 1)) (by omega) (by omega); omega)⟩
                refine w_alu (pc' := 97) (st' := [.int z1650, .long (Int64.ofNat kG0), .long za1.toInt64]) (ykc_192 (e := (0, .isub, 0)) rfl) (by rw [← e_z1650]; rfl) rfl ?_
                refine w_alu (pc' := 98) (st' := [.long z1650.toInt64, .long (Int64.ofNat kG0), .long za1.toInt64]) (ykc_192 (e := (0, .i2l, 0)) rfl) rfl rfl ?_
                refine w_cs (as := [.long za1.toInt64, .long (Int64.ofNat kG0), .long z1650.toInt64]) (r := []) (ykc_192 (e := (6, .invokestatic 126, 0)) rfl) rfl rfl rfl rfl (zm_in (x := za1.toInt) (y := (0 : Int)) (z := ((C : Nat) : Int) - (1 : Int)) (by first | exact ztl | (rw [ztl]; omega) | decide | omega) (by first | exact ztl | (rw [ztl]; omega) | decide | omega) (by first | exact ztl | (rw [ztl]; omega) | decide | omega)) (fun v1651 ph1652 hv => ?_)
                obtain ⟨rfl, rfl⟩ := hv
                show zW n D 192 Q 101 [some (.ref 170), some (.int y), some (.int (zn w)), some (.int za0), some (.int za1)] [.int (zI (decide ((0 : Int) ≤ za1.toInt ∧ za1.toInt ≤ ((C : Nat) : Int) - (1 : Int))))] ph
                refine w_beq (ykc_192 (e := (4, .ifCond .eq 15, 116)) rfl) rfl (fun b1653 => ?_) (fun b1653 => ?_)
                · refine w_alu (pc' := 117) (st' := [.int (Int32.ofInt (-1))]) (ykc_192 (e := (0, .iconst (-1), 0)) rfl) rfl rfl ?_
                  refine w_ret (v := (some (.int (Int32.ofInt (-1))))) (ykc_192 (e := (7, .ireturn, 0)) rfl) (zr_v rfl) ?_
                  rw [hQ]
                  exact ⟨rfl, _, rfl⟩
                · refine w_load (pc' := 105) (v := .ref 170) (m := 1) (ykc_192 (e := (2, .aload_n kF0, 0)) rfl) rfl rfl ?_
                  refine w_gf (pc' := 108) (v := .int (zn C)) (ykc_192 (e := (5, .getfield 27, 0)) rfl) rfl gC rfl ?_
                  refine w_load (pc' := 109) (v := .int za0) (m := 1) (ykc_192 (e := (2, .iload_n kF3, 0)) rfl) rfl rfl ?_
                  refine w_alu (pc' := 110) (st' := [.int ((zn C) * za0)]) (ykc_192 (e := (0, .imul, 0)) rfl) rfl rfl ?_
                  refine w_load (pc' := 112) (v := .int za1) (m := 2) (ykc_192 (e := (2, .iload 4, 0)) rfl) rfl rfl ?_
                  refine w_alu (pc' := 113) (st' := [.int (((zn C) * za0) + za1)]) (ykc_192 (e := (0, .iadd, 0)) rfl) rfl rfl ?_
                  refine w_br (pc' := 117) (st' := [.int (((zn C) * za0) + za1)]) (ykc_192 (e := (4, .goto 4, 117)) rfl) rfl ?_
                  refine w_ret (v := (some (.int (((zn C) * za0) + za1)))) (ykc_192 (e := (7, .ireturn, 0)) rfl) (zr_v rfl) ?_
                  rw [hQ]
                  exact ⟨rfl, _, rfl⟩
    · refine w_alu (pc' := 18) (st' := [.int (Int32.ofInt (-1)), .int (y / (zn C))]) (ykc_192 (e := (0, .iconst (-1), 0)) rfl) rfl rfl ?_
      refine w_br (pc' := 37) (st' := [.int (Int32.ofInt (-1)), .int (y / (zn C))]) (ykc_192 (e := (4, .goto 19, 37)) rfl) rfl ?_
      refine w_alu (pc' := 38) (st' := [.int ((y / (zn C)) + (Int32.ofInt (-1)))]) (ykc_192 (e := (0, .iadd, 0)) rfl) rfl rfl ?_
      obtain ⟨za0, e_za0⟩ : ∃ zq : Int32, ((y / (zn C)) + (Int32.ofInt (-1))) = zq := ⟨_, rfl⟩
      rw [e_za0]
      refine w_store (pc' := 39) (L' := [some (.ref 170), some (.int y), some (.int (zn w)), some (.int za0), none]) (st' := []) (m := 1) (ykc_192 (e := (3, .istore_n kF3, 0)) rfl) rfl rfl ?_
      refine w_load (pc' := 40) (v := .int y) (m := 1) (ykc_192 (e := (2, .iload_n kF1, 0)) rfl) rfl rfl ?_
      refine w_load (pc' := 41) (v := .ref 170) (m := 1) (ykc_192 (e := (2, .aload_n kF0, 0)) rfl) rfl rfl ?_
      refine w_gf (pc' := 44) (v := .int (zn C)) (ykc_192 (e := (5, .getfield 27, 0)) rfl) rfl gC rfl ?_
      refine w_irem (pc' := 45) (ykc_192 (e := (0, .irem, 0)) rfl) rfl (fun d1654 => ?_)
      show zW n D 192 Q 45 [some (.ref 170), some (.int y), some (.int (zn w)), some (.int za0), none] [.int (y - y / (zn C) * (zn C))] ph
      refine w_load (pc' := 46) (v := .int (zn w)) (m := 1) (ykc_192 (e := (2, .iload_n kF2, 0)) rfl) rfl rfl ?_
      refine w_zle (ykc_192 (e := (4, .ifCond .le 12, 58)) rfl) rfl (fun b1655 => ?_) (fun b1655 => ?_)
      · refine w_load (pc' := 59) (v := .int (zn w)) (m := 1) (ykc_192 (e := (2, .iload_n kF2, 0)) rfl) rfl rfl ?_
        refine w_alu (pc' := 60) (st' := [.int (Int32.ofInt 4), .int (zn w), .int (y - y / (zn C) * (zn C))]) (ykc_192 (e := (0, .iconst 4, 0)) rfl) rfl rfl ?_
        refine w_ile (ykc_192 (e := (4, .if_icmp .le 7, 67)) rfl) rfl (fun b1656 => ?_) (fun b1656 => ?_)
        · refine w_alu (pc' := 68) (st' := [.int (Int32.ofInt 0), .int (y - y / (zn C) * (zn C))]) (ykc_192 (e := (0, .iconst 0, 0)) rfl) rfl rfl ?_
          refine w_alu (pc' := 69) (st' := [.int ((y - y / (zn C) * (zn C)) + (Int32.ofInt 0))]) (ykc_192 (e := (0, .iadd, 0)) rfl) rfl rfl ?_
          obtain ⟨za1, e_za1⟩ : ∃ zq : Int32, ((y - y / (zn C) * (zn C)) + (Int32.ofInt 0)) = zq := ⟨_, rfl⟩
          rw [e_za1]
          refine w_store (pc' := 71) (L' := [some (.ref 170), some (.int y), some (.int (zn w)), some (.int za0), some (.int za1)]) (st' := []) (m := 2) (ykc_192 (e := (3, .istore 4, 0)) rfl) rfl rfl ?_
          refine w_load (pc' := 72) (v := .int za0) (m := 1) (ykc_192 (e := (2, .iload_n kF3, 0)) rfl) rfl rfl ?_
          refine w_alu (pc' := 73) (st' := [.long za0.toInt64]) (ykc_192 (e := (0, .i2l, 0)) rfl) rfl rfl ?_
          refine w_alu (pc' := 74) (st' := [.long (Int64.ofNat kG0), .long za0.toInt64]) (ykc_192 (e := (0, .lconst kG0, 0)) rfl) rfl rfl ?_
          refine w_load (pc' := 75) (v := .ref 170) (m := 1) (ykc_192 (e := (2, .aload_n kF0, 0)) rfl) rfl rfl ?_
          refine w_gf (pc' := 78) (v := .int (zn R)) (ykc_192 (e := (5, .getfield 24, 0)) rfl) rfl gR rfl ?_
          refine w_alu (pc' := 79) (st' := [.int (Int32.ofInt 1), .int (zn R), .long (Int64.ofNat kG0), .long za0.toInt64]) (ykc_192 (e := (0, .iconst 1, 0)) rfl) rfl rfl ?_
          obtain ⟨z1657, e_z1657, h_z1657⟩ : ∃ zq : Int32, (zn R) - (Int32.ofInt 1) = zq ∧ zq.toInt = ((R : Nat) : Int) - (1 : Int) := ⟨_, rfl, (by have := ti_sub (x := (zn R)) (y := (Int32.ofInt 1)) (by omega) (by omega); omega)⟩
          refine w_alu (pc' := 80) (st' := [.int z1657, .long (Int64.ofNat kG0), .long za0.toInt64]) (ykc_192 (e := (0, .isub, 0)) rfl) (by rw [← e_z1657]; rfl) rfl ?_
          refine w_alu (pc' := 81) (st' := [.long z1657.toInt64, .long (Int64.ofNat kG0), .long za0.toInt64]) (ykc_192 (e := (0, .i2l, 0)) rfl) rfl rfl ?_
          refine w_cs (as := [.long za0.toInt64, .long (Int64.ofNat kG0), .long z1657.toInt64]) (r := []) (ykc_192 (e := (6, .invokestatic 126, 0)) rfl) rfl rfl rfl rfl (zm_in (x := za0.toInt) (y := (0 : Int)) (z := ((R : Nat) : Int) - (1 : Int)) (by first | exact ztl | (rw [ztl]; omega) | decide | omega) (by first | exact ztl | (rw [ztl]; omega) | decide | omega) (by first | exact ztl | (rw [ztl]; omega) | decide | omega)) (fun v1658 ph1659 hv => ?_)
          obtain ⟨rfl, rfl⟩ := hv
          show zW n D 192 Q 84 [some (.ref 170), some (.int y), some (.int (zn w)), some (.int za0), some (.int za1)] [.int (zI (decide ((0 : Int) ≤ za0.toInt ∧ za0.toInt ≤ ((R : Nat) : Int) - (1 : Int))))] ph
          refine w_beq (ykc_192 (e := (4, .ifCond .eq 32, 116)) rfl) rfl (fun b1660 => ?_) (fun b1660 => ?_)
          · refine w_alu (pc' := 117) (st' := [.int (Int32.ofInt (-1))]) (ykc_192 (e := (0, .iconst (-1), 0)) rfl) rfl rfl ?_
            refine w_ret (v := (some (.int (Int32.ofInt (-1))))) (ykc_192 (e := (7, .ireturn, 0)) rfl) (zr_v rfl) ?_
            rw [hQ]
            exact ⟨rfl, _, rfl⟩
          · refine w_load (pc' := 89) (v := .int za1) (m := 2) (ykc_192 (e := (2, .iload 4, 0)) rfl) rfl rfl ?_
            refine w_alu (pc' := 90) (st' := [.long za1.toInt64]) (ykc_192 (e := (0, .i2l, 0)) rfl) rfl rfl ?_
            refine w_alu (pc' := 91) (st' := [.long (Int64.ofNat kG0), .long za1.toInt64]) (ykc_192 (e := (0, .lconst kG0, 0)) rfl) rfl rfl ?_
            refine w_load (pc' := 92) (v := .ref 170) (m := 1) (ykc_192 (e := (2, .aload_n kF0, 0)) rfl) rfl rfl ?_
            refine w_gf (pc' := 95) (v := .int (zn C)) (ykc_192 (e := (5, .getfield 27, 0)) rfl) rfl gC rfl ?_
            refine w_alu (pc' := 96) (st' := [.int (Int32.ofInt 1), .int (zn C), .long (Int64.ofNat kG0), .long za1.toInt64]) (ykc_192 (e := (0, .iconst 1, 0)) rfl) rfl rfl ?_
            obtain ⟨z1661, e_z1661, h_z1661⟩ : ∃ zq : Int32, (zn C) - (Int32.ofInt 1) = zq ∧ zq.toInt = ((C : Nat) : Int) - (1 : Int) := ⟨_, rfl, (by have := ti_sub (x := (zn C)) (y := (Int32.ofInt 1)) (by omega) (by omega); omega)⟩
            refine w_alu (pc' := 97) (st' := [.int z1661, .long (Int64.ofNat kG0), .long za1.toInt64]) (ykc_192 (e := (0, .isub, 0)) rfl) (by rw [← e_z1661]; rfl) rfl ?_
            refine w_alu (pc' := 98) (st' := [.long z1661.toInt64, .long (Int64.ofNat kG0), .long za1.toInt64]) (ykc_192 (e := (0, .i2l, 0)) rfl) rfl rfl ?_
            refine w_cs (as := [.long za1.toInt64, .long (Int64.ofNat kG0), .long z1661.toInt64]) (r := []) (ykc_192 (e := (6, .invokestatic 126, 0)) rfl) rfl rfl rfl rfl (zm_in (x := za1.toInt) (y := (0 : Int)) (z := ((C : Nat) : Int) - (1 : Int)) (by first | exact ztl | (rw [ztl]; omega) | decide | omega) (by first | exact ztl | (rw [ztl]; omega) | decide | omega) (by first | exact ztl | (rw [ztl]; omega) | decide | omega)) (fun v1662 ph1663 hv => ?_)
            obtain ⟨rfl, rfl⟩ := hv
            show zW n D 192 Q 101 [some (.ref 170), some (.int y), some (.int (zn w)), some (.int za0), some (.int za1)] [.int (zI (decide ((0 : Int) ≤ za1.toInt ∧ za1.toInt ≤ ((C : Nat) : Int) - (1 : Int))))] ph
            refine w_beq (ykc_192 (e := (4, .ifCond .eq 15, 116)) rfl) rfl (fun b1664 => ?_) (fun b1664 => ?_)
            · refine w_alu (pc' := 117) (st' := [.int (Int32.ofInt (-1))]) (ykc_192 (e := (0, .iconst (-1), 0)) rfl) rfl rfl ?_
              refine w_ret (v := (some (.int (Int32.ofInt (-1))))) (ykc_192 (e := (7, .ireturn, 0)) rfl) (zr_v rfl) ?_
              rw [hQ]
              exact ⟨rfl, _, rfl⟩
            · refine w_load (pc' := 105) (v := .ref 170) (m := 1) (ykc_192 (e := (2, .aload_n kF0, 0)) rfl) rfl rfl ?_
              refine w_gf (pc' := 108) (v := .int (zn C)) (ykc_192 (e := (5, .getfield 27, 0)) rfl) rfl gC rfl ?_
              refine w_load (pc' := 109) (v := .int za0) (m := 1) (ykc_192 (e := (2, .iload_n kF3, 0)) rfl) rfl rfl ?_
              refine w_alu (pc' := 110) (st' := [.int ((zn C) * za0)]) (ykc_192 (e := (0, .imul, 0)) rfl) rfl rfl ?_
              refine w_load (pc' := 112) (v := .int za1) (m := 2) (ykc_192 (e := (2, .iload 4, 0)) rfl) rfl rfl ?_
              refine w_alu (pc' := 113) (st' := [.int (((zn C) * za0) + za1)]) (ykc_192 (e := (0, .iadd, 0)) rfl) rfl rfl ?_
              refine w_br (pc' := 117) (st' := [.int (((zn C) * za0) + za1)]) (ykc_192 (e := (4, .goto 4, 117)) rfl) rfl ?_
              refine w_ret (v := (some (.int (((zn C) * za0) + za1)))) (ykc_192 (e := (7, .ireturn, 0)) rfl) (zr_v rfl) ?_
              rw [hQ]
              exact ⟨rfl, _, rfl⟩
        · refine w_alu (pc' := 64) (st' := [.int (Int32.ofInt (-1)), .int (y - y / (zn C) * (zn C))]) (ykc_192 (e := (0, .iconst (-1), 0)) rfl) rfl rfl ?_
          refine w_br (pc' := 68) (st' := [.int (Int32.ofInt (-1)), .int (y - y / (zn C) * (zn C))]) (ykc_192 (e := (4, .goto 4, 68)) rfl) rfl ?_
          refine w_alu (pc' := 69) (st' := [.int ((y - y / (zn C) * (zn C)) + (Int32.ofInt (-1)))]) (ykc_192 (e := (0, .iadd, 0)) rfl) rfl rfl ?_
          obtain ⟨za1, e_za1⟩ : ∃ zq : Int32, ((y - y / (zn C) * (zn C)) + (Int32.ofInt (-1))) = zq := ⟨_, rfl⟩
          rw [e_za1]
          refine w_store (pc' := 71) (L' := [some (.ref 170), some (.int y), some (.int (zn w)), some (.int za0), some (.int za1)]) (st' := []) (m := 2) (ykc_192 (e := (3, .istore 4, 0)) rfl) rfl rfl ?_
          refine w_load (pc' := 72) (v := .int za0) (m := 1) (ykc_192 (e := (2, .iload_n kF3, 0)) rfl) rfl rfl ?_
          refine w_alu (pc' := 73) (st' := [.long za0.toInt64]) (ykc_192 (e := (0, .i2l, 0)) rfl) rfl rfl ?_
          refine w_alu (pc' := 74) (st' := [.long (Int64.ofNat kG0), .long za0.toInt64]) (ykc_192 (e := (0, .lconst kG0, 0)) rfl) rfl rfl ?_
          refine w_load (pc' := 75) (v := .ref 170) (m := 1) (ykc_192 (e := (2, .aload_n kF0, 0)) rfl) rfl rfl ?_
          refine w_gf (pc' := 78) (v := .int (zn R)) (ykc_192 (e := (5, .getfield 24, 0)) rfl) rfl gR rfl ?_
          refine w_alu (pc' := 79) (st' := [.int (Int32.ofInt 1), .int (zn R), .long (Int64.ofNat kG0), .long za0.toInt64]) (ykc_192 (e := (0, .iconst 1, 0)) rfl) rfl rfl ?_
          obtain ⟨z1665, e_z1665, h_z1665⟩ : ∃ zq : Int32, (zn R) - (Int32.ofInt 1) = zq ∧ zq.toInt = ((R : Nat) : Int) - (1 : Int) := ⟨_, rfl, (by have := ti_sub (x := (zn R)) (y := (Int32.ofInt 1)) (by omega) (by omega); omega)⟩
          refine w_alu (pc' := 80) (st' := [.int z1665, .long (Int64.ofNat kG0), .long za0.toInt64]) (ykc_192 (e := (0, .isub, 0)) rfl) (by rw [← e_z1665]; rfl) rfl ?_
          refine w_alu (pc' := 81) (st' := [.long z1665.toInt64, .long (Int64.ofNat kG0), .long za0.toInt64]) (ykc_192 (e := (0, .i2l, 0)) rfl) rfl rfl ?_
          refine w_cs (as := [.long za0.toInt64, .long (Int64.ofNat kG0), .long z1665.toInt64]) (r := []) (ykc_192 (e := (6, .invokestatic 126, 0)) rfl) rfl rfl rfl rfl (zm_in (x := za0.toInt) (y := (0 : Int)) (z := ((R : Nat) : Int) - (1 : Int)) (by first | exact ztl | (rw [ztl]; omega) | decide | omega) (by first | exact ztl | (rw [ztl]; omega) | decide | omega) (by first | exact ztl | (rw [ztl]; omega) | decide | omega)) (fun v1666 ph1667 hv => ?_)
          obtain ⟨rfl, rfl⟩ := hv
          show zW n D 192 Q 84 [some (.ref 170), some (.int y), some (.int (zn w)), some (.int za0), some (.int za1)] [.int (zI (decide ((0 : Int) ≤ za0.toInt ∧ za0.toInt ≤ ((R : Nat) : Int) - (1 : Int))))] ph
          refine w_beq (ykc_192 (e := (4, .ifCond .eq 32, 116)) rfl) rfl (fun b1668 => ?_) (fun b1668 => ?_)
          · refine w_alu (pc' := 117) (st' := [.int (Int32.ofInt (-1))]) (ykc_192 (e := (0, .iconst (-1), 0)) rfl) rfl rfl ?_
            refine w_ret (v := (some (.int (Int32.ofInt (-1))))) (ykc_192 (e := (7, .ireturn, 0)) rfl) (zr_v rfl) ?_
            rw [hQ]
            exact ⟨rfl, _, rfl⟩
          · refine w_load (pc' := 89) (v := .int za1) (m := 2) (ykc_192 (e := (2, .iload 4, 0)) rfl) rfl rfl ?_
            refine w_alu (pc' := 90) (st' := [.long za1.toInt64]) (ykc_192 (e := (0, .i2l, 0)) rfl) rfl rfl ?_
            refine w_alu (pc' := 91) (st' := [.long (Int64.ofNat kG0), .long za1.toInt64]) (ykc_192 (e := (0, .lconst kG0, 0)) rfl) rfl rfl ?_
            refine w_load (pc' := 92) (v := .ref 170) (m := 1) (ykc_192 (e := (2, .aload_n kF0, 0)) rfl) rfl rfl ?_
            refine w_gf (pc' := 95) (v := .int (zn C)) (ykc_192 (e := (5, .getfield 27, 0)) rfl) rfl gC rfl ?_
            refine w_alu (pc' := 96) (st' := [.int (Int32.ofInt 1), .int (zn C), .long (Int64.ofNat kG0), .long za1.toInt64]) (ykc_192 (e := (0, .iconst 1, 0)) rfl) rfl rfl ?_
            obtain ⟨z1669, e_z1669, h_z1669⟩ : ∃ zq : Int32, (zn C) - (Int32.ofInt 1) = zq ∧ zq.toInt = ((C : Nat) : Int) - (1 : Int) := ⟨_, rfl, (by have := ti_sub (x := (zn C)) (y := (Int32.ofInt 1)) (by omega) (by omega); omega)⟩
            refine w_alu (pc' := 97) (st' := [.int z1669, .long (Int64.ofNat kG0), .long za1.toInt64]) (ykc_192 (e := (0, .isub, 0)) rfl) (by rw [← e_z1669]; rfl) rfl ?_
            refine w_alu (pc' := 98) (st' := [.long z1669.toInt64, .long (Int64.ofNat kG0), .long za1.toInt64]) (ykc_192 (e := (0, .i2l, 0)) rfl) rfl rfl ?_
            refine w_cs (as := [.long za1.toInt64, .long (Int64.ofNat kG0), .long z1669.toInt64]) (r := []) (ykc_192 (e := (6, .invokestatic 126, 0)) rfl) rfl rfl rfl rfl (zm_in (x := za1.toInt) (y := (0 : Int)) (z := ((C : Nat) : Int) - (1 : Int)) (by first | exact ztl | (rw [ztl]; omega) | decide | omega) (by first | exact ztl | (rw [ztl]; omega) | decide | omega) (by first | exact ztl | (rw [ztl]; omega) | decide | omega)) (fun v1670 ph1671 hv => ?_)
            obtain ⟨rfl, rfl⟩ := hv
            show zW n D 192 Q 101 [some (.ref 170), some (.int y), some (.int (zn w)), some (.int za0), some (.int za1)] [.int (zI (decide ((0 : Int) ≤ za1.toInt ∧ za1.toInt ≤ ((C : Nat) : Int) - (1 : Int))))] ph
            refine w_beq (ykc_192 (e := (4, .ifCond .eq 15, 116)) rfl) rfl (fun b1672 => ?_) (fun b1672 => ?_)
            · refine w_alu (pc' := 117) (st' := [.int (Int32.ofInt (-1))]) (ykc_192 (e := (0, .iconst (-1), 0)) rfl) rfl rfl ?_
              refine w_ret (v := (some (.int (Int32.ofInt (-1))))) (ykc_192 (e := (7, .ireturn, 0)) rfl) (zr_v rfl) ?_
              rw [hQ]
              exact ⟨rfl, _, rfl⟩
            · refine w_load (pc' := 105) (v := .ref 170) (m := 1) (ykc_192 (e := (2, .aload_n kF0, 0)) rfl) rfl rfl ?_
              refine w_gf (pc' := 108) (v := .int (zn C)) (ykc_192 (e := (5, .getfield 27, 0)) rfl) rfl gC rfl ?_
              refine w_load (pc' := 109) (v := .int za0) (m := 1) (ykc_192 (e := (2, .iload_n kF3, 0)) rfl) rfl rfl ?_
              refine w_alu (pc' := 110) (st' := [.int ((zn C) * za0)]) (ykc_192 (e := (0, .imul, 0)) rfl) rfl rfl ?_
              refine w_load (pc' := 112) (v := .int za1) (m := 2) (ykc_192 (e := (2, .iload 4, 0)) rfl) rfl rfl ?_
              refine w_alu (pc' := 113) (st' := [.int (((zn C) * za0) + za1)]) (ykc_192 (e := (0, .iadd, 0)) rfl) rfl rfl ?_
              refine w_br (pc' := 117) (st' := [.int (((zn C) * za0) + za1)]) (ykc_192 (e := (4, .goto 4, 117)) rfl) rfl ?_
              refine w_ret (v := (some (.int (((zn C) * za0) + za1)))) (ykc_192 (e := (7, .ireturn, 0)) rfl) (zr_v rfl) ?_
              rw [hQ]
              exact ⟨rfl, _, rfl⟩
      · refine w_load (pc' := 50) (v := .int (zn w)) (m := 1) (ykc_192 (e := (2, .iload_n kF2, 0)) rfl) rfl rfl ?_
        refine w_alu (pc' := 51) (st' := [.int (Int32.ofInt 4), .int (zn w), .int (y - y / (zn C) * (zn C))]) (ykc_192 (e := (0, .iconst 4, 0)) rfl) rfl rfl ?_
        refine w_ige (ykc_192 (e := (4, .if_icmp .ge 7, 58)) rfl) rfl (fun b1673 => ?_) (fun b1673 => ?_)
        · refine w_load (pc' := 59) (v := .int (zn w)) (m := 1) (ykc_192 (e := (2, .iload_n kF2, 0)) rfl) rfl rfl ?_
          refine w_alu (pc' := 60) (st' := [.int (Int32.ofInt 4), .int (zn w), .int (y - y / (zn C) * (zn C))]) (ykc_192 (e := (0, .iconst 4, 0)) rfl) rfl rfl ?_
          refine w_ile (ykc_192 (e := (4, .if_icmp .le 7, 67)) rfl) rfl (fun b1674 => ?_) (fun b1674 => ?_)
          · refine w_alu (pc' := 68) (st' := [.int (Int32.ofInt 0), .int (y - y / (zn C) * (zn C))]) (ykc_192 (e := (0, .iconst 0, 0)) rfl) rfl rfl ?_
            refine w_alu (pc' := 69) (st' := [.int ((y - y / (zn C) * (zn C)) + (Int32.ofInt 0))]) (ykc_192 (e := (0, .iadd, 0)) rfl) rfl rfl ?_
            obtain ⟨za1, e_za1⟩ : ∃ zq : Int32, ((y - y / (zn C) * (zn C)) + (Int32.ofInt 0)) = zq := ⟨_, rfl⟩
            rw [e_za1]
            refine w_store (pc' := 71) (L' := [some (.ref 170), some (.int y), some (.int (zn w)), some (.int za0), some (.int za1)]) (st' := []) (m := 2) (ykc_192 (e := (3, .istore 4, 0)) rfl) rfl rfl ?_
            refine w_load (pc' := 72) (v := .int za0) (m := 1) (ykc_192 (e := (2, .iload_n kF3, 0)) rfl) rfl rfl ?_
            refine w_alu (pc' := 73) (st' := [.long za0.toInt64]) (ykc_192 (e := (0, .i2l, 0)) rfl) rfl rfl ?_
            refine w_alu (pc' := 74) (st' := [.long (Int64.ofNat kG0), .long za0.toInt64]) (ykc_192 (e := (0, .lconst kG0, 0)) rfl) rfl rfl ?_
            refine w_load (pc' := 75) (v := .ref 170) (m := 1) (ykc_192 (e := (2, .aload_n kF0, 0)) rfl) rfl rfl ?_
            refine w_gf (pc' := 78) (v := .int (zn R)) (ykc_192 (e := (5, .getfield 24, 0)) rfl) rfl gR rfl ?_
            refine w_alu (pc' := 79) (st' := [.int (Int32.ofInt 1), .int (zn R), .long (Int64.ofNat kG0), .long za0.toInt64]) (ykc_192 (e := (0, .iconst 1, 0)) rfl) rfl rfl ?_
            obtain ⟨z1675, e_z1675, h_z1675⟩ : ∃ zq : Int32, (zn R) - (Int32.ofInt 1) = zq ∧ zq.toInt = ((R : Nat) : Int) - (1 : Int) := ⟨_, rfl, (by have := ti_sub (x := (zn R)) (y := (Int32.ofInt 1)) (by omega) (by omega); omega)⟩
            refine w_alu (pc' := 80) (st' := [.int z1675, .long (Int64.ofNat kG0), .long za0.toInt64]) (ykc_192 (e := (0, .isub, 0)) rfl) (by rw [← e_z1675]; rfl) rfl ?_
            refine w_alu (pc' := 81) (st' := [.long z1675.toInt64, .long (Int64.ofNat kG0), .long za0.toInt64]) (ykc_192 (e := (0, .i2l, 0)) rfl) rfl rfl ?_
            refine w_cs (as := [.long za0.toInt64, .long (Int64.ofNat kG0), .long z1675.toInt64]) (r := []) (ykc_192 (e := (6, .invokestatic 126, 0)) rfl) rfl rfl rfl rfl (zm_in (x := za0.toInt) (y := (0 : Int)) (z := ((R : Nat) : Int) - (1 : Int)) (by first | exact ztl | (rw [ztl]; omega) | decide | omega) (by first | exact ztl | (rw [ztl]; omega) | decide | omega) (by first | exact ztl | (rw [ztl]; omega) | decide | omega)) (fun v1676 ph1677 hv => ?_)
            obtain ⟨rfl, rfl⟩ := hv
            show zW n D 192 Q 84 [some (.ref 170), some (.int y), some (.int (zn w)), some (.int za0), some (.int za1)] [.int (zI (decide ((0 : Int) ≤ za0.toInt ∧ za0.toInt ≤ ((R : Nat) : Int) - (1 : Int))))] ph
            refine w_beq (ykc_192 (e := (4, .ifCond .eq 32, 116)) rfl) rfl (fun b1678 => ?_) (fun b1678 => ?_)
            · refine w_alu (pc' := 117) (st' := [.int (Int32.ofInt (-1))]) (ykc_192 (e := (0, .iconst (-1), 0)) rfl) rfl rfl ?_
              refine w_ret (v := (some (.int (Int32.ofInt (-1))))) (ykc_192 (e := (7, .ireturn, 0)) rfl) (zr_v rfl) ?_
              rw [hQ]
              exact ⟨rfl, _, rfl⟩
            · refine w_load (pc' := 89) (v := .int za1) (m := 2) (ykc_192 (e := (2, .iload 4, 0)) rfl) rfl rfl ?_
              refine w_alu (pc' := 90) (st' := [.long za1.toInt64]) (ykc_192 (e := (0, .i2l, 0)) rfl) rfl rfl ?_
              refine w_alu (pc' := 91) (st' := [.long (Int64.ofNat kG0), .long za1.toInt64]) (ykc_192 (e := (0, .lconst kG0, 0)) rfl) rfl rfl ?_
              refine w_load (pc' := 92) (v := .ref 170) (m := 1) (ykc_192 (e := (2, .aload_n kF0, 0)) rfl) rfl rfl ?_
              refine w_gf (pc' := 95) (v := .int (zn C)) (ykc_192 (e := (5, .getfield 27, 0)) rfl) rfl gC rfl ?_
              refine w_alu (pc' := 96) (st' := [.int (Int32.ofInt 1), .int (zn C), .long (Int64.ofNat kG0), .long za1.toInt64]) (ykc_192 (e := (0, .iconst 1, 0)) rfl) rfl rfl ?_
              obtain ⟨z1679, e_z1679, h_z1679⟩ : ∃ zq : Int32, (zn C) - (Int32.ofInt 1) = zq ∧ zq.toInt = ((C : Nat) : Int) - (1 : Int) := ⟨_, rfl, (by have := ti_sub (x := (zn C)) (y := (Int32.ofInt 1)) (by omega) (by omega); omega)⟩
              refine w_alu (pc' := 97) (st' := [.int z1679, .long (Int64.ofNat kG0), .long za1.toInt64]) (ykc_192 (e := (0, .isub, 0)) rfl) (by rw [← e_z1679]; rfl) rfl ?_
              refine w_alu (pc' := 98) (st' := [.long z1679.toInt64, .long (Int64.ofNat kG0), .long za1.toInt64]) (ykc_192 (e := (0, .i2l, 0)) rfl) rfl rfl ?_
              refine w_cs (as := [.long za1.toInt64, .long (Int64.ofNat kG0), .long z1679.toInt64]) (r := []) (ykc_192 (e := (6, .invokestatic 126, 0)) rfl) rfl rfl rfl rfl (zm_in (x := za1.toInt) (y := (0 : Int)) (z := ((C : Nat) : Int) - (1 : Int)) (by first | exact ztl | (rw [ztl]; omega) | decide | omega) (by first | exact ztl | (rw [ztl]; omega) | decide | omega) (by first | exact ztl | (rw [ztl]; omega) | decide | omega)) (fun v1680 ph1681 hv => ?_)
              obtain ⟨rfl, rfl⟩ := hv
              show zW n D 192 Q 101 [some (.ref 170), some (.int y), some (.int (zn w)), some (.int za0), some (.int za1)] [.int (zI (decide ((0 : Int) ≤ za1.toInt ∧ za1.toInt ≤ ((C : Nat) : Int) - (1 : Int))))] ph
              refine w_beq (ykc_192 (e := (4, .ifCond .eq 15, 116)) rfl) rfl (fun b1682 => ?_) (fun b1682 => ?_)
              · refine w_alu (pc' := 117) (st' := [.int (Int32.ofInt (-1))]) (ykc_192 (e := (0, .iconst (-1), 0)) rfl) rfl rfl ?_
                refine w_ret (v := (some (.int (Int32.ofInt (-1))))) (ykc_192 (e := (7, .ireturn, 0)) rfl) (zr_v rfl) ?_
                rw [hQ]
                exact ⟨rfl, _, rfl⟩
              · refine w_load (pc' := 105) (v := .ref 170) (m := 1) (ykc_192 (e := (2, .aload_n kF0, 0)) rfl) rfl rfl ?_
                refine w_gf (pc' := 108) (v := .int (zn C)) (ykc_192 (e := (5, .getfield 27, 0)) rfl) rfl gC rfl ?_
                refine w_load (pc' := 109) (v := .int za0) (m := 1) (ykc_192 (e := (2, .iload_n kF3, 0)) rfl) rfl rfl ?_
                refine w_alu (pc' := 110) (st' := [.int ((zn C) * za0)]) (ykc_192 (e := (0, .imul, 0)) rfl) rfl rfl ?_
                refine w_load (pc' := 112) (v := .int za1) (m := 2) (ykc_192 (e := (2, .iload 4, 0)) rfl) rfl rfl ?_
                refine w_alu (pc' := 113) (st' := [.int (((zn C) * za0) + za1)]) (ykc_192 (e := (0, .iadd, 0)) rfl) rfl rfl ?_
                refine w_br (pc' := 117) (st' := [.int (((zn C) * za0) + za1)]) (ykc_192 (e := (4, .goto 4, 117)) rfl) rfl ?_
                refine w_ret (v := (some (.int (((zn C) * za0) + za1)))) (ykc_192 (e := (7, .ireturn, 0)) rfl) (zr_v rfl) ?_
                rw [hQ]
                exact ⟨rfl, _, rfl⟩
          · refine w_alu (pc' := 64) (st' := [.int (Int32.ofInt (-1)), .int (y - y / (zn C) * (zn C))]) (ykc_192 (e := (0, .iconst (-1), 0)) rfl) rfl rfl ?_
            refine w_br (pc' := 68) (st' := [.int (Int32.ofInt (-1)), .int (y - y / (zn C) * (zn C))]) (ykc_192 (e := (4, .goto 4, 68)) rfl) rfl ?_
            refine w_alu (pc' := 69) (st' := [.int ((y - y / (zn C) * (zn C)) + (Int32.ofInt (-1)))]) (ykc_192 (e := (0, .iadd, 0)) rfl) rfl rfl ?_
            obtain ⟨za1, e_za1⟩ : ∃ zq : Int32, ((y - y / (zn C) * (zn C)) + (Int32.ofInt (-1))) = zq := ⟨_, rfl⟩
            rw [e_za1]
            refine w_store (pc' := 71) (L' := [some (.ref 170), some (.int y), some (.int (zn w)), some (.int za0), some (.int za1)]) (st' := []) (m := 2) (ykc_192 (e := (3, .istore 4, 0)) rfl) rfl rfl ?_
            refine w_load (pc' := 72) (v := .int za0) (m := 1) (ykc_192 (e := (2, .iload_n kF3, 0)) rfl) rfl rfl ?_
            refine w_alu (pc' := 73) (st' := [.long za0.toInt64]) (ykc_192 (e := (0, .i2l, 0)) rfl) rfl rfl ?_
            refine w_alu (pc' := 74) (st' := [.long (Int64.ofNat kG0), .long za0.toInt64]) (ykc_192 (e := (0, .lconst kG0, 0)) rfl) rfl rfl ?_
            refine w_load (pc' := 75) (v := .ref 170) (m := 1) (ykc_192 (e := (2, .aload_n kF0, 0)) rfl) rfl rfl ?_
            refine w_gf (pc' := 78) (v := .int (zn R)) (ykc_192 (e := (5, .getfield 24, 0)) rfl) rfl gR rfl ?_
            refine w_alu (pc' := 79) (st' := [.int (Int32.ofInt 1), .int (zn R), .long (Int64.ofNat kG0), .long za0.toInt64]) (ykc_192 (e := (0, .iconst 1, 0)) rfl) rfl rfl ?_
            obtain ⟨z1683, e_z1683, h_z1683⟩ : ∃ zq : Int32, (zn R) - (Int32.ofInt 1) = zq ∧ zq.toInt = ((R : Nat) : Int) - (1 : Int) := ⟨_, rfl, (by have := ti_sub (x := (zn R)) (y := (Int32.ofInt 1)) (by omega) (by omega); omega)⟩
            refine w_alu (pc' := 80) (st' := [.int z1683, .long (Int64.ofNat kG0), .long za0.toInt64]) (ykc_192 (e := (0, .isub, 0)) rfl) (by rw [← e_z1683]; rfl) rfl ?_
            refine w_alu (pc' := 81) (st' := [.long z1683.toInt64, .long (Int64.ofNat kG0), .long za0.toInt64]) (ykc_192 (e := (0, .i2l, 0)) rfl) rfl rfl ?_
            refine w_cs (as := [.long za0.toInt64, .long (Int64.ofNat kG0), .long z1683.toInt64]) (r := []) (ykc_192 (e := (6, .invokestatic 126, 0)) rfl) rfl rfl rfl rfl (zm_in (x := za0.toInt) (y := (0 : Int)) (z := ((R : Nat) : Int) - (1 : Int)) (by first | exact ztl | (rw [ztl]; omega) | decide | omega) (by first | exact ztl | (rw [ztl]; omega) | decide | omega) (by first | exact ztl | (rw [ztl]; omega) | decide | omega)) (fun v1684 ph1685 hv => ?_)
            obtain ⟨rfl, rfl⟩ := hv
            show zW n D 192 Q 84 [some (.ref 170), some (.int y), some (.int (zn w)), some (.int za0), some (.int za1)] [.int (zI (decide ((0 : Int) ≤ za0.toInt ∧ za0.toInt ≤ ((R : Nat) : Int) - (1 : Int))))] ph
            refine w_beq (ykc_192 (e := (4, .ifCond .eq 32, 116)) rfl) rfl (fun b1686 => ?_) (fun b1686 => ?_)
            · refine w_alu (pc' := 117) (st' := [.int (Int32.ofInt (-1))]) (ykc_192 (e := (0, .iconst (-1), 0)) rfl) rfl rfl ?_
              refine w_ret (v := (some (.int (Int32.ofInt (-1))))) (ykc_192 (e := (7, .ireturn, 0)) rfl) (zr_v rfl) ?_
              rw [hQ]
              exact ⟨rfl, _, rfl⟩
            · refine w_load (pc' := 89) (v := .int za1) (m := 2) (ykc_192 (e := (2, .iload 4, 0)) rfl) rfl rfl ?_
              refine w_alu (pc' := 90) (st' := [.long za1.toInt64]) (ykc_192 (e := (0, .i2l, 0)) rfl) rfl rfl ?_
              refine w_alu (pc' := 91) (st' := [.long (Int64.ofNat kG0), .long za1.toInt64]) (ykc_192 (e := (0, .lconst kG0, 0)) rfl) rfl rfl ?_
              refine w_load (pc' := 92) (v := .ref 170) (m := 1) (ykc_192 (e := (2, .aload_n kF0, 0)) rfl) rfl rfl ?_
              refine w_gf (pc' := 95) (v := .int (zn C)) (ykc_192 (e := (5, .getfield 27, 0)) rfl) rfl gC rfl ?_
              refine w_alu (pc' := 96) (st' := [.int (Int32.ofInt 1), .int (zn C), .long (Int64.ofNat kG0), .long za1.toInt64]) (ykc_192 (e := (0, .iconst 1, 0)) rfl) rfl rfl ?_
              obtain ⟨z1687, e_z1687, h_z1687⟩ : ∃ zq : Int32, (zn C) - (Int32.ofInt 1) = zq ∧ zq.toInt = ((C : Nat) : Int) - (1 : Int) := ⟨_, rfl, (by have := ti_sub (x := (zn C)) (y := (Int32.ofInt 1)) (by omega) (by omega); omega)⟩
              refine w_alu (pc' := 97) (st' := [.int z1687, .long (Int64.ofNat kG0), .long za1.toInt64]) (ykc_192 (e := (0, .isub, 0)) rfl) (by rw [← e_z1687]; rfl) rfl ?_
              refine w_alu (pc' := 98) (st' := [.long z1687.toInt64, .long (Int64.ofNat kG0), .long za1.toInt64]) (ykc_192 (e := (0, .i2l, 0)) rfl) rfl rfl ?_
              refine w_cs (as := [.long za1.toInt64, .long (Int64.ofNat kG0), .long z1687.toInt64]) (r := []) (ykc_192 (e := (6, .invokestatic 126, 0)) rfl) rfl rfl rfl rfl (zm_in (x := za1.toInt) (y := (0 : Int)) (z := ((C : Nat) : Int) - (1 : Int)) (by first | exact ztl | (rw [ztl]; omega) | decide | omega) (by first | exact ztl | (rw [ztl]; omega) | decide | omega) (by first | exact ztl | (rw [ztl]; omega) | decide | omega)) (fun v1688 ph1689 hv => ?_)
              obtain ⟨rfl, rfl⟩ := hv
              show zW n D 192 Q 101 [some (.ref 170), some (.int y), some (.int (zn w)), some (.int za0), some (.int za1)] [.int (zI (decide ((0 : Int) ≤ za1.toInt ∧ za1.toInt ≤ ((C : Nat) : Int) - (1 : Int))))] ph
              refine w_beq (ykc_192 (e := (4, .ifCond .eq 15, 116)) rfl) rfl (fun b1690 => ?_) (fun b1690 => ?_)
              · refine w_alu (pc' := 117) (st' := [.int (Int32.ofInt (-1))]) (ykc_192 (e := (0, .iconst (-1), 0)) rfl) rfl rfl ?_
                refine w_ret (v := (some (.int (Int32.ofInt (-1))))) (ykc_192 (e := (7, .ireturn, 0)) rfl) (zr_v rfl) ?_
                rw [hQ]
                exact ⟨rfl, _, rfl⟩
              · refine w_load (pc' := 105) (v := .ref 170) (m := 1) (ykc_192 (e := (2, .aload_n kF0, 0)) rfl) rfl rfl ?_
                refine w_gf (pc' := 108) (v := .int (zn C)) (ykc_192 (e := (5, .getfield 27, 0)) rfl) rfl gC rfl ?_
                refine w_load (pc' := 109) (v := .int za0) (m := 1) (ykc_192 (e := (2, .iload_n kF3, 0)) rfl) rfl rfl ?_
                refine w_alu (pc' := 110) (st' := [.int ((zn C) * za0)]) (ykc_192 (e := (0, .imul, 0)) rfl) rfl rfl ?_
                refine w_load (pc' := 112) (v := .int za1) (m := 2) (ykc_192 (e := (2, .iload 4, 0)) rfl) rfl rfl ?_
                refine w_alu (pc' := 113) (st' := [.int (((zn C) * za0) + za1)]) (ykc_192 (e := (0, .iadd, 0)) rfl) rfl rfl ?_
                refine w_br (pc' := 117) (st' := [.int (((zn C) * za0) + za1)]) (ykc_192 (e := (4, .goto 4, 117)) rfl) rfl ?_
                refine w_ret (v := (some (.int (((zn C) * za0) + za1)))) (ykc_192 (e := (7, .ireturn, 0)) rfl) (zr_v rfl) ?_
                rw [hQ]
                exact ⟨rfl, _, rfl⟩
        · refine w_alu (pc' := 55) (st' := [.int (Int32.ofInt 1), .int (y - y / (zn C) * (zn C))]) (ykc_192 (e := (0, .iconst 1, 0)) rfl) rfl rfl ?_
          refine w_br (pc' := 68) (st' := [.int (Int32.ofInt 1), .int (y - y / (zn C) * (zn C))]) (ykc_192 (e := (4, .goto 13, 68)) rfl) rfl ?_
          refine w_alu (pc' := 69) (st' := [.int ((y - y / (zn C) * (zn C)) + (Int32.ofInt 1))]) (ykc_192 (e := (0, .iadd, 0)) rfl) rfl rfl ?_
          obtain ⟨za1, e_za1⟩ : ∃ zq : Int32, ((y - y / (zn C) * (zn C)) + (Int32.ofInt 1)) = zq := ⟨_, rfl⟩
          rw [e_za1]
          refine w_store (pc' := 71) (L' := [some (.ref 170), some (.int y), some (.int (zn w)), some (.int za0), some (.int za1)]) (st' := []) (m := 2) (ykc_192 (e := (3, .istore 4, 0)) rfl) rfl rfl ?_
          refine w_load (pc' := 72) (v := .int za0) (m := 1) (ykc_192 (e := (2, .iload_n kF3, 0)) rfl) rfl rfl ?_
          refine w_alu (pc' := 73) (st' := [.long za0.toInt64]) (ykc_192 (e := (0, .i2l, 0)) rfl) rfl rfl ?_
          refine w_alu (pc' := 74) (st' := [.long (Int64.ofNat kG0), .long za0.toInt64]) (ykc_192 (e := (0, .lconst kG0, 0)) rfl) rfl rfl ?_
          refine w_load (pc' := 75) (v := .ref 170) (m := 1) (ykc_192 (e := (2, .aload_n kF0, 0)) rfl) rfl rfl ?_
          refine w_gf (pc' := 78) (v := .int (zn R)) (ykc_192 (e := (5, .getfield 24, 0)) rfl) rfl gR rfl ?_
          refine w_alu (pc' := 79) (st' := [.int (Int32.ofInt 1), .int (zn R), .long (Int64.ofNat kG0), .long za0.toInt64]) (ykc_192 (e := (0, .iconst 1, 0)) rfl) rfl rfl ?_
          obtain ⟨z1691, e_z1691, h_z1691⟩ : ∃ zq : Int32, (zn R) - (Int32.ofInt 1) = zq ∧ zq.toInt = ((R : Nat) : Int) - (1 : Int) := ⟨_, rfl, (by have := ti_sub (x := (zn R)) (y := (Int32.ofInt 1)) (by omega) (by omega); omega)⟩
          refine w_alu (pc' := 80) (st' := [.int z1691, .long (Int64.ofNat kG0), .long za0.toInt64]) (ykc_192 (e := (0, .isub, 0)) rfl) (by rw [← e_z1691]; rfl) rfl ?_
          refine w_alu (pc' := 81) (st' := [.long z1691.toInt64, .long (Int64.ofNat kG0), .long za0.toInt64]) (ykc_192 (e := (0, .i2l, 0)) rfl) rfl rfl ?_
          refine w_cs (as := [.long za0.toInt64, .long (Int64.ofNat kG0), .long z1691.toInt64]) (r := []) (ykc_192 (e := (6, .invokestatic 126, 0)) rfl) rfl rfl rfl rfl (zm_in (x := za0.toInt) (y := (0 : Int)) (z := ((R : Nat) : Int) - (1 : Int)) (by first | exact ztl | (rw [ztl]; omega) | decide | omega) (by first | exact ztl | (rw [ztl]; omega) | decide | omega) (by first | exact ztl | (rw [ztl]; omega) | decide | omega)) (fun v1692 ph1693 hv => ?_)
          obtain ⟨rfl, rfl⟩ := hv
          show zW n D 192 Q 84 [some (.ref 170), some (.int y), some (.int (zn w)), some (.int za0), some (.int za1)] [.int (zI (decide ((0 : Int) ≤ za0.toInt ∧ za0.toInt ≤ ((R : Nat) : Int) - (1 : Int))))] ph
          refine w_beq (ykc_192 (e := (4, .ifCond .eq 32, 116)) rfl) rfl (fun b1694 => ?_) (fun b1694 => ?_)
          · refine w_alu (pc' := 117) (st' := [.int (Int32.ofInt (-1))]) (ykc_192 (e := (0, .iconst (-1), 0)) rfl) rfl rfl ?_
            refine w_ret (v := (some (.int (Int32.ofInt (-1))))) (ykc_192 (e := (7, .ireturn, 0)) rfl) (zr_v rfl) ?_
            rw [hQ]
            exact ⟨rfl, _, rfl⟩
          · refine w_load (pc' := 89) (v := .int za1) (m := 2) (ykc_192 (e := (2, .iload 4, 0)) rfl) rfl rfl ?_
            refine w_alu (pc' := 90) (st' := [.long za1.toInt64]) (ykc_192 (e := (0, .i2l, 0)) rfl) rfl rfl ?_
            refine w_alu (pc' := 91) (st' := [.long (Int64.ofNat kG0), .long za1.toInt64]) (ykc_192 (e := (0, .lconst kG0, 0)) rfl) rfl rfl ?_
            refine w_load (pc' := 92) (v := .ref 170) (m := 1) (ykc_192 (e := (2, .aload_n kF0, 0)) rfl) rfl rfl ?_
            refine w_gf (pc' := 95) (v := .int (zn C)) (ykc_192 (e := (5, .getfield 27, 0)) rfl) rfl gC rfl ?_
            refine w_alu (pc' := 96) (st' := [.int (Int32.ofInt 1), .int (zn C), .long (Int64.ofNat kG0), .long za1.toInt64]) (ykc_192 (e := (0, .iconst 1, 0)) rfl) rfl rfl ?_
            obtain ⟨z1695, e_z1695, h_z1695⟩ : ∃ zq : Int32, (zn C) - (Int32.ofInt 1) = zq ∧ zq.toInt = ((C : Nat) : Int) - (1 : Int) := ⟨_, rfl, (by have := ti_sub (x := (zn C)) (y := (Int32.ofInt 1)) (by omega) (by omega); omega)⟩
            refine w_alu (pc' := 97) (st' := [.int z1695, .long (Int64.ofNat kG0), .long za1.toInt64]) (ykc_192 (e := (0, .isub, 0)) rfl) (by rw [← e_z1695]; rfl) rfl ?_
            refine w_alu (pc' := 98) (st' := [.long z1695.toInt64, .long (Int64.ofNat kG0), .long za1.toInt64]) (ykc_192 (e := (0, .i2l, 0)) rfl) rfl rfl ?_
            refine w_cs (as := [.long za1.toInt64, .long (Int64.ofNat kG0), .long z1695.toInt64]) (r := []) (ykc_192 (e := (6, .invokestatic 126, 0)) rfl) rfl rfl rfl rfl (zm_in (x := za1.toInt) (y := (0 : Int)) (z := ((C : Nat) : Int) - (1 : Int)) (by first | exact ztl | (rw [ztl]; omega) | decide | omega) (by first | exact ztl | (rw [ztl]; omega) | decide | omega) (by first | exact ztl | (rw [ztl]; omega) | decide | omega)) (fun v1696 ph1697 hv => ?_)
            obtain ⟨rfl, rfl⟩ := hv
            show zW n D 192 Q 101 [some (.ref 170), some (.int y), some (.int (zn w)), some (.int za0), some (.int za1)] [.int (zI (decide ((0 : Int) ≤ za1.toInt ∧ za1.toInt ≤ ((C : Nat) : Int) - (1 : Int))))] ph
            refine w_beq (ykc_192 (e := (4, .ifCond .eq 15, 116)) rfl) rfl (fun b1698 => ?_) (fun b1698 => ?_)
            · refine w_alu (pc' := 117) (st' := [.int (Int32.ofInt (-1))]) (ykc_192 (e := (0, .iconst (-1), 0)) rfl) rfl rfl ?_
              refine w_ret (v := (some (.int (Int32.ofInt (-1))))) (ykc_192 (e := (7, .ireturn, 0)) rfl) (zr_v rfl) ?_
              rw [hQ]
              exact ⟨rfl, _, rfl⟩
            · refine w_load (pc' := 105) (v := .ref 170) (m := 1) (ykc_192 (e := (2, .aload_n kF0, 0)) rfl) rfl rfl ?_
              refine w_gf (pc' := 108) (v := .int (zn C)) (ykc_192 (e := (5, .getfield 27, 0)) rfl) rfl gC rfl ?_
              refine w_load (pc' := 109) (v := .int za0) (m := 1) (ykc_192 (e := (2, .iload_n kF3, 0)) rfl) rfl rfl ?_
              refine w_alu (pc' := 110) (st' := [.int ((zn C) * za0)]) (ykc_192 (e := (0, .imul, 0)) rfl) rfl rfl ?_
              refine w_load (pc' := 112) (v := .int za1) (m := 2) (ykc_192 (e := (2, .iload 4, 0)) rfl) rfl rfl ?_
              refine w_alu (pc' := 113) (st' := [.int (((zn C) * za0) + za1)]) (ykc_192 (e := (0, .iadd, 0)) rfl) rfl rfl ?_
              refine w_br (pc' := 117) (st' := [.int (((zn C) * za0) + za1)]) (ykc_192 (e := (4, .goto 4, 117)) rfl) rfl ?_
              refine w_ret (v := (some (.int (((zn C) * za0) + za1)))) (ykc_192 (e := (7, .ireturn, 0)) rfl) (zr_v rfl) ?_
              rw [hQ]
              exact ⟨rfl, _, rfl⟩
theorem zm_hasA {ph : pm_H} {x : Int64} {k : Int32} : zM 183 [.long x, .int k] ph (fun v0 q => ph = q ∧ ∃ b, v0 = some (.int (zI b))) := by
  obtain ⟨Q, hQ⟩ : ∃ Q : Option Value → pm_H → Prop, Q = (fun v0 q => ph = q ∧ ∃ b, v0 = some (.int (zI b))) := ⟨_, rfl⟩
  rw [← hQ]
  refine zM_mk fun n D => ?_
  show zW n D 183 Q 0 [some (.long x), none, some (.int k)] [] ph
  have c_0 : (Int32.ofInt 0).toInt = 0 := by decide
  have c_1 : (Int32.ofInt 1).toInt = 1 := by decide
  refine w_load (pc' := 1) (v := .long x) (m := 1) (ykc_183 (e := (2, .lload_n kF0, 0)) rfl) rfl rfl ?_
  refine w_load (pc' := 2) (v := .int k) (m := 1) (ykc_183 (e := (2, .iload_n kF2, 0)) rfl) rfl rfl ?_
  refine w_alu (pc' := 3) (st' := [.long (x >>> (k.toInt64 &&& 63))]) (ykc_183 (e := (0, .lshr, 0)) rfl) rfl rfl ?_
  refine w_alu (pc' := 4) (st' := [.long (Int64.ofNat kG1), .long (x >>> (k.toInt64 &&& 63))]) (ykc_183 (e := (0, .lconst kG1, 0)) rfl) rfl rfl ?_
  refine w_alu (pc' := 5) (st' := [.long ((x >>> (k.toInt64 &&& 63)) &&& (Int64.ofNat kG1))]) (ykc_183 (e := (0, .land, 0)) rfl) rfl rfl ?_
  refine w_alu (pc' := 6) (st' := [.long (Int64.ofNat kG1), .long ((x >>> (k.toInt64 &&& 63)) &&& (Int64.ofNat kG1))]) (ykc_183 (e := (0, .lconst kG1, 0)) rfl) rfl rfl ?_
  refine w_alu (pc' := 7) (st' := [.int (lg_cmp ((x >>> (k.toInt64 &&& 63)) &&& (Int64.ofNat kG1)) (Int64.ofNat kG1))]) (ykc_183 (e := (0, .lcmp, 0)) rfl) rfl rfl ?_
  refine w_zne (ykc_183 (e := (4, .ifCond .ne 7, 14)) rfl) rfl (fun b1699 => ?_) (fun b1699 => ?_)
  · refine w_alu (pc' := 15) (st' := [.int (Int32.ofInt 0)]) (ykc_183 (e := (0, .iconst 0, 0)) rfl) rfl rfl ?_
    refine w_ret (v := (some (.int (Int32.ofInt 0)))) (ykc_183 (e := (7, .ireturn, 0)) rfl) zr_z ?_
    rw [hQ]
    exact ⟨rfl, false, rfl⟩
  · refine w_alu (pc' := 11) (st' := [.int (Int32.ofInt 1)]) (ykc_183 (e := (0, .iconst 1, 0)) rfl) rfl rfl ?_
    refine w_br (pc' := 15) (st' := [.int (Int32.ofInt 1)]) (ykc_183 (e := (4, .goto 4, 15)) rfl) rfl ?_
    refine w_ret (v := (some (.int (Int32.ofInt 1)))) (ykc_183 (e := (7, .ireturn, 0)) rfl) zr_z ?_
    rw [hQ]
    exact ⟨rfl, true, rfl⟩
theorem zm_entersB {ph : pm_H} (hS : zSh ph) {k : Nat} {x : Int64} (hk : zc ph 170 1 = some (.int (zn k))) (h60 : k < 2000000) : zM 186 [.ref 170, .long x] ph (fun v0 q => v0 = none ∧ zFr [171] [(170, 1)] ph q ∧ zc q 170 1 = some (.int (zn (k + 1)))) := by
  obtain ⟨Q, hQ⟩ : ∃ Q : Option Value → pm_H → Prop, Q = (fun v0 q => v0 = none ∧ zFr [171] [(170, 1)] ph q ∧ zc q 170 1 = some (.int (zn (k + 1)))) := ⟨_, rfl⟩
  rw [← hQ]
  refine zM_mk fun n D => ?_
  show zW n D 186 Q 0 [some (.ref 170), some (.long x), none] [] ph
  have c_0 : (Int32.ofInt 1).toInt = 1 := by decide
  have tk := znt (k := k) (by omega)
  refine w_load (pc' := 1) (v := .ref 170) (m := 1) (ykc_186 (e := (2, .aload_n kF0, 0)) rfl) rfl rfl ?_
  refine w_gf (pc' := 4) (v := .ref 171) (ykc_186 (e := (5, .getfield 11, 0)) rfl) rfl (zsg hS zs_170_2) rfl ?_
  refine w_load (pc' := 5) (v := .ref 170) (m := 1) (ykc_186 (e := (2, .aload_n kF0, 0)) rfl) rfl rfl ?_
  refine w_gf (pc' := 8) (v := .int (zn k)) (ykc_186 (e := (5, .getfield 15, 0)) rfl) rfl hk rfl ?_
  refine w_load (pc' := 9) (v := .long x) (m := 1) (ykc_186 (e := (2, .lload_n kF1, 0)) rfl) rfl rfl ?_
  refine w_las (pc' := 10) (k := k) (ykc_186 (e := (5, .lastore, 0)) rfl) (by omega) rfl (fun ph1701 u1700 => ?_)
  refine w_load (pc' := 11) (v := .ref 170) (m := 1) (ykc_186 (e := (2, .aload_n kF0, 0)) rfl) rfl rfl ?_
  refine w_alu (pc' := 12) (st' := [.ref 170, .ref 170]) (ykc_186 (e := (0, .dup, 0)) rfl) rfl rfl ?_
  refine w_gf (pc' := 15) (v := .int (zn k)) (ykc_186 (e := (5, .getfield 15, 0)) rfl) rfl ((u1700.2.1 170 1 (fun q => absurd q.1 (by decide))).trans hk) rfl ?_
  refine w_alu (pc' := 16) (st' := [.int (Int32.ofInt 1), .int (zn k), .ref 170]) (ykc_186 (e := (0, .iconst 1, 0)) rfl) rfl rfl ?_
  have e1702 : (zn k) + (Int32.ofInt 1) = zn (k + 1) := (zaddN (a := k) (b := 1) (znt (by omega)) c_0 (by omega)) 
  have te1702 := znt (k := k + 1) (by omega)
  refine w_alu (pc' := 17) (st' := [.int (zn (k + 1)), .ref 170]) (ykc_186 (e := (0, .iadd, 0)) rfl) (by rw [← e1702]; rfl) rfl ?_
  refine w_pf (pc' := 20) (ykc_186 (e := (5, .putfield 15, 0)) rfl) rfl rfl (fun ph1704 u1703 => ?_)
  refine w_ret (v := none) (ykc_186 (e := (7, .return_, 0)) rfl) (zr_v rfl) ?_
  rw [hQ]
  exact ⟨rfl, zFr_trans (zFr_st u1700 (Or.inl (by simp))) (zFr_st u1703 (Or.inr (by simp))), u1703.1⟩
theorem zm_wayR {ph : pm_H} {R C : Nat} {rk : Nat → Bool} (hS : zSh ph) (hL : zMl ph R C rk) {fr gl : Nat} {x : Int64} {ov : Nat → Prop} (hfr : fr < R * C) (hgl : gl < R * C) (hx : ∀ g, g < R * C → (zb x g = true ↔ ov g)) (hs : rk fr = false → rk gl = false → zHsr R C gl fr ov) : zM 280 [.ref 170, .int (zn fr), .int (zn gl), .long x] ph (fun v0 _ => zWy R C gl fr ov rk (Int8.ofInt (-2)).toInt32 v0) := by
  obtain ⟨Q, hQ⟩ : ∃ Q : Option Value → pm_H → Prop, Q = (fun v0 _ => zWy R C gl fr ov rk (Int8.ofInt (-2)).toInt32 v0) := ⟨_, rfl⟩
  rw [← hQ]
  refine zM_mk fun n D => ?_
  show zW n D 280 Q 0 [some (.ref 170), some (.int (zn fr)), some (.int (zn gl)), some (.long x), none, none, none, none, none, none, none] [] ph
  have c_0 : ((1000000 : Int32)).toInt = 1000000 := by decide
  have c_1 : ((Int8.ofInt (-2)).toInt32).toInt = -2 := by decide
  have c_2 : ((Int8.ofInt 8).toInt32).toInt = 8 := by decide
  have c_3 : (Int32.ofInt (-1)).toInt = -1 := by decide
  have c_4 : (Int32.ofInt 0).toInt = 0 := by decide
  have c_5 : (Int32.ofInt 1).toInt = 1 := by decide
  have hC3 : 3 ≤ C := hL.2.2.2.2.2.1
  have hN : R * C ≤ 49 := zRC49 hL.2.2.2.2.1 hL.2.2.2.2.2.2
  have tgl := znt (k := gl) (by omega)
  have tfr := znt (k := fr) (by omega)
  have hS0 := hS
  have hL0 := hL
  refine w_load (pc' := 1) (v := .ref 170) (m := 1) (ykc_280 (e := (2, .aload_n kF0, 0)) rfl) rfl rfl ?_
  refine w_load (pc' := 2) (v := .int (zn fr)) (m := 1) (ykc_280 (e := (2, .iload_n kF1, 0)) rfl) rfl rfl ?_
  refine w_load (pc' := 3) (v := .int (zn gl)) (m := 1) (ykc_280 (e := (2, .iload_n kF2, 0)) rfl) rfl rfl ?_
  refine w_load (pc' := 4) (v := .long x) (m := 1) (ykc_280 (e := (2, .lload_n kF3, 0)) rfl) rfl rfl ?_
  refine w_cv (as := [.ref 170, .int (zn fr), .int (zn gl), .long x]) (r := []) (ykc_280 (e := (6, .invokevirtual 446, 0)) rfl) rfl rfl rfl rfl (zm_lays hS hL hfr hgl hx) (fun v1705 ph1706 hv => ?_)
  obtain ⟨rfl, f9, fa, hI, ha⟩ := hv
  have hS1 := zSh_F f9 (by decide +kernel) hS0
  have hL1 := zMl_f f9 hL0 (by simp) (by simp)
  have lf := hI.t fr hfr
  have tff := znt (k := fa fr) (by omega)
  show zW n D 280 Q 7 [some (.ref 170), some (.int (zn fr)), some (.int (zn gl)), some (.long x), none, none, none, none, none, none, none] [] ph1706
  refine w_load (pc' := 8) (v := .ref 170) (m := 1) (ykc_280 (e := (2, .aload_n kF0, 0)) rfl) rfl rfl ?_
  refine w_gf (pc' := 11) (v := .ref 172) (ykc_280 (e := (5, .getfield 33, 0)) rfl) rfl ((f9.1 170 9 (by decide) (by decide)).trans (zsg hS zs_170_9)) rfl ?_
  refine w_load (pc' := 12) (v := .int (zn fr)) (m := 1) (ykc_280 (e := (2, .iload_n kF1, 0)) rfl) rfl rfl ?_
  refine w_balk (pc' := 13) (k := fr) (ykc_280 (e := (5, .baload, 0)) rfl) (hL1.2.2.1 fr (by omega)) (by omega) rfl ?_
  refine w_bne (ykc_280 (e := (4, .ifCond .ne 24, 37)) rfl) rfl (fun b1707 => ?_) (fun b1707 => ?_)
  · refine w_push (pc' := 39) (v := .int ((Int8.ofInt (-2)).toInt32)) (m := 2) (ykc_280 (e := (1, .bipush (-2), 0)) rfl) rfl rfl ?_
    refine w_ret (v := (some (.int ((Int8.ofInt (-2)).toInt32)))) (ykc_280 (e := (7, .ireturn, 0)) rfl) (zr_v rfl) ?_
    rw [hQ]
    show zWy R C gl fr ov rk (Int8.ofInt (-2)).toInt32 _
    unfold zWy
    exact (if_pos (Or.inl b1707)).mpr rfl
  · refine w_load (pc' := 17) (v := .ref 170) (m := 1) (ykc_280 (e := (2, .aload_n kF0, 0)) rfl) rfl rfl ?_
    refine w_gf (pc' := 20) (v := .ref 172) (ykc_280 (e := (5, .getfield 33, 0)) rfl) rfl ((f9.1 170 9 (by decide) (by decide)).trans (zsg hS zs_170_9)) rfl ?_
    refine w_load (pc' := 21) (v := .int (zn gl)) (m := 1) (ykc_280 (e := (2, .iload_n kF2, 0)) rfl) rfl rfl ?_
    refine w_balk (pc' := 22) (k := gl) (ykc_280 (e := (5, .baload, 0)) rfl) (hL1.2.2.1 gl (by omega)) (by omega) rfl ?_
    refine w_bne (ykc_280 (e := (4, .ifCond .ne 15, 37)) rfl) rfl (fun b1708 => ?_) (fun b1708 => ?_)
    · refine w_push (pc' := 39) (v := .int ((Int8.ofInt (-2)).toInt32)) (m := 2) (ykc_280 (e := (1, .bipush (-2), 0)) rfl) rfl rfl ?_
      refine w_ret (v := (some (.int ((Int8.ofInt (-2)).toInt32)))) (ykc_280 (e := (7, .ireturn, 0)) rfl) (zr_v rfl) ?_
      rw [hQ]
      show zWy R C gl fr ov rk (Int8.ofInt (-2)).toInt32 _
      unfold zWy
      exact (if_pos (Or.inr b1708)).mpr rfl
    · refine w_load (pc' := 26) (v := .ref 170) (m := 1) (ykc_280 (e := (2, .aload_n kF0, 0)) rfl) rfl rfl ?_
      refine w_gf (pc' := 29) (v := .ref 192) (ykc_280 (e := (5, .getfield 95, 0)) rfl) rfl ((f9.1 170 38 (by decide) (by decide)).trans (zsg hS zs_170_38)) rfl ?_
      refine w_load (pc' := 30) (v := .int (zn fr)) (m := 1) (ykc_280 (e := (2, .iload_n kF1, 0)) rfl) rfl rfl ?_
      refine w_ialk (pc' := 31) (k := fr) (ykc_280 (e := (5, .iaload, 0)) rfl) (ha fr hfr) (by omega) rfl ?_
      have hrf := b1707
      have hrg := b1708
      have hfin := zFi_fr hI hfr hN (hs hrf hrg)
      refine w_push (pc' := 34) (v := .int (1000000 : Int32)) (m := 3) (ykc_280 (e := (1, .ldc_w 432, 0)) rfl) rfl rfl ?_
      refine w_ilt (ykc_280 (e := (4, .if_icmp .lt 6, 40)) rfl) rfl (fun b1709 => ?_) (fun b1709 => ?_)
      · have hfin2 : fa fr < R * C ∧ zDk R C gl ov (fa fr) fr ∧ ∀ j, zDk R C gl ov j fr → fa fr ≤ j := by
          rcases hfin with ⟨h, -⟩ | h
          · exact absurd h (by omega)
          · exact h
        refine w_load (pc' := 41) (v := .ref 170) (m := 1) (ykc_280 (e := (2, .aload_n kF0, 0)) rfl) rfl rfl ?_
        refine w_alu (pc' := 42) (st' := [.int (Int32.ofInt 0), .ref 170]) (ykc_280 (e := (0, .iconst 0, 0)) rfl) rfl rfl ?_
        refine w_pf (pc' := 45) (ykc_280 (e := (5, .putfield 15, 0)) rfl) rfl rfl (fun ph1711 u1710 => ?_)
        refine w_load (pc' := 46) (v := .int (zn fr)) (m := 1) (ykc_280 (e := (2, .iload_n kF1, 0)) rfl) rfl rfl ?_
        refine w_store (pc' := 48) (L' := [some (.ref 170), some (.int (zn fr)), some (.int (zn gl)), some (.long x), none, some (.int (zn fr)), none, none, none, none, none]) (st' := []) (m := 2) (ykc_280 (e := (3, .istore 5, 0)) rfl) rfl rfl ?_
        have hS2 := zSh_st u1710 (by decide +kernel) hS1
        refine w_load (pc' := 49) (v := .ref 170) (m := 1) (ykc_280 (e := (2, .aload_n kF0, 0)) rfl) rfl rfl ?_
        refine w_load (pc' := 51) (v := .int (zn fr)) (m := 2) (ykc_280 (e := (2, .iload 5, 0)) rfl) rfl rfl ?_
        refine w_alu (pc' := 52) (st' := [.long ((zn fr).toInt64), .ref 170]) (ykc_280 (e := (0, .i2l, 0)) rfl) rfl rfl ?_
        refine w_cv (as := [.ref 170, .long ((zn fr).toInt64)]) (r := []) (ykc_280 (e := (6, .invokevirtual 373, 0)) rfl) rfl rfl rfl rfl (zm_entersB (k := 0) hS2 u1710.1 (by decide)) (fun v1712 ph1713 hv => ?_)
        obtain ⟨rfl, f52, f52_t⟩ := hv
        show zW n D 280 Q 55 [some (.ref 170), some (.int (zn fr)), some (.int (zn gl)), some (.long x), none, some (.int (zn fr)), none, none, none, none, none] [] ph1713
        refine w_load (pc' := 56) (v := .ref 170) (m := 1) (ykc_280 (e := (2, .aload_n kF0, 0)) rfl) rfl rfl ?_
        refine w_gf (pc' := 59) (v := .ref 192) (ykc_280 (e := (5, .getfield 95, 0)) rfl) rfl ((f52.1 170 38 (by decide) (by decide)).trans ((u1710.2.1 170 38 (fun q => absurd q.2 (by decide))).trans ((f9.1 170 38 (by decide) (by decide)).trans (zsg hS zs_170_38)))) rfl ?_
        refine w_load (pc' := 60) (v := .int (zn fr)) (m := 1) (ykc_280 (e := (2, .iload_n kF1, 0)) rfl) rfl rfl ?_
        refine w_ialk (pc' := 61) (k := fr) (ykc_280 (e := (5, .iaload, 0)) rfl) ((f52.1 192 fr (by decide) (by simp)).trans ((u1710.2.1 192 fr (fun q => absurd q.1 (by decide))).trans (ha fr hfr))) (by omega) rfl ?_
        refine w_alu (pc' := 62) (st' := [.int (Int32.ofInt 1), .int (zn (fa fr))]) (ykc_280 (e := (0, .iconst 1, 0)) rfl) rfl rfl ?_
        obtain ⟨z1714, e_z1714, h_z1714⟩ : ∃ zq : Int32, (zn (fa fr)) - (Int32.ofInt 1) = zq ∧ zq.toInt = ((fa fr : Nat) : Int) - (1 : Int) := ⟨_, rfl, (by have := ti_sub (x := (zn (fa fr))) (y := (Int32.ofInt 1)) (by omega) (by omega); omega)⟩
        refine w_alu (pc' := 63) (st' := [.int z1714]) (ykc_280 (e := (0, .isub, 0)) rfl) (by rw [← e_z1714]; rfl) rfl ?_
        refine w_store (pc' := 65) (L' := [some (.ref 170), some (.int (zn fr)), some (.int (zn gl)), some (.long x), none, some (.int (zn fr)), some (.int z1714), none, none, none, none]) (st' := []) (m := 2) (ykc_280 (e := (3, .istore 6, 0)) rfl) rfl rfl ?_
        have f65 : zFr [171] [(170, 1)] ph1706 ph1713 := (zFr_trans (zFr_st (A := [171]) (F := [(170, 1)]) u1710 (Or.inr (by simp))) f52)
        have hS3 := zSh_F f52 (by decide +kernel) hS2
        have hL3 : zMl ph1713 R C rk := zMl_f f65 hL1 (by simp) (by simp)
        have ha3 : ∀ f, f < R * C → zc ph1713 192 f = some (.int (zn (fa f))) := fun f hf => (f65.1 192 f (by decide) (by simp)).trans (ha f hf)
        have hl : ∀ (n5 : Nat), ∀ (k : Nat) (c y : Int32) (o7 o8 o9 o10 : Option Value) (ph5 : pm_H), (k ≤ fa fr) → (y.toInt = (k : Int) - 1) → (zFr [171] [(170, 1)] ph1713 ph5) → (zc ph5 170 1 = some (.int (zn (fa fr - k + 1)))) → zW n5 D 280 Q 65 [some (.ref 170), some (.int (zn fr)), some (.int (zn gl)), some (.long x), none, some (.int c), some (.int y), o7, o8, o9, o10] [] ph5 := by
          intro n5
          induction n5 using Nat.strongRecOn with
          | ind n5 ih =>
            intro k c y o7 o8 o9 o10 ph5 hk hy hf5 ht5
            have hS5 := zSh_F hf5 (by decide +kernel) hS3
            have hL5 := zMl_f hf5 hL3 (by simp) (by simp)
            have ha5 : ∀ f, f < R * C → zc ph5 192 f = some (.int (zn (fa f))) := fun f hf => (hf5.1 192 f (by decide) (by simp)).trans (ha3 f hf)
            refine w_load (pc' := 67) (v := .int y) (m := 2) (ykc_280 (e := (2, .iload 6, 0)) rfl) rfl rfl ?_
            refine w_zlt (ykc_280 (e := (4, .ifCond .lt 114, 181)) rfl) rfl (fun b1715 => ?_) (fun b1715 => ?_)
            · refine w_load (pc' := 182) (v := .ref 170) (m := 1) (ykc_280 (e := (2, .aload_n kF0, 0)) rfl) rfl rfl ?_
              refine w_gf (pc' := 185) (v := .ref 192) (ykc_280 (e := (5, .getfield 95, 0)) rfl) rfl ((hf5.1 170 38 (by decide) (by decide)).trans (zsg hS3 zs_170_38)) rfl ?_
              refine w_load (pc' := 186) (v := .int (zn fr)) (m := 1) (ykc_280 (e := (2, .iload_n kF1, 0)) rfl) rfl rfl ?_
              refine w_ialk (pc' := 187) (k := fr) (ykc_280 (e := (5, .iaload, 0)) rfl) (ha5 fr hfr) (by omega) rfl ?_
              refine w_ret (v := (some (.int (zn (fa fr))))) (ykc_280 (e := (7, .ireturn, 0)) rfl) (zr_v rfl) ?_
              rw [hQ]
              show zWy R C gl fr ov rk (Int8.ofInt (-2)).toInt32 _
              unfold zWy
              rw [if_neg (by rw [hrf, hrg]; decide)]
              exact Or.inl ⟨fa fr, hfin2.1, hfin2.2.1, hfin2.2.2, rfl⟩
            · refine w_alu (pc' := 71) (st' := [.int (Int32.ofInt (-1))]) (ykc_280 (e := (0, .iconst (-1), 0)) rfl) rfl rfl ?_
              refine w_store (pc' := 73) (L' := [some (.ref 170), some (.int (zn fr)), some (.int (zn gl)), some (.long x), none, some (.int c), some (.int y), some (.int (Int32.ofInt (-1))), o8, o9, o10]) (st' := []) (m := 2) (ykc_280 (e := (3, .istore 7, 0)) rfl) rfl rfl ?_
              refine w_alu (pc' := 74) (st' := [.int (Int32.ofInt 0)]) (ykc_280 (e := (0, .iconst 0, 0)) rfl) rfl rfl ?_
              refine w_store (pc' := 76) (L' := [some (.ref 170), some (.int (zn fr)), some (.int (zn gl)), some (.long x), none, some (.int c), some (.int y), some (.int (Int32.ofInt (-1))), some (.int (Int32.ofInt 0)), o9, o10]) (st' := []) (m := 2) (ykc_280 (e := (3, .istore 8, 0)) rfl) rfl rfl ?_
              have iho := ih
              have hj : ∀ (n6 : Nat), n6 ≤ n5 → ∀ (w : Nat) (a : Int32) (o9 o10 : Option Value), (w ≤ 8) → zW n6 D 280 Q 76 [some (.ref 170), some (.int (zn fr)), some (.int (zn gl)), some (.long x), none, some (.int c), some (.int y), some (.int a), some (.int (zn w)), o9, o10] [] ph5 := by
                intro n6
                induction n6 using Nat.strongRecOn with
                | ind n6 ih =>
                  intro hlim w a o9 o10 hw
                  have tw := znt (k := w) (by omega)
                  refine w_load (pc' := 78) (v := .int (zn w)) (m := 2) (ykc_280 (e := (2, .iload 8, 0)) rfl) rfl rfl ?_
                  refine w_push (pc' := 80) (v := .int ((Int8.ofInt 8).toInt32)) (m := 2) (ykc_280 (e := (1, .bipush 8, 0)) rfl) rfl rfl ?_
                  refine w_ige (ykc_280 (e := (4, .if_icmp .ge 84, 164)) rfl) rfl (fun b1716 => ?_) (fun b1716 => ?_)
                  · refine w_load (pc' := 166) (v := .int a) (m := 2) (ykc_280 (e := (2, .iload 7, 0)) rfl) rfl rfl ?_
                    refine w_store (pc' := 168) (L' := [some (.ref 170), some (.int (zn fr)), some (.int (zn gl)), some (.long x), none, some (.int a), some (.int y), some (.int a), some (.int (zn w)), o9, o10]) (st' := []) (m := 2) (ykc_280 (e := (3, .istore 5, 0)) rfl) rfl rfl ?_
                    refine w_load (pc' := 169) (v := .ref 170) (m := 1) (ykc_280 (e := (2, .aload_n kF0, 0)) rfl) rfl rfl ?_
                    refine w_load (pc' := 171) (v := .int a) (m := 2) (ykc_280 (e := (2, .iload 5, 0)) rfl) rfl rfl ?_
                    refine w_alu (pc' := 172) (st' := [.long a.toInt64, .ref 170]) (ykc_280 (e := (0, .i2l, 0)) rfl) rfl rfl ?_
                    refine w_cv (as := [.ref 170, .long a.toInt64]) (r := []) (ykc_280 (e := (6, .invokevirtual 373, 0)) rfl) rfl rfl rfl rfl (zm_entersB hS5 ht5 (by omega)) (fun v1717 ph1718 hv => ?_)
                    obtain ⟨rfl, f6, ht6⟩ := hv
                    show zW n6 D 280 Q 175 [some (.ref 170), some (.int (zn fr)), some (.int (zn gl)), some (.long x), none, some (.int a), some (.int y), some (.int a), some (.int (zn w)), o9, o10] [] ph1718
                    obtain ⟨z1719, e_z1719, h_z1719⟩ : ∃ zq : Int32, y + Int32.ofInt (-1) = zq ∧ zq.toInt = y.toInt + (-1 : Int) := ⟨_, rfl, zdecY (by omega) (by omega)⟩
                    refine w_store (pc' := 178) (L' := [some (.ref 170), some (.int (zn fr)), some (.int (zn gl)), some (.long x), none, some (.int a), some (.int z1719), some (.int a), some (.int (zn w)), o9, o10]) (st' := []) (m := 3) (ykc_280 (e := (3, .iinc 6 (-1), 0)) rfl) (by rw [← e_z1719]; rfl) rfl ?_
                    refine w_gb (ykc_280 (e := (4, .goto (-113), 65)) rfl) (fun k1720 hk1720 => ?_)
                    exact iho k1720 (by omega) (k - 1) _ _ _ _ _ _ _ (by omega) (by omega) (zFr_trans hf5 f6) (by rw [ht6, show fa fr - (k - 1) + 1 = fa fr - k + 1 + 1 by omega])
                    
                  · refine w_load (pc' := 84) (v := .ref 170) (m := 1) (ykc_280 (e := (2, .aload_n kF0, 0)) rfl) rfl rfl ?_
                    refine w_load (pc' := 86) (v := .int c) (m := 2) (ykc_280 (e := (2, .iload 5, 0)) rfl) rfl rfl ?_
                    refine w_load (pc' := 88) (v := .int (zn w)) (m := 2) (ykc_280 (e := (2, .iload 8, 0)) rfl) rfl rfl ?_
                    refine w_cv (as := [.ref 170, .int c, .int (zn w)]) (r := []) (ykc_280 (e := (6, .invokevirtual 353, 0)) rfl) rfl rfl rfl rfl (zm_besideA hS5 hL5 (y := c) (w := w) (by omega)) (fun v1721 ph1722 hv => ?_)
                    obtain ⟨rfl, z, rfl⟩ := hv
                    show zW n6 D 280 Q 91 [some (.ref 170), some (.int (zn fr)), some (.int (zn gl)), some (.long x), none, some (.int c), some (.int y), some (.int a), some (.int (zn w)), o9, o10] [.int z] ph5
                    refine w_store (pc' := 93) (L' := [some (.ref 170), some (.int (zn fr)), some (.int (zn gl)), some (.long x), none, some (.int c), some (.int y), some (.int a), some (.int (zn w)), some (.int z), o10]) (st' := []) (m := 2) (ykc_280 (e := (3, .istore 9, 0)) rfl) rfl rfl ?_
                    refine w_load (pc' := 95) (v := .int z) (m := 2) (ykc_280 (e := (2, .iload 9, 0)) rfl) rfl rfl ?_
                    refine w_zlt (ykc_280 (e := (4, .ifCond .lt 34, 129)) rfl) rfl (fun b1723 => ?_) (fun b1723 => ?_)
                    · refine w_alu (pc' := 130) (st' := [.int (Int32.ofInt 0)]) (ykc_280 (e := (0, .iconst 0, 0)) rfl) rfl rfl ?_
                      refine w_store (pc' := 132) (L' := [some (.ref 170), some (.int (zn fr)), some (.int (zn gl)), some (.long x), none, some (.int c), some (.int y), some (.int a), some (.int (zn w)), some (.int z), some (.int (Int32.ofInt 0))]) (st' := []) (m := 2) (ykc_280 (e := (3, .istore 10, 0)) rfl) rfl rfl ?_
                      refine w_load (pc' := 134) (v := .int (Int32.ofInt 0)) (m := 2) (ykc_280 (e := (2, .iload 10, 0)) rfl) rfl rfl ?_
                      refine w_zeq (ykc_280 (e := (4, .ifCond .eq 20, 154)) rfl) rfl (fun b1724 => ?_) (fun q => by exfalso; omega)
                      refine w_load (pc' := 156) (v := .int a) (m := 2) (ykc_280 (e := (2, .iload 7, 0)) rfl) rfl rfl ?_
                      refine w_store (pc' := 158) (L' := [some (.ref 170), some (.int (zn fr)), some (.int (zn gl)), some (.long x), none, some (.int c), some (.int y), some (.int a), some (.int (zn w)), some (.int z), some (.int (Int32.ofInt 0))]) (st' := []) (m := 2) (ykc_280 (e := (3, .istore 7, 0)) rfl) rfl rfl ?_
                      have e1725 : (zn w) + Int32.ofInt 1 = zn (w + 1) := (zaddN (a := w) (b := 1) (znt (by omega)) c_5 (by omega))
                      have te1725 := znt (k := w + 1) (by omega)
                      refine w_store (pc' := 161) (L' := [some (.ref 170), some (.int (zn fr)), some (.int (zn gl)), some (.long x), none, some (.int c), some (.int y), some (.int a), some (.int (zn (w + 1))), some (.int z), some (.int (Int32.ofInt 0))]) (st' := []) (m := 3) (ykc_280 (e := (3, .iinc 8 1, 0)) rfl) (by rw [← e1725]; rfl) rfl ?_
                      refine w_gb (ykc_280 (e := (4, .goto (-85), 76)) rfl) (fun k1726 hk1726 => ?_)
                      exact ih k1726 hk1726 (by omega) (w + 1) _ _ _ (by omega)
                    · refine w_load (pc' := 99) (v := .ref 170) (m := 1) (ykc_280 (e := (2, .aload_n kF0, 0)) rfl) rfl rfl ?_
                      refine w_gf (pc' := 102) (v := .ref 192) (ykc_280 (e := (5, .getfield 95, 0)) rfl) rfl ((hf5.1 170 38 (by decide) (by decide)).trans (zsg hS3 zs_170_38)) rfl ?_
                      refine w_load (pc' := 104) (v := .int z) (m := 2) (ykc_280 (e := (2, .iload 9, 0)) rfl) rfl rfl ?_
                      refine w_ial (pc' := 105) (k := z.toInt.toNat) (ykc_280 (e := (5, .iaload, 0)) rfl) rfl (by omega) rfl (fun fz g_fz => ?_)
                      refine w_load (pc' := 107) (v := .int y) (m := 2) (ykc_280 (e := (2, .iload 6, 0)) rfl) rfl rfl ?_
                      refine w_ine (ykc_280 (e := (4, .if_icmp .ne 22, 129)) rfl) rfl (fun b1727 => ?_) (fun b1727 => ?_)
                      · refine w_alu (pc' := 130) (st' := [.int (Int32.ofInt 0)]) (ykc_280 (e := (0, .iconst 0, 0)) rfl) rfl rfl ?_
                        refine w_store (pc' := 132) (L' := [some (.ref 170), some (.int (zn fr)), some (.int (zn gl)), some (.long x), none, some (.int c), some (.int y), some (.int a), some (.int (zn w)), some (.int z), some (.int (Int32.ofInt 0))]) (st' := []) (m := 2) (ykc_280 (e := (3, .istore 10, 0)) rfl) rfl rfl ?_
                        refine w_load (pc' := 134) (v := .int (Int32.ofInt 0)) (m := 2) (ykc_280 (e := (2, .iload 10, 0)) rfl) rfl rfl ?_
                        refine w_zeq (ykc_280 (e := (4, .ifCond .eq 20, 154)) rfl) rfl (fun b1728 => ?_) (fun q => by exfalso; omega)
                        refine w_load (pc' := 156) (v := .int a) (m := 2) (ykc_280 (e := (2, .iload 7, 0)) rfl) rfl rfl ?_
                        refine w_store (pc' := 158) (L' := [some (.ref 170), some (.int (zn fr)), some (.int (zn gl)), some (.long x), none, some (.int c), some (.int y), some (.int a), some (.int (zn w)), some (.int z), some (.int (Int32.ofInt 0))]) (st' := []) (m := 2) (ykc_280 (e := (3, .istore 7, 0)) rfl) rfl rfl ?_
                        have e1729 : (zn w) + Int32.ofInt 1 = zn (w + 1) := (zaddN (a := w) (b := 1) (znt (by omega)) c_5 (by omega))
                        have te1729 := znt (k := w + 1) (by omega)
                        refine w_store (pc' := 161) (L' := [some (.ref 170), some (.int (zn fr)), some (.int (zn gl)), some (.long x), none, some (.int c), some (.int y), some (.int a), some (.int (zn (w + 1))), some (.int z), some (.int (Int32.ofInt 0))]) (st' := []) (m := 3) (ykc_280 (e := (3, .iinc 8 1, 0)) rfl) (by rw [← e1729]; rfl) rfl ?_
                        refine w_gb (ykc_280 (e := (4, .goto (-85), 76)) rfl) (fun k1730 hk1730 => ?_)
                        exact ih k1730 hk1730 (by omega) (w + 1) _ _ _ (by omega)
                      · refine w_load (pc' := 112) (v := .int z) (m := 2) (ykc_280 (e := (2, .iload 9, 0)) rfl) rfl rfl ?_
                        refine w_load (pc' := 113) (v := .int (zn gl)) (m := 1) (ykc_280 (e := (2, .iload_n kF2, 0)) rfl) rfl rfl ?_
                        refine w_ieq (ykc_280 (e := (4, .if_icmp .eq 12, 125)) rfl) rfl (fun b1731 => ?_) (fun b1731 => ?_)
                        · refine w_alu (pc' := 126) (st' := [.int (Int32.ofInt 1)]) (ykc_280 (e := (0, .iconst 1, 0)) rfl) rfl rfl ?_
                          refine w_br (pc' := 130) (st' := [.int (Int32.ofInt 1)]) (ykc_280 (e := (4, .goto 4, 130)) rfl) rfl ?_
                          refine w_store (pc' := 132) (L' := [some (.ref 170), some (.int (zn fr)), some (.int (zn gl)), some (.long x), none, some (.int c), some (.int y), some (.int a), some (.int (zn w)), some (.int z), some (.int (Int32.ofInt 1))]) (st' := []) (m := 2) (ykc_280 (e := (3, .istore 10, 0)) rfl) rfl rfl ?_
                          refine w_load (pc' := 134) (v := .int (Int32.ofInt 1)) (m := 2) (ykc_280 (e := (2, .iload 10, 0)) rfl) rfl rfl ?_
                          refine w_zeq (ykc_280 (e := (4, .ifCond .eq 20, 154)) rfl) rfl (fun q => by exfalso; omega) (fun b1732 => ?_)
                          refine w_load (pc' := 139) (v := .int a) (m := 2) (ykc_280 (e := (2, .iload 7, 0)) rfl) rfl rfl ?_
                          refine w_zlt (ykc_280 (e := (4, .ifCond .lt 10, 149)) rfl) rfl (fun b1733 => ?_) (fun b1733 => ?_)
                          · refine w_load (pc' := 151) (v := .int z) (m := 2) (ykc_280 (e := (2, .iload 9, 0)) rfl) rfl rfl ?_
                            refine w_br (pc' := 156) (st' := [.int z]) (ykc_280 (e := (4, .goto 5, 156)) rfl) rfl ?_
                            refine w_store (pc' := 158) (L' := [some (.ref 170), some (.int (zn fr)), some (.int (zn gl)), some (.long x), none, some (.int c), some (.int y), some (.int z), some (.int (zn w)), some (.int z), some (.int (Int32.ofInt 1))]) (st' := []) (m := 2) (ykc_280 (e := (3, .istore 7, 0)) rfl) rfl rfl ?_
                            have e1734 : (zn w) + Int32.ofInt 1 = zn (w + 1) := (zaddN (a := w) (b := 1) (znt (by omega)) c_5 (by omega))
                            have te1734 := znt (k := w + 1) (by omega)
                            refine w_store (pc' := 161) (L' := [some (.ref 170), some (.int (zn fr)), some (.int (zn gl)), some (.long x), none, some (.int c), some (.int y), some (.int z), some (.int (zn (w + 1))), some (.int z), some (.int (Int32.ofInt 1))]) (st' := []) (m := 3) (ykc_280 (e := (3, .iinc 8 1, 0)) rfl) (by rw [← e1734]; rfl) rfl ?_
                            refine w_gb (ykc_280 (e := (4, .goto (-85), 76)) rfl) (fun k1735 hk1735 => ?_)
                            exact ih k1735 hk1735 (by omega) (w + 1) _ _ _ (by omega)
                          · refine w_load (pc' := 144) (v := .int z) (m := 2) (ykc_280 (e := (2, .iload 9, 0)) rfl) rfl rfl ?_
                            refine w_load (pc' := 146) (v := .int a) (m := 2) (ykc_280 (e := (2, .iload 7, 0)) rfl) rfl rfl ?_
                            refine w_ige (ykc_280 (e := (4, .if_icmp .ge 8, 154)) rfl) rfl (fun b1736 => ?_) (fun b1736 => ?_)
                            · refine w_load (pc' := 156) (v := .int a) (m := 2) (ykc_280 (e := (2, .iload 7, 0)) rfl) rfl rfl ?_
                              refine w_store (pc' := 158) (L' := [some (.ref 170), some (.int (zn fr)), some (.int (zn gl)), some (.long x), none, some (.int c), some (.int y), some (.int a), some (.int (zn w)), some (.int z), some (.int (Int32.ofInt 1))]) (st' := []) (m := 2) (ykc_280 (e := (3, .istore 7, 0)) rfl) rfl rfl ?_
                              have e1737 : (zn w) + Int32.ofInt 1 = zn (w + 1) := (zaddN (a := w) (b := 1) (znt (by omega)) c_5 (by omega))
                              have te1737 := znt (k := w + 1) (by omega)
                              refine w_store (pc' := 161) (L' := [some (.ref 170), some (.int (zn fr)), some (.int (zn gl)), some (.long x), none, some (.int c), some (.int y), some (.int a), some (.int (zn (w + 1))), some (.int z), some (.int (Int32.ofInt 1))]) (st' := []) (m := 3) (ykc_280 (e := (3, .iinc 8 1, 0)) rfl) (by rw [← e1737]; rfl) rfl ?_
                              refine w_gb (ykc_280 (e := (4, .goto (-85), 76)) rfl) (fun k1738 hk1738 => ?_)
                              exact ih k1738 hk1738 (by omega) (w + 1) _ _ _ (by omega)
                            · refine w_load (pc' := 151) (v := .int z) (m := 2) (ykc_280 (e := (2, .iload 9, 0)) rfl) rfl rfl ?_
                              refine w_br (pc' := 156) (st' := [.int z]) (ykc_280 (e := (4, .goto 5, 156)) rfl) rfl ?_
                              refine w_store (pc' := 158) (L' := [some (.ref 170), some (.int (zn fr)), some (.int (zn gl)), some (.long x), none, some (.int c), some (.int y), some (.int z), some (.int (zn w)), some (.int z), some (.int (Int32.ofInt 1))]) (st' := []) (m := 2) (ykc_280 (e := (3, .istore 7, 0)) rfl) rfl rfl ?_
                              have e1739 : (zn w) + Int32.ofInt 1 = zn (w + 1) := (zaddN (a := w) (b := 1) (znt (by omega)) c_5 (by omega))
                              have te1739 := znt (k := w + 1) (by omega)
                              refine w_store (pc' := 161) (L' := [some (.ref 170), some (.int (zn fr)), some (.int (zn gl)), some (.long x), none, some (.int c), some (.int y), some (.int z), some (.int (zn (w + 1))), some (.int z), some (.int (Int32.ofInt 1))]) (st' := []) (m := 3) (ykc_280 (e := (3, .iinc 8 1, 0)) rfl) (by rw [← e1739]; rfl) rfl ?_
                              refine w_gb (ykc_280 (e := (4, .goto (-85), 76)) rfl) (fun k1740 hk1740 => ?_)
                              exact ih k1740 hk1740 (by omega) (w + 1) _ _ _ (by omega)
                        · refine w_load (pc' := 117) (v := .long x) (m := 1) (ykc_280 (e := (2, .lload_n kF3, 0)) rfl) rfl rfl ?_
                          refine w_load (pc' := 119) (v := .int z) (m := 2) (ykc_280 (e := (2, .iload 9, 0)) rfl) rfl rfl ?_
                          refine w_cs (as := [.long x, .int z]) (r := []) (ykc_280 (e := (6, .invokestatic 304, 0)) rfl) rfl rfl rfl rfl (zm_hasA (x := x) (k := z)) (fun v1741 ph1742 hv => ?_)
                          obtain ⟨rfl, b9, rfl⟩ := hv
                          show zW n6 D 280 Q 122 [some (.ref 170), some (.int (zn fr)), some (.int (zn gl)), some (.long x), none, some (.int c), some (.int y), some (.int a), some (.int (zn w)), some (.int z), o10] [.int (zI b9)] ph5
                          refine w_beq (ykc_280 (e := (4, .ifCond .eq 7, 129)) rfl) rfl (fun b1743 => ?_) (fun b1743 => ?_)
                          · refine w_alu (pc' := 130) (st' := [.int (Int32.ofInt 0)]) (ykc_280 (e := (0, .iconst 0, 0)) rfl) rfl rfl ?_
                            refine w_store (pc' := 132) (L' := [some (.ref 170), some (.int (zn fr)), some (.int (zn gl)), some (.long x), none, some (.int c), some (.int y), some (.int a), some (.int (zn w)), some (.int z), some (.int (Int32.ofInt 0))]) (st' := []) (m := 2) (ykc_280 (e := (3, .istore 10, 0)) rfl) rfl rfl ?_
                            refine w_load (pc' := 134) (v := .int (Int32.ofInt 0)) (m := 2) (ykc_280 (e := (2, .iload 10, 0)) rfl) rfl rfl ?_
                            refine w_zeq (ykc_280 (e := (4, .ifCond .eq 20, 154)) rfl) rfl (fun b1744 => ?_) (fun q => by exfalso; omega)
                            refine w_load (pc' := 156) (v := .int a) (m := 2) (ykc_280 (e := (2, .iload 7, 0)) rfl) rfl rfl ?_
                            refine w_store (pc' := 158) (L' := [some (.ref 170), some (.int (zn fr)), some (.int (zn gl)), some (.long x), none, some (.int c), some (.int y), some (.int a), some (.int (zn w)), some (.int z), some (.int (Int32.ofInt 0))]) (st' := []) (m := 2) (ykc_280 (e := (3, .istore 7, 0)) rfl) rfl rfl ?_
                            have e1745 : (zn w) + Int32.ofInt 1 = zn (w + 1) := (zaddN (a := w) (b := 1) (znt (by omega)) c_5 (by omega))
                            have te1745 := znt (k := w + 1) (by omega)
                            refine w_store (pc' := 161) (L' := [some (.ref 170), some (.int (zn fr)), some (.int (zn gl)), some (.long x), none, some (.int c), some (.int y), some (.int a), some (.int (zn (w + 1))), some (.int z), some (.int (Int32.ofInt 0))]) (st' := []) (m := 3) (ykc_280 (e := (3, .iinc 8 1, 0)) rfl) (by rw [← e1745]; rfl) rfl ?_
                            refine w_gb (ykc_280 (e := (4, .goto (-85), 76)) rfl) (fun k1746 hk1746 => ?_)
                            exact ih k1746 hk1746 (by omega) (w + 1) _ _ _ (by omega)
                          · refine w_alu (pc' := 126) (st' := [.int (Int32.ofInt 1)]) (ykc_280 (e := (0, .iconst 1, 0)) rfl) rfl rfl ?_
                            refine w_br (pc' := 130) (st' := [.int (Int32.ofInt 1)]) (ykc_280 (e := (4, .goto 4, 130)) rfl) rfl ?_
                            refine w_store (pc' := 132) (L' := [some (.ref 170), some (.int (zn fr)), some (.int (zn gl)), some (.long x), none, some (.int c), some (.int y), some (.int a), some (.int (zn w)), some (.int z), some (.int (Int32.ofInt 1))]) (st' := []) (m := 2) (ykc_280 (e := (3, .istore 10, 0)) rfl) rfl rfl ?_
                            refine w_load (pc' := 134) (v := .int (Int32.ofInt 1)) (m := 2) (ykc_280 (e := (2, .iload 10, 0)) rfl) rfl rfl ?_
                            refine w_zeq (ykc_280 (e := (4, .ifCond .eq 20, 154)) rfl) rfl (fun q => by exfalso; omega) (fun b1747 => ?_)
                            refine w_load (pc' := 139) (v := .int a) (m := 2) (ykc_280 (e := (2, .iload 7, 0)) rfl) rfl rfl ?_
                            refine w_zlt (ykc_280 (e := (4, .ifCond .lt 10, 149)) rfl) rfl (fun b1748 => ?_) (fun b1748 => ?_)
                            · refine w_load (pc' := 151) (v := .int z) (m := 2) (ykc_280 (e := (2, .iload 9, 0)) rfl) rfl rfl ?_
                              refine w_br (pc' := 156) (st' := [.int z]) (ykc_280 (e := (4, .goto 5, 156)) rfl) rfl ?_
                              refine w_store (pc' := 158) (L' := [some (.ref 170), some (.int (zn fr)), some (.int (zn gl)), some (.long x), none, some (.int c), some (.int y), some (.int z), some (.int (zn w)), some (.int z), some (.int (Int32.ofInt 1))]) (st' := []) (m := 2) (ykc_280 (e := (3, .istore 7, 0)) rfl) rfl rfl ?_
                              have e1749 : (zn w) + Int32.ofInt 1 = zn (w + 1) := (zaddN (a := w) (b := 1) (znt (by omega)) c_5 (by omega))
                              have te1749 := znt (k := w + 1) (by omega)
                              refine w_store (pc' := 161) (L' := [some (.ref 170), some (.int (zn fr)), some (.int (zn gl)), some (.long x), none, some (.int c), some (.int y), some (.int z), some (.int (zn (w + 1))), some (.int z), some (.int (Int32.ofInt 1))]) (st' := []) (m := 3) (ykc_280 (e := (3, .iinc 8 1, 0)) rfl) (by rw [← e1749]; rfl) rfl ?_
                              refine w_gb (ykc_280 (e := (4, .goto (-85), 76)) rfl) (fun k1750 hk1750 => ?_)
                              exact ih k1750 hk1750 (by omega) (w + 1) _ _ _ (by omega)
                            · refine w_load (pc' := 144) (v := .int z) (m := 2) (ykc_280 (e := (2, .iload 9, 0)) rfl) rfl rfl ?_
                              refine w_load (pc' := 146) (v := .int a) (m := 2) (ykc_280 (e := (2, .iload 7, 0)) rfl) rfl rfl ?_
                              refine w_ige (ykc_280 (e := (4, .if_icmp .ge 8, 154)) rfl) rfl (fun b1751 => ?_) (fun b1751 => ?_)
                              · refine w_load (pc' := 156) (v := .int a) (m := 2) (ykc_280 (e := (2, .iload 7, 0)) rfl) rfl rfl ?_
                                refine w_store (pc' := 158) (L' := [some (.ref 170), some (.int (zn fr)), some (.int (zn gl)), some (.long x), none, some (.int c), some (.int y), some (.int a), some (.int (zn w)), some (.int z), some (.int (Int32.ofInt 1))]) (st' := []) (m := 2) (ykc_280 (e := (3, .istore 7, 0)) rfl) rfl rfl ?_
                                have e1752 : (zn w) + Int32.ofInt 1 = zn (w + 1) := (zaddN (a := w) (b := 1) (znt (by omega)) c_5 (by omega))
                                have te1752 := znt (k := w + 1) (by omega)
                                refine w_store (pc' := 161) (L' := [some (.ref 170), some (.int (zn fr)), some (.int (zn gl)), some (.long x), none, some (.int c), some (.int y), some (.int a), some (.int (zn (w + 1))), some (.int z), some (.int (Int32.ofInt 1))]) (st' := []) (m := 3) (ykc_280 (e := (3, .iinc 8 1, 0)) rfl) (by rw [← e1752]; rfl) rfl ?_
                                refine w_gb (ykc_280 (e := (4, .goto (-85), 76)) rfl) (fun k1753 hk1753 => ?_)
                                exact ih k1753 hk1753 (by omega) (w + 1) _ _ _ (by omega)
                              · refine w_load (pc' := 151) (v := .int z) (m := 2) (ykc_280 (e := (2, .iload 9, 0)) rfl) rfl rfl ?_
                                refine w_br (pc' := 156) (st' := [.int z]) (ykc_280 (e := (4, .goto 5, 156)) rfl) rfl ?_
                                refine w_store (pc' := 158) (L' := [some (.ref 170), some (.int (zn fr)), some (.int (zn gl)), some (.long x), none, some (.int c), some (.int y), some (.int z), some (.int (zn w)), some (.int z), some (.int (Int32.ofInt 1))]) (st' := []) (m := 2) (ykc_280 (e := (3, .istore 7, 0)) rfl) rfl rfl ?_
                                have e1754 : (zn w) + Int32.ofInt 1 = zn (w + 1) := (zaddN (a := w) (b := 1) (znt (by omega)) c_5 (by omega))
                                have te1754 := znt (k := w + 1) (by omega)
                                refine w_store (pc' := 161) (L' := [some (.ref 170), some (.int (zn fr)), some (.int (zn gl)), some (.long x), none, some (.int c), some (.int y), some (.int z), some (.int (zn (w + 1))), some (.int z), some (.int (Int32.ofInt 1))]) (st' := []) (m := 3) (ykc_280 (e := (3, .iinc 8 1, 0)) rfl) (by rw [← e1754]; rfl) rfl ?_
                                refine w_gb (ykc_280 (e := (4, .goto (-85), 76)) rfl) (fun k1755 hk1755 => ?_)
                                exact ih k1755 hk1755 (by omega) (w + 1) _ _ _ (by omega)
              exact hj n5 (Nat.le_refl _) 0 _ _ _ (Nat.zero_le 8)
        exact hl n (fa fr) _ _ _ _ _ _ ph1713 (Nat.le_refl _) (by omega) zFr_refl (by rw [f52_t, Nat.sub_self])
      · refine w_push (pc' := 39) (v := .int ((Int8.ofInt (-2)).toInt32)) (m := 2) (ykc_280 (e := (1, .bipush (-2), 0)) rfl) rfl rfl ?_
        refine w_ret (v := (some (.int ((Int8.ofInt (-2)).toInt32)))) (ykc_280 (e := (7, .ireturn, 0)) rfl) (zr_v rfl) ?_
        rw [hQ]
        show zWy R C gl fr ov rk (Int8.ofInt (-2)).toInt32 _
        unfold zWy
        rw [if_neg (by rw [hrf, hrg]; decide)]
        rcases hfin with ⟨-, h⟩ | ⟨h, -⟩
        · exact Or.inr ⟨h, rfl⟩
        · exact absurd h (by omega)
theorem zm_backX {ph : pm_H} {E : zEn} {P G : Nat} {v : Nat → Nat} (hS : zSh ph) (hE : zMe ph E) (hN : zMp ph P G) (hv : zNr ph 174 0 v) (hO : zOk E.1 E.2.1 P G v) {x y : Int32} (hs : ∀ f t, f < E.1 * E.2.1 → t < E.1 * E.2.1 → E.2.2.1 f = false → E.2.2.1 t = false → x = zn f → y = zn t → zHsr E.1 E.2.1 t f (fun g => (fun g => !(zb (zAll E P v) g)) g = true ∧ E.2.2.1 g = false)) : zM 281 [.ref 170, .int x, .int y] ph (fun v0 _ => zBk E (fun g => !(zb (zAll E P v) g)) x y v0) := by
  obtain ⟨Q, hQ⟩ : ∃ Q : Option Value → pm_H → Prop, Q = (fun v0 _ => zBk E (fun g => !(zb (zAll E P v) g)) x y v0) := ⟨_, rfl⟩
  rw [← hQ]
  refine zM_mk fun n D => ?_
  show zW n D 281 Q 0 [some (.ref 170), some (.int x), some (.int y)] [] ph
  have c_0 : (Int32.ofInt (-1)).toInt = -1 := by decide
  have c_1 : (Int32.ofInt 0).toInt = 0 := by decide
  have hA : (174 : Nat) = 174 ∨ (174 : Nat) = 175 := Or.inl rfl
  obtain ⟨R, C, rk, sn, sk, cn, cd⟩ := E
  have hL0 : zMl ph R C rk := hE.1
  have hR0 : zMr ph sn sk cn cd := hE.2.1
  have hcg : zcg cn cd := hE.2.2
  have hE0 : zMe ph (R, C, rk, sn, sk, cn, cd) := hE
  have hO0 : zOk R C P G v := hO
  have hN0 := hN
  have hL := hL0
  have hR := hR0
  obtain ⟨gR, gC, gK, hR3, hR7, hC3, hC7⟩ := hL
  have hRC := zRC49 hR7 hC7
  have tR := znt (k := R) (by omega)
  have tC := znt (k := C) (by omega)
  obtain ⟨gP, hP8, gG, hG8⟩ := hN
  have tP := znt (k := P) (by omega)
  have tG := znt (k := G) (by omega)
  obtain ⟨gsn, hs1, hs20, gsk, gcn, hc40, gcd⟩ := hR
  have tsn := znt (k := sn) (by omega)
  have tcn := znt (k := cn) (by omega)
  refine w_load (pc' := 1) (v := .ref 170) (m := 1) (ykc_281 (e := (2, .aload_n kF0, 0)) rfl) rfl rfl ?_
  refine w_alu (pc' := 2) (st' := [.int (Int32.ofInt 0), .ref 170]) (ykc_281 (e := (0, .iconst 0, 0)) rfl) rfl rfl ?_
  refine w_pf (pc' := 5) (ykc_281 (e := (5, .putfield 3, 0)) rfl) rfl rfl (fun ph1757 u1756 => ?_)
  have f0 : zFr [] [(170, 0)] ph ph1757 := zFr_st u1756 (Or.inr (by simp))
  have hS1 := zSh_st u1756 (by decide +kernel) hS
  have hE1 : zMe ph1757 (R, C, rk, sn, sk, cn, cd) := ⟨zMl_F f0 (by simp) (by simp) (by simp) (by simp) hE0.1, zMr_F f0 (by simp) (by simp) (by simp) (by simp) hE0.2.1, hE0.2.2⟩
  have hN1 := zMp_F f0 (by simp) (by simp) (by simp) hN0
  have hv1 := zNr_F f0 (by simp) (by simp) hv
  have hL1 : zMl ph1757 R C rk := hE1.1
  have hR1 : zMr ph1757 sn sk cn cd := hE1.2.1
  have hN9 : R * C ≤ 49 := hRC
  refine w_load (pc' := 6) (v := .ref 170) (m := 1) (ykc_281 (e := (2, .aload_n kF0, 0)) rfl) rfl rfl ?_
  refine w_load (pc' := 7) (v := .int x) (m := 1) (ykc_281 (e := (2, .iload_n kF1, 0)) rfl) rfl rfl ?_
  refine w_cv (as := [.ref 170, .int x]) (r := []) (ykc_281 (e := (6, .invokevirtual 358, 0)) rfl) rfl rfl rfl rfl (zm_isField hS1 hL1 (f := x)) (fun v1758 ph1759 hv => ?_)
  obtain ⟨rfl, rfl⟩ := hv
  show zW n D 281 Q 10 [some (.ref 170), some (.int x), some (.int y)] [.int (zI (decide (0 ≤ x.toInt ∧ x.toInt < ((R * C : Nat) : Int))))] ph1757
  refine w_beq (ykc_281 (e := (4, .ifCond .eq 37, 47)) rfl) rfl (fun b1760 => ?_) (fun b1760 => ?_)
  · refine w_alu (pc' := 48) (st' := [.int (Int32.ofInt (-1))]) (ykc_281 (e := (0, .iconst (-1), 0)) rfl) rfl rfl ?_
    refine w_ret (v := (some (.int (Int32.ofInt (-1))))) (ykc_281 (e := (7, .ireturn, 0)) rfl) (zr_v rfl) ?_
    rw [hQ]
    exact zBk_n (E := (R, C, rk, sn, sk, cn, cd)) (fun q => absurd q.1 (of_decide_eq_false b1760))
  · refine w_load (pc' := 14) (v := .ref 170) (m := 1) (ykc_281 (e := (2, .aload_n kF0, 0)) rfl) rfl rfl ?_
    refine w_load (pc' := 15) (v := .int y) (m := 1) (ykc_281 (e := (2, .iload_n kF2, 0)) rfl) rfl rfl ?_
    refine w_cv (as := [.ref 170, .int y]) (r := []) (ykc_281 (e := (6, .invokevirtual 358, 0)) rfl) rfl rfl rfl rfl (zm_isField hS1 hL1 (f := y)) (fun v1761 ph1762 hv => ?_)
    obtain ⟨rfl, rfl⟩ := hv
    show zW n D 281 Q 18 [some (.ref 170), some (.int x), some (.int y)] [.int (zI (decide (0 ≤ y.toInt ∧ y.toInt < ((R * C : Nat) : Int))))] ph1757
    refine w_beq (ykc_281 (e := (4, .ifCond .eq 29, 47)) rfl) rfl (fun b1763 => ?_) (fun b1763 => ?_)
    · refine w_alu (pc' := 48) (st' := [.int (Int32.ofInt (-1))]) (ykc_281 (e := (0, .iconst (-1), 0)) rfl) rfl rfl ?_
      refine w_ret (v := (some (.int (Int32.ofInt (-1))))) (ykc_281 (e := (7, .ireturn, 0)) rfl) (zr_v rfl) ?_
      rw [hQ]
      exact zBk_n (E := (R, C, rk, sn, sk, cn, cd)) (fun q => absurd q.2 (of_decide_eq_false b1763))
    · have b_x := of_decide_eq_true b1760
      have b_y := of_decide_eq_true b1763
      obtain ⟨f, h_f, rfl⟩ : ∃ k : Nat, k < R * C ∧ x = zn k := ⟨x.toInt.toNat, by omega, zn_of (by omega)⟩
      obtain ⟨t, h_t, rfl⟩ : ∃ k : Nat, k < R * C ∧ y = zn k := ⟨y.toInt.toNat, by omega, zn_of (by omega)⟩
      have tf := znt (k := f) (by omega)
      have tt := znt (k := t) (by omega)
      show zW n D 281 Q 21 [some (.ref 170), some (.int (zn f)), some (.int (zn t))] [] ph1757
      refine w_load (pc' := 22) (v := .ref 170) (m := 1) (ykc_281 (e := (2, .aload_n kF0, 0)) rfl) rfl rfl ?_
      refine w_load (pc' := 23) (v := .int (zn f)) (m := 1) (ykc_281 (e := (2, .iload_n kF1, 0)) rfl) rfl rfl ?_
      refine w_load (pc' := 24) (v := .int (zn t)) (m := 1) (ykc_281 (e := (2, .iload_n kF2, 0)) rfl) rfl rfl ?_
      refine w_load (pc' := 25) (v := .ref 170) (m := 1) (ykc_281 (e := (2, .aload_n kF0, 0)) rfl) rfl rfl ?_
      refine w_cv (as := [.ref 170]) (r := [.int (zn t), .int (zn f), .ref 170]) (ykc_281 (e := (6, .invokevirtual 413, 0)) rfl) rfl rfl rfl rfl (zm_free hS1 hL1) (fun v1764 ph1765 hv => ?_)
      obtain ⟨rfl, rfl⟩ := hv
      show zW n D 281 Q 28 [some (.ref 170), some (.int (zn f)), some (.int (zn t))] [.long (zFree rk (R * C)), .int (zn t), .int (zn f), .ref 170] ph1757
      refine w_load (pc' := 29) (v := .ref 170) (m := 1) (ykc_281 (e := (2, .aload_n kF0, 0)) rfl) rfl rfl ?_
      refine w_load (pc' := 30) (v := .ref 170) (m := 1) (ykc_281 (e := (2, .aload_n kF0, 0)) rfl) rfl rfl ?_
      refine w_gf (pc' := 33) (v := .ref 174) (ykc_281 (e := (5, .getfield 41, 0)) rfl) rfl ((u1756.2.1 170 11 (fun q => absurd q.2 (by decide))).trans (zsg hS zs_170_11)) rfl ?_
      refine w_cv (as := [.ref 170, .ref 174]) (r := [.long (zFree rk (R * C)), .int (zn t), .int (zn f), .ref 170]) (ykc_281 (e := (6, .invokevirtual 417, 0)) rfl) rfl rfl rfl rfl (zm_all hS1 hE1 hN1 (⟨hA, hv1⟩ : ((174 : Nat) = 174 ∨ (174 : Nat) = 175) ∧ zNr ph1757 174 0 v).1 (⟨hA, hv1⟩ : ((174 : Nat) = 174 ∨ (174 : Nat) = 175) ∧ zNr ph1757 174 0 v).2 hO0) (fun v1767 ph1768 hv => ?_)
      obtain ⟨f1766, rfl⟩ := hv
      show zW n D 281 Q 36 [some (.ref 170), some (.int (zn f)), some (.int (zn t))] [.long (zAll (R, C, rk, sn, sk, cn, cd) P v), .long (zFree rk (R * C)), .int (zn t), .int (zn f), .ref 170] ph1768
      refine w_push (pc' := 39) (v := .long (-1 : Int64)) (m := 3) (ykc_281 (e := (1, .ldc2_w 403, 0)) rfl) rfl rfl ?_
      refine w_alu (pc' := 40) (st' := [.long ((zAll (R, C, rk, sn, sk, cn, cd) P v) ^^^ (-1 : Int64)), .long (zFree rk (R * C)), .int (zn t), .int (zn f), .ref 170]) (ykc_281 (e := (0, .lxor, 0)) rfl) rfl rfl ?_
      refine w_alu (pc' := 41) (st' := [.long ((zFree rk (R * C)) &&& ((zAll (R, C, rk, sn, sk, cn, cd) P v) ^^^ (-1 : Int64))), .int (zn t), .int (zn f), .ref 170]) (ykc_281 (e := (0, .land, 0)) rfl) rfl rfl ?_
      refine w_cv (as := [.ref 170, .int (zn f), .int (zn t), .long ((zFree rk (R * C)) &&& ((zAll (R, C, rk, sn, sk, cn, cd) P v) ^^^ (-1 : Int64)))]) (r := []) (ykc_281 (e := (6, .invokevirtual 450, 0)) rfl) rfl rfl rfl rfl (zm_wayR (zSc_S f1766 hS1) (zSc_l f1766 hL1) (fr := f) (gl := t) (x := (zFree rk (R * C)) &&& ((zAll (R, C, rk, sn, sk, cn, cd) P v) ^^^ (-1 : Int64))) (ov := (fun g => (fun g => !(zb (zAll (R, C, rk, sn, sk, cn, cd) P v) g)) g = true ∧ rk g = false)) h_f h_t (fun g hg => by show _ ↔ (!(zb (zAll (R, C, rk, sn, sk, cn, cd) P v) g)) = true ∧ rk g = false; rw [zb_and, zb_xor, zbm1 g (Nat.lt_of_lt_of_le (show g < R * C from hg) (Nat.le_trans hRC (by decide)))]; unfold zFree; rw [zS_b (by omega) (by omega), decide_eq_true hg]; cases zb (zAll (R, C, rk, sn, sk, cn, cd) P v) g <;> cases rk g <;> simp) (fun a b => hs f t h_f h_t a b rfl rfl)) (fun v1769 ph1770 hv => ?_)
      have hv9 := hv
      obtain ⟨z, rfl⟩ := zWy_i hv9
      show zW n D 281 Q 44 [some (.ref 170), some (.int (zn f)), some (.int (zn t))] [.int z] ph1770
      refine w_br (pc' := 48) (st' := [.int z]) (ykc_281 (e := (4, .goto 4, 48)) rfl) rfl ?_
      refine w_ret (v := (some (.int z))) (ykc_281 (e := (7, .ireturn, 0)) rfl) (zr_v rfl) ?_
      rw [hQ]
      exact zBk_p hN9 h_f h_t hv9
theorem zm_openX {ph : pm_H} {E : zEn} {P G : Nat} {v : Nat → Nat} (hS : zSh ph) (hE : zMe ph E) (hN : zMp ph P G) (hv : zNr ph 174 0 v) (hO : zOk E.1 E.2.1 P G v) {x y : Int32} (hs : ∀ f t, f < E.1 * E.2.1 → t < E.1 * E.2.1 → E.2.2.1 f = false → E.2.2.1 t = false → x = zn f → y = zn t → zHsr E.1 E.2.1 t f (fun g => (fun _ => true) g = true ∧ E.2.2.1 g = false)) : zM 282 [.ref 170, .int x, .int y] ph (fun v0 _ => zBk E (fun _ => true) x y v0) := by
  obtain ⟨Q, hQ⟩ : ∃ Q : Option Value → pm_H → Prop, Q = (fun v0 _ => zBk E (fun _ => true) x y v0) := ⟨_, rfl⟩
  rw [← hQ]
  refine zM_mk fun n D => ?_
  show zW n D 282 Q 0 [some (.ref 170), some (.int x), some (.int y), none, none, none, none, none] [] ph
  have c_0 : (Int32.ofInt (-1)).toInt = -1 := by decide
  have c_1 : (Int32.ofInt 0).toInt = 0 := by decide
  have c_2 : (Int32.ofInt 1).toInt = 1 := by decide
  have hA : (174 : Nat) = 174 ∨ (174 : Nat) = 175 := Or.inl rfl
  obtain ⟨R, C, rk, sn, sk, cn, cd⟩ := E
  have hL0 : zMl ph R C rk := hE.1
  have hR0 : zMr ph sn sk cn cd := hE.2.1
  have hcg : zcg cn cd := hE.2.2
  have hE0 : zMe ph (R, C, rk, sn, sk, cn, cd) := hE
  have hO0 : zOk R C P G v := hO
  have hN0 := hN
  have hL := hL0
  have hR := hR0
  obtain ⟨gR, gC, gK, hR3, hR7, hC3, hC7⟩ := hL
  have hRC := zRC49 hR7 hC7
  have tR := znt (k := R) (by omega)
  have tC := znt (k := C) (by omega)
  obtain ⟨gP, hP8, gG, hG8⟩ := hN
  have tP := znt (k := P) (by omega)
  have tG := znt (k := G) (by omega)
  obtain ⟨gsn, hs1, hs20, gsk, gcn, hc40, gcd⟩ := hR
  have tsn := znt (k := sn) (by omega)
  have tcn := znt (k := cn) (by omega)
  refine w_load (pc' := 1) (v := .ref 170) (m := 1) (ykc_282 (e := (2, .aload_n kF0, 0)) rfl) rfl rfl ?_
  refine w_alu (pc' := 2) (st' := [.int (Int32.ofInt 0), .ref 170]) (ykc_282 (e := (0, .iconst 0, 0)) rfl) rfl rfl ?_
  refine w_pf (pc' := 5) (ykc_282 (e := (5, .putfield 3, 0)) rfl) rfl rfl (fun ph1772 u1771 => ?_)
  have f0 : zFr [] [(170, 0)] ph ph1772 := zFr_st u1771 (Or.inr (by simp))
  have hS1 := zSh_st u1771 (by decide +kernel) hS
  have hE1 : zMe ph1772 (R, C, rk, sn, sk, cn, cd) := ⟨zMl_F f0 (by simp) (by simp) (by simp) (by simp) hE0.1, zMr_F f0 (by simp) (by simp) (by simp) (by simp) hE0.2.1, hE0.2.2⟩
  have hN1 := zMp_F f0 (by simp) (by simp) (by simp) hN0
  have hv1 := zNr_F f0 (by simp) (by simp) hv
  have hL1 : zMl ph1772 R C rk := hE1.1
  have hR1 : zMr ph1772 sn sk cn cd := hE1.2.1
  have hN9 : R * C ≤ 49 := hRC
  refine w_load (pc' := 6) (v := .ref 170) (m := 1) (ykc_282 (e := (2, .aload_n kF0, 0)) rfl) rfl rfl ?_
  refine w_load (pc' := 7) (v := .int x) (m := 1) (ykc_282 (e := (2, .iload_n kF1, 0)) rfl) rfl rfl ?_
  refine w_cv (as := [.ref 170, .int x]) (r := []) (ykc_282 (e := (6, .invokevirtual 358, 0)) rfl) rfl rfl rfl rfl (zm_isField hS1 hL1 (f := x)) (fun v1773 ph1774 hv => ?_)
  obtain ⟨rfl, rfl⟩ := hv
  show zW n D 282 Q 10 [some (.ref 170), some (.int x), some (.int y), none, none, none, none, none] [.int (zI (decide (0 ≤ x.toInt ∧ x.toInt < ((R * C : Nat) : Int))))] ph1772
  refine w_beq (ykc_282 (e := (4, .ifCond .eq 11, 21)) rfl) rfl (fun b1775 => ?_) (fun b1775 => ?_)
  · refine w_alu (pc' := 22) (st' := [.int (Int32.ofInt (-1))]) (ykc_282 (e := (0, .iconst (-1), 0)) rfl) rfl rfl ?_
    refine w_ret (v := (some (.int (Int32.ofInt (-1))))) (ykc_282 (e := (7, .ireturn, 0)) rfl) (zr_v rfl) ?_
    rw [hQ]
    exact zBk_n (E := (R, C, rk, sn, sk, cn, cd)) (fun q => absurd q.1 (of_decide_eq_false b1775))
  · refine w_load (pc' := 14) (v := .ref 170) (m := 1) (ykc_282 (e := (2, .aload_n kF0, 0)) rfl) rfl rfl ?_
    refine w_load (pc' := 15) (v := .int y) (m := 1) (ykc_282 (e := (2, .iload_n kF2, 0)) rfl) rfl rfl ?_
    refine w_cv (as := [.ref 170, .int y]) (r := []) (ykc_282 (e := (6, .invokevirtual 358, 0)) rfl) rfl rfl rfl rfl (zm_isField hS1 hL1 (f := y)) (fun v1776 ph1777 hv => ?_)
    obtain ⟨rfl, rfl⟩ := hv
    show zW n D 282 Q 18 [some (.ref 170), some (.int x), some (.int y), none, none, none, none, none] [.int (zI (decide (0 ≤ y.toInt ∧ y.toInt < ((R * C : Nat) : Int))))] ph1772
    refine w_bne (ykc_282 (e := (4, .ifCond .ne 5, 23)) rfl) rfl (fun b1778 => ?_) (fun b1778 => ?_)
    · have b_x := of_decide_eq_true b1775
      have b_y := of_decide_eq_true b1778
      obtain ⟨f, h_f, rfl⟩ : ∃ k : Nat, k < R * C ∧ x = zn k := ⟨x.toInt.toNat, by omega, zn_of (by omega)⟩
      obtain ⟨t, h_t, rfl⟩ : ∃ k : Nat, k < R * C ∧ y = zn k := ⟨y.toInt.toNat, by omega, zn_of (by omega)⟩
      have tf := znt (k := f) (by omega)
      have tt := znt (k := t) (by omega)
      show zW n D 282 Q 23 [some (.ref 170), some (.int (zn f)), some (.int (zn t)), none, none, none, none, none] [] ph1772
      refine w_load (pc' := 24) (v := .ref 170) (m := 1) (ykc_282 (e := (2, .aload_n kF0, 0)) rfl) rfl rfl ?_
      refine w_load (pc' := 25) (v := .int (zn f)) (m := 1) (ykc_282 (e := (2, .iload_n kF1, 0)) rfl) rfl rfl ?_
      refine w_load (pc' := 26) (v := .int (zn t)) (m := 1) (ykc_282 (e := (2, .iload_n kF2, 0)) rfl) rfl rfl ?_
      refine w_load (pc' := 27) (v := .ref 170) (m := 1) (ykc_282 (e := (2, .aload_n kF0, 0)) rfl) rfl rfl ?_
      refine w_cv (as := [.ref 170]) (r := [.int (zn t), .int (zn f), .ref 170]) (ykc_282 (e := (6, .invokevirtual 413, 0)) rfl) rfl rfl rfl rfl (zm_free hS1 hL1) (fun v1779 ph1780 hv => ?_)
      obtain ⟨rfl, rfl⟩ := hv
      show zW n D 282 Q 30 [some (.ref 170), some (.int (zn f)), some (.int (zn t)), none, none, none, none, none] [.long (zFree rk (R * C)), .int (zn t), .int (zn f), .ref 170] ph1772
      refine w_cv (as := [.ref 170, .int (zn f), .int (zn t), .long (zFree rk (R * C))]) (r := []) (ykc_282 (e := (6, .invokevirtual 450, 0)) rfl) rfl rfl rfl rfl (zm_wayR hS1 hL1 (fr := f) (gl := t) (x := zFree rk (R * C)) (ov := (fun g => (fun _ => true) g = true ∧ rk g = false)) h_f h_t (fun g hg => by show _ ↔ true = true ∧ rk g = false; unfold zFree; rw [zS_b (by omega) (by omega), decide_eq_true hg]; cases rk g <;> simp) (fun a b => hs f t h_f h_t a b rfl rfl)) (fun v1781 ph1782 hv => ?_)
      have hv9 := hv
      obtain ⟨z, rfl⟩ := zWy_i hv9
      show zW n D 282 Q 33 [some (.ref 170), some (.int (zn f)), some (.int (zn t)), none, none, none, none, none] [.int z] ph1782
      refine w_store (pc' := 34) (L' := [some (.ref 170), some (.int (zn f)), some (.int (zn t)), some (.int z), none, none, none, none]) (st' := []) (m := 1) (ykc_282 (e := (3, .istore_n kF3, 0)) rfl) rfl rfl ?_
      refine w_load (pc' := 35) (v := .int z) (m := 1) (ykc_282 (e := (2, .iload_n kF3, 0)) rfl) rfl rfl ?_
      refine w_zge (ykc_282 (e := (4, .ifCond .ge 5, 40)) rfl) rfl (fun b1783 => ?_) (fun b1783 => ?_)
      · rw [hQ]
        exact zTail kc_282 false 3 40 9999 (fun _ => rfl) (Or.inl ⟨_, rfl⟩) (by decide +kernel) (by decide) (by decide) rfl (by decide +kernel) (fun _ => (show zBk (R, C, rk, sn, sk, cn, cd) (fun _ => true) (zn f) (zn t) (some (.int z)) from zBk_p hN9 h_f h_t hv9))
      · refine w_load (pc' := 39) (v := .int z) (m := 1) (ykc_282 (e := (2, .iload_n kF3, 0)) rfl) rfl rfl ?_
        refine w_ret (v := (some (.int z))) (ykc_282 (e := (7, .ireturn, 0)) rfl) (zr_v rfl) ?_
        rw [hQ]
        exact zBk_p hN9 h_f h_t hv9
    · refine w_alu (pc' := 22) (st' := [.int (Int32.ofInt (-1))]) (ykc_282 (e := (0, .iconst (-1), 0)) rfl) rfl rfl ?_
      refine w_ret (v := (some (.int (Int32.ofInt (-1))))) (ykc_282 (e := (7, .ireturn, 0)) rfl) (zr_v rfl) ?_
      rw [hQ]
      exact zBk_n (E := (R, C, rk, sn, sk, cn, cd)) (fun q => absurd q.2 (of_decide_eq_false b1778))
