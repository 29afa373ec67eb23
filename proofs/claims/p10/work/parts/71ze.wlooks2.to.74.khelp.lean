/-! what looks answer: bears, eighths; printed by wip/z/z3b_looks.py -/
theorem zdecI {m : Nat} (h : m < 100) : (zn m + Int32.ofInt (-1)).toInt = ((m : Nat) : Int) + (-1 : Int) := by
  have e : (Int32.ofInt (-1)).toInt = -1 := by decide
  have t := znt (k := m) (by omega)
  rw [ti_add (by rw [t, e]; omega) (by rw [t, e]; omega), t, e]
def zXbr (f : Nat → Bool) : Nat → Int32
  | 0 => (Int8.ofInt (-2)).toInt32
  | k + 1 => bif f k then zn k else zXbr f k
theorem zXbr_t {f : Nat → Bool} {k : Nat} (h : f k = true) : zXbr f (k + 1) = zn k := by
  show (bif f k then zn k else zXbr f k) = _
  rw [h]
  rfl
theorem zXbr_f {f : Nat → Bool} {k : Nat} (h : f k = false) : zXbr f (k + 1) = zXbr f k := by
  show (bif f k then zn k else zXbr f k) = _
  rw [h]
  rfl
def zXbears (E : zEn) (P : Nat) (v : Nat → Nat) (x y : Int32) : Int32 := if ((0 ≤ x.toInt ∧ x.toInt < (P : Int)) ∧ (0 ≤ y.toInt ∧ y.toInt < ((E.1 * E.2.1 : Nat) : Int))) then zXbr (fun br => zSw E P v x.toInt.toNat (v (8 + x.toInt.toNat)) br y.toInt.toNat) 5 else Int32.ofInt (-1)
theorem zXbears_n {E : zEn} {P : Nat} {v : Nat → Nat} {x y : Int32} (h : ¬ ((0 ≤ x.toInt ∧ x.toInt < (P : Int)) ∧ (0 ≤ y.toInt ∧ y.toInt < ((E.1 * E.2.1 : Nat) : Int)))) : (some (.int (Int32.ofInt (-1))) : Option Value) = some (.int (zXbears E P v x y)) := by
  unfold zXbears
  rw [if_neg h]
theorem zXbears_p {E : zEn} {P p g : Nat} {v : Nat → Nat} {z : Int32} (hp : p < P) (hP : P ≤ 8) (hg : g < E.1 * E.2.1) (hn : E.1 * E.2.1 ≤ 64) (h : zXbr (fun br => zSw E P v p (v (8 + p)) br g) 5 = z) : (some (.int z) : Option Value) = some (.int (zXbears E P v (zn p) (zn g))) := by
  have t := znt (k := p) (by omega)
  have t2 := znt (k := g) (by omega)
  unfold zXbears
  rw [if_pos ⟨⟨by omega, by omega⟩, ⟨by omega, by omega⟩⟩, show (zn p).toInt.toNat = p by omega, show (zn g).toInt.toNat = g by omega, h]
theorem zc_bearsX {ph : pm_H} {E : zEn} {F P G : Nat} {v : Nat → Nat} (hS : zSh ph) (hE : zCe ph E F) (ht : zCt ph 25 P G v) (hO : zOk E.1 E.2.1 P G v) (hr : zc ph 10 1 = some (.ref F)) (hc : zCc ph E.1 E.2.1 E.2.2.1) {x y : Int32} : zM 161 [.ref 0, .int x, .int y] ph (fun v0 _ => v0 = some (.int (zXbears E P v x y))) := by
  obtain ⟨Q, hQ⟩ : ∃ Q : Option Value → pm_H → Prop, Q = (fun v0 _ => v0 = some (.int (zXbears E P v x y))) := ⟨_, rfl⟩
  rw [← hQ]
  refine zM_mk fun n D => ?_
  show zW n D 161 Q 0 [some (.ref 0), some (.int x), some (.int y), none] [] ph
  have c_0 : ((Int8.ofInt (-2)).toInt32).toInt = -2 := by decide
  have c_1 : (Int32.ofInt (-1)).toInt = -1 := by decide
  have c_2 : (Int32.ofInt 4).toInt = 4 := by decide
  obtain ⟨R, C, rk, sn, sk, cn, cd⟩ := E
  have hL0 : zCl ph R C rk := hE.1
  have hi0 : zCi ph sn sk := hE.2.1
  have hF : F = 11 ∨ F = 16 := hE.2.2.2
  have hE0 : zCe ph (R, C, rk, sn, sk, cn, cd) F := hE
  have hO0 : zOk R C P G v := hO
  have hL := hL0
  have hs := ht.1.2
  have hd := ht.2
  have h25 := ht.1.1
  obtain ⟨gR, gC, gN, gK, gA, hR3, hR7, hC3, hC7⟩ := hL
  have hRC := zRC49 hR7 hC7
  have tR := znt (k := R) (by omega)
  have tC := znt (k := C) (by omega)
  have tRC := znt (k := R * C) (by omega)
  have hd0 := hd
  have hs0 := hs
  obtain ⟨r3, r4, r5, r6, r7, l1, l2, l3, l4, l5⟩ := hs
  obtain ⟨gP, hP8, gG, hG8, gH, gv, gw⟩ := hd
  have tP := znt (k := P) (by omega)
  have tG := znt (k := G) (by omega)
  have h40 := hO0.2.2
  have t40 := znt (k := v 40) (by omega)
  have hc0 := hc
  refine w_load (pc' := 1) (v := .ref 0) (m := 1) (ykc_161 (e := (2, .aload_n kF0, 0)) rfl) rfl rfl ?_
  refine w_gf (pc' := 4) (v := .ref 25) (ykc_161 (e := (5, .getfield 42, 0)) rfl) rfl (zsg hS zs_0_4) rfl ?_
  refine w_load (pc' := 5) (v := .int x) (m := 1) (ykc_161 (e := (2, .iload_n kF1, 0)) rfl) rfl rfl ?_
  refine w_cv (as := [.ref 25, .int x]) (r := []) (ykc_161 (e := (6, .invokevirtual 167, 0)) rfl) rfl rfl rfl rfl (zc_hasP ht.1.2 ht.2 (i := x)) (fun v1047 ph1048 hv => ?_)
  obtain ⟨rfl, rfl⟩ := hv
  show zW n D 161 Q 8 [some (.ref 0), some (.int x), some (.int y), none] [.int (zI (decide (0 ≤ x.toInt ∧ x.toInt < ((P : Nat) : Int))))] ph
  refine w_beq (ykc_161 (e := (4, .ifCond .eq 14, 22)) rfl) rfl (fun b1049 => ?_) (fun b1049 => ?_)
  · refine w_alu (pc' := 23) (st' := [.int (Int32.ofInt (-1))]) (ykc_161 (e := (0, .iconst (-1), 0)) rfl) rfl rfl ?_
    refine w_ret (v := (some (.int (Int32.ofInt (-1))))) (ykc_161 (e := (7, .ireturn, 0)) rfl) (zr_v rfl) ?_
    rw [hQ]
    exact zXbears_n (fun q => absurd q.1 (of_decide_eq_false b1049))
  · refine w_load (pc' := 12) (v := .ref 0) (m := 1) (ykc_161 (e := (2, .aload_n kF0, 0)) rfl) rfl rfl ?_
    refine w_gf (pc' := 15) (v := .ref 5) (ykc_161 (e := (5, .getfield 26, 0)) rfl) rfl (zsg hS zs_0_2) rfl ?_
    refine w_load (pc' := 16) (v := .int y) (m := 1) (ykc_161 (e := (2, .iload_n kF2, 0)) rfl) rfl rfl ?_
    refine w_cv (as := [.ref 5, .int y]) (r := []) (ykc_161 (e := (6, .invokevirtual 302, 0)) rfl) rfl rfl rfl rfl (zc_holds hS hL0 (f := y)) (fun v1050 ph1051 hv => ?_)
    obtain ⟨rfl, rfl⟩ := hv
    show zW n D 161 Q 19 [some (.ref 0), some (.int x), some (.int y), none] [.int (zI (decide (0 ≤ y.toInt ∧ y.toInt < ((R * C : Nat) : Int))))] ph
    refine w_bne (ykc_161 (e := (4, .ifCond .ne 5, 24)) rfl) rfl (fun b1052 => ?_) (fun b1052 => ?_)
    · have b_p := of_decide_eq_true b1049
      obtain ⟨p, h_p, rfl⟩ : ∃ p : Nat, p < P ∧ x = zn p := ⟨x.toInt.toNat, by omega, zn_of (by omega)⟩
      have t_p := znt (k := p) (by omega)
      have op := hO0.1 p h_p
      have tvp := znt (k := v p) (by omega)
      have tvf := znt (k := v (8 + p)) (by omega)
      have tvb := znt (k := v (16 + p)) (by omega)
      have b_g := of_decide_eq_true b1052
      obtain ⟨g, h_g, rfl⟩ : ∃ g : Nat, g < R * C ∧ y = zn g := ⟨y.toInt.toNat, by omega, zn_of (by omega)⟩
      have t_g := znt (k := g) (by omega)
      show zW n D 161 Q 24 [some (.ref 0), some (.int (zn p)), some (.int (zn g)), none] [] ph
      refine w_alu (pc' := 25) (st' := [.int (Int32.ofInt 4)]) (ykc_161 (e := (0, .iconst 4, 0)) rfl) rfl rfl ?_
      refine w_store (pc' := 26) (L' := [some (.ref 0), some (.int (zn p)), some (.int (zn g)), some (.int (Int32.ofInt 4))]) (st' := []) (m := 1) (ykc_161 (e := (3, .istore_n kF3, 0)) rfl) rfl rfl ?_
      have hl : ∀ (n : Nat), ∀ (k : Nat) (y : Int32) (ph1 : pm_H), (k ≤ 5) → (y.toInt = (k : Int) - 1) → (zCx ph ph1) → (zCc ph1 R C rk) → (zXbr (fun br => zSw (R, C, rk, sn, sk, cn, cd) P v p (v (8 + p)) br g) 5 = zXbr (fun br => zSw (R, C, rk, sn, sk, cn, cd) P v p (v (8 + p)) br g) k) → zW n D 161 Q 26 [some (.ref 0), some (.int (zn p)), some (.int (zn g)), some (.int y)] [] ph1 := by
        intro n
        induction n using Nat.strongRecOn with
        | ind n ih =>
          intro k y ph1 hk hy hf1 hc1 he
          refine w_load (pc' := 27) (v := .int y) (m := 1) (ykc_161 (e := (2, .iload_n kF3, 0)) rfl) rfl rfl ?_
          refine w_zlt (ykc_161 (e := (4, .ifCond .lt 56, 83)) rfl) rfl (fun b1053 => ?_) (fun b1053 => ?_)
          · refine w_push (pc' := 85) (v := .int ((Int8.ofInt (-2)).toInt32)) (m := 2) (ykc_161 (e := (1, .bipush (-2), 0)) rfl) rfl rfl ?_
            refine w_ret (v := (some (.int ((Int8.ofInt (-2)).toInt32)))) (ykc_161 (e := (7, .ireturn, 0)) rfl) (zr_v rfl) ?_
            have ek : k = 0 := by omega
            subst ek
            rw [hQ]
            exact zXbears_p (E := (R, C, rk, sn, sk, cn, cd)) h_p (by omega) h_g (show R * C ≤ 64 by omega) (he.trans rfl)
          · obtain ⟨m, rfl⟩ : ∃ m : Nat, k = m + 1 := ⟨k - 1, by omega⟩
            obtain rfl : y = zn m := zn_of (by omega)
            have tm := znt (k := m) (by omega)
            show zW n D 161 Q 30 [some (.ref 0), some (.int (zn p)), some (.int (zn g)), some (.int (zn m))] [] ph1
            refine w_load (pc' := 31) (v := .ref 0) (m := 1) (ykc_161 (e := (2, .aload_n kF0, 0)) rfl) rfl rfl ?_
            refine w_gf (pc' := 34) (v := .ref 10) (ykc_161 (e := (5, .getfield 35, 0)) rfl) rfl ((hf1.1 0 3 (by decide) (by decide)).trans (zsg hS zs_0_3)) rfl ?_
            refine w_load (pc' := 35) (v := .ref 0) (m := 1) (ykc_161 (e := (2, .aload_n kF0, 0)) rfl) rfl rfl ?_
            refine w_gf (pc' := 38) (v := .ref 25) (ykc_161 (e := (5, .getfield 42, 0)) rfl) rfl ((hf1.1 0 4 (by decide) (by decide)).trans (zsg hS zs_0_4)) rfl ?_
            refine w_load (pc' := 39) (v := .int (zn p)) (m := 1) (ykc_161 (e := (2, .iload_n kF1, 0)) rfl) rfl rfl ?_
            refine w_load (pc' := 40) (v := .int (zn m)) (m := 1) (ykc_161 (e := (2, .iload_n kF3, 0)) rfl) rfl rfl ?_
            refine w_cv (as := [.ref 10, .ref 25, .int (zn p), .int (zn m)]) (r := []) (ykc_161 (e := (6, .invokevirtual 360, 0)) rfl) rfl rfl rfl rfl (zc_viewU (zCx_S hf1 hS) (zCx_e hf1 hE0) (zCx_t hf1 ht) hO0 ((hf1.1 10 1 (by decide) (by decide)).trans hr) hc1 (p := p) (br := m) (by omega) (by omega)) (fun v1056 ph1057 hv => ?_)
            obtain ⟨f1054, hc1055, rfl⟩ := hv
            show zW n D 161 Q 43 [some (.ref 0), some (.int (zn p)), some (.int (zn g)), some (.int (zn m))] [.long (zS (zSw (R, C, rk, sn, sk, cn, cd) P v p (v (8 + p)) m) (R * C))] ph1057
            refine w_load (pc' := 44) (v := .int (zn g)) (m := 1) (ykc_161 (e := (2, .iload_n kF2, 0)) rfl) rfl rfl ?_
            refine w_cs (as := [.long (zS (zSw (R, C, rk, sn, sk, cn, cd) P v p (v (8 + p)) m) (R * C)), .int (zn g)]) (r := []) (ykc_161 (e := (6, .invokestatic 345, 0)) rfl) rfl rfl rfl rfl (zc_has (kn := g) (by omega) (by omega)) (fun v1058 ph1059 hv => ?_)
            obtain ⟨rfl, rfl⟩ := hv
            rw [zS_b (by omega) (by omega), decide_eq_true (show g < R * C by omega), Bool.true_and]
            show zW n D 161 Q 47 [some (.ref 0), some (.int (zn p)), some (.int (zn g)), some (.int (zn m))] [.int (zI (zSw (R, C, rk, sn, sk, cn, cd) P v p (v (8 + p)) m g))] ph1057
            refine w_beq (ykc_161 (e := (4, .ifCond .eq 30, 77)) rfl) rfl (fun b1060 => ?_) (fun b1060 => ?_)
            · obtain ⟨z1061, e_z1061, h_z1061⟩ : ∃ zq : Int32, (zn m) + Int32.ofInt (-1) = zq ∧ zq.toInt = ((m : Nat) : Int) + (-1 : Int) := ⟨_, rfl, zdecI (by omega)⟩
              refine w_store (pc' := 80) (L' := [some (.ref 0), some (.int (zn p)), some (.int (zn g)), some (.int z1061)]) (st' := []) (m := 3) (ykc_161 (e := (3, .iinc 3 (-1), 0)) rfl) (by rw [← e_z1061]; rfl) rfl ?_
              refine w_gb (ykc_161 (e := (4, .goto (-54), 26)) rfl) (fun k1062 hk1062 => ?_)
              exact ih k1062 hk1062 m z1061 _ (by omega) (by omega) (zFr_trans hf1 f1054) hc1055 (he.trans (zXbr_f (f := (fun br => zSw (R, C, rk, sn, sk, cn, cd) P v p (v (8 + p)) br g)) (k := m) b1060))
            · rw [hQ]
              exact zTail kc_161 false 3 50 76 (fun _ => rfl) (Or.inl ⟨_, rfl⟩) (by decide +kernel) (by decide) (by decide) rfl (by decide +kernel) (fun _ => zXbears_p (E := (R, C, rk, sn, sk, cn, cd)) h_p (by omega) h_g (show R * C ≤ 64 by omega) (he.trans (zXbr_t (f := (fun br => zSw (R, C, rk, sn, sk, cn, cd) P v p (v (8 + p)) br g)) (k := m) b1060)))
      exact hl n 5 _ _ (Nat.le_refl 5) (by decide) zFr_refl hc0 rfl
    · refine w_alu (pc' := 23) (st' := [.int (Int32.ofInt (-1))]) (ykc_161 (e := (0, .iconst (-1), 0)) rfl) rfl rfl ?_
      refine w_ret (v := (some (.int (Int32.ofInt (-1))))) (ykc_161 (e := (7, .ireturn, 0)) rfl) (zr_v rfl) ?_
      rw [hQ]
      exact zXbears_n (fun q => absurd q.2 (of_decide_eq_false b1052))
theorem zm_bearsX {ph : pm_H} {E : zEn} {P G : Nat} {v : Nat → Nat} (hS : zSh ph) (hE : zMe ph E) (hN : zMp ph P G) (hv : zNr ph 174 0 v) (hO : zOk E.1 E.2.1 P G v) {x y : Int32} : zM 278 [.ref 170, .int x, .int y] ph (fun v0 _ => v0 = some (.int (zXbears E P v x y))) := by
  obtain ⟨Q, hQ⟩ : ∃ Q : Option Value → pm_H → Prop, Q = (fun v0 _ => v0 = some (.int (zXbears E P v x y))) := ⟨_, rfl⟩
  rw [← hQ]
  refine zM_mk fun n D => ?_
  show zW n D 278 Q 0 [some (.ref 170), some (.int x), some (.int y), none, none] [] ph
  have c_0 : ((Int8.ofInt (-2)).toInt32).toInt = -2 := by decide
  have c_1 : ((Int8.ofInt 8).toInt32).toInt = 8 := by decide
  have c_2 : (Int32.ofInt (-1)).toInt = -1 := by decide
  have c_3 : (Int32.ofInt 0).toInt = 0 := by decide
  have c_4 : (Int32.ofInt 4).toInt = 4 := by decide
  have hA : (174 : Nat) = 174 ∨ (174 : Nat) = 175 := Or.inl rfl
  obtain ⟨R, C, rk, sn, sk, cn, cd⟩ := E
  have hL0 : zMl ph R C rk := hE.1
  have hR0 : zMr ph sn sk cn cd := hE.2.1
  have hcg : zcg cn cd := hE.2.2
  have hE0 : zMe ph (R, C, rk, sn, sk, cn, cd) := hE
  have hO0 : zOk R C P G v := hO
  have hN0 := hN
  have hL := hL0
  have hR := hR0
  obtain ⟨gR, gC, gK, hR3, hR7, hC3, hC7⟩ := hL
  have hRC := zRC49 hR7 hC7
  have tR := znt (k := R) (by omega)
  have tC := znt (k := C) (by omega)
  obtain ⟨gP, hP8, gG, hG8⟩ := hN
  have tP := znt (k := P) (by omega)
  have tG := znt (k := G) (by omega)
  obtain ⟨gsn, hs1, hs20, gsk, gcn, hc40, gcd⟩ := hR
  have tsn := znt (k := sn) (by omega)
  have tcn := znt (k := cn) (by omega)
  refine w_load (pc' := 1) (v := .ref 170) (m := 1) (ykc_278 (e := (2, .aload_n kF0, 0)) rfl) rfl rfl ?_
  refine w_alu (pc' := 2) (st' := [.int (Int32.ofInt 0), .ref 170]) (ykc_278 (e := (0, .iconst 0, 0)) rfl) rfl rfl ?_
  refine w_pf (pc' := 5) (ykc_278 (e := (5, .putfield 3, 0)) rfl) rfl rfl (fun ph1064 u1063 => ?_)
  have f0 : zFr [] [(170, 0)] ph ph1064 := zFr_st u1063 (Or.inr (by simp))
  have hS1 := zSh_st u1063 (by decide +kernel) hS
  have hE1 : zMe ph1064 (R, C, rk, sn, sk, cn, cd) := ⟨zMl_F f0 (by simp) (by simp) (by simp) (by simp) hE0.1, zMr_F f0 (by simp) (by simp) (by simp) (by simp) hE0.2.1, hE0.2.2⟩
  have hN1 := zMp_F f0 (by simp) (by simp) (by simp) hN0
  have hv1 := zNr_F f0 (by simp) (by simp) hv
  have hL1 : zMl ph1064 R C rk := hE1.1
  have hR1 : zMr ph1064 sn sk cn cd := hE1.2.1
  refine w_load (pc' := 6) (v := .ref 170) (m := 1) (ykc_278 (e := (2, .aload_n kF0, 0)) rfl) rfl rfl ?_
  refine w_load (pc' := 7) (v := .int x) (m := 1) (ykc_278 (e := (2, .iload_n kF1, 0)) rfl) rfl rfl ?_
  refine w_cv (as := [.ref 170, .int x]) (r := []) (ykc_278 (e := (6, .invokevirtual 315, 0)) rfl) rfl rfl rfl rfl (zm_isPerson hN1 (p := x)) (fun v1065 ph1066 hv => ?_)
  obtain ⟨rfl, rfl⟩ := hv
  show zW n D 278 Q 10 [some (.ref 170), some (.int x), some (.int y), none, none] [.int (zI (decide (0 ≤ x.toInt ∧ x.toInt < ((P : Nat) : Int))))] ph1064
  refine w_beq (ykc_278 (e := (4, .ifCond .eq 11, 21)) rfl) rfl (fun b1067 => ?_) (fun b1067 => ?_)
  · refine w_alu (pc' := 22) (st' := [.int (Int32.ofInt (-1))]) (ykc_278 (e := (0, .iconst (-1), 0)) rfl) rfl rfl ?_
    refine w_ret (v := (some (.int (Int32.ofInt (-1))))) (ykc_278 (e := (7, .ireturn, 0)) rfl) (zr_v rfl) ?_
    rw [hQ]
    exact zXbears_n (fun q => absurd q.1 (of_decide_eq_false b1067))
  · refine w_load (pc' := 14) (v := .ref 170) (m := 1) (ykc_278 (e := (2, .aload_n kF0, 0)) rfl) rfl rfl ?_
    refine w_load (pc' := 15) (v := .int y) (m := 1) (ykc_278 (e := (2, .iload_n kF2, 0)) rfl) rfl rfl ?_
    refine w_cv (as := [.ref 170, .int y]) (r := []) (ykc_278 (e := (6, .invokevirtual 358, 0)) rfl) rfl rfl rfl rfl (zm_isField hS1 hL1 (f := y)) (fun v1068 ph1069 hv => ?_)
    obtain ⟨rfl, rfl⟩ := hv
    show zW n D 278 Q 18 [some (.ref 170), some (.int x), some (.int y), none, none] [.int (zI (decide (0 ≤ y.toInt ∧ y.toInt < ((R * C : Nat) : Int))))] ph1064
    refine w_bne (ykc_278 (e := (4, .ifCond .ne 5, 23)) rfl) rfl (fun b1070 => ?_) (fun b1070 => ?_)
    · have b_p := of_decide_eq_true b1067
      obtain ⟨p, h_p, rfl⟩ : ∃ p : Nat, p < P ∧ x = zn p := ⟨x.toInt.toNat, by omega, zn_of (by omega)⟩
      have t_p := znt (k := p) (by omega)
      have op := hO0.1 p h_p
      have tvp := znt (k := v p) (by omega)
      have tvf := znt (k := v (8 + p)) (by omega)
      have tvb := znt (k := v (16 + p)) (by omega)
      have b_g := of_decide_eq_true b1070
      obtain ⟨g, h_g, rfl⟩ : ∃ g : Nat, g < R * C ∧ y = zn g := ⟨y.toInt.toNat, by omega, zn_of (by omega)⟩
      have t_g := znt (k := g) (by omega)
      show zW n D 278 Q 23 [some (.ref 170), some (.int (zn p)), some (.int (zn g)), none, none] [] ph1064
      refine w_alu (pc' := 24) (st' := [.int (Int32.ofInt 4)]) (ykc_278 (e := (0, .iconst 4, 0)) rfl) rfl rfl ?_
      refine w_store (pc' := 25) (L' := [some (.ref 170), some (.int (zn p)), some (.int (zn g)), some (.int (Int32.ofInt 4)), none]) (st' := []) (m := 1) (ykc_278 (e := (3, .istore_n kF3, 0)) rfl) rfl rfl ?_
      have hl : ∀ (n : Nat), ∀ (k : Nat) (y : Int32) (o4 : Option Value) (ph1 : pm_H), (k ≤ 5) → (y.toInt = (k : Int) - 1) → (zSc ph1064 ph1) → (zXbr (fun br => zSw (R, C, rk, sn, sk, cn, cd) P v p (v (8 + p)) br g) 5 = zXbr (fun br => zSw (R, C, rk, sn, sk, cn, cd) P v p (v (8 + p)) br g) k) → zW n D 278 Q 25 [some (.ref 170), some (.int (zn p)), some (.int (zn g)), some (.int y), o4] [] ph1 := by
        intro n
        induction n using Nat.strongRecOn with
        | ind n ih =>
          intro k y o4 ph1 hk hy hf1 he
          refine w_load (pc' := 26) (v := .int y) (m := 1) (ykc_278 (e := (2, .iload_n kF3, 0)) rfl) rfl rfl ?_
          refine w_zlt (ykc_278 (e := (4, .ifCond .lt 61, 87)) rfl) rfl (fun b1071 => ?_) (fun b1071 => ?_)
          · refine w_push (pc' := 89) (v := .int ((Int8.ofInt (-2)).toInt32)) (m := 2) (ykc_278 (e := (1, .bipush (-2), 0)) rfl) rfl rfl ?_
            refine w_ret (v := (some (.int ((Int8.ofInt (-2)).toInt32)))) (ykc_278 (e := (7, .ireturn, 0)) rfl) (zr_v rfl) ?_
            have ek : k = 0 := by omega
            subst ek
            rw [hQ]
            exact zXbears_p (E := (R, C, rk, sn, sk, cn, cd)) h_p (by omega) h_g (show R * C ≤ 64 by omega) (he.trans rfl)
          · obtain ⟨m, rfl⟩ : ∃ m : Nat, k = m + 1 := ⟨k - 1, by omega⟩
            obtain rfl : y = zn m := zn_of (by omega)
            have tm := znt (k := m) (by omega)
            show zW n D 278 Q 29 [some (.ref 170), some (.int (zn p)), some (.int (zn g)), some (.int (zn m)), o4] [] ph1
            refine w_load (pc' := 30) (v := .ref 170) (m := 1) (ykc_278 (e := (2, .aload_n kF0, 0)) rfl) rfl rfl ?_
            refine w_load (pc' := 31) (v := .ref 170) (m := 1) (ykc_278 (e := (2, .aload_n kF0, 0)) rfl) rfl rfl ?_
            refine w_gf (pc' := 34) (v := .ref 174) (ykc_278 (e := (5, .getfield 41, 0)) rfl) rfl ((hf1.1 170 11 (by decide) (by decide)).trans ((u1063.2.1 170 11 (fun q => absurd q.2 (by decide))).trans (zsg hS zs_170_11))) rfl ?_
            refine w_load (pc' := 35) (v := .int (zn p)) (m := 1) (ykc_278 (e := (2, .iload_n kF1, 0)) rfl) rfl rfl ?_
            refine w_load (pc' := 36) (v := .int (zn m)) (m := 1) (ykc_278 (e := (2, .iload_n kF3, 0)) rfl) rfl rfl ?_
            refine w_cv (as := [.ref 170, .ref 174, .int (zn p), .int (zn m)]) (r := []) (ykc_278 (e := (6, .invokevirtual 292, 0)) rfl) rfl rfl rfl rfl (zm_reach (zSc_S hf1 hS1) (zSc_e hf1 hE1) (zSc_p hf1 hN1) (zSc_a hf1 (⟨hA, hv1⟩ : ((174 : Nat) = 174 ∨ (174 : Nat) = 175) ∧ zNr ph1064 174 0 v)).1 (zSc_a hf1 (⟨hA, hv1⟩ : ((174 : Nat) = 174 ∨ (174 : Nat) = 175) ∧ zNr ph1064 174 0 v)).2 hO0 (p := p) (br := m) (by omega) (by omega)) (fun v1073 ph1074 hv => ?_)
            obtain ⟨f1072, rfl⟩ := hv
            have rf1072 := @zRe_9 (R, C, rk, sn, sk, cn, cd) P v p m
            have trf1072 := znt (k := zRe (R, C, rk, sn, sk, cn, cd) P v p m) (by omega)
            show zW n D 278 Q 39 [some (.ref 170), some (.int (zn p)), some (.int (zn g)), some (.int (zn m)), o4] [.int (zn (zRe (R, C, rk, sn, sk, cn, cd) P v p m))] ph1074
            refine w_store (pc' := 41) (L' := [some (.ref 170), some (.int (zn p)), some (.int (zn g)), some (.int (zn m)), some (.int (zn (zRe (R, C, rk, sn, sk, cn, cd) P v p m)))]) (st' := []) (m := 2) (ykc_278 (e := (3, .istore 4, 0)) rfl) rfl rfl ?_
            refine w_load (pc' := 42) (v := .ref 170) (m := 1) (ykc_278 (e := (2, .aload_n kF0, 0)) rfl) rfl rfl ?_
            refine w_load (pc' := 43) (v := .ref 170) (m := 1) (ykc_278 (e := (2, .aload_n kF0, 0)) rfl) rfl rfl ?_
            refine w_gf (pc' := 46) (v := .ref 174) (ykc_278 (e := (5, .getfield 41, 0)) rfl) rfl ((f1072.1 170 11 (by decide) (by decide)).trans ((hf1.1 170 11 (by decide) (by decide)).trans ((u1063.2.1 170 11 (fun q => absurd q.2 (by decide))).trans (zsg hS zs_170_11)))) rfl ?_
            refine w_load (pc' := 47) (v := .int (zn p)) (m := 1) (ykc_278 (e := (2, .iload_n kF1, 0)) rfl) rfl rfl ?_
            have q1075 := hO0.1 p (by omega)
            have tq1075 := znt (k := v p) (by omega)
            refine w_ialk (pc' := 48) (k := p) (ykc_278 (e := (5, .iaload, 0)) rfl) ((f1072.1 174 p (by decide) (by simp)).trans ((hf1.1 174 p (by decide) (by simp)).trans ((u1063.2.1 174 p (fun q => absurd q.1 (by decide))).trans (zNr0 hv (i := p) (by omega))))) (by omega) rfl ?_
            refine w_load (pc' := 49) (v := .int (zn g)) (m := 1) (ykc_278 (e := (2, .iload_n kF2, 0)) rfl) rfl rfl ?_
            refine w_load (pc' := 50) (v := .ref 170) (m := 1) (ykc_278 (e := (2, .aload_n kF0, 0)) rfl) rfl rfl ?_
            refine w_gf (pc' := 53) (v := .ref 174) (ykc_278 (e := (5, .getfield 41, 0)) rfl) rfl ((f1072.1 170 11 (by decide) (by decide)).trans ((hf1.1 170 11 (by decide) (by decide)).trans ((u1063.2.1 170 11 (fun q => absurd q.2 (by decide))).trans (zsg hS zs_170_11)))) rfl ?_
            refine w_push (pc' := 55) (v := .int ((Int8.ofInt 8).toInt32)) (m := 2) (ykc_278 (e := (1, .bipush 8, 0)) rfl) rfl rfl ?_
            refine w_load (pc' := 56) (v := .int (zn p)) (m := 1) (ykc_278 (e := (2, .iload_n kF1, 0)) rfl) rfl rfl ?_
            have e1076 : ((Int8.ofInt 8).toInt32) + (zn p) = zn (8 + p) := (zaddN (a := 8) (b := p) c_1 (znt (by omega)) (by omega)) 
            have te1076 := znt (k := 8 + p) (by omega)
            refine w_alu (pc' := 57) (st' := [.int (zn (8 + p)), .ref 174, .int (zn g), .int (zn (v p)), .ref 170]) (ykc_278 (e := (0, .iadd, 0)) rfl) (by rw [← e1076]; rfl) rfl ?_
            have q1077 := hO0.1 p (by omega)
            have tq1077 := znt (k := v (8 + p)) (by omega)
            refine w_ialk (pc' := 58) (k := 8 + p) (ykc_278 (e := (5, .iaload, 0)) rfl) ((f1072.1 174 (8 + p) (by decide) (by simp)).trans ((hf1.1 174 (8 + p) (by decide) (by simp)).trans ((u1063.2.1 174 (8 + p) (fun q => absurd q.1 (by decide))).trans (zNr0 hv (i := 8 + p) (by omega))))) (by omega) rfl ?_
            refine w_load (pc' := 59) (v := .int (zn m)) (m := 1) (ykc_278 (e := (2, .iload_n kF3, 0)) rfl) rfl rfl ?_
            refine w_load (pc' := 61) (v := .int (zn (zRe (R, C, rk, sn, sk, cn, cd) P v p m))) (m := 2) (ykc_278 (e := (2, .iload 4, 0)) rfl) rfl rfl ?_
            refine w_cv (as := [.ref 170, .int (zn (v p)), .int (zn g), .int (zn (v (8 + p))), .int (zn m), .int (zn (zRe (R, C, rk, sn, sk, cn, cd) P v p m))]) (r := []) (ykc_278 (e := (6, .invokevirtual 296, 0)) rfl) rfl rfl rfl rfl (zm_sees (zSc_S (zFr_trans hf1 f1072) hS1) (zSc_l (zFr_trans hf1 f1072) hL1) (a := v p) (g := g) (fc := v (8 + p)) (br := m) (re := zRe (R, C, rk, sn, sk, cn, cd) P v p m) (by omega) (by omega) (by omega) (by omega) (by omega) (by omega) (by omega) (by omega) (by omega)) (fun v1078 ph1079 hv => ?_)
            obtain ⟨rfl, rfl⟩ := hv
            show zW n D 278 Q 64 [some (.ref 170), some (.int (zn p)), some (.int (zn g)), some (.int (zn m)), some (.int (zn (zRe (R, C, rk, sn, sk, cn, cd) P v p m)))] [.int (zI (zsee C rk (v p) g (v (8 + p)) m (zRe (R, C, rk, sn, sk, cn, cd) P v p m)))] ph1074
            refine w_beq (ykc_278 (e := (4, .ifCond .eq 17, 81)) rfl) rfl (fun b1080 => ?_) (fun b1080 => ?_)
            · obtain ⟨z1081, e_z1081, h_z1081⟩ : ∃ zq : Int32, (zn m) + Int32.ofInt (-1) = zq ∧ zq.toInt = ((m : Nat) : Int) + (-1 : Int) := ⟨_, rfl, zdecI (by omega)⟩
              refine w_store (pc' := 84) (L' := [some (.ref 170), some (.int (zn p)), some (.int (zn g)), some (.int z1081), some (.int (zn (zRe (R, C, rk, sn, sk, cn, cd) P v p m)))]) (st' := []) (m := 3) (ykc_278 (e := (3, .iinc 3 (-1), 0)) rfl) (by rw [← e_z1081]; rfl) rfl ?_
              refine w_gb (ykc_278 (e := (4, .goto (-59), 25)) rfl) (fun k1082 hk1082 => ?_)
              exact ih k1082 hk1082 m z1081 _ _ (by omega) (by omega) (zFr_trans hf1 f1072) (he.trans (zXbr_f (f := (fun br => zSw (R, C, rk, sn, sk, cn, cd) P v p (v (8 + p)) br g)) (k := m) b1080))
            · rw [hQ]
              exact zTail kc_278 false 3 67 80 (fun _ => rfl) (Or.inl ⟨_, rfl⟩) (by decide +kernel) (by decide) (by decide) rfl (by decide +kernel) (fun _ => zXbears_p (E := (R, C, rk, sn, sk, cn, cd)) h_p (by omega) h_g (show R * C ≤ 64 by omega) (he.trans (zXbr_t (f := (fun br => zSw (R, C, rk, sn, sk, cn, cd) P v p (v (8 + p)) br g)) (k := m) b1080)))
      exact hl n 5 _ _ _ (Nat.le_refl 5) (by decide) zFr_refl rfl
    · refine w_alu (pc' := 22) (st' := [.int (Int32.ofInt (-1))]) (ykc_278 (e := (0, .iconst (-1), 0)) rfl) rfl rfl ?_
      refine w_ret (v := (some (.int (Int32.ofInt (-1))))) (ykc_278 (e := (7, .ireturn, 0)) rfl) (zr_v rfl) ?_
      rw [hQ]
      exact zXbears_n (fun q => absurd q.2 (of_decide_eq_false b1070))
def zXe (f : Nat → Bool) (fc : Nat) : Nat → Nat
  | 0 => 99
  | k + 1 => if ze8 fc k < zXe f fc k ∧ f k = true then ze8 fc k else zXe f fc k
theorem zXe_t {f : Nat → Bool} {fc k : Nat} (h1 : ze8 fc k < zXe f fc k) (h2 : f k = true) : zXe f fc (k + 1) = ze8 fc k := if_pos ⟨h1, h2⟩
theorem zXe_f {f : Nat → Bool} {fc k : Nat} (h : ¬ (ze8 fc k < zXe f fc k ∧ f k = true)) : zXe f fc (k + 1) = zXe f fc k := if_neg h
def zXeig (E : zEn) (P : Nat) (v : Nat → Nat) (x y : Int32) : Int32 := if ((0 ≤ x.toInt ∧ x.toInt < (P : Int)) ∧ (0 ≤ y.toInt ∧ y.toInt < ((E.1 * E.2.1 : Nat) : Int))) then (if zXe (fun k => zsee E.2.1 E.2.2.1 (v x.toInt.toNat) y.toInt.toNat k (v (16 + x.toInt.toNat)) (zRe E P v x.toInt.toNat (v (16 + x.toInt.toNat)))) (v (8 + x.toInt.toNat)) 8 = 99 then (Int8.ofInt (-2)).toInt32 else zn (zXe (fun k => zsee E.2.1 E.2.2.1 (v x.toInt.toNat) y.toInt.toNat k (v (16 + x.toInt.toNat)) (zRe E P v x.toInt.toNat (v (16 + x.toInt.toNat)))) (v (8 + x.toInt.toNat)) 8)) else Int32.ofInt (-1)
theorem zXeig_n {E : zEn} {P : Nat} {v : Nat → Nat} {x y : Int32} (h : ¬ ((0 ≤ x.toInt ∧ x.toInt < (P : Int)) ∧ (0 ≤ y.toInt ∧ y.toInt < ((E.1 * E.2.1 : Nat) : Int)))) : (some (.int (Int32.ofInt (-1))) : Option Value) = some (.int (zXeig E P v x y)) := by
  unfold zXeig
  rw [if_neg h]
theorem zXeig_p {E : zEn} {P p g : Nat} {v : Nat → Nat} {z : Int32} (hp : p < P) (hP : P ≤ 8) (hg : g < E.1 * E.2.1) (hn : E.1 * E.2.1 ≤ 64) (h : (if zXe (fun k => zsee E.2.1 E.2.2.1 (v p) g k (v (16 + p)) (zRe E P v p (v (16 + p)))) (v (8 + p)) 8 = 99 then (Int8.ofInt (-2)).toInt32 else zn (zXe (fun k => zsee E.2.1 E.2.2.1 (v p) g k (v (16 + p)) (zRe E P v p (v (16 + p)))) (v (8 + p)) 8)) = z) : (some (.int z) : Option Value) = some (.int (zXeig E P v (zn p) (zn g))) := by
  have t := znt (k := p) (by omega)
  have t2 := znt (k := g) (by omega)
  unfold zXeig
  rw [if_pos ⟨⟨by omega, by omega⟩, ⟨by omega, by omega⟩⟩, show (zn p).toInt.toNat = p by omega, show (zn g).toInt.toNat = g by omega, h]
theorem zc_viewF {ph : pm_H} {E : zEn} {F P G : Nat} {v : Nat → Nat} (hS : zSh ph) (hE : zCe ph E F) (ht : zCt ph 25 P G v) (hO : zOk E.1 E.2.1 P G v) (hr : zc ph 10 1 = some (.ref F)) (hc : zCc ph E.1 E.2.1 E.2.2.1) {p fc re : Nat} (hp : p < P) (hf : fc < 8) (hr9 : re ≤ 9) : zM 162 [.ref 0, .int (zn p), .int (zn fc), .int (zn re)] ph (fun v0 q => zCx ph q ∧ zCc q E.1 E.2.1 E.2.2.1 ∧ v0 = some (.long (zS (fun g => zsee E.2.1 E.2.2.1 (v p) g fc (v (16 + p)) re) (E.1 * E.2.1)))) := by
  obtain ⟨Q, hQ⟩ : ∃ Q : Option Value → pm_H → Prop, Q = (fun v0 q => zCx ph q ∧ zCc q E.1 E.2.1 E.2.2.1 ∧ v0 = some (.long (zS (fun g => zsee E.2.1 E.2.2.1 (v p) g fc (v (16 + p)) re) (E.1 * E.2.1)))) := ⟨_, rfl⟩
  rw [← hQ]
  refine zM_mk fun n D => ?_
  show zW n D 162 Q 0 [some (.ref 0), some (.int (zn p)), some (.int (zn fc)), some (.int (zn re))] [] ph
  obtain ⟨R, C, rk, sn, sk, cn, cd⟩ := E
  have hL0 : zCl ph R C rk := hE.1
  have hi0 : zCi ph sn sk := hE.2.1
  have hF : F = 11 ∨ F = 16 := hE.2.2.2
  have hE0 : zCe ph (R, C, rk, sn, sk, cn, cd) F := hE
  have hO0 : zOk R C P G v := hO
  have hL := hL0
  have hs := ht.1.2
  have hd := ht.2
  have h25 := ht.1.1
  obtain ⟨gR, gC, gN, gK, gA, hR3, hR7, hC3, hC7⟩ := hL
  have hRC := zRC49 hR7 hC7
  have tR := znt (k := R) (by omega)
  have tC := znt (k := C) (by omega)
  have tRC := znt (k := R * C) (by omega)
  have hd0 := hd
  have hs0 := hs
  obtain ⟨r3, r4, r5, r6, r7, l1, l2, l3, l4, l5⟩ := hs
  obtain ⟨gP, hP8, gG, hG8, gH, gv, gw⟩ := hd
  have tP := znt (k := P) (by omega)
  have tG := znt (k := G) (by omega)
  have h40 := hO0.2.2
  have t40 := znt (k := v 40) (by omega)
  have hc0 := hc
  have tp := znt (k := p) (by omega)
  have tfc := znt (k := fc) (by omega)
  have tre := znt (k := re) (by omega)
  have op := hO0.1 p hp
  refine w_load (pc' := 1) (v := .ref 0) (m := 1) (ykc_162 (e := (2, .aload_n kF0, 0)) rfl) rfl rfl ?_
  refine w_gf (pc' := 4) (v := .ref 25) (ykc_162 (e := (5, .getfield 42, 0)) rfl) rfl (zsg hS zs_0_4) rfl ?_
  refine w_load (pc' := 5) (v := .int (zn p)) (m := 1) (ykc_162 (e := (2, .iload_n kF1, 0)) rfl) rfl rfl ?_
  refine w_cv (as := [.ref 25, .int (zn p)]) (r := []) (ykc_162 (e := (6, .invokevirtual 167, 0)) rfl) rfl rfl rfl rfl (zc_hasP ht.1.2 ht.2 (i := (zn p))) (fun v1083 ph1084 hv => ?_)
  obtain ⟨rfl, rfl⟩ := hv
  show zW n D 162 Q 8 [some (.ref 0), some (.int (zn p)), some (.int (zn fc)), some (.int (zn re))] [.int (zI (decide (0 ≤ (zn p).toInt ∧ (zn p).toInt < ((P : Nat) : Int))))] ph
  refine w_bne (ykc_162 (e := (4, .ifCond .ne 5, 13)) rfl) rfl (fun b1085 => ?_) (fun q => by have := of_decide_eq_false q; omega)
  refine w_load (pc' := 14) (v := .ref 0) (m := 1) (ykc_162 (e := (2, .aload_n kF0, 0)) rfl) rfl rfl ?_
  refine w_gf (pc' := 17) (v := .ref 5) (ykc_162 (e := (5, .getfield 26, 0)) rfl) rfl (zsg hS zs_0_2) rfl ?_
  refine w_load (pc' := 18) (v := .ref 0) (m := 1) (ykc_162 (e := (2, .aload_n kF0, 0)) rfl) rfl rfl ?_
  refine w_gf (pc' := 21) (v := .ref 25) (ykc_162 (e := (5, .getfield 42, 0)) rfl) rfl (zsg hS zs_0_4) rfl ?_
  refine w_gf (pc' := 24) (v := .ref (25 + 1)) (ykc_162 (e := (5, .getfield 173, 0)) rfl) rfl r3 rfl ?_
  refine w_load (pc' := 25) (v := .int (zn p)) (m := 1) (ykc_162 (e := (2, .iload_n kF1, 0)) rfl) rfl rfl ?_
  have q1086 := hO0.1 p (by omega)
  have tq1086 := znt (k := v p) (by omega)
  refine w_ialk (pc' := 26) (k := p) (ykc_162 (e := (5, .iaload, 0)) rfl) (gv p (by omega)).1 (by omega) rfl ?_
  refine w_load (pc' := 27) (v := .int (zn fc)) (m := 1) (ykc_162 (e := (2, .iload_n kF2, 0)) rfl) rfl rfl ?_
  refine w_load (pc' := 28) (v := .ref 0) (m := 1) (ykc_162 (e := (2, .aload_n kF0, 0)) rfl) rfl rfl ?_
  refine w_gf (pc' := 31) (v := .ref 25) (ykc_162 (e := (5, .getfield 42, 0)) rfl) rfl (zsg hS zs_0_4) rfl ?_
  refine w_gf (pc' := 34) (v := .ref (25 + 3)) (ykc_162 (e := (5, .getfield 180, 0)) rfl) rfl r5 rfl ?_
  refine w_load (pc' := 35) (v := .int (zn p)) (m := 1) (ykc_162 (e := (2, .iload_n kF1, 0)) rfl) rfl rfl ?_
  have q1087 := hO0.1 p (by omega)
  have tq1087 := znt (k := v (16 + p)) (by omega)
  refine w_ialk (pc' := 36) (k := p) (ykc_162 (e := (5, .iaload, 0)) rfl) (gv p (by omega)).2.2.1 (by omega) rfl ?_
  refine w_load (pc' := 37) (v := .int (zn re)) (m := 1) (ykc_162 (e := (2, .iload_n kF3, 0)) rfl) rfl rfl ?_
  refine w_cv (as := [.ref 5, .int (zn (v p)), .int (zn fc), .int (zn (v (16 + p))), .int (zn re)]) (r := []) (ykc_162 (e := (6, .invokevirtual 368, 0)) rfl) rfl rfl rfl rfl (zc_view hS hL0 (f := v p) (fc := fc) (br := v (16 + p)) (re := re) hc0 (by omega) (by omega) (by omega) (by omega)) (fun v1090 ph1091 hv => ?_)
  obtain ⟨f1088, hc1089, rfl⟩ := hv
  show zW n D 162 Q 40 [some (.ref 0), some (.int (zn p)), some (.int (zn fc)), some (.int (zn re))] [.long (zS (fun g => zsee C rk (v p) g fc (v (16 + p)) re) (R * C))] ph1091
  refine w_ret (v := (some (.long (zS (fun g => zsee C rk (v p) g fc (v (16 + p)) re) (R * C))))) (ykc_162 (e := (7, .lreturn, 0)) rfl) (zr_v rfl) ?_
  rw [hQ]
  exact ⟨(zCy_x f1088), hc1089, rfl⟩
theorem zm_would {ph : pm_H} {E : zEn} {P G : Nat} {v : Nat → Nat} (hS : zSh ph) (hE : zMe ph E) (hN : zMp ph P G) (hv : zNr ph 174 0 v) (hO : zOk E.1 E.2.1 P G v) {p g fc : Nat} (hp : p < P) (hg : g < E.1 * E.2.1) (hf : fc < 8) : zM 271 [.ref 170, .int (zn p), .int (zn g), .int (zn fc)] ph (fun v0 q => zSc ph q ∧ v0 = some (.int (zI (zsee E.2.1 E.2.2.1 (v p) g fc (v (16 + p)) (zRe E P v p (v (16 + p))))))) := by
  obtain ⟨Q, hQ⟩ : ∃ Q : Option Value → pm_H → Prop, Q = (fun v0 q => zSc ph q ∧ v0 = some (.int (zI (zsee E.2.1 E.2.2.1 (v p) g fc (v (16 + p)) (zRe E P v p (v (16 + p))))))) := ⟨_, rfl⟩
  rw [← hQ]
  refine zM_mk fun n D => ?_
  show zW n D 271 Q 0 [some (.ref 170), some (.int (zn p)), some (.int (zn g)), some (.int (zn fc))] [] ph
  have c_0 : ((Int8.ofInt 16).toInt32).toInt = 16 := by decide
  have hA : (174 : Nat) = 174 ∨ (174 : Nat) = 175 := Or.inl rfl
  obtain ⟨R, C, rk, sn, sk, cn, cd⟩ := E
  have hL0 : zMl ph R C rk := hE.1
  have hR0 : zMr ph sn sk cn cd := hE.2.1
  have hcg : zcg cn cd := hE.2.2
  have hE0 : zMe ph (R, C, rk, sn, sk, cn, cd) := hE
  have hO0 : zOk R C P G v := hO
  have hN0 := hN
  have hL := hL0
  have hR := hR0
  obtain ⟨gR, gC, gK, hR3, hR7, hC3, hC7⟩ := hL
  have hRC := zRC49 hR7 hC7
  have tR := znt (k := R) (by omega)
  have tC := znt (k := C) (by omega)
  obtain ⟨gP, hP8, gG, hG8⟩ := hN
  have tP := znt (k := P) (by omega)
  have tG := znt (k := G) (by omega)
  obtain ⟨gsn, hs1, hs20, gsk, gcn, hc40, gcd⟩ := hR
  have tsn := znt (k := sn) (by omega)
  have tcn := znt (k := cn) (by omega)
  have hg0 : g < R * C := hg
  have tp := znt (k := p) (by omega)
  have tg := znt (k := g) (by omega)
  have tfc := znt (k := fc) (by omega)
  have op := hO0.1 p hp
  refine w_load (pc' := 1) (v := .ref 170) (m := 1) (ykc_271 (e := (2, .aload_n kF0, 0)) rfl) rfl rfl ?_
  refine w_load (pc' := 2) (v := .ref 170) (m := 1) (ykc_271 (e := (2, .aload_n kF0, 0)) rfl) rfl rfl ?_
  refine w_gf (pc' := 5) (v := .ref 174) (ykc_271 (e := (5, .getfield 41, 0)) rfl) rfl (zsg hS zs_170_11) rfl ?_
  refine w_load (pc' := 6) (v := .int (zn p)) (m := 1) (ykc_271 (e := (2, .iload_n kF1, 0)) rfl) rfl rfl ?_
  have q1092 := hO0.1 p (by omega)
  have tq1092 := znt (k := v p) (by omega)
  refine w_ialk (pc' := 7) (k := p) (ykc_271 (e := (5, .iaload, 0)) rfl) (zNr0 hv (i := p) (by omega)) (by omega) rfl ?_
  refine w_load (pc' := 8) (v := .int (zn g)) (m := 1) (ykc_271 (e := (2, .iload_n kF2, 0)) rfl) rfl rfl ?_
  refine w_load (pc' := 9) (v := .int (zn fc)) (m := 1) (ykc_271 (e := (2, .iload_n kF3, 0)) rfl) rfl rfl ?_
  refine w_load (pc' := 10) (v := .ref 170) (m := 1) (ykc_271 (e := (2, .aload_n kF0, 0)) rfl) rfl rfl ?_
  refine w_gf (pc' := 13) (v := .ref 174) (ykc_271 (e := (5, .getfield 41, 0)) rfl) rfl (zsg hS zs_170_11) rfl ?_
  refine w_push (pc' := 15) (v := .int ((Int8.ofInt 16).toInt32)) (m := 2) (ykc_271 (e := (1, .bipush 16, 0)) rfl) rfl rfl ?_
  refine w_load (pc' := 16) (v := .int (zn p)) (m := 1) (ykc_271 (e := (2, .iload_n kF1, 0)) rfl) rfl rfl ?_
  have e1093 : ((Int8.ofInt 16).toInt32) + (zn p) = zn (16 + p) := (zaddN (a := 16) (b := p) c_0 (znt (by omega)) (by omega)) 
  have te1093 := znt (k := 16 + p) (by omega)
  refine w_alu (pc' := 17) (st' := [.int (zn (16 + p)), .ref 174, .int (zn fc), .int (zn g), .int (zn (v p)), .ref 170]) (ykc_271 (e := (0, .iadd, 0)) rfl) (by rw [← e1093]; rfl) rfl ?_
  have q1094 := hO0.1 p (by omega)
  have tq1094 := znt (k := v (16 + p)) (by omega)
  refine w_ialk (pc' := 18) (k := 16 + p) (ykc_271 (e := (5, .iaload, 0)) rfl) (zNr0 hv (i := 16 + p) (by omega)) (by omega) rfl ?_
  refine w_load (pc' := 19) (v := .ref 170) (m := 1) (ykc_271 (e := (2, .aload_n kF0, 0)) rfl) rfl rfl ?_
  refine w_load (pc' := 20) (v := .ref 170) (m := 1) (ykc_271 (e := (2, .aload_n kF0, 0)) rfl) rfl rfl ?_
  refine w_gf (pc' := 23) (v := .ref 174) (ykc_271 (e := (5, .getfield 41, 0)) rfl) rfl (zsg hS zs_170_11) rfl ?_
  refine w_load (pc' := 24) (v := .int (zn p)) (m := 1) (ykc_271 (e := (2, .iload_n kF1, 0)) rfl) rfl rfl ?_
  refine w_load (pc' := 25) (v := .ref 170) (m := 1) (ykc_271 (e := (2, .aload_n kF0, 0)) rfl) rfl rfl ?_
  refine w_gf (pc' := 28) (v := .ref 174) (ykc_271 (e := (5, .getfield 41, 0)) rfl) rfl (zsg hS zs_170_11) rfl ?_
  refine w_push (pc' := 30) (v := .int ((Int8.ofInt 16).toInt32)) (m := 2) (ykc_271 (e := (1, .bipush 16, 0)) rfl) rfl rfl ?_
  refine w_load (pc' := 31) (v := .int (zn p)) (m := 1) (ykc_271 (e := (2, .iload_n kF1, 0)) rfl) rfl rfl ?_
  have e1095 : ((Int8.ofInt 16).toInt32) + (zn p) = zn (16 + p) := (zaddN (a := 16) (b := p) c_0 (znt (by omega)) (by omega)) 
  have te1095 := znt (k := 16 + p) (by omega)
  refine w_alu (pc' := 32) (st' := [.int (zn (16 + p)), .ref 174, .int (zn p), .ref 174, .ref 170, .int (zn (v (16 + p))), .int (zn fc), .int (zn g), .int (zn (v p)), .ref 170]) (ykc_271 (e := (0, .iadd, 0)) rfl) (by rw [← e1095]; rfl) rfl ?_
  have q1096 := hO0.1 p (by omega)
  have tq1096 := znt (k := v (16 + p)) (by omega)
  refine w_ialk (pc' := 33) (k := 16 + p) (ykc_271 (e := (5, .iaload, 0)) rfl) (zNr0 hv (i := 16 + p) (by omega)) (by omega) rfl ?_
  refine w_cv (as := [.ref 170, .ref 174, .int (zn p), .int (zn (v (16 + p)))]) (r := [.int (zn (v (16 + p))), .int (zn fc), .int (zn g), .int (zn (v p)), .ref 170]) (ykc_271 (e := (6, .invokevirtual 292, 0)) rfl) rfl rfl rfl rfl (zm_reach hS hE0 hN0 (⟨hA, hv⟩ : (174 = 174 ∨ 174 = 175) ∧ zNr ph 174 0 v).1 (⟨hA, hv⟩ : (174 = 174 ∨ 174 = 175) ∧ zNr ph 174 0 v).2 hO0 (p := p) (br := v (16 + p)) (by omega) (by omega)) (fun v1098 ph1099 hv => ?_)
  obtain ⟨f1097, rfl⟩ := hv
  have rf1097 := @zRe_9 (R, C, rk, sn, sk, cn, cd) P v p (v (16 + p))
  have trf1097 := znt (k := zRe (R, C, rk, sn, sk, cn, cd) P v p (v (16 + p))) (by omega)
  show zW n D 271 Q 36 [some (.ref 170), some (.int (zn p)), some (.int (zn g)), some (.int (zn fc))] [.int (zn (zRe (R, C, rk, sn, sk, cn, cd) P v p (v (16 + p)))), .int (zn (v (16 + p))), .int (zn fc), .int (zn g), .int (zn (v p)), .ref 170] ph1099
  refine w_cv (as := [.ref 170, .int (zn (v p)), .int (zn g), .int (zn fc), .int (zn (v (16 + p))), .int (zn (zRe (R, C, rk, sn, sk, cn, cd) P v p (v (16 + p))))]) (r := []) (ykc_271 (e := (6, .invokevirtual 296, 0)) rfl) rfl rfl rfl rfl (zm_sees (zSc_S f1097 hS) (zSc_l f1097 hL0) (a := v p) (g := g) (fc := fc) (br := v (16 + p)) (re := zRe (R, C, rk, sn, sk, cn, cd) P v p (v (16 + p))) (by omega) (by omega) (by omega) (by omega) (by omega) (by omega) (by omega) (by omega) (by omega)) (fun v1100 ph1101 hv => ?_)
  obtain ⟨rfl, rfl⟩ := hv
  show zW n D 271 Q 39 [some (.ref 170), some (.int (zn p)), some (.int (zn g)), some (.int (zn fc))] [.int (zI (zsee C rk (v p) g fc (v (16 + p)) (zRe (R, C, rk, sn, sk, cn, cd) P v p (v (16 + p)))))] ph1099
  refine w_ret (v := (some (.int (zI (zsee C rk (v p) g fc (v (16 + p)) (zRe (R, C, rk, sn, sk, cn, cd) P v p (v (16 + p)))))))) (ykc_271 (e := (7, .ireturn, 0)) rfl) zr_z ?_
  rw [hQ]
  exact ⟨f1097, rfl⟩
theorem zc_eigX {ph : pm_H} {E : zEn} {F P G : Nat} {v : Nat → Nat} (hS : zSh ph) (hE : zCe ph E F) (ht : zCt ph 25 P G v) (hO : zOk E.1 E.2.1 P G v) (hr : zc ph 10 1 = some (.ref F)) (hc : zCc ph E.1 E.2.1 E.2.2.1) {x y : Int32} : zM 158 [.ref 0, .int x, .int y] ph (fun v0 _ => v0 = some (.int (zXeig E P v x y))) := by
  obtain ⟨Q, hQ⟩ : ∃ Q : Option Value → pm_H → Prop, Q = (fun v0 _ => v0 = some (.int (zXeig E P v x y))) := ⟨_, rfl⟩
  rw [← hQ]
  refine zM_mk fun n D => ?_
  show zW n D 158 Q 0 [some (.ref 0), some (.int x), some (.int y), none, none, none, none, none] [] ph
  have c_0 : ((Int8.ofInt (-2)).toInt32).toInt = -2 := by decide
  have c_1 : ((Int8.ofInt 8).toInt32).toInt = 8 := by decide
  have c_2 : (Int32.ofInt (-1)).toInt = -1 := by decide
  have c_3 : (Int32.ofInt 0).toInt = 0 := by decide
  have c_4 : (Int32.ofInt 1).toInt = 1 := by decide
  obtain ⟨R, C, rk, sn, sk, cn, cd⟩ := E
  have hL0 : zCl ph R C rk := hE.1
  have hi0 : zCi ph sn sk := hE.2.1
  have hF : F = 11 ∨ F = 16 := hE.2.2.2
  have hE0 : zCe ph (R, C, rk, sn, sk, cn, cd) F := hE
  have hO0 : zOk R C P G v := hO
  have hL := hL0
  have hs := ht.1.2
  have hd := ht.2
  have h25 := ht.1.1
  obtain ⟨gR, gC, gN, gK, gA, hR3, hR7, hC3, hC7⟩ := hL
  have hRC := zRC49 hR7 hC7
  have tR := znt (k := R) (by omega)
  have tC := znt (k := C) (by omega)
  have tRC := znt (k := R * C) (by omega)
  have hd0 := hd
  have hs0 := hs
  obtain ⟨r3, r4, r5, r6, r7, l1, l2, l3, l4, l5⟩ := hs
  obtain ⟨gP, hP8, gG, hG8, gH, gv, gw⟩ := hd
  have tP := znt (k := P) (by omega)
  have tG := znt (k := G) (by omega)
  have h40 := hO0.2.2
  have t40 := znt (k := v 40) (by omega)
  have hc0 := hc
  refine w_load (pc' := 1) (v := .ref 0) (m := 1) (ykc_158 (e := (2, .aload_n kF0, 0)) rfl) rfl rfl ?_
  refine w_gf (pc' := 4) (v := .ref 25) (ykc_158 (e := (5, .getfield 42, 0)) rfl) rfl (zsg hS zs_0_4) rfl ?_
  refine w_load (pc' := 5) (v := .int x) (m := 1) (ykc_158 (e := (2, .iload_n kF1, 0)) rfl) rfl rfl ?_
  refine w_cv (as := [.ref 25, .int x]) (r := []) (ykc_158 (e := (6, .invokevirtual 167, 0)) rfl) rfl rfl rfl rfl (zc_hasP ht.1.2 ht.2 (i := x)) (fun v1102 ph1103 hv => ?_)
  obtain ⟨rfl, rfl⟩ := hv
  show zW n D 158 Q 8 [some (.ref 0), some (.int x), some (.int y), none, none, none, none, none] [.int (zI (decide (0 ≤ x.toInt ∧ x.toInt < ((P : Nat) : Int))))] ph
  refine w_beq (ykc_158 (e := (4, .ifCond .eq 14, 22)) rfl) rfl (fun b1104 => ?_) (fun b1104 => ?_)
  · refine w_alu (pc' := 23) (st' := [.int (Int32.ofInt (-1))]) (ykc_158 (e := (0, .iconst (-1), 0)) rfl) rfl rfl ?_
    refine w_ret (v := (some (.int (Int32.ofInt (-1))))) (ykc_158 (e := (7, .ireturn, 0)) rfl) (zr_v rfl) ?_
    rw [hQ]
    exact zXeig_n (fun q => absurd q.1 (of_decide_eq_false b1104))
  · refine w_load (pc' := 12) (v := .ref 0) (m := 1) (ykc_158 (e := (2, .aload_n kF0, 0)) rfl) rfl rfl ?_
    refine w_gf (pc' := 15) (v := .ref 5) (ykc_158 (e := (5, .getfield 26, 0)) rfl) rfl (zsg hS zs_0_2) rfl ?_
    refine w_load (pc' := 16) (v := .int y) (m := 1) (ykc_158 (e := (2, .iload_n kF2, 0)) rfl) rfl rfl ?_
    refine w_cv (as := [.ref 5, .int y]) (r := []) (ykc_158 (e := (6, .invokevirtual 302, 0)) rfl) rfl rfl rfl rfl (zc_holds hS hL0 (f := y)) (fun v1105 ph1106 hv => ?_)
    obtain ⟨rfl, rfl⟩ := hv
    show zW n D 158 Q 19 [some (.ref 0), some (.int x), some (.int y), none, none, none, none, none] [.int (zI (decide (0 ≤ y.toInt ∧ y.toInt < ((R * C : Nat) : Int))))] ph
    refine w_bne (ykc_158 (e := (4, .ifCond .ne 5, 24)) rfl) rfl (fun b1107 => ?_) (fun b1107 => ?_)
    · have b_p := of_decide_eq_true b1104
      obtain ⟨p, h_p, rfl⟩ : ∃ p : Nat, p < P ∧ x = zn p := ⟨x.toInt.toNat, by omega, zn_of (by omega)⟩
      have t_p := znt (k := p) (by omega)
      have op := hO0.1 p h_p
      have tvp := znt (k := v p) (by omega)
      have tvf := znt (k := v (8 + p)) (by omega)
      have tvb := znt (k := v (16 + p)) (by omega)
      have b_g := of_decide_eq_true b1107
      obtain ⟨g, h_g, rfl⟩ : ∃ g : Nat, g < R * C ∧ y = zn g := ⟨y.toInt.toNat, by omega, zn_of (by omega)⟩
      have t_g := znt (k := g) (by omega)
      show zW n D 158 Q 24 [some (.ref 0), some (.int (zn p)), some (.int (zn g)), none, none, none, none, none] [] ph
      refine w_load (pc' := 25) (v := .ref 0) (m := 1) (ykc_158 (e := (2, .aload_n kF0, 0)) rfl) rfl rfl ?_
      refine w_gf (pc' := 28) (v := .ref 10) (ykc_158 (e := (5, .getfield 35, 0)) rfl) rfl (zsg hS zs_0_3) rfl ?_
      refine w_load (pc' := 29) (v := .ref 0) (m := 1) (ykc_158 (e := (2, .aload_n kF0, 0)) rfl) rfl rfl ?_
      refine w_gf (pc' := 32) (v := .ref 25) (ykc_158 (e := (5, .getfield 42, 0)) rfl) rfl (zsg hS zs_0_4) rfl ?_
      refine w_load (pc' := 33) (v := .int (zn p)) (m := 1) (ykc_158 (e := (2, .iload_n kF1, 0)) rfl) rfl rfl ?_
      refine w_cv (as := [.ref 10, .ref 25, .int (zn p)]) (r := []) (ykc_158 (e := (6, .invokevirtual 186, 0)) rfl) rfl rfl rfl rfl (zc_reachP hS hE0 ht hO0 hr (p := p) (by omega)) (fun v1109 ph1110 hv => ?_)
      obtain ⟨f1108, rfl⟩ := hv
      show zW n D 158 Q 36 [some (.ref 0), some (.int (zn p)), some (.int (zn g)), none, none, none, none, none] [.int (zn (zRe (R, C, rk, sn, sk, cn, cd) P v p (v (16 + p))))] ph1110
      refine w_store (pc' := 37) (L' := [some (.ref 0), some (.int (zn p)), some (.int (zn g)), some (.int (zn (zRe (R, C, rk, sn, sk, cn, cd) P v p (v (16 + p))))), none, none, none, none]) (st' := []) (m := 1) (ykc_158 (e := (3, .istore_n kF3, 0)) rfl) rfl rfl ?_
      refine w_push (pc' := 39) (v := .int ((Int8.ofInt 8).toInt32)) (m := 2) (ykc_158 (e := (1, .bipush 8, 0)) rfl) rfl rfl ?_
      refine w_store (pc' := 41) (L' := [some (.ref 0), some (.int (zn p)), some (.int (zn g)), some (.int (zn (zRe (R, C, rk, sn, sk, cn, cd) P v p (v (16 + p))))), some (.int ((Int8.ofInt 8).toInt32)), none, none, none]) (st' := []) (m := 2) (ykc_158 (e := (3, .istore 4, 0)) rfl) rfl rfl ?_
      refine w_alu (pc' := 42) (st' := [.int (Int32.ofInt (-1))]) (ykc_158 (e := (0, .iconst (-1), 0)) rfl) rfl rfl ?_
      refine w_store (pc' := 44) (L' := [some (.ref 0), some (.int (zn p)), some (.int (zn g)), some (.int (zn (zRe (R, C, rk, sn, sk, cn, cd) P v p (v (16 + p))))), some (.int ((Int8.ofInt 8).toInt32)), some (.int (Int32.ofInt (-1))), none, none]) (st' := []) (m := 2) (ykc_158 (e := (3, .istore 5, 0)) rfl) rfl rfl ?_
      refine w_alu (pc' := 45) (st' := [.int (Int32.ofInt 0)]) (ykc_158 (e := (0, .iconst 0, 0)) rfl) rfl rfl ?_
      refine w_store (pc' := 47) (L' := [some (.ref 0), some (.int (zn p)), some (.int (zn g)), some (.int (zn (zRe (R, C, rk, sn, sk, cn, cd) P v p (v (16 + p))))), some (.int ((Int8.ofInt 8).toInt32)), some (.int (Int32.ofInt (-1))), some (.int (Int32.ofInt 0)), none]) (st' := []) (m := 2) (ykc_158 (e := (3, .istore 6, 0)) rfl) rfl rfl ?_
      have hRe : zRe (R, C, rk, sn, sk, cn, cd) P v p (v (16 + p)) ≤ 9 := zRe_9
      have hl : ∀ (n : Nat), ∀ (k : Nat) (b d : Int32) (o7 : Option Value) (ph1 : pm_H), (k ≤ 8) → (((zXe (fun k => zsee (R, C, rk, sn, sk, cn, cd).2.1 (R, C, rk, sn, sk, cn, cd).2.2.1 (v p) g k (v (16 + p)) (zRe (R, C, rk, sn, sk, cn, cd) P v p (v (16 + p)))) (v (8 + p)) k) = 99 ∧ b.toInt = 8 ∧ d.toInt = -1) ∨ ((zXe (fun k => zsee (R, C, rk, sn, sk, cn, cd).2.1 (R, C, rk, sn, sk, cn, cd).2.2.1 (v p) g k (v (16 + p)) (zRe (R, C, rk, sn, sk, cn, cd) P v p (v (16 + p)))) (v (8 + p)) k) ≤ 8 ∧ b.toInt = (((zXe (fun k => zsee (R, C, rk, sn, sk, cn, cd).2.1 (R, C, rk, sn, sk, cn, cd).2.2.1 (v p) g k (v (16 + p)) (zRe (R, C, rk, sn, sk, cn, cd) P v p (v (16 + p)))) (v (8 + p)) k) : Nat) : Int) ∧ 0 ≤ d.toInt)) → (zCx ph1110 ph1) → (zCc ph1 R C rk) → zW n D 158 Q 47 [some (.ref 0), some (.int (zn p)), some (.int (zn g)), some (.int (zn (zRe (R, C, rk, sn, sk, cn, cd) P v p (v (16 + p))))), some (.int b), some (.int d), some (.int (zn k)), o7] [] ph1 := by
        intro n
        induction n using Nat.strongRecOn with
        | ind n ih =>
          intro k b d o7 ph1 hk hb hf1 hc1
          have tk := znt (k := k) (by omega)
          refine w_load (pc' := 49) (v := .int (zn k)) (m := 2) (ykc_158 (e := (2, .iload 6, 0)) rfl) rfl rfl ?_
          refine w_push (pc' := 51) (v := .int ((Int8.ofInt 8).toInt32)) (m := 2) (ykc_158 (e := (1, .bipush 8, 0)) rfl) rfl rfl ?_
          refine w_ige (ykc_158 (e := (4, .if_icmp .ge 55, 106)) rfl) rfl (fun b1111 => ?_) (fun b1111 => ?_)
          · refine w_load (pc' := 108) (v := .int d) (m := 2) (ykc_158 (e := (2, .iload 5, 0)) rfl) rfl rfl ?_
            refine w_zge (ykc_158 (e := (4, .ifCond .ge 6, 114)) rfl) rfl (fun b1112 => ?_) (fun b1112 => ?_)
            · have ek : k = 8 := by omega
              subst ek
              obtain ⟨h1, h2, h3⟩ : (zXe (fun k => zsee (R, C, rk, sn, sk, cn, cd).2.1 (R, C, rk, sn, sk, cn, cd).2.2.1 (v p) g k (v (16 + p)) (zRe (R, C, rk, sn, sk, cn, cd) P v p (v (16 + p)))) (v (8 + p)) 8) ≤ 8 ∧ b.toInt = (((zXe (fun k => zsee (R, C, rk, sn, sk, cn, cd).2.1 (R, C, rk, sn, sk, cn, cd).2.2.1 (v p) g k (v (16 + p)) (zRe (R, C, rk, sn, sk, cn, cd) P v p (v (16 + p)))) (v (8 + p)) 8) : Nat) : Int) ∧ 0 ≤ d.toInt := by rcases hb with ⟨q1, q2, q3⟩ | q1 <;> first | exact q1 | omega
              rw [hQ]
              exact zTail kc_158 false 4 114 9999 (fun _ => rfl) (Or.inl ⟨_, rfl⟩) (by decide +kernel) (by decide) (by decide) rfl (by decide +kernel) (fun _ => zXeig_p (E := (R, C, rk, sn, sk, cn, cd)) h_p (by omega) h_g (show R * C ≤ 64 by omega) ((if_neg (by omega)).trans (zn_of h2).symm))
            · refine w_push (pc' := 113) (v := .int ((Int8.ofInt (-2)).toInt32)) (m := 2) (ykc_158 (e := (1, .bipush (-2), 0)) rfl) rfl rfl ?_
              refine w_ret (v := (some (.int ((Int8.ofInt (-2)).toInt32)))) (ykc_158 (e := (7, .ireturn, 0)) rfl) (zr_v rfl) ?_
              have ek : k = 8 := by omega
              subst ek
              have h1 : (zXe (fun k => zsee (R, C, rk, sn, sk, cn, cd).2.1 (R, C, rk, sn, sk, cn, cd).2.2.1 (v p) g k (v (16 + p)) (zRe (R, C, rk, sn, sk, cn, cd) P v p (v (16 + p)))) (v (8 + p)) 8) = 99 := by rcases hb with ⟨q1, q2, q3⟩ | ⟨q1, q2, q3⟩ <;> omega
              rw [hQ]
              exact zXeig_p (E := (R, C, rk, sn, sk, cn, cd)) h_p (by omega) h_g (show R * C ≤ 64 by omega) (if_pos h1)
          · refine w_load (pc' := 55) (v := .ref 0) (m := 1) (ykc_158 (e := (2, .aload_n kF0, 0)) rfl) rfl rfl ?_
            refine w_gf (pc' := 58) (v := .ref 25) (ykc_158 (e := (5, .getfield 42, 0)) rfl) rfl ((hf1.1 0 4 (by decide) (by decide)).trans ((f1108.1 0 4 (by decide) (by decide)).trans (zsg hS zs_0_4))) rfl ?_
            refine w_gf (pc' := 61) (v := .ref (25 + 2)) (ykc_158 (e := (5, .getfield 177, 0)) rfl) rfl ((hf1.1 25 4 (by decide) (by decide)).trans ((f1108.1 25 4 (by decide) (by decide)).trans r4)) rfl ?_
            refine w_load (pc' := 62) (v := .int (zn p)) (m := 1) (ykc_158 (e := (2, .iload_n kF1, 0)) rfl) rfl rfl ?_
            have q1113 := hO0.1 p (by omega)
            have tq1113 := znt (k := v (8 + p)) (by omega)
            refine w_ialk (pc' := 63) (k := p) (ykc_158 (e := (5, .iaload, 0)) rfl) ((hf1.1 (25 + 2) p (by simp <;> omega) (by simp <;> omega)).trans ((f1108.1 (25 + 2) p (by simp <;> omega) (by simp <;> omega)).trans (gv p (by omega)).2.1)) (by omega) rfl ?_
            refine w_load (pc' := 65) (v := .int (zn k)) (m := 2) (ykc_158 (e := (2, .iload 6, 0)) rfl) rfl rfl ?_
            refine w_cs (as := [.int (zn (v (8 + p))), .int (zn k)]) (r := []) (ykc_158 (e := (6, .invokestatic 296, 0)) rfl) rfl rfl rfl rfl (zc_e8 (a := v (8 + p)) (b := k) (by omega) (by omega)) (fun v1114 ph1115 hv => ?_)
            obtain ⟨rfl, rfl⟩ := hv
            have te := znt (k := ze8 (v (8 + p)) k) (by unfold ze8; omega)
            show zW n D 158 Q 68 [some (.ref 0), some (.int (zn p)), some (.int (zn g)), some (.int (zn (zRe (R, C, rk, sn, sk, cn, cd) P v p (v (16 + p))))), some (.int b), some (.int d), some (.int (zn k)), o7] [.int (zn (ze8 (v (8 + p)) k))] ph1
            refine w_store (pc' := 70) (L' := [some (.ref 0), some (.int (zn p)), some (.int (zn g)), some (.int (zn (zRe (R, C, rk, sn, sk, cn, cd) P v p (v (16 + p))))), some (.int b), some (.int d), some (.int (zn k)), some (.int (zn (ze8 (v (8 + p)) k)))]) (st' := []) (m := 2) (ykc_158 (e := (3, .istore 7, 0)) rfl) rfl rfl ?_
            refine w_load (pc' := 72) (v := .int (zn (ze8 (v (8 + p)) k))) (m := 2) (ykc_158 (e := (2, .iload 7, 0)) rfl) rfl rfl ?_
            refine w_load (pc' := 74) (v := .int b) (m := 2) (ykc_158 (e := (2, .iload 4, 0)) rfl) rfl rfl ?_
            refine w_ige (ykc_158 (e := (4, .if_icmp .ge 26, 100)) rfl) rfl (fun b1116 => ?_) (fun b1116 => ?_)
            · have e1117 : (zn k) + Int32.ofInt 1 = zn (k + 1) := (zaddN (a := k) (b := 1) (znt (by omega)) c_4 (by omega))
              have te1117 := znt (k := k + 1) (by omega)
              refine w_store (pc' := 103) (L' := [some (.ref 0), some (.int (zn p)), some (.int (zn g)), some (.int (zn (zRe (R, C, rk, sn, sk, cn, cd) P v p (v (16 + p))))), some (.int b), some (.int d), some (.int (zn (k + 1))), some (.int (zn (ze8 (v (8 + p)) k)))]) (st' := []) (m := 3) (ykc_158 (e := (3, .iinc 6 1, 0)) rfl) (by rw [← e1117]; rfl) rfl ?_
              refine w_gb (ykc_158 (e := (4, .goto (-56), 47)) rfl) (fun k1118 hk1118 => ?_)
              have h4 : ze8 (v (8 + p)) k ≤ 4 := by unfold ze8; omega
              have h6 := zXe_f (f := (fun k => zsee (R, C, rk, sn, sk, cn, cd).2.1 (R, C, rk, sn, sk, cn, cd).2.2.1 (v p) g k (v (16 + p)) (zRe (R, C, rk, sn, sk, cn, cd) P v p (v (16 + p))))) (fc := v (8 + p)) (k := k) (fun q0 => by have q1 := q0.1; rcases hb with ⟨q2, q3, q4⟩ | ⟨q2, q3, q4⟩ <;> omega)
              rw [← h6] at hb
              exact ih k1118 hk1118 (k + 1) b d _ _ (by omega) hb hf1 hc1
            · refine w_load (pc' := 78) (v := .ref 0) (m := 1) (ykc_158 (e := (2, .aload_n kF0, 0)) rfl) rfl rfl ?_
              refine w_load (pc' := 79) (v := .int (zn p)) (m := 1) (ykc_158 (e := (2, .iload_n kF1, 0)) rfl) rfl rfl ?_
              refine w_load (pc' := 81) (v := .int (zn k)) (m := 2) (ykc_158 (e := (2, .iload 6, 0)) rfl) rfl rfl ?_
              refine w_load (pc' := 82) (v := .int (zn (zRe (R, C, rk, sn, sk, cn, cd) P v p (v (16 + p))))) (m := 1) (ykc_158 (e := (2, .iload_n kF3, 0)) rfl) rfl rfl ?_
              refine w_cv (as := [.ref 0, .int (zn p), .int (zn k), .int (zn (zRe (R, C, rk, sn, sk, cn, cd) P v p (v (16 + p))))]) (r := []) (ykc_158 (e := (6, .invokevirtual 341, 0)) rfl) rfl rfl rfl rfl (zc_viewF (zCx_S (zFr_trans (zCr_x f1108) hf1) hS) (zCx_e (zFr_trans (zCr_x f1108) hf1) hE0) (zCx_t (zFr_trans (zCr_x f1108) hf1) ht) hO0 ((hf1.1 10 1 (by decide) (by decide)).trans ((f1108.1 10 1 (by decide) (by decide)).trans hr)) hc1 (p := p) (fc := k) (re := zRe (R, C, rk, sn, sk, cn, cd) P v p (v (16 + p))) (by omega) (by omega) (by omega)) (fun v1121 ph1122 hv => ?_)
              obtain ⟨f1119, hc1120, rfl⟩ := hv
              show zW n D 158 Q 85 [some (.ref 0), some (.int (zn p)), some (.int (zn g)), some (.int (zn (zRe (R, C, rk, sn, sk, cn, cd) P v p (v (16 + p))))), some (.int b), some (.int d), some (.int (zn k)), some (.int (zn (ze8 (v (8 + p)) k)))] [.long (zS (fun g => zsee C rk (v p) g k (v (16 + p)) (zRe (R, C, rk, sn, sk, cn, cd) P v p (v (16 + p)))) (R * C))] ph1122
              refine w_load (pc' := 86) (v := .int (zn g)) (m := 1) (ykc_158 (e := (2, .iload_n kF2, 0)) rfl) rfl rfl ?_
              refine w_cs (as := [.long (zS (fun g => zsee C rk (v p) g k (v (16 + p)) (zRe (R, C, rk, sn, sk, cn, cd) P v p (v (16 + p)))) (R * C)), .int (zn g)]) (r := []) (ykc_158 (e := (6, .invokestatic 345, 0)) rfl) rfl rfl rfl rfl (zc_has (kn := g) (by omega) (by omega)) (fun v1123 ph1124 hv => ?_)
              obtain ⟨rfl, rfl⟩ := hv
              rw [zS_b (by omega) (by omega), decide_eq_true (show g < R * C by omega), Bool.true_and]
              show zW n D 158 Q 89 [some (.ref 0), some (.int (zn p)), some (.int (zn g)), some (.int (zn (zRe (R, C, rk, sn, sk, cn, cd) P v p (v (16 + p))))), some (.int b), some (.int d), some (.int (zn k)), some (.int (zn (ze8 (v (8 + p)) k)))] [.int (zI (zsee C rk (v p) g k (v (16 + p)) (zRe (R, C, rk, sn, sk, cn, cd) P v p (v (16 + p)))))] ph1122
              refine w_beq (ykc_158 (e := (4, .ifCond .eq 11, 100)) rfl) rfl (fun b1125 => ?_) (fun b1125 => ?_)
              · have e1126 : (zn k) + Int32.ofInt 1 = zn (k + 1) := (zaddN (a := k) (b := 1) (znt (by omega)) c_4 (by omega))
                have te1126 := znt (k := k + 1) (by omega)
                refine w_store (pc' := 103) (L' := [some (.ref 0), some (.int (zn p)), some (.int (zn g)), some (.int (zn (zRe (R, C, rk, sn, sk, cn, cd) P v p (v (16 + p))))), some (.int b), some (.int d), some (.int (zn (k + 1))), some (.int (zn (ze8 (v (8 + p)) k)))]) (st' := []) (m := 3) (ykc_158 (e := (3, .iinc 6 1, 0)) rfl) (by rw [← e1126]; rfl) rfl ?_
                refine w_gb (ykc_158 (e := (4, .goto (-56), 47)) rfl) (fun k1127 hk1127 => ?_)
                have h4 : ze8 (v (8 + p)) k ≤ 4 := by unfold ze8; omega
                have h6 := zXe_f (f := (fun k => zsee (R, C, rk, sn, sk, cn, cd).2.1 (R, C, rk, sn, sk, cn, cd).2.2.1 (v p) g k (v (16 + p)) (zRe (R, C, rk, sn, sk, cn, cd) P v p (v (16 + p))))) (fc := v (8 + p)) (k := k) (fun q0 => absurd (q0.2.symm.trans b1125) (by decide))
                rw [← h6] at hb
                exact ih k1127 hk1127 (k + 1) b d _ _ (by omega) hb (zFr_trans hf1 f1119) hc1120
              · refine w_load (pc' := 94) (v := .int (zn (ze8 (v (8 + p)) k))) (m := 2) (ykc_158 (e := (2, .iload 7, 0)) rfl) rfl rfl ?_
                refine w_store (pc' := 96) (L' := [some (.ref 0), some (.int (zn p)), some (.int (zn g)), some (.int (zn (zRe (R, C, rk, sn, sk, cn, cd) P v p (v (16 + p))))), some (.int (zn (ze8 (v (8 + p)) k))), some (.int d), some (.int (zn k)), some (.int (zn (ze8 (v (8 + p)) k)))]) (st' := []) (m := 2) (ykc_158 (e := (3, .istore 4, 0)) rfl) rfl rfl ?_
                refine w_load (pc' := 98) (v := .int (zn k)) (m := 2) (ykc_158 (e := (2, .iload 6, 0)) rfl) rfl rfl ?_
                refine w_store (pc' := 100) (L' := [some (.ref 0), some (.int (zn p)), some (.int (zn g)), some (.int (zn (zRe (R, C, rk, sn, sk, cn, cd) P v p (v (16 + p))))), some (.int (zn (ze8 (v (8 + p)) k))), some (.int (zn k)), some (.int (zn k)), some (.int (zn (ze8 (v (8 + p)) k)))]) (st' := []) (m := 2) (ykc_158 (e := (3, .istore 5, 0)) rfl) rfl rfl ?_
                have e1128 : (zn k) + Int32.ofInt 1 = zn (k + 1) := (zaddN (a := k) (b := 1) (znt (by omega)) c_4 (by omega))
                have te1128 := znt (k := k + 1) (by omega)
                refine w_store (pc' := 103) (L' := [some (.ref 0), some (.int (zn p)), some (.int (zn g)), some (.int (zn (zRe (R, C, rk, sn, sk, cn, cd) P v p (v (16 + p))))), some (.int (zn (ze8 (v (8 + p)) k))), some (.int (zn k)), some (.int (zn (k + 1))), some (.int (zn (ze8 (v (8 + p)) k)))]) (st' := []) (m := 3) (ykc_158 (e := (3, .iinc 6 1, 0)) rfl) (by rw [← e1128]; rfl) rfl ?_
                refine w_gb (ykc_158 (e := (4, .goto (-56), 47)) rfl) (fun k1129 hk1129 => ?_)
                have h4 : ze8 (v (8 + p)) k ≤ 4 := by unfold ze8; omega
                have h5 : ze8 (v (8 + p)) k < (zXe (fun k => zsee (R, C, rk, sn, sk, cn, cd).2.1 (R, C, rk, sn, sk, cn, cd).2.2.1 (v p) g k (v (16 + p)) (zRe (R, C, rk, sn, sk, cn, cd) P v p (v (16 + p)))) (v (8 + p)) k) := by rcases hb with ⟨q1, q2, q3⟩ | ⟨q1, q2, q3⟩ <;> omega
                have h6 := zXe_t (f := (fun k => zsee (R, C, rk, sn, sk, cn, cd).2.1 (R, C, rk, sn, sk, cn, cd).2.2.1 (v p) g k (v (16 + p)) (zRe (R, C, rk, sn, sk, cn, cd) P v p (v (16 + p))))) h5 b1125
                exact ih k1129 hk1129 (k + 1) (zn (ze8 (v (8 + p)) k)) (zn k) _ _ (by omega) (Or.inr ⟨by omega, by omega, by omega⟩) (zFr_trans hf1 f1119) hc1120
      exact hl n 0 _ _ _ _ (Nat.zero_le 8) (Or.inl ⟨rfl, by omega, by omega⟩) zFr_refl (zCr_c f1108 hc0)
    · refine w_alu (pc' := 23) (st' := [.int (Int32.ofInt (-1))]) (ykc_158 (e := (0, .iconst (-1), 0)) rfl) rfl rfl ?_
      refine w_ret (v := (some (.int (Int32.ofInt (-1))))) (ykc_158 (e := (7, .ireturn, 0)) rfl) (zr_v rfl) ?_
      rw [hQ]
      exact zXeig_n (fun q => absurd q.2 (of_decide_eq_false b1107))
theorem zm_eigX {ph : pm_H} {E : zEn} {P G : Nat} {v : Nat → Nat} (hS : zSh ph) (hE : zMe ph E) (hN : zMp ph P G) (hv : zNr ph 174 0 v) (hO : zOk E.1 E.2.1 P G v) {x y : Int32} : zM 272 [.ref 170, .int x, .int y] ph (fun v0 _ => v0 = some (.int (zXeig E P v x y))) := by
  obtain ⟨Q, hQ⟩ : ∃ Q : Option Value → pm_H → Prop, Q = (fun v0 _ => v0 = some (.int (zXeig E P v x y))) := ⟨_, rfl⟩
  rw [← hQ]
  refine zM_mk fun n D => ?_
  show zW n D 272 Q 0 [some (.ref 170), some (.int x), some (.int y), none, none, none, none] [] ph
  have c_0 : ((1000000 : Int32)).toInt = 1000000 := by decide
  have c_1 : ((Int8.ofInt (-2)).toInt32).toInt = -2 := by decide
  have c_2 : ((Int8.ofInt 8).toInt32).toInt = 8 := by decide
  have c_3 : (Int32.ofInt (-1)).toInt = -1 := by decide
  have c_4 : (Int32.ofInt 0).toInt = 0 := by decide
  have c_5 : (Int32.ofInt 1).toInt = 1 := by decide
  have hA : (174 : Nat) = 174 ∨ (174 : Nat) = 175 := Or.inl rfl
  obtain ⟨R, C, rk, sn, sk, cn, cd⟩ := E
  have hL0 : zMl ph R C rk := hE.1
  have hR0 : zMr ph sn sk cn cd := hE.2.1
  have hcg : zcg cn cd := hE.2.2
  have hE0 : zMe ph (R, C, rk, sn, sk, cn, cd) := hE
  have hO0 : zOk R C P G v := hO
  have hN0 := hN
  have hL := hL0
  have hR := hR0
  obtain ⟨gR, gC, gK, hR3, hR7, hC3, hC7⟩ := hL
  have hRC := zRC49 hR7 hC7
  have tR := znt (k := R) (by omega)
  have tC := znt (k := C) (by omega)
  obtain ⟨gP, hP8, gG, hG8⟩ := hN
  have tP := znt (k := P) (by omega)
  have tG := znt (k := G) (by omega)
  obtain ⟨gsn, hs1, hs20, gsk, gcn, hc40, gcd⟩ := hR
  have tsn := znt (k := sn) (by omega)
  have tcn := znt (k := cn) (by omega)
  refine w_load (pc' := 1) (v := .ref 170) (m := 1) (ykc_272 (e := (2, .aload_n kF0, 0)) rfl) rfl rfl ?_
  refine w_alu (pc' := 2) (st' := [.int (Int32.ofInt 0), .ref 170]) (ykc_272 (e := (0, .iconst 0, 0)) rfl) rfl rfl ?_
  refine w_pf (pc' := 5) (ykc_272 (e := (5, .putfield 3, 0)) rfl) rfl rfl (fun ph1131 u1130 => ?_)
  have f0 : zFr [] [(170, 0)] ph ph1131 := zFr_st u1130 (Or.inr (by simp))
  have hS1 := zSh_st u1130 (by decide +kernel) hS
  have hE1 : zMe ph1131 (R, C, rk, sn, sk, cn, cd) := ⟨zMl_F f0 (by simp) (by simp) (by simp) (by simp) hE0.1, zMr_F f0 (by simp) (by simp) (by simp) (by simp) hE0.2.1, hE0.2.2⟩
  have hN1 := zMp_F f0 (by simp) (by simp) (by simp) hN0
  have hv1 := zNr_F f0 (by simp) (by simp) hv
  have hL1 : zMl ph1131 R C rk := hE1.1
  have hR1 : zMr ph1131 sn sk cn cd := hE1.2.1
  refine w_load (pc' := 6) (v := .ref 170) (m := 1) (ykc_272 (e := (2, .aload_n kF0, 0)) rfl) rfl rfl ?_
  refine w_load (pc' := 7) (v := .int x) (m := 1) (ykc_272 (e := (2, .iload_n kF1, 0)) rfl) rfl rfl ?_
  refine w_cv (as := [.ref 170, .int x]) (r := []) (ykc_272 (e := (6, .invokevirtual 315, 0)) rfl) rfl rfl rfl rfl (zm_isPerson hN1 (p := x)) (fun v1132 ph1133 hv => ?_)
  obtain ⟨rfl, rfl⟩ := hv
  show zW n D 272 Q 10 [some (.ref 170), some (.int x), some (.int y), none, none, none, none] [.int (zI (decide (0 ≤ x.toInt ∧ x.toInt < ((P : Nat) : Int))))] ph1131
  refine w_beq (ykc_272 (e := (4, .ifCond .eq 11, 21)) rfl) rfl (fun b1134 => ?_) (fun b1134 => ?_)
  · refine w_alu (pc' := 22) (st' := [.int (Int32.ofInt (-1))]) (ykc_272 (e := (0, .iconst (-1), 0)) rfl) rfl rfl ?_
    refine w_ret (v := (some (.int (Int32.ofInt (-1))))) (ykc_272 (e := (7, .ireturn, 0)) rfl) (zr_v rfl) ?_
    rw [hQ]
    exact zXeig_n (fun q => absurd q.1 (of_decide_eq_false b1134))
  · refine w_load (pc' := 14) (v := .ref 170) (m := 1) (ykc_272 (e := (2, .aload_n kF0, 0)) rfl) rfl rfl ?_
    refine w_load (pc' := 15) (v := .int y) (m := 1) (ykc_272 (e := (2, .iload_n kF2, 0)) rfl) rfl rfl ?_
    refine w_cv (as := [.ref 170, .int y]) (r := []) (ykc_272 (e := (6, .invokevirtual 358, 0)) rfl) rfl rfl rfl rfl (zm_isField hS1 hL1 (f := y)) (fun v1135 ph1136 hv => ?_)
    obtain ⟨rfl, rfl⟩ := hv
    show zW n D 272 Q 18 [some (.ref 170), some (.int x), some (.int y), none, none, none, none] [.int (zI (decide (0 ≤ y.toInt ∧ y.toInt < ((R * C : Nat) : Int))))] ph1131
    refine w_bne (ykc_272 (e := (4, .ifCond .ne 5, 23)) rfl) rfl (fun b1137 => ?_) (fun b1137 => ?_)
    · have b_p := of_decide_eq_true b1134
      obtain ⟨p, h_p, rfl⟩ : ∃ p : Nat, p < P ∧ x = zn p := ⟨x.toInt.toNat, by omega, zn_of (by omega)⟩
      have t_p := znt (k := p) (by omega)
      have op := hO0.1 p h_p
      have tvp := znt (k := v p) (by omega)
      have tvf := znt (k := v (8 + p)) (by omega)
      have tvb := znt (k := v (16 + p)) (by omega)
      have b_g := of_decide_eq_true b1137
      obtain ⟨g, h_g, rfl⟩ : ∃ g : Nat, g < R * C ∧ y = zn g := ⟨y.toInt.toNat, by omega, zn_of (by omega)⟩
      have t_g := znt (k := g) (by omega)
      show zW n D 272 Q 23 [some (.ref 170), some (.int (zn p)), some (.int (zn g)), none, none, none, none] [] ph1131
      refine w_alu (pc' := 24) (st' := [.int (Int32.ofInt (-1))]) (ykc_272 (e := (0, .iconst (-1), 0)) rfl) rfl rfl ?_
      refine w_store (pc' := 25) (L' := [some (.ref 170), some (.int (zn p)), some (.int (zn g)), some (.int (Int32.ofInt (-1))), none, none, none]) (st' := []) (m := 1) (ykc_272 (e := (3, .istore_n kF3, 0)) rfl) rfl rfl ?_
      refine w_push (pc' := 28) (v := .int (1000000 : Int32)) (m := 3) (ykc_272 (e := (1, .ldc_w 432, 0)) rfl) rfl rfl ?_
      refine w_store (pc' := 30) (L' := [some (.ref 170), some (.int (zn p)), some (.int (zn g)), some (.int (Int32.ofInt (-1))), some (.int (1000000 : Int32)), none, none]) (st' := []) (m := 2) (ykc_272 (e := (3, .istore 4, 0)) rfl) rfl rfl ?_
      refine w_alu (pc' := 31) (st' := [.int (Int32.ofInt 0)]) (ykc_272 (e := (0, .iconst 0, 0)) rfl) rfl rfl ?_
      refine w_store (pc' := 33) (L' := [some (.ref 170), some (.int (zn p)), some (.int (zn g)), some (.int (Int32.ofInt (-1))), some (.int (1000000 : Int32)), some (.int (Int32.ofInt 0)), none]) (st' := []) (m := 2) (ykc_272 (e := (3, .istore 5, 0)) rfl) rfl rfl ?_
      have hl : ∀ (n : Nat), ∀ (k : Nat) (b d : Int32) (o7 : Option Value) (ph1 : pm_H), (k ≤ 8) → (((zXe (fun k => zsee (R, C, rk, sn, sk, cn, cd).2.1 (R, C, rk, sn, sk, cn, cd).2.2.1 (v p) g k (v (16 + p)) (zRe (R, C, rk, sn, sk, cn, cd) P v p (v (16 + p)))) (v (8 + p)) k) = 99 ∧ b.toInt = 1000000 ∧ d.toInt = -1) ∨ ((zXe (fun k => zsee (R, C, rk, sn, sk, cn, cd).2.1 (R, C, rk, sn, sk, cn, cd).2.2.1 (v p) g k (v (16 + p)) (zRe (R, C, rk, sn, sk, cn, cd) P v p (v (16 + p)))) (v (8 + p)) k) ≤ 8 ∧ b.toInt = (((zXe (fun k => zsee (R, C, rk, sn, sk, cn, cd).2.1 (R, C, rk, sn, sk, cn, cd).2.2.1 (v p) g k (v (16 + p)) (zRe (R, C, rk, sn, sk, cn, cd) P v p (v (16 + p)))) (v (8 + p)) k) : Nat) : Int) ∧ 0 ≤ d.toInt)) → (zSc ph1131 ph1) → zW n D 272 Q 33 [some (.ref 170), some (.int (zn p)), some (.int (zn g)), some (.int d), some (.int b), some (.int (zn k)), o7] [] ph1 := by
        intro n
        induction n using Nat.strongRecOn with
        | ind n ih =>
          intro k b d o7 ph1 hk hb hf1
          have tk := znt (k := k) (by omega)
          refine w_load (pc' := 35) (v := .int (zn k)) (m := 2) (ykc_272 (e := (2, .iload 5, 0)) rfl) rfl rfl ?_
          refine w_push (pc' := 37) (v := .int ((Int8.ofInt 8).toInt32)) (m := 2) (ykc_272 (e := (1, .bipush 8, 0)) rfl) rfl rfl ?_
          refine w_ige (ykc_272 (e := (4, .if_icmp .ge 50, 87)) rfl) rfl (fun b1138 => ?_) (fun b1138 => ?_)
          · refine w_load (pc' := 88) (v := .int d) (m := 1) (ykc_272 (e := (2, .iload_n kF3, 0)) rfl) rfl rfl ?_
            refine w_zge (ykc_272 (e := (4, .ifCond .ge 6, 94)) rfl) rfl (fun b1139 => ?_) (fun b1139 => ?_)
            · have ek : k = 8 := by omega
              subst ek
              obtain ⟨h1, h2, h3⟩ : (zXe (fun k => zsee (R, C, rk, sn, sk, cn, cd).2.1 (R, C, rk, sn, sk, cn, cd).2.2.1 (v p) g k (v (16 + p)) (zRe (R, C, rk, sn, sk, cn, cd) P v p (v (16 + p)))) (v (8 + p)) 8) ≤ 8 ∧ b.toInt = (((zXe (fun k => zsee (R, C, rk, sn, sk, cn, cd).2.1 (R, C, rk, sn, sk, cn, cd).2.2.1 (v p) g k (v (16 + p)) (zRe (R, C, rk, sn, sk, cn, cd) P v p (v (16 + p)))) (v (8 + p)) 8) : Nat) : Int) ∧ 0 ≤ d.toInt := by rcases hb with ⟨q1, q2, q3⟩ | q1 <;> first | exact q1 | omega
              rw [hQ]
              exact zTail kc_272 false 4 94 9999 (fun _ => rfl) (Or.inl ⟨_, rfl⟩) (by decide +kernel) (by decide) (by decide) rfl (by decide +kernel) (fun _ => zXeig_p (E := (R, C, rk, sn, sk, cn, cd)) h_p (by omega) h_g (show R * C ≤ 64 by omega) ((if_neg (by omega)).trans (zn_of h2).symm))
            · refine w_push (pc' := 93) (v := .int ((Int8.ofInt (-2)).toInt32)) (m := 2) (ykc_272 (e := (1, .bipush (-2), 0)) rfl) rfl rfl ?_
              refine w_ret (v := (some (.int ((Int8.ofInt (-2)).toInt32)))) (ykc_272 (e := (7, .ireturn, 0)) rfl) (zr_v rfl) ?_
              have ek : k = 8 := by omega
              subst ek
              have h1 : (zXe (fun k => zsee (R, C, rk, sn, sk, cn, cd).2.1 (R, C, rk, sn, sk, cn, cd).2.2.1 (v p) g k (v (16 + p)) (zRe (R, C, rk, sn, sk, cn, cd) P v p (v (16 + p)))) (v (8 + p)) 8) = 99 := by rcases hb with ⟨q1, q2, q3⟩ | ⟨q1, q2, q3⟩ <;> omega
              rw [hQ]
              exact zXeig_p (E := (R, C, rk, sn, sk, cn, cd)) h_p (by omega) h_g (show R * C ≤ 64 by omega) (if_pos h1)
          · refine w_load (pc' := 41) (v := .ref 170) (m := 1) (ykc_272 (e := (2, .aload_n kF0, 0)) rfl) rfl rfl ?_
            refine w_gf (pc' := 44) (v := .ref 174) (ykc_272 (e := (5, .getfield 41, 0)) rfl) rfl ((hf1.1 170 11 (by decide) (by decide)).trans ((u1130.2.1 170 11 (fun q => absurd q.2 (by decide))).trans (zsg hS zs_170_11))) rfl ?_
            refine w_push (pc' := 46) (v := .int ((Int8.ofInt 8).toInt32)) (m := 2) (ykc_272 (e := (1, .bipush 8, 0)) rfl) rfl rfl ?_
            refine w_load (pc' := 47) (v := .int (zn p)) (m := 1) (ykc_272 (e := (2, .iload_n kF1, 0)) rfl) rfl rfl ?_
            have e1140 : ((Int8.ofInt 8).toInt32) + (zn p) = zn (8 + p) := (zaddN (a := 8) (b := p) c_2 (znt (by omega)) (by omega)) 
            have te1140 := znt (k := 8 + p) (by omega)
            refine w_alu (pc' := 48) (st' := [.int (zn (8 + p)), .ref 174]) (ykc_272 (e := (0, .iadd, 0)) rfl) (by rw [← e1140]; rfl) rfl ?_
            have q1141 := hO0.1 p (by omega)
            have tq1141 := znt (k := v (8 + p)) (by omega)
            refine w_ialk (pc' := 49) (k := 8 + p) (ykc_272 (e := (5, .iaload, 0)) rfl) ((hf1.1 174 (8 + p) (by decide) (by simp)).trans ((u1130.2.1 174 (8 + p) (fun q => absurd q.1 (by decide))).trans (zNr0 hv (i := 8 + p) (by omega)))) (by omega) rfl ?_
            refine w_load (pc' := 51) (v := .int (zn k)) (m := 2) (ykc_272 (e := (2, .iload 5, 0)) rfl) rfl rfl ?_
            refine w_cs (as := [.int (zn (v (8 + p))), .int (zn k)]) (r := []) (ykc_272 (e := (6, .invokestatic 285, 0)) rfl) rfl rfl rfl rfl (zm_e8 (a := v (8 + p)) (b := k) (by omega) (by omega) (by omega) (by omega)) (fun v1142 ph1143 hv => ?_)
            obtain ⟨rfl, rfl⟩ := hv
            have te := znt (k := ze8 (v (8 + p)) k) (by unfold ze8; omega)
            show zW n D 272 Q 54 [some (.ref 170), some (.int (zn p)), some (.int (zn g)), some (.int d), some (.int b), some (.int (zn k)), o7] [.int (zn (ze8 (v (8 + p)) k))] ph1
            refine w_store (pc' := 56) (L' := [some (.ref 170), some (.int (zn p)), some (.int (zn g)), some (.int d), some (.int b), some (.int (zn k)), some (.int (zn (ze8 (v (8 + p)) k)))]) (st' := []) (m := 2) (ykc_272 (e := (3, .istore 6, 0)) rfl) rfl rfl ?_
            refine w_load (pc' := 58) (v := .int (zn (ze8 (v (8 + p)) k))) (m := 2) (ykc_272 (e := (2, .iload 6, 0)) rfl) rfl rfl ?_
            refine w_load (pc' := 60) (v := .int b) (m := 2) (ykc_272 (e := (2, .iload 4, 0)) rfl) rfl rfl ?_
            refine w_ige (ykc_272 (e := (4, .if_icmp .ge 21, 81)) rfl) rfl (fun b1144 => ?_) (fun b1144 => ?_)
            · have e1145 : (zn k) + Int32.ofInt 1 = zn (k + 1) := (zaddN (a := k) (b := 1) (znt (by omega)) c_5 (by omega))
              have te1145 := znt (k := k + 1) (by omega)
              refine w_store (pc' := 84) (L' := [some (.ref 170), some (.int (zn p)), some (.int (zn g)), some (.int d), some (.int b), some (.int (zn (k + 1))), some (.int (zn (ze8 (v (8 + p)) k)))]) (st' := []) (m := 3) (ykc_272 (e := (3, .iinc 5 1, 0)) rfl) (by rw [← e1145]; rfl) rfl ?_
              refine w_gb (ykc_272 (e := (4, .goto (-51), 33)) rfl) (fun k1146 hk1146 => ?_)
              have h4 : ze8 (v (8 + p)) k ≤ 4 := by unfold ze8; omega
              have h6 := zXe_f (f := (fun k => zsee (R, C, rk, sn, sk, cn, cd).2.1 (R, C, rk, sn, sk, cn, cd).2.2.1 (v p) g k (v (16 + p)) (zRe (R, C, rk, sn, sk, cn, cd) P v p (v (16 + p))))) (fc := v (8 + p)) (k := k) (fun q0 => by have q1 := q0.1; rcases hb with ⟨q2, q3, q4⟩ | ⟨q2, q3, q4⟩ <;> omega)
              rw [← h6] at hb
              exact ih k1146 hk1146 (k + 1) b d _ _ (by omega) hb hf1
            · refine w_load (pc' := 64) (v := .ref 170) (m := 1) (ykc_272 (e := (2, .aload_n kF0, 0)) rfl) rfl rfl ?_
              refine w_load (pc' := 65) (v := .int (zn p)) (m := 1) (ykc_272 (e := (2, .iload_n kF1, 0)) rfl) rfl rfl ?_
              refine w_load (pc' := 66) (v := .int (zn g)) (m := 1) (ykc_272 (e := (2, .iload_n kF2, 0)) rfl) rfl rfl ?_
              refine w_load (pc' := 68) (v := .int (zn k)) (m := 2) (ykc_272 (e := (2, .iload 5, 0)) rfl) rfl rfl ?_
              refine w_cv (as := [.ref 170, .int (zn p), .int (zn g), .int (zn k)]) (r := []) (ykc_272 (e := (6, .invokevirtual 433, 0)) rfl) rfl rfl rfl rfl (zm_would (zSc_S hf1 hS1) (zSc_e hf1 hE1) (zSc_p hf1 hN1) (zSc_a hf1 (⟨hA, hv1⟩ : ((174 : Nat) = 174 ∨ (174 : Nat) = 175) ∧ zNr ph1131 174 0 v)).2 hO0 (p := p) (g := g) (fc := k) (by omega) h_g (by omega)) (fun v1148 ph1149 hv => ?_)
              obtain ⟨f1147, rfl⟩ := hv
              show zW n D 272 Q 71 [some (.ref 170), some (.int (zn p)), some (.int (zn g)), some (.int d), some (.int b), some (.int (zn k)), some (.int (zn (ze8 (v (8 + p)) k)))] [.int (zI (zsee C rk (v p) g k (v (16 + p)) (zRe (R, C, rk, sn, sk, cn, cd) P v p (v (16 + p)))))] ph1149
              refine w_beq (ykc_272 (e := (4, .ifCond .eq 10, 81)) rfl) rfl (fun b1150 => ?_) (fun b1150 => ?_)
              · have e1151 : (zn k) + Int32.ofInt 1 = zn (k + 1) := (zaddN (a := k) (b := 1) (znt (by omega)) c_5 (by omega))
                have te1151 := znt (k := k + 1) (by omega)
                refine w_store (pc' := 84) (L' := [some (.ref 170), some (.int (zn p)), some (.int (zn g)), some (.int d), some (.int b), some (.int (zn (k + 1))), some (.int (zn (ze8 (v (8 + p)) k)))]) (st' := []) (m := 3) (ykc_272 (e := (3, .iinc 5 1, 0)) rfl) (by rw [← e1151]; rfl) rfl ?_
                refine w_gb (ykc_272 (e := (4, .goto (-51), 33)) rfl) (fun k1152 hk1152 => ?_)
                have h4 : ze8 (v (8 + p)) k ≤ 4 := by unfold ze8; omega
                have h6 := zXe_f (f := (fun k => zsee (R, C, rk, sn, sk, cn, cd).2.1 (R, C, rk, sn, sk, cn, cd).2.2.1 (v p) g k (v (16 + p)) (zRe (R, C, rk, sn, sk, cn, cd) P v p (v (16 + p))))) (fc := v (8 + p)) (k := k) (fun q0 => absurd (q0.2.symm.trans b1150) (by decide))
                rw [← h6] at hb
                exact ih k1152 hk1152 (k + 1) b d _ _ (by omega) hb (zFr_trans hf1 f1147)
              · refine w_load (pc' := 76) (v := .int (zn k)) (m := 2) (ykc_272 (e := (2, .iload 5, 0)) rfl) rfl rfl ?_
                refine w_store (pc' := 77) (L' := [some (.ref 170), some (.int (zn p)), some (.int (zn g)), some (.int (zn k)), some (.int b), some (.int (zn k)), some (.int (zn (ze8 (v (8 + p)) k)))]) (st' := []) (m := 1) (ykc_272 (e := (3, .istore_n kF3, 0)) rfl) rfl rfl ?_
                refine w_load (pc' := 79) (v := .int (zn (ze8 (v (8 + p)) k))) (m := 2) (ykc_272 (e := (2, .iload 6, 0)) rfl) rfl rfl ?_
                refine w_store (pc' := 81) (L' := [some (.ref 170), some (.int (zn p)), some (.int (zn g)), some (.int (zn k)), some (.int (zn (ze8 (v (8 + p)) k))), some (.int (zn k)), some (.int (zn (ze8 (v (8 + p)) k)))]) (st' := []) (m := 2) (ykc_272 (e := (3, .istore 4, 0)) rfl) rfl rfl ?_
                have e1153 : (zn k) + Int32.ofInt 1 = zn (k + 1) := (zaddN (a := k) (b := 1) (znt (by omega)) c_5 (by omega))
                have te1153 := znt (k := k + 1) (by omega)
                refine w_store (pc' := 84) (L' := [some (.ref 170), some (.int (zn p)), some (.int (zn g)), some (.int (zn k)), some (.int (zn (ze8 (v (8 + p)) k))), some (.int (zn (k + 1))), some (.int (zn (ze8 (v (8 + p)) k)))]) (st' := []) (m := 3) (ykc_272 (e := (3, .iinc 5 1, 0)) rfl) (by rw [← e1153]; rfl) rfl ?_
                refine w_gb (ykc_272 (e := (4, .goto (-51), 33)) rfl) (fun k1154 hk1154 => ?_)
                have h4 : ze8 (v (8 + p)) k ≤ 4 := by unfold ze8; omega
                have h5 : ze8 (v (8 + p)) k < (zXe (fun k => zsee (R, C, rk, sn, sk, cn, cd).2.1 (R, C, rk, sn, sk, cn, cd).2.2.1 (v p) g k (v (16 + p)) (zRe (R, C, rk, sn, sk, cn, cd) P v p (v (16 + p)))) (v (8 + p)) k) := by rcases hb with ⟨q1, q2, q3⟩ | ⟨q1, q2, q3⟩ <;> omega
                have h6 := zXe_t (f := (fun k => zsee (R, C, rk, sn, sk, cn, cd).2.1 (R, C, rk, sn, sk, cn, cd).2.2.1 (v p) g k (v (16 + p)) (zRe (R, C, rk, sn, sk, cn, cd) P v p (v (16 + p))))) h5 b1150
                exact ih k1154 hk1154 (k + 1) (zn (ze8 (v (8 + p)) k)) (zn k) _ _ (by omega) (Or.inr ⟨by omega, by omega, by omega⟩) (zFr_trans hf1 f1147)
      exact hl n 0 _ _ _ _ (Nat.zero_le 8) (Or.inl ⟨rfl, by omega, by omega⟩) zFr_refl
    · refine w_alu (pc' := 22) (st' := [.int (Int32.ofInt (-1))]) (ykc_272 (e := (0, .iconst (-1), 0)) rfl) rfl rfl ?_
      refine w_ret (v := (some (.int (Int32.ofInt (-1))))) (ykc_272 (e := (7, .ireturn, 0)) rfl) (zr_v rfl) ?_
      rw [hQ]
      exact zXeig_n (fun q => absurd q.2 (of_decide_eq_false b1137))

/-! what looks answer: best; printed by wip/z/z3b_looks.py -/
theorem zT_cg {f g : Nat → Bool} {n : Nat} (h : ∀ i, i < n → f i = g i) : zT f n = zT g n := by
  induction n with
  | zero => rfl
  | succ n ih =>
    show (zT f n ||| bif f n then _ else _) = (zT g n ||| bif g n then _ else _)
    rw [ih (fun i hi => h i (by omega)), h n (by omega)]
def zXth (E : zEn) (P G : Nat) (v : Nat → Nat) (p k : Nat) : Int32 := zT (fun t => zsee E.2.1 E.2.2.1 (v p) (v (32 + t)) k (v (16 + p)) (zRe E P v p (v (16 + p)))) G
theorem zXth_c {E : zEn} {P G p k : Nat} {v : Nat → Nat} (hn : E.1 * E.2.1 ≤ 64) (ho : ∀ t, t < G → v (32 + t) < E.1 * E.2.1) : zTon G v (zS (fun g => zsee E.2.1 E.2.2.1 (v p) g k (v (16 + p)) (zRe E P v p (v (16 + p)))) (E.1 * E.2.1)) = zXth E P G v p k := by
  refine zT_cg fun t ht => ?_
  have h := ho t ht
  rw [zS_b hn (by omega), decide_eq_true h, Bool.true_and]
def zXbest (E : zEn) (P G : Nat) (v : Nat → Nat) (x : Int32) : Int32 := if 0 ≤ x.toInt ∧ x.toInt < (P : Int) then zn (zXw (fun k => zpc (zXth E P G v x.toInt.toNat k)) 7) else Int32.ofInt (-1)
theorem zXbest_n {E : zEn} {P G : Nat} {v : Nat → Nat} {x : Int32} (h : ¬ (0 ≤ x.toInt ∧ x.toInt < (P : Int))) : (some (.int (Int32.ofInt (-1))) : Option Value) = some (.int (zXbest E P G v x)) := by
  unfold zXbest
  rw [if_neg h]
theorem zXbest_p {E : zEn} {P G p : Nat} {v : Nat → Nat} (hp : p < P) (hP : P ≤ 8) : (some (.int (zn (zXw (fun k => zpc (zXth E P G v p k)) 7))) : Option Value) = some (.int (zXbest E P G v (zn p))) := by
  have t := znt (k := p) (by omega)
  unfold zXbest
  rw [if_pos (by omega), show (zn p).toInt.toNat = p by omega]
theorem zm_wouldT {ph : pm_H} {E : zEn} {P G : Nat} {v : Nat → Nat} (hS : zSh ph) (hE : zMe ph E) (hN : zMp ph P G) (hv : zNr ph 174 0 v) (hO : zOk E.1 E.2.1 P G v) {p fc : Nat} (hp : p < P) (hf : fc < 8) : zM 273 [.ref 170, .int (zn p), .int (zn fc)] ph (fun v0 q => zSc ph q ∧ v0 = some (.int (zXth E P G v p fc))) := by
  obtain ⟨Q, hQ⟩ : ∃ Q : Option Value → pm_H → Prop, Q = (fun v0 q => zSc ph q ∧ v0 = some (.int (zXth E P G v p fc))) := ⟨_, rfl⟩
  rw [← hQ]
  refine zM_mk fun n D => ?_
  show zW n D 273 Q 0 [some (.ref 170), some (.int (zn p)), some (.int (zn fc)), none, none] [] ph
  have c_0 : ((Int8.ofInt 32).toInt32).toInt = 32 := by decide
  have c_1 : (Int32.ofInt 0).toInt = 0 := by decide
  have c_2 : (Int32.ofInt 1).toInt = 1 := by decide
  have hA : (174 : Nat) = 174 ∨ (174 : Nat) = 175 := Or.inl rfl
  obtain ⟨R, C, rk, sn, sk, cn, cd⟩ := E
  have hL0 : zMl ph R C rk := hE.1
  have hR0 : zMr ph sn sk cn cd := hE.2.1
  have hcg : zcg cn cd := hE.2.2
  have hE0 : zMe ph (R, C, rk, sn, sk, cn, cd) := hE
  have hO0 : zOk R C P G v := hO
  have hN0 := hN
  have hL := hL0
  have hR := hR0
  obtain ⟨gR, gC, gK, hR3, hR7, hC3, hC7⟩ := hL
  have hRC := zRC49 hR7 hC7
  have tR := znt (k := R) (by omega)
  have tC := znt (k := C) (by omega)
  obtain ⟨gP, hP8, gG, hG8⟩ := hN
  have tP := znt (k := P) (by omega)
  have tG := znt (k := G) (by omega)
  obtain ⟨gsn, hs1, hs20, gsk, gcn, hc40, gcd⟩ := hR
  have tsn := znt (k := sn) (by omega)
  have tcn := znt (k := cn) (by omega)
  have tp := znt (k := p) (by omega)
  have tfc := znt (k := fc) (by omega)
  have op := hO0.1 p hp
  refine w_alu (pc' := 1) (st' := [.int (Int32.ofInt 0)]) (ykc_273 (e := (0, .iconst 0, 0)) rfl) rfl rfl ?_
  refine w_store (pc' := 2) (L' := [some (.ref 170), some (.int (zn p)), some (.int (zn fc)), some (.int (Int32.ofInt 0)), none]) (st' := []) (m := 1) (ykc_273 (e := (3, .istore_n kF3, 0)) rfl) rfl rfl ?_
  refine w_alu (pc' := 3) (st' := [.int (Int32.ofInt 0)]) (ykc_273 (e := (0, .iconst 0, 0)) rfl) rfl rfl ?_
  refine w_store (pc' := 5) (L' := [some (.ref 170), some (.int (zn p)), some (.int (zn fc)), some (.int (Int32.ofInt 0)), some (.int (Int32.ofInt 0))]) (st' := []) (m := 2) (ykc_273 (e := (3, .istore 4, 0)) rfl) rfl rfl ?_
  have hl : ∀ (n : Nat), ∀ (k : Nat) (ph1 : pm_H), (k ≤ G) → (zSc ph ph1) → zW n D 273 Q 5 [some (.ref 170), some (.int (zn p)), some (.int (zn fc)), some (.int (zT (fun t => zsee C rk (v p) (v (32 + t)) fc (v (16 + p)) (zRe (R, C, rk, sn, sk, cn, cd) P v p (v (16 + p)))) k)), some (.int (zn k))] [] ph1 := by
    intro n
    induction n using Nat.strongRecOn with
    | ind n ih =>
      intro k ph1 hk hf1
      have tk := znt (k := k) (by omega)
      refine w_load (pc' := 7) (v := .int (zn k)) (m := 2) (ykc_273 (e := (2, .iload 4, 0)) rfl) rfl rfl ?_
      refine w_load (pc' := 8) (v := .ref 170) (m := 1) (ykc_273 (e := (2, .aload_n kF0, 0)) rfl) rfl rfl ?_
      refine w_gf (pc' := 11) (v := .int (zn G)) (ykc_273 (e := (5, .getfield 133, 0)) rfl) rfl ((hf1.1 170 6 (by decide) (by decide)).trans gG) rfl ?_
      refine w_ige (ykc_273 (e := (4, .if_icmp .ge 39, 50)) rfl) rfl (fun b1155 => ?_) (fun b1155 => ?_)
      · refine w_load (pc' := 51) (v := .int (zT (fun t => zsee C rk (v p) (v (32 + t)) fc (v (16 + p)) (zRe (R, C, rk, sn, sk, cn, cd) P v p (v (16 + p)))) k)) (m := 1) (ykc_273 (e := (2, .iload_n kF3, 0)) rfl) rfl rfl ?_
        refine w_ret (v := (some (.int (zT (fun t => zsee C rk (v p) (v (32 + t)) fc (v (16 + p)) (zRe (R, C, rk, sn, sk, cn, cd) P v p (v (16 + p)))) k)))) (ykc_273 (e := (7, .ireturn, 0)) rfl) (zr_v rfl) ?_
        have ek : G = k := by omega
        subst ek
        rw [hQ]
        exact ⟨hf1, rfl⟩
      · refine w_load (pc' := 15) (v := .int (zT (fun t => zsee C rk (v p) (v (32 + t)) fc (v (16 + p)) (zRe (R, C, rk, sn, sk, cn, cd) P v p (v (16 + p)))) k)) (m := 1) (ykc_273 (e := (2, .iload_n kF3, 0)) rfl) rfl rfl ?_
        refine w_load (pc' := 16) (v := .ref 170) (m := 1) (ykc_273 (e := (2, .aload_n kF0, 0)) rfl) rfl rfl ?_
        refine w_load (pc' := 17) (v := .int (zn p)) (m := 1) (ykc_273 (e := (2, .iload_n kF1, 0)) rfl) rfl rfl ?_
        refine w_load (pc' := 18) (v := .ref 170) (m := 1) (ykc_273 (e := (2, .aload_n kF0, 0)) rfl) rfl rfl ?_
        refine w_gf (pc' := 21) (v := .ref 174) (ykc_273 (e := (5, .getfield 41, 0)) rfl) rfl ((hf1.1 170 11 (by decide) (by decide)).trans (zsg hS zs_170_11)) rfl ?_
        refine w_push (pc' := 23) (v := .int ((Int8.ofInt 32).toInt32)) (m := 2) (ykc_273 (e := (1, .bipush 32, 0)) rfl) rfl rfl ?_
        refine w_load (pc' := 25) (v := .int (zn k)) (m := 2) (ykc_273 (e := (2, .iload 4, 0)) rfl) rfl rfl ?_
        have e1156 : ((Int8.ofInt 32).toInt32) + (zn k) = zn (32 + k) := (zaddN (a := 32) (b := k) c_0 (znt (by omega)) (by omega)) 
        have te1156 := znt (k := 32 + k) (by omega)
        refine w_alu (pc' := 26) (st' := [.int (zn (32 + k)), .ref 174, .int (zn p), .ref 170, .int (zT (fun t => zsee C rk (v p) (v (32 + t)) fc (v (16 + p)) (zRe (R, C, rk, sn, sk, cn, cd) P v p (v (16 + p)))) k)]) (ykc_273 (e := (0, .iadd, 0)) rfl) (by rw [← e1156]; rfl) rfl ?_
        have q1157 := hO0.2.1 k (by omega)
        have tq1157 := znt (k := v (32 + k)) (by omega)
        refine w_ialk (pc' := 27) (k := 32 + k) (ykc_273 (e := (5, .iaload, 0)) rfl) ((hf1.1 174 (32 + k) (by decide) (by simp)).trans (zNr0 hv (i := 32 + k) (by omega))) (by omega) rfl ?_
        refine w_load (pc' := 28) (v := .int (zn fc)) (m := 1) (ykc_273 (e := (2, .iload_n kF2, 0)) rfl) rfl rfl ?_
        refine w_cv (as := [.ref 170, .int (zn p), .int (zn (v (32 + k))), .int (zn fc)]) (r := [.int (zT (fun t => zsee C rk (v p) (v (32 + t)) fc (v (16 + p)) (zRe (R, C, rk, sn, sk, cn, cd) P v p (v (16 + p)))) k)]) (ykc_273 (e := (6, .invokevirtual 433, 0)) rfl) rfl rfl rfl rfl (zm_would (zSc_S hf1 hS) (zSc_e hf1 hE0) (zSc_p hf1 hN0) (zSc_a hf1 (⟨hA, hv⟩ : (174 = 174 ∨ 174 = 175) ∧ zNr ph 174 0 v)).2 hO0 (p := p) (g := v (32 + k)) (fc := fc) (by omega) (show v (32 + k) < R * C by omega) (by omega)) (fun v1159 ph1160 hv => ?_)
        obtain ⟨f1158, rfl⟩ := hv
        show zW n D 273 Q 31 [some (.ref 170), some (.int (zn p)), some (.int (zn fc)), some (.int (zT (fun t => zsee C rk (v p) (v (32 + t)) fc (v (16 + p)) (zRe (R, C, rk, sn, sk, cn, cd) P v p (v (16 + p)))) k)), some (.int (zn k))] [.int (zI (zsee C rk (v p) (v (32 + k)) fc (v (16 + p)) (zRe (R, C, rk, sn, sk, cn, cd) P v p (v (16 + p))))), .int (zT (fun t => zsee C rk (v p) (v (32 + t)) fc (v (16 + p)) (zRe (R, C, rk, sn, sk, cn, cd) P v p (v (16 + p)))) k)] ph1160
        refine w_beq (ykc_273 (e := (4, .ifCond .eq 10, 41)) rfl) rfl (fun b1161 => ?_) (fun b1161 => ?_)
        · refine w_alu (pc' := 42) (st' := [.int (Int32.ofInt 0), .int (zT (fun t => zsee C rk (v p) (v (32 + t)) fc (v (16 + p)) (zRe (R, C, rk, sn, sk, cn, cd) P v p (v (16 + p)))) k)]) (ykc_273 (e := (0, .iconst 0, 0)) rfl) rfl rfl ?_
          refine w_alu (pc' := 43) (st' := [.int ((zT (fun t => zsee C rk (v p) (v (32 + t)) fc (v (16 + p)) (zRe (R, C, rk, sn, sk, cn, cd) P v p (v (16 + p)))) k) ||| (Int32.ofInt 0))]) (ykc_273 (e := (0, .ior, 0)) rfl) rfl rfl ?_
          refine w_store (pc' := 44) (L' := [some (.ref 170), some (.int (zn p)), some (.int (zn fc)), some (.int ((zT (fun t => zsee C rk (v p) (v (32 + t)) fc (v (16 + p)) (zRe (R, C, rk, sn, sk, cn, cd) P v p (v (16 + p)))) k) ||| (Int32.ofInt 0))), some (.int (zn k))]) (st' := []) (m := 1) (ykc_273 (e := (3, .istore_n kF3, 0)) rfl) rfl rfl ?_
          have e1162 : (zn k) + Int32.ofInt 1 = zn (k + 1) := (zaddN (a := k) (b := 1) (znt (by omega)) c_2 (by omega))
          have te1162 := znt (k := k + 1) (by omega)
          refine w_store (pc' := 47) (L' := [some (.ref 170), some (.int (zn p)), some (.int (zn fc)), some (.int ((zT (fun t => zsee C rk (v p) (v (32 + t)) fc (v (16 + p)) (zRe (R, C, rk, sn, sk, cn, cd) P v p (v (16 + p)))) k) ||| (Int32.ofInt 0))), some (.int (zn (k + 1)))]) (st' := []) (m := 3) (ykc_273 (e := (3, .iinc 4 1, 0)) rfl) (by rw [← e1162]; rfl) rfl ?_
          refine w_gb (ykc_273 (e := (4, .goto (-42), 5)) rfl) (fun k1163 hk1163 => ?_)
          have et : zT (fun t => zsee C rk (v p) (v (32 + t)) fc (v (16 + p)) (zRe (R, C, rk, sn, sk, cn, cd) P v p (v (16 + p)))) (k + 1) = (zT (fun t => zsee C rk (v p) (v (32 + t)) fc (v (16 + p)) (zRe (R, C, rk, sn, sk, cn, cd) P v p (v (16 + p)))) k) ||| (Int32.ofInt 0) := by
            show (zT (fun t => zsee C rk (v p) (v (32 + t)) fc (v (16 + p)) (zRe (R, C, rk, sn, sk, cn, cd) P v p (v (16 + p)))) k ||| bif zsee C rk (v p) (v (32 + k)) fc (v (16 + p)) (zRe (R, C, rk, sn, sk, cn, cd) P v p (v (16 + p))) then _ else _) = _
            rw [b1161]
            rfl
          have h9 := ih k1163 hk1163 (k + 1) _ (by omega) (zFr_trans hf1 f1158)
          rw [et] at h9
          exact h9
        · refine w_alu (pc' := 35) (st' := [.int (Int32.ofInt 1), .int (zT (fun t => zsee C rk (v p) (v (32 + t)) fc (v (16 + p)) (zRe (R, C, rk, sn, sk, cn, cd) P v p (v (16 + p)))) k)]) (ykc_273 (e := (0, .iconst 1, 0)) rfl) rfl rfl ?_
          refine w_load (pc' := 37) (v := .int (zn k)) (m := 2) (ykc_273 (e := (2, .iload 4, 0)) rfl) rfl rfl ?_
          refine w_alu (pc' := 38) (st' := [.int ((Int32.ofInt 1) <<< ((zn k) &&& 31)), .int (zT (fun t => zsee C rk (v p) (v (32 + t)) fc (v (16 + p)) (zRe (R, C, rk, sn, sk, cn, cd) P v p (v (16 + p)))) k)]) (ykc_273 (e := (0, .ishl, 0)) rfl) rfl rfl ?_
          refine w_br (pc' := 42) (st' := [.int ((Int32.ofInt 1) <<< ((zn k) &&& 31)), .int (zT (fun t => zsee C rk (v p) (v (32 + t)) fc (v (16 + p)) (zRe (R, C, rk, sn, sk, cn, cd) P v p (v (16 + p)))) k)]) (ykc_273 (e := (4, .goto 4, 42)) rfl) rfl ?_
          refine w_alu (pc' := 43) (st' := [.int ((zT (fun t => zsee C rk (v p) (v (32 + t)) fc (v (16 + p)) (zRe (R, C, rk, sn, sk, cn, cd) P v p (v (16 + p)))) k) ||| ((Int32.ofInt 1) <<< ((zn k) &&& 31)))]) (ykc_273 (e := (0, .ior, 0)) rfl) rfl rfl ?_
          refine w_store (pc' := 44) (L' := [some (.ref 170), some (.int (zn p)), some (.int (zn fc)), some (.int ((zT (fun t => zsee C rk (v p) (v (32 + t)) fc (v (16 + p)) (zRe (R, C, rk, sn, sk, cn, cd) P v p (v (16 + p)))) k) ||| ((Int32.ofInt 1) <<< ((zn k) &&& 31)))), some (.int (zn k))]) (st' := []) (m := 1) (ykc_273 (e := (3, .istore_n kF3, 0)) rfl) rfl rfl ?_
          have e1164 : (zn k) + Int32.ofInt 1 = zn (k + 1) := (zaddN (a := k) (b := 1) (znt (by omega)) c_2 (by omega))
          have te1164 := znt (k := k + 1) (by omega)
          refine w_store (pc' := 47) (L' := [some (.ref 170), some (.int (zn p)), some (.int (zn fc)), some (.int ((zT (fun t => zsee C rk (v p) (v (32 + t)) fc (v (16 + p)) (zRe (R, C, rk, sn, sk, cn, cd) P v p (v (16 + p)))) k) ||| ((Int32.ofInt 1) <<< ((zn k) &&& 31)))), some (.int (zn (k + 1)))]) (st' := []) (m := 3) (ykc_273 (e := (3, .iinc 4 1, 0)) rfl) (by rw [← e1164]; rfl) rfl ?_
          refine w_gb (ykc_273 (e := (4, .goto (-42), 5)) rfl) (fun k1165 hk1165 => ?_)
          have et : zT (fun t => zsee C rk (v p) (v (32 + t)) fc (v (16 + p)) (zRe (R, C, rk, sn, sk, cn, cd) P v p (v (16 + p)))) (k + 1) = (zT (fun t => zsee C rk (v p) (v (32 + t)) fc (v (16 + p)) (zRe (R, C, rk, sn, sk, cn, cd) P v p (v (16 + p)))) k) ||| ((Int32.ofInt 1) <<< ((zn k) &&& 31)) := by
            show (zT (fun t => zsee C rk (v p) (v (32 + t)) fc (v (16 + p)) (zRe (R, C, rk, sn, sk, cn, cd) P v p (v (16 + p)))) k ||| bif zsee C rk (v p) (v (32 + k)) fc (v (16 + p)) (zRe (R, C, rk, sn, sk, cn, cd) P v p (v (16 + p))) then _ else _) = _
            rw [b1161]
            rfl
          have h9 := ih k1165 hk1165 (k + 1) _ (by omega) (zFr_trans hf1 f1158)
          rw [et] at h9
          exact h9
  exact hl n 0 ph (Nat.zero_le _) zFr_refl
theorem zc_bestX {ph : pm_H} {E : zEn} {F P G : Nat} {v : Nat → Nat} (hS : zSh ph) (hE : zCe ph E F) (ht : zCt ph 25 P G v) (hO : zOk E.1 E.2.1 P G v) (hr : zc ph 10 1 = some (.ref F)) (hc : zCc ph E.1 E.2.1 E.2.2.1) {x : Int32} : zM 160 [.ref 0, .int x] ph (fun v0 _ => v0 = some (.int (zXbest E P G v x))) := by
  obtain ⟨Q, hQ⟩ : ∃ Q : Option Value → pm_H → Prop, Q = (fun v0 _ => v0 = some (.int (zXbest E P G v x))) := ⟨_, rfl⟩
  rw [← hQ]
  refine zM_mk fun n D => ?_
  show zW n D 160 Q 0 [some (.ref 0), some (.int x), none, none, none, none, none] [] ph
  have c_0 : ((Int8.ofInt 8).toInt32).toInt = 8 := by decide
  have c_1 : (Int32.ofInt (-1)).toInt = -1 := by decide
  have c_2 : (Int32.ofInt 0).toInt = 0 := by decide
  have c_3 : (Int32.ofInt 1).toInt = 1 := by decide
  obtain ⟨R, C, rk, sn, sk, cn, cd⟩ := E
  have hL0 : zCl ph R C rk := hE.1
  have hi0 : zCi ph sn sk := hE.2.1
  have hF : F = 11 ∨ F = 16 := hE.2.2.2
  have hE0 : zCe ph (R, C, rk, sn, sk, cn, cd) F := hE
  have hO0 : zOk R C P G v := hO
  have hL := hL0
  have hs := ht.1.2
  have hd := ht.2
  have h25 := ht.1.1
  obtain ⟨gR, gC, gN, gK, gA, hR3, hR7, hC3, hC7⟩ := hL
  have hRC := zRC49 hR7 hC7
  have tR := znt (k := R) (by omega)
  have tC := znt (k := C) (by omega)
  have tRC := znt (k := R * C) (by omega)
  have hd0 := hd
  have hs0 := hs
  obtain ⟨r3, r4, r5, r6, r7, l1, l2, l3, l4, l5⟩ := hs
  obtain ⟨gP, hP8, gG, hG8, gH, gv, gw⟩ := hd
  have tP := znt (k := P) (by omega)
  have tG := znt (k := G) (by omega)
  have h40 := hO0.2.2
  have t40 := znt (k := v 40) (by omega)
  have hc0 := hc
  refine w_load (pc' := 1) (v := .ref 0) (m := 1) (ykc_160 (e := (2, .aload_n kF0, 0)) rfl) rfl rfl ?_
  refine w_gf (pc' := 4) (v := .ref 25) (ykc_160 (e := (5, .getfield 42, 0)) rfl) rfl (zsg hS zs_0_4) rfl ?_
  refine w_load (pc' := 5) (v := .int x) (m := 1) (ykc_160 (e := (2, .iload_n kF1, 0)) rfl) rfl rfl ?_
  refine w_cv (as := [.ref 25, .int x]) (r := []) (ykc_160 (e := (6, .invokevirtual 167, 0)) rfl) rfl rfl rfl rfl (zc_hasP ht.1.2 ht.2 (i := x)) (fun v1166 ph1167 hv => ?_)
  obtain ⟨rfl, rfl⟩ := hv
  show zW n D 160 Q 8 [some (.ref 0), some (.int x), none, none, none, none, none] [.int (zI (decide (0 ≤ x.toInt ∧ x.toInt < ((P : Nat) : Int))))] ph
  refine w_bne (ykc_160 (e := (4, .ifCond .ne 5, 13)) rfl) rfl (fun b1168 => ?_) (fun b1168 => ?_)
  · have b_p := of_decide_eq_true b1168
    obtain ⟨p, h_p, rfl⟩ : ∃ p : Nat, p < P ∧ x = zn p := ⟨x.toInt.toNat, by omega, zn_of (by omega)⟩
    have t_p := znt (k := p) (by omega)
    have op := hO0.1 p h_p
    have tvp := znt (k := v p) (by omega)
    have tvf := znt (k := v (8 + p)) (by omega)
    have tvb := znt (k := v (16 + p)) (by omega)
    show zW n D 160 Q 13 [some (.ref 0), some (.int (zn p)), none, none, none, none, none] [] ph
    refine w_load (pc' := 14) (v := .ref 0) (m := 1) (ykc_160 (e := (2, .aload_n kF0, 0)) rfl) rfl rfl ?_
    refine w_gf (pc' := 17) (v := .ref 10) (ykc_160 (e := (5, .getfield 35, 0)) rfl) rfl (zsg hS zs_0_3) rfl ?_
    refine w_load (pc' := 18) (v := .ref 0) (m := 1) (ykc_160 (e := (2, .aload_n kF0, 0)) rfl) rfl rfl ?_
    refine w_gf (pc' := 21) (v := .ref 25) (ykc_160 (e := (5, .getfield 42, 0)) rfl) rfl (zsg hS zs_0_4) rfl ?_
    refine w_load (pc' := 22) (v := .int (zn p)) (m := 1) (ykc_160 (e := (2, .iload_n kF1, 0)) rfl) rfl rfl ?_
    refine w_cv (as := [.ref 10, .ref 25, .int (zn p)]) (r := []) (ykc_160 (e := (6, .invokevirtual 186, 0)) rfl) rfl rfl rfl rfl (zc_reachP hS hE0 ht hO0 hr (p := p) (by omega)) (fun v1170 ph1171 hv => ?_)
    obtain ⟨f1169, rfl⟩ := hv
    have hRe : zRe (R, C, rk, sn, sk, cn, cd) P v p (v (16 + p)) ≤ 9 := zRe_9
    show zW n D 160 Q 25 [some (.ref 0), some (.int (zn p)), none, none, none, none, none] [.int (zn (zRe (R, C, rk, sn, sk, cn, cd) P v p (v (16 + p))))] ph1171
    refine w_store (pc' := 26) (L' := [some (.ref 0), some (.int (zn p)), some (.int (zn (zRe (R, C, rk, sn, sk, cn, cd) P v p (v (16 + p))))), none, none, none, none]) (st' := []) (m := 1) (ykc_160 (e := (3, .istore_n kF2, 0)) rfl) rfl rfl ?_
    refine w_alu (pc' := 27) (st' := [.int (Int32.ofInt 0)]) (ykc_160 (e := (0, .iconst 0, 0)) rfl) rfl rfl ?_
    refine w_store (pc' := 28) (L' := [some (.ref 0), some (.int (zn p)), some (.int (zn (zRe (R, C, rk, sn, sk, cn, cd) P v p (v (16 + p))))), some (.int (Int32.ofInt 0)), none, none, none]) (st' := []) (m := 1) (ykc_160 (e := (3, .istore_n kF3, 0)) rfl) rfl rfl ?_
    refine w_load (pc' := 29) (v := .ref 0) (m := 1) (ykc_160 (e := (2, .aload_n kF0, 0)) rfl) rfl rfl ?_
    refine w_gf (pc' := 32) (v := .ref 25) (ykc_160 (e := (5, .getfield 42, 0)) rfl) rfl ((f1169.1 0 4 (by decide) (by decide)).trans (zsg hS zs_0_4)) rfl ?_
    refine w_load (pc' := 33) (v := .ref 0) (m := 1) (ykc_160 (e := (2, .aload_n kF0, 0)) rfl) rfl rfl ?_
    refine w_load (pc' := 34) (v := .int (zn p)) (m := 1) (ykc_160 (e := (2, .iload_n kF1, 0)) rfl) rfl rfl ?_
    refine w_alu (pc' := 35) (st' := [.int (Int32.ofInt 0), .int (zn p), .ref 0, .ref 25]) (ykc_160 (e := (0, .iconst 0, 0)) rfl) rfl rfl ?_
    refine w_load (pc' := 36) (v := .int (zn (zRe (R, C, rk, sn, sk, cn, cd) P v p (v (16 + p))))) (m := 1) (ykc_160 (e := (2, .iload_n kF2, 0)) rfl) rfl rfl ?_
    refine w_cv (as := [.ref 0, .int (zn p), .int (Int32.ofInt 0), .int (zn (zRe (R, C, rk, sn, sk, cn, cd) P v p (v (16 + p))))]) (r := [.ref 25]) (ykc_160 (e := (6, .invokevirtual 341, 0)) rfl) rfl rfl rfl rfl (zc_viewF (zCx_S (zCr_x f1169) hS) (zCx_e (zCr_x f1169) hE0) (zCx_t (zCr_x f1169) ht) hO0 ((f1169.1 10 1 (by decide) (by decide)).trans hr) (zCr_c f1169 hc0) (p := p) (fc := 0) (re := zRe (R, C, rk, sn, sk, cn, cd) P v p (v (16 + p))) (by omega) (by omega) (by omega)) (fun v1174 ph1175 hv => ?_)
    obtain ⟨f1172, hc1173, rfl⟩ := hv
    show zW n D 160 Q 39 [some (.ref 0), some (.int (zn p)), some (.int (zn (zRe (R, C, rk, sn, sk, cn, cd) P v p (v (16 + p))))), some (.int (Int32.ofInt 0)), none, none, none] [.long (zS (fun g => zsee C rk (v p) g 0 (v (16 + p)) (zRe (R, C, rk, sn, sk, cn, cd) P v p (v (16 + p)))) (R * C)), .ref 25] ph1175
    refine w_cv (as := [.ref 25, .long (zS (fun g => zsee C rk (v p) g 0 (v (16 + p)) (zRe (R, C, rk, sn, sk, cn, cd) P v p (v (16 + p)))) (R * C))]) (r := []) (ykc_160 (e := (6, .invokevirtual 194, 0)) rfl) rfl rfl rfl rfl (zc_ton (zCx_t (zFr_trans (zCr_x f1169) f1172) ht).1.2 (zCx_t (zFr_trans (zCr_x f1169) f1172) ht).2 (x := zS (fun g => zsee C rk (v p) g 0 (v (16 + p)) (zRe (R, C, rk, sn, sk, cn, cd) P v p (v (16 + p)))) (R * C)) (fun i hi => by have := hO0.2.1 i hi; omega)) (fun v1176 ph1177 hv => ?_)
    obtain ⟨rfl, rfl⟩ := hv
    rw [show zTon G v (zS (fun g => zsee C rk (v p) g 0 (v (16 + p)) (zRe (R, C, rk, sn, sk, cn, cd) P v p (v (16 + p)))) (R * C)) = zXth (R, C, rk, sn, sk, cn, cd) P G v p 0 from zXth_c (E := (R, C, rk, sn, sk, cn, cd)) (show R * C ≤ 64 by omega) hO0.2.1]
    show zW n D 160 Q 42 [some (.ref 0), some (.int (zn p)), some (.int (zn (zRe (R, C, rk, sn, sk, cn, cd) P v p (v (16 + p))))), some (.int (Int32.ofInt 0)), none, none, none] [.int (zXth (R, C, rk, sn, sk, cn, cd) P G v p 0)] ph1175
    refine w_store (pc' := 44) (L' := [some (.ref 0), some (.int (zn p)), some (.int (zn (zRe (R, C, rk, sn, sk, cn, cd) P v p (v (16 + p))))), some (.int (Int32.ofInt 0)), some (.int (zXth (R, C, rk, sn, sk, cn, cd) P G v p 0)), none, none]) (st' := []) (m := 2) (ykc_160 (e := (3, .istore 4, 0)) rfl) rfl rfl ?_
    refine w_alu (pc' := 45) (st' := [.int (Int32.ofInt 1)]) (ykc_160 (e := (0, .iconst 1, 0)) rfl) rfl rfl ?_
    refine w_store (pc' := 47) (L' := [some (.ref 0), some (.int (zn p)), some (.int (zn (zRe (R, C, rk, sn, sk, cn, cd) P v p (v (16 + p))))), some (.int (Int32.ofInt 0)), some (.int (zXth (R, C, rk, sn, sk, cn, cd) P G v p 0)), some (.int (Int32.ofInt 1)), none]) (st' := []) (m := 2) (ykc_160 (e := (3, .istore 5, 0)) rfl) rfl rfl ?_
    have hl : ∀ (n : Nat), ∀ (k : Nat) (o6 : Option Value) (ph1 : pm_H), (k + 1 ≤ 8) → (zCx ph1175 ph1) → (zCc ph1 R C rk) → zW n D 160 Q 47 [some (.ref 0), some (.int (zn p)), some (.int (zn (zRe (R, C, rk, sn, sk, cn, cd) P v p (v (16 + p))))), some (.int (zn (zXw (fun k => zpc (zXth (R, C, rk, sn, sk, cn, cd) P G v p k)) k))), some (.int (zXth (R, C, rk, sn, sk, cn, cd) P G v p (zXw (fun k => zpc (zXth (R, C, rk, sn, sk, cn, cd) P G v p k)) k))), some (.int (zn (k + 1))), o6] [] ph1 := by
      intro n
      induction n using Nat.strongRecOn with
      | ind n ih =>
        intro k o6 ph1 hk hf1 hc1
        have tk := znt (k := k + 1) (by omega)
        have lw := @zXw_le (fun k => zpc (zXth (R, C, rk, sn, sk, cn, cd) P G v p k)) k
        have tw := znt (k := zXw (fun k => zpc (zXth (R, C, rk, sn, sk, cn, cd) P G v p k)) k) (by omega)
        refine w_load (pc' := 49) (v := .int (zn (k + 1))) (m := 2) (ykc_160 (e := (2, .iload 5, 0)) rfl) rfl rfl ?_
        refine w_push (pc' := 51) (v := .int ((Int8.ofInt 8).toInt32)) (m := 2) (ykc_160 (e := (1, .bipush 8, 0)) rfl) rfl rfl ?_
        refine w_ige (ykc_160 (e := (4, .if_icmp .ge 46, 97)) rfl) rfl (fun b1178 => ?_) (fun b1178 => ?_)
        · have ek : k = 7 := by omega
          subst ek
          rw [hQ]
          exact zTail kc_160 false 3 97 9999 (fun _ => rfl) (Or.inl ⟨_, rfl⟩) (by decide +kernel) (by decide) (by decide) rfl (by decide +kernel) (fun _ => zXbest_p (E := (R, C, rk, sn, sk, cn, cd)) h_p (by omega))
        · refine w_load (pc' := 55) (v := .ref 0) (m := 1) (ykc_160 (e := (2, .aload_n kF0, 0)) rfl) rfl rfl ?_
          refine w_gf (pc' := 58) (v := .ref 25) (ykc_160 (e := (5, .getfield 42, 0)) rfl) rfl ((hf1.1 0 4 (by decide) (by decide)).trans ((f1172.1 0 4 (by decide) (by decide)).trans ((f1169.1 0 4 (by decide) (by decide)).trans (zsg hS zs_0_4)))) rfl ?_
          refine w_load (pc' := 59) (v := .ref 0) (m := 1) (ykc_160 (e := (2, .aload_n kF0, 0)) rfl) rfl rfl ?_
          refine w_load (pc' := 60) (v := .int (zn p)) (m := 1) (ykc_160 (e := (2, .iload_n kF1, 0)) rfl) rfl rfl ?_
          refine w_load (pc' := 62) (v := .int (zn (k + 1))) (m := 2) (ykc_160 (e := (2, .iload 5, 0)) rfl) rfl rfl ?_
          refine w_load (pc' := 63) (v := .int (zn (zRe (R, C, rk, sn, sk, cn, cd) P v p (v (16 + p))))) (m := 1) (ykc_160 (e := (2, .iload_n kF2, 0)) rfl) rfl rfl ?_
          refine w_cv (as := [.ref 0, .int (zn p), .int (zn (k + 1)), .int (zn (zRe (R, C, rk, sn, sk, cn, cd) P v p (v (16 + p))))]) (r := [.ref 25]) (ykc_160 (e := (6, .invokevirtual 341, 0)) rfl) rfl rfl rfl rfl (zc_viewF (zCx_S (zFr_trans (zFr_trans (zCr_x f1169) f1172) hf1) hS) (zCx_e (zFr_trans (zFr_trans (zCr_x f1169) f1172) hf1) hE0) (zCx_t (zFr_trans (zFr_trans (zCr_x f1169) f1172) hf1) ht) hO0 ((hf1.1 10 1 (by decide) (by decide)).trans ((f1172.1 10 1 (by decide) (by decide)).trans ((f1169.1 10 1 (by decide) (by decide)).trans hr))) hc1 (p := p) (fc := k + 1) (re := zRe (R, C, rk, sn, sk, cn, cd) P v p (v (16 + p))) (by omega) (by omega) (by omega)) (fun v1181 ph1182 hv => ?_)
          obtain ⟨f1179, hc1180, rfl⟩ := hv
          show zW n D 160 Q 66 [some (.ref 0), some (.int (zn p)), some (.int (zn (zRe (R, C, rk, sn, sk, cn, cd) P v p (v (16 + p))))), some (.int (zn (zXw (fun k => zpc (zXth (R, C, rk, sn, sk, cn, cd) P G v p k)) k))), some (.int (zXth (R, C, rk, sn, sk, cn, cd) P G v p (zXw (fun k => zpc (zXth (R, C, rk, sn, sk, cn, cd) P G v p k)) k))), some (.int (zn (k + 1))), o6] [.long (zS (fun g => zsee C rk (v p) g (k + 1) (v (16 + p)) (zRe (R, C, rk, sn, sk, cn, cd) P v p (v (16 + p)))) (R * C)), .ref 25] ph1182
          refine w_cv (as := [.ref 25, .long (zS (fun g => zsee C rk (v p) g (k + 1) (v (16 + p)) (zRe (R, C, rk, sn, sk, cn, cd) P v p (v (16 + p)))) (R * C))]) (r := []) (ykc_160 (e := (6, .invokevirtual 194, 0)) rfl) rfl rfl rfl rfl (zc_ton (zCx_t (zFr_trans (zFr_trans (zFr_trans (zCr_x f1169) f1172) hf1) f1179) ht).1.2 (zCx_t (zFr_trans (zFr_trans (zFr_trans (zCr_x f1169) f1172) hf1) f1179) ht).2 (x := zS (fun g => zsee C rk (v p) g (k + 1) (v (16 + p)) (zRe (R, C, rk, sn, sk, cn, cd) P v p (v (16 + p)))) (R * C)) (fun i hi => by have := hO0.2.1 i hi; omega)) (fun v1183 ph1184 hv => ?_)
          obtain ⟨rfl, rfl⟩ := hv
          rw [show zTon G v (zS (fun g => zsee C rk (v p) g (k + 1) (v (16 + p)) (zRe (R, C, rk, sn, sk, cn, cd) P v p (v (16 + p)))) (R * C)) = zXth (R, C, rk, sn, sk, cn, cd) P G v p (k + 1) from zXth_c (E := (R, C, rk, sn, sk, cn, cd)) (show R * C ≤ 64 by omega) hO0.2.1]
          show zW n D 160 Q 69 [some (.ref 0), some (.int (zn p)), some (.int (zn (zRe (R, C, rk, sn, sk, cn, cd) P v p (v (16 + p))))), some (.int (zn (zXw (fun k => zpc (zXth (R, C, rk, sn, sk, cn, cd) P G v p k)) k))), some (.int (zXth (R, C, rk, sn, sk, cn, cd) P G v p (zXw (fun k => zpc (zXth (R, C, rk, sn, sk, cn, cd) P G v p k)) k))), some (.int (zn (k + 1))), o6] [.int (zXth (R, C, rk, sn, sk, cn, cd) P G v p (k + 1))] ph1182
          refine w_store (pc' := 71) (L' := [some (.ref 0), some (.int (zn p)), some (.int (zn (zRe (R, C, rk, sn, sk, cn, cd) P v p (v (16 + p))))), some (.int (zn (zXw (fun k => zpc (zXth (R, C, rk, sn, sk, cn, cd) P G v p k)) k))), some (.int (zXth (R, C, rk, sn, sk, cn, cd) P G v p (zXw (fun k => zpc (zXth (R, C, rk, sn, sk, cn, cd) P G v p k)) k))), some (.int (zn (k + 1))), some (.int (zXth (R, C, rk, sn, sk, cn, cd) P G v p (k + 1)))]) (st' := []) (m := 2) (ykc_160 (e := (3, .istore 6, 0)) rfl) rfl rfl ?_
          refine w_load (pc' := 73) (v := .int (zXth (R, C, rk, sn, sk, cn, cd) P G v p (k + 1))) (m := 2) (ykc_160 (e := (2, .iload 6, 0)) rfl) rfl rfl ?_
          refine w_cs (as := [.int (zXth (R, C, rk, sn, sk, cn, cd) P G v p (k + 1))]) (r := []) (ykc_160 (e := (6, .invokestatic 313, 0)) rfl) rfl rfl rfl rfl (zj_pc (x := zXth (R, C, rk, sn, sk, cn, cd) P G v p (k + 1))) (fun v1185 ph1186 hv => ?_)
          obtain ⟨rfl, rfl⟩ := hv
          show zW n D 160 Q 76 [some (.ref 0), some (.int (zn p)), some (.int (zn (zRe (R, C, rk, sn, sk, cn, cd) P v p (v (16 + p))))), some (.int (zn (zXw (fun k => zpc (zXth (R, C, rk, sn, sk, cn, cd) P G v p k)) k))), some (.int (zXth (R, C, rk, sn, sk, cn, cd) P G v p (zXw (fun k => zpc (zXth (R, C, rk, sn, sk, cn, cd) P G v p k)) k))), some (.int (zn (k + 1))), some (.int (zXth (R, C, rk, sn, sk, cn, cd) P G v p (k + 1)))] [.int (zpc (zXth (R, C, rk, sn, sk, cn, cd) P G v p (k + 1)))] ph1182
          refine w_load (pc' := 78) (v := .int (zXth (R, C, rk, sn, sk, cn, cd) P G v p (zXw (fun k => zpc (zXth (R, C, rk, sn, sk, cn, cd) P G v p k)) k))) (m := 2) (ykc_160 (e := (2, .iload 4, 0)) rfl) rfl rfl ?_
          refine w_cs (as := [.int (zXth (R, C, rk, sn, sk, cn, cd) P G v p (zXw (fun k => zpc (zXth (R, C, rk, sn, sk, cn, cd) P G v p k)) k))]) (r := [.int (zpc (zXth (R, C, rk, sn, sk, cn, cd) P G v p (k + 1)))]) (ykc_160 (e := (6, .invokestatic 313, 0)) rfl) rfl rfl rfl rfl (zj_pc (x := zXth (R, C, rk, sn, sk, cn, cd) P G v p (zXw (fun k => zpc (zXth (R, C, rk, sn, sk, cn, cd) P G v p k)) k))) (fun v1187 ph1188 hv => ?_)
          obtain ⟨rfl, rfl⟩ := hv
          show zW n D 160 Q 81 [some (.ref 0), some (.int (zn p)), some (.int (zn (zRe (R, C, rk, sn, sk, cn, cd) P v p (v (16 + p))))), some (.int (zn (zXw (fun k => zpc (zXth (R, C, rk, sn, sk, cn, cd) P G v p k)) k))), some (.int (zXth (R, C, rk, sn, sk, cn, cd) P G v p (zXw (fun k => zpc (zXth (R, C, rk, sn, sk, cn, cd) P G v p k)) k))), some (.int (zn (k + 1))), some (.int (zXth (R, C, rk, sn, sk, cn, cd) P G v p (k + 1)))] [.int (zpc (zXth (R, C, rk, sn, sk, cn, cd) P G v p (zXw (fun k => zpc (zXth (R, C, rk, sn, sk, cn, cd) P G v p k)) k))), .int (zpc (zXth (R, C, rk, sn, sk, cn, cd) P G v p (k + 1)))] ph1182
          refine w_ile (ykc_160 (e := (4, .if_icmp .le 10, 91)) rfl) rfl (fun b1189 => ?_) (fun b1189 => ?_)
          · have e1190 : (zn (k + 1)) + Int32.ofInt 1 = zn (k + 1 + 1) := (zaddN (a := k + 1) (b := 1) (znt (by omega)) c_3 (by omega))
            have te1190 := znt (k := k + 1 + 1) (by omega)
            refine w_store (pc' := 94) (L' := [some (.ref 0), some (.int (zn p)), some (.int (zn (zRe (R, C, rk, sn, sk, cn, cd) P v p (v (16 + p))))), some (.int (zn (zXw (fun k => zpc (zXth (R, C, rk, sn, sk, cn, cd) P G v p k)) k))), some (.int (zXth (R, C, rk, sn, sk, cn, cd) P G v p (zXw (fun k => zpc (zXth (R, C, rk, sn, sk, cn, cd) P G v p k)) k))), some (.int (zn (k + 1 + 1))), some (.int (zXth (R, C, rk, sn, sk, cn, cd) P G v p (k + 1)))]) (st' := []) (m := 3) (ykc_160 (e := (3, .iinc 5 1, 0)) rfl) (by rw [← e1190]; rfl) rfl ?_
            refine w_gb (ykc_160 (e := (4, .goto (-47), 47)) rfl) (fun k1191 hk1191 => ?_)
            have et : zXw (fun k => zpc (zXth (R, C, rk, sn, sk, cn, cd) P G v p k)) (k + 1) = zXw (fun k => zpc (zXth (R, C, rk, sn, sk, cn, cd) P G v p k)) k := by
              show (if (zpc (zXth (R, C, rk, sn, sk, cn, cd) P G v p (zXw (fun k => zpc (zXth (R, C, rk, sn, sk, cn, cd) P G v p k)) k))).toInt < (zpc (zXth (R, C, rk, sn, sk, cn, cd) P G v p (k + 1))).toInt then k + 1 else zXw (fun k => zpc (zXth (R, C, rk, sn, sk, cn, cd) P G v p k)) k) = _
              rw [if_neg (by omega)]
            have h9 := ih k1191 hk1191 (k + 1) (some (.int (zXth (R, C, rk, sn, sk, cn, cd) P G v p (k + 1)))) _ (by omega) (zFr_trans hf1 f1179) hc1180
            rw [et] at h9
            exact h9
          · refine w_load (pc' := 86) (v := .int (zn (k + 1))) (m := 2) (ykc_160 (e := (2, .iload 5, 0)) rfl) rfl rfl ?_
            refine w_store (pc' := 87) (L' := [some (.ref 0), some (.int (zn p)), some (.int (zn (zRe (R, C, rk, sn, sk, cn, cd) P v p (v (16 + p))))), some (.int (zn (k + 1))), some (.int (zXth (R, C, rk, sn, sk, cn, cd) P G v p (zXw (fun k => zpc (zXth (R, C, rk, sn, sk, cn, cd) P G v p k)) k))), some (.int (zn (k + 1))), some (.int (zXth (R, C, rk, sn, sk, cn, cd) P G v p (k + 1)))]) (st' := []) (m := 1) (ykc_160 (e := (3, .istore_n kF3, 0)) rfl) rfl rfl ?_
            refine w_load (pc' := 89) (v := .int (zXth (R, C, rk, sn, sk, cn, cd) P G v p (k + 1))) (m := 2) (ykc_160 (e := (2, .iload 6, 0)) rfl) rfl rfl ?_
            refine w_store (pc' := 91) (L' := [some (.ref 0), some (.int (zn p)), some (.int (zn (zRe (R, C, rk, sn, sk, cn, cd) P v p (v (16 + p))))), some (.int (zn (k + 1))), some (.int (zXth (R, C, rk, sn, sk, cn, cd) P G v p (k + 1))), some (.int (zn (k + 1))), some (.int (zXth (R, C, rk, sn, sk, cn, cd) P G v p (k + 1)))]) (st' := []) (m := 2) (ykc_160 (e := (3, .istore 4, 0)) rfl) rfl rfl ?_
            have e1192 : (zn (k + 1)) + Int32.ofInt 1 = zn (k + 1 + 1) := (zaddN (a := k + 1) (b := 1) (znt (by omega)) c_3 (by omega))
            have te1192 := znt (k := k + 1 + 1) (by omega)
            refine w_store (pc' := 94) (L' := [some (.ref 0), some (.int (zn p)), some (.int (zn (zRe (R, C, rk, sn, sk, cn, cd) P v p (v (16 + p))))), some (.int (zn (k + 1))), some (.int (zXth (R, C, rk, sn, sk, cn, cd) P G v p (k + 1))), some (.int (zn (k + 1 + 1))), some (.int (zXth (R, C, rk, sn, sk, cn, cd) P G v p (k + 1)))]) (st' := []) (m := 3) (ykc_160 (e := (3, .iinc 5 1, 0)) rfl) (by rw [← e1192]; rfl) rfl ?_
            refine w_gb (ykc_160 (e := (4, .goto (-47), 47)) rfl) (fun k1193 hk1193 => ?_)
            have et : zXw (fun k => zpc (zXth (R, C, rk, sn, sk, cn, cd) P G v p k)) (k + 1) = k + 1 := by
              show (if (zpc (zXth (R, C, rk, sn, sk, cn, cd) P G v p (zXw (fun k => zpc (zXth (R, C, rk, sn, sk, cn, cd) P G v p k)) k))).toInt < (zpc (zXth (R, C, rk, sn, sk, cn, cd) P G v p (k + 1))).toInt then k + 1 else zXw (fun k => zpc (zXth (R, C, rk, sn, sk, cn, cd) P G v p k)) k) = _
              rw [if_pos (by omega)]
            have h9 := ih k1193 hk1193 (k + 1) (some (.int (zXth (R, C, rk, sn, sk, cn, cd) P G v p (k + 1)))) _ (by omega) (zFr_trans hf1 f1179) hc1180
            rw [et] at h9
            exact h9
    exact hl n 0 _ _ (by decide) zFr_refl hc1173
  · refine w_alu (pc' := 12) (st' := [.int (Int32.ofInt (-1))]) (ykc_160 (e := (0, .iconst (-1), 0)) rfl) rfl rfl ?_
    refine w_ret (v := (some (.int (Int32.ofInt (-1))))) (ykc_160 (e := (7, .ireturn, 0)) rfl) (zr_v rfl) ?_
    have b_n := of_decide_eq_false b1168
    rw [hQ]
    exact zXbest_n b_n
theorem zm_bestX {ph : pm_H} {E : zEn} {P G : Nat} {v : Nat → Nat} (hS : zSh ph) (hE : zMe ph E) (hN : zMp ph P G) (hv : zNr ph 174 0 v) (hO : zOk E.1 E.2.1 P G v) {x : Int32} : zM 277 [.ref 170, .int x] ph (fun v0 _ => v0 = some (.int (zXbest E P G v x))) := by
  obtain ⟨Q, hQ⟩ : ∃ Q : Option Value → pm_H → Prop, Q = (fun v0 _ => v0 = some (.int (zXbest E P G v x))) := ⟨_, rfl⟩
  rw [← hQ]
  refine zM_mk fun n D => ?_
  show zW n D 277 Q 0 [some (.ref 170), some (.int x), none, none] [] ph
  have c_0 : ((Int8.ofInt 8).toInt32).toInt = 8 := by decide
  have c_1 : (Int32.ofInt (-1)).toInt = -1 := by decide
  have c_2 : (Int32.ofInt 0).toInt = 0 := by decide
  have c_3 : (Int32.ofInt 1).toInt = 1 := by decide
  have hA : (174 : Nat) = 174 ∨ (174 : Nat) = 175 := Or.inl rfl
  obtain ⟨R, C, rk, sn, sk, cn, cd⟩ := E
  have hL0 : zMl ph R C rk := hE.1
  have hR0 : zMr ph sn sk cn cd := hE.2.1
  have hcg : zcg cn cd := hE.2.2
  have hE0 : zMe ph (R, C, rk, sn, sk, cn, cd) := hE
  have hO0 : zOk R C P G v := hO
  have hN0 := hN
  have hL := hL0
  have hR := hR0
  obtain ⟨gR, gC, gK, hR3, hR7, hC3, hC7⟩ := hL
  have hRC := zRC49 hR7 hC7
  have tR := znt (k := R) (by omega)
  have tC := znt (k := C) (by omega)
  obtain ⟨gP, hP8, gG, hG8⟩ := hN
  have tP := znt (k := P) (by omega)
  have tG := znt (k := G) (by omega)
  obtain ⟨gsn, hs1, hs20, gsk, gcn, hc40, gcd⟩ := hR
  have tsn := znt (k := sn) (by omega)
  have tcn := znt (k := cn) (by omega)
  refine w_load (pc' := 1) (v := .ref 170) (m := 1) (ykc_277 (e := (2, .aload_n kF0, 0)) rfl) rfl rfl ?_
  refine w_alu (pc' := 2) (st' := [.int (Int32.ofInt 0), .ref 170]) (ykc_277 (e := (0, .iconst 0, 0)) rfl) rfl rfl ?_
  refine w_pf (pc' := 5) (ykc_277 (e := (5, .putfield 3, 0)) rfl) rfl rfl (fun ph1195 u1194 => ?_)
  have f0 : zFr [] [(170, 0)] ph ph1195 := zFr_st u1194 (Or.inr (by simp))
  have hS1 := zSh_st u1194 (by decide +kernel) hS
  have hE1 : zMe ph1195 (R, C, rk, sn, sk, cn, cd) := ⟨zMl_F f0 (by simp) (by simp) (by simp) (by simp) hE0.1, zMr_F f0 (by simp) (by simp) (by simp) (by simp) hE0.2.1, hE0.2.2⟩
  have hN1 := zMp_F f0 (by simp) (by simp) (by simp) hN0
  have hv1 := zNr_F f0 (by simp) (by simp) hv
  have hL1 : zMl ph1195 R C rk := hE1.1
  have hR1 : zMr ph1195 sn sk cn cd := hE1.2.1
  refine w_load (pc' := 6) (v := .ref 170) (m := 1) (ykc_277 (e := (2, .aload_n kF0, 0)) rfl) rfl rfl ?_
  refine w_load (pc' := 7) (v := .int x) (m := 1) (ykc_277 (e := (2, .iload_n kF1, 0)) rfl) rfl rfl ?_
  refine w_cv (as := [.ref 170, .int x]) (r := []) (ykc_277 (e := (6, .invokevirtual 315, 0)) rfl) rfl rfl rfl rfl (zm_isPerson hN1 (p := x)) (fun v1196 ph1197 hv => ?_)
  obtain ⟨rfl, rfl⟩ := hv
  show zW n D 277 Q 10 [some (.ref 170), some (.int x), none, none] [.int (zI (decide (0 ≤ x.toInt ∧ x.toInt < ((P : Nat) : Int))))] ph1195
  refine w_bne (ykc_277 (e := (4, .ifCond .ne 5, 15)) rfl) rfl (fun b1198 => ?_) (fun b1198 => ?_)
  · have b_p := of_decide_eq_true b1198
    obtain ⟨p, h_p, rfl⟩ : ∃ p : Nat, p < P ∧ x = zn p := ⟨x.toInt.toNat, by omega, zn_of (by omega)⟩
    have t_p := znt (k := p) (by omega)
    have op := hO0.1 p h_p
    have tvp := znt (k := v p) (by omega)
    have tvf := znt (k := v (8 + p)) (by omega)
    have tvb := znt (k := v (16 + p)) (by omega)
    show zW n D 277 Q 15 [some (.ref 170), some (.int (zn p)), none, none] [] ph1195
    refine w_alu (pc' := 16) (st' := [.int (Int32.ofInt 0)]) (ykc_277 (e := (0, .iconst 0, 0)) rfl) rfl rfl ?_
    refine w_store (pc' := 17) (L' := [some (.ref 170), some (.int (zn p)), some (.int (Int32.ofInt 0)), none]) (st' := []) (m := 1) (ykc_277 (e := (3, .istore_n kF2, 0)) rfl) rfl rfl ?_
    refine w_alu (pc' := 18) (st' := [.int (Int32.ofInt 1)]) (ykc_277 (e := (0, .iconst 1, 0)) rfl) rfl rfl ?_
    refine w_store (pc' := 19) (L' := [some (.ref 170), some (.int (zn p)), some (.int (Int32.ofInt 0)), some (.int (Int32.ofInt 1))]) (st' := []) (m := 1) (ykc_277 (e := (3, .istore_n kF3, 0)) rfl) rfl rfl ?_
    have hl : ∀ (n : Nat), ∀ (k : Nat) (ph1 : pm_H), (k + 1 ≤ 8) → (zSc ph1195 ph1) → zW n D 277 Q 19 [some (.ref 170), some (.int (zn p)), some (.int (zn (zXw (fun k => zpc (zXth (R, C, rk, sn, sk, cn, cd) P G v p k)) k))), some (.int (zn (k + 1)))] [] ph1 := by
      intro n
      induction n using Nat.strongRecOn with
      | ind n ih =>
        intro k ph1 hk hf1
        have tk := znt (k := k + 1) (by omega)
        have lw := @zXw_le (fun k => zpc (zXth (R, C, rk, sn, sk, cn, cd) P G v p k)) k
        have tw := znt (k := zXw (fun k => zpc (zXth (R, C, rk, sn, sk, cn, cd) P G v p k)) k) (by omega)
        refine w_load (pc' := 20) (v := .int (zn (k + 1))) (m := 1) (ykc_277 (e := (2, .iload_n kF3, 0)) rfl) rfl rfl ?_
        refine w_push (pc' := 22) (v := .int ((Int8.ofInt 8).toInt32)) (m := 2) (ykc_277 (e := (1, .bipush 8, 0)) rfl) rfl rfl ?_
        refine w_ige (ykc_277 (e := (4, .if_icmp .ge 36, 58)) rfl) rfl (fun b1199 => ?_) (fun b1199 => ?_)
        · have ek : k = 7 := by omega
          subst ek
          rw [hQ]
          exact zTail kc_277 false 2 58 9999 (fun _ => rfl) (Or.inl ⟨_, rfl⟩) (by decide +kernel) (by decide) (by decide) rfl (by decide +kernel) (fun _ => zXbest_p (E := (R, C, rk, sn, sk, cn, cd)) h_p (by omega))
        · refine w_load (pc' := 26) (v := .ref 170) (m := 1) (ykc_277 (e := (2, .aload_n kF0, 0)) rfl) rfl rfl ?_
          refine w_load (pc' := 27) (v := .int (zn p)) (m := 1) (ykc_277 (e := (2, .iload_n kF1, 0)) rfl) rfl rfl ?_
          refine w_load (pc' := 28) (v := .int (zn (k + 1))) (m := 1) (ykc_277 (e := (2, .iload_n kF3, 0)) rfl) rfl rfl ?_
          refine w_cv (as := [.ref 170, .int (zn p), .int (zn (k + 1))]) (r := []) (ykc_277 (e := (6, .invokevirtual 440, 0)) rfl) rfl rfl rfl rfl (zm_wouldT (zSc_S hf1 hS1) (zSc_e hf1 hE1) (zSc_p hf1 hN1) (zSc_a hf1 (⟨hA, hv1⟩ : ((174 : Nat) = 174 ∨ (174 : Nat) = 175) ∧ zNr ph1195 174 0 v)).2 hO0 (p := p) (fc := k + 1) (by omega) (by omega)) (fun v1201 ph1202 hv => ?_)
          obtain ⟨f1200, rfl⟩ := hv
          show zW n D 277 Q 31 [some (.ref 170), some (.int (zn p)), some (.int (zn (zXw (fun k => zpc (zXth (R, C, rk, sn, sk, cn, cd) P G v p k)) k))), some (.int (zn (k + 1)))] [.int (zXth (R, C, rk, sn, sk, cn, cd) P G v p (k + 1))] ph1202
          refine w_cs (as := [.int (zXth (R, C, rk, sn, sk, cn, cd) P G v p (k + 1))]) (r := []) (ykc_277 (e := (6, .invokestatic 265, 0)) rfl) rfl rfl rfl rfl (zj_pc (x := zXth (R, C, rk, sn, sk, cn, cd) P G v p (k + 1))) (fun v1203 ph1204 hv => ?_)
          obtain ⟨rfl, rfl⟩ := hv
          show zW n D 277 Q 34 [some (.ref 170), some (.int (zn p)), some (.int (zn (zXw (fun k => zpc (zXth (R, C, rk, sn, sk, cn, cd) P G v p k)) k))), some (.int (zn (k + 1)))] [.int (zpc (zXth (R, C, rk, sn, sk, cn, cd) P G v p (k + 1)))] ph1202
          refine w_load (pc' := 35) (v := .ref 170) (m := 1) (ykc_277 (e := (2, .aload_n kF0, 0)) rfl) rfl rfl ?_
          refine w_load (pc' := 36) (v := .int (zn p)) (m := 1) (ykc_277 (e := (2, .iload_n kF1, 0)) rfl) rfl rfl ?_
          refine w_load (pc' := 37) (v := .int (zn (zXw (fun k => zpc (zXth (R, C, rk, sn, sk, cn, cd) P G v p k)) k))) (m := 1) (ykc_277 (e := (2, .iload_n kF2, 0)) rfl) rfl rfl ?_
          refine w_cv (as := [.ref 170, .int (zn p), .int (zn (zXw (fun k => zpc (zXth (R, C, rk, sn, sk, cn, cd) P G v p k)) k))]) (r := [.int (zpc (zXth (R, C, rk, sn, sk, cn, cd) P G v p (k + 1)))]) (ykc_277 (e := (6, .invokevirtual 440, 0)) rfl) rfl rfl rfl rfl (zm_wouldT (zSc_S (zFr_trans hf1 f1200) hS1) (zSc_e (zFr_trans hf1 f1200) hE1) (zSc_p (zFr_trans hf1 f1200) hN1) (zSc_a (zFr_trans hf1 f1200) (⟨hA, hv1⟩ : ((174 : Nat) = 174 ∨ (174 : Nat) = 175) ∧ zNr ph1195 174 0 v)).2 hO0 (p := p) (fc := zXw (fun k => zpc (zXth (R, C, rk, sn, sk, cn, cd) P G v p k)) k) (by omega) (by omega)) (fun v1206 ph1207 hv => ?_)
          obtain ⟨f1205, rfl⟩ := hv
          show zW n D 277 Q 40 [some (.ref 170), some (.int (zn p)), some (.int (zn (zXw (fun k => zpc (zXth (R, C, rk, sn, sk, cn, cd) P G v p k)) k))), some (.int (zn (k + 1)))] [.int (zXth (R, C, rk, sn, sk, cn, cd) P G v p (zXw (fun k => zpc (zXth (R, C, rk, sn, sk, cn, cd) P G v p k)) k)), .int (zpc (zXth (R, C, rk, sn, sk, cn, cd) P G v p (k + 1)))] ph1207
          refine w_cs (as := [.int (zXth (R, C, rk, sn, sk, cn, cd) P G v p (zXw (fun k => zpc (zXth (R, C, rk, sn, sk, cn, cd) P G v p k)) k))]) (r := [.int (zpc (zXth (R, C, rk, sn, sk, cn, cd) P G v p (k + 1)))]) (ykc_277 (e := (6, .invokestatic 265, 0)) rfl) rfl rfl rfl rfl (zj_pc (x := zXth (R, C, rk, sn, sk, cn, cd) P G v p (zXw (fun k => zpc (zXth (R, C, rk, sn, sk, cn, cd) P G v p k)) k))) (fun v1208 ph1209 hv => ?_)
          obtain ⟨rfl, rfl⟩ := hv
          show zW n D 277 Q 43 [some (.ref 170), some (.int (zn p)), some (.int (zn (zXw (fun k => zpc (zXth (R, C, rk, sn, sk, cn, cd) P G v p k)) k))), some (.int (zn (k + 1)))] [.int (zpc (zXth (R, C, rk, sn, sk, cn, cd) P G v p (zXw (fun k => zpc (zXth (R, C, rk, sn, sk, cn, cd) P G v p k)) k))), .int (zpc (zXth (R, C, rk, sn, sk, cn, cd) P G v p (k + 1)))] ph1207
          refine w_ile (ykc_277 (e := (4, .if_icmp .le 7, 50)) rfl) rfl (fun b1210 => ?_) (fun b1210 => ?_)
          · refine w_load (pc' := 51) (v := .int (zn (zXw (fun k => zpc (zXth (R, C, rk, sn, sk, cn, cd) P G v p k)) k))) (m := 1) (ykc_277 (e := (2, .iload_n kF2, 0)) rfl) rfl rfl ?_
            refine w_store (pc' := 52) (L' := [some (.ref 170), some (.int (zn p)), some (.int (zn (zXw (fun k => zpc (zXth (R, C, rk, sn, sk, cn, cd) P G v p k)) k))), some (.int (zn (k + 1)))]) (st' := []) (m := 1) (ykc_277 (e := (3, .istore_n kF2, 0)) rfl) rfl rfl ?_
            have e1211 : (zn (k + 1)) + Int32.ofInt 1 = zn (k + 1 + 1) := (zaddN (a := k + 1) (b := 1) (znt (by omega)) c_3 (by omega))
            have te1211 := znt (k := k + 1 + 1) (by omega)
            refine w_store (pc' := 55) (L' := [some (.ref 170), some (.int (zn p)), some (.int (zn (zXw (fun k => zpc (zXth (R, C, rk, sn, sk, cn, cd) P G v p k)) k))), some (.int (zn (k + 1 + 1)))]) (st' := []) (m := 3) (ykc_277 (e := (3, .iinc 3 1, 0)) rfl) (by rw [← e1211]; rfl) rfl ?_
            refine w_gb (ykc_277 (e := (4, .goto (-36), 19)) rfl) (fun k1212 hk1212 => ?_)
            have et : zXw (fun k => zpc (zXth (R, C, rk, sn, sk, cn, cd) P G v p k)) (k + 1) = zXw (fun k => zpc (zXth (R, C, rk, sn, sk, cn, cd) P G v p k)) k := by
              show (if (zpc (zXth (R, C, rk, sn, sk, cn, cd) P G v p (zXw (fun k => zpc (zXth (R, C, rk, sn, sk, cn, cd) P G v p k)) k))).toInt < (zpc (zXth (R, C, rk, sn, sk, cn, cd) P G v p (k + 1))).toInt then k + 1 else zXw (fun k => zpc (zXth (R, C, rk, sn, sk, cn, cd) P G v p k)) k) = _
              rw [if_neg (by omega)]
            have h9 := ih k1212 hk1212 (k + 1) _ (by omega) (zFr_trans (zFr_trans hf1 f1200) f1205)
            rw [et] at h9
            exact h9
          · refine w_load (pc' := 47) (v := .int (zn (k + 1))) (m := 1) (ykc_277 (e := (2, .iload_n kF3, 0)) rfl) rfl rfl ?_
            refine w_br (pc' := 51) (st' := [.int (zn (k + 1))]) (ykc_277 (e := (4, .goto 4, 51)) rfl) rfl ?_
            refine w_store (pc' := 52) (L' := [some (.ref 170), some (.int (zn p)), some (.int (zn (k + 1))), some (.int (zn (k + 1)))]) (st' := []) (m := 1) (ykc_277 (e := (3, .istore_n kF2, 0)) rfl) rfl rfl ?_
            have e1213 : (zn (k + 1)) + Int32.ofInt 1 = zn (k + 1 + 1) := (zaddN (a := k + 1) (b := 1) (znt (by omega)) c_3 (by omega))
            have te1213 := znt (k := k + 1 + 1) (by omega)
            refine w_store (pc' := 55) (L' := [some (.ref 170), some (.int (zn p)), some (.int (zn (k + 1))), some (.int (zn (k + 1 + 1)))]) (st' := []) (m := 3) (ykc_277 (e := (3, .iinc 3 1, 0)) rfl) (by rw [← e1213]; rfl) rfl ?_
            refine w_gb (ykc_277 (e := (4, .goto (-36), 19)) rfl) (fun k1214 hk1214 => ?_)
            have et : zXw (fun k => zpc (zXth (R, C, rk, sn, sk, cn, cd) P G v p k)) (k + 1) = k + 1 := by
              show (if (zpc (zXth (R, C, rk, sn, sk, cn, cd) P G v p (zXw (fun k => zpc (zXth (R, C, rk, sn, sk, cn, cd) P G v p k)) k))).toInt < (zpc (zXth (R, C, rk, sn, sk, cn, cd) P G v p (k + 1))).toInt then k + 1 else zXw (fun k => zpc (zXth (R, C, rk, sn, sk, cn, cd) P G v p k)) k) = _
              rw [if_pos (by omega)]
            have h9 := ih k1214 hk1214 (k + 1) _ (by omega) (zFr_trans (zFr_trans hf1 f1200) f1205)
            rw [et] at h9
            exact h9
    exact hl n 0 _ (by decide) zFr_refl
  · refine w_alu (pc' := 14) (st' := [.int (Int32.ofInt (-1))]) (ykc_277 (e := (0, .iconst (-1), 0)) rfl) rfl rfl ?_
    refine w_ret (v := (some (.int (Int32.ofInt (-1))))) (ykc_277 (e := (7, .ireturn, 0)) rfl) (zr_v rfl) ?_
    have b_n := of_decide_eq_false b1198
    rw [hQ]
    exact zXbest_n b_n

/-! what looks answer: storm, ahead, learns; printed by wip/z/z3c_looks.py -/
def zXstorm (n : Nat) (x y z : Int32) : Int32 := if (0 ≤ x.toInt ∧ x.toInt < (n : Int)) ∧ (0 ≤ y.toInt ∧ y.toInt ≤ 8) ∧ 0 ≤ z.toInt ∧ z.toInt ≤ 10 then Int32.ofInt 0 else Int32.ofInt (-1)
theorem zXstorm_n {n : Nat} {x y z : Int32} (h : ¬ ((0 ≤ x.toInt ∧ x.toInt < (n : Int)) ∧ (0 ≤ y.toInt ∧ y.toInt ≤ 8) ∧ 0 ≤ z.toInt ∧ z.toInt ≤ 10)) : (some (.int (Int32.ofInt (-1))) : Option Value) = some (.int (zXstorm n x y z)) := by
  unfold zXstorm
  rw [if_neg h]
theorem zXstorm_p {n : Nat} {x y z : Int32} (h : (0 ≤ x.toInt ∧ x.toInt < (n : Int)) ∧ (0 ≤ y.toInt ∧ y.toInt ≤ 8) ∧ 0 ≤ z.toInt ∧ z.toInt ≤ 10) : (some (.int (Int32.ofInt 0)) : Option Value) = some (.int (zXstorm n x y z)) := by
  unfold zXstorm
  rw [if_pos h]
theorem zc_stormX {ph : pm_H} {E : zEn} {F P G : Nat} {v : Nat → Nat} (hS : zSh ph) (hE : zCe ph E F) (ht : zCt ph 25 P G v) (hO : zOk E.1 E.2.1 P G v) (hr : zc ph 10 1 = some (.ref F)) (hc : zCc ph E.1 E.2.1 E.2.2.1) {x y z : Int32} : zM 171 [.ref 0, .int x, .int y, .int z] ph (fun v0 _ => v0 = some (.int (zXstorm (E.1 * E.2.1) x y z))) := by
  obtain ⟨Q, hQ⟩ : ∃ Q : Option Value → pm_H → Prop, Q = (fun v0 _ => v0 = some (.int (zXstorm (E.1 * E.2.1) x y z))) := ⟨_, rfl⟩
  rw [← hQ]
  refine zM_mk fun n D => ?_
  show zW n D 171 Q 0 [some (.ref 0), some (.int x), some (.int y), some (.int z), none, none, none] [] ph
  have c_0 : ((Int8.ofInt 10).toInt32).toInt = 10 := by decide
  have c_1 : ((Int8.ofInt 8).toInt32).toInt = 8 := by decide
  have c_2 : (Int32.ofInt (-1)).toInt = -1 := by decide
  have c_3 : (Int32.ofInt 0).toInt = 0 := by decide
  have c_4 : (Int32.ofInt 1).toInt = 1 := by decide
  obtain ⟨R, C, rk, sn, sk, cn, cd⟩ := E
  have hL0 : zCl ph R C rk := hE.1
  have hi0 : zCi ph sn sk := hE.2.1
  have hF : F = 11 ∨ F = 16 := hE.2.2.2
  have hE0 : zCe ph (R, C, rk, sn, sk, cn, cd) F := hE
  have hO0 : zOk R C P G v := hO
  have hL := hL0
  have hs := ht.1.2
  have hd := ht.2
  have h25 := ht.1.1
  obtain ⟨gR, gC, gN, gK, gA, hR3, hR7, hC3, hC7⟩ := hL
  have hRC := zRC49 hR7 hC7
  have tR := znt (k := R) (by omega)
  have tC := znt (k := C) (by omega)
  have tRC := znt (k := R * C) (by omega)
  have hd0 := hd
  have hs0 := hs
  obtain ⟨r3, r4, r5, r6, r7, l1, l2, l3, l4, l5⟩ := hs
  obtain ⟨gP, hP8, gG, hG8, gH, gv, gw⟩ := hd
  have tP := znt (k := P) (by omega)
  have tG := znt (k := G) (by omega)
  have h40 := hO0.2.2
  have t40 := znt (k := v 40) (by omega)
  have hc0 := hc
  refine w_load (pc' := 1) (v := .ref 0) (m := 1) (ykc_171 (e := (2, .aload_n kF0, 0)) rfl) rfl rfl ?_
  refine w_gf (pc' := 4) (v := .ref 5) (ykc_171 (e := (5, .getfield 26, 0)) rfl) rfl (zsg hS zs_0_2) rfl ?_
  refine w_load (pc' := 5) (v := .int x) (m := 1) (ykc_171 (e := (2, .iload_n kF1, 0)) rfl) rfl rfl ?_
  refine w_cv (as := [.ref 5, .int x]) (r := []) (ykc_171 (e := (6, .invokevirtual 302, 0)) rfl) rfl rfl rfl rfl (zc_holds hS hL0 (f := x)) (fun v1215 ph1216 hv => ?_)
  obtain ⟨rfl, rfl⟩ := hv
  show zW n D 171 Q 8 [some (.ref 0), some (.int x), some (.int y), some (.int z), none, none, none] [.int (zI (decide (0 ≤ x.toInt ∧ x.toInt < ((R * C : Nat) : Int))))] ph
  refine w_beq (ykc_171 (e := (4, .ifCond .eq 23, 31)) rfl) rfl (fun b1217 => ?_) (fun b1217 => ?_)
  · refine w_alu (pc' := 32) (st' := [.int (Int32.ofInt (-1))]) (ykc_171 (e := (0, .iconst (-1), 0)) rfl) rfl rfl ?_
    refine w_ret (v := (some (.int (Int32.ofInt (-1))))) (ykc_171 (e := (7, .ireturn, 0)) rfl) (zr_v rfl) ?_
    rw [hQ]
    exact zXstorm_n (n := R * C) (fun q => absurd q.1 (of_decide_eq_false b1217))
  · refine w_load (pc' := 12) (v := .int y) (m := 1) (ykc_171 (e := (2, .iload_n kF2, 0)) rfl) rfl rfl ?_
    refine w_zlt (ykc_171 (e := (4, .ifCond .lt 19, 31)) rfl) rfl (fun b1218 => ?_) (fun b1218 => ?_)
    · refine w_alu (pc' := 32) (st' := [.int (Int32.ofInt (-1))]) (ykc_171 (e := (0, .iconst (-1), 0)) rfl) rfl rfl ?_
      refine w_ret (v := (some (.int (Int32.ofInt (-1))))) (ykc_171 (e := (7, .ireturn, 0)) rfl) (zr_v rfl) ?_
      rw [hQ]
      exact zXstorm_n (n := R * C) (fun q => by have q1 := q.2; omega)
    · refine w_load (pc' := 16) (v := .int y) (m := 1) (ykc_171 (e := (2, .iload_n kF2, 0)) rfl) rfl rfl ?_
      refine w_push (pc' := 18) (v := .int ((Int8.ofInt 8).toInt32)) (m := 2) (ykc_171 (e := (1, .bipush 8, 0)) rfl) rfl rfl ?_
      refine w_igt (ykc_171 (e := (4, .if_icmp .gt 13, 31)) rfl) rfl (fun b1219 => ?_) (fun b1219 => ?_)
      · refine w_alu (pc' := 32) (st' := [.int (Int32.ofInt (-1))]) (ykc_171 (e := (0, .iconst (-1), 0)) rfl) rfl rfl ?_
        refine w_ret (v := (some (.int (Int32.ofInt (-1))))) (ykc_171 (e := (7, .ireturn, 0)) rfl) (zr_v rfl) ?_
        rw [hQ]
        exact zXstorm_n (n := R * C) (fun q => by have q1 := q.2; omega)
      · refine w_load (pc' := 22) (v := .int z) (m := 1) (ykc_171 (e := (2, .iload_n kF3, 0)) rfl) rfl rfl ?_
        refine w_zlt (ykc_171 (e := (4, .ifCond .lt 9, 31)) rfl) rfl (fun b1220 => ?_) (fun b1220 => ?_)
        · refine w_alu (pc' := 32) (st' := [.int (Int32.ofInt (-1))]) (ykc_171 (e := (0, .iconst (-1), 0)) rfl) rfl rfl ?_
          refine w_ret (v := (some (.int (Int32.ofInt (-1))))) (ykc_171 (e := (7, .ireturn, 0)) rfl) (zr_v rfl) ?_
          rw [hQ]
          exact zXstorm_n (n := R * C) (fun q => by have q1 := q.2; omega)
        · refine w_load (pc' := 26) (v := .int z) (m := 1) (ykc_171 (e := (2, .iload_n kF3, 0)) rfl) rfl rfl ?_
          refine w_push (pc' := 28) (v := .int ((Int8.ofInt 10).toInt32)) (m := 2) (ykc_171 (e := (1, .bipush 10, 0)) rfl) rfl rfl ?_
          refine w_ile (ykc_171 (e := (4, .if_icmp .le 5, 33)) rfl) rfl (fun b1221 => ?_) (fun b1221 => ?_)
          · rw [hQ]
            exact zTail0 kc_171 33 147 (fun _ => rfl) (by decide +kernel) (by decide) (by decide) (by decide +kernel) (fun _ => zXstorm_p (n := R * C) ⟨of_decide_eq_true b1217, by omega, by omega⟩)
          · refine w_alu (pc' := 32) (st' := [.int (Int32.ofInt (-1))]) (ykc_171 (e := (0, .iconst (-1), 0)) rfl) rfl rfl ?_
            refine w_ret (v := (some (.int (Int32.ofInt (-1))))) (ykc_171 (e := (7, .ireturn, 0)) rfl) (zr_v rfl) ?_
            rw [hQ]
            exact zXstorm_n (n := R * C) (fun q => by have q1 := q.2; omega)
theorem zm_stormX {ph : pm_H} {E : zEn} {P G : Nat} {v : Nat → Nat} (hS : zSh ph) (hE : zMe ph E) (hN : zMp ph P G) (hv : zNr ph 174 0 v) (hO : zOk E.1 E.2.1 P G v) {x y z : Int32} : zM 288 [.ref 170, .int x, .int y, .int z] ph (fun v0 _ => v0 = some (.int (zXstorm (E.1 * E.2.1) x y z))) := by
  obtain ⟨Q, hQ⟩ : ∃ Q : Option Value → pm_H → Prop, Q = (fun v0 _ => v0 = some (.int (zXstorm (E.1 * E.2.1) x y z))) := ⟨_, rfl⟩
  rw [← hQ]
  refine zM_mk fun n D => ?_
  show zW n D 288 Q 0 [some (.ref 170), some (.int x), some (.int y), some (.int z), none, none, none, none, none, none] [] ph
  have c_0 : ((Int8.ofInt 10).toInt32).toInt = 10 := by decide
  have c_1 : ((Int8.ofInt 8).toInt32).toInt = 8 := by decide
  have c_2 : (Int32.ofInt (-1)).toInt = -1 := by decide
  have c_3 : (Int32.ofInt 0).toInt = 0 := by decide
  have c_4 : (Int32.ofInt 1).toInt = 1 := by decide
  have hA : (174 : Nat) = 174 ∨ (174 : Nat) = 175 := Or.inl rfl
  obtain ⟨R, C, rk, sn, sk, cn, cd⟩ := E
  have hL0 : zMl ph R C rk := hE.1
  have hR0 : zMr ph sn sk cn cd := hE.2.1
  have hcg : zcg cn cd := hE.2.2
  have hE0 : zMe ph (R, C, rk, sn, sk, cn, cd) := hE
  have hO0 : zOk R C P G v := hO
  have hN0 := hN
  have hL := hL0
  have hR := hR0
  obtain ⟨gR, gC, gK, hR3, hR7, hC3, hC7⟩ := hL
  have hRC := zRC49 hR7 hC7
  have tR := znt (k := R) (by omega)
  have tC := znt (k := C) (by omega)
  obtain ⟨gP, hP8, gG, hG8⟩ := hN
  have tP := znt (k := P) (by omega)
  have tG := znt (k := G) (by omega)
  obtain ⟨gsn, hs1, hs20, gsk, gcn, hc40, gcd⟩ := hR
  have tsn := znt (k := sn) (by omega)
  have tcn := znt (k := cn) (by omega)
  refine w_load (pc' := 1) (v := .ref 170) (m := 1) (ykc_288 (e := (2, .aload_n kF0, 0)) rfl) rfl rfl ?_
  refine w_alu (pc' := 2) (st' := [.int (Int32.ofInt 0), .ref 170]) (ykc_288 (e := (0, .iconst 0, 0)) rfl) rfl rfl ?_
  refine w_pf (pc' := 5) (ykc_288 (e := (5, .putfield 3, 0)) rfl) rfl rfl (fun ph1223 u1222 => ?_)
  have f0 : zFr [] [(170, 0)] ph ph1223 := zFr_st u1222 (Or.inr (by simp))
  have hS1 := zSh_st u1222 (by decide +kernel) hS
  have hE1 : zMe ph1223 (R, C, rk, sn, sk, cn, cd) := ⟨zMl_F f0 (by simp) (by simp) (by simp) (by simp) hE0.1, zMr_F f0 (by simp) (by simp) (by simp) (by simp) hE0.2.1, hE0.2.2⟩
  have hN1 := zMp_F f0 (by simp) (by simp) (by simp) hN0
  have hv1 := zNr_F f0 (by simp) (by simp) hv
  have hL1 : zMl ph1223 R C rk := hE1.1
  have hR1 : zMr ph1223 sn sk cn cd := hE1.2.1
  refine w_load (pc' := 6) (v := .ref 170) (m := 1) (ykc_288 (e := (2, .aload_n kF0, 0)) rfl) rfl rfl ?_
  refine w_load (pc' := 7) (v := .int x) (m := 1) (ykc_288 (e := (2, .iload_n kF1, 0)) rfl) rfl rfl ?_
  refine w_cv (as := [.ref 170, .int x]) (r := []) (ykc_288 (e := (6, .invokevirtual 358, 0)) rfl) rfl rfl rfl rfl (zm_isField hS1 hL1 (f := x)) (fun v1224 ph1225 hv => ?_)
  obtain ⟨rfl, rfl⟩ := hv
  show zW n D 288 Q 10 [some (.ref 170), some (.int x), some (.int y), some (.int z), none, none, none, none, none, none] [.int (zI (decide (0 ≤ x.toInt ∧ x.toInt < ((R * C : Nat) : Int))))] ph1223
  refine w_beq (ykc_288 (e := (4, .ifCond .eq 27, 37)) rfl) rfl (fun b1226 => ?_) (fun b1226 => ?_)
  · refine w_alu (pc' := 38) (st' := [.int (Int32.ofInt (-1))]) (ykc_288 (e := (0, .iconst (-1), 0)) rfl) rfl rfl ?_
    refine w_ret (v := (some (.int (Int32.ofInt (-1))))) (ykc_288 (e := (7, .ireturn, 0)) rfl) (zr_v rfl) ?_
    rw [hQ]
    exact zXstorm_n (n := R * C) (fun q => absurd q.1 (of_decide_eq_false b1226))
  · refine w_load (pc' := 14) (v := .int y) (m := 1) (ykc_288 (e := (2, .iload_n kF2, 0)) rfl) rfl rfl ?_
    refine w_alu (pc' := 15) (st' := [.long y.toInt64]) (ykc_288 (e := (0, .i2l, 0)) rfl) rfl rfl ?_
    refine w_alu (pc' := 16) (st' := [.long (Int64.ofNat kG0), .long y.toInt64]) (ykc_288 (e := (0, .lconst kG0, 0)) rfl) rfl rfl ?_
    refine w_push (pc' := 19) (v := .long (8 : Int64)) (m := 3) (ykc_288 (e := (1, .ldc2_w 457, 0)) rfl) rfl rfl ?_
    refine w_cs (as := [.long y.toInt64, .long (Int64.ofNat kG0), .long (8 : Int64)]) (r := []) (ykc_288 (e := (6, .invokestatic 126, 0)) rfl) rfl rfl rfl rfl (zm_in (x := y.toInt) (y := (0 : Int)) (z := (8 : Int)) (by first | exact ztl | (rw [ztl]; omega) | decide | omega) (by first | exact ztl | (rw [ztl]; omega) | decide | omega) (by first | exact ztl | (rw [ztl]; omega) | decide | omega)) (fun v1227 ph1228 hv => ?_)
    obtain ⟨rfl, rfl⟩ := hv
    show zW n D 288 Q 22 [some (.ref 170), some (.int x), some (.int y), some (.int z), none, none, none, none, none, none] [.int (zI (decide ((0 : Int) ≤ y.toInt ∧ y.toInt ≤ (8 : Int))))] ph1223
    refine w_beq (ykc_288 (e := (4, .ifCond .eq 15, 37)) rfl) rfl (fun b1229 => ?_) (fun b1229 => ?_)
    · refine w_alu (pc' := 38) (st' := [.int (Int32.ofInt (-1))]) (ykc_288 (e := (0, .iconst (-1), 0)) rfl) rfl rfl ?_
      refine w_ret (v := (some (.int (Int32.ofInt (-1))))) (ykc_288 (e := (7, .ireturn, 0)) rfl) (zr_v rfl) ?_
      rw [hQ]
      exact zXstorm_n (n := R * C) (fun q => absurd q.2.1 (of_decide_eq_false b1229))
    · refine w_load (pc' := 26) (v := .int z) (m := 1) (ykc_288 (e := (2, .iload_n kF3, 0)) rfl) rfl rfl ?_
      refine w_alu (pc' := 27) (st' := [.long z.toInt64]) (ykc_288 (e := (0, .i2l, 0)) rfl) rfl rfl ?_
      refine w_alu (pc' := 28) (st' := [.long (Int64.ofNat kG0), .long z.toInt64]) (ykc_288 (e := (0, .lconst kG0, 0)) rfl) rfl rfl ?_
      refine w_push (pc' := 31) (v := .long (10 : Int64)) (m := 3) (ykc_288 (e := (1, .ldc2_w 459, 0)) rfl) rfl rfl ?_
      refine w_cs (as := [.long z.toInt64, .long (Int64.ofNat kG0), .long (10 : Int64)]) (r := []) (ykc_288 (e := (6, .invokestatic 126, 0)) rfl) rfl rfl rfl rfl (zm_in (x := z.toInt) (y := (0 : Int)) (z := (10 : Int)) (by first | exact ztl | (rw [ztl]; omega) | decide | omega) (by first | exact ztl | (rw [ztl]; omega) | decide | omega) (by first | exact ztl | (rw [ztl]; omega) | decide | omega)) (fun v1230 ph1231 hv => ?_)
      obtain ⟨rfl, rfl⟩ := hv
      show zW n D 288 Q 34 [some (.ref 170), some (.int x), some (.int y), some (.int z), none, none, none, none, none, none] [.int (zI (decide ((0 : Int) ≤ z.toInt ∧ z.toInt ≤ (10 : Int))))] ph1223
      refine w_bne (ykc_288 (e := (4, .ifCond .ne 5, 39)) rfl) rfl (fun b1232 => ?_) (fun b1232 => ?_)
      · rw [hQ]
        exact zTail0 kc_288 39 289 (fun _ => rfl) (by decide +kernel) (by decide) (by decide) (by decide +kernel) (fun _ => zXstorm_p (n := R * C) ⟨of_decide_eq_true b1226, of_decide_eq_true b1229, of_decide_eq_true b1232⟩)
      · refine w_alu (pc' := 38) (st' := [.int (Int32.ofInt (-1))]) (ykc_288 (e := (0, .iconst (-1), 0)) rfl) rfl rfl ?_
        refine w_ret (v := (some (.int (Int32.ofInt (-1))))) (ykc_288 (e := (7, .ireturn, 0)) rfl) (zr_v rfl) ?_
        rw [hQ]
        exact zXstorm_n (n := R * C) (fun q => absurd q.2.2 (of_decide_eq_false b1232))
/-- the class's row of a trial -/
def zTb (q : pm_H) (E : zEn) (F P G : Nat) (v : Nat → Nat) : Prop := zSh q ∧ zCe q E F ∧ zCt q 37 P G v ∧ zc q 10 1 = some (.ref F) ∧ zCc q E.1 E.2.1 E.2.2.1
theorem zTb_copy {ph q : pm_H} {E : zEn} {F P G : Nat} {v : Nat → Nat} (hS : zSh ph) (hE : zCe ph E F) (hr : zc ph 10 1 = some (.ref F)) (hc : zCc ph E.1 E.2.1 E.2.2.1) (fq : zCo 37 ph q) (db : zSd q 37 P G v) : zTb q E F P G v := by
  have eQ : ∀ a k, ¬ (37 ≤ a ∧ a ≤ 42) → zc q a k = zc ph a k := fun a k ha => fq.1 a k (by simp <;> omega) (by simp <;> omega)
  have hSq : zSh q := zSh_F fq (by decide +kernel) hS
  exact ⟨hSq, zCe_Q hSq (fun a k t => eQ a k (by omega)) (fun a k t => eQ a k (by omega)) (fun a k t => eQ a k (by omega)) hE, ⟨⟨by decide, zSs_of hSq (S := 37) (by decide)⟩, db⟩, (eQ 10 1 (by omega)).trans hr, zCc_Q (fun a k t => eQ a k (by omega)) hc⟩
theorem zTb_pass {ph : pm_H} {E : zEn} {F P G N : Nat} {v : Nat → Nat} (h : zTb ph E F P G v) (hO : zOk E.1 E.2.1 P G v) (hN : v 40 + N < 999999) : zM 92 [.ref 10, .ref 37, .int (zn N)] ph (fun v0 q => zCp 37 ph q ∧ zTb q E F P G (zHqn E P G v N) ∧ v0 = some (.int (zKw (zHqn E P G v N) P))) := by
  obtain ⟨hS, hE, ht, hr, hc⟩ := h
  refine zM_imp (zc_pass hS hE ht hO (Or.inr rfl) hr hc hN) (fun v0 q h => ?_)
  exact ⟨h.1, ⟨zCp_S (Or.inr rfl) h.1 hS, zCp_e (Or.inr rfl) h.1 hE, h.2.1, (h.1.1 10 1 (by decide) (by decide)).trans hr, h.2.2.1⟩, h.2.2.2⟩
theorem zTb_m {ph : pm_H} {P G A : Nat} {E : zEn} {v u : Nat → Nat} {q : pm_H} (hA : A = 174 ∨ A = 175) (f : zHc A ph q) (hS : zSh ph) (hE : zMe ph E) (hN : zMp ph P G) : zSh q ∧ zMe q E ∧ zMp q P G := ⟨zHc_S hA f hS, zHc_e hA f hE, zHc_p hA f hN⟩
def zXahd (E : zEn) (P G : Nat) (v : Nat → Nat) (x : Int32) : Int32 := if 0 ≤ x.toInt ∧ x.toInt ≤ 99 then zKw (zHqn E P G v x.toInt.toNat) P else Int32.ofInt (-1)
theorem zXahd_n {E : zEn} {P G : Nat} {v : Nat → Nat} {x : Int32} (h : ¬ (0 ≤ x.toInt ∧ x.toInt ≤ 99)) : (some (.int (Int32.ofInt (-1))) : Option Value) = some (.int (zXahd E P G v x)) := by
  unfold zXahd
  rw [if_neg h]
theorem zXahd_p {E : zEn} {P G N : Nat} {v : Nat → Nat} (h : N ≤ 99) : (some (.int (zKw (zHqn E P G v N) P)) : Option Value) = some (.int (zXahd E P G v (zn N))) := by
  have t := znt (k := N) (by omega)
  unfold zXahd
  rw [if_pos (by omega), show (zn N).toInt.toNat = N by omega]
theorem zc_ahdX {ph : pm_H} {E : zEn} {F P G : Nat} {v : Nat → Nat} (hS : zSh ph) (hE : zCe ph E F) (ht : zCt ph 25 P G v) (hO : zOk E.1 E.2.1 P G v) (hr : zc ph 10 1 = some (.ref F)) (hc : zCc ph E.1 E.2.1 E.2.2.1) (hh : v 40 < 999000) {x : Int32} : zM 156 [.ref 0, .int x] ph (fun v0 _ => v0 = some (.int (zXahd E P G v x))) := by
  obtain ⟨Q, hQ⟩ : ∃ Q : Option Value → pm_H → Prop, Q = (fun v0 _ => v0 = some (.int (zXahd E P G v x))) := ⟨_, rfl⟩
  rw [← hQ]
  refine zM_mk fun n D => ?_
  show zW n D 156 Q 0 [some (.ref 0), some (.int x), none, none] [] ph
  have c_0 : ((Int8.ofInt 8).toInt32).toInt = 8 := by decide
  have c_1 : ((Int8.ofInt 99).toInt32).toInt = 99 := by decide
  have c_2 : (Int32.ofInt (-1)).toInt = -1 := by decide
  have c_3 : (Int32.ofInt 0).toInt = 0 := by decide
  have c_4 : (Int32.ofInt 1).toInt = 1 := by decide
  obtain ⟨R, C, rk, sn, sk, cn, cd⟩ := E
  have hL0 : zCl ph R C rk := hE.1
  have hi0 : zCi ph sn sk := hE.2.1
  have hF : F = 11 ∨ F = 16 := hE.2.2.2
  have hE0 : zCe ph (R, C, rk, sn, sk, cn, cd) F := hE
  have hO0 : zOk R C P G v := hO
  have hL := hL0
  have hs := ht.1.2
  have hd := ht.2
  have h25 := ht.1.1
  obtain ⟨gR, gC, gN, gK, gA, hR3, hR7, hC3, hC7⟩ := hL
  have hRC := zRC49 hR7 hC7
  have tR := znt (k := R) (by omega)
  have tC := znt (k := C) (by omega)
  have tRC := znt (k := R * C) (by omega)
  have hd0 := hd
  have hs0 := hs
  obtain ⟨r3, r4, r5, r6, r7, l1, l2, l3, l4, l5⟩ := hs
  obtain ⟨gP, hP8, gG, hG8, gH, gv, gw⟩ := hd
  have tP := znt (k := P) (by omega)
  have tG := znt (k := G) (by omega)
  have h40 := hO0.2.2
  have t40 := znt (k := v 40) (by omega)
  have hc0 := hc
  refine w_load (pc' := 1) (v := .int x) (m := 1) (ykc_156 (e := (2, .iload_n kF1, 0)) rfl) rfl rfl ?_
  refine w_zlt (ykc_156 (e := (4, .ifCond .lt 9, 10)) rfl) rfl (fun b1233 => ?_) (fun b1233 => ?_)
  · refine w_alu (pc' := 11) (st' := [.int (Int32.ofInt (-1))]) (ykc_156 (e := (0, .iconst (-1), 0)) rfl) rfl rfl ?_
    refine w_ret (v := (some (.int (Int32.ofInt (-1))))) (ykc_156 (e := (7, .ireturn, 0)) rfl) (zr_v rfl) ?_
    rw [hQ]
    exact zXahd_n (by omega)
  · refine w_load (pc' := 5) (v := .int x) (m := 1) (ykc_156 (e := (2, .iload_n kF1, 0)) rfl) rfl rfl ?_
    refine w_push (pc' := 7) (v := .int ((Int8.ofInt 99).toInt32)) (m := 2) (ykc_156 (e := (1, .bipush 99, 0)) rfl) rfl rfl ?_
    refine w_ile (ykc_156 (e := (4, .if_icmp .le 5, 12)) rfl) rfl (fun b1234 => ?_) (fun b1234 => ?_)
    · obtain ⟨N, hN9, rfl⟩ : ∃ N : Nat, N ≤ 99 ∧ x = zn N := ⟨x.toInt.toNat, by omega, zn_of (by omega)⟩
      have tN := znt (k := N) (by omega)
      show zW n D 156 Q 12 [some (.ref 0), some (.int (zn N)), none, none] [] ph
      refine w_load (pc' := 13) (v := .ref 0) (m := 1) (ykc_156 (e := (2, .aload_n kF0, 0)) rfl) rfl rfl ?_
      refine w_gf (pc' := 16) (v := .ref 37) (ykc_156 (e := (5, .getfield 49, 0)) rfl) rfl (zsg hS zs_0_6) rfl ?_
      refine w_load (pc' := 17) (v := .ref 0) (m := 1) (ykc_156 (e := (2, .aload_n kF0, 0)) rfl) rfl rfl ?_
      refine w_gf (pc' := 20) (v := .ref 25) (ykc_156 (e := (5, .getfield 42, 0)) rfl) rfl (zsg hS zs_0_4) rfl ?_
      refine w_cv (as := [.ref 37, .ref 25]) (r := []) (ykc_156 (e := (6, .invokevirtual 235, 0)) rfl) rfl rfl rfl rfl (zc_copy (zSs_of hS (S := 25) (by decide)) (zSs_of hS (S := 37) (by decide)) ht.2 (by omega)) (fun v1235 ph1236 hv => ?_)
      obtain ⟨rfl, fb, db⟩ := hv
      have tb0 := zTb_copy hS hE0 hr hc0 fb db
      show zW n D 156 Q 23 [some (.ref 0), some (.int (zn N)), none, none] [] ph1236
      refine w_load (pc' := 24) (v := .ref 0) (m := 1) (ykc_156 (e := (2, .aload_n kF0, 0)) rfl) rfl rfl ?_
      refine w_gf (pc' := 27) (v := .ref 10) (ykc_156 (e := (5, .getfield 35, 0)) rfl) rfl ((fb.1 0 3 (by decide) (by decide)).trans (zsg hS zs_0_3)) rfl ?_
      refine w_load (pc' := 28) (v := .ref 0) (m := 1) (ykc_156 (e := (2, .aload_n kF0, 0)) rfl) rfl rfl ?_
      refine w_gf (pc' := 31) (v := .ref 37) (ykc_156 (e := (5, .getfield 49, 0)) rfl) rfl ((fb.1 0 6 (by decide) (by decide)).trans (zsg hS zs_0_6)) rfl ?_
      refine w_load (pc' := 32) (v := .int (zn N)) (m := 1) (ykc_156 (e := (2, .iload_n kF1, 0)) rfl) rfl rfl ?_
      refine w_cv (as := [.ref 10, .ref 37, .int (zn N)]) (r := []) (ykc_156 (e := (6, .invokevirtual 239, 0)) rfl) rfl rfl rfl rfl (zTb_pass tb0 hO0 (N := N) (by omega)) (fun v1237 ph1238 hv => ?_)
      obtain ⟨fp, tb1, rfl⟩ := hv
      show zW n D 156 Q 35 [some (.ref 0), some (.int (zn N)), none, none] [.int (zKw (zHqn (R, C, rk, sn, sk, cn, cd) P G v N) P)] ph1238
      refine w_store (pc' := 36) (L' := [some (.ref 0), some (.int (zn N)), some (.int (zKw (zHqn (R, C, rk, sn, sk, cn, cd) P G v N) P)), none]) (st' := []) (m := 1) (ykc_156 (e := (3, .istore_n kF2, 0)) rfl) rfl rfl ?_
      rw [hQ]
      exact zTail kc_156 false 2 36 9999 (fun _ => rfl) (Or.inl ⟨_, rfl⟩) (by decide +kernel) (by decide) (by decide) rfl (by decide +kernel) (fun _ => zXahd_p hN9)
    · refine w_alu (pc' := 11) (st' := [.int (Int32.ofInt (-1))]) (ykc_156 (e := (0, .iconst (-1), 0)) rfl) rfl rfl ?_
      refine w_ret (v := (some (.int (Int32.ofInt (-1))))) (ykc_156 (e := (7, .ireturn, 0)) rfl) (zr_v rfl) ?_
      rw [hQ]
      exact zXahd_n (by omega)
theorem zm_enters {ph : pm_H} (hS : zSh ph) {k : Nat} {x : Int64} (hk : zc ph 170 1 = some (.int (zn k))) (h60 : k < 60) : zM 186 [.ref 170, .long x] ph (fun v0 q => v0 = none ∧ zFr [171] [(170, 1)] ph q ∧ zc q 170 1 = some (.int (zn (k + 1)))) := by
  obtain ⟨Q, hQ⟩ : ∃ Q : Option Value → pm_H → Prop, Q = (fun v0 q => v0 = none ∧ zFr [171] [(170, 1)] ph q ∧ zc q 170 1 = some (.int (zn (k + 1)))) := ⟨_, rfl⟩
  rw [← hQ]
  refine zM_mk fun n D => ?_
  show zW n D 186 Q 0 [some (.ref 170), some (.long x), none] [] ph
  have c_0 : (Int32.ofInt 1).toInt = 1 := by decide
  have tk := znt (k := k) (by omega)
  refine w_load (pc' := 1) (v := .ref 170) (m := 1) (ykc_186 (e := (2, .aload_n kF0, 0)) rfl) rfl rfl ?_
  refine w_gf (pc' := 4) (v := .ref 171) (ykc_186 (e := (5, .getfield 11, 0)) rfl) rfl (zsg hS zs_170_2) rfl ?_
  refine w_load (pc' := 5) (v := .ref 170) (m := 1) (ykc_186 (e := (2, .aload_n kF0, 0)) rfl) rfl rfl ?_
  refine w_gf (pc' := 8) (v := .int (zn k)) (ykc_186 (e := (5, .getfield 15, 0)) rfl) rfl hk rfl ?_
  refine w_load (pc' := 9) (v := .long x) (m := 1) (ykc_186 (e := (2, .lload_n kF1, 0)) rfl) rfl rfl ?_
  refine w_las (pc' := 10) (k := k) (ykc_186 (e := (5, .lastore, 0)) rfl) (by omega) rfl (fun ph1240 u1239 => ?_)
  refine w_load (pc' := 11) (v := .ref 170) (m := 1) (ykc_186 (e := (2, .aload_n kF0, 0)) rfl) rfl rfl ?_
  refine w_alu (pc' := 12) (st' := [.ref 170, .ref 170]) (ykc_186 (e := (0, .dup, 0)) rfl) rfl rfl ?_
  refine w_gf (pc' := 15) (v := .int (zn k)) (ykc_186 (e := (5, .getfield 15, 0)) rfl) rfl ((u1239.2.1 170 1 (fun q => absurd q.1 (by decide))).trans hk) rfl ?_
  refine w_alu (pc' := 16) (st' := [.int (Int32.ofInt 1), .int (zn k), .ref 170]) (ykc_186 (e := (0, .iconst 1, 0)) rfl) rfl rfl ?_
  have e1241 : (zn k) + (Int32.ofInt 1) = zn (k + 1) := (zaddN (a := k) (b := 1) (znt (by omega)) c_0 (by omega)) 
  have te1241 := znt (k := k + 1) (by omega)
  refine w_alu (pc' := 17) (st' := [.int (zn (k + 1)), .ref 170]) (ykc_186 (e := (0, .iadd, 0)) rfl) (by rw [← e1241]; rfl) rfl ?_
  refine w_pf (pc' := 20) (ykc_186 (e := (5, .putfield 15, 0)) rfl) rfl rfl (fun ph1243 u1242 => ?_)
  refine w_ret (v := none) (ykc_186 (e := (7, .return_, 0)) rfl) (zr_v rfl) ?_
  rw [hQ]
  exact ⟨rfl, zFr_trans (zFr_st u1239 (Or.inl (by simp))) (zFr_st u1242 (Or.inr (by simp))), u1242.1⟩
theorem zm_ahdX {ph : pm_H} {E : zEn} {P G : Nat} {v : Nat → Nat} (hS : zSh ph) (hE : zMe ph E) (hN : zMp ph P G) (hv : zNr ph 174 0 v) (hO : zOk E.1 E.2.1 P G v) (hh : v 40 < 999000) {x : Int32} : zM 269 [.ref 170, .int x] ph (fun v0 _ => v0 = some (.int (zXahd E P G v x))) := by
  obtain ⟨Q, hQ⟩ : ∃ Q : Option Value → pm_H → Prop, Q = (fun v0 _ => v0 = some (.int (zXahd E P G v x))) := ⟨_, rfl⟩
  rw [← hQ]
  refine zM_mk fun n D => ?_
  show zW n D 269 Q 0 [some (.ref 170), some (.int x), none] [] ph
  have c_0 : ((Int8.ofInt 24).toInt32).toInt = 24 := by decide
  have c_1 : (Int32.ofInt (-1)).toInt = -1 := by decide
  have c_2 : (Int32.ofInt 0).toInt = 0 := by decide
  have c_3 : (Int32.ofInt 1).toInt = 1 := by decide
  have hA : (174 : Nat) = 174 ∨ (174 : Nat) = 175 := Or.inl rfl
  obtain ⟨R, C, rk, sn, sk, cn, cd⟩ := E
  have hL0 : zMl ph R C rk := hE.1
  have hR0 : zMr ph sn sk cn cd := hE.2.1
  have hcg : zcg cn cd := hE.2.2
  have hE0 : zMe ph (R, C, rk, sn, sk, cn, cd) := hE
  have hO0 : zOk R C P G v := hO
  have hN0 := hN
  have hL := hL0
  have hR := hR0
  obtain ⟨gR, gC, gK, hR3, hR7, hC3, hC7⟩ := hL
  have hRC := zRC49 hR7 hC7
  have tR := znt (k := R) (by omega)
  have tC := znt (k := C) (by omega)
  obtain ⟨gP, hP8, gG, hG8⟩ := hN
  have tP := znt (k := P) (by omega)
  have tG := znt (k := G) (by omega)
  obtain ⟨gsn, hs1, hs20, gsk, gcn, hc40, gcd⟩ := hR
  have tsn := znt (k := sn) (by omega)
  have tcn := znt (k := cn) (by omega)
  refine w_load (pc' := 1) (v := .ref 170) (m := 1) (ykc_269 (e := (2, .aload_n kF0, 0)) rfl) rfl rfl ?_
  refine w_alu (pc' := 2) (st' := [.int (Int32.ofInt 0), .ref 170]) (ykc_269 (e := (0, .iconst 0, 0)) rfl) rfl rfl ?_
  refine w_pf (pc' := 5) (ykc_269 (e := (5, .putfield 3, 0)) rfl) rfl rfl (fun ph1245 u1244 => ?_)
  have f0 : zFr [] [(170, 0)] ph ph1245 := zFr_st u1244 (Or.inr (by simp))
  have hS1 := zSh_st u1244 (by decide +kernel) hS
  have hE1 : zMe ph1245 (R, C, rk, sn, sk, cn, cd) := ⟨zMl_F f0 (by simp) (by simp) (by simp) (by simp) hE0.1, zMr_F f0 (by simp) (by simp) (by simp) (by simp) hE0.2.1, hE0.2.2⟩
  have hN1 := zMp_F f0 (by simp) (by simp) (by simp) hN0
  have hv1 := zNr_F f0 (by simp) (by simp) hv
  have hL1 : zMl ph1245 R C rk := hE1.1
  have hR1 : zMr ph1245 sn sk cn cd := hE1.2.1
  refine w_load (pc' := 6) (v := .int x) (m := 1) (ykc_269 (e := (2, .iload_n kF1, 0)) rfl) rfl rfl ?_
  refine w_alu (pc' := 7) (st' := [.long x.toInt64]) (ykc_269 (e := (0, .i2l, 0)) rfl) rfl rfl ?_
  refine w_alu (pc' := 8) (st' := [.long (Int64.ofNat kG0), .long x.toInt64]) (ykc_269 (e := (0, .lconst kG0, 0)) rfl) rfl rfl ?_
  refine w_push (pc' := 11) (v := .long (99 : Int64)) (m := 3) (ykc_269 (e := (1, .ldc2_w 430, 0)) rfl) rfl rfl ?_
  refine w_cs (as := [.long x.toInt64, .long (Int64.ofNat kG0), .long (99 : Int64)]) (r := []) (ykc_269 (e := (6, .invokestatic 126, 0)) rfl) rfl rfl rfl rfl (zm_in (x := x.toInt) (y := (0 : Int)) (z := (99 : Int)) (by first | exact ztl | (rw [ztl]; omega) | decide | omega) (by first | exact ztl | (rw [ztl]; omega) | decide | omega) (by first | exact ztl | (rw [ztl]; omega) | decide | omega)) (fun v1246 ph1247 hv => ?_)
  obtain ⟨rfl, rfl⟩ := hv
  show zW n D 269 Q 14 [some (.ref 170), some (.int x), none] [.int (zI (decide ((0 : Int) ≤ x.toInt ∧ x.toInt ≤ (99 : Int))))] ph1245
  refine w_bne (ykc_269 (e := (4, .ifCond .ne 5, 19)) rfl) rfl (fun b1248 => ?_) (fun b1248 => ?_)
  · have b_x := of_decide_eq_true b1248
    obtain ⟨N, hN9, rfl⟩ : ∃ N : Nat, N ≤ 99 ∧ x = zn N := ⟨x.toInt.toNat, by omega, zn_of (by omega)⟩
    have tN := znt (k := N) (by omega)
    show zW n D 269 Q 19 [some (.ref 170), some (.int (zn N)), none] [] ph1245
    refine w_load (pc' := 20) (v := .ref 170) (m := 1) (ykc_269 (e := (2, .aload_n kF0, 0)) rfl) rfl rfl ?_
    refine w_cv (as := [.ref 170]) (r := []) (ykc_269 (e := (6, .invokevirtual 424, 0)) rfl) rfl rfl rfl rfl (zm_copies hS1 hv1) (fun v1249 ph1250 hv => ?_)
    obtain ⟨rfl, fc, hv2⟩ := hv
    have hS2 := zSh_F fc (by decide +kernel) hS1
    have hE2 : zMe ph1250 (R, C, rk, sn, sk, cn, cd) := ⟨zMl_F fc (by simp) (by simp) (by simp) (by simp) hE1.1, zMr_F fc (by simp) (by simp) (by simp) (by simp) hE1.2.1, hE1.2.2⟩
    have hN2 := zMp_F fc (by simp) (by simp) (by simp) hN1
    show zW n D 269 Q 23 [some (.ref 170), some (.int (zn N)), none] [] ph1250
    refine w_load (pc' := 24) (v := .ref 170) (m := 1) (ykc_269 (e := (2, .aload_n kF0, 0)) rfl) rfl rfl ?_
    refine w_load (pc' := 25) (v := .ref 170) (m := 1) (ykc_269 (e := (2, .aload_n kF0, 0)) rfl) rfl rfl ?_
    refine w_gf (pc' := 28) (v := .ref 175) (ykc_269 (e := (5, .getfield 44, 0)) rfl) rfl ((fc.1 170 12 (by decide) (by decide)).trans ((u1244.2.1 170 12 (fun q => absurd q.2 (by decide))).trans (zsg hS zs_170_12))) rfl ?_
    refine w_load (pc' := 29) (v := .int (zn N)) (m := 1) (ykc_269 (e := (2, .iload_n kF1, 0)) rfl) rfl rfl ?_
    refine w_cv (as := [.ref 170, .ref 175, .int (zn N)]) (r := []) (ykc_269 (e := (6, .invokevirtual 370, 0)) rfl) rfl rfl rfl rfl (zm_goesOn hS2 hE2 hN2 (Or.inr rfl) hv2 hO0 (N := N) tN (by omega)) (fun v1251 ph1252 hv => ?_)
    obtain ⟨rfl, fd, hv3⟩ := hv
    obtain ⟨hS3, hE3, hN3⟩ := zTb_m (v := v) (u := v) (Or.inr rfl) fd hS2 hE2 hN2
    show zW n D 269 Q 32 [some (.ref 170), some (.int (zn N)), none] [] ph1252
    refine w_load (pc' := 33) (v := .ref 170) (m := 1) (ykc_269 (e := (2, .aload_n kF0, 0)) rfl) rfl rfl ?_
    refine w_alu (pc' := 34) (st' := [.int (Int32.ofInt 0), .ref 170]) (ykc_269 (e := (0, .iconst 0, 0)) rfl) rfl rfl ?_
    refine w_pf (pc' := 37) (ykc_269 (e := (5, .putfield 15, 0)) rfl) rfl rfl (fun ph1254 u1253 => ?_)
    refine w_alu (pc' := 38) (st' := [.int (Int32.ofInt 0)]) (ykc_269 (e := (0, .iconst 0, 0)) rfl) rfl rfl ?_
    refine w_store (pc' := 39) (L' := [some (.ref 170), some (.int (zn N)), some (.int (Int32.ofInt 0))]) (st' := []) (m := 1) (ykc_269 (e := (3, .istore_n kF2, 0)) rfl) rfl rfl ?_
    have hP8 : P ≤ 8 := hN0.2.1
    have g0 := u1253.1
    have hS4 := zSh_st u1253 (by decide +kernel) hS3
    have hN4 := zMp_F (zFr_st (A := []) (F := [(170, 1)]) u1253 (Or.inr (by simp))) (by simp) (by simp) (by simp) hN3
    have hE4 : zMe ph1254 (R, C, rk, sn, sk, cn, cd) := ⟨zMl_F (zFr_st (A := []) (F := [(170, 1)]) u1253 (Or.inr (by simp))) (by simp) (by simp) (by simp) (by simp) hE3.1, zMr_F (zFr_st (A := []) (F := [(170, 1)]) u1253 (Or.inr (by simp))) (by simp) (by simp) (by simp) (by simp) hE3.2.1, hE3.2.2⟩
    have hv4 := zNr_F (zFr_st (A := []) (F := [(170, 1)]) u1253 (Or.inr (by simp))) (by simp) (by simp) hv3
    have hl : ∀ (n : Nat), ∀ (k : Nat) (ph1 : pm_H), (k ≤ P) → (zFr [171] [(170, 1)] ph1254 ph1) → (zc ph1 170 1 = some (.int (zn k))) → zW n D 269 Q 39 [some (.ref 170), some (.int (zn N)), some (.int (zn k))] [] ph1 := by
      intro n
      induction n using Nat.strongRecOn with
      | ind n ih =>
        intro k ph1 hk hf1 ht1
        have tk := znt (k := k) (by omega)
        have hS5 := zSh_F hf1 (by decide +kernel) hS4
        have hN5 := zMp_F hf1 (by simp) (by simp) (by simp) hN4
        have hv5 := zNr_F hf1 (by simp) (by simp) hv4
        have hE5 : zMe ph1 (R, C, rk, sn, sk, cn, cd) := ⟨zMl_F hf1 (by simp) (by simp) (by simp) (by simp) hE4.1, zMr_F hf1 (by simp) (by simp) (by simp) (by simp) hE4.2.1, hE4.2.2⟩
        refine w_load (pc' := 40) (v := .int (zn k)) (m := 1) (ykc_269 (e := (2, .iload_n kF2, 0)) rfl) rfl rfl ?_
        refine w_load (pc' := 41) (v := .ref 170) (m := 1) (ykc_269 (e := (2, .aload_n kF0, 0)) rfl) rfl rfl ?_
        refine w_gf (pc' := 44) (v := .int (zn P)) (ykc_269 (e := (5, .getfield 130, 0)) rfl) rfl ((hf1.1 170 5 (by decide) (by decide)).trans ((u1253.2.1 170 5 (fun q => absurd q.2 (by decide))).trans ((fd.1 170 5 (by decide) (by decide)).trans ((fc.1 170 5 (by decide) (by decide)).trans ((u1244.2.1 170 5 (fun q => absurd q.2 (by decide))).trans gP))))) rfl ?_
        refine w_ige (ykc_269 (e := (4, .if_icmp .ge 23, 67)) rfl) rfl (fun b1255 => ?_) (fun b1255 => ?_)
        · refine w_load (pc' := 68) (v := .ref 170) (m := 1) (ykc_269 (e := (2, .aload_n kF0, 0)) rfl) rfl rfl ?_
          refine w_load (pc' := 69) (v := .ref 170) (m := 1) (ykc_269 (e := (2, .aload_n kF0, 0)) rfl) rfl rfl ?_
          refine w_gf (pc' := 72) (v := .ref 175) (ykc_269 (e := (5, .getfield 44, 0)) rfl) rfl ((hf1.1 170 12 (by decide) (by decide)).trans ((u1253.2.1 170 12 (fun q => absurd q.2 (by decide))).trans ((fd.1 170 12 (by decide) (by decide)).trans ((fc.1 170 12 (by decide) (by decide)).trans ((u1244.2.1 170 12 (fun q => absurd q.2 (by decide))).trans (zsg hS zs_170_12)))))) rfl ?_
          refine w_cv (as := [.ref 170, .ref 175]) (r := []) (ykc_269 (e := (6, .invokevirtual 366, 0)) rfl) rfl rfl rfl rfl (zm_known hS5 hE5 hN5 (Or.inr rfl) hv5 (zHqn_ok hO0 hP8 hN0.2.2.2 N (by omega))) (fun v1256 ph1257 hv => ?_)
          obtain ⟨rfl, rfl⟩ := hv
          show zW n D 269 Q 75 [some (.ref 170), some (.int (zn N)), some (.int (zn k))] [.int (zKw (zHqn (R, C, rk, sn, sk, cn, cd) P G v N) P)] ph1
          refine w_ret (v := (some (.int (zKw (zHqn (R, C, rk, sn, sk, cn, cd) P G v N) P)))) (ykc_269 (e := (7, .ireturn, 0)) rfl) (zr_v rfl) ?_
          rw [hQ]
          exact zXahd_p hN9
        · refine w_load (pc' := 48) (v := .ref 170) (m := 1) (ykc_269 (e := (2, .aload_n kF0, 0)) rfl) rfl rfl ?_
          refine w_load (pc' := 49) (v := .ref 170) (m := 1) (ykc_269 (e := (2, .aload_n kF0, 0)) rfl) rfl rfl ?_
          refine w_gf (pc' := 52) (v := .ref 175) (ykc_269 (e := (5, .getfield 44, 0)) rfl) rfl ((hf1.1 170 12 (by decide) (by decide)).trans ((u1253.2.1 170 12 (fun q => absurd q.2 (by decide))).trans ((fd.1 170 12 (by decide) (by decide)).trans ((fc.1 170 12 (by decide) (by decide)).trans ((u1244.2.1 170 12 (fun q => absurd q.2 (by decide))).trans (zsg hS zs_170_12)))))) rfl ?_
          refine w_push (pc' := 54) (v := .int ((Int8.ofInt 24).toInt32)) (m := 2) (ykc_269 (e := (1, .bipush 24, 0)) rfl) rfl rfl ?_
          refine w_load (pc' := 55) (v := .int (zn k)) (m := 1) (ykc_269 (e := (2, .iload_n kF2, 0)) rfl) rfl rfl ?_
          have e1258 : ((Int8.ofInt 24).toInt32) + (zn k) = zn (24 + k) := (zaddN (a := 24) (b := k) c_0 (znt (by omega)) (by omega)) 
          have te1258 := znt (k := 24 + k) (by omega)
          refine w_alu (pc' := 56) (st' := [.int (zn (24 + k)), .ref 175, .ref 170]) (ykc_269 (e := (0, .iadd, 0)) rfl) (by rw [← e1258]; rfl) rfl ?_
          refine w_ialk (pc' := 57) (k := 24 + k) (ykc_269 (e := (5, .iaload, 0)) rfl) (zNr0 hv5 (i := 24 + k) (by omega)) (by omega) rfl ?_
          refine w_alu (pc' := 58) (st' := [.long ((zn (zHqn (R, C, rk, sn, sk, cn, cd) P G v N (24 + k))).toInt64), .ref 170]) (ykc_269 (e := (0, .i2l, 0)) rfl) rfl rfl ?_
          refine w_cv (as := [.ref 170, .long ((zn (zHqn (R, C, rk, sn, sk, cn, cd) P G v N (24 + k))).toInt64)]) (r := []) (ykc_269 (e := (6, .invokevirtual 373, 0)) rfl) rfl rfl rfl rfl (zm_enters hS5 ht1 (by omega)) (fun v1259 ph1260 hv => ?_)
          obtain ⟨rfl, f6, ht6⟩ := hv
          show zW n D 269 Q 61 [some (.ref 170), some (.int (zn N)), some (.int (zn k))] [] ph1260
          have e1261 : (zn k) + Int32.ofInt 1 = zn (k + 1) := (zaddN (a := k) (b := 1) (znt (by omega)) c_3 (by omega))
          have te1261 := znt (k := k + 1) (by omega)
          refine w_store (pc' := 64) (L' := [some (.ref 170), some (.int (zn N)), some (.int (zn (k + 1)))]) (st' := []) (m := 3) (ykc_269 (e := (3, .iinc 2 1, 0)) rfl) (by rw [← e1261]; rfl) rfl ?_
          refine w_gb (ykc_269 (e := (4, .goto (-25), 39)) rfl) (fun k1262 hk1262 => ?_)
          exact ih k1262 hk1262 (k + 1) _ (by omega) (zFr_trans hf1 f6) ht6
    exact hl n 0 _ (Nat.zero_le _) zFr_refl g0
  · refine w_alu (pc' := 18) (st' := [.int (Int32.ofInt (-1))]) (ykc_269 (e := (0, .iconst (-1), 0)) rfl) rfl rfl ?_
    refine w_ret (v := (some (.int (Int32.ofInt (-1))))) (ykc_269 (e := (7, .ireturn, 0)) rfl) (zr_v rfl) ?_
    have b_n := of_decide_eq_false b1248
    rw [hQ]
    exact zXahd_n b_n
theorem zTb_pass1 {ph : pm_H} {E : zEn} {F P G : Nat} {v : Nat → Nat} (h : zTb ph E F P G v) (hO : zOk E.1 E.2.1 P G v) (hN : v 40 + 1 < 999999) : zM 92 [.ref 10, .ref 37, .int (Int32.ofInt 1)] ph (fun v0 q => zCp 37 ph q ∧ zTb q E F P G (zHqn E P G v 1) ∧ ∃ y, v0 = some (.int y)) := by
  have h9 := zTb_pass (N := 1) h hO hN
  rw [show zn 1 = Int32.ofInt 1 by decide] at h9
  exact zM_imp h9 (fun v0 q h => ⟨h.1, h.2.1, _, h.2.2⟩)
def zXfi (f : Nat → Bool) : Nat → Nat → Int32
  | 0, _ => (Int8.ofInt (-2)).toInt32
  | n + 1, k => bif f k then zn k else zXfi f n (k + 1)
theorem zXfi_b {f : Nat → Bool} {k : Nat} (h : k ≤ 99) (hf : f k = false) : zXfi f (100 - k) k = zXfi f (100 - (k + 1)) (k + 1) := by
  rw [show 100 - k = (100 - (k + 1)) + 1 by omega]
  show (bif f k then zn k else zXfi f (100 - (k + 1)) (k + 1)) = _
  rw [hf]
  rfl
theorem zXfi_e {f : Nat → Bool} {k : Nat} (h : k ≤ 99) (hf : f k = true) : zXfi f (100 - k) k = zn k := by
  rw [show 100 - k = (100 - (k + 1)) + 1 by omega]
  show (bif f k then zn k else zXfi f (100 - (k + 1)) (k + 1)) = _
  rw [hf]
  rfl
def zXkn (v : Nat → Nat) (t : Nat) : Nat → Int32
  | 0 => Int32.ofInt 0
  | k + 1 => zXkn v t k ||| ((((zn (v (24 + k))) >>> ((zn t) &&& 31)) &&& (Int32.ofInt 1)) <<< ((zn k) &&& 31))
theorem zbd8 : ∀ m, m < 256 → ∀ t, t < 8 → zb (zn m).toInt64 t = zd (zn m) t := by decide +kernel
theorem zd_i1 : ∀ i, i < 32 → zd (Int32.ofInt 1) i = decide (i = 0) := by decide +kernel
theorem zd_i0 : ∀ i, i < 32 → zd (Int32.ofInt 0) i = false := by decide +kernel
theorem zXkn_d {v : Nat → Nat} {t p : Nat} (ht : t < 8) (hp : p < 8) : ∀ n, n ≤ 8 → zd (zXkn v t n) p = (decide (p < n) && zd (zn (v (24 + p))) t) := by
  intro n
  induction n with
  | zero =>
    intro _
    show zd (Int32.ofInt 0) p = _
    rw [zd_i0 p (by omega)]
    simp
  | succ n ih =>
    intro hn
    show zd (zXkn v t n ||| ((((zn (v (24 + n))) >>> ((zn t) &&& 31)) &&& (Int32.ofInt 1)) <<< ((zn n) &&& 31))) p = _
    rw [zd_or, ih (by omega), zd_shl (by omega) (by omega), zd_and, zd_i1 (p - n) (by omega)]
    by_cases h1 : p < n
    · have h2 : ¬ n ≤ p := by omega
      simp [h1, h2, show p < n + 1 by omega]
    · by_cases h3 : p = n
      · subst h3
        rw [Nat.sub_self, zd_shr (by omega) (by omega), Nat.add_zero]
        simp
      · have h4 : ¬ p - n = 0 := by omega
        have h5 : ¬ p < n + 1 := by omega
        simp [h1, h4, h5]
theorem zXkn_t {v : Nat → Nat} {t n p : Nat} (hp : p < n) (hn : n ≤ 8) (ht : t < 8) (hv : v (24 + p) < 256) : (((zXkn v t n) >>> ((zn p) &&& 31)) &&& (Int32.ofInt 1)).toInt = (Int32.ofInt 1).toInt ↔ zb (zn (v (24 + p))).toInt64 t = true := by
  rw [Int32.toInt_inj, show (Int32.ofInt 1) = (1 : Int32) by decide, zand1_32, zd_shr (by omega) (by omega), Nat.add_zero, zXkn_d ht (by omega) n hn, decide_eq_true hp, Bool.true_and, zbd8 _ hv t ht]
theorem zc_knw {ph : pm_H} {S P G : Nat} {v : Nat → Nat} (hs : zSs ph S) (hd : zSd ph S P G v) {t : Nat} (ht : t < 32) : zM 110 [.ref S, .int (zn t)] ph (fun v0 q => ph = q ∧ v0 = some (.int (zXkn v t P))) := by
  obtain ⟨Q, hQ⟩ : ∃ Q : Option Value → pm_H → Prop, Q = (fun v0 q => ph = q ∧ v0 = some (.int (zXkn v t P))) := ⟨_, rfl⟩
  rw [← hQ]
  refine zM_mk fun n D => ?_
  show zW n D 110 Q 0 [some (.ref S), some (.int (zn t)), none, none] [] ph
  have c_0 : ((Int8.ofInt 8).toInt32).toInt = 8 := by decide
  have c_1 : (Int32.ofInt 0).toInt = 0 := by decide
  have c_2 : (Int32.ofInt 1).toInt = 1 := by decide
  have hd0 := hd
  have hs0 := hs
  obtain ⟨r3, r4, r5, r6, r7, l1, l2, l3, l4, l5⟩ := hs
  obtain ⟨gP, hP8, gG, hG8, gH, gv, gw⟩ := hd
  have tP := znt (k := P) (by omega)
  have tG := znt (k := G) (by omega)
  have tt := znt (k := t) (by omega)
  refine w_alu (pc' := 1) (st' := [.int (Int32.ofInt 0)]) (ykc_110 (e := (0, .iconst 0, 0)) rfl) rfl rfl ?_
  refine w_store (pc' := 2) (L' := [some (.ref S), some (.int (zn t)), some (.int (Int32.ofInt 0)), none]) (st' := []) (m := 1) (ykc_110 (e := (3, .istore_n kF2, 0)) rfl) rfl rfl ?_
  refine w_alu (pc' := 3) (st' := [.int (Int32.ofInt 0)]) (ykc_110 (e := (0, .iconst 0, 0)) rfl) rfl rfl ?_
  refine w_store (pc' := 4) (L' := [some (.ref S), some (.int (zn t)), some (.int (Int32.ofInt 0)), some (.int (Int32.ofInt 0))]) (st' := []) (m := 1) (ykc_110 (e := (3, .istore_n kF3, 0)) rfl) rfl rfl ?_
  have hl : ∀ (n : Nat), ∀ (k : Nat), (k ≤ P) → zW n D 110 Q 4 [some (.ref S), some (.int (zn t)), some (.int (zXkn v t k)), some (.int (zn k))] [] ph := by
    intro n
    induction n using Nat.strongRecOn with
    | ind n ih =>
      intro k hk
      have tk := znt (k := k) (by omega)
      refine w_load (pc' := 5) (v := .int (zn k)) (m := 1) (ykc_110 (e := (2, .iload_n kF3, 0)) rfl) rfl rfl ?_
      refine w_load (pc' := 6) (v := .ref S) (m := 1) (ykc_110 (e := (2, .aload_n kF0, 0)) rfl) rfl rfl ?_
      refine w_gf (pc' := 9) (v := .int (zn P)) (ykc_110 (e := (5, .getfield 30, 0)) rfl) rfl gP rfl ?_
      refine w_ige (ykc_110 (e := (4, .if_icmp .ge 30, 39)) rfl) rfl (fun b1263 => ?_) (fun b1263 => ?_)
      · refine w_load (pc' := 40) (v := .int (zXkn v t k)) (m := 1) (ykc_110 (e := (2, .iload_n kF2, 0)) rfl) rfl rfl ?_
        refine w_ret (v := (some (.int (zXkn v t k)))) (ykc_110 (e := (7, .ireturn, 0)) rfl) (zr_v rfl) ?_
        have ek : P = k := by omega
        subst ek
        rw [hQ]
        exact ⟨rfl, rfl⟩
      · refine w_load (pc' := 13) (v := .int (zn k)) (m := 1) (ykc_110 (e := (2, .iload_n kF3, 0)) rfl) rfl rfl ?_
        refine w_push (pc' := 15) (v := .int ((Int8.ofInt 8).toInt32)) (m := 2) (ykc_110 (e := (1, .bipush 8, 0)) rfl) rfl rfl ?_
        refine w_ige (ykc_110 (e := (4, .if_icmp .ge 24, 39)) rfl) rfl (fun q => by exfalso; omega) (fun b1264 => ?_)
        refine w_load (pc' := 19) (v := .int (zXkn v t k)) (m := 1) (ykc_110 (e := (2, .iload_n kF2, 0)) rfl) rfl rfl ?_
        refine w_load (pc' := 20) (v := .ref S) (m := 1) (ykc_110 (e := (2, .aload_n kF0, 0)) rfl) rfl rfl ?_
        refine w_gf (pc' := 23) (v := .ref (S + 4)) (ykc_110 (e := (5, .getfield 21, 0)) rfl) rfl r6 rfl ?_
        refine w_load (pc' := 24) (v := .int (zn k)) (m := 1) (ykc_110 (e := (2, .iload_n kF3, 0)) rfl) rfl rfl ?_
        refine w_ialk (pc' := 25) (k := k) (ykc_110 (e := (5, .iaload, 0)) rfl) (gv k (by omega)).2.2.2 (by omega) rfl ?_
        refine w_load (pc' := 26) (v := .int (zn t)) (m := 1) (ykc_110 (e := (2, .iload_n kF1, 0)) rfl) rfl rfl ?_
        refine w_alu (pc' := 27) (st' := [.int ((zn (v (24 + k))) >>> ((zn t) &&& 31)), .int (zXkn v t k)]) (ykc_110 (e := (0, .ishr, 0)) rfl) rfl rfl ?_
        refine w_alu (pc' := 28) (st' := [.int (Int32.ofInt 1), .int ((zn (v (24 + k))) >>> ((zn t) &&& 31)), .int (zXkn v t k)]) (ykc_110 (e := (0, .iconst 1, 0)) rfl) rfl rfl ?_
        refine w_alu (pc' := 29) (st' := [.int (((zn (v (24 + k))) >>> ((zn t) &&& 31)) &&& (Int32.ofInt 1)), .int (zXkn v t k)]) (ykc_110 (e := (0, .iand, 0)) rfl) rfl rfl ?_
        refine w_load (pc' := 30) (v := .int (zn k)) (m := 1) (ykc_110 (e := (2, .iload_n kF3, 0)) rfl) rfl rfl ?_
        refine w_alu (pc' := 31) (st' := [.int ((((zn (v (24 + k))) >>> ((zn t) &&& 31)) &&& (Int32.ofInt 1)) <<< ((zn k) &&& 31)), .int (zXkn v t k)]) (ykc_110 (e := (0, .ishl, 0)) rfl) rfl rfl ?_
        refine w_alu (pc' := 32) (st' := [.int ((zXkn v t k) ||| ((((zn (v (24 + k))) >>> ((zn t) &&& 31)) &&& (Int32.ofInt 1)) <<< ((zn k) &&& 31)))]) (ykc_110 (e := (0, .ior, 0)) rfl) rfl rfl ?_
        refine w_store (pc' := 33) (L' := [some (.ref S), some (.int (zn t)), some (.int ((zXkn v t k) ||| ((((zn (v (24 + k))) >>> ((zn t) &&& 31)) &&& (Int32.ofInt 1)) <<< ((zn k) &&& 31)))), some (.int (zn k))]) (st' := []) (m := 1) (ykc_110 (e := (3, .istore_n kF2, 0)) rfl) rfl rfl ?_
        have e1265 : (zn k) + Int32.ofInt 1 = zn (k + 1) := (zaddN (a := k) (b := 1) (znt (by omega)) c_2 (by omega))
        have te1265 := znt (k := k + 1) (by omega)
        refine w_store (pc' := 36) (L' := [some (.ref S), some (.int (zn t)), some (.int ((zXkn v t k) ||| ((((zn (v (24 + k))) >>> ((zn t) &&& 31)) &&& (Int32.ofInt 1)) <<< ((zn k) &&& 31)))), some (.int (zn (k + 1)))]) (st' := []) (m := 3) (ykc_110 (e := (3, .iinc 3 1, 0)) rfl) (by rw [← e1265]; rfl) rfl ?_
        refine w_gb (ykc_110 (e := (4, .goto (-32), 4)) rfl) (fun k1266 hk1266 => ?_)
        exact ih k1266 hk1266 (k + 1) (by omega)
  exact hl n 0 (Nat.zero_le _)
def zXlrn (E : zEn) (P G : Nat) (v : Nat → Nat) (x y : Int32) : Int32 := if ((0 ≤ x.toInt ∧ x.toInt < (P : Int)) ∧ (0 ≤ y.toInt ∧ y.toInt < (G : Int))) then zXfi (fun k => zb (zn (zHqn E P G v k (24 + x.toInt.toNat))).toInt64 y.toInt.toNat) 100 0 else Int32.ofInt (-1)
theorem zXlrn_n {E : zEn} {P G : Nat} {v : Nat → Nat} {x y : Int32} (h : ¬ ((0 ≤ x.toInt ∧ x.toInt < (P : Int)) ∧ (0 ≤ y.toInt ∧ y.toInt < (G : Int)))) : (some (.int (Int32.ofInt (-1))) : Option Value) = some (.int (zXlrn E P G v x y)) := by
  unfold zXlrn
  rw [if_neg h]
theorem zXlrn_p {E : zEn} {P G p g : Nat} {v : Nat → Nat} {z : Int32} (hp : p < P) (hP : P ≤ 8) (hg : g < G) (hG : G ≤ 8) (h : zXfi (fun k => zb (zn (zHqn E P G v k (24 + p))).toInt64 g) 100 0 = z) : (some (.int z) : Option Value) = some (.int (zXlrn E P G v (zn p) (zn g))) := by
  have t := znt (k := p) (by omega)
  have t2 := znt (k := g) (by omega)
  unfold zXlrn
  rw [if_pos ⟨⟨by omega, by omega⟩, ⟨by omega, by omega⟩⟩, show (zn p).toInt.toNat = p by omega, show (zn g).toInt.toNat = g by omega, h]
theorem zc_lrnX {ph : pm_H} {E : zEn} {F P G : Nat} {v : Nat → Nat} (hS : zSh ph) (hE : zCe ph E F) (ht : zCt ph 25 P G v) (hO : zOk E.1 E.2.1 P G v) (hr : zc ph 10 1 = some (.ref F)) (hc : zCc ph E.1 E.2.1 E.2.2.1) (hh : v 40 < 999000) {x y : Int32} : zM 154 [.ref 0, .int x, .int y] ph (fun v0 _ => v0 = some (.int (zXlrn E P G v x y))) := by
  obtain ⟨Q, hQ⟩ : ∃ Q : Option Value → pm_H → Prop, Q = (fun v0 _ => v0 = some (.int (zXlrn E P G v x y))) := ⟨_, rfl⟩
  rw [← hQ]
  refine zM_mk fun n D => ?_
  show zW n D 154 Q 0 [some (.ref 0), some (.int x), some (.int y), none, none] [] ph
  have c_0 : ((Int8.ofInt (-2)).toInt32).toInt = -2 := by decide
  have c_1 : ((Int8.ofInt 99).toInt32).toInt = 99 := by decide
  have c_2 : (Int32.ofInt (-1)).toInt = -1 := by decide
  have c_3 : (Int32.ofInt 0).toInt = 0 := by decide
  have c_4 : (Int32.ofInt 1).toInt = 1 := by decide
  obtain ⟨R, C, rk, sn, sk, cn, cd⟩ := E
  have hL0 : zCl ph R C rk := hE.1
  have hi0 : zCi ph sn sk := hE.2.1
  have hF : F = 11 ∨ F = 16 := hE.2.2.2
  have hE0 : zCe ph (R, C, rk, sn, sk, cn, cd) F := hE
  have hO0 : zOk R C P G v := hO
  have hL := hL0
  have hs := ht.1.2
  have hd := ht.2
  have h25 := ht.1.1
  obtain ⟨gR, gC, gN, gK, gA, hR3, hR7, hC3, hC7⟩ := hL
  have hRC := zRC49 hR7 hC7
  have tR := znt (k := R) (by omega)
  have tC := znt (k := C) (by omega)
  have tRC := znt (k := R * C) (by omega)
  have hd0 := hd
  have hs0 := hs
  obtain ⟨r3, r4, r5, r6, r7, l1, l2, l3, l4, l5⟩ := hs
  obtain ⟨gP, hP8, gG, hG8, gH, gv, gw⟩ := hd
  have tP := znt (k := P) (by omega)
  have tG := znt (k := G) (by omega)
  have h40 := hO0.2.2
  have t40 := znt (k := v 40) (by omega)
  have hc0 := hc
  have hG8 : G ≤ 8 := hd0.2.2.2.1
  refine w_load (pc' := 1) (v := .ref 0) (m := 1) (ykc_154 (e := (2, .aload_n kF0, 0)) rfl) rfl rfl ?_
  refine w_gf (pc' := 4) (v := .ref 25) (ykc_154 (e := (5, .getfield 42, 0)) rfl) rfl (zsg hS zs_0_4) rfl ?_
  refine w_load (pc' := 5) (v := .int x) (m := 1) (ykc_154 (e := (2, .iload_n kF1, 0)) rfl) rfl rfl ?_
  refine w_cv (as := [.ref 25, .int x]) (r := []) (ykc_154 (e := (6, .invokevirtual 167, 0)) rfl) rfl rfl rfl rfl (zc_hasP ht.1.2 ht.2 (i := x)) (fun v1267 ph1268 hv => ?_)
  obtain ⟨rfl, rfl⟩ := hv
  show zW n D 154 Q 8 [some (.ref 0), some (.int x), some (.int y), none, none] [.int (zI (decide (0 ≤ x.toInt ∧ x.toInt < ((P : Nat) : Int))))] ph
  refine w_beq (ykc_154 (e := (4, .ifCond .eq 14, 22)) rfl) rfl (fun b1269 => ?_) (fun b1269 => ?_)
  · refine w_alu (pc' := 23) (st' := [.int (Int32.ofInt (-1))]) (ykc_154 (e := (0, .iconst (-1), 0)) rfl) rfl rfl ?_
    refine w_ret (v := (some (.int (Int32.ofInt (-1))))) (ykc_154 (e := (7, .ireturn, 0)) rfl) (zr_v rfl) ?_
    rw [hQ]
    exact zXlrn_n (fun q => absurd q.1 (of_decide_eq_false b1269))
  · refine w_load (pc' := 12) (v := .ref 0) (m := 1) (ykc_154 (e := (2, .aload_n kF0, 0)) rfl) rfl rfl ?_
    refine w_gf (pc' := 15) (v := .ref 25) (ykc_154 (e := (5, .getfield 42, 0)) rfl) rfl (zsg hS zs_0_4) rfl ?_
    refine w_load (pc' := 16) (v := .int y) (m := 1) (ykc_154 (e := (2, .iload_n kF2, 0)) rfl) rfl rfl ?_
    refine w_cv (as := [.ref 25, .int y]) (r := []) (ykc_154 (e := (6, .invokevirtual 198, 0)) rfl) rfl rfl rfl rfl (zc_hasT ht.1.2 ht.2 (i := y)) (fun v1270 ph1271 hv => ?_)
    obtain ⟨rfl, rfl⟩ := hv
    show zW n D 154 Q 19 [some (.ref 0), some (.int x), some (.int y), none, none] [.int (zI (decide (0 ≤ y.toInt ∧ y.toInt < ((G : Nat) : Int))))] ph
    refine w_bne (ykc_154 (e := (4, .ifCond .ne 5, 24)) rfl) rfl (fun b1272 => ?_) (fun b1272 => ?_)
    · have b_p := of_decide_eq_true b1269
      obtain ⟨p, h_p, rfl⟩ : ∃ p : Nat, p < P ∧ x = zn p := ⟨x.toInt.toNat, by omega, zn_of (by omega)⟩
      have t_p := znt (k := p) (by omega)
      have b_g := of_decide_eq_true b1272
      obtain ⟨g, h_g, rfl⟩ : ∃ g : Nat, g < G ∧ y = zn g := ⟨y.toInt.toNat, by omega, zn_of (by omega)⟩
      have t_g := znt (k := g) (by omega)
      show zW n D 154 Q 24 [some (.ref 0), some (.int (zn p)), some (.int (zn g)), none, none] [] ph
      refine w_load (pc' := 25) (v := .ref 0) (m := 1) (ykc_154 (e := (2, .aload_n kF0, 0)) rfl) rfl rfl ?_
      refine w_gf (pc' := 28) (v := .ref 37) (ykc_154 (e := (5, .getfield 49, 0)) rfl) rfl (zsg hS zs_0_6) rfl ?_
      refine w_load (pc' := 29) (v := .ref 0) (m := 1) (ykc_154 (e := (2, .aload_n kF0, 0)) rfl) rfl rfl ?_
      refine w_gf (pc' := 32) (v := .ref 25) (ykc_154 (e := (5, .getfield 42, 0)) rfl) rfl (zsg hS zs_0_4) rfl ?_
      refine w_cv (as := [.ref 37, .ref 25]) (r := []) (ykc_154 (e := (6, .invokevirtual 235, 0)) rfl) rfl rfl rfl rfl (zc_copy (zSs_of hS (S := 25) (by decide)) (zSs_of hS (S := 37) (by decide)) ht.2 (by omega)) (fun v1273 ph1274 hv => ?_)
      obtain ⟨rfl, fb, db⟩ := hv
      have tb0 := zTb_copy hS hE0 hr hc0 fb db
      show zW n D 154 Q 35 [some (.ref 0), some (.int (zn p)), some (.int (zn g)), none, none] [] ph1274
      refine w_alu (pc' := 36) (st' := [.int (Int32.ofInt 0)]) (ykc_154 (e := (0, .iconst 0, 0)) rfl) rfl rfl ?_
      refine w_store (pc' := 37) (L' := [some (.ref 0), some (.int (zn p)), some (.int (zn g)), some (.int (Int32.ofInt 0)), none]) (st' := []) (m := 1) (ykc_154 (e := (3, .istore_n kF3, 0)) rfl) rfl rfl ?_
      have hl : ∀ (n : Nat), ∀ (k : Nat) (o4 : Option Value) (ph1 : pm_H), (k ≤ 100) → (zSh ph1) → (zTb ph1 (R, C, rk, sn, sk, cn, cd) F P G (zHqn (R, C, rk, sn, sk, cn, cd) P G v k)) → (zXfi (fun k => zb (zn (zHqn (R, C, rk, sn, sk, cn, cd) P G v k (24 + p))).toInt64 g) 100 0 = zXfi (fun k => zb (zn (zHqn (R, C, rk, sn, sk, cn, cd) P G v k (24 + p))).toInt64 g) (100 - k) k) → zW n D 154 Q 37 [some (.ref 0), some (.int (zn p)), some (.int (zn g)), some (.int (zn k)), o4] [] ph1 := by
        intro n
        induction n using Nat.strongRecOn with
        | ind n ih =>
          intro k o4 ph1 hk hS tb he
          have tk := znt (k := k) (by omega)
          have h40 := zHqn_40 (E := (R, C, rk, sn, sk, cn, cd)) (G := G) (v := v) hP8 k
          have hok := (zHqn_ok (E := (R, C, rk, sn, sk, cn, cd)) hO0 hP8 hG8 k (by omega))
          have hvp := (hok.1 p h_p).2.2.2
          refine w_load (pc' := 38) (v := .int (zn k)) (m := 1) (ykc_154 (e := (2, .iload_n kF3, 0)) rfl) rfl rfl ?_
          refine w_push (pc' := 40) (v := .int ((Int8.ofInt 99).toInt32)) (m := 2) (ykc_154 (e := (1, .bipush 99, 0)) rfl) rfl rfl ?_
          refine w_igt (ykc_154 (e := (4, .if_icmp .gt 61, 101)) rfl) rfl (fun b1275 => ?_) (fun b1275 => ?_)
          · refine w_push (pc' := 103) (v := .int ((Int8.ofInt (-2)).toInt32)) (m := 2) (ykc_154 (e := (1, .bipush (-2), 0)) rfl) rfl rfl ?_
            refine w_ret (v := (some (.int ((Int8.ofInt (-2)).toInt32)))) (ykc_154 (e := (7, .ireturn, 0)) rfl) (zr_v rfl) ?_
            have ek : k = 100 := by omega
            subst ek
            rw [hQ]
            exact zXlrn_p (E := (R, C, rk, sn, sk, cn, cd)) h_p (by omega) h_g (by omega) (he.trans rfl)
          · refine w_load (pc' := 44) (v := .ref 0) (m := 1) (ykc_154 (e := (2, .aload_n kF0, 0)) rfl) rfl rfl ?_
            refine w_gf (pc' := 47) (v := .ref 37) (ykc_154 (e := (5, .getfield 49, 0)) rfl) rfl (zsg hS zs_0_6) rfl ?_
            refine w_load (pc' := 48) (v := .int (zn g)) (m := 1) (ykc_154 (e := (2, .iload_n kF2, 0)) rfl) rfl rfl ?_
            refine w_cv (as := [.ref 37, .int (zn g)]) (r := []) (ykc_154 (e := (6, .invokevirtual 204, 0)) rfl) rfl rfl rfl rfl (zc_knw tb.2.2.1.1.2 tb.2.2.1.2 (t := g) (by omega)) (fun v1276 ph1277 hv => ?_)
            obtain ⟨rfl, rfl⟩ := hv
            show zW n D 154 Q 51 [some (.ref 0), some (.int (zn p)), some (.int (zn g)), some (.int (zn k)), o4] [.int (zXkn (zHqn (R, C, rk, sn, sk, cn, cd) P G v k) g P)] ph1
            refine w_store (pc' := 53) (L' := [some (.ref 0), some (.int (zn p)), some (.int (zn g)), some (.int (zn k)), some (.int (zXkn (zHqn (R, C, rk, sn, sk, cn, cd) P G v k) g P))]) (st' := []) (m := 2) (ykc_154 (e := (3, .istore 4, 0)) rfl) rfl rfl ?_
            refine w_load (pc' := 55) (v := .int (zXkn (zHqn (R, C, rk, sn, sk, cn, cd) P G v k) g P)) (m := 2) (ykc_154 (e := (2, .iload 4, 0)) rfl) rfl rfl ?_
            refine w_load (pc' := 56) (v := .int (zn p)) (m := 1) (ykc_154 (e := (2, .iload_n kF1, 0)) rfl) rfl rfl ?_
            refine w_alu (pc' := 57) (st' := [.int ((zXkn (zHqn (R, C, rk, sn, sk, cn, cd) P G v k) g P) >>> ((zn p) &&& 31))]) (ykc_154 (e := (0, .ishr, 0)) rfl) rfl rfl ?_
            refine w_alu (pc' := 58) (st' := [.int (Int32.ofInt 1), .int ((zXkn (zHqn (R, C, rk, sn, sk, cn, cd) P G v k) g P) >>> ((zn p) &&& 31))]) (ykc_154 (e := (0, .iconst 1, 0)) rfl) rfl rfl ?_
            refine w_alu (pc' := 59) (st' := [.int (((zXkn (zHqn (R, C, rk, sn, sk, cn, cd) P G v k) g P) >>> ((zn p) &&& 31)) &&& (Int32.ofInt 1))]) (ykc_154 (e := (0, .iand, 0)) rfl) rfl rfl ?_
            refine w_alu (pc' := 60) (st' := [.int (Int32.ofInt 1), .int (((zXkn (zHqn (R, C, rk, sn, sk, cn, cd) P G v k) g P) >>> ((zn p) &&& 31)) &&& (Int32.ofInt 1))]) (ykc_154 (e := (0, .iconst 1, 0)) rfl) rfl rfl ?_
            refine w_ine (ykc_154 (e := (4, .if_icmp .ne 22, 82)) rfl) rfl (fun b1278 => ?_) (fun b1278 => ?_)
            · refine w_load (pc' := 83) (v := .ref 0) (m := 1) (ykc_154 (e := (2, .aload_n kF0, 0)) rfl) rfl rfl ?_
              refine w_gf (pc' := 86) (v := .ref 10) (ykc_154 (e := (5, .getfield 35, 0)) rfl) rfl (zsg hS zs_0_3) rfl ?_
              refine w_load (pc' := 87) (v := .ref 0) (m := 1) (ykc_154 (e := (2, .aload_n kF0, 0)) rfl) rfl rfl ?_
              refine w_gf (pc' := 90) (v := .ref 37) (ykc_154 (e := (5, .getfield 49, 0)) rfl) rfl (zsg hS zs_0_6) rfl ?_
              refine w_alu (pc' := 91) (st' := [.int (Int32.ofInt 1), .ref 37, .ref 10]) (ykc_154 (e := (0, .iconst 1, 0)) rfl) rfl rfl ?_
              refine w_cv (as := [.ref 10, .ref 37, .int (Int32.ofInt 1)]) (r := []) (ykc_154 (e := (6, .invokevirtual 239, 0)) rfl) rfl rfl rfl rfl (zTb_pass1 tb hok (by omega)) (fun v1279 ph1280 hv => ?_)
              obtain ⟨fp, tb1, y9, rfl⟩ := hv
              show zW n D 154 Q 94 [some (.ref 0), some (.int (zn p)), some (.int (zn g)), some (.int (zn k)), some (.int (zXkn (zHqn (R, C, rk, sn, sk, cn, cd) P G v k) g P))] [.int y9] ph1280
              refine w_alu (pc' := 95) (st' := []) (ykc_154 (e := (0, .pop, 0)) rfl) rfl rfl ?_
              have e1281 : (zn k) + Int32.ofInt 1 = zn (k + 1) := (zaddN (a := k) (b := 1) (znt (by omega)) c_4 (by omega))
              have te1281 := znt (k := k + 1) (by omega)
              refine w_store (pc' := 98) (L' := [some (.ref 0), some (.int (zn p)), some (.int (zn g)), some (.int (zn (k + 1))), some (.int (zXkn (zHqn (R, C, rk, sn, sk, cn, cd) P G v k) g P))]) (st' := []) (m := 3) (ykc_154 (e := (3, .iinc 3 1, 0)) rfl) (by rw [← e1281]; rfl) rfl ?_
              refine w_gb (ykc_154 (e := (4, .goto (-61), 37)) rfl) (fun k1282 hk1282 => ?_)
              have hf : (fun k => zb (zn (zHqn (R, C, rk, sn, sk, cn, cd) P G v k (24 + p))).toInt64 g) k = false := by
                cases hz : (fun k => zb (zn (zHqn (R, C, rk, sn, sk, cn, cd) P G v k (24 + p))).toInt64 g) k with
                | false => rfl
                | true => exact absurd ((zXkn_t (v := zHqn (R, C, rk, sn, sk, cn, cd) P G v k) (t := g) (n := P) (p := p) h_p hP8 (by omega) hvp).mpr hz) b1278
              exact ih k1282 hk1282 (k + 1) _ _ (by omega) tb1.1 tb1 (he.trans (zXfi_b (by omega) hf))
            · rw [hQ]
              exact zTail kc_154 false 3 63 81 (fun _ => rfl) (Or.inl ⟨_, rfl⟩) (by decide +kernel) (by decide) (by decide) rfl (by decide +kernel) (fun _ => zXlrn_p (E := (R, C, rk, sn, sk, cn, cd)) h_p (by omega) h_g (by omega) (he.trans (zXfi_e (f := (fun k => zb (zn (zHqn (R, C, rk, sn, sk, cn, cd) P G v k (24 + p))).toInt64 g)) (by omega) ((zXkn_t (v := zHqn (R, C, rk, sn, sk, cn, cd) P G v k) (t := g) (n := P) (p := p) h_p hP8 (by omega) hvp).mp b1278))))
      exact hl n 0 _ _ (by decide) tb0.1 tb0 rfl
    · refine w_alu (pc' := 23) (st' := [.int (Int32.ofInt (-1))]) (ykc_154 (e := (0, .iconst (-1), 0)) rfl) rfl rfl ?_
      refine w_ret (v := (some (.int (Int32.ofInt (-1))))) (ykc_154 (e := (7, .ireturn, 0)) rfl) (zr_v rfl) ?_
      rw [hQ]
      exact zXlrn_n (fun q => absurd q.2 (of_decide_eq_false b1272))
theorem zm_lrnX {ph : pm_H} {E : zEn} {P G : Nat} {v : Nat → Nat} (hS : zSh ph) (hE : zMe ph E) (hN : zMp ph P G) (hv : zNr ph 174 0 v) (hO : zOk E.1 E.2.1 P G v) (hh : v 40 < 999000) {x y : Int32} : zM 266 [.ref 170, .int x, .int y] ph (fun v0 _ => v0 = some (.int (zXlrn E P G v x y))) := by
  obtain ⟨Q, hQ⟩ : ∃ Q : Option Value → pm_H → Prop, Q = (fun v0 _ => v0 = some (.int (zXlrn E P G v x y))) := ⟨_, rfl⟩
  rw [← hQ]
  refine zM_mk fun n D => ?_
  show zW n D 266 Q 0 [some (.ref 170), some (.int x), some (.int y), none] [] ph
  have c_0 : ((Int8.ofInt (-2)).toInt32).toInt = -2 := by decide
  have c_1 : ((Int8.ofInt 24).toInt32).toInt = 24 := by decide
  have c_2 : ((Int8.ofInt 99).toInt32).toInt = 99 := by decide
  have c_3 : (Int32.ofInt (-1)).toInt = -1 := by decide
  have c_4 : (Int32.ofInt 0).toInt = 0 := by decide
  have c_5 : (Int32.ofInt 1).toInt = 1 := by decide
  have hA : (174 : Nat) = 174 ∨ (174 : Nat) = 175 := Or.inl rfl
  obtain ⟨R, C, rk, sn, sk, cn, cd⟩ := E
  have hL0 : zMl ph R C rk := hE.1
  have hR0 : zMr ph sn sk cn cd := hE.2.1
  have hcg : zcg cn cd := hE.2.2
  have hE0 : zMe ph (R, C, rk, sn, sk, cn, cd) := hE
  have hO0 : zOk R C P G v := hO
  have hN0 := hN
  have hL := hL0
  have hR := hR0
  obtain ⟨gR, gC, gK, hR3, hR7, hC3, hC7⟩ := hL
  have hRC := zRC49 hR7 hC7
  have tR := znt (k := R) (by omega)
  have tC := znt (k := C) (by omega)
  obtain ⟨gP, hP8, gG, hG8⟩ := hN
  have tP := znt (k := P) (by omega)
  have tG := znt (k := G) (by omega)
  obtain ⟨gsn, hs1, hs20, gsk, gcn, hc40, gcd⟩ := hR
  have tsn := znt (k := sn) (by omega)
  have tcn := znt (k := cn) (by omega)
  refine w_load (pc' := 1) (v := .ref 170) (m := 1) (ykc_266 (e := (2, .aload_n kF0, 0)) rfl) rfl rfl ?_
  refine w_alu (pc' := 2) (st' := [.int (Int32.ofInt 0), .ref 170]) (ykc_266 (e := (0, .iconst 0, 0)) rfl) rfl rfl ?_
  refine w_pf (pc' := 5) (ykc_266 (e := (5, .putfield 3, 0)) rfl) rfl rfl (fun ph1284 u1283 => ?_)
  have f0 : zFr [] [(170, 0)] ph ph1284 := zFr_st u1283 (Or.inr (by simp))
  have hS1 := zSh_st u1283 (by decide +kernel) hS
  have hE1 : zMe ph1284 (R, C, rk, sn, sk, cn, cd) := ⟨zMl_F f0 (by simp) (by simp) (by simp) (by simp) hE0.1, zMr_F f0 (by simp) (by simp) (by simp) (by simp) hE0.2.1, hE0.2.2⟩
  have hN1 := zMp_F f0 (by simp) (by simp) (by simp) hN0
  have hv1 := zNr_F f0 (by simp) (by simp) hv
  have hL1 : zMl ph1284 R C rk := hE1.1
  have hR1 : zMr ph1284 sn sk cn cd := hE1.2.1
  have hP8 : P ≤ 8 := hN0.2.1
  have hG8 : G ≤ 8 := hN0.2.2.2
  refine w_load (pc' := 6) (v := .ref 170) (m := 1) (ykc_266 (e := (2, .aload_n kF0, 0)) rfl) rfl rfl ?_
  refine w_load (pc' := 7) (v := .int x) (m := 1) (ykc_266 (e := (2, .iload_n kF1, 0)) rfl) rfl rfl ?_
  refine w_cv (as := [.ref 170, .int x]) (r := []) (ykc_266 (e := (6, .invokevirtual 315, 0)) rfl) rfl rfl rfl rfl (zm_isPerson hN1 (p := x)) (fun v1285 ph1286 hv => ?_)
  obtain ⟨rfl, rfl⟩ := hv
  show zW n D 266 Q 10 [some (.ref 170), some (.int x), some (.int y), none] [.int (zI (decide (0 ≤ x.toInt ∧ x.toInt < ((P : Nat) : Int))))] ph1284
  refine w_beq (ykc_266 (e := (4, .ifCond .eq 11, 21)) rfl) rfl (fun b1287 => ?_) (fun b1287 => ?_)
  · refine w_alu (pc' := 22) (st' := [.int (Int32.ofInt (-1))]) (ykc_266 (e := (0, .iconst (-1), 0)) rfl) rfl rfl ?_
    refine w_ret (v := (some (.int (Int32.ofInt (-1))))) (ykc_266 (e := (7, .ireturn, 0)) rfl) (zr_v rfl) ?_
    rw [hQ]
    exact zXlrn_n (fun q => absurd q.1 (of_decide_eq_false b1287))
  · refine w_load (pc' := 14) (v := .ref 170) (m := 1) (ykc_266 (e := (2, .aload_n kF0, 0)) rfl) rfl rfl ?_
    refine w_load (pc' := 15) (v := .int y) (m := 1) (ykc_266 (e := (2, .iload_n kF2, 0)) rfl) rfl rfl ?_
    refine w_cv (as := [.ref 170, .int y]) (r := []) (ykc_266 (e := (6, .invokevirtual 327, 0)) rfl) rfl rfl rfl rfl (zm_isThing hN1 (t := y)) (fun v1288 ph1289 hv => ?_)
    obtain ⟨rfl, rfl⟩ := hv
    show zW n D 266 Q 18 [some (.ref 170), some (.int x), some (.int y), none] [.int (zI (decide (0 ≤ y.toInt ∧ y.toInt < ((G : Nat) : Int))))] ph1284
    refine w_bne (ykc_266 (e := (4, .ifCond .ne 5, 23)) rfl) rfl (fun b1290 => ?_) (fun b1290 => ?_)
    · have b_p := of_decide_eq_true b1287
      obtain ⟨p, h_p, rfl⟩ : ∃ p : Nat, p < P ∧ x = zn p := ⟨x.toInt.toNat, by omega, zn_of (by omega)⟩
      have t_p := znt (k := p) (by omega)
      have b_g := of_decide_eq_true b1290
      obtain ⟨g, h_g, rfl⟩ : ∃ g : Nat, g < G ∧ y = zn g := ⟨y.toInt.toNat, by omega, zn_of (by omega)⟩
      have t_g := znt (k := g) (by omega)
      show zW n D 266 Q 23 [some (.ref 170), some (.int (zn p)), some (.int (zn g)), none] [] ph1284
      refine w_load (pc' := 24) (v := .ref 170) (m := 1) (ykc_266 (e := (2, .aload_n kF0, 0)) rfl) rfl rfl ?_
      refine w_cv (as := [.ref 170]) (r := []) (ykc_266 (e := (6, .invokevirtual 424, 0)) rfl) rfl rfl rfl rfl (zm_copies hS1 hv1) (fun v1291 ph1292 hv => ?_)
      obtain ⟨rfl, fc, hv2⟩ := hv
      have hS2 := zSh_F fc (by decide +kernel) hS1
      have hE2 : zMe ph1292 (R, C, rk, sn, sk, cn, cd) := ⟨zMl_F fc (by simp) (by simp) (by simp) (by simp) hE1.1, zMr_F fc (by simp) (by simp) (by simp) (by simp) hE1.2.1, hE1.2.2⟩
      have hN2 := zMp_F fc (by simp) (by simp) (by simp) hN1
      show zW n D 266 Q 27 [some (.ref 170), some (.int (zn p)), some (.int (zn g)), none] [] ph1292
      refine w_alu (pc' := 28) (st' := [.int (Int32.ofInt 0)]) (ykc_266 (e := (0, .iconst 0, 0)) rfl) rfl rfl ?_
      refine w_store (pc' := 29) (L' := [some (.ref 170), some (.int (zn p)), some (.int (zn g)), some (.int (Int32.ofInt 0))]) (st' := []) (m := 1) (ykc_266 (e := (3, .istore_n kF3, 0)) rfl) rfl rfl ?_
      have hl : ∀ (n : Nat), ∀ (k : Nat) (ph1 : pm_H), (k ≤ 100) → (zSh ph1) → (zMe ph1 (R, C, rk, sn, sk, cn, cd)) → (zMp ph1 P G) → (zNr ph1 175 0 (zHqn (R, C, rk, sn, sk, cn, cd) P G v k)) → (zXfi (fun k => zb (zn (zHqn (R, C, rk, sn, sk, cn, cd) P G v k (24 + p))).toInt64 g) 100 0 = zXfi (fun k => zb (zn (zHqn (R, C, rk, sn, sk, cn, cd) P G v k (24 + p))).toInt64 g) (100 - k) k) → zW n D 266 Q 29 [some (.ref 170), some (.int (zn p)), some (.int (zn g)), some (.int (zn k))] [] ph1 := by
        intro n
        induction n using Nat.strongRecOn with
        | ind n ih =>
          intro k ph1 hk hS hE5 hN5 hv5 he
          have tk := znt (k := k) (by omega)
          have h40 := zHqn_40 (E := (R, C, rk, sn, sk, cn, cd)) (G := G) (v := v) hP8 k
          have hok := (zHqn_ok (E := (R, C, rk, sn, sk, cn, cd)) hO0 hP8 hG8 k (by omega))
          have hvp := (hok.1 p h_p).2.2.2
          refine w_load (pc' := 30) (v := .int (zn k)) (m := 1) (ykc_266 (e := (2, .iload_n kF3, 0)) rfl) rfl rfl ?_
          refine w_push (pc' := 32) (v := .int ((Int8.ofInt 99).toInt32)) (m := 2) (ykc_266 (e := (1, .bipush 99, 0)) rfl) rfl rfl ?_
          refine w_igt (ykc_266 (e := (4, .if_icmp .gt 58, 90)) rfl) rfl (fun b1293 => ?_) (fun b1293 => ?_)
          · refine w_push (pc' := 92) (v := .int ((Int8.ofInt (-2)).toInt32)) (m := 2) (ykc_266 (e := (1, .bipush (-2), 0)) rfl) rfl rfl ?_
            refine w_ret (v := (some (.int ((Int8.ofInt (-2)).toInt32)))) (ykc_266 (e := (7, .ireturn, 0)) rfl) (zr_v rfl) ?_
            have ek : k = 100 := by omega
            subst ek
            rw [hQ]
            exact zXlrn_p (E := (R, C, rk, sn, sk, cn, cd)) h_p (by omega) h_g (by omega) (he.trans rfl)
          · refine w_load (pc' := 36) (v := .ref 170) (m := 1) (ykc_266 (e := (2, .aload_n kF0, 0)) rfl) rfl rfl ?_
            refine w_gf (pc' := 39) (v := .ref 175) (ykc_266 (e := (5, .getfield 44, 0)) rfl) rfl (zsg hS zs_170_12) rfl ?_
            refine w_push (pc' := 41) (v := .int ((Int8.ofInt 24).toInt32)) (m := 2) (ykc_266 (e := (1, .bipush 24, 0)) rfl) rfl rfl ?_
            refine w_load (pc' := 42) (v := .int (zn p)) (m := 1) (ykc_266 (e := (2, .iload_n kF1, 0)) rfl) rfl rfl ?_
            have e1294 : ((Int8.ofInt 24).toInt32) + (zn p) = zn (24 + p) := (zaddN (a := 24) (b := p) c_1 (znt (by omega)) (by omega)) 
            have te1294 := znt (k := 24 + p) (by omega)
            refine w_alu (pc' := 43) (st' := [.int (zn (24 + p)), .ref 175]) (ykc_266 (e := (0, .iadd, 0)) rfl) (by rw [← e1294]; rfl) rfl ?_
            refine w_ialk (pc' := 44) (k := 24 + p) (ykc_266 (e := (5, .iaload, 0)) rfl) (zNr0 hv5 (i := 24 + p) (by omega)) (by omega) rfl ?_
            refine w_alu (pc' := 45) (st' := [.long ((zn (zHqn (R, C, rk, sn, sk, cn, cd) P G v k (24 + p))).toInt64)]) (ykc_266 (e := (0, .i2l, 0)) rfl) rfl rfl ?_
            refine w_load (pc' := 46) (v := .int (zn g)) (m := 1) (ykc_266 (e := (2, .iload_n kF2, 0)) rfl) rfl rfl ?_
            refine w_cs (as := [.long ((zn (zHqn (R, C, rk, sn, sk, cn, cd) P G v k (24 + p))).toInt64), .int (zn g)]) (r := []) (ykc_266 (e := (6, .invokestatic 304, 0)) rfl) rfl rfl rfl rfl (zm_has (kn := g) (by omega) (by omega)) (fun v1295 ph1296 hv => ?_)
            obtain ⟨rfl, rfl⟩ := hv
            show zW n D 266 Q 49 [some (.ref 170), some (.int (zn p)), some (.int (zn g)), some (.int (zn k))] [.int (zI (zb ((zn (zHqn (R, C, rk, sn, sk, cn, cd) P G v k (24 + p))).toInt64) g))] ph1
            refine w_beq (ykc_266 (e := (4, .ifCond .eq 27, 76)) rfl) rfl (fun b1297 => ?_) (fun b1297 => ?_)
            · refine w_load (pc' := 77) (v := .ref 170) (m := 1) (ykc_266 (e := (2, .aload_n kF0, 0)) rfl) rfl rfl ?_
              refine w_load (pc' := 78) (v := .ref 170) (m := 1) (ykc_266 (e := (2, .aload_n kF0, 0)) rfl) rfl rfl ?_
              refine w_gf (pc' := 81) (v := .ref 175) (ykc_266 (e := (5, .getfield 44, 0)) rfl) rfl (zsg hS zs_170_12) rfl ?_
              refine w_cv (as := [.ref 170, .ref 175]) (r := []) (ykc_266 (e := (6, .invokevirtual 347, 0)) rfl) rfl rfl rfl rfl (zm_hour hS hE5 hN5 (Or.inr rfl) hv5 hok (by omega)) (fun v1298 ph1299 hv => ?_)
              obtain ⟨rfl, f2, hv2⟩ := hv
              obtain ⟨hS6, hE6, hN6⟩ := zTb_m (v := v) (u := v) (Or.inr rfl) f2 hS hE5 hN5
              rw [show zHr (R, C, rk, sn, sk, cn, cd) P G (zHqn (R, C, rk, sn, sk, cn, cd) P G v k) = zHqn (R, C, rk, sn, sk, cn, cd) P G v (k + 1) from zHr_eq] at hv2
              show zW n D 266 Q 84 [some (.ref 170), some (.int (zn p)), some (.int (zn g)), some (.int (zn k))] [] ph1299
              have e1300 : (zn k) + Int32.ofInt 1 = zn (k + 1) := (zaddN (a := k) (b := 1) (znt (by omega)) c_5 (by omega))
              have te1300 := znt (k := k + 1) (by omega)
              refine w_store (pc' := 87) (L' := [some (.ref 170), some (.int (zn p)), some (.int (zn g)), some (.int (zn (k + 1)))]) (st' := []) (m := 3) (ykc_266 (e := (3, .iinc 3 1, 0)) rfl) (by rw [← e1300]; rfl) rfl ?_
              refine w_gb (ykc_266 (e := (4, .goto (-58), 29)) rfl) (fun k1301 hk1301 => ?_)
              exact ih k1301 hk1301 (k + 1) _ (by omega) hS6 hE6 hN6 hv2 (he.trans (zXfi_b (f := (fun k => zb (zn (zHqn (R, C, rk, sn, sk, cn, cd) P G v k (24 + p))).toInt64 g)) (by omega) b1297))
            · rw [hQ]
              exact zTail kc_266 false 3 52 75 (fun _ => rfl) (Or.inl ⟨_, rfl⟩) (by decide +kernel) (by decide) (by decide) rfl (by decide +kernel) (fun _ => zXlrn_p (E := (R, C, rk, sn, sk, cn, cd)) h_p (by omega) h_g (by omega) (he.trans (zXfi_e (f := (fun k => zb (zn (zHqn (R, C, rk, sn, sk, cn, cd) P G v k (24 + p))).toInt64 g)) (by omega) b1297)))
      exact hl n 0 _ (by decide) hS2 hE2 hN2 hv2 rfl
    · refine w_alu (pc' := 22) (st' := [.int (Int32.ofInt (-1))]) (ykc_266 (e := (0, .iconst (-1), 0)) rfl) rfl rfl ?_
      refine w_ret (v := (some (.int (Int32.ofInt (-1))))) (ykc_266 (e := (7, .ireturn, 0)) rfl) (zr_v rfl) ?_
      rw [hQ]
      exact zXlrn_n (fun q => absurd q.2 (of_decide_eq_false b1290))

/-! what looks answer: watch; printed by wip/z/z3d_looks.py -/
def zUm (V : Nat → Int64) (m : Nat) : Nat → Int64
  | 0 => Int64.ofNat kG0
  | k + 1 => bif m.testBit k then zUm V m k ||| V k else zUm V m k
def zOw (E : zEn) (P : Nat) (v : Nat → Nat) (m : Nat) : Bool := decide (zUm (zVw E P v) m P = zAll E P v)
def zWm (ok : Nat → Bool) (c : Nat → Nat) : Nat → Nat
  | 0 => 99
  | k + 1 => bif ok k && decide (c k < zWm ok c k) then c k else zWm ok c k
theorem zWm_t {ok : Nat → Bool} {c : Nat → Nat} {k : Nat} (h : ok k = true) (h2 : c k < zWm ok c k) : zWm ok c (k + 1) = c k := by
  show (bif ok k && decide (c k < zWm ok c k) then c k else zWm ok c k) = _
  rw [h, decide_eq_true h2]
  rfl
theorem zWm_f {ok : Nat → Bool} {c : Nat → Nat} {k : Nat} (h : ok k = false ∨ ¬ c k < zWm ok c k) : zWm ok c (k + 1) = zWm ok c k := by
  show (bif ok k && decide (c k < zWm ok c k) then c k else zWm ok c k) = _
  rcases h with h | h
  · rw [h]; rfl
  · rw [decide_eq_false h, Bool.and_false]; rfl
theorem zWm_s {ok : Nat → Bool} {c : Nat → Nat} : ∀ n, (∀ m, m < n → ok m = true → zWm ok c n ≤ c m) ∧ (zWm ok c n = 99 ∨ ∃ m, m < n ∧ ok m = true ∧ zWm ok c n = c m) := by
  intro n
  induction n with
  | zero => exact ⟨fun m hm => absurd hm (Nat.not_lt_zero m), Or.inl rfl⟩
  | succ n ih =>
    by_cases h : ok n = true ∧ c n < zWm ok c n
    · rw [zWm_t h.1 h.2]
      refine ⟨fun m hm ho => ?_, Or.inr ⟨n, by omega, h.1, rfl⟩⟩
      by_cases e : m = n
      · subst e; exact Nat.le_refl _
      · have h3 := ih.1 m (by omega) ho
        have h4 := h.2
        omega
    · have hf : ok n = false ∨ ¬ c n < zWm ok c n := by
        cases ho : ok n with
        | false => exact Or.inl rfl
        | true => exact Or.inr (fun q => h ⟨ho, q⟩)
      rw [zWm_f hf]
      refine ⟨fun m hm ho => ?_, ?_⟩
      · by_cases e : m = n
        · subst e
          rcases hf with hf | hf
          · rw [ho] at hf; cases hf
          · omega
        · exact ih.1 m (by omega) ho
      · rcases ih.2 with h1 | ⟨m, h1, h2, h3⟩
        · exact Or.inl h1
        · exact Or.inr ⟨m, by omega, h2, h3⟩
theorem zWm_e {ok : Nat → Bool} {c : Nat → Nat} {n b : Nat} (hb : b < n) (ho : ok b = true) (h8 : c b ≤ 8) (hm : ∀ m, m < n → ok m = true → c b ≤ c m) : zWm ok c n = c b := by
  obtain ⟨h1, h2⟩ := zWm_s (ok := ok) (c := c) n
  have h3 := h1 b hb ho
  rcases h2 with h2 | ⟨m, h4, h5, h6⟩
  · omega
  · have h7 := hm m h4 h5
    omega
theorem zp2 : ∀ p, p ≤ 8 → 1 ≤ 2 ^ p ∧ 2 ^ p ≤ 256 := by decide
theorem zm2 : ∀ p, p ≤ 8 → ((Int32.ofInt 1) <<< ((zn p) &&& 31)) - (Int32.ofInt 1) = zn (2 ^ p - 1) := by decide +kernel
theorem zm3 : ∀ p, p ≤ 8 → (Int32.ofInt 1) <<< ((zn p) &&& 31) = zn (2 ^ p) := by decide +kernel
theorem zbt : ∀ m, m < 256 → ∀ t, t < 8 → zb (zn m).toInt64 t = m.testBit t := by decide +kernel
theorem zdt : ∀ m, m < 256 → ∀ t, t < 8 → ((((zn m) >>> ((zn t) &&& 31)) &&& (Int32.ofInt 1)).toInt = (Int32.ofInt 1).toInt ↔ m.testBit t = true) := by decide +kernel
theorem zfull : ∀ p, p ≤ 8 → ∀ k, k < p → (2 ^ p - 1).testBit k = true := by decide +kernel
theorem zorW {x : Int64} : x ||| (Int64.ofNat kG0) = x := by
  apply zb_ext
  intro k hk
  rw [zb_or, (show ∀ k, k < 64 → zb (Int64.ofNat kG0) k = false by decide +kernel) k hk, Bool.or_false]
theorem zUm_full {V : Nat → Int64} {m : Nat} : ∀ n, (∀ k, k < n → m.testBit k = true) → zUm V m n = zU V n := by
  intro n
  induction n with
  | zero => intro _; rfl
  | succ n ih =>
    intro h
    show (bif m.testBit n then zUm V m n ||| V n else zUm V m n) = zU V n ||| V n
    rw [h n (by omega), ih (fun k hk => h k (by omega))]
    rfl
theorem zOw_full {E : zEn} {P : Nat} {v : Nat → Nat} (hP : P ≤ 8) : zOw E P v (2 ^ P - 1) = true := decide_eq_true (zUm_full P (zfull P hP))
theorem zOw_t {E : zEn} {P m : Nat} {v : Nat → Nat} (h : (lg_cmp (zUm (zVw E P v) m P) (zAll E P v)).toInt = 0) : zOw E P v m = true := by
  apply decide_eq_true
  rcases zcmp (x := zUm (zVw E P v) m P) (y := zAll E P v) with ⟨-, h2⟩ | ⟨h2, -⟩ | ⟨-, h2⟩
  · omega
  · exact h2
  · omega
theorem zOw_f {E : zEn} {P m : Nat} {v : Nat → Nat} (h : (lg_cmp (zUm (zVw E P v) m P) (zAll E P v)).toInt ≠ 0) : zOw E P v m = false := by
  apply decide_eq_false
  intro e
  rcases zcmp (x := zUm (zVw E P v) m P) (y := zAll E P v) with ⟨h2, -⟩ | ⟨-, h2⟩ | ⟨h2, -⟩
  · rw [e] at h2; omega
  · exact h h2
  · rw [e] at h2; omega
theorem zdecJ {m : Nat} (h : m < 1000) : (zn m + Int32.ofInt (-1)).toInt = ((m : Nat) : Int) + (-1 : Int) := by
  have e : (Int32.ofInt (-1)).toInt = -1 := by decide
  have t := znt (k := m) (by omega)
  rw [ti_add (by rw [t, e]; omega) (by rw [t, e]; omega), t, e]
def zXwat (E : zEn) (P : Nat) (v : Nat → Nat) : Int32 := if zWm (zOw E P v) zpn (2 ^ P) = 99 then zpc (Int32.ofInt (-1)) else zn (zWm (zOw E P v) zpn (2 ^ P))
theorem zc_viewT {ph : pm_H} {E : zEn} {F S P G : Nat} {v : Nat → Nat} (hS : zSh ph) (hE : zCe ph E F) (ht : zCt ph S P G v) (hO : zOk E.1 E.2.1 P G v) (hvw : ∀ i, i < P → zc ph 23 i = some (.long (zVw E P v i))) {m : Nat} (hm : m < 256) : zM 87 [.ref 10, .ref S, .int (zn m)] ph (fun v0 q => ph = q ∧ v0 = some (.long (zUm (zVw E P v) m P))) := by
  obtain ⟨Q, hQ⟩ : ∃ Q : Option Value → pm_H → Prop, Q = (fun v0 q => ph = q ∧ v0 = some (.long (zUm (zVw E P v) m P))) := ⟨_, rfl⟩
  rw [← hQ]
  refine zM_mk fun n D => ?_
  show zW n D 87 Q 0 [some (.ref 10), some (.ref S), some (.int (zn m)), none, none, none] [] ph
  have c_0 : ((Int8.ofInt 8).toInt32).toInt = 8 := by decide
  have c_1 : (Int32.ofInt 0).toInt = 0 := by decide
  have c_2 : (Int32.ofInt 1).toInt = 1 := by decide
  obtain ⟨R, C, rk, sn, sk, cn, cd⟩ := E
  have hL0 : zCl ph R C rk := hE.1
  have hi0 : zCi ph sn sk := hE.2.1
  have hF : F = 11 ∨ F = 16 := hE.2.2.2
  have hE0 : zCe ph (R, C, rk, sn, sk, cn, cd) F := hE
  have hO0 : zOk R C P G v := hO
  have hL := hL0
  have hs := ht.1.2
  have hd := ht.2
  have h25 := ht.1.1
  obtain ⟨gR, gC, gN, gK, gA, hR3, hR7, hC3, hC7⟩ := hL
  have hRC := zRC49 hR7 hC7
  have tR := znt (k := R) (by omega)
  have tC := znt (k := C) (by omega)
  have tRC := znt (k := R * C) (by omega)
  have hd0 := hd
  have hs0 := hs
  obtain ⟨r3, r4, r5, r6, r7, l1, l2, l3, l4, l5⟩ := hs
  obtain ⟨gP, hP8, gG, hG8, gH, gv, gw⟩ := hd
  have tP := znt (k := P) (by omega)
  have tG := znt (k := G) (by omega)
  have h40 := hO0.2.2
  have t40 := znt (k := v 40) (by omega)
  have tm := znt (k := m) (by omega)
  refine w_alu (pc' := 1) (st' := [.long (Int64.ofNat kG0)]) (ykc_87 (e := (0, .lconst kG0, 0)) rfl) rfl rfl ?_
  refine w_store (pc' := 2) (L' := [some (.ref 10), some (.ref S), some (.int (zn m)), some (.long (Int64.ofNat kG0)), none, none]) (st' := []) (m := 1) (ykc_87 (e := (3, .lstore_n kF3, 0)) rfl) rfl rfl ?_
  refine w_alu (pc' := 3) (st' := [.int (Int32.ofInt 0)]) (ykc_87 (e := (0, .iconst 0, 0)) rfl) rfl rfl ?_
  refine w_store (pc' := 5) (L' := [some (.ref 10), some (.ref S), some (.int (zn m)), some (.long (Int64.ofNat kG0)), none, some (.int (Int32.ofInt 0))]) (st' := []) (m := 2) (ykc_87 (e := (3, .istore 5, 0)) rfl) rfl rfl ?_
  have hl : ∀ (n : Nat), ∀ (k : Nat), (k ≤ P) → zW n D 87 Q 5 [some (.ref 10), some (.ref S), some (.int (zn m)), some (.long (zUm (zVw (R, C, rk, sn, sk, cn, cd) P v) m k)), none, some (.int (zn k))] [] ph := by
    intro n
    induction n using Nat.strongRecOn with
    | ind n ih =>
      intro k hk
      have tk := znt (k := k) (by omega)
      refine w_load (pc' := 7) (v := .int (zn k)) (m := 2) (ykc_87 (e := (2, .iload 5, 0)) rfl) rfl rfl ?_
      refine w_load (pc' := 8) (v := .ref S) (m := 1) (ykc_87 (e := (2, .aload_n kF1, 0)) rfl) rfl rfl ?_
      refine w_gf (pc' := 11) (v := .int (zn P)) (ykc_87 (e := (5, .getfield 122, 0)) rfl) rfl gP rfl ?_
      refine w_ige (ykc_87 (e := (4, .if_icmp .ge 36, 47)) rfl) rfl (fun b1302 => ?_) (fun b1302 => ?_)
      · refine w_load (pc' := 48) (v := .long (zUm (zVw (R, C, rk, sn, sk, cn, cd) P v) m k)) (m := 1) (ykc_87 (e := (2, .lload_n kF3, 0)) rfl) rfl rfl ?_
        refine w_ret (v := (some (.long (zUm (zVw (R, C, rk, sn, sk, cn, cd) P v) m k)))) (ykc_87 (e := (7, .lreturn, 0)) rfl) (zr_v rfl) ?_
        have ek : P = k := by omega
        subst ek
        rw [hQ]
        exact ⟨rfl, rfl⟩
      · refine w_load (pc' := 16) (v := .int (zn k)) (m := 2) (ykc_87 (e := (2, .iload 5, 0)) rfl) rfl rfl ?_
        refine w_push (pc' := 18) (v := .int ((Int8.ofInt 8).toInt32)) (m := 2) (ykc_87 (e := (1, .bipush 8, 0)) rfl) rfl rfl ?_
        refine w_ige (ykc_87 (e := (4, .if_icmp .ge 29, 47)) rfl) rfl (fun q => by exfalso; omega) (fun b1303 => ?_)
        refine w_load (pc' := 22) (v := .int (zn m)) (m := 1) (ykc_87 (e := (2, .iload_n kF2, 0)) rfl) rfl rfl ?_
        refine w_load (pc' := 24) (v := .int (zn k)) (m := 2) (ykc_87 (e := (2, .iload 5, 0)) rfl) rfl rfl ?_
        refine w_alu (pc' := 25) (st' := [.int ((zn m) >>> ((zn k) &&& 31))]) (ykc_87 (e := (0, .ishr, 0)) rfl) rfl rfl ?_
        refine w_alu (pc' := 26) (st' := [.int (Int32.ofInt 1), .int ((zn m) >>> ((zn k) &&& 31))]) (ykc_87 (e := (0, .iconst 1, 0)) rfl) rfl rfl ?_
        refine w_alu (pc' := 27) (st' := [.int (((zn m) >>> ((zn k) &&& 31)) &&& (Int32.ofInt 1))]) (ykc_87 (e := (0, .iand, 0)) rfl) rfl rfl ?_
        refine w_alu (pc' := 28) (st' := [.int (Int32.ofInt 1), .int (((zn m) >>> ((zn k) &&& 31)) &&& (Int32.ofInt 1))]) (ykc_87 (e := (0, .iconst 1, 0)) rfl) rfl rfl ?_
        refine w_ine (ykc_87 (e := (4, .if_icmp .ne 13, 41)) rfl) rfl (fun b1304 => ?_) (fun b1304 => ?_)
        · have e1305 : (zn k) + Int32.ofInt 1 = zn (k + 1) := (zaddN (a := k) (b := 1) (znt (by omega)) c_2 (by omega))
          have te1305 := znt (k := k + 1) (by omega)
          refine w_store (pc' := 44) (L' := [some (.ref 10), some (.ref S), some (.int (zn m)), some (.long (zUm (zVw (R, C, rk, sn, sk, cn, cd) P v) m k)), none, some (.int (zn (k + 1)))]) (st' := []) (m := 3) (ykc_87 (e := (3, .iinc 5 1, 0)) rfl) (by rw [← e1305]; rfl) rfl ?_
          refine w_gb (ykc_87 (e := (4, .goto (-39), 5)) rfl) (fun k1306 hk1306 => ?_)
          have hbt : m.testBit k = false := by
            cases hz : m.testBit k with
            | false => rfl
            | true => exact absurd ((zdt m hm k (by omega)).mpr hz) b1304
          have et : zUm (zVw (R, C, rk, sn, sk, cn, cd) P v) m (k + 1) = zUm (zVw (R, C, rk, sn, sk, cn, cd) P v) m k := by
            show (bif m.testBit k then zUm (zVw (R, C, rk, sn, sk, cn, cd) P v) m k ||| zVw (R, C, rk, sn, sk, cn, cd) P v k else zUm (zVw (R, C, rk, sn, sk, cn, cd) P v) m k) = _
            rw [hbt]
            rfl
          have h9 := ih k1306 hk1306 (k + 1) (by omega)
          rw [et] at h9
          exact h9
        · refine w_load (pc' := 32) (v := .long (zUm (zVw (R, C, rk, sn, sk, cn, cd) P v) m k)) (m := 1) (ykc_87 (e := (2, .lload_n kF3, 0)) rfl) rfl rfl ?_
          refine w_load (pc' := 33) (v := .ref 10) (m := 1) (ykc_87 (e := (2, .aload_n kF0, 0)) rfl) rfl rfl ?_
          refine w_gf (pc' := 36) (v := .ref 23) (ykc_87 (e := (5, .getfield 36, 0)) rfl) rfl (zsg hS zs_10_6) rfl ?_
          refine w_load (pc' := 38) (v := .int (zn k)) (m := 2) (ykc_87 (e := (2, .iload 5, 0)) rfl) rfl rfl ?_
          refine w_lalk (pc' := 39) (k := k) (ykc_87 (e := (5, .laload, 0)) rfl) (hvw k (by omega)) (by omega) rfl ?_
          refine w_alu (pc' := 40) (st' := [.long ((zUm (zVw (R, C, rk, sn, sk, cn, cd) P v) m k) ||| (zVw (R, C, rk, sn, sk, cn, cd) P v k))]) (ykc_87 (e := (0, .lor, 0)) rfl) rfl rfl ?_
          refine w_store (pc' := 41) (L' := [some (.ref 10), some (.ref S), some (.int (zn m)), some (.long ((zUm (zVw (R, C, rk, sn, sk, cn, cd) P v) m k) ||| (zVw (R, C, rk, sn, sk, cn, cd) P v k))), none, some (.int (zn k))]) (st' := []) (m := 1) (ykc_87 (e := (3, .lstore_n kF3, 0)) rfl) rfl rfl ?_
          have e1307 : (zn k) + Int32.ofInt 1 = zn (k + 1) := (zaddN (a := k) (b := 1) (znt (by omega)) c_2 (by omega))
          have te1307 := znt (k := k + 1) (by omega)
          refine w_store (pc' := 44) (L' := [some (.ref 10), some (.ref S), some (.int (zn m)), some (.long ((zUm (zVw (R, C, rk, sn, sk, cn, cd) P v) m k) ||| (zVw (R, C, rk, sn, sk, cn, cd) P v k))), none, some (.int (zn (k + 1)))]) (st' := []) (m := 3) (ykc_87 (e := (3, .iinc 5 1, 0)) rfl) (by rw [← e1307]; rfl) rfl ?_
          refine w_gb (ykc_87 (e := (4, .goto (-39), 5)) rfl) (fun k1308 hk1308 => ?_)
          have hbt : m.testBit k = true := by
            exact (zdt m hm k (by omega)).mp b1304
          have et : zUm (zVw (R, C, rk, sn, sk, cn, cd) P v) m (k + 1) = (zUm (zVw (R, C, rk, sn, sk, cn, cd) P v) m k) ||| (zVw (R, C, rk, sn, sk, cn, cd) P v k) := by
            show (bif m.testBit k then zUm (zVw (R, C, rk, sn, sk, cn, cd) P v) m k ||| zVw (R, C, rk, sn, sk, cn, cd) P v k else zUm (zVw (R, C, rk, sn, sk, cn, cd) P v) m k) = _
            rw [hbt]
            rfl
          have h9 := ih k1308 hk1308 (k + 1) (by omega)
          rw [et] at h9
          exact h9
  exact hl n 0 (Nat.zero_le _)
theorem zc_watX {ph : pm_H} {E : zEn} {F P G : Nat} {v : Nat → Nat} (hS : zSh ph) (hE : zCe ph E F) (ht : zCt ph 25 P G v) (hO : zOk E.1 E.2.1 P G v) (hr : zc ph 10 1 = some (.ref F)) (hc : zCc ph E.1 E.2.1 E.2.2.1) : zM 153 [.ref 0] ph (fun v0 _ => v0 = some (.int (zXwat E P v))) := by
  obtain ⟨Q, hQ⟩ : ∃ Q : Option Value → pm_H → Prop, Q = (fun v0 _ => v0 = some (.int (zXwat E P v))) := ⟨_, rfl⟩
  rw [← hQ]
  refine zM_mk fun n D => ?_
  show zW n D 153 Q 0 [some (.ref 0), none, none, none, none, none] [] ph
  have c_0 : (Int32.ofInt (-1)).toInt = -1 := by decide
  have c_1 : (Int32.ofInt 0).toInt = 0 := by decide
  have c_2 : (Int32.ofInt 1).toInt = 1 := by decide
  obtain ⟨R, C, rk, sn, sk, cn, cd⟩ := E
  have hL0 : zCl ph R C rk := hE.1
  have hi0 : zCi ph sn sk := hE.2.1
  have hF : F = 11 ∨ F = 16 := hE.2.2.2
  have hE0 : zCe ph (R, C, rk, sn, sk, cn, cd) F := hE
  have hO0 : zOk R C P G v := hO
  have hL := hL0
  have hs := ht.1.2
  have hd := ht.2
  have h25 := ht.1.1
  obtain ⟨gR, gC, gN, gK, gA, hR3, hR7, hC3, hC7⟩ := hL
  have hRC := zRC49 hR7 hC7
  have tR := znt (k := R) (by omega)
  have tC := znt (k := C) (by omega)
  have tRC := znt (k := R * C) (by omega)
  have hd0 := hd
  have hs0 := hs
  obtain ⟨r3, r4, r5, r6, r7, l1, l2, l3, l4, l5⟩ := hs
  obtain ⟨gP, hP8, gG, hG8, gH, gv, gw⟩ := hd
  have tP := znt (k := P) (by omega)
  have tG := znt (k := G) (by omega)
  have h40 := hO0.2.2
  have t40 := znt (k := v 40) (by omega)
  have hc0 := hc
  obtain ⟨N, hN2⟩ : ∃ N, N = 2 ^ P := ⟨_, rfl⟩
  have hN256 : 1 ≤ N ∧ N ≤ 256 := by rw [hN2]; exact zp2 P (by omega)
  refine w_load (pc' := 1) (v := .ref 0) (m := 1) (ykc_153 (e := (2, .aload_n kF0, 0)) rfl) rfl rfl ?_
  refine w_gf (pc' := 4) (v := .ref 10) (ykc_153 (e := (5, .getfield 35, 0)) rfl) rfl (zsg hS zs_0_3) rfl ?_
  refine w_load (pc' := 5) (v := .ref 0) (m := 1) (ykc_153 (e := (2, .aload_n kF0, 0)) rfl) rfl rfl ?_
  refine w_gf (pc' := 8) (v := .ref 25) (ykc_153 (e := (5, .getfield 42, 0)) rfl) rfl (zsg hS zs_0_4) rfl ?_
  refine w_cv (as := [.ref 10, .ref 25]) (r := []) (ykc_153 (e := (6, .invokevirtual 208, 0)) rfl) rfl rfl rfl rfl (zc_lookR hS hE0 ht hO0 hr hc0) (fun v1311 ph1312 hv => ?_)
  obtain ⟨f1309, hc1310, hvw, rfl⟩ := hv
  show zW n D 153 Q 11 [some (.ref 0), none, none, none, none, none] [.long (zAll (R, C, rk, sn, sk, cn, cd) P v)] ph1312
  refine w_store (pc' := 12) (L' := [some (.ref 0), some (.long (zAll (R, C, rk, sn, sk, cn, cd) P v)), none, none, none, none]) (st' := []) (m := 1) (ykc_153 (e := (3, .lstore_n kF1, 0)) rfl) rfl rfl ?_
  refine w_alu (pc' := 13) (st' := [.int (Int32.ofInt 1)]) (ykc_153 (e := (0, .iconst 1, 0)) rfl) rfl rfl ?_
  refine w_load (pc' := 14) (v := .ref 0) (m := 1) (ykc_153 (e := (2, .aload_n kF0, 0)) rfl) rfl rfl ?_
  refine w_gf (pc' := 17) (v := .ref 25) (ykc_153 (e := (5, .getfield 42, 0)) rfl) rfl ((f1309.1 0 4 (by decide) (by decide)).trans (zsg hS zs_0_4)) rfl ?_
  refine w_gf (pc' := 20) (v := .int (zn P)) (ykc_153 (e := (5, .getfield 130, 0)) rfl) rfl ((f1309.1 25 0 (by decide) (by decide)).trans gP) rfl ?_
  refine w_alu (pc' := 21) (st' := [.int ((Int32.ofInt 1) <<< ((zn P) &&& 31))]) (ykc_153 (e := (0, .ishl, 0)) rfl) rfl rfl ?_
  refine w_alu (pc' := 22) (st' := [.int (Int32.ofInt 1), .int ((Int32.ofInt 1) <<< ((zn P) &&& 31))]) (ykc_153 (e := (0, .iconst 1, 0)) rfl) rfl rfl ?_
  have e1313 : ((Int32.ofInt 1) <<< ((zn P) &&& 31)) - (Int32.ofInt 1) = zn (N - 1) := (by rw [hN2]; exact zm2 P (by omega))
  have te1313 := znt (k := N - 1) (by omega)
  refine w_alu (pc' := 23) (st' := [.int (zn (N - 1))]) (ykc_153 (e := (0, .isub, 0)) rfl) (by show some ([.int (((Int32.ofInt 1) <<< ((zn P) &&& 31)) - (Int32.ofInt 1))] : List Value) = _; rw [e1313]) rfl ?_
  refine w_store (pc' := 24) (L' := [some (.ref 0), some (.long (zAll (R, C, rk, sn, sk, cn, cd) P v)), none, some (.int (zn (N - 1))), none, none]) (st' := []) (m := 1) (ykc_153 (e := (3, .istore_n kF3, 0)) rfl) rfl rfl ?_
  refine w_load (pc' := 25) (v := .int (zn (N - 1))) (m := 1) (ykc_153 (e := (2, .iload_n kF3, 0)) rfl) rfl rfl ?_
  refine w_alu (pc' := 26) (st' := [.int (Int32.ofInt 1), .int (zn (N - 1))]) (ykc_153 (e := (0, .iconst 1, 0)) rfl) rfl rfl ?_
  obtain ⟨z1314, e_z1314, h_z1314⟩ : ∃ zq : Int32, (zn (N - 1)) - (Int32.ofInt 1) = zq ∧ zq.toInt = ((N - 1 : Nat) : Int) - (1 : Int) := ⟨_, rfl, (by have := ti_sub (x := (zn (N - 1))) (y := (Int32.ofInt 1)) (by omega) (by omega); omega)⟩
  refine w_alu (pc' := 27) (st' := [.int z1314]) (ykc_153 (e := (0, .isub, 0)) rfl) (by rw [← e_z1314]; rfl) rfl ?_
  refine w_store (pc' := 29) (L' := [some (.ref 0), some (.long (zAll (R, C, rk, sn, sk, cn, cd) P v)), none, some (.int (zn (N - 1))), some (.int z1314), none]) (st' := []) (m := 2) (ykc_153 (e := (3, .istore 4, 0)) rfl) rfl rfl ?_
  have hS9 := (zCx_S f1309 hS)
  have hfull : zOw (R, C, rk, sn, sk, cn, cd) P v (N - 1) = true := by rw [hN2]; exact zOw_full (by omega)
  have hl : ∀ (n : Nat), ∀ (b k : Nat) (y : Int32) (o5 : Option Value), (b < N) → ((zOw (R, C, rk, sn, sk, cn, cd) P v) b = true) → (k ≤ N - 1) → (y.toInt = (k : Int) - 1) → (∀ m, k ≤ m → m < N → (zOw (R, C, rk, sn, sk, cn, cd) P v) m = true → zpn b ≤ zpn m) → zW n D 153 Q 29 [some (.ref 0), some (.long (zAll (R, C, rk, sn, sk, cn, cd) P v)), none, some (.int (zn b)), some (.int y), o5] [] ph1312 := by
    intro n
    induction n using Nat.strongRecOn with
    | ind n ih =>
      intro b k y o5 hb ob hk hy hmin
      have tb := znt (k := b) (by omega)
      refine w_load (pc' := 31) (v := .int y) (m := 2) (ykc_153 (e := (2, .iload 4, 0)) rfl) rfl rfl ?_
      refine w_zlt (ykc_153 (e := (4, .ifCond .lt 54, 85)) rfl) rfl (fun b1315 => ?_) (fun b1315 => ?_)
      · have ek : k = 0 := by omega
        subst ek
        have hw := zWm_e (c := zpn) hb ob (zpn_n b (by omega)).2 (fun m hm ho => hmin m (Nat.zero_le m) hm ho)
        refine w_load (pc' := 86) (v := .ref 0) (m := 1) (ykc_153 (e := (2, .aload_n kF0, 0)) rfl) rfl rfl ?_
        refine w_gf (pc' := 89) (v := .ref 3) (ykc_153 (e := (5, .getfield 19, 0)) rfl) rfl ((f1309.1 0 1 (by decide) (by decide)).trans (zsg hS zs_0_1)) rfl ?_
        refine w_cv (as := [.ref 3]) (r := []) (ykc_153 (e := (6, .invokevirtual 245, 0)) rfl) rfl rfl rfl rfl (zc_anew) (fun v1316 ph1317 hv => ?_)
        obtain ⟨rfl, fn1, gn1⟩ := hv
        show zW n D 153 Q 92 [some (.ref 0), some (.long (zAll (R, C, rk, sn, sk, cn, cd) P v)), none, some (.int (zn b)), some (.int y), o5] [.ref 3] ph1317
        refine w_load (pc' := 93) (v := .int (zn b)) (m := 1) (ykc_153 (e := (2, .iload_n kF3, 0)) rfl) rfl rfl ?_
        refine w_alu (pc' := 94) (st' := [.long ((zn b).toInt64), .ref 3]) (ykc_153 (e := (0, .i2l, 0)) rfl) rfl rfl ?_
        refine w_cv (as := [.ref 3, .long ((zn b).toInt64)]) (r := []) (ykc_153 (e := (6, .invokevirtual 252, 0)) rfl) rfl rfl rfl rfl (zc_add (zSh_F fn1 (by decide +kernel) hS9) (k := 0) gn1 (by decide)) (fun v1318 ph1319 hv => ?_)
        obtain ⟨rfl, fn2, gn2⟩ := hv
        show zW n D 153 Q 97 [some (.ref 0), some (.long (zAll (R, C, rk, sn, sk, cn, cd) P v)), none, some (.int (zn b)), some (.int y), o5] [.ref 3] ph1319
        refine w_alu (pc' := 98) (st' := []) (ykc_153 (e := (0, .pop, 0)) rfl) rfl rfl ?_
        refine w_load (pc' := 99) (v := .int (zn b)) (m := 1) (ykc_153 (e := (2, .iload_n kF3, 0)) rfl) rfl rfl ?_
        refine w_cs (as := [.int (zn b)]) (r := []) (ykc_153 (e := (6, .invokestatic 313, 0)) rfl) rfl rfl rfl rfl (zj_pc) (fun v1321 ph1322 hv => ?_)
        obtain ⟨rfl, rfl⟩ := hv
        have p1320 := zpn_n b (by omega)
        rw [p1320.1]
        have p13202 := p1320.2
        have tp1320 := znt (k := zpn b) (by omega)
        show zW n D 153 Q 102 [some (.ref 0), some (.long (zAll (R, C, rk, sn, sk, cn, cd) P v)), none, some (.int (zn b)), some (.int y), o5] [.int (zn (zpn b))] ph1319
        refine w_ret (v := (some (.int (zn (zpn b))))) (ykc_153 (e := (7, .ireturn, 0)) rfl) (zr_v rfl) ?_
        rw [hQ]
        unfold zXwat
        rw [← hN2, hw, if_neg (by have := (zpn_n b (by omega)).2; omega)]
      · obtain ⟨m, rfl⟩ : ∃ m : Nat, k = m + 1 := ⟨k - 1, by omega⟩
        obtain rfl : y = zn m := zn_of (by omega)
        have tm := znt (k := m) (by omega)
        show zW n D 153 Q 34 [some (.ref 0), some (.long (zAll (R, C, rk, sn, sk, cn, cd) P v)), none, some (.int (zn b)), some (.int (zn m)), o5] [] ph1312
        refine w_load (pc' := 36) (v := .int (zn m)) (m := 2) (ykc_153 (e := (2, .iload 4, 0)) rfl) rfl rfl ?_
        refine w_cs (as := [.int (zn m)]) (r := []) (ykc_153 (e := (6, .invokestatic 313, 0)) rfl) rfl rfl rfl rfl (zj_pc) (fun v1324 ph1325 hv => ?_)
        obtain ⟨rfl, rfl⟩ := hv
        have p1323 := zpn_n m (by omega)
        rw [p1323.1]
        have p13232 := p1323.2
        have tp1323 := znt (k := zpn m) (by omega)
        show zW n D 153 Q 39 [some (.ref 0), some (.long (zAll (R, C, rk, sn, sk, cn, cd) P v)), none, some (.int (zn b)), some (.int (zn m)), o5] [.int (zn (zpn m))] ph1312
        refine w_load (pc' := 40) (v := .int (zn b)) (m := 1) (ykc_153 (e := (2, .iload_n kF3, 0)) rfl) rfl rfl ?_
        refine w_cs (as := [.int (zn b)]) (r := [.int (zn (zpn m))]) (ykc_153 (e := (6, .invokestatic 313, 0)) rfl) rfl rfl rfl rfl (zj_pc) (fun v1327 ph1328 hv => ?_)
        obtain ⟨rfl, rfl⟩ := hv
        have p1326 := zpn_n b (by omega)
        rw [p1326.1]
        have p13262 := p1326.2
        have tp1326 := znt (k := zpn b) (by omega)
        show zW n D 153 Q 43 [some (.ref 0), some (.long (zAll (R, C, rk, sn, sk, cn, cd) P v)), none, some (.int (zn b)), some (.int (zn m)), o5] [.int (zn (zpn b)), .int (zn (zpn m))] ph1312
        refine w_igt (ykc_153 (e := (4, .if_icmp .gt 7, 50)) rfl) rfl (fun b1329 => ?_) (fun b1329 => ?_)
        · refine w_alu (pc' := 51) (st' := [.int (Int32.ofInt 0)]) (ykc_153 (e := (0, .iconst 0, 0)) rfl) rfl rfl ?_
          refine w_store (pc' := 53) (L' := [some (.ref 0), some (.long (zAll (R, C, rk, sn, sk, cn, cd) P v)), none, some (.int (zn b)), some (.int (zn m)), some (.int (Int32.ofInt 0))]) (st' := []) (m := 2) (ykc_153 (e := (3, .istore 5, 0)) rfl) rfl rfl ?_
          refine w_load (pc' := 55) (v := .int (Int32.ofInt 0)) (m := 2) (ykc_153 (e := (2, .iload 5, 0)) rfl) rfl rfl ?_
          refine w_zeq (ykc_153 (e := (4, .ifCond .eq 24, 79)) rfl) rfl (fun b1330 => ?_) (fun q => by exfalso; omega)
          obtain ⟨z1331, e_z1331, h_z1331⟩ : ∃ zq : Int32, (zn m) + Int32.ofInt (-1) = zq ∧ zq.toInt = ((m : Nat) : Int) + (-1 : Int) := ⟨_, rfl, zdecJ (by omega)⟩
          refine w_store (pc' := 82) (L' := [some (.ref 0), some (.long (zAll (R, C, rk, sn, sk, cn, cd) P v)), none, some (.int (zn b)), some (.int z1331), some (.int (Int32.ofInt 0))]) (st' := []) (m := 3) (ykc_153 (e := (3, .iinc 4 (-1), 0)) rfl) (by rw [← e_z1331]; rfl) rfl ?_
          refine w_gb (ykc_153 (e := (4, .goto (-53), 29)) rfl) (fun k1332 hk1332 => ?_)
          exact ih k1332 hk1332 b m z1331 (some (.int (Int32.ofInt 0))) (by omega) ob (by omega) (by omega) (fun m2 h1 h2 h3 => by
            by_cases e : m2 = m
            · subst e; omega
            · exact hmin m2 (by omega) h2 h3)
        · refine w_alu (pc' := 47) (st' := [.int (Int32.ofInt 1)]) (ykc_153 (e := (0, .iconst 1, 0)) rfl) rfl rfl ?_
          refine w_br (pc' := 51) (st' := [.int (Int32.ofInt 1)]) (ykc_153 (e := (4, .goto 4, 51)) rfl) rfl ?_
          refine w_store (pc' := 53) (L' := [some (.ref 0), some (.long (zAll (R, C, rk, sn, sk, cn, cd) P v)), none, some (.int (zn b)), some (.int (zn m)), some (.int (Int32.ofInt 1))]) (st' := []) (m := 2) (ykc_153 (e := (3, .istore 5, 0)) rfl) rfl rfl ?_
          refine w_load (pc' := 55) (v := .int (Int32.ofInt 1)) (m := 2) (ykc_153 (e := (2, .iload 5, 0)) rfl) rfl rfl ?_
          refine w_zeq (ykc_153 (e := (4, .ifCond .eq 24, 79)) rfl) rfl (fun q => by exfalso; omega) (fun b1333 => ?_)
          refine w_load (pc' := 59) (v := .ref 0) (m := 1) (ykc_153 (e := (2, .aload_n kF0, 0)) rfl) rfl rfl ?_
          refine w_gf (pc' := 62) (v := .ref 10) (ykc_153 (e := (5, .getfield 35, 0)) rfl) rfl ((f1309.1 0 3 (by decide) (by decide)).trans (zsg hS zs_0_3)) rfl ?_
          refine w_load (pc' := 63) (v := .ref 0) (m := 1) (ykc_153 (e := (2, .aload_n kF0, 0)) rfl) rfl rfl ?_
          refine w_gf (pc' := 66) (v := .ref 25) (ykc_153 (e := (5, .getfield 42, 0)) rfl) rfl ((f1309.1 0 4 (by decide) (by decide)).trans (zsg hS zs_0_4)) rfl ?_
          refine w_load (pc' := 68) (v := .int (zn m)) (m := 2) (ykc_153 (e := (2, .iload 4, 0)) rfl) rfl rfl ?_
          refine w_cv (as := [.ref 10, .ref 25, .int (zn m)]) (r := []) (ykc_153 (e := (6, .invokevirtual 332, 0)) rfl) rfl rfl rfl rfl (zc_viewT (zCx_S f1309 hS) (zCx_e f1309 hE0) (zCx_t f1309 ht) hO0 hvw (m := m) (by omega)) (fun v1334 ph1335 hv => ?_)
          obtain ⟨rfl, rfl⟩ := hv
          show zW n D 153 Q 71 [some (.ref 0), some (.long (zAll (R, C, rk, sn, sk, cn, cd) P v)), none, some (.int (zn b)), some (.int (zn m)), some (.int (Int32.ofInt 1))] [.long (zUm (zVw (R, C, rk, sn, sk, cn, cd) P v) m P)] ph1312
          refine w_load (pc' := 72) (v := .long (zAll (R, C, rk, sn, sk, cn, cd) P v)) (m := 1) (ykc_153 (e := (2, .lload_n kF1, 0)) rfl) rfl rfl ?_
          refine w_alu (pc' := 73) (st' := [.int (lg_cmp (zUm (zVw (R, C, rk, sn, sk, cn, cd) P v) m P) (zAll (R, C, rk, sn, sk, cn, cd) P v))]) (ykc_153 (e := (0, .lcmp, 0)) rfl) rfl rfl ?_
          refine w_zne (ykc_153 (e := (4, .ifCond .ne 6, 79)) rfl) rfl (fun b1336 => ?_) (fun b1336 => ?_)
          · obtain ⟨z1337, e_z1337, h_z1337⟩ : ∃ zq : Int32, (zn m) + Int32.ofInt (-1) = zq ∧ zq.toInt = ((m : Nat) : Int) + (-1 : Int) := ⟨_, rfl, zdecJ (by omega)⟩
            refine w_store (pc' := 82) (L' := [some (.ref 0), some (.long (zAll (R, C, rk, sn, sk, cn, cd) P v)), none, some (.int (zn b)), some (.int z1337), some (.int (Int32.ofInt 1))]) (st' := []) (m := 3) (ykc_153 (e := (3, .iinc 4 (-1), 0)) rfl) (by rw [← e_z1337]; rfl) rfl ?_
            refine w_gb (ykc_153 (e := (4, .goto (-53), 29)) rfl) (fun k1338 hk1338 => ?_)
            exact ih k1338 hk1338 b m z1337 (some (.int (Int32.ofInt 1))) (by omega) ob (by omega) (by omega) (fun m2 h1 h2 h3 => by
              by_cases e : m2 = m
              · subst e; rw [zOw_f b1336] at h3; cases h3
              · exact hmin m2 (by omega) h2 h3)
          · refine w_load (pc' := 78) (v := .int (zn m)) (m := 2) (ykc_153 (e := (2, .iload 4, 0)) rfl) rfl rfl ?_
            refine w_store (pc' := 79) (L' := [some (.ref 0), some (.long (zAll (R, C, rk, sn, sk, cn, cd) P v)), none, some (.int (zn m)), some (.int (zn m)), some (.int (Int32.ofInt 1))]) (st' := []) (m := 1) (ykc_153 (e := (3, .istore_n kF3, 0)) rfl) rfl rfl ?_
            obtain ⟨z1339, e_z1339, h_z1339⟩ : ∃ zq : Int32, (zn m) + Int32.ofInt (-1) = zq ∧ zq.toInt = ((m : Nat) : Int) + (-1 : Int) := ⟨_, rfl, zdecJ (by omega)⟩
            refine w_store (pc' := 82) (L' := [some (.ref 0), some (.long (zAll (R, C, rk, sn, sk, cn, cd) P v)), none, some (.int (zn m)), some (.int z1339), some (.int (Int32.ofInt 1))]) (st' := []) (m := 3) (ykc_153 (e := (3, .iinc 4 (-1), 0)) rfl) (by rw [← e_z1339]; rfl) rfl ?_
            refine w_gb (ykc_153 (e := (4, .goto (-53), 29)) rfl) (fun k1340 hk1340 => ?_)
            exact ih k1340 hk1340 m m z1339 (some (.int (Int32.ofInt 1))) (by omega) (zOw_t b1336) (by omega) (by omega) (fun m2 h1 h2 h3 => by
              by_cases e : m2 = m
              · subst e; exact Nat.le_refl _
              · have h4 := hmin m2 (by omega) h2 h3
                omega)
  exact hl n (N - 1) (N - 1) _ _ (by omega) hfull (Nat.le_refl _) (by omega) (fun m h1 h2 _ => by rw [show m = N - 1 by omega]; exact Nat.le_refl _)
theorem zm_fewer {ph : pm_H} {a b : Int32} : zM 264 [.int a, .int b] ph (fun v0 q => ph = q ∧ v0 = some (.int (zI (decide (b.toInt < 0) || decide ((zpc a).toInt < (zpc b).toInt))))) := by
  obtain ⟨Q, hQ⟩ : ∃ Q : Option Value → pm_H → Prop, Q = (fun v0 q => ph = q ∧ v0 = some (.int (zI (decide (b.toInt < 0) || decide ((zpc a).toInt < (zpc b).toInt))))) := ⟨_, rfl⟩
  rw [← hQ]
  refine zM_mk fun n D => ?_
  show zW n D 264 Q 0 [some (.int a), some (.int b)] [] ph
  have c_0 : (Int32.ofInt 0).toInt = 0 := by decide
  have c_1 : (Int32.ofInt 1).toInt = 1 := by decide
  refine w_load (pc' := 1) (v := .int b) (m := 1) (ykc_264 (e := (2, .iload_n kF1, 0)) rfl) rfl rfl ?_
  refine w_zlt (ykc_264 (e := (4, .ifCond .lt 14, 15)) rfl) rfl (fun b1341 => ?_) (fun b1341 => ?_)
  · refine w_alu (pc' := 16) (st' := [.int (Int32.ofInt 1)]) (ykc_264 (e := (0, .iconst 1, 0)) rfl) rfl rfl ?_
    refine w_br (pc' := 20) (st' := [.int (Int32.ofInt 1)]) (ykc_264 (e := (4, .goto 4, 20)) rfl) rfl ?_
    refine w_ret (v := (some (.int (Int32.ofInt 1)))) (ykc_264 (e := (7, .ireturn, 0)) rfl) zr_z ?_
    rw [hQ, zi1]
    exact ⟨rfl, zvB (by rw [decide_eq_true (show b.toInt < 0 by omega), Bool.true_or])⟩
  · refine w_load (pc' := 5) (v := .int a) (m := 1) (ykc_264 (e := (2, .iload_n kF0, 0)) rfl) rfl rfl ?_
    refine w_cs (as := [.int a]) (r := []) (ykc_264 (e := (6, .invokestatic 265, 0)) rfl) rfl rfl rfl rfl (zj_pc) (fun v1342 ph1343 hv => ?_)
    obtain ⟨rfl, rfl⟩ := hv
    show zW n D 264 Q 8 [some (.int a), some (.int b)] [.int (zpc a)] ph
    refine w_load (pc' := 9) (v := .int b) (m := 1) (ykc_264 (e := (2, .iload_n kF1, 0)) rfl) rfl rfl ?_
    refine w_cs (as := [.int b]) (r := [.int (zpc a)]) (ykc_264 (e := (6, .invokestatic 265, 0)) rfl) rfl rfl rfl rfl (zj_pc) (fun v1344 ph1345 hv => ?_)
    obtain ⟨rfl, rfl⟩ := hv
    show zW n D 264 Q 12 [some (.int a), some (.int b)] [.int (zpc b), .int (zpc a)] ph
    refine w_ige (ykc_264 (e := (4, .if_icmp .ge 7, 19)) rfl) rfl (fun b1346 => ?_) (fun b1346 => ?_)
    · refine w_alu (pc' := 20) (st' := [.int (Int32.ofInt 0)]) (ykc_264 (e := (0, .iconst 0, 0)) rfl) rfl rfl ?_
      refine w_ret (v := (some (.int (Int32.ofInt 0)))) (ykc_264 (e := (7, .ireturn, 0)) rfl) zr_z ?_
      rw [hQ, zi0]
      exact ⟨rfl, zvB (by rw [decide_eq_false (show ¬ b.toInt < 0 by omega), Bool.false_or, decide_eq_false (by omega)])⟩
    · refine w_alu (pc' := 16) (st' := [.int (Int32.ofInt 1)]) (ykc_264 (e := (0, .iconst 1, 0)) rfl) rfl rfl ?_
      refine w_br (pc' := 20) (st' := [.int (Int32.ofInt 1)]) (ykc_264 (e := (4, .goto 4, 20)) rfl) rfl ?_
      refine w_ret (v := (some (.int (Int32.ofInt 1)))) (ykc_264 (e := (7, .ireturn, 0)) rfl) zr_z ?_
      rw [hQ, zi1]
      exact ⟨rfl, zvB (by rw [decide_eq_false (show ¬ b.toInt < 0 by omega), Bool.false_or, decide_eq_true (by omega)])⟩
theorem zm_watX {ph : pm_H} {E : zEn} {P G : Nat} {v : Nat → Nat} (hS : zSh ph) (hE : zMe ph E) (hN : zMp ph P G) (hv : zNr ph 174 0 v) (hO : zOk E.1 E.2.1 P G v) : zM 265 [.ref 170] ph (fun v0 _ => v0 = some (.int (zXwat E P v))) := by
  obtain ⟨Q, hQ⟩ : ∃ Q : Option Value → pm_H → Prop, Q = (fun v0 _ => v0 = some (.int (zXwat E P v))) := ⟨_, rfl⟩
  rw [← hQ]
  refine zM_mk fun n D => ?_
  show zW n D 265 Q 0 [some (.ref 170), none, none, none, none, none, none, none] [] ph
  have c_0 : (Int32.ofInt (-1)).toInt = -1 := by decide
  have c_1 : (Int32.ofInt 0).toInt = 0 := by decide
  have c_2 : (Int32.ofInt 1).toInt = 1 := by decide
  have hA : (174 : Nat) = 174 ∨ (174 : Nat) = 175 := Or.inl rfl
  obtain ⟨R, C, rk, sn, sk, cn, cd⟩ := E
  have hL0 : zMl ph R C rk := hE.1
  have hR0 : zMr ph sn sk cn cd := hE.2.1
  have hcg : zcg cn cd := hE.2.2
  have hE0 : zMe ph (R, C, rk, sn, sk, cn, cd) := hE
  have hO0 : zOk R C P G v := hO
  have hN0 := hN
  have hL := hL0
  have hR := hR0
  obtain ⟨gR, gC, gK, hR3, hR7, hC3, hC7⟩ := hL
  have hRC := zRC49 hR7 hC7
  have tR := znt (k := R) (by omega)
  have tC := znt (k := C) (by omega)
  obtain ⟨gP, hP8, gG, hG8⟩ := hN
  have tP := znt (k := P) (by omega)
  have tG := znt (k := G) (by omega)
  obtain ⟨gsn, hs1, hs20, gsk, gcn, hc40, gcd⟩ := hR
  have tsn := znt (k := sn) (by omega)
  have tcn := znt (k := cn) (by omega)
  refine w_load (pc' := 1) (v := .ref 170) (m := 1) (ykc_265 (e := (2, .aload_n kF0, 0)) rfl) rfl rfl ?_
  refine w_alu (pc' := 2) (st' := [.int (Int32.ofInt 0), .ref 170]) (ykc_265 (e := (0, .iconst 0, 0)) rfl) rfl rfl ?_
  refine w_pf (pc' := 5) (ykc_265 (e := (5, .putfield 3, 0)) rfl) rfl rfl (fun ph1348 u1347 => ?_)
  have f0 : zFr [] [(170, 0)] ph ph1348 := zFr_st u1347 (Or.inr (by simp))
  have hS1 := zSh_st u1347 (by decide +kernel) hS
  have hE1 : zMe ph1348 (R, C, rk, sn, sk, cn, cd) := ⟨zMl_F f0 (by simp) (by simp) (by simp) (by simp) hE0.1, zMr_F f0 (by simp) (by simp) (by simp) (by simp) hE0.2.1, hE0.2.2⟩
  have hN1 := zMp_F f0 (by simp) (by simp) (by simp) hN0
  have hv1 := zNr_F f0 (by simp) (by simp) hv
  have hL1 : zMl ph1348 R C rk := hE1.1
  have hR1 : zMr ph1348 sn sk cn cd := hE1.2.1
  have hP8 : P ≤ 8 := hN0.2.1
  obtain ⟨N, hN2⟩ : ∃ N, N = 2 ^ P := ⟨_, rfl⟩
  have hN256 : 1 ≤ N ∧ N ≤ 256 := by rw [hN2]; exact zp2 P hP8
  have tN := znt (k := N) (by omega)
  refine w_load (pc' := 6) (v := .ref 170) (m := 1) (ykc_265 (e := (2, .aload_n kF0, 0)) rfl) rfl rfl ?_
  refine w_load (pc' := 7) (v := .ref 170) (m := 1) (ykc_265 (e := (2, .aload_n kF0, 0)) rfl) rfl rfl ?_
  refine w_gf (pc' := 10) (v := .ref 174) (ykc_265 (e := (5, .getfield 41, 0)) rfl) rfl ((u1347.2.1 170 11 (fun q => absurd q.2 (by decide))).trans (zsg hS zs_170_11)) rfl ?_
  refine w_cv (as := [.ref 170, .ref 174]) (r := []) (ykc_265 (e := (6, .invokevirtual 417, 0)) rfl) rfl rfl rfl rfl (zm_all hS1 hE1 hN1 (⟨hA, hv1⟩ : ((174 : Nat) = 174 ∨ (174 : Nat) = 175) ∧ zNr ph1348 174 0 v).1 (⟨hA, hv1⟩ : ((174 : Nat) = 174 ∨ (174 : Nat) = 175) ∧ zNr ph1348 174 0 v).2 hO0) (fun v1350 ph1351 hv => ?_)
  obtain ⟨f1349, rfl⟩ := hv
  show zW n D 265 Q 13 [some (.ref 170), none, none, none, none, none, none, none] [.long (zAll (R, C, rk, sn, sk, cn, cd) P v)] ph1351
  refine w_store (pc' := 14) (L' := [some (.ref 170), some (.long (zAll (R, C, rk, sn, sk, cn, cd) P v)), none, none, none, none, none, none]) (st' := []) (m := 1) (ykc_265 (e := (3, .lstore_n kF1, 0)) rfl) rfl rfl ?_
  refine w_alu (pc' := 15) (st' := [.int (Int32.ofInt 0)]) (ykc_265 (e := (0, .iconst 0, 0)) rfl) rfl rfl ?_
  refine w_store (pc' := 16) (L' := [some (.ref 170), some (.long (zAll (R, C, rk, sn, sk, cn, cd) P v)), none, some (.int (Int32.ofInt 0)), none, none, none, none]) (st' := []) (m := 1) (ykc_265 (e := (3, .istore_n kF3, 0)) rfl) rfl rfl ?_
  have hS4 := (zSc_S f1349 hS1)
  have hE4 := (zSc_e f1349 hE1)
  have hN4 := (zSc_p f1349 hN1)
  have hv4 := (zSc_a f1349 (⟨hA, hv1⟩ : ((174 : Nat) = 174 ∨ (174 : Nat) = 175) ∧ zNr ph1348 174 0 v)).2
  have hl1 : ∀ (n : Nat), ∀ (k : Nat) (o4 o5 o6 o7 : Option Value) (ph1 : pm_H), (k ≤ P) → (zFr [181, 182, 189] [] ph1351 ph1) → (∀ i, i < k → zc ph1 189 i = some (.long ((zVw (R, C, rk, sn, sk, cn, cd) P v) i))) → zW n D 265 Q 16 [some (.ref 170), some (.long (zAll (R, C, rk, sn, sk, cn, cd) P v)), none, some (.int (zn k)), o4, o5, o6, o7] [] ph1 := by
    intro n
    induction n using Nat.strongRecOn with
    | ind n ih =>
      intro k o4 o5 o6 o7 ph1 hk hf1 hg
      have tk := znt (k := k) (by omega)
      have hS5 := zSh_F hf1 (by decide +kernel) hS4
      have hE5 : zMe ph1 (R, C, rk, sn, sk, cn, cd) := ⟨zMl_F hf1 (by simp) (by simp) (by simp) (by simp) hE4.1, zMr_F hf1 (by simp) (by simp) (by simp) (by simp) hE4.2.1, hE4.2.2⟩
      have hN5 := zMp_F hf1 (by simp) (by simp) (by simp) hN4
      have hv5 := zNr_F hf1 (by simp) (by simp) hv4
      refine w_load (pc' := 17) (v := .int (zn k)) (m := 1) (ykc_265 (e := (2, .iload_n kF3, 0)) rfl) rfl rfl ?_
      refine w_load (pc' := 18) (v := .ref 170) (m := 1) (ykc_265 (e := (2, .aload_n kF0, 0)) rfl) rfl rfl ?_
      refine w_gf (pc' := 21) (v := .int (zn P)) (ykc_265 (e := (5, .getfield 130, 0)) rfl) rfl ((hf1.1 170 5 (by decide) (by decide)).trans ((f1349.1 170 5 (by decide) (by decide)).trans ((u1347.2.1 170 5 (fun q => absurd q.2 (by decide))).trans gP))) rfl ?_
      refine w_ige (ykc_265 (e := (4, .if_icmp .ge 24, 45)) rfl) rfl (fun b1352 => ?_) (fun b1352 => ?_)
      · refine w_alu (pc' := 46) (st' := [.int (Int32.ofInt (-1))]) (ykc_265 (e := (0, .iconst (-1), 0)) rfl) rfl rfl ?_
        refine w_store (pc' := 47) (L' := [some (.ref 170), some (.long (zAll (R, C, rk, sn, sk, cn, cd) P v)), none, some (.int (Int32.ofInt (-1))), o4, o5, o6, o7]) (st' := []) (m := 1) (ykc_265 (e := (3, .istore_n kF3, 0)) rfl) rfl rfl ?_
        refine w_alu (pc' := 48) (st' := [.int (Int32.ofInt 0)]) (ykc_265 (e := (0, .iconst 0, 0)) rfl) rfl rfl ?_
        refine w_store (pc' := 50) (L' := [some (.ref 170), some (.long (zAll (R, C, rk, sn, sk, cn, cd) P v)), none, some (.int (Int32.ofInt (-1))), some (.int (Int32.ofInt 0)), o5, o6, o7]) (st' := []) (m := 2) (ykc_265 (e := (3, .istore 4, 0)) rfl) rfl rfl ?_
        have hl2 : ∀ (n3 : Nat), ∀ (j : Nat) (y : Int32) (o5 o6 o7 : Option Value), (j ≤ N) → ((y.toInt = -1 ∧ zWm (zOw (R, C, rk, sn, sk, cn, cd) P v) zpn j = 99) ∨ (∃ b, b < N ∧ y = zn b ∧ zpn b = zWm (zOw (R, C, rk, sn, sk, cn, cd) P v) zpn j ∧ zWm (zOw (R, C, rk, sn, sk, cn, cd) P v) zpn j ≤ 8)) → zW n3 D 265 Q 50 [some (.ref 170), some (.long (zAll (R, C, rk, sn, sk, cn, cd) P v)), none, some (.int y), some (.int (zn j)), o5, o6, o7] [] ph1 := by
          intro n3
          induction n3 using Nat.strongRecOn with
          | ind n3 ih =>
            intro j y o5 o6 o7 hj hb
            have tj := znt (k := j) (by omega)
            refine w_load (pc' := 52) (v := .int (zn j)) (m := 2) (ykc_265 (e := (2, .iload 4, 0)) rfl) rfl rfl ?_
            refine w_alu (pc' := 53) (st' := [.int (Int32.ofInt 1), .int (zn j)]) (ykc_265 (e := (0, .iconst 1, 0)) rfl) rfl rfl ?_
            refine w_load (pc' := 54) (v := .ref 170) (m := 1) (ykc_265 (e := (2, .aload_n kF0, 0)) rfl) rfl rfl ?_
            refine w_gf (pc' := 57) (v := .int (zn P)) (ykc_265 (e := (5, .getfield 130, 0)) rfl) rfl ((hf1.1 170 5 (by decide) (by decide)).trans ((f1349.1 170 5 (by decide) (by decide)).trans ((u1347.2.1 170 5 (fun q => absurd q.2 (by decide))).trans gP))) rfl ?_
            refine w_alu (pc' := 58) (st' := [.int (zn N), .int (zn j)]) (ykc_265 (e := (0, .ishl, 0)) rfl) (by show some ([.int ((Int32.ofInt 1) <<< ((zn P) &&& 31)), .int (zn j)] : List Value) = _; rw [(by rw [hN2]; exact zm3 P hP8 : (Int32.ofInt 1) <<< ((zn P) &&& 31) = zn N)]) rfl ?_
            refine w_ige (ykc_265 (e := (4, .if_icmp .ge 80, 138)) rfl) rfl (fun b1353 => ?_) (fun b1353 => ?_)
            · refine w_load (pc' := 139) (v := .ref 170) (m := 1) (ykc_265 (e := (2, .aload_n kF0, 0)) rfl) rfl rfl ?_
              refine w_alu (pc' := 140) (st' := [.int (Int32.ofInt 0), .ref 170]) (ykc_265 (e := (0, .iconst 0, 0)) rfl) rfl rfl ?_
              refine w_pf (pc' := 143) (ykc_265 (e := (5, .putfield 15, 0)) rfl) rfl rfl (fun ph1355 u1354 => ?_)
              have hS7 := zSh_st u1354 (by decide +kernel) hS5
              refine w_load (pc' := 144) (v := .ref 170) (m := 1) (ykc_265 (e := (2, .aload_n kF0, 0)) rfl) rfl rfl ?_
              refine w_load (pc' := 145) (v := .int y) (m := 1) (ykc_265 (e := (2, .iload_n kF3, 0)) rfl) rfl rfl ?_
              refine w_alu (pc' := 146) (st' := [.long y.toInt64, .ref 170]) (ykc_265 (e := (0, .i2l, 0)) rfl) rfl rfl ?_
              refine w_cv (as := [.ref 170, .long y.toInt64]) (r := []) (ykc_265 (e := (6, .invokevirtual 373, 0)) rfl) rfl rfl rfl rfl (zm_enter (k := 0) (x := y.toInt64) hS7 u1354.1 (by decide)) (fun v1356 ph1357 hv => ?_)
              obtain ⟨rfl, f8, h8t⟩ := hv
              show zW n3 D 265 Q 149 [some (.ref 170), some (.long (zAll (R, C, rk, sn, sk, cn, cd) P v)), none, some (.int y), some (.int (zn j)), o5, o6, o7] [] ph1357
              refine w_load (pc' := 150) (v := .int y) (m := 1) (ykc_265 (e := (2, .iload_n kF3, 0)) rfl) rfl rfl ?_
              refine w_cs (as := [.int y]) (r := []) (ykc_265 (e := (6, .invokestatic 265, 0)) rfl) rfl rfl rfl rfl (zj_pc) (fun v1358 ph1359 hv => ?_)
              obtain ⟨rfl, rfl⟩ := hv
              show zW n3 D 265 Q 153 [some (.ref 170), some (.long (zAll (R, C, rk, sn, sk, cn, cd) P v)), none, some (.int y), some (.int (zn j)), o5, o6, o7] [.int (zpc y)] ph1357
              refine w_ret (v := (some (.int (zpc y)))) (ykc_265 (e := (7, .ireturn, 0)) rfl) (zr_v rfl) ?_
              have ej : j = N := by omega
              subst ej
              rw [hQ]
              unfold zXwat
              rw [← hN2]
              rcases hb with ⟨e1, e2⟩ | ⟨b, e1, e2, e3, e4⟩
              · rw [if_pos e2, show y = Int32.ofInt (-1) from Int32.toInt_inj.mp (e1.trans (by decide))]
              · rw [if_neg (by omega), e2, (zpn_n b (by omega)).1, e3]
            · refine w_alu (pc' := 62) (st' := [.long (Int64.ofNat kG0)]) (ykc_265 (e := (0, .lconst kG0, 0)) rfl) rfl rfl ?_
              refine w_store (pc' := 64) (L' := [some (.ref 170), some (.long (zAll (R, C, rk, sn, sk, cn, cd) P v)), none, some (.int y), some (.int (zn j)), some (.long (Int64.ofNat kG0)), none, o7]) (st' := []) (m := 2) (ykc_265 (e := (3, .lstore 5, 0)) rfl) rfl rfl ?_
              refine w_alu (pc' := 65) (st' := [.int (Int32.ofInt 0)]) (ykc_265 (e := (0, .iconst 0, 0)) rfl) rfl rfl ?_
              refine w_store (pc' := 67) (L' := [some (.ref 170), some (.long (zAll (R, C, rk, sn, sk, cn, cd) P v)), none, some (.int y), some (.int (zn j)), some (.long (Int64.ofNat kG0)), none, some (.int (Int32.ofInt 0))]) (st' := []) (m := 2) (ykc_265 (e := (3, .istore 7, 0)) rfl) rfl rfl ?_
              have iho := ih
              have hl3 : ∀ (n4 : Nat), n4 ≤ n3 → ∀ (i : Nat), (i ≤ P) → zW n4 D 265 Q 67 [some (.ref 170), some (.long (zAll (R, C, rk, sn, sk, cn, cd) P v)), none, some (.int y), some (.int (zn j)), some (.long (zUm (zVw (R, C, rk, sn, sk, cn, cd) P v) j i)), none, some (.int (zn i))] [] ph1 := by
                intro n4
                induction n4 using Nat.strongRecOn with
                | ind n4 ih =>
                  intro hlim i hi
                  have ti := znt (k := i) (by omega)
                  refine w_load (pc' := 69) (v := .int (zn i)) (m := 2) (ykc_265 (e := (2, .iload 7, 0)) rfl) rfl rfl ?_
                  refine w_load (pc' := 70) (v := .ref 170) (m := 1) (ykc_265 (e := (2, .aload_n kF0, 0)) rfl) rfl rfl ?_
                  refine w_gf (pc' := 73) (v := .int (zn P)) (ykc_265 (e := (5, .getfield 130, 0)) rfl) rfl ((hf1.1 170 5 (by decide) (by decide)).trans ((f1349.1 170 5 (by decide) (by decide)).trans ((u1347.2.1 170 5 (fun q => absurd q.2 (by decide))).trans gP))) rfl ?_
                  refine w_ige (ykc_265 (e := (4, .if_icmp .ge 36, 109)) rfl) rfl (fun b1360 => ?_) (fun b1360 => ?_)
                  · refine w_load (pc' := 111) (v := .long (zUm (zVw (R, C, rk, sn, sk, cn, cd) P v) j i)) (m := 2) (ykc_265 (e := (2, .lload 5, 0)) rfl) rfl rfl ?_
                    refine w_load (pc' := 112) (v := .long (zAll (R, C, rk, sn, sk, cn, cd) P v)) (m := 1) (ykc_265 (e := (2, .lload_n kF1, 0)) rfl) rfl rfl ?_
                    refine w_alu (pc' := 113) (st' := [.int (lg_cmp (zUm (zVw (R, C, rk, sn, sk, cn, cd) P v) j i) (zAll (R, C, rk, sn, sk, cn, cd) P v))]) (ykc_265 (e := (0, .lcmp, 0)) rfl) rfl rfl ?_
                    refine w_zne (ykc_265 (e := (4, .ifCond .ne 17, 130)) rfl) rfl (fun b1361 => ?_) (fun b1361 => ?_)
                    · refine w_load (pc' := 131) (v := .int y) (m := 1) (ykc_265 (e := (2, .iload_n kF3, 0)) rfl) rfl rfl ?_
                      refine w_store (pc' := 132) (L' := [some (.ref 170), some (.long (zAll (R, C, rk, sn, sk, cn, cd) P v)), none, some (.int y), some (.int (zn j)), some (.long (zUm (zVw (R, C, rk, sn, sk, cn, cd) P v) j i)), none, some (.int (zn i))]) (st' := []) (m := 1) (ykc_265 (e := (3, .istore_n kF3, 0)) rfl) rfl rfl ?_
                      have e1362 : (zn j) + Int32.ofInt 1 = zn (j + 1) := (zaddN (a := j) (b := 1) (znt (by omega)) c_2 (by omega))
                      have te1362 := znt (k := j + 1) (by omega)
                      refine w_store (pc' := 135) (L' := [some (.ref 170), some (.long (zAll (R, C, rk, sn, sk, cn, cd) P v)), none, some (.int y), some (.int (zn (j + 1))), some (.long (zUm (zVw (R, C, rk, sn, sk, cn, cd) P v) j i)), none, some (.int (zn i))]) (st' := []) (m := 3) (ykc_265 (e := (3, .iinc 4 1, 0)) rfl) (by rw [← e1362]; rfl) rfl ?_
                      refine w_gb (ykc_265 (e := (4, .goto (-85), 50)) rfl) (fun k1363 hk1363 => ?_)
                      have ei : i = P := by omega
                      rw [ei] at b1361
                      have hw := zWm_f (c := zpn) (k := j) (Or.inl (zOw_f b1361))
                      rw [← hw] at hb
                      exact iho k1363 (by omega) (j + 1) y _ _ _ (by omega) hb
                    · refine w_load (pc' := 118) (v := .int (zn j)) (m := 2) (ykc_265 (e := (2, .iload 4, 0)) rfl) rfl rfl ?_
                      refine w_load (pc' := 119) (v := .int y) (m := 1) (ykc_265 (e := (2, .iload_n kF3, 0)) rfl) rfl rfl ?_
                      refine w_cs (as := [.int (zn j), .int y]) (r := []) (ykc_265 (e := (6, .invokestatic 421, 0)) rfl) rfl rfl rfl rfl (zm_fewer) (fun v1364 ph1365 hv => ?_)
                      obtain ⟨rfl, rfl⟩ := hv
                      show zW n4 D 265 Q 122 [some (.ref 170), some (.long (zAll (R, C, rk, sn, sk, cn, cd) P v)), none, some (.int y), some (.int (zn j)), some (.long (zUm (zVw (R, C, rk, sn, sk, cn, cd) P v) j i)), none, some (.int (zn i))] [.int (zI (decide (y.toInt < 0) || decide ((zpc (zn j)).toInt < (zpc y).toInt)))] ph1
                      refine w_beq (ykc_265 (e := (4, .ifCond .eq 8, 130)) rfl) rfl (fun b1366 => ?_) (fun b1366 => ?_)
                      · refine w_load (pc' := 131) (v := .int y) (m := 1) (ykc_265 (e := (2, .iload_n kF3, 0)) rfl) rfl rfl ?_
                        refine w_store (pc' := 132) (L' := [some (.ref 170), some (.long (zAll (R, C, rk, sn, sk, cn, cd) P v)), none, some (.int y), some (.int (zn j)), some (.long (zUm (zVw (R, C, rk, sn, sk, cn, cd) P v) j i)), none, some (.int (zn i))]) (st' := []) (m := 1) (ykc_265 (e := (3, .istore_n kF3, 0)) rfl) rfl rfl ?_
                        have e1367 : (zn j) + Int32.ofInt 1 = zn (j + 1) := (zaddN (a := j) (b := 1) (znt (by omega)) c_2 (by omega))
                        have te1367 := znt (k := j + 1) (by omega)
                        refine w_store (pc' := 135) (L' := [some (.ref 170), some (.long (zAll (R, C, rk, sn, sk, cn, cd) P v)), none, some (.int y), some (.int (zn (j + 1))), some (.long (zUm (zVw (R, C, rk, sn, sk, cn, cd) P v) j i)), none, some (.int (zn i))]) (st' := []) (m := 3) (ykc_265 (e := (3, .iinc 4 1, 0)) rfl) (by rw [← e1367]; rfl) rfl ?_
                        refine w_gb (ykc_265 (e := (4, .goto (-85), 50)) rfl) (fun k1368 hk1368 => ?_)
                        have ei : i = P := by omega
                        rw [ei] at b1361
                        have hok := zOw_t b1361
                        have hw : zWm (zOw (R, C, rk, sn, sk, cn, cd) P v) zpn (j + 1) = zWm (zOw (R, C, rk, sn, sk, cn, cd) P v) zpn j := zWm_f (Or.inr (fun q => by
                          have q0 := b1366
                          obtain ⟨q1, q2⟩ := Bool.or_eq_false_iff.mp q0
                          have q3 := of_decide_eq_false q1
                          have q4 := of_decide_eq_false q2
                          rcases hb with ⟨e1, e2⟩ | ⟨b, e1, e2, e3, e4⟩
                          · omega
                          · subst e2
                            rw [(zpn_n j (by omega)).1, (zpn_n b (by omega)).1, znt (by have := (zpn_n j (by omega)).2; omega), znt (by have := (zpn_n b (by omega)).2; omega)] at q4
                            omega))
                        rw [← hw] at hb
                        exact iho k1368 (by omega) (j + 1) y _ _ _ (by omega) hb
                      · refine w_load (pc' := 127) (v := .int (zn j)) (m := 2) (ykc_265 (e := (2, .iload 4, 0)) rfl) rfl rfl ?_
                        refine w_br (pc' := 131) (st' := [.int (zn j)]) (ykc_265 (e := (4, .goto 4, 131)) rfl) rfl ?_
                        refine w_store (pc' := 132) (L' := [some (.ref 170), some (.long (zAll (R, C, rk, sn, sk, cn, cd) P v)), none, some (.int (zn j)), some (.int (zn j)), some (.long (zUm (zVw (R, C, rk, sn, sk, cn, cd) P v) j i)), none, some (.int (zn i))]) (st' := []) (m := 1) (ykc_265 (e := (3, .istore_n kF3, 0)) rfl) rfl rfl ?_
                        have e1369 : (zn j) + Int32.ofInt 1 = zn (j + 1) := (zaddN (a := j) (b := 1) (znt (by omega)) c_2 (by omega))
                        have te1369 := znt (k := j + 1) (by omega)
                        refine w_store (pc' := 135) (L' := [some (.ref 170), some (.long (zAll (R, C, rk, sn, sk, cn, cd) P v)), none, some (.int (zn j)), some (.int (zn (j + 1))), some (.long (zUm (zVw (R, C, rk, sn, sk, cn, cd) P v) j i)), none, some (.int (zn i))]) (st' := []) (m := 3) (ykc_265 (e := (3, .iinc 4 1, 0)) rfl) (by rw [← e1369]; rfl) rfl ?_
                        refine w_gb (ykc_265 (e := (4, .goto (-85), 50)) rfl) (fun k1370 hk1370 => ?_)
                        have ei : i = P := by omega
                        rw [ei] at b1361
                        have hok := zOw_t b1361
                        have hlt : zpn j < zWm (zOw (R, C, rk, sn, sk, cn, cd) P v) zpn j := by
                          have q0 := b1366
                          have hj8 := (zpn_n j (by omega)).2
                          rcases hb with ⟨e1, e2⟩ | ⟨b, e1, e2, e3, e4⟩
                          · omega
                          · subst e2
                            have hb8 := (zpn_n b (by omega)).2
                            rw [decide_eq_false (show ¬ (zn b).toInt < 0 by rw [znt (by omega)]; omega), Bool.false_or] at q0
                            have q4 := of_decide_eq_true q0
                            rw [(zpn_n j (by omega)).1, (zpn_n b (by omega)).1, znt (by omega), znt (by omega)] at q4
                            omega
                        have hw := zWm_t (c := zpn) hok hlt
                        have hj8 := (zpn_n j (by omega)).2
                        exact iho k1370 (by omega) (j + 1) (zn j) _ _ _ (by omega) (Or.inr ⟨j, by omega, rfl, hw.symm, by omega⟩)
                  · refine w_load (pc' := 78) (v := .long (zUm (zVw (R, C, rk, sn, sk, cn, cd) P v) j i)) (m := 2) (ykc_265 (e := (2, .lload 5, 0)) rfl) rfl rfl ?_
                    refine w_load (pc' := 80) (v := .int (zn j)) (m := 2) (ykc_265 (e := (2, .iload 4, 0)) rfl) rfl rfl ?_
                    refine w_alu (pc' := 81) (st' := [.long ((zn j).toInt64), .long (zUm (zVw (R, C, rk, sn, sk, cn, cd) P v) j i)]) (ykc_265 (e := (0, .i2l, 0)) rfl) rfl rfl ?_
                    refine w_load (pc' := 83) (v := .int (zn i)) (m := 2) (ykc_265 (e := (2, .iload 7, 0)) rfl) rfl rfl ?_
                    refine w_cs (as := [.long ((zn j).toInt64), .int (zn i)]) (r := [.long (zUm (zVw (R, C, rk, sn, sk, cn, cd) P v) j i)]) (ykc_265 (e := (6, .invokestatic 304, 0)) rfl) rfl rfl rfl rfl (zm_has (kn := i) (by omega) (by omega)) (fun v1371 ph1372 hv => ?_)
                    obtain ⟨rfl, rfl⟩ := hv
                    show zW n4 D 265 Q 86 [some (.ref 170), some (.long (zAll (R, C, rk, sn, sk, cn, cd) P v)), none, some (.int y), some (.int (zn j)), some (.long (zUm (zVw (R, C, rk, sn, sk, cn, cd) P v) j i)), none, some (.int (zn i))] [.int (zI (zb ((zn j).toInt64) i)), .long (zUm (zVw (R, C, rk, sn, sk, cn, cd) P v) j i)] ph1
                    refine w_beq (ykc_265 (e := (4, .ifCond .eq 13, 99)) rfl) rfl (fun b1373 => ?_) (fun b1373 => ?_)
                    · refine w_alu (pc' := 100) (st' := [.long (Int64.ofNat kG0), .long (zUm (zVw (R, C, rk, sn, sk, cn, cd) P v) j i)]) (ykc_265 (e := (0, .lconst kG0, 0)) rfl) rfl rfl ?_
                      refine w_alu (pc' := 101) (st' := [.long ((zUm (zVw (R, C, rk, sn, sk, cn, cd) P v) j i) ||| (Int64.ofNat kG0))]) (ykc_265 (e := (0, .lor, 0)) rfl) rfl rfl ?_
                      refine w_store (pc' := 103) (L' := [some (.ref 170), some (.long (zAll (R, C, rk, sn, sk, cn, cd) P v)), none, some (.int y), some (.int (zn j)), some (.long ((zUm (zVw (R, C, rk, sn, sk, cn, cd) P v) j i) ||| (Int64.ofNat kG0))), none, some (.int (zn i))]) (st' := []) (m := 2) (ykc_265 (e := (3, .lstore 5, 0)) rfl) rfl rfl ?_
                      have e1374 : (zn i) + Int32.ofInt 1 = zn (i + 1) := (zaddN (a := i) (b := 1) (znt (by omega)) c_2 (by omega))
                      have te1374 := znt (k := i + 1) (by omega)
                      refine w_store (pc' := 106) (L' := [some (.ref 170), some (.long (zAll (R, C, rk, sn, sk, cn, cd) P v)), none, some (.int y), some (.int (zn j)), some (.long ((zUm (zVw (R, C, rk, sn, sk, cn, cd) P v) j i) ||| (Int64.ofNat kG0))), none, some (.int (zn (i + 1)))]) (st' := []) (m := 3) (ykc_265 (e := (3, .iinc 7 1, 0)) rfl) (by rw [← e1374]; rfl) rfl ?_
                      refine w_gb (ykc_265 (e := (4, .goto (-39), 67)) rfl) (fun k1375 hk1375 => ?_)
                      have hbt : j.testBit i = false := (zbt j (by omega) i (by omega)).symm.trans b1373
                      have et : zUm (zVw (R, C, rk, sn, sk, cn, cd) P v) j (i + 1) = (zUm (zVw (R, C, rk, sn, sk, cn, cd) P v) j i) ||| (Int64.ofNat kG0) := by
                        show (bif j.testBit i then zUm (zVw (R, C, rk, sn, sk, cn, cd) P v) j i ||| zVw (R, C, rk, sn, sk, cn, cd) P v i else zUm (zVw (R, C, rk, sn, sk, cn, cd) P v) j i) = _
                        rw [hbt]
                        exact zorW.symm
                      have h9 := ih k1375 hk1375 (by omega) (i + 1) (by omega)
                      rw [et] at h9
                      exact h9
                    · refine w_load (pc' := 90) (v := .ref 170) (m := 1) (ykc_265 (e := (2, .aload_n kF0, 0)) rfl) rfl rfl ?_
                      refine w_gf (pc' := 93) (v := .ref 189) (ykc_265 (e := (5, .getfield 86, 0)) rfl) rfl ((hf1.1 170 35 (by decide) (by decide)).trans ((f1349.1 170 35 (by decide) (by decide)).trans ((u1347.2.1 170 35 (fun q => absurd q.2 (by decide))).trans (zsg hS zs_170_35)))) rfl ?_
                      refine w_load (pc' := 95) (v := .int (zn i)) (m := 2) (ykc_265 (e := (2, .iload 7, 0)) rfl) rfl rfl ?_
                      refine w_lalk (pc' := 96) (k := i) (ykc_265 (e := (5, .laload, 0)) rfl) (hg i (by omega)) (by omega) rfl ?_
                      refine w_br (pc' := 100) (st' := [.long ((zVw (R, C, rk, sn, sk, cn, cd) P v) i), .long (zUm (zVw (R, C, rk, sn, sk, cn, cd) P v) j i)]) (ykc_265 (e := (4, .goto 4, 100)) rfl) rfl ?_
                      refine w_alu (pc' := 101) (st' := [.long ((zUm (zVw (R, C, rk, sn, sk, cn, cd) P v) j i) ||| ((zVw (R, C, rk, sn, sk, cn, cd) P v) i))]) (ykc_265 (e := (0, .lor, 0)) rfl) rfl rfl ?_
                      refine w_store (pc' := 103) (L' := [some (.ref 170), some (.long (zAll (R, C, rk, sn, sk, cn, cd) P v)), none, some (.int y), some (.int (zn j)), some (.long ((zUm (zVw (R, C, rk, sn, sk, cn, cd) P v) j i) ||| ((zVw (R, C, rk, sn, sk, cn, cd) P v) i))), none, some (.int (zn i))]) (st' := []) (m := 2) (ykc_265 (e := (3, .lstore 5, 0)) rfl) rfl rfl ?_
                      have e1376 : (zn i) + Int32.ofInt 1 = zn (i + 1) := (zaddN (a := i) (b := 1) (znt (by omega)) c_2 (by omega))
                      have te1376 := znt (k := i + 1) (by omega)
                      refine w_store (pc' := 106) (L' := [some (.ref 170), some (.long (zAll (R, C, rk, sn, sk, cn, cd) P v)), none, some (.int y), some (.int (zn j)), some (.long ((zUm (zVw (R, C, rk, sn, sk, cn, cd) P v) j i) ||| ((zVw (R, C, rk, sn, sk, cn, cd) P v) i))), none, some (.int (zn (i + 1)))]) (st' := []) (m := 3) (ykc_265 (e := (3, .iinc 7 1, 0)) rfl) (by rw [← e1376]; rfl) rfl ?_
                      refine w_gb (ykc_265 (e := (4, .goto (-39), 67)) rfl) (fun k1377 hk1377 => ?_)
                      have hbt : j.testBit i = true := (zbt j (by omega) i (by omega)).symm.trans b1373
                      have et : zUm (zVw (R, C, rk, sn, sk, cn, cd) P v) j (i + 1) = (zUm (zVw (R, C, rk, sn, sk, cn, cd) P v) j i) ||| ((zVw (R, C, rk, sn, sk, cn, cd) P v) i) := by
                        show (bif j.testBit i then zUm (zVw (R, C, rk, sn, sk, cn, cd) P v) j i ||| zVw (R, C, rk, sn, sk, cn, cd) P v i else zUm (zVw (R, C, rk, sn, sk, cn, cd) P v) j i) = _
                        rw [hbt]
                        rfl
                      have h9 := ih k1377 hk1377 (by omega) (i + 1) (by omega)
                      rw [et] at h9
                      exact h9
              exact hl3 n3 (Nat.le_refl _) 0 (Nat.zero_le _)
        exact hl2 n 0 _ _ _ _ (Nat.zero_le _) (Or.inl ⟨by decide, rfl⟩)
      · refine w_load (pc' := 25) (v := .ref 170) (m := 1) (ykc_265 (e := (2, .aload_n kF0, 0)) rfl) rfl rfl ?_
        refine w_gf (pc' := 28) (v := .ref 189) (ykc_265 (e := (5, .getfield 86, 0)) rfl) rfl ((hf1.1 170 35 (by decide) (by decide)).trans ((f1349.1 170 35 (by decide) (by decide)).trans ((u1347.2.1 170 35 (fun q => absurd q.2 (by decide))).trans (zsg hS zs_170_35)))) rfl ?_
        refine w_load (pc' := 29) (v := .int (zn k)) (m := 1) (ykc_265 (e := (2, .iload_n kF3, 0)) rfl) rfl rfl ?_
        refine w_load (pc' := 30) (v := .ref 170) (m := 1) (ykc_265 (e := (2, .aload_n kF0, 0)) rfl) rfl rfl ?_
        refine w_load (pc' := 31) (v := .ref 170) (m := 1) (ykc_265 (e := (2, .aload_n kF0, 0)) rfl) rfl rfl ?_
        refine w_gf (pc' := 34) (v := .ref 174) (ykc_265 (e := (5, .getfield 41, 0)) rfl) rfl ((hf1.1 170 11 (by decide) (by decide)).trans ((f1349.1 170 11 (by decide) (by decide)).trans ((u1347.2.1 170 11 (fun q => absurd q.2 (by decide))).trans (zsg hS zs_170_11)))) rfl ?_
        refine w_load (pc' := 35) (v := .int (zn k)) (m := 1) (ykc_265 (e := (2, .iload_n kF3, 0)) rfl) rfl rfl ?_
        refine w_cv (as := [.ref 170, .ref 174, .int (zn k)]) (r := [.int (zn k), .ref 189]) (ykc_265 (e := (6, .invokevirtual 300, 0)) rfl) rfl rfl rfl rfl (zm_seen hS5 hE5 hN5 hA hv5 hO0 (p := k) (by omega)) (fun v1378 ph1379 hv => ?_)
        obtain ⟨f2, rfl⟩ := hv
        have f3 : zFr [181, 182, 189] [] ph1351 ph1379 := zFr_trans hf1 (zFr_mono f2 (by simp) (by simp))
        show zW n D 265 Q 38 [some (.ref 170), some (.long (zAll (R, C, rk, sn, sk, cn, cd) P v)), none, some (.int (zn k)), o4, o5, o6, o7] [.long ((zVw (R, C, rk, sn, sk, cn, cd) P v) k), .int (zn k), .ref 189] ph1379
        refine w_las (pc' := 39) (k := k) (ykc_265 (e := (5, .lastore, 0)) rfl) (by omega) rfl (fun ph1381 u1380 => ?_)
        have e1382 : (zn k) + Int32.ofInt 1 = zn (k + 1) := (zaddN (a := k) (b := 1) (znt (by omega)) c_2 (by omega))
        have te1382 := znt (k := k + 1) (by omega)
        refine w_store (pc' := 42) (L' := [some (.ref 170), some (.long (zAll (R, C, rk, sn, sk, cn, cd) P v)), none, some (.int (zn (k + 1))), o4, o5, o6, o7]) (st' := []) (m := 3) (ykc_265 (e := (3, .iinc 3 1, 0)) rfl) (by rw [← e1382]; rfl) rfl ?_
        refine w_gb (ykc_265 (e := (4, .goto (-26), 16)) rfl) (fun k1383 hk1383 => ?_)
        exact ih k1383 hk1383 (k + 1) _ _ _ _ _ (by omega) (zFr_add f3 u1380 (Or.inl (by simp))) (fun i hi => by
          by_cases e : i = k
          · subst e; exact u1380.1
          · exact (u1380.2.1 189 i (fun q => e q.2)).trans ((f2.1 189 i (by simp) (by simp)).trans (hg i (by omega))))
  exact hl1 n 0 _ _ _ _ _ (Nat.zero_le _) zFr_refl (fun i hi => absurd hi (Nat.not_lt_zero i))

/-! person, thing: what they answer, by W; printed by wip/z/z4a_thr.py -/
def zXper (E : zEn) (P G : Nat) (v : Nat → Nat) (p : Nat) : Nat → Int32
  | 0 => zn (v p)
  | 1 => zn (v (8 + p))
  | 2 => zn (v (16 + p))
  | 3 => zn (v (24 + p))
  | 4 => zn (zRe E P v p (v (16 + p)))
  | _ => zTon G v (zVw E P v p)
def zXthg (E : zEn) (P : Nat) (v : Nat → Nat) (t : Nat) : Nat → Int32
  | 0 => zn (v (32 + t))
  | 1 => zT (fun p => zb (zn (v (24 + p))).toInt64 t) P
  | _ => zWho E P v (v (32 + t))
theorem zkb0 : ∀ m, m < 256 → ∀ t, t < 8 → ((zn m >>> ((zn t) &&& 31)) &&& Int32.ofInt 1) = (bif zb (zn m).toInt64 t then Int32.ofInt 1 else Int32.ofInt 0) := by decide +kernel
theorem zsh00 : ∀ k, k < 8 → (Int32.ofInt 0) <<< ((zn k) &&& 31) = Int32.ofInt 0 := by decide +kernel
theorem zXkn_e {v : Nat → Nat} {t n : Nat} (hn : n ≤ 8) (ht : t < 8) (h : ∀ q, q < n → v (24 + q) < 256) : zXkn v t n = zT (fun p => zb (zn (v (24 + p))).toInt64 t) n := by
  induction n with
  | zero => rfl
  | succ k ih =>
    show zXkn v t k ||| ((((zn (v (24 + k))) >>> ((zn t) &&& 31)) &&& (Int32.ofInt 1)) <<< ((zn k) &&& 31)) = zT (fun p => zb (zn (v (24 + p))).toInt64 t) k ||| (bif zb (zn (v (24 + k))).toInt64 t then Int32.ofInt 1 <<< (zn k &&& 31) else Int32.ofInt 0)
    rw [ih (by omega) (fun q hq => h q (by omega)), zkb0 _ (h k (by omega)) t ht]
    cases zb (zn (v (24 + k))).toInt64 t with
    | false => rw [cond_false, cond_false, zsh00 k (by omega)]
    | true => rfl
theorem zc_perX {ph : pm_H} {E : zEn} {F P G : Nat} {v : Nat → Nat} (hS : zSh ph) (hE : zCe ph E F) (ht : zCt ph 25 P G v) (hO : zOk E.1 E.2.1 P G v) (hr : zc ph 10 1 = some (.ref F)) (hc : zCc ph E.1 E.2.1 E.2.2.1) {p y : Nat} (hp : p < P) (hy : y < 6) : zM 129 [.ref 0, .int (zn p), .int (zn y)] ph (fun v0 _ => v0 = some (.int (zXper E P G v p y))) := by
  obtain ⟨Q, hQ⟩ : ∃ Q : Option Value → pm_H → Prop, Q = (fun v0 _ => v0 = some (.int (zXper E P G v p y))) := ⟨_, rfl⟩
  rw [← hQ]
  refine zM_mk fun n D => ?_
  show zW n D 129 Q 0 [some (.ref 0), some (.int (zn p)), some (.int (zn y))] [] ph
  obtain ⟨R, C, rk, sn, sk, cn, cd⟩ := E
  have hL0 : zCl ph R C rk := hE.1
  have hi0 : zCi ph sn sk := hE.2.1
  have hF : F = 11 ∨ F = 16 := hE.2.2.2
  have hE0 : zCe ph (R, C, rk, sn, sk, cn, cd) F := hE
  have hO0 : zOk R C P G v := hO
  have hL := hL0
  have hs := ht.1.2
  have hd := ht.2
  have h25 := ht.1.1
  obtain ⟨gR, gC, gN, gK, gA, hR3, hR7, hC3, hC7⟩ := hL
  have hRC := zRC49 hR7 hC7
  have tR := znt (k := R) (by omega)
  have tC := znt (k := C) (by omega)
  have tRC := znt (k := R * C) (by omega)
  have hd0 := hd
  have hs0 := hs
  obtain ⟨r3, r4, r5, r6, r7, l1, l2, l3, l4, l5⟩ := hs
  obtain ⟨gP, hP8, gG, hG8, gH, gv, gw⟩ := hd
  have tP := znt (k := P) (by omega)
  have tG := znt (k := G) (by omega)
  have h40 := hO0.2.2
  have t40 := znt (k := v 40) (by omega)
  have hc0 := hc
  have tp := znt (k := p) (by omega)
  have ty := znt (k := y) (by omega)
  have op := hO0.1 p hp
  refine w_load (pc' := 1) (v := .ref 0) (m := 1) (ykc_129 (e := (2, .aload_n kF0, 0)) rfl) rfl rfl ?_
  refine w_gf (pc' := 4) (v := .ref 25) (ykc_129 (e := (5, .getfield 42, 0)) rfl) rfl (zsg hS zs_0_4) rfl ?_
  refine w_load (pc' := 5) (v := .int (zn p)) (m := 1) (ykc_129 (e := (2, .iload_n kF1, 0)) rfl) rfl rfl ?_
  refine w_cv (as := [.ref 25, .int (zn p)]) (r := []) (ykc_129 (e := (6, .invokevirtual 167, 0)) rfl) rfl rfl rfl rfl (zc_hasP ht.1.2 ht.2 (i := (zn p))) (fun v1215 ph1216 hv => ?_)
  obtain ⟨rfl, rfl⟩ := hv
  show zW n D 129 Q 8 [some (.ref 0), some (.int (zn p)), some (.int (zn y))] [.int (zI (decide (0 ≤ (zn p).toInt ∧ (zn p).toInt < ((P : Nat) : Int))))] ph
  refine w_bne (ykc_129 (e := (4, .ifCond .ne 11, 19)) rfl) rfl (fun b1217 => ?_) (fun q => by have := of_decide_eq_false q; omega)
  refine w_load (pc' := 20) (v := .int (zn y)) (m := 1) (ykc_129 (e := (2, .iload_n kF2, 0)) rfl) rfl rfl ?_
  rcases (show y = 0 ∨ y = 1 ∨ y = 2 ∨ y = 3 ∨ y = 4 ∨ y = 5 by omega) with rfl | rfl | rfl | rfl | rfl | rfl
  · show zW n D 129 Q 20 [some (.ref 0), some (.int (zn p)), some (.int (zn 0))] [.int (zn 0)] ph
    refine w_br (pc' := 60) (st' := []) (ykc_129 (e := (4, .tableswitch 113 0 5 #[40, 50, 60, 70, 80, 93], 40)) rfl) (by decide +kernel) ?_
    refine w_load (pc' := 61) (v := .ref 0) (m := 1) (ykc_129 (e := (2, .aload_n kF0, 0)) rfl) rfl rfl ?_
    refine w_gf (pc' := 64) (v := .ref 25) (ykc_129 (e := (5, .getfield 42, 0)) rfl) rfl (zsg hS zs_0_4) rfl ?_
    refine w_gf (pc' := 67) (v := .ref (25 + 1)) (ykc_129 (e := (5, .getfield 173, 0)) rfl) rfl r3 rfl ?_
    refine w_load (pc' := 68) (v := .int (zn p)) (m := 1) (ykc_129 (e := (2, .iload_n kF1, 0)) rfl) rfl rfl ?_
    have q1218 := hO0.1 p (by omega)
    have tq1218 := znt (k := v p) (by omega)
    refine w_ialk (pc' := 69) (k := p) (ykc_129 (e := (5, .iaload, 0)) rfl) (gv p (by omega)).1 (by omega) rfl ?_
    refine w_ret (v := (some (.int (zn (v p))))) (ykc_129 (e := (7, .ireturn, 0)) rfl) (zr_v rfl) ?_
    rw [hQ]
    exact rfl
  · show zW n D 129 Q 20 [some (.ref 0), some (.int (zn p)), some (.int (zn 1))] [.int (zn 1)] ph
    refine w_br (pc' := 70) (st' := []) (ykc_129 (e := (4, .tableswitch 113 0 5 #[40, 50, 60, 70, 80, 93], 40)) rfl) (by decide +kernel) ?_
    refine w_load (pc' := 71) (v := .ref 0) (m := 1) (ykc_129 (e := (2, .aload_n kF0, 0)) rfl) rfl rfl ?_
    refine w_gf (pc' := 74) (v := .ref 25) (ykc_129 (e := (5, .getfield 42, 0)) rfl) rfl (zsg hS zs_0_4) rfl ?_
    refine w_gf (pc' := 77) (v := .ref (25 + 2)) (ykc_129 (e := (5, .getfield 177, 0)) rfl) rfl r4 rfl ?_
    refine w_load (pc' := 78) (v := .int (zn p)) (m := 1) (ykc_129 (e := (2, .iload_n kF1, 0)) rfl) rfl rfl ?_
    have q1219 := hO0.1 p (by omega)
    have tq1219 := znt (k := v (8 + p)) (by omega)
    refine w_ialk (pc' := 79) (k := p) (ykc_129 (e := (5, .iaload, 0)) rfl) (gv p (by omega)).2.1 (by omega) rfl ?_
    refine w_ret (v := (some (.int (zn (v (8 + p)))))) (ykc_129 (e := (7, .ireturn, 0)) rfl) (zr_v rfl) ?_
    rw [hQ]
    exact rfl
  · show zW n D 129 Q 20 [some (.ref 0), some (.int (zn p)), some (.int (zn 2))] [.int (zn 2)] ph
    refine w_br (pc' := 80) (st' := []) (ykc_129 (e := (4, .tableswitch 113 0 5 #[40, 50, 60, 70, 80, 93], 40)) rfl) (by decide +kernel) ?_
    refine w_load (pc' := 81) (v := .ref 0) (m := 1) (ykc_129 (e := (2, .aload_n kF0, 0)) rfl) rfl rfl ?_
    refine w_gf (pc' := 84) (v := .ref 25) (ykc_129 (e := (5, .getfield 42, 0)) rfl) rfl (zsg hS zs_0_4) rfl ?_
    refine w_gf (pc' := 87) (v := .ref (25 + 3)) (ykc_129 (e := (5, .getfield 180, 0)) rfl) rfl r5 rfl ?_
    refine w_load (pc' := 88) (v := .int (zn p)) (m := 1) (ykc_129 (e := (2, .iload_n kF1, 0)) rfl) rfl rfl ?_
    have q1220 := hO0.1 p (by omega)
    have tq1220 := znt (k := v (16 + p)) (by omega)
    refine w_ialk (pc' := 89) (k := p) (ykc_129 (e := (5, .iaload, 0)) rfl) (gv p (by omega)).2.2.1 (by omega) rfl ?_
    refine w_ret (v := (some (.int (zn (v (16 + p)))))) (ykc_129 (e := (7, .ireturn, 0)) rfl) (zr_v rfl) ?_
    rw [hQ]
    exact rfl
  · show zW n D 129 Q 20 [some (.ref 0), some (.int (zn p)), some (.int (zn 3))] [.int (zn 3)] ph
    refine w_br (pc' := 90) (st' := []) (ykc_129 (e := (4, .tableswitch 113 0 5 #[40, 50, 60, 70, 80, 93], 40)) rfl) (by decide +kernel) ?_
    refine w_load (pc' := 91) (v := .ref 0) (m := 1) (ykc_129 (e := (2, .aload_n kF0, 0)) rfl) rfl rfl ?_
    refine w_gf (pc' := 94) (v := .ref 25) (ykc_129 (e := (5, .getfield 42, 0)) rfl) rfl (zsg hS zs_0_4) rfl ?_
    refine w_gf (pc' := 97) (v := .ref (25 + 4)) (ykc_129 (e := (5, .getfield 183, 0)) rfl) rfl r6 rfl ?_
    refine w_load (pc' := 98) (v := .int (zn p)) (m := 1) (ykc_129 (e := (2, .iload_n kF1, 0)) rfl) rfl rfl ?_
    have q1221 := hO0.1 p (by omega)
    have tq1221 := znt (k := v (24 + p)) (by omega)
    refine w_ialk (pc' := 99) (k := p) (ykc_129 (e := (5, .iaload, 0)) rfl) (gv p (by omega)).2.2.2 (by omega) rfl ?_
    refine w_ret (v := (some (.int (zn (v (24 + p)))))) (ykc_129 (e := (7, .ireturn, 0)) rfl) (zr_v rfl) ?_
    rw [hQ]
    exact rfl
  · show zW n D 129 Q 20 [some (.ref 0), some (.int (zn p)), some (.int (zn 4))] [.int (zn 4)] ph
    refine w_br (pc' := 100) (st' := []) (ykc_129 (e := (4, .tableswitch 113 0 5 #[40, 50, 60, 70, 80, 93], 40)) rfl) (by decide +kernel) ?_
    refine w_load (pc' := 101) (v := .ref 0) (m := 1) (ykc_129 (e := (2, .aload_n kF0, 0)) rfl) rfl rfl ?_
    refine w_gf (pc' := 104) (v := .ref 10) (ykc_129 (e := (5, .getfield 35, 0)) rfl) rfl (zsg hS zs_0_3) rfl ?_
    refine w_load (pc' := 105) (v := .ref 0) (m := 1) (ykc_129 (e := (2, .aload_n kF0, 0)) rfl) rfl rfl ?_
    refine w_gf (pc' := 108) (v := .ref 25) (ykc_129 (e := (5, .getfield 42, 0)) rfl) rfl (zsg hS zs_0_4) rfl ?_
    refine w_load (pc' := 109) (v := .int (zn p)) (m := 1) (ykc_129 (e := (2, .iload_n kF1, 0)) rfl) rfl rfl ?_
    refine w_cv (as := [.ref 10, .ref 25, .int (zn p)]) (r := []) (ykc_129 (e := (6, .invokevirtual 186, 0)) rfl) rfl rfl rfl rfl (zc_reachP hS hE0 ht hO0 hr (p := p) (by omega)) (fun v1223 ph1224 hv => ?_)
    obtain ⟨f1222, rfl⟩ := hv
    show zW n D 129 Q 112 [some (.ref 0), some (.int (zn p)), some (.int (zn 4))] [.int (zn (zRe (R, C, rk, sn, sk, cn, cd) P v p (v (16 + p))))] ph1224
    refine w_ret (v := (some (.int (zn (zRe (R, C, rk, sn, sk, cn, cd) P v p (v (16 + p))))))) (ykc_129 (e := (7, .ireturn, 0)) rfl) (zr_v rfl) ?_
    rw [hQ]
    exact rfl
  · show zW n D 129 Q 20 [some (.ref 0), some (.int (zn p)), some (.int (zn 5))] [.int (zn 5)] ph
    refine w_br (pc' := 113) (st' := []) (ykc_129 (e := (4, .tableswitch 113 0 5 #[40, 50, 60, 70, 80, 93], 40)) rfl) (by decide +kernel) ?_
    refine w_load (pc' := 114) (v := .ref 0) (m := 1) (ykc_129 (e := (2, .aload_n kF0, 0)) rfl) rfl rfl ?_
    refine w_gf (pc' := 117) (v := .ref 25) (ykc_129 (e := (5, .getfield 42, 0)) rfl) rfl (zsg hS zs_0_4) rfl ?_
    refine w_load (pc' := 118) (v := .ref 0) (m := 1) (ykc_129 (e := (2, .aload_n kF0, 0)) rfl) rfl rfl ?_
    refine w_gf (pc' := 121) (v := .ref 10) (ykc_129 (e := (5, .getfield 35, 0)) rfl) rfl (zsg hS zs_0_3) rfl ?_
    refine w_load (pc' := 122) (v := .ref 0) (m := 1) (ykc_129 (e := (2, .aload_n kF0, 0)) rfl) rfl rfl ?_
    refine w_gf (pc' := 125) (v := .ref 25) (ykc_129 (e := (5, .getfield 42, 0)) rfl) rfl (zsg hS zs_0_4) rfl ?_
    refine w_load (pc' := 126) (v := .int (zn p)) (m := 1) (ykc_129 (e := (2, .iload_n kF1, 0)) rfl) rfl rfl ?_
    refine w_cv (as := [.ref 10, .ref 25, .int (zn p)]) (r := [.ref 25]) (ykc_129 (e := (6, .invokevirtual 190, 0)) rfl) rfl rfl rfl rfl (zc_viewOf hS hE0 ht hO0 hr hc0 (p := p) (by omega)) (fun v1227 ph1228 hv => ?_)
    obtain ⟨f1225, hc1226, rfl⟩ := hv
    show zW n D 129 Q 129 [some (.ref 0), some (.int (zn p)), some (.int (zn 5))] [.long (zVw (R, C, rk, sn, sk, cn, cd) P v p), .ref 25] ph1228
    refine w_cv (as := [.ref 25, .long (zVw (R, C, rk, sn, sk, cn, cd) P v p)]) (r := []) (ykc_129 (e := (6, .invokevirtual 194, 0)) rfl) rfl rfl rfl rfl (zc_ton (zCx_t f1225 ht).1.2 (zCx_t f1225 ht).2 (x := zVw (R, C, rk, sn, sk, cn, cd) P v p) (fun i hi => by have := hO0.2.1 i hi; omega)) (fun v1229 ph1230 hv => ?_)
    obtain ⟨rfl, rfl⟩ := hv
    show zW n D 129 Q 132 [some (.ref 0), some (.int (zn p)), some (.int (zn 5))] [.int (zTon G v (zVw (R, C, rk, sn, sk, cn, cd) P v p))] ph1228
    refine w_ret (v := (some (.int (zTon G v (zVw (R, C, rk, sn, sk, cn, cd) P v p))))) (ykc_129 (e := (7, .ireturn, 0)) rfl) (zr_v rfl) ?_
    rw [hQ]
    exact rfl
  
theorem zc_thgX {ph : pm_H} {E : zEn} {F P G : Nat} {v : Nat → Nat} (hS : zSh ph) (hE : zCe ph E F) (ht : zCt ph 25 P G v) (hO : zOk E.1 E.2.1 P G v) (hr : zc ph 10 1 = some (.ref F)) (hc : zCc ph E.1 E.2.1 E.2.2.1) {p y : Nat} (hp : p < G) (hy : y < 3) : zM 130 [.ref 0, .int (zn p), .int (zn y)] ph (fun v0 _ => v0 = some (.int (zXthg E P v p y))) := by
  obtain ⟨Q, hQ⟩ : ∃ Q : Option Value → pm_H → Prop, Q = (fun v0 _ => v0 = some (.int (zXthg E P v p y))) := ⟨_, rfl⟩
  rw [← hQ]
  refine zM_mk fun n D => ?_
  show zW n D 130 Q 0 [some (.ref 0), some (.int (zn p)), some (.int (zn y))] [] ph
  obtain ⟨R, C, rk, sn, sk, cn, cd⟩ := E
  have hL0 : zCl ph R C rk := hE.1
  have hi0 : zCi ph sn sk := hE.2.1
  have hF : F = 11 ∨ F = 16 := hE.2.2.2
  have hE0 : zCe ph (R, C, rk, sn, sk, cn, cd) F := hE
  have hO0 : zOk R C P G v := hO
  have hL := hL0
  have hs := ht.1.2
  have hd := ht.2
  have h25 := ht.1.1
  obtain ⟨gR, gC, gN, gK, gA, hR3, hR7, hC3, hC7⟩ := hL
  have hRC := zRC49 hR7 hC7
  have tR := znt (k := R) (by omega)
  have tC := znt (k := C) (by omega)
  have tRC := znt (k := R * C) (by omega)
  have hd0 := hd
  have hs0 := hs
  obtain ⟨r3, r4, r5, r6, r7, l1, l2, l3, l4, l5⟩ := hs
  obtain ⟨gP, hP8, gG, hG8, gH, gv, gw⟩ := hd
  have tP := znt (k := P) (by omega)
  have tG := znt (k := G) (by omega)
  have h40 := hO0.2.2
  have t40 := znt (k := v 40) (by omega)
  have hc0 := hc
  have tp := znt (k := p) (by omega)
  have ty := znt (k := y) (by omega)
  have op := hO0.2.1 p hp
  have hP8 : P ≤ 8 := hd0.2.1
  refine w_load (pc' := 1) (v := .ref 0) (m := 1) (ykc_130 (e := (2, .aload_n kF0, 0)) rfl) rfl rfl ?_
  refine w_gf (pc' := 4) (v := .ref 25) (ykc_130 (e := (5, .getfield 42, 0)) rfl) rfl (zsg hS zs_0_4) rfl ?_
  refine w_load (pc' := 5) (v := .int (zn p)) (m := 1) (ykc_130 (e := (2, .iload_n kF1, 0)) rfl) rfl rfl ?_
  refine w_cv (as := [.ref 25, .int (zn p)]) (r := []) (ykc_130 (e := (6, .invokevirtual 198, 0)) rfl) rfl rfl rfl rfl (zc_hasT ht.1.2 ht.2 (i := (zn p))) (fun v1231 ph1232 hv => ?_)
  obtain ⟨rfl, rfl⟩ := hv
  show zW n D 130 Q 8 [some (.ref 0), some (.int (zn p)), some (.int (zn y))] [.int (zI (decide (0 ≤ (zn p).toInt ∧ (zn p).toInt < ((G : Nat) : Int))))] ph
  refine w_bne (ykc_130 (e := (4, .ifCond .ne 11, 19)) rfl) rfl (fun b1233 => ?_) (fun q => by have := of_decide_eq_false q; omega)
  refine w_load (pc' := 20) (v := .int (zn y)) (m := 1) (ykc_130 (e := (2, .iload_n kF2, 0)) rfl) rfl rfl ?_
  rcases (show y = 0 ∨ y = 1 ∨ y = 2 by omega) with rfl | rfl | rfl
  · show zW n D 130 Q 20 [some (.ref 0), some (.int (zn p)), some (.int (zn 0))] [.int (zn 0)] ph
    refine w_br (pc' := 48) (st' := []) (ykc_130 (e := (4, .tableswitch 80 0 2 #[28, 38, 47], 28)) rfl) (by decide +kernel) ?_
    refine w_load (pc' := 49) (v := .ref 0) (m := 1) (ykc_130 (e := (2, .aload_n kF0, 0)) rfl) rfl rfl ?_
    refine w_gf (pc' := 52) (v := .ref 25) (ykc_130 (e := (5, .getfield 42, 0)) rfl) rfl (zsg hS zs_0_4) rfl ?_
    refine w_gf (pc' := 55) (v := .ref (25 + 5)) (ykc_130 (e := (5, .getfield 201, 0)) rfl) rfl r7 rfl ?_
    refine w_load (pc' := 56) (v := .int (zn p)) (m := 1) (ykc_130 (e := (2, .iload_n kF1, 0)) rfl) rfl rfl ?_
    have q1234 := hO0.2.1 p (by omega)
    have tq1234 := znt (k := v (32 + p)) (by omega)
    refine w_ialk (pc' := 57) (k := p) (ykc_130 (e := (5, .iaload, 0)) rfl) (gw p (by omega)) (by omega) rfl ?_
    refine w_ret (v := (some (.int (zn (v (32 + p)))))) (ykc_130 (e := (7, .ireturn, 0)) rfl) (zr_v rfl) ?_
    rw [hQ]
    exact rfl
  · show zW n D 130 Q 20 [some (.ref 0), some (.int (zn p)), some (.int (zn 1))] [.int (zn 1)] ph
    refine w_br (pc' := 58) (st' := []) (ykc_130 (e := (4, .tableswitch 80 0 2 #[28, 38, 47], 28)) rfl) (by decide +kernel) ?_
    refine w_load (pc' := 59) (v := .ref 0) (m := 1) (ykc_130 (e := (2, .aload_n kF0, 0)) rfl) rfl rfl ?_
    refine w_gf (pc' := 62) (v := .ref 25) (ykc_130 (e := (5, .getfield 42, 0)) rfl) rfl (zsg hS zs_0_4) rfl ?_
    refine w_load (pc' := 63) (v := .int (zn p)) (m := 1) (ykc_130 (e := (2, .iload_n kF1, 0)) rfl) rfl rfl ?_
    refine w_cv (as := [.ref 25, .int (zn p)]) (r := []) (ykc_130 (e := (6, .invokevirtual 204, 0)) rfl) rfl rfl rfl rfl (zc_knw ht.1.2 hd0 (t := p) (by omega)) (fun v1235 ph1236 hv => ?_)
    obtain ⟨rfl, rfl⟩ := hv
    show zW n D 130 Q 66 [some (.ref 0), some (.int (zn p)), some (.int (zn 1))] [.int (zXkn v p P)] ph
    refine w_ret (v := (some (.int (zXkn v p P)))) (ykc_130 (e := (7, .ireturn, 0)) rfl) (zr_v rfl) ?_
    rw [hQ, zXkn_e (v := v) (t := p) (n := P) hP8 (by omega) (fun q hq => (hO0.1 q hq).2.2.2)]
    exact rfl
  · show zW n D 130 Q 20 [some (.ref 0), some (.int (zn p)), some (.int (zn 2))] [.int (zn 2)] ph
    refine w_br (pc' := 67) (st' := []) (ykc_130 (e := (4, .tableswitch 80 0 2 #[28, 38, 47], 28)) rfl) (by decide +kernel) ?_
    refine w_load (pc' := 68) (v := .ref 0) (m := 1) (ykc_130 (e := (2, .aload_n kF0, 0)) rfl) rfl rfl ?_
    refine w_gf (pc' := 71) (v := .ref 10) (ykc_130 (e := (5, .getfield 35, 0)) rfl) rfl (zsg hS zs_0_3) rfl ?_
    refine w_load (pc' := 72) (v := .ref 0) (m := 1) (ykc_130 (e := (2, .aload_n kF0, 0)) rfl) rfl rfl ?_
    refine w_gf (pc' := 75) (v := .ref 25) (ykc_130 (e := (5, .getfield 42, 0)) rfl) rfl (zsg hS zs_0_4) rfl ?_
    refine w_cv (as := [.ref 10, .ref 25]) (r := []) (ykc_130 (e := (6, .invokevirtual 208, 0)) rfl) rfl rfl rfl rfl (zc_lookR hS hE0 ht hO0 hr hc0) (fun v1239 ph1240 hv => ?_)
    obtain ⟨f1237, hc1238, hvw, rfl⟩ := hv
    show zW n D 130 Q 78 [some (.ref 0), some (.int (zn p)), some (.int (zn 2))] [.long (zAll (R, C, rk, sn, sk, cn, cd) P v)] ph1240
    refine w_alu (pc' := 79) (st' := []) (ykc_130 (e := (0, .pop2, 0)) rfl) rfl rfl ?_
    refine w_load (pc' := 80) (v := .ref 0) (m := 1) (ykc_130 (e := (2, .aload_n kF0, 0)) rfl) rfl rfl ?_
    refine w_gf (pc' := 83) (v := .ref 10) (ykc_130 (e := (5, .getfield 35, 0)) rfl) rfl ((f1237.1 0 3 (by decide) (by decide)).trans (zsg hS zs_0_3)) rfl ?_
    refine w_load (pc' := 84) (v := .ref 0) (m := 1) (ykc_130 (e := (2, .aload_n kF0, 0)) rfl) rfl rfl ?_
    refine w_gf (pc' := 87) (v := .ref 25) (ykc_130 (e := (5, .getfield 42, 0)) rfl) rfl ((f1237.1 0 4 (by decide) (by decide)).trans (zsg hS zs_0_4)) rfl ?_
    refine w_load (pc' := 88) (v := .ref 0) (m := 1) (ykc_130 (e := (2, .aload_n kF0, 0)) rfl) rfl rfl ?_
    refine w_gf (pc' := 91) (v := .ref 25) (ykc_130 (e := (5, .getfield 42, 0)) rfl) rfl ((f1237.1 0 4 (by decide) (by decide)).trans (zsg hS zs_0_4)) rfl ?_
    refine w_gf (pc' := 94) (v := .ref (25 + 5)) (ykc_130 (e := (5, .getfield 201, 0)) rfl) rfl ((f1237.1 25 7 (by decide) (by decide)).trans r7) rfl ?_
    refine w_load (pc' := 95) (v := .int (zn p)) (m := 1) (ykc_130 (e := (2, .iload_n kF1, 0)) rfl) rfl rfl ?_
    have q1241 := hO0.2.1 p (by omega)
    have tq1241 := znt (k := v (32 + p)) (by omega)
    refine w_ialk (pc' := 96) (k := p) (ykc_130 (e := (5, .iaload, 0)) rfl) ((f1237.1 (25 + 5) p (by simp <;> omega) (by simp <;> omega)).trans (gw p (by omega))) (by omega) rfl ?_
    refine w_cv (as := [.ref 10, .ref 25, .int (zn (v (32 + p)))]) (r := []) (ykc_130 (e := (6, .invokevirtual 212, 0)) rfl) rfl rfl rfl rfl (zc_seers (zCx_S f1237 hS) (zCx_e f1237 hE0) (zCx_t f1237 ht) hO0 hvw (g := v (32 + p)) (show v (32 + p) < R * C by omega)) (fun v1242 ph1243 hv => ?_)
    obtain ⟨rfl, rfl⟩ := hv
    show zW n D 130 Q 99 [some (.ref 0), some (.int (zn p)), some (.int (zn 2))] [.int (zWho (R, C, rk, sn, sk, cn, cd) P v (v (32 + p)))] ph1240
    refine w_ret (v := (some (.int (zWho (R, C, rk, sn, sk, cn, cd) P v (v (32 + p)))))) (ykc_130 (e := (7, .ireturn, 0)) rfl) (zr_v rfl) ?_
    rw [hQ]
    exact rfl
  
theorem zm_refuse {ph : pm_H} : zM 181 [.ref 170] ph (fun v0 q => zFr [] [(170, 0)] ph q ∧ zc q 170 0 = some (.int (Int32.ofInt 1)) ∧ v0 = some (.int (Int32.ofInt 0))) := by
  obtain ⟨Q, hQ⟩ : ∃ Q : Option Value → pm_H → Prop, Q = (fun v0 q => zFr [] [(170, 0)] ph q ∧ zc q 170 0 = some (.int (Int32.ofInt 1)) ∧ v0 = some (.int (Int32.ofInt 0))) := ⟨_, rfl⟩
  rw [← hQ]
  refine zM_mk fun n D => ?_
  show zW n D 181 Q 0 [some (.ref 170)] [] ph
  have c_0 : (Int32.ofInt 0).toInt = 0 := by decide
  have c_1 : (Int32.ofInt 1).toInt = 1 := by decide
  refine w_load (pc' := 1) (v := .ref 170) (m := 1) (ykc_181 (e := (2, .aload_n kF0, 0)) rfl) rfl rfl ?_
  refine w_alu (pc' := 2) (st' := [.int (Int32.ofInt 1), .ref 170]) (ykc_181 (e := (0, .iconst 1, 0)) rfl) rfl rfl ?_
  refine w_pf (pc' := 5) (ykc_181 (e := (5, .putfield 3, 0)) rfl) rfl rfl (fun ph1245 u1244 => ?_)
  refine w_alu (pc' := 6) (st' := [.int (Int32.ofInt 0)]) (ykc_181 (e := (0, .iconst 0, 0)) rfl) rfl rfl ?_
  refine w_ret (v := (some (.int (Int32.ofInt 0)))) (ykc_181 (e := (7, .ireturn, 0)) rfl) (zr_v rfl) ?_
  rw [hQ]
  exact ⟨zFr_st u1244 (Or.inr (by simp)), u1244.1, rfl⟩
theorem zm_perX {ph : pm_H} {E : zEn} {P G : Nat} {v : Nat → Nat} (hS : zSh ph) (hE : zMe ph E) (hN : zMp ph P G) (hv : zNr ph 174 0 v) (hO : zOk E.1 E.2.1 P G v) {x y : Int32} : zM 235 [.ref 170, .int x, .int y] ph (fun v0 q => zc q 201 0 = zc ph 201 0 ∧ ((((0 ≤ x.toInt ∧ x.toInt < (P : Int)) ∧ 0 ≤ y.toInt ∧ y.toInt ≤ 5) ∧ zc q 170 0 = some (.int (Int32.ofInt 0)) ∧ v0 = some (.int (zXper E P G v (x.toInt.toNat) (y.toInt.toNat)))) ∨ (¬ ((0 ≤ x.toInt ∧ x.toInt < (P : Int)) ∧ 0 ≤ y.toInt ∧ y.toInt ≤ 5) ∧ zc q 170 0 = some (.int (Int32.ofInt 1))))) := by
  obtain ⟨Q, hQ⟩ : ∃ Q : Option Value → pm_H → Prop, Q = (fun v0 q => zc q 201 0 = zc ph 201 0 ∧ ((((0 ≤ x.toInt ∧ x.toInt < (P : Int)) ∧ 0 ≤ y.toInt ∧ y.toInt ≤ 5) ∧ zc q 170 0 = some (.int (Int32.ofInt 0)) ∧ v0 = some (.int (zXper E P G v (x.toInt.toNat) (y.toInt.toNat)))) ∨ (¬ ((0 ≤ x.toInt ∧ x.toInt < (P : Int)) ∧ 0 ≤ y.toInt ∧ y.toInt ≤ 5) ∧ zc q 170 0 = some (.int (Int32.ofInt 1))))) := ⟨_, rfl⟩
  rw [← hQ]
  refine zM_mk fun n D => ?_
  show zW n D 235 Q 0 [some (.ref 170), some (.int x), some (.int y)] [] ph
  have c_0 : ((Int8.ofInt 16).toInt32).toInt = 16 := by decide
  have c_1 : ((Int8.ofInt 24).toInt32).toInt = 24 := by decide
  have c_2 : ((Int8.ofInt 8).toInt32).toInt = 8 := by decide
  have c_3 : (Int32.ofInt 0).toInt = 0 := by decide
  have hA : (174 : Nat) = 174 ∨ (174 : Nat) = 175 := Or.inl rfl
  obtain ⟨R, C, rk, sn, sk, cn, cd⟩ := E
  have hL0 : zMl ph R C rk := hE.1
  have hR0 : zMr ph sn sk cn cd := hE.2.1
  have hcg : zcg cn cd := hE.2.2
  have hE0 : zMe ph (R, C, rk, sn, sk, cn, cd) := hE
  have hO0 : zOk R C P G v := hO
  have hN0 := hN
  have hL := hL0
  have hR := hR0
  obtain ⟨gR, gC, gK, hR3, hR7, hC3, hC7⟩ := hL
  have hRC := zRC49 hR7 hC7
  have tR := znt (k := R) (by omega)
  have tC := znt (k := C) (by omega)
  obtain ⟨gP, hP8, gG, hG8⟩ := hN
  have tP := znt (k := P) (by omega)
  have tG := znt (k := G) (by omega)
  obtain ⟨gsn, hs1, hs20, gsk, gcn, hc40, gcd⟩ := hR
  have tsn := znt (k := sn) (by omega)
  have tcn := znt (k := cn) (by omega)
  refine w_load (pc' := 1) (v := .ref 170) (m := 1) (ykc_235 (e := (2, .aload_n kF0, 0)) rfl) rfl rfl ?_
  refine w_alu (pc' := 2) (st' := [.int (Int32.ofInt 0), .ref 170]) (ykc_235 (e := (0, .iconst 0, 0)) rfl) rfl rfl ?_
  refine w_pf (pc' := 5) (ykc_235 (e := (5, .putfield 3, 0)) rfl) rfl rfl (fun ph1247 u1246 => ?_)
  have f0 : zFr [] [(170, 0)] ph ph1247 := zFr_st u1246 (Or.inr (by simp))
  have hS1 := zSh_st u1246 (by decide +kernel) hS
  have hE1 : zMe ph1247 (R, C, rk, sn, sk, cn, cd) := ⟨zMl_F f0 (by simp) (by simp) (by simp) (by simp) hE0.1, zMr_F f0 (by simp) (by simp) (by simp) (by simp) hE0.2.1, hE0.2.2⟩
  have hN1 := zMp_F f0 (by simp) (by simp) (by simp) hN0
  have hv1 := zNr_F f0 (by simp) (by simp) hv
  have hL1 : zMl ph1247 R C rk := hE1.1
  have hR1 : zMr ph1247 sn sk cn cd := hE1.2.1
  have hP8 : P ≤ 8 := hN0.2.1
  have hG8 : G ≤ 8 := hN0.2.2.2
  refine w_load (pc' := 6) (v := .ref 170) (m := 1) (ykc_235 (e := (2, .aload_n kF0, 0)) rfl) rfl rfl ?_
  refine w_load (pc' := 7) (v := .int x) (m := 1) (ykc_235 (e := (2, .iload_n kF1, 0)) rfl) rfl rfl ?_
  refine w_cv (as := [.ref 170, .int x]) (r := []) (ykc_235 (e := (6, .invokevirtual 315, 0)) rfl) rfl rfl rfl rfl (zm_isPerson hN1 (p := x)) (fun v1248 ph1249 hv => ?_)
  obtain ⟨rfl, rfl⟩ := hv
  show zW n D 235 Q 10 [some (.ref 170), some (.int x), some (.int y)] [.int (zI (decide (0 ≤ x.toInt ∧ x.toInt < ((P : Nat) : Int))))] ph1247
  refine w_beq (ykc_235 (e := (4, .ifCond .eq 15, 25)) rfl) rfl (fun b1250 => ?_) (fun b1250 => ?_)
  · refine w_load (pc' := 26) (v := .ref 170) (m := 1) (ykc_235 (e := (2, .aload_n kF0, 0)) rfl) rfl rfl ?_
    refine w_cv (as := [.ref 170]) (r := []) (ykc_235 (e := (6, .invokevirtual 320, 0)) rfl) rfl rfl rfl rfl (zm_refuse) (fun v1252 ph1253 hv => ?_)
    obtain ⟨u1251, u1251_t, rfl⟩ := hv
    show zW n D 235 Q 29 [some (.ref 170), some (.int x), some (.int y)] [.int (Int32.ofInt 0)] ph1253
    refine w_ret (v := (some (.int (Int32.ofInt 0)))) (ykc_235 (e := (7, .ireturn, 0)) rfl) (zr_v rfl) ?_
    rw [hQ]
    exact ⟨((u1251.1 201 0 (by decide) (by decide)).trans ((u1246.2.1 201 0 (fun q => absurd q.1 (by decide))).trans rfl)), Or.inr ⟨fun q => absurd q.1 (of_decide_eq_false b1250), u1251_t⟩⟩
  · refine w_load (pc' := 14) (v := .int y) (m := 1) (ykc_235 (e := (2, .iload_n kF2, 0)) rfl) rfl rfl ?_
    refine w_alu (pc' := 15) (st' := [.long y.toInt64]) (ykc_235 (e := (0, .i2l, 0)) rfl) rfl rfl ?_
    refine w_alu (pc' := 16) (st' := [.long (Int64.ofNat kG0), .long y.toInt64]) (ykc_235 (e := (0, .lconst kG0, 0)) rfl) rfl rfl ?_
    refine w_push (pc' := 19) (v := .long (5 : Int64)) (m := 3) (ykc_235 (e := (1, .ldc2_w 318, 0)) rfl) rfl rfl ?_
    refine w_cs (as := [.long y.toInt64, .long (Int64.ofNat kG0), .long (5 : Int64)]) (r := []) (ykc_235 (e := (6, .invokestatic 126, 0)) rfl) rfl rfl rfl rfl (zm_in (x := y.toInt) (y := (0 : Int)) (z := (5 : Int)) (by first | exact ztl | (rw [ztl]; omega) | decide | omega) (by first | exact ztl | (rw [ztl]; omega) | decide | omega) (by first | exact ztl | (rw [ztl]; omega) | decide | omega)) (fun v1254 ph1255 hv => ?_)
    obtain ⟨rfl, rfl⟩ := hv
    show zW n D 235 Q 22 [some (.ref 170), some (.int x), some (.int y)] [.int (zI (decide ((0 : Int) ≤ y.toInt ∧ y.toInt ≤ (5 : Int))))] ph1247
    refine w_bne (ykc_235 (e := (4, .ifCond .ne 8, 30)) rfl) rfl (fun b1256 => ?_) (fun b1256 => ?_)
    · have b_1 := of_decide_eq_true b1250
      have b_2 := of_decide_eq_true b1256
      obtain ⟨p, h_p, rfl⟩ : ∃ p : Nat, p < P ∧ x = zn p := ⟨x.toInt.toNat, by omega, zn_of (by omega)⟩
      obtain ⟨y, h_y, rfl⟩ : ∃ k : Nat, k < 6 ∧ y = zn k := ⟨y.toInt.toNat, by omega, zn_of (by omega)⟩
      have tp := znt (k := p) (by omega)
      have ty := znt (k := y) (by omega)
      have op := hO0.1 p h_p
      have exn : (zn p).toInt.toNat = p := by omega
      have eyn : (zn y).toInt.toNat = y := by omega
      rw [exn, eyn] at hQ
      show zW n D 235 Q 30 [some (.ref 170), some (.int (zn p)), some (.int (zn y))] [] ph1247
      refine w_load (pc' := 31) (v := .int (zn y)) (m := 1) (ykc_235 (e := (2, .iload_n kF2, 0)) rfl) rfl rfl ?_
      rcases (show y = 0 ∨ y = 1 ∨ y = 2 ∨ y = 3 ∨ y = 4 ∨ y = 5 by omega) with rfl | rfl | rfl | rfl | rfl | rfl
      · show zW n D 235 Q 31 [some (.ref 170), some (.int (zn p)), some (.int (zn 0))] [.int (zn 0)] ph1247
        refine w_br (pc' := 64) (st' := []) (ykc_235 (e := (4, .tableswitch 89 0 4 #[33, 40, 50, 60, 70], 33)) rfl) (by decide +kernel) ?_
        refine w_load (pc' := 65) (v := .ref 170) (m := 1) (ykc_235 (e := (2, .aload_n kF0, 0)) rfl) rfl rfl ?_
        refine w_gf (pc' := 68) (v := .ref 174) (ykc_235 (e := (5, .getfield 41, 0)) rfl) rfl ((u1246.2.1 170 11 (fun q => absurd q.2 (by decide))).trans (zsg hS zs_170_11)) rfl ?_
        refine w_load (pc' := 69) (v := .int (zn p)) (m := 1) (ykc_235 (e := (2, .iload_n kF1, 0)) rfl) rfl rfl ?_
        have q1257 := hO0.1 p (by omega)
        have tq1257 := znt (k := v p) (by omega)
        refine w_ialk (pc' := 70) (k := p) (ykc_235 (e := (5, .iaload, 0)) rfl) ((u1246.2.1 174 p (fun q => absurd q.1 (by decide))).trans (zNr0 hv (i := p) (by omega))) (by omega) rfl ?_
        refine w_ret (v := (some (.int (zn (v p))))) (ykc_235 (e := (7, .ireturn, 0)) rfl) (zr_v rfl) ?_
        rw [hQ]
        exact ⟨((u1246.2.1 201 0 (fun q => absurd q.1 (by decide))).trans rfl), Or.inl ⟨⟨b_1, b_2⟩, u1246.1, rfl⟩⟩
      · show zW n D 235 Q 31 [some (.ref 170), some (.int (zn p)), some (.int (zn 1))] [.int (zn 1)] ph1247
        refine w_br (pc' := 71) (st' := []) (ykc_235 (e := (4, .tableswitch 89 0 4 #[33, 40, 50, 60, 70], 33)) rfl) (by decide +kernel) ?_
        refine w_load (pc' := 72) (v := .ref 170) (m := 1) (ykc_235 (e := (2, .aload_n kF0, 0)) rfl) rfl rfl ?_
        refine w_gf (pc' := 75) (v := .ref 174) (ykc_235 (e := (5, .getfield 41, 0)) rfl) rfl ((u1246.2.1 170 11 (fun q => absurd q.2 (by decide))).trans (zsg hS zs_170_11)) rfl ?_
        refine w_push (pc' := 77) (v := .int ((Int8.ofInt 8).toInt32)) (m := 2) (ykc_235 (e := (1, .bipush 8, 0)) rfl) rfl rfl ?_
        refine w_load (pc' := 78) (v := .int (zn p)) (m := 1) (ykc_235 (e := (2, .iload_n kF1, 0)) rfl) rfl rfl ?_
        have e1258 : ((Int8.ofInt 8).toInt32) + (zn p) = zn (8 + p) := (zaddN (a := 8) (b := p) c_2 (znt (by omega)) (by omega)) 
        have te1258 := znt (k := 8 + p) (by omega)
        refine w_alu (pc' := 79) (st' := [.int (zn (8 + p)), .ref 174]) (ykc_235 (e := (0, .iadd, 0)) rfl) (by rw [← e1258]; rfl) rfl ?_
        have q1259 := hO0.1 p (by omega)
        have tq1259 := znt (k := v (8 + p)) (by omega)
        refine w_ialk (pc' := 80) (k := 8 + p) (ykc_235 (e := (5, .iaload, 0)) rfl) ((u1246.2.1 174 (8 + p) (fun q => absurd q.1 (by decide))).trans (zNr0 hv (i := 8 + p) (by omega))) (by omega) rfl ?_
        refine w_ret (v := (some (.int (zn (v (8 + p)))))) (ykc_235 (e := (7, .ireturn, 0)) rfl) (zr_v rfl) ?_
        rw [hQ]
        exact ⟨((u1246.2.1 201 0 (fun q => absurd q.1 (by decide))).trans rfl), Or.inl ⟨⟨b_1, b_2⟩, u1246.1, rfl⟩⟩
      · show zW n D 235 Q 31 [some (.ref 170), some (.int (zn p)), some (.int (zn 2))] [.int (zn 2)] ph1247
        refine w_br (pc' := 81) (st' := []) (ykc_235 (e := (4, .tableswitch 89 0 4 #[33, 40, 50, 60, 70], 33)) rfl) (by decide +kernel) ?_
        refine w_load (pc' := 82) (v := .ref 170) (m := 1) (ykc_235 (e := (2, .aload_n kF0, 0)) rfl) rfl rfl ?_
        refine w_gf (pc' := 85) (v := .ref 174) (ykc_235 (e := (5, .getfield 41, 0)) rfl) rfl ((u1246.2.1 170 11 (fun q => absurd q.2 (by decide))).trans (zsg hS zs_170_11)) rfl ?_
        refine w_push (pc' := 87) (v := .int ((Int8.ofInt 16).toInt32)) (m := 2) (ykc_235 (e := (1, .bipush 16, 0)) rfl) rfl rfl ?_
        refine w_load (pc' := 88) (v := .int (zn p)) (m := 1) (ykc_235 (e := (2, .iload_n kF1, 0)) rfl) rfl rfl ?_
        have e1260 : ((Int8.ofInt 16).toInt32) + (zn p) = zn (16 + p) := (zaddN (a := 16) (b := p) c_0 (znt (by omega)) (by omega)) 
        have te1260 := znt (k := 16 + p) (by omega)
        refine w_alu (pc' := 89) (st' := [.int (zn (16 + p)), .ref 174]) (ykc_235 (e := (0, .iadd, 0)) rfl) (by rw [← e1260]; rfl) rfl ?_
        have q1261 := hO0.1 p (by omega)
        have tq1261 := znt (k := v (16 + p)) (by omega)
        refine w_ialk (pc' := 90) (k := 16 + p) (ykc_235 (e := (5, .iaload, 0)) rfl) ((u1246.2.1 174 (16 + p) (fun q => absurd q.1 (by decide))).trans (zNr0 hv (i := 16 + p) (by omega))) (by omega) rfl ?_
        refine w_ret (v := (some (.int (zn (v (16 + p)))))) (ykc_235 (e := (7, .ireturn, 0)) rfl) (zr_v rfl) ?_
        rw [hQ]
        exact ⟨((u1246.2.1 201 0 (fun q => absurd q.1 (by decide))).trans rfl), Or.inl ⟨⟨b_1, b_2⟩, u1246.1, rfl⟩⟩
      · show zW n D 235 Q 31 [some (.ref 170), some (.int (zn p)), some (.int (zn 3))] [.int (zn 3)] ph1247
        refine w_br (pc' := 91) (st' := []) (ykc_235 (e := (4, .tableswitch 89 0 4 #[33, 40, 50, 60, 70], 33)) rfl) (by decide +kernel) ?_
        refine w_load (pc' := 92) (v := .ref 170) (m := 1) (ykc_235 (e := (2, .aload_n kF0, 0)) rfl) rfl rfl ?_
        refine w_gf (pc' := 95) (v := .ref 174) (ykc_235 (e := (5, .getfield 41, 0)) rfl) rfl ((u1246.2.1 170 11 (fun q => absurd q.2 (by decide))).trans (zsg hS zs_170_11)) rfl ?_
        refine w_push (pc' := 97) (v := .int ((Int8.ofInt 24).toInt32)) (m := 2) (ykc_235 (e := (1, .bipush 24, 0)) rfl) rfl rfl ?_
        refine w_load (pc' := 98) (v := .int (zn p)) (m := 1) (ykc_235 (e := (2, .iload_n kF1, 0)) rfl) rfl rfl ?_
        have e1262 : ((Int8.ofInt 24).toInt32) + (zn p) = zn (24 + p) := (zaddN (a := 24) (b := p) c_1 (znt (by omega)) (by omega)) 
        have te1262 := znt (k := 24 + p) (by omega)
        refine w_alu (pc' := 99) (st' := [.int (zn (24 + p)), .ref 174]) (ykc_235 (e := (0, .iadd, 0)) rfl) (by rw [← e1262]; rfl) rfl ?_
        have q1263 := hO0.1 p (by omega)
        have tq1263 := znt (k := v (24 + p)) (by omega)
        refine w_ialk (pc' := 100) (k := 24 + p) (ykc_235 (e := (5, .iaload, 0)) rfl) ((u1246.2.1 174 (24 + p) (fun q => absurd q.1 (by decide))).trans (zNr0 hv (i := 24 + p) (by omega))) (by omega) rfl ?_
        refine w_ret (v := (some (.int (zn (v (24 + p)))))) (ykc_235 (e := (7, .ireturn, 0)) rfl) (zr_v rfl) ?_
        rw [hQ]
        exact ⟨((u1246.2.1 201 0 (fun q => absurd q.1 (by decide))).trans rfl), Or.inl ⟨⟨b_1, b_2⟩, u1246.1, rfl⟩⟩
      · show zW n D 235 Q 31 [some (.ref 170), some (.int (zn p)), some (.int (zn 4))] [.int (zn 4)] ph1247
        refine w_br (pc' := 101) (st' := []) (ykc_235 (e := (4, .tableswitch 89 0 4 #[33, 40, 50, 60, 70], 33)) rfl) (by decide +kernel) ?_
        refine w_load (pc' := 102) (v := .ref 170) (m := 1) (ykc_235 (e := (2, .aload_n kF0, 0)) rfl) rfl rfl ?_
        refine w_load (pc' := 103) (v := .ref 170) (m := 1) (ykc_235 (e := (2, .aload_n kF0, 0)) rfl) rfl rfl ?_
        refine w_gf (pc' := 106) (v := .ref 174) (ykc_235 (e := (5, .getfield 41, 0)) rfl) rfl ((u1246.2.1 170 11 (fun q => absurd q.2 (by decide))).trans (zsg hS zs_170_11)) rfl ?_
        refine w_load (pc' := 107) (v := .int (zn p)) (m := 1) (ykc_235 (e := (2, .iload_n kF1, 0)) rfl) rfl rfl ?_
        refine w_load (pc' := 108) (v := .ref 170) (m := 1) (ykc_235 (e := (2, .aload_n kF0, 0)) rfl) rfl rfl ?_
        refine w_gf (pc' := 111) (v := .ref 174) (ykc_235 (e := (5, .getfield 41, 0)) rfl) rfl ((u1246.2.1 170 11 (fun q => absurd q.2 (by decide))).trans (zsg hS zs_170_11)) rfl ?_
        refine w_push (pc' := 113) (v := .int ((Int8.ofInt 16).toInt32)) (m := 2) (ykc_235 (e := (1, .bipush 16, 0)) rfl) rfl rfl ?_
        refine w_load (pc' := 114) (v := .int (zn p)) (m := 1) (ykc_235 (e := (2, .iload_n kF1, 0)) rfl) rfl rfl ?_
        have e1264 : ((Int8.ofInt 16).toInt32) + (zn p) = zn (16 + p) := (zaddN (a := 16) (b := p) c_0 (znt (by omega)) (by omega)) 
        have te1264 := znt (k := 16 + p) (by omega)
        refine w_alu (pc' := 115) (st' := [.int (zn (16 + p)), .ref 174, .int (zn p), .ref 174, .ref 170]) (ykc_235 (e := (0, .iadd, 0)) rfl) (by rw [← e1264]; rfl) rfl ?_
        have q1265 := hO0.1 p (by omega)
        have tq1265 := znt (k := v (16 + p)) (by omega)
        refine w_ialk (pc' := 116) (k := 16 + p) (ykc_235 (e := (5, .iaload, 0)) rfl) ((u1246.2.1 174 (16 + p) (fun q => absurd q.1 (by decide))).trans (zNr0 hv (i := 16 + p) (by omega))) (by omega) rfl ?_
        refine w_cv (as := [.ref 170, .ref 174, .int (zn p), .int (zn (v (16 + p)))]) (r := []) (ykc_235 (e := (6, .invokevirtual 292, 0)) rfl) rfl rfl rfl rfl (zm_reach hS1 hE1 hN1 (⟨hA, hv1⟩ : ((174 : Nat) = 174 ∨ (174 : Nat) = 175) ∧ zNr ph1247 174 0 v).1 (⟨hA, hv1⟩ : ((174 : Nat) = 174 ∨ (174 : Nat) = 175) ∧ zNr ph1247 174 0 v).2 hO0 (p := p) (br := v (16 + p)) (by omega) (by omega)) (fun v1267 ph1268 hv => ?_)
        obtain ⟨f1266, rfl⟩ := hv
        have rf1266 := @zRe_9 (R, C, rk, sn, sk, cn, cd) P v p (v (16 + p))
        have trf1266 := znt (k := zRe (R, C, rk, sn, sk, cn, cd) P v p (v (16 + p))) (by omega)
        show zW n D 235 Q 119 [some (.ref 170), some (.int (zn p)), some (.int (zn 4))] [.int (zn (zRe (R, C, rk, sn, sk, cn, cd) P v p (v (16 + p))))] ph1268
        refine w_ret (v := (some (.int (zn (zRe (R, C, rk, sn, sk, cn, cd) P v p (v (16 + p))))))) (ykc_235 (e := (7, .ireturn, 0)) rfl) (zr_v rfl) ?_
        rw [hQ]
        exact ⟨((f1266.1 201 0 (by decide) (by decide)).trans ((u1246.2.1 201 0 (fun q => absurd q.1 (by decide))).trans rfl)), Or.inl ⟨⟨b_1, b_2⟩, ((f1266.1 170 0 (by decide) (by decide)).trans u1246.1), rfl⟩⟩
      · show zW n D 235 Q 31 [some (.ref 170), some (.int (zn p)), some (.int (zn 5))] [.int (zn 5)] ph1247
        refine w_br (pc' := 120) (st' := []) (ykc_235 (e := (4, .tableswitch 89 0 4 #[33, 40, 50, 60, 70], 33)) rfl) (by decide +kernel) ?_
        refine w_load (pc' := 121) (v := .ref 170) (m := 1) (ykc_235 (e := (2, .aload_n kF0, 0)) rfl) rfl rfl ?_
        refine w_load (pc' := 122) (v := .ref 170) (m := 1) (ykc_235 (e := (2, .aload_n kF0, 0)) rfl) rfl rfl ?_
        refine w_gf (pc' := 125) (v := .ref 174) (ykc_235 (e := (5, .getfield 41, 0)) rfl) rfl ((u1246.2.1 170 11 (fun q => absurd q.2 (by decide))).trans (zsg hS zs_170_11)) rfl ?_
        refine w_load (pc' := 126) (v := .ref 170) (m := 1) (ykc_235 (e := (2, .aload_n kF0, 0)) rfl) rfl rfl ?_
        refine w_load (pc' := 127) (v := .ref 170) (m := 1) (ykc_235 (e := (2, .aload_n kF0, 0)) rfl) rfl rfl ?_
        refine w_gf (pc' := 130) (v := .ref 174) (ykc_235 (e := (5, .getfield 41, 0)) rfl) rfl ((u1246.2.1 170 11 (fun q => absurd q.2 (by decide))).trans (zsg hS zs_170_11)) rfl ?_
        refine w_load (pc' := 131) (v := .int (zn p)) (m := 1) (ykc_235 (e := (2, .iload_n kF1, 0)) rfl) rfl rfl ?_
        refine w_cv (as := [.ref 170, .ref 174, .int (zn p)]) (r := [.ref 174, .ref 170]) (ykc_235 (e := (6, .invokevirtual 300, 0)) rfl) rfl rfl rfl rfl (zm_seen hS1 hE1 hN1 (⟨hA, hv1⟩ : ((174 : Nat) = 174 ∨ (174 : Nat) = 175) ∧ zNr ph1247 174 0 v).1 (⟨hA, hv1⟩ : ((174 : Nat) = 174 ∨ (174 : Nat) = 175) ∧ zNr ph1247 174 0 v).2 hO0 (p := p) (by omega)) (fun v1270 ph1271 hv => ?_)
        obtain ⟨f1269, rfl⟩ := hv
        show zW n D 235 Q 134 [some (.ref 170), some (.int (zn p)), some (.int (zn 5))] [.long (zVw (R, C, rk, sn, sk, cn, cd) P v p), .ref 174, .ref 170] ph1271
        refine w_cv (as := [.ref 170, .ref 174, .long (zVw (R, C, rk, sn, sk, cn, cd) P v p)]) (r := []) (ykc_235 (e := (6, .invokevirtual 323, 0)) rfl) rfl rfl rfl rfl (zm_ton (zSc_S f1269 hS1) (zSc_e f1269 hE1) (zSc_p f1269 hN1) (zSc_a f1269 (⟨hA, hv1⟩ : ((174 : Nat) = 174 ∨ (174 : Nat) = 175) ∧ zNr ph1247 174 0 v)).1 (zSc_a f1269 (⟨hA, hv1⟩ : ((174 : Nat) = 174 ∨ (174 : Nat) = 175) ∧ zNr ph1247 174 0 v)).2 hO0 (x := zVw (R, C, rk, sn, sk, cn, cd) P v p)) (fun v1272 ph1273 hv => ?_)
        obtain ⟨rfl, rfl⟩ := hv
        show zW n D 235 Q 137 [some (.ref 170), some (.int (zn p)), some (.int (zn 5))] [.int (zTon G v (zVw (R, C, rk, sn, sk, cn, cd) P v p))] ph1271
        refine w_ret (v := (some (.int (zTon G v (zVw (R, C, rk, sn, sk, cn, cd) P v p))))) (ykc_235 (e := (7, .ireturn, 0)) rfl) (zr_v rfl) ?_
        rw [hQ]
        exact ⟨((f1269.1 201 0 (by decide) (by decide)).trans ((u1246.2.1 201 0 (fun q => absurd q.1 (by decide))).trans rfl)), Or.inl ⟨⟨b_1, b_2⟩, ((f1269.1 170 0 (by decide) (by decide)).trans u1246.1), rfl⟩⟩
      
    · refine w_load (pc' := 26) (v := .ref 170) (m := 1) (ykc_235 (e := (2, .aload_n kF0, 0)) rfl) rfl rfl ?_
      refine w_cv (as := [.ref 170]) (r := []) (ykc_235 (e := (6, .invokevirtual 320, 0)) rfl) rfl rfl rfl rfl (zm_refuse) (fun v1275 ph1276 hv => ?_)
      obtain ⟨u1274, u1274_t, rfl⟩ := hv
      show zW n D 235 Q 29 [some (.ref 170), some (.int x), some (.int y)] [.int (Int32.ofInt 0)] ph1276
      refine w_ret (v := (some (.int (Int32.ofInt 0)))) (ykc_235 (e := (7, .ireturn, 0)) rfl) (zr_v rfl) ?_
      rw [hQ]
      exact ⟨((u1274.1 201 0 (by decide) (by decide)).trans ((u1246.2.1 201 0 (fun q => absurd q.1 (by decide))).trans rfl)), Or.inr ⟨fun q => absurd q.2 (of_decide_eq_false b1256), u1274_t⟩⟩
theorem zm_thgX {ph : pm_H} {E : zEn} {P G : Nat} {v : Nat → Nat} (hS : zSh ph) (hE : zMe ph E) (hN : zMp ph P G) (hv : zNr ph 174 0 v) (hO : zOk E.1 E.2.1 P G v) {x y : Int32} : zM 236 [.ref 170, .int x, .int y] ph (fun v0 q => zc q 201 0 = zc ph 201 0 ∧ ((((0 ≤ x.toInt ∧ x.toInt < (G : Int)) ∧ 0 ≤ y.toInt ∧ y.toInt ≤ 2) ∧ zc q 170 0 = some (.int (Int32.ofInt 0)) ∧ v0 = some (.int (zXthg E P v (x.toInt.toNat) (y.toInt.toNat)))) ∨ (¬ ((0 ≤ x.toInt ∧ x.toInt < (G : Int)) ∧ 0 ≤ y.toInt ∧ y.toInt ≤ 2) ∧ zc q 170 0 = some (.int (Int32.ofInt 1))))) := by
  obtain ⟨Q, hQ⟩ : ∃ Q : Option Value → pm_H → Prop, Q = (fun v0 q => zc q 201 0 = zc ph 201 0 ∧ ((((0 ≤ x.toInt ∧ x.toInt < (G : Int)) ∧ 0 ≤ y.toInt ∧ y.toInt ≤ 2) ∧ zc q 170 0 = some (.int (Int32.ofInt 0)) ∧ v0 = some (.int (zXthg E P v (x.toInt.toNat) (y.toInt.toNat)))) ∨ (¬ ((0 ≤ x.toInt ∧ x.toInt < (G : Int)) ∧ 0 ≤ y.toInt ∧ y.toInt ≤ 2) ∧ zc q 170 0 = some (.int (Int32.ofInt 1))))) := ⟨_, rfl⟩
  rw [← hQ]
  refine zM_mk fun n D => ?_
  show zW n D 236 Q 0 [some (.ref 170), some (.int x), some (.int y)] [] ph
  have c_0 : ((Int8.ofInt 32).toInt32).toInt = 32 := by decide
  have c_1 : (Int32.ofInt 0).toInt = 0 := by decide
  have c_2 : (Int32.ofInt 1).toInt = 1 := by decide
  have hA : (174 : Nat) = 174 ∨ (174 : Nat) = 175 := Or.inl rfl
  obtain ⟨R, C, rk, sn, sk, cn, cd⟩ := E
  have hL0 : zMl ph R C rk := hE.1
  have hR0 : zMr ph sn sk cn cd := hE.2.1
  have hcg : zcg cn cd := hE.2.2
  have hE0 : zMe ph (R, C, rk, sn, sk, cn, cd) := hE
  have hO0 : zOk R C P G v := hO
  have hN0 := hN
  have hL := hL0
  have hR := hR0
  obtain ⟨gR, gC, gK, hR3, hR7, hC3, hC7⟩ := hL
  have hRC := zRC49 hR7 hC7
  have tR := znt (k := R) (by omega)
  have tC := znt (k := C) (by omega)
  obtain ⟨gP, hP8, gG, hG8⟩ := hN
  have tP := znt (k := P) (by omega)
  have tG := znt (k := G) (by omega)
  obtain ⟨gsn, hs1, hs20, gsk, gcn, hc40, gcd⟩ := hR
  have tsn := znt (k := sn) (by omega)
  have tcn := znt (k := cn) (by omega)
  refine w_load (pc' := 1) (v := .ref 170) (m := 1) (ykc_236 (e := (2, .aload_n kF0, 0)) rfl) rfl rfl ?_
  refine w_alu (pc' := 2) (st' := [.int (Int32.ofInt 0), .ref 170]) (ykc_236 (e := (0, .iconst 0, 0)) rfl) rfl rfl ?_
  refine w_pf (pc' := 5) (ykc_236 (e := (5, .putfield 3, 0)) rfl) rfl rfl (fun ph1278 u1277 => ?_)
  have f0 : zFr [] [(170, 0)] ph ph1278 := zFr_st u1277 (Or.inr (by simp))
  have hS1 := zSh_st u1277 (by decide +kernel) hS
  have hE1 : zMe ph1278 (R, C, rk, sn, sk, cn, cd) := ⟨zMl_F f0 (by simp) (by simp) (by simp) (by simp) hE0.1, zMr_F f0 (by simp) (by simp) (by simp) (by simp) hE0.2.1, hE0.2.2⟩
  have hN1 := zMp_F f0 (by simp) (by simp) (by simp) hN0
  have hv1 := zNr_F f0 (by simp) (by simp) hv
  have hL1 : zMl ph1278 R C rk := hE1.1
  have hR1 : zMr ph1278 sn sk cn cd := hE1.2.1
  have hP8 : P ≤ 8 := hN0.2.1
  have hG8 : G ≤ 8 := hN0.2.2.2
  refine w_load (pc' := 6) (v := .ref 170) (m := 1) (ykc_236 (e := (2, .aload_n kF0, 0)) rfl) rfl rfl ?_
  refine w_load (pc' := 7) (v := .int x) (m := 1) (ykc_236 (e := (2, .iload_n kF1, 0)) rfl) rfl rfl ?_
  refine w_cv (as := [.ref 170, .int x]) (r := []) (ykc_236 (e := (6, .invokevirtual 327, 0)) rfl) rfl rfl rfl rfl (zm_isThing hN1 (t := x)) (fun v1279 ph1280 hv => ?_)
  obtain ⟨rfl, rfl⟩ := hv
  show zW n D 236 Q 10 [some (.ref 170), some (.int x), some (.int y)] [.int (zI (decide (0 ≤ x.toInt ∧ x.toInt < ((G : Nat) : Int))))] ph1278
  refine w_beq (ykc_236 (e := (4, .ifCond .eq 15, 25)) rfl) rfl (fun b1281 => ?_) (fun b1281 => ?_)
  · refine w_load (pc' := 26) (v := .ref 170) (m := 1) (ykc_236 (e := (2, .aload_n kF0, 0)) rfl) rfl rfl ?_
    refine w_cv (as := [.ref 170]) (r := []) (ykc_236 (e := (6, .invokevirtual 320, 0)) rfl) rfl rfl rfl rfl (zm_refuse) (fun v1283 ph1284 hv => ?_)
    obtain ⟨u1282, u1282_t, rfl⟩ := hv
    show zW n D 236 Q 29 [some (.ref 170), some (.int x), some (.int y)] [.int (Int32.ofInt 0)] ph1284
    refine w_ret (v := (some (.int (Int32.ofInt 0)))) (ykc_236 (e := (7, .ireturn, 0)) rfl) (zr_v rfl) ?_
    rw [hQ]
    exact ⟨((u1282.1 201 0 (by decide) (by decide)).trans ((u1277.2.1 201 0 (fun q => absurd q.1 (by decide))).trans rfl)), Or.inr ⟨fun q => absurd q.1 (of_decide_eq_false b1281), u1282_t⟩⟩
  · refine w_load (pc' := 14) (v := .int y) (m := 1) (ykc_236 (e := (2, .iload_n kF2, 0)) rfl) rfl rfl ?_
    refine w_alu (pc' := 15) (st' := [.long y.toInt64]) (ykc_236 (e := (0, .i2l, 0)) rfl) rfl rfl ?_
    refine w_alu (pc' := 16) (st' := [.long (Int64.ofNat kG0), .long y.toInt64]) (ykc_236 (e := (0, .lconst kG0, 0)) rfl) rfl rfl ?_
    refine w_push (pc' := 19) (v := .long (2 : Int64)) (m := 3) (ykc_236 (e := (1, .ldc2_w 330, 0)) rfl) rfl rfl ?_
    refine w_cs (as := [.long y.toInt64, .long (Int64.ofNat kG0), .long (2 : Int64)]) (r := []) (ykc_236 (e := (6, .invokestatic 126, 0)) rfl) rfl rfl rfl rfl (zm_in (x := y.toInt) (y := (0 : Int)) (z := (2 : Int)) (by first | exact ztl | (rw [ztl]; omega) | decide | omega) (by first | exact ztl | (rw [ztl]; omega) | decide | omega) (by first | exact ztl | (rw [ztl]; omega) | decide | omega)) (fun v1285 ph1286 hv => ?_)
    obtain ⟨rfl, rfl⟩ := hv
    show zW n D 236 Q 22 [some (.ref 170), some (.int x), some (.int y)] [.int (zI (decide ((0 : Int) ≤ y.toInt ∧ y.toInt ≤ (2 : Int))))] ph1278
    refine w_bne (ykc_236 (e := (4, .ifCond .ne 8, 30)) rfl) rfl (fun b1287 => ?_) (fun b1287 => ?_)
    · have b_1 := of_decide_eq_true b1281
      have b_2 := of_decide_eq_true b1287
      obtain ⟨g, h_p, rfl⟩ : ∃ g : Nat, g < G ∧ x = zn g := ⟨x.toInt.toNat, by omega, zn_of (by omega)⟩
      obtain ⟨y, h_y, rfl⟩ : ∃ k : Nat, k < 3 ∧ y = zn k := ⟨y.toInt.toNat, by omega, zn_of (by omega)⟩
      have tp := znt (k := g) (by omega)
      have ty := znt (k := y) (by omega)
      have op := hO0.2.1 g h_p
      have exn : (zn g).toInt.toNat = g := by omega
      have eyn : (zn y).toInt.toNat = y := by omega
      rw [exn, eyn] at hQ
      show zW n D 236 Q 30 [some (.ref 170), some (.int (zn g)), some (.int (zn y))] [] ph1278
      rcases (show y = 0 ∨ y = 1 ∨ y = 2 by omega) with rfl | rfl | rfl
      · show zW n D 236 Q 30 [some (.ref 170), some (.int (zn g)), some (.int (zn 0))] [] ph1278
        refine w_load (pc' := 31) (v := .int (zn 0)) (m := 1) (ykc_236 (e := (2, .iload_n kF2, 0)) rfl) rfl rfl ?_
        refine w_zne (ykc_236 (e := (4, .ifCond .ne 15, 46)) rfl) rfl (fun q => by exfalso; omega) (fun b1288 => ?_)
        refine w_load (pc' := 35) (v := .ref 170) (m := 1) (ykc_236 (e := (2, .aload_n kF0, 0)) rfl) rfl rfl ?_
        refine w_gf (pc' := 38) (v := .ref 174) (ykc_236 (e := (5, .getfield 41, 0)) rfl) rfl ((u1277.2.1 170 11 (fun q => absurd q.2 (by decide))).trans (zsg hS zs_170_11)) rfl ?_
        refine w_push (pc' := 40) (v := .int ((Int8.ofInt 32).toInt32)) (m := 2) (ykc_236 (e := (1, .bipush 32, 0)) rfl) rfl rfl ?_
        refine w_load (pc' := 41) (v := .int (zn g)) (m := 1) (ykc_236 (e := (2, .iload_n kF1, 0)) rfl) rfl rfl ?_
        have e1289 : ((Int8.ofInt 32).toInt32) + (zn g) = zn (32 + g) := (zaddN (a := 32) (b := g) c_0 (znt (by omega)) (by omega)) 
        have te1289 := znt (k := 32 + g) (by omega)
        refine w_alu (pc' := 42) (st' := [.int (zn (32 + g)), .ref 174]) (ykc_236 (e := (0, .iadd, 0)) rfl) (by rw [← e1289]; rfl) rfl ?_
        have q1290 := hO0.2.1 g (by omega)
        have tq1290 := znt (k := v (32 + g)) (by omega)
        refine w_ialk (pc' := 43) (k := 32 + g) (ykc_236 (e := (5, .iaload, 0)) rfl) ((u1277.2.1 174 (32 + g) (fun q => absurd q.1 (by decide))).trans (zNr0 hv (i := 32 + g) (by omega))) (by omega) rfl ?_
        refine w_br (pc' := 80) (st' := [.int (zn (v (32 + g)))]) (ykc_236 (e := (4, .goto 37, 80)) rfl) rfl ?_
        refine w_ret (v := (some (.int (zn (v (32 + g)))))) (ykc_236 (e := (7, .ireturn, 0)) rfl) (zr_v rfl) ?_
        rw [hQ]
        exact ⟨((u1277.2.1 201 0 (fun q => absurd q.1 (by decide))).trans rfl), Or.inl ⟨⟨b_1, b_2⟩, u1277.1, rfl⟩⟩
      · show zW n D 236 Q 30 [some (.ref 170), some (.int (zn g)), some (.int (zn 1))] [] ph1278
        refine w_load (pc' := 31) (v := .int (zn 1)) (m := 1) (ykc_236 (e := (2, .iload_n kF2, 0)) rfl) rfl rfl ?_
        refine w_zne (ykc_236 (e := (4, .ifCond .ne 15, 46)) rfl) rfl (fun b1291 => ?_) (fun q => by exfalso; omega)
        refine w_load (pc' := 47) (v := .int (zn 1)) (m := 1) (ykc_236 (e := (2, .iload_n kF2, 0)) rfl) rfl rfl ?_
        refine w_alu (pc' := 48) (st' := [.int (Int32.ofInt 1), .int (zn 1)]) (ykc_236 (e := (0, .iconst 1, 0)) rfl) rfl rfl ?_
        refine w_ine (ykc_236 (e := (4, .if_icmp .ne 15, 63)) rfl) rfl (fun q => by exfalso; omega) (fun b1292 => ?_)
        refine w_load (pc' := 52) (v := .ref 170) (m := 1) (ykc_236 (e := (2, .aload_n kF0, 0)) rfl) rfl rfl ?_
        refine w_load (pc' := 53) (v := .ref 170) (m := 1) (ykc_236 (e := (2, .aload_n kF0, 0)) rfl) rfl rfl ?_
        refine w_gf (pc' := 56) (v := .ref 174) (ykc_236 (e := (5, .getfield 41, 0)) rfl) rfl ((u1277.2.1 170 11 (fun q => absurd q.2 (by decide))).trans (zsg hS zs_170_11)) rfl ?_
        refine w_load (pc' := 57) (v := .int (zn g)) (m := 1) (ykc_236 (e := (2, .iload_n kF1, 0)) rfl) rfl rfl ?_
        refine w_cv (as := [.ref 170, .ref 174, .int (zn g)]) (r := []) (ykc_236 (e := (6, .invokevirtual 332, 0)) rfl) rfl rfl rfl rfl (zm_knowing hS1 hE1 hN1 (⟨hA, hv1⟩ : ((174 : Nat) = 174 ∨ (174 : Nat) = 175) ∧ zNr ph1278 174 0 v).1 (⟨hA, hv1⟩ : ((174 : Nat) = 174 ∨ (174 : Nat) = 175) ∧ zNr ph1278 174 0 v).2 hO0 (t := g) (by omega)) (fun v1293 ph1294 hv => ?_)
        obtain ⟨rfl, rfl⟩ := hv
        show zW n D 236 Q 60 [some (.ref 170), some (.int (zn g)), some (.int (zn 1))] [.int (zT (fun p => zb (zn (v (24 + p))).toInt64 g) P)] ph1278
        refine w_br (pc' := 80) (st' := [.int (zT (fun p => zb (zn (v (24 + p))).toInt64 g) P)]) (ykc_236 (e := (4, .goto 20, 80)) rfl) rfl ?_
        refine w_ret (v := (some (.int (zT (fun p => zb (zn (v (24 + p))).toInt64 g) P)))) (ykc_236 (e := (7, .ireturn, 0)) rfl) (zr_v rfl) ?_
        rw [hQ]
        exact ⟨((u1277.2.1 201 0 (fun q => absurd q.1 (by decide))).trans rfl), Or.inl ⟨⟨b_1, b_2⟩, u1277.1, rfl⟩⟩
      · show zW n D 236 Q 30 [some (.ref 170), some (.int (zn g)), some (.int (zn 2))] [] ph1278
        refine w_load (pc' := 31) (v := .int (zn 2)) (m := 1) (ykc_236 (e := (2, .iload_n kF2, 0)) rfl) rfl rfl ?_
        refine w_zne (ykc_236 (e := (4, .ifCond .ne 15, 46)) rfl) rfl (fun b1295 => ?_) (fun q => by exfalso; omega)
        refine w_load (pc' := 47) (v := .int (zn 2)) (m := 1) (ykc_236 (e := (2, .iload_n kF2, 0)) rfl) rfl rfl ?_
        refine w_alu (pc' := 48) (st' := [.int (Int32.ofInt 1), .int (zn 2)]) (ykc_236 (e := (0, .iconst 1, 0)) rfl) rfl rfl ?_
        refine w_ine (ykc_236 (e := (4, .if_icmp .ne 15, 63)) rfl) rfl (fun b1296 => ?_) (fun q => by exfalso; omega)
        refine w_load (pc' := 64) (v := .ref 170) (m := 1) (ykc_236 (e := (2, .aload_n kF0, 0)) rfl) rfl rfl ?_
        refine w_load (pc' := 65) (v := .ref 170) (m := 1) (ykc_236 (e := (2, .aload_n kF0, 0)) rfl) rfl rfl ?_
        refine w_gf (pc' := 68) (v := .ref 174) (ykc_236 (e := (5, .getfield 41, 0)) rfl) rfl ((u1277.2.1 170 11 (fun q => absurd q.2 (by decide))).trans (zsg hS zs_170_11)) rfl ?_
        refine w_load (pc' := 69) (v := .ref 170) (m := 1) (ykc_236 (e := (2, .aload_n kF0, 0)) rfl) rfl rfl ?_
        refine w_gf (pc' := 72) (v := .ref 174) (ykc_236 (e := (5, .getfield 41, 0)) rfl) rfl ((u1277.2.1 170 11 (fun q => absurd q.2 (by decide))).trans (zsg hS zs_170_11)) rfl ?_
        refine w_push (pc' := 74) (v := .int ((Int8.ofInt 32).toInt32)) (m := 2) (ykc_236 (e := (1, .bipush 32, 0)) rfl) rfl rfl ?_
        refine w_load (pc' := 75) (v := .int (zn g)) (m := 1) (ykc_236 (e := (2, .iload_n kF1, 0)) rfl) rfl rfl ?_
        have e1297 : ((Int8.ofInt 32).toInt32) + (zn g) = zn (32 + g) := (zaddN (a := 32) (b := g) c_0 (znt (by omega)) (by omega)) 
        have te1297 := znt (k := 32 + g) (by omega)
        refine w_alu (pc' := 76) (st' := [.int (zn (32 + g)), .ref 174, .ref 174, .ref 170]) (ykc_236 (e := (0, .iadd, 0)) rfl) (by rw [← e1297]; rfl) rfl ?_
        have q1298 := hO0.2.1 g (by omega)
        have tq1298 := znt (k := v (32 + g)) (by omega)
        refine w_ialk (pc' := 77) (k := 32 + g) (ykc_236 (e := (5, .iaload, 0)) rfl) ((u1277.2.1 174 (32 + g) (fun q => absurd q.1 (by decide))).trans (zNr0 hv (i := 32 + g) (by omega))) (by omega) rfl ?_
        refine w_cv (as := [.ref 170, .ref 174, .int (zn (v (32 + g)))]) (r := []) (ykc_236 (e := (6, .invokevirtual 336, 0)) rfl) rfl rfl rfl rfl (zm_who hS1 hE1 hN1 (⟨hA, hv1⟩ : ((174 : Nat) = 174 ∨ (174 : Nat) = 175) ∧ zNr ph1278 174 0 v).1 (⟨hA, hv1⟩ : ((174 : Nat) = 174 ∨ (174 : Nat) = 175) ∧ zNr ph1278 174 0 v).2 hO0 (g := v (32 + g)) (show v (32 + g) < R * C by omega)) (fun v1300 ph1301 hv => ?_)
        obtain ⟨f1299, rfl⟩ := hv
        show zW n D 236 Q 80 [some (.ref 170), some (.int (zn g)), some (.int (zn 2))] [.int (zWho (R, C, rk, sn, sk, cn, cd) P v (v (32 + g)))] ph1301
        refine w_ret (v := (some (.int (zWho (R, C, rk, sn, sk, cn, cd) P v (v (32 + g)))))) (ykc_236 (e := (7, .ireturn, 0)) rfl) (zr_v rfl) ?_
        rw [hQ]
        exact ⟨((f1299.1 201 0 (by decide) (by decide)).trans ((u1277.2.1 201 0 (fun q => absurd q.1 (by decide))).trans rfl)), Or.inl ⟨⟨b_1, b_2⟩, ((f1299.1 170 0 (by decide) (by decide)).trans u1277.1), rfl⟩⟩
      
    · refine w_load (pc' := 26) (v := .ref 170) (m := 1) (ykc_236 (e := (2, .aload_n kF0, 0)) rfl) rfl rfl ?_
      refine w_cv (as := [.ref 170]) (r := []) (ykc_236 (e := (6, .invokevirtual 320, 0)) rfl) rfl rfl rfl rfl (zm_refuse) (fun v1303 ph1304 hv => ?_)
      obtain ⟨u1302, u1302_t, rfl⟩ := hv
      show zW n D 236 Q 29 [some (.ref 170), some (.int x), some (.int y)] [.int (Int32.ofInt 0)] ph1304
      refine w_ret (v := (some (.int (Int32.ofInt 0)))) (ykc_236 (e := (7, .ireturn, 0)) rfl) (zr_v rfl) ?_
      rw [hQ]
      exact ⟨((u1302.1 201 0 (by decide) (by decide)).trans ((u1277.2.1 201 0 (fun q => absurd q.1 (by decide))).trans rfl)), Or.inr ⟨fun q => absurd q.2 (of_decide_eq_false b1287), u1302_t⟩⟩

/-! person, thing: answers and throws, class and reference; printed by wip/rel/r7.py -/
theorem zIq1 {b : Bool} (h : (some (.int (Int32.ofInt 1)) : Option Value) = some (.int (zI b))) : b = true := by
  cases b with
  | true => rfl
  | false => exact absurd (Value.int.inj (Option.some.inj h)) (by decide)
theorem zIq0 {b : Bool} (h : (some (.int (Int32.ofInt 0)) : Option Value) = some (.int (zI b))) : b = false := by
  cases b with
  | false => rfl
  | true => exact absurd (Value.int.inj (Option.some.inj h)) (by decide)
set_option maxRecDepth 6000 in
theorem xcl_personR {E : pm_H → Prop} (hE : xHE xX xgA_G8 xgF_G8 E) (hC : xPC E) {m : Int} (hm : m ≤ 2147483646) (h0m : (0 : Int) ≤ m) {D : Nat} (hD : 10 ≤ D) {ph : pm_H} {p y : Int32} (hP : xH xX kK m 0 ph) (g9 : E ph) {P G : Nat} {v : Nat → Nat} (hs9 : zSs ph 25) (hd9 : zSd ph 25 P G v) : (∃ r ph', pm_Rd kK false (D + 1) 129 [.ref 0, .int p, .int y] ph (some (.int r), ph', 0, 0) ∧ xH xX kK m 0 ph' ∧ E ph' ∧ ((0 ≤ p.toInt ∧ p.toInt < ((P : Nat) : Int)) ∧ 0 ≤ y.toInt ∧ y.toInt ≤ 5)) ∨ (∃ pc, (pc = 11 ∨ pc = 133) ∧ pm_Se kK false (pm_Rd kK false D) 129 (pm_ent kK 129 [.ref 0, .int p, .int y] ph) (pc, [some (.ref 0), some (.int p), some (.int y)], [], ph, 0, 0) ∧ ¬ ((0 ≤ p.toInt ∧ p.toInt < ((P : Nat) : Int)) ∧ 0 ≤ y.toInt ∧ y.toInt ≤ 5)) := by
  obtain ⟨fl0, hat0, hfl0⟩ := xO_at (a := 0) hP rfl rfl
  obtain ⟨v4, hv4, hv⟩ := hfl0 4 _ rfl
  have e4 : v4 = .ref 25 := xaO (m' := 0) (A := 25) hP rfl hv
  subst e4
  obtain ⟨fl1, hat1, -⟩ := xO_at (a := 25) hP rfl rfl
  obtain ⟨D', rfl⟩ : ∃ D', D = D' + 1 := ⟨D - 1, by omega⟩
  have pre : ∀ (z : Int32) (t : Nat), pm_Rd kK false (D' + 1) 106 [.ref 25, .int p] ph (some (.int z), ph, 0, 0) → pm_br (.ifCond .ne 11) 19 8 [.int z] = some (t, []) → pm_Se kK false (pm_Rd kK false (D' + 1)) 129 (pm_ent kK 129 [.ref 0, .int p, .int y] ph) (t, [some (.ref 0), some (.int p), some (.int y)], [], ph, 0, 0) := fun z t hz ht => by
    show pm_Se kK false (pm_Rd kK false (D' + 1)) 129 (0, [some (.ref 0), some (.int p), some (.int y)], [], ph, 0, 0) _
    refine .step (ks2 (ykc_129 (e := (2, .aload_n kF0, 0)) rfl) (v := .ref 0) (n := 1) rfl) ?_
    refine .step (xgfs (ykc_129 (e := (5, .getfield 42, 0)) rfl) rfl hat0 hv4) ?_
    refine .step (ks2 (ykc_129 (e := (2, .iload_n kF1, 0)) rfl) (v := .int p) (n := 1) rfl) ?_
    refine .call (ks6 (ykc_129 (e := (6, .invokevirtual 167, 0)) rfl) (xinvV rfl rfl hat1 rfl rfl)) hz ?_
    exact .step (ks4 (ykc_129 (e := (4, .ifCond .ne 11, 19)) rfl) ht) .rf
  rcases xhas_106 (D := D') (p := p) hP with ⟨hz, p0, p7⟩ | hz
  · have hr9 := of_decide_eq_true (zIq1 (zc_hasP hs9 hd9 (i := p) _ _ hz).2)
    have h19 := pre _ 19 hz xbr1
    by_cases hy : 0 ≤ y.toInt ∧ y.toInt ≤ 5
    · left
      have hrun : ∃ v ph', pm_Rd kK false (D' + 1 + 1) 129 [.ref 0, .int p, .int y] ph (v, ph', 0, 0) ∧ (∃ r : Int32, v = some (.int r) ∧ xH xX kK m 0 ph' ∧ E ph') := by
        obtain ⟨t9, t9m, t9b⟩ := xsw_129 hy.1 hy.2
        refine xRd_mk (nl := 3) rfl rfl (xGT_se h19 (gt_load (v := .int y) (n := 1) (ykc_129 (e := (2, .iload_n kF2, 0)) rfl) rfl rfl (gt_br (ykc_129 (e := (4, .tableswitch 113 0 5 #[40, 50, 60, 70, 80, 93], 40)) rfl) t9b ?_)))
        refine xseg_ok (ns := [[xnP_129 t9]]) (res := some (.inl (Int.negSucc 2147483647, Int.ofNat 2147483647))) (fq := []) (by omega) hm (xq_129 hE hC) (List.forall_mem_cons.mpr ⟨List.forall_mem_cons.mpr ⟨Or.inl (List.all_eq_true.mp xnPc_129 t9 t9m), fun _ h => absurd h List.not_mem_nil⟩, fun _ h => absurd h List.not_mem_nil⟩) ?_ (xnP_129 t9).1 (xnP_129 t9).2 ⟨_, List.Mem.head _, List.Mem.head _⟩ _ ph h0m ⟨fun q e => by cases e; exact ⟨_, rfl, xaRi rfl (by decide)⟩, fun q e => by cases e; exact ⟨_, rfl, xaI p0 p7⟩, fun q e => (by cases e), trivial⟩ xF0 hP g9
        intro v ph' a1 a2 a3 _
        obtain ⟨u, e, z, e2, -⟩ := a3
        exact ⟨z, by rw [e, e2], a1, a2⟩
      obtain ⟨v, ph', k1, r, k2, k3, k4⟩ := hrun
      subst k2
      exact ⟨r, ph', k1, k3, k4, hr9, hy⟩
    · right
      obtain ⟨n, hn⟩ := h19
      refine ⟨133, Or.inr rfl, pm_Se_t ?_ n _ hn, fun q => hy q.2⟩
      refine .step (ks2 (ykc_129 (e := (2, .iload_n kF2, 0)) rfl) (v := .int y) (n := 1) rfl) ?_
      exact .step (ks4 (ykc_129 (e := (4, .tableswitch 113 0 5 #[40, 50, 60, 70, 80, 93], 40)) rfl) (xts_def (t := 133) (by omega) rfl)) .rf
  · exact Or.inr ⟨11, Or.inl rfl, pre _ 11 hz xbr0, fun q => of_decide_eq_false (zIq0 (zc_hasP hs9 hd9 (i := p) _ _ hz).2) q.1⟩
set_option maxRecDepth 6000 in
theorem xcl_thingR {E : pm_H → Prop} (hE : xHE xX xgA_G8 xgF_G8 E) (hC : xPC E) {m : Int} (hm : m ≤ 2147483646) (h0m : (0 : Int) ≤ m) {D : Nat} (hD : 10 ≤ D) {ph : pm_H} {p y : Int32} (hP : xH xX kK m 0 ph) (g9 : E ph) {P G : Nat} {v : Nat → Nat} (hs9 : zSs ph 25) (hd9 : zSd ph 25 P G v) : (∃ r ph', pm_Rd kK false (D + 1) 130 [.ref 0, .int p, .int y] ph (some (.int r), ph', 0, 0) ∧ xH xX kK m 0 ph' ∧ E ph' ∧ ((0 ≤ p.toInt ∧ p.toInt < ((G : Nat) : Int)) ∧ 0 ≤ y.toInt ∧ y.toInt ≤ 2)) ∨ (∃ pc, (pc = 11 ∨ pc = 100) ∧ pm_Se kK false (pm_Rd kK false D) 130 (pm_ent kK 130 [.ref 0, .int p, .int y] ph) (pc, [some (.ref 0), some (.int p), some (.int y)], [], ph, 0, 0) ∧ ¬ ((0 ≤ p.toInt ∧ p.toInt < ((G : Nat) : Int)) ∧ 0 ≤ y.toInt ∧ y.toInt ≤ 2)) := by
  obtain ⟨fl0, hat0, hfl0⟩ := xO_at (a := 0) hP rfl rfl
  obtain ⟨v4, hv4, hv⟩ := hfl0 4 _ rfl
  have e4 : v4 = .ref 25 := xaO (m' := 0) (A := 25) hP rfl hv
  subst e4
  obtain ⟨fl1, hat1, -⟩ := xO_at (a := 25) hP rfl rfl
  obtain ⟨D', rfl⟩ : ∃ D', D = D' + 1 := ⟨D - 1, by omega⟩
  have pre : ∀ (z : Int32) (t : Nat), pm_Rd kK false (D' + 1) 107 [.ref 25, .int p] ph (some (.int z), ph, 0, 0) → pm_br (.ifCond .ne 11) 19 8 [.int z] = some (t, []) → pm_Se kK false (pm_Rd kK false (D' + 1)) 130 (pm_ent kK 130 [.ref 0, .int p, .int y] ph) (t, [some (.ref 0), some (.int p), some (.int y)], [], ph, 0, 0) := fun z t hz ht => by
    show pm_Se kK false (pm_Rd kK false (D' + 1)) 130 (0, [some (.ref 0), some (.int p), some (.int y)], [], ph, 0, 0) _
    refine .step (ks2 (ykc_130 (e := (2, .aload_n kF0, 0)) rfl) (v := .ref 0) (n := 1) rfl) ?_
    refine .step (xgfs (ykc_130 (e := (5, .getfield 42, 0)) rfl) rfl hat0 hv4) ?_
    refine .step (ks2 (ykc_130 (e := (2, .iload_n kF1, 0)) rfl) (v := .int p) (n := 1) rfl) ?_
    refine .call (ks6 (ykc_130 (e := (6, .invokevirtual 198, 0)) rfl) (xinvV rfl rfl hat1 rfl rfl)) hz ?_
    exact .step (ks4 (ykc_130 (e := (4, .ifCond .ne 11, 19)) rfl) ht) .rf
  rcases xhas_107 (D := D') (p := p) hP with ⟨hz, p0, p7⟩ | hz
  · have hr9 := of_decide_eq_true (zIq1 (zc_hasT hs9 hd9 (i := p) _ _ hz).2)
    have h19 := pre _ 19 hz xbr1
    by_cases hy : 0 ≤ y.toInt ∧ y.toInt ≤ 2
    · left
      have hrun : ∃ v ph', pm_Rd kK false (D' + 1 + 1) 130 [.ref 0, .int p, .int y] ph (v, ph', 0, 0) ∧ (∃ r : Int32, v = some (.int r) ∧ xH xX kK m 0 ph' ∧ E ph') := by
        obtain ⟨t9, t9m, t9b⟩ := xsw_130 hy.1 hy.2
        refine xRd_mk (nl := 3) rfl rfl (xGT_se h19 (gt_load (v := .int y) (n := 1) (ykc_130 (e := (2, .iload_n kF2, 0)) rfl) rfl rfl (gt_br (ykc_130 (e := (4, .tableswitch 80 0 2 #[28, 38, 47], 28)) rfl) t9b ?_)))
        refine xseg_ok (ns := [[xnP_130 t9]]) (res := some (.inl (Int.negSucc 2147483647, Int.ofNat 2147483647))) (fq := []) (by omega) hm (xq_130 hE hC) (List.forall_mem_cons.mpr ⟨List.forall_mem_cons.mpr ⟨Or.inl (List.all_eq_true.mp xnPc_130 t9 t9m), fun _ h => absurd h List.not_mem_nil⟩, fun _ h => absurd h List.not_mem_nil⟩) ?_ (xnP_130 t9).1 (xnP_130 t9).2 ⟨_, List.Mem.head _, List.Mem.head _⟩ _ ph h0m ⟨fun q e => by cases e; exact ⟨_, rfl, xaRi rfl (by decide)⟩, fun q e => by cases e; exact ⟨_, rfl, xaI p0 p7⟩, fun q e => (by cases e), trivial⟩ xF0 hP g9
        intro v ph' a1 a2 a3 _
        obtain ⟨u, e, z, e2, -⟩ := a3
        exact ⟨z, by rw [e, e2], a1, a2⟩
      obtain ⟨v, ph', k1, r, k2, k3, k4⟩ := hrun
      subst k2
      exact ⟨r, ph', k1, k3, k4, hr9, hy⟩
    · right
      obtain ⟨n, hn⟩ := h19
      refine ⟨100, Or.inr rfl, pm_Se_t ?_ n _ hn, fun q => hy q.2⟩
      refine .step (ks2 (ykc_130 (e := (2, .iload_n kF2, 0)) rfl) (v := .int y) (n := 1) rfl) ?_
      exact .step (ks4 (ykc_130 (e := (4, .tableswitch 80 0 2 #[28, 38, 47], 28)) rfl) (xts_def (t := 100) (by omega) rfl)) .rf
  · exact Or.inr ⟨11, Or.inl rfl, pre _ 11 hz xbr0, fun q => of_decide_eq_false (zIq0 (zc_hasT hs9 hd9 (i := p) _ _ hz).2) q.1⟩
def zr_per (z : zPar) (x y : Int32) : Prop := match z with
  | ((R, C, rk, sn, sk), (cn, cd, cm, cdm), (F, F2, P, G, nx, u, fl, hn, ch), (v, w, sv, svm), (kp, kc)) => (0 ≤ x.toInt ∧ x.toInt < ((P : Nat) : Int)) ∧ 0 ≤ y.toInt ∧ y.toInt ≤ 5
def zfc_per (z : zPar) (x y : Int32) : Int32 := match z with
  | ((R, C, rk, sn, sk), (cn, cd, cm, cdm), (F, F2, P, G, nx, u, fl, hn, ch), (v, w, sv, svm), (kp, kc)) => zXper (R, C, rk, sn, sk, cn, cd) P G v x.toInt.toNat y.toInt.toNat
def zfm_per (z : zPar) (x y : Int32) : Int32 := match z with
  | ((R, C, rk, sn, sk), (cn, cd, cm, cdm), (F, F2, P, G, nx, u, fl, hn, ch), (v, w, sv, svm), (kp, kc)) => zXper (R, C, rk, sn, sk, cm, cdm) P G v x.toInt.toNat y.toInt.toNat
theorem zfq_per {n : Nat} {z : zPar} {ph : pm_H} {x y : Int32} (hR : xRE n z ph) : zfc_per z x y = zfm_per z x y := by
  obtain ⟨⟨R, C, rk, sn, sk⟩, ⟨cn, cd, cm, cdm⟩, ⟨F, F2, P, G, nx, u, fl, hn, ch⟩, ⟨v, w, sv, svm⟩, kp, kc⟩ := z
  obtain ⟨-, hpp, -⟩ := hR
  have h := hpp.1
  show zXper (R, C, rk, sn, sk, cn, cd) P G v x.toInt.toNat y.toInt.toNat = zXper (R, C, rk, sn, sk, cm, cdm) P G v x.toInt.toNat y.toInt.toNat
  generalize y.toInt.toNat = k
  have e : zXper (R, C, rk, sn, sk, cn, cd) P G v x.toInt.toNat = zXper (R, C, rk, sn, sk, cm, cdm) P G v x.toInt.toNat := by
    funext k
    unfold zXper
    rw [zQ_Re h, zQ_Vw h]
  rw [e]
theorem xcR_per {n : Nat} (hn : n ≤ 512) {z : zPar} {ph : pm_H} {p y : Int32} (hP : xH xX kK (xLm n) 0 ph) (hR : xRE n z ph) : (∃ r ph', pm_Rd kK false 501 129 [.ref 0, .int p, .int y] ph (some (.int r), ph', 0, 0) ∧ xH xX kK (xLm n) 0 ph' ∧ xRE n z ph' ∧ zr_per z p y ∧ r = zfc_per z p y) ∨ (∃ pc, (pc = 11 ∨ pc = 133) ∧ pm_Se kK false (pm_Rd kK false 500) 129 (pm_ent kK 129 [.ref 0, .int p, .int y] ph) (pc, [some (.ref 0), some (.int p), some (.int y)], [], ph, 0, 0) ∧ ¬ zr_per z p y) := by
  have hS := xRE_S hP hR
  have hEC := xEq_C hP hR
  have h0 := xEq_0 hP hR
  have hRR : ∀ {p : pm_H}, xH xX kK (xLm n) 0 p → xEq n z ph p → xRE n z p := fun hp h => xEq_R hP hp hR h
  obtain ⟨⟨R, C, rk, sn, sk⟩, ⟨cn, cd, cm, cdm⟩, ⟨F, F2, P, G, nx, u, fl, hn, ch⟩, ⟨v, w, sv, svm⟩, kp, kc⟩ := z
  obtain ⟨-, hpp, ⟨⟨hK, hX⟩, hcc⟩, -⟩ := id hR
  rcases xcl_personR (xEq_G (n := n)) hEC (xLm_le (by omega)) xLm_0 (D := 500) (by decide) (p := p) (y := y) hP h0 (zSs_of hS (S := 25) (by decide)) hK.2.1 with ⟨r, ph1, h1, h2, h3, h4⟩ | ⟨pc, h1, h2, h3⟩
  · refine Or.inl ⟨r, ph1, h1, h2, hRR h2 h3, h4, ?_⟩
    have hB8 : P ≤ 8 := hK.2.1.2.1
    obtain ⟨q, hq, rfl⟩ : ∃ q : Nat, q < P ∧ p = zn q := ⟨p.toInt.toNat, by omega, zn_of (by omega)⟩
    obtain ⟨k, hk, rfl⟩ : ∃ k : Nat, k < 6 ∧ y = zn k := ⟨y.toInt.toNat, by omega, zn_of (by omega)⟩
    have e := zc_perX hS hX.1 ⟨⟨by decide, zSs_of hS (S := 25) (by decide)⟩, hK.2.1⟩ hpp.2.2.2.2.1.1 hX.2.1 hcc hq hk _ _ h1
    have e2 := Value.int.inj (Option.some.inj e)
    have t1 := znt (k := q) (by omega)
    have t2 := znt (k := k) (by omega)
    show r = zXper (R, C, rk, sn, sk, cn, cd) P G v (zn q).toInt.toNat (zn k).toInt.toNat
    rw [show (zn q).toInt.toNat = q by omega, show (zn k).toInt.toNat = k by omega]
    exact e2
  · exact Or.inr ⟨pc, h1, h2, h3⟩
theorem xmR_per {n : Nat} (hn : n ≤ 512) {z : zPar} {ph : pm_H} {x y : Int32} (hP : xH xX kK (xLm n) 0 ph) (hR : xRE n z ph) : ∃ r ph', pm_Rd kK false 600 235 [.ref 170, .int x, .int y] ph (some (.int r), ph', 0, 0) ∧ xH xX kK (xLm (n + 1)) 0 ph' ∧ xRE (n + 1) z ph' ∧ zc ph' 201 0 = zc ph 201 0 ∧ ((zr_per z x y ∧ zc ph' 170 0 = some (.int (Int32.ofInt 0)) ∧ r = zfc_per z x y) ∨ (¬ zr_per z x y ∧ zc ph' 170 0 = some (.int (Int32.ofInt 1)))) := by
  have hS := xRE_S hP hR
  have hq := zfq_per (x := x) (y := y) hR
  obtain ⟨v0, ph2, r2, ⟨r, rfl⟩, g1, g2⟩ := xrm_person (x := x) (y := y) n hn z ph hP hR
  refine ⟨r, ph2, r2, g1, g2, ?_⟩
  obtain ⟨⟨R, C, rk, sn, sk⟩, ⟨cn, cd, cm, cdm⟩, ⟨F, F2, P, G, nx, u, fl, hn, ch⟩, ⟨v, w, sv, svm⟩, kp, kc⟩ := z
  obtain ⟨-, hpp, -, hM, hE⟩ := hR
  obtain ⟨e1, e2⟩ := zm_perX (E := (R, C, rk, sn, sk, cm, cdm)) hS hE hM.2.1 hM.2.2.1 hpp.2.2.2.2.1.1 (x := x) (y := y) _ _ r2
  refine ⟨e1, ?_⟩
  rcases e2 with ⟨q1, q2, q3⟩ | ⟨q1, q2⟩
  · exact Or.inl ⟨q1, q2, (Value.int.inj (Option.some.inj q3)).trans hq.symm⟩
  · exact Or.inr ⟨q1, q2⟩
def zr_thg (z : zPar) (x y : Int32) : Prop := match z with
  | ((R, C, rk, sn, sk), (cn, cd, cm, cdm), (F, F2, P, G, nx, u, fl, hn, ch), (v, w, sv, svm), (kp, kc)) => (0 ≤ x.toInt ∧ x.toInt < ((G : Nat) : Int)) ∧ 0 ≤ y.toInt ∧ y.toInt ≤ 2
def zfc_thg (z : zPar) (x y : Int32) : Int32 := match z with
  | ((R, C, rk, sn, sk), (cn, cd, cm, cdm), (F, F2, P, G, nx, u, fl, hn, ch), (v, w, sv, svm), (kp, kc)) => zXthg (R, C, rk, sn, sk, cn, cd) P v x.toInt.toNat y.toInt.toNat
def zfm_thg (z : zPar) (x y : Int32) : Int32 := match z with
  | ((R, C, rk, sn, sk), (cn, cd, cm, cdm), (F, F2, P, G, nx, u, fl, hn, ch), (v, w, sv, svm), (kp, kc)) => zXthg (R, C, rk, sn, sk, cm, cdm) P v x.toInt.toNat y.toInt.toNat
theorem zfq_thg {n : Nat} {z : zPar} {ph : pm_H} {x y : Int32} (hR : xRE n z ph) : zfc_thg z x y = zfm_thg z x y := by
  obtain ⟨⟨R, C, rk, sn, sk⟩, ⟨cn, cd, cm, cdm⟩, ⟨F, F2, P, G, nx, u, fl, hn, ch⟩, ⟨v, w, sv, svm⟩, kp, kc⟩ := z
  obtain ⟨-, hpp, -⟩ := hR
  have h := hpp.1
  show zXthg (R, C, rk, sn, sk, cn, cd) P v x.toInt.toNat y.toInt.toNat = zXthg (R, C, rk, sn, sk, cm, cdm) P v x.toInt.toNat y.toInt.toNat
  generalize y.toInt.toNat = k
  have e : zXthg (R, C, rk, sn, sk, cn, cd) P v x.toInt.toNat = zXthg (R, C, rk, sn, sk, cm, cdm) P v x.toInt.toNat := by
    funext k
    unfold zXthg
    rw [zQ_Who h]
  rw [e]
theorem xcR_thg {n : Nat} (hn : n ≤ 512) {z : zPar} {ph : pm_H} {p y : Int32} (hP : xH xX kK (xLm n) 0 ph) (hR : xRE n z ph) : (∃ r ph', pm_Rd kK false 501 130 [.ref 0, .int p, .int y] ph (some (.int r), ph', 0, 0) ∧ xH xX kK (xLm n) 0 ph' ∧ xRE n z ph' ∧ zr_thg z p y ∧ r = zfc_thg z p y) ∨ (∃ pc, (pc = 11 ∨ pc = 100) ∧ pm_Se kK false (pm_Rd kK false 500) 130 (pm_ent kK 130 [.ref 0, .int p, .int y] ph) (pc, [some (.ref 0), some (.int p), some (.int y)], [], ph, 0, 0) ∧ ¬ zr_thg z p y) := by
  have hS := xRE_S hP hR
  have hEC := xEq_C hP hR
  have h0 := xEq_0 hP hR
  have hRR : ∀ {p : pm_H}, xH xX kK (xLm n) 0 p → xEq n z ph p → xRE n z p := fun hp h => xEq_R hP hp hR h
  obtain ⟨⟨R, C, rk, sn, sk⟩, ⟨cn, cd, cm, cdm⟩, ⟨F, F2, P, G, nx, u, fl, hn, ch⟩, ⟨v, w, sv, svm⟩, kp, kc⟩ := z
  obtain ⟨-, hpp, ⟨⟨hK, hX⟩, hcc⟩, -⟩ := id hR
  rcases xcl_thingR (xEq_G (n := n)) hEC (xLm_le (by omega)) xLm_0 (D := 500) (by decide) (p := p) (y := y) hP h0 (zSs_of hS (S := 25) (by decide)) hK.2.1 with ⟨r, ph1, h1, h2, h3, h4⟩ | ⟨pc, h1, h2, h3⟩
  · refine Or.inl ⟨r, ph1, h1, h2, hRR h2 h3, h4, ?_⟩
    have hB8 : G ≤ 8 := hK.2.1.2.2.2.1
    obtain ⟨q, hq, rfl⟩ : ∃ q : Nat, q < G ∧ p = zn q := ⟨p.toInt.toNat, by omega, zn_of (by omega)⟩
    obtain ⟨k, hk, rfl⟩ : ∃ k : Nat, k < 3 ∧ y = zn k := ⟨y.toInt.toNat, by omega, zn_of (by omega)⟩
    have e := zc_thgX hS hX.1 ⟨⟨by decide, zSs_of hS (S := 25) (by decide)⟩, hK.2.1⟩ hpp.2.2.2.2.1.1 hX.2.1 hcc hq hk _ _ h1
    have e2 := Value.int.inj (Option.some.inj e)
    have t1 := znt (k := q) (by omega)
    have t2 := znt (k := k) (by omega)
    show r = zXthg (R, C, rk, sn, sk, cn, cd) P v (zn q).toInt.toNat (zn k).toInt.toNat
    rw [show (zn q).toInt.toNat = q by omega, show (zn k).toInt.toNat = k by omega]
    exact e2
  · exact Or.inr ⟨pc, h1, h2, h3⟩
theorem xmR_thg {n : Nat} (hn : n ≤ 512) {z : zPar} {ph : pm_H} {x y : Int32} (hP : xH xX kK (xLm n) 0 ph) (hR : xRE n z ph) : ∃ r ph', pm_Rd kK false 600 236 [.ref 170, .int x, .int y] ph (some (.int r), ph', 0, 0) ∧ xH xX kK (xLm (n + 1)) 0 ph' ∧ xRE (n + 1) z ph' ∧ zc ph' 201 0 = zc ph 201 0 ∧ ((zr_thg z x y ∧ zc ph' 170 0 = some (.int (Int32.ofInt 0)) ∧ r = zfc_thg z x y) ∨ (¬ zr_thg z x y ∧ zc ph' 170 0 = some (.int (Int32.ofInt 1)))) := by
  have hS := xRE_S hP hR
  have hq := zfq_thg (x := x) (y := y) hR
  obtain ⟨v0, ph2, r2, ⟨r, rfl⟩, g1, g2⟩ := xrm_thing (x := x) (y := y) n hn z ph hP hR
  refine ⟨r, ph2, r2, g1, g2, ?_⟩
  obtain ⟨⟨R, C, rk, sn, sk⟩, ⟨cn, cd, cm, cdm⟩, ⟨F, F2, P, G, nx, u, fl, hn, ch⟩, ⟨v, w, sv, svm⟩, kp, kc⟩ := z
  obtain ⟨-, hpp, -, hM, hE⟩ := hR
  obtain ⟨e1, e2⟩ := zm_thgX (E := (R, C, rk, sn, sk, cm, cdm)) hS hE hM.2.1 hM.2.2.1 hpp.2.2.2.2.1.1 (x := x) (y := y) _ _ r2
  refine ⟨e1, ?_⟩
  rcases e2 with ⟨q1, q2, q3⟩ | ⟨q1, q2⟩
  · exact Or.inl ⟨q1, q2, (Value.int.inj (Option.some.inj q3)).trans hq.symm⟩
  · exact Or.inr ⟨q1, q2⟩

/-! looks: both answer alike; printed by wip/rel/r6.py -/
def zGc (f : zEn → Nat → Nat → (Nat → Nat) → Value) (z : zPar) : Value := match z with
  | ((R, C, rk, sn, sk), (cn, cd, _, _), (_, _, P, G, _, _, _, _, _), (v, _, _, _), (_, _)) => f (R, C, rk, sn, sk, cn, cd) P G v
def zGm (f : zEn → Nat → Nat → (Nat → Nat) → Value) (z : zPar) : Value := match z with
  | ((R, C, rk, sn, sk), (_, _, cm, cdm), (_, _, P, G, _, _, _, _, _), (v, _, _, _), (_, _)) => f (R, C, rk, sn, sk, cm, cdm) P G v
theorem xRlook {j1 j2 : Nat} {as : List Value} {K : Value → Prop} (f : zEn → Nat → Nat → (Nat → Nat) → Value) (hc : xRc j1 as K) (hm : xRm j2 as K)
    (w1 : ∀ (ph : pm_H) (E : zEn) (F P G : Nat) (v : Nat → Nat), zSh ph → zCe ph E F → zCt ph 25 P G v → zOk E.1 E.2.1 P G v → zc ph 10 1 = some (.ref F) → zCc ph E.1 E.2.1 E.2.2.1 → zM j1 (.ref 0 :: as) ph (fun v0 _ => v0 = some (f E P G v)))
    (w2 : ∀ (ph : pm_H) (E : zEn) (P G : Nat) (v : Nat → Nat), zSh ph → zMe ph E → zMp ph P G → zNr ph 174 0 v → zOk E.1 E.2.1 P G v → zM j2 (.ref 170 :: as) ph (fun v0 _ => v0 = some (f E P G v)))
    (hq : ∀ (R C sn cn cm : Nat) (rk : Nat → Bool) (sk cd cdm : Nat → Nat), zQe cn cd cm cdm → f (R, C, rk, sn, sk, cn, cd) = f (R, C, rk, sn, sk, cm, cdm)) : xRs j1 j2 as (fun a b => K a ∧ a = b) := xRjoin (fc := zGc f) (fm := zGm f) hc hm
  (fun n z ph _ hS hR => by
    obtain ⟨⟨R, C, rk, sn, sk⟩, ⟨cn, cd, cm, cdm⟩, ⟨F, F2, P, G, nx, u, fl, hn, ch⟩, ⟨v, w, sv, svm⟩, kp, kc⟩ := z
    obtain ⟨-, hpp, ⟨⟨hK, hX⟩, hcc⟩, -⟩ := hR
    exact w1 ph (R, C, rk, sn, sk, cn, cd) F P G v hS hX.1 ⟨⟨by decide, zSs_of hS (S := 25) (by decide)⟩, hK.2.1⟩ hpp.2.2.2.2.1.1 hX.2.1 hcc)
  (fun n z ph _ hS hR => by
    obtain ⟨⟨R, C, rk, sn, sk⟩, ⟨cn, cd, cm, cdm⟩, ⟨F, F2, P, G, nx, u, fl, hn, ch⟩, ⟨v, w, sv, svm⟩, kp, kc⟩ := z
    obtain ⟨-, hpp, -, hM, hE⟩ := hR
    exact w2 ph (R, C, rk, sn, sk, cm, cdm) P G v hS hE hM.2.1 hM.2.2.1 hpp.2.2.2.2.1.1)
  (fun n z ph hR => by
    obtain ⟨⟨R, C, rk, sn, sk⟩, ⟨cn, cd, cm, cdm⟩, ⟨F, F2, P, G, nx, u, fl, hn, ch⟩, ⟨v, w, sv, svm⟩, kp, kc⟩ := z
    obtain ⟨-, hpp, -⟩ := hR
    show f (R, C, rk, sn, sk, cn, cd) P G v = f (R, C, rk, sn, sk, cm, cdm) P G v
    rw [hq R C sn cn cm rk sk cd cdm hpp.1])
theorem xRlookH {j1 j2 : Nat} {as : List Value} {K : Value → Prop} (f : zEn → Nat → Nat → (Nat → Nat) → Value) (hc : xRc j1 as K) (hm : xRm j2 as K)
    (w1 : ∀ (ph : pm_H) (E : zEn) (F P G : Nat) (v : Nat → Nat), zSh ph → zCe ph E F → zCt ph 25 P G v → zOk E.1 E.2.1 P G v → zc ph 10 1 = some (.ref F) → zCc ph E.1 E.2.1 E.2.2.1 → v 40 < 999000 → zM j1 (.ref 0 :: as) ph (fun v0 _ => v0 = some (f E P G v)))
    (w2 : ∀ (ph : pm_H) (E : zEn) (P G : Nat) (v : Nat → Nat), zSh ph → zMe ph E → zMp ph P G → zNr ph 174 0 v → zOk E.1 E.2.1 P G v → v 40 < 999000 → zM j2 (.ref 170 :: as) ph (fun v0 _ => v0 = some (f E P G v)))
    (hq : ∀ (R C sn cn cm : Nat) (rk : Nat → Bool) (sk cd cdm : Nat → Nat), zQe cn cd cm cdm → f (R, C, rk, sn, sk, cn, cd) = f (R, C, rk, sn, sk, cm, cdm)) : xRs j1 j2 as (fun a b => K a ∧ a = b) := xRjoin (fc := zGc f) (fm := zGm f) hc hm
  (fun n z ph hn hS hR => by
    obtain ⟨⟨R, C, rk, sn, sk⟩, ⟨cn, cd, cm, cdm⟩, ⟨F, F2, P, G, nx, u, fl, hn, ch⟩, ⟨v, w, sv, svm⟩, kp, kc⟩ := z
    obtain ⟨-, hpp, ⟨⟨hK, hX⟩, hcc⟩, -⟩ := hR
    exact w1 ph (R, C, rk, sn, sk, cn, cd) F P G v hS hX.1 ⟨⟨by decide, zSs_of hS (S := 25) (by decide)⟩, hK.2.1⟩ hpp.2.2.2.2.1.1 hX.2.1 hcc (by have := hpp.2.2.2.2.1.2; omega))
  (fun n z ph hn hS hR => by
    obtain ⟨⟨R, C, rk, sn, sk⟩, ⟨cn, cd, cm, cdm⟩, ⟨F, F2, P, G, nx, u, fl, hn, ch⟩, ⟨v, w, sv, svm⟩, kp, kc⟩ := z
    obtain ⟨-, hpp, -, hM, hE⟩ := hR
    exact w2 ph (R, C, rk, sn, sk, cm, cdm) P G v hS hE hM.2.1 hM.2.2.1 hpp.2.2.2.2.1.1 (by have := hpp.2.2.2.2.1.2; omega))
  (fun n z ph hR => by
    obtain ⟨⟨R, C, rk, sn, sk⟩, ⟨cn, cd, cm, cdm⟩, ⟨F, F2, P, G, nx, u, fl, hn, ch⟩, ⟨v, w, sv, svm⟩, kp, kc⟩ := z
    obtain ⟨-, hpp, -⟩ := hR
    show f (R, C, rk, sn, sk, cn, cd) P G v = f (R, C, rk, sn, sk, cm, cdm) P G v
    rw [hq R C sn cn cm rk sk cd cdm hpp.1])
theorem xrs_seesE {x : Int32} : xRs 147 257 [.int x] (fun a b => kJ a ∧ a = b) := xRlook (fun E P G v => .long (zXsees E P v x)) xrc_sees xrm_sees (fun _ _ _ _ _ _ a b c d e g => zc_seesX a b c d e g) (fun _ _ _ _ _ a b c d e => zm_seesX a b c d e) (fun R C sn cn cm rk sk cd cdm h => by
  funext P G v
  show Value.long (zXsees (R, C, rk, sn, sk, cn, cd) P v x) = Value.long (zXsees (R, C, rk, sn, sk, cm, cdm) P v x)
  unfold zXsees
  rw [zQ_Vw h])
theorem xrs_seersE {x : Int32} : xRs 148 258 [.int x] (fun a b => kI a ∧ a = b) := xRlook (fun E P G v => .int (zXseers E P v x)) xrc_seers xrm_seers (fun _ _ _ _ _ _ a b c d e g => zc_seersX a b c d e g) (fun _ _ _ _ _ a b c d e => zm_seersX a b c d e) (fun R C sn cn cm rk sk cd cdm h => by
  funext P G v
  show Value.int (zXseers (R, C, rk, sn, sk, cn, cd) P v x) = Value.int (zXseers (R, C, rk, sn, sk, cm, cdm) P v x)
  unfold zXseers
  rw [zQ_Who h])
theorem xrs_behindE {x : Int32} : xRs 151 262 [.int x] (fun a b => kI a ∧ a = b) := xRlook (fun E P G v => .int (zXbeh E P v x)) xrc_behind xrm_behind (fun _ _ _ _ _ _ a b c d e g => zc_behX a b c d e g) (fun _ _ _ _ _ a b c d e => zm_behX a b c d e) (fun R C sn cn cm rk sk cd cdm h => by
  funext P G v
  show Value.int (zXbeh (R, C, rk, sn, sk, cn, cd) P v x) = Value.int (zXbeh (R, C, rk, sn, sk, cm, cdm) P v x)
  unfold zXbeh
  rw [zQ_Who h, zQ_Vw h])
theorem xrs_pairsE : xRs 150 261 [] (fun a b => kI a ∧ a = b) := xRlook (fun E P G v => .int (zn (zXo (zMeet E P v) P P))) xrc_pairs xrm_pairs (fun _ _ _ _ _ _ a b c d e g => zc_pairs a b c d e g) (fun _ _ _ _ _ a b c d e => zm_pairs a b c d e) (fun R C sn cn cm rk sk cd cdm h => by
  funext P G v
  show Value.int (zn (zXo (zMeet (R, C, rk, sn, sk, cn, cd) P v) P P)) = Value.int (zn (zXo (zMeet (R, C, rk, sn, sk, cm, cdm) P v) P P))
  rw [zQ_Meet h])
theorem xrs_widestE : xRs 152 263 [] (fun a b => kI a ∧ a = b) := xRlook (fun E P G v => .int (zXwid E P v)) xrc_widest xrm_widest (fun _ _ _ _ _ _ a b c d e g => zc_widX a b c d e g) (fun _ _ _ _ _ a b c d e => zm_widX a b c d e) (fun R C sn cn cm rk sk cd cdm h => by
  funext P G v
  show Value.int (zXwid (R, C, rk, sn, sk, cn, cd) P v) = Value.int (zXwid (R, C, rk, sn, sk, cm, cdm) P v)
  unfold zXwid
  rw [zQ_Vw h])
theorem xrs_hiddenE : xRs 149 260 [] (fun a b => kJ a ∧ a = b) := xRlook (fun E P G v => .long (zFree E.2.2.1 (E.1 * E.2.1) &&& (zAll E P v ^^^ (-1 : Int64)))) xrc_hidden xrm_hidden (fun _ _ _ _ _ _ a b c d e g => zc_hidX a b c d e g) (fun _ _ _ _ _ a b c d e => zm_hidX a b c d e) (fun R C sn cn cm rk sk cd cdm h => by
  funext P G v
  show Value.long (zFree rk (R * C) &&& (zAll (R, C, rk, sn, sk, cn, cd) P v ^^^ (-1 : Int64))) = Value.long (zFree rk (R * C) &&& (zAll (R, C, rk, sn, sk, cm, cdm) P v ^^^ (-1 : Int64)))
  rw [zQ_All h])
theorem xrs_bearsE {x y : Int32} : xRs 161 278 [.int x, .int y] (fun a b => kI a ∧ a = b) := xRlook (fun E P G v => .int (zXbears E P v x y)) xrc_bears xrm_bears (fun _ _ _ _ _ _ a b c d e g => zc_bearsX a b c d e g) (fun _ _ _ _ _ a b c d e => zm_bearsX a b c d e) (fun R C sn cn cm rk sk cd cdm h => by
  funext P G v
  show Value.int (zXbears (R, C, rk, sn, sk, cn, cd) P v x y) = Value.int (zXbears (R, C, rk, sn, sk, cm, cdm) P v x y)
  unfold zXbears
  rw [zQ_Sw h])
theorem xrs_eighthsE {x y : Int32} : xRs 158 272 [.int x, .int y] (fun a b => kI a ∧ a = b) := xRlook (fun E P G v => .int (zXeig E P v x y)) xrc_eighths xrm_eighths (fun _ _ _ _ _ _ a b c d e g => zc_eigX a b c d e g) (fun _ _ _ _ _ a b c d e => zm_eigX a b c d e) (fun R C sn cn cm rk sk cd cdm h => by
  funext P G v
  show Value.int (zXeig (R, C, rk, sn, sk, cn, cd) P v x y) = Value.int (zXeig (R, C, rk, sn, sk, cm, cdm) P v x y)
  unfold zXeig
  rw [zQ_Re h])
theorem xrs_bestE {x : Int32} : xRs 160 277 [.int x] (fun a b => kI a ∧ a = b) := xRlook (fun E P G v => .int (zXbest E P G v x)) xrc_best xrm_best (fun _ _ _ _ _ _ a b c d e g => zc_bestX a b c d e g) (fun _ _ _ _ _ a b c d e => zm_bestX a b c d e) (fun R C sn cn cm rk sk cd cdm h => by
  funext P G v
  show Value.int (zXbest (R, C, rk, sn, sk, cn, cd) P G v x) = Value.int (zXbest (R, C, rk, sn, sk, cm, cdm) P G v x)
  unfold zXbest zXth
  rw [zQ_Re h])
theorem xrs_stormE {x y z : Int32} : xRs 171 288 [.int x, .int y, .int z] (fun a b => kI a ∧ a = b) := xRlook (fun E P G v => .int (zXstorm (E.1 * E.2.1) x y z)) xrc_storm xrm_storm (fun _ _ _ _ _ _ a b c d e g => zc_stormX a b c d e g) (fun _ _ _ _ _ a b c d e => zm_stormX a b c d e) (fun R C sn cn cm rk sk cd cdm h => by
  funext P G v
  rfl)
theorem xrs_aheadE {x : Int32} : xRs 156 269 [.int x] (fun a b => kI a ∧ a = b) := xRlookH (fun E P G v => .int (zXahd E P G v x)) xrc_ahead xrm_ahead (fun _ _ _ _ _ _ a b c d e g h => zc_ahdX a b c d e g h) (fun _ _ _ _ _ a b c d e h => zm_ahdX a b c d e h) (fun R C sn cn cm rk sk cd cdm h => by
  funext P G v
  show Value.int (zXahd (R, C, rk, sn, sk, cn, cd) P G v x) = Value.int (zXahd (R, C, rk, sn, sk, cm, cdm) P G v x)
  unfold zXahd
  rw [zQ_Hqn h])
theorem xrs_learnsE {x y : Int32} : xRs 154 266 [.int x, .int y] (fun a b => kI a ∧ a = b) := xRlookH (fun E P G v => .int (zXlrn E P G v x y)) xrc_learns xrm_learns (fun _ _ _ _ _ _ a b c d e g h => zc_lrnX a b c d e g h) (fun _ _ _ _ _ a b c d e h => zm_lrnX a b c d e h) (fun R C sn cn cm rk sk cd cdm h => by
  funext P G v
  show Value.int (zXlrn (R, C, rk, sn, sk, cn, cd) P G v x y) = Value.int (zXlrn (R, C, rk, sn, sk, cm, cdm) P G v x y)
  unfold zXlrn
  rw [zQ_Hqn h])
theorem xrs_watchE : xRs 153 265 [] (fun a b => kI a ∧ a = b) := xRlook (fun E P G v => .int (zXwat E P v)) xrc_watch xrm_watch (fun _ _ _ _ _ _ a b c d e g => zc_watX a b c d e g) (fun _ _ _ _ _ a b c d e => zm_watX a b c d e) (fun R C sn cn cm rk sk cd cdm h => by
  funext P G v
  show Value.int (zXwat (R, C, rk, sn, sk, cn, cd) P v) = Value.int (zXwat (R, C, rk, sn, sk, cm, cdm) P v)
  have e : zOw (R, C, rk, sn, sk, cn, cd) P v = zOw (R, C, rk, sn, sk, cm, cdm) P v := by
    funext m
    show decide (zUm (zVw (R, C, rk, sn, sk, cn, cd) P v) m P = zAll (R, C, rk, sn, sk, cn, cd) P v) = decide (zUm (zVw (R, C, rk, sn, sk, cm, cdm) P v) m P = zAll (R, C, rk, sn, sk, cm, cdm) P v)
    rw [zQ_Vw h, zQ_All h]
  unfold zXwat
  rw [e])

/-! ===== BEGIN words of one list among another's, by their places ===== -/
theorem goodIn_r {big : List Cond} (ws : List Cond) (ps : List Nat) (hp : ws = ps.filterMap (fun i => big[i]?)) (h : ws.all goodWord = true) : GoodIn big ws := by
  intro w hw
  have h1 := List.all_eq_true.mp h w hw
  rw [hp] at hw
  obtain ⟨i, -, hi⟩ := List.mem_filterMap.mp hw
  have hm : w ∈ big := by first | exact List.mem_of_getElem? hi | exact List.getElem?_mem hi
  exact ⟨hm, good_of_word h1⟩
theorem goodIn_app {big a b : List Cond} (ha : GoodIn big a) (hb : GoodIn big b) : GoodIn big (a ++ b) := fun w h => (List.mem_append.mp h).elim (ha w) (hb w)
theorem goodIn_ca {big a b : List Cond} {c : Cond} (ha : GoodIn big (c :: a)) (hb : GoodIn big b) : GoodIn big (c :: (a ++ b)) := fun w h => (List.mem_cons.mp h).elim (fun e => ha w (List.mem_cons.mpr (Or.inl e))) (fun h => (List.mem_append.mp h).elim (fun h => ha w (List.mem_cons.mpr (Or.inr h))) (hb w))
theorem goodIn_sub {big ws : List Cond} (hm : ∀ w ∈ ws, w ∈ big) (h : ws.all goodWord = true) : GoodIn big ws := fun w hw => ⟨hm w hw, good_of_word (List.all_eq_true.mp h w hw)⟩
/-! ===== END ===== -/
/-! ===== BEGIN exceptions that leave a method, and their catching by the caller (launches without stack traces) ===== -/
section VXA
/-! The laws vx_back, vx_callV, vx_callS, vx_callSW, vx_throw0, vx_throwS follow proofs of the library, with one case more: JvmDerived/Free/Laws.lean (Back.of_free), Shelf42/LK1.lean (callV, callS), Shelf/KitTraced.lean (throwNew0V, throwNewS). -/
/-- where a method has thrown q: the class by its name, the cell, what was written, the world -/
def vx_T (XC : String → State → State → Prop) (st : State) (q : Addr) (t : State) (mc ms : Nat) (free : Addr → Prop) : Prop :=
  ∃ (E : String) (ce : Cell) (L : List Loc), XC E st t ∧ t.heap[q]? = some ce ∧ ce.vm = .none ∧ st.vm.findClass E = some ce.cls ∧ st.WarmedH t.vm ∧ st.sameButNew ({ t with vm := st.vm } : State) L mc ms ∧ ∀ z ∈ L, free z.base
def vx_Q (Qc : Array Value → State → Outcome → State → Prop) (XC : String → State → State → Prop) (mc ms : Nat) (free : Addr → Prop) : Array Value → State → Outcome → State → Prop := fun a st o t =>
  (Qc a st o t ∧ ∃ L, FrameEnd st o t L mc ms ∧ ∀ q ∈ L, free q.base) ∨ ∃ q, o = .threw q ∧ vx_T XC st q t mc ms free
/-- a callee that returns or throws -/
def vx_Met (l : Launch) (y : MethodName) (ws : List Cond) (rm : Room) (Pc : Array Value → State → Prop) (Qc : Array Value → State → Outcome → State → Prop) (XC : String → State → State → Prop) (mc ms : Nat) (free : Addr → Prop) : Prop :=
  MetFree l y (headSpec ws rm) Pc (fun _ _ _ _ _ => True) (vx_Q Qc XC mc ms free)
def vx_Post (XC : String → State → State → Prop) (mc ms : Nat) (free : Addr → Prop) : Pt → Array Value → Addr → Pt → Prop := fun A a q B =>
  ∃ (g : JFrame) (mk : MethodId) (t : State) (L : List Loc) (E : String) (ce : Cell), B.U.heap = t.heap ∧ B.U.vm = t.vm ∧ XC E (A.U.calling g mk a) t ∧ t.heap[q]? = some ce ∧ ce.vm = .none ∧ A.U.vm.findClass E = some ce.cls ∧ B.locs = A.locs ++ L ∧ (∀ z ∈ L, free z.base) ∧ B.cells = A.cells + mc ∧ B.slots = A.slots + ms
def vx_Back (l : Launch) (R : Room) (p : Program) (e : Env) (below : List Frame) (s : State) (sargs : Array Value) (y : MethodName) (len W9 : Nat)
    (Pre : Pt → Array Value → Prop) (Post : Pt → Array Value → Option Value → Pt → Prop) (PostX : Pt → Array Value → Addr → Pt → Prop) : Prop :=
  ∀ (m : MethodId) (meth : Method) (c : Code) (A : Pt) (g : JFrame) (ig : Instr) (mk : MethodId) (a : Array Value),
    Stand p l e R s m sargs below meth c A.U A.locs A.cells A.slots → g.method = m → g.locals.size = c.maxLocals → decode c.code g.pc = .ok (ig, len) →
    2 * g.monitorRoom + (g.stack.map fun v => v.category).sum ≤ W9 → A.U.methodNamed? y = some mk → Pre A a →
    (∃ (v : Option Value) (B : Pt), Stand p l e R s m sargs below meth c B.U B.locs B.cells B.slots ∧ Post A a v B ∧
      Steps p.tables e below (doInvoke e (A.U.setTop g) [] mk a).1 (B.U.setTop { g with pc := g.pc + len, stack := v.toList ++ g.stack })) ∨
    (∃ (q : Addr) (B : Pt), Stand p l e R s m sargs below meth c B.U B.locs B.cells B.slots ∧ PostX A a q B ∧
      Steps p.tables e below (doInvoke e (A.U.setTop g) [] mk a).1 ((B.U.setTop g).pushFrame (.throwing q)))
section Payer
variable {l : Launch} {R : Room} {p : Program} {e : Env} {below : List Frame} {s : State} {sargs : Array Value} {y : MethodName} {len W9 : Nat}
theorem vx_back {ws : List Cond} {rm : Room} {Pc : Array Value → State → Prop} {Qc : Array Value → State → Outcome → State → Prop} {XC : String → State → State → Prop} {mc ms : Nat} {free : Addr → Prop} {bytes : ByteArray} {maxL : Nat} {ret : Option FieldType}
    (hM : vx_Met l y ws rm Pc Qc XC mc ms free) (hblind : FrameBlind Pc) (hrc : rm.cells = mc) (hrs : rm.slots = ms)
    (hframes : rm.frames + 1 ≤ R.frames) (hlocals : W9 + (maxL + 11) + rm.locals ≤ R.locals)
    (hws : ∀ w ∈ ws, ∀ a' U, s.WarmedH U.vm → w.before a' U = true) (hcode : Cond.code y bytes maxL ret ∈ ws) (hinit : ∀ a' U, s.WarmedH U.vm → (Cond.initialized y.cls).before a' U = true) :
    vx_Back l R p e below s sargs y len W9 (PreOf R mc ms Pc) (PostOf Qc mc ms free) (vx_Post XC mc ms free) := by
  intro m meth c A g ig mk a X hg hsize hdg hW hn hp
  have h1 : (headSpec ws rm).pre.before a A.U = true := atoms_intro fun w hw => hws w hw _ _ X.warmed
  have h2 : (Cond.code y bytes maxL ret).before a A.U = true := hws _ hcode _ _ X.warmed
  have h3 : (Cond.initialized y.cls).before a A.U = true := hinit _ _ X.warmed
  have h4 : A.cells + (headSpec ws rm).room.cells ≤ R.cells := by rw [show (headSpec ws rm).room.cells = mc from hrc]; exact hp.1
  have h5 : A.slots + (headSpec ws rm).room.slots ≤ R.slots := by rw [show (headSpec ws rm).room.slots = ms from hrs]; exact hp.2.1
  have hPc : Pc a (A.U.calling g mk a) := hblind _ _ _ _ hp.2.2
  obtain ⟨U, Ls, c0, s0⟩ := A
  dsimp only [Pt.U, Pt.locs, Pt.cells, Pt.slots] at h1 h2 h3 h4 h5 X hn hPc ⊢
  obtain ⟨methY, cY, hmY, hcY, -, hlY, -, -, -, -⟩ := Cond.code_spec hn h2
  obtain ⟨kY, hkY, -⟩ := className_of_methodNamed hn
  have hinitY : kY.init = .initialized := Cond.initialized_spec (findClass_of_methodNamed hn) hkY h3
  have h : At U g.method c below := by rw [hg]; exact X.here
  have hlocals9 : W9 + (maxL + 11) + (headSpec ws rm).room.locals ≤ R.locals := hlocals
  have happ : (headSpec ws rm).appliesLoose y e.platform (U.calling g mk a) = true :=
    Spec.appliesLoose_calling (g := g) h hdg hn hkY hinitY
      (X.room_calling (g := g) (R' := (headSpec ws rm).room) hsize hmY hcY hframes (by rw [hlY]; omega) h4 h5) h1
  obtain ⟨mid, hmid⟩ := h.above
  have hfr : (U.setTop g).frames = (.java g :: mid) ++ below := by rw [State.frames_setTop' g h.top, hmid]; rfl
  obtain ⟨o, s₂, hsteps, -, hend, hq⟩ := Steps.callFree hM p X.admits X.cas X.clock (acts := []) hfr happ hPc trivial
  have hq' : vx_Q Qc XC mc ms free a (U.calling g mk a) o s₂ := hq
  rw [State.frames_setTop' g h.top] at hend
  obtain ⟨g₀, hg0⟩ := Option.isSome_iff_exists.mp h.top
  obtain ⟨r, hr⟩ := State.topJava?_eq_some.mp hg0
  have hr' : (({ U with heap := s₂.heap, slotsUsed := s₂.slotsUsed } : State).setVm s₂.vm).frames = .java g₀ :: r := hr
  rcases hq' with ⟨hqc, L, hfe, hL⟩ | ⟨q, rfl, E, ce, L, hx, hce, hcv, hcl, hW₂, hsm, hL⟩
  · obtain ⟨⟨v, rfl⟩, hW₂, e2, q2, q3, q4, q5, q6⟩ := id hfe
    have e3 : s₂ = ({ (U.calling g mk a).setFrames s₂.frames with heap := s₂.heap, slotsUsed := s₂.slotsUsed } : State).setVm s₂.vm := by
      have : s₂ = ({ s₂ with vm := (U.calling g mk a).vm } : State).setVm s₂.vm := rfl
      rw [e2] at this
      exact this
    obtain ⟨c₂, i₂, len₂, hc₂, hd₂, hf₂⟩ := hend
    have hW' : U.WarmedH s₂.vm := hW₂
    have hcc : c₂ = c := by
      have h1 : s₂.code? g.method = U.code? g.method := by
        rw [State.code?_eq, State.code?_eq, hW'.alike.method?]
      exact Option.some.inj (hc₂.symm.trans (h1.trans h.code))
    subst hcc
    have hlen : len₂ = len := by rw [hdg] at hd₂; cases hd₂; rfl
    subst hlen
    have hs₂ : s₂ = (({ U with heap := s₂.heap, slotsUsed := s₂.slotsUsed } : State).setVm s₂.vm).setTop { g with pc := g.pc + len₂, stack := v.toList ++ g.stack } := by
      refine e3.trans ?_
      rw [hf₂, State.calling_eq h.top, State.setFrames_setFrames, State.setTop_of_frames _ hr', hr]
      rfl
    have hsame : U.sameButNew ({ U with heap := s₂.heap, slotsUsed := s₂.slotsUsed } : State) L mc ms := by
      refine ⟨?_, q2, q3, q4, q5, q6⟩
      obtain ⟨t, ht, -⟩ := State.frames_cons hr
      show ({ U with heap := s₂.heap, slotsUsed := s₂.slotsUsed } : State) = { U.setFrames U.frames with heap := s₂.heap, slotsUsed := s₂.slotsUsed }
      rw [State.setFrames_self ht]
    subst hg
    refine Or.inl ⟨v, ⟨(({ U with heap := s₂.heap, slotsUsed := s₂.slotsUsed } : State).setVm s₂.vm), Ls ++ L, c0 + mc, s0 + ms⟩,
      ⟨X.admits, X.cas, X.clock, X.frames, X.room, X.hears, X.method, X.code, (X.here.setHeapUsed s₂.heap s₂.slotsUsed).setVm hW'.alike, X.tail, State.WarmedH.trans X.warmed hW', X.limits, X.bytes, X.same.trans (hsame.setVm s.vm)⟩,
      ⟨g, mk, s₂, L, rfl, rfl, hqc, rfl, hL, rfl, rfl⟩, ?_⟩
    show Steps p.tables e below _ ((({ U with heap := s₂.heap, slotsUsed := s₂.slotsUsed } : State).setVm s₂.vm).setTop { g with pc := g.pc + len₂, stack := v.toList ++ g.stack })
    rw [← hs₂]
    exact hsteps
  · obtain ⟨e2, q2, q3, q4, q5, q6⟩ := id hsm
    have e3 : s₂ = ({ (U.calling g mk a).setFrames s₂.frames with heap := s₂.heap, slotsUsed := s₂.slotsUsed } : State).setVm s₂.vm := by
      have : s₂ = ({ s₂ with vm := (U.calling g mk a).vm } : State).setVm s₂.vm := rfl
      rw [e2] at this
      exact this
    have hf₂ : s₂.frames = .throwing q :: .java g :: U.frames.tail := hend
    have hW' : U.WarmedH s₂.vm := hW₂
    have hs₂ : s₂ = ((({ U with heap := s₂.heap, slotsUsed := s₂.slotsUsed } : State).setVm s₂.vm).setTop g).pushFrame (.throwing q) := by
      refine e3.trans ?_
      rw [hf₂, State.calling_eq h.top, State.setFrames_setFrames, State.pushFrame, State.frames_setTop _ hr', State.setTop_of_frames _ hr', State.setFrames_setFrames, hr]
      rfl
    have hsame : U.sameButNew ({ U with heap := s₂.heap, slotsUsed := s₂.slotsUsed } : State) L mc ms := by
      refine ⟨?_, q2, q3, q4, q5, q6⟩
      obtain ⟨t, ht, -⟩ := State.frames_cons hr
      show ({ U with heap := s₂.heap, slotsUsed := s₂.slotsUsed } : State) = { U.setFrames U.frames with heap := s₂.heap, slotsUsed := s₂.slotsUsed }
      rw [State.setFrames_self ht]
    subst hg
    refine Or.inr ⟨q, ⟨(({ U with heap := s₂.heap, slotsUsed := s₂.slotsUsed } : State).setVm s₂.vm), Ls ++ L, c0 + mc, s0 + ms⟩,
      ⟨X.admits, X.cas, X.clock, X.frames, X.room, X.hears, X.method, X.code, (X.here.setHeapUsed s₂.heap s₂.slotsUsed).setVm hW'.alike, X.tail, State.WarmedH.trans X.warmed hW', X.limits, X.bytes, X.same.trans (hsame.setVm s.vm)⟩,
      ⟨g, mk, s₂, L, E, ce, rfl, rfl, hx, hce, hcv, hcl, rfl, hL, rfl, rfl⟩, ?_⟩
    show Steps p.tables e below _ (((({ U with heap := s₂.heap, slotsUsed := s₂.slotsUsed } : State).setVm s₂.vm).setTop g).pushFrame (.throwing q))
    rw [← hs₂]
    exact hsteps
end Payer
section Calls
variable {p : Program} {l : Launch} {e : Env} {R : Room} {s : State} {m : MethodId} {args : Array Value} {below : List Frame} {meth : Method} {c : Code} {T : State} {locs : List Loc} {cells slots : Nat}
theorem vx_callV (X : Stand p l e R s m args below meth c T locs cells slots) (hexec : p.tables.exec = Jvm.exec) {own C : String} {index : Nat} {y : MethodName} {bytes : ByteArray} {maxL : Nat} {ret : Option FieldType}
    (hown : s.vm.findClass own = some m.cls) (hlink : (Cond.methodLink own index y).before args s = true) (hinst : (Cond.instanceMethod y).before args s = true) (hsel : (Cond.selects C y y).before args s = true)
    (hcode : (Cond.code y bytes maxL ret).before args s = true) (hy : y.cls ≠ "java/lang/invoke/MethodHandle" ∧ y.cls ≠ "java/lang/invoke/VarHandle")
    {W9 : Nat} {Pre : Pt → Array Value → Prop} {Post : Pt → Array Value → Option Value → Pt → Prop} {PostX : Pt → Array Value → Addr → Pt → Prop} (hK : vx_Back l R p e below s args y 3 W9 Pre Post PostX)
    {b : Addr} {cellB : Cell} (hcell : T.heap[b]? = some cellB) (hobj : cellB.vm.isStatics = false) (hcls : s.vm.findClass C = some cellB.cls)
    {g : JFrame} (hg : g.method = m) (hsize : g.locals.size = c.maxLocals) {argsL rest : List Value} (hlen : ∀ sig, parseMethodDescriptor y.desc = some sig → argsL.length = sig.parameters.length)
    (hstack : g.stack = argsL.reverse ++ .ref b :: rest) (hW : 2 * g.monitorRoom + (rest.map fun v => v.category).sum ≤ W9) (hdg : decode c.code g.pc = .ok (.invokevirtual index, 3))
    (hpre : ∀ vm₁, s.WarmedH vm₁ → Pre ⟨T.setVm vm₁, locs, cells, slots⟩ (Value.ref b :: argsL).toArray) :
    (∃ (v : Option Value) (vm₁ : Vm) (B : Pt), s.WarmedH vm₁ ∧ Stand p l e R s m args below meth c B.U B.locs B.cells B.slots ∧ Post ⟨T.setVm vm₁, locs, cells, slots⟩ (Value.ref b :: argsL).toArray v B ∧
      ∀ target, Steps p.tables e below (B.U.setTop { g with pc := g.pc + 3, stack := v.toList ++ rest }) target → Steps p.tables e below (T.setTop g) target) ∨
    (∃ (q : Addr) (vm₁ : Vm) (B : Pt), s.WarmedH vm₁ ∧ Stand p l e R s m args below meth c B.U B.locs B.cells B.slots ∧ PostX ⟨T.setVm vm₁, locs, cells, slots⟩ (Value.ref b :: argsL).toArray q B ∧
      Steps p.tables e below (T.setTop g) ((B.U.setTop { g with stack := rest }).pushFrame (.throwing q))) := by
  obtain ⟨mk, methM, hnamed, hmethM, hstM, habM⟩ := Cond.instanceMethod_spec hinst
  obtain ⟨methM', cM, hmethM', -, -, -, -, -, -, hsigM⟩ := Cond.code_spec hnamed hcode
  cases hmethM.symm.trans hmethM'
  obtain ⟨c2, r2, m2, q1, q2, q3, q4, kP, hkP, hkPi⟩ := Cond.selects_spec hsel
  cases hcls.symm.trans q1
  cases (State.methodFound?_of_named hnamed hy).symm.trans q2
  cases hnamed.symm.trans q3
  have hselP : selectMethod e.platform s.vm cellB.cls mk = .method mk := by rw [Launch.admits_selectMethod X.admits]; exact q4
  obtain ⟨vm₁, X₁, hstep₁⟩ := X.invokevirtual hexec hown hlink hnamed hmethM hstM hkP hkPi hy (a := b) (cell := cellB) hcell
    (fun z h => by rw [h] at hobj; cases hobj) hselP hmethM habM hkP hkPi (g := g) hg (argsL := argsL) (rest := rest) (hlen _ hsigM) hstack hdg
  rcases hK m meth c ⟨T.setVm vm₁, locs, cells, slots⟩ { g with stack := rest } (.invokevirtual index) mk (Value.ref b :: argsL).toArray X₁ hg hsize hdg hW (X₁.named hnamed) (hpre vm₁ X₁.warmed) with ⟨v, B, X', hpost, hsteps⟩ | ⟨q, B, X', hpost, hsteps⟩
  · exact Or.inl ⟨v, vm₁, B, X₁.warmed, X', hpost, fun target h => hstep₁ _ fun acts => by rw [doInvoke_state]; exact hsteps.trans h⟩
  · exact Or.inr ⟨q, vm₁, B, X₁.warmed, X', hpost, hstep₁ _ fun acts => by rw [doInvoke_state]; exact hsteps⟩
theorem vx_callS (X : Stand p l e R s m args below meth c T locs cells slots) (hexec : p.tables.exec = Jvm.exec) {own : String} {index : Nat} {y : MethodName} {bytes : ByteArray} {maxL : Nat} {ret : Option FieldType}
    (hown : s.vm.findClass own = some m.cls) (hlink : (Cond.methodLink own index y).before args s = true) (hstat : (Cond.static y).before args s = true) (hinit : (Cond.initialized y.cls).before args s = true)
    (hcode : (Cond.code y bytes maxL ret).before args s = true) (hy : y.cls ≠ "java/lang/invoke/MethodHandle" ∧ y.cls ≠ "java/lang/invoke/VarHandle")
    {W9 : Nat} {Pre : Pt → Array Value → Prop} {Post : Pt → Array Value → Option Value → Pt → Prop} {PostX : Pt → Array Value → Addr → Pt → Prop} (hK : vx_Back l R p e below s args y 3 W9 Pre Post PostX)
    {g : JFrame} (hg : g.method = m) (hsize : g.locals.size = c.maxLocals) {argsL rest : List Value} (hlen : ∀ sig, parseMethodDescriptor y.desc = some sig → argsL.length = sig.parameters.length)
    (hstack : g.stack = argsL.reverse ++ rest) (hW : 2 * g.monitorRoom + (rest.map fun v => v.category).sum ≤ W9) (hdg : decode c.code g.pc = .ok (.invokestatic index, 3))
    (hpre : ∀ vm₁, s.WarmedH vm₁ → Pre ⟨T.setVm vm₁, locs, cells, slots⟩ argsL.toArray) :
    (∃ (v : Option Value) (vm₁ : Vm) (B : Pt), s.WarmedH vm₁ ∧ Stand p l e R s m args below meth c B.U B.locs B.cells B.slots ∧ Post ⟨T.setVm vm₁, locs, cells, slots⟩ argsL.toArray v B ∧
      ∀ target, Steps p.tables e below (B.U.setTop { g with pc := g.pc + 3, stack := v.toList ++ rest }) target → Steps p.tables e below (T.setTop g) target) ∨
    (∃ (q : Addr) (vm₁ : Vm) (B : Pt), s.WarmedH vm₁ ∧ Stand p l e R s m args below meth c B.U B.locs B.cells B.slots ∧ PostX ⟨T.setVm vm₁, locs, cells, slots⟩ argsL.toArray q B ∧
      Steps p.tables e below (T.setTop g) ((B.U.setTop { g with stack := rest }).pushFrame (.throwing q))) := by
  obtain ⟨mk, hnamed⟩ := Cond.code_named hcode
  obtain ⟨methM, cM, hmethM, -, -, -, -, -, -, hsigM⟩ := Cond.code_spec hnamed hcode
  have hstatic : methM.isStatic = true := Cond.static_spec hnamed hmethM hstat
  obtain ⟨kP, hkP, -⟩ := className_of_methodNamed hnamed
  have hinitP : kP.init = .initialized := Cond.initialized_spec (findClass_of_methodNamed hnamed) hkP hinit
  obtain ⟨vm₁, X₁, hstep₁⟩ := X.invokestatic hexec hown hlink hnamed hmethM hstatic hkP hinitP hy (g := g) hg (argsL := argsL) (rest := rest) (hlen _ hsigM) hstack hdg
  rcases hK m meth c ⟨T.setVm vm₁, locs, cells, slots⟩ { g with stack := rest } (.invokestatic index) mk argsL.toArray X₁ hg hsize hdg hW (X₁.named hnamed) (hpre vm₁ X₁.warmed) with ⟨v, B, X', hpost, hsteps⟩ | ⟨q, B, X', hpost, hsteps⟩
  · exact Or.inl ⟨v, vm₁, B, X₁.warmed, X', hpost, fun target h => hstep₁ _ fun acts => by rw [doInvoke_state]; exact hsteps.trans h⟩
  · exact Or.inr ⟨q, vm₁, B, X₁.warmed, X', hpost, hstep₁ _ fun acts => by rw [doInvoke_state]; exact hsteps⟩
end Calls
theorem vx_cls {s : State} {T : State} {vm₁ : Vm} {E : String} {k : ClassId} (hW : s.WarmedH vm₁) (h : (T.setVm vm₁).vm.findClass E = some k) : s.vm.findClass E = some k := by
  have h1 : vm₁.findClass E = some k := h
  rw [hW.alike.findClass] at h1
  exact h1
/-- the method's frame g, with q thrown over it -/
def vx_W (p : Program) (l : Launch) (e : Env) (R : Room) (s : State) (m : MethodId) (args : Array Value) (below : List Frame) (meth : Method) (c : Code) (H : Heap) (locs : List Loc) (cells slots : Nat) (Q : State → Prop) (g : JFrame) (q : Addr) : Prop :=
  ∀ T : State, T.heap = H → Stand p l e R s m args below meth c T locs cells slots → ∃ t, Steps p.tables e below ((T.setTop g).pushFrame (.throwing q)) t ∧ Q t
def vx_Run (p : Program) (l : Launch) (e : Env) (R : Room) (s : State) (m : MethodId) (args : Array Value) (below : List Frame) (meth : Method) (c : Code) (H : Heap) (locs : List Loc) (cells slots mc ms : Nat) (g : JFrame) (rest : List Value) (Qa : State → Outcome → State → Prop) (XC : String → State → State → Prop) (free : Addr → Prop) : Prop :=
  ∀ T : State, T.heap = H → Stand p l e R s m args below meth c T locs cells slots →
    (∃ (v : Option Value) (st₀ t T' : State) (L : List Loc), st₀.heap = H ∧ Stand p l e R s m args below meth c T' (locs ++ L) (cells + mc) (slots + ms) ∧ (∀ q ∈ L, free q.base) ∧ T'.heap = t.heap ∧ T'.vm = t.vm ∧ Qa st₀ (.returned v) t ∧
      Goes p e below T g T' { g with pc := g.pc + 3, stack := v.toList ++ rest }) ∨
    (∃ (q : Addr) (st₀ t T' : State) (L : List Loc) (E : String) (ce : Cell), st₀.heap = H ∧ Stand p l e R s m args below meth c T' (locs ++ L) (cells + mc) (slots + ms) ∧ (∀ z ∈ L, free z.base) ∧ T'.heap = t.heap ∧ T'.vm = t.vm ∧ XC E st₀ t ∧ t.heap[q]? = some ce ∧ ce.vm = .none ∧ s.vm.findClass E = some ce.cls ∧
      Steps p.tables e below (T.setTop g) ((T'.setTop { g with stack := rest }).pushFrame (.throwing q)))
def vx_X {S : Type} (px : S → Prop) (B : String → S → State → Prop) (A : Nat → Prop) : String → State → State → Prop := fun E st t => ∃ u : S, px u ∧ B E u t ∧ va_F A st t
section Runs
variable {p : Program} {l : Launch} {e : Env} {R : Room} {s : State} {m : MethodId} {args : Array Value} {below : List Frame} {meth : Method} {c : Code} {H : Heap} {locs : List Loc} {cells slots : Nat}
variable {y : MethodName} {bytes cc : ByteArray} {maxL nL mc ms n index : Nat} {ret : Option FieldType} {ws : List Cond} {rm : Room} {Pc : Array Value → State → Prop} {Qc : Array Value → State → Outcome → State → Prop} {XC : String → State → State → Prop} {free : Addr → Prop} {Ts : List Cond} {own C : String} {b : Addr} {As rest : List Value} {g : JFrame}
theorem vx_callBack (cb : CallB R s args own index y bytes maxL ret ws rm mc ms n) (hM : vx_Met l y ws rm Pc Qc XC mc ms free) (hbl : FrameBlind Pc) : vx_Back l R p e below s args y 3 8 (PreOf R mc ms Pc) (PostOf Qc mc ms free) (vx_Post XC mc ms free) := by
  obtain ⟨hrc, hrs, hfr, hlo, hws, hcw, -, hini, -⟩ := cb
  exact vx_back (bytes := bytes) (maxL := maxL) (ret := ret) hM hbl hrc hrs hfr hlo hws hcw (fun a' U hW => word_at hW (Or.inl (by first | rfl | simp [Cond.onTables, Cond.keeps, Cond.steady])) hini)
theorem vx_runV (S : CallFix p m c cc nL s args Ts own) (hM : vx_Met l y ws rm Pc Qc XC mc ms free) (cw : CallW R s args own C index y bytes maxL ret ws rm mc ms n) (hp : PreV s H C b Pc As)
    (hg : g.method = m) (hn : As.length = n) (hsize : g.locals.size = nL) (hstack : g.stack = As.reverse ++ .ref b :: rest) (hW : 2 * g.monitorRoom + (rest.map fun v => v.category).sum ≤ 8) (hdg : decode cc g.pc = .ok (.invokevirtual index, 3)) (hf : cells + mc ≤ R.cells ∧ slots + ms ≤ R.slots) :
    vx_Run p l e R s m args below meth c H locs cells slots mc ms g rest (Qc (Value.ref b :: As).toArray) XC free := by
  have hK : vx_Back l R p e below s args y 3 8 (PreOf R mc ms Pc) (PostOf Qc mc ms free) (vx_Post XC mc ms free) := vx_callBack cw.1 hM hp.1
  obtain ⟨⟨-, -, -, -, -, -, hcode, -, hy, hlen, hl⟩, hin, hse⟩ := cw
  obtain ⟨hx, hb, hml, ho, -⟩ := S
  obtain ⟨-, ⟨cellB, hcB, hoB, hclB⟩, hPc⟩ := hp
  intro T hT X
  rcases vx_callV X hx (C := C) (bytes := bytes) (maxL := maxL) (ret := ret) ho hl hin hse hcode hy hK (by rw [hT]; exact hcB) hoB hclB hg (hsize.trans hml.symm) (argsL := As) (rest := rest) (fun sig h => hn.trans (hlen sig h)) hstack hW (by rw [hb]; exact hdg)
    (fun vm₁ hW₁ => ⟨hf.1, hf.2, hPc (T.setVm vm₁) hT hW₁⟩) with ⟨v, vm₁, ⟨U', l2, c2, s2⟩, hW₁, X', ⟨g', mk, t, L, e1, e2, hq, h1, hL, h2, h3⟩, st⟩ | ⟨q, vm₁, ⟨U', l2, c2, s2⟩, hW₁, X', ⟨g', mk, t, L, E, ce, e1, e2, hq, hce, hcv, hcl, h1, hL, h2, h3⟩, st⟩
  · dsimp only [Pt.U, Pt.locs, Pt.cells, Pt.slots] at X' e1 e2 h1 h2 h3 st
    subst h1; subst h2; subst h3
    exact Or.inl ⟨v, (T.setVm vm₁).calling g' mk (Value.ref b :: As).toArray, t, U', L, hT, X', hL, e1, e2, hq, st⟩
  · dsimp only [Pt.U, Pt.locs, Pt.cells, Pt.slots] at X' e1 e2 h1 h2 h3 st hcl
    subst h1; subst h2; subst h3
    exact Or.inr ⟨q, (T.setVm vm₁).calling g' mk (Value.ref b :: As).toArray, t, U', L, E, ce, hT, X', hL, e1, e2, hq, hce, hcv, vx_cls hW₁ hcl, st⟩
theorem vx_runS (S : CallFix p m c cc nL s args Ts own) (hM : vx_Met l y ws rm Pc Qc XC mc ms free) (cw : CallB R s args own index y bytes maxL ret ws rm mc ms n ∧ (Cond.static y).before args s = true) (hp : PreS s H Pc As)
    (hg : g.method = m) (hn : As.length = n) (hsize : g.locals.size = nL) (hstack : g.stack = As.reverse ++ rest) (hW : 2 * g.monitorRoom + (rest.map fun v => v.category).sum ≤ 8) (hdg : decode cc g.pc = .ok (.invokestatic index, 3)) (hf : cells + mc ≤ R.cells ∧ slots + ms ≤ R.slots) :
    vx_Run p l e R s m args below meth c H locs cells slots mc ms g rest (Qc As.toArray) XC free := by
  have hK : vx_Back l R p e below s args y 3 8 (PreOf R mc ms Pc) (PostOf Qc mc ms free) (vx_Post XC mc ms free) := vx_callBack cw.1 hM hp.1
  obtain ⟨⟨-, -, -, -, -, -, hcode, hini, hy, hlen, hl⟩, hstt⟩ := cw
  obtain ⟨hx, hb, hml, ho, -⟩ := S
  intro T hT X
  rcases vx_callS X hx (bytes := bytes) (maxL := maxL) (ret := ret) ho hl hstt hini hcode hy hK hg (hsize.trans hml.symm) (argsL := As) (rest := rest) (fun sig h => hn.trans (hlen sig h)) hstack hW (by rw [hb]; exact hdg)
    (fun vm₁ hW₁ => ⟨hf.1, hf.2, hp.2 (T.setVm vm₁) hT hW₁⟩) with ⟨v, vm₁, ⟨U', l2, c2, s2⟩, hW₁, X', ⟨g', mk, t, L, e1, e2, hq, h1, hL, h2, h3⟩, st⟩ | ⟨q, vm₁, ⟨U', l2, c2, s2⟩, hW₁, X', ⟨g', mk, t, L, E, ce, e1, e2, hq, hce, hcv, hcl, h1, hL, h2, h3⟩, st⟩
  · dsimp only [Pt.U, Pt.locs, Pt.cells, Pt.slots] at X' e1 e2 h1 h2 h3 st
    subst h1; subst h2; subst h3
    exact Or.inl ⟨v, (T.setVm vm₁).calling g' mk As.toArray, t, U', L, hT, X', hL, e1, e2, hq, st⟩
  · dsimp only [Pt.U, Pt.locs, Pt.cells, Pt.slots] at X' e1 e2 h1 h2 h3 st hcl
    subst h1; subst h2; subst h3
    exact Or.inr ⟨q, (T.setVm vm₁).calling g' mk As.toArray, t, U', L, E, ce, hT, X', hL, e1, e2, hq, hce, hcv, vx_cls hW₁ hcl, st⟩
end Runs
section Rows
variable {p : Program} {l : Launch} {e : Env} {R : Room} {s : State} {m : MethodId} {args : Array Value} {below : List Frame} {meth : Method} {c : Code} {H : Heap} {locs : List Loc} {cells slots : Nat} {Q : State → Prop}
variable {mc ms : Nat} {free : Addr → Prop} {A0 A1 : Nat → Prop} {H0 : Heap} {a : Array Value} {pc : Nat} {ls : Array Slot} {st0 rest : List Value}
theorem vx_keep {st₀ t T' : State} {L : List Loc} (h0 : st₀.heap = H) (e1 : T'.heap = t.heap) (hS : va_S A0 H0 H locs) (hA : ∀ q, q < H.size → A1 q → A0 q) (hf : ∀ q, free q → A0 q) (hL : ∀ q ∈ L, free q.base) (hF : va_F A1 st₀ t) :
    H.size ≤ T'.heap.size ∧ (∀ q : Nat, q < H.size → ¬ A1 q → T'.heap[q]? = H[q]?) ∧ va_S A0 H0 T'.heap (locs ++ L) := by
  obtain ⟨hz, hk⟩ := hF
  rw [h0] at hz hk
  exact ⟨by rw [e1]; exact hz, fun q h1 h2 => by rw [e1]; exact hk q h1 h2,
    ⟨Nat.le_trans hS.1 (by rw [e1]; exact hz), fun q h1 h2 => by rw [e1, hk q (Nat.lt_of_lt_of_le h1 hS.1) (fun z => h2 (hA q (Nat.lt_of_lt_of_le h1 hS.1) z))]; exact hS.2.1 q h1 h2, fun q hq => by
      rcases List.mem_append.mp hq with h | h
      · exact hS.2.2 q h
      · exact hf _ (hL q h)⟩⟩
theorem vx_calli {S SX : Type} {post : Int32 → S → Prop} {px : SX → Prop} {B : S → State → Prop} {BX : String → SX → State → Prop} {AX : Nat → Prop} (hr : vx_Run p l e R s m args below meth c H locs cells slots mc ms (F0 m pc ls st0) rest (va_Qi post B A1 a) (vx_X px BX AX) free) (hS : va_S A0 H0 H locs) (hA : ∀ q, q < H.size → A1 q → A0 q) (hf : ∀ q, free q → A0 q) (hAX : ∀ q, q < H.size → AX q → A0 q)
    (kx : ∀ (E : String) (ce : Cell) (q9 : Addr) (u : SX) (t : State) (H1 : Heap) (locs1 : List Loc), t.heap = H1 → s.vm.Alike t.vm → px u → BX E u t → H.size ≤ H1.size → (∀ q : Nat, q < H.size → ¬ AX q → H1[q]? = H[q]?) → va_S A0 H0 H1 locs1 → H1[q9]? = some ce → ce.vm = .none → s.vm.findClass E = some ce.cls → vx_W p l e R s m args below meth c H1 locs1 (cells + mc) (slots + ms) Q (F0 m pc ls rest) q9)
    (kk : ∀ (r : Int32) (u : S) (t : State) (H1 : Heap) (locs1 : List Loc), t.heap = H1 → s.vm.Alike t.vm → post r u → B u t → H.size ≤ H1.size → (∀ q : Nat, q < H.size → ¬ A1 q → H1[q]? = H[q]?) → va_S A0 H0 H1 locs1 → W p l e R s m args below meth c H1 locs1 (cells + mc) (slots + ms) Q (F0 m (pc + 3) ls (.int r :: rest))) : W p l e R s m args below meth c H locs cells slots Q (F0 m pc ls st0) := by
  intro T hT X
  rcases hr T hT X with ⟨v, st₀, t, T', L, h0, X', hL, e1, e2, ⟨⟨r, u, hv, hp, hb⟩, hF⟩, st⟩ | ⟨q, st₀, t, T', L, E, ce, h0, X', hL, e1, e2, ⟨u, hp, hb, hF⟩, hce, hcv, hcl, st⟩
  · cases hv
    obtain ⟨k1, k2, k3⟩ := vx_keep h0 e1 hS hA hf hL hF
    obtain ⟨t2, a1, b1⟩ := kk r u t T'.heap (locs ++ L) e1.symm (by rw [← e2]; exact X'.warmed.alike) hp hb k1 k2 k3 T' rfl X'
    exact ⟨t2, st t2 a1, b1⟩
  · obtain ⟨k1, k2, k3⟩ := vx_keep h0 e1 hS hAX hf hL hF
    obtain ⟨t2, a1, b1⟩ := kx E ce q u t T'.heap (locs ++ L) e1.symm (by rw [← e2]; exact X'.warmed.alike) hp hb k1 k2 k3 (by rw [e1]; exact hce) hcv hcl T' rfl X'
    exact ⟨t2, st.trans a1, b1⟩
theorem vx_calll {S SX : Type} {post : Int64 → S → Prop} {px : SX → Prop} {B : S → State → Prop} {BX : String → SX → State → Prop} {AX : Nat → Prop} (hr : vx_Run p l e R s m args below meth c H locs cells slots mc ms (F0 m pc ls st0) rest (va_Ql post B A1 a) (vx_X px BX AX) free) (hS : va_S A0 H0 H locs) (hA : ∀ q, q < H.size → A1 q → A0 q) (hf : ∀ q, free q → A0 q) (hAX : ∀ q, q < H.size → AX q → A0 q)
    (kx : ∀ (E : String) (ce : Cell) (q9 : Addr) (u : SX) (t : State) (H1 : Heap) (locs1 : List Loc), t.heap = H1 → s.vm.Alike t.vm → px u → BX E u t → H.size ≤ H1.size → (∀ q : Nat, q < H.size → ¬ AX q → H1[q]? = H[q]?) → va_S A0 H0 H1 locs1 → H1[q9]? = some ce → ce.vm = .none → s.vm.findClass E = some ce.cls → vx_W p l e R s m args below meth c H1 locs1 (cells + mc) (slots + ms) Q (F0 m pc ls rest) q9)
    (kk : ∀ (r : Int64) (u : S) (t : State) (H1 : Heap) (locs1 : List Loc), t.heap = H1 → s.vm.Alike t.vm → post r u → B u t → H.size ≤ H1.size → (∀ q : Nat, q < H.size → ¬ A1 q → H1[q]? = H[q]?) → va_S A0 H0 H1 locs1 → W p l e R s m args below meth c H1 locs1 (cells + mc) (slots + ms) Q (F0 m (pc + 3) ls (.long r :: rest))) : W p l e R s m args below meth c H locs cells slots Q (F0 m pc ls st0) := by
  intro T hT X
  rcases hr T hT X with ⟨v, st₀, t, T', L, h0, X', hL, e1, e2, ⟨⟨r, u, hv, hp, hb⟩, hF⟩, st⟩ | ⟨q, st₀, t, T', L, E, ce, h0, X', hL, e1, e2, ⟨u, hp, hb, hF⟩, hce, hcv, hcl, st⟩
  · cases hv
    obtain ⟨k1, k2, k3⟩ := vx_keep h0 e1 hS hA hf hL hF
    obtain ⟨t2, a1, b1⟩ := kk r u t T'.heap (locs ++ L) e1.symm (by rw [← e2]; exact X'.warmed.alike) hp hb k1 k2 k3 T' rfl X'
    exact ⟨t2, st t2 a1, b1⟩
  · obtain ⟨k1, k2, k3⟩ := vx_keep h0 e1 hS hAX hf hL hF
    obtain ⟨t2, a1, b1⟩ := kx E ce q u t T'.heap (locs ++ L) e1.symm (by rw [← e2]; exact X'.warmed.alike) hp hb k1 k2 k3 (by rw [e1]; exact hce) hcv hcl T' rfl X'
    exact ⟨t2, st.trans a1, b1⟩
theorem vx_callf {S SX : Type} {post : UInt32 → S → Prop} {px : SX → Prop} {B : S → State → Prop} {BX : String → SX → State → Prop} {AX : Nat → Prop} (hr : vx_Run p l e R s m args below meth c H locs cells slots mc ms (F0 m pc ls st0) rest (va_Qf post B A1 a) (vx_X px BX AX) free) (hS : va_S A0 H0 H locs) (hA : ∀ q, q < H.size → A1 q → A0 q) (hf : ∀ q, free q → A0 q) (hAX : ∀ q, q < H.size → AX q → A0 q)
    (kx : ∀ (E : String) (ce : Cell) (q9 : Addr) (u : SX) (t : State) (H1 : Heap) (locs1 : List Loc), t.heap = H1 → s.vm.Alike t.vm → px u → BX E u t → H.size ≤ H1.size → (∀ q : Nat, q < H.size → ¬ AX q → H1[q]? = H[q]?) → va_S A0 H0 H1 locs1 → H1[q9]? = some ce → ce.vm = .none → s.vm.findClass E = some ce.cls → vx_W p l e R s m args below meth c H1 locs1 (cells + mc) (slots + ms) Q (F0 m pc ls rest) q9)
    (kk : ∀ (r : UInt32) (u : S) (t : State) (H1 : Heap) (locs1 : List Loc), t.heap = H1 → s.vm.Alike t.vm → post r u → B u t → H.size ≤ H1.size → (∀ q : Nat, q < H.size → ¬ A1 q → H1[q]? = H[q]?) → va_S A0 H0 H1 locs1 → W p l e R s m args below meth c H1 locs1 (cells + mc) (slots + ms) Q (F0 m (pc + 3) ls (.float r :: rest))) : W p l e R s m args below meth c H locs cells slots Q (F0 m pc ls st0) := by
  intro T hT X
  rcases hr T hT X with ⟨v, st₀, t, T', L, h0, X', hL, e1, e2, ⟨⟨r, u, hv, hp, hb⟩, hF⟩, st⟩ | ⟨q, st₀, t, T', L, E, ce, h0, X', hL, e1, e2, ⟨u, hp, hb, hF⟩, hce, hcv, hcl, st⟩
  · cases hv
    obtain ⟨k1, k2, k3⟩ := vx_keep h0 e1 hS hA hf hL hF
    obtain ⟨t2, a1, b1⟩ := kk r u t T'.heap (locs ++ L) e1.symm (by rw [← e2]; exact X'.warmed.alike) hp hb k1 k2 k3 T' rfl X'
    exact ⟨t2, st t2 a1, b1⟩
  · obtain ⟨k1, k2, k3⟩ := vx_keep h0 e1 hS hAX hf hL hF
    obtain ⟨t2, a1, b1⟩ := kx E ce q u t T'.heap (locs ++ L) e1.symm (by rw [← e2]; exact X'.warmed.alike) hp hb k1 k2 k3 (by rw [e1]; exact hce) hcv hcl T' rfl X'
    exact ⟨t2, st.trans a1, b1⟩
theorem vx_calld {S SX : Type} {post : UInt64 → S → Prop} {px : SX → Prop} {B : S → State → Prop} {BX : String → SX → State → Prop} {AX : Nat → Prop} (hr : vx_Run p l e R s m args below meth c H locs cells slots mc ms (F0 m pc ls st0) rest (va_Qd post B A1 a) (vx_X px BX AX) free) (hS : va_S A0 H0 H locs) (hA : ∀ q, q < H.size → A1 q → A0 q) (hf : ∀ q, free q → A0 q) (hAX : ∀ q, q < H.size → AX q → A0 q)
    (kx : ∀ (E : String) (ce : Cell) (q9 : Addr) (u : SX) (t : State) (H1 : Heap) (locs1 : List Loc), t.heap = H1 → s.vm.Alike t.vm → px u → BX E u t → H.size ≤ H1.size → (∀ q : Nat, q < H.size → ¬ AX q → H1[q]? = H[q]?) → va_S A0 H0 H1 locs1 → H1[q9]? = some ce → ce.vm = .none → s.vm.findClass E = some ce.cls → vx_W p l e R s m args below meth c H1 locs1 (cells + mc) (slots + ms) Q (F0 m pc ls rest) q9)
    (kk : ∀ (r : UInt64) (u : S) (t : State) (H1 : Heap) (locs1 : List Loc), t.heap = H1 → s.vm.Alike t.vm → post r u → B u t → H.size ≤ H1.size → (∀ q : Nat, q < H.size → ¬ A1 q → H1[q]? = H[q]?) → va_S A0 H0 H1 locs1 → W p l e R s m args below meth c H1 locs1 (cells + mc) (slots + ms) Q (F0 m (pc + 3) ls (.double r :: rest))) : W p l e R s m args below meth c H locs cells slots Q (F0 m pc ls st0) := by
  intro T hT X
  rcases hr T hT X with ⟨v, st₀, t, T', L, h0, X', hL, e1, e2, ⟨⟨r, u, hv, hp, hb⟩, hF⟩, st⟩ | ⟨q, st₀, t, T', L, E, ce, h0, X', hL, e1, e2, ⟨u, hp, hb, hF⟩, hce, hcv, hcl, st⟩
  · cases hv
    obtain ⟨k1, k2, k3⟩ := vx_keep h0 e1 hS hA hf hL hF
    obtain ⟨t2, a1, b1⟩ := kk r u t T'.heap (locs ++ L) e1.symm (by rw [← e2]; exact X'.warmed.alike) hp hb k1 k2 k3 T' rfl X'
    exact ⟨t2, st t2 a1, b1⟩
  · obtain ⟨k1, k2, k3⟩ := vx_keep h0 e1 hS hAX hf hL hF
    obtain ⟨t2, a1, b1⟩ := kx E ce q u t T'.heap (locs ++ L) e1.symm (by rw [← e2]; exact X'.warmed.alike) hp hb k1 k2 k3 (by rw [e1]; exact hce) hcv hcl T' rfl X'
    exact ⟨t2, st.trans a1, b1⟩
theorem vx_callv {S SX : Type} {post : S → Prop} {px : SX → Prop} {B : S → State → Prop} {BX : String → SX → State → Prop} {AX : Nat → Prop} (hr : vx_Run p l e R s m args below meth c H locs cells slots mc ms (F0 m pc ls st0) rest (va_Qv post B A1 a) (vx_X px BX AX) free) (hS : va_S A0 H0 H locs) (hA : ∀ q, q < H.size → A1 q → A0 q) (hf : ∀ q, free q → A0 q) (hAX : ∀ q, q < H.size → AX q → A0 q)
    (kx : ∀ (E : String) (ce : Cell) (q9 : Addr) (u : SX) (t : State) (H1 : Heap) (locs1 : List Loc), t.heap = H1 → s.vm.Alike t.vm → px u → BX E u t → H.size ≤ H1.size → (∀ q : Nat, q < H.size → ¬ AX q → H1[q]? = H[q]?) → va_S A0 H0 H1 locs1 → H1[q9]? = some ce → ce.vm = .none → s.vm.findClass E = some ce.cls → vx_W p l e R s m args below meth c H1 locs1 (cells + mc) (slots + ms) Q (F0 m pc ls rest) q9)
    (kk : ∀ (u : S) (t : State) (H1 : Heap) (locs1 : List Loc), t.heap = H1 → s.vm.Alike t.vm → post u → B u t → H.size ≤ H1.size → (∀ q : Nat, q < H.size → ¬ A1 q → H1[q]? = H[q]?) → va_S A0 H0 H1 locs1 → W p l e R s m args below meth c H1 locs1 (cells + mc) (slots + ms) Q (F0 m (pc + 3) ls (rest))) : W p l e R s m args below meth c H locs cells slots Q (F0 m pc ls st0) := by
  intro T hT X
  rcases hr T hT X with ⟨v, st₀, t, T', L, h0, X', hL, e1, e2, ⟨⟨u, hv, hp, hb⟩, hF⟩, st⟩ | ⟨q, st₀, t, T', L, E, ce, h0, X', hL, e1, e2, ⟨u, hp, hb, hF⟩, hce, hcv, hcl, st⟩
  · cases hv
    obtain ⟨k1, k2, k3⟩ := vx_keep h0 e1 hS hA hf hL hF
    obtain ⟨t2, a1, b1⟩ := kk u t T'.heap (locs ++ L) e1.symm (by rw [← e2]; exact X'.warmed.alike) hp hb k1 k2 k3 T' rfl X'
    exact ⟨t2, st t2 a1, b1⟩
  · obtain ⟨k1, k2, k3⟩ := vx_keep h0 e1 hS hAX hf hL hF
    obtain ⟨t2, a1, b1⟩ := kx E ce q u t T'.heap (locs ++ L) e1.symm (by rw [← e2]; exact X'.warmed.alike) hp hb k1 k2 k3 (by rw [e1]; exact hce) hcv hcl T' rfl X'
    exact ⟨t2, st.trans a1, b1⟩
/-- caught by the row x of this method's table; the rows ahead don't take it -/
theorem vx_catch {own name : String} {E : String} {ce : Cell} {q : Addr} (hown : s.vm.findClass own = some m.cls) (pre : List ExceptionTableEntry) (x : ExceptionTableEntry) (suf : List ExceptionTableEntry) (hsplit : c.exceptionTable.toList = pre ++ x :: suf)
    (hpass : ∀ z ∈ pre, covers z pc = false ∨ (z.catchType ≠ 0 ∧ ∃ nm : String, (Cond.classLink own z.catchType nm).before args s = true ∧ va_Nc E nm s)) (hx : covers x pc = true) (h0 : x.catchType ≠ 0)
    (hlink : (Cond.classLink own x.catchType name).before args s = true) (hcast : (Cond.castable E name).before args s = true) (hcell : H[q]? = some ce) (hv : ce.vm = .none) (hcl : s.vm.findClass E = some ce.cls)
    (kk : W p l e R s m args below meth c H locs cells slots Q (F0 m x.handlerPc ls [.ref q])) : vx_W p l e R s m args below meth c H locs cells slots Q (F0 m pc ls rest) q := by
  intro T hT X
  have hpl : e.platform.magicAccessors = ({} : Platform).magicAccessors := by rw [X.admits.platform]
  obtain ⟨c3, c4, hc3, hc4, hasg⟩ := Cond.castable_spec hcast
  cases Option.some.inj (hc3.symm.trans hcl)
  obtain ⟨c5, hc5, hcl5⟩ := Cond.classLink_spec hown hlink e.platform hpl
  cases Option.some.inj (hc4.symm.trans hc5)
  obtain ⟨vm', X', st⟩ := X.thenCaughtThrough q (g := F0 m pc ls rest) rfl (Steps.refl _) (by rw [hT]; exact hcell) (by rw [hv]; rfl) (by obtain ⟨k9, h9, -⟩ := Vm.findClass_spec hcl; exact ⟨k9, h9⟩) pre x suf hsplit
    (fun z hz => by
      rcases hpass z hz with h | ⟨hz0, nm, hl1, hn1⟩
      · exact Or.inl h
      · obtain ⟨c6, hc6, hcl6⟩ := Cond.classLink_spec hown hl1 e.platform hpl
        obtain ⟨a8, b8, h1, h2, h3⟩ := hn1
        cases Option.some.inj (h1.symm.trans hcl)
        cases Option.some.inj (h2.symm.trans hc6)
        exact Or.inr ⟨hz0, _, hcl6, h3⟩) hx (Or.inr ⟨h0, c4, hcl5, hasg⟩)
  obtain ⟨t, a1, b1⟩ := kk (T.setVm vm') hT X'
  exact ⟨t, st.trans a1, b1⟩
end Rows
section Ends
variable {p : Program} {l : Launch} {e : Env} {R : Room} {s : State} {m : MethodId} {args : Array Value} {below : List Frame} {meth : Method} {c : Code} {H : Heap} {locs : List Loc} {cells slots : Nat} {Q : State → Prop}
variable {mc ms : Nat} {free : Addr → Prop} {A0 A1 : Nat → Prop} {H0 : Heap} {a : Array Value} {ls : Array Slot} {st0 rest : List Value}
variable {Qc : Array Value → State → Outcome → State → Prop} {XC : String → State → State → Prop}
/-- what a body that may throw owes at its end -/
def vx_MQ (below : List Frame) (Qc : Array Value → State → Outcome → State → Prop) (XC : String → State → State → Prop) (a : Array Value) (s : State) (mc ms : Nat) (free : Addr → Prop) : State → Prop := fun t =>
  ∃ o, t.status = .running ∧ Ended t below o ∧ vx_Q Qc XC mc ms free a s o t
theorem vx_ret {g : JFrame} {mc ms : Nat} (k : W p l e R s m args below meth c H locs cells slots (MQ below Qc args s mc ms free) g) : W p l e R s m args below meth c H locs cells slots (vx_MQ below Qc XC args s mc ms free) g := by
  intro T hT X
  obtain ⟨t, a1, o, b1, b2, b3, b4⟩ := k T hT X
  exact ⟨t, a1, o, b1, b2, Or.inl ⟨b3, b4⟩⟩
/-- not caught here: it goes on to the caller -/
theorem vx_widen {g : JFrame} {q : Addr} {k n : Nat} (h1 : cells ≤ k) (h2 : slots ≤ n) (kk : vx_W p l e R s m args below meth c H locs k n Q g q) : vx_W p l e R s m args below meth c H locs cells slots Q g q := fun T hT X => kk T hT (stand_widen X h1 h2)
theorem vx_out {pc : Nat} {E : String} {ce : Cell} {q : Addr} {mc ms : Nat} (hout : ∀ x ∈ c.exceptionTable.toList, covers x pc = false) (hlocks : meth.locks = false) (hcell : H[q]? = some ce) (hv : ce.vm = .none) (hcl : s.vm.findClass E = some ce.cls)
    (hx : ∀ t : State, t.heap = H → s.vm.Alike t.vm → XC E s t) (hf : ∀ z ∈ locs, free z.base) (hc : cells ≤ mc) (hs : slots ≤ ms) :
    vx_W p l e R s m args below meth c H locs cells slots (vx_MQ below Qc XC args s mc ms free) (F0 m pc ls rest) q := by
  intro T hT X
  obtain ⟨st1, hrun, hend, hW, hsm⟩ := X.leaveThrown q (g := F0 m pc ls rest) rfl rfl rfl hout hlocks
  have hcell9 : (T.setFrames (.throwing q :: below)).heap[q]? = some ce := by
    show T.heap[q]? = some ce
    rw [hT]; exact hcell
  exact ⟨_, st1, .threw q, hrun, hend, Or.inr ⟨q, rfl, E, ce, locs, hx _ hT hW.alike, hcell9, hv, hcl, hW, hsm.mono hc hs, hf⟩⟩
theorem vx_frame {U : State} {k n : Nat} (h : s.sameButNew ({ U with vm := s.vm } : State) locs k n) : s.heap.size ≤ U.heap.size ∧ ∀ q : Nat, q < s.heap.size → (∀ z ∈ locs, z.base ≠ q) → U.heap[q]? = s.heap[q]? := by
  obtain ⟨-, h2, -, -, -, h6⟩ := h
  refine ⟨h2, fun q hq hz => ?_⟩
  obtain ⟨c9, e1, e2, e3, e4⟩ := h6 q _ (Array.getElem?_eq_getElem hq)
  have hs : c9.slots = (s.heap[q]).slots := Array.ext_getElem? fun i => e4 i fun hm => hz _ hm rfl
  have h9 : c9 = s.heap[q] := by
    rw [hs] at e2
    exact e2
  have e5 : U.heap[q]? = some c9 := e1
  rw [e5, h9, Array.getElem?_eq_getElem hq]
/-- the words of a throw but the four that speak of the heap -/
def vx_no (w : Cond) : Bool := decide (w ≠ .isRef (.static Bundle.tN "UNASSIGNED_STACK" Bundle.steD)) && decide (w ≠ .isRef (.static Bundle.tN "SUPPRESSED_SENTINEL" Bundle.listD)) && decide (w ≠ .laysStatic Bundle.tN "UNASSIGNED_STACK" Bundle.steD) && decide (w ≠ .laysStatic Bundle.tN "SUPPRESSED_SENTINEL" Bundle.listD)
def vx_at0 (own : String) (ic : Nat) (X : String) (names : List String) : List Cond := (Bundle.ownAtoms0 own ic X names).filter vx_no
def vx_atS (own : String) (ic : Nat) (X : String) (names : List String) : List Cond := (Bundle.ownAtoms own ic X names).filter vx_no
/-- a word that the tables alone decide, or a good one -/
def vx_ot (w : Cond) : Bool := w.onTables || goodWord w
theorem vx_ot_at {args a' : Array Value} {s U : State} {w : Cond} (hW : s.WarmedH U.vm) (hvm : s.vm = U.vm) (hg : vx_ot w = true) (h : w.before args s = true) : w.before a' U = true := by
  simp only [vx_ot, Bool.or_eq_true] at hg
  rcases hg with hg | hg
  · exact va_tabs hg hvm h
  · exact word_at hW (good_of_word hg) h
/-- a list's words: the good ones out of the method's own list, the others by premises of their own -/
theorem vx_hat {args : Array Value} {s : State} {L B : List Cond} (h1 : ∀ w ∈ L.filter goodWord, w.before args s = true) (h2 : ∀ w ∈ L.filter (fun w => !goodWord w), w ∈ B) (h3 : ∀ w ∈ B, w.before args s = true) : ∀ w ∈ L, w.before args s = true := by
  intro w hw
  by_cases g : goodWord w = true
  · exact h1 w (List.mem_filter.mpr ⟨hw, g⟩)
  · refine h3 w (h2 w (List.mem_filter.mpr ⟨hw, ?_⟩))
    show (!goodWord w) = true
    cases hgw : goodWord w
    · rfl
    · exact absurd hgw g
theorem vx_c {args : Array Value} {s : State} {w : Cond} {B : List Cond} (h : w.before args s = true) (t : ∀ w ∈ B, w.before args s = true) : ∀ w' ∈ w :: B, w'.before args s = true := fun w' h' => (List.mem_cons.mp h').elim (fun e => by rw [e]; exact h) (t w')
theorem vx_n {args : Array Value} {s : State} : ∀ w ∈ ([] : List Cond), w.before args s = true := fun _ h => nomatch h
theorem vx_own {args : Array Value} {s : State} {L : List Cond} (h1 : ∀ w ∈ L.filter vx_no, w.before args s = true)
    (hU : (Cond.isRef (.static Bundle.tN "UNASSIGNED_STACK" Bundle.steD)).before args s = true) (hN : (Cond.isRef (.static Bundle.tN "SUPPRESSED_SENTINEL" Bundle.listD)).before args s = true)
    (lU : (Cond.laysStatic Bundle.tN "UNASSIGNED_STACK" Bundle.steD).before args s = true) (lN : (Cond.laysStatic Bundle.tN "SUPPRESSED_SENTINEL" Bundle.listD).before args s = true) : ∀ w ∈ L, w.before args s = true := by
  intro w hw
  by_cases e1 : w = .isRef (.static Bundle.tN "UNASSIGNED_STACK" Bundle.steD)
  · rw [e1]; exact hU
  · by_cases e2 : w = .isRef (.static Bundle.tN "SUPPRESSED_SENTINEL" Bundle.listD)
    · rw [e2]; exact hN
    · by_cases e3 : w = .laysStatic Bundle.tN "UNASSIGNED_STACK" Bundle.steD
      · rw [e3]; exact lU
      · by_cases e4 : w = .laysStatic Bundle.tN "SUPPRESSED_SENTINEL" Bundle.listD
        · rw [e4]; exact lN
        · exact h1 w (List.mem_filter.mpr ⟨hw, by unfold vx_no; rw [decide_eq_true e1, decide_eq_true e2, decide_eq_true e3, decide_eq_true e4]; rfl⟩)
/-- where a static field lies, its class's statics cell in H -/
def vx_L (C n d : String) (A : Nat → Prop) (U : State) (H : Heap) : Prop := ∃ (c : ClassId) (k : Class) (i : Nat) (f : Field) (a : Nat) (cell : Cell), U.vm.findClass C = some c ∧ U.fieldFound? C n d = some (c, k, i, f) ∧ f.isStatic = true ∧ k.statics = some a ∧ H[a]? = some cell ∧ cell.vm.isStatics = true ∧ cell.cls = c ∧ f.slot < cell.slots.size ∧ k.staticTypes[f.slot]? = some f.type ∧ ¬ A a
theorem vx_L.moved {C n d : String} {A : Nat → Prop} {u U : State} {H : Heap} (hvm : u.vm.Alike U.vm) (h : vx_L C n d A u H) : vx_L C n d A U H := by
  obtain ⟨c, k, i, f, a, cell, h1, h2, h3, h4, h5, h6, h7, h8, h9, h10⟩ := h
  obtain ⟨k', hi', he⟩ := State.fieldFound?_setVm hvm h2
  exact ⟨c, k', i, f, a, cell, by rw [hvm.findClass]; exact h1, hi', h3, by rw [he]; exact h4, h5, h6, h7, h8, by rw [he]; exact h9, h10⟩
theorem vx_L.kept {C n d : String} {A : Nat → Prop} {U : State} {H H1 : Heap} (h : vx_L C n d A U H) (hq : ∀ a : Nat, a < H.size → ¬ A a → H1[a]? = H[a]?) : vx_L C n d A U H1 := by
  obtain ⟨c, k, i, f, a, cell, h1, h2, h3, h4, h5, h6, h7, h8, h9, h10⟩ := h
  exact ⟨c, k, i, f, a, cell, h1, h2, h3, h4, by rw [hq a (Array.getElem?_eq_some_iff.mp h5).1 h10]; exact h5, h6, h7, h8, h9, h10⟩
theorem vx_L.narrow {C n d : String} {A B : Nat → Prop} {U : State} {H : Heap} (h : vx_L C n d A U H) (hAB : ∀ q, B q → A q) : vx_L C n d B U H := by
  obtain ⟨c, k, i, f, a, cell, h1, h2, h3, h4, h5, h6, h7, h8, h9, h10⟩ := h
  exact ⟨c, k, i, f, a, cell, h1, h2, h3, h4, h5, h6, h7, h8, h9, fun z => h10 (hAB _ z)⟩
theorem vx_L.word {C n d : String} {A : Nat → Prop} {s : State} {args : Array Value} (h : vx_L C n d A s s.heap) : (Cond.laysStatic C n d).before args s = true := by
  obtain ⟨c, k, i, f, a, cell, h1, h2, h3, h4, h5, h6, h7, h8, h9, -⟩ := h
  show (Cond.laysStatic C n d).holds args s none s [] = true
  exact Cond.laysStatic_of h1 h2 h3 h4 h5 h6 h7 h8 h9
/-- .. and what it holds: null or some reference -/
def vx_Zq (C n d : String) (A : Nat → Prop) (U : State) (H : Heap) : Prop := va_Zq C n d A U H ∧ vx_L C n d A U H
theorem vx_Zq.moved {C n d : String} {A : Nat → Prop} {u U : State} {H : Heap} (hvm : u.vm.Alike U.vm) (h : vx_Zq C n d A u H) : vx_Zq C n d A U H := ⟨va_Zq.moved hvm h.1, vx_L.moved hvm h.2⟩
theorem vx_Zq.kept {C n d : String} {A : Nat → Prop} {U : State} {H H1 : Heap} (h : vx_Zq C n d A U H) (hq : ∀ a : Nat, a < H.size → ¬ A a → H1[a]? = H[a]?) : vx_Zq C n d A U H1 := ⟨va_Zq.kept h.1 hq, vx_L.kept h.2 hq⟩
theorem vx_Zq.narrow {C n d : String} {A B : Nat → Prop} {U : State} {H : Heap} (h : vx_Zq C n d A U H) (hAB : ∀ q, B q → A q) : vx_Zq C n d B U H := ⟨va_Zq.narrow h.1 hAB, vx_L.narrow h.2 hAB⟩
theorem vx_Zqof {args : Array Value} {s : State} {C n d : String} {A : Nat → Prop} (hl : (Cond.laysStatic C n d).before args s = true) (hini : (Cond.initialized C).before args s = true) (h : (Cond.isRef (.static C n d)).before args s = true) (hA : ∀ a : Nat, a < s.heap.size → ¬ A a) : vx_Zq C n d A s s.heap := by
  refine ⟨va_Zqof hl hini h hA, ?_⟩
  obtain ⟨c, k, i, f, a, cell, h1, h2, h3, h4, h5, h6, h7, h8, h9⟩ := Cond.laysStatic_spec hl
  exact ⟨c, k, i, f, a, cell, h1, h2, h3, h4, h5, h6, h7, h8, h9, hA a (Array.getElem?_eq_some_iff.mp h5).1⟩
theorem vx_isRef {C n d : String} {v : Value} {A : Nat → Prop} {s : State} {args : Array Value} (h : va_Z C n d v A s s.heap) (hv : v.isRef = true) : (Cond.isRef (.static C n d)).before args s = true := by
  obtain ⟨cf, kf, fi, f, a, cell, h1, h2, h3, h4, h5, h6, h7, -⟩ := h
  have he : (Term.static C n d).eval args s none [] s = some v := by
    simp [Term.eval, State.fieldNamed?, h1, h2, h4, h5, h6, h7]
  simp only [Cond.before, Cond.holds, Cond.value, he]
  cases v <;> simp_all [Value.isRef]
theorem vx_isRefq {C n d : String} {A : Nat → Prop} {s : State} {args : Array Value} (h : va_Zq C n d A s s.heap) : (Cond.isRef (.static C n d)).before args s = true := by
  rcases h with h | ⟨t, h⟩
  · exact vx_isRef h rfl
  · exact vx_isRef h rfl
/-- the same frame, seen from here: as if the method were called anew in this heap -/
theorem vx_rebase {T : State} (X : Stand p l e R s m args below meth c T locs cells slots) {R' : Room} (hf : R'.frames ≤ R.frames) (hl : R'.locals ≤ R.locals) (hc : cells + R'.cells ≤ R.cells) (hs : slots + R'.slots ≤ R.slots) :
    Stand p l e R' ((T.setVm s.vm).setFrames (.invoking m args :: below)) m args below meth c T [] 0 0 := by
  have htop : (T.setVm s.vm).topJava?.isSome := X.here.top
  have hF : ((T.setVm s.vm).setFrames (.invoking m args :: below)).frames = .invoking m args :: below := State.frames_setFrames _ (State.cur_lt_of_top htop)
  obtain ⟨g₀, hg0⟩ := Option.isSome_iff_exists.mp htop
  obtain ⟨r, hr⟩ := State.topJava?_eq_some.mp hg0
  have hl9 : e.platform.stackLimits (T.setVm s.vm).me = e.platform.stackLimits s.me := X.limits
  have hb9 : (T.setVm s.vm).me.stackBytes = s.me.stackBytes := X.bytes
  refine ⟨X.admits, X.cas, X.clock, hF, ?_, X.hears, X.method, X.code, X.here, X.tail, X.warmed, ?_, ?_, ?_⟩
  · have h := X.room
    have hU : ((T.setVm s.vm).setFrames (.invoking m args :: below)).localsInUse = s.localsInUse := by
      rw [State.localsInUse_invoking hF (meth := meth) (c := c) X.method X.code, State.localsInUse_invoking X.frames X.method X.code]
    simp only [State.hasRoom, Bool.and_eq_true, decide_eq_true_eq] at h ⊢
    obtain ⟨⟨⟨⟨h1, h2, h3, h4, h5, h6⟩, h7⟩, h8⟩, h9⟩ := h
    rw [X.frames, List.length_cons] at h2 h3
    have q1 := X.heapSize
    have q2 := X.used
    simp only [hF, hU, List.length_cons, State.stackLimits_setFrames, State.stackBytes_setFrames, hl9, hb9]
    refine ⟨⟨⟨⟨by omega, by omega, by omega, by omega, by omega, h6⟩, ?_⟩, ?_⟩, X.book⟩
    · show T.heap.size + R'.cells ≤ e.platform.maxCells
      omega
    · show T.slotsUsed + R'.slots ≤ e.platform.maxSlots
      omega
  · rw [State.stackLimits_setFrames]; rfl
  · rw [State.stackBytes_setFrames]; rfl
  · refine ⟨?_, Nat.le_refl _, Nat.le_refl _, ?_, ?_, fun a c9 h9 => ⟨c9, h9, rfl, rfl, fun _ _ => rfl⟩⟩
    · obtain ⟨t, ht, -⟩ := State.frames_cons hr
      show T.setVm s.vm = { ((T.setVm s.vm).setFrames (.invoking m args :: below)).setFrames (T.setVm s.vm).frames with heap := T.heap, slotsUsed := T.slotsUsed }
      rw [State.setFrames_setFrames, State.setFrames_self ht]
      rfl
    · show T.slotsUsed = T.slotsUsed + ((T.heap.toList.drop T.heap.size).map (·.slots.size)).sum
      rw [List.drop_eq_nil_of_le (Nat.le_of_eq Array.length_toList)]
      rfl
    · show ((T.heap.toList.drop T.heap.size).map (·.slots.size)).sum ≤ 0
      rw [List.drop_eq_nil_of_le (Nat.le_of_eq Array.length_toList)]
      exact Nat.le_refl _
/-- 'throw new E()': new; dup; invokespecial; athrow -/
theorem vx_throw0 {cc : ByteArray} {pc : Nat} (hexec : p.tables.exec = Jvm.exec) (hb : c.code = cc) (hl : l.stackTraces = false) {own cls : String} {names : List String} {ik ic mc ms : Nat} {A : Nat → Prop}
    (hown : s.vm.findClass own = some m.cls) (hcls : Bundle.fit cls = true) (hnames : ∀ n ∈ names, Bundle.fit n = true)
    (hk : (Cond.classLink own ik cls).before args s = true) (hini : (Cond.initialized cls).before args s = true) (hat : ∀ w ∈ vx_at0 own ic cls names, w.before args s = true)
    (hgood : ∀ w ∈ Cond.classLink own ik cls :: Cond.initialized cls :: vx_at0 own ic cls names, vx_ot w = true)
    (hU : vx_Zq Bundle.tN "UNASSIGNED_STACK" Bundle.steD A s s.heap) (hN : vx_Zq Bundle.tN "SUPPRESSED_SENTINEL" Bundle.listD A s s.heap) (hS : va_S A s.heap H locs) (hsize : ls.size = c.maxLocals)
    (d0 : decode cc pc = .ok (.new ik, 3)) (d3 : decode cc (pc + 3) = .ok (.dup, 1)) (d4 : decode cc (pc + 4) = .ok (.invokespecial ic, 3)) (d7 : decode cc (pc + 7) = .ok (.athrow, 1))
    (hout : ∀ x ∈ c.exceptionTable.toList, covers x (pc + 7) = false)
    (hRframes : names.length + 3 < R.frames) (hRlocals : (rest.map fun v => v.category).sum + (13 * (names.length + 1) + 42) ≤ R.locals) (hRcells : cells + 1 ≤ R.cells) (hRslots : slots + 6 ≤ R.slots) (hlocks : meth.locks = false)
    (hx : ∀ t : State, s.vm.Alike t.vm → H.size ≤ t.heap.size → (∀ q : Nat, q < H.size → t.heap[q]? = H[q]?) → XC cls s t)
    (hf : ∀ z ∈ locs, free z.base) (hc : cells + 1 ≤ mc) (hs : slots + 6 ≤ ms) :
    W p l e R s m args below meth c H locs cells slots (vx_MQ below Qc XC args s mc ms free) (F0 m pc ls rest) := by
  intro T hT X
  have htr : e.platform.stackTraces = false := (show e.platform.stackTraces = l.stackTraces by rw [X.admits.platform]).trans hl
  have Y := vx_rebase X (R' := { frames := R.frames, locals := R.locals, cells := 1, slots := 6 }) (Nat.le_refl _) (Nat.le_refl _) hRcells hRslots
  obtain ⟨s', hA⟩ : ∃ z, z = (T.setVm s.vm).setFrames (.invoking m args :: below) := ⟨_, rfl⟩
  rw [← hA] at Y
  have hvm : s'.vm = s.vm := by rw [hA]; rfl
  have hhp : s'.heap = H := by rw [hA]; exact hT
  have hW0 : s.WarmedH s'.vm := by rw [hvm]; exact State.WarmedH.refl s
  have hat' : ∀ w ∈ vx_at0 own ic cls names, w.before args s' = true := fun w hw => vx_ot_at hW0 hvm.symm (hgood w (List.mem_cons_of_mem _ (List.mem_cons_of_mem _ hw))) (hat w hw)
  have hk' : (Cond.classLink own ik cls).before args s' = true := vx_ot_at hW0 hvm.symm (hgood _ List.mem_cons_self) hk
  have hini' : (Cond.initialized cls).before args s' = true := vx_ot_at hW0 hvm.symm (hgood _ (List.mem_cons_of_mem _ List.mem_cons_self)) hini
  have hU' : vx_Zq Bundle.tN "UNASSIGNED_STACK" Bundle.steD A s' s'.heap := by rw [hhp]; exact vx_Zq.moved hW0.alike (hU.kept hS.2.1)
  have hN' : vx_Zq Bundle.tN "SUPPRESSED_SENTINEL" Bundle.listD A s' s'.heap := by rw [hhp]; exact vx_Zq.moved hW0.alike (hN.kept hS.2.1)
  have h : ∀ w ∈ Bundle.ownAtoms0 own ic cls names, w.before args s' = true := vx_own hat' (vx_isRefq hU'.1) (vx_isRefq hN'.1) hU'.2.word hN'.2.word
  have hown' : s'.vm.findClass own = some m.cls := by rw [hvm]; exact hown
  have hins : (Cond.instantiable cls 6).before args s' = true := h _ (by simp [Bundle.ownAtoms0])
  obtain ⟨vm₁, cX, kX, hfX, hkX, -, -, X₁, st1⟩ := Y.newCold hexec (own := own) (C := cls) (index := ik) (n := 6) hown' hk' hins hini'
    (g := F0 m pc ls rest) rfl (by rw [hb]; exact d0) (Nat.le_refl _) (Nat.le_refl _)
  generalize hT1 : (T.setVm vm₁).pushCell { cls := cX, slots := kX.instanceTypes.map defaultValue, vm := .none } = T1 at X₁ st1
  have hcat : (Value.ref T.heap.size).category = 1 := rfl
  have hcellA : T1.heap[T.heap.size]? = some (freshCell cX kX) := by rw [← hT1]; exact State.heap_pushCell_size _ _
  have d3' : decode c.code (pc + 3) = .ok (.dup, 1) := by rw [hb]; exact d3
  obtain ⟨U, hsteps, hrun, hend, hW, hsame, ce, hce, hO⟩ := X₁.ctorThrow0 hexec htr (own := own) (cls := cls) (names := names) (ic := ic) hown' hcls hnames h (fun x hx => nomatch hx) hfX hkX hcellA (by rw [hhp, hT]; exact Nat.le_refl _)
    (g := { method := m, pc := pc + 4, locals := ls, stack := .ref T.heap.size :: .ref T.heap.size :: rest, locked := none }) rfl hsize rfl rfl (rest := rest) rfl
    (by rw [hb]; exact d4) (by rw [hb]; exact d7) hout hRframes (by simp only [List.map_cons, List.sum_cons, hcat]; omega) hlocks
  obtain ⟨f1, f2⟩ := vx_frame hsame
  rw [hhp] at f1 f2
  have hWs : s.WarmedH U.vm := State.WarmedH.trans hW0 hW
  have hcl : s.vm.findClass cls = some ce.cls := by
    have h9 := hO.cls
    rw [hvm] at h9
    exact h9
  have hall : s.sameButNew ({ U with vm := s.vm } : State) locs mc ms := by
    subst hA
    obtain ⟨e1, e2⟩ := hsame
    rw [State.setFrames_setFrames] at e1
    have h2 : (T.setVm s.vm).sameButNew ({ U with vm := s.vm } : State) [] (0 + 1) (0 + 6) := ⟨e1, e2⟩
    have h3 := X.same.trans h2
    rw [List.append_nil] at h3
    exact h3.mono hc hs
  refine ⟨U, ?_, .threw T.heap.size, hrun, hend, Or.inr ⟨T.heap.size, rfl, cls, ce, locs, hx U hWs.alike f1 (fun q hq => f2 q hq (fun z hz => nomatch hz)), hce, hO.vm, hcl, hWs, hall, hf⟩⟩
  refine st1 _ ?_
  show Steps p.tables e below (T1.setTop { method := m, pc := pc + 3, locals := ls, stack := .ref T.heap.size :: rest, locked := none }) _
  jvm_step X₁.here [X₁.here.top, hexec, d3', Value.category]
  exact hsteps
/-- 'throw new E("text")': new; dup; ldc; invokespecial; athrow -/
theorem vx_throwS {cc : ByteArray} {pc : Nat} (hexec : p.tables.exec = Jvm.exec) (hb : c.code = cc) (hl : l.stackTraces = false) {own cls text : String} {names : List String} {ik is ic mc ms sa : Nat} {A : Nat → Prop}
    (hown : s.vm.findClass own = some m.cls) (hcls : Bundle.fit cls = true) (hnames : ∀ n ∈ names, Bundle.fit n = true)
    (hk : (Cond.classLink own ik cls).before args s = true) (hini : (Cond.initialized cls).before args s = true) (hstr : vk_R own is text sa s) (hat : ∀ w ∈ vx_atS own ic cls names, w.before args s = true)
    (hgood : ∀ w ∈ Cond.classLink own ik cls :: Cond.initialized cls :: vx_atS own ic cls names, vx_ot w = true)
    (hU : vx_Zq Bundle.tN "UNASSIGNED_STACK" Bundle.steD A s s.heap) (hN : vx_Zq Bundle.tN "SUPPRESSED_SENTINEL" Bundle.listD A s s.heap) (hS : va_S A s.heap H locs) (hsize : ls.size = c.maxLocals)
    (d0 : decode cc pc = .ok (.new ik, 3)) (d3 : decode cc (pc + 3) = .ok (.dup, 1)) (d4 : decode cc (pc + 4) = .ok (.ldc is, 2)) (d6 : decode cc (pc + 6) = .ok (.invokespecial ic, 3)) (d9 : decode cc (pc + 9) = .ok (.athrow, 1))
    (hout : ∀ x ∈ c.exceptionTable.toList, covers x (pc + 9) = false)
    (hRframes : names.length + 3 < R.frames) (hRlocals : (rest.map fun v => v.category).sum + (13 * (names.length + 1) + 43) ≤ R.locals) (hRcells : cells + 1 ≤ R.cells) (hRslots : slots + 6 ≤ R.slots) (hlocks : meth.locks = false)
    (hx : ∀ t : State, s.vm.Alike t.vm → H.size ≤ t.heap.size → (∀ q : Nat, q < H.size → t.heap[q]? = H[q]?) → XC cls s t)
    (hf : ∀ z ∈ locs, free z.base) (hc : cells + 1 ≤ mc) (hs : slots + 6 ≤ ms) :
    W p l e R s m args below meth c H locs cells slots (vx_MQ below Qc XC args s mc ms free) (F0 m pc ls rest) := by
  intro T hT X
  have htr : e.platform.stackTraces = false := (show e.platform.stackTraces = l.stackTraces by rw [X.admits.platform]).trans hl
  have Y := vx_rebase X (R' := { frames := R.frames, locals := R.locals, cells := 1, slots := 6 }) (Nat.le_refl _) (Nat.le_refl _) hRcells hRslots
  obtain ⟨s', hA⟩ : ∃ z, z = (T.setVm s.vm).setFrames (.invoking m args :: below) := ⟨_, rfl⟩
  rw [← hA] at Y
  have hvm : s'.vm = s.vm := by rw [hA]; rfl
  have hhp : s'.heap = H := by rw [hA]; exact hT
  have hW0 : s.WarmedH s'.vm := by rw [hvm]; exact State.WarmedH.refl s
  have hat' : ∀ w ∈ vx_atS own ic cls names, w.before args s' = true := fun w hw => vx_ot_at hW0 hvm.symm (hgood w (List.mem_cons_of_mem _ (List.mem_cons_of_mem _ hw))) (hat w hw)
  have hk' : (Cond.classLink own ik cls).before args s' = true := vx_ot_at hW0 hvm.symm (hgood _ List.mem_cons_self) hk
  have hini' : (Cond.initialized cls).before args s' = true := vx_ot_at hW0 hvm.symm (hgood _ (List.mem_cons_of_mem _ List.mem_cons_self)) hini
  have hU' : vx_Zq Bundle.tN "UNASSIGNED_STACK" Bundle.steD A s' s'.heap := by rw [hhp]; exact vx_Zq.moved hW0.alike (hU.kept hS.2.1)
  have hN' : vx_Zq Bundle.tN "SUPPRESSED_SENTINEL" Bundle.listD A s' s'.heap := by rw [hhp]; exact vx_Zq.moved hW0.alike (hN.kept hS.2.1)
  have h : ∀ w ∈ Bundle.ownAtoms own ic cls names, w.before args s' = true := vx_own hat' (vx_isRefq hU'.1) (vx_isRefq hN'.1) hU'.2.word hN'.2.word
  have hown' : s'.vm.findClass own = some m.cls := by rw [hvm]; exact hown
  have hins : (Cond.instantiable cls 6).before args s' = true := h _ (by simp [Bundle.ownAtoms])
  obtain ⟨vm₁, cX, kX, hfX, hkX, -, -, X₁, st1⟩ := Y.newCold hexec (own := own) (C := cls) (index := ik) (n := 6) hown' hk' hins hini'
    (g := F0 m pc ls rest) rfl (by rw [hb]; exact d0) (Nat.le_refl _) (Nat.le_refl _)
  generalize hT1 : (T.setVm vm₁).pushCell { cls := cX, slots := kX.instanceTypes.map defaultValue, vm := .none } = T1 at X₁ st1
  have hcat : (Value.ref T.heap.size).category = 1 := rfl
  have hcellA : T1.heap[T.heap.size]? = some (freshCell cX kX) := by rw [← hT1]; exact State.heap_pushCell_size _ _
  have d3' : decode c.code (pc + 3) = .ok (.dup, 1) := by rw [hb]; exact d3
  have d4' : decode c.code (pc + 4) = .ok (.ldc is, 2) := by rw [hb]; exact d4
  have hstr' : vk_R own is text sa s' := vk_R.warm hW0 hstr
  obtain ⟨U, hsteps, hrun, hend, hW, hsame, ce, hce, hO⟩ := X₁.ctorThrowS hexec htr (own := own) (cls := cls) (names := names) (ic := ic) hown' hcls hnames h (fun x hx => nomatch hx) hfX hkX hcellA (by rw [hhp, hT]; exact Nat.le_refl _) (msg := .ref sa) rfl
    (g := { method := m, pc := pc + 6, locals := ls, stack := .ref sa :: .ref T.heap.size :: .ref T.heap.size :: rest, locked := none }) rfl hsize rfl rfl (rest := rest) rfl
    (by rw [hb]; exact d6) (by rw [hb]; exact d9) hout hRframes (by simp only [List.map_cons, List.sum_cons, hcat]; omega) hlocks
  obtain ⟨f1, f2⟩ := vx_frame hsame
  rw [hhp] at f1 f2
  have hWs : s.WarmedH U.vm := State.WarmedH.trans hW0 hW
  have hcl : s.vm.findClass cls = some ce.cls := by
    have h9 := hO.cls
    rw [hvm] at h9
    exact h9
  have hall : s.sameButNew ({ U with vm := s.vm } : State) locs mc ms := by
    subst hA
    obtain ⟨e1, e2⟩ := hsame
    rw [State.setFrames_setFrames] at e1
    have h2 : (T.setVm s.vm).sameButNew ({ U with vm := s.vm } : State) [] (0 + 1) (0 + 6) := ⟨e1, e2⟩
    have h3 := X.same.trans h2
    rw [List.append_nil] at h3
    exact h3.mono hc hs
  refine ⟨U, ?_, .threw T.heap.size, hrun, hend, Or.inr ⟨T.heap.size, rfl, cls, ce, locs, hx U hWs.alike f1 (fun q hq => f2 q hq (fun z hz => nomatch hz)), hce, hO.vm, hcl, hWs, hall, hf⟩⟩
  refine st1 _ ?_
  show Steps p.tables e below (T1.setTop { method := m, pc := pc + 3, locals := ls, stack := .ref T.heap.size :: rest, locked := none }) _
  jvm_step X₁.here [X₁.here.top, hexec, d3', Value.category]
  exact X₁.ldcString hexec (own := own) (text := text) (index := is) (a := sa) hown' hstr'.1 hstr'.2
    (g := { method := m, pc := pc + 4, locals := ls, stack := .ref T.heap.size :: .ref T.heap.size :: rest, locked := none }) rfl d4' _ hsteps
/-- 'throw new E("text")', the text by a wide index -/
theorem vx_throwSW {cc : ByteArray} {pc : Nat} (hexec : p.tables.exec = Jvm.exec) (hb : c.code = cc) (hl : l.stackTraces = false) {own cls text : String} {names : List String} {ik is ic mc ms sa : Nat} {A : Nat → Prop}
    (hown : s.vm.findClass own = some m.cls) (hcls : Bundle.fit cls = true) (hnames : ∀ n ∈ names, Bundle.fit n = true)
    (hk : (Cond.classLink own ik cls).before args s = true) (hini : (Cond.initialized cls).before args s = true) (hstr : vk_R own is text sa s) (hat : ∀ w ∈ vx_atS own ic cls names, w.before args s = true)
    (hgood : ∀ w ∈ Cond.classLink own ik cls :: Cond.initialized cls :: vx_atS own ic cls names, vx_ot w = true)
    (hU : vx_Zq Bundle.tN "UNASSIGNED_STACK" Bundle.steD A s s.heap) (hN : vx_Zq Bundle.tN "SUPPRESSED_SENTINEL" Bundle.listD A s s.heap) (hS : va_S A s.heap H locs) (hsize : ls.size = c.maxLocals)
    (d0 : decode cc pc = .ok (.new ik, 3)) (d3 : decode cc (pc + 3) = .ok (.dup, 1)) (d4 : decode cc (pc + 4) = .ok (.ldc_w is, 3)) (d7 : decode cc (pc + 7) = .ok (.invokespecial ic, 3)) (d10 : decode cc (pc + 10) = .ok (.athrow, 1))
    (hout : ∀ x ∈ c.exceptionTable.toList, covers x (pc + 10) = false)
    (hRframes : names.length + 3 < R.frames) (hRlocals : (rest.map fun v => v.category).sum + (13 * (names.length + 1) + 43) ≤ R.locals) (hRcells : cells + 1 ≤ R.cells) (hRslots : slots + 6 ≤ R.slots) (hlocks : meth.locks = false)
    (hx : ∀ t : State, s.vm.Alike t.vm → H.size ≤ t.heap.size → (∀ q : Nat, q < H.size → t.heap[q]? = H[q]?) → XC cls s t)
    (hf : ∀ z ∈ locs, free z.base) (hc : cells + 1 ≤ mc) (hs : slots + 6 ≤ ms) :
    W p l e R s m args below meth c H locs cells slots (vx_MQ below Qc XC args s mc ms free) (F0 m pc ls rest) := by
  intro T hT X
  have htr : e.platform.stackTraces = false := (show e.platform.stackTraces = l.stackTraces by rw [X.admits.platform]).trans hl
  have Y := vx_rebase X (R' := { frames := R.frames, locals := R.locals, cells := 1, slots := 6 }) (Nat.le_refl _) (Nat.le_refl _) hRcells hRslots
  obtain ⟨s', hA⟩ : ∃ z, z = (T.setVm s.vm).setFrames (.invoking m args :: below) := ⟨_, rfl⟩
  rw [← hA] at Y
  have hvm : s'.vm = s.vm := by rw [hA]; rfl
  have hhp : s'.heap = H := by rw [hA]; exact hT
  have hW0 : s.WarmedH s'.vm := by rw [hvm]; exact State.WarmedH.refl s
  have hat' : ∀ w ∈ vx_atS own ic cls names, w.before args s' = true := fun w hw => vx_ot_at hW0 hvm.symm (hgood w (List.mem_cons_of_mem _ (List.mem_cons_of_mem _ hw))) (hat w hw)
  have hk' : (Cond.classLink own ik cls).before args s' = true := vx_ot_at hW0 hvm.symm (hgood _ List.mem_cons_self) hk
  have hini' : (Cond.initialized cls).before args s' = true := vx_ot_at hW0 hvm.symm (hgood _ (List.mem_cons_of_mem _ List.mem_cons_self)) hini
  have hU' : vx_Zq Bundle.tN "UNASSIGNED_STACK" Bundle.steD A s' s'.heap := by rw [hhp]; exact vx_Zq.moved hW0.alike (hU.kept hS.2.1)
  have hN' : vx_Zq Bundle.tN "SUPPRESSED_SENTINEL" Bundle.listD A s' s'.heap := by rw [hhp]; exact vx_Zq.moved hW0.alike (hN.kept hS.2.1)
  have h : ∀ w ∈ Bundle.ownAtoms own ic cls names, w.before args s' = true := vx_own hat' (vx_isRefq hU'.1) (vx_isRefq hN'.1) hU'.2.word hN'.2.word
  have hown' : s'.vm.findClass own = some m.cls := by rw [hvm]; exact hown
  have hins : (Cond.instantiable cls 6).before args s' = true := h _ (by simp [Bundle.ownAtoms])
  obtain ⟨vm₁, cX, kX, hfX, hkX, -, -, X₁, st1⟩ := Y.newCold hexec (own := own) (C := cls) (index := ik) (n := 6) hown' hk' hins hini'
    (g := F0 m pc ls rest) rfl (by rw [hb]; exact d0) (Nat.le_refl _) (Nat.le_refl _)
  generalize hT1 : (T.setVm vm₁).pushCell { cls := cX, slots := kX.instanceTypes.map defaultValue, vm := .none } = T1 at X₁ st1
  have hcat : (Value.ref T.heap.size).category = 1 := rfl
  have hcellA : T1.heap[T.heap.size]? = some (freshCell cX kX) := by rw [← hT1]; exact State.heap_pushCell_size _ _
  have d3' : decode c.code (pc + 3) = .ok (.dup, 1) := by rw [hb]; exact d3
  have d4' : decode c.code (pc + 4) = .ok (.ldc_w is, 3) := by rw [hb]; exact d4
  have hstr' : vk_R own is text sa s' := vk_R.warm hW0 hstr
  obtain ⟨U, hsteps, hrun, hend, hW, hsame, ce, hce, hO⟩ := X₁.ctorThrowS hexec htr (own := own) (cls := cls) (names := names) (ic := ic) hown' hcls hnames h (fun x hx => nomatch hx) hfX hkX hcellA (by rw [hhp, hT]; exact Nat.le_refl _) (msg := .ref sa) rfl
    (g := { method := m, pc := pc + 7, locals := ls, stack := .ref sa :: .ref T.heap.size :: .ref T.heap.size :: rest, locked := none }) rfl hsize rfl rfl (rest := rest) rfl
    (by rw [hb]; exact d7) (by rw [hb]; exact d10) hout hRframes (by simp only [List.map_cons, List.sum_cons, hcat]; omega) hlocks
  obtain ⟨f1, f2⟩ := vx_frame hsame
  rw [hhp] at f1 f2
  have hWs : s.WarmedH U.vm := State.WarmedH.trans hW0 hW
  have hcl : s.vm.findClass cls = some ce.cls := by
    have h9 := hO.cls
    rw [hvm] at h9
    exact h9
  have hall : s.sameButNew ({ U with vm := s.vm } : State) locs mc ms := by
    subst hA
    obtain ⟨e1, e2⟩ := hsame
    rw [State.setFrames_setFrames] at e1
    have h2 : (T.setVm s.vm).sameButNew ({ U with vm := s.vm } : State) [] (0 + 1) (0 + 6) := ⟨e1, e2⟩
    have h3 := X.same.trans h2
    rw [List.append_nil] at h3
    exact h3.mono hc hs
  refine ⟨U, ?_, .threw T.heap.size, hrun, hend, Or.inr ⟨T.heap.size, rfl, cls, ce, locs, hx U hWs.alike f1 (fun q hq => f2 q hq (fun z hz => nomatch hz)), hce, hO.vm, hcl, hWs, hall, hf⟩⟩
  refine st1 _ ?_
  show Steps p.tables e below (T1.setTop { method := m, pc := pc + 3, locals := ls, stack := .ref T.heap.size :: rest, locked := none }) _
  jvm_step X₁.here [X₁.here.top, hexec, d3', Value.category]
  exact X₁.ldcStringW hexec (own := own) (text := text) (index := is) (a := sa) hown' hstr'.1 hstr'.2
    (g := { method := m, pc := pc + 4, locals := ls, stack := .ref T.heap.size :: .ref T.heap.size :: rest, locked := none }) rfl d4' _ hsteps
end Ends
section Bodies
variable {l : Launch}
theorem vx_ofW {y : MethodName} {ws ws' : List Cond} {rm : Room} {Pc : Array Value → State → Prop} {Qc : Array Value → State → Outcome → State → Prop} {XC : String → State → State → Prop} {mc ms : Nat} {free : Addr → Prop} {cc : ByteArray} {maxL : Nat} {ret : Option FieldType}
    (hy : plainName y.cls = true) (hw : ws = Cond.code y cc maxL ret :: ws')
    (body : ∀ p e s m args below meth c s₁, BodyLoose p l y (headSpec ws rm) cc maxL ret e s m args below meth c s₁ → c.maxLocals = maxL → (∀ x ∈ c.exceptionTable.toList, False) → Pc args s →
      W p l e (headSpec ws rm).room s m args below meth c s.heap [] 0 0 (vx_MQ below Qc XC args s mc ms free) (entryFrame m args maxL)) : vx_Met l y ws rm Pc Qc XC mc ms free := by
  refine MetFree.of_bodyS (code := cc) (maxLocals := maxL) (ret := ret) hy ?_ ?_
  · intro args s m h hn
    obtain ⟨meth, c, h1, h2, h3, h4, h5, h6, -, -⟩ := Cond.code_spec hn (atoms_spec (ws := ws) h _ (by rw [hw]; exact List.mem_cons_self))
    exact ⟨meth, c, h1, h2, h3, h4, h5, h6⟩
  · intro p e s m args below meth c s₁ B hml hP _
    have hh0 : s₁.heap = s.heap := by rw [B.state]; rfl
    have ht : ∀ x ∈ c.exceptionTable.toList, False := by
      obtain ⟨meth9, c9, h1, h2, -, -, -, -, h7, -⟩ := Cond.code_spec B.named (atoms_spec (ws := ws) B.pre _ (by rw [hw]; exact List.mem_cons_self))
      cases Option.some.inj (h1.symm.trans B.method)
      cases Option.some.inj (h2.symm.trans (Stand.of_body B).code)
      intro x hx
      rw [Array.isEmpty_iff.mp h7] at hx
      cases hx
    obtain ⟨t, a1, o, b1, b2, b3⟩ := body p e s m args below meth c s₁ B hml ht hP s₁ hh0 (Stand.of_body B)
    exact ⟨t, o, a1, b1, b2, b3⟩
/-- the table of a body with handlers -/
theorem vx_table {p : Program} {x y : MethodName} {S : Spec} {cc bytes : ByteArray} {maxL maxL' : Nat} {ret ret' : Option FieldType} {e : Env} {s s₁ : State} {m : MethodId} {args : Array Value} {below : List Frame} {meth : Method} {c : Code} {hh : List (Nat × Nat × Nat × Nat)}
    (B : BodyLoose p l y S cc maxL ret e s m args below meth c s₁) (h : (Cond.codeWith y bytes maxL' ret' hh).before args s = true) : c.exceptionTable.toList = tableOf hh := by
  obtain ⟨m9, meth9, c9, hn9, h1, h2, -, -, h6, -⟩ := Cond.codeWith_spec h
  cases Option.some.inj (hn9.symm.trans B.named)
  cases Option.some.inj (h1.symm.trans B.method)
  cases Option.some.inj (h2.symm.trans (Stand.of_body B).code)
  rw [← h6, table_eq]
end Bodies
end VXA
/-! ===== END ===== -/
/-! ===== BEGIN a static call of a method with an exception table ===== -/
section VXS
variable {p : Program} {l : Launch} {e : Env} {R : Room} {s : State} {m : MethodId} {args : Array Value} {below : List Frame} {meth : Method} {c : Code} {T : State} {H : Heap} {locs : List Loc} {cells slots : Nat}
abbrev vx_CSW (R : Room) (s : State) (args : Array Value) (own : String) (index : Nat) (y : MethodName) (bytes : ByteArray) (maxL : Nat) (ret : Option FieldType) (hh : List (Nat × Nat × Nat × Nat)) (ws : List Cond) (rm : Room) (mc ms n : Nat) : Prop :=
  (rm.cells = mc ∧ rm.slots = ms ∧ rm.frames + 1 ≤ R.frames ∧ 8 + (maxL + 11) + rm.locals ≤ R.locals ∧ (∀ w ∈ ws, ∀ (a' : Array Value) (U : State), s.WarmedH U.vm → w.before a' U = true) ∧ Cond.codeWith y bytes maxL ret hh ∈ ws) ∧
  (Cond.codeWith y bytes maxL ret hh).before args s = true ∧ (Cond.initialized y.cls).before args s = true ∧ (y.cls ≠ "java/lang/invoke/MethodHandle" ∧ y.cls ≠ "java/lang/invoke/VarHandle") ∧
  (∀ sig, parseMethodDescriptor y.desc = some sig → n = sig.parameters.length) ∧ (Cond.methodLink own index y).before args s = true ∧ (Cond.static y).before args s = true
theorem vx_cwSW {own : String} {index maxL mc ms : Nat} {y : MethodName} {bytes : ByteArray} {ret : Option FieldType} {hh : List (Nat × Nat × Nat × Nat)} {Ts ws ws' : List Cond} {rm : Room} (n : Nat) (ht : ∀ w ∈ Ts, w.before args s = true) (hT : GoodIn Ts (va_wsS own index y ws)) (hw : ws = Cond.codeWith y bytes maxL ret hh :: ws') (hrc : rm.cells = mc) (hrs : rm.slots = ms)
    (hd : y.cls ≠ "java/lang/invoke/MethodHandle" ∧ y.cls ≠ "java/lang/invoke/VarHandle" ∧ (parseMethodDescriptor y.desc).map (fun d => d.parameters.length) = some n) (hR : rm.frames + 1 ≤ R.frames ∧ 8 + (maxL + 11) + rm.locals ≤ R.locals) :
    vx_CSW R s args own index y bytes maxL ret hh ws rm mc ms n := by
  have ok : ∀ w ∈ va_wsS own index y ws, w.before args s = true := fun w h => ht w (hT w h).1
  have hG : GoodIn Ts ws := fun w h => hT w (by unfold va_wsS; exact List.mem_append_right _ h)
  have hc : Cond.codeWith y bytes maxL ret hh ∈ ws := by rw [hw]; exact List.mem_cons_self
  refine ⟨⟨hrc, hrs, hR.1, hR.2, pay_in ht hG, hc⟩, ht _ (hG _ hc).1, ok _ (by simp [va_wsS]), ⟨hd.1, hd.2.1⟩, fun sig h => ?_, ok _ (by simp [va_wsS]), ok _ (by simp [va_wsS])⟩
  have h2 := hd.2.2
  rw [h] at h2
  exact (Option.some.inj h2).symm
theorem vx_callSW (X : Stand p l e R s m args below meth c T locs cells slots) (hexec : p.tables.exec = Jvm.exec) {own : String} {index : Nat} {y : MethodName} {bytes : ByteArray} {maxL : Nat} {ret : Option FieldType} {hh : List (Nat × Nat × Nat × Nat)}
    (hown : s.vm.findClass own = some m.cls) (hlink : (Cond.methodLink own index y).before args s = true) (hstat : (Cond.static y).before args s = true) (hinit : (Cond.initialized y.cls).before args s = true)
    (hcode : (Cond.codeWith y bytes maxL ret hh).before args s = true) (hy : y.cls ≠ "java/lang/invoke/MethodHandle" ∧ y.cls ≠ "java/lang/invoke/VarHandle")
    {W9 : Nat} {Pre : Pt → Array Value → Prop} {Post : Pt → Array Value → Option Value → Pt → Prop} (hK : Back l R p e below s args y 3 W9 Pre Post)
    {g : JFrame} (hg : g.method = m) (hsize : g.locals.size = c.maxLocals) {argsL rest : List Value} (hlen : ∀ sig, parseMethodDescriptor y.desc = some sig → argsL.length = sig.parameters.length)
    (hstack : g.stack = argsL.reverse ++ rest) (hW : 2 * g.monitorRoom + (rest.map fun v => v.category).sum ≤ W9) (hdg : decode c.code g.pc = .ok (.invokestatic index, 3))
    (hpre : ∀ vm₁, s.WarmedH vm₁ → Pre ⟨T.setVm vm₁, locs, cells, slots⟩ argsL.toArray) :
    ∃ (v : Option Value) (vm₁ : Vm) (B : Pt), s.WarmedH vm₁ ∧ Stand p l e R s m args below meth c B.U B.locs B.cells B.slots ∧ Post ⟨T.setVm vm₁, locs, cells, slots⟩ argsL.toArray v B ∧
      ∀ target, Steps p.tables e below (B.U.setTop { g with pc := g.pc + 3, stack := v.toList ++ rest }) target → Steps p.tables e below (T.setTop g) target := by
  obtain ⟨mk, methM, cM, hnamed, hmethM, -, -, -, -, -, -, hsigM⟩ := Cond.codeWith_spec hcode
  have hstatic : methM.isStatic = true := Cond.static_spec hnamed hmethM hstat
  obtain ⟨kP, hkP, -⟩ := className_of_methodNamed hnamed
  have hinitP : kP.init = .initialized := Cond.initialized_spec (findClass_of_methodNamed hnamed) hkP hinit
  obtain ⟨vm₁, X₁, hstep₁⟩ := X.invokestatic hexec hown hlink hnamed hmethM hstatic hkP hinitP hy (g := g) hg (argsL := argsL) (rest := rest) (hlen _ hsigM) hstack hdg
  obtain ⟨v, B, X', hpost, hsteps⟩ := hK m meth c ⟨T.setVm vm₁, locs, cells, slots⟩ { g with stack := rest } (.invokestatic index) mk argsL.toArray X₁ hg hsize hdg hW (X₁.named hnamed) (hpre vm₁ X₁.warmed)
  exact ⟨v, vm₁, B, X₁.warmed, X', hpost, fun target h => hstep₁ _ fun acts => by rw [doInvoke_state]; exact hsteps.trans h⟩
theorem vx_runSW {y : MethodName} {bytes cc : ByteArray} {maxL nL mc ms n index : Nat} {ret : Option FieldType} {hh : List (Nat × Nat × Nat × Nat)} {ws : List Cond} {rm : Room} {Pc : Array Value → State → Prop} {Qc : Array Value → State → Outcome → State → Prop} {free : Addr → Prop} {Ts : List Cond} {own : String} {As rest : List Value} {g : JFrame}
    (S : CallFix p m c cc nL s args Ts own) (hM : Met l y ws rm Pc Qc mc ms free) (cw : vx_CSW R s args own index y bytes maxL ret hh ws rm mc ms n) (hp : PreS s H Pc As)
    (hg : g.method = m) (hn : As.length = n) (hsize : g.locals.size = nL) (hstack : g.stack = As.reverse ++ rest) (hW : 2 * g.monitorRoom + (rest.map fun v => v.category).sum ≤ 8) (hdg : decode cc g.pc = .ok (.invokestatic index, 3)) (hf : cells + mc ≤ R.cells ∧ slots + ms ≤ R.slots) :
    va_Run p l e R s m args below meth c H locs cells slots mc ms g rest (Qc As.toArray) (free) := by
  obtain ⟨⟨hrc, hrs, hfr, hlo, hws, hcw⟩, hcode, hini, hy, hlen, hl, hstt⟩ := cw
  have hK : Back l R p e below s args y 3 8 (PreOf R mc ms Pc) (PostOf Qc mc ms free) := va_backW (hh := hh) (bytes := bytes) (maxL := maxL) (ret := ret) hM hp.1 hrc hrs hfr hlo hws hcw (fun a' U hW => word_at hW (Or.inl (by first | rfl | simp [Cond.onTables, Cond.keeps, Cond.steady])) hini)
  obtain ⟨hx, hb, hml, ho, -⟩ := S
  intro T hT X
  obtain ⟨v, vm₁, ⟨U', l2, c2, s2⟩, hW₁, X', ⟨g', mk, t, L, e1, e2, hq, h1, hL, h2, h3⟩, st⟩ := vx_callSW X hx (hh := hh) (bytes := bytes) (maxL := maxL) (ret := ret) ho hl hstt hini hcode hy hK hg (hsize.trans hml.symm) (argsL := As) (rest := rest) (fun sig h => hn.trans (hlen sig h)) hstack hW (by rw [hb]; exact hdg)
    (fun vm₁ hW₁ => ⟨hf.1, hf.2, hp.2 (T.setVm vm₁) hT hW₁⟩)
  dsimp only [Pt.U, Pt.locs, Pt.cells, Pt.slots] at X' e1 e2 h1 h2 h3 st
  subst h1; subst h2; subst h3
  exact ⟨v, (T.setVm vm₁).calling g' mk As.toArray, t, U', L, hT, X', hL, e1, e2, hq, st⟩
/-- not caught here, past rows that name other classes: it goes on to the caller -/
theorem vx_outP {p : Program} {l : Launch} {e : Env} {R : Room} {s : State} {m : MethodId} {args : Array Value} {below : List Frame} {meth : Method} {c : Code} {H : Heap} {locs : List Loc} {cells slots : Nat} {free : Addr → Prop} {ls : Array Slot} {rest : List Value} {Qc : Array Value → State → Outcome → State → Prop} {XC : String → State → State → Prop}
    {pc : Nat} {own E : String} {ce : Cell} {q : Addr} {mc ms : Nat} (hown : s.vm.findClass own = some m.cls) (hlocks : meth.locks = false)
    (hpass : ∀ z ∈ c.exceptionTable.toList, covers z pc = false ∨ (z.catchType ≠ 0 ∧ ∃ nm : String, (Cond.classLink own z.catchType nm).before args s = true ∧ va_Nc E nm s)) (hcell : H[q]? = some ce) (hv : ce.vm = .none) (hcl : s.vm.findClass E = some ce.cls)
    (hx : ∀ t : State, t.heap = H → s.vm.Alike t.vm → XC E s t) (hf : ∀ z ∈ locs, free z.base) (hc : cells ≤ mc) (hs : slots ≤ ms) :
    vx_W p l e R s m args below meth c H locs cells slots (vx_MQ below Qc XC args s mc ms free) (F0 m pc ls rest) q := by
  intro T hT X
  have hpl : e.platform.magicAccessors = ({} : Platform).magicAccessors := by rw [X.admits.platform]
  obtain ⟨vm', hW', X', st⟩ := X.outThrough hlocks q (g := F0 m pc ls rest) rfl rfl rfl (cell := ce) (by rw [hT]; exact hcell) (by rw [hv]; rfl)
    (by obtain ⟨k9, h9, -⟩ := Vm.findClass_spec hcl; exact ⟨k9, h9⟩) (fun z hz => by
      rcases hpass z hz with h | ⟨hz0, nm, hl1, hn1⟩
      · exact Or.inl h
      · obtain ⟨c6, hc6, hcl6⟩ := Cond.classLink_spec hown hl1 e.platform hpl
        obtain ⟨a8, b8, h1, h2, h3⟩ := hn1
        cases Option.some.inj (h1.symm.trans hcl)
        cases Option.some.inj (h2.symm.trans hc6)
        exact Or.inr ⟨hz0, _, hcl6, h3⟩)
  obtain ⟨g₀, hfr⟩ := X'.frames_eq
  have hcell9 : ((T.setVm vm').setFrames (.throwing q :: below)).heap[q]? = some ce := by
    show T.heap[q]? = some ce
    rw [hT]; exact hcell
  have hend : Ended ((T.setVm vm').setFrames (.throwing q :: below)) below (.threw q) := State.frames_setFrames _ (State.cur_lt_of_frames hfr)
  refine ⟨(T.setVm vm').setFrames (.throwing q :: below), ?_, .threw q, X'.here.running, hend, Or.inr ⟨q, rfl, E, ce, locs, hx _ hT (X'.ends _).1.alike, hcell9, hv, hcl, (X'.ends _).1, (X'.ends _).2.mono hc hs, hf⟩⟩
  rw [X.pushThrowing_eq]
  exact st
/-- a thing of a world lies in the heap -/
theorem vx_lt {D : va_G} {cl : List vw_C} {ws : va_W} {H1 : Heap} (h : va_P D cl ws H1) {k : Nat} {q : Nat × va_E} (hk : ws[k]? = some q) : q.1 < H1.size := (h k q hk).lt
end VXS
/-! ===== END ===== -/

/-! The three calls that throw: the callee's contract, the law's helper's, the law's frame -/
def kNSE : String := "java/util/NoSuchElementException"
def kNN : List String := ["java/lang/RuntimeException", "java/lang/Exception"]
def kvin (w : Cond) : Bool := goodWord w && (tables_1_6.any (fun v => decide (v = w)) || (tables_1_5.any (fun v => decide (v = w)) || (tables_1_1.any (fun v => decide (v = w)) || tables_1_9.any (fun v => decide (v = w)))))
theorem kvin_any {l : List Cond} {w : Cond} (h : l.any (fun v => decide (v = w)) = true) : w ∈ l := by
  obtain ⟨v, hv, e⟩ := List.any_eq_true.mp h
  have e2 : v = w := of_decide_eq_true e
  rw [← e2]
  exact hv
theorem kvin_ok {w : Cond} (h : kvin w = true) : w ∈ kALL := by
  obtain ⟨g, h2⟩ := pm_and h
  rcases Bool.or_eq_true_iff.mp h2 with h3 | h3
  · obtain ⟨n, hn⟩ := List.getElem?_of_mem (kvin_any h3)
    exact kin_6 (n := n) ⟨hn, g⟩
  · rcases Bool.or_eq_true_iff.mp h3 with h4 | h4
    · obtain ⟨n, hn⟩ := List.getElem?_of_mem (kvin_any h4)
      exact kin_5 (n := n) ⟨hn, g⟩
    · rcases Bool.or_eq_true_iff.mp h4 with h5 | h5
      · obtain ⟨n, hn⟩ := List.getElem?_of_mem (kvin_any h5)
        exact kin_1 (n := n) ⟨hn, g⟩
      · obtain ⟨n, hn⟩ := List.getElem?_of_mem (kvin_any h5)
        exact kin_9 (n := n) ⟨hn, g⟩
def kvxL : List Cond := Cond.classLink "BonnetValley" 170 kNSE :: Cond.initialized kNSE :: vx_at0 "BonnetValley" 172 kNSE kNN
theorem kvx_b : (kvxL.filter goodWord).all kvin = true := by decide +kernel
theorem kvx_o : kvxL.all vx_ot = true := by decide +kernel
def kvxB : List Cond := [.castable kNSE kNSE, .declares ⟨"java/lang/RuntimeException", "<init>", "()V"⟩, .declares ⟨"java/lang/Exception", "<init>", "()V"⟩, .declares ⟨"java/lang/Throwable", "<init>", "()V"⟩]
theorem kvx_n : ∀ w ∈ kvxL.filter (fun w => !goodWord w), w ∈ kvxB := fun w hw => kvin_any (List.all_eq_true.mp (by decide +kernel : (kvxL.filter (fun w => !goodWord w)).all (fun w => kvxB.any (fun v => decide (v = w))) = true) w hw)
theorem kvxB_t : ∀ w ∈ kvxB, w.onTables = true := fun w hw => List.all_eq_true.mp (by decide +kernel : kvxB.all (fun w => w.onTables) = true) w hw
/-- words that a warmer machine keeps -/
def kvxN (U : State) : Prop := ∀ w ∈ kvxB, va_Nw w U
theorem kvxN_d {x : MethodName} {s U : State} (hW : s.WarmedH U.vm) (hZ : va_Nw (.declares x) s) : va_Nw (.declares x) U := va_tabs rfl (rfl : (s.setVm U.vm).vm = U.vm) (by rw [Cond.declares_setVm hW.alike]; exact hZ)
theorem kvxN_w {s U : State} (hW : s.WarmedH U.vm) (h : kvxN s) : kvxN U := by
  intro w hw
  rcases List.mem_cons.mp hw with rfl | h1
  · exact va_Nw.warmC hW (h _ hw)
  · rcases List.mem_cons.mp h1 with rfl | h2
    · exact kvxN_d hW (h _ hw)
    · rcases List.mem_cons.mp h2 with rfl | h3
      · exact kvxN_d hW (h _ hw)
      · rcases List.mem_cons.mp h3 with rfl | h4
        · exact kvxN_d hW (h _ hw)
        · cases h4
theorem kvx_all {args : Array Value} {s : State} (hts : ∀ w ∈ kALL, w.before args s = true) (hC : kvxN s) : ∀ w ∈ kvxL, w.before args s = true := vx_hat (B := kvxB) (fun w hw => hts _ (kvin_ok (List.all_eq_true.mp kvx_b w hw))) kvx_n (fun w hw => va_Nw.use (kvxB_t w hw) (hC w hw))
/-- the two statics of Throwable -/
def kTs (B : Nat) (U : State) (H : Heap) : Prop := vx_Zq Bundle.tN "UNASSIGNED_STACK" Bundle.steD (fun q => B ≤ q) U H ∧ vx_Zq Bundle.tN "SUPPRESSED_SENTINEL" Bundle.listD (fun q => B ≤ q) U H ∧ kvxN U
def kTI (D : va_G) (dA : Nat → ClassId) (B : Nat) (ra : Nat → Nat) (ph : pm_H) (U : State) : Prop := pm_In kK kcl knws kzs krs kaos krof "BonnetValley$State" D dA B ra false ph U ∧ kTs B U U.heap
def kTX (D : va_G) (dA : Nat → ClassId) (B : Nat) (ra : Nat → Nat) (ph : pm_H) : String → State → State → Prop := vx_X (S := Unit) (fun _ => True) (fun E _ t => E = kNSE ∧ va_P D kcl (pm_ws (pm_ad B ra) dA B ph) t.heap) (fun q => B ≤ q)
section KTH
variable {D : va_G} {dA : Nat → ClassId} {B : Nat} {ra : Nat → Nat} {ph : pm_H}
theorem kTI_blind (as : List Value) : FrameBlind (va_Pc as (kTI D dA B ra ph)) := fun a U g mk q => ⟨q.1, pm_In_same (u := U) (U := U.calling g mk a) knwf rfl rfl q.2.1, vx_Zq.moved (Vm.Alike.refl _) q.2.2.1, vx_Zq.moved (Vm.Alike.refl _) q.2.2.2.1, kvxN_w (s := U) (show U.WarmedH U.vm from State.WarmedH.refl U) q.2.2.2.2⟩
theorem kTs_of {s U : State} {H : Heap} {locs : List Loc} (h : kTs B s s.heap) (hS : va_S (fun q => B ≤ q) s.heap H locs) (hU : U.heap = H) (hW : s.WarmedH U.vm) : kTs B U U.heap := by
  rw [hU]
  exact ⟨vx_Zq.moved hW.alike (h.1.kept hS.2.1), vx_Zq.moved hW.alike (h.2.1.kept hS.2.1), kvxN_w hW h.2.2⟩
/-- a method that throws at once -/
theorem kthrow (l : Launch) (hl : l.stackTraces = false) {d n mj pc : Nat} {as : List Value} {L : List (Option Value)} {Qc : Array Value → State → Outcome → State → Prop} (hent : pm_entB kK mj as = true) (hn : pm_Sn kK false (pm_Rd kK false d) mj n (pm_ent kK mj as ph) (pc, L, [], ph, 0, 0)) (hd : 6 ≤ d) (hcode : ∃ q, pm_code kK mj 0 = some q) (hcls : (kM mj).1.cls = "BonnetValley")
    (hnp : ∀ pc g ins aux, pm_code kK mj pc = some (g, ins, aux) → (∀ i, ins ≠ .putfield i) ∧ g ≠ 8) (d0 : decode (kM mj).2.1 pc = .ok (.new 170, 3)) (d3 : decode (kM mj).2.1 (pc + 3) = .ok (.dup, 1)) (d4 : decode (kM mj).2.1 (pc + 4) = .ok (.invokespecial 172, 3)) (d7 : decode (kM mj).2.1 (pc + 7) = .ok (.athrow, 1)) :
    vx_Met l (kM mj).1 (pm_wds kM kALL mj) (pm_rm (d + 1) 1 6) (va_Pc (as.map (pm_u (pm_ad B ra))) (kTI D dA B ra ph)) Qc (kTX D dA B ra ph) 1 6 (fun q => B ≤ q) := by
  obtain ⟨olk, ock, obs, onw, oG, oE, ocd, omk⟩ := kok
  obtain ⟨q0, hq0⟩ := hcode
  obtain ⟨m1, m2, m3, m4, m5, m6, m7, m8, m9⟩ := omk.1 mj q0 hq0
  refine vx_ofW (cc := (kM mj).2.1) (maxL := (kM mj).2.2.1) (ret := (kM mj).2.2.2) m1 rfl ?_
  intro p e s m args below meth c s₁ B0 hml hex hv
  obtain ⟨rfl, ⟨hP, hK, hB, hz, hRO⟩, hU, hN, hC⟩ := hv
  have hts0 := atoms_spec (ws := pm_wds kM kALL mj) B0.pre
  have hts : ∀ w ∈ kALL, w.before _ s = true := fun w hw => hts0 w (List.mem_cons_of_mem _ hw)
  have hown : s.vm.findClass (pm_cn klks (pm_own kK mj)) = some m.cls := by rw [m9]; exact findClass_of_methodNamed B0.named
  have hown9 : s.vm.findClass "BonnetValley" = some m.cls := by rw [← hcls]; exact findClass_of_methodNamed B0.named
  rw [lg_entry_eq, m6]
  have hl2 := pm_ent_lr (ad := pm_ad B ra) hent
  rw [← m6, ← hml] at hl2
  rw [← m6, ← hml]
  refine pm_S_ok (R := pm_rm (d + 1) 1 6) (d := d) kok (pm_sound kok l d) B0.exec B0.bytes hown hts (fun pc g ins aux h => ⟨(ocd _ _ _ _ _ h).1, (ocd _ _ _ _ _ h).2.1, hnp pc g ins aux h⟩) (fun i kd a b v h => olk _ i kd a b v h) ock oE hK hRO hRO hB (Nat.le_refl _) (by show d * 128 + 128 ≤ (d + 1) * 128; omega) n _ _ hn (Nat.zero_le _) (Nat.zero_le _) s.heap [] _ hP va_S.rf hz (by
      have e9 : pm_lr (pm_ad B ra) _ c.maxLocals (pm_sl as ++ List.replicate (c.maxLocals - (pm_sl as).length) none) := hl2
      show pm_lr (pm_ad B ra) _ c.maxLocals (pm_sl as ++ List.replicate ((pm_sig kK mj).2.1 - (pm_sl as).length) none)
      rw [← m6, ← hml]
      exact e9) ?_
  intro H1 locs1 ls1 hP1 hS1 hz1 hl1
  have hall := kvx_all hts hC
  have hgood : ∀ w ∈ kvxL, vx_ot w = true := fun w hw => List.all_eq_true.mp kvx_o w hw
  refine vx_throw0 (R := pm_rm (d + 1) 1 6) (names := kNN) (cls := kNSE) (own := "BonnetValley") (ik := 170) (ic := 172) (A := fun q => B ≤ q) (rest := []) B0.exec B0.bytes hl hown9 (by decide +kernel) (by decide +kernel) (hall _ List.mem_cons_self) (hall _ (List.mem_cons_of_mem _ List.mem_cons_self)) (fun w hw => hall _ (List.mem_cons_of_mem _ (List.mem_cons_of_mem _ hw))) hgood hU hN hS1 hl1.1 d0 d3 d4 d7 (fun x hx => (hex x hx).elim) (by show 2 + 3 < d + 1; omega) (by show 0 + (13 * (2 + 1) + 42) ≤ (d + 1) * 128; omega) (Nat.le_refl 1) (Nat.le_refl 6) B0.notSynchronized ?_ hS1.2.2 (Nat.le_refl 1) (Nat.le_refl 6)
  intro t hal hsz hq
  refine ⟨(), trivial, ⟨rfl, va_P.kept hP1 (fun k q hk => hq _ (vx_lt hP1 hk))⟩, Nat.le_trans hS1.1 hsz, fun q h1 h2 => ?_⟩
  rw [hq q (Nat.lt_of_lt_of_le h1 hS1.1)]
  exact hS1.2.1 q h1 h2
/-- a body with a table that returns -/
theorem kMet_ofWH {l : Launch} {y : MethodName} {ws ws' : List Cond} {rm : Room} {Pc : Array Value → State → Prop} {Qc : Array Value → State → Outcome → State → Prop} {mc ms : Nat} {free : Addr → Prop} {cc : ByteArray} {maxL : Nat} {ret : Option FieldType} {hh : List (Nat × Nat × Nat × Nat)} (hy : plainName y.cls = true) (hw : ws = Cond.codeWith y cc maxL ret hh :: ws')
    (body : ∀ p e s m args below meth c s₁, BodyLoose p l y (headSpec ws rm) cc maxL ret e s m args below meth c s₁ → c.maxLocals = maxL → Pc args s → W p l e (headSpec ws rm).room s m args below meth c s.heap [] 0 0 (MQ below Qc args s mc ms free) (entryFrame m args maxL)) : Met l y ws rm Pc Qc mc ms free := by
  refine MetFree.of_bodyS (code := cc) (maxLocals := maxL) (ret := ret) hy ?_ ?_
  · intro args s m h hn
    obtain ⟨m9, meth, c, hn9, h1, h2, h3, h4, -, h5, h6, -⟩ := Cond.codeWith_spec (atoms_spec (ws := ws) h _ (by rw [hw]; exact List.mem_cons_self))
    cases hn.symm.trans hn9
    exact ⟨meth, c, h1, h2, h3, h4, h5, h6⟩
  · intro p e s m args below meth c s₁ B hml hP _
    have hh0 : s₁.heap = s.heap := by rw [B.state]; rfl
    obtain ⟨t, a1, o, b1, b2, b3⟩ := body p e s m args below meth c s₁ B hml hP s₁ hh0 (Stand.of_body B)
    exact ⟨t, o, a1, b1, b2, ⟨b3.1, b3.2⟩⟩
/-- what the law's helpers have in common behind the throw: the handler answers 1 -/
theorem kcaught {l : Launch} {p : Program} {e : Env} {s : State} {m : MethodId} {args : Array Value} {below : List Frame} {meth : Method} {c : Code} {R : Room} {H1 : Heap} {locs1 : List Loc} {cc : ByteArray} {ls : Array Slot} {rest : List Value} {a b ha sl : Nat} {E : String} {ce : Cell} {q9 : Addr} {pc : Nat}
    (hx : p.tables.exec = Jvm.exec) (hb : c.code = cc) (hr : meth.sig.returnType = some .int) (hlocks : meth.locks = false) (hown : s.vm.findClass "BonnetValleyLaw" = some m.cls) (hts : ∀ w ∈ kALL, w.before args s = true) (hC : kvxN s) (hK : va_K D kcl (pm_tys dA "BonnetValley$State") s) (hRO : pm_RO kzs krs kaos knws kK krof (pm_ad B ra) (fun q => B ≤ q) s s.heap) (hB : B ≤ s.heap.size)
    (htab : c.exceptionTable.toList = tableOf [(a, b, ha, 13)]) (hcov : covers ⟨a, b, ha, 13⟩ pc = true) (hP1 : va_P D kcl (pm_ws (pm_ad B ra) dA B ph) H1) (hS1 : va_S (fun q => B ≤ q) s.heap H1 locs1) (hE : E = kNSE) (hce : H1[q9]? = some ce) (hcv : ce.vm = .none) (hcl : s.vm.findClass E = some ce.cls)
    (hst : ∀ (Q : State → Prop) (cells slots : Nat) (kk : ∀ ls' : Array Slot, W p l e R s m args below meth c H1 locs1 cells slots Q (F0 m (ha + sl) ls' [])), W p l e R s m args below meth c H1 locs1 cells slots Q (F0 m ha ls [.ref q9])) (dc1 : decode cc (ha + sl) = .ok (.iconst 1, 1)) (dc2 : decode cc (ha + sl + 1) = .ok (.ireturn, 1)) :
    vx_W p l e R s m args below meth c H1 locs1 1 6 (MQ below (pm_Qc kK kcl knws kzs krs kaos krof "BonnetValley$State" D dA B ra false (some (.int 1), ph, 1, 6)) args s 1 6 (fun q => B ≤ q)) (F0 m pc ls rest) q9 := by
  subst hE
  refine vx_catch (own := "BonnetValleyLaw") (name := kNSE) (E := kNSE) hown [] ⟨a, b, ha, 13⟩ [] (by rw [htab]; rfl) (fun z hz => nomatch hz) hcov (by show (13 : Nat) ≠ 0; decide) (hts _ (kvin_ok (w := .classLink "BonnetValleyLaw" 13 kNSE) (by decide +kernel))) (va_Nw.use rfl (hC _ List.mem_cons_self)) hce hcv hcl ?_
  refine hst _ _ _ fun ls' => ?_
  refine lv_iconst (v := 1) hx hb dc1 (by decide +kernel) ?_
  refine W.iret hx hb hr (fun t ht hW => ⟨rfl, pm_In_of knwf hP1 hK hB hS1 (fun h => by cases h) hRO ht hW, ?_⟩) hS1.2.2 dc2 hlocks
  exact ⟨by rw [ht]; exact hS1.1, fun q h1 h2 => by rw [ht]; exact hS1.2.1 q h1 h2⟩
/-- the callee, called by a helper: its words -/
theorem kcallW {R : Room} {s : State} {args : Array Value} {d jx ix n : Nat} (hts : ∀ w ∈ kALL, w.before args s = true) (hcode : ∃ q, pm_code kK jx 0 = some q) (hcls : (kM jx).1.cls = "BonnetValley") (hl : Cond.methodLink "BonnetValleyLaw" ix (kM jx).1 ∈ kALL) (hin : Cond.instanceMethod (kM jx).1 ∈ kALL) (hse : Cond.selects "BonnetValley" (kM jx).1 (kM jx).1 ∈ kALL) (hn : (parseMethodDescriptor (kM jx).1.desc).map (fun d => d.parameters.length) = some n) (hfr : d + 1 ≤ R.frames) (hlo : d * 128 + 128 ≤ R.locals) :
    CallW R s args "BonnetValleyLaw" "BonnetValley" ix (kM jx).1 (kM jx).2.1 (kM jx).2.2.1 (kM jx).2.2.2 (pm_wds kM kALL jx) (pm_rm d 1 6) 1 6 n := by
  obtain ⟨olk, ock, obs, onw, oG, oE, ocd, omk⟩ := kok
  obtain ⟨q0, hq0⟩ := hcode
  obtain ⟨m1, m2, m3, m4, m5, m6, m7, m8, m9⟩ := omk.1 jx q0 hq0
  have hGj : GoodIn kALL (pm_wds kM kALL jx) := by
    intro w hw
    rcases List.mem_cons.mp hw with rfl | hw
    · exact oG _ m2
    · exact oG _ hw
  exact ⟨callB_of n hts hGj rfl rfl rfl (hts _ m3) (hts _ hl) ⟨m4, m5, hn⟩ ⟨hfr, by show 8 + ((kM jx).2.2.1 + 11) + d * 128 ≤ R.locals; omega⟩, hts _ hin, hts _ hse⟩
end KTH

/-! person, thing, row: the law's helpers, printed by wip/x/claw.py -/
section KHL
variable {D : va_G} {dA : Nat → ClassId} {B : Nat} {ra : Nat → Nat} {ph : pm_H}
theorem khelp2 (l : Launch) {y : MethodName} {bytes : ByteArray} {ix jx d : Nat} {fs : List Value} {p0 p1 : Int32} (hph : pm_at ph 0 = some (.inr (12, fs))) (hy : plainName y.cls = true) (hycls : y.cls = "BonnetValleyLaw") (hd : 1 ≤ d)
    (dc0 : decode bytes 0 = .ok (.aload_n 3, 1)) (dc1 : decode bytes 1 = .ok (.iconst 0, 1)) (dc2 : decode bytes 2 = .ok (.aload_n 0, 1)) (dc3 : decode bytes 3 = .ok (.iload_n 1, 1)) (dc4 : decode bytes 4 = .ok (.iload_n 2, 1)) (dc5 : decode bytes 5 = .ok (.invokevirtual ix, 3)) (dc13 : decode bytes 13 = .ok (.astore 4, 2)) (dc15 : decode bytes 15 = .ok (.iconst 1, 1)) (dc16 : decode bytes 16 = .ok (.ireturn, 1))
    (hcode : ∃ q, pm_code kK jx 0 = some q) (hcls : (kM jx).1.cls = "BonnetValley") (hl : Cond.methodLink "BonnetValleyLaw" ix (kM jx).1 ∈ kALL) (hin : Cond.instanceMethod (kM jx).1 ∈ kALL) (hse : Cond.selects "BonnetValley" (kM jx).1 (kM jx).1 ∈ kALL) (hn : (parseMethodDescriptor (kM jx).1.desc).map (fun d => d.parameters.length) = some 2)
    (hM : vx_Met l (kM jx).1 (pm_wds kM kALL jx) (pm_rm d 1 6) (va_Pc (([.ref 0, .int p0, .int p1] : List Value).map (pm_u (pm_ad B ra))) (kTI D dA B ra ph)) (va_Qi (S := Unit) (fun _ _ => False) (fun _ _ => True) (fun q => B ≤ q)) (kTX D dA B ra ph) 1 6 (fun q => B ≤ q)) :
    Met l y (Cond.codeWith y bytes 5 (some .int) [(0, 10, 13, 13)] :: kALL) (pm_rm (d + 1) 1 6) (va_Pc (([.ref 0, .int p0, .int p1, .ref 201] : List Value).map (pm_u (pm_ad B ra))) (kTI D dA B ra ph)) (pm_Qc kK kcl knws kzs krs kaos krof "BonnetValley$State" D dA B ra false (some (.int 1), ph, 1, 6)) 1 6 (fun q => B ≤ q) := by
  refine kMet_ofWH hy rfl ?_
  intro p e s m args below meth c s₁ B0 hml hv
  obtain ⟨rfl, ⟨hP, hK, hB, hz, hRO⟩, hT⟩ := hv
  have hts0 := atoms_spec (ws := Cond.codeWith y bytes 5 (some .int) [(0, 10, 13, 13)] :: kALL) B0.pre
  have hts : ∀ w ∈ kALL, w.before _ s = true := fun w hw => hts0 w (List.mem_cons_of_mem _ hw)
  have hown : s.vm.findClass "BonnetValleyLaw" = some m.cls := by rw [← hycls]; exact findClass_of_methodNamed B0.named
  have htab := vx_table (x := y) B0 (hts0 _ List.mem_cons_self)
  have e9 : pm_ad B ra 0 = B + 0 := pm_adE hph
  rw [lg_entry_eq]
  have h0 := lv_entry (([.ref 0, .int p0, .int p1, .ref 201] : List Value).map (pm_u (pm_ad B ra))) (n := 5) (Nat.le_of_ble_eq_true rfl)
  refine lv_aload_n (k := 3) B0.exec B0.bytes dc0 rfl (lv_at h0 3 rfl) ?_
  refine lv_iconst (v := 0) B0.exec B0.bytes dc1 (by decide +kernel) ?_
  refine lv_aload_n (k := 0) B0.exec B0.bytes dc2 rfl (lv_at h0 0 rfl) ?_
  refine lv_iload_n (k := 1) B0.exec B0.bytes dc3 rfl (lv_at h0 1 rfl) ?_
  refine lv_iload_n (k := 2) B0.exec B0.bytes dc4 rfl (lv_at h0 2 rfl) ?_
  obtain ⟨T9, N9, hc9⟩ : ∃ (T : u_T) (N : Nat), kcl[12]? = some ("BonnetValley", T, N) := ⟨_, _, rfl⟩
  have S : CallFix p m c bytes c.maxLocals s _ kALL "BonnetValleyLaw" := ⟨B0.exec, B0.bytes, rfl, hown, hts⟩
  have hp : PreV s s.heap "BonnetValley" (B + 0) (va_Pc (([.ref 0, .int p0, .int p1] : List Value).map (pm_u (pm_ad B ra))) (kTI D dA B ra ph)) [.int p0, .int p1] := by
    refine ⟨kTI_blind _, va_recv hK hP (ci := 12) (q0 := 0) hc9 (pm_getE hph), fun U hU hW => ⟨?_, pm_In_of knwf hP hK hB va_S.rf (fun h => by cases h) hRO hU hW, kTs_of hT va_S.rf hU hW⟩⟩
    show _ = ([Value.ref (pm_ad B ra 0), .int p0, .int p1] : List Value).toArray
    rw [e9]
  have hr := vx_runV (R := pm_rm (d + 1) 1 6) (below := below) (l := l) (e := e) (meth := meth) (locs := []) (cells := 0) (slots := 0) (rest := [.int 0, .ref (pm_ad B ra 201)]) (g := F0 m 5 ((lg_sl (([.ref 0, .int p0, .int p1, .ref 201] : List Value).map (pm_u (pm_ad B ra))) ++ List.replicate (5 - (lg_sl (([.ref 0, .int p0, .int p1, .ref 201] : List Value).map (pm_u (pm_ad B ra)))).length) Slot.unset).toArray) [.int p1, .int p0, .ref (pm_ad B ra 0), .int 0, .ref (pm_ad B ra 201)]) S hM (kcallW hts hcode hcls hl hin hse hn (Nat.le_refl _) (by show d * 128 + 128 ≤ (d + 1) * 128; omega)) hp rfl rfl (h0.1.trans hml.symm) (by rw [e9]; rfl) (lv_room (by show (2 : Nat) ≤ 8; decide)) dc5 ⟨Nat.le_refl _, Nat.le_refl _⟩
  refine vx_calli (S := Unit) (SX := Unit) (A0 := fun q => B ≤ q) (H0 := s.heap) hr va_S.rf (fun _ _ h => h) (fun _ h => h) (fun _ _ h => h) ?_ (fun r u t H1 locs1 _ _ hp9 _ _ _ _ => hp9.elim)
  intro E ce q9 u t H1 locs1 ht hal _ hBX hsz hun hS1 hce hcv hcl
  obtain ⟨hE, hP1⟩ := hBX
  rw [ht] at hP1
  exact kcaught (a := 0) (b := 10) (ha := 13) (sl := 2) B0.exec B0.bytes B0.returns B0.notSynchronized hown hts hT.2.2 hK hRO hB htab (by decide +kernel) hP1 hS1 hE hce hcv hcl (fun Q cells slots kk => lv_astore B0.exec B0.bytes dc13 h0 (by decide) rfl (fun ls' _ => kk ls')) dc15 dc16
theorem khelp1 (l : Launch) {y : MethodName} {bytes : ByteArray} {ix jx d : Nat} {fs : List Value} {p0 : Int32} (hph : pm_at ph 0 = some (.inr (12, fs))) (hy : plainName y.cls = true) (hycls : y.cls = "BonnetValleyLaw") (hd : 1 ≤ d)
    (dc0 : decode bytes 0 = .ok (.aload_n 2, 1)) (dc1 : decode bytes 1 = .ok (.iconst 0, 1)) (dc2 : decode bytes 2 = .ok (.aload_n 0, 1)) (dc3 : decode bytes 3 = .ok (.iload_n 1, 1)) (dc5 : decode bytes 4 = .ok (.invokevirtual ix, 3)) (dc13 : decode bytes 11 = .ok (.astore_n 3, 1)) (dc15 : decode bytes 12 = .ok (.iconst 1, 1)) (dc16 : decode bytes 13 = .ok (.ireturn, 1))
    (hcode : ∃ q, pm_code kK jx 0 = some q) (hcls : (kM jx).1.cls = "BonnetValley") (hl : Cond.methodLink "BonnetValleyLaw" ix (kM jx).1 ∈ kALL) (hin : Cond.instanceMethod (kM jx).1 ∈ kALL) (hse : Cond.selects "BonnetValley" (kM jx).1 (kM jx).1 ∈ kALL) (hn : (parseMethodDescriptor (kM jx).1.desc).map (fun d => d.parameters.length) = some 1)
    (hM : vx_Met l (kM jx).1 (pm_wds kM kALL jx) (pm_rm d 1 6) (va_Pc (([.ref 0, .int p0] : List Value).map (pm_u (pm_ad B ra))) (kTI D dA B ra ph)) (va_Ql (S := Unit) (fun _ _ => False) (fun _ _ => True) (fun q => B ≤ q)) (kTX D dA B ra ph) 1 6 (fun q => B ≤ q)) :
    Met l y (Cond.codeWith y bytes 4 (some .int) [(0, 8, 11, 13)] :: kALL) (pm_rm (d + 1) 1 6) (va_Pc (([.ref 0, .int p0, .ref 201] : List Value).map (pm_u (pm_ad B ra))) (kTI D dA B ra ph)) (pm_Qc kK kcl knws kzs krs kaos krof "BonnetValley$State" D dA B ra false (some (.int 1), ph, 1, 6)) 1 6 (fun q => B ≤ q) := by
  refine kMet_ofWH hy rfl ?_
  intro p e s m args below meth c s₁ B0 hml hv
  obtain ⟨rfl, ⟨hP, hK, hB, hz, hRO⟩, hT⟩ := hv
  have hts0 := atoms_spec (ws := Cond.codeWith y bytes 4 (some .int) [(0, 8, 11, 13)] :: kALL) B0.pre
  have hts : ∀ w ∈ kALL, w.before _ s = true := fun w hw => hts0 w (List.mem_cons_of_mem _ hw)
  have hown : s.vm.findClass "BonnetValleyLaw" = some m.cls := by rw [← hycls]; exact findClass_of_methodNamed B0.named
  have htab := vx_table (x := y) B0 (hts0 _ List.mem_cons_self)
  have e9 : pm_ad B ra 0 = B + 0 := pm_adE hph
  rw [lg_entry_eq]
  have h0 := lv_entry (([.ref 0, .int p0, .ref 201] : List Value).map (pm_u (pm_ad B ra))) (n := 4) (Nat.le_of_ble_eq_true rfl)
  refine lv_aload_n (k := 2) B0.exec B0.bytes dc0 rfl (lv_at h0 2 rfl) ?_
  refine lv_iconst (v := 0) B0.exec B0.bytes dc1 (by decide +kernel) ?_
  refine lv_aload_n (k := 0) B0.exec B0.bytes dc2 rfl (lv_at h0 0 rfl) ?_
  refine lv_iload_n (k := 1) B0.exec B0.bytes dc3 rfl (lv_at h0 1 rfl) ?_
  obtain ⟨T9, N9, hc9⟩ : ∃ (T : u_T) (N : Nat), kcl[12]? = some ("BonnetValley", T, N) := ⟨_, _, rfl⟩
  have S : CallFix p m c bytes c.maxLocals s _ kALL "BonnetValleyLaw" := ⟨B0.exec, B0.bytes, rfl, hown, hts⟩
  have hp : PreV s s.heap "BonnetValley" (B + 0) (va_Pc (([.ref 0, .int p0] : List Value).map (pm_u (pm_ad B ra))) (kTI D dA B ra ph)) [.int p0] := by
    refine ⟨kTI_blind _, va_recv hK hP (ci := 12) (q0 := 0) hc9 (pm_getE hph), fun U hU hW => ⟨?_, pm_In_of knwf hP hK hB va_S.rf (fun h => by cases h) hRO hU hW, kTs_of hT va_S.rf hU hW⟩⟩
    show _ = ([Value.ref (pm_ad B ra 0), .int p0] : List Value).toArray
    rw [e9]
  have hr := vx_runV (R := pm_rm (d + 1) 1 6) (below := below) (l := l) (e := e) (meth := meth) (locs := []) (cells := 0) (slots := 0) (rest := [.int 0, .ref (pm_ad B ra 201)]) (g := F0 m 4 ((lg_sl (([.ref 0, .int p0, .ref 201] : List Value).map (pm_u (pm_ad B ra))) ++ List.replicate (4 - (lg_sl (([.ref 0, .int p0, .ref 201] : List Value).map (pm_u (pm_ad B ra)))).length) Slot.unset).toArray) [.int p0, .ref (pm_ad B ra 0), .int 0, .ref (pm_ad B ra 201)]) S hM (kcallW hts hcode hcls hl hin hse hn (Nat.le_refl _) (by show d * 128 + 128 ≤ (d + 1) * 128; omega)) hp rfl rfl (h0.1.trans hml.symm) (by rw [e9]; rfl) (lv_room (by show (2 : Nat) ≤ 8; decide)) dc5 ⟨Nat.le_refl _, Nat.le_refl _⟩
  refine vx_calll (S := Unit) (SX := Unit) (A0 := fun q => B ≤ q) (H0 := s.heap) hr va_S.rf (fun _ _ h => h) (fun _ h => h) (fun _ _ h => h) ?_ (fun r u t H1 locs1 _ _ hp9 _ _ _ _ => hp9.elim)
  intro E ce q9 u t H1 locs1 ht hal _ hBX hsz hun hS1 hce hcv hcl
  obtain ⟨hE, hP1⟩ := hBX
  rw [ht] at hP1
  exact kcaught (a := 0) (b := 8) (ha := 11) (sl := 1) B0.exec B0.bytes B0.returns B0.notSynchronized hown hts hT.2.2 hK hRO hB htab (by decide +kernel) hP1 hS1 hE hce hcv hcl (fun Q cells slots kk => lv_astore_n (k := 3) B0.exec B0.bytes dc13 rfl h0 (by decide) rfl (fun ls' _ => kk ls')) dc15 dc16
end KHL

section KWH
variable {p : Program} {l : Launch} {e : Env} {s : State} {m : MethodId} {below : List Frame} {meth : Method} {c : Code} {b L : Nat} {xs : Nat → Int32} {D : va_G} {dA : Nat → ClassId} {ra : Nat → Nat} {Q : State → Prop}
/-- the law's frame calls a helper -/
theorem kW_help (F : kFx p s m meth c b L xs D dA ra) (Z : kTs s.heap.size s s.heap) {y : MethodName} {bytes : ByteArray} {maxL ix n d pc cs ss : Nat} {hh : List (Nat × Nat × Nat × Nat)} {Lc : List (Option Value)} {as r : List Value} {ph ph2 : pm_H} {k : Int32}
    (hM : Met l y (Cond.codeWith y bytes maxL (some .int) hh :: kALL) (pm_rm d 1 6) (va_Pc (as.map (pm_u (pm_ad s.heap.size ra))) (kTI D dA s.heap.size ra ph)) (pm_Qc kK kcl knws kzs krs kaos krof "BonnetValley$State" D dA s.heap.size ra false (some (.int k), ph2, 1, 6)) 1 6 (fun q => s.heap.size ≤ q))
    (hlen : as.length = n) (hr8 : (r.map fun v => v.category).sum ≤ 8) (hdg : decode code pc = .ok (.invokestatic ix, 3)) (hcw : Cond.codeWith y bytes maxL (some .int) hh ∈ kALL) (hw1 : Cond.methodLink "BonnetValleyLaw" ix y ∈ kALL) (hw2 : Cond.static y ∈ kALL) (hw3 : Cond.initialized y.cls ∈ kALL) (hyd : y.cls ≠ "java/lang/invoke/MethodHandle" ∧ y.cls ≠ "java/lang/invoke/VarHandle" ∧ (parseMethodDescriptor y.desc).map (fun d => d.parameters.length) = some n) (hmax : maxL ≤ 100) (hd : d ≤ 600) (hc : cs + 1 ≤ 601024) (hs : ss + 6 ≤ 7293034)
    (kk : kW p l e s m below meth c b D dA ra false Q (pc + 3, Lc, .int k :: r, ph2, cs + 1, ss + 6)) : kW p l e s m below meth c b D dA ra false Q (pc, Lc, as.reverse ++ r, ph, cs, ss) := by
  intro H locs ls hP hS hz hl
  obtain ⟨⟨hx, hb, hr, hml, hown, hts, hX, hbl, hlocks, hgv⟩, h5, hK, hRO, hRO2⟩ := F
  have hw : ∀ w ∈ kALL, w.before #[Value.ref b] s = true := fun w h => hts w (List.mem_filter.mp h).1
  have S : CallFix p m c code c.maxLocals s #[Value.ref b] kALL "BonnetValleyLaw" := ⟨hx, hb, rfl, hown, hw⟩
  have hG : GoodIn kALL (va_wsS "BonnetValleyLaw" ix y (Cond.codeWith y bytes maxL (some .int) hh :: kALL)) := by
    intro w h
    refine kgood w ?_
    have h2 : w ∈ ([.methodLink "BonnetValleyLaw" ix y, .static y, .initialized y.cls] : List Cond) ++ (Cond.codeWith y bytes maxL (some .int) hh :: kALL) := h
    rcases List.mem_append.mp h2 with h3 | h3
    · rcases List.mem_cons.mp h3 with rfl | h4
      · exact hw1
      · rcases List.mem_cons.mp h4 with rfl | h5
        · exact hw2
        · rcases List.mem_cons.mp h5 with rfl | h6
          · exact hw3
          · cases h6
    · rcases List.mem_cons.mp h3 with rfl | h4
      · exact hcw
      · exact h4
  have cw := vx_cwSW (R := room_1) (s := s) (args := #[Value.ref b]) (own := "BonnetValleyLaw") (index := ix) (maxL := maxL) (bytes := bytes) (ret := some .int) (hh := hh) (rm := pm_rm d 1 6) (mc := 1) (ms := 6) n hw hG rfl rfl rfl hyd ⟨show d + 1 ≤ 2048 by omega, show 8 + (maxL + 11) + d * 128 ≤ 84000 by omega⟩
  have hp : PreS s H (va_Pc (as.map (pm_u (pm_ad s.heap.size ra))) (kTI D dA s.heap.size ra ph)) (as.map (pm_u (pm_ad s.heap.size ra))) := ⟨kTI_blind _, fun U hU hW => ⟨rfl, pm_In_of knwf hP hK (Nat.le_refl _) hS (fun h => by cases h) hRO hU hW, kTs_of Z hS hU hW⟩⟩
  have hstk : (as.reverse ++ r).map (pm_u (pm_ad s.heap.size ra)) = (as.map (pm_u (pm_ad s.heap.size ra))).reverse ++ r.map (pm_u (pm_ad s.heap.size ra)) := by
    rw [List.map_append, List.map_reverse]
  have hr9 := vx_runSW (R := room_1) (below := below) (l := l) (e := e) (meth := meth) (locs := locs) (cells := cs) (slots := ss) (g := F0 m pc ls ((as.reverse ++ r).map (pm_u (pm_ad s.heap.size ra)))) S hM cw hp rfl (by rw [List.length_map]; exact hlen) hl.1 hstk (lv_room (by rw [pm_u_sum]; exact hr8)) hdg ⟨hc, hs⟩
  refine pm_go (r := (some (.int k), ph2, 1, 6)) hr9 hS ?_
  intro H1 locs1 hP1 hS1 hz1
  exact kk H1 locs1 ls hP1 hS1 hz1 hl
/-- a stretch of the law's frame -/
theorem kW_se {al : Bool} {d : Nat} {x y : pm_S} (F : kFx p s m meth c b L xs D dA ra) (hd : d ≤ 600) (h : pm_Se (kK2 xs L) al (pm_Rd kK al d) 0 x y) (hc : y.2.2.2.2.1 ≤ 601024) (hs : y.2.2.2.2.2 ≤ 7293034) (kk : kW p l e s m below meth c b D dA ra al Q y) : kW p l e s m below meth c b D dA ra al Q x := by
  obtain ⟨n, hn⟩ := h
  exact kW_run F hd hn hc hs kk
end KWH
/-- the links of the law's helpers -/
def klo3 : List (List (Nat × pm_L)) := [[(7, 2, 129, 2, .ref 12), (15, 2, 130, 2, .ref 12)], [(18, 2, 180, 1, .ref 12)]]
def klks3 : pm_Lks := klks ++ [("BonnetValleyLaw", klo3)]
theorem kl3_person : kLp "BonnetValleyLaw" (7, 2, 129, 2, .ref 12) := pm_lk2 (ci := 12) (T := kT_12) (N := 15) (Or.inl (kvin_ok (w := .methodLink "BonnetValleyLaw" 7 (kM 129).1) (by decide +kernel))) kPn_129 (kvin_ok (w := .instanceMethod (kM 129).1) (by decide +kernel)) (kvin_ok (w := .selects "BonnetValley" (kM 129).1 (kM 129).1) (by decide +kernel)) rfl
theorem kl3_thing : kLp "BonnetValleyLaw" (15, 2, 130, 2, .ref 12) := pm_lk2 (ci := 12) (T := kT_12) (N := 15) (Or.inl (kvin_ok (w := .methodLink "BonnetValleyLaw" 15 (kM 130).1) (by decide +kernel))) kPn_130 (kvin_ok (w := .instanceMethod (kM 130).1) (by decide +kernel)) (kvin_ok (w := .selects "BonnetValley" (kM 130).1 (kM 130).1) (by decide +kernel)) rfl
theorem kl3_row : kLp "BonnetValleyLaw" (18, 2, 180, 1, .ref 12) := pm_lk2 (ci := 12) (T := kT_12) (N := 15) (Or.inl (kvin_ok (w := .methodLink "BonnetValleyLaw" 18 (kM 180).1) (by decide +kernel))) kPn_180 (kvin_ok (w := .instanceMethod (kM 180).1) (by decide +kernel)) (kvin_ok (w := .selects "BonnetValley" (kM 180).1 (kM 180).1) (by decide +kernel)) rfl
theorem klA3 : ∀ c ∈ klo3, ∀ q ∈ c, kLp "BonnetValleyLaw" q := List.forall_mem_cons.mpr ⟨List.forall_mem_cons.mpr ⟨kl3_person, List.forall_mem_cons.mpr ⟨kl3_thing, fun _ h => absurd h List.not_mem_nil⟩⟩, List.forall_mem_cons.mpr ⟨List.forall_mem_cons.mpr ⟨kl3_row, fun _ h => absurd h List.not_mem_nil⟩, fun _ h => absurd h List.not_mem_nil⟩⟩
def kK3 (y : MethodName) (bytes : ByteArray) (ml na : Nat) (rows : List (List (Nat × Nat × Instr × Nat))) : pm_K := pm_mkK [[((y, bytes, ml, (Option.some Jvm.ClassFile.FieldType.int)), 23, (na, ml, 1), rows)]] klks3 kra kro knw kft 10
section KN3
variable {y : MethodName} {bytes : ByteArray} {ml na : Nat} {rows : List (List (Nat × Nat × Instr × Nat))}
theorem kRO3 {ad : Nat → Nat} {A : Nat → Prop} {U : State} {H : Heap} (h : pm_RO kzs krs kaos knws kK krof ad A U H) : pm_RO kzs krs kaos knws (kK3 y bytes ml na rows) krof ad A U H := by
  obtain ⟨h1, h2, h3, h4, h5, h6⟩ := h
  have e1 : pm_ro (kK3 y bytes ml na rows) = pm_ro kK := Eq.trans (show pm_ro (kK3 y bytes ml na rows) = kro from rfl) (show kro = pm_ro kK from rfl)
  have e2 : pm_ra (kK3 y bytes ml na rows) = pm_ra kK := Eq.trans (show pm_ra (kK3 y bytes ml na rows) = kra from rfl) (show kra = pm_ra kK from rfl)
  have e3 : ∀ a, pm_rat (kK3 y bytes ml na rows) a = pm_rat kK a := fun a => by
    unfold pm_rat
    rw [e2]
  exact ⟨h1, h2, fun a t n f hf => h3 a t n f (by rw [← e3]; exact hf), by rw [e1]; exact h4, h5, h6⟩
theorem kocd3 (hok : ∀ c ∈ rows, ∀ q ∈ c, decode bytes q.1 = .ok (q.2.2.1, pm_len q.2.2.1 q.2.2.2) ∧ pm_tokB q.2.2.1 q.1 q.2.2.2 = true ∧ pm_npf q.2.2.1 = true ∧ Nat.beq q.2.1 8 = false) : ∀ pc g ins aux, pm_code (kK3 y bytes ml na rows) 0 pc = some (g, ins, aux) → decode bytes pc = .ok (ins, pm_len ins aux) ∧ pm_tok ins pc aux ∧ (∀ i, ins ≠ .putfield i) ∧ g ≠ 8 := by
  intro pc g ins aux h
  have h1 : pm_tl rows pc = some (g, ins, aux) := h
  obtain ⟨c, hc, hq⟩ := pm_tl_mem h1
  obtain ⟨g1, g2, g3, g4⟩ := hok c hc _ hq
  exact ⟨g1, pm_tokB_ok g2, (fun i e => by subst e; cases g3), (fun e => by subst e; cases g4)⟩
theorem kolk3 : ∀ i kd a b v, pm_lnk (kK3 y bytes ml na rows) (pm_own (kK3 y bytes ml na rows) 0) i = some (kd, a, b, v) → pm_lk (kK3 y bytes ml na rows) kM kcl kALL knws kzs krs kaos krof "BonnetValleyLaw" i kd a b v := by
  intro i kd a b v h
  have h1 : pm_tl klo3 i = some (kd, a, b, v) := h
  obtain ⟨c, hc, hq⟩ := pm_tl_mem h1
  have h2 := klA3 c hc _ hq
  unfold kLp pm_lk at h2
  unfold pm_lk
  exact h2
theorem kck3 : pm_ck (kK3 y bytes ml na rows) kcl kALL := by
  have h := kck
  unfold pm_ck at h ⊢
  exact h
variable {D : va_G} {dA : Nat → ClassId} {B : Nat} {ra : Nat → Nat} {ph ph2 : pm_H}
/-- a helper whose call answers -/
theorem knorm (l : Launch) {as : List Value} {hh : List (Nat × Nat × Nat × Nat)} {d pc : Nat} {L : List (Option Value)} (hy : plainName y.cls = true) (hycls : y.cls = "BonnetValleyLaw") (hok : ∀ c ∈ rows, ∀ q ∈ c, decode bytes q.1 = .ok (q.2.2.1, pm_len q.2.2.1 q.2.2.2) ∧ pm_tokB q.2.2.1 q.1 q.2.2.2 = true ∧ pm_npf q.2.2.1 = true ∧ Nat.beq q.2.1 8 = false) (hent : pm_entB (kK3 y bytes ml na rows) 0 as = true) (hn : pm_Se (kK3 y bytes ml na rows) false (pm_Rd kK false d) 0 (pm_ent (kK3 y bytes ml na rows) 0 as ph) (pc, L, [.int (Int32.ofInt 0)], ph2, 0, 0)) (dcE : decode bytes pc = .ok (.ireturn, 1)) :
    Met l y (Cond.codeWith y bytes ml (some .int) hh :: kALL) (pm_rm (d + 1) 1 6) (va_Pc (as.map (pm_u (pm_ad B ra))) (kTI D dA B ra ph)) (pm_Qc kK kcl knws kzs krs kaos krof "BonnetValley$State" D dA B ra false (some (.int (Int32.ofInt 0)), ph2, 1, 6)) 1 6 (fun q => B ≤ q) := by
  obtain ⟨n, hn⟩ := hn
  refine kMet_ofWH hy rfl ?_
  intro p e s m args below meth c s₁ B0 hml hv
  obtain ⟨rfl, ⟨hP, hK, hB, hz, hRO⟩, hT⟩ := hv
  have hts0 := atoms_spec (ws := Cond.codeWith y bytes ml (some .int) hh :: kALL) B0.pre
  have hts : ∀ w ∈ kALL, w.before _ s = true := fun w hw => hts0 w (List.mem_cons_of_mem _ hw)
  have hown : s.vm.findClass "BonnetValleyLaw" = some m.cls := by rw [← hycls]; exact findClass_of_methodNamed B0.named
  rw [lg_entry_eq]
  have hl2 := pm_ent_lr (ad := pm_ad B ra) hent
  have hl3 : pm_lr (pm_ad B ra) ((lg_sl (as.map (pm_u (pm_ad B ra))) ++ List.replicate (ml - (lg_sl (as.map (pm_u (pm_ad B ra)))).length) Slot.unset).toArray) c.maxLocals (pm_ent (kK3 y bytes ml na rows) 0 as ph).2.1 := by
    rw [hml]
    exact hl2
  refine pm_S_ok (K2 := kK3 y bytes ml na rows) (own := "BonnetValleyLaw") (R := pm_rm (d + 1) 1 6) (d := d) kok (pm_sound kok l d) B0.exec B0.bytes hown hts (kocd3 hok) kolk3 kck3 kE hK hRO (kRO3 hRO) hB (Nat.le_refl _) (by show d * 128 + 128 ≤ (d + 1) * 128; omega) n _ _ hn (Nat.zero_le _) (Nat.zero_le _) s.heap [] _ hP va_S.rf hz hl3 ?_
  intro H1 locs1 ls1 hP1 hS1 hz1 hl1
  refine W.widen (k := 1) (n := 6) (Nat.zero_le _) (Nat.zero_le _) ?_
  refine W.iret B0.exec B0.bytes B0.returns (fun t ht hW => ⟨rfl, pm_In_of knwf hP1 hK hB hS1 (fun h => by cases h) hRO ht hW, ?_⟩) hS1.2.2 dcE B0.notSynchronized
  exact ⟨by rw [ht]; exact hS1.1, fun q h1 h2 => by rw [ht]; exact hS1.2.1 q h1 h2⟩
end KN3
/-- the law's array of one long -/
theorem kout {m : Int} {w : Nat} {ph : pm_H} (hP : xH xX kK m w ph) (y : Int64) : ∃ l : List Int64, pm_at ph 201 = some (.inl (2, .inr (.inl l))) ∧ 0 < l.length ∧ xH xX kK m w (ph.set 201 (.inl (2, .inr (.inl (l.set 0 y))))) ∧ xu0 ph (ph.set 201 (.inl (2, .inr (.inl (l.set 0 y))))) 201 := by
  obtain ⟨s, t, h4, -, h3⟩ := hP 201 87 rfl
  obtain ⟨t0, ht⟩ : ∃ t0, xkt 87 = some (some 201, .inl (2, 1, t0)) := ⟨_, rfl⟩
  rw [show xX.2.1 87 = xkt 87 from rfl, ht] at h4
  cases h4
  obtain ⟨l, hat, hlen⟩ := h3
  have hat2 : pm_at (ph.set 201 (.inl (2, .inr (.inl (l.set 0 y))))) 201 = some (.inl (2, .inr (.inl (l.set 0 y)))) := xat_self hat
  refine ⟨l, hat, by omega, xH_set (t := .inl (2, 1, t0)) hP rfl ht ⟨_, hat2, by rw [List.length_set]; exact hlen⟩, ?_, fun b eb => xat_ne eb⟩
  intro b c
  by_cases eb : b = 201
  · subst eb
    unfold xget
    rw [hat2, hat]
    rfl
  · exact xget_ne eb
theorem ki0 : (Int32.ofInt 0).toInt = 0 := by decide
theorem klas {K : pm_K} {al : Bool} {mj pc c s : Nat} {aux : Nat} {y : Int64} {L : List (Option Value)} {st : List Value} {ph : pm_H} {l : List Int64} (hc : pm_code K mj pc = some (5, .lastore, aux)) (hat : pm_at ph 201 = some (.inl (2, .inr (.inl l)))) (hl : 0 < l.length) : pm_step K al mj (pc, L, .long y :: .int (Int32.ofInt 0) :: .ref 201 :: st, ph, c, s) = some (.inl (pc + 1, L, st, ph.set 201 (.inl (2, .inr (.inl (l.set 0 y)))), c, s)) := ks5 (c1 := 0) (s1 := 0) hc (by
  have e := xup_eq (l := l) (i := Int32.ofInt 0) (x := y) (by rw [ki0]; exact Int.le_refl _) (by rw [ki0]; exact hl)
  rw [ki0] at e
  unfold pm_mem
  simp only [hat, e]
  rfl)
def kR_person : List (List (Nat × Nat × Instr × Nat)) := [[(0, 2, .aload_n kF3, 0), (1, 0, .iconst 0, 0), (2, 2, .aload_n kF0, 0), (3, 2, .iload_n kF1, 0), (4, 2, .iload_n kF2, 0), (5, 6, .invokevirtual 7, 0), (8, 0, .i2l, 0), (9, 5, .lastore, 0), (10, 4, .goto 7, 17)], [(17, 0, .iconst 0, 0), (18, 7, .ireturn, 0)]]
theorem kRo_person : ∀ c ∈ kR_person, ∀ q ∈ c, decode method_3_code q.1 = .ok (q.2.2.1, pm_len q.2.2.1 q.2.2.2) ∧ pm_tokB q.2.2.1 q.1 q.2.2.2 = true ∧ pm_npf q.2.2.1 = true ∧ Nat.beq q.2.1 8 = false := by decide +kernel
theorem kRc_person {pc : Nat} {e : Nat × Instr × Nat} (h : pm_tl kR_person pc = some e) : pm_code (kK3 (⟨"BonnetValleyLaw", "person", "(LBonnetValley;II[J)I"⟩ : MethodName) method_3_code 5 4 kR_person) 0 pc = some e := h
theorem kRr_person {m : Int} {w d : Nat} {p q : Int32} {r : Int32} {ph ph1 : pm_H} {fl : List Value} {l : List Int64} (hat : pm_at ph 0 = some (.inr (12, fl))) (h : pm_Rd kK false d 129 [.ref 0, .int p, .int q] ph (some (.int r), ph1, 0, 0)) (h2 : pm_at ph1 201 = some (.inl (2, .inr (.inl l)))) (h3 : 0 < l.length) : pm_Se (kK3 (⟨"BonnetValleyLaw", "person", "(LBonnetValley;II[J)I"⟩ : MethodName) method_3_code 5 4 kR_person) false (pm_Rd kK false d) 0 (pm_ent (kK3 (⟨"BonnetValleyLaw", "person", "(LBonnetValley;II[J)I"⟩ : MethodName) method_3_code 5 4 kR_person) 0 [.ref 0, .int p, .int q, .ref 201] ph) (18, [some (.ref 0), some (.int p), some (.int q), some (.ref 201), none], [.int (Int32.ofInt 0)], ph1.set 201 (.inl (2, .inr (.inl (l.set 0 (r.toInt64))))), 0, 0) := by
  show pm_Se (kK3 (⟨"BonnetValleyLaw", "person", "(LBonnetValley;II[J)I"⟩ : MethodName) method_3_code 5 4 kR_person) false (pm_Rd kK false d) 0 (0, [some (.ref 0), some (.int p), some (.int q), some (.ref 201), none], [], ph, 0, 0) _
  refine .step (ks2 (n := 1) (v := .ref 201) (kRc_person (e := (2, .aload_n kF3, 0)) rfl) rfl) ?_
  refine .step (ks0 (st' := [.int (Int32.ofInt 0), .ref 201]) (kRc_person (e := (0, .iconst 0, 0)) rfl) rfl) ?_
  refine .step (ks2 (n := 1) (v := .ref 0) (kRc_person (e := (2, .aload_n kF0, 0)) rfl) rfl) ?_
  refine .step (ks2 (n := 1) (v := .int p) (kRc_person (e := (2, .iload_n kF1, 0)) rfl) rfl) ?_
  refine .step (ks2 (n := 1) (v := .int q) (kRc_person (e := (2, .iload_n kF2, 0)) rfl) rfl) ?_
  refine .call (j := 129) (as := [.ref 0, .int p, .int q]) (v := some (.int r)) (ph' := ph1) (c1 := 0) (s1 := 0) (ks6 (r0 := [.int (Int32.ofInt 0), .ref 201]) (kRc_person (e := (6, .invokevirtual 7, 0)) rfl) (xinvV (j := 129) (n := 2) (ci := 12) rfl rfl hat rfl rfl)) h ?_
  refine .step (ks0 (st' := [.long r.toInt64, .int (Int32.ofInt 0), .ref 201]) (kRc_person (e := (0, .i2l, 0)) rfl) rfl) ?_
  refine .step (klas (kRc_person (e := (5, .lastore, 0)) rfl) h2 h3) ?_
  refine .step (ks4 (pc' := 17) (st' := []) (kRc_person (e := (4, .goto 7, 17)) rfl) rfl) ?_
  exact .step (ks0 (st' := [.int (Int32.ofInt 0)]) (kRc_person (e := (0, .iconst 0, 0)) rfl) rfl) .rf
def kR_thing : List (List (Nat × Nat × Instr × Nat)) := [[(0, 2, .aload_n kF3, 0), (1, 0, .iconst 0, 0), (2, 2, .aload_n kF0, 0), (3, 2, .iload_n kF1, 0), (4, 2, .iload_n kF2, 0), (5, 6, .invokevirtual 15, 0), (8, 0, .i2l, 0), (9, 5, .lastore, 0), (10, 4, .goto 7, 17)], [(17, 0, .iconst 0, 0), (18, 7, .ireturn, 0)]]
theorem kRo_thing : ∀ c ∈ kR_thing, ∀ q ∈ c, decode method_4_code q.1 = .ok (q.2.2.1, pm_len q.2.2.1 q.2.2.2) ∧ pm_tokB q.2.2.1 q.1 q.2.2.2 = true ∧ pm_npf q.2.2.1 = true ∧ Nat.beq q.2.1 8 = false := by decide +kernel
theorem kRc_thing {pc : Nat} {e : Nat × Instr × Nat} (h : pm_tl kR_thing pc = some e) : pm_code (kK3 (⟨"BonnetValleyLaw", "thing", "(LBonnetValley;II[J)I"⟩ : MethodName) method_4_code 5 4 kR_thing) 0 pc = some e := h
theorem kRr_thing {m : Int} {w d : Nat} {p q : Int32} {r : Int32} {ph ph1 : pm_H} {fl : List Value} {l : List Int64} (hat : pm_at ph 0 = some (.inr (12, fl))) (h : pm_Rd kK false d 130 [.ref 0, .int p, .int q] ph (some (.int r), ph1, 0, 0)) (h2 : pm_at ph1 201 = some (.inl (2, .inr (.inl l)))) (h3 : 0 < l.length) : pm_Se (kK3 (⟨"BonnetValleyLaw", "thing", "(LBonnetValley;II[J)I"⟩ : MethodName) method_4_code 5 4 kR_thing) false (pm_Rd kK false d) 0 (pm_ent (kK3 (⟨"BonnetValleyLaw", "thing", "(LBonnetValley;II[J)I"⟩ : MethodName) method_4_code 5 4 kR_thing) 0 [.ref 0, .int p, .int q, .ref 201] ph) (18, [some (.ref 0), some (.int p), some (.int q), some (.ref 201), none], [.int (Int32.ofInt 0)], ph1.set 201 (.inl (2, .inr (.inl (l.set 0 (r.toInt64))))), 0, 0) := by
  show pm_Se (kK3 (⟨"BonnetValleyLaw", "thing", "(LBonnetValley;II[J)I"⟩ : MethodName) method_4_code 5 4 kR_thing) false (pm_Rd kK false d) 0 (0, [some (.ref 0), some (.int p), some (.int q), some (.ref 201), none], [], ph, 0, 0) _
  refine .step (ks2 (n := 1) (v := .ref 201) (kRc_thing (e := (2, .aload_n kF3, 0)) rfl) rfl) ?_
  refine .step (ks0 (st' := [.int (Int32.ofInt 0), .ref 201]) (kRc_thing (e := (0, .iconst 0, 0)) rfl) rfl) ?_
  refine .step (ks2 (n := 1) (v := .ref 0) (kRc_thing (e := (2, .aload_n kF0, 0)) rfl) rfl) ?_
  refine .step (ks2 (n := 1) (v := .int p) (kRc_thing (e := (2, .iload_n kF1, 0)) rfl) rfl) ?_
  refine .step (ks2 (n := 1) (v := .int q) (kRc_thing (e := (2, .iload_n kF2, 0)) rfl) rfl) ?_
  refine .call (j := 130) (as := [.ref 0, .int p, .int q]) (v := some (.int r)) (ph' := ph1) (c1 := 0) (s1 := 0) (ks6 (r0 := [.int (Int32.ofInt 0), .ref 201]) (kRc_thing (e := (6, .invokevirtual 15, 0)) rfl) (xinvV (j := 130) (n := 2) (ci := 12) rfl rfl hat rfl rfl)) h ?_
  refine .step (ks0 (st' := [.long r.toInt64, .int (Int32.ofInt 0), .ref 201]) (kRc_thing (e := (0, .i2l, 0)) rfl) rfl) ?_
  refine .step (klas (kRc_thing (e := (5, .lastore, 0)) rfl) h2 h3) ?_
  refine .step (ks4 (pc' := 17) (st' := []) (kRc_thing (e := (4, .goto 7, 17)) rfl) rfl) ?_
  exact .step (ks0 (st' := [.int (Int32.ofInt 0)]) (kRc_thing (e := (0, .iconst 0, 0)) rfl) rfl) .rf
def kR_row : List (List (Nat × Nat × Instr × Nat)) := [[(0, 2, .aload_n kF2, 0), (1, 0, .iconst 0, 0), (2, 2, .aload_n kF0, 0), (3, 2, .iload_n kF1, 0), (4, 6, .invokevirtual 18, 0), (7, 5, .lastore, 0), (8, 4, .goto 6, 14), (14, 0, .iconst 0, 0), (15, 7, .ireturn, 0)]]
theorem kRo_row : ∀ c ∈ kR_row, ∀ q ∈ c, decode method_5_code q.1 = .ok (q.2.2.1, pm_len q.2.2.1 q.2.2.2) ∧ pm_tokB q.2.2.1 q.1 q.2.2.2 = true ∧ pm_npf q.2.2.1 = true ∧ Nat.beq q.2.1 8 = false := by decide +kernel
theorem kRc_row {pc : Nat} {e : Nat × Instr × Nat} (h : pm_tl kR_row pc = some e) : pm_code (kK3 (⟨"BonnetValleyLaw", "row", "(LBonnetValley;I[J)I"⟩ : MethodName) method_5_code 4 3 kR_row) 0 pc = some e := h
theorem kRr_row {m : Int} {w d : Nat} {p : Int32} {r : Int64} {ph ph1 : pm_H} {fl : List Value} {l : List Int64} (hat : pm_at ph 0 = some (.inr (12, fl))) (h : pm_Rd kK false d 180 [.ref 0, .int p] ph (some (.long r), ph1, 0, 0)) (h2 : pm_at ph1 201 = some (.inl (2, .inr (.inl l)))) (h3 : 0 < l.length) : pm_Se (kK3 (⟨"BonnetValleyLaw", "row", "(LBonnetValley;I[J)I"⟩ : MethodName) method_5_code 4 3 kR_row) false (pm_Rd kK false d) 0 (pm_ent (kK3 (⟨"BonnetValleyLaw", "row", "(LBonnetValley;I[J)I"⟩ : MethodName) method_5_code 4 3 kR_row) 0 [.ref 0, .int p, .ref 201] ph) (15, [some (.ref 0), some (.int p), some (.ref 201), none], [.int (Int32.ofInt 0)], ph1.set 201 (.inl (2, .inr (.inl (l.set 0 (r))))), 0, 0) := by
  show pm_Se (kK3 (⟨"BonnetValleyLaw", "row", "(LBonnetValley;I[J)I"⟩ : MethodName) method_5_code 4 3 kR_row) false (pm_Rd kK false d) 0 (0, [some (.ref 0), some (.int p), some (.ref 201), none], [], ph, 0, 0) _
  refine .step (ks2 (n := 1) (v := .ref 201) (kRc_row (e := (2, .aload_n kF2, 0)) rfl) rfl) ?_
  refine .step (ks0 (st' := [.int (Int32.ofInt 0), .ref 201]) (kRc_row (e := (0, .iconst 0, 0)) rfl) rfl) ?_
  refine .step (ks2 (n := 1) (v := .ref 0) (kRc_row (e := (2, .aload_n kF0, 0)) rfl) rfl) ?_
  refine .step (ks2 (n := 1) (v := .int p) (kRc_row (e := (2, .iload_n kF1, 0)) rfl) rfl) ?_
  refine .call (j := 180) (as := [.ref 0, .int p]) (v := some (.long r)) (ph' := ph1) (c1 := 0) (s1 := 0) (ks6 (r0 := [.int (Int32.ofInt 0), .ref 201]) (kRc_row (e := (6, .invokevirtual 18, 0)) rfl) (xinvV (j := 180) (n := 1) (ci := 12) rfl rfl hat rfl rfl)) h ?_
  refine .step (klas (kRc_row (e := (5, .lastore, 0)) rfl) h2 h3) ?_
  refine .step (ks4 (pc' := 14) (st' := []) (kRc_row (e := (4, .goto 6, 14)) rfl) rfl) ?_
  exact .step (ks0 (st' := [.int (Int32.ofInt 0)]) (kRc_row (e := (0, .iconst 0, 0)) rfl) rfl) .rf
