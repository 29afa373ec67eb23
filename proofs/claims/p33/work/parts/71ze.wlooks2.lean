/-! what looks answer: bears, eighths; printed by wip/z/z3b_looks.py -/
theorem zdecI {m : Nat} (h : m < 100) : (zn m + Int32.ofInt (-1)).toInt = ((m : Nat) : Int) + (-1 : Int) := by
  have e : (Int32.ofInt (-1)).toInt = -1 := by decide
  have t := znt (k := m) (by omega)
  rw [ti_add (by rw [t, e]; omega) (by rw [t, e]; omega), t, e]
def zXbr (f : Nat → Bool) : Nat → Int32
  | 0 => (Int8.ofInt (-2)).toInt32
  | k + 1 => bif f k then zn k else zXbr f k
theorem zXbr_t {f : Nat → Bool} {k : Nat} (h : f k = true) : zXbr f (k + 1) = zn k := by
  show (bif f k then zn k else zXbr f k) = _
  rw [h]
  rfl
theorem zXbr_f {f : Nat → Bool} {k : Nat} (h : f k = false) : zXbr f (k + 1) = zXbr f k := by
  show (bif f k then zn k else zXbr f k) = _
  rw [h]
  rfl
def zXbears (E : zEn) (P : Nat) (v : Nat → Nat) (x y : Int32) : Int32 := if ((0 ≤ x.toInt ∧ x.toInt < (P : Int)) ∧ (0 ≤ y.toInt ∧ y.toInt < ((E.1 * E.2.1 : Nat) : Int))) then zXbr (fun br => zSw E P v x.toInt.toNat (v (8 + x.toInt.toNat)) br y.toInt.toNat) 5 else Int32.ofInt (-1)
theorem zXbears_n {E : zEn} {P : Nat} {v : Nat → Nat} {x y : Int32} (h : ¬ ((0 ≤ x.toInt ∧ x.toInt < (P : Int)) ∧ (0 ≤ y.toInt ∧ y.toInt < ((E.1 * E.2.1 : Nat) : Int)))) : (some (.int (Int32.ofInt (-1))) : Option Value) = some (.int (zXbears E P v x y)) := by
  unfold zXbears
  rw [if_neg h]
theorem zXbears_p {E : zEn} {P p g : Nat} {v : Nat → Nat} {z : Int32} (hp : p < P) (hP : P ≤ 8) (hg : g < E.1 * E.2.1) (hn : E.1 * E.2.1 ≤ 64) (h : zXbr (fun br => zSw E P v p (v (8 + p)) br g) 5 = z) : (some (.int z) : Option Value) = some (.int (zXbears E P v (zn p) (zn g))) := by
  have t := znt (k := p) (by omega)
  have t2 := znt (k := g) (by omega)
  unfold zXbears
  rw [if_pos ⟨⟨by omega, by omega⟩, ⟨by omega, by omega⟩⟩, show (zn p).toInt.toNat = p by omega, show (zn g).toInt.toNat = g by omega, h]
theorem zc_bearsX {ph : pm_H} {E : zEn} {F P G : Nat} {v : Nat → Nat} (hS : zSh ph) (hE : zCe ph E F) (ht : zCt ph 25 P G v) (hO : zOk E.1 E.2.1 P G v) (hr : zc ph 10 1 = some (.ref F)) (hc : zCc ph E.1 E.2.1 E.2.2.1) {x y : Int32} : zM 161 [.ref 0, .int x, .int y] ph (fun v0 _ => v0 = some (.int (zXbears E P v x y))) := by
  obtain ⟨Q, hQ⟩ : ∃ Q : Option Value → pm_H → Prop, Q = (fun v0 _ => v0 = some (.int (zXbears E P v x y))) := ⟨_, rfl⟩
  rw [← hQ]
  refine zM_mk fun n D => ?_
  show zW n D 161 Q 0 [some (.ref 0), some (.int x), some (.int y), none] [] ph
  have c_0 : ((Int8.ofInt (-2)).toInt32).toInt = -2 := by decide
  have c_1 : (Int32.ofInt (-1)).toInt = -1 := by decide
  have c_2 : (Int32.ofInt 4).toInt = 4 := by decide
  obtain ⟨R, C, rk, sn, sk, cn, cd⟩ := E
  have hL0 : zCl ph R C rk := hE.1
  have hi0 : zCi ph sn sk := hE.2.1
  have hF : F = 11 ∨ F = 16 := hE.2.2.2
  have hE0 : zCe ph (R, C, rk, sn, sk, cn, cd) F := hE
  have hO0 : zOk R C P G v := hO
  have hL := hL0
  have hs := ht.1.2
  have hd := ht.2
  have h25 := ht.1.1
  obtain ⟨gR, gC, gN, gK, gA, hR3, hR7, hC3, hC7⟩ := hL
  have hRC := zRC49 hR7 hC7
  have tR := znt (k := R) (by omega)
  have tC := znt (k := C) (by omega)
  have tRC := znt (k := R * C) (by omega)
  have hd0 := hd
  have hs0 := hs
  obtain ⟨r3, r4, r5, r6, r7, l1, l2, l3, l4, l5⟩ := hs
  obtain ⟨gP, hP8, gG, hG8, gH, gv, gw⟩ := hd
  have tP := znt (k := P) (by omega)
  have tG := znt (k := G) (by omega)
  have h40 := hO0.2.2
  have t40 := znt (k := v 40) (by omega)
  have hc0 := hc
  refine w_load (pc' := 1) (v := .ref 0) (m := 1) (ykc_161 (e := (2, .aload_n kF0, 0)) rfl) rfl rfl ?_
  refine w_gf (pc' := 4) (v := .ref 25) (ykc_161 (e := (5, .getfield 42, 0)) rfl) rfl (zsg hS zs_0_4) rfl ?_
  refine w_load (pc' := 5) (v := .int x) (m := 1) (ykc_161 (e := (2, .iload_n kF1, 0)) rfl) rfl rfl ?_
  refine w_cv (as := [.ref 25, .int x]) (r := []) (ykc_161 (e := (6, .invokevirtual 167, 0)) rfl) rfl rfl rfl rfl (zc_hasP ht.1.2 ht.2 (i := x)) (fun v1047 ph1048 hv => ?_)
  obtain ⟨rfl, rfl⟩ := hv
  show zW n D 161 Q 8 [some (.ref 0), some (.int x), some (.int y), none] [.int (zI (decide (0 ≤ x.toInt ∧ x.toInt < ((P : Nat) : Int))))] ph
  refine w_beq (ykc_161 (e := (4, .ifCond .eq 14, 22)) rfl) rfl (fun b1049 => ?_) (fun b1049 => ?_)
  · refine w_alu (pc' := 23) (st' := [.int (Int32.ofInt (-1))]) (ykc_161 (e := (0, .iconst (-1), 0)) rfl) rfl rfl ?_
    refine w_ret (v := (some (.int (Int32.ofInt (-1))))) (ykc_161 (e := (7, .ireturn, 0)) rfl) (zr_v rfl) ?_
    rw [hQ]
    exact zXbears_n (fun q => absurd q.1 (of_decide_eq_false b1049))
  · refine w_load (pc' := 12) (v := .ref 0) (m := 1) (ykc_161 (e := (2, .aload_n kF0, 0)) rfl) rfl rfl ?_
    refine w_gf (pc' := 15) (v := .ref 5) (ykc_161 (e := (5, .getfield 26, 0)) rfl) rfl (zsg hS zs_0_2) rfl ?_
    refine w_load (pc' := 16) (v := .int y) (m := 1) (ykc_161 (e := (2, .iload_n kF2, 0)) rfl) rfl rfl ?_
    refine w_cv (as := [.ref 5, .int y]) (r := []) (ykc_161 (e := (6, .invokevirtual 302, 0)) rfl) rfl rfl rfl rfl (zc_holds hS hL0 (f := y)) (fun v1050 ph1051 hv => ?_)
    obtain ⟨rfl, rfl⟩ := hv
    show zW n D 161 Q 19 [some (.ref 0), some (.int x), some (.int y), none] [.int (zI (decide (0 ≤ y.toInt ∧ y.toInt < ((R * C : Nat) : Int))))] ph
    refine w_bne (ykc_161 (e := (4, .ifCond .ne 5, 24)) rfl) rfl (fun b1052 => ?_) (fun b1052 => ?_)
    · have b_p := of_decide_eq_true b1049
      obtain ⟨p, h_p, rfl⟩ : ∃ p : Nat, p < P ∧ x = zn p := ⟨x.toInt.toNat, by omega, zn_of (by omega)⟩
      have t_p := znt (k := p) (by omega)
      have op := hO0.1 p h_p
      have tvp := znt (k := v p) (by omega)
      have tvf := znt (k := v (8 + p)) (by omega)
      have tvb := znt (k := v (16 + p)) (by omega)
      have b_g := of_decide_eq_true b1052
      obtain ⟨g, h_g, rfl⟩ : ∃ g : Nat, g < R * C ∧ y = zn g := ⟨y.toInt.toNat, by omega, zn_of (by omega)⟩
      have t_g := znt (k := g) (by omega)
      show zW n D 161 Q 24 [some (.ref 0), some (.int (zn p)), some (.int (zn g)), none] [] ph
      refine w_alu (pc' := 25) (st' := [.int (Int32.ofInt 4)]) (ykc_161 (e := (0, .iconst 4, 0)) rfl) rfl rfl ?_
      refine w_store (pc' := 26) (L' := [some (.ref 0), some (.int (zn p)), some (.int (zn g)), some (.int (Int32.ofInt 4))]) (st' := []) (m := 1) (ykc_161 (e := (3, .istore_n kF3, 0)) rfl) rfl rfl ?_
      have hl : ∀ (n : Nat), ∀ (k : Nat) (y : Int32) (ph1 : pm_H), (k ≤ 5) → (y.toInt = (k : Int) - 1) → (zCx ph ph1) → (zCc ph1 R C rk) → (zXbr (fun br => zSw (R, C, rk, sn, sk, cn, cd) P v p (v (8 + p)) br g) 5 = zXbr (fun br => zSw (R, C, rk, sn, sk, cn, cd) P v p (v (8 + p)) br g) k) → zW n D 161 Q 26 [some (.ref 0), some (.int (zn p)), some (.int (zn g)), some (.int y)] [] ph1 := by
        intro n
        induction n using Nat.strongRecOn with
        | ind n ih =>
          intro k y ph1 hk hy hf1 hc1 he
          refine w_load (pc' := 27) (v := .int y) (m := 1) (ykc_161 (e := (2, .iload_n kF3, 0)) rfl) rfl rfl ?_
          refine w_zlt (ykc_161 (e := (4, .ifCond .lt 56, 83)) rfl) rfl (fun b1053 => ?_) (fun b1053 => ?_)
          · refine w_push (pc' := 85) (v := .int ((Int8.ofInt (-2)).toInt32)) (m := 2) (ykc_161 (e := (1, .bipush (-2), 0)) rfl) rfl rfl ?_
            refine w_ret (v := (some (.int ((Int8.ofInt (-2)).toInt32)))) (ykc_161 (e := (7, .ireturn, 0)) rfl) (zr_v rfl) ?_
            have ek : k = 0 := by omega
            subst ek
            rw [hQ]
            exact zXbears_p (E := (R, C, rk, sn, sk, cn, cd)) h_p (by omega) h_g (show R * C ≤ 64 by omega) (he.trans rfl)
          · obtain ⟨m, rfl⟩ : ∃ m : Nat, k = m + 1 := ⟨k - 1, by omega⟩
            obtain rfl : y = zn m := zn_of (by omega)
            have tm := znt (k := m) (by omega)
            show zW n D 161 Q 30 [some (.ref 0), some (.int (zn p)), some (.int (zn g)), some (.int (zn m))] [] ph1
            refine w_load (pc' := 31) (v := .ref 0) (m := 1) (ykc_161 (e := (2, .aload_n kF0, 0)) rfl) rfl rfl ?_
            refine w_gf (pc' := 34) (v := .ref 10) (ykc_161 (e := (5, .getfield 35, 0)) rfl) rfl ((hf1.1 0 3 (by decide) (by decide)).trans (zsg hS zs_0_3)) rfl ?_
            refine w_load (pc' := 35) (v := .ref 0) (m := 1) (ykc_161 (e := (2, .aload_n kF0, 0)) rfl) rfl rfl ?_
            refine w_gf (pc' := 38) (v := .ref 25) (ykc_161 (e := (5, .getfield 42, 0)) rfl) rfl ((hf1.1 0 4 (by decide) (by decide)).trans (zsg hS zs_0_4)) rfl ?_
            refine w_load (pc' := 39) (v := .int (zn p)) (m := 1) (ykc_161 (e := (2, .iload_n kF1, 0)) rfl) rfl rfl ?_
            refine w_load (pc' := 40) (v := .int (zn m)) (m := 1) (ykc_161 (e := (2, .iload_n kF3, 0)) rfl) rfl rfl ?_
            refine w_cv (as := [.ref 10, .ref 25, .int (zn p), .int (zn m)]) (r := []) (ykc_161 (e := (6, .invokevirtual 360, 0)) rfl) rfl rfl rfl rfl (zc_viewU (zCx_S hf1 hS) (zCx_e hf1 hE0) (zCx_t hf1 ht) hO0 ((hf1.1 10 1 (by decide) (by decide)).trans hr) hc1 (p := p) (br := m) (by omega) (by omega)) (fun v1056 ph1057 hv => ?_)
            obtain ⟨f1054, hc1055, rfl⟩ := hv
            show zW n D 161 Q 43 [some (.ref 0), some (.int (zn p)), some (.int (zn g)), some (.int (zn m))] [.long (zS (zSw (R, C, rk, sn, sk, cn, cd) P v p (v (8 + p)) m) (R * C))] ph1057
            refine w_load (pc' := 44) (v := .int (zn g)) (m := 1) (ykc_161 (e := (2, .iload_n kF2, 0)) rfl) rfl rfl ?_
            refine w_cs (as := [.long (zS (zSw (R, C, rk, sn, sk, cn, cd) P v p (v (8 + p)) m) (R * C)), .int (zn g)]) (r := []) (ykc_161 (e := (6, .invokestatic 345, 0)) rfl) rfl rfl rfl rfl (zc_has (kn := g) (by omega) (by omega)) (fun v1058 ph1059 hv => ?_)
            obtain ⟨rfl, rfl⟩ := hv
            rw [zS_b (by omega) (by omega), decide_eq_true (show g < R * C by omega), Bool.true_and]
            show zW n D 161 Q 47 [some (.ref 0), some (.int (zn p)), some (.int (zn g)), some (.int (zn m))] [.int (zI (zSw (R, C, rk, sn, sk, cn, cd) P v p (v (8 + p)) m g))] ph1057
            refine w_beq (ykc_161 (e := (4, .ifCond .eq 30, 77)) rfl) rfl (fun b1060 => ?_) (fun b1060 => ?_)
            · obtain ⟨z1061, e_z1061, h_z1061⟩ : ∃ zq : Int32, (zn m) + Int32.ofInt (-1) = zq ∧ zq.toInt = ((m : Nat) : Int) + (-1 : Int) := ⟨_, rfl, zdecI (by omega)⟩
              refine w_store (pc' := 80) (L' := [some (.ref 0), some (.int (zn p)), some (.int (zn g)), some (.int z1061)]) (st' := []) (m := 3) (ykc_161 (e := (3, .iinc 3 (-1), 0)) rfl) (by rw [← e_z1061]; rfl) rfl ?_
              refine w_gb (ykc_161 (e := (4, .goto (-54), 26)) rfl) (fun k1062 hk1062 => ?_)
              exact ih k1062 hk1062 m z1061 _ (by omega) (by omega) (zFr_trans hf1 f1054) hc1055 (he.trans (zXbr_f (f := (fun br => zSw (R, C, rk, sn, sk, cn, cd) P v p (v (8 + p)) br g)) (k := m) b1060))
            · rw [hQ]
              exact zTail kc_161 false 3 50 76 (fun _ => rfl) (Or.inl ⟨_, rfl⟩) (by decide +kernel) (by decide) (by decide) rfl (by decide +kernel) (fun _ => zXbears_p (E := (R, C, rk, sn, sk, cn, cd)) h_p (by omega) h_g (show R * C ≤ 64 by omega) (he.trans (zXbr_t (f := (fun br => zSw (R, C, rk, sn, sk, cn, cd) P v p (v (8 + p)) br g)) (k := m) b1060)))
      exact hl n 5 _ _ (Nat.le_refl 5) (by decide) zFr_refl hc0 rfl
    · refine w_alu (pc' := 23) (st' := [.int (Int32.ofInt (-1))]) (ykc_161 (e := (0, .iconst (-1), 0)) rfl) rfl rfl ?_
      refine w_ret (v := (some (.int (Int32.ofInt (-1))))) (ykc_161 (e := (7, .ireturn, 0)) rfl) (zr_v rfl) ?_
      rw [hQ]
      exact zXbears_n (fun q => absurd q.2 (of_decide_eq_false b1052))
theorem zm_bearsX {ph : pm_H} {E : zEn} {P G : Nat} {v : Nat → Nat} (hS : zSh ph) (hE : zMe ph E) (hN : zMp ph P G) (hv : zNr ph 174 0 v) (hO : zOk E.1 E.2.1 P G v) {x y : Int32} : zM 278 [.ref 170, .int x, .int y] ph (fun v0 _ => v0 = some (.int (zXbears E P v x y))) := by
  obtain ⟨Q, hQ⟩ : ∃ Q : Option Value → pm_H → Prop, Q = (fun v0 _ => v0 = some (.int (zXbears E P v x y))) := ⟨_, rfl⟩
  rw [← hQ]
  refine zM_mk fun n D => ?_
  show zW n D 278 Q 0 [some (.ref 170), some (.int x), some (.int y), none, none] [] ph
  have c_0 : ((Int8.ofInt (-2)).toInt32).toInt = -2 := by decide
  have c_1 : ((Int8.ofInt 8).toInt32).toInt = 8 := by decide
  have c_2 : (Int32.ofInt (-1)).toInt = -1 := by decide
  have c_3 : (Int32.ofInt 0).toInt = 0 := by decide
  have c_4 : (Int32.ofInt 4).toInt = 4 := by decide
  have hA : (174 : Nat) = 174 ∨ (174 : Nat) = 175 := Or.inl rfl
  obtain ⟨R, C, rk, sn, sk, cn, cd⟩ := E
  have hL0 : zMl ph R C rk := hE.1
  have hR0 : zMr ph sn sk cn cd := hE.2.1
  have hcg : zcg cn cd := hE.2.2
  have hE0 : zMe ph (R, C, rk, sn, sk, cn, cd) := hE
  have hO0 : zOk R C P G v := hO
  have hN0 := hN
  have hL := hL0
  have hR := hR0
  obtain ⟨gR, gC, gK, hR3, hR7, hC3, hC7⟩ := hL
  have hRC := zRC49 hR7 hC7
  have tR := znt (k := R) (by omega)
  have tC := znt (k := C) (by omega)
  obtain ⟨gP, hP8, gG, hG8⟩ := hN
  have tP := znt (k := P) (by omega)
  have tG := znt (k := G) (by omega)
  obtain ⟨gsn, hs1, hs20, gsk, gcn, hc40, gcd⟩ := hR
  have tsn := znt (k := sn) (by omega)
  have tcn := znt (k := cn) (by omega)
  refine w_load (pc' := 1) (v := .ref 170) (m := 1) (ykc_278 (e := (2, .aload_n kF0, 0)) rfl) rfl rfl ?_
  refine w_alu (pc' := 2) (st' := [.int (Int32.ofInt 0), .ref 170]) (ykc_278 (e := (0, .iconst 0, 0)) rfl) rfl rfl ?_
  refine w_pf (pc' := 5) (ykc_278 (e := (5, .putfield 3, 0)) rfl) rfl rfl (fun ph1064 u1063 => ?_)
  have f0 : zFr [] [(170, 0)] ph ph1064 := zFr_st u1063 (Or.inr (by simp))
  have hS1 := zSh_st u1063 (by decide +kernel) hS
  have hE1 : zMe ph1064 (R, C, rk, sn, sk, cn, cd) := ⟨zMl_F f0 (by simp) (by simp) (by simp) (by simp) hE0.1, zMr_F f0 (by simp) (by simp) (by simp) (by simp) hE0.2.1, hE0.2.2⟩
  have hN1 := zMp_F f0 (by simp) (by simp) (by simp) hN0
  have hv1 := zNr_F f0 (by simp) (by simp) hv
  have hL1 : zMl ph1064 R C rk := hE1.1
  have hR1 : zMr ph1064 sn sk cn cd := hE1.2.1
  refine w_load (pc' := 6) (v := .ref 170) (m := 1) (ykc_278 (e := (2, .aload_n kF0, 0)) rfl) rfl rfl ?_
  refine w_load (pc' := 7) (v := .int x) (m := 1) (ykc_278 (e := (2, .iload_n kF1, 0)) rfl) rfl rfl ?_
  refine w_cv (as := [.ref 170, .int x]) (r := []) (ykc_278 (e := (6, .invokevirtual 315, 0)) rfl) rfl rfl rfl rfl (zm_isPerson hN1 (p := x)) (fun v1065 ph1066 hv => ?_)
  obtain ⟨rfl, rfl⟩ := hv
  show zW n D 278 Q 10 [some (.ref 170), some (.int x), some (.int y), none, none] [.int (zI (decide (0 ≤ x.toInt ∧ x.toInt < ((P : Nat) : Int))))] ph1064
  refine w_beq (ykc_278 (e := (4, .ifCond .eq 11, 21)) rfl) rfl (fun b1067 => ?_) (fun b1067 => ?_)
  · refine w_alu (pc' := 22) (st' := [.int (Int32.ofInt (-1))]) (ykc_278 (e := (0, .iconst (-1), 0)) rfl) rfl rfl ?_
    refine w_ret (v := (some (.int (Int32.ofInt (-1))))) (ykc_278 (e := (7, .ireturn, 0)) rfl) (zr_v rfl) ?_
    rw [hQ]
    exact zXbears_n (fun q => absurd q.1 (of_decide_eq_false b1067))
  · refine w_load (pc' := 14) (v := .ref 170) (m := 1) (ykc_278 (e := (2, .aload_n kF0, 0)) rfl) rfl rfl ?_
    refine w_load (pc' := 15) (v := .int y) (m := 1) (ykc_278 (e := (2, .iload_n kF2, 0)) rfl) rfl rfl ?_
    refine w_cv (as := [.ref 170, .int y]) (r := []) (ykc_278 (e := (6, .invokevirtual 358, 0)) rfl) rfl rfl rfl rfl (zm_isField hS1 hL1 (f := y)) (fun v1068 ph1069 hv => ?_)
    obtain ⟨rfl, rfl⟩ := hv
    show zW n D 278 Q 18 [some (.ref 170), some (.int x), some (.int y), none, none] [.int (zI (decide (0 ≤ y.toInt ∧ y.toInt < ((R * C : Nat) : Int))))] ph1064
    refine w_bne (ykc_278 (e := (4, .ifCond .ne 5, 23)) rfl) rfl (fun b1070 => ?_) (fun b1070 => ?_)
    · have b_p := of_decide_eq_true b1067
      obtain ⟨p, h_p, rfl⟩ : ∃ p : Nat, p < P ∧ x = zn p := ⟨x.toInt.toNat, by omega, zn_of (by omega)⟩
      have t_p := znt (k := p) (by omega)
      have op := hO0.1 p h_p
      have tvp := znt (k := v p) (by omega)
      have tvf := znt (k := v (8 + p)) (by omega)
      have tvb := znt (k := v (16 + p)) (by omega)
      have b_g := of_decide_eq_true b1070
      obtain ⟨g, h_g, rfl⟩ : ∃ g : Nat, g < R * C ∧ y = zn g := ⟨y.toInt.toNat, by omega, zn_of (by omega)⟩
      have t_g := znt (k := g) (by omega)
      show zW n D 278 Q 23 [some (.ref 170), some (.int (zn p)), some (.int (zn g)), none, none] [] ph1064
      refine w_alu (pc' := 24) (st' := [.int (Int32.ofInt 4)]) (ykc_278 (e := (0, .iconst 4, 0)) rfl) rfl rfl ?_
      refine w_store (pc' := 25) (L' := [some (.ref 170), some (.int (zn p)), some (.int (zn g)), some (.int (Int32.ofInt 4)), none]) (st' := []) (m := 1) (ykc_278 (e := (3, .istore_n kF3, 0)) rfl) rfl rfl ?_
      have hl : ∀ (n : Nat), ∀ (k : Nat) (y : Int32) (o4 : Option Value) (ph1 : pm_H), (k ≤ 5) → (y.toInt = (k : Int) - 1) → (zSc ph1064 ph1) → (zXbr (fun br => zSw (R, C, rk, sn, sk, cn, cd) P v p (v (8 + p)) br g) 5 = zXbr (fun br => zSw (R, C, rk, sn, sk, cn, cd) P v p (v (8 + p)) br g) k) → zW n D 278 Q 25 [some (.ref 170), some (.int (zn p)), some (.int (zn g)), some (.int y), o4] [] ph1 := by
        intro n
        induction n using Nat.strongRecOn with
        | ind n ih =>
          intro k y o4 ph1 hk hy hf1 he
          refine w_load (pc' := 26) (v := .int y) (m := 1) (ykc_278 (e := (2, .iload_n kF3, 0)) rfl) rfl rfl ?_
          refine w_zlt (ykc_278 (e := (4, .ifCond .lt 61, 87)) rfl) rfl (fun b1071 => ?_) (fun b1071 => ?_)
          · refine w_push (pc' := 89) (v := .int ((Int8.ofInt (-2)).toInt32)) (m := 2) (ykc_278 (e := (1, .bipush (-2), 0)) rfl) rfl rfl ?_
            refine w_ret (v := (some (.int ((Int8.ofInt (-2)).toInt32)))) (ykc_278 (e := (7, .ireturn, 0)) rfl) (zr_v rfl) ?_
            have ek : k = 0 := by omega
            subst ek
            rw [hQ]
            exact zXbears_p (E := (R, C, rk, sn, sk, cn, cd)) h_p (by omega) h_g (show R * C ≤ 64 by omega) (he.trans rfl)
          · obtain ⟨m, rfl⟩ : ∃ m : Nat, k = m + 1 := ⟨k - 1, by omega⟩
            obtain rfl : y = zn m := zn_of (by omega)
            have tm := znt (k := m) (by omega)
            show zW n D 278 Q 29 [some (.ref 170), some (.int (zn p)), some (.int (zn g)), some (.int (zn m)), o4] [] ph1
            refine w_load (pc' := 30) (v := .ref 170) (m := 1) (ykc_278 (e := (2, .aload_n kF0, 0)) rfl) rfl rfl ?_
            refine w_load (pc' := 31) (v := .ref 170) (m := 1) (ykc_278 (e := (2, .aload_n kF0, 0)) rfl) rfl rfl ?_
            refine w_gf (pc' := 34) (v := .ref 174) (ykc_278 (e := (5, .getfield 41, 0)) rfl) rfl ((hf1.1 170 11 (by decide) (by decide)).trans ((u1063.2.1 170 11 (fun q => absurd q.2 (by decide))).trans (zsg hS zs_170_11))) rfl ?_
            refine w_load (pc' := 35) (v := .int (zn p)) (m := 1) (ykc_278 (e := (2, .iload_n kF1, 0)) rfl) rfl rfl ?_
            refine w_load (pc' := 36) (v := .int (zn m)) (m := 1) (ykc_278 (e := (2, .iload_n kF3, 0)) rfl) rfl rfl ?_
            refine w_cv (as := [.ref 170, .ref 174, .int (zn p), .int (zn m)]) (r := []) (ykc_278 (e := (6, .invokevirtual 292, 0)) rfl) rfl rfl rfl rfl (zm_reach (zSc_S hf1 hS1) (zSc_e hf1 hE1) (zSc_p hf1 hN1) (zSc_a hf1 (⟨hA, hv1⟩ : ((174 : Nat) = 174 ∨ (174 : Nat) = 175) ∧ zNr ph1064 174 0 v)).1 (zSc_a hf1 (⟨hA, hv1⟩ : ((174 : Nat) = 174 ∨ (174 : Nat) = 175) ∧ zNr ph1064 174 0 v)).2 hO0 (p := p) (br := m) (by omega) (by omega)) (fun v1073 ph1074 hv => ?_)
            obtain ⟨f1072, rfl⟩ := hv
            have rf1072 := @zRe_9 (R, C, rk, sn, sk, cn, cd) P v p m
            have trf1072 := znt (k := zRe (R, C, rk, sn, sk, cn, cd) P v p m) (by omega)
            show zW n D 278 Q 39 [some (.ref 170), some (.int (zn p)), some (.int (zn g)), some (.int (zn m)), o4] [.int (zn (zRe (R, C, rk, sn, sk, cn, cd) P v p m))] ph1074
            refine w_store (pc' := 41) (L' := [some (.ref 170), some (.int (zn p)), some (.int (zn g)), some (.int (zn m)), some (.int (zn (zRe (R, C, rk, sn, sk, cn, cd) P v p m)))]) (st' := []) (m := 2) (ykc_278 (e := (3, .istore 4, 0)) rfl) rfl rfl ?_
            refine w_load (pc' := 42) (v := .ref 170) (m := 1) (ykc_278 (e := (2, .aload_n kF0, 0)) rfl) rfl rfl ?_
            refine w_load (pc' := 43) (v := .ref 170) (m := 1) (ykc_278 (e := (2, .aload_n kF0, 0)) rfl) rfl rfl ?_
            refine w_gf (pc' := 46) (v := .ref 174) (ykc_278 (e := (5, .getfield 41, 0)) rfl) rfl ((f1072.1 170 11 (by decide) (by decide)).trans ((hf1.1 170 11 (by decide) (by decide)).trans ((u1063.2.1 170 11 (fun q => absurd q.2 (by decide))).trans (zsg hS zs_170_11)))) rfl ?_
            refine w_load (pc' := 47) (v := .int (zn p)) (m := 1) (ykc_278 (e := (2, .iload_n kF1, 0)) rfl) rfl rfl ?_
            have q1075 := hO0.1 p (by omega)
            have tq1075 := znt (k := v p) (by omega)
            refine w_ialk (pc' := 48) (k := p) (ykc_278 (e := (5, .iaload, 0)) rfl) ((f1072.1 174 p (by decide) (by simp)).trans ((hf1.1 174 p (by decide) (by simp)).trans ((u1063.2.1 174 p (fun q => absurd q.1 (by decide))).trans (zNr0 hv (i := p) (by omega))))) (by omega) rfl ?_
            refine w_load (pc' := 49) (v := .int (zn g)) (m := 1) (ykc_278 (e := (2, .iload_n kF2, 0)) rfl) rfl rfl ?_
            refine w_load (pc' := 50) (v := .ref 170) (m := 1) (ykc_278 (e := (2, .aload_n kF0, 0)) rfl) rfl rfl ?_
            refine w_gf (pc' := 53) (v := .ref 174) (ykc_278 (e := (5, .getfield 41, 0)) rfl) rfl ((f1072.1 170 11 (by decide) (by decide)).trans ((hf1.1 170 11 (by decide) (by decide)).trans ((u1063.2.1 170 11 (fun q => absurd q.2 (by decide))).trans (zsg hS zs_170_11)))) rfl ?_
            refine w_push (pc' := 55) (v := .int ((Int8.ofInt 8).toInt32)) (m := 2) (ykc_278 (e := (1, .bipush 8, 0)) rfl) rfl rfl ?_
            refine w_load (pc' := 56) (v := .int (zn p)) (m := 1) (ykc_278 (e := (2, .iload_n kF1, 0)) rfl) rfl rfl ?_
            have e1076 : ((Int8.ofInt 8).toInt32) + (zn p) = zn (8 + p) := (zaddN (a := 8) (b := p) c_1 (znt (by omega)) (by omega)) 
            have te1076 := znt (k := 8 + p) (by omega)
            refine w_alu (pc' := 57) (st' := [.int (zn (8 + p)), .ref 174, .int (zn g), .int (zn (v p)), .ref 170]) (ykc_278 (e := (0, .iadd, 0)) rfl) (by rw [← e1076]; rfl) rfl ?_
            have q1077 := hO0.1 p (by omega)
            have tq1077 := znt (k := v (8 + p)) (by omega)
            refine w_ialk (pc' := 58) (k := 8 + p) (ykc_278 (e := (5, .iaload, 0)) rfl) ((f1072.1 174 (8 + p) (by decide) (by simp)).trans ((hf1.1 174 (8 + p) (by decide) (by simp)).trans ((u1063.2.1 174 (8 + p) (fun q => absurd q.1 (by decide))).trans (zNr0 hv (i := 8 + p) (by omega))))) (by omega) rfl ?_
            refine w_load (pc' := 59) (v := .int (zn m)) (m := 1) (ykc_278 (e := (2, .iload_n kF3, 0)) rfl) rfl rfl ?_
            refine w_load (pc' := 61) (v := .int (zn (zRe (R, C, rk, sn, sk, cn, cd) P v p m))) (m := 2) (ykc_278 (e := (2, .iload 4, 0)) rfl) rfl rfl ?_
            refine w_cv (as := [.ref 170, .int (zn (v p)), .int (zn g), .int (zn (v (8 + p))), .int (zn m), .int (zn (zRe (R, C, rk, sn, sk, cn, cd) P v p m))]) (r := []) (ykc_278 (e := (6, .invokevirtual 296, 0)) rfl) rfl rfl rfl rfl (zm_sees (zSc_S (zFr_trans hf1 f1072) hS1) (zSc_l (zFr_trans hf1 f1072) hL1) (a := v p) (g := g) (fc := v (8 + p)) (br := m) (re := zRe (R, C, rk, sn, sk, cn, cd) P v p m) (by omega) (by omega) (by omega) (by omega) (by omega) (by omega) (by omega) (by omega) (by omega)) (fun v1078 ph1079 hv => ?_)
            obtain ⟨rfl, rfl⟩ := hv
            show zW n D 278 Q 64 [some (.ref 170), some (.int (zn p)), some (.int (zn g)), some (.int (zn m)), some (.int (zn (zRe (R, C, rk, sn, sk, cn, cd) P v p m)))] [.int (zI (zsee C rk (v p) g (v (8 + p)) m (zRe (R, C, rk, sn, sk, cn, cd) P v p m)))] ph1074
            refine w_beq (ykc_278 (e := (4, .ifCond .eq 17, 81)) rfl) rfl (fun b1080 => ?_) (fun b1080 => ?_)
            · obtain ⟨z1081, e_z1081, h_z1081⟩ : ∃ zq : Int32, (zn m) + Int32.ofInt (-1) = zq ∧ zq.toInt = ((m : Nat) : Int) + (-1 : Int) := ⟨_, rfl, zdecI (by omega)⟩
              refine w_store (pc' := 84) (L' := [some (.ref 170), some (.int (zn p)), some (.int (zn g)), some (.int z1081), some (.int (zn (zRe (R, C, rk, sn, sk, cn, cd) P v p m)))]) (st' := []) (m := 3) (ykc_278 (e := (3, .iinc 3 (-1), 0)) rfl) (by rw [← e_z1081]; rfl) rfl ?_
              refine w_gb (ykc_278 (e := (4, .goto (-59), 25)) rfl) (fun k1082 hk1082 => ?_)
              exact ih k1082 hk1082 m z1081 _ _ (by omega) (by omega) (zFr_trans hf1 f1072) (he.trans (zXbr_f (f := (fun br => zSw (R, C, rk, sn, sk, cn, cd) P v p (v (8 + p)) br g)) (k := m) b1080))
            · rw [hQ]
              exact zTail kc_278 false 3 67 80 (fun _ => rfl) (Or.inl ⟨_, rfl⟩) (by decide +kernel) (by decide) (by decide) rfl (by decide +kernel) (fun _ => zXbears_p (E := (R, C, rk, sn, sk, cn, cd)) h_p (by omega) h_g (show R * C ≤ 64 by omega) (he.trans (zXbr_t (f := (fun br => zSw (R, C, rk, sn, sk, cn, cd) P v p (v (8 + p)) br g)) (k := m) b1080)))
      exact hl n 5 _ _ _ (Nat.le_refl 5) (by decide) zFr_refl rfl
    · refine w_alu (pc' := 22) (st' := [.int (Int32.ofInt (-1))]) (ykc_278 (e := (0, .iconst (-1), 0)) rfl) rfl rfl ?_
      refine w_ret (v := (some (.int (Int32.ofInt (-1))))) (ykc_278 (e := (7, .ireturn, 0)) rfl) (zr_v rfl) ?_
      rw [hQ]
      exact zXbears_n (fun q => absurd q.2 (of_decide_eq_false b1070))