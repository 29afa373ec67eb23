/-! the reference: small methods, by W; printed by wip/z/z_b_small.py -/
/-- the reference's valley; its counts; its light and rule; a row of 41 -/
def zMl (ph : pm_H) (R C : Nat) (rk : Nat → Bool) : Prop := zc ph 170 3 = some (.int (zn R)) ∧ zc ph 170 4 = some (.int (zn C)) ∧ (∀ f, f < R * C → zc ph 172 f = some (.int (zI (rk f)))) ∧ 3 ≤ R ∧ R ≤ 7 ∧ 3 ≤ C ∧ C ≤ 7
def zMp (ph : pm_H) (P G : Nat) : Prop := zc ph 170 5 = some (.int (zn P)) ∧ P ≤ 8 ∧ zc ph 170 6 = some (.int (zn G)) ∧ G ≤ 8
def zMr (ph : pm_H) (sn : Nat) (sk : Nat → Nat) (cn : Nat) (cd : Nat → Nat) : Prop := zc ph 170 8 = some (.int (zn sn)) ∧ 1 ≤ sn ∧ sn ≤ 20 ∧ (∀ i, i < sn → zc ph 173 i = some (.int (zn (sk i))) ∧ sk i ≤ 9) ∧ zc ph 170 23 = some (.int (zn cn)) ∧ cn ≤ 40 ∧ ∀ i, i < cn → zc ph 179 i = some (.int (zn (cd i))) ∧ cd i ≤ 3000
def zNr (ph : pm_H) (A o : Nat) (v : Nat → Nat) : Prop := ∀ i, i < 41 → zc ph A (o + i) = some (.int (zn (v i)))
def zOk (R C P G : Nat) (v : Nat → Nat) : Prop := (∀ p, p < P → v p < R * C ∧ v (8 + p) < 8 ∧ v (16 + p) ≤ 4 ∧ v (24 + p) < 256) ∧ (∀ t, t < G → v (32 + t) < R * C) ∧ v 40 < 1000000
theorem zRC49 {R C : Nat} (hR : R ≤ 7) (hC : C ≤ 7) : R * C ≤ 49 := Nat.le_trans (Nat.mul_le_mul hR hC) (by decide)
theorem zMl_F {A : List Nat} {F : List (Nat × Nat)} {p q : pm_H} {R C : Nat} {rk : Nat → Bool} (f : zFr A F p q) (h1 : (170, 3) ∉ F) (h2 : (170, 4) ∉ F) (h3 : ∀ i, (172, i) ∉ F) (hA : 170 ∉ A ∧ 172 ∉ A) (h : zMl p R C rk) : zMl q R C rk := ⟨(f.1 _ _ hA.1 h1).trans h.1, (f.1 _ _ hA.1 h2).trans h.2.1, fun i hi => (f.1 _ _ hA.2 (h3 i)).trans (h.2.2.1 i hi), h.2.2.2⟩
theorem zMp_F {A : List Nat} {F : List (Nat × Nat)} {p q : pm_H} {P G : Nat} (f : zFr A F p q) (h1 : (170, 5) ∉ F) (h2 : (170, 6) ∉ F) (hA : 170 ∉ A) (h : zMp p P G) : zMp q P G := ⟨(f.1 _ _ hA h1).trans h.1, h.2.1, (f.1 _ _ hA h2).trans h.2.2.1, h.2.2.2⟩
theorem zNr_F {A : List Nat} {F : List (Nat × Nat)} {p q : pm_H} {B o : Nat} {v : Nat → Nat} (f : zFr A F p q) (hF : ∀ i, (B, i) ∉ F) (hA : B ∉ A) (h : zNr p B o v) : zNr q B o v := fun i hi => (f.1 _ _ hA (hF _)).trans (h i hi)
theorem zMr_F {A : List Nat} {F : List (Nat × Nat)} {p q : pm_H} {sn cn : Nat} {sk cd : Nat → Nat} (f : zFr A F p q) (h1 : (170, 8) ∉ F) (h2 : (170, 23) ∉ F) (hF : ∀ i, (173, i) ∉ F ∧ (179, i) ∉ F) (hA : 170 ∉ A ∧ 173 ∉ A ∧ 179 ∉ A) (h : zMr p sn sk cn cd) : zMr q sn sk cn cd := ⟨(f.1 _ _ hA.1 h1).trans h.1, h.2.1, h.2.2.1, fun i hi => ⟨(f.1 _ _ hA.2.1 (hF i).1).trans (h.2.2.2.1 i hi).1, (h.2.2.2.1 i hi).2⟩, (f.1 _ _ hA.1 h2).trans h.2.2.2.2.1, h.2.2.2.2.2.1, fun i hi => ⟨(f.1 _ _ hA.2.2 (hF i).2).trans (h.2.2.2.2.2.2 i hi).1, (h.2.2.2.2.2.2 i hi).2⟩⟩
theorem zm_flag {b : Bool} {ph : pm_H} : zM 184 [.int (zI b)] ph (fun v q => ph = q ∧ v = some (.int (zI b))) := by
  obtain ⟨Q, hQ⟩ : ∃ Q : Option Value → pm_H → Prop, Q = (fun v q => ph = q ∧ v = some (.int (zI b))) := ⟨_, rfl⟩
  rw [← hQ]
  refine zM_mk fun n D => ?_
  show zW n D 184 Q 0 [some (.int (zI b))] [] ph
  have c_0 : (Int32.ofInt 0).toInt = 0 := by decide +kernel
  have c_1 : (Int32.ofInt 1).toInt = 1 := by decide +kernel
  refine w_load (pc' := 1) (v := .int (zI b)) (m := 1) (ykc_184 (e := (2, .iload_n kF0, 0)) rfl) rfl rfl ?_
  refine w_beq (ykc_184 (e := (4, .ifCond .eq 7, 8)) rfl) rfl (fun b1 => ?_) (fun b1 => ?_)
  · refine w_alu (pc' := 9) (st' := [.int (Int32.ofInt 0)]) (ykc_184 (e := (0, .iconst 0, 0)) rfl) rfl rfl ?_
    refine w_ret (v := (some (.int (Int32.ofInt 0)))) (ykc_184 (e := (7, .ireturn, 0)) rfl) (zr_v rfl) ?_
    rw [hQ, zi0]
    exact ⟨rfl, zvB (b1.symm)⟩
  · refine w_alu (pc' := 5) (st' := [.int (Int32.ofInt 1)]) (ykc_184 (e := (0, .iconst 1, 0)) rfl) rfl rfl ?_
    refine w_br (pc' := 9) (st' := [.int (Int32.ofInt 1)]) (ykc_184 (e := (4, .goto 4, 9)) rfl) rfl ?_
    refine w_ret (v := (some (.int (Int32.ofInt 1)))) (ykc_184 (e := (7, .ireturn, 0)) rfl) (zr_v rfl) ?_
    rw [hQ, zi1]
    exact ⟨rfl, zvB (b1.symm)⟩
theorem zm_flag1 {ph : pm_H} : zM 184 [.int (Int32.ofInt 1)] ph (fun v q => ph = q ∧ v = some (.int (zI true))) := by rw [zi1]; exact zm_flag
theorem zm_flag0 {ph : pm_H} : zM 184 [.int (Int32.ofInt 0)] ph (fun v q => ph = q ∧ v = some (.int (zI false))) := by rw [zi0]; exact zm_flag
theorem zm_in {a b c : Int64} {x y z : Int} {ph : pm_H} (ha : a.toInt = x) (hb : b.toInt = y) (hc : c.toInt = z) : zM 182 [.long a, .long b, .long c] ph (fun v q => ph = q ∧ v = some (.int (zI (decide (y ≤ x ∧ x ≤ z))))) := by
  obtain ⟨Q, hQ⟩ : ∃ Q : Option Value → pm_H → Prop, Q = (fun v q => ph = q ∧ v = some (.int (zI (decide (y ≤ x ∧ x ≤ z))))) := ⟨_, rfl⟩
  rw [← hQ]
  refine zM_mk fun n D => ?_
  show zW n D 182 Q 0 [some (.long a), none, some (.long b), none, some (.long c), none] [] ph
  have c_0 : (Int32.ofInt 0).toInt = 0 := by decide +kernel
  have c_1 : (Int32.ofInt 1).toInt = 1 := by decide +kernel
  have q1 := @zcmp a b
  have q2 := @zcmp a c
  have q3 := @Int64.toInt_inj a b
  have q4 := @Int64.toInt_inj a c
  have w1 : (lg_cmp a b).toInt < 0 ↔ x < y := by
    rcases q1 with ⟨p, r⟩ | ⟨p, r⟩ | ⟨p, r⟩
    · omega
    · rw [p] at ha; omega
    · omega
  have w2 : 0 < (lg_cmp a c).toInt ↔ z < x := by
    rcases q2 with ⟨p, r⟩ | ⟨p, r⟩ | ⟨p, r⟩
    · omega
    · rw [p] at ha; omega
    · omega
  clear q1 q2 q3 q4
  refine w_load (pc' := 1) (v := .long a) (m := 1) (ykc_182 (e := (2, .lload_n kF0, 0)) rfl) rfl rfl ?_
  refine w_load (pc' := 2) (v := .long b) (m := 1) (ykc_182 (e := (2, .lload_n kF2, 0)) rfl) rfl rfl ?_
  refine w_alu (pc' := 3) (st' := [.int (lg_cmp a b)]) (ykc_182 (e := (0, .lcmp, 0)) rfl) rfl rfl ?_
  refine w_zlt (ykc_182 (e := (4, .ifCond .lt 14, 17)) rfl) rfl (fun b2 => ?_) (fun b2 => ?_)
  · refine w_alu (pc' := 18) (st' := [.int (Int32.ofInt 0)]) (ykc_182 (e := (0, .iconst 0, 0)) rfl) rfl rfl ?_
    refine w_ret (v := (some (.int (Int32.ofInt 0)))) (ykc_182 (e := (7, .ireturn, 0)) rfl) zr_z ?_
    rw [hQ, zi0]
    exact ⟨rfl, zvB ((decide_eq_false (by omega)).symm)⟩
  · refine w_load (pc' := 7) (v := .long a) (m := 1) (ykc_182 (e := (2, .lload_n kF0, 0)) rfl) rfl rfl ?_
    refine w_load (pc' := 9) (v := .long c) (m := 2) (ykc_182 (e := (2, .lload 4, 0)) rfl) rfl rfl ?_
    refine w_alu (pc' := 10) (st' := [.int (lg_cmp a c)]) (ykc_182 (e := (0, .lcmp, 0)) rfl) rfl rfl ?_
    refine w_zgt (ykc_182 (e := (4, .ifCond .gt 7, 17)) rfl) rfl (fun b3 => ?_) (fun b3 => ?_)
    · refine w_alu (pc' := 18) (st' := [.int (Int32.ofInt 0)]) (ykc_182 (e := (0, .iconst 0, 0)) rfl) rfl rfl ?_
      refine w_ret (v := (some (.int (Int32.ofInt 0)))) (ykc_182 (e := (7, .ireturn, 0)) rfl) zr_z ?_
      rw [hQ, zi0]
      exact ⟨rfl, zvB ((decide_eq_false (by omega)).symm)⟩
    · refine w_alu (pc' := 14) (st' := [.int (Int32.ofInt 1)]) (ykc_182 (e := (0, .iconst 1, 0)) rfl) rfl rfl ?_
      refine w_br (pc' := 18) (st' := [.int (Int32.ofInt 1)]) (ykc_182 (e := (4, .goto 4, 18)) rfl) rfl ?_
      refine w_ret (v := (some (.int (Int32.ofInt 1)))) (ykc_182 (e := (7, .ireturn, 0)) rfl) zr_z ?_
      rw [hQ, zi1]
      exact ⟨rfl, zvB ((decide_eq_true (by omega)).symm)⟩
theorem zm_has {x : Int64} {k : Int32} {kn : Nat} {ph : pm_H} (hk : k.toInt = (kn : Int)) (h64 : kn < 64) : zM 183 [.long x, .int k] ph (fun v q => ph = q ∧ v = some (.int (zI (zb x kn)))) := by
  obtain ⟨Q, hQ⟩ : ∃ Q : Option Value → pm_H → Prop, Q = (fun v q => ph = q ∧ v = some (.int (zI (zb x kn)))) := ⟨_, rfl⟩
  rw [← hQ]
  refine zM_mk fun n D => ?_
  show zW n D 183 Q 0 [some (.long x), none, some (.int k)] [] ph
  have c_0 : (Int32.ofInt 0).toInt = 0 := by decide +kernel
  have c_1 : (Int32.ofInt 1).toInt = 1 := by decide +kernel
  obtain rfl := zn_of hk
  have hz := zhas (x := x) h64
  show zW n D 183 Q 0 [some (.long x), none, some (.int (zn kn))] [] ph
  refine w_load (pc' := 1) (v := .long x) (m := 1) (ykc_183 (e := (2, .lload_n kF0, 0)) rfl) rfl rfl ?_
  refine w_load (pc' := 2) (v := .int (zn kn)) (m := 1) (ykc_183 (e := (2, .iload_n kF2, 0)) rfl) rfl rfl ?_
  refine w_alu (pc' := 3) (st' := [.long (x >>> ((zn kn).toInt64 &&& 63))]) (ykc_183 (e := (0, .lshr, 0)) rfl) rfl rfl ?_
  refine w_alu (pc' := 4) (st' := [.long (Int64.ofNat kG1), .long (x >>> ((zn kn).toInt64 &&& 63))]) (ykc_183 (e := (0, .lconst kG1, 0)) rfl) rfl rfl ?_
  refine w_alu (pc' := 5) (st' := [.long ((x >>> ((zn kn).toInt64 &&& 63)) &&& (Int64.ofNat kG1))]) (ykc_183 (e := (0, .land, 0)) rfl) rfl rfl ?_
  refine w_alu (pc' := 6) (st' := [.long (Int64.ofNat kG1), .long ((x >>> ((zn kn).toInt64 &&& 63)) &&& (Int64.ofNat kG1))]) (ykc_183 (e := (0, .lconst kG1, 0)) rfl) rfl rfl ?_
  refine w_alu (pc' := 7) (st' := [.int (lg_cmp ((x >>> ((zn kn).toInt64 &&& 63)) &&& (Int64.ofNat kG1)) (Int64.ofNat kG1))]) (ykc_183 (e := (0, .lcmp, 0)) rfl) rfl rfl ?_
  refine w_zne (ykc_183 (e := (4, .ifCond .ne 7, 14)) rfl) rfl (fun b4 => ?_) (fun b4 => ?_)
  · refine w_alu (pc' := 15) (st' := [.int (Int32.ofInt 0)]) (ykc_183 (e := (0, .iconst 0, 0)) rfl) rfl rfl ?_
    refine w_ret (v := (some (.int (Int32.ofInt 0)))) (ykc_183 (e := (7, .ireturn, 0)) rfl) zr_z ?_
    rw [hQ, zi0]
    exact ⟨rfl, zvB ((Bool.eq_false_iff.mpr (fun q => b4 (hz.mpr q))).symm)⟩
  · refine w_alu (pc' := 11) (st' := [.int (Int32.ofInt 1)]) (ykc_183 (e := (0, .iconst 1, 0)) rfl) rfl rfl ?_
    refine w_br (pc' := 15) (st' := [.int (Int32.ofInt 1)]) (ykc_183 (e := (4, .goto 4, 15)) rfl) rfl ?_
    refine w_ret (v := (some (.int (Int32.ofInt 1)))) (ykc_183 (e := (7, .ireturn, 0)) rfl) zr_z ?_
    rw [hQ, zi1]
    exact ⟨rfl, zvB ((hz.mp b4).symm)⟩
theorem zm_fields {ph : pm_H} {R C : Nat} {rk : Nat → Bool} (hS : zSh ph) (hL : zMl ph R C rk) : zM 188 [.ref 170] ph (fun v q => ph = q ∧ v = some (.int (zn (R * C)))) := by
  obtain ⟨Q, hQ⟩ : ∃ Q : Option Value → pm_H → Prop, Q = (fun v q => ph = q ∧ v = some (.int (zn (R * C)))) := ⟨_, rfl⟩
  rw [← hQ]
  refine zM_mk fun n D => ?_
  show zW n D 188 Q 0 [some (.ref 170)] [] ph
  obtain ⟨gR, gC, gK, hR3, hR7, hC3, hC7⟩ := hL
  have hRC := zRC49 hR7 hC7
  have tR := znt (k := R) (by omega)
  have tC := znt (k := C) (by omega)
  refine w_load (pc' := 1) (v := .ref 170) (m := 1) (ykc_188 (e := (2, .aload_n kF0, 0)) rfl) rfl rfl ?_
  refine w_gf (pc' := 4) (v := .int (zn R)) (ykc_188 (e := (5, .getfield 24, 0)) rfl) rfl gR rfl ?_
  refine w_load (pc' := 5) (v := .ref 170) (m := 1) (ykc_188 (e := (2, .aload_n kF0, 0)) rfl) rfl rfl ?_
  refine w_gf (pc' := 8) (v := .int (zn C)) (ykc_188 (e := (5, .getfield 27, 0)) rfl) rfl gC rfl ?_
  have e5 : (zn R) * (zn C) = zn (R * C) := zn_of (zmulN (by omega) (by omega) (by omega) (by omega))
  have te5 := znt (k := R * C) (by omega)
  refine w_alu (pc' := 9) (st' := [.int (zn (R * C))]) (ykc_188 (e := (0, .imul, 0)) rfl) (by rw [← e5]; rfl) rfl ?_
  refine w_ret (v := (some (.int (zn (R * C))))) (ykc_188 (e := (7, .ireturn, 0)) rfl) (zr_v rfl) ?_
  rw [hQ]
  exact ⟨rfl, rfl⟩
theorem zm_isField {ph : pm_H} {R C : Nat} {rk : Nat → Bool} (hS : zSh ph) (hL : zMl ph R C rk) {f : Int32} : zM 189 [.ref 170, .int f] ph (fun v q => ph = q ∧ v = some (.int (zI (decide (0 ≤ f.toInt ∧ f.toInt < ((R * C : Nat) : Int)))))) := by
  obtain ⟨Q, hQ⟩ : ∃ Q : Option Value → pm_H → Prop, Q = (fun v q => ph = q ∧ v = some (.int (zI (decide (0 ≤ f.toInt ∧ f.toInt < ((R * C : Nat) : Int)))))) := ⟨_, rfl⟩
  rw [← hQ]
  refine zM_mk fun n D => ?_
  show zW n D 189 Q 0 [some (.ref 170), some (.int f)] [] ph
  have c_0 : (Int32.ofInt 1).toInt = 1 := by decide +kernel
  have hx0 := x32_lo f
  have hx1 := x32_hi f
  have hL0 := hL
  obtain ⟨gR, gC, gK, hR3, hR7, hC3, hC7⟩ := hL
  have hRC := zRC49 hR7 hC7
  have tR := znt (k := R) (by omega)
  have tC := znt (k := C) (by omega)
  refine w_load (pc' := 1) (v := .int f) (m := 1) (ykc_189 (e := (2, .iload_n kF1, 0)) rfl) rfl rfl ?_
  refine w_alu (pc' := 2) (st' := [.long f.toInt64]) (ykc_189 (e := (0, .i2l, 0)) rfl) rfl rfl ?_
  refine w_alu (pc' := 3) (st' := [.long (Int64.ofNat kG0), .long f.toInt64]) (ykc_189 (e := (0, .lconst kG0, 0)) rfl) rfl rfl ?_
  refine w_load (pc' := 4) (v := .ref 170) (m := 1) (ykc_189 (e := (2, .aload_n kF0, 0)) rfl) rfl rfl ?_
  refine w_cv (as := [.ref 170]) (r := [.long (Int64.ofNat kG0), .long f.toInt64]) (ykc_189 (e := (6, .invokevirtual 122, 0)) rfl) rfl rfl rfl rfl (zm_fields hS hL0) (fun v6 ph7 hv => ?_)
  obtain ⟨rfl, rfl⟩ := hv
  have tRC := znt (k := R * C) (by omega)
  show zW n D 189 Q 7 [some (.ref 170), some (.int f)] [.int (zn (R * C)), .long (Int64.ofNat kG0), .long f.toInt64] ph
  refine w_alu (pc' := 8) (st' := [.int (Int32.ofInt 1), .int (zn (R * C)), .long (Int64.ofNat kG0), .long f.toInt64]) (ykc_189 (e := (0, .iconst 1, 0)) rfl) rfl rfl ?_
  obtain ⟨z8, e_z8, h_z8⟩ : ∃ zq : Int32, (zn (R * C)) - (Int32.ofInt 1) = zq ∧ zq.toInt = ((R * C : Nat) : Int) - (1 : Int) := ⟨_, rfl, (by have := ti_sub (x := (zn (R * C))) (y := (Int32.ofInt 1)) (by omega) (by omega); omega)⟩
  refine w_alu (pc' := 9) (st' := [.int z8, .long (Int64.ofNat kG0), .long f.toInt64]) (ykc_189 (e := (0, .isub, 0)) rfl) (by rw [← e_z8]; rfl) rfl ?_
  refine w_alu (pc' := 10) (st' := [.long z8.toInt64, .long (Int64.ofNat kG0), .long f.toInt64]) (ykc_189 (e := (0, .i2l, 0)) rfl) rfl rfl ?_
  refine w_cs (as := [.long f.toInt64, .long (Int64.ofNat kG0), .long z8.toInt64]) (r := []) (ykc_189 (e := (6, .invokestatic 126, 0)) rfl) rfl rfl rfl rfl (zm_in (x := f.toInt) (y := (0 : Int)) (z := ((R * C : Nat) : Int) - (1 : Int)) (by first | exact ztl | (rw [ztl]; omega) | decide | omega) (by first | exact ztl | (rw [ztl]; omega) | decide | omega) (by first | exact ztl | (rw [ztl]; omega) | decide | omega)) (fun v9 ph10 hv => ?_)
  obtain ⟨rfl, rfl⟩ := hv
  show zW n D 189 Q 13 [some (.ref 170), some (.int f)] [.int (zI (decide ((0 : Int) ≤ f.toInt ∧ f.toInt ≤ ((R * C : Nat) : Int) - (1 : Int))))] ph
  refine w_ret (v := (some (.int (zI (decide ((0 : Int) ≤ f.toInt ∧ f.toInt ≤ ((R * C : Nat) : Int) - (1 : Int))))))) (ykc_189 (e := (7, .ireturn, 0)) rfl) zr_z ?_
  rw [hQ]
  exact ⟨rfl, zvB (decide_eq_decide.mpr (by omega))⟩
theorem zm_isPerson {ph : pm_H} {P G : Nat} (hN : zMp ph P G) {p : Int32} : zM 190 [.ref 170, .int p] ph (fun v q => ph = q ∧ v = some (.int (zI (decide (0 ≤ p.toInt ∧ p.toInt < ((P : Nat) : Int)))))) := by
  obtain ⟨Q, hQ⟩ : ∃ Q : Option Value → pm_H → Prop, Q = (fun v q => ph = q ∧ v = some (.int (zI (decide (0 ≤ p.toInt ∧ p.toInt < ((P : Nat) : Int)))))) := ⟨_, rfl⟩
  rw [← hQ]
  refine zM_mk fun n D => ?_
  show zW n D 190 Q 0 [some (.ref 170), some (.int p)] [] ph
  have c_0 : (Int32.ofInt 1).toInt = 1 := by decide +kernel
  have hx0 := x32_lo p
  have hx1 := x32_hi p
  obtain ⟨gP, hP8, gG, hG8⟩ := hN
  have tP := znt (k := P) (by omega)
  have tG := znt (k := G) (by omega)
  refine w_load (pc' := 1) (v := .int p) (m := 1) (ykc_190 (e := (2, .iload_n kF1, 0)) rfl) rfl rfl ?_
  refine w_alu (pc' := 2) (st' := [.long p.toInt64]) (ykc_190 (e := (0, .i2l, 0)) rfl) rfl rfl ?_
  refine w_alu (pc' := 3) (st' := [.long (Int64.ofNat kG0), .long p.toInt64]) (ykc_190 (e := (0, .lconst kG0, 0)) rfl) rfl rfl ?_
  refine w_load (pc' := 4) (v := .ref 170) (m := 1) (ykc_190 (e := (2, .aload_n kF0, 0)) rfl) rfl rfl ?_
  refine w_gf (pc' := 7) (v := .int (zn P)) (ykc_190 (e := (5, .getfield 130, 0)) rfl) rfl gP rfl ?_
  refine w_alu (pc' := 8) (st' := [.int (Int32.ofInt 1), .int (zn P), .long (Int64.ofNat kG0), .long p.toInt64]) (ykc_190 (e := (0, .iconst 1, 0)) rfl) rfl rfl ?_
  obtain ⟨z11, e_z11, h_z11⟩ : ∃ zq : Int32, (zn P) - (Int32.ofInt 1) = zq ∧ zq.toInt = ((P : Nat) : Int) - (1 : Int) := ⟨_, rfl, (by have := ti_sub (x := (zn P)) (y := (Int32.ofInt 1)) (by omega) (by omega); omega)⟩
  refine w_alu (pc' := 9) (st' := [.int z11, .long (Int64.ofNat kG0), .long p.toInt64]) (ykc_190 (e := (0, .isub, 0)) rfl) (by rw [← e_z11]; rfl) rfl ?_
  refine w_alu (pc' := 10) (st' := [.long z11.toInt64, .long (Int64.ofNat kG0), .long p.toInt64]) (ykc_190 (e := (0, .i2l, 0)) rfl) rfl rfl ?_
  refine w_cs (as := [.long p.toInt64, .long (Int64.ofNat kG0), .long z11.toInt64]) (r := []) (ykc_190 (e := (6, .invokestatic 126, 0)) rfl) rfl rfl rfl rfl (zm_in (x := p.toInt) (y := (0 : Int)) (z := ((P : Nat) : Int) - (1 : Int)) (by first | exact ztl | (rw [ztl]; omega) | decide | omega) (by first | exact ztl | (rw [ztl]; omega) | decide | omega) (by first | exact ztl | (rw [ztl]; omega) | decide | omega)) (fun v12 ph13 hv => ?_)
  obtain ⟨rfl, rfl⟩ := hv
  show zW n D 190 Q 13 [some (.ref 170), some (.int p)] [.int (zI (decide ((0 : Int) ≤ p.toInt ∧ p.toInt ≤ ((P : Nat) : Int) - (1 : Int))))] ph
  refine w_ret (v := (some (.int (zI (decide ((0 : Int) ≤ p.toInt ∧ p.toInt ≤ ((P : Nat) : Int) - (1 : Int))))))) (ykc_190 (e := (7, .ireturn, 0)) rfl) zr_z ?_
  rw [hQ]
  exact ⟨rfl, zvB (decide_eq_decide.mpr (by omega))⟩
theorem zm_isThing {ph : pm_H} {P G : Nat} (hN : zMp ph P G) {t : Int32} : zM 191 [.ref 170, .int t] ph (fun v q => ph = q ∧ v = some (.int (zI (decide (0 ≤ t.toInt ∧ t.toInt < ((G : Nat) : Int)))))) := by
  obtain ⟨Q, hQ⟩ : ∃ Q : Option Value → pm_H → Prop, Q = (fun v q => ph = q ∧ v = some (.int (zI (decide (0 ≤ t.toInt ∧ t.toInt < ((G : Nat) : Int)))))) := ⟨_, rfl⟩
  rw [← hQ]
  refine zM_mk fun n D => ?_
  show zW n D 191 Q 0 [some (.ref 170), some (.int t)] [] ph
  have c_0 : (Int32.ofInt 1).toInt = 1 := by decide +kernel
  have hx0 := x32_lo t
  have hx1 := x32_hi t
  obtain ⟨gP, hP8, gG, hG8⟩ := hN
  have tP := znt (k := P) (by omega)
  have tG := znt (k := G) (by omega)
  refine w_load (pc' := 1) (v := .int t) (m := 1) (ykc_191 (e := (2, .iload_n kF1, 0)) rfl) rfl rfl ?_
  refine w_alu (pc' := 2) (st' := [.long t.toInt64]) (ykc_191 (e := (0, .i2l, 0)) rfl) rfl rfl ?_
  refine w_alu (pc' := 3) (st' := [.long (Int64.ofNat kG0), .long t.toInt64]) (ykc_191 (e := (0, .lconst kG0, 0)) rfl) rfl rfl ?_
  refine w_load (pc' := 4) (v := .ref 170) (m := 1) (ykc_191 (e := (2, .aload_n kF0, 0)) rfl) rfl rfl ?_
  refine w_gf (pc' := 7) (v := .int (zn G)) (ykc_191 (e := (5, .getfield 133, 0)) rfl) rfl gG rfl ?_
  refine w_alu (pc' := 8) (st' := [.int (Int32.ofInt 1), .int (zn G), .long (Int64.ofNat kG0), .long t.toInt64]) (ykc_191 (e := (0, .iconst 1, 0)) rfl) rfl rfl ?_
  obtain ⟨z14, e_z14, h_z14⟩ : ∃ zq : Int32, (zn G) - (Int32.ofInt 1) = zq ∧ zq.toInt = ((G : Nat) : Int) - (1 : Int) := ⟨_, rfl, (by have := ti_sub (x := (zn G)) (y := (Int32.ofInt 1)) (by omega) (by omega); omega)⟩
  refine w_alu (pc' := 9) (st' := [.int z14, .long (Int64.ofNat kG0), .long t.toInt64]) (ykc_191 (e := (0, .isub, 0)) rfl) (by rw [← e_z14]; rfl) rfl ?_
  refine w_alu (pc' := 10) (st' := [.long z14.toInt64, .long (Int64.ofNat kG0), .long t.toInt64]) (ykc_191 (e := (0, .i2l, 0)) rfl) rfl rfl ?_
  refine w_cs (as := [.long t.toInt64, .long (Int64.ofNat kG0), .long z14.toInt64]) (r := []) (ykc_191 (e := (6, .invokestatic 126, 0)) rfl) rfl rfl rfl rfl (zm_in (x := t.toInt) (y := (0 : Int)) (z := ((G : Nat) : Int) - (1 : Int)) (by first | exact ztl | (rw [ztl]; omega) | decide | omega) (by first | exact ztl | (rw [ztl]; omega) | decide | omega) (by first | exact ztl | (rw [ztl]; omega) | decide | omega)) (fun v15 ph16 hv => ?_)
  obtain ⟨rfl, rfl⟩ := hv
  show zW n D 191 Q 13 [some (.ref 170), some (.int t)] [.int (zI (decide ((0 : Int) ≤ t.toInt ∧ t.toInt ≤ ((G : Nat) : Int) - (1 : Int))))] ph
  refine w_ret (v := (some (.int (zI (decide ((0 : Int) ≤ t.toInt ∧ t.toInt ≤ ((G : Nat) : Int) - (1 : Int))))))) (ykc_191 (e := (7, .ireturn, 0)) rfl) zr_z ?_
  rw [hQ]
  exact ⟨rfl, zvB (decide_eq_decide.mpr (by omega))⟩
