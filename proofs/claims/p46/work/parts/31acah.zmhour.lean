/-! the reference: who tells whom, hours, by W; printed by wip/z/z_f_hour.py -/
theorem zm_tell {ph : pm_H} {E : zEn} {P G A : Nat} {v : Nat → Nat} (hS : zSh ph) (hE : zMe ph E) (hN : zMp ph P G) (hA : A = 174 ∨ A = 175) (hv : zNr ph A 0 v) (hO : zOk E.1 E.2.1 P G v) {a b : Nat} (ha : a < P) (hb : b < P) : zM 232 [.ref 170, .ref A, .int (zn a), .int (zn b)] ph (fun v0 q => zSc ph q ∧ v0 = some (.int (zI (zTell E P v a b)))) := by
  obtain ⟨Q, hQ⟩ : ∃ Q : Option Value → pm_H → Prop, Q = (fun v0 q => zSc ph q ∧ v0 = some (.int (zI (zTell E P v a b)))) := ⟨_, rfl⟩
  rw [← hQ]
  refine zM_mk fun n D => ?_
  show zW n D 232 Q 0 [some (.ref 170), some (.ref A), some (.int (zn a)), some (.int (zn b)), none] [] ph
  have c_0 : (Int32.ofInt 0).toInt = 0 := by decide +kernel
  have c_1 : (Int32.ofInt 1).toInt = 1 := by decide +kernel
  have c_2 : (Int32.ofInt 2).toInt = 2 := by decide +kernel
  obtain ⟨R, C, rk, sn, sk, cn, cd⟩ := E
  have hL0 : zMl ph R C rk := hE.1
  have hR0 : zMr ph sn sk cn cd := hE.2.1
  have hcg : zcg cn cd := hE.2.2
  have hE0 : zMe ph (R, C, rk, sn, sk, cn, cd) := hE
  have hO0 : zOk R C P G v := hO
  have hN0 := hN
  have hL := hL0
  have hR := hR0
  obtain ⟨gR, gC, gK, hR3, hR7, hC3, hC7⟩ := hL
  have hRC := zRC49 hR7 hC7
  have tR := znt (k := R) (by omega)
  have tC := znt (k := C) (by omega)
  obtain ⟨gP, hP8, gG, hG8⟩ := hN
  have tP := znt (k := P) (by omega)
  have tG := znt (k := G) (by omega)
  obtain ⟨gsn, hs1, hs20, gsk, gcn, hc40, gcd⟩ := hR
  have tsn := znt (k := sn) (by omega)
  have tcn := znt (k := cn) (by omega)
  have ta := znt (k := a) (by omega)
  have tb := znt (k := b) (by omega)
  refine w_load (pc' := 1) (v := .ref A) (m := 1) (ykc_232 (e := (2, .aload_n kF1, 0)) rfl) rfl rfl ?_
  refine w_load (pc' := 2) (v := .int (zn a)) (m := 1) (ykc_232 (e := (2, .iload_n kF2, 0)) rfl) rfl rfl ?_
  have q281 := hO0.1 a (by omega)
  have tq281 := znt (k := v a) (by omega)
  refine w_ialk (pc' := 3) (k := a) (ykc_232 (e := (5, .iaload, 0)) rfl) (zNr0 hv (i := a) (by omega)) (by omega) rfl ?_
  refine w_load (pc' := 4) (v := .ref 170) (m := 1) (ykc_232 (e := (2, .aload_n kF0, 0)) rfl) rfl rfl ?_
  refine w_gf (pc' := 7) (v := .int (zn C)) (ykc_232 (e := (5, .getfield 27, 0)) rfl) rfl gC rfl ?_
  refine w_idiv (pc' := 8) (ykc_232 (e := (0, .idiv, 0)) rfl) rfl (fun d283 => ?_)
  have m282 : v a / C < R := (Nat.div_lt_iff_lt_mul (by omega)).mpr (by omega)
  have zm282 := Nat.zero_le (v a / C)
  have e284 : (zn (v a)) / (zn C) = zn (v a / C) := zn_of (zdivN (by omega) (by omega) (by omega))
  have te284 := znt (k := v a / C) (by omega)
  rw [e284]
  show zW n D 232 Q 8 [some (.ref 170), some (.ref A), some (.int (zn a)), some (.int (zn b)), none] [.int (zn (v a / C))] ph
  refine w_load (pc' := 9) (v := .ref A) (m := 1) (ykc_232 (e := (2, .aload_n kF1, 0)) rfl) rfl rfl ?_
  refine w_load (pc' := 10) (v := .int (zn b)) (m := 1) (ykc_232 (e := (2, .iload_n kF3, 0)) rfl) rfl rfl ?_
  have q285 := hO0.1 b (by omega)
  have tq285 := znt (k := v b) (by omega)
  refine w_ialk (pc' := 11) (k := b) (ykc_232 (e := (5, .iaload, 0)) rfl) (zNr0 hv (i := b) (by omega)) (by omega) rfl ?_
  refine w_load (pc' := 12) (v := .ref 170) (m := 1) (ykc_232 (e := (2, .aload_n kF0, 0)) rfl) rfl rfl ?_
  refine w_gf (pc' := 15) (v := .int (zn C)) (ykc_232 (e := (5, .getfield 27, 0)) rfl) rfl gC rfl ?_
  refine w_idiv (pc' := 16) (ykc_232 (e := (0, .idiv, 0)) rfl) rfl (fun d287 => ?_)
  have m286 : v b / C < R := (Nat.div_lt_iff_lt_mul (by omega)).mpr (by omega)
  have zm286 := Nat.zero_le (v b / C)
  have e288 : (zn (v b)) / (zn C) = zn (v b / C) := zn_of (zdivN (by omega) (by omega) (by omega))
  have te288 := znt (k := v b / C) (by omega)
  rw [e288]
  show zW n D 232 Q 16 [some (.ref 170), some (.ref A), some (.int (zn a)), some (.int (zn b)), none] [.int (zn (v b / C)), .int (zn (v a / C))] ph
  obtain ⟨z289, e_z289, h_z289⟩ : ∃ zq : Int32, (zn (v a / C)) - (zn (v b / C)) = zq ∧ zq.toInt = ((v a / C : Nat) : Int) - ((v b / C : Nat) : Int) := ⟨_, rfl, (by have := ti_sub (x := (zn (v a / C))) (y := (zn (v b / C))) (by omega) (by omega); omega)⟩
  refine w_alu (pc' := 17) (st' := [.int z289]) (ykc_232 (e := (0, .isub, 0)) rfl) (by rw [← e_z289]; rfl) rfl ?_
  obtain ⟨z290, e_z290⟩ : ∃ zq : Int32, (if 0 ≤ z289 then z289 else 0 - z289) = zq := ⟨_, rfl⟩
  have h_z290 := zabsI e_z290
  refine w_mem1 (pc' := 20) (m := 3) (st' := [.int z290]) (ph' := ph) (ykc_232 (e := (5, .invokestatic 276, 0)) rfl) (by rw [← e_z290]; rfl) rfl ?_
  refine w_alu (pc' := 21) (st' := [.int (Int32.ofInt 2), .int z290]) (ykc_232 (e := (0, .iconst 2, 0)) rfl) rfl rfl ?_
  refine w_ige (ykc_232 (e := (4, .if_icmp .ge 31, 52)) rfl) rfl (fun b291 => ?_) (fun b291 => ?_)
  · refine w_alu (pc' := 53) (st' := [.int (Int32.ofInt 0)]) (ykc_232 (e := (0, .iconst 0, 0)) rfl) rfl rfl ?_
    refine w_store (pc' := 55) (L' := [some (.ref 170), some (.ref A), some (.int (zn a)), some (.int (zn b)), some (.int (Int32.ofInt 0))]) (st' := []) (m := 2) (ykc_232 (e := (3, .istore 4, 0)) rfl) rfl rfl ?_
    refine w_load (pc' := 57) (v := .int (Int32.ofInt 0)) (m := 2) (ykc_232 (e := (2, .iload 4, 0)) rfl) rfl rfl ?_
    refine w_zeq (ykc_232 (e := (4, .ifCond .eq 17, 74)) rfl) rfl (fun b292 => ?_) (fun q => by exfalso; omega)
    refine w_alu (pc' := 75) (st' := [.int (Int32.ofInt 0)]) (ykc_232 (e := (0, .iconst 0, 0)) rfl) rfl rfl ?_
    refine w_ret (v := (some (.int (Int32.ofInt 0)))) (ykc_232 (e := (7, .ireturn, 0)) rfl) zr_z ?_
    have nr : zNear C (v a) (v b) = false := decide_eq_false (by omega)
    rw [hQ, zi0]
    exact ⟨zFr_refl, zvB (by unfold zTell; simp [nr])⟩
  · refine w_load (pc' := 25) (v := .ref A) (m := 1) (ykc_232 (e := (2, .aload_n kF1, 0)) rfl) rfl rfl ?_
    refine w_load (pc' := 26) (v := .int (zn a)) (m := 1) (ykc_232 (e := (2, .iload_n kF2, 0)) rfl) rfl rfl ?_
    have q293 := hO0.1 a (by omega)
    have tq293 := znt (k := v a) (by omega)
    refine w_ialk (pc' := 27) (k := a) (ykc_232 (e := (5, .iaload, 0)) rfl) (zNr0 hv (i := a) (by omega)) (by omega) rfl ?_
    refine w_load (pc' := 28) (v := .ref 170) (m := 1) (ykc_232 (e := (2, .aload_n kF0, 0)) rfl) rfl rfl ?_
    refine w_gf (pc' := 31) (v := .int (zn C)) (ykc_232 (e := (5, .getfield 27, 0)) rfl) rfl gC rfl ?_
    refine w_irem (pc' := 32) (ykc_232 (e := (0, .irem, 0)) rfl) rfl (fun d295 => ?_)
    have m294 := Nat.mod_lt (v a) (show 0 < C by omega)
    have zm294 := Nat.zero_le (v a % C)
    have e296 : (zn (v a)) - (zn (v a)) / (zn C) * (zn C) = zn (v a % C) := zn_of (zremN (by omega) (by omega) (by omega))
    have te296 := znt (k := v a % C) (by omega)
    rw [e296]
    show zW n D 232 Q 32 [some (.ref 170), some (.ref A), some (.int (zn a)), some (.int (zn b)), none] [.int (zn (v a % C))] ph
    refine w_load (pc' := 33) (v := .ref A) (m := 1) (ykc_232 (e := (2, .aload_n kF1, 0)) rfl) rfl rfl ?_
    refine w_load (pc' := 34) (v := .int (zn b)) (m := 1) (ykc_232 (e := (2, .iload_n kF3, 0)) rfl) rfl rfl ?_
    have q297 := hO0.1 b (by omega)
    have tq297 := znt (k := v b) (by omega)
    refine w_ialk (pc' := 35) (k := b) (ykc_232 (e := (5, .iaload, 0)) rfl) (zNr0 hv (i := b) (by omega)) (by omega) rfl ?_
    refine w_load (pc' := 36) (v := .ref 170) (m := 1) (ykc_232 (e := (2, .aload_n kF0, 0)) rfl) rfl rfl ?_
    refine w_gf (pc' := 39) (v := .int (zn C)) (ykc_232 (e := (5, .getfield 27, 0)) rfl) rfl gC rfl ?_
    refine w_irem (pc' := 40) (ykc_232 (e := (0, .irem, 0)) rfl) rfl (fun d299 => ?_)
    have m298 := Nat.mod_lt (v b) (show 0 < C by omega)
    have zm298 := Nat.zero_le (v b % C)
    have e300 : (zn (v b)) - (zn (v b)) / (zn C) * (zn C) = zn (v b % C) := zn_of (zremN (by omega) (by omega) (by omega))
    have te300 := znt (k := v b % C) (by omega)
    rw [e300]
    show zW n D 232 Q 40 [some (.ref 170), some (.ref A), some (.int (zn a)), some (.int (zn b)), none] [.int (zn (v b % C)), .int (zn (v a % C))] ph
    obtain ⟨z301, e_z301, h_z301⟩ : ∃ zq : Int32, (zn (v a % C)) - (zn (v b % C)) = zq ∧ zq.toInt = ((v a % C : Nat) : Int) - ((v b % C : Nat) : Int) := ⟨_, rfl, (by have := ti_sub (x := (zn (v a % C))) (y := (zn (v b % C))) (by omega) (by omega); omega)⟩
    refine w_alu (pc' := 41) (st' := [.int z301]) (ykc_232 (e := (0, .isub, 0)) rfl) (by rw [← e_z301]; rfl) rfl ?_
    obtain ⟨z302, e_z302⟩ : ∃ zq : Int32, (if 0 ≤ z301 then z301 else 0 - z301) = zq := ⟨_, rfl⟩
    have h_z302 := zabsI e_z302
    refine w_mem1 (pc' := 44) (m := 3) (st' := [.int z302]) (ph' := ph) (ykc_232 (e := (5, .invokestatic 276, 0)) rfl) (by rw [← e_z302]; rfl) rfl ?_
    refine w_alu (pc' := 45) (st' := [.int (Int32.ofInt 2), .int z302]) (ykc_232 (e := (0, .iconst 2, 0)) rfl) rfl rfl ?_
    refine w_ige (ykc_232 (e := (4, .if_icmp .ge 7, 52)) rfl) rfl (fun b303 => ?_) (fun b303 => ?_)
    · refine w_alu (pc' := 53) (st' := [.int (Int32.ofInt 0)]) (ykc_232 (e := (0, .iconst 0, 0)) rfl) rfl rfl ?_
      refine w_store (pc' := 55) (L' := [some (.ref 170), some (.ref A), some (.int (zn a)), some (.int (zn b)), some (.int (Int32.ofInt 0))]) (st' := []) (m := 2) (ykc_232 (e := (3, .istore 4, 0)) rfl) rfl rfl ?_
      refine w_load (pc' := 57) (v := .int (Int32.ofInt 0)) (m := 2) (ykc_232 (e := (2, .iload 4, 0)) rfl) rfl rfl ?_
      refine w_zeq (ykc_232 (e := (4, .ifCond .eq 17, 74)) rfl) rfl (fun b304 => ?_) (fun q => by exfalso; omega)
      refine w_alu (pc' := 75) (st' := [.int (Int32.ofInt 0)]) (ykc_232 (e := (0, .iconst 0, 0)) rfl) rfl rfl ?_
      refine w_ret (v := (some (.int (Int32.ofInt 0)))) (ykc_232 (e := (7, .ireturn, 0)) rfl) zr_z ?_
      have nr : zNear C (v a) (v b) = false := decide_eq_false (by omega)
      rw [hQ, zi0]
      exact ⟨zFr_refl, zvB (by unfold zTell; simp [nr])⟩
    · refine w_alu (pc' := 49) (st' := [.int (Int32.ofInt 1)]) (ykc_232 (e := (0, .iconst 1, 0)) rfl) rfl rfl ?_
      refine w_br (pc' := 53) (st' := [.int (Int32.ofInt 1)]) (ykc_232 (e := (4, .goto 4, 53)) rfl) rfl ?_
      refine w_store (pc' := 55) (L' := [some (.ref 170), some (.ref A), some (.int (zn a)), some (.int (zn b)), some (.int (Int32.ofInt 1))]) (st' := []) (m := 2) (ykc_232 (e := (3, .istore 4, 0)) rfl) rfl rfl ?_
      refine w_load (pc' := 57) (v := .int (Int32.ofInt 1)) (m := 2) (ykc_232 (e := (2, .iload 4, 0)) rfl) rfl rfl ?_
      refine w_zeq (ykc_232 (e := (4, .ifCond .eq 17, 74)) rfl) rfl (fun q => by exfalso; omega) (fun b305 => ?_)
      refine w_load (pc' := 61) (v := .ref 170) (m := 1) (ykc_232 (e := (2, .aload_n kF0, 0)) rfl) rfl rfl ?_
      refine w_load (pc' := 62) (v := .ref A) (m := 1) (ykc_232 (e := (2, .aload_n kF1, 0)) rfl) rfl rfl ?_
      refine w_load (pc' := 63) (v := .int (zn a)) (m := 1) (ykc_232 (e := (2, .iload_n kF2, 0)) rfl) rfl rfl ?_
      refine w_load (pc' := 64) (v := .int (zn b)) (m := 1) (ykc_232 (e := (2, .iload_n kF3, 0)) rfl) rfl rfl ?_
      refine w_cv (as := [.ref 170, .ref A, .int (zn a), .int (zn b)]) (r := []) (ykc_232 (e := (6, .invokevirtual 312, 0)) rfl) rfl rfl rfl rfl (zm_meet hS hE0 hN0 (⟨hA, hv⟩ : (A = 174 ∨ A = 175) ∧ zNr ph A 0 v).1 (⟨hA, hv⟩ : (A = 174 ∨ A = 175) ∧ zNr ph A 0 v).2 hO0 (a := a) (b := b) (by omega) (by omega)) (fun v307 ph308 hv => ?_)
      obtain ⟨f306, rfl⟩ := hv
      show zW n D 232 Q 67 [some (.ref 170), some (.ref A), some (.int (zn a)), some (.int (zn b)), some (.int (Int32.ofInt 1))] [.int (zI (zMeet (R, C, rk, sn, sk, cn, cd) P v a b))] ph308
      refine w_beq (ykc_232 (e := (4, .ifCond .eq 7, 74)) rfl) rfl (fun b309 => ?_) (fun b309 => ?_)
      · refine w_alu (pc' := 75) (st' := [.int (Int32.ofInt 0)]) (ykc_232 (e := (0, .iconst 0, 0)) rfl) rfl rfl ?_
        refine w_ret (v := (some (.int (Int32.ofInt 0)))) (ykc_232 (e := (7, .ireturn, 0)) rfl) zr_z ?_
        have nr : zNear C (v a) (v b) = true := decide_eq_true (by omega)
        rw [hQ, zi0]
        exact ⟨f306, zvB (by unfold zTell; simp [nr, b309])⟩
      · refine w_alu (pc' := 71) (st' := [.int (Int32.ofInt 1)]) (ykc_232 (e := (0, .iconst 1, 0)) rfl) rfl rfl ?_
        refine w_br (pc' := 75) (st' := [.int (Int32.ofInt 1)]) (ykc_232 (e := (4, .goto 4, 75)) rfl) rfl ?_
        refine w_ret (v := (some (.int (Int32.ofInt 1)))) (ykc_232 (e := (7, .ireturn, 0)) rfl) zr_z ?_
        have nr : zNear C (v a) (v b) = true := decide_eq_true (by omega)
        rw [hQ, zi1]
        exact ⟨f306, zvB (by unfold zTell; simp [nr, b309])⟩
/-- how much all KNOW together -/
def zKw (v : Nat → Nat) : Nat → Int32
  | 0 => Int32.ofInt 0
  | p + 1 => zKw v p + zpc (zn (v (24 + p)))
theorem zor_n {a b : Nat} (ha : a < 256) (hb : b < 256) : zn a ||| zn b = zn (a ||| b) := by
  have h : ∀ a, a < 256 → ∀ b, b < 256 → Int32.toBitVec (zn a ||| zn b) = Int32.toBitVec (zn (a ||| b)) := by
    intro a ha b hb
    show BitVec.ofNat 32 a ||| BitVec.ofNat 32 b = BitVec.ofNat 32 (a ||| b)
    apply BitVec.eq_of_getLsbD_eq
    intro i hi
    simp [BitVec.getLsbD_or, BitVec.getLsbD_ofNat, Nat.testBit_or, hi]
  exact Int32.toBitVec_inj.mp (h a ha b hb)
theorem zor_lt {a b : Nat} (ha : a < 256) (hb : b < 256) : a ||| b < 256 := Nat.or_lt_two_pow (n := 8) ha hb
/-- a set as a number -/
def zNs (f : Nat → Bool) : Nat → Nat
  | 0 => 0
  | k + 1 => zNs f k ||| (bif f k then 2 ^ k else 0)
theorem zNs_lt {f : Nat → Bool} {n : Nat} (hn : n ≤ 8) : zNs f n < 256 := by
  induction n with
  | zero => exact (by decide : (0 : Nat) < 256)
  | succ n ih =>
    have h2 : 2 ^ n < 256 := Nat.pow_lt_pow_right (by decide) (show n < 8 by omega)
    unfold zNs
    cases f n with
    | true => exact zor_lt (ih (by omega)) h2
    | false => exact zor_lt (ih (by omega)) (show (0 : Nat) < 256 by decide)
theorem zsh1 : ∀ k, k < 31 → Int32.ofInt 1 <<< (zn k &&& 31) = zn (2 ^ k) := by decide
theorem zT_N {f : Nat → Bool} {n : Nat} (hn : n ≤ 8) : zT f n = zn (zNs f n) := by
  induction n with
  | zero => rfl
  | succ n ih =>
    have h2 : 2 ^ n < 256 := Nat.pow_lt_pow_right (by decide) (show n < 8 by omega)
    show zT f n ||| _ = zn (zNs f n ||| _)
    rw [ih (by omega)]
    cases f n with
    | true => rw [cond_true, cond_true, zsh1 n (by omega), zor_n (zNs_lt (by omega)) h2]
    | false => rw [cond_false, cond_false, show Int32.ofInt 0 = zn 0 from rfl, zor_n (zNs_lt (by omega)) (by decide)]
/-- one place of a row of numbers -/
def znu (f : Nat → Nat) (i x : Nat) : Nat → Nat := fun j => if j = i then x else f j
/-- an HOUR: what each KNOWS by itself; then by pairs -/
noncomputable def zHb (E : zEn) (P G : Nat) (v : Nat → Nat) (p : Nat) : Nat := v (24 + p) ||| zNs (fun t => zb (zVw E P v p) (v (32 + t))) G
def zHi (E : zEn) (P : Nat) (v : Nat → Nat) (l : Nat → Nat) (a : Nat) : Nat → Nat → Nat
  | 0 => l
  | m + 1 => bif zTell E P v a (a + 1 + m) then znu (znu (zHi E P v l a m) a (zHi E P v l a m a ||| v (24 + (a + 1 + m)))) (a + 1 + m) (zHi E P v l a m (a + 1 + m) ||| v (24 + a)) else zHi E P v l a m
noncomputable def zHo (E : zEn) (P G : Nat) (v : Nat → Nat) : Nat → Nat → Nat
  | 0 => zHb E P G v
  | a + 1 => zHi E P v (zHo E P G v a) a (P - (a + 1))
/-- the row an HOUR later -/
noncomputable def zHr (E : zEn) (P G : Nat) (v : Nat → Nat) (i : Nat) : Nat := if 24 ≤ i ∧ i < 24 + P then zHo E P G v P (i - 24) else if i = 40 then v 40 + 1 else v i
theorem zHb_lt {E : zEn} {P G : Nat} {v : Nat → Nat} {p : Nat} (h : v (24 + p) < 256) (hG : G ≤ 8) : zHb E P G v p < 256 := zor_lt h (zNs_lt hG)
theorem zHi_lt {E : zEn} {P : Nat} {v l : Nat → Nat} {a : Nat} (hl : ∀ i, i < P → l i < 256) (hv : ∀ i, i < P → v (24 + i) < 256) (ha : a < P) : ∀ m, a + 1 + m ≤ P → ∀ i, i < P → zHi E P v l a m i < 256 := by
  intro m
  induction m with
  | zero => intro _ i hi; exact hl i hi
  | succ m ih =>
    intro hm i hi
    have h1 := ih (by omega)
    unfold zHi
    cases zTell E P v a (a + 1 + m) with
    | false => exact h1 i hi
    | true =>
      rw [cond_true]
      unfold znu
      by_cases e1 : i = a + 1 + m
      · rw [if_pos e1]; exact zor_lt (h1 _ (by omega)) (hv a ha)
      · rw [if_neg e1]
        by_cases e2 : i = a
        · rw [if_pos e2]; exact zor_lt (h1 _ ha) (hv _ (by omega))
        · rw [if_neg e2]; exact h1 i hi
theorem zHo_lt {E : zEn} {P G : Nat} {v : Nat → Nat} (hv : ∀ i, i < P → v (24 + i) < 256) (hG : G ≤ 8) : ∀ a, a ≤ P → ∀ i, i < P → zHo E P G v a i < 256 := by
  intro a
  induction a with
  | zero => intro _ i hi; exact zHb_lt (hv i hi) hG
  | succ a ih => intro ha i hi; exact zHi_lt (ih (by omega)) hv (by omega) _ (by omega) i hi
def zHc (A : Nat) (p q : pm_H) : Prop := zFr [181, 182, 184, A] [] p q
theorem zHc_e {A : Nat} (hA : A = 174 ∨ A = 175) {p q : pm_H} {E : zEn} (f : zHc A p q) (h : zMe p E) : zMe q E := by
  rcases hA with e | e <;> subst e
  · exact ⟨zMl_F f (by first | exact zqp rfl | simp) (by first | exact zqp rfl | simp) (by first | exact (fun _ => zqr rfl) | simp) (by first | exact ⟨zqm rfl, zqm rfl⟩ | simp) h.1, zMr_F f (by first | exact zqp rfl | simp) (by first | exact zqp rfl | simp) (by first | exact (fun _ => ⟨zqr rfl, zqr rfl⟩) | simp) (by first | exact ⟨zqm rfl, zqm rfl, zqm rfl⟩ | simp) h.2.1, h.2.2⟩
  · exact ⟨zMl_F f (by first | exact zqp rfl | simp) (by first | exact zqp rfl | simp) (by first | exact (fun _ => zqr rfl) | simp) (by first | exact ⟨zqm rfl, zqm rfl⟩ | simp) h.1, zMr_F f (by first | exact zqp rfl | simp) (by first | exact zqp rfl | simp) (by first | exact (fun _ => ⟨zqr rfl, zqr rfl⟩) | simp) (by first | exact ⟨zqm rfl, zqm rfl, zqm rfl⟩ | simp) h.2.1, h.2.2⟩
theorem zHc_p {A : Nat} (hA : A = 174 ∨ A = 175) {p q : pm_H} {P G : Nat} (f : zHc A p q) (h : zMp p P G) : zMp q P G := by
  rcases hA with e | e <;> subst e
  · exact zMp_F f (by first | exact zqp rfl | simp) (by first | exact zqp rfl | simp) (by first | exact zqm rfl | simp) h
  · exact zMp_F f (by first | exact zqp rfl | simp) (by first | exact zqp rfl | simp) (by first | exact zqm rfl | simp) h
theorem zHc_S {A : Nat} (hA : A = 174 ∨ A = 175) {p q : pm_H} (f : zHc A p q) (h : zSh p) : zSh q := by
  rcases hA with e | e <;> subst e
  · exact zSh_F f (by decide +kernel) h
  · exact zSh_F f (by decide +kernel) h
/-- scratch of an HOUR, the row not yet written -/
def zHs (p q : pm_H) : Prop := zFr [181, 182, 184] [] p q
theorem zHs_sc {p q : pm_H} (f : zSc p q) : zHs p q := zFr_mono f (by first | exact zqa rfl | simp) (by first | exact zqf rfl | simp)
theorem zHs_e {p q : pm_H} {E : zEn} (f : zHs p q) (h : zMe p E) : zMe q E := ⟨zMl_F f (by first | exact zqp rfl | simp) (by first | exact zqp rfl | simp) (by first | exact (fun _ => zqr rfl) | simp) (by first | exact ⟨zqm rfl, zqm rfl⟩ | simp) h.1, zMr_F f (by first | exact zqp rfl | simp) (by first | exact zqp rfl | simp) (by first | exact (fun _ => ⟨zqr rfl, zqr rfl⟩) | simp) (by first | exact ⟨zqm rfl, zqm rfl, zqm rfl⟩ | simp) h.2.1, h.2.2⟩
theorem zHs_p {p q : pm_H} {P G : Nat} (f : zHs p q) (h : zMp p P G) : zMp q P G := zMp_F f (by first | exact zqp rfl | simp) (by first | exact zqp rfl | simp) (by first | exact zqm rfl | simp) h
theorem zHs_S {p q : pm_H} (f : zHs p q) (h : zSh p) : zSh q := zSh_F f (by decide +kernel) h
theorem zHs_a {p q : pm_H} {A o : Nat} {v : Nat → Nat} (f : zHs p q) (h : (A = 174 ∨ A = 175) ∧ zNr p A o v) : (A = 174 ∨ A = 175) ∧ zNr q A o v := ⟨h.1, zNr_F f (by first | exact (fun _ => zqr rfl) | simp) (by simp; have := h.1; omega) h.2⟩
theorem zm_hour {ph : pm_H} {E : zEn} {P G A : Nat} {v : Nat → Nat} (hS : zSh ph) (hE : zMe ph E) (hN : zMp ph P G) (hA : A = 174 ∨ A = 175) (hv : zNr ph A 0 v) (hO : zOk E.1 E.2.1 P G v) (hh : v 40 < 999999) : zM 242 [.ref 170, .ref A] ph (fun v0 q => v0 = none ∧ zHc A ph q ∧ zNr q A 0 (zHr E P G v)) := by
  obtain ⟨Q, hQ⟩ : ∃ Q : Option Value → pm_H → Prop, Q = (fun v0 q => v0 = none ∧ zHc A ph q ∧ zNr q A 0 (zHr E P G v)) := ⟨_, rfl⟩
  rw [← hQ]
  refine zM_mk fun n D => ?_
  show zW n D 242 Q 0 [some (.ref 170), some (.ref A), none, none] [] ph
  have c_0 : ((Int8.ofInt 24).toInt32).toInt = 24 := by decide +kernel
  have c_1 : ((Int8.ofInt 40).toInt32).toInt = 40 := by decide +kernel
  have c_2 : (Int32.ofInt 0).toInt = 0 := by decide +kernel
  have c_3 : (Int32.ofInt 1).toInt = 1 := by decide +kernel
  obtain ⟨R, C, rk, sn, sk, cn, cd⟩ := E
  have hL0 : zMl ph R C rk := hE.1
  have hR0 : zMr ph sn sk cn cd := hE.2.1
  have hcg : zcg cn cd := hE.2.2
  have hE0 : zMe ph (R, C, rk, sn, sk, cn, cd) := hE
  have hO0 : zOk R C P G v := hO
  have hN0 := hN
  have hL := hL0
  have hR := hR0
  obtain ⟨gR, gC, gK, hR3, hR7, hC3, hC7⟩ := hL
  have hRC := zRC49 hR7 hC7
  have tR := znt (k := R) (by omega)
  have tC := znt (k := C) (by omega)
  obtain ⟨gP, hP8, gG, hG8⟩ := hN
  have tP := znt (k := P) (by omega)
  have tG := znt (k := G) (by omega)
  obtain ⟨gsn, hs1, hs20, gsk, gcn, hc40, gcd⟩ := hR
  have tsn := znt (k := sn) (by omega)
  have tcn := znt (k := cn) (by omega)
  have hv256 : ∀ i, i < P → v (24 + i) < 256 := fun i hi => (hO0.1 i hi).2.2.2
  have hl3 : ∀ (n : Nat), ∀ (k : Nat) (x3 : Option Value) (ph1 : pm_H), (k ≤ P) → (zHc A ph ph1) → (∀ i, i < P → zc ph1 184 i = some (.int (zn (zHo (R, C, rk, sn, sk, cn, cd) P G v P i)))) → (∀ i, i < 41 → zc ph1 A i = some (.int (zn (if 24 ≤ i ∧ i < 24 + k then zHo (R, C, rk, sn, sk, cn, cd) P G v P (i - 24) else v i)))) → zW n D 242 Q 116 [some (.ref 170), some (.ref A), some (.int (zn k)), x3] [] ph1 := by
    intro n
    induction n using Nat.strongRecOn with
    | ind n ih =>
      intro k x3 ph1 hk hf hlr hrow
      have tk := znt (k := k) (by omega)
      refine w_load (pc' := 117) (v := .int (zn k)) (m := 1) (ykc_242 (e := (2, .iload_n kF2, 0)) rfl) rfl rfl ?_
      refine w_load (pc' := 118) (v := .ref 170) (m := 1) (ykc_242 (e := (2, .aload_n kF0, 0)) rfl) rfl rfl ?_
      refine w_gf (pc' := 121) (v := .int (zn P)) (ykc_242 (e := (5, .getfield 130, 0)) rfl) rfl ((hf.1 170 5 (by simp <;> omega) (by simp <;> omega)).trans gP) rfl ?_
      refine w_ige (ykc_242 (e := (4, .if_icmp .ge 21, 142)) rfl) rfl (fun b335 => ?_) (fun b335 => ?_)
      · refine w_load (pc' := 143) (v := .ref A) (m := 1) (ykc_242 (e := (2, .aload_n kF1, 0)) rfl) rfl rfl ?_
        refine w_push (pc' := 145) (v := .int ((Int8.ofInt 40).toInt32)) (m := 2) (ykc_242 (e := (1, .bipush 40, 0)) rfl) rfl rfl ?_
        have h40 := hO0.2.2
        have t40 := znt (k := v 40) (by omega)
        refine w_alu (pc' := 146) (st' := [.int ((Int8.ofInt 40).toInt32), .ref A, .int ((Int8.ofInt 40).toInt32), .ref A]) (ykc_242 (e := (0, .dup2, 0)) rfl) rfl rfl ?_
        refine w_ialk (pc' := 147) (k := 40) (ykc_242 (e := (5, .iaload, 0)) rfl) (by have h := hrow 40 (by omega); rwa [if_neg (by omega)] at h) (by omega) rfl ?_
        refine w_alu (pc' := 148) (st' := [.int (Int32.ofInt 1), .int (zn (v 40)), .int ((Int8.ofInt 40).toInt32), .ref A]) (ykc_242 (e := (0, .iconst 1, 0)) rfl) rfl rfl ?_
        have e336 : (zn (v 40)) + (Int32.ofInt 1) = zn (v 40 + 1) := (zaddN (a := v 40) (b := 1) (znt (by omega)) c_3 (by omega)) 
        have te336 := znt (k := v 40 + 1) (by omega)
        refine w_alu (pc' := 149) (st' := [.int (zn (v 40 + 1)), .int ((Int8.ofInt 40).toInt32), .ref A]) (ykc_242 (e := (0, .iadd, 0)) rfl) (by rw [← e336]; rfl) rfl ?_
        refine w_ias (pc' := 150) (k := 40) (ykc_242 (e := (5, .iastore, 0)) rfl) (by omega) rfl (fun ph338 u337 => ?_)
        refine w_ret (v := none) (ykc_242 (e := (7, .return_, 0)) rfl) (zr_v rfl) ?_
        have ek : P = k := by omega
        subst ek
        rw [hQ]
        refine ⟨rfl, zFr_add hf u337 (Or.inl (by first | exact zqi rfl | simp)), fun i hi => ?_⟩
        rw [Nat.zero_add]
        unfold zHr
        by_cases e : i = 40
        · subst e
          rw [if_neg (by omega), if_pos rfl]
          exact u337.1
        · refine (u337.2.1 A i (fun q => e q.2)).trans ((hrow i hi).trans ?_)
          rw [if_neg e]
      · refine w_load (pc' := 125) (v := .ref A) (m := 1) (ykc_242 (e := (2, .aload_n kF1, 0)) rfl) rfl rfl ?_
        refine w_push (pc' := 127) (v := .int ((Int8.ofInt 24).toInt32)) (m := 2) (ykc_242 (e := (1, .bipush 24, 0)) rfl) rfl rfl ?_
        refine w_load (pc' := 128) (v := .int (zn k)) (m := 1) (ykc_242 (e := (2, .iload_n kF2, 0)) rfl) rfl rfl ?_
        have e339 : ((Int8.ofInt 24).toInt32) + (zn k) = zn (24 + k) := (zaddN (a := 24) (b := k) c_0 (znt (by omega)) (by omega)) 
        have te339 := znt (k := 24 + k) (by omega)
        refine w_alu (pc' := 129) (st' := [.int (zn (24 + k)), .ref A]) (ykc_242 (e := (0, .iadd, 0)) rfl) (by rw [← e339]; rfl) rfl ?_
        refine w_load (pc' := 130) (v := .ref 170) (m := 1) (ykc_242 (e := (2, .aload_n kF0, 0)) rfl) rfl rfl ?_
        refine w_gf (pc' := 133) (v := .ref 184) (ykc_242 (e := (5, .getfield 71, 0)) rfl) rfl ((hf.1 170 29 (by simp <;> omega) (by simp <;> omega)).trans (zsg hS zs_170_29)) rfl ?_
        refine w_load (pc' := 134) (v := .int (zn k)) (m := 1) (ykc_242 (e := (2, .iload_n kF2, 0)) rfl) rfl rfl ?_
        refine w_ialk (pc' := 135) (k := k) (ykc_242 (e := (5, .iaload, 0)) rfl) (hlr k (by omega)) (by omega) rfl ?_
        refine w_ias (pc' := 136) (k := 24 + k) (ykc_242 (e := (5, .iastore, 0)) rfl) (by omega) rfl (fun ph341 u340 => ?_)
        have e342 : (zn k) + Int32.ofInt 1 = zn (k + 1) := (zaddN (a := k) (b := 1) (znt (by omega)) c_3 (by omega))
        have te342 := znt (k := k + 1) (by omega)
        refine w_store (pc' := 139) (L' := [some (.ref 170), some (.ref A), some (.int (zn (k + 1))), x3]) (st' := []) (m := 3) (ykc_242 (e := (3, .iinc 2 1, 0)) rfl) (by rw [← e342]; rfl) rfl ?_
        refine w_gb (ykc_242 (e := (4, .goto (-23), 116)) rfl) (fun k343 hk343 => ?_)
        exact ih k343 hk343 (k + 1) _ ph341 (by omega) (zFr_add hf u340 (Or.inl (by first | exact zqi rfl | simp))) (fun i hi => (u340.2.1 184 i (fun q => by have q2 := q.1; omega)).trans (hlr i hi)) (fun i hi => by
          by_cases e : i = 24 + k
          · subst e
            rw [if_pos (by omega), show 24 + k - 24 = k by omega]
            exact u340.1
          · refine (u340.2.1 A i (fun q => e q.2)).trans ((hrow i hi).trans ?_)
            by_cases e2 : 24 ≤ i ∧ i < 24 + k
            · rw [if_pos e2, if_pos (by omega)]
            · rw [if_neg e2, if_neg (by omega)])
  have hl2 : ∀ (n : Nat), ∀ (a : Nat) (x3 : Option Value) (ph1 : pm_H), (a ≤ P) → (zHs ph ph1) → (∀ i, i < P → zc ph1 184 i = some (.int (zn (zHo (R, C, rk, sn, sk, cn, cd) P G v a i)))) → zW n D 242 Q 42 [some (.ref 170), some (.ref A), some (.int (zn a)), x3] [] ph1 := by
    intro n
    induction n using Nat.strongRecOn with
    | ind n ih =>
      intro a x3 ph1 ha hf hlr
      have ta := znt (k := a) (by omega)
      have hin : ∀ (n1 : Nat), n1 ≤ n → ∀ (m : Nat) (ph2 : pm_H), a + 1 + m ≤ P → zHs ph ph2 → (∀ i, i < P → zc ph2 184 i = some (.int (zn (zHi (R, C, rk, sn, sk, cn, cd) P v (zHo (R, C, rk, sn, sk, cn, cd) P G v a) a m i)))) → zW n1 D 242 Q 54 [some (.ref 170), some (.ref A), some (.int (zn a)), some (.int (zn (a + 1 + m)))] [] ph2 := by
        intro n1
        induction n1 using Nat.strongRecOn with
        | ind n1 ih1 =>
          intro hn1 m ph2 hm hf2 hl
          have tb := znt (k := a + 1 + m) (by omega)
          refine w_load (pc' := 55) (v := .int (zn (a + 1 + m))) (m := 1) (ykc_242 (e := (2, .iload_n kF3, 0)) rfl) rfl rfl ?_
          refine w_load (pc' := 56) (v := .ref 170) (m := 1) (ykc_242 (e := (2, .aload_n kF0, 0)) rfl) rfl rfl ?_
          refine w_gf (pc' := 59) (v := .int (zn P)) (ykc_242 (e := (5, .getfield 130, 0)) rfl) rfl ((hf2.1 170 5 (by first | exact zqm rfl | decide) (by first | exact zqp rfl | decide)).trans gP) rfl ?_
          refine w_ige (ykc_242 (e := (4, .if_icmp .ge 49, 108)) rfl) rfl (fun b344 => ?_) (fun b344 => ?_)
          · have e345 : (zn a) + Int32.ofInt 1 = zn (a + 1) := (zaddN (a := a) (b := 1) (znt (by omega)) c_3 (by omega))
            have te345 := znt (k := a + 1) (by omega)
            refine w_store (pc' := 111) (L' := [some (.ref 170), some (.ref A), some (.int (zn (a + 1))), some (.int (zn (a + 1 + m)))]) (st' := []) (m := 3) (ykc_242 (e := (3, .iinc 2 1, 0)) rfl) (by rw [← e345]; rfl) rfl ?_
            refine w_gb (ykc_242 (e := (4, .goto (-69), 42)) rfl) (fun k346 hk346 => ?_)
            have em : m = P - (a + 1) := by omega
            subst em
            exact ih k346 (by omega) (a + 1) _ _ (by omega) hf2 hl
          · refine w_load (pc' := 63) (v := .ref 170) (m := 1) (ykc_242 (e := (2, .aload_n kF0, 0)) rfl) rfl rfl ?_
            refine w_load (pc' := 64) (v := .ref A) (m := 1) (ykc_242 (e := (2, .aload_n kF1, 0)) rfl) rfl rfl ?_
            refine w_load (pc' := 65) (v := .int (zn a)) (m := 1) (ykc_242 (e := (2, .iload_n kF2, 0)) rfl) rfl rfl ?_
            refine w_load (pc' := 66) (v := .int (zn (a + 1 + m))) (m := 1) (ykc_242 (e := (2, .iload_n kF3, 0)) rfl) rfl rfl ?_
            refine w_cv (as := [.ref 170, .ref A, .int (zn a), .int (zn (a + 1 + m))]) (r := []) (ykc_242 (e := (6, .invokevirtual 344, 0)) rfl) rfl rfl rfl rfl (zm_tell (zHs_S hf2 hS) (zHs_e hf2 hE0) (zHs_p hf2 hN0) (zHs_a hf2 (⟨hA, hv⟩ : (A = 174 ∨ A = 175) ∧ zNr ph A 0 v)).1 (zHs_a hf2 (⟨hA, hv⟩ : (A = 174 ∨ A = 175) ∧ zNr ph A 0 v)).2 hO0 (a := a) (b := a + 1 + m) (by omega) (by omega)) (fun v348 ph349 hv => ?_)
            obtain ⟨f347, rfl⟩ := hv
            show zW n1 D 242 Q 69 [some (.ref 170), some (.ref A), some (.int (zn a)), some (.int (zn (a + 1 + m)))] [.int (zI (zTell (R, C, rk, sn, sk, cn, cd) P v a (a + 1 + m)))] ph349
            refine w_beq (ykc_242 (e := (4, .ifCond .eq 33, 102)) rfl) rfl (fun b350 => ?_) (fun b350 => ?_)
            · have e351 : (zn (a + 1 + m)) + Int32.ofInt 1 = zn (a + 1 + m + 1) := (zaddN (a := a + 1 + m) (b := 1) (znt (by omega)) c_3 (by omega))
              have te351 := znt (k := a + 1 + m + 1) (by omega)
              refine w_store (pc' := 105) (L' := [some (.ref 170), some (.ref A), some (.int (zn a)), some (.int (zn (a + 1 + m + 1)))]) (st' := []) (m := 3) (ykc_242 (e := (3, .iinc 3 1, 0)) rfl) (by rw [← e351]; rfl) rfl ?_
              refine w_gb (ykc_242 (e := (4, .goto (-51), 54)) rfl) (fun k352 hk352 => ?_)
              have et : zHi (R, C, rk, sn, sk, cn, cd) P v (zHo (R, C, rk, sn, sk, cn, cd) P G v a) a (m + 1) = zHi (R, C, rk, sn, sk, cn, cd) P v (zHo (R, C, rk, sn, sk, cn, cd) P G v a) a m := by
                show (bif zTell (R, C, rk, sn, sk, cn, cd) P v a (a + 1 + m) then _ else _) = _
                rw [b350]
                rfl
              exact ih1 k352 hk352 (by omega) (m + 1) _ (by omega) (zFr_trans hf2 (zHs_sc f347)) (fun i hi => by
                rw [et]
                exact (f347.1 184 i (by first | exact zqm rfl | decide) (by first | exact zqp rfl | simp)).trans (hl i hi))
            · refine w_load (pc' := 73) (v := .ref 170) (m := 1) (ykc_242 (e := (2, .aload_n kF0, 0)) rfl) rfl rfl ?_
              refine w_gf (pc' := 76) (v := .ref 184) (ykc_242 (e := (5, .getfield 71, 0)) rfl) rfl ((f347.1 170 29 (by first | exact zqm rfl | decide) (by first | exact zqp rfl | decide)).trans ((hf2.1 170 29 (by first | exact zqm rfl | decide) (by first | exact zqp rfl | decide)).trans (zsg hS zs_170_29))) rfl ?_
              refine w_load (pc' := 77) (v := .int (zn a)) (m := 1) (ykc_242 (e := (2, .iload_n kF2, 0)) rfl) rfl rfl ?_
              refine w_alu (pc' := 78) (st' := [.int (zn a), .ref 184, .int (zn a), .ref 184]) (ykc_242 (e := (0, .dup2, 0)) rfl) rfl rfl ?_
              have q353 := zHi_lt (E := (R, C, rk, sn, sk, cn, cd)) (l := zHo (R, C, rk, sn, sk, cn, cd) P G v a) (zHo_lt hv256 hG8 a (by omega)) hv256 (show a < P by omega) m (by omega) a (by omega)
              have tq353 := znt (k := zHi (R, C, rk, sn, sk, cn, cd) P v (zHo (R, C, rk, sn, sk, cn, cd) P G v a) a m a) (by omega)
              refine w_ialk (pc' := 79) (k := a) (ykc_242 (e := (5, .iaload, 0)) rfl) ((f347.1 184 a (by first | exact zqm rfl | decide) (by first | exact zqp rfl | simp)).trans (hl a (by omega))) (by omega) rfl ?_
              refine w_load (pc' := 80) (v := .ref A) (m := 1) (ykc_242 (e := (2, .aload_n kF1, 0)) rfl) rfl rfl ?_
              refine w_push (pc' := 82) (v := .int ((Int8.ofInt 24).toInt32)) (m := 2) (ykc_242 (e := (1, .bipush 24, 0)) rfl) rfl rfl ?_
              refine w_load (pc' := 83) (v := .int (zn (a + 1 + m))) (m := 1) (ykc_242 (e := (2, .iload_n kF3, 0)) rfl) rfl rfl ?_
              have e354 : ((Int8.ofInt 24).toInt32) + (zn (a + 1 + m)) = zn (24 + (a + 1 + m)) := (zaddN (a := 24) (b := a + 1 + m) c_0 (znt (by omega)) (by omega)) 
              have te354 := znt (k := 24 + (a + 1 + m)) (by omega)
              refine w_alu (pc' := 84) (st' := [.int (zn (24 + (a + 1 + m))), .ref A, .int (zn (zHi (R, C, rk, sn, sk, cn, cd) P v (zHo (R, C, rk, sn, sk, cn, cd) P G v a) a m a)), .int (zn a), .ref 184]) (ykc_242 (e := (0, .iadd, 0)) rfl) (by rw [← e354]; rfl) rfl ?_
              have q355 := hO0.1 (a + 1 + m) (by omega)
              have tq355 := znt (k := v (24 + (a + 1 + m))) (by omega)
              refine w_ialk (pc' := 85) (k := 24 + (a + 1 + m)) (ykc_242 (e := (5, .iaload, 0)) rfl) ((f347.1 A (24 + (a + 1 + m)) (by simp <;> omega) (by simp <;> omega)).trans ((hf2.1 A (24 + (a + 1 + m)) (by simp <;> omega) (by simp <;> omega)).trans (zNr0 hv (i := 24 + (a + 1 + m)) (by omega)))) (by omega) rfl ?_
              refine w_alu (pc' := 86) (st' := [.int (zn (zHi (R, C, rk, sn, sk, cn, cd) P v (zHo (R, C, rk, sn, sk, cn, cd) P G v a) a m a ||| v (24 + (a + 1 + m)))), .int (zn a), .ref 184]) (ykc_242 (e := (0, .ior, 0)) rfl) (by rw [← (zor_n (by omega) (by omega) : (zn (zHi (R, C, rk, sn, sk, cn, cd) P v (zHo (R, C, rk, sn, sk, cn, cd) P G v a) a m a)) ||| (zn (v (24 + (a + 1 + m)))) = zn (zHi (R, C, rk, sn, sk, cn, cd) P v (zHo (R, C, rk, sn, sk, cn, cd) P G v a) a m a ||| v (24 + (a + 1 + m))))]; rfl) rfl ?_
              refine w_ias (pc' := 87) (k := a) (ykc_242 (e := (5, .iastore, 0)) rfl) (by omega) rfl (fun ph357 u356 => ?_)
              refine w_load (pc' := 88) (v := .ref 170) (m := 1) (ykc_242 (e := (2, .aload_n kF0, 0)) rfl) rfl rfl ?_
              refine w_gf (pc' := 91) (v := .ref 184) (ykc_242 (e := (5, .getfield 71, 0)) rfl) rfl ((u356.2.1 170 29 (fun q => absurd q.1 (by first | exact Nat.ne_of_beq_eq_false rfl | decide))).trans ((f347.1 170 29 (by first | exact zqm rfl | decide) (by first | exact zqp rfl | decide)).trans ((hf2.1 170 29 (by first | exact zqm rfl | decide) (by first | exact zqp rfl | decide)).trans (zsg hS zs_170_29)))) rfl ?_
              refine w_load (pc' := 92) (v := .int (zn (a + 1 + m))) (m := 1) (ykc_242 (e := (2, .iload_n kF3, 0)) rfl) rfl rfl ?_
              refine w_alu (pc' := 93) (st' := [.int (zn (a + 1 + m)), .ref 184, .int (zn (a + 1 + m)), .ref 184]) (ykc_242 (e := (0, .dup2, 0)) rfl) rfl rfl ?_
              have q358 := zHi_lt (E := (R, C, rk, sn, sk, cn, cd)) (l := zHo (R, C, rk, sn, sk, cn, cd) P G v a) (zHo_lt hv256 hG8 a (by omega)) hv256 (show a < P by omega) m (by omega) (a + 1 + m) (by omega)
              have tq358 := znt (k := zHi (R, C, rk, sn, sk, cn, cd) P v (zHo (R, C, rk, sn, sk, cn, cd) P G v a) a m (a + 1 + m)) (by omega)
              refine w_ialk (pc' := 94) (k := a + 1 + m) (ykc_242 (e := (5, .iaload, 0)) rfl) ((u356.2.1 184 (a + 1 + m) (fun q => by have q2 := q.2; omega)).trans ((f347.1 184 (a + 1 + m) (by first | exact zqm rfl | decide) (by first | exact zqp rfl | simp)).trans (hl (a + 1 + m) (by omega)))) (by omega) rfl ?_
              refine w_load (pc' := 95) (v := .ref A) (m := 1) (ykc_242 (e := (2, .aload_n kF1, 0)) rfl) rfl rfl ?_
              refine w_push (pc' := 97) (v := .int ((Int8.ofInt 24).toInt32)) (m := 2) (ykc_242 (e := (1, .bipush 24, 0)) rfl) rfl rfl ?_
              refine w_load (pc' := 98) (v := .int (zn a)) (m := 1) (ykc_242 (e := (2, .iload_n kF2, 0)) rfl) rfl rfl ?_
              have e359 : ((Int8.ofInt 24).toInt32) + (zn a) = zn (24 + a) := (zaddN (a := 24) (b := a) c_0 (znt (by omega)) (by omega)) 
              have te359 := znt (k := 24 + a) (by omega)
              refine w_alu (pc' := 99) (st' := [.int (zn (24 + a)), .ref A, .int (zn (zHi (R, C, rk, sn, sk, cn, cd) P v (zHo (R, C, rk, sn, sk, cn, cd) P G v a) a m (a + 1 + m))), .int (zn (a + 1 + m)), .ref 184]) (ykc_242 (e := (0, .iadd, 0)) rfl) (by rw [← e359]; rfl) rfl ?_
              have q360 := hO0.1 a (by omega)
              have tq360 := znt (k := v (24 + a)) (by omega)
              refine w_ialk (pc' := 100) (k := 24 + a) (ykc_242 (e := (5, .iaload, 0)) rfl) ((u356.2.1 A (24 + a) (fun q => by have q2 := q.1; omega)).trans ((f347.1 A (24 + a) (by simp <;> omega) (by simp <;> omega)).trans ((hf2.1 A (24 + a) (by simp <;> omega) (by simp <;> omega)).trans (zNr0 hv (i := 24 + a) (by omega))))) (by omega) rfl ?_
              refine w_alu (pc' := 101) (st' := [.int (zn (zHi (R, C, rk, sn, sk, cn, cd) P v (zHo (R, C, rk, sn, sk, cn, cd) P G v a) a m (a + 1 + m) ||| v (24 + a))), .int (zn (a + 1 + m)), .ref 184]) (ykc_242 (e := (0, .ior, 0)) rfl) (by rw [← (zor_n (by omega) (by omega) : (zn (zHi (R, C, rk, sn, sk, cn, cd) P v (zHo (R, C, rk, sn, sk, cn, cd) P G v a) a m (a + 1 + m))) ||| (zn (v (24 + a))) = zn (zHi (R, C, rk, sn, sk, cn, cd) P v (zHo (R, C, rk, sn, sk, cn, cd) P G v a) a m (a + 1 + m) ||| v (24 + a)))]; rfl) rfl ?_
              refine w_ias (pc' := 102) (k := a + 1 + m) (ykc_242 (e := (5, .iastore, 0)) rfl) (by omega) rfl (fun ph362 u361 => ?_)
              have e363 : (zn (a + 1 + m)) + Int32.ofInt 1 = zn (a + 1 + m + 1) := (zaddN (a := a + 1 + m) (b := 1) (znt (by omega)) c_3 (by omega))
              have te363 := znt (k := a + 1 + m + 1) (by omega)
              refine w_store (pc' := 105) (L' := [some (.ref 170), some (.ref A), some (.int (zn a)), some (.int (zn (a + 1 + m + 1)))]) (st' := []) (m := 3) (ykc_242 (e := (3, .iinc 3 1, 0)) rfl) (by rw [← e363]; rfl) rfl ?_
              refine w_gb (ykc_242 (e := (4, .goto (-51), 54)) rfl) (fun k364 hk364 => ?_)
              have et : zHi (R, C, rk, sn, sk, cn, cd) P v (zHo (R, C, rk, sn, sk, cn, cd) P G v a) a (m + 1) = znu (znu (zHi (R, C, rk, sn, sk, cn, cd) P v (zHo (R, C, rk, sn, sk, cn, cd) P G v a) a m) a (zHi (R, C, rk, sn, sk, cn, cd) P v (zHo (R, C, rk, sn, sk, cn, cd) P G v a) a m a ||| v (24 + (a + 1 + m)))) (a + 1 + m) (zHi (R, C, rk, sn, sk, cn, cd) P v (zHo (R, C, rk, sn, sk, cn, cd) P G v a) a m (a + 1 + m) ||| v (24 + a)) := by
                show (bif zTell (R, C, rk, sn, sk, cn, cd) P v a (a + 1 + m) then _ else _) = _
                rw [b350]
                rfl
              exact ih1 k364 hk364 (by omega) (m + 1) _ (by omega) (zFr_trans (zFr_trans (zFr_trans hf2 (zHs_sc f347)) (zFr_st u356 (Or.inl (by first | exact zqi rfl | simp)))) (zFr_st u361 (Or.inl (by first | exact zqi rfl | simp)))) (fun i hi => by
                rw [et]
                unfold znu
                by_cases e1 : i = a + 1 + m
                · rw [if_pos e1, e1]
                  exact u361.1
                · rw [if_neg e1]
                  by_cases e2 : i = a
                  · rw [if_pos e2, e2]
                    exact (u361.2.1 184 a (fun q => by have q2 := q.2; omega)).trans u356.1
                  · rw [if_neg e2]
                    exact (u361.2.1 184 i (fun q => e1 q.2)).trans ((u356.2.1 184 i (fun q => e2 q.2)).trans ((f347.1 184 i (by first | exact zqm rfl | decide) (by first | exact zqp rfl | simp)).trans (hl i hi))))
      refine w_load (pc' := 43) (v := .int (zn a)) (m := 1) (ykc_242 (e := (2, .iload_n kF2, 0)) rfl) rfl rfl ?_
      refine w_load (pc' := 44) (v := .ref 170) (m := 1) (ykc_242 (e := (2, .aload_n kF0, 0)) rfl) rfl rfl ?_
      refine w_gf (pc' := 47) (v := .int (zn P)) (ykc_242 (e := (5, .getfield 130, 0)) rfl) rfl ((hf.1 170 5 (by first | exact zqm rfl | decide) (by first | exact zqp rfl | decide)).trans gP) rfl ?_
      refine w_ige (ykc_242 (e := (4, .if_icmp .ge 67, 114)) rfl) rfl (fun b365 => ?_) (fun b365 => ?_)
      · refine w_alu (pc' := 115) (st' := [.int (Int32.ofInt 0)]) (ykc_242 (e := (0, .iconst 0, 0)) rfl) rfl rfl ?_
        refine w_store (pc' := 116) (L' := [some (.ref 170), some (.ref A), some (.int (Int32.ofInt 0)), x3]) (st' := []) (m := 1) (ykc_242 (e := (3, .istore_n kF2, 0)) rfl) rfl rfl ?_
        have ea : P = a := by omega
        subst ea
        exact hl3 n 0 _ ph1 (Nat.zero_le _) (zFr_mono hf (by first | exact zqa rfl | simp) (by first | exact zqf rfl | simp)) hlr (fun i hi => by
          rw [if_neg (by omega)]
          exact (hf.1 A i (by simp <;> omega) (by simp)).trans (zNr0 hv hi))
      · refine w_load (pc' := 51) (v := .int (zn a)) (m := 1) (ykc_242 (e := (2, .iload_n kF2, 0)) rfl) rfl rfl ?_
        refine w_alu (pc' := 52) (st' := [.int (Int32.ofInt 1), .int (zn a)]) (ykc_242 (e := (0, .iconst 1, 0)) rfl) rfl rfl ?_
        have e366 : (zn a) + (Int32.ofInt 1) = zn (a + 1) := (zaddN (a := a) (b := 1) (znt (by omega)) c_3 (by omega)) 
        have te366 := znt (k := a + 1) (by omega)
        refine w_alu (pc' := 53) (st' := [.int (zn (a + 1))]) (ykc_242 (e := (0, .iadd, 0)) rfl) (by rw [← e366]; rfl) rfl ?_
        refine w_store (pc' := 54) (L' := [some (.ref 170), some (.ref A), some (.int (zn a)), some (.int (zn (a + 1)))]) (st' := []) (m := 1) (ykc_242 (e := (3, .istore_n kF3, 0)) rfl) rfl rfl ?_
        exact hin _ (Nat.le_refl _) 0 ph1 (by omega) hf hlr
  have hl1 : ∀ (n : Nat), ∀ (k : Nat) (x3 : Option Value) (ph1 : pm_H), (k ≤ P) → (zHs ph ph1) → (∀ i, i < k → zc ph1 184 i = some (.int (zn (zHb (R, C, rk, sn, sk, cn, cd) P G v i)))) → zW n D 242 Q 2 [some (.ref 170), some (.ref A), some (.int (zn k)), x3] [] ph1 := by
    intro n
    induction n using Nat.strongRecOn with
    | ind n ih =>
      intro k x3 ph1 hk hf hlr
      have tk := znt (k := k) (by omega)
      refine w_load (pc' := 3) (v := .int (zn k)) (m := 1) (ykc_242 (e := (2, .iload_n kF2, 0)) rfl) rfl rfl ?_
      refine w_load (pc' := 4) (v := .ref 170) (m := 1) (ykc_242 (e := (2, .aload_n kF0, 0)) rfl) rfl rfl ?_
      refine w_gf (pc' := 7) (v := .int (zn P)) (ykc_242 (e := (5, .getfield 130, 0)) rfl) rfl ((hf.1 170 5 (by first | exact zqm rfl | decide) (by first | exact zqp rfl | decide)).trans gP) rfl ?_
      refine w_ige (ykc_242 (e := (4, .if_icmp .ge 33, 40)) rfl) rfl (fun b367 => ?_) (fun b367 => ?_)
      · refine w_alu (pc' := 41) (st' := [.int (Int32.ofInt 0)]) (ykc_242 (e := (0, .iconst 0, 0)) rfl) rfl rfl ?_
        refine w_store (pc' := 42) (L' := [some (.ref 170), some (.ref A), some (.int (Int32.ofInt 0)), x3]) (st' := []) (m := 1) (ykc_242 (e := (3, .istore_n kF2, 0)) rfl) rfl rfl ?_
        have ek : P = k := by omega
        subst ek
        exact hl2 n 0 _ ph1 (Nat.zero_le _) hf hlr
      · refine w_load (pc' := 11) (v := .ref 170) (m := 1) (ykc_242 (e := (2, .aload_n kF0, 0)) rfl) rfl rfl ?_
        refine w_gf (pc' := 14) (v := .ref 184) (ykc_242 (e := (5, .getfield 71, 0)) rfl) rfl ((hf.1 170 29 (by first | exact zqm rfl | decide) (by first | exact zqp rfl | decide)).trans (zsg hS zs_170_29)) rfl ?_
        refine w_load (pc' := 15) (v := .int (zn k)) (m := 1) (ykc_242 (e := (2, .iload_n kF2, 0)) rfl) rfl rfl ?_
        refine w_load (pc' := 16) (v := .ref A) (m := 1) (ykc_242 (e := (2, .aload_n kF1, 0)) rfl) rfl rfl ?_
        refine w_push (pc' := 18) (v := .int ((Int8.ofInt 24).toInt32)) (m := 2) (ykc_242 (e := (1, .bipush 24, 0)) rfl) rfl rfl ?_
        refine w_load (pc' := 19) (v := .int (zn k)) (m := 1) (ykc_242 (e := (2, .iload_n kF2, 0)) rfl) rfl rfl ?_
        have e368 : ((Int8.ofInt 24).toInt32) + (zn k) = zn (24 + k) := (zaddN (a := 24) (b := k) c_0 (znt (by omega)) (by omega)) 
        have te368 := znt (k := 24 + k) (by omega)
        refine w_alu (pc' := 20) (st' := [.int (zn (24 + k)), .ref A, .int (zn k), .ref 184]) (ykc_242 (e := (0, .iadd, 0)) rfl) (by rw [← e368]; rfl) rfl ?_
        have q369 := hO0.1 k (by omega)
        have tq369 := znt (k := v (24 + k)) (by omega)
        refine w_ialk (pc' := 21) (k := 24 + k) (ykc_242 (e := (5, .iaload, 0)) rfl) ((hf.1 A (24 + k) (by simp <;> omega) (by simp <;> omega)).trans (zNr0 hv (i := 24 + k) (by omega))) (by omega) rfl ?_
        refine w_load (pc' := 22) (v := .ref 170) (m := 1) (ykc_242 (e := (2, .aload_n kF0, 0)) rfl) rfl rfl ?_
        refine w_load (pc' := 23) (v := .ref A) (m := 1) (ykc_242 (e := (2, .aload_n kF1, 0)) rfl) rfl rfl ?_
        refine w_load (pc' := 24) (v := .ref 170) (m := 1) (ykc_242 (e := (2, .aload_n kF0, 0)) rfl) rfl rfl ?_
        refine w_load (pc' := 25) (v := .ref A) (m := 1) (ykc_242 (e := (2, .aload_n kF1, 0)) rfl) rfl rfl ?_
        refine w_load (pc' := 26) (v := .int (zn k)) (m := 1) (ykc_242 (e := (2, .iload_n kF2, 0)) rfl) rfl rfl ?_
        refine w_cv (as := [.ref 170, .ref A, .int (zn k)]) (r := [.ref A, .ref 170, .int (zn (v (24 + k))), .int (zn k), .ref 184]) (ykc_242 (e := (6, .invokevirtual 300, 0)) rfl) rfl rfl rfl rfl (zm_seen (zHs_S hf hS) (zHs_e hf hE0) (zHs_p hf hN0) (zHs_a hf (⟨hA, hv⟩ : (A = 174 ∨ A = 175) ∧ zNr ph A 0 v)).1 (zHs_a hf (⟨hA, hv⟩ : (A = 174 ∨ A = 175) ∧ zNr ph A 0 v)).2 hO0 (p := k) (by omega)) (fun v371 ph372 hv => ?_)
        obtain ⟨f370, rfl⟩ := hv
        show zW n D 242 Q 29 [some (.ref 170), some (.ref A), some (.int (zn k)), x3] [.long (zVw (R, C, rk, sn, sk, cn, cd) P v k), .ref A, .ref 170, .int (zn (v (24 + k))), .int (zn k), .ref 184] ph372
        refine w_cv (as := [.ref 170, .ref A, .long (zVw (R, C, rk, sn, sk, cn, cd) P v k)]) (r := [.int (zn (v (24 + k))), .int (zn k), .ref 184]) (ykc_242 (e := (6, .invokevirtual 323, 0)) rfl) rfl rfl rfl rfl (zm_ton (zHs_S (zFr_trans hf (zHs_sc f370)) hS) (zHs_e (zFr_trans hf (zHs_sc f370)) hE0) (zHs_p (zFr_trans hf (zHs_sc f370)) hN0) (zHs_a (zFr_trans hf (zHs_sc f370)) (⟨hA, hv⟩ : (A = 174 ∨ A = 175) ∧ zNr ph A 0 v)).1 (zHs_a (zFr_trans hf (zHs_sc f370)) (⟨hA, hv⟩ : (A = 174 ∨ A = 175) ∧ zNr ph A 0 v)).2 hO0 (x := zVw (R, C, rk, sn, sk, cn, cd) P v k)) (fun v373 ph374 hv => ?_)
        obtain ⟨rfl, rfl⟩ := hv
        show zW n D 242 Q 32 [some (.ref 170), some (.ref A), some (.int (zn k)), x3] [.int (zTon G v (zVw (R, C, rk, sn, sk, cn, cd) P v k)), .int (zn (v (24 + k))), .int (zn k), .ref 184] ph372
        refine w_alu (pc' := 33) (st' := [.int (zn (zHb (R, C, rk, sn, sk, cn, cd) P G v k)), .int (zn k), .ref 184]) (ykc_242 (e := (0, .ior, 0)) rfl) (by rw [← ((by unfold zTon; rw [zT_N hG8, zor_n (by omega) (zNs_lt hG8)]; rfl) : (zn (v (24 + k))) ||| (zTon G v (zVw (R, C, rk, sn, sk, cn, cd) P v k)) = zn (zHb (R, C, rk, sn, sk, cn, cd) P G v k))]; rfl) rfl ?_
        refine w_ias (pc' := 34) (k := k) (ykc_242 (e := (5, .iastore, 0)) rfl) (by omega) rfl (fun ph376 u375 => ?_)
        have e377 : (zn k) + Int32.ofInt 1 = zn (k + 1) := (zaddN (a := k) (b := 1) (znt (by omega)) c_3 (by omega))
        have te377 := znt (k := k + 1) (by omega)
        refine w_store (pc' := 37) (L' := [some (.ref 170), some (.ref A), some (.int (zn (k + 1))), x3]) (st' := []) (m := 3) (ykc_242 (e := (3, .iinc 2 1, 0)) rfl) (by rw [← e377]; rfl) rfl ?_
        refine w_gb (ykc_242 (e := (4, .goto (-35), 2)) rfl) (fun k378 hk378 => ?_)
        exact ih k378 hk378 (k + 1) _ _ (by omega) (zFr_trans (zFr_trans hf (zHs_sc f370)) (zFr_st u375 (Or.inl (by first | exact zqi rfl | simp)))) (fun i hi => by
          by_cases e : i = k
          · subst e
            exact u375.1
          · exact (u375.2.1 184 i (fun q => e q.2)).trans ((f370.1 184 i (by first | exact zqm rfl | decide) (by first | exact zqp rfl | simp)).trans (hlr i (by omega))))
  refine w_alu (pc' := 1) (st' := [.int (Int32.ofInt 0)]) (ykc_242 (e := (0, .iconst 0, 0)) rfl) rfl rfl ?_
  refine w_store (pc' := 2) (L' := [some (.ref 170), some (.ref A), some (.int (Int32.ofInt 0)), none]) (st' := []) (m := 1) (ykc_242 (e := (3, .istore_n kF2, 0)) rfl) rfl rfl ?_
  exact hl1 n 0 _ ph (Nat.zero_le _) zFr_refl (fun i hi => absurd hi (Nat.not_lt_zero i))
