/-! what looks answer: gossip; printed by wip/z/z3e_looks.py -/
def zAny (f : Nat → Bool) : Nat → Bool
  | 0 => false
  | n + 1 => zAny f n || f n
theorem zAny_cg {f g : Nat → Bool} : ∀ n, (∀ i, i < n → f i = g i) → zAny f n = zAny g n := by
  intro n
  induction n with
  | zero => intro _; rfl
  | succ n ih =>
    intro h
    show (zAny f n || f n) = (zAny g n || g n)
    rw [ih (fun i hi => h i (by omega)), h n (by omega)]
def zGs (T : Nat → Nat → Bool) (P p : Nat) : Nat → Nat → Bool
  | 0 => fun j => decide (j = p)
  | k + 1 => fun j => zGs T P p k j || zAny (fun i => zGs T P p k i && T i j) P
def zCrd (f : Nat → Bool) : Nat → Nat
  | 0 => 0
  | n + 1 => zCrd f n + bif f n then 1 else 0
theorem zCrd_le {f : Nat → Bool} : ∀ n, zCrd f n ≤ n := by
  intro n
  induction n with
  | zero => exact Nat.le_refl _
  | succ n ih =>
    show zCrd f n + (bif f n then 1 else 0) ≤ n + 1
    cases f n with
    | false => rw [cond_false]; omega
    | true => rw [cond_true]; omega
theorem zCrd_mono {f g : Nat → Bool} : ∀ n, (∀ j, j < n → f j = true → g j = true) → zCrd f n ≤ zCrd g n := by
  intro n
  induction n with
  | zero => intro _; exact Nat.le_refl _
  | succ n ih =>
    intro h
    have h1 := ih (fun j hj => h j (by omega))
    show zCrd f n + (bif f n then 1 else 0) ≤ zCrd g n + (bif g n then 1 else 0)
    cases hf : f n with
    | false => rw [cond_false]; omega
    | true => rw [h n (by omega) hf, cond_true]; omega
theorem zCrd_lt {f g : Nat → Bool} : ∀ n, (∀ j, j < n → f j = true → g j = true) → ∀ j, j < n → f j = false → g j = true → zCrd f n < zCrd g n := by
  intro n
  induction n with
  | zero => intro _ j hj; exact absurd hj (Nat.not_lt_zero j)
  | succ n ih =>
    intro h j hj h1 h2
    show zCrd f n + (bif f n then 1 else 0) < zCrd g n + (bif g n then 1 else 0)
    by_cases e : j = n
    · subst e
      have h3 := zCrd_mono (f := f) (g := g) j (fun i hi => h i (by omega))
      rw [h1, h2, cond_false, cond_true]
      omega
    · have h3 := ih (fun i hi => h i (by omega)) j (by omega) h1 h2
      cases hf : f n with
      | false => rw [cond_false]; omega
      | true => rw [h n (by omega) hf, cond_true]; omega
section ZG
variable {T : Nat → Nat → Bool} {P p : Nat}
theorem zGs_m {k j : Nat} (h : zGs T P p k j = true) : zGs T P p (k + 1) j = true := by
  show (zGs T P p k j || zAny (fun i => zGs T P p k i && T i j) P) = true
  rw [h, Bool.true_or]
theorem zGs_A {k : Nat} (h : ∀ j, j < P → zGs T P p (k + 1) j = zGs T P p k j) : ∀ d j, j < P → zGs T P p (k + d) j = zGs T P p k j := by
  intro d
  induction d with
  | zero => intro j _; rfl
  | succ d ih =>
    intro j hj
    show (zGs T P p (k + d) j || zAny (fun i => zGs T P p (k + d) i && T i j) P) = _
    rw [ih j hj, zAny_cg (g := fun i => zGs T P p k i && T i j) P (fun i hi => by rw [ih i hi])]
    exact h j hj
theorem zGs_B : ∃ k, k ≤ P ∧ ∀ j, j < P → zGs T P p (k + 1) j = zGs T P p k j := by
  apply Classical.byContradiction
  intro hn
  have key : ∀ k, k ≤ P + 1 → k ≤ zCrd (zGs T P p k) P := by
    intro k
    induction k with
    | zero => intro _; exact Nat.zero_le _
    | succ k ih =>
      intro hk
      have h1 := ih (by omega)
      have h2 : ¬ ∀ j, j < P → zGs T P p (k + 1) j = zGs T P p k j := fun q => hn ⟨k, by omega, q⟩
      have h3 : ∃ j, j < P ∧ zGs T P p k j = false ∧ zGs T P p (k + 1) j = true := by
        apply Classical.byContradiction
        intro h4
        apply h2
        intro j hj
        cases h5 : zGs T P p k j with
        | true => exact zGs_m h5
        | false =>
          cases h6 : zGs T P p (k + 1) j with
          | false => rfl
          | true => exact absurd ⟨j, hj, h5, h6⟩ h4
      obtain ⟨j, hj, h5, h6⟩ := h3
      have h7 := zCrd_lt (f := zGs T P p k) (g := zGs T P p (k + 1)) P (fun i _ q => zGs_m q) j hj h5 h6
      omega
  have h8 := key (P + 1) (Nat.le_refl _)
  have h9 := zCrd_le (f := zGs T P p (P + 1)) P
  omega
theorem zGs_P {K : Nat} (h : ∀ j, j < P → zGs T P p (K + 1) j = zGs T P p K j) : ∀ j, j < P → zGs T P p K j = zGs T P p P j := by
  intro j hj
  obtain ⟨k, hk, h2⟩ := zGs_B (T := T) (P := P) (p := p)
  have e1 := zGs_A h2 (P - k) j hj
  rw [show k + (P - k) = P by omega] at e1
  by_cases hkK : k ≤ K
  · have e2 := zGs_A h2 (K - k) j hj
    rw [show k + (K - k) = K by omega] at e2
    rw [e2, e1]
  · have e2 := zGs_A h (k - K) j hj
    rw [show K + (k - K) = k by omega] at e2
    rw [e1, e2]
end ZG
def zXgos (E : zEn) (P : Nat) (v : Nat → Nat) (x : Int32) : Int32 := if 0 ≤ x.toInt ∧ x.toInt < (P : Int) then zT (zGs (zTell E P v) P x.toInt.toNat P) P else Int32.ofInt (-1)
theorem zXgos_n {E : zEn} {P : Nat} {v : Nat → Nat} {x : Int32} (h : ¬ (0 ≤ x.toInt ∧ x.toInt < (P : Int))) : (some (.int (Int32.ofInt (-1))) : Option Value) = some (.int (zXgos E P v x)) := by
  unfold zXgos
  rw [if_neg h]
theorem zXgos_p {E : zEn} {P p : Nat} {v : Nat → Nat} {z : Int32} (hp : p < P) (hP : P ≤ 8) (h : zT (zGs (zTell E P v) P p P) P = z) : (some (.int z) : Option Value) = some (.int (zXgos E P v (zn p))) := by
  have t := znt (k := p) (by omega)
  unfold zXgos
  rw [if_pos (by omega), show (zn p).toInt.toNat = p by omega, h]
theorem zbx {x : Int32} {i : Nat} (hi : i < 32) : zb x.toInt64 i = zd x i := by
  show x.toInt64.toBitVec.getLsbD i = x.toBitVec.getLsbD i
  rw [Int32.toBitVec_toInt64, BitVec.getLsbD_signExtend, decide_eq_true (show i < 64 by omega), Bool.true_and, if_pos hi]
theorem zdq {x : Int32} {t : Nat} (ht : t < 32) : ((x >>> ((zn t) &&& 31)) &&& (Int32.ofInt 1)).toInt = (Int32.ofInt 1).toInt ↔ zd x t = true := by
  rw [Int32.toInt_inj, show (Int32.ofInt 1) = (1 : Int32) by decide, zand1_32, zd_shr ht (by omega), Nat.add_zero]
theorem zTq {h : Nat → Bool} {P i : Nat} (hP : P ≤ 8) (hi : i < P) : zd (zT h P) i = h i := by
  rw [zT_b (by omega) (by omega), decide_eq_true hi, Bool.true_and]
theorem zTset1 {f g : Nat → Bool} {P j : Nat} (hP : P ≤ 8) (hj : j < P) (h : ∀ k, k < P → g k = (f k || decide (k = j))) : zT f P ||| ((Int32.ofInt 1) <<< ((zn j) &&& 31)) = zT g P := by
  apply zd_ext
  intro k hk
  rw [zd_or, zT_b (by omega) hk, zT_b (by omega) hk, show (Int32.ofInt 1) = (1 : Int32) by decide, zd_bit (by omega) hk]
  by_cases e : k < P
  · rw [decide_eq_true e, h k e, Bool.true_and, Bool.true_and]
  · rw [decide_eq_false e, decide_eq_false (show ¬ k = j by omega)]
    rfl
theorem zT1 {P p : Nat} (hP : P ≤ 8) (hp : p < P) : (Int32.ofInt 1) <<< ((zn p) &&& 31) = zT (fun j => decide (j = p)) P := by
  apply zd_ext
  intro k hk
  rw [zT_b (by omega) hk, show (Int32.ofInt 1) = (1 : Int32) by decide, zd_bit (by omega) hk]
  by_cases e : k = p
  · subst e; rw [decide_eq_true hp, decide_eq_true rfl]; rfl
  · rw [decide_eq_false e, Bool.and_false]
theorem zT1g {T : Nat → Nat → Bool} {P p : Nat} (hP : P ≤ 8) (hp : p < P) : (Int32.ofInt 1) <<< ((zn p) &&& 31) = zT (zGs T P p 0) P := zT1 hP hp
theorem zTor {f g h : Nat → Bool} {P : Nat} (hP : P ≤ 8) (e : ∀ k, k < P → (f k || g k) = h k) : zT f P ||| zT g P = zT h P := by
  apply zd_ext
  intro k hk
  rw [zd_or, zT_b (by omega) hk, zT_b (by omega) hk, zT_b (by omega) hk]
  by_cases q : k < P
  · rw [decide_eq_true q, Bool.true_and, Bool.true_and, Bool.true_and, e k q]
  · rw [decide_eq_false q]; rfl
theorem zT_z {f : Nat → Bool} {P : Nat} (hP : P ≤ 8) (h : (zT f P).toInt = 0) : ∀ k, k < P → f k = false := by
  intro k hk
  have e : zT f P = Int32.ofInt 0 := Int32.toInt_inj.mp (h.trans (by decide))
  have h2 := zTq (h := f) hP hk
  rw [e] at h2
  rw [← h2]
  exact (show ∀ i, i < 32 → zd (Int32.ofInt 0) i = false by decide +kernel) k (by omega)
theorem zT_0 {P : Nat} (hP : P ≤ 8) : Int32.ofInt 0 = zT (fun _ => false) P := by
  apply zd_ext
  intro k hk
  rw [zT_b (by omega) hk, Bool.and_false]
  exact (show ∀ i, i < 32 → zd (Int32.ofInt 0) i = false by decide +kernel) k hk
theorem zc_toldBy {ph : pm_H} {E : zEn} {F S P G : Nat} {v : Nat → Nat} (hS : zSh ph) (hE : zCe ph E F) (ht : zCt ph S P G v) (hO : zOk E.1 E.2.1 P G v) (hvw : ∀ i, i < P → zc ph 23 i = some (.long (zVw E P v i))) {h : Nat → Bool} : zM 91 [.ref 10, .ref S, .int (zT h P)] ph (fun v0 q => ph = q ∧ v0 = some (.int (zT (fun j2 => h j2 || zAny (fun i2 => h i2 && zTell E P v i2 j2) P) P))) := by
  obtain ⟨Q, hQ⟩ : ∃ Q : Option Value → pm_H → Prop, Q = (fun v0 q => ph = q ∧ v0 = some (.int (zT (fun j2 => h j2 || zAny (fun i2 => h i2 && zTell E P v i2 j2) P) P))) := ⟨_, rfl⟩
  rw [← hQ]
  refine zM_mk fun n D => ?_
  show zW n D 91 Q 0 [some (.ref 10), some (.ref S), some (.int (zT h P)), none, none, none] [] ph
  have c_0 : (Int32.ofInt 0).toInt = 0 := by decide
  have c_1 : (Int32.ofInt 1).toInt = 1 := by decide
  obtain ⟨R, C, rk, sn, sk, cn, cd⟩ := E
  have hL0 : zCl ph R C rk := hE.1
  have hi0 : zCi ph sn sk := hE.2.1
  have hF : F = 11 ∨ F = 16 := hE.2.2.2
  have hE0 : zCe ph (R, C, rk, sn, sk, cn, cd) F := hE
  have hO0 : zOk R C P G v := hO
  have hL := hL0
  have hs := ht.1.2
  have hd := ht.2
  have h25 := ht.1.1
  obtain ⟨gR, gC, gN, gK, gA, hR3, hR7, hC3, hC7⟩ := hL
  have hRC := zRC49 hR7 hC7
  have tR := znt (k := R) (by omega)
  have tC := znt (k := C) (by omega)
  have tRC := znt (k := R * C) (by omega)
  have hd0 := hd
  have hs0 := hs
  obtain ⟨r3, r4, r5, r6, r7, l1, l2, l3, l4, l5⟩ := hs
  obtain ⟨gP, hP8, gG, hG8, gH, gv, gw⟩ := hd
  have tP := znt (k := P) (by omega)
  have tG := znt (k := G) (by omega)
  have h40 := hO0.2.2
  have t40 := znt (k := v 40) (by omega)
  refine w_load (pc' := 1) (v := .int (zT h P)) (m := 1) (ykc_91 (e := (2, .iload_n kF2, 0)) rfl) rfl rfl ?_
  refine w_store (pc' := 2) (L' := [some (.ref 10), some (.ref S), some (.int (zT h P)), some (.int (zT h P)), none, none]) (st' := []) (m := 1) (ykc_91 (e := (3, .istore_n kF3, 0)) rfl) rfl rfl ?_
  refine w_alu (pc' := 3) (st' := [.int (Int32.ofInt 0)]) (ykc_91 (e := (0, .iconst 0, 0)) rfl) rfl rfl ?_
  refine w_store (pc' := 5) (L' := [some (.ref 10), some (.ref S), some (.int (zT h P)), some (.int (zT h P)), some (.int (Int32.ofInt 0)), none]) (st' := []) (m := 2) (ykc_91 (e := (3, .istore 4, 0)) rfl) rfl rfl ?_
  have hl : ∀ (n : Nat), ∀ (i : Nat) (x : Int32) (o5 : Option Value), (i ≤ P) → (x = zT (fun j2 => h j2 || zAny (fun i2 => h i2 && zTell (R, C, rk, sn, sk, cn, cd) P v i2 j2) i) P) → zW n D 91 Q 5 [some (.ref 10), some (.ref S), some (.int (zT h P)), some (.int x), some (.int (zn i)), o5] [] ph := by
    intro n
    induction n using Nat.strongRecOn with
    | ind n ih =>
      intro i x o5 hi hx
      have ti := znt (k := i) (by omega)
      refine w_load (pc' := 7) (v := .int (zn i)) (m := 2) (ykc_91 (e := (2, .iload 4, 0)) rfl) rfl rfl ?_
      refine w_load (pc' := 8) (v := .ref S) (m := 1) (ykc_91 (e := (2, .aload_n kF1, 0)) rfl) rfl rfl ?_
      refine w_gf (pc' := 11) (v := .int (zn P)) (ykc_91 (e := (5, .getfield 122, 0)) rfl) rfl gP rfl ?_
      refine w_ige (ykc_91 (e := (4, .if_icmp .ge 56, 67)) rfl) rfl (fun b1384 => ?_) (fun b1384 => ?_)
      · refine w_load (pc' := 68) (v := .int x) (m := 1) (ykc_91 (e := (2, .iload_n kF3, 0)) rfl) rfl rfl ?_
        refine w_ret (v := (some (.int x))) (ykc_91 (e := (7, .ireturn, 0)) rfl) (zr_v rfl) ?_
        have ei : i = P := by omega
        subst ei
        rw [hQ]
        exact ⟨rfl, by rw [hx]⟩
      · refine w_alu (pc' := 15) (st' := [.int (Int32.ofInt 0)]) (ykc_91 (e := (0, .iconst 0, 0)) rfl) rfl rfl ?_
        refine w_store (pc' := 17) (L' := [some (.ref 10), some (.ref S), some (.int (zT h P)), some (.int x), some (.int (zn i)), some (.int (Int32.ofInt 0))]) (st' := []) (m := 2) (ykc_91 (e := (3, .istore 5, 0)) rfl) rfl rfl ?_
        have iho := ih
        have hj : ∀ (n2 : Nat), n2 ≤ n → ∀ (j : Nat) (y : Int32), (j ≤ P) → (y = zT (fun j2 => (h j2 || zAny (fun i2 => h i2 && zTell (R, C, rk, sn, sk, cn, cd) P v i2 j2) i) || (decide (j2 < j) && (h i && zTell (R, C, rk, sn, sk, cn, cd) P v i j2))) P) → zW n2 D 91 Q 17 [some (.ref 10), some (.ref S), some (.int (zT h P)), some (.int y), some (.int (zn i)), some (.int (zn j))] [] ph := by
          intro n2
          induction n2 using Nat.strongRecOn with
          | ind n2 ih =>
            intro hlim j y hj1 hy
            have tj := znt (k := j) (by omega)
            refine w_load (pc' := 19) (v := .int (zn j)) (m := 2) (ykc_91 (e := (2, .iload 5, 0)) rfl) rfl rfl ?_
            refine w_load (pc' := 20) (v := .ref S) (m := 1) (ykc_91 (e := (2, .aload_n kF1, 0)) rfl) rfl rfl ?_
            refine w_gf (pc' := 23) (v := .int (zn P)) (ykc_91 (e := (5, .getfield 122, 0)) rfl) rfl gP rfl ?_
            refine w_ige (ykc_91 (e := (4, .if_icmp .ge 38, 61)) rfl) rfl (fun b1385 => ?_) (fun b1385 => ?_)
            · have e1386 : (zn i) + Int32.ofInt 1 = zn (i + 1) := (zaddN (a := i) (b := 1) (znt (by omega)) c_1 (by omega))
              have te1386 := znt (k := i + 1) (by omega)
              refine w_store (pc' := 64) (L' := [some (.ref 10), some (.ref S), some (.int (zT h P)), some (.int y), some (.int (zn (i + 1))), some (.int (zn j))]) (st' := []) (m := 3) (ykc_91 (e := (3, .iinc 4 1, 0)) rfl) (by rw [← e1386]; rfl) rfl ?_
              refine w_gb (ykc_91 (e := (4, .goto (-59), 5)) rfl) (fun k1387 hk1387 => ?_)
              exact iho k1387 (by omega) (i + 1) _ _ (by omega) (by
                rw [hy, show j = P by omega]
                refine zT_ext (fun k hk => ?_)
                show ((h k || zAny (fun i2 => h i2 && zTell (R, C, rk, sn, sk, cn, cd) P v i2 k) i) || (decide (k < P) && (h i && zTell (R, C, rk, sn, sk, cn, cd) P v i k))) = (h k || (zAny (fun i2 => h i2 && zTell (R, C, rk, sn, sk, cn, cd) P v i2 k) i || (h i && zTell (R, C, rk, sn, sk, cn, cd) P v i k)))
                rw [decide_eq_true hk, Bool.true_and, Bool.or_assoc])
            · refine w_load (pc' := 27) (v := .int (zT h P)) (m := 1) (ykc_91 (e := (2, .iload_n kF2, 0)) rfl) rfl rfl ?_
              refine w_load (pc' := 29) (v := .int (zn i)) (m := 2) (ykc_91 (e := (2, .iload 4, 0)) rfl) rfl rfl ?_
              refine w_alu (pc' := 30) (st' := [.int ((zT h P) >>> ((zn i) &&& 31))]) (ykc_91 (e := (0, .ishr, 0)) rfl) rfl rfl ?_
              refine w_alu (pc' := 31) (st' := [.int (Int32.ofInt 1), .int ((zT h P) >>> ((zn i) &&& 31))]) (ykc_91 (e := (0, .iconst 1, 0)) rfl) rfl rfl ?_
              refine w_alu (pc' := 32) (st' := [.int (((zT h P) >>> ((zn i) &&& 31)) &&& (Int32.ofInt 1))]) (ykc_91 (e := (0, .iand, 0)) rfl) rfl rfl ?_
              refine w_alu (pc' := 33) (st' := [.int (Int32.ofInt 1), .int (((zT h P) >>> ((zn i) &&& 31)) &&& (Int32.ofInt 1))]) (ykc_91 (e := (0, .iconst 1, 0)) rfl) rfl rfl ?_
              refine w_ine (ykc_91 (e := (4, .if_icmp .ne 22, 55)) rfl) rfl (fun b1388 => ?_) (fun b1388 => ?_)
              · have e1389 : (zn j) + Int32.ofInt 1 = zn (j + 1) := (zaddN (a := j) (b := 1) (znt (by omega)) c_1 (by omega))
                have te1389 := znt (k := j + 1) (by omega)
                refine w_store (pc' := 58) (L' := [some (.ref 10), some (.ref S), some (.int (zT h P)), some (.int y), some (.int (zn i)), some (.int (zn (j + 1)))]) (st' := []) (m := 3) (ykc_91 (e := (3, .iinc 5 1, 0)) rfl) (by rw [← e1389]; rfl) rfl ?_
                refine w_gb (ykc_91 (e := (4, .goto (-41), 17)) rfl) (fun k1390 hk1390 => ?_)
                have hh : h i = false := by
                  cases hz : h i with
                  | false => rfl
                  | true => exact absurd ((zdq (x := zT h P) (t := i) (by omega)).mpr ((zTq (h := h) (P := P) (by omega) (by omega)).trans hz)) b1388
                exact ih k1390 hk1390 (by omega) (j + 1) _ (by omega) (by
                  rw [hy]
                  refine zT_ext (fun k hk => ?_)
                  show (_ || (decide (k < j) && (h i && zTell (R, C, rk, sn, sk, cn, cd) P v i k))) = (_ || (decide (k < j + 1) && (h i && zTell (R, C, rk, sn, sk, cn, cd) P v i k)))
                  by_cases e1 : k < j
                  · rw [decide_eq_true e1, decide_eq_true (show k < j + 1 by omega)]
                  · by_cases e2 : k = j
                    · subst e2; simp [hh]
                    · rw [decide_eq_false e1, decide_eq_false (show ¬ k < j + 1 by omega)])
              · refine w_load (pc' := 37) (v := .ref 10) (m := 1) (ykc_91 (e := (2, .aload_n kF0, 0)) rfl) rfl rfl ?_
                refine w_load (pc' := 38) (v := .ref S) (m := 1) (ykc_91 (e := (2, .aload_n kF1, 0)) rfl) rfl rfl ?_
                refine w_load (pc' := 40) (v := .int (zn i)) (m := 2) (ykc_91 (e := (2, .iload 4, 0)) rfl) rfl rfl ?_
                refine w_load (pc' := 42) (v := .int (zn j)) (m := 2) (ykc_91 (e := (2, .iload 5, 0)) rfl) rfl rfl ?_
                refine w_cv (as := [.ref 10, .ref S, .int (zn i), .int (zn j)]) (r := []) (ykc_91 (e := (6, .invokevirtual 136, 0)) rfl) rfl rfl rfl rfl (zc_tell hS hE0 ht hO0 hvw (a := i) (b := j) (by omega) (by omega)) (fun v1391 ph1392 hv => ?_)
                obtain ⟨rfl, rfl⟩ := hv
                show zW n2 D 91 Q 45 [some (.ref 10), some (.ref S), some (.int (zT h P)), some (.int y), some (.int (zn i)), some (.int (zn j))] [.int (zI (zTell (R, C, rk, sn, sk, cn, cd) P v i j))] ph
                refine w_beq (ykc_91 (e := (4, .ifCond .eq 10, 55)) rfl) rfl (fun b1393 => ?_) (fun b1393 => ?_)
                · have e1394 : (zn j) + Int32.ofInt 1 = zn (j + 1) := (zaddN (a := j) (b := 1) (znt (by omega)) c_1 (by omega))
                  have te1394 := znt (k := j + 1) (by omega)
                  refine w_store (pc' := 58) (L' := [some (.ref 10), some (.ref S), some (.int (zT h P)), some (.int y), some (.int (zn i)), some (.int (zn (j + 1)))]) (st' := []) (m := 3) (ykc_91 (e := (3, .iinc 5 1, 0)) rfl) (by rw [← e1394]; rfl) rfl ?_
                  refine w_gb (ykc_91 (e := (4, .goto (-41), 17)) rfl) (fun k1395 hk1395 => ?_)
                  have hh : h i = true := by
                    exact (zTq (h := h) (P := P) (by omega) (by omega)).symm.trans ((zdq (by omega)).mp b1388)
                  have hT2 : zTell (R, C, rk, sn, sk, cn, cd) P v i j = false := b1393
                  exact ih k1395 hk1395 (by omega) (j + 1) _ (by omega) (by
                    rw [hy]
                    refine zT_ext (fun k hk => ?_)
                    show (_ || (decide (k < j) && (h i && zTell (R, C, rk, sn, sk, cn, cd) P v i k))) = (_ || (decide (k < j + 1) && (h i && zTell (R, C, rk, sn, sk, cn, cd) P v i k)))
                    by_cases e1 : k < j
                    · rw [decide_eq_true e1, decide_eq_true (show k < j + 1 by omega)]
                    · by_cases e2 : k = j
                      · subst e2; simp [hT2]
                      · rw [decide_eq_false e1, decide_eq_false (show ¬ k < j + 1 by omega)])
                · refine w_load (pc' := 49) (v := .int y) (m := 1) (ykc_91 (e := (2, .iload_n kF3, 0)) rfl) rfl rfl ?_
                  refine w_alu (pc' := 50) (st' := [.int (Int32.ofInt 1), .int y]) (ykc_91 (e := (0, .iconst 1, 0)) rfl) rfl rfl ?_
                  refine w_load (pc' := 52) (v := .int (zn j)) (m := 2) (ykc_91 (e := (2, .iload 5, 0)) rfl) rfl rfl ?_
                  refine w_alu (pc' := 53) (st' := [.int ((Int32.ofInt 1) <<< ((zn j) &&& 31)), .int y]) (ykc_91 (e := (0, .ishl, 0)) rfl) rfl rfl ?_
                  refine w_alu (pc' := 54) (st' := [.int (y ||| ((Int32.ofInt 1) <<< ((zn j) &&& 31)))]) (ykc_91 (e := (0, .ior, 0)) rfl) rfl rfl ?_
                  refine w_store (pc' := 55) (L' := [some (.ref 10), some (.ref S), some (.int (zT h P)), some (.int (y ||| ((Int32.ofInt 1) <<< ((zn j) &&& 31)))), some (.int (zn i)), some (.int (zn j))]) (st' := []) (m := 1) (ykc_91 (e := (3, .istore_n kF3, 0)) rfl) rfl rfl ?_
                  have e1396 : (zn j) + Int32.ofInt 1 = zn (j + 1) := (zaddN (a := j) (b := 1) (znt (by omega)) c_1 (by omega))
                  have te1396 := znt (k := j + 1) (by omega)
                  refine w_store (pc' := 58) (L' := [some (.ref 10), some (.ref S), some (.int (zT h P)), some (.int (y ||| ((Int32.ofInt 1) <<< ((zn j) &&& 31)))), some (.int (zn i)), some (.int (zn (j + 1)))]) (st' := []) (m := 3) (ykc_91 (e := (3, .iinc 5 1, 0)) rfl) (by rw [← e1396]; rfl) rfl ?_
                  refine w_gb (ykc_91 (e := (4, .goto (-41), 17)) rfl) (fun k1397 hk1397 => ?_)
                  have hh : h i = true := by
                    exact (zTq (h := h) (P := P) (by omega) (by omega)).symm.trans ((zdq (by omega)).mp b1388)
                  exact ih k1397 hk1397 (by omega) (j + 1) _ (by omega) (by
                    rw [hy]
                    refine zTset1 (by omega) (by omega) (fun k hk => ?_)
                    show (_ || (decide (k < j + 1) && (h i && zTell (R, C, rk, sn, sk, cn, cd) P v i k))) = ((_ || (decide (k < j) && (h i && zTell (R, C, rk, sn, sk, cn, cd) P v i k))) || decide (k = j))
                    rw [hh]
                    by_cases e1 : k < j
                    · rw [decide_eq_true e1, decide_eq_true (show k < j + 1 by omega), decide_eq_false (show ¬ k = j by omega), Bool.or_false]
                    · by_cases e2 : k = j
                      · subst e2; simp [b1393]
                      · rw [decide_eq_false e1, decide_eq_false (show ¬ k < j + 1 by omega), decide_eq_false e2, Bool.or_false])
        exact hj n (Nat.le_refl _) 0 x (Nat.zero_le _) (by
          rw [hx]
          refine zT_ext (fun k hk => ?_)
          show (h k || zAny (fun i2 => h i2 && zTell (R, C, rk, sn, sk, cn, cd) P v i2 k) i) = ((h k || zAny (fun i2 => h i2 && zTell (R, C, rk, sn, sk, cn, cd) P v i2 k) i) || (decide (k < 0) && (h i && zTell (R, C, rk, sn, sk, cn, cd) P v i k)))
          rw [decide_eq_false (Nat.not_lt_zero k), Bool.false_and, Bool.or_false])
  exact hl n 0 _ _ (Nat.zero_le _) (zT_ext (fun k hk => (Bool.or_false _).symm))
theorem zc_gosX {ph : pm_H} {E : zEn} {F P G : Nat} {v : Nat → Nat} (hS : zSh ph) (hE : zCe ph E F) (ht : zCt ph 25 P G v) (hO : zOk E.1 E.2.1 P G v) (hr : zc ph 10 1 = some (.ref F)) (hc : zCc ph E.1 E.2.1 E.2.2.1) {x : Int32} : zM 157 [.ref 0, .int x] ph (fun v0 _ => v0 = some (.int (zXgos E P v x))) := by
  obtain ⟨Q, hQ⟩ : ∃ Q : Option Value → pm_H → Prop, Q = (fun v0 _ => v0 = some (.int (zXgos E P v x))) := ⟨_, rfl⟩
  rw [← hQ]
  refine zM_mk fun n D => ?_
  show zW n D 157 Q 0 [some (.ref 0), some (.int x), none, none, none, none] [] ph
  have c_0 : (Int32.ofInt (-1)).toInt = -1 := by decide
  have c_1 : (Int32.ofInt 0).toInt = 0 := by decide
  have c_2 : (Int32.ofInt 1).toInt = 1 := by decide
  obtain ⟨R, C, rk, sn, sk, cn, cd⟩ := E
  have hL0 : zCl ph R C rk := hE.1
  have hi0 : zCi ph sn sk := hE.2.1
  have hF : F = 11 ∨ F = 16 := hE.2.2.2
  have hE0 : zCe ph (R, C, rk, sn, sk, cn, cd) F := hE
  have hO0 : zOk R C P G v := hO
  have hL := hL0
  have hs := ht.1.2
  have hd := ht.2
  have h25 := ht.1.1
  obtain ⟨gR, gC, gN, gK, gA, hR3, hR7, hC3, hC7⟩ := hL
  have hRC := zRC49 hR7 hC7
  have tR := znt (k := R) (by omega)
  have tC := znt (k := C) (by omega)
  have tRC := znt (k := R * C) (by omega)
  have hd0 := hd
  have hs0 := hs
  obtain ⟨r3, r4, r5, r6, r7, l1, l2, l3, l4, l5⟩ := hs
  obtain ⟨gP, hP8, gG, hG8, gH, gv, gw⟩ := hd
  have tP := znt (k := P) (by omega)
  have tG := znt (k := G) (by omega)
  have h40 := hO0.2.2
  have t40 := znt (k := v 40) (by omega)
  have hc0 := hc
  refine w_load (pc' := 1) (v := .ref 0) (m := 1) (ykc_157 (e := (2, .aload_n kF0, 0)) rfl) rfl rfl ?_
  refine w_gf (pc' := 4) (v := .ref 25) (ykc_157 (e := (5, .getfield 42, 0)) rfl) rfl (zsg hS zs_0_4) rfl ?_
  refine w_load (pc' := 5) (v := .int x) (m := 1) (ykc_157 (e := (2, .iload_n kF1, 0)) rfl) rfl rfl ?_
  refine w_cv (as := [.ref 25, .int x]) (r := []) (ykc_157 (e := (6, .invokevirtual 167, 0)) rfl) rfl rfl rfl rfl (zc_hasP ht.1.2 ht.2 (i := x)) (fun v1398 ph1399 hv => ?_)
  obtain ⟨rfl, rfl⟩ := hv
  show zW n D 157 Q 8 [some (.ref 0), some (.int x), none, none, none, none] [.int (zI (decide (0 ≤ x.toInt ∧ x.toInt < ((P : Nat) : Int))))] ph
  refine w_bne (ykc_157 (e := (4, .ifCond .ne 5, 13)) rfl) rfl (fun b1400 => ?_) (fun b1400 => ?_)
  · have b_p := of_decide_eq_true b1400
    obtain ⟨p, h_p, rfl⟩ : ∃ p : Nat, p < P ∧ x = zn p := ⟨x.toInt.toNat, by omega, zn_of (by omega)⟩
    have t_p := znt (k := p) (by omega)
    show zW n D 157 Q 13 [some (.ref 0), some (.int (zn p)), none, none, none, none] [] ph
    refine w_load (pc' := 14) (v := .ref 0) (m := 1) (ykc_157 (e := (2, .aload_n kF0, 0)) rfl) rfl rfl ?_
    refine w_gf (pc' := 17) (v := .ref 10) (ykc_157 (e := (5, .getfield 35, 0)) rfl) rfl (zsg hS zs_0_3) rfl ?_
    refine w_load (pc' := 18) (v := .ref 0) (m := 1) (ykc_157 (e := (2, .aload_n kF0, 0)) rfl) rfl rfl ?_
    refine w_gf (pc' := 21) (v := .ref 25) (ykc_157 (e := (5, .getfield 42, 0)) rfl) rfl (zsg hS zs_0_4) rfl ?_
    refine w_cv (as := [.ref 10, .ref 25]) (r := []) (ykc_157 (e := (6, .invokevirtual 208, 0)) rfl) rfl rfl rfl rfl (zc_lookR hS hE0 ht hO0 hr hc0) (fun v1403 ph1404 hv => ?_)
    obtain ⟨f1401, hc1402, hvw, rfl⟩ := hv
    show zW n D 157 Q 24 [some (.ref 0), some (.int (zn p)), none, none, none, none] [.long (zAll (R, C, rk, sn, sk, cn, cd) P v)] ph1404
    refine w_alu (pc' := 25) (st' := []) (ykc_157 (e := (0, .pop2, 0)) rfl) rfl rfl ?_
    refine w_alu (pc' := 26) (st' := [.int (Int32.ofInt 1)]) (ykc_157 (e := (0, .iconst 1, 0)) rfl) rfl rfl ?_
    refine w_load (pc' := 27) (v := .int (zn p)) (m := 1) (ykc_157 (e := (2, .iload_n kF1, 0)) rfl) rfl rfl ?_
    refine w_alu (pc' := 28) (st' := [.int (zT (zGs (zTell (R, C, rk, sn, sk, cn, cd) P v) P p 0) P)]) (ykc_157 (e := (0, .ishl, 0)) rfl) (by show some ([.int ((Int32.ofInt 1) <<< ((zn p) &&& 31))] : List Value) = _; rw [(zT1g (T := (zTell (R, C, rk, sn, sk, cn, cd) P v)) (by omega) h_p : (Int32.ofInt 1) <<< ((zn p) &&& 31) = zT (zGs (zTell (R, C, rk, sn, sk, cn, cd) P v) P p 0) P)]) rfl ?_
    refine w_store (pc' := 29) (L' := [some (.ref 0), some (.int (zn p)), some (.int (zT (zGs (zTell (R, C, rk, sn, sk, cn, cd) P v) P p 0) P)), none, none, none]) (st' := []) (m := 1) (ykc_157 (e := (3, .istore_n kF2, 0)) rfl) rfl rfl ?_
    refine w_alu (pc' := 30) (st' := [.int (Int32.ofInt 0)]) (ykc_157 (e := (0, .iconst 0, 0)) rfl) rfl rfl ?_
    refine w_store (pc' := 31) (L' := [some (.ref 0), some (.int (zn p)), some (.int (zT (zGs (zTell (R, C, rk, sn, sk, cn, cd) P v) P p 0) P)), some (.int (Int32.ofInt 0)), none, none]) (st' := []) (m := 1) (ykc_157 (e := (3, .istore_n kF3, 0)) rfl) rfl rfl ?_
    refine w_alu (pc' := 32) (st' := [.int (Int32.ofInt 0)]) (ykc_157 (e := (0, .iconst 0, 0)) rfl) rfl rfl ?_
    refine w_store (pc' := 34) (L' := [some (.ref 0), some (.int (zn p)), some (.int (zT (zGs (zTell (R, C, rk, sn, sk, cn, cd) P v) P p 0) P)), some (.int (Int32.ofInt 0)), some (.int (Int32.ofInt 0)), none]) (st' := []) (m := 2) (ykc_157 (e := (3, .istore 4, 0)) rfl) rfl rfl ?_
    have hl : ∀ (n : Nat), ∀ (k : Nat) (a : Int32) (o5 : Option Value), (k ≤ P) → zW n D 157 Q 34 [some (.ref 0), some (.int (zn p)), some (.int (zT (zGs (zTell (R, C, rk, sn, sk, cn, cd) P v) P p k) P)), some (.int a), some (.int (zn k)), o5] [] ph1404 := by
      intro n
      induction n using Nat.strongRecOn with
      | ind n ih =>
        intro k a o5 hk
        have tk := znt (k := k) (by omega)
        refine w_load (pc' := 36) (v := .int (zn k)) (m := 2) (ykc_157 (e := (2, .iload 4, 0)) rfl) rfl rfl ?_
        refine w_load (pc' := 37) (v := .ref 0) (m := 1) (ykc_157 (e := (2, .aload_n kF0, 0)) rfl) rfl rfl ?_
        refine w_gf (pc' := 40) (v := .ref 25) (ykc_157 (e := (5, .getfield 42, 0)) rfl) rfl ((f1401.1 0 4 (by decide) (by decide)).trans (zsg hS zs_0_4)) rfl ?_
        refine w_gf (pc' := 43) (v := .int (zn P)) (ykc_157 (e := (5, .getfield 130, 0)) rfl) rfl ((f1401.1 25 0 (by decide) (by decide)).trans gP) rfl ?_
        refine w_ige (ykc_157 (e := (4, .if_icmp .ge 35, 78)) rfl) rfl (fun b1405 => ?_) (fun b1405 => ?_)
        · rw [hQ]
          exact zTail kc_157 false 2 78 9999 (fun _ => rfl) (Or.inl ⟨_, rfl⟩) (by decide +kernel) (by decide) (by decide) rfl (by decide +kernel) (fun _ => zXgos_p (E := (R, C, rk, sn, sk, cn, cd)) h_p (by omega) (by rw [show P = k by omega]))
        · refine w_load (pc' := 47) (v := .ref 0) (m := 1) (ykc_157 (e := (2, .aload_n kF0, 0)) rfl) rfl rfl ?_
          refine w_gf (pc' := 50) (v := .ref 10) (ykc_157 (e := (5, .getfield 35, 0)) rfl) rfl ((f1401.1 0 3 (by decide) (by decide)).trans (zsg hS zs_0_3)) rfl ?_
          refine w_load (pc' := 51) (v := .ref 0) (m := 1) (ykc_157 (e := (2, .aload_n kF0, 0)) rfl) rfl rfl ?_
          refine w_gf (pc' := 54) (v := .ref 25) (ykc_157 (e := (5, .getfield 42, 0)) rfl) rfl ((f1401.1 0 4 (by decide) (by decide)).trans (zsg hS zs_0_4)) rfl ?_
          refine w_load (pc' := 55) (v := .int (zT (zGs (zTell (R, C, rk, sn, sk, cn, cd) P v) P p k) P)) (m := 1) (ykc_157 (e := (2, .iload_n kF2, 0)) rfl) rfl rfl ?_
          refine w_cv (as := [.ref 10, .ref 25, .int (zT (zGs (zTell (R, C, rk, sn, sk, cn, cd) P v) P p k) P)]) (r := []) (ykc_157 (e := (6, .invokevirtual 338, 0)) rfl) rfl rfl rfl rfl (zc_toldBy (zCx_S f1401 hS) (zCx_e f1401 hE0) (zCx_t f1401 ht) hO0 hvw (h := (zGs (zTell (R, C, rk, sn, sk, cn, cd) P v) P p k))) (fun v1406 ph1407 hv => ?_)
          obtain ⟨rfl, rfl⟩ := hv
          show zW n D 157 Q 58 [some (.ref 0), some (.int (zn p)), some (.int (zT (zGs (zTell (R, C, rk, sn, sk, cn, cd) P v) P p k) P)), some (.int a), some (.int (zn k)), o5] [.int (zT (zGs (zTell (R, C, rk, sn, sk, cn, cd) P v) P p (k + 1)) P)] ph1404
          refine w_store (pc' := 60) (L' := [some (.ref 0), some (.int (zn p)), some (.int (zT (zGs (zTell (R, C, rk, sn, sk, cn, cd) P v) P p k) P)), some (.int a), some (.int (zn k)), some (.int (zT (zGs (zTell (R, C, rk, sn, sk, cn, cd) P v) P p (k + 1)) P))]) (st' := []) (m := 2) (ykc_157 (e := (3, .istore 5, 0)) rfl) rfl rfl ?_
          refine w_load (pc' := 62) (v := .int (zT (zGs (zTell (R, C, rk, sn, sk, cn, cd) P v) P p (k + 1)) P)) (m := 2) (ykc_157 (e := (2, .iload 5, 0)) rfl) rfl rfl ?_
          refine w_load (pc' := 63) (v := .int (zT (zGs (zTell (R, C, rk, sn, sk, cn, cd) P v) P p k) P)) (m := 1) (ykc_157 (e := (2, .iload_n kF2, 0)) rfl) rfl rfl ?_
          refine w_ieq (ykc_157 (e := (4, .if_icmp .eq 6, 69)) rfl) rfl (fun b1408 => ?_) (fun b1408 => ?_)
          · refine w_load (pc' := 71) (v := .int (zT (zGs (zTell (R, C, rk, sn, sk, cn, cd) P v) P p (k + 1)) P)) (m := 2) (ykc_157 (e := (2, .iload 5, 0)) rfl) rfl rfl ?_
            refine w_store (pc' := 72) (L' := [some (.ref 0), some (.int (zn p)), some (.int (zT (zGs (zTell (R, C, rk, sn, sk, cn, cd) P v) P p (k + 1)) P)), some (.int a), some (.int (zn k)), some (.int (zT (zGs (zTell (R, C, rk, sn, sk, cn, cd) P v) P p (k + 1)) P))]) (st' := []) (m := 1) (ykc_157 (e := (3, .istore_n kF2, 0)) rfl) rfl rfl ?_
            have e1409 : (zn k) + Int32.ofInt 1 = zn (k + 1) := (zaddN (a := k) (b := 1) (znt (by omega)) c_2 (by omega))
            have te1409 := znt (k := k + 1) (by omega)
            refine w_store (pc' := 75) (L' := [some (.ref 0), some (.int (zn p)), some (.int (zT (zGs (zTell (R, C, rk, sn, sk, cn, cd) P v) P p (k + 1)) P)), some (.int a), some (.int (zn (k + 1))), some (.int (zT (zGs (zTell (R, C, rk, sn, sk, cn, cd) P v) P p (k + 1)) P))]) (st' := []) (m := 3) (ykc_157 (e := (3, .iinc 4 1, 0)) rfl) (by rw [← e1409]; rfl) rfl ?_
            refine w_gb (ykc_157 (e := (4, .goto (-41), 34)) rfl) (fun k1410 hk1410 => ?_)
            exact ih k1410 hk1410 (k + 1) a (some (.int (zT (zGs (zTell (R, C, rk, sn, sk, cn, cd) P v) P p (k + 1)) P))) (by omega)
          · refine w_store (pc' := 69) (L' := [some (.ref 0), some (.int (zn p)), some (.int (zT (zGs (zTell (R, C, rk, sn, sk, cn, cd) P v) P p k) P)), some (.int (a + Int32.ofInt 1)), some (.int (zn k)), some (.int (zT (zGs (zTell (R, C, rk, sn, sk, cn, cd) P v) P p (k + 1)) P))]) (st' := []) (m := 3) (ykc_157 (e := (3, .iinc 3 1, 0)) rfl) rfl rfl ?_
            refine w_load (pc' := 71) (v := .int (zT (zGs (zTell (R, C, rk, sn, sk, cn, cd) P v) P p (k + 1)) P)) (m := 2) (ykc_157 (e := (2, .iload 5, 0)) rfl) rfl rfl ?_
            refine w_store (pc' := 72) (L' := [some (.ref 0), some (.int (zn p)), some (.int (zT (zGs (zTell (R, C, rk, sn, sk, cn, cd) P v) P p (k + 1)) P)), some (.int (a + Int32.ofInt 1)), some (.int (zn k)), some (.int (zT (zGs (zTell (R, C, rk, sn, sk, cn, cd) P v) P p (k + 1)) P))]) (st' := []) (m := 1) (ykc_157 (e := (3, .istore_n kF2, 0)) rfl) rfl rfl ?_
            have e1411 : (zn k) + Int32.ofInt 1 = zn (k + 1) := (zaddN (a := k) (b := 1) (znt (by omega)) c_2 (by omega))
            have te1411 := znt (k := k + 1) (by omega)
            refine w_store (pc' := 75) (L' := [some (.ref 0), some (.int (zn p)), some (.int (zT (zGs (zTell (R, C, rk, sn, sk, cn, cd) P v) P p (k + 1)) P)), some (.int (a + Int32.ofInt 1)), some (.int (zn (k + 1))), some (.int (zT (zGs (zTell (R, C, rk, sn, sk, cn, cd) P v) P p (k + 1)) P))]) (st' := []) (m := 3) (ykc_157 (e := (3, .iinc 4 1, 0)) rfl) (by rw [← e1411]; rfl) rfl ?_
            refine w_gb (ykc_157 (e := (4, .goto (-41), 34)) rfl) (fun k1412 hk1412 => ?_)
            exact ih k1412 hk1412 (k + 1) (a + Int32.ofInt 1) (some (.int (zT (zGs (zTell (R, C, rk, sn, sk, cn, cd) P v) P p (k + 1)) P))) (by omega)
    exact hl n 0 _ _ (Nat.zero_le _)
  · refine w_alu (pc' := 12) (st' := [.int (Int32.ofInt (-1))]) (ykc_157 (e := (0, .iconst (-1), 0)) rfl) rfl rfl ?_
    refine w_ret (v := (some (.int (Int32.ofInt (-1))))) (ykc_157 (e := (7, .ireturn, 0)) rfl) (zr_v rfl) ?_
    have b_n := of_decide_eq_false b1400
    rw [hQ]
    exact zXgos_n b_n
theorem zm_gosX {ph : pm_H} {E : zEn} {P G : Nat} {v : Nat → Nat} (hS : zSh ph) (hE : zMe ph E) (hN : zMp ph P G) (hv : zNr ph 174 0 v) (hO : zOk E.1 E.2.1 P G v) {x : Int32} : zM 270 [.ref 170, .int x] ph (fun v0 _ => v0 = some (.int (zXgos E P v x))) := by
  obtain ⟨Q, hQ⟩ : ∃ Q : Option Value → pm_H → Prop, Q = (fun v0 _ => v0 = some (.int (zXgos E P v x))) := ⟨_, rfl⟩
  rw [← hQ]
  refine zM_mk fun n D => ?_
  show zW n D 270 Q 0 [some (.ref 170), some (.int x), none, none, none, none, none] [] ph
  have c_0 : (Int32.ofInt (-1)).toInt = -1 := by decide
  have c_1 : (Int32.ofInt 0).toInt = 0 := by decide
  have c_2 : (Int32.ofInt 1).toInt = 1 := by decide
  have hA : (174 : Nat) = 174 ∨ (174 : Nat) = 175 := Or.inl rfl
  obtain ⟨R, C, rk, sn, sk, cn, cd⟩ := E
  have hL0 : zMl ph R C rk := hE.1
  have hR0 : zMr ph sn sk cn cd := hE.2.1
  have hcg : zcg cn cd := hE.2.2
  have hE0 : zMe ph (R, C, rk, sn, sk, cn, cd) := hE
  have hO0 : zOk R C P G v := hO
  have hN0 := hN
  have hL := hL0
  have hR := hR0
  obtain ⟨gR, gC, gK, hR3, hR7, hC3, hC7⟩ := hL
  have hRC := zRC49 hR7 hC7
  have tR := znt (k := R) (by omega)
  have tC := znt (k := C) (by omega)
  obtain ⟨gP, hP8, gG, hG8⟩ := hN
  have tP := znt (k := P) (by omega)
  have tG := znt (k := G) (by omega)
  obtain ⟨gsn, hs1, hs20, gsk, gcn, hc40, gcd⟩ := hR
  have tsn := znt (k := sn) (by omega)
  have tcn := znt (k := cn) (by omega)
  refine w_load (pc' := 1) (v := .ref 170) (m := 1) (ykc_270 (e := (2, .aload_n kF0, 0)) rfl) rfl rfl ?_
  refine w_alu (pc' := 2) (st' := [.int (Int32.ofInt 0), .ref 170]) (ykc_270 (e := (0, .iconst 0, 0)) rfl) rfl rfl ?_
  refine w_pf (pc' := 5) (ykc_270 (e := (5, .putfield 3, 0)) rfl) rfl rfl (fun ph1414 u1413 => ?_)
  have f0 : zFr [] [(170, 0)] ph ph1414 := zFr_st u1413 (Or.inr (by simp))
  have hS1 := zSh_st u1413 (by decide +kernel) hS
  have hE1 : zMe ph1414 (R, C, rk, sn, sk, cn, cd) := ⟨zMl_F f0 (by simp) (by simp) (by simp) (by simp) hE0.1, zMr_F f0 (by simp) (by simp) (by simp) (by simp) hE0.2.1, hE0.2.2⟩
  have hN1 := zMp_F f0 (by simp) (by simp) (by simp) hN0
  have hv1 := zNr_F f0 (by simp) (by simp) hv
  have hL1 : zMl ph1414 R C rk := hE1.1
  have hR1 : zMr ph1414 sn sk cn cd := hE1.2.1
  have hP8 : P ≤ 8 := hN0.2.1
  refine w_load (pc' := 6) (v := .ref 170) (m := 1) (ykc_270 (e := (2, .aload_n kF0, 0)) rfl) rfl rfl ?_
  refine w_load (pc' := 7) (v := .int x) (m := 1) (ykc_270 (e := (2, .iload_n kF1, 0)) rfl) rfl rfl ?_
  refine w_cv (as := [.ref 170, .int x]) (r := []) (ykc_270 (e := (6, .invokevirtual 315, 0)) rfl) rfl rfl rfl rfl (zm_isPerson hN1 (p := x)) (fun v1415 ph1416 hv => ?_)
  obtain ⟨rfl, rfl⟩ := hv
  show zW n D 270 Q 10 [some (.ref 170), some (.int x), none, none, none, none, none] [.int (zI (decide (0 ≤ x.toInt ∧ x.toInt < ((P : Nat) : Int))))] ph1414
  refine w_bne (ykc_270 (e := (4, .ifCond .ne 5, 15)) rfl) rfl (fun b1417 => ?_) (fun b1417 => ?_)
  · have b_p := of_decide_eq_true b1417
    obtain ⟨p, h_p, rfl⟩ : ∃ p : Nat, p < P ∧ x = zn p := ⟨x.toInt.toNat, by omega, zn_of (by omega)⟩
    have t_p := znt (k := p) (by omega)
    show zW n D 270 Q 15 [some (.ref 170), some (.int (zn p)), none, none, none, none, none] [] ph1414
    refine w_alu (pc' := 16) (st' := [.int (Int32.ofInt 1)]) (ykc_270 (e := (0, .iconst 1, 0)) rfl) rfl rfl ?_
    refine w_load (pc' := 17) (v := .int (zn p)) (m := 1) (ykc_270 (e := (2, .iload_n kF1, 0)) rfl) rfl rfl ?_
    refine w_alu (pc' := 18) (st' := [.int (zT (zGs (zTell (R, C, rk, sn, sk, cn, cd) P v) P p 0) P)]) (ykc_270 (e := (0, .ishl, 0)) rfl) (by show some ([.int ((Int32.ofInt 1) <<< ((zn p) &&& 31))] : List Value) = _; rw [(zT1g (T := (zTell (R, C, rk, sn, sk, cn, cd) P v)) hP8 h_p : (Int32.ofInt 1) <<< ((zn p) &&& 31) = zT (zGs (zTell (R, C, rk, sn, sk, cn, cd) P v) P p 0) P)]) rfl ?_
    refine w_store (pc' := 19) (L' := [some (.ref 170), some (.int (zn p)), some (.int (zT (zGs (zTell (R, C, rk, sn, sk, cn, cd) P v) P p 0) P)), none, none, none, none]) (st' := []) (m := 1) (ykc_270 (e := (3, .istore_n kF2, 0)) rfl) rfl rfl ?_
    refine w_alu (pc' := 20) (st' := [.int (Int32.ofInt (-1))]) (ykc_270 (e := (0, .iconst (-1), 0)) rfl) rfl rfl ?_
    refine w_store (pc' := 21) (L' := [some (.ref 170), some (.int (zn p)), some (.int (zT (zGs (zTell (R, C, rk, sn, sk, cn, cd) P v) P p 0) P)), some (.int (Int32.ofInt (-1))), none, none, none]) (st' := []) (m := 1) (ykc_270 (e := (3, .istore_n kF3, 0)) rfl) rfl rfl ?_
    refine w_load (pc' := 22) (v := .int (zT (zGs (zTell (R, C, rk, sn, sk, cn, cd) P v) P p 0) P)) (m := 1) (ykc_270 (e := (2, .iload_n kF2, 0)) rfl) rfl rfl ?_
    refine w_store (pc' := 24) (L' := [some (.ref 170), some (.int (zn p)), some (.int (zT (zGs (zTell (R, C, rk, sn, sk, cn, cd) P v) P p 0) P)), some (.int (Int32.ofInt (-1))), some (.int (zT (zGs (zTell (R, C, rk, sn, sk, cn, cd) P v) P p 0) P)), none, none]) (st' := []) (m := 2) (ykc_270 (e := (3, .istore 4, 0)) rfl) rfl rfl ?_
    have hl : ∀ (n : Nat), ∀ (k : Nat) (g F : Nat → Bool) (a : Int32) (o5 o6 : Option Value) (ph1 : pm_H), (zSc ph1414 ph1) → (∀ j, j < P → (g j || F j) = (zGs (zTell (R, C, rk, sn, sk, cn, cd) P v) P p k) j) → ((∀ j, j < P → F j = false) → ∀ j, j < P → g j = (zGs (zTell (R, C, rk, sn, sk, cn, cd) P v) P p P) j) → zW n D 270 Q 24 [some (.ref 170), some (.int (zn p)), some (.int (zT g P)), some (.int a), some (.int (zT F P)), o5, o6] [] ph1 := by
      intro n
      induction n using Nat.strongRecOn with
      | ind n ih =>
        intro k g F a o5 o6 ph1 hf1 hgF hend
        refine w_load (pc' := 26) (v := .int (zT F P)) (m := 2) (ykc_270 (e := (2, .iload 4, 0)) rfl) rfl rfl ?_
        refine w_zeq (ykc_270 (e := (4, .ifCond .eq 101, 127)) rfl) rfl (fun b1418 => ?_) (fun b1418 => ?_)
        · have hz := zT_z hP8 b1418
          rw [hQ]
          exact zTail kc_270 false 2 127 9999 (fun _ => rfl) (Or.inl ⟨_, rfl⟩) (by decide +kernel) (by decide) (by decide) rfl (by decide +kernel) (fun _ => zXgos_p (E := (R, C, rk, sn, sk, cn, cd)) h_p hP8 (zT_ext (fun j hj => (hend hz j hj).symm)))
        · refine w_store (pc' := 32) (L' := [some (.ref 170), some (.int (zn p)), some (.int (zT g P)), some (.int (a + Int32.ofInt 1)), some (.int (zT F P)), o5, o6]) (st' := []) (m := 3) (ykc_270 (e := (3, .iinc 3 1, 0)) rfl) rfl rfl ?_
          refine w_load (pc' := 33) (v := .int (zT g P)) (m := 1) (ykc_270 (e := (2, .iload_n kF2, 0)) rfl) rfl rfl ?_
          refine w_load (pc' := 35) (v := .int (zT F P)) (m := 2) (ykc_270 (e := (2, .iload 4, 0)) rfl) rfl rfl ?_
          refine w_alu (pc' := 36) (st' := [.int (zT (zGs (zTell (R, C, rk, sn, sk, cn, cd) P v) P p k) P)]) (ykc_270 (e := (0, .ior, 0)) rfl) (by show some ([.int ((zT g P) ||| (zT F P))] : List Value) = _; rw [(zTor hP8 hgF : (zT g P) ||| (zT F P) = zT (zGs (zTell (R, C, rk, sn, sk, cn, cd) P v) P p k) P)]) rfl ?_
          refine w_store (pc' := 37) (L' := [some (.ref 170), some (.int (zn p)), some (.int (zT (zGs (zTell (R, C, rk, sn, sk, cn, cd) P v) P p k) P)), some (.int (a + Int32.ofInt 1)), some (.int (zT F P)), o5, o6]) (st' := []) (m := 1) (ykc_270 (e := (3, .istore_n kF2, 0)) rfl) rfl rfl ?_
          refine w_alu (pc' := 38) (st' := [.int (Int32.ofInt 0)]) (ykc_270 (e := (0, .iconst 0, 0)) rfl) rfl rfl ?_
          refine w_store (pc' := 40) (L' := [some (.ref 170), some (.int (zn p)), some (.int (zT (zGs (zTell (R, C, rk, sn, sk, cn, cd) P v) P p k) P)), some (.int (a + Int32.ofInt 1)), some (.int (Int32.ofInt 0)), o5, o6]) (st' := []) (m := 2) (ykc_270 (e := (3, .istore 4, 0)) rfl) rfl rfl ?_
          refine w_alu (pc' := 41) (st' := [.int (Int32.ofInt 0)]) (ykc_270 (e := (0, .iconst 0, 0)) rfl) rfl rfl ?_
          refine w_store (pc' := 43) (L' := [some (.ref 170), some (.int (zn p)), some (.int (zT (zGs (zTell (R, C, rk, sn, sk, cn, cd) P v) P p k) P)), some (.int (a + Int32.ofInt 1)), some (.int (Int32.ofInt 0)), some (.int (Int32.ofInt 0)), o6]) (st' := []) (m := 2) (ykc_270 (e := (3, .istore 5, 0)) rfl) rfl rfl ?_
          obtain ⟨hd, hhd⟩ : ∃ hd : Nat → Bool, hd = (zGs (zTell (R, C, rk, sn, sk, cn, cd) P v) P p k) := ⟨_, rfl⟩
          have hgd : zT (zGs (zTell (R, C, rk, sn, sk, cn, cd) P v) P p k) P = zT hd P := by rw [hhd]
          rw [hgd]
          have iho := ih
          have hi_ : ∀ (n3 : Nat), n3 ≤ n → ∀ (i : Nat) (y : Int32) (o6 : Option Value) (ph2 : pm_H), (i ≤ P) → (zSc ph1414 ph2) → (y = zT (fun j2 => (!hd j2) && zAny (fun i2 => hd i2 && zTell (R, C, rk, sn, sk, cn, cd) P v i2 j2) i) P) → zW n3 D 270 Q 43 [some (.ref 170), some (.int (zn p)), some (.int (zT hd P)), some (.int (a + Int32.ofInt 1)), some (.int y), some (.int (zn i)), o6] [] ph2 := by
            intro n3
            induction n3 using Nat.strongRecOn with
            | ind n3 ih =>
              intro hlim i y o6 ph2 hi hf2 hy
              have ti := znt (k := i) (by omega)
              refine w_load (pc' := 45) (v := .int (zn i)) (m := 2) (ykc_270 (e := (2, .iload 5, 0)) rfl) rfl rfl ?_
              refine w_load (pc' := 46) (v := .ref 170) (m := 1) (ykc_270 (e := (2, .aload_n kF0, 0)) rfl) rfl rfl ?_
              refine w_gf (pc' := 49) (v := .int (zn P)) (ykc_270 (e := (5, .getfield 130, 0)) rfl) rfl ((hf2.1 170 5 (by decide) (by decide)).trans ((u1413.2.1 170 5 (fun q => absurd q.2 (by decide))).trans gP)) rfl ?_
              refine w_ige (ykc_270 (e := (4, .if_icmp .ge 75, 124)) rfl) rfl (fun b1419 => ?_) (fun b1419 => ?_)
              · refine w_gb (ykc_270 (e := (4, .goto (-100), 24)) rfl) (fun k1420 hk1420 => ?_)
                have ei : i = P := by omega
                rw [ei] at hy
                rw [hy]
                exact iho k1420 (by omega) (k + 1) hd (fun j2 => (!hd j2) && zAny (fun i2 => hd i2 && zTell (R, C, rk, sn, sk, cn, cd) P v i2 j2) P) _ _ _ _ hf2 (fun j hj => by
                  show (hd j || ((!hd j) && zAny (fun i2 => hd i2 && zTell (R, C, rk, sn, sk, cn, cd) P v i2 j) P)) = ((zGs (zTell (R, C, rk, sn, sk, cn, cd) P v) P p k) j || zAny (fun i => (zGs (zTell (R, C, rk, sn, sk, cn, cd) P v) P p k) i && zTell (R, C, rk, sn, sk, cn, cd) P v i j) P)
                  rw [← hhd]
                  cases hd j <;> simp) (fun hz j hj => by
                  rw [hhd]
                  refine zGs_P (fun j2 hj2 => ?_) j hj
                  show ((zGs (zTell (R, C, rk, sn, sk, cn, cd) P v) P p k) j2 || zAny (fun i => (zGs (zTell (R, C, rk, sn, sk, cn, cd) P v) P p k) i && zTell (R, C, rk, sn, sk, cn, cd) P v i j2) P) = (zGs (zTell (R, C, rk, sn, sk, cn, cd) P v) P p k) j2
                  have q := hz j2 hj2
                  rw [← hhd]
                  revert q
                  cases hd j2 <;> simp)
              · refine w_alu (pc' := 53) (st' := [.int (Int32.ofInt 0)]) (ykc_270 (e := (0, .iconst 0, 0)) rfl) rfl rfl ?_
                refine w_store (pc' := 55) (L' := [some (.ref 170), some (.int (zn p)), some (.int (zT hd P)), some (.int (a + Int32.ofInt 1)), some (.int y), some (.int (zn i)), some (.int (Int32.ofInt 0))]) (st' := []) (m := 2) (ykc_270 (e := (3, .istore 6, 0)) rfl) rfl rfl ?_
                have ihi := ih
                have hj_ : ∀ (n4 : Nat), n4 ≤ n3 → ∀ (j : Nat) (z : Int32) (ph3 : pm_H), (j ≤ P) → (zSc ph1414 ph3) → (z = zT (fun j2 => (!hd j2) && (zAny (fun i2 => hd i2 && zTell (R, C, rk, sn, sk, cn, cd) P v i2 j2) i || (decide (j2 < j) && (hd i && zTell (R, C, rk, sn, sk, cn, cd) P v i j2)))) P) → zW n4 D 270 Q 55 [some (.ref 170), some (.int (zn p)), some (.int (zT hd P)), some (.int (a + Int32.ofInt 1)), some (.int z), some (.int (zn i)), some (.int (zn j))] [] ph3 := by
                  intro n4
                  induction n4 using Nat.strongRecOn with
                  | ind n4 ih =>
                    intro hlim j z ph3 hj hf3 hz
                    have tj := znt (k := j) (by omega)
                    refine w_load (pc' := 57) (v := .int (zn j)) (m := 2) (ykc_270 (e := (2, .iload 6, 0)) rfl) rfl rfl ?_
                    refine w_load (pc' := 58) (v := .ref 170) (m := 1) (ykc_270 (e := (2, .aload_n kF0, 0)) rfl) rfl rfl ?_
                    refine w_gf (pc' := 61) (v := .int (zn P)) (ykc_270 (e := (5, .getfield 130, 0)) rfl) rfl ((hf3.1 170 5 (by decide) (by decide)).trans ((u1413.2.1 170 5 (fun q => absurd q.2 (by decide))).trans gP)) rfl ?_
                    refine w_ige (ykc_270 (e := (4, .if_icmp .ge 57, 118)) rfl) rfl (fun b1421 => ?_) (fun b1421 => ?_)
                    · have e1422 : (zn i) + Int32.ofInt 1 = zn (i + 1) := (zaddN (a := i) (b := 1) (znt (by omega)) c_2 (by omega))
                      have te1422 := znt (k := i + 1) (by omega)
                      refine w_store (pc' := 121) (L' := [some (.ref 170), some (.int (zn p)), some (.int (zT hd P)), some (.int (a + Int32.ofInt 1)), some (.int z), some (.int (zn (i + 1))), some (.int (zn j))]) (st' := []) (m := 3) (ykc_270 (e := (3, .iinc 5 1, 0)) rfl) (by rw [← e1422]; rfl) rfl ?_
                      refine w_gb (ykc_270 (e := (4, .goto (-78), 43)) rfl) (fun k1423 hk1423 => ?_)
                      exact ihi k1423 (by omega) (by omega) (i + 1) _ _ _ (by omega) hf3 (by
                        rw [hz, show j = P by omega]
                        refine zT_ext (fun k hk => ?_)
                        show ((!hd k) && (zAny (fun i2 => hd i2 && zTell (R, C, rk, sn, sk, cn, cd) P v i2 k) i || (decide (k < P) && (hd i && zTell (R, C, rk, sn, sk, cn, cd) P v i k)))) = ((!hd k) && (zAny (fun i2 => hd i2 && zTell (R, C, rk, sn, sk, cn, cd) P v i2 k) i || (hd i && zTell (R, C, rk, sn, sk, cn, cd) P v i k)))
                        rw [decide_eq_true hk, Bool.true_and])
                    · refine w_load (pc' := 66) (v := .int z) (m := 2) (ykc_270 (e := (2, .iload 4, 0)) rfl) rfl rfl ?_
                      refine w_load (pc' := 67) (v := .int (zT hd P)) (m := 1) (ykc_270 (e := (2, .iload_n kF2, 0)) rfl) rfl rfl ?_
                      refine w_alu (pc' := 68) (st' := [.long ((zT hd P).toInt64), .int z]) (ykc_270 (e := (0, .i2l, 0)) rfl) rfl rfl ?_
                      refine w_load (pc' := 70) (v := .int (zn i)) (m := 2) (ykc_270 (e := (2, .iload 5, 0)) rfl) rfl rfl ?_
                      refine w_cs (as := [.long ((zT hd P).toInt64), .int (zn i)]) (r := [.int z]) (ykc_270 (e := (6, .invokestatic 304, 0)) rfl) rfl rfl rfl rfl (zm_has (kn := i) (by omega) (by omega)) (fun v1424 ph1425 hv => ?_)
                      obtain ⟨rfl, rfl⟩ := hv
                      rw [show zb (zT hd P).toInt64 i = hd i from (zbx (by omega)).trans (zTq hP8 (by omega))]
                      show zW n4 D 270 Q 73 [some (.ref 170), some (.int (zn p)), some (.int (zT hd P)), some (.int (a + Int32.ofInt 1)), some (.int z), some (.int (zn i)), some (.int (zn j))] [.int (zI (hd i)), .int z] ph3
                      refine w_beq (ykc_270 (e := (4, .ifCond .eq 35, 108)) rfl) rfl (fun b1426 => ?_) (fun b1426 => ?_)
                      · refine w_alu (pc' := 109) (st' := [.int (Int32.ofInt 0), .int z]) (ykc_270 (e := (0, .iconst 0, 0)) rfl) rfl rfl ?_
                        refine w_alu (pc' := 110) (st' := [.int (z ||| (Int32.ofInt 0))]) (ykc_270 (e := (0, .ior, 0)) rfl) rfl rfl ?_
                        refine w_store (pc' := 112) (L' := [some (.ref 170), some (.int (zn p)), some (.int (zT hd P)), some (.int (a + Int32.ofInt 1)), some (.int (z ||| (Int32.ofInt 0))), some (.int (zn i)), some (.int (zn j))]) (st' := []) (m := 2) (ykc_270 (e := (3, .istore 4, 0)) rfl) rfl rfl ?_
                        have e1427 : (zn j) + Int32.ofInt 1 = zn (j + 1) := (zaddN (a := j) (b := 1) (znt (by omega)) c_2 (by omega))
                        have te1427 := znt (k := j + 1) (by omega)
                        refine w_store (pc' := 115) (L' := [some (.ref 170), some (.int (zn p)), some (.int (zT hd P)), some (.int (a + Int32.ofInt 1)), some (.int (z ||| (Int32.ofInt 0))), some (.int (zn i)), some (.int (zn (j + 1)))]) (st' := []) (m := 3) (ykc_270 (e := (3, .iinc 6 1, 0)) rfl) (by rw [← e1427]; rfl) rfl ?_
                        refine w_gb (ykc_270 (e := (4, .goto (-60), 55)) rfl) (fun k1428 hk1428 => ?_)
                        exact ih k1428 hk1428 (by omega) (j + 1) _ _ (by omega) hf3 (by
                          rw [hz, show (Int32.ofInt 0) = zT (fun _ => false) P from zT_0 hP8]
                          refine zTor hP8 (fun k hk => ?_)
                          show (((!hd k) && (_ || (decide (k < j) && (hd i && zTell (R, C, rk, sn, sk, cn, cd) P v i k)))) || false) = ((!hd k) && (_ || (decide (k < j + 1) && (hd i && zTell (R, C, rk, sn, sk, cn, cd) P v i k))))
                          rw [Bool.or_false]
                          by_cases e1 : k < j
                          · rw [decide_eq_true e1, decide_eq_true (show k < j + 1 by omega)]
                          · by_cases e2 : k = j
                            · subst e2; simp [b1426]
                            · rw [decide_eq_false e1, decide_eq_false (show ¬ k < j + 1 by omega)])
                      · refine w_load (pc' := 77) (v := .int (zT hd P)) (m := 1) (ykc_270 (e := (2, .iload_n kF2, 0)) rfl) rfl rfl ?_
                        refine w_alu (pc' := 78) (st' := [.long ((zT hd P).toInt64), .int z]) (ykc_270 (e := (0, .i2l, 0)) rfl) rfl rfl ?_
                        refine w_load (pc' := 80) (v := .int (zn j)) (m := 2) (ykc_270 (e := (2, .iload 6, 0)) rfl) rfl rfl ?_
                        refine w_cs (as := [.long ((zT hd P).toInt64), .int (zn j)]) (r := [.int z]) (ykc_270 (e := (6, .invokestatic 304, 0)) rfl) rfl rfl rfl rfl (zm_has (kn := j) (by omega) (by omega)) (fun v1429 ph1430 hv => ?_)
                        obtain ⟨rfl, rfl⟩ := hv
                        rw [show zb (zT hd P).toInt64 j = hd j from (zbx (by omega)).trans (zTq hP8 (by omega))]
                        show zW n4 D 270 Q 83 [some (.ref 170), some (.int (zn p)), some (.int (zT hd P)), some (.int (a + Int32.ofInt 1)), some (.int z), some (.int (zn i)), some (.int (zn j))] [.int (zI (hd j)), .int z] ph3
                        refine w_bne (ykc_270 (e := (4, .ifCond .ne 25, 108)) rfl) rfl (fun b1431 => ?_) (fun b1431 => ?_)
                        · refine w_alu (pc' := 109) (st' := [.int (Int32.ofInt 0), .int z]) (ykc_270 (e := (0, .iconst 0, 0)) rfl) rfl rfl ?_
                          refine w_alu (pc' := 110) (st' := [.int (z ||| (Int32.ofInt 0))]) (ykc_270 (e := (0, .ior, 0)) rfl) rfl rfl ?_
                          refine w_store (pc' := 112) (L' := [some (.ref 170), some (.int (zn p)), some (.int (zT hd P)), some (.int (a + Int32.ofInt 1)), some (.int (z ||| (Int32.ofInt 0))), some (.int (zn i)), some (.int (zn j))]) (st' := []) (m := 2) (ykc_270 (e := (3, .istore 4, 0)) rfl) rfl rfl ?_
                          have e1432 : (zn j) + Int32.ofInt 1 = zn (j + 1) := (zaddN (a := j) (b := 1) (znt (by omega)) c_2 (by omega))
                          have te1432 := znt (k := j + 1) (by omega)
                          refine w_store (pc' := 115) (L' := [some (.ref 170), some (.int (zn p)), some (.int (zT hd P)), some (.int (a + Int32.ofInt 1)), some (.int (z ||| (Int32.ofInt 0))), some (.int (zn i)), some (.int (zn (j + 1)))]) (st' := []) (m := 3) (ykc_270 (e := (3, .iinc 6 1, 0)) rfl) (by rw [← e1432]; rfl) rfl ?_
                          refine w_gb (ykc_270 (e := (4, .goto (-60), 55)) rfl) (fun k1433 hk1433 => ?_)
                          exact ih k1433 hk1433 (by omega) (j + 1) _ _ (by omega) hf3 (by
                            rw [hz, show (Int32.ofInt 0) = zT (fun _ => false) P from zT_0 hP8]
                            refine zTor hP8 (fun k hk => ?_)
                            show (((!hd k) && (_ || (decide (k < j) && (hd i && zTell (R, C, rk, sn, sk, cn, cd) P v i k)))) || false) = ((!hd k) && (_ || (decide (k < j + 1) && (hd i && zTell (R, C, rk, sn, sk, cn, cd) P v i k))))
                            rw [Bool.or_false]
                            by_cases e1 : k < j
                            · rw [decide_eq_true e1, decide_eq_true (show k < j + 1 by omega)]
                            · by_cases e2 : k = j
                              · subst e2; simp [b1431]
                              · rw [decide_eq_false e1, decide_eq_false (show ¬ k < j + 1 by omega)])
                        · refine w_load (pc' := 87) (v := .ref 170) (m := 1) (ykc_270 (e := (2, .aload_n kF0, 0)) rfl) rfl rfl ?_
                          refine w_load (pc' := 88) (v := .ref 170) (m := 1) (ykc_270 (e := (2, .aload_n kF0, 0)) rfl) rfl rfl ?_
                          refine w_gf (pc' := 91) (v := .ref 174) (ykc_270 (e := (5, .getfield 41, 0)) rfl) rfl ((hf3.1 170 11 (by decide) (by decide)).trans ((u1413.2.1 170 11 (fun q => absurd q.2 (by decide))).trans (zsg hS zs_170_11))) rfl ?_
                          refine w_load (pc' := 93) (v := .int (zn i)) (m := 2) (ykc_270 (e := (2, .iload 5, 0)) rfl) rfl rfl ?_
                          refine w_load (pc' := 95) (v := .int (zn j)) (m := 2) (ykc_270 (e := (2, .iload 6, 0)) rfl) rfl rfl ?_
                          refine w_cv (as := [.ref 170, .ref 174, .int (zn i), .int (zn j)]) (r := [.int z]) (ykc_270 (e := (6, .invokevirtual 344, 0)) rfl) rfl rfl rfl rfl (zm_tell (zSc_S hf3 hS1) (zSc_e hf3 hE1) (zSc_p hf3 hN1) (zSc_a hf3 (⟨hA, hv1⟩ : ((174 : Nat) = 174 ∨ (174 : Nat) = 175) ∧ zNr ph1414 174 0 v)).1 (zSc_a hf3 (⟨hA, hv1⟩ : ((174 : Nat) = 174 ∨ (174 : Nat) = 175) ∧ zNr ph1414 174 0 v)).2 hO0 (a := i) (b := j) (by omega) (by omega)) (fun v1435 ph1436 hv => ?_)
                          obtain ⟨f1434, rfl⟩ := hv
                          show zW n4 D 270 Q 98 [some (.ref 170), some (.int (zn p)), some (.int (zT hd P)), some (.int (a + Int32.ofInt 1)), some (.int z), some (.int (zn i)), some (.int (zn j))] [.int (zI (zTell (R, C, rk, sn, sk, cn, cd) P v i j)), .int z] ph1436
                          refine w_beq (ykc_270 (e := (4, .ifCond .eq 10, 108)) rfl) rfl (fun b1437 => ?_) (fun b1437 => ?_)
                          · refine w_alu (pc' := 109) (st' := [.int (Int32.ofInt 0), .int z]) (ykc_270 (e := (0, .iconst 0, 0)) rfl) rfl rfl ?_
                            refine w_alu (pc' := 110) (st' := [.int (z ||| (Int32.ofInt 0))]) (ykc_270 (e := (0, .ior, 0)) rfl) rfl rfl ?_
                            refine w_store (pc' := 112) (L' := [some (.ref 170), some (.int (zn p)), some (.int (zT hd P)), some (.int (a + Int32.ofInt 1)), some (.int (z ||| (Int32.ofInt 0))), some (.int (zn i)), some (.int (zn j))]) (st' := []) (m := 2) (ykc_270 (e := (3, .istore 4, 0)) rfl) rfl rfl ?_
                            have e1438 : (zn j) + Int32.ofInt 1 = zn (j + 1) := (zaddN (a := j) (b := 1) (znt (by omega)) c_2 (by omega))
                            have te1438 := znt (k := j + 1) (by omega)
                            refine w_store (pc' := 115) (L' := [some (.ref 170), some (.int (zn p)), some (.int (zT hd P)), some (.int (a + Int32.ofInt 1)), some (.int (z ||| (Int32.ofInt 0))), some (.int (zn i)), some (.int (zn (j + 1)))]) (st' := []) (m := 3) (ykc_270 (e := (3, .iinc 6 1, 0)) rfl) (by rw [← e1438]; rfl) rfl ?_
                            refine w_gb (ykc_270 (e := (4, .goto (-60), 55)) rfl) (fun k1439 hk1439 => ?_)
                            exact ih k1439 hk1439 (by omega) (j + 1) _ _ (by omega) (zFr_trans hf3 f1434) (by
                              rw [hz, show (Int32.ofInt 0) = zT (fun _ => false) P from zT_0 hP8]
                              refine zTor hP8 (fun k hk => ?_)
                              show (((!hd k) && (_ || (decide (k < j) && (hd i && zTell (R, C, rk, sn, sk, cn, cd) P v i k)))) || false) = ((!hd k) && (_ || (decide (k < j + 1) && (hd i && zTell (R, C, rk, sn, sk, cn, cd) P v i k))))
                              rw [Bool.or_false]
                              by_cases e1 : k < j
                              · rw [decide_eq_true e1, decide_eq_true (show k < j + 1 by omega)]
                              · by_cases e2 : k = j
                                · subst e2; simp [b1437]
                                · rw [decide_eq_false e1, decide_eq_false (show ¬ k < j + 1 by omega)])
                          · refine w_alu (pc' := 102) (st' := [.int (Int32.ofInt 1), .int z]) (ykc_270 (e := (0, .iconst 1, 0)) rfl) rfl rfl ?_
                            refine w_load (pc' := 104) (v := .int (zn j)) (m := 2) (ykc_270 (e := (2, .iload 6, 0)) rfl) rfl rfl ?_
                            refine w_alu (pc' := 105) (st' := [.int ((Int32.ofInt 1) <<< ((zn j) &&& 31)), .int z]) (ykc_270 (e := (0, .ishl, 0)) rfl) rfl rfl ?_
                            refine w_br (pc' := 109) (st' := [.int ((Int32.ofInt 1) <<< ((zn j) &&& 31)), .int z]) (ykc_270 (e := (4, .goto 4, 109)) rfl) rfl ?_
                            refine w_alu (pc' := 110) (st' := [.int (z ||| ((Int32.ofInt 1) <<< ((zn j) &&& 31)))]) (ykc_270 (e := (0, .ior, 0)) rfl) rfl rfl ?_
                            refine w_store (pc' := 112) (L' := [some (.ref 170), some (.int (zn p)), some (.int (zT hd P)), some (.int (a + Int32.ofInt 1)), some (.int (z ||| ((Int32.ofInt 1) <<< ((zn j) &&& 31)))), some (.int (zn i)), some (.int (zn j))]) (st' := []) (m := 2) (ykc_270 (e := (3, .istore 4, 0)) rfl) rfl rfl ?_
                            have e1440 : (zn j) + Int32.ofInt 1 = zn (j + 1) := (zaddN (a := j) (b := 1) (znt (by omega)) c_2 (by omega))
                            have te1440 := znt (k := j + 1) (by omega)
                            refine w_store (pc' := 115) (L' := [some (.ref 170), some (.int (zn p)), some (.int (zT hd P)), some (.int (a + Int32.ofInt 1)), some (.int (z ||| ((Int32.ofInt 1) <<< ((zn j) &&& 31)))), some (.int (zn i)), some (.int (zn (j + 1)))]) (st' := []) (m := 3) (ykc_270 (e := (3, .iinc 6 1, 0)) rfl) (by rw [← e1440]; rfl) rfl ?_
                            refine w_gb (ykc_270 (e := (4, .goto (-60), 55)) rfl) (fun k1441 hk1441 => ?_)
                            exact ih k1441 hk1441 (by omega) (j + 1) _ _ (by omega) (zFr_trans hf3 f1434) (by
                              rw [hz]
                              refine zTset1 hP8 (by omega) (fun k hk => ?_)
                              show ((!hd k) && (_ || (decide (k < j + 1) && (hd i && zTell (R, C, rk, sn, sk, cn, cd) P v i k)))) = (((!hd k) && (_ || (decide (k < j) && (hd i && zTell (R, C, rk, sn, sk, cn, cd) P v i k)))) || decide (k = j))
                              by_cases e1 : k < j
                              · rw [decide_eq_true e1, decide_eq_true (show k < j + 1 by omega), decide_eq_false (show ¬ k = j by omega), Bool.or_false]
                              · by_cases e2 : k = j
                                · subst e2; simp [b1426, b1431, b1437]
                                · rw [decide_eq_false e1, decide_eq_false (show ¬ k < j + 1 by omega), decide_eq_false e2, Bool.or_false])
                exact hj_ n3 (Nat.le_refl _) 0 y _ (Nat.zero_le _) hf2 (by
                  rw [hy]
                  refine zT_ext (fun k hk => ?_)
                  show ((!hd k) && zAny (fun i2 => hd i2 && zTell (R, C, rk, sn, sk, cn, cd) P v i2 k) i) = ((!hd k) && (zAny (fun i2 => hd i2 && zTell (R, C, rk, sn, sk, cn, cd) P v i2 k) i || (decide (k < 0) && (hd i && zTell (R, C, rk, sn, sk, cn, cd) P v i k))))
                  rw [decide_eq_false (Nat.not_lt_zero k), Bool.false_and, Bool.or_false])
          exact hi_ n (Nat.le_refl _) 0 _ _ _ (Nat.zero_le _) hf1 (by
            rw [zT_0 hP8]
            refine zT_ext (fun k hk => ?_)
            show false = ((!hd k) && false)
            rw [Bool.and_false])
    exact hl n 0 _ _ _ _ _ _ zFr_refl (fun j hj => Bool.or_self _) (fun hz => absurd (hz p h_p) (by show ¬ decide (p = p) = false; simp))
  · refine w_alu (pc' := 14) (st' := [.int (Int32.ofInt (-1))]) (ykc_270 (e := (0, .iconst (-1), 0)) rfl) rfl rfl ?_
    refine w_ret (v := (some (.int (Int32.ofInt (-1))))) (ykc_270 (e := (7, .ireturn, 0)) rfl) (zr_v rfl) ?_
    have b_n := of_decide_eq_false b1417
    rw [hQ]
    exact zXgos_n b_n
