/-! valley, class and reference, by W; printed by wip/z/z1c_valley.py -/
/-- a digit 3 .. 7 at p, or 0; a sign of a FIELD at p; how many of k FIELDS are told, what valley answers -/
def zVd (n : Nat) (t : Nat → Nat) (p : Nat) : Nat := if p < n ∧ 51 ≤ t p ∧ t p ≤ 55 then t p - 48 else 0
def zVs (n : Nat) (t : Nat → Nat) (p : Nat) : Bool := decide (p < n ∧ (t p = 46 ∨ t p = 35))
def zVg (n : Nat) (t : Nat → Nat) : Nat → Nat
  | 0 => 0
  | k + 1 => if zVg n t k = k ∧ zVs n t (2 + k) = true then k + 1 else zVg n t k
def zVN (n : Nat) (t : Nat → Nat) : Nat := zVd n t 0 * zVd n t 1
def zVa (n : Nat) (t : Nat → Nat) : Int := if zVd n t 0 = 0 then -1 else if zVd n t 1 = 0 then -2 else if zVg n t (zVN n t) < zVN n t then -3 - (zVg n t (zVN n t) : Nat) else if 2 + zVN n t < n then -3 - (zVN n t : Nat) else (zVN n t : Nat)
def zVk (n : Nat) (t : Nat → Nat) : Prop := zVd n t 0 ≠ 0 ∧ zVd n t 1 ≠ 0 ∧ zVg n t (zVN n t) = zVN n t ∧ n ≤ 2 + zVN n t
theorem zVd_b {n p : Nat} {t : Nat → Nat} : zVd n t p = 0 ∨ (3 ≤ zVd n t p ∧ zVd n t p ≤ 7) := by unfold zVd; split <;> omega
theorem zVN_b {n : Nat} {t : Nat → Nat} : zVN n t ≤ 49 := by
  have h0 := @zVd_b n 0 t
  have h1 := @zVd_b n 1 t
  exact Nat.le_trans (Nat.mul_le_mul (show zVd n t 0 ≤ 7 by omega) (show zVd n t 1 ≤ 7 by omega)) (by decide)
theorem zVg_a {n : Nat} {t : Nat → Nat} : ∀ k, (∀ i, i < k → zVs n t (2 + i) = true) → zVg n t k = k
  | 0, _ => rfl
  | k + 1, h => if_pos ⟨zVg_a k (fun i hi => h i (by omega)), h k (by omega)⟩
theorem zVg_f {n f : Nat} {t : Nat → Nat} (h : ∀ i, i < f → zVs n t (2 + i) = true) (hf : zVs n t (2 + f) = false) : ∀ k, f < k → zVg n t k = f := by
  intro k
  induction k with
  | zero => intro h; omega
  | succ k ih =>
    intro hk
    show (if zVg n t k = k ∧ zVs n t (2 + k) = true then k + 1 else zVg n t k) = f
    by_cases e : f = k
    · subst e
      rw [if_neg (fun q => by rw [hf] at q; exact absurd q.2 (by first | exact Nat.ne_of_beq_eq_false rfl | decide)), zVg_a f h]
    · rw [if_neg (fun q => by have := ih (by omega); omega), ih (by omega)]
theorem zVa_0 {n : Nat} {t : Nat → Nat} (h : zVd n t 0 = 0) : zVa n t = -1 ∧ ¬ zVk n t := ⟨if_pos h, fun q => q.1 h⟩
theorem zVa_1 {n : Nat} {t : Nat → Nat} (h0 : zVd n t 0 ≠ 0) (h : zVd n t 1 = 0) : zVa n t = -2 ∧ ¬ zVk n t := ⟨by unfold zVa; rw [if_neg h0, if_pos h], fun q => q.2.1 h⟩
theorem zVa_2 {n f : Nat} {t : Nat → Nat} (h0 : zVd n t 0 ≠ 0) (h1 : zVd n t 1 ≠ 0) (h : ∀ i, i < f → zVs n t (2 + i) = true) (hf : zVs n t (2 + f) = false) (hN : f < zVN n t) : zVa n t = -3 - (f : Int) ∧ ¬ zVk n t := by
  have e := zVg_f h hf _ hN
  exact ⟨by unfold zVa; rw [if_neg h0, if_neg h1, e, if_pos hN], fun q => by have := q.2.2.1; omega⟩
theorem zVa_3 {n : Nat} {t : Nat → Nat} (h0 : zVd n t 0 ≠ 0) (h1 : zVd n t 1 ≠ 0) (h : ∀ i, i < zVN n t → zVs n t (2 + i) = true) (hn : 2 + zVN n t < n) : zVa n t = -3 - (zVN n t : Nat) ∧ ¬ zVk n t := by
  have e := zVg_a _ h
  exact ⟨by unfold zVa; rw [if_neg h0, if_neg h1, e, if_neg (Nat.lt_irrefl _), if_pos hn], fun q => by have := q.2.2.2; omega⟩
theorem zVa_4 {n : Nat} {t : Nat → Nat} (h0 : zVd n t 0 ≠ 0) (h1 : zVd n t 1 ≠ 0) (h : ∀ i, i < zVN n t → zVs n t (2 + i) = true) (hn : ¬ 2 + zVN n t < n) : zVa n t = (zVN n t : Nat) ∧ zVk n t := by
  have e := zVg_a _ h
  exact ⟨by unfold zVa; rw [if_neg h0, if_neg h1, e, if_neg (Nat.lt_irrefl _), if_neg hn], h0, h1, e, by omega⟩
theorem zVs_1 {n p : Nat} {t : Nat → Nat} (h : p < n ∧ (t p = 46 ∨ t p = 35)) : zVs n t p = true := decide_eq_true h
theorem zVs_0 {n p : Nat} {t : Nat → Nat} (h : ¬ (p < n ∧ (t p = 46 ∨ t p = 35))) : zVs n t p = false := decide_eq_false h
/-- the rocks told -/
def zVr (t : Nat → Nat) (f : Nat) : Bool := decide (t (2 + f) = 35)
theorem zdm {C i j : Nat} (h : j < C) : (i * C + j) / C = i ∧ (i * C + j) % C = j := by
  have hC : 0 < C := by omega
  constructor
  · rw [Nat.mul_comm, Nat.mul_add_div hC, Nat.div_eq_of_lt h, Nat.add_zero]
  · rw [Nat.mul_comm, Nat.mul_add_mod, Nat.mod_eq_of_lt h]
theorem zc_side {ph : pm_H} {ln : Nat} {t : Nat → Nat} (hS : zSh ph) (hT : zTc ph ln t) {x : Int32} {k : Nat} (hx : x.toInt = (k : Int)) : zM 35 [.ref 1, .int x] ph (fun v q => ph = q ∧ ((zVd ln t k = 0 ∧ v = some (.int (Int32.ofInt (-1)))) ∨ (zVd ln t k ≠ 0 ∧ v = some (.int (zn (zVd ln t k)))))) := by
  obtain ⟨Q, hQ⟩ : ∃ Q : Option Value → pm_H → Prop, Q = (fun v q => ph = q ∧ ((zVd ln t k = 0 ∧ v = some (.int (Int32.ofInt (-1)))) ∨ (zVd ln t k ≠ 0 ∧ v = some (.int (zn (zVd ln t k)))))) := ⟨_, rfl⟩
  rw [← hQ]
  refine zM_mk fun n D => ?_
  show zW n D 35 Q 0 [some (.ref 1), some (.int x), none] [] ph
  have c_0 : ((Int8.ofInt 7).toInt32).toInt = 7 := by decide +kernel
  have c_1 : (Int32.ofInt (-1)).toInt = -1 := by decide +kernel
  have c_2 : (Int32.ofInt 3).toInt = 3 := by decide +kernel
  have hT0 := hT
  obtain ⟨gn, hn80, gt⟩ := hT
  have tn := znt (k := ln) (by omega)
  refine w_load (pc' := 1) (v := .ref 1) (m := 1) (ykc_35 (e := (2, .aload_n kF0, 0)) rfl) rfl rfl ?_
  refine w_load (pc' := 2) (v := .int x) (m := 1) (ykc_35 (e := (2, .iload_n kF1, 0)) rfl) rfl rfl ?_
  refine w_cv (as := [.ref 1, .int x]) (r := []) (ykc_35 (e := (6, .invokevirtual 43, 0)) rfl) rfl rfl rfl rfl (zc_digit hS hT0 (k := k) (by omega)) (fun v1518 ph1519 hv => ?_)
  obtain ⟨rfl, g1517, rfl, e_g1517⟩ := hv
  have b_g1517 := @zDi_b ln k t
  have d_g1517 := @zDi_c ln k t
  show zW n D 35 Q 5 [some (.ref 1), some (.int x), none] [.int g1517] ph
  refine w_store (pc' := 6) (L' := [some (.ref 1), some (.int x), some (.int g1517)]) (st' := []) (m := 1) (ykc_35 (e := (3, .istore_n kF2, 0)) rfl) rfl rfl ?_
  refine w_load (pc' := 7) (v := .int g1517) (m := 1) (ykc_35 (e := (2, .iload_n kF2, 0)) rfl) rfl rfl ?_
  refine w_alu (pc' := 8) (st' := [.int (Int32.ofInt 3), .int g1517]) (ykc_35 (e := (0, .iconst 3, 0)) rfl) rfl rfl ?_
  refine w_ilt (ykc_35 (e := (4, .if_icmp .lt 13, 21)) rfl) rfl (fun b1520 => ?_) (fun b1520 => ?_)
  · refine w_alu (pc' := 22) (st' := [.int (Int32.ofInt (-1))]) (ykc_35 (e := (0, .iconst (-1), 0)) rfl) rfl rfl ?_
    refine w_ret (v := (some (.int (Int32.ofInt (-1))))) (ykc_35 (e := (7, .ireturn, 0)) rfl) (zr_v rfl) ?_
    have h7 : zVd ln t k = 0 := if_neg (by omega)
    rw [hQ]
    exact ⟨rfl, Or.inl ⟨h7, rfl⟩⟩
  · refine w_load (pc' := 12) (v := .int g1517) (m := 1) (ykc_35 (e := (2, .iload_n kF2, 0)) rfl) rfl rfl ?_
    refine w_push (pc' := 14) (v := .int ((Int8.ofInt 7).toInt32)) (m := 2) (ykc_35 (e := (1, .bipush 7, 0)) rfl) rfl rfl ?_
    refine w_igt (ykc_35 (e := (4, .if_icmp .gt 7, 21)) rfl) rfl (fun b1521 => ?_) (fun b1521 => ?_)
    · refine w_alu (pc' := 22) (st' := [.int (Int32.ofInt (-1))]) (ykc_35 (e := (0, .iconst (-1), 0)) rfl) rfl rfl ?_
      refine w_ret (v := (some (.int (Int32.ofInt (-1))))) (ykc_35 (e := (7, .ireturn, 0)) rfl) (zr_v rfl) ?_
      have h7 : zVd ln t k = 0 := if_neg (by omega)
      rw [hQ]
      exact ⟨rfl, Or.inl ⟨h7, rfl⟩⟩
    · refine w_load (pc' := 18) (v := .int g1517) (m := 1) (ykc_35 (e := (2, .iload_n kF2, 0)) rfl) rfl rfl ?_
      refine w_br (pc' := 22) (st' := [.int g1517]) (ykc_35 (e := (4, .goto 4, 22)) rfl) rfl ?_
      refine w_ret (v := (some (.int g1517))) (ykc_35 (e := (7, .ireturn, 0)) rfl) (zr_v rfl) ?_
      have h9 : k < ln ∧ 51 ≤ t k ∧ t k ≤ 55 := by omega
      have h7 : zVd ln t k = t k - 48 := if_pos h9
      rw [hQ]
      exact ⟨rfl, Or.inr ⟨by omega, by rw [zn_of (x := g1517) (k := zVd ln t k) (by omega)]⟩⟩
theorem zc_shape {ph : pm_H} {R C : Nat} {rk : Nat → Bool} {l : Int64} (hS : zSh ph) (hR3 : 3 ≤ R) (hR7 : R ≤ 7) (hC3 : 3 ≤ C) (hC7 : C ≤ 7) (hlr : l = zS rk (R * C)) : zM 36 [.ref 5, .int (zn R), .int (zn C), .long l] ph (fun v q => v = none ∧ zFr [6, 7] [(5, 0), (5, 1), (5, 2), (5, 3), (5, 4)] ph q ∧ zc q 5 4 = some (.long (Int64.ofNat kG0)) ∧ zCl q R C rk) := by
  obtain ⟨Q, hQ⟩ : ∃ Q : Option Value → pm_H → Prop, Q = (fun v q => v = none ∧ zFr [6, 7] [(5, 0), (5, 1), (5, 2), (5, 3), (5, 4)] ph q ∧ zc q 5 4 = some (.long (Int64.ofNat kG0)) ∧ zCl q R C rk) := ⟨_, rfl⟩
  rw [← hQ]
  refine zM_mk fun n D => ?_
  show zW n D 36 Q 0 [some (.ref 5), some (.int (zn R)), some (.int (zn C)), some (.long l), none, none, none] [] ph
  have c_0 : ((Int8.ofInt 49).toInt32).toInt = 49 := by decide +kernel
  have c_1 : (Int32.ofInt 0).toInt = 0 := by decide +kernel
  have c_2 : (Int32.ofInt 1).toInt = 1 := by decide +kernel
  have hRC := zRC49 hR7 hC7
  have tR := znt (k := R) (by omega)
  have tC := znt (k := C) (by omega)
  refine w_load (pc' := 1) (v := .ref 5) (m := 1) (ykc_36 (e := (2, .aload_n kF0, 0)) rfl) rfl rfl ?_
  refine w_load (pc' := 2) (v := .int (zn R)) (m := 1) (ykc_36 (e := (2, .iload_n kF1, 0)) rfl) rfl rfl ?_
  refine w_pf (pc' := 5) (ykc_36 (e := (5, .putfield 46, 0)) rfl) rfl rfl (fun ph1523 u1522 => ?_)
  refine w_load (pc' := 6) (v := .ref 5) (m := 1) (ykc_36 (e := (2, .aload_n kF0, 0)) rfl) rfl rfl ?_
  refine w_load (pc' := 7) (v := .int (zn C)) (m := 1) (ykc_36 (e := (2, .iload_n kF2, 0)) rfl) rfl rfl ?_
  refine w_pf (pc' := 10) (ykc_36 (e := (5, .putfield 50, 0)) rfl) rfl rfl (fun ph1525 u1524 => ?_)
  refine w_load (pc' := 11) (v := .ref 5) (m := 1) (ykc_36 (e := (2, .aload_n kF0, 0)) rfl) rfl rfl ?_
  refine w_load (pc' := 12) (v := .long l) (m := 1) (ykc_36 (e := (2, .lload_n kF3, 0)) rfl) rfl rfl ?_
  refine w_pf (pc' := 15) (ykc_36 (e := (5, .putfield 53, 0)) rfl) rfl rfl (fun ph1527 u1526 => ?_)
  refine w_load (pc' := 16) (v := .ref 5) (m := 1) (ykc_36 (e := (2, .aload_n kF0, 0)) rfl) rfl rfl ?_
  refine w_alu (pc' := 17) (st' := [.long (Int64.ofNat kG0), .ref 5]) (ykc_36 (e := (0, .lconst kG0, 0)) rfl) rfl rfl ?_
  refine w_pf (pc' := 20) (ykc_36 (e := (5, .putfield 57, 0)) rfl) rfl rfl (fun ph1529 u1528 => ?_)
  refine w_load (pc' := 21) (v := .ref 5) (m := 1) (ykc_36 (e := (2, .aload_n kF0, 0)) rfl) rfl rfl ?_
  refine w_alu (pc' := 22) (st' := [.int (Int32.ofInt 0), .ref 5]) (ykc_36 (e := (0, .iconst 0, 0)) rfl) rfl rfl ?_
  refine w_pf (pc' := 25) (ykc_36 (e := (5, .putfield 60, 0)) rfl) rfl rfl (fun ph1531 u1530 => ?_)
  refine w_alu (pc' := 26) (st' := [.int (Int32.ofInt 0)]) (ykc_36 (e := (0, .iconst 0, 0)) rfl) rfl rfl ?_
  refine w_store (pc' := 28) (L' := [some (.ref 5), some (.int (zn R)), some (.int (zn C)), some (.long l), none, some (.int (Int32.ofInt 0)), none]) (st' := []) (m := 2) (ykc_36 (e := (3, .istore 5, 0)) rfl) rfl rfl ?_
  have hl : ∀ (n : Nat), ∀ (i : Nat) (x6 : Option Value) (ph1 : pm_H), (i ≤ R) → (zFr [6, 7] [(5, 0), (5, 1), (5, 2), (5, 3), (5, 4)] ph ph1) → (zc ph1 5 0 = some (.int (zn R))) → (zc ph1 5 1 = some (.int (zn C))) → (zc ph1 5 3 = some (.long l)) → (zc ph1 5 4 = some (.long (Int64.ofNat kG0))) → (zc ph1 5 2 = some (.int (zn (i * C)))) → (∀ f, f < i * C → zc ph1 6 f = some (.int (zn (f / C))) ∧ zc ph1 7 f = some (.int (zn (f % C)))) → zW n D 36 Q 28 [some (.ref 5), some (.int (zn R)), some (.int (zn C)), some (.long l), none, some (.int (zn i)), x6] [] ph1 := by
    intro n
    induction n using Nat.strongRecOn with
    | ind n ih =>
      intro i x6 ph1 hi hf g0 g1 g3 g4 g2 gr
      have ti := znt (k := i) (by omega)
      have hiC : i * C ≤ R * C := Nat.mul_le_mul_right C hi
      have tiC := znt (k := i * C) (by omega)
      have hin : ∀ (n1 : Nat), n1 ≤ n → ∀ (j : Nat) (ph1 : pm_H), j ≤ C → i < R → (zFr [6, 7] [(5, 0), (5, 1), (5, 2), (5, 3), (5, 4)] ph ph1) → (zc ph1 5 0 = some (.int (zn R))) → (zc ph1 5 1 = some (.int (zn C))) → (zc ph1 5 3 = some (.long l)) → (zc ph1 5 4 = some (.long (Int64.ofNat kG0))) → (zc ph1 5 2 = some (.int (zn (i * C + j)))) → (∀ f, f < i * C + j → zc ph1 6 f = some (.int (zn (f / C))) ∧ zc ph1 7 f = some (.int (zn (f % C)))) → zW n1 D 36 Q 40 [some (.ref 5), some (.int (zn R)), some (.int (zn C)), some (.long l), none, some (.int (zn i)), some (.int (zn j))] [] ph1 := by
        intro n1
        induction n1 using Nat.strongRecOn with
        | ind n1 ih1 =>
          intro hn1 j ph1 hj hiR hf g0 g1 g3 g4 g2 gr
          have tj := znt (k := j) (by omega)
          have hi1 : i * C + C ≤ R * C := by
            have h := Nat.mul_le_mul_right C (show i + 1 ≤ R by omega)
            rwa [Nat.add_mul, Nat.one_mul] at h
          have tij := znt (k := i * C + j) (by omega)
          have hdm := fun h => @zdm C i j h
          refine w_load (pc' := 42) (v := .int (zn j)) (m := 2) (ykc_36 (e := (2, .iload 6, 0)) rfl) rfl rfl ?_
          refine w_load (pc' := 43) (v := .ref 5) (m := 1) (ykc_36 (e := (2, .aload_n kF0, 0)) rfl) rfl rfl ?_
          refine w_gf (pc' := 46) (v := .int (zn C)) (ykc_36 (e := (5, .getfield 50, 0)) rfl) rfl g1 rfl ?_
          refine w_ige (ykc_36 (e := (4, .if_icmp .ge 50, 96)) rfl) rfl (fun b1532 => ?_) (fun b1532 => ?_)
          · have e1533 : (zn i) + Int32.ofInt 1 = zn (i + 1) := (zaddN (a := i) (b := 1) (znt (by omega)) c_2 (by omega))
            have te1533 := znt (k := i + 1) (by omega)
            refine w_store (pc' := 99) (L' := [some (.ref 5), some (.int (zn R)), some (.int (zn C)), some (.long l), none, some (.int (zn (i + 1))), some (.int (zn j))]) (st' := []) (m := 3) (ykc_36 (e := (3, .iinc 5 1, 0)) rfl) (by rw [← e1533]; rfl) rfl ?_
            refine w_gb (ykc_36 (e := (4, .goto (-71), 28)) rfl) (fun k1534 hk1534 => ?_)
            have ej : j = C := by omega
            subst ej
            exact ih k1534 (by omega) (i + 1) _ ph1 (by omega) hf g0 g1 g3 g4 (by rw [Nat.add_mul, Nat.one_mul]; exact g2) (by rw [Nat.add_mul, Nat.one_mul]; exact gr)
          · refine w_load (pc' := 50) (v := .ref 5) (m := 1) (ykc_36 (e := (2, .aload_n kF0, 0)) rfl) rfl rfl ?_
            refine w_gf (pc' := 53) (v := .int (zn (i * C + j))) (ykc_36 (e := (5, .getfield 60, 0)) rfl) rfl g2 rfl ?_
            refine w_push (pc' := 55) (v := .int ((Int8.ofInt 49).toInt32)) (m := 2) (ykc_36 (e := (1, .bipush 49, 0)) rfl) rfl rfl ?_
            refine w_ige (ykc_36 (e := (4, .if_icmp .ge 41, 96)) rfl) rfl (fun q => by exfalso; omega) (fun b1535 => ?_)
            refine w_load (pc' := 59) (v := .ref 5) (m := 1) (ykc_36 (e := (2, .aload_n kF0, 0)) rfl) rfl rfl ?_
            refine w_gf (pc' := 62) (v := .ref 6) (ykc_36 (e := (5, .getfield 9, 0)) rfl) rfl ((hf.1 5 5 (by first | exact zqm rfl | decide) (by first | exact zqp rfl | decide)).trans (zsg hS zs_5_5)) rfl ?_
            refine w_load (pc' := 63) (v := .ref 5) (m := 1) (ykc_36 (e := (2, .aload_n kF0, 0)) rfl) rfl rfl ?_
            refine w_gf (pc' := 66) (v := .int (zn (i * C + j))) (ykc_36 (e := (5, .getfield 60, 0)) rfl) rfl g2 rfl ?_
            refine w_load (pc' := 68) (v := .int (zn i)) (m := 2) (ykc_36 (e := (2, .iload 5, 0)) rfl) rfl rfl ?_
            refine w_ias (pc' := 69) (k := i * C + j) (ykc_36 (e := (5, .iastore, 0)) rfl) (by omega) rfl (fun ph1537 u1536 => ?_)
            refine w_load (pc' := 70) (v := .ref 5) (m := 1) (ykc_36 (e := (2, .aload_n kF0, 0)) rfl) rfl rfl ?_
            refine w_gf (pc' := 73) (v := .ref 7) (ykc_36 (e := (5, .getfield 15, 0)) rfl) rfl ((u1536.2.1 5 6 (fun q => absurd q.1 (by first | exact Nat.ne_of_beq_eq_false rfl | decide))).trans ((hf.1 5 6 (by first | exact zqm rfl | decide) (by first | exact zqp rfl | decide)).trans (zsg hS zs_5_6))) rfl ?_
            refine w_load (pc' := 74) (v := .ref 5) (m := 1) (ykc_36 (e := (2, .aload_n kF0, 0)) rfl) rfl rfl ?_
            refine w_gf (pc' := 77) (v := .int (zn (i * C + j))) (ykc_36 (e := (5, .getfield 60, 0)) rfl) rfl ((u1536.2.1 5 2 (fun q => absurd q.1 (by first | exact Nat.ne_of_beq_eq_false rfl | decide))).trans g2) rfl ?_
            refine w_load (pc' := 79) (v := .int (zn j)) (m := 2) (ykc_36 (e := (2, .iload 6, 0)) rfl) rfl rfl ?_
            refine w_ias (pc' := 80) (k := i * C + j) (ykc_36 (e := (5, .iastore, 0)) rfl) (by omega) rfl (fun ph1539 u1538 => ?_)
            refine w_load (pc' := 81) (v := .ref 5) (m := 1) (ykc_36 (e := (2, .aload_n kF0, 0)) rfl) rfl rfl ?_
            refine w_alu (pc' := 82) (st' := [.ref 5, .ref 5]) (ykc_36 (e := (0, .dup, 0)) rfl) rfl rfl ?_
            refine w_gf (pc' := 85) (v := .int (zn (i * C + j))) (ykc_36 (e := (5, .getfield 60, 0)) rfl) rfl ((u1538.2.1 5 2 (fun q => absurd q.1 (by first | exact Nat.ne_of_beq_eq_false rfl | decide))).trans ((u1536.2.1 5 2 (fun q => absurd q.1 (by first | exact Nat.ne_of_beq_eq_false rfl | decide))).trans g2)) rfl ?_
            refine w_alu (pc' := 86) (st' := [.int (Int32.ofInt 1), .int (zn (i * C + j)), .ref 5]) (ykc_36 (e := (0, .iconst 1, 0)) rfl) rfl rfl ?_
            have e1540 : (zn (i * C + j)) + (Int32.ofInt 1) = zn (i * C + j + 1) := (zaddN (a := i * C + j) (b := 1) (znt (by omega)) c_2 (by omega)) 
            have te1540 := znt (k := i * C + j + 1) (by omega)
            refine w_alu (pc' := 87) (st' := [.int (zn (i * C + j + 1)), .ref 5]) (ykc_36 (e := (0, .iadd, 0)) rfl) (by rw [← e1540]; rfl) rfl ?_
            refine w_pf (pc' := 90) (ykc_36 (e := (5, .putfield 60, 0)) rfl) rfl rfl (fun ph1542 u1541 => ?_)
            have e1543 : (zn j) + Int32.ofInt 1 = zn (j + 1) := (zaddN (a := j) (b := 1) (znt (by omega)) c_2 (by omega))
            have te1543 := znt (k := j + 1) (by omega)
            refine w_store (pc' := 93) (L' := [some (.ref 5), some (.int (zn R)), some (.int (zn C)), some (.long l), none, some (.int (zn i)), some (.int (zn (j + 1)))]) (st' := []) (m := 3) (ykc_36 (e := (3, .iinc 6 1, 0)) rfl) (by rw [← e1543]; rfl) rfl ?_
            refine w_gb (ykc_36 (e := (4, .goto (-53), 40)) rfl) (fun k1544 hk1544 => ?_)
            obtain ⟨d1, d2⟩ := hdm (by omega)
            exact ih1 k1544 hk1544 (by omega) (j + 1) ph1542 (by omega) hiR (zFr_trans hf (zFr_trans (zFr_st u1536 (Or.inl (by first | exact zqi rfl | simp))) (zFr_trans (zFr_st u1538 (Or.inl (by first | exact zqi rfl | simp))) (zFr_st u1541 (Or.inr (by first | exact zqj rfl | simp)))))) ((u1541.2.1 5 0 (fun q => absurd q.2 (by first | exact Nat.ne_of_beq_eq_false rfl | decide))).trans ((u1538.2.1 5 0 (fun q => absurd q.1 (by first | exact Nat.ne_of_beq_eq_false rfl | decide))).trans ((u1536.2.1 5 0 (fun q => absurd q.1 (by first | exact Nat.ne_of_beq_eq_false rfl | decide))).trans g0))) ((u1541.2.1 5 1 (fun q => absurd q.2 (by first | exact Nat.ne_of_beq_eq_false rfl | decide))).trans ((u1538.2.1 5 1 (fun q => absurd q.1 (by first | exact Nat.ne_of_beq_eq_false rfl | decide))).trans ((u1536.2.1 5 1 (fun q => absurd q.1 (by first | exact Nat.ne_of_beq_eq_false rfl | decide))).trans g1))) ((u1541.2.1 5 3 (fun q => absurd q.2 (by first | exact Nat.ne_of_beq_eq_false rfl | decide))).trans ((u1538.2.1 5 3 (fun q => absurd q.1 (by first | exact Nat.ne_of_beq_eq_false rfl | decide))).trans ((u1536.2.1 5 3 (fun q => absurd q.1 (by first | exact Nat.ne_of_beq_eq_false rfl | decide))).trans g3))) ((u1541.2.1 5 4 (fun q => absurd q.2 (by first | exact Nat.ne_of_beq_eq_false rfl | decide))).trans ((u1538.2.1 5 4 (fun q => absurd q.1 (by first | exact Nat.ne_of_beq_eq_false rfl | decide))).trans ((u1536.2.1 5 4 (fun q => absurd q.1 (by first | exact Nat.ne_of_beq_eq_false rfl | decide))).trans g4))) u1541.1 (fun f hf9 => by
              by_cases e : f = i * C + j
              · subst e
                rw [d1, d2]
                exact ⟨(u1541.2.1 6 _ (fun q => absurd q.1 (by first | exact Nat.ne_of_beq_eq_false rfl | decide))).trans ((u1538.2.1 6 _ (fun q => absurd q.1 (by first | exact Nat.ne_of_beq_eq_false rfl | decide))).trans u1536.1), (u1541.2.1 7 _ (fun q => absurd q.1 (by first | exact Nat.ne_of_beq_eq_false rfl | decide))).trans u1538.1⟩
              · have h8 := gr f (by omega)
                exact ⟨(u1541.2.1 6 _ (fun q => absurd q.1 (by first | exact Nat.ne_of_beq_eq_false rfl | decide))).trans ((u1538.2.1 6 _ (fun q => absurd q.1 (by first | exact Nat.ne_of_beq_eq_false rfl | decide))).trans ((u1536.2.1 6 _ (fun q => e q.2)).trans h8.1)), (u1541.2.1 7 _ (fun q => absurd q.1 (by first | exact Nat.ne_of_beq_eq_false rfl | decide))).trans ((u1538.2.1 7 _ (fun q => e q.2)).trans ((u1536.2.1 7 _ (fun q => absurd q.1 (by first | exact Nat.ne_of_beq_eq_false rfl | decide))).trans h8.2))⟩)
      refine w_load (pc' := 30) (v := .int (zn i)) (m := 2) (ykc_36 (e := (2, .iload 5, 0)) rfl) rfl rfl ?_
      refine w_load (pc' := 31) (v := .ref 5) (m := 1) (ykc_36 (e := (2, .aload_n kF0, 0)) rfl) rfl rfl ?_
      refine w_gf (pc' := 34) (v := .int (zn R)) (ykc_36 (e := (5, .getfield 46, 0)) rfl) rfl g0 rfl ?_
      refine w_ige (ykc_36 (e := (4, .if_icmp .ge 68, 102)) rfl) rfl (fun b1545 => ?_) (fun b1545 => ?_)
      · refine w_ret (v := none) (ykc_36 (e := (7, .return_, 0)) rfl) (zr_v rfl) ?_
        have ei : i = R := by omega
        subst ei
        rw [hQ]
        exact ⟨rfl, hf, g4, g0, g1, g2, by rw [← hlr]; exact g3, gr, hR3, hR7, hC3, hC7⟩
      · refine w_alu (pc' := 38) (st' := [.int (Int32.ofInt 0)]) (ykc_36 (e := (0, .iconst 0, 0)) rfl) rfl rfl ?_
        refine w_store (pc' := 40) (L' := [some (.ref 5), some (.int (zn R)), some (.int (zn C)), some (.long l), none, some (.int (zn i)), some (.int (Int32.ofInt 0))]) (st' := []) (m := 2) (ykc_36 (e := (3, .istore 6, 0)) rfl) rfl rfl ?_
        exact hin _ (Nat.le_refl _) 0 ph1 (Nat.zero_le _) (by omega) hf g0 g1 g3 g4 g2 gr
  exact hl n 0 _ ph1531 (Nat.zero_le _) (zFr_trans (zFr_st u1522 (Or.inr (by first | exact zqj rfl | simp))) (zFr_trans (zFr_st u1524 (Or.inr (by first | exact zqj rfl | simp))) (zFr_trans (zFr_st u1526 (Or.inr (by first | exact zqj rfl | simp))) (zFr_trans (zFr_st u1528 (Or.inr (by first | exact zqj rfl | simp))) (zFr_st u1530 (Or.inr (by first | exact zqj rfl | simp))))))) ((u1530.2.1 5 0 (fun q => absurd q.2 (by first | exact Nat.ne_of_beq_eq_false rfl | decide))).trans ((u1528.2.1 5 0 (fun q => absurd q.2 (by first | exact Nat.ne_of_beq_eq_false rfl | decide))).trans ((u1526.2.1 5 0 (fun q => absurd q.2 (by first | exact Nat.ne_of_beq_eq_false rfl | decide))).trans ((u1524.2.1 5 0 (fun q => absurd q.2 (by first | exact Nat.ne_of_beq_eq_false rfl | decide))).trans u1522.1)))) ((u1530.2.1 5 1 (fun q => absurd q.2 (by first | exact Nat.ne_of_beq_eq_false rfl | decide))).trans ((u1528.2.1 5 1 (fun q => absurd q.2 (by first | exact Nat.ne_of_beq_eq_false rfl | decide))).trans ((u1526.2.1 5 1 (fun q => absurd q.2 (by first | exact Nat.ne_of_beq_eq_false rfl | decide))).trans u1524.1))) ((u1530.2.1 5 3 (fun q => absurd q.2 (by first | exact Nat.ne_of_beq_eq_false rfl | decide))).trans ((u1528.2.1 5 3 (fun q => absurd q.2 (by first | exact Nat.ne_of_beq_eq_false rfl | decide))).trans u1526.1)) ((u1530.2.1 5 4 (fun q => absurd q.2 (by first | exact Nat.ne_of_beq_eq_false rfl | decide))).trans u1528.1) (by rw [Nat.zero_mul]; exact u1530.1) (fun f hf9 => absurd hf9 (by rw [Nat.zero_mul]; exact Nat.not_lt_zero f))
theorem zc_vread {ph : pm_H} {ln : Nat} {t : Nat → Nat} (hS : zSh ph) (hT : zTc ph ln t) : zM 34 [.ref 5, .ref 1] ph (fun v q => (zVk ln t ∧ v = some (.int (Int32.ofInt (-1))) ∧ zFr [6, 7] [(5, 0), (5, 1), (5, 2), (5, 3), (5, 4)] ph q ∧ zc q 5 4 = some (.long (Int64.ofNat kG0)) ∧ zCl q (zVd ln t 0) (zVd ln t 1) (zVr t)) ∨ (¬ zVk ln t ∧ ph = q ∧ ∃ k : Nat, v = some (.int (zn k)) ∧ (k : Int) = -1 - zVa ln t ∧ k < 100)) := by
  obtain ⟨Q, hQ⟩ : ∃ Q : Option Value → pm_H → Prop, Q = (fun v q => (zVk ln t ∧ v = some (.int (Int32.ofInt (-1))) ∧ zFr [6, 7] [(5, 0), (5, 1), (5, 2), (5, 3), (5, 4)] ph q ∧ zc q 5 4 = some (.long (Int64.ofNat kG0)) ∧ zCl q (zVd ln t 0) (zVd ln t 1) (zVr t)) ∨ (¬ zVk ln t ∧ ph = q ∧ ∃ k : Nat, v = some (.int (zn k)) ∧ (k : Int) = -1 - zVa ln t ∧ k < 100)) := ⟨_, rfl⟩
  rw [← hQ]
  refine zM_mk fun n D => ?_
  show zW n D 34 Q 0 [some (.ref 5), some (.ref 1), none, none, none, none, none, none, none] [] ph
  have c_0 : ((Int8.ofInt 35).toInt32).toInt = 35 := by decide +kernel
  have c_1 : ((Int8.ofInt 46).toInt32).toInt = 46 := by decide +kernel
  have c_2 : (Int32.ofInt (-1)).toInt = -1 := by decide +kernel
  have c_3 : (Int32.ofInt 0).toInt = 0 := by decide +kernel
  have c_4 : (Int32.ofInt 1).toInt = 1 := by decide +kernel
  have c_5 : (Int32.ofInt 2).toInt = 2 := by decide +kernel
  have hT0 := hT
  obtain ⟨gn, hn80, gt⟩ := hT
  have tn := znt (k := ln) (by omega)
  refine w_load (pc' := 1) (v := .ref 1) (m := 1) (ykc_34 (e := (2, .aload_n kF1, 0)) rfl) rfl rfl ?_
  refine w_alu (pc' := 2) (st' := [.int (Int32.ofInt 0), .ref 1]) (ykc_34 (e := (0, .iconst 0, 0)) rfl) rfl rfl ?_
  refine w_cs (as := [.ref 1, .int (Int32.ofInt 0)]) (r := []) (ykc_34 (e := (6, .invokestatic 29, 0)) rfl) rfl rfl rfl rfl (zc_side hS hT0 (k := 0) (by omega)) (fun v1546 ph1547 hv => ?_)
  rcases hv with ⟨rfl, ⟨z0, rfl⟩ | ⟨z0, rfl⟩⟩
  · show zW n D 34 Q 5 [some (.ref 5), some (.ref 1), none, none, none, none, none, none, none] [.int (Int32.ofInt (-1))] ph
    refine w_store (pc' := 6) (L' := [some (.ref 5), some (.ref 1), some (.int (Int32.ofInt (-1))), none, none, none, none, none, none]) (st' := []) (m := 1) (ykc_34 (e := (3, .istore_n kF2, 0)) rfl) rfl rfl ?_
    refine w_load (pc' := 7) (v := .int (Int32.ofInt (-1))) (m := 1) (ykc_34 (e := (2, .iload_n kF2, 0)) rfl) rfl rfl ?_
    refine w_zge (ykc_34 (e := (4, .ifCond .ge 5, 12)) rfl) rfl (fun q => by exfalso; omega) (fun b1548 => ?_)
    refine w_alu (pc' := 11) (st' := [.int (Int32.ofInt 0)]) (ykc_34 (e := (0, .iconst 0, 0)) rfl) rfl rfl ?_
    refine w_ret (v := (some (.int (Int32.ofInt 0)))) (ykc_34 (e := (7, .ireturn, 0)) rfl) (zr_v rfl) ?_
    rw [hQ]
    exact Or.inr ⟨(zVa_0 z0).2, rfl, 0, rfl, by rw [(zVa_0 z0).1]; omega, by omega⟩
  · have b_z0 := @zVd_b ln 0 t
    have t_z0 := znt (k := zVd ln t 0) (by omega)
    show zW n D 34 Q 5 [some (.ref 5), some (.ref 1), none, none, none, none, none, none, none] [.int (zn (zVd ln t 0))] ph
    refine w_store (pc' := 6) (L' := [some (.ref 5), some (.ref 1), some (.int (zn (zVd ln t 0))), none, none, none, none, none, none]) (st' := []) (m := 1) (ykc_34 (e := (3, .istore_n kF2, 0)) rfl) rfl rfl ?_
    refine w_load (pc' := 7) (v := .int (zn (zVd ln t 0))) (m := 1) (ykc_34 (e := (2, .iload_n kF2, 0)) rfl) rfl rfl ?_
    refine w_zge (ykc_34 (e := (4, .ifCond .ge 5, 12)) rfl) rfl (fun b1549 => ?_) (fun q => by exfalso; omega)
    refine w_load (pc' := 13) (v := .ref 1) (m := 1) (ykc_34 (e := (2, .aload_n kF1, 0)) rfl) rfl rfl ?_
    refine w_alu (pc' := 14) (st' := [.int (Int32.ofInt 1), .ref 1]) (ykc_34 (e := (0, .iconst 1, 0)) rfl) rfl rfl ?_
    refine w_cs (as := [.ref 1, .int (Int32.ofInt 1)]) (r := []) (ykc_34 (e := (6, .invokestatic 29, 0)) rfl) rfl rfl rfl rfl (zc_side hS hT0 (k := 1) (by omega)) (fun v1550 ph1551 hv => ?_)
    rcases hv with ⟨rfl, ⟨z1, rfl⟩ | ⟨z1, rfl⟩⟩
    · show zW n D 34 Q 17 [some (.ref 5), some (.ref 1), some (.int (zn (zVd ln t 0))), none, none, none, none, none, none] [.int (Int32.ofInt (-1))] ph
      refine w_store (pc' := 18) (L' := [some (.ref 5), some (.ref 1), some (.int (zn (zVd ln t 0))), some (.int (Int32.ofInt (-1))), none, none, none, none, none]) (st' := []) (m := 1) (ykc_34 (e := (3, .istore_n kF3, 0)) rfl) rfl rfl ?_
      refine w_load (pc' := 19) (v := .int (Int32.ofInt (-1))) (m := 1) (ykc_34 (e := (2, .iload_n kF3, 0)) rfl) rfl rfl ?_
      refine w_zge (ykc_34 (e := (4, .ifCond .ge 5, 24)) rfl) rfl (fun q => by exfalso; omega) (fun b1552 => ?_)
      refine w_alu (pc' := 23) (st' := [.int (Int32.ofInt 1)]) (ykc_34 (e := (0, .iconst 1, 0)) rfl) rfl rfl ?_
      refine w_ret (v := (some (.int (Int32.ofInt 1)))) (ykc_34 (e := (7, .ireturn, 0)) rfl) (zr_v rfl) ?_
      rw [hQ]
      exact Or.inr ⟨(zVa_1 z0 z1).2, rfl, 1, rfl, by rw [(zVa_1 z0 z1).1]; omega, by omega⟩
    · have b_z1 := @zVd_b ln 1 t
      have t_z1 := znt (k := zVd ln t 1) (by omega)
      show zW n D 34 Q 17 [some (.ref 5), some (.ref 1), some (.int (zn (zVd ln t 0))), none, none, none, none, none, none] [.int (zn (zVd ln t 1))] ph
      refine w_store (pc' := 18) (L' := [some (.ref 5), some (.ref 1), some (.int (zn (zVd ln t 0))), some (.int (zn (zVd ln t 1))), none, none, none, none, none]) (st' := []) (m := 1) (ykc_34 (e := (3, .istore_n kF3, 0)) rfl) rfl rfl ?_
      refine w_load (pc' := 19) (v := .int (zn (zVd ln t 1))) (m := 1) (ykc_34 (e := (2, .iload_n kF3, 0)) rfl) rfl rfl ?_
      refine w_zge (ykc_34 (e := (4, .ifCond .ge 5, 24)) rfl) rfl (fun b1553 => ?_) (fun q => by exfalso; omega)
      refine w_alu (pc' := 25) (st' := [.long (Int64.ofNat kG0)]) (ykc_34 (e := (0, .lconst kG0, 0)) rfl) rfl rfl ?_
      refine w_store (pc' := 27) (L' := [some (.ref 5), some (.ref 1), some (.int (zn (zVd ln t 0))), some (.int (zn (zVd ln t 1))), some (.long (Int64.ofNat kG0)), none, none, none, none]) (st' := []) (m := 2) (ykc_34 (e := (3, .lstore 4, 0)) rfl) rfl rfl ?_
      refine w_load (pc' := 28) (v := .int (zn (zVd ln t 0))) (m := 1) (ykc_34 (e := (2, .iload_n kF2, 0)) rfl) rfl rfl ?_
      refine w_load (pc' := 29) (v := .int (zn (zVd ln t 1))) (m := 1) (ykc_34 (e := (2, .iload_n kF3, 0)) rfl) rfl rfl ?_
      have hN49 : zVd ln t 0 * zVd ln t 1 ≤ 49 := @zVN_b ln t
      have e1554 : (zn (zVd ln t 0)) * (zn (zVd ln t 1)) = zn (zVd ln t 0 * zVd ln t 1) := zn_of (zmulN (by omega) (by omega) (by omega) (by omega))
      have te1554 := znt (k := zVd ln t 0 * zVd ln t 1) (by omega)
      refine w_alu (pc' := 30) (st' := [.int (zn (zVd ln t 0 * zVd ln t 1))]) (ykc_34 (e := (0, .imul, 0)) rfl) (by rw [← e1554]; rfl) rfl ?_
      refine w_store (pc' := 32) (L' := [some (.ref 5), some (.ref 1), some (.int (zn (zVd ln t 0))), some (.int (zn (zVd ln t 1))), some (.long (Int64.ofNat kG0)), none, some (.int (zn (zVd ln t 0 * zVd ln t 1))), none, none]) (st' := []) (m := 2) (ykc_34 (e := (3, .istore 6, 0)) rfl) rfl rfl ?_
      refine w_alu (pc' := 33) (st' := [.int (Int32.ofInt 0)]) (ykc_34 (e := (0, .iconst 0, 0)) rfl) rfl rfl ?_
      refine w_store (pc' := 35) (L' := [some (.ref 5), some (.ref 1), some (.int (zn (zVd ln t 0))), some (.int (zn (zVd ln t 1))), some (.long (Int64.ofNat kG0)), none, some (.int (zn (zVd ln t 0 * zVd ln t 1))), some (.int (Int32.ofInt 0)), none]) (st' := []) (m := 2) (ykc_34 (e := (3, .istore 7, 0)) rfl) rfl rfl ?_
      have hl : ∀ (n : Nat), ∀ (f : Nat) (x8 : Option Value), (f ≤ zVd ln t 0 * zVd ln t 1) → (∀ i, i < f → zVs ln t (2 + i) = true) → zW n D 34 Q 35 [some (.ref 5), some (.ref 1), some (.int (zn (zVd ln t 0))), some (.int (zn (zVd ln t 1))), some (.long (zS (zVr t) f)), none, some (.int (zn (zVd ln t 0 * zVd ln t 1))), some (.int (zn f)), x8] [] ph := by
        intro n
        induction n using Nat.strongRecOn with
        | ind n ih =>
          intro f x8 hf hg
          have tf := znt (k := f) (by omega)
          refine w_load (pc' := 37) (v := .int (zn f)) (m := 2) (ykc_34 (e := (2, .iload 7, 0)) rfl) rfl rfl ?_
          refine w_load (pc' := 39) (v := .int (zn (zVd ln t 0 * zVd ln t 1))) (m := 2) (ykc_34 (e := (2, .iload 6, 0)) rfl) rfl rfl ?_
          refine w_ige (ykc_34 (e := (4, .if_icmp .ge 54, 93)) rfl) rfl (fun b1555 => ?_) (fun b1555 => ?_)
          · refine w_load (pc' := 94) (v := .ref 1) (m := 1) (ykc_34 (e := (2, .aload_n kF1, 0)) rfl) rfl rfl ?_
            refine w_cv (as := [.ref 1]) (r := []) (ykc_34 (e := (6, .invokevirtual 39, 0)) rfl) rfl rfl rfl rfl (zc_tsize gn) (fun v1556 ph1557 hv => ?_)
            obtain ⟨rfl, rfl⟩ := hv
            show zW n D 34 Q 97 [some (.ref 5), some (.ref 1), some (.int (zn (zVd ln t 0))), some (.int (zn (zVd ln t 1))), some (.long (zS (zVr t) f)), none, some (.int (zn (zVd ln t 0 * zVd ln t 1))), some (.int (zn f)), x8] [.int (zn ln)] ph
            refine w_alu (pc' := 98) (st' := [.int (Int32.ofInt 2), .int (zn ln)]) (ykc_34 (e := (0, .iconst 2, 0)) rfl) rfl rfl ?_
            refine w_load (pc' := 100) (v := .int (zn (zVd ln t 0 * zVd ln t 1))) (m := 2) (ykc_34 (e := (2, .iload 6, 0)) rfl) rfl rfl ?_
            have e1558 : (Int32.ofInt 2) + (zn (zVd ln t 0 * zVd ln t 1)) = zn (2 + (zVd ln t 0 * zVd ln t 1)) := (zaddN (a := 2) (b := zVd ln t 0 * zVd ln t 1) c_5 (znt (by omega)) (by omega)) 
            have te1558 := znt (k := 2 + (zVd ln t 0 * zVd ln t 1)) (by omega)
            refine w_alu (pc' := 101) (st' := [.int (zn (2 + (zVd ln t 0 * zVd ln t 1))), .int (zn ln)]) (ykc_34 (e := (0, .iadd, 0)) rfl) (by rw [← e1558]; rfl) rfl ?_
            refine w_ile (ykc_34 (e := (4, .if_icmp .le 8, 109)) rfl) rfl (fun b1559 => ?_) (fun b1559 => ?_)
            · refine w_load (pc' := 110) (v := .ref 5) (m := 1) (ykc_34 (e := (2, .aload_n kF0, 0)) rfl) rfl rfl ?_
              refine w_load (pc' := 111) (v := .int (zn (zVd ln t 0))) (m := 1) (ykc_34 (e := (2, .iload_n kF2, 0)) rfl) rfl rfl ?_
              refine w_load (pc' := 112) (v := .int (zn (zVd ln t 1))) (m := 1) (ykc_34 (e := (2, .iload_n kF3, 0)) rfl) rfl rfl ?_
              refine w_load (pc' := 114) (v := .long (zS (zVr t) f)) (m := 2) (ykc_34 (e := (2, .lload 4, 0)) rfl) rfl rfl ?_
              have ef : f = zVd ln t 0 * zVd ln t 1 := by omega
              refine w_cv (as := [.ref 5, .int (zn (zVd ln t 0)), .int (zn (zVd ln t 1)), .long (zS (zVr t) f)]) (r := []) (ykc_34 (e := (6, .invokevirtual 25, 0)) rfl) rfl rfl rfl rfl (zc_shape (rk := zVr t) hS (by omega) (by omega) (by omega) (by omega) (by rw [ef])) (fun v1560 ph1561 hv => ?_)
              obtain ⟨rfl, fs, g54, gL⟩ := hv
              show zW n D 34 Q 117 [some (.ref 5), some (.ref 1), some (.int (zn (zVd ln t 0))), some (.int (zn (zVd ln t 1))), some (.long (zS (zVr t) f)), none, some (.int (zn (zVd ln t 0 * zVd ln t 1))), some (.int (zn f)), x8] [] ph1561
              refine w_alu (pc' := 118) (st' := [.int (Int32.ofInt (-1))]) (ykc_34 (e := (0, .iconst (-1), 0)) rfl) rfl rfl ?_
              refine w_ret (v := (some (.int (Int32.ofInt (-1))))) (ykc_34 (e := (7, .ireturn, 0)) rfl) (zr_v rfl) ?_
              have eN : f = zVN ln t := by unfold zVN; omega
              have h8 := zVa_4 z0 z1 (by rw [← eN]; exact hg) (show ¬ 2 + zVN ln t < ln by unfold zVN; omega)
              rw [hQ]
              exact Or.inl ⟨h8.2, rfl, fs, g54, gL⟩
            · refine w_alu (pc' := 105) (st' := [.int (Int32.ofInt 2)]) (ykc_34 (e := (0, .iconst 2, 0)) rfl) rfl rfl ?_
              refine w_load (pc' := 107) (v := .int (zn (zVd ln t 0 * zVd ln t 1))) (m := 2) (ykc_34 (e := (2, .iload 6, 0)) rfl) rfl rfl ?_
              have e1562 : (Int32.ofInt 2) + (zn (zVd ln t 0 * zVd ln t 1)) = zn (2 + (zVd ln t 0 * zVd ln t 1)) := (zaddN (a := 2) (b := zVd ln t 0 * zVd ln t 1) c_5 (znt (by omega)) (by omega)) 
              have te1562 := znt (k := 2 + (zVd ln t 0 * zVd ln t 1)) (by omega)
              refine w_alu (pc' := 108) (st' := [.int (zn (2 + (zVd ln t 0 * zVd ln t 1)))]) (ykc_34 (e := (0, .iadd, 0)) rfl) (by rw [← e1562]; rfl) rfl ?_
              refine w_ret (v := (some (.int (zn (2 + (zVd ln t 0 * zVd ln t 1)))))) (ykc_34 (e := (7, .ireturn, 0)) rfl) (zr_v rfl) ?_
              have eN : f = zVN ln t := by unfold zVN; omega
              have h8 := zVa_3 z0 z1 (by rw [← eN]; exact hg) (show 2 + zVN ln t < ln by unfold zVN; omega)
              rw [hQ]
              exact Or.inr ⟨h8.2, rfl, 2 + zVd ln t 0 * zVd ln t 1, rfl, by rw [h8.1]; unfold zVN; omega, by omega⟩
          · refine w_load (pc' := 43) (v := .ref 1) (m := 1) (ykc_34 (e := (2, .aload_n kF1, 0)) rfl) rfl rfl ?_
            refine w_alu (pc' := 44) (st' := [.int (Int32.ofInt 2), .ref 1]) (ykc_34 (e := (0, .iconst 2, 0)) rfl) rfl rfl ?_
            refine w_load (pc' := 46) (v := .int (zn f)) (m := 2) (ykc_34 (e := (2, .iload 7, 0)) rfl) rfl rfl ?_
            have e1563 : (Int32.ofInt 2) + (zn f) = zn (2 + f) := (zaddN (a := 2) (b := f) c_5 (znt (by omega)) (by omega)) 
            have te1563 := znt (k := 2 + f) (by omega)
            refine w_alu (pc' := 47) (st' := [.int (zn (2 + f)), .ref 1]) (ykc_34 (e := (0, .iadd, 0)) rfl) (by rw [← e1563]; rfl) rfl ?_
            refine w_cv (as := [.ref 1, .int (zn (2 + f))]) (r := []) (ykc_34 (e := (6, .invokevirtual 33, 0)) rfl) rfl rfl rfl rfl (zc_at hS hT0 (k := 2 + f) (by omega)) (fun v1565 ph1566 hv => ?_)
            obtain ⟨rfl, g1564, rfl, e_g1564⟩ := hv
            have b_g1564 := @zTi_b ln (2 + f) t (fun h => (gt _ h).2)
            have d_g1564 := @zTi_c ln (2 + f) t
            show zW n D 34 Q 50 [some (.ref 5), some (.ref 1), some (.int (zn (zVd ln t 0))), some (.int (zn (zVd ln t 1))), some (.long (zS (zVr t) f)), none, some (.int (zn (zVd ln t 0 * zVd ln t 1))), some (.int (zn f)), x8] [.int g1564] ph
            refine w_store (pc' := 52) (L' := [some (.ref 5), some (.ref 1), some (.int (zn (zVd ln t 0))), some (.int (zn (zVd ln t 1))), some (.long (zS (zVr t) f)), none, some (.int (zn (zVd ln t 0 * zVd ln t 1))), some (.int (zn f)), some (.int g1564)]) (st' := []) (m := 2) (ykc_34 (e := (3, .istore 8, 0)) rfl) rfl rfl ?_
            refine w_load (pc' := 54) (v := .int g1564) (m := 2) (ykc_34 (e := (2, .iload 8, 0)) rfl) rfl rfl ?_
            refine w_push (pc' := 56) (v := .int ((Int8.ofInt 46).toInt32)) (m := 2) (ykc_34 (e := (1, .bipush 46, 0)) rfl) rfl rfl ?_
            refine w_ieq (ykc_34 (e := (4, .if_icmp .eq 15, 71)) rfl) rfl (fun b1567 => ?_) (fun b1567 => ?_)
            · refine w_load (pc' := 73) (v := .int g1564) (m := 2) (ykc_34 (e := (2, .iload 8, 0)) rfl) rfl rfl ?_
              refine w_push (pc' := 75) (v := .int ((Int8.ofInt 35).toInt32)) (m := 2) (ykc_34 (e := (1, .bipush 35, 0)) rfl) rfl rfl ?_
              refine w_ine (ykc_34 (e := (4, .if_icmp .ne 12, 87)) rfl) rfl (fun b1568 => ?_) (fun b1568 => ?_)
              · have e1569 : (zn f) + Int32.ofInt 1 = zn (f + 1) := (zaddN (a := f) (b := 1) (znt (by omega)) c_4 (by omega))
                have te1569 := znt (k := f + 1) (by omega)
                refine w_store (pc' := 90) (L' := [some (.ref 5), some (.ref 1), some (.int (zn (zVd ln t 0))), some (.int (zn (zVd ln t 1))), some (.long (zS (zVr t) f)), none, some (.int (zn (zVd ln t 0 * zVd ln t 1))), some (.int (zn (f + 1))), some (.int g1564)]) (st' := []) (m := 3) (ykc_34 (e := (3, .iinc 7 1, 0)) rfl) (by rw [← e1569]; rfl) rfl ?_
                refine w_gb (ykc_34 (e := (4, .goto (-55), 35)) rfl) (fun k1570 hk1570 => ?_)
                have hgood : 2 + f < ln ∧ (t (2 + f) = 46 ∨ t (2 + f) = 35) := by omega
                have er : zVr t f = false := decide_eq_false (by omega)
                have es : zS (zVr t) (f + 1) = zS (zVr t) f := by
                  rw [zS_s, er]
                  exact zor0 _
                have h9 := ih k1570 hk1570 (f + 1) (some (.int g1564)) (by omega) (fun i hi => by
                  by_cases e : i = f
                  · subst e; exact zVs_1 hgood
                  · exact hg i (by omega))
                rw [es] at h9
                exact h9
              · refine w_load (pc' := 80) (v := .long (zS (zVr t) f)) (m := 2) (ykc_34 (e := (2, .lload 4, 0)) rfl) rfl rfl ?_
                refine w_alu (pc' := 81) (st' := [.long (Int64.ofNat kG1), .long (zS (zVr t) f)]) (ykc_34 (e := (0, .lconst kG1, 0)) rfl) rfl rfl ?_
                refine w_load (pc' := 83) (v := .int (zn f)) (m := 2) (ykc_34 (e := (2, .iload 7, 0)) rfl) rfl rfl ?_
                refine w_alu (pc' := 84) (st' := [.long ((Int64.ofNat kG1) <<< ((zn f).toInt64 &&& 63)), .long (zS (zVr t) f)]) (ykc_34 (e := (0, .lshl, 0)) rfl) rfl rfl ?_
                refine w_alu (pc' := 85) (st' := [.long ((zS (zVr t) f) ||| ((Int64.ofNat kG1) <<< ((zn f).toInt64 &&& 63)))]) (ykc_34 (e := (0, .lor, 0)) rfl) rfl rfl ?_
                refine w_store (pc' := 87) (L' := [some (.ref 5), some (.ref 1), some (.int (zn (zVd ln t 0))), some (.int (zn (zVd ln t 1))), some (.long ((zS (zVr t) f) ||| ((Int64.ofNat kG1) <<< ((zn f).toInt64 &&& 63)))), none, some (.int (zn (zVd ln t 0 * zVd ln t 1))), some (.int (zn f)), some (.int g1564)]) (st' := []) (m := 2) (ykc_34 (e := (3, .lstore 4, 0)) rfl) rfl rfl ?_
                have e1571 : (zn f) + Int32.ofInt 1 = zn (f + 1) := (zaddN (a := f) (b := 1) (znt (by omega)) c_4 (by omega))
                have te1571 := znt (k := f + 1) (by omega)
                refine w_store (pc' := 90) (L' := [some (.ref 5), some (.ref 1), some (.int (zn (zVd ln t 0))), some (.int (zn (zVd ln t 1))), some (.long ((zS (zVr t) f) ||| ((Int64.ofNat kG1) <<< ((zn f).toInt64 &&& 63)))), none, some (.int (zn (zVd ln t 0 * zVd ln t 1))), some (.int (zn (f + 1))), some (.int g1564)]) (st' := []) (m := 3) (ykc_34 (e := (3, .iinc 7 1, 0)) rfl) (by rw [← e1571]; rfl) rfl ?_
                refine w_gb (ykc_34 (e := (4, .goto (-55), 35)) rfl) (fun k1572 hk1572 => ?_)
                have hgood : 2 + f < ln ∧ (t (2 + f) = 46 ∨ t (2 + f) = 35) := by omega
                have er : zVr t f = true := decide_eq_true (by omega)
                have es : zS (zVr t) (f + 1) = (zS (zVr t) f) ||| ((Int64.ofNat kG1) <<< ((zn f).toInt64 &&& 63)) := by
                  rw [zS_s, er]
                  rfl
                have h9 := ih k1572 hk1572 (f + 1) (some (.int g1564)) (by omega) (fun i hi => by
                  by_cases e : i = f
                  · subst e; exact zVs_1 hgood
                  · exact hg i (by omega))
                rw [es] at h9
                exact h9
            · refine w_load (pc' := 61) (v := .int g1564) (m := 2) (ykc_34 (e := (2, .iload 8, 0)) rfl) rfl rfl ?_
              refine w_push (pc' := 63) (v := .int ((Int8.ofInt 35).toInt32)) (m := 2) (ykc_34 (e := (1, .bipush 35, 0)) rfl) rfl rfl ?_
              refine w_ieq (ykc_34 (e := (4, .if_icmp .eq 8, 71)) rfl) rfl (fun b1573 => ?_) (fun b1573 => ?_)
              · refine w_load (pc' := 73) (v := .int g1564) (m := 2) (ykc_34 (e := (2, .iload 8, 0)) rfl) rfl rfl ?_
                refine w_push (pc' := 75) (v := .int ((Int8.ofInt 35).toInt32)) (m := 2) (ykc_34 (e := (1, .bipush 35, 0)) rfl) rfl rfl ?_
                refine w_ine (ykc_34 (e := (4, .if_icmp .ne 12, 87)) rfl) rfl (fun b1574 => ?_) (fun b1574 => ?_)
                · have e1575 : (zn f) + Int32.ofInt 1 = zn (f + 1) := (zaddN (a := f) (b := 1) (znt (by omega)) c_4 (by omega))
                  have te1575 := znt (k := f + 1) (by omega)
                  refine w_store (pc' := 90) (L' := [some (.ref 5), some (.ref 1), some (.int (zn (zVd ln t 0))), some (.int (zn (zVd ln t 1))), some (.long (zS (zVr t) f)), none, some (.int (zn (zVd ln t 0 * zVd ln t 1))), some (.int (zn (f + 1))), some (.int g1564)]) (st' := []) (m := 3) (ykc_34 (e := (3, .iinc 7 1, 0)) rfl) (by rw [← e1575]; rfl) rfl ?_
                  refine w_gb (ykc_34 (e := (4, .goto (-55), 35)) rfl) (fun k1576 hk1576 => ?_)
                  have hgood : 2 + f < ln ∧ (t (2 + f) = 46 ∨ t (2 + f) = 35) := by omega
                  have er : zVr t f = false := decide_eq_false (by omega)
                  have es : zS (zVr t) (f + 1) = zS (zVr t) f := by
                    rw [zS_s, er]
                    exact zor0 _
                  have h9 := ih k1576 hk1576 (f + 1) (some (.int g1564)) (by omega) (fun i hi => by
                    by_cases e : i = f
                    · subst e; exact zVs_1 hgood
                    · exact hg i (by omega))
                  rw [es] at h9
                  exact h9
                · refine w_load (pc' := 80) (v := .long (zS (zVr t) f)) (m := 2) (ykc_34 (e := (2, .lload 4, 0)) rfl) rfl rfl ?_
                  refine w_alu (pc' := 81) (st' := [.long (Int64.ofNat kG1), .long (zS (zVr t) f)]) (ykc_34 (e := (0, .lconst kG1, 0)) rfl) rfl rfl ?_
                  refine w_load (pc' := 83) (v := .int (zn f)) (m := 2) (ykc_34 (e := (2, .iload 7, 0)) rfl) rfl rfl ?_
                  refine w_alu (pc' := 84) (st' := [.long ((Int64.ofNat kG1) <<< ((zn f).toInt64 &&& 63)), .long (zS (zVr t) f)]) (ykc_34 (e := (0, .lshl, 0)) rfl) rfl rfl ?_
                  refine w_alu (pc' := 85) (st' := [.long ((zS (zVr t) f) ||| ((Int64.ofNat kG1) <<< ((zn f).toInt64 &&& 63)))]) (ykc_34 (e := (0, .lor, 0)) rfl) rfl rfl ?_
                  refine w_store (pc' := 87) (L' := [some (.ref 5), some (.ref 1), some (.int (zn (zVd ln t 0))), some (.int (zn (zVd ln t 1))), some (.long ((zS (zVr t) f) ||| ((Int64.ofNat kG1) <<< ((zn f).toInt64 &&& 63)))), none, some (.int (zn (zVd ln t 0 * zVd ln t 1))), some (.int (zn f)), some (.int g1564)]) (st' := []) (m := 2) (ykc_34 (e := (3, .lstore 4, 0)) rfl) rfl rfl ?_
                  have e1577 : (zn f) + Int32.ofInt 1 = zn (f + 1) := (zaddN (a := f) (b := 1) (znt (by omega)) c_4 (by omega))
                  have te1577 := znt (k := f + 1) (by omega)
                  refine w_store (pc' := 90) (L' := [some (.ref 5), some (.ref 1), some (.int (zn (zVd ln t 0))), some (.int (zn (zVd ln t 1))), some (.long ((zS (zVr t) f) ||| ((Int64.ofNat kG1) <<< ((zn f).toInt64 &&& 63)))), none, some (.int (zn (zVd ln t 0 * zVd ln t 1))), some (.int (zn (f + 1))), some (.int g1564)]) (st' := []) (m := 3) (ykc_34 (e := (3, .iinc 7 1, 0)) rfl) (by rw [← e1577]; rfl) rfl ?_
                  refine w_gb (ykc_34 (e := (4, .goto (-55), 35)) rfl) (fun k1578 hk1578 => ?_)
                  have hgood : 2 + f < ln ∧ (t (2 + f) = 46 ∨ t (2 + f) = 35) := by omega
                  have er : zVr t f = true := decide_eq_true (by omega)
                  have es : zS (zVr t) (f + 1) = (zS (zVr t) f) ||| ((Int64.ofNat kG1) <<< ((zn f).toInt64 &&& 63)) := by
                    rw [zS_s, er]
                    rfl
                  have h9 := ih k1578 hk1578 (f + 1) (some (.int g1564)) (by omega) (fun i hi => by
                    by_cases e : i = f
                    · subst e; exact zVs_1 hgood
                    · exact hg i (by omega))
                  rw [es] at h9
                  exact h9
              · refine w_alu (pc' := 67) (st' := [.int (Int32.ofInt 2)]) (ykc_34 (e := (0, .iconst 2, 0)) rfl) rfl rfl ?_
                refine w_load (pc' := 69) (v := .int (zn f)) (m := 2) (ykc_34 (e := (2, .iload 7, 0)) rfl) rfl rfl ?_
                have e1579 : (Int32.ofInt 2) + (zn f) = zn (2 + f) := (zaddN (a := 2) (b := f) c_5 (znt (by omega)) (by omega)) 
                have te1579 := znt (k := 2 + f) (by omega)
                refine w_alu (pc' := 70) (st' := [.int (zn (2 + f))]) (ykc_34 (e := (0, .iadd, 0)) rfl) (by rw [← e1579]; rfl) rfl ?_
                refine w_ret (v := (some (.int (zn (2 + f))))) (ykc_34 (e := (7, .ireturn, 0)) rfl) (zr_v rfl) ?_
                have hbad : ¬ (2 + f < ln ∧ (t (2 + f) = 46 ∨ t (2 + f) = 35)) := by
                  intro h9
                  omega
                have h8 := zVa_2 z0 z1 hg (zVs_0 hbad) (show f < zVN ln t by unfold zVN; omega)
                rw [hQ]
                exact Or.inr ⟨h8.2, rfl, 2 + f, rfl, by rw [h8.1]; omega, by omega⟩
      exact hl n 0 _ (Nat.zero_le _) (fun i hi => absurd hi (Nat.not_lt_zero i))
theorem zc_stclear {ph : pm_H} (hS : zSh ph) : zM 102 [.ref 25] ph (fun v q => v = none ∧ zFr [] [(25, 0), (25, 1), (25, 2)] ph q ∧ zc q 25 0 = some (.int (zn 0)) ∧ zc q 25 1 = some (.int (zn 0)) ∧ zc q 25 2 = some (.int (zn 0))) := by
  obtain ⟨Q, hQ⟩ : ∃ Q : Option Value → pm_H → Prop, Q = (fun v q => v = none ∧ zFr [] [(25, 0), (25, 1), (25, 2)] ph q ∧ zc q 25 0 = some (.int (zn 0)) ∧ zc q 25 1 = some (.int (zn 0)) ∧ zc q 25 2 = some (.int (zn 0))) := ⟨_, rfl⟩
  rw [← hQ]
  refine zM_mk fun n D => ?_
  show zW n D 102 Q 0 [some (.ref 25)] [] ph
  have c_0 : (Int32.ofInt 0).toInt = 0 := by decide +kernel
  refine w_load (pc' := 1) (v := .ref 25) (m := 1) (ykc_102 (e := (2, .aload_n kF0, 0)) rfl) rfl rfl ?_
  refine w_alu (pc' := 2) (st' := [.int (Int32.ofInt 0), .ref 25]) (ykc_102 (e := (0, .iconst 0, 0)) rfl) rfl rfl ?_
  refine w_pf (pc' := 5) (ykc_102 (e := (5, .putfield 30, 0)) rfl) rfl rfl (fun ph1581 u1580 => ?_)
  refine w_load (pc' := 6) (v := .ref 25) (m := 1) (ykc_102 (e := (2, .aload_n kF0, 0)) rfl) rfl rfl ?_
  refine w_alu (pc' := 7) (st' := [.int (Int32.ofInt 0), .ref 25]) (ykc_102 (e := (0, .iconst 0, 0)) rfl) rfl rfl ?_
  refine w_pf (pc' := 10) (ykc_102 (e := (5, .putfield 34, 0)) rfl) rfl rfl (fun ph1583 u1582 => ?_)
  refine w_load (pc' := 11) (v := .ref 25) (m := 1) (ykc_102 (e := (2, .aload_n kF0, 0)) rfl) rfl rfl ?_
  refine w_alu (pc' := 12) (st' := [.int (Int32.ofInt 0), .ref 25]) (ykc_102 (e := (0, .iconst 0, 0)) rfl) rfl rfl ?_
  refine w_pf (pc' := 15) (ykc_102 (e := (5, .putfield 37, 0)) rfl) rfl rfl (fun ph1585 u1584 => ?_)
  refine w_ret (v := none) (ykc_102 (e := (7, .return_, 0)) rfl) (zr_v rfl) ?_
  rw [hQ]
  exact ⟨rfl, zFr_trans (zFr_st u1580 (Or.inr (by first | exact zqj rfl | simp))) (zFr_trans (zFr_st u1582 (Or.inr (by first | exact zqj rfl | simp))) (zFr_st u1584 (Or.inr (by first | exact zqj rfl | simp)))), ((u1584.2.1 25 0 (fun q => absurd q.2 (by first | exact Nat.ne_of_beq_eq_false rfl | decide))).trans ((u1582.2.1 25 0 (fun q => absurd q.2 (by first | exact Nat.ne_of_beq_eq_false rfl | decide))).trans u1580.1)), ((u1584.2.1 25 1 (fun q => absurd q.2 (by first | exact Nat.ne_of_beq_eq_false rfl | decide))).trans u1582.1), u1584.1⟩
theorem zc_hclear {ph : pm_H} (hS : zSh ph) : zM 30 [.ref 43] ph (fun v q => v = none ∧ zFr [] [(43, 2), (43, 4)] ph q ∧ zc q 43 2 = some (.int (zn 0)) ∧ zc q 43 4 = some (.int (zn 0))) := by
  obtain ⟨Q, hQ⟩ : ∃ Q : Option Value → pm_H → Prop, Q = (fun v q => v = none ∧ zFr [] [(43, 2), (43, 4)] ph q ∧ zc q 43 2 = some (.int (zn 0)) ∧ zc q 43 4 = some (.int (zn 0))) := ⟨_, rfl⟩
  rw [← hQ]
  refine zM_mk fun n D => ?_
  show zW n D 30 Q 0 [some (.ref 43)] [] ph
  have c_0 : (Int32.ofInt 0).toInt = 0 := by decide +kernel
  refine w_load (pc' := 1) (v := .ref 43) (m := 1) (ykc_30 (e := (2, .aload_n kF0, 0)) rfl) rfl rfl ?_
  refine w_alu (pc' := 2) (st' := [.int (Int32.ofInt 0), .ref 43]) (ykc_30 (e := (0, .iconst 0, 0)) rfl) rfl rfl ?_
  refine w_pf (pc' := 5) (ykc_30 (e := (5, .putfield 26, 0)) rfl) rfl rfl (fun ph1587 u1586 => ?_)
  refine w_load (pc' := 6) (v := .ref 43) (m := 1) (ykc_30 (e := (2, .aload_n kF0, 0)) rfl) rfl rfl ?_
  refine w_alu (pc' := 7) (st' := [.int (Int32.ofInt 0), .ref 43]) (ykc_30 (e := (0, .iconst 0, 0)) rfl) rfl rfl ?_
  refine w_pf (pc' := 10) (ykc_30 (e := (5, .putfield 19, 0)) rfl) rfl rfl (fun ph1589 u1588 => ?_)
  refine w_ret (v := none) (ykc_30 (e := (7, .return_, 0)) rfl) (zr_v rfl) ?_
  rw [hQ]
  exact ⟨rfl, zFr_trans (zFr_st u1586 (Or.inr (by first | exact zqj rfl | simp))) (zFr_st u1588 (Or.inr (by first | exact zqj rfl | simp))), ((u1588.2.1 43 2 (fun q => absurd q.2 (by first | exact Nat.ne_of_beq_eq_false rfl | decide))).trans u1586.1), u1588.1⟩
theorem zCc_0 {q : pm_H} {R C : Nat} {rk : Nat → Bool} (h : zc q 5 4 = some (.long (Int64.ofNat kG0))) : zCc q R C rk := ⟨_, h, fun f hf hb => by
  rw [zL0] at hb
  simp [zb] at hb⟩
theorem zVa_k {n : Nat} {t : Nat → Nat} (h : zVk n t) : zVa n t = (zVN n t : Nat) := by
  obtain ⟨h0, h1, h2, h3⟩ := h
  unfold zVa
  rw [if_neg h0, if_neg h1, h2, if_neg (Nat.lt_irrefl _), if_neg (by omega)]
theorem zc_valley {ph : pm_H} {ln : Nat} {t : Nat → Nat} {R C P G nx u fl hn : Nat} {rk : Nat → Bool} {v : Nat → Nat} {w : Nat → Nat → Nat} {sv : Nat → Nat → Nat} (hS : zSh ph) (hT : zTc ph ln t) (hK : zKC ph R C rk P G v nx u w fl sv hn) : zM 124 [.ref 0] ph (fun v0 q => ∃ z : Int32, v0 = some (.int z) ∧ z.toInt = zVa ln t ∧ ((zVk ln t ∧ zCc q (zVd ln t 0) (zVd ln t 1) (zVr t) ∧ zKC q (zVd ln t 0) (zVd ln t 1) (zVr t) 0 0 (znu v 40 0) nx 0 w 0 sv 0) ∨ (¬ zVk ln t ∧ zKC q R C rk P G v nx u w fl sv hn ∧ zFr [] [(1, 1)] ph q))) := by
  obtain ⟨Q, hQ⟩ : ∃ Q : Option Value → pm_H → Prop, Q = (fun v0 q => ∃ z : Int32, v0 = some (.int z) ∧ z.toInt = zVa ln t ∧ ((zVk ln t ∧ zCc q (zVd ln t 0) (zVd ln t 1) (zVr t) ∧ zKC q (zVd ln t 0) (zVd ln t 1) (zVr t) 0 0 (znu v 40 0) nx 0 w 0 sv 0) ∨ (¬ zVk ln t ∧ zKC q R C rk P G v nx u w fl sv hn ∧ zFr [] [(1, 1)] ph q))) := ⟨_, rfl⟩
  rw [← hQ]
  refine zM_mk fun n D => ?_
  show zW n D 124 Q 0 [some (.ref 0), none] [] ph
  have c_0 : (Int32.ofInt (-1)).toInt = -1 := by decide +kernel
  obtain ⟨hL, hd, hU, hk, hh⟩ := hK
  have hT0 := hT
  obtain ⟨gn, hn80, gt⟩ := hT
  have tn := znt (k := ln) (by omega)
  refine w_load (pc' := 1) (v := .ref 0) (m := 1) (ykc_124 (e := (2, .aload_n kF0, 0)) rfl) rfl rfl ?_
  refine w_gf (pc' := 4) (v := .ref 5) (ykc_124 (e := (5, .getfield 26, 0)) rfl) rfl (zsg hS zs_0_2) rfl ?_
  refine w_load (pc' := 5) (v := .ref 0) (m := 1) (ykc_124 (e := (2, .aload_n kF0, 0)) rfl) rfl rfl ?_
  refine w_gf (pc' := 8) (v := .ref 1) (ykc_124 (e := (5, .getfield 10, 0)) rfl) rfl (zsg hS zs_0_0) rfl ?_
  refine w_cv (as := [.ref 5, .ref 1]) (r := []) (ykc_124 (e := (6, .invokevirtual 115, 0)) rfl) rfl rfl rfl rfl (zc_vread hS hT0) (fun v1590 ph1591 hv => ?_)
  rcases hv with ⟨gK, rfl, fs, g54, gL⟩ | ⟨gK, rfl, k9, rfl, ek9, hk9⟩
  · have cm : (Int32.ofInt (-1)).toInt = -1 := by decide
    show zW n D 124 Q 11 [some (.ref 0), none] [.int (Int32.ofInt (-1))] ph1591
    refine w_store (pc' := 12) (L' := [some (.ref 0), some (.int (Int32.ofInt (-1)))]) (st' := []) (m := 1) (ykc_124 (e := (3, .istore_n kF1, 0)) rfl) rfl rfl ?_
    refine w_load (pc' := 13) (v := .ref 0) (m := 1) (ykc_124 (e := (2, .aload_n kF0, 0)) rfl) rfl rfl ?_
    refine w_gf (pc' := 16) (v := .ref 1) (ykc_124 (e := (5, .getfield 10, 0)) rfl) rfl ((fs.1 0 0 (by first | exact zqm rfl | decide) (by first | exact zqp rfl | decide)).trans (zsg hS zs_0_0)) rfl ?_
    refine w_cv (as := [.ref 1]) (r := []) (ykc_124 (e := (6, .invokevirtual 119, 0)) rfl) rfl rfl rfl rfl (zc_tclear) (fun v1592 ph1593 hv => ?_)
    obtain ⟨rfl, ft, gt1⟩ := hv
    show zW n D 124 Q 19 [some (.ref 0), some (.int (Int32.ofInt (-1)))] [] ph1593
    refine w_load (pc' := 20) (v := .int (Int32.ofInt (-1))) (m := 1) (ykc_124 (e := (2, .iload_n kF1, 0)) rfl) rfl rfl ?_
    refine w_zlt (ykc_124 (e := (4, .ifCond .lt 7, 27)) rfl) rfl (fun b1594 => ?_) (fun q => by exfalso; omega)
    refine w_load (pc' := 28) (v := .ref 0) (m := 1) (ykc_124 (e := (2, .aload_n kF0, 0)) rfl) rfl rfl ?_
    refine w_gf (pc' := 31) (v := .ref 25) (ykc_124 (e := (5, .getfield 42, 0)) rfl) rfl ((ft.1 0 4 (by first | exact zqm rfl | decide) (by first | exact zqp rfl | decide)).trans ((fs.1 0 4 (by first | exact zqm rfl | decide) (by first | exact zqp rfl | decide)).trans (zsg hS zs_0_4))) rfl ?_
    refine w_cv (as := [.ref 25]) (r := []) (ykc_124 (e := (6, .invokevirtual 122, 0)) rfl) rfl rfl rfl rfl (zc_stclear (zSh_F (F := [(1, 1), (5, 0), (5, 1), (5, 2), (5, 3), (5, 4)]) (A := [6, 7]) (zFr_trans (zFr_mono fs (by first | exact zqa rfl | simp) (by first | exact zqf rfl | simp)) (zFr_mono ft (by first | exact zqa rfl | simp) (by first | exact zqf rfl | simp))) (by decide +kernel) hS)) (fun v1595 ph1596 hv => ?_)
    obtain ⟨rfl, fc, gc0, gc1, gc2⟩ := hv
    show zW n D 124 Q 34 [some (.ref 0), some (.int (Int32.ofInt (-1)))] [] ph1596
    refine w_load (pc' := 35) (v := .ref 0) (m := 1) (ykc_124 (e := (2, .aload_n kF0, 0)) rfl) rfl rfl ?_
    refine w_gf (pc' := 38) (v := .ref 43) (ykc_124 (e := (5, .getfield 55, 0)) rfl) rfl ((fc.1 0 7 (by first | exact zqm rfl | decide) (by first | exact zqp rfl | decide)).trans ((ft.1 0 7 (by first | exact zqm rfl | decide) (by first | exact zqp rfl | decide)).trans ((fs.1 0 7 (by first | exact zqm rfl | decide) (by first | exact zqp rfl | decide)).trans (zsg hS zs_0_7)))) rfl ?_
    refine w_cv (as := [.ref 43]) (r := []) (ykc_124 (e := (6, .invokevirtual 123, 0)) rfl) rfl rfl rfl rfl (zc_hclear (zSh_F (F := [(1, 1), (5, 0), (5, 1), (5, 2), (5, 3), (5, 4), (25, 0), (25, 1), (25, 2)]) (A := [6, 7]) (zFr_trans (zFr_mono fs (by first | exact zqa rfl | simp) (by first | exact zqf rfl | simp)) (zFr_trans (zFr_mono ft (by first | exact zqa rfl | simp) (by first | exact zqf rfl | simp)) (zFr_mono fc (by first | exact zqa rfl | simp) (by first | exact zqf rfl | simp)))) (by decide +kernel) hS)) (fun v1597 ph1598 hv => ?_)
    obtain ⟨rfl, fh, gh2, gh4⟩ := hv
    show zW n D 124 Q 41 [some (.ref 0), some (.int (Int32.ofInt (-1)))] [] ph1598
    refine w_load (pc' := 42) (v := .ref 0) (m := 1) (ykc_124 (e := (2, .aload_n kF0, 0)) rfl) rfl rfl ?_
    refine w_cv (as := [.ref 0]) (r := []) (ykc_124 (e := (6, .invokevirtual 124, 0)) rfl) rfl rfl rfl rfl (zc_forgetH) (fun v1599 ph1600 hv => ?_)
    obtain ⟨rfl, fg, gg⟩ := hv
    show zW n D 124 Q 45 [some (.ref 0), some (.int (Int32.ofInt (-1)))] [] ph1600
    refine w_load (pc' := 46) (v := .ref 0) (m := 1) (ykc_124 (e := (2, .aload_n kF0, 0)) rfl) rfl rfl ?_
    refine w_gf (pc' := 49) (v := .ref 5) (ykc_124 (e := (5, .getfield 26, 0)) rfl) rfl ((fg.1 0 2 (by first | exact zqm rfl | decide) (by first | exact zqp rfl | decide)).trans ((fh.1 0 2 (by first | exact zqm rfl | decide) (by first | exact zqp rfl | decide)).trans ((fc.1 0 2 (by first | exact zqm rfl | decide) (by first | exact zqp rfl | decide)).trans ((ft.1 0 2 (by first | exact zqm rfl | decide) (by first | exact zqp rfl | decide)).trans ((fs.1 0 2 (by first | exact zqm rfl | decide) (by first | exact zqp rfl | decide)).trans (zsg hS zs_0_2)))))) rfl ?_
    have f9 : zFr [] [(0, 13), (0, 14), (1, 1), (25, 0), (25, 1), (25, 2), (43, 2), (43, 4)] ph1591 _ := zFr_trans (zFr_mono ft (by first | exact zqa rfl | simp) (by first | exact zqf rfl | simp)) (zFr_trans (zFr_mono fc (by first | exact zqa rfl | simp) (by first | exact zqf rfl | simp)) (zFr_trans (zFr_mono fh (by first | exact zqa rfl | simp) (by first | exact zqf rfl | simp)) (zFr_mono fg (by first | exact zqa rfl | simp) (by first | exact zqf rfl | simp))))
    have f8 : zFr [6, 7] [(0, 13), (0, 14), (1, 1), (5, 0), (5, 1), (5, 2), (5, 3), (5, 4), (25, 0), (25, 1), (25, 2), (43, 2), (43, 4)] ph _ := zFr_trans (zFr_mono fs (by first | exact zqa rfl | simp) (by first | exact zqf rfl | simp)) (zFr_mono f9 (by first | exact zqa rfl | simp) (by first | exact zqf rfl | simp))
    have gL9 := zCl_F f9 (by first | exact ⟨zqm rfl, zqm rfl, zqm rfl⟩ | simp) (by intro i hi; simp) (by simp) gL
    have hS9 := zSh_F f8 (by decide +kernel) hS
    refine w_cv (as := [.ref 5]) (r := []) (ykc_124 (e := (6, .invokevirtual 127, 0)) rfl) rfl rfl rfl rfl (zc_fields hS9 gL9) (fun v1601 ph1602 hv => ?_)
    obtain ⟨rfl, rfl⟩ := hv
    show zW n D 124 Q 52 [some (.ref 0), some (.int (Int32.ofInt (-1)))] [.int (zn (zVd ln t 0 * zVd ln t 1))] ph1600
    refine w_ret (v := (some (.int (zn (zVd ln t 0 * zVd ln t 1))))) (ykc_124 (e := (7, .ireturn, 0)) rfl) (zr_v rfl) ?_
    have e4 := zVa_k gK
    rw [hQ]
    refine ⟨_, rfl, ?_, Or.inl ⟨gK, zCc_0 ((f9.1 5 4 (by first | exact zqm rfl | decide) (by first | exact zqp rfl | decide)).trans g54), gL9, ⟨((fg.1 25 0 (by first | exact zqm rfl | decide) (by first | exact zqp rfl | decide)).trans ((fh.1 25 0 (by first | exact zqm rfl | decide) (by first | exact zqp rfl | decide)).trans gc0)), by decide, ((fg.1 25 1 (by first | exact zqm rfl | decide) (by first | exact zqp rfl | decide)).trans ((fh.1 25 1 (by first | exact zqm rfl | decide) (by first | exact zqp rfl | decide)).trans gc1)), by decide, ((fg.1 25 2 (by first | exact zqm rfl | decide) (by first | exact zqp rfl | decide)).trans ((fh.1 25 2 (by first | exact zqm rfl | decide) (by first | exact zqp rfl | decide)).trans gc2)), fun i hi => absurd hi (Nat.not_lt_zero i), fun i hi => absurd hi (Nat.not_lt_zero i)⟩, ⟨(f8.1 43 1 (by first | exact zqm rfl | decide) (by first | exact zqp rfl | decide)).trans hU.1, hU.2.1, (fg.1 43 2 (by first | exact zqm rfl | decide) (by first | exact zqp rfl | decide)).trans gh2, by decide, fun i hi => absurd hi (Nat.not_lt_zero i)⟩, ⟨(fg.1 43 4 (by first | exact zqm rfl | decide) (by first | exact zqp rfl | decide)).trans gh4, by decide, fun i hi h => absurd h (by rw [Nat.zero_testBit]; decide)⟩, gg, by decide⟩⟩
    have h49 := @zVN_b ln t
    unfold zVN at h49 e4
    rw [e4, znt (by omega)]
  · have tk := znt (k := k9) (by omega)
    have cm : (Int32.ofInt (-1)).toInt = -1 := by decide
    show zW n D 124 Q 11 [some (.ref 0), none] [.int (zn k9)] ph
    refine w_store (pc' := 12) (L' := [some (.ref 0), some (.int (zn k9))]) (st' := []) (m := 1) (ykc_124 (e := (3, .istore_n kF1, 0)) rfl) rfl rfl ?_
    refine w_load (pc' := 13) (v := .ref 0) (m := 1) (ykc_124 (e := (2, .aload_n kF0, 0)) rfl) rfl rfl ?_
    refine w_gf (pc' := 16) (v := .ref 1) (ykc_124 (e := (5, .getfield 10, 0)) rfl) rfl (zsg hS zs_0_0) rfl ?_
    refine w_cv (as := [.ref 1]) (r := []) (ykc_124 (e := (6, .invokevirtual 119, 0)) rfl) rfl rfl rfl rfl (zc_tclear) (fun v1603 ph1604 hv => ?_)
    obtain ⟨rfl, ft, gt1⟩ := hv
    show zW n D 124 Q 19 [some (.ref 0), some (.int (zn k9))] [] ph1604
    refine w_load (pc' := 20) (v := .int (zn k9)) (m := 1) (ykc_124 (e := (2, .iload_n kF1, 0)) rfl) rfl rfl ?_
    refine w_zlt (ykc_124 (e := (4, .ifCond .lt 7, 27)) rfl) rfl (fun q => by exfalso; omega) (fun b1605 => ?_)
    refine w_alu (pc' := 24) (st' := [.int (Int32.ofInt (-1))]) (ykc_124 (e := (0, .iconst (-1), 0)) rfl) rfl rfl ?_
    refine w_load (pc' := 25) (v := .int (zn k9)) (m := 1) (ykc_124 (e := (2, .iload_n kF1, 0)) rfl) rfl rfl ?_
    obtain ⟨z1606, e_z1606, h_z1606⟩ : ∃ zq : Int32, (Int32.ofInt (-1)) - (zn k9) = zq ∧ zq.toInt = (-1 : Int) - ((k9 : Nat) : Int) := ⟨_, rfl, zm1sub (by omega) (by omega) (by omega)⟩
    refine w_alu (pc' := 26) (st' := [.int z1606]) (ykc_124 (e := (0, .isub, 0)) rfl) (by rw [← e_z1606]; rfl) rfl ?_
    refine w_ret (v := (some (.int z1606))) (ykc_124 (e := (7, .ireturn, 0)) rfl) (zr_v rfl) ?_
    rw [hQ]
    exact ⟨_, rfl, by omega, Or.inr ⟨gK, ⟨zCl_F ft (by first | exact ⟨zqm rfl, zqm rfl, zqm rfl⟩ | simp) (by intro i hi; simp <;> omega) (by simp) hL, zSd_F ft (by first | exact (fun _ _ => zqm rfl) | simp) (by intro j i hj; simp <;> omega) hd, zCu_F ft (by first | exact zqm rfl | simp) (by first | exact ⟨zqp rfl, zqp rfl⟩ | simp) (by intro j _ _; simp) (by intro j i _ _; simp <;> omega) hU, zCk_F ft (by first | exact zqm rfl | simp) (by first | exact zqp rfl | simp) (by intro j _ _; simp) (by intro j i _ _; simp <;> omega) hk, (ft.1 0 14 (by first | exact zqm rfl | simp) (by first | exact zqp rfl | simp)).trans hh.1, hh.2⟩, ft⟩⟩
theorem zm_fields2 {ph : pm_H} {R C : Nat} (g3 : zc ph 170 3 = some (.int (zn R))) (g4 : zc ph 170 4 = some (.int (zn C))) (hR : R ≤ 7) (hC : C ≤ 7) : zM 188 [.ref 170] ph (fun v q => ph = q ∧ v = some (.int (zn (R * C)))) := by
  obtain ⟨Q, hQ⟩ : ∃ Q : Option Value → pm_H → Prop, Q = (fun v q => ph = q ∧ v = some (.int (zn (R * C)))) := ⟨_, rfl⟩
  rw [← hQ]
  refine zM_mk fun n D => ?_
  show zW n D 188 Q 0 [some (.ref 170)] [] ph
  have hRC := zRC49 hR hC
  have tR := znt (k := R) (by omega)
  have tC := znt (k := C) (by omega)
  refine w_load (pc' := 1) (v := .ref 170) (m := 1) (ykc_188 (e := (2, .aload_n kF0, 0)) rfl) rfl rfl ?_
  refine w_gf (pc' := 4) (v := .int (zn R)) (ykc_188 (e := (5, .getfield 24, 0)) rfl) rfl g3 rfl ?_
  refine w_load (pc' := 5) (v := .ref 170) (m := 1) (ykc_188 (e := (2, .aload_n kF0, 0)) rfl) rfl rfl ?_
  refine w_gf (pc' := 8) (v := .int (zn C)) (ykc_188 (e := (5, .getfield 27, 0)) rfl) rfl g4 rfl ?_
  have e1607 : (zn R) * (zn C) = zn (R * C) := zn_of (zmulN (by omega) (by omega) (by omega) (by omega))
  have te1607 := znt (k := R * C) (by omega)
  refine w_alu (pc' := 9) (st' := [.int (zn (R * C))]) (ykc_188 (e := (0, .imul, 0)) rfl) (by rw [← e1607]; rfl) rfl ?_
  refine w_ret (v := (some (.int (zn (R * C))))) (ykc_188 (e := (7, .ireturn, 0)) rfl) (zr_v rfl) ?_
  rw [hQ]
  exact ⟨rfl, rfl⟩
theorem zm_valley {ph : pm_H} {ln : Nat} {t : Nat → Nat} {R C P G u ch hn : Nat} {rk : Nat → Bool} {v : Nat → Nat} {w : Nat → Nat → Nat} {kp : Nat → Bool} {kc : Nat → Nat} {sv : Nat → Nat → Nat} (hS : zSh ph) (hn14 : zc ph 170 14 = some (.int (zn ln))) (hn80 : ln ≤ 80) (gtm : ∀ i, i < ln → zc ph 176 i = some (.int (zn (t i))) ∧ t i < 256) (hK : zKM ph R C rk P G v u w ch kp kc sv hn) (hch : ch < 1000) : zM 202 [.ref 170] ph (fun v0 q => ∃ z : Int32, v0 = some (.int z) ∧ z.toInt = zVa ln t ∧ ((zVk ln t ∧ zKM q (zVd ln t 0) (zVd ln t 1) (zVr t) 0 0 (znu v 40 0) 0 w (ch + 1) kp kc sv 0) ∨ (¬ zVk ln t ∧ zKM q R C rk P G v u w ch kp kc sv hn))) := by
  obtain ⟨Q, hQ⟩ : ∃ Q : Option Value → pm_H → Prop, Q = (fun v0 q => ∃ z : Int32, v0 = some (.int z) ∧ z.toInt = zVa ln t ∧ ((zVk ln t ∧ zKM q (zVd ln t 0) (zVd ln t 1) (zVr t) 0 0 (znu v 40 0) 0 w (ch + 1) kp kc sv 0) ∨ (¬ zVk ln t ∧ zKM q R C rk P G v u w ch kp kc sv hn))) := ⟨_, rfl⟩
  rw [← hQ]
  refine zM_mk fun n D => ?_
  show zW n D 202 Q 0 [some (.ref 170), none, none, none, none, none] [] ph
  have c_0 : ((Int8.ofInt 40).toInt32).toInt = 40 := by decide +kernel
  have c_1 : ((Int8.ofInt 7).toInt32).toInt = 7 := by decide +kernel
  have c_2 : ((Int8.ofInt 80).toInt32).toInt = 80 := by decide +kernel
  have c_3 : (Int32.ofInt (-1)).toInt = -1 := by decide +kernel
  have c_4 : (Int32.ofInt 0).toInt = 0 := by decide +kernel
  have c_5 : (Int32.ofInt 1).toInt = 1 := by decide +kernel
  have c_6 : (Int32.ofInt 3).toInt = 3 := by decide +kernel
  obtain ⟨hL, hN, hv, hU, hk, hh⟩ := hK
  have tln := znt (k := ln) (by omega)
  have tch := znt (k := ch) (by omega)
  refine w_load (pc' := 1) (v := .ref 170) (m := 1) (ykc_202 (e := (2, .aload_n kF0, 0)) rfl) rfl rfl ?_
  refine w_alu (pc' := 2) (st' := [.int (Int32.ofInt 0), .ref 170]) (ykc_202 (e := (0, .iconst 0, 0)) rfl) rfl rfl ?_
  refine w_pf (pc' := 5) (ykc_202 (e := (5, .putfield 3, 0)) rfl) rfl rfl (fun ph1609 u1608 => ?_)
  refine w_load (pc' := 6) (v := .ref 170) (m := 1) (ykc_202 (e := (2, .aload_n kF0, 0)) rfl) rfl rfl ?_
  refine w_push (pc' := 8) (v := .int ((Int8.ofInt 80).toInt32)) (m := 2) (ykc_202 (e := (1, .bipush 80, 0)) rfl) rfl rfl ?_
  have hS0 := zSh_st u1608 (by decide +kernel) hS
  refine w_cv (as := [.ref 170, .int ((Int8.ofInt 80).toInt32)]) (r := []) (ykc_202 (e := (6, .invokevirtual 175, 0)) rfl) rfl rfl rfl rfl (zm_begins (ln := ln) (c := 80) (t := t) hS0 ((u1608.2.1 170 14 (fun q => absurd q.2 (by first | exact Nat.ne_of_beq_eq_false rfl | decide))).trans hn14) hn80 (fun i hi => ⟨(u1608.2.1 176 i (fun q => absurd q.1 (by first | exact Nat.ne_of_beq_eq_false rfl | decide))).trans (gtm i hi).1, (gtm i hi).2⟩) (by omega) (by omega)) (fun v1610 ph1611 hv => ?_)
  obtain ⟨rfl, fb, g14, hT⟩ := hv
  rw [show min ln 80 = ln by omega] at hT
  have f1 : zFr [] [(170, 0), (170, 14), (170, 15), (170, 16), (170, 17)] ph ph1611 := zFr_trans (zFr_st u1608 (Or.inr (by first | exact zqj rfl | simp))) (zFr_mono fb (by first | exact zqa rfl | simp) (by first | exact zqf rfl | simp))
  have hS1 := zSh_F f1 (by decide +kernel) hS
  show zW n D 202 Q 11 [some (.ref 170), none, none, none, none, none] [.int (zn ln)] ph1611
  refine w_alu (pc' := 12) (st' := []) (ykc_202 (e := (0, .pop, 0)) rfl) rfl rfl ?_
  refine w_load (pc' := 13) (v := .ref 170) (m := 1) (ykc_202 (e := (2, .aload_n kF0, 0)) rfl) rfl rfl ?_
  refine w_alu (pc' := 14) (st' := [.int (Int32.ofInt 3), .ref 170]) (ykc_202 (e := (0, .iconst 3, 0)) rfl) rfl rfl ?_
  refine w_push (pc' := 16) (v := .int ((Int8.ofInt 7).toInt32)) (m := 2) (ykc_202 (e := (1, .bipush 7, 0)) rfl) rfl rfl ?_
  refine w_cv (as := [.ref 170, .int (Int32.ofInt 3), .int ((Int8.ofInt 7).toInt32)]) (r := []) (ykc_202 (e := (6, .invokevirtual 179, 0)) rfl) rfl rfl rfl rfl (zm_digitIn hS1 hT (l := 3) (h := 7) (by omega) (by omega)) (fun v1612 ph1613 hv => ?_)
  rcases hv with ⟨fd0, ⟨hc0, rfl, hfd0⟩ | ⟨hc0, rfl, hfd0⟩⟩
  · have e0 : zVd ln t 0 = t 0 - 48 := if_pos (by omega)
    have b0 := @zVd_b ln 0 t
    rw [← e0]
    have tv0 := znt (k := zVd ln t 0) (by omega)
    have z0 : zVd ln t 0 ≠ 0 := by omega
    show zW n D 202 Q 19 [some (.ref 170), none, none, none, none, none] [.int (zn (zVd ln t 0))] ph1613
    refine w_store (pc' := 20) (L' := [some (.ref 170), some (.int (zn (zVd ln t 0))), none, none, none, none]) (st' := []) (m := 1) (ykc_202 (e := (3, .istore_n kF1, 0)) rfl) rfl rfl ?_
    refine w_load (pc' := 21) (v := .int (zn (zVd ln t 0))) (m := 1) (ykc_202 (e := (2, .iload_n kF1, 0)) rfl) rfl rfl ?_
    refine w_zge (ykc_202 (e := (4, .ifCond .ge 7, 28)) rfl) rfl (fun b1614 => ?_) (fun q => by exfalso; omega)
    refine w_load (pc' := 29) (v := .ref 170) (m := 1) (ykc_202 (e := (2, .aload_n kF0, 0)) rfl) rfl rfl ?_
    refine w_alu (pc' := 30) (st' := [.int (Int32.ofInt 3), .ref 170]) (ykc_202 (e := (0, .iconst 3, 0)) rfl) rfl rfl ?_
    refine w_push (pc' := 32) (v := .int ((Int8.ofInt 7).toInt32)) (m := 2) (ykc_202 (e := (1, .bipush 7, 0)) rfl) rfl rfl ?_
    refine w_cv (as := [.ref 170, .int (Int32.ofInt 3), .int ((Int8.ofInt 7).toInt32)]) (r := []) (ykc_202 (e := (6, .invokevirtual 179, 0)) rfl) rfl rfl rfl rfl (zm_digitIn (zF15_S fd0 hS1) hfd0 (l := 3) (h := 7) (by omega) (by omega)) (fun v1615 ph1616 hv => ?_)
    rcases hv with ⟨fd1, ⟨hc1, rfl, hfd1⟩ | ⟨hc1, rfl, hfd1⟩⟩
    · have e1 : zVd ln t 1 = t (0 + 1) - 48 := if_pos (by omega)
      have b1 := @zVd_b ln 1 t
      rw [← e1]
      have tv1 := znt (k := zVd ln t 1) (by omega)
      have z1 : zVd ln t 1 ≠ 0 := by omega
      have f2 : zFr [] [(170, 0), (170, 14), (170, 15), (170, 16), (170, 17)] ph ph1616 := zFr_trans f1 (zFr_trans (zFr_mono fd0 (by first | exact zqa rfl | simp) (by first | exact zqf rfl | simp)) (zFr_mono fd1 (by first | exact zqa rfl | simp) (by first | exact zqf rfl | simp)))
      have hN49 : zVd ln t 0 * zVd ln t 1 ≤ 49 := @zVN_b ln t
      show zW n D 202 Q 35 [some (.ref 170), some (.int (zn (zVd ln t 0))), none, none, none, none] [.int (zn (zVd ln t 1))] ph1616
      refine w_store (pc' := 36) (L' := [some (.ref 170), some (.int (zn (zVd ln t 0))), some (.int (zn (zVd ln t 1))), none, none, none]) (st' := []) (m := 1) (ykc_202 (e := (3, .istore_n kF2, 0)) rfl) rfl rfl ?_
      refine w_load (pc' := 37) (v := .int (zn (zVd ln t 1))) (m := 1) (ykc_202 (e := (2, .iload_n kF2, 0)) rfl) rfl rfl ?_
      refine w_zle (ykc_202 (e := (4, .ifCond .le 7, 44)) rfl) rfl (fun q => by exfalso; omega) (fun b1617 => ?_)
      refine w_alu (pc' := 41) (st' := [.int (Int32.ofInt 1)]) (ykc_202 (e := (0, .iconst 1, 0)) rfl) rfl rfl ?_
      refine w_br (pc' := 45) (st' := [.int (Int32.ofInt 1)]) (ykc_202 (e := (4, .goto 4, 45)) rfl) rfl ?_
      refine w_store (pc' := 46) (L' := [some (.ref 170), some (.int (zn (zVd ln t 0))), some (.int (zn (zVd ln t 1))), some (.int (Int32.ofInt 1)), none, none]) (st' := []) (m := 1) (ykc_202 (e := (3, .istore_n kF3, 0)) rfl) rfl rfl ?_
      refine w_alu (pc' := 47) (st' := [.int (Int32.ofInt 0)]) (ykc_202 (e := (0, .iconst 0, 0)) rfl) rfl rfl ?_
      refine w_store (pc' := 49) (L' := [some (.ref 170), some (.int (zn (zVd ln t 0))), some (.int (zn (zVd ln t 1))), some (.int (Int32.ofInt 1)), some (.int (Int32.ofInt 0)), none]) (st' := []) (m := 2) (ykc_202 (e := (3, .istore 4, 0)) rfl) rfl rfl ?_
      have hl : ∀ (n : Nat), ∀ (f : Nat) (x5 : Option Value) (ph1 : pm_H), (f ≤ zVd ln t 0 * zVd ln t 1) → (∀ i, i < f → zVs ln t (2 + i) = true) → (zFr [177] [(170, 0), (170, 14), (170, 15), (170, 16), (170, 17)] ph ph1) → (zTm ph1 (2 + f) ln ln t) → (∀ i, i < f → zc ph1 177 i = some (.int (zI (zVr t i)))) → zW n D 202 Q 49 [some (.ref 170), some (.int (zn (zVd ln t 0))), some (.int (zn (zVd ln t 1))), some (.int (Int32.ofInt 1)), some (.int (zn f)), x5] [] ph1 := by
        intro n
        induction n using Nat.strongRecOn with
        | ind n ih =>
          intro f x5 ph1 hf hg hfr hT hrr
          have tf := znt (k := f) (by omega)
          have hab := hT.2.2.1
          have tat := znt (k := 2 + f) (by omega)
          have hS1 := zSh_F hfr (by decide +kernel) hS
          have ls0 : zls [46, 35] 0 = 46 := rfl
          have ls1 : zls [46, 35] 1 = 35 := rfl
          refine w_load (pc' := 50) (v := .int (Int32.ofInt 1)) (m := 1) (ykc_202 (e := (2, .iload_n kF3, 0)) rfl) rfl rfl ?_
          refine w_zeq (ykc_202 (e := (4, .ifCond .eq 54, 104)) rfl) rfl (fun q => by exfalso; omega) (fun b1618 => ?_)
          refine w_load (pc' := 55) (v := .int (zn f)) (m := 2) (ykc_202 (e := (2, .iload 4, 0)) rfl) rfl rfl ?_
          refine w_load (pc' := 56) (v := .int (zn (zVd ln t 0))) (m := 1) (ykc_202 (e := (2, .iload_n kF1, 0)) rfl) rfl rfl ?_
          refine w_load (pc' := 57) (v := .int (zn (zVd ln t 1))) (m := 1) (ykc_202 (e := (2, .iload_n kF2, 0)) rfl) rfl rfl ?_
          have e1619 : (zn (zVd ln t 0)) * (zn (zVd ln t 1)) = zn (zVd ln t 0 * zVd ln t 1) := zn_of (zmulN (by omega) (by omega) (by omega) (by omega))
          have te1619 := znt (k := zVd ln t 0 * zVd ln t 1) (by omega)
          refine w_alu (pc' := 58) (st' := [.int (zn (zVd ln t 0 * zVd ln t 1)), .int (zn f)]) (ykc_202 (e := (0, .imul, 0)) rfl) (by rw [← e1619]; rfl) rfl ?_
          refine w_ige (ykc_202 (e := (4, .if_icmp .ge 46, 104)) rfl) rfl (fun b1620 => ?_) (fun b1620 => ?_)
          · have eN : f = zVd ln t 0 * zVd ln t 1 := by omega
            refine w_load (pc' := 105) (v := .int (Int32.ofInt 1)) (m := 1) (ykc_202 (e := (2, .iload_n kF3, 0)) rfl) rfl rfl ?_
            refine w_zeq (ykc_202 (e := (4, .ifCond .eq 14, 119)) rfl) rfl (fun q => by exfalso; omega) (fun b1621 => ?_)
            refine w_load (pc' := 109) (v := .ref 170) (m := 1) (ykc_202 (e := (2, .aload_n kF0, 0)) rfl) rfl rfl ?_
            refine w_gf (pc' := 112) (v := .int (zn (2 + f))) (ykc_202 (e := (5, .getfield 139, 0)) rfl) rfl hT.1 rfl ?_
            refine w_load (pc' := 113) (v := .ref 170) (m := 1) (ykc_202 (e := (2, .aload_n kF0, 0)) rfl) rfl rfl ?_
            refine w_gf (pc' := 116) (v := .int (zn ln)) (ykc_202 (e := (5, .getfield 151, 0)) rfl) rfl hT.2.1 rfl ?_
            refine w_ige (ykc_202 (e := (4, .if_icmp .ge 10, 126)) rfl) rfl (fun b1622 => ?_) (fun b1622 => ?_)
            · refine w_load (pc' := 127) (v := .ref 170) (m := 1) (ykc_202 (e := (2, .aload_n kF0, 0)) rfl) rfl rfl ?_
              refine w_load (pc' := 128) (v := .int (zn (zVd ln t 0))) (m := 1) (ykc_202 (e := (2, .iload_n kF1, 0)) rfl) rfl rfl ?_
              refine w_pf (pc' := 131) (ykc_202 (e := (5, .putfield 24, 0)) rfl) rfl rfl (fun ph1624 u1623 => ?_)
              refine w_load (pc' := 132) (v := .ref 170) (m := 1) (ykc_202 (e := (2, .aload_n kF0, 0)) rfl) rfl rfl ?_
              refine w_load (pc' := 133) (v := .int (zn (zVd ln t 1))) (m := 1) (ykc_202 (e := (2, .iload_n kF2, 0)) rfl) rfl rfl ?_
              refine w_pf (pc' := 136) (ykc_202 (e := (5, .putfield 27, 0)) rfl) rfl rfl (fun ph1626 u1625 => ?_)
              refine w_alu (pc' := 137) (st' := [.int (Int32.ofInt 0)]) (ykc_202 (e := (0, .iconst 0, 0)) rfl) rfl rfl ?_
              refine w_store (pc' := 139) (L' := [some (.ref 170), some (.int (zn (zVd ln t 0))), some (.int (zn (zVd ln t 1))), some (.int (Int32.ofInt 1)), some (.int (Int32.ofInt 0)), x5]) (st' := []) (m := 2) (ykc_202 (e := (3, .istore 4, 0)) rfl) rfl rfl ?_
              have h8 := zVa_4 z0 z1 (by rw [show zVN ln t = f by unfold zVN; omega]; exact hg) (show ¬ 2 + zVN ln t < ln by unfold zVN; omega)
              have hl2 : ∀ (n : Nat), ∀ (g : Nat) (x5 : Option Value) (ph2 : pm_H), (g ≤ zVd ln t 0 * zVd ln t 1) → (zFr [172, 177] [(170, 0), (170, 3), (170, 4), (170, 14), (170, 15), (170, 16), (170, 17)] ph ph2) → (zc ph2 170 3 = some (.int (zn (zVd ln t 0)))) → (zc ph2 170 4 = some (.int (zn (zVd ln t 1)))) → (∀ i, i < zVd ln t 0 * zVd ln t 1 → zc ph2 177 i = some (.int (zI (zVr t i)))) → (∀ i, i < g → zc ph2 172 i = some (.int (zI (zVr t i)))) → zW n D 202 Q 139 [some (.ref 170), some (.int (zn (zVd ln t 0))), some (.int (zn (zVd ln t 1))), some (.int (Int32.ofInt 1)), some (.int (zn g)), x5] [] ph2 := by
                intro n
                induction n using Nat.strongRecOn with
                | ind n ih =>
                  intro g x5 ph2 hgN hf3 k3 k4 hr7 hr2
                  have tg := znt (k := g) (by omega)
                  have hS2 := zSh_F hf3 (by decide +kernel) hS
                  have tN := znt (k := zVd ln t 0 * zVd ln t 1) (by omega)
                  refine w_load (pc' := 141) (v := .int (zn g)) (m := 2) (ykc_202 (e := (2, .iload 4, 0)) rfl) rfl rfl ?_
                  refine w_load (pc' := 142) (v := .ref 170) (m := 1) (ykc_202 (e := (2, .aload_n kF0, 0)) rfl) rfl rfl ?_
                  refine w_cv (as := [.ref 170]) (r := [.int (zn g)]) (ykc_202 (e := (6, .invokevirtual 122, 0)) rfl) rfl rfl rfl rfl (zm_fields2 (R := zVd ln t 0) (C := zVd ln t 1) k3 k4 (by omega) (by omega)) (fun v1627 ph1628 hv => ?_)
                  obtain ⟨rfl, rfl⟩ := hv
                  show zW n D 202 Q 145 [some (.ref 170), some (.int (zn (zVd ln t 0))), some (.int (zn (zVd ln t 1))), some (.int (Int32.ofInt 1)), some (.int (zn g)), x5] [.int (zn (zVd ln t 0 * zVd ln t 1)), .int (zn g)] ph2
                  refine w_ige (ykc_202 (e := (4, .if_icmp .ge 23, 168)) rfl) rfl (fun b1629 => ?_) (fun b1629 => ?_)
                  · refine w_load (pc' := 169) (v := .ref 170) (m := 1) (ykc_202 (e := (2, .aload_n kF0, 0)) rfl) rfl rfl ?_
                    refine w_alu (pc' := 170) (st' := [.int (Int32.ofInt 0), .ref 170]) (ykc_202 (e := (0, .iconst 0, 0)) rfl) rfl rfl ?_
                    refine w_pf (pc' := 173) (ykc_202 (e := (5, .putfield 130, 0)) rfl) rfl rfl (fun ph1631 u1630 => ?_)
                    refine w_load (pc' := 174) (v := .ref 170) (m := 1) (ykc_202 (e := (2, .aload_n kF0, 0)) rfl) rfl rfl ?_
                    refine w_alu (pc' := 175) (st' := [.int (Int32.ofInt 0), .ref 170]) (ykc_202 (e := (0, .iconst 0, 0)) rfl) rfl rfl ?_
                    refine w_pf (pc' := 178) (ykc_202 (e := (5, .putfield 133, 0)) rfl) rfl rfl (fun ph1633 u1632 => ?_)
                    refine w_load (pc' := 179) (v := .ref 170) (m := 1) (ykc_202 (e := (2, .aload_n kF0, 0)) rfl) rfl rfl ?_
                    refine w_gf (pc' := 182) (v := .ref 174) (ykc_202 (e := (5, .getfield 41, 0)) rfl) rfl ((u1632.2.1 170 11 (fun q => absurd q.2 (by first | exact Nat.ne_of_beq_eq_false rfl | decide))).trans ((u1630.2.1 170 11 (fun q => absurd q.2 (by first | exact Nat.ne_of_beq_eq_false rfl | decide))).trans ((hf3.1 170 11 (by first | exact zqm rfl | decide) (by first | exact zqp rfl | decide)).trans (zsg hS zs_170_11)))) rfl ?_
                    refine w_push (pc' := 184) (v := .int ((Int8.ofInt 40).toInt32)) (m := 2) (ykc_202 (e := (1, .bipush 40, 0)) rfl) rfl rfl ?_
                    refine w_alu (pc' := 185) (st' := [.int (Int32.ofInt 0), .int ((Int8.ofInt 40).toInt32), .ref 174]) (ykc_202 (e := (0, .iconst 0, 0)) rfl) rfl rfl ?_
                    refine w_ias (pc' := 186) (k := 40) (ykc_202 (e := (5, .iastore, 0)) rfl) (by omega) rfl (fun ph1635 u1634 => ?_)
                    refine w_load (pc' := 187) (v := .ref 170) (m := 1) (ykc_202 (e := (2, .aload_n kF0, 0)) rfl) rfl rfl ?_
                    refine w_alu (pc' := 188) (st' := [.int (Int32.ofInt 0), .ref 170]) (ykc_202 (e := (0, .iconst 0, 0)) rfl) rfl rfl ?_
                    refine w_pf (pc' := 191) (ykc_202 (e := (5, .putfield 188, 0)) rfl) rfl rfl (fun ph1637 u1636 => ?_)
                    refine w_load (pc' := 192) (v := .ref 170) (m := 1) (ykc_202 (e := (2, .aload_n kF0, 0)) rfl) rfl rfl ?_
                    refine w_alu (pc' := 193) (st' := [.ref 170, .ref 170]) (ykc_202 (e := (0, .dup, 0)) rfl) rfl rfl ?_
                    refine w_gf (pc' := 196) (v := .int (zn ch)) (ykc_202 (e := (5, .getfield 191, 0)) rfl) rfl ((u1636.2.1 170 7 (fun q => absurd q.2 (by first | exact Nat.ne_of_beq_eq_false rfl | decide))).trans ((u1634.2.1 170 7 (fun q => absurd q.1 (by first | exact Nat.ne_of_beq_eq_false rfl | decide))).trans ((u1632.2.1 170 7 (fun q => absurd q.2 (by first | exact Nat.ne_of_beq_eq_false rfl | decide))).trans ((u1630.2.1 170 7 (fun q => absurd q.2 (by first | exact Nat.ne_of_beq_eq_false rfl | decide))).trans ((hf3.1 170 7 (by first | exact zqm rfl | decide) (by first | exact zqp rfl | decide)).trans hk.1))))) rfl ?_
                    refine w_alu (pc' := 197) (st' := [.int (Int32.ofInt 1), .int (zn ch), .ref 170]) (ykc_202 (e := (0, .iconst 1, 0)) rfl) rfl rfl ?_
                    have e1638 : (zn ch) + (Int32.ofInt 1) = zn (ch + 1) := (zaddN (a := ch) (b := 1) (znt (by omega)) c_5 (by omega)) 
                    have te1638 := znt (k := ch + 1) (by omega)
                    refine w_alu (pc' := 198) (st' := [.int (zn (ch + 1)), .ref 170]) (ykc_202 (e := (0, .iadd, 0)) rfl) (by rw [← e1638]; rfl) rfl ?_
                    refine w_pf (pc' := 201) (ykc_202 (e := (5, .putfield 191, 0)) rfl) rfl rfl (fun ph1640 u1639 => ?_)
                    refine w_load (pc' := 202) (v := .ref 170) (m := 1) (ykc_202 (e := (2, .aload_n kF0, 0)) rfl) rfl rfl ?_
                    refine w_alu (pc' := 203) (st' := [.int (Int32.ofInt 0), .ref 170]) (ykc_202 (e := (0, .iconst 0, 0)) rfl) rfl rfl ?_
                    refine w_pf (pc' := 206) (ykc_202 (e := (5, .putfield 194, 0)) rfl) rfl rfl (fun ph1642 u1641 => ?_)
                    refine w_load (pc' := 207) (v := .ref 170) (m := 1) (ykc_202 (e := (2, .aload_n kF0, 0)) rfl) rfl rfl ?_
                    refine w_cv (as := [.ref 170]) (r := []) (ykc_202 (e := (6, .invokevirtual 122, 0)) rfl) rfl rfl rfl rfl (zm_fields2 (R := zVd ln t 0) (C := zVd ln t 1) ((u1641.2.1 170 3 (fun q => absurd q.2 (by first | exact Nat.ne_of_beq_eq_false rfl | decide))).trans ((u1639.2.1 170 3 (fun q => absurd q.2 (by first | exact Nat.ne_of_beq_eq_false rfl | decide))).trans ((u1636.2.1 170 3 (fun q => absurd q.2 (by first | exact Nat.ne_of_beq_eq_false rfl | decide))).trans ((u1634.2.1 170 3 (fun q => absurd q.1 (by first | exact Nat.ne_of_beq_eq_false rfl | decide))).trans ((u1632.2.1 170 3 (fun q => absurd q.2 (by first | exact Nat.ne_of_beq_eq_false rfl | decide))).trans ((u1630.2.1 170 3 (fun q => absurd q.2 (by first | exact Nat.ne_of_beq_eq_false rfl | decide))).trans k3)))))) ((u1641.2.1 170 4 (fun q => absurd q.2 (by first | exact Nat.ne_of_beq_eq_false rfl | decide))).trans ((u1639.2.1 170 4 (fun q => absurd q.2 (by first | exact Nat.ne_of_beq_eq_false rfl | decide))).trans ((u1636.2.1 170 4 (fun q => absurd q.2 (by first | exact Nat.ne_of_beq_eq_false rfl | decide))).trans ((u1634.2.1 170 4 (fun q => absurd q.1 (by first | exact Nat.ne_of_beq_eq_false rfl | decide))).trans ((u1632.2.1 170 4 (fun q => absurd q.2 (by first | exact Nat.ne_of_beq_eq_false rfl | decide))).trans ((u1630.2.1 170 4 (fun q => absurd q.2 (by first | exact Nat.ne_of_beq_eq_false rfl | decide))).trans k4)))))) (by omega) (by omega)) (fun v1643 ph1644 hv => ?_)
                    obtain ⟨rfl, rfl⟩ := hv
                    show zW n D 202 Q 210 [some (.ref 170), some (.int (zn (zVd ln t 0))), some (.int (zn (zVd ln t 1))), some (.int (Int32.ofInt 1)), some (.int (zn g)), x5] [.int (zn (zVd ln t 0 * zVd ln t 1))] ph1642
                    refine w_ret (v := (some (.int (zn (zVd ln t 0 * zVd ln t 1))))) (ykc_202 (e := (7, .ireturn, 0)) rfl) (zr_v rfl) ?_
                    have eg : g = zVd ln t 0 * zVd ln t 1 := by omega
                    have f9 : zFr [172, 177] [(170, 0), (170, 3), (170, 4), (170, 5), (170, 6), (170, 7), (170, 14), (170, 15), (170, 16), (170, 17), (170, 27), (170, 39), (174, 40)] ph ph1642 := (zFr_add (zFr_add (zFr_add (zFr_add (zFr_add (zFr_add (zFr_mono hf3 (by first | exact zqa rfl | simp) (by first | exact zqf rfl | simp)) u1630 (Or.inr (by first | exact zqj rfl | simp))) u1632 (Or.inr (by first | exact zqj rfl | simp))) u1634 (Or.inr (by first | exact zqj rfl | simp))) u1636 (Or.inr (by first | exact zqj rfl | simp))) u1639 (Or.inr (by first | exact zqj rfl | simp))) u1641 (Or.inr (by first | exact zqj rfl | simp)))
                    have h40 : zc ph1642 174 40 = some (.int (zn 0)) := ((u1641.2.1 174 40 (fun q => absurd q.1 (by first | exact Nat.ne_of_beq_eq_false rfl | decide))).trans ((u1639.2.1 174 40 (fun q => absurd q.1 (by first | exact Nat.ne_of_beq_eq_false rfl | decide))).trans ((u1636.2.1 174 40 (fun q => absurd q.1 (by first | exact Nat.ne_of_beq_eq_false rfl | decide))).trans u1634.1)))
                    rw [hQ]
                    refine ⟨_, rfl, by rw [h8.1]; unfold zVN; exact znt (by omega), Or.inl ⟨h8.2, ⟨((u1641.2.1 170 3 (fun q => absurd q.2 (by first | exact Nat.ne_of_beq_eq_false rfl | decide))).trans ((u1639.2.1 170 3 (fun q => absurd q.2 (by first | exact Nat.ne_of_beq_eq_false rfl | decide))).trans ((u1636.2.1 170 3 (fun q => absurd q.2 (by first | exact Nat.ne_of_beq_eq_false rfl | decide))).trans ((u1634.2.1 170 3 (fun q => absurd q.1 (by first | exact Nat.ne_of_beq_eq_false rfl | decide))).trans ((u1632.2.1 170 3 (fun q => absurd q.2 (by first | exact Nat.ne_of_beq_eq_false rfl | decide))).trans ((u1630.2.1 170 3 (fun q => absurd q.2 (by first | exact Nat.ne_of_beq_eq_false rfl | decide))).trans k3)))))), ((u1641.2.1 170 4 (fun q => absurd q.2 (by first | exact Nat.ne_of_beq_eq_false rfl | decide))).trans ((u1639.2.1 170 4 (fun q => absurd q.2 (by first | exact Nat.ne_of_beq_eq_false rfl | decide))).trans ((u1636.2.1 170 4 (fun q => absurd q.2 (by first | exact Nat.ne_of_beq_eq_false rfl | decide))).trans ((u1634.2.1 170 4 (fun q => absurd q.1 (by first | exact Nat.ne_of_beq_eq_false rfl | decide))).trans ((u1632.2.1 170 4 (fun q => absurd q.2 (by first | exact Nat.ne_of_beq_eq_false rfl | decide))).trans ((u1630.2.1 170 4 (fun q => absurd q.2 (by first | exact Nat.ne_of_beq_eq_false rfl | decide))).trans k4)))))), fun i hi => ((u1641.2.1 172 i (fun q => absurd q.1 (by first | exact Nat.ne_of_beq_eq_false rfl | decide))).trans ((u1639.2.1 172 i (fun q => absurd q.1 (by first | exact Nat.ne_of_beq_eq_false rfl | decide))).trans ((u1636.2.1 172 i (fun q => absurd q.1 (by first | exact Nat.ne_of_beq_eq_false rfl | decide))).trans ((u1634.2.1 172 i (fun q => absurd q.1 (by first | exact Nat.ne_of_beq_eq_false rfl | decide))).trans ((u1632.2.1 172 i (fun q => absurd q.1 (by first | exact Nat.ne_of_beq_eq_false rfl | decide))).trans ((u1630.2.1 172 i (fun q => absurd q.1 (by first | exact Nat.ne_of_beq_eq_false rfl | decide))).trans (hr2 i (by omega)))))))), by omega, by omega, by omega, by omega⟩, ⟨((u1641.2.1 170 5 (fun q => absurd q.2 (by first | exact Nat.ne_of_beq_eq_false rfl | decide))).trans ((u1639.2.1 170 5 (fun q => absurd q.2 (by first | exact Nat.ne_of_beq_eq_false rfl | decide))).trans ((u1636.2.1 170 5 (fun q => absurd q.2 (by first | exact Nat.ne_of_beq_eq_false rfl | decide))).trans ((u1634.2.1 170 5 (fun q => absurd q.1 (by first | exact Nat.ne_of_beq_eq_false rfl | decide))).trans ((u1632.2.1 170 5 (fun q => absurd q.2 (by first | exact Nat.ne_of_beq_eq_false rfl | decide))).trans u1630.1))))), by decide, ((u1641.2.1 170 6 (fun q => absurd q.2 (by first | exact Nat.ne_of_beq_eq_false rfl | decide))).trans ((u1639.2.1 170 6 (fun q => absurd q.2 (by first | exact Nat.ne_of_beq_eq_false rfl | decide))).trans ((u1636.2.1 170 6 (fun q => absurd q.2 (by first | exact Nat.ne_of_beq_eq_false rfl | decide))).trans ((u1634.2.1 170 6 (fun q => absurd q.1 (by first | exact Nat.ne_of_beq_eq_false rfl | decide))).trans u1632.1)))), by decide⟩, fun i hi => ?_, ⟨((u1641.2.1 170 27 (fun q => absurd q.2 (by first | exact Nat.ne_of_beq_eq_false rfl | decide))).trans ((u1639.2.1 170 27 (fun q => absurd q.2 (by first | exact Nat.ne_of_beq_eq_false rfl | decide))).trans u1636.1)), by decide, fun i hi => absurd hi (Nat.not_lt_zero i)⟩, ⟨((u1641.2.1 170 7 (fun q => absurd q.2 (by first | exact Nat.ne_of_beq_eq_false rfl | decide))).trans u1639.1), by omega, fun i hi => ?_⟩, u1641.1, by decide⟩⟩
                    · rw [Nat.zero_add]
                      unfold znu
                      by_cases e : i = 40
                      · subst e; rw [if_pos rfl]; exact h40
                      · rw [if_neg e]
                        exact (f9.1 174 i (by first | exact zqm rfl | decide) (by simp <;> omega)).trans (zNr0 hv hi)
                    · obtain ⟨k1, k2, k3, k4⟩ := hk.2.2 i hi
                      exact ⟨(f9.1 198 i (by first | exact zqm rfl | decide) (by first | exact zqp rfl | simp)).trans k1, (f9.1 199 i (by first | exact zqm rfl | decide) (by first | exact zqp rfl | simp)).trans k2, by omega, fun h => zNr_F f9 (by first | exact (fun _ => zqr rfl) | simp) (by first | exact zqm rfl | simp) (k4 h)⟩
                  · refine w_load (pc' := 149) (v := .ref 170) (m := 1) (ykc_202 (e := (2, .aload_n kF0, 0)) rfl) rfl rfl ?_
                    refine w_gf (pc' := 152) (v := .ref 172) (ykc_202 (e := (5, .getfield 33, 0)) rfl) rfl ((hf3.1 170 9 (by first | exact zqm rfl | decide) (by first | exact zqp rfl | decide)).trans (zsg hS zs_170_9)) rfl ?_
                    refine w_load (pc' := 154) (v := .int (zn g)) (m := 2) (ykc_202 (e := (2, .iload 4, 0)) rfl) rfl rfl ?_
                    refine w_load (pc' := 155) (v := .ref 170) (m := 1) (ykc_202 (e := (2, .aload_n kF0, 0)) rfl) rfl rfl ?_
                    refine w_gf (pc' := 158) (v := .ref 177) (ykc_202 (e := (5, .getfield 50, 0)) rfl) rfl ((hf3.1 170 18 (by first | exact zqm rfl | decide) (by first | exact zqp rfl | decide)).trans (zsg hS zs_170_18)) rfl ?_
                    refine w_load (pc' := 160) (v := .int (zn g)) (m := 2) (ykc_202 (e := (2, .iload 4, 0)) rfl) rfl rfl ?_
                    refine w_balk (pc' := 161) (k := g) (ykc_202 (e := (5, .baload, 0)) rfl) (hr7 g (by omega)) (by omega) rfl ?_
                    refine w_bas (pc' := 162) (k := g) (ykc_202 (e := (5, .bastore, 0)) rfl) (by omega) rfl (fun ph1646 u1645 => ?_)
                    have h1647 := u1645.1
                    rw [zI_and] at h1647
                    have e1648 : (zn g) + Int32.ofInt 1 = zn (g + 1) := (zaddN (a := g) (b := 1) (znt (by omega)) c_5 (by omega))
                    have te1648 := znt (k := g + 1) (by omega)
                    refine w_store (pc' := 165) (L' := [some (.ref 170), some (.int (zn (zVd ln t 0))), some (.int (zn (zVd ln t 1))), some (.int (Int32.ofInt 1)), some (.int (zn (g + 1))), x5]) (st' := []) (m := 3) (ykc_202 (e := (3, .iinc 4 1, 0)) rfl) (by rw [← e1648]; rfl) rfl ?_
                    refine w_gb (ykc_202 (e := (4, .goto (-26), 139)) rfl) (fun k1649 hk1649 => ?_)
                    exact ih k1649 hk1649 (g + 1) _ _ (by omega) (zFr_add hf3 u1645 (Or.inl (by first | exact zqi rfl | simp))) ((u1645.2.1 170 3 (fun q => absurd q.1 (by first | exact Nat.ne_of_beq_eq_false rfl | decide))).trans k3) ((u1645.2.1 170 4 (fun q => absurd q.1 (by first | exact Nat.ne_of_beq_eq_false rfl | decide))).trans k4) (fun i hi => (u1645.2.1 177 i (fun q => absurd q.1 (by first | exact Nat.ne_of_beq_eq_false rfl | decide))).trans (hr7 i hi)) (fun i hi => by
                      by_cases e : i = g
                      · subst e; exact h1647
                      · exact (u1645.2.1 172 i (fun q => e q.2)).trans (hr2 i (by omega)))
              exact hl2 n 0 _ ph1626 (Nat.zero_le _) (zFr_trans (zFr_mono hfr (by first | exact zqa rfl | simp) (by first | exact zqf rfl | simp)) (zFr_trans (zFr_st u1623 (Or.inr (by first | exact zqj rfl | simp))) (zFr_st u1625 (Or.inr (by first | exact zqj rfl | simp))))) ((u1625.2.1 170 3 (fun q => absurd q.2 (by first | exact Nat.ne_of_beq_eq_false rfl | decide))).trans u1623.1) u1625.1 (fun i hi => (u1625.2.1 177 i (fun q => absurd q.1 (by first | exact Nat.ne_of_beq_eq_false rfl | decide))).trans ((u1623.2.1 177 i (fun q => absurd q.1 (by first | exact Nat.ne_of_beq_eq_false rfl | decide))).trans (hrr i (by omega)))) (fun i hi => absurd hi (Nat.not_lt_zero i))
              
            · refine w_alu (pc' := 120) (st' := [.int (Int32.ofInt (-1))]) (ykc_202 (e := (0, .iconst (-1), 0)) rfl) rfl rfl ?_
              refine w_load (pc' := 121) (v := .ref 170) (m := 1) (ykc_202 (e := (2, .aload_n kF0, 0)) rfl) rfl rfl ?_
              refine w_gf (pc' := 124) (v := .int (zn (2 + f))) (ykc_202 (e := (5, .getfield 139, 0)) rfl) rfl hT.1 rfl ?_
              obtain ⟨z1650, e_z1650, h_z1650⟩ : ∃ zq : Int32, (Int32.ofInt (-1)) - (zn (2 + f)) = zq ∧ zq.toInt = (-1 : Int) - ((2 + f : Nat) : Int) := ⟨_, rfl, zm1sub (by omega) (by omega) (by omega)⟩
              refine w_alu (pc' := 125) (st' := [.int z1650]) (ykc_202 (e := (0, .isub, 0)) rfl) (by rw [← e_z1650]; rfl) rfl ?_
              refine w_ret (v := (some (.int z1650))) (ykc_202 (e := (7, .ireturn, 0)) rfl) (zr_v rfl) ?_
              have h8 := zVa_3 z0 z1 (by rw [show zVN ln t = f by unfold zVN; omega]; exact hg) (show 2 + zVN ln t < ln by unfold zVN; omega)
              rw [hQ]
              exact ⟨_, rfl, by rw [h8.1]; unfold zVN; omega, Or.inr ⟨h8.2, zMl_F hfr (by first | exact zqp rfl | simp) (by first | exact zqp rfl | simp) (by first | exact (fun _ => zqr rfl) | simp) (by first | exact ⟨zqm rfl, zqm rfl⟩ | simp) hL, zMp_F hfr (by first | exact zqp rfl | simp) (by first | exact zqp rfl | simp) (by first | exact zqm rfl | simp) hN, zNr_F hfr (by first | exact (fun _ => zqr rfl) | simp) (by first | exact zqm rfl | simp) hv, zMu_F hfr (by first | exact ⟨zqm rfl, zqm rfl⟩ | simp) (by first | exact zqp rfl | simp) (by first | exact (fun _ => zqr rfl) | simp) hU, zMk_F hfr (by first | exact ⟨zqm rfl, zqm rfl, zqm rfl, zqm rfl⟩ | simp) (by first | exact zqp rfl | simp) (by first | exact (fun _ => ⟨zqr rfl, zqr rfl, zqr rfl⟩) | simp) hk, zMh_F hfr (by first | exact zqm rfl | simp) (by first | exact zqp rfl | simp) hh⟩⟩
            
          · refine w_load (pc' := 62) (v := .ref 170) (m := 1) (ykc_202 (e := (2, .aload_n kF0, 0)) rfl) rfl rfl ?_
            refine w_push (pc' := 64) (v := .ref 1048627) (m := 2) (ykc_202 (e := (1, .ldc 182, 0)) rfl) rfl rfl ?_
            refine w_cv (as := [.ref 170, .ref 1048627]) (r := []) (ykc_202 (e := (6, .invokevirtual 184, 0)) rfl) rfl rfl rfl rfl (zm_takesOf hS1 hT zstr_dot) (fun v1651 ph1652 hv => ?_)
            rcases hv with ⟨ft, ⟨k9, hk9, ha9, hc9, rfl, hft⟩ | ⟨hn9, rfl, hft⟩⟩
            · have tk9 := znt (k := k9) (by omega)
              have hor : (k9 = 0 ∧ t (2 + f) = 46) ∨ (k9 = 1 ∧ t (2 + f) = 35) := by
                rcases (show k9 = 0 ∨ k9 = 1 by omega) with e | e
                · subst e; exact Or.inl ⟨rfl, hc9⟩
                · subst e; exact Or.inr ⟨rfl, hc9⟩
              have hgood : 2 + f < ln ∧ (t (2 + f) = 46 ∨ t (2 + f) = 35) := by omega
              show zW n D 202 Q 67 [some (.ref 170), some (.int (zn (zVd ln t 0))), some (.int (zn (zVd ln t 1))), some (.int (Int32.ofInt 1)), some (.int (zn f)), x5] [.int (zn k9)] ph1652
              refine w_store (pc' := 69) (L' := [some (.ref 170), some (.int (zn (zVd ln t 0))), some (.int (zn (zVd ln t 1))), some (.int (Int32.ofInt 1)), some (.int (zn f)), some (.int (zn k9))]) (st' := []) (m := 2) (ykc_202 (e := (3, .istore 5, 0)) rfl) rfl rfl ?_
              refine w_load (pc' := 70) (v := .ref 170) (m := 1) (ykc_202 (e := (2, .aload_n kF0, 0)) rfl) rfl rfl ?_
              refine w_gf (pc' := 73) (v := .ref 177) (ykc_202 (e := (5, .getfield 50, 0)) rfl) rfl ((ft.1 170 18 (by first | exact zqm rfl | decide) (by first | exact zqp rfl | decide)).trans ((hfr.1 170 18 (by first | exact zqm rfl | decide) (by first | exact zqp rfl | decide)).trans (zsg hS zs_170_18))) rfl ?_
              refine w_load (pc' := 75) (v := .int (zn f)) (m := 2) (ykc_202 (e := (2, .iload 4, 0)) rfl) rfl rfl ?_
              refine w_load (pc' := 77) (v := .int (zn k9)) (m := 2) (ykc_202 (e := (2, .iload 5, 0)) rfl) rfl rfl ?_
              refine w_alu (pc' := 78) (st' := [.int (Int32.ofInt 1), .int (zn k9), .int (zn f), .ref 177]) (ykc_202 (e := (0, .iconst 1, 0)) rfl) rfl rfl ?_
              refine w_ine (ykc_202 (e := (4, .if_icmp .ne 7, 85)) rfl) rfl (fun b1653 => ?_) (fun b1653 => ?_)
              · refine w_alu (pc' := 86) (st' := [.int (Int32.ofInt 0), .int (zn f), .ref 177]) (ykc_202 (e := (0, .iconst 0, 0)) rfl) rfl rfl ?_
                refine w_bas (pc' := 87) (k := f) (ykc_202 (e := (5, .bastore, 0)) rfl) (by omega) rfl (fun ph1655 u1654 => ?_)
                refine w_load (pc' := 89) (v := .int (zn k9)) (m := 2) (ykc_202 (e := (2, .iload 5, 0)) rfl) rfl rfl ?_
                refine w_zlt (ykc_202 (e := (4, .ifCond .lt 7, 96)) rfl) rfl (fun q => by exfalso; omega) (fun b1656 => ?_)
                refine w_alu (pc' := 93) (st' := [.int (Int32.ofInt 1)]) (ykc_202 (e := (0, .iconst 1, 0)) rfl) rfl rfl ?_
                refine w_br (pc' := 97) (st' := [.int (Int32.ofInt 1)]) (ykc_202 (e := (4, .goto 4, 97)) rfl) rfl ?_
                refine w_store (pc' := 98) (L' := [some (.ref 170), some (.int (zn (zVd ln t 0))), some (.int (zn (zVd ln t 1))), some (.int (Int32.ofInt 1)), some (.int (zn f)), some (.int (zn k9))]) (st' := []) (m := 1) (ykc_202 (e := (3, .istore_n kF3, 0)) rfl) rfl rfl ?_
                have e1657 : (zn f) + Int32.ofInt 1 = zn (f + 1) := (zaddN (a := f) (b := 1) (znt (by omega)) c_5 (by omega))
                have te1657 := znt (k := f + 1) (by omega)
                refine w_store (pc' := 101) (L' := [some (.ref 170), some (.int (zn (zVd ln t 0))), some (.int (zn (zVd ln t 1))), some (.int (Int32.ofInt 1)), some (.int (zn (f + 1))), some (.int (zn k9))]) (st' := []) (m := 3) (ykc_202 (e := (3, .iinc 4 1, 0)) rfl) (by rw [← e1657]; rfl) rfl ?_
                refine w_gb (ykc_202 (e := (4, .goto (-52), 49)) rfl) (fun k1658 hk1658 => ?_)
                have er : zVr t f = false := decide_eq_false (by omega)
                have hx : zc ph1655 177 f = some (.int (zI (zVr t f))) := by rw [er]; exact u1654.1
                exact ih k1658 hk1658 (f + 1) _ _ (by omega) (fun i hi => by
                  by_cases e : i = f
                  · subst e; exact zVs_1 hgood
                  · exact hg i (by omega)) (zFr_trans hfr (zFr_trans (zFr_mono ft (by first | exact zqa rfl | simp) (by first | exact zqf rfl | simp)) (zFr_st u1654 (Or.inl (by first | exact zqi rfl | simp))))) (zTm_F (zFr_st u1654 (Or.inl (by first | exact zqi rfl | simp)) : zFr [177] [] _ _) (by first | exact ⟨zqm rfl, zqm rfl⟩ | simp) (by first | exact ⟨zqp rfl, zqp rfl⟩ | simp) (by first | exact (fun _ => zqr rfl) | simp) hft) (fun i hi => by
                  by_cases e : i = f
                  · subst e; exact hx
                  · exact (u1654.2.1 177 i (fun q => e q.2)).trans ((ft.1 177 i (by first | exact zqm rfl | simp) (by first | exact zqp rfl | simp)).trans (hrr i (by omega))))
              · refine w_alu (pc' := 82) (st' := [.int (Int32.ofInt 1), .int (zn f), .ref 177]) (ykc_202 (e := (0, .iconst 1, 0)) rfl) rfl rfl ?_
                refine w_br (pc' := 86) (st' := [.int (Int32.ofInt 1), .int (zn f), .ref 177]) (ykc_202 (e := (4, .goto 4, 86)) rfl) rfl ?_
                refine w_bas (pc' := 87) (k := f) (ykc_202 (e := (5, .bastore, 0)) rfl) (by omega) rfl (fun ph1660 u1659 => ?_)
                refine w_load (pc' := 89) (v := .int (zn k9)) (m := 2) (ykc_202 (e := (2, .iload 5, 0)) rfl) rfl rfl ?_
                refine w_zlt (ykc_202 (e := (4, .ifCond .lt 7, 96)) rfl) rfl (fun q => by exfalso; omega) (fun b1661 => ?_)
                refine w_alu (pc' := 93) (st' := [.int (Int32.ofInt 1)]) (ykc_202 (e := (0, .iconst 1, 0)) rfl) rfl rfl ?_
                refine w_br (pc' := 97) (st' := [.int (Int32.ofInt 1)]) (ykc_202 (e := (4, .goto 4, 97)) rfl) rfl ?_
                refine w_store (pc' := 98) (L' := [some (.ref 170), some (.int (zn (zVd ln t 0))), some (.int (zn (zVd ln t 1))), some (.int (Int32.ofInt 1)), some (.int (zn f)), some (.int (zn k9))]) (st' := []) (m := 1) (ykc_202 (e := (3, .istore_n kF3, 0)) rfl) rfl rfl ?_
                have e1662 : (zn f) + Int32.ofInt 1 = zn (f + 1) := (zaddN (a := f) (b := 1) (znt (by omega)) c_5 (by omega))
                have te1662 := znt (k := f + 1) (by omega)
                refine w_store (pc' := 101) (L' := [some (.ref 170), some (.int (zn (zVd ln t 0))), some (.int (zn (zVd ln t 1))), some (.int (Int32.ofInt 1)), some (.int (zn (f + 1))), some (.int (zn k9))]) (st' := []) (m := 3) (ykc_202 (e := (3, .iinc 4 1, 0)) rfl) (by rw [← e1662]; rfl) rfl ?_
                refine w_gb (ykc_202 (e := (4, .goto (-52), 49)) rfl) (fun k1663 hk1663 => ?_)
                have er : zVr t f = true := decide_eq_true (by omega)
                have hx : zc ph1660 177 f = some (.int (zI (zVr t f))) := by rw [er]; exact u1659.1
                exact ih k1663 hk1663 (f + 1) _ _ (by omega) (fun i hi => by
                  by_cases e : i = f
                  · subst e; exact zVs_1 hgood
                  · exact hg i (by omega)) (zFr_trans hfr (zFr_trans (zFr_mono ft (by first | exact zqa rfl | simp) (by first | exact zqf rfl | simp)) (zFr_st u1659 (Or.inl (by first | exact zqi rfl | simp))))) (zTm_F (zFr_st u1659 (Or.inl (by first | exact zqi rfl | simp)) : zFr [177] [] _ _) (by first | exact ⟨zqm rfl, zqm rfl⟩ | simp) (by first | exact ⟨zqp rfl, zqp rfl⟩ | simp) (by first | exact (fun _ => zqr rfl) | simp) hft) (fun i hi => by
                  by_cases e : i = f
                  · subst e; exact hx
                  · exact (u1659.2.1 177 i (fun q => e q.2)).trans ((ft.1 177 i (by first | exact zqm rfl | simp) (by first | exact zqp rfl | simp)).trans (hrr i (by omega))))
            · have hbad : ¬ (2 + f < ln ∧ (t (2 + f) = 46 ∨ t (2 + f) = 35)) := by
                intro h9
                have q0 := hn9 h9.1 0 (by decide)
                have q1 := hn9 h9.1 1 (by decide)
                omega
              have h8 := zVa_2 z0 z1 hg (zVs_0 hbad) (show f < zVN ln t by unfold zVN; omega)
              show zW n D 202 Q 67 [some (.ref 170), some (.int (zn (zVd ln t 0))), some (.int (zn (zVd ln t 1))), some (.int (Int32.ofInt 1)), some (.int (zn f)), x5] [.int (Int32.ofInt (-1))] ph1652
              refine w_store (pc' := 69) (L' := [some (.ref 170), some (.int (zn (zVd ln t 0))), some (.int (zn (zVd ln t 1))), some (.int (Int32.ofInt 1)), some (.int (zn f)), some (.int (Int32.ofInt (-1)))]) (st' := []) (m := 2) (ykc_202 (e := (3, .istore 5, 0)) rfl) rfl rfl ?_
              refine w_load (pc' := 70) (v := .ref 170) (m := 1) (ykc_202 (e := (2, .aload_n kF0, 0)) rfl) rfl rfl ?_
              refine w_gf (pc' := 73) (v := .ref 177) (ykc_202 (e := (5, .getfield 50, 0)) rfl) rfl ((ft.1 170 18 (by first | exact zqm rfl | decide) (by first | exact zqp rfl | decide)).trans ((hfr.1 170 18 (by first | exact zqm rfl | decide) (by first | exact zqp rfl | decide)).trans (zsg hS zs_170_18))) rfl ?_
              refine w_load (pc' := 75) (v := .int (zn f)) (m := 2) (ykc_202 (e := (2, .iload 4, 0)) rfl) rfl rfl ?_
              refine w_load (pc' := 77) (v := .int (Int32.ofInt (-1))) (m := 2) (ykc_202 (e := (2, .iload 5, 0)) rfl) rfl rfl ?_
              refine w_alu (pc' := 78) (st' := [.int (Int32.ofInt 1), .int (Int32.ofInt (-1)), .int (zn f), .ref 177]) (ykc_202 (e := (0, .iconst 1, 0)) rfl) rfl rfl ?_
              refine w_ine (ykc_202 (e := (4, .if_icmp .ne 7, 85)) rfl) rfl (fun b1664 => ?_) (fun q => by exfalso; omega)
              refine w_alu (pc' := 86) (st' := [.int (Int32.ofInt 0), .int (zn f), .ref 177]) (ykc_202 (e := (0, .iconst 0, 0)) rfl) rfl rfl ?_
              refine w_bas (pc' := 87) (k := f) (ykc_202 (e := (5, .bastore, 0)) rfl) (by omega) rfl (fun ph1666 u1665 => ?_)
              refine w_load (pc' := 89) (v := .int (Int32.ofInt (-1))) (m := 2) (ykc_202 (e := (2, .iload 5, 0)) rfl) rfl rfl ?_
              refine w_zlt (ykc_202 (e := (4, .ifCond .lt 7, 96)) rfl) rfl (fun b1667 => ?_) (fun q => by exfalso; omega)
              refine w_alu (pc' := 97) (st' := [.int (Int32.ofInt 0)]) (ykc_202 (e := (0, .iconst 0, 0)) rfl) rfl rfl ?_
              refine w_store (pc' := 98) (L' := [some (.ref 170), some (.int (zn (zVd ln t 0))), some (.int (zn (zVd ln t 1))), some (.int (Int32.ofInt 0)), some (.int (zn f)), some (.int (Int32.ofInt (-1)))]) (st' := []) (m := 1) (ykc_202 (e := (3, .istore_n kF3, 0)) rfl) rfl rfl ?_
              have e1668 : (zn f) + Int32.ofInt 1 = zn (f + 1) := (zaddN (a := f) (b := 1) (znt (by omega)) c_5 (by omega))
              have te1668 := znt (k := f + 1) (by omega)
              refine w_store (pc' := 101) (L' := [some (.ref 170), some (.int (zn (zVd ln t 0))), some (.int (zn (zVd ln t 1))), some (.int (Int32.ofInt 0)), some (.int (zn (f + 1))), some (.int (Int32.ofInt (-1)))]) (st' := []) (m := 3) (ykc_202 (e := (3, .iinc 4 1, 0)) rfl) (by rw [← e1668]; rfl) rfl ?_
              refine w_gb (ykc_202 (e := (4, .goto (-52), 49)) rfl) (fun k1669 hk1669 => ?_)
              refine w_load (pc' := 50) (v := .int (Int32.ofInt 0)) (m := 1) (ykc_202 (e := (2, .iload_n kF3, 0)) rfl) rfl rfl ?_
              refine w_zeq (ykc_202 (e := (4, .ifCond .eq 54, 104)) rfl) rfl (fun b1670 => ?_) (fun q => by exfalso; omega)
              refine w_load (pc' := 105) (v := .int (Int32.ofInt 0)) (m := 1) (ykc_202 (e := (2, .iload_n kF3, 0)) rfl) rfl rfl ?_
              refine w_zeq (ykc_202 (e := (4, .ifCond .eq 14, 119)) rfl) rfl (fun b1671 => ?_) (fun q => by exfalso; omega)
              refine w_alu (pc' := 120) (st' := [.int (Int32.ofInt (-1))]) (ykc_202 (e := (0, .iconst (-1), 0)) rfl) rfl rfl ?_
              refine w_load (pc' := 121) (v := .ref 170) (m := 1) (ykc_202 (e := (2, .aload_n kF0, 0)) rfl) rfl rfl ?_
              refine w_gf (pc' := 124) (v := .int (zn (2 + f))) (ykc_202 (e := (5, .getfield 139, 0)) rfl) rfl ((u1665.2.1 170 15 (fun q => absurd q.1 (by first | exact Nat.ne_of_beq_eq_false rfl | decide))).trans hft.1) rfl ?_
              obtain ⟨z1672, e_z1672, h_z1672⟩ : ∃ zq : Int32, (Int32.ofInt (-1)) - (zn (2 + f)) = zq ∧ zq.toInt = (-1 : Int) - ((2 + f : Nat) : Int) := ⟨_, rfl, zm1sub (by omega) (by omega) (by omega)⟩
              refine w_alu (pc' := 125) (st' := [.int z1672]) (ykc_202 (e := (0, .isub, 0)) rfl) (by rw [← e_z1672]; rfl) rfl ?_
              refine w_ret (v := (some (.int z1672))) (ykc_202 (e := (7, .ireturn, 0)) rfl) (zr_v rfl) ?_
              have f3 : zFr [177] [(170, 0), (170, 14), (170, 15), (170, 16), (170, 17)] ph ph1666 := zFr_trans hfr (zFr_trans (zFr_mono ft (by first | exact zqa rfl | simp) (by first | exact zqf rfl | simp)) (zFr_st u1665 (Or.inl (by first | exact zqi rfl | simp))))
              rw [hQ]
              exact ⟨_, rfl, by rw [h8.1]; omega, Or.inr ⟨h8.2, zMl_F f3 (by first | exact zqp rfl | simp) (by first | exact zqp rfl | simp) (by first | exact (fun _ => zqr rfl) | simp) (by first | exact ⟨zqm rfl, zqm rfl⟩ | simp) hL, zMp_F f3 (by first | exact zqp rfl | simp) (by first | exact zqp rfl | simp) (by first | exact zqm rfl | simp) hN, zNr_F f3 (by first | exact (fun _ => zqr rfl) | simp) (by first | exact zqm rfl | simp) hv, zMu_F f3 (by first | exact ⟨zqm rfl, zqm rfl⟩ | simp) (by first | exact zqp rfl | simp) (by first | exact (fun _ => zqr rfl) | simp) hU, zMk_F f3 (by first | exact ⟨zqm rfl, zqm rfl, zqm rfl, zqm rfl⟩ | simp) (by first | exact zqp rfl | simp) (by first | exact (fun _ => ⟨zqr rfl, zqr rfl, zqr rfl⟩) | simp) hk, zMh_F f3 (by first | exact zqm rfl | simp) (by first | exact zqp rfl | simp) hh⟩⟩
            
      exact hl n 0 _ ph1616 (Nat.zero_le _) (fun i hi => absurd hi (Nat.not_lt_zero i)) (zFr_mono f2 (by first | exact zqa rfl | simp) (by first | exact zqf rfl | simp)) hfd1 (fun i hi => absurd hi (Nat.not_lt_zero i))
      
    · have z1 : zVd ln t 1 = 0 := if_neg (by omega)
      have tz := znt (k := 0 + 1) (by omega)
      show zW n D 202 Q 35 [some (.ref 170), some (.int (zn (zVd ln t 0))), none, none, none, none] [.int (Int32.ofInt (-1))] ph1616
      refine w_store (pc' := 36) (L' := [some (.ref 170), some (.int (zn (zVd ln t 0))), some (.int (Int32.ofInt (-1))), none, none, none]) (st' := []) (m := 1) (ykc_202 (e := (3, .istore_n kF2, 0)) rfl) rfl rfl ?_
      refine w_load (pc' := 37) (v := .int (Int32.ofInt (-1))) (m := 1) (ykc_202 (e := (2, .iload_n kF2, 0)) rfl) rfl rfl ?_
      refine w_zle (ykc_202 (e := (4, .ifCond .le 7, 44)) rfl) rfl (fun b1673 => ?_) (fun q => by exfalso; omega)
      refine w_alu (pc' := 45) (st' := [.int (Int32.ofInt 0)]) (ykc_202 (e := (0, .iconst 0, 0)) rfl) rfl rfl ?_
      refine w_store (pc' := 46) (L' := [some (.ref 170), some (.int (zn (zVd ln t 0))), some (.int (Int32.ofInt (-1))), some (.int (Int32.ofInt 0)), none, none]) (st' := []) (m := 1) (ykc_202 (e := (3, .istore_n kF3, 0)) rfl) rfl rfl ?_
      refine w_alu (pc' := 47) (st' := [.int (Int32.ofInt 0)]) (ykc_202 (e := (0, .iconst 0, 0)) rfl) rfl rfl ?_
      refine w_store (pc' := 49) (L' := [some (.ref 170), some (.int (zn (zVd ln t 0))), some (.int (Int32.ofInt (-1))), some (.int (Int32.ofInt 0)), some (.int (Int32.ofInt 0)), none]) (st' := []) (m := 2) (ykc_202 (e := (3, .istore 4, 0)) rfl) rfl rfl ?_
      refine w_load (pc' := 50) (v := .int (Int32.ofInt 0)) (m := 1) (ykc_202 (e := (2, .iload_n kF3, 0)) rfl) rfl rfl ?_
      refine w_zeq (ykc_202 (e := (4, .ifCond .eq 54, 104)) rfl) rfl (fun b1674 => ?_) (fun q => by exfalso; omega)
      refine w_load (pc' := 105) (v := .int (Int32.ofInt 0)) (m := 1) (ykc_202 (e := (2, .iload_n kF3, 0)) rfl) rfl rfl ?_
      refine w_zeq (ykc_202 (e := (4, .ifCond .eq 14, 119)) rfl) rfl (fun b1675 => ?_) (fun q => by exfalso; omega)
      refine w_alu (pc' := 120) (st' := [.int (Int32.ofInt (-1))]) (ykc_202 (e := (0, .iconst (-1), 0)) rfl) rfl rfl ?_
      refine w_load (pc' := 121) (v := .ref 170) (m := 1) (ykc_202 (e := (2, .aload_n kF0, 0)) rfl) rfl rfl ?_
      refine w_gf (pc' := 124) (v := .int (zn (0 + 1))) (ykc_202 (e := (5, .getfield 139, 0)) rfl) rfl hfd1.1 rfl ?_
      obtain ⟨z1676, e_z1676, h_z1676⟩ : ∃ zq : Int32, (Int32.ofInt (-1)) - (zn (0 + 1)) = zq ∧ zq.toInt = (-1 : Int) - ((0 + 1 : Nat) : Int) := ⟨_, rfl, zm1sub (by omega) (by omega) (by omega)⟩
      refine w_alu (pc' := 125) (st' := [.int z1676]) (ykc_202 (e := (0, .isub, 0)) rfl) (by rw [← e_z1676]; rfl) rfl ?_
      refine w_ret (v := (some (.int z1676))) (ykc_202 (e := (7, .ireturn, 0)) rfl) (zr_v rfl) ?_
      have f2 : zFr [] [(170, 0), (170, 14), (170, 15), (170, 16), (170, 17)] ph ph1616 := zFr_trans f1 (zFr_trans (zFr_mono fd0 (by first | exact zqa rfl | simp) (by first | exact zqf rfl | simp)) (zFr_mono fd1 (by first | exact zqa rfl | simp) (by first | exact zqf rfl | simp)))
      have h8 := zVa_1 z0 z1
      rw [hQ]
      exact ⟨_, rfl, by rw [h8.1]; omega, Or.inr ⟨h8.2, zMl_F f2 (by first | exact zqp rfl | simp) (by first | exact zqp rfl | simp) (by first | exact (fun _ => zqr rfl) | simp) (by first | exact ⟨zqm rfl, zqm rfl⟩ | simp) hL, zMp_F f2 (by first | exact zqp rfl | simp) (by first | exact zqp rfl | simp) (by first | exact zqm rfl | simp) hN, zNr_F f2 (by first | exact (fun _ => zqr rfl) | simp) (by first | exact zqm rfl | simp) hv, zMu_F f2 (by first | exact ⟨zqm rfl, zqm rfl⟩ | simp) (by first | exact zqp rfl | simp) (by first | exact (fun _ => zqr rfl) | simp) hU, zMk_F f2 (by first | exact ⟨zqm rfl, zqm rfl, zqm rfl, zqm rfl⟩ | simp) (by first | exact zqp rfl | simp) (by first | exact (fun _ => ⟨zqr rfl, zqr rfl, zqr rfl⟩) | simp) hk, zMh_F f2 (by first | exact zqm rfl | simp) (by first | exact zqp rfl | simp) hh⟩⟩
    
  · have z0 : zVd ln t 0 = 0 := if_neg (by omega)
    have tz := znt (k := 0) (by omega)
    show zW n D 202 Q 19 [some (.ref 170), none, none, none, none, none] [.int (Int32.ofInt (-1))] ph1613
    refine w_store (pc' := 20) (L' := [some (.ref 170), some (.int (Int32.ofInt (-1))), none, none, none, none]) (st' := []) (m := 1) (ykc_202 (e := (3, .istore_n kF1, 0)) rfl) rfl rfl ?_
    refine w_load (pc' := 21) (v := .int (Int32.ofInt (-1))) (m := 1) (ykc_202 (e := (2, .iload_n kF1, 0)) rfl) rfl rfl ?_
    refine w_zge (ykc_202 (e := (4, .ifCond .ge 7, 28)) rfl) rfl (fun q => by exfalso; omega) (fun b1677 => ?_)
    refine w_alu (pc' := 25) (st' := [.int (Int32.ofInt (-1))]) (ykc_202 (e := (0, .iconst (-1), 0)) rfl) rfl rfl ?_
    refine w_br (pc' := 35) (st' := [.int (Int32.ofInt (-1))]) (ykc_202 (e := (4, .goto 10, 35)) rfl) rfl ?_
    refine w_store (pc' := 36) (L' := [some (.ref 170), some (.int (Int32.ofInt (-1))), some (.int (Int32.ofInt (-1))), none, none, none]) (st' := []) (m := 1) (ykc_202 (e := (3, .istore_n kF2, 0)) rfl) rfl rfl ?_
    refine w_load (pc' := 37) (v := .int (Int32.ofInt (-1))) (m := 1) (ykc_202 (e := (2, .iload_n kF2, 0)) rfl) rfl rfl ?_
    refine w_zle (ykc_202 (e := (4, .ifCond .le 7, 44)) rfl) rfl (fun b1678 => ?_) (fun q => by exfalso; omega)
    refine w_alu (pc' := 45) (st' := [.int (Int32.ofInt 0)]) (ykc_202 (e := (0, .iconst 0, 0)) rfl) rfl rfl ?_
    refine w_store (pc' := 46) (L' := [some (.ref 170), some (.int (Int32.ofInt (-1))), some (.int (Int32.ofInt (-1))), some (.int (Int32.ofInt 0)), none, none]) (st' := []) (m := 1) (ykc_202 (e := (3, .istore_n kF3, 0)) rfl) rfl rfl ?_
    refine w_alu (pc' := 47) (st' := [.int (Int32.ofInt 0)]) (ykc_202 (e := (0, .iconst 0, 0)) rfl) rfl rfl ?_
    refine w_store (pc' := 49) (L' := [some (.ref 170), some (.int (Int32.ofInt (-1))), some (.int (Int32.ofInt (-1))), some (.int (Int32.ofInt 0)), some (.int (Int32.ofInt 0)), none]) (st' := []) (m := 2) (ykc_202 (e := (3, .istore 4, 0)) rfl) rfl rfl ?_
    refine w_load (pc' := 50) (v := .int (Int32.ofInt 0)) (m := 1) (ykc_202 (e := (2, .iload_n kF3, 0)) rfl) rfl rfl ?_
    refine w_zeq (ykc_202 (e := (4, .ifCond .eq 54, 104)) rfl) rfl (fun b1679 => ?_) (fun q => by exfalso; omega)
    refine w_load (pc' := 105) (v := .int (Int32.ofInt 0)) (m := 1) (ykc_202 (e := (2, .iload_n kF3, 0)) rfl) rfl rfl ?_
    refine w_zeq (ykc_202 (e := (4, .ifCond .eq 14, 119)) rfl) rfl (fun b1680 => ?_) (fun q => by exfalso; omega)
    refine w_alu (pc' := 120) (st' := [.int (Int32.ofInt (-1))]) (ykc_202 (e := (0, .iconst (-1), 0)) rfl) rfl rfl ?_
    refine w_load (pc' := 121) (v := .ref 170) (m := 1) (ykc_202 (e := (2, .aload_n kF0, 0)) rfl) rfl rfl ?_
    refine w_gf (pc' := 124) (v := .int (zn (0))) (ykc_202 (e := (5, .getfield 139, 0)) rfl) rfl hfd0.1 rfl ?_
    obtain ⟨z1681, e_z1681, h_z1681⟩ : ∃ zq : Int32, (Int32.ofInt (-1)) - (zn (0)) = zq ∧ zq.toInt = (-1 : Int) - ((0 : Nat) : Int) := ⟨_, rfl, zm1sub (by omega) (by omega) (by omega)⟩
    refine w_alu (pc' := 125) (st' := [.int z1681]) (ykc_202 (e := (0, .isub, 0)) rfl) (by rw [← e_z1681]; rfl) rfl ?_
    refine w_ret (v := (some (.int z1681))) (ykc_202 (e := (7, .ireturn, 0)) rfl) (zr_v rfl) ?_
    have f2 : zFr [] [(170, 0), (170, 14), (170, 15), (170, 16), (170, 17)] ph ph1613 := zFr_trans f1 (zFr_mono fd0 (by first | exact zqa rfl | simp) (by first | exact zqf rfl | simp))
    have h8 := zVa_0 z0
    rw [hQ]
    exact ⟨_, rfl, by rw [h8.1]; omega, Or.inr ⟨h8.2, zMl_F f2 (by first | exact zqp rfl | simp) (by first | exact zqp rfl | simp) (by first | exact (fun _ => zqr rfl) | simp) (by first | exact ⟨zqm rfl, zqm rfl⟩ | simp) hL, zMp_F f2 (by first | exact zqp rfl | simp) (by first | exact zqp rfl | simp) (by first | exact zqm rfl | simp) hN, zNr_F f2 (by first | exact (fun _ => zqr rfl) | simp) (by first | exact zqm rfl | simp) hv, zMu_F f2 (by first | exact ⟨zqm rfl, zqm rfl⟩ | simp) (by first | exact zqp rfl | simp) (by first | exact (fun _ => zqr rfl) | simp) hU, zMk_F f2 (by first | exact ⟨zqm rfl, zqm rfl, zqm rfl, zqm rfl⟩ | simp) (by first | exact zqp rfl | simp) (by first | exact (fun _ => ⟨zqr rfl, zqr rfl, zqr rfl⟩) | simp) hk, zMh_F f2 (by first | exact zqm rfl | simp) (by first | exact zqp rfl | simp) hh⟩⟩
