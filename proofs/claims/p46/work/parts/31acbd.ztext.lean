/-! texts: single signs, by W; printed by wip/z/z1b_text.py -/
/-- the class's text; the reference's, read from a to b -/
def zTc (ph : pm_H) (n : Nat) (t : Nat → Nat) : Prop := zc ph 1 1 = some (.int (zn n)) ∧ n ≤ 80 ∧ ∀ i, i < n → zc ph 2 i = some (.int (zn (t i))) ∧ t i < 256
def zTm (ph : pm_H) (a b n : Nat) (t : Nat → Nat) : Prop := zc ph 170 15 = some (.int (zn a)) ∧ zc ph 170 16 = some (.int (zn b)) ∧ a ≤ b ∧ b ≤ n ∧ n ≤ 80 ∧ ∀ i, i < n → zc ph 176 i = some (.int (zn (t i))) ∧ t i < 256
def zTi (n : Nat) (t : Nat → Nat) (k : Nat) : Int := if k < n then (t k : Int) else -1
def zDi (n : Nat) (t : Nat → Nat) (k : Nat) : Int := if k < n ∧ 48 ≤ t k ∧ t k ≤ 57 then (t k : Int) - 48 else -1
theorem zTc_F {A : List Nat} {F : List (Nat × Nat)} {p q : pm_H} {n : Nat} {t : Nat → Nat} (f : zFr A F p q) (h1 : 1 ∉ A ∧ 2 ∉ A) (h2 : (1, 1) ∉ F) (h3 : ∀ i, (2, i) ∉ F) (h : zTc p n t) : zTc q n t := ⟨(f.1 _ _ h1.1 h2).trans h.1, h.2.1, fun i hi => ⟨(f.1 _ _ h1.2 (h3 i)).trans (h.2.2 i hi).1, (h.2.2 i hi).2⟩⟩
theorem zTm_F {A : List Nat} {F : List (Nat × Nat)} {p q : pm_H} {a b n : Nat} {t : Nat → Nat} (f : zFr A F p q) (h1 : 170 ∉ A ∧ 176 ∉ A) (h2 : (170, 15) ∉ F ∧ (170, 16) ∉ F) (h3 : ∀ i, (176, i) ∉ F) (h : zTm p a b n t) : zTm q a b n t := ⟨(f.1 _ _ h1.1 h2.1).trans h.1, (f.1 _ _ h1.1 h2.2).trans h.2.1, h.2.2.1, h.2.2.2.1, h.2.2.2.2.1, fun i hi => ⟨(f.1 _ _ h1.2 (h3 i)).trans (h.2.2.2.2.2 i hi).1, (h.2.2.2.2.2 i hi).2⟩⟩
theorem zTm_u {p q : pm_H} {a a' b n : Nat} {t : Nat → Nat} (u : zst p q 170 15 (.int (zn a'))) (ha : a' ≤ b) (h : zTm p a b n t) : zTm q a' b n t := ⟨u.1, (u.2.1 170 16 (fun e => absurd e.2 (by decide))).trans h.2.1, ha, h.2.2.2.1, h.2.2.2.2.1, fun i hi => ⟨(u.2.1 176 i (fun e => absurd e.1 (by decide))).trans (h.2.2.2.2.2 i hi).1, (h.2.2.2.2.2 i hi).2⟩⟩
theorem zTi_1 {n k : Nat} {t : Nat → Nat} (h : k < n) : zTi n t k = (t k : Int) := if_pos h
theorem zTi_0 {n k : Nat} {t : Nat → Nat} (h : ¬ k < n) : zTi n t k = -1 := if_neg h
theorem zDi_1 {n k : Nat} {t : Nat → Nat} (h : k < n ∧ 48 ≤ t k ∧ t k ≤ 57) : zDi n t k = (t k : Int) - 48 := if_pos h
theorem zDi_0 {n k : Nat} {t : Nat → Nat} (h : ¬ (k < n ∧ 48 ≤ t k ∧ t k ≤ 57)) : zDi n t k = -1 := if_neg h
theorem zTi_b {n k : Nat} {t : Nat → Nat} (h : k < n → t k < 256) : -1 ≤ zTi n t k ∧ zTi n t k < 256 := by
  unfold zTi
  split
  · next e => have := h e; omega
  · omega
theorem zDi_b {n k : Nat} {t : Nat → Nat} : -1 ≤ zDi n t k ∧ zDi n t k ≤ 9 := by
  unfold zDi
  split <;> omega
theorem zTi_c {n k : Nat} {t : Nat → Nat} : (k < n ∧ zTi n t k = (t k : Int)) ∨ (¬ k < n ∧ zTi n t k = -1) := by
  by_cases h : k < n
  · exact Or.inl ⟨h, zTi_1 h⟩
  · exact Or.inr ⟨h, zTi_0 h⟩
theorem zDi_c {n k : Nat} {t : Nat → Nat} : (k < n ∧ 48 ≤ t k ∧ t k ≤ 57 ∧ zDi n t k = (t k : Int) - 48) ∨ (¬ (k < n ∧ 48 ≤ t k ∧ t k ≤ 57) ∧ zDi n t k = -1) := by
  by_cases h : k < n ∧ 48 ≤ t k ∧ t k ≤ 57
  · exact Or.inl ⟨h.1, h.2.1, h.2.2, zDi_1 h⟩
  · exact Or.inr ⟨h, zDi_0 h⟩
theorem zF15_S {p q : pm_H} (f : zFr [] [(170, 15)] p q) (h : zSh p) : zSh q := zSh_F f (by decide +kernel) h
theorem zc_at {ph : pm_H} {ln : Nat} {t : Nat → Nat} (hS : zSh ph) (hT : zTc ph ln t) {x : Int32} {k : Nat} (hx : x.toInt = (k : Int)) : zM 97 [.ref 1, .int x] ph (fun v q => ph = q ∧ ∃ z : Int32, v = some (.int z) ∧ z.toInt = zTi ln t k) := by
  obtain ⟨Q, hQ⟩ : ∃ Q : Option Value → pm_H → Prop, Q = (fun v q => ph = q ∧ ∃ z : Int32, v = some (.int z) ∧ z.toInt = zTi ln t k) := ⟨_, rfl⟩
  rw [← hQ]
  refine zM_mk fun n D => ?_
  show zW n D 97 Q 0 [some (.ref 1), some (.int x)] [] ph
  have c_0 : (Int32.ofInt (-1)).toInt = -1 := by decide +kernel
  obtain ⟨gn, hn80, gt⟩ := hT
  have tn := znt (k := ln) (by omega)
  refine w_load (pc' := 1) (v := .int x) (m := 1) (ykc_97 (e := (2, .iload_n kF1, 0)) rfl) rfl rfl ?_
  refine w_zlt (ykc_97 (e := (4, .ifCond .lt 20, 21)) rfl) rfl (fun q => by exfalso; omega) (fun b1411 => ?_)
  refine w_load (pc' := 5) (v := .int x) (m := 1) (ykc_97 (e := (2, .iload_n kF1, 0)) rfl) rfl rfl ?_
  refine w_load (pc' := 6) (v := .ref 1) (m := 1) (ykc_97 (e := (2, .aload_n kF0, 0)) rfl) rfl rfl ?_
  refine w_gf (pc' := 9) (v := .int (zn ln)) (ykc_97 (e := (5, .getfield 13, 0)) rfl) rfl gn rfl ?_
  refine w_ige (ykc_97 (e := (4, .if_icmp .ge 12, 21)) rfl) rfl (fun b1412 => ?_) (fun b1412 => ?_)
  · refine w_alu (pc' := 22) (st' := [.int (Int32.ofInt (-1))]) (ykc_97 (e := (0, .iconst (-1), 0)) rfl) rfl rfl ?_
    refine w_ret (v := (some (.int (Int32.ofInt (-1))))) (ykc_97 (e := (7, .ireturn, 0)) rfl) (zr_v rfl) ?_
    have d9 := @zTi_c ln k t
    rw [hQ]
    exact ⟨rfl, _, rfl, by omega⟩
  · refine w_load (pc' := 13) (v := .ref 1) (m := 1) (ykc_97 (e := (2, .aload_n kF0, 0)) rfl) rfl rfl ?_
    refine w_gf (pc' := 16) (v := .ref 2) (ykc_97 (e := (5, .getfield 9, 0)) rfl) rfl (zsg hS zs_1_0) rfl ?_
    refine w_load (pc' := 17) (v := .int x) (m := 1) (ykc_97 (e := (2, .iload_n kF1, 0)) rfl) rfl rfl ?_
    have q1413 := (gt k (by omega)).2
    have tq1413 := znt (k := t k) (by omega)
    refine w_ialk (pc' := 18) (k := k) (ykc_97 (e := (5, .iaload, 0)) rfl) (gt k (by omega)).1 (by omega) rfl ?_
    refine w_br (pc' := 22) (st' := [.int (zn (t k))]) (ykc_97 (e := (4, .goto 4, 22)) rfl) rfl ?_
    refine w_ret (v := (some (.int (zn (t k))))) (ykc_97 (e := (7, .ireturn, 0)) rfl) (zr_v rfl) ?_
    have d9 := @zTi_c ln k t
    rw [hQ]
    exact ⟨rfl, _, rfl, by omega⟩
theorem zc_digit {ph : pm_H} {ln : Nat} {t : Nat → Nat} (hS : zSh ph) (hT : zTc ph ln t) {x : Int32} {k : Nat} (hx : x.toInt = (k : Int)) : zM 98 [.ref 1, .int x] ph (fun v q => ph = q ∧ ∃ z : Int32, v = some (.int z) ∧ z.toInt = zDi ln t k) := by
  obtain ⟨Q, hQ⟩ : ∃ Q : Option Value → pm_H → Prop, Q = (fun v q => ph = q ∧ ∃ z : Int32, v = some (.int z) ∧ z.toInt = zDi ln t k) := ⟨_, rfl⟩
  rw [← hQ]
  refine zM_mk fun n D => ?_
  show zW n D 98 Q 0 [some (.ref 1), some (.int x), none] [] ph
  have c_0 : ((Int8.ofInt 48).toInt32).toInt = 48 := by decide +kernel
  have c_1 : ((Int8.ofInt 57).toInt32).toInt = 57 := by decide +kernel
  have c_2 : (Int32.ofInt (-1)).toInt = -1 := by decide +kernel
  have hT0 := hT
  obtain ⟨gn, hn80, gt⟩ := hT
  have tn := znt (k := ln) (by omega)
  refine w_load (pc' := 1) (v := .ref 1) (m := 1) (ykc_98 (e := (2, .aload_n kF0, 0)) rfl) rfl rfl ?_
  refine w_load (pc' := 2) (v := .int x) (m := 1) (ykc_98 (e := (2, .iload_n kF1, 0)) rfl) rfl rfl ?_
  refine w_cv (as := [.ref 1, .int x]) (r := []) (ykc_98 (e := (6, .invokevirtual 17, 0)) rfl) rfl rfl rfl rfl (zc_at hS hT0 (k := k) (by omega)) (fun v1415 ph1416 hv => ?_)
  obtain ⟨rfl, g1414, rfl, e_g1414⟩ := hv
  have b_g1414 := @zTi_b ln k t (fun h => (gt _ h).2)
  have d_g1414 := @zTi_c ln k t
  show zW n D 98 Q 5 [some (.ref 1), some (.int x), none] [.int g1414] ph
  refine w_store (pc' := 6) (L' := [some (.ref 1), some (.int x), some (.int g1414)]) (st' := []) (m := 1) (ykc_98 (e := (3, .istore_n kF2, 0)) rfl) rfl rfl ?_
  refine w_load (pc' := 7) (v := .int g1414) (m := 1) (ykc_98 (e := (2, .iload_n kF2, 0)) rfl) rfl rfl ?_
  refine w_push (pc' := 9) (v := .int ((Int8.ofInt 48).toInt32)) (m := 2) (ykc_98 (e := (1, .bipush 48, 0)) rfl) rfl rfl ?_
  refine w_ilt (ykc_98 (e := (4, .if_icmp .lt 16, 25)) rfl) rfl (fun b1417 => ?_) (fun b1417 => ?_)
  · refine w_alu (pc' := 26) (st' := [.int (Int32.ofInt (-1))]) (ykc_98 (e := (0, .iconst (-1), 0)) rfl) rfl rfl ?_
    refine w_ret (v := (some (.int (Int32.ofInt (-1))))) (ykc_98 (e := (7, .ireturn, 0)) rfl) (zr_v rfl) ?_
    have d8 := @zDi_c ln k t
    rw [hQ]
    exact ⟨rfl, _, rfl, by omega⟩
  · refine w_load (pc' := 13) (v := .int g1414) (m := 1) (ykc_98 (e := (2, .iload_n kF2, 0)) rfl) rfl rfl ?_
    refine w_push (pc' := 15) (v := .int ((Int8.ofInt 57).toInt32)) (m := 2) (ykc_98 (e := (1, .bipush 57, 0)) rfl) rfl rfl ?_
    refine w_igt (ykc_98 (e := (4, .if_icmp .gt 10, 25)) rfl) rfl (fun b1418 => ?_) (fun b1418 => ?_)
    · refine w_alu (pc' := 26) (st' := [.int (Int32.ofInt (-1))]) (ykc_98 (e := (0, .iconst (-1), 0)) rfl) rfl rfl ?_
      refine w_ret (v := (some (.int (Int32.ofInt (-1))))) (ykc_98 (e := (7, .ireturn, 0)) rfl) (zr_v rfl) ?_
      have d8 := @zDi_c ln k t
      rw [hQ]
      exact ⟨rfl, _, rfl, by omega⟩
    · refine w_load (pc' := 19) (v := .int g1414) (m := 1) (ykc_98 (e := (2, .iload_n kF2, 0)) rfl) rfl rfl ?_
      refine w_push (pc' := 21) (v := .int ((Int8.ofInt 48).toInt32)) (m := 2) (ykc_98 (e := (1, .bipush 48, 0)) rfl) rfl rfl ?_
      obtain ⟨z1419, e_z1419, h_z1419⟩ : ∃ zq : Int32, g1414 - ((Int8.ofInt 48).toInt32) = zq ∧ zq.toInt = zTi ln t k - (48 : Int) := ⟨_, rfl, (by have := ti_sub (x := g1414) (y := ((Int8.ofInt 48).toInt32)) (by omega) (by omega); omega)⟩
      refine w_alu (pc' := 22) (st' := [.int z1419]) (ykc_98 (e := (0, .isub, 0)) rfl) (by rw [← e_z1419]; rfl) rfl ?_
      refine w_br (pc' := 26) (st' := [.int z1419]) (ykc_98 (e := (4, .goto 4, 26)) rfl) rfl ?_
      refine w_ret (v := (some (.int z1419))) (ykc_98 (e := (7, .ireturn, 0)) rfl) (zr_v rfl) ?_
      have d8 := @zDi_c ln k t
      rw [hQ]
      exact ⟨rfl, _, rfl, by omega⟩
theorem zc_tsize {ph : pm_H} {ln : Nat} (hn : zc ph 1 1 = some (.int (zn ln))) : zM 99 [.ref 1] ph (fun v q => ph = q ∧ v = some (.int (zn ln))) := by
  obtain ⟨Q, hQ⟩ : ∃ Q : Option Value → pm_H → Prop, Q = (fun v q => ph = q ∧ v = some (.int (zn ln))) := ⟨_, rfl⟩
  rw [← hQ]
  refine zM_mk fun n D => ?_
  show zW n D 99 Q 0 [some (.ref 1)] [] ph
  refine w_load (pc' := 1) (v := .ref 1) (m := 1) (ykc_99 (e := (2, .aload_n kF0, 0)) rfl) rfl rfl ?_
  refine w_gf (pc' := 4) (v := .int (zn ln)) (ykc_99 (e := (5, .getfield 13, 0)) rfl) rfl hn rfl ?_
  refine w_ret (v := (some (.int (zn ln)))) (ykc_99 (e := (7, .ireturn, 0)) rfl) (zr_v rfl) ?_
  rw [hQ]
  exact ⟨rfl, rfl⟩
theorem zc_tclear {ph : pm_H} : zM 100 [.ref 1] ph (fun v q => v = none ∧ zFr [] [(1, 1)] ph q ∧ zc q 1 1 = some (.int (zn 0))) := by
  obtain ⟨Q, hQ⟩ : ∃ Q : Option Value → pm_H → Prop, Q = (fun v q => v = none ∧ zFr [] [(1, 1)] ph q ∧ zc q 1 1 = some (.int (zn 0))) := ⟨_, rfl⟩
  rw [← hQ]
  refine zM_mk fun n D => ?_
  show zW n D 100 Q 0 [some (.ref 1)] [] ph
  have c_0 : (Int32.ofInt 0).toInt = 0 := by decide +kernel
  refine w_load (pc' := 1) (v := .ref 1) (m := 1) (ykc_100 (e := (2, .aload_n kF0, 0)) rfl) rfl rfl ?_
  refine w_alu (pc' := 2) (st' := [.int (Int32.ofInt 0), .ref 1]) (ykc_100 (e := (0, .iconst 0, 0)) rfl) rfl rfl ?_
  refine w_pf (pc' := 5) (ykc_100 (e := (5, .putfield 13, 0)) rfl) rfl rfl (fun ph1421 u1420 => ?_)
  refine w_ret (v := none) (ykc_100 (e := (7, .return_, 0)) rfl) (zr_v rfl) ?_
  rw [hQ]
  exact ⟨rfl, zFr_st u1420 (Or.inr (by first | exact zqj rfl | simp)), u1420.1⟩
theorem zm_begins {ph : pm_H} {ln c : Nat} {t : Nat → Nat} {y : Int32} (hS : zSh ph) (hn : zc ph 170 14 = some (.int (zn ln))) (hn80 : ln ≤ 80) (gt : ∀ i, i < ln → zc ph 176 i = some (.int (zn (t i))) ∧ t i < 256) (hy : y.toInt = (c : Int)) (hc : c ≤ 80) : zM 195 [.ref 170, .int y] ph (fun v q => v = some (.int (zn ln)) ∧ zFr [] [(170, 14), (170, 15), (170, 16), (170, 17)] ph q ∧ zc q 170 14 = some (.int (zn 0)) ∧ zTm q 0 (min ln c) ln t) := by
  obtain ⟨Q, hQ⟩ : ∃ Q : Option Value → pm_H → Prop, Q = (fun v q => v = some (.int (zn ln)) ∧ zFr [] [(170, 14), (170, 15), (170, 16), (170, 17)] ph q ∧ zc q 170 14 = some (.int (zn 0)) ∧ zTm q 0 (min ln c) ln t) := ⟨_, rfl⟩
  rw [← hQ]
  refine zM_mk fun n D => ?_
  show zW n D 195 Q 0 [some (.ref 170), some (.int y), none] [] ph
  have c_0 : (Int32.ofInt 0).toInt = 0 := by decide +kernel
  have tn := znt (k := ln) (by omega)
  refine w_load (pc' := 1) (v := .ref 170) (m := 1) (ykc_195 (e := (2, .aload_n kF0, 0)) rfl) rfl rfl ?_
  refine w_gf (pc' := 4) (v := .int (zn ln)) (ykc_195 (e := (5, .getfield 136, 0)) rfl) rfl hn rfl ?_
  refine w_store (pc' := 5) (L' := [some (.ref 170), some (.int y), some (.int (zn ln))]) (st' := []) (m := 1) (ykc_195 (e := (3, .istore_n kF2, 0)) rfl) rfl rfl ?_
  refine w_load (pc' := 6) (v := .ref 170) (m := 1) (ykc_195 (e := (2, .aload_n kF0, 0)) rfl) rfl rfl ?_
  refine w_alu (pc' := 7) (st' := [.int (Int32.ofInt 0), .ref 170]) (ykc_195 (e := (0, .iconst 0, 0)) rfl) rfl rfl ?_
  refine w_pf (pc' := 10) (ykc_195 (e := (5, .putfield 136, 0)) rfl) rfl rfl (fun ph1423 u1422 => ?_)
  refine w_load (pc' := 11) (v := .ref 170) (m := 1) (ykc_195 (e := (2, .aload_n kF0, 0)) rfl) rfl rfl ?_
  refine w_alu (pc' := 12) (st' := [.int (Int32.ofInt 0), .ref 170]) (ykc_195 (e := (0, .iconst 0, 0)) rfl) rfl rfl ?_
  refine w_pf (pc' := 15) (ykc_195 (e := (5, .putfield 139, 0)) rfl) rfl rfl (fun ph1425 u1424 => ?_)
  refine w_load (pc' := 16) (v := .ref 170) (m := 1) (ykc_195 (e := (2, .aload_n kF0, 0)) rfl) rfl rfl ?_
  refine w_alu (pc' := 17) (st' := [.int (Int32.ofInt 0), .ref 170]) (ykc_195 (e := (0, .iconst 0, 0)) rfl) rfl rfl ?_
  refine w_pf (pc' := 20) (ykc_195 (e := (5, .putfield 142, 0)) rfl) rfl rfl (fun ph1427 u1426 => ?_)
  refine w_load (pc' := 21) (v := .ref 170) (m := 1) (ykc_195 (e := (2, .aload_n kF0, 0)) rfl) rfl rfl ?_
  refine w_load (pc' := 22) (v := .int (zn ln)) (m := 1) (ykc_195 (e := (2, .iload_n kF2, 0)) rfl) rfl rfl ?_
  refine w_load (pc' := 23) (v := .int y) (m := 1) (ykc_195 (e := (2, .iload_n kF1, 0)) rfl) rfl rfl ?_
  obtain ⟨z1428, e_z1428⟩ : ∃ zq : Int32, (if y < (zn ln) then y else (zn ln)) = zq := ⟨_, rfl⟩
  have h_z1428 := zminI e_z1428
  have n_z1428 : z1428.toInt = ((min ln c : Nat) : Int) := by omega
  refine w_mem1 (pc' := 26) (m := 3) (st' := [.int z1428, .ref 170]) (ph' := ph1427) (ykc_195 (e := (5, .invokestatic 145, 0)) rfl) (by rw [← e_z1428]; rfl) rfl ?_
  refine w_pf (pc' := 29) (ykc_195 (e := (5, .putfield 151, 0)) rfl) rfl rfl (fun ph1430 u1429 => ?_)
  refine w_load (pc' := 30) (v := .int (zn ln)) (m := 1) (ykc_195 (e := (2, .iload_n kF2, 0)) rfl) rfl rfl ?_
  refine w_ret (v := (some (.int (zn ln)))) (ykc_195 (e := (7, .ireturn, 0)) rfl) (zr_v rfl) ?_
  rw [hQ]
  have ez : z1428 = zn (min ln c) := zn_of (by omega)
  have f4 : zFr [] [(170, 14), (170, 15), (170, 16), (170, 17)] ph ph1430 := zFr_trans (zFr_st u1422 (Or.inr (by first | exact zqj rfl | simp))) (zFr_trans (zFr_st u1424 (Or.inr (by first | exact zqj rfl | simp))) (zFr_trans (zFr_st u1426 (Or.inr (by first | exact zqj rfl | simp))) (zFr_st u1429 (Or.inr (by first | exact zqj rfl | simp)))))
  exact ⟨rfl, f4, ((u1429.2.1 170 14 (fun q => absurd q.2 (by first | exact Nat.ne_of_beq_eq_false rfl | decide))).trans ((u1426.2.1 170 14 (fun q => absurd q.2 (by first | exact Nat.ne_of_beq_eq_false rfl | decide))).trans ((u1424.2.1 170 14 (fun q => absurd q.2 (by first | exact Nat.ne_of_beq_eq_false rfl | decide))).trans u1422.1))), ((u1429.2.1 170 15 (fun q => absurd q.2 (by first | exact Nat.ne_of_beq_eq_false rfl | decide))).trans ((u1426.2.1 170 15 (fun q => absurd q.2 (by first | exact Nat.ne_of_beq_eq_false rfl | decide))).trans u1424.1)), by rw [← ez]; exact u1429.1, Nat.zero_le _, Nat.min_le_left _ _, hn80, fun i hi => ⟨(f4.1 _ _ (by first | exact zqm rfl | decide) (by first | exact zqp rfl | simp)).trans (gt i hi).1, (gt i hi).2⟩⟩
theorem zm_isDigit {ph : pm_H} {a b ln : Nat} {t : Nat → Nat} (hS : zSh ph) (hT : zTm ph a b ln t) : zM 197 [.ref 170] ph (fun v q => ph = q ∧ v = some (.int (zI (decide (a < b ∧ 48 ≤ t a ∧ t a ≤ 57))))) := by
  obtain ⟨Q, hQ⟩ : ∃ Q : Option Value → pm_H → Prop, Q = (fun v q => ph = q ∧ v = some (.int (zI (decide (a < b ∧ 48 ≤ t a ∧ t a ≤ 57))))) := ⟨_, rfl⟩
  rw [← hQ]
  refine zM_mk fun n D => ?_
  show zW n D 197 Q 0 [some (.ref 170)] [] ph
  have c_0 : (Int32.ofInt 0).toInt = 0 := by decide +kernel
  have c_1 : (Int32.ofInt 1).toInt = 1 := by decide +kernel
  obtain ⟨ga, gb, hab, hbn, hn80, gt⟩ := hT
  have ta := znt (k := a) (by omega)
  have tb := znt (k := b) (by omega)
  refine w_load (pc' := 1) (v := .ref 170) (m := 1) (ykc_197 (e := (2, .aload_n kF0, 0)) rfl) rfl rfl ?_
  refine w_gf (pc' := 4) (v := .int (zn a)) (ykc_197 (e := (5, .getfield 139, 0)) rfl) rfl ga rfl ?_
  refine w_load (pc' := 5) (v := .ref 170) (m := 1) (ykc_197 (e := (2, .aload_n kF0, 0)) rfl) rfl rfl ?_
  refine w_gf (pc' := 8) (v := .int (zn b)) (ykc_197 (e := (5, .getfield 151, 0)) rfl) rfl gb rfl ?_
  refine w_ige (ykc_197 (e := (4, .if_icmp .ge 29, 37)) rfl) rfl (fun b1431 => ?_) (fun b1431 => ?_)
  · refine w_alu (pc' := 38) (st' := [.int (Int32.ofInt 0)]) (ykc_197 (e := (0, .iconst 0, 0)) rfl) rfl rfl ?_
    refine w_ret (v := (some (.int (Int32.ofInt 0)))) (ykc_197 (e := (7, .ireturn, 0)) rfl) zr_z ?_
    rw [hQ, zi0]
    exact ⟨rfl, zvB (decide_eq_false (by omega)).symm⟩
  · refine w_load (pc' := 12) (v := .ref 170) (m := 1) (ykc_197 (e := (2, .aload_n kF0, 0)) rfl) rfl rfl ?_
    refine w_gf (pc' := 15) (v := .ref 176) (ykc_197 (e := (5, .getfield 47, 0)) rfl) rfl (zsg hS zs_170_13) rfl ?_
    refine w_load (pc' := 16) (v := .ref 170) (m := 1) (ykc_197 (e := (2, .aload_n kF0, 0)) rfl) rfl rfl ?_
    refine w_gf (pc' := 19) (v := .int (zn a)) (ykc_197 (e := (5, .getfield 139, 0)) rfl) rfl ga rfl ?_
    have q1432 := (gt a (by omega)).2
    have tq1432 := znt (k := t a) (by omega)
    refine w_ialk (pc' := 20) (k := a) (ykc_197 (e := (5, .iaload, 0)) rfl) (gt a (by omega)).1 (by omega) rfl ?_
    refine w_alu (pc' := 21) (st' := [.long ((zn (t a)).toInt64)]) (ykc_197 (e := (0, .i2l, 0)) rfl) rfl rfl ?_
    refine w_push (pc' := 24) (v := .long (48 : Int64)) (m := 3) (ykc_197 (e := (1, .ldc2_w 158, 0)) rfl) rfl rfl ?_
    refine w_push (pc' := 27) (v := .long (57 : Int64)) (m := 3) (ykc_197 (e := (1, .ldc2_w 160, 0)) rfl) rfl rfl ?_
    refine w_cs (as := [.long ((zn (t a)).toInt64), .long (48 : Int64), .long (57 : Int64)]) (r := []) (ykc_197 (e := (6, .invokestatic 126, 0)) rfl) rfl rfl rfl rfl (zm_in (x := ((t a : Nat) : Int)) (y := (48 : Int)) (z := (57 : Int)) (by first | exact ztl | (rw [ztl]; omega) | decide | omega) (by first | exact ztl | (rw [ztl]; omega) | decide | omega) (by first | exact ztl | (rw [ztl]; omega) | decide | omega)) (fun v1433 ph1434 hv => ?_)
    obtain ⟨rfl, rfl⟩ := hv
    show zW n D 197 Q 30 [some (.ref 170)] [.int (zI (decide ((48 : Int) ≤ ((t a : Nat) : Int) ∧ ((t a : Nat) : Int) ≤ (57 : Int))))] ph
    refine w_beq (ykc_197 (e := (4, .ifCond .eq 7, 37)) rfl) rfl (fun b1435 => ?_) (fun b1435 => ?_)
    · refine w_alu (pc' := 38) (st' := [.int (Int32.ofInt 0)]) (ykc_197 (e := (0, .iconst 0, 0)) rfl) rfl rfl ?_
      refine w_ret (v := (some (.int (Int32.ofInt 0)))) (ykc_197 (e := (7, .ireturn, 0)) rfl) zr_z ?_
      rw [hQ, zi0]
      exact ⟨rfl, zvB (decide_eq_false (by have h9 := of_decide_eq_false b1435; omega)).symm⟩
    · refine w_alu (pc' := 34) (st' := [.int (Int32.ofInt 1)]) (ykc_197 (e := (0, .iconst 1, 0)) rfl) rfl rfl ?_
      refine w_br (pc' := 38) (st' := [.int (Int32.ofInt 1)]) (ykc_197 (e := (4, .goto 4, 38)) rfl) rfl ?_
      refine w_ret (v := (some (.int (Int32.ofInt 1)))) (ykc_197 (e := (7, .ireturn, 0)) rfl) zr_z ?_
      rw [hQ, zi1]
      exact ⟨rfl, zvB (decide_eq_true (by have h9 := of_decide_eq_true b1435; omega)).symm⟩
theorem zm_num1 {ph : pm_H} {a b ln : Nat} {t : Nat → Nat} (hS : zSh ph) (hT : zTm ph a b ln t) : zM 199 [.ref 170, .int (Int32.ofInt 1)] ph (fun v0 q => zFr [] [(170, 15)] ph q ∧ (((a < b ∧ 48 ≤ t a ∧ t a ≤ 57) ∧ v0 = some (.int (zn (t a - 48))) ∧ zTm q (a + 1) b ln t) ∨ (¬ (a < b ∧ 48 ≤ t a ∧ t a ≤ 57) ∧ v0 = some (.int (Int32.ofInt (-1))) ∧ zTm q a b ln t))) := by
  obtain ⟨Q, hQ⟩ : ∃ Q : Option Value → pm_H → Prop, Q = (fun v0 q => zFr [] [(170, 15)] ph q ∧ (((a < b ∧ 48 ≤ t a ∧ t a ≤ 57) ∧ v0 = some (.int (zn (t a - 48))) ∧ zTm q (a + 1) b ln t) ∨ (¬ (a < b ∧ 48 ≤ t a ∧ t a ≤ 57) ∧ v0 = some (.int (Int32.ofInt (-1))) ∧ zTm q a b ln t))) := ⟨_, rfl⟩
  rw [← hQ]
  refine zM_mk fun n D => ?_
  show zW n D 199 Q 0 [some (.ref 170), some (.int (Int32.ofInt 1)), none, none] [] ph
  have c_0 : ((Int8.ofInt 10).toInt32).toInt = 10 := by decide +kernel
  have c_1 : ((Int8.ofInt 48).toInt32).toInt = 48 := by decide +kernel
  have c_2 : (Int32.ofInt (-1)).toInt = -1 := by decide +kernel
  have c_3 : (Int32.ofInt 0).toInt = 0 := by decide +kernel
  have c_4 : (Int32.ofInt 1).toInt = 1 := by decide +kernel
  have hT0 := hT
  obtain ⟨ga, gb, hab, hbn, hn80, gt⟩ := hT
  have ta := znt (k := a) (by omega)
  have tb := znt (k := b) (by omega)
  refine w_load (pc' := 1) (v := .ref 170) (m := 1) (ykc_199 (e := (2, .aload_n kF0, 0)) rfl) rfl rfl ?_
  refine w_cv (as := [.ref 170]) (r := []) (ykc_199 (e := (6, .invokevirtual 171, 0)) rfl) rfl rfl rfl rfl (zm_isDigit hS hT0) (fun v1436 ph1437 hv => ?_)
  obtain ⟨rfl, rfl⟩ := hv
  show zW n D 199 Q 4 [some (.ref 170), some (.int (Int32.ofInt 1)), none, none] [.int (zI (decide (a < b ∧ 48 ≤ t a ∧ t a ≤ 57)))] ph
  refine w_bne (ykc_199 (e := (4, .ifCond .ne 5, 9)) rfl) rfl (fun b1438 => ?_) (fun b1438 => ?_)
  · refine w_alu (pc' := 10) (st' := [.int (Int32.ofInt 0)]) (ykc_199 (e := (0, .iconst 0, 0)) rfl) rfl rfl ?_
    refine w_store (pc' := 11) (L' := [some (.ref 170), some (.int (Int32.ofInt 1)), some (.int (Int32.ofInt 0)), none]) (st' := []) (m := 1) (ykc_199 (e := (3, .istore_n kF2, 0)) rfl) rfl rfl ?_
    refine w_alu (pc' := 12) (st' := [.int (Int32.ofInt 0)]) (ykc_199 (e := (0, .iconst 0, 0)) rfl) rfl rfl ?_
    refine w_store (pc' := 13) (L' := [some (.ref 170), some (.int (Int32.ofInt 1)), some (.int (Int32.ofInt 0)), some (.int (Int32.ofInt 0))]) (st' := []) (m := 1) (ykc_199 (e := (3, .istore_n kF3, 0)) rfl) rfl rfl ?_
    refine w_load (pc' := 14) (v := .int (Int32.ofInt 0)) (m := 1) (ykc_199 (e := (2, .iload_n kF3, 0)) rfl) rfl rfl ?_
    refine w_load (pc' := 15) (v := .int (Int32.ofInt 1)) (m := 1) (ykc_199 (e := (2, .iload_n kF1, 0)) rfl) rfl rfl ?_
    refine w_ige (ykc_199 (e := (4, .if_icmp .ge 44, 59)) rfl) rfl (fun q => by exfalso; omega) (fun b1439 => ?_)
    refine w_load (pc' := 19) (v := .ref 170) (m := 1) (ykc_199 (e := (2, .aload_n kF0, 0)) rfl) rfl rfl ?_
    refine w_cv (as := [.ref 170]) (r := []) (ykc_199 (e := (6, .invokevirtual 171, 0)) rfl) rfl rfl rfl rfl (zm_isDigit hS hT0) (fun v1440 ph1441 hv => ?_)
    obtain ⟨rfl, rfl⟩ := hv
    show zW n D 199 Q 22 [some (.ref 170), some (.int (Int32.ofInt 1)), some (.int (Int32.ofInt 0)), some (.int (Int32.ofInt 0))] [.int (zI (decide (a < b ∧ 48 ≤ t a ∧ t a ≤ 57)))] ph
    refine w_beq (ykc_199 (e := (4, .ifCond .eq 37, 59)) rfl) rfl (fun q => by rw [show decide (a < b ∧ 48 ≤ t a ∧ t a ≤ 57) = true from b1438] at q; cases q) (fun b1442 => ?_)
    refine w_push (pc' := 27) (v := .int ((Int8.ofInt 10).toInt32)) (m := 2) (ykc_199 (e := (1, .bipush 10, 0)) rfl) rfl rfl ?_
    have h9 := of_decide_eq_true b1438
    refine w_load (pc' := 28) (v := .int (Int32.ofInt 0)) (m := 1) (ykc_199 (e := (2, .iload_n kF2, 0)) rfl) rfl rfl ?_
    have e1443 : ((Int8.ofInt 10).toInt32) * (Int32.ofInt 0) = zn (0) := zn_of (by rw [ti_mul (by rw [show ((Int8.ofInt 10).toInt32).toInt = (10 : Int) by omega, show (Int32.ofInt 0).toInt = (0 : Int) by omega]; omega) (by rw [show ((Int8.ofInt 10).toInt32).toInt = (10 : Int) by omega, show (Int32.ofInt 0).toInt = (0 : Int) by omega]; omega), show ((Int8.ofInt 10).toInt32).toInt = (10 : Int) by omega, show (Int32.ofInt 0).toInt = (0 : Int) by omega] <;> omega)
    have te1443 := znt (k := 0) (by omega)
    refine w_alu (pc' := 29) (st' := [.int (zn (0))]) (ykc_199 (e := (0, .imul, 0)) rfl) (by rw [← e1443]; rfl) rfl ?_
    refine w_load (pc' := 30) (v := .ref 170) (m := 1) (ykc_199 (e := (2, .aload_n kF0, 0)) rfl) rfl rfl ?_
    refine w_gf (pc' := 33) (v := .ref 176) (ykc_199 (e := (5, .getfield 47, 0)) rfl) rfl (zsg hS zs_170_13) rfl ?_
    refine w_load (pc' := 34) (v := .ref 170) (m := 1) (ykc_199 (e := (2, .aload_n kF0, 0)) rfl) rfl rfl ?_
    refine w_gf (pc' := 37) (v := .int (zn a)) (ykc_199 (e := (5, .getfield 139, 0)) rfl) rfl ga rfl ?_
    have q1444 := (gt a (by omega)).2
    have tq1444 := znt (k := t a) (by omega)
    refine w_ialk (pc' := 38) (k := a) (ykc_199 (e := (5, .iaload, 0)) rfl) (gt a (by omega)).1 (by omega) rfl ?_
    have e1445 : (zn (0)) + (zn (t a)) = zn (0 + (t a)) := (zaddN (a := 0) (b := t a) (znt (by omega)) (znt (by omega)) (by omega)) 
    have te1445 := znt (k := 0 + (t a)) (by omega)
    refine w_alu (pc' := 39) (st' := [.int (zn (0 + (t a)))]) (ykc_199 (e := (0, .iadd, 0)) rfl) (by rw [← e1445]; rfl) rfl ?_
    refine w_push (pc' := 41) (v := .int ((Int8.ofInt 48).toInt32)) (m := 2) (ykc_199 (e := (1, .bipush 48, 0)) rfl) rfl rfl ?_
    have e1446 : (zn (0 + (t a))) - ((Int8.ofInt 48).toInt32) = zn (t a - 48) := zn_of (by have h8 := ti_sub (x := (zn (0 + (t a)))) (y := ((Int8.ofInt 48).toInt32)) (by omega) (by omega); omega)
    have te1446 := znt (k := t a - 48) (by omega)
    refine w_alu (pc' := 42) (st' := [.int (zn (t a - 48))]) (ykc_199 (e := (0, .isub, 0)) rfl) (by rw [← e1446]; rfl) rfl ?_
    refine w_store (pc' := 43) (L' := [some (.ref 170), some (.int (Int32.ofInt 1)), some (.int (zn (t a - 48))), some (.int (Int32.ofInt 0))]) (st' := []) (m := 1) (ykc_199 (e := (3, .istore_n kF2, 0)) rfl) rfl rfl ?_
    refine w_load (pc' := 44) (v := .ref 170) (m := 1) (ykc_199 (e := (2, .aload_n kF0, 0)) rfl) rfl rfl ?_
    refine w_alu (pc' := 45) (st' := [.ref 170, .ref 170]) (ykc_199 (e := (0, .dup, 0)) rfl) rfl rfl ?_
    refine w_gf (pc' := 48) (v := .int (zn a)) (ykc_199 (e := (5, .getfield 139, 0)) rfl) rfl ga rfl ?_
    refine w_alu (pc' := 49) (st' := [.int (Int32.ofInt 1), .int (zn a), .ref 170]) (ykc_199 (e := (0, .iconst 1, 0)) rfl) rfl rfl ?_
    have e1447 : (zn a) + (Int32.ofInt 1) = zn (a + 1) := (zaddN (a := a) (b := 1) (znt (by omega)) c_4 (by omega)) 
    have te1447 := znt (k := a + 1) (by omega)
    refine w_alu (pc' := 50) (st' := [.int (zn (a + 1)), .ref 170]) (ykc_199 (e := (0, .iadd, 0)) rfl) (by rw [← e1447]; rfl) rfl ?_
    refine w_pf (pc' := 53) (ykc_199 (e := (5, .putfield 139, 0)) rfl) rfl rfl (fun ph1449 u1448 => ?_)
    have e1450 : (Int32.ofInt 0) + Int32.ofInt 1 = zn (0 + 1) := (zaddN (a := 0) (b := 1) c_3 c_4 (by omega))
    have te1450 := znt (k := 0 + 1) (by omega)
    refine w_store (pc' := 56) (L' := [some (.ref 170), some (.int (Int32.ofInt 1)), some (.int (zn (t a - 48))), some (.int (zn (0 + 1)))]) (st' := []) (m := 3) (ykc_199 (e := (3, .iinc 3 1, 0)) rfl) (by rw [← e1450]; rfl) rfl ?_
    refine w_br (pc' := 13) (st' := []) (ykc_199 (e := (4, .goto (-43), 13)) rfl) rfl ?_
    refine w_load (pc' := 14) (v := .int (zn (0 + 1))) (m := 1) (ykc_199 (e := (2, .iload_n kF3, 0)) rfl) rfl rfl ?_
    refine w_load (pc' := 15) (v := .int (Int32.ofInt 1)) (m := 1) (ykc_199 (e := (2, .iload_n kF1, 0)) rfl) rfl rfl ?_
    refine w_ige (ykc_199 (e := (4, .if_icmp .ge 44, 59)) rfl) rfl (fun b1451 => ?_) (fun q => by exfalso; omega)
    refine w_load (pc' := 60) (v := .int (zn (t a - 48))) (m := 1) (ykc_199 (e := (2, .iload_n kF2, 0)) rfl) rfl rfl ?_
    refine w_ret (v := (some (.int (zn (t a - 48))))) (ykc_199 (e := (7, .ireturn, 0)) rfl) (zr_v rfl) ?_
    rw [hQ]
    exact ⟨zFr_st u1448 (Or.inr (by first | exact zqj rfl | simp)), Or.inl ⟨h9, rfl, zTm_u u1448 (by omega) hT0⟩⟩
  · refine w_alu (pc' := 8) (st' := [.int (Int32.ofInt (-1))]) (ykc_199 (e := (0, .iconst (-1), 0)) rfl) rfl rfl ?_
    refine w_ret (v := (some (.int (Int32.ofInt (-1))))) (ykc_199 (e := (7, .ireturn, 0)) rfl) (zr_v rfl) ?_
    rw [hQ]
    exact ⟨zFr_refl, Or.inr ⟨of_decide_eq_false b1438, rfl, hT0⟩⟩
theorem zm_digitIn {ph : pm_H} {a b ln : Nat} {t : Nat → Nat} (hS : zSh ph) (hT : zTm ph a b ln t) {x y : Int32} {l h : Nat} (hx : x.toInt = (l : Int)) (hy : y.toInt = (h : Int)) : zM 200 [.ref 170, .int x, .int y] ph (fun v0 q => zFr [] [(170, 15)] ph q ∧ (((a < b ∧ 48 + l ≤ t a ∧ t a ≤ 48 + h) ∧ v0 = some (.int (zn (t a - 48))) ∧ zTm q (a + 1) b ln t) ∨ (¬ (a < b ∧ 48 + l ≤ t a ∧ t a ≤ 48 + h) ∧ v0 = some (.int (Int32.ofInt (-1))) ∧ zTm q a b ln t))) := by
  obtain ⟨Q, hQ⟩ : ∃ Q : Option Value → pm_H → Prop, Q = (fun v0 q => zFr [] [(170, 15)] ph q ∧ (((a < b ∧ 48 + l ≤ t a ∧ t a ≤ 48 + h) ∧ v0 = some (.int (zn (t a - 48))) ∧ zTm q (a + 1) b ln t) ∨ (¬ (a < b ∧ 48 + l ≤ t a ∧ t a ≤ 48 + h) ∧ v0 = some (.int (Int32.ofInt (-1))) ∧ zTm q a b ln t))) := ⟨_, rfl⟩
  rw [← hQ]
  refine zM_mk fun n D => ?_
  show zW n D 200 Q 0 [some (.ref 170), some (.int x), some (.int y)] [] ph
  have c_0 : ((Int8.ofInt 48).toInt32).toInt = 48 := by decide +kernel
  have c_1 : (Int32.ofInt (-1)).toInt = -1 := by decide +kernel
  have c_2 : (Int32.ofInt 1).toInt = 1 := by decide +kernel
  have hT0 := hT
  have hx9 := x32_hi x
  have hy9 := x32_hi y
  obtain ⟨ga, gb, hab, hbn, hn80, gt⟩ := hT
  have ta := znt (k := a) (by omega)
  have tb := znt (k := b) (by omega)
  refine w_load (pc' := 1) (v := .ref 170) (m := 1) (ykc_200 (e := (2, .aload_n kF0, 0)) rfl) rfl rfl ?_
  refine w_gf (pc' := 4) (v := .int (zn a)) (ykc_200 (e := (5, .getfield 139, 0)) rfl) rfl ga rfl ?_
  refine w_load (pc' := 5) (v := .ref 170) (m := 1) (ykc_200 (e := (2, .aload_n kF0, 0)) rfl) rfl rfl ?_
  refine w_gf (pc' := 8) (v := .int (zn b)) (ykc_200 (e := (5, .getfield 151, 0)) rfl) rfl gb rfl ?_
  refine w_ige (ykc_200 (e := (4, .if_icmp .ge 26, 34)) rfl) rfl (fun b1452 => ?_) (fun b1452 => ?_)
  · refine w_alu (pc' := 35) (st' := [.int (Int32.ofInt (-1))]) (ykc_200 (e := (0, .iconst (-1), 0)) rfl) rfl rfl ?_
    refine w_ret (v := (some (.int (Int32.ofInt (-1))))) (ykc_200 (e := (7, .ireturn, 0)) rfl) (zr_v rfl) ?_
    rw [hQ]
    exact ⟨zFr_refl, Or.inr ⟨by omega, rfl, hT0⟩⟩
  · refine w_load (pc' := 12) (v := .ref 170) (m := 1) (ykc_200 (e := (2, .aload_n kF0, 0)) rfl) rfl rfl ?_
    refine w_gf (pc' := 15) (v := .ref 176) (ykc_200 (e := (5, .getfield 47, 0)) rfl) rfl (zsg hS zs_170_13) rfl ?_
    refine w_load (pc' := 16) (v := .ref 170) (m := 1) (ykc_200 (e := (2, .aload_n kF0, 0)) rfl) rfl rfl ?_
    refine w_gf (pc' := 19) (v := .int (zn a)) (ykc_200 (e := (5, .getfield 139, 0)) rfl) rfl ga rfl ?_
    have q1453 := (gt a (by omega)).2
    have tq1453 := znt (k := t a) (by omega)
    refine w_ialk (pc' := 20) (k := a) (ykc_200 (e := (5, .iaload, 0)) rfl) (gt a (by omega)).1 (by omega) rfl ?_
    refine w_push (pc' := 22) (v := .int ((Int8.ofInt 48).toInt32)) (m := 2) (ykc_200 (e := (1, .bipush 48, 0)) rfl) rfl rfl ?_
    obtain ⟨z1454, e_z1454, h_z1454⟩ : ∃ zq : Int32, (zn (t a)) - ((Int8.ofInt 48).toInt32) = zq ∧ zq.toInt = ((t a : Nat) : Int) - (48 : Int) := ⟨_, rfl, (by have := ti_sub (x := (zn (t a))) (y := ((Int8.ofInt 48).toInt32)) (by omega) (by omega); omega)⟩
    refine w_alu (pc' := 23) (st' := [.int z1454]) (ykc_200 (e := (0, .isub, 0)) rfl) (by rw [← e_z1454]; rfl) rfl ?_
    refine w_alu (pc' := 24) (st' := [.long z1454.toInt64]) (ykc_200 (e := (0, .i2l, 0)) rfl) rfl rfl ?_
    refine w_load (pc' := 25) (v := .int x) (m := 1) (ykc_200 (e := (2, .iload_n kF1, 0)) rfl) rfl rfl ?_
    refine w_alu (pc' := 26) (st' := [.long x.toInt64, .long z1454.toInt64]) (ykc_200 (e := (0, .i2l, 0)) rfl) rfl rfl ?_
    refine w_load (pc' := 27) (v := .int y) (m := 1) (ykc_200 (e := (2, .iload_n kF2, 0)) rfl) rfl rfl ?_
    refine w_alu (pc' := 28) (st' := [.long y.toInt64, .long x.toInt64, .long z1454.toInt64]) (ykc_200 (e := (0, .i2l, 0)) rfl) rfl rfl ?_
    refine w_cs (as := [.long z1454.toInt64, .long x.toInt64, .long y.toInt64]) (r := []) (ykc_200 (e := (6, .invokestatic 126, 0)) rfl) rfl rfl rfl rfl (zm_in (x := ((t a : Nat) : Int) - (48 : Int)) (y := ((l : Nat) : Int)) (z := ((h : Nat) : Int)) (by first | exact ztl | (rw [ztl]; omega) | decide | omega) (by first | exact ztl | (rw [ztl]; omega) | decide | omega) (by first | exact ztl | (rw [ztl]; omega) | decide | omega)) (fun v1455 ph1456 hv => ?_)
    obtain ⟨rfl, rfl⟩ := hv
    show zW n D 200 Q 31 [some (.ref 170), some (.int x), some (.int y)] [.int (zI (decide (((l : Nat) : Int) ≤ ((t a : Nat) : Int) - (48 : Int) ∧ ((t a : Nat) : Int) - (48 : Int) ≤ ((h : Nat) : Int))))] ph
    refine w_bne (ykc_200 (e := (4, .ifCond .ne 5, 36)) rfl) rfl (fun b1457 => ?_) (fun b1457 => ?_)
    · refine w_load (pc' := 37) (v := .ref 170) (m := 1) (ykc_200 (e := (2, .aload_n kF0, 0)) rfl) rfl rfl ?_
      refine w_alu (pc' := 38) (st' := [.ref 170, .ref 170]) (ykc_200 (e := (0, .dup, 0)) rfl) rfl rfl ?_
      refine w_gf (pc' := 41) (v := .int (zn a)) (ykc_200 (e := (5, .getfield 139, 0)) rfl) rfl ga rfl ?_
      refine w_alu (pc' := 42) (st' := [.int (Int32.ofInt 1), .int (zn a), .ref 170]) (ykc_200 (e := (0, .iconst 1, 0)) rfl) rfl rfl ?_
      have e1458 : (zn a) + (Int32.ofInt 1) = zn (a + 1) := (zaddN (a := a) (b := 1) (znt (by omega)) c_2 (by omega)) 
      have te1458 := znt (k := a + 1) (by omega)
      refine w_alu (pc' := 43) (st' := [.int (zn (a + 1)), .ref 170]) (ykc_200 (e := (0, .iadd, 0)) rfl) (by rw [← e1458]; rfl) rfl ?_
      refine w_pf (pc' := 46) (ykc_200 (e := (5, .putfield 139, 0)) rfl) rfl rfl (fun ph1460 u1459 => ?_)
      have h9 := of_decide_eq_true b1457
      refine w_load (pc' := 47) (v := .ref 170) (m := 1) (ykc_200 (e := (2, .aload_n kF0, 0)) rfl) rfl rfl ?_
      refine w_gf (pc' := 50) (v := .ref 176) (ykc_200 (e := (5, .getfield 47, 0)) rfl) rfl ((u1459.2.1 170 13 (fun q => absurd q.2 (by first | exact Nat.ne_of_beq_eq_false rfl | decide))).trans (zsg hS zs_170_13)) rfl ?_
      refine w_load (pc' := 51) (v := .ref 170) (m := 1) (ykc_200 (e := (2, .aload_n kF0, 0)) rfl) rfl rfl ?_
      refine w_gf (pc' := 54) (v := .int (zn (a + 1))) (ykc_200 (e := (5, .getfield 139, 0)) rfl) rfl u1459.1 rfl ?_
      refine w_alu (pc' := 55) (st' := [.int (Int32.ofInt 1), .int (zn (a + 1)), .ref 176]) (ykc_200 (e := (0, .iconst 1, 0)) rfl) rfl rfl ?_
      have e1461 : (zn (a + 1)) - (Int32.ofInt 1) = zn (a) := zsubN (a := a + 1) (b := 1) (znt (by omega)) c_2 (by omega)
      have te1461 := znt (k := a) (by omega)
      refine w_alu (pc' := 56) (st' := [.int (zn (a)), .ref 176]) (ykc_200 (e := (0, .isub, 0)) rfl) (by show some ([.int ((zn (a + 1)) - (Int32.ofInt 1)), .ref 176] : List Value) = _; rw [e1461]) rfl ?_
      have q1462 := (gt a (by omega)).2
      have tq1462 := znt (k := t a) (by omega)
      refine w_ialk (pc' := 57) (k := a) (ykc_200 (e := (5, .iaload, 0)) rfl) ((u1459.2.1 176 a (fun q => absurd q.1 (by first | exact Nat.ne_of_beq_eq_false rfl | decide))).trans (gt a (by omega)).1) (by omega) rfl ?_
      refine w_push (pc' := 59) (v := .int ((Int8.ofInt 48).toInt32)) (m := 2) (ykc_200 (e := (1, .bipush 48, 0)) rfl) rfl rfl ?_
      have e1463 : (zn (t a)) - ((Int8.ofInt 48).toInt32) = zn (t a - 48) := zn_of (by have h8 := ti_sub (x := (zn (t a))) (y := ((Int8.ofInt 48).toInt32)) (by omega) (by omega); omega)
      have te1463 := znt (k := t a - 48) (by omega)
      refine w_alu (pc' := 60) (st' := [.int (zn (t a - 48))]) (ykc_200 (e := (0, .isub, 0)) rfl) (by rw [← e1463]; rfl) rfl ?_
      refine w_ret (v := (some (.int (zn (t a - 48))))) (ykc_200 (e := (7, .ireturn, 0)) rfl) (zr_v rfl) ?_
      rw [hQ]
      exact ⟨zFr_st u1459 (Or.inr (by first | exact zqj rfl | simp)), Or.inl ⟨by omega, rfl, zTm_u u1459 (by omega) hT0⟩⟩
    · refine w_alu (pc' := 35) (st' := [.int (Int32.ofInt (-1))]) (ykc_200 (e := (0, .iconst (-1), 0)) rfl) rfl rfl ?_
      refine w_ret (v := (some (.int (Int32.ofInt (-1))))) (ykc_200 (e := (7, .ireturn, 0)) rfl) (zr_v rfl) ?_
      rw [hQ]
      exact ⟨zFr_refl, Or.inr ⟨by have h9 := of_decide_eq_false b1457; omega, rfl, hT0⟩⟩
theorem zm_takes {ph : pm_H} {a b ln : Nat} {t : Nat → Nat} (hS : zSh ph) (hT : zTm ph a b ln t) {y : Int32} {c : Nat} (hy : y.toInt = (c : Int)) : zM 196 [.ref 170, .int y] ph (fun v0 q => zFr [] [(170, 15)] ph q ∧ (((a < b ∧ t a = c) ∧ v0 = some (.int (zI true)) ∧ zTm q (a + 1) b ln t) ∨ (¬ (a < b ∧ t a = c) ∧ v0 = some (.int (zI false)) ∧ zTm q a b ln t))) := by
  obtain ⟨Q, hQ⟩ : ∃ Q : Option Value → pm_H → Prop, Q = (fun v0 q => zFr [] [(170, 15)] ph q ∧ (((a < b ∧ t a = c) ∧ v0 = some (.int (zI true)) ∧ zTm q (a + 1) b ln t) ∨ (¬ (a < b ∧ t a = c) ∧ v0 = some (.int (zI false)) ∧ zTm q a b ln t))) := ⟨_, rfl⟩
  rw [← hQ]
  refine zM_mk fun n D => ?_
  show zW n D 196 Q 0 [some (.ref 170), some (.int y), none] [] ph
  have c_0 : (Int32.ofInt 0).toInt = 0 := by decide +kernel
  have c_1 : (Int32.ofInt 1).toInt = 1 := by decide +kernel
  have hT0 := hT
  obtain ⟨ga, gb, hab, hbn, hn80, gt⟩ := hT
  have ta := znt (k := a) (by omega)
  have tb := znt (k := b) (by omega)
  refine w_load (pc' := 1) (v := .ref 170) (m := 1) (ykc_196 (e := (2, .aload_n kF0, 0)) rfl) rfl rfl ?_
  refine w_gf (pc' := 4) (v := .int (zn a)) (ykc_196 (e := (5, .getfield 139, 0)) rfl) rfl ga rfl ?_
  refine w_load (pc' := 5) (v := .ref 170) (m := 1) (ykc_196 (e := (2, .aload_n kF0, 0)) rfl) rfl rfl ?_
  refine w_gf (pc' := 8) (v := .int (zn b)) (ykc_196 (e := (5, .getfield 151, 0)) rfl) rfl gb rfl ?_
  refine w_ige (ykc_196 (e := (4, .if_icmp .ge 20, 28)) rfl) rfl (fun b1464 => ?_) (fun b1464 => ?_)
  · refine w_alu (pc' := 29) (st' := [.int (Int32.ofInt 0)]) (ykc_196 (e := (0, .iconst 0, 0)) rfl) rfl rfl ?_
    refine w_store (pc' := 30) (L' := [some (.ref 170), some (.int y), some (.int (Int32.ofInt 0))]) (st' := []) (m := 1) (ykc_196 (e := (3, .istore_n kF2, 0)) rfl) rfl rfl ?_
    refine w_load (pc' := 31) (v := .ref 170) (m := 1) (ykc_196 (e := (2, .aload_n kF0, 0)) rfl) rfl rfl ?_
    refine w_alu (pc' := 32) (st' := [.ref 170, .ref 170]) (ykc_196 (e := (0, .dup, 0)) rfl) rfl rfl ?_
    refine w_gf (pc' := 35) (v := .int (zn a)) (ykc_196 (e := (5, .getfield 139, 0)) rfl) rfl ga rfl ?_
    refine w_load (pc' := 36) (v := .int (Int32.ofInt 0)) (m := 1) (ykc_196 (e := (2, .iload_n kF2, 0)) rfl) rfl rfl ?_
    refine w_cs (as := [.int (Int32.ofInt 0)]) (r := [.int (zn a), .ref 170]) (ykc_196 (e := (6, .invokestatic 154, 0)) rfl) rfl rfl rfl rfl (zm_flag0) (fun v1465 ph1466 hv => ?_)
    obtain ⟨rfl, rfl⟩ := hv
    have cI1 : (zI true).toInt = 1 := rfl
    have cI0 : (zI false).toInt = 0 := rfl
    show zW n D 196 Q 39 [some (.ref 170), some (.int y), some (.int (Int32.ofInt 0))] [.int (zI false), .int (zn a), .ref 170] ph
    have e1467 : (zn a) + (zI false) = zn (a) := zaddN (a := a) (b := 0) ta cI0 (by omega)
    have te1467 := znt (k := a) (by omega)
    refine w_alu (pc' := 40) (st' := [.int (zn (a)), .ref 170]) (ykc_196 (e := (0, .iadd, 0)) rfl) (by show some ([.int ((zn a) + (zI false)), .ref 170] : List Value) = _; rw [e1467]) rfl ?_
    refine w_pf (pc' := 43) (ykc_196 (e := (5, .putfield 139, 0)) rfl) rfl rfl (fun ph1469 u1468 => ?_)
    refine w_load (pc' := 44) (v := .int (Int32.ofInt 0)) (m := 1) (ykc_196 (e := (2, .iload_n kF2, 0)) rfl) rfl rfl ?_
    refine w_ret (v := (some (.int (Int32.ofInt 0)))) (ykc_196 (e := (7, .ireturn, 0)) rfl) zr_z ?_
    rw [hQ]
    exact ⟨zFr_st u1468 (Or.inr (by first | exact zqj rfl | simp)), Or.inr ⟨by omega, by rw [← zi0], zTm_u u1468 (by omega) hT0⟩⟩
  · refine w_load (pc' := 12) (v := .ref 170) (m := 1) (ykc_196 (e := (2, .aload_n kF0, 0)) rfl) rfl rfl ?_
    refine w_gf (pc' := 15) (v := .ref 176) (ykc_196 (e := (5, .getfield 47, 0)) rfl) rfl (zsg hS zs_170_13) rfl ?_
    refine w_load (pc' := 16) (v := .ref 170) (m := 1) (ykc_196 (e := (2, .aload_n kF0, 0)) rfl) rfl rfl ?_
    refine w_gf (pc' := 19) (v := .int (zn a)) (ykc_196 (e := (5, .getfield 139, 0)) rfl) rfl ga rfl ?_
    have q1470 := (gt a (by omega)).2
    have tq1470 := znt (k := t a) (by omega)
    refine w_ialk (pc' := 20) (k := a) (ykc_196 (e := (5, .iaload, 0)) rfl) (gt a (by omega)).1 (by omega) rfl ?_
    refine w_load (pc' := 21) (v := .int y) (m := 1) (ykc_196 (e := (2, .iload_n kF1, 0)) rfl) rfl rfl ?_
    refine w_ine (ykc_196 (e := (4, .if_icmp .ne 7, 28)) rfl) rfl (fun b1471 => ?_) (fun b1471 => ?_)
    · refine w_alu (pc' := 29) (st' := [.int (Int32.ofInt 0)]) (ykc_196 (e := (0, .iconst 0, 0)) rfl) rfl rfl ?_
      refine w_store (pc' := 30) (L' := [some (.ref 170), some (.int y), some (.int (Int32.ofInt 0))]) (st' := []) (m := 1) (ykc_196 (e := (3, .istore_n kF2, 0)) rfl) rfl rfl ?_
      refine w_load (pc' := 31) (v := .ref 170) (m := 1) (ykc_196 (e := (2, .aload_n kF0, 0)) rfl) rfl rfl ?_
      refine w_alu (pc' := 32) (st' := [.ref 170, .ref 170]) (ykc_196 (e := (0, .dup, 0)) rfl) rfl rfl ?_
      refine w_gf (pc' := 35) (v := .int (zn a)) (ykc_196 (e := (5, .getfield 139, 0)) rfl) rfl ga rfl ?_
      refine w_load (pc' := 36) (v := .int (Int32.ofInt 0)) (m := 1) (ykc_196 (e := (2, .iload_n kF2, 0)) rfl) rfl rfl ?_
      refine w_cs (as := [.int (Int32.ofInt 0)]) (r := [.int (zn a), .ref 170]) (ykc_196 (e := (6, .invokestatic 154, 0)) rfl) rfl rfl rfl rfl (zm_flag0) (fun v1472 ph1473 hv => ?_)
      obtain ⟨rfl, rfl⟩ := hv
      have cI1 : (zI true).toInt = 1 := rfl
      have cI0 : (zI false).toInt = 0 := rfl
      show zW n D 196 Q 39 [some (.ref 170), some (.int y), some (.int (Int32.ofInt 0))] [.int (zI false), .int (zn a), .ref 170] ph
      have e1474 : (zn a) + (zI false) = zn (a) := zaddN (a := a) (b := 0) ta cI0 (by omega)
      have te1474 := znt (k := a) (by omega)
      refine w_alu (pc' := 40) (st' := [.int (zn (a)), .ref 170]) (ykc_196 (e := (0, .iadd, 0)) rfl) (by show some ([.int ((zn a) + (zI false)), .ref 170] : List Value) = _; rw [e1474]) rfl ?_
      refine w_pf (pc' := 43) (ykc_196 (e := (5, .putfield 139, 0)) rfl) rfl rfl (fun ph1476 u1475 => ?_)
      refine w_load (pc' := 44) (v := .int (Int32.ofInt 0)) (m := 1) (ykc_196 (e := (2, .iload_n kF2, 0)) rfl) rfl rfl ?_
      refine w_ret (v := (some (.int (Int32.ofInt 0)))) (ykc_196 (e := (7, .ireturn, 0)) rfl) zr_z ?_
      rw [hQ]
      exact ⟨zFr_st u1475 (Or.inr (by first | exact zqj rfl | simp)), Or.inr ⟨by omega, by rw [← zi0], zTm_u u1475 (by omega) hT0⟩⟩
    · refine w_alu (pc' := 25) (st' := [.int (Int32.ofInt 1)]) (ykc_196 (e := (0, .iconst 1, 0)) rfl) rfl rfl ?_
      refine w_br (pc' := 29) (st' := [.int (Int32.ofInt 1)]) (ykc_196 (e := (4, .goto 4, 29)) rfl) rfl ?_
      refine w_store (pc' := 30) (L' := [some (.ref 170), some (.int y), some (.int (Int32.ofInt 1))]) (st' := []) (m := 1) (ykc_196 (e := (3, .istore_n kF2, 0)) rfl) rfl rfl ?_
      refine w_load (pc' := 31) (v := .ref 170) (m := 1) (ykc_196 (e := (2, .aload_n kF0, 0)) rfl) rfl rfl ?_
      refine w_alu (pc' := 32) (st' := [.ref 170, .ref 170]) (ykc_196 (e := (0, .dup, 0)) rfl) rfl rfl ?_
      refine w_gf (pc' := 35) (v := .int (zn a)) (ykc_196 (e := (5, .getfield 139, 0)) rfl) rfl ga rfl ?_
      refine w_load (pc' := 36) (v := .int (Int32.ofInt 1)) (m := 1) (ykc_196 (e := (2, .iload_n kF2, 0)) rfl) rfl rfl ?_
      refine w_cs (as := [.int (Int32.ofInt 1)]) (r := [.int (zn a), .ref 170]) (ykc_196 (e := (6, .invokestatic 154, 0)) rfl) rfl rfl rfl rfl (zm_flag1) (fun v1477 ph1478 hv => ?_)
      obtain ⟨rfl, rfl⟩ := hv
      have cI1 : (zI true).toInt = 1 := rfl
      have cI0 : (zI false).toInt = 0 := rfl
      show zW n D 196 Q 39 [some (.ref 170), some (.int y), some (.int (Int32.ofInt 1))] [.int (zI true), .int (zn a), .ref 170] ph
      have e1479 : (zn a) + (zI true) = zn (a + 1) := zaddN (a := a) (b := 1) ta cI1 (by omega)
      have te1479 := znt (k := a + 1) (by omega)
      refine w_alu (pc' := 40) (st' := [.int (zn (a + 1)), .ref 170]) (ykc_196 (e := (0, .iadd, 0)) rfl) (by show some ([.int ((zn a) + (zI true)), .ref 170] : List Value) = _; rw [e1479]) rfl ?_
      refine w_pf (pc' := 43) (ykc_196 (e := (5, .putfield 139, 0)) rfl) rfl rfl (fun ph1481 u1480 => ?_)
      refine w_load (pc' := 44) (v := .int (Int32.ofInt 1)) (m := 1) (ykc_196 (e := (2, .iload_n kF2, 0)) rfl) rfl rfl ?_
      refine w_ret (v := (some (.int (Int32.ofInt 1)))) (ykc_196 (e := (7, .ireturn, 0)) rfl) zr_z ?_
      rw [hQ]
      exact ⟨zFr_st u1480 (Or.inr (by first | exact zqj rfl | simp)), Or.inl ⟨by omega, by rw [← zi1], zTm_u u1480 (by omega) hT0⟩⟩
theorem zm_takesOf {ph : pm_H} {a b ln : Nat} {t : Nat → Nat} (hS : zSh ph) (hT : zTm ph a b ln t) {s B N : Nat} {cs : Nat → Nat} (hst : zStr s B N cs) : zM 198 [.ref 170, .ref s] ph (fun v0 q => zFr [] [(170, 15)] ph q ∧ ((∃ k, k < N ∧ a < b ∧ t a = cs k ∧ v0 = some (.int (zn k)) ∧ zTm q (a + 1) b ln t) ∨ ((a < b → ∀ k, k < N → t a ≠ cs k) ∧ v0 = some (.int (Int32.ofInt (-1))) ∧ zTm q a b ln t))) := by
  obtain ⟨Q, hQ⟩ : ∃ Q : Option Value → pm_H → Prop, Q = (fun v0 q => zFr [] [(170, 15)] ph q ∧ ((∃ k, k < N ∧ a < b ∧ t a = cs k ∧ v0 = some (.int (zn k)) ∧ zTm q (a + 1) b ln t) ∨ ((a < b → ∀ k, k < N → t a ≠ cs k) ∧ v0 = some (.int (Int32.ofInt (-1))) ∧ zTm q a b ln t))) := ⟨_, rfl⟩
  rw [← hQ]
  refine zM_mk fun n D => ?_
  show zW n D 198 Q 0 [some (.ref 170), some (.ref s), none] [] ph
  have c_0 : (Int32.ofInt (-1)).toInt = -1 := by decide +kernel
  have c_1 : (Int32.ofInt 0).toInt = 0 := by decide +kernel
  have c_2 : (Int32.ofInt 1).toInt = 1 := by decide +kernel
  have hT0 := hT
  have hst0 := hst
  obtain ⟨i9, s1, s2, s3, s4, s5, f, s6, s7⟩ := hst
  obtain ⟨ga, gb, hab, hbn, hn80, gt⟩ := hT
  have ta := znt (k := a) (by omega)
  have tb := znt (k := b) (by omega)
  refine w_alu (pc' := 1) (st' := [.int (Int32.ofInt 0)]) (ykc_198 (e := (0, .iconst 0, 0)) rfl) rfl rfl ?_
  refine w_store (pc' := 2) (L' := [some (.ref 170), some (.ref s), some (.int (Int32.ofInt 0))]) (st' := []) (m := 1) (ykc_198 (e := (3, .istore_n kF2, 0)) rfl) rfl rfl ?_
  have hl : ∀ (n : Nat), ∀ (k : Nat), (k ≤ N) → (a < b → ∀ i, i < k → t a ≠ cs i) → zW n D 198 Q 2 [some (.ref 170), some (.ref s), some (.int (zn k))] [] ph := by
    intro n
    induction n using Nat.strongRecOn with
    | ind n ih =>
      intro k hk hno
      have tk := znt (k := k) (by omega)
      have tN := znt (k := N) (by omega)
      refine w_load (pc' := 3) (v := .int (zn k)) (m := 1) (ykc_198 (e := (2, .iload_n kF2, 0)) rfl) rfl rfl ?_
      refine w_load (pc' := 4) (v := .ref s) (m := 1) (ykc_198 (e := (2, .aload_n kF1, 0)) rfl) rfl rfl ?_
      refine w_cvr s1 (as := [.ref s]) (r := [.int (zn k)]) (ykc_198 (e := (6, .invokevirtual 162, 0)) rfl) rfl rfl rfl rfl (zj_len hst0) (fun v1482 ph1483 hv => ?_)
      obtain ⟨rfl, rfl⟩ := hv
      show zW n D 198 Q 7 [some (.ref 170), some (.ref s), some (.int (zn k))] [.int (zn N), .int (zn k)] ph
      refine w_ige (ykc_198 (e := (4, .if_icmp .ge 49, 56)) rfl) rfl (fun b1484 => ?_) (fun b1484 => ?_)
      · refine w_alu (pc' := 57) (st' := [.int (Int32.ofInt (-1))]) (ykc_198 (e := (0, .iconst (-1), 0)) rfl) rfl rfl ?_
        refine w_ret (v := (some (.int (Int32.ofInt (-1))))) (ykc_198 (e := (7, .ireturn, 0)) rfl) (zr_v rfl) ?_
        have ek : k = N := by omega
        subst ek
        rw [hQ]
        exact ⟨zFr_refl, Or.inr ⟨hno, rfl, hT0⟩⟩
      · refine w_load (pc' := 11) (v := .ref 170) (m := 1) (ykc_198 (e := (2, .aload_n kF0, 0)) rfl) rfl rfl ?_
        refine w_gf (pc' := 14) (v := .int (zn a)) (ykc_198 (e := (5, .getfield 139, 0)) rfl) rfl ga rfl ?_
        refine w_load (pc' := 15) (v := .ref 170) (m := 1) (ykc_198 (e := (2, .aload_n kF0, 0)) rfl) rfl rfl ?_
        refine w_gf (pc' := 18) (v := .int (zn b)) (ykc_198 (e := (5, .getfield 151, 0)) rfl) rfl gb rfl ?_
        refine w_ige (ykc_198 (e := (4, .if_icmp .ge 38, 56)) rfl) rfl (fun b1485 => ?_) (fun b1485 => ?_)
        · refine w_alu (pc' := 57) (st' := [.int (Int32.ofInt (-1))]) (ykc_198 (e := (0, .iconst (-1), 0)) rfl) rfl rfl ?_
          refine w_ret (v := (some (.int (Int32.ofInt (-1))))) (ykc_198 (e := (7, .ireturn, 0)) rfl) (zr_v rfl) ?_
          rw [hQ]
          exact ⟨zFr_refl, Or.inr ⟨fun h => absurd h (by omega), rfl, hT0⟩⟩
        · refine w_load (pc' := 22) (v := .ref s) (m := 1) (ykc_198 (e := (2, .aload_n kF1, 0)) rfl) rfl rfl ?_
          refine w_load (pc' := 23) (v := .int (zn k)) (m := 1) (ykc_198 (e := (2, .iload_n kF2, 0)) rfl) rfl rfl ?_
          refine w_cvr s1 (as := [.ref s, .int (zn k)]) (r := []) (ykc_198 (e := (6, .invokevirtual 167, 0)) rfl) rfl rfl rfl rfl (zj_chr hst0 (k := k) (by omega) (by omega)) (fun v1486 ph1487 hv => ?_)
          obtain ⟨rfl, rfl⟩ := hv
          have c9 := (s7 k (by omega)).2
          have tc9 := znt (k := cs k) (by omega)
          show zW n D 198 Q 26 [some (.ref 170), some (.ref s), some (.int (zn k))] [.int (zn (cs k))] ph
          refine w_load (pc' := 27) (v := .ref 170) (m := 1) (ykc_198 (e := (2, .aload_n kF0, 0)) rfl) rfl rfl ?_
          refine w_gf (pc' := 30) (v := .ref 176) (ykc_198 (e := (5, .getfield 47, 0)) rfl) rfl (zsg hS zs_170_13) rfl ?_
          refine w_load (pc' := 31) (v := .ref 170) (m := 1) (ykc_198 (e := (2, .aload_n kF0, 0)) rfl) rfl rfl ?_
          refine w_gf (pc' := 34) (v := .int (zn a)) (ykc_198 (e := (5, .getfield 139, 0)) rfl) rfl ga rfl ?_
          have q1488 := (gt a (by omega)).2
          have tq1488 := znt (k := t a) (by omega)
          refine w_ialk (pc' := 35) (k := a) (ykc_198 (e := (5, .iaload, 0)) rfl) (gt a (by omega)).1 (by omega) rfl ?_
          refine w_ine (ykc_198 (e := (4, .if_icmp .ne 15, 50)) rfl) rfl (fun b1489 => ?_) (fun b1489 => ?_)
          · have e1490 : (zn k) + Int32.ofInt 1 = zn (k + 1) := (zaddN (a := k) (b := 1) (znt (by omega)) c_2 (by omega))
            have te1490 := znt (k := k + 1) (by omega)
            refine w_store (pc' := 53) (L' := [some (.ref 170), some (.ref s), some (.int (zn (k + 1)))]) (st' := []) (m := 3) (ykc_198 (e := (3, .iinc 2 1, 0)) rfl) (by rw [← e1490]; rfl) rfl ?_
            refine w_gb (ykc_198 (e := (4, .goto (-51), 2)) rfl) (fun k1491 hk1491 => ?_)
            exact ih k1491 hk1491 (k + 1) (by omega) (fun h i hi => by
              by_cases e : i = k
              · subst e; omega
              · exact hno h i (by omega))
          · refine w_load (pc' := 39) (v := .ref 170) (m := 1) (ykc_198 (e := (2, .aload_n kF0, 0)) rfl) rfl rfl ?_
            refine w_alu (pc' := 40) (st' := [.ref 170, .ref 170]) (ykc_198 (e := (0, .dup, 0)) rfl) rfl rfl ?_
            refine w_gf (pc' := 43) (v := .int (zn a)) (ykc_198 (e := (5, .getfield 139, 0)) rfl) rfl ga rfl ?_
            refine w_alu (pc' := 44) (st' := [.int (Int32.ofInt 1), .int (zn a), .ref 170]) (ykc_198 (e := (0, .iconst 1, 0)) rfl) rfl rfl ?_
            have e1492 : (zn a) + (Int32.ofInt 1) = zn (a + 1) := (zaddN (a := a) (b := 1) (znt (by omega)) c_2 (by omega)) 
            have te1492 := znt (k := a + 1) (by omega)
            refine w_alu (pc' := 45) (st' := [.int (zn (a + 1)), .ref 170]) (ykc_198 (e := (0, .iadd, 0)) rfl) (by rw [← e1492]; rfl) rfl ?_
            refine w_pf (pc' := 48) (ykc_198 (e := (5, .putfield 139, 0)) rfl) rfl rfl (fun ph1494 u1493 => ?_)
            refine w_load (pc' := 49) (v := .int (zn k)) (m := 1) (ykc_198 (e := (2, .iload_n kF2, 0)) rfl) rfl rfl ?_
            refine w_ret (v := (some (.int (zn k)))) (ykc_198 (e := (7, .ireturn, 0)) rfl) (zr_v rfl) ?_
            rw [hQ]
            exact ⟨zFr_st u1493 (Or.inr (by first | exact zqj rfl | simp)), Or.inl ⟨k, by omega, by omega, by omega, rfl, zTm_u u1493 (by omega) hT0⟩⟩
  exact hl n 0 (Nat.zero_le _) (fun _ i hi => absurd hi (Nat.not_lt_zero i))
/-- what a reading that ended at a of b answers, where n were told and c can be -/
def zFo (n c a b : Nat) (is : Bool) : Int := if c < n ∧ ((is = true ∧ a = b) ∨ c ≤ a) then -1 - (c : Int) else if is = true ∧ a = b then 0 else -1 - (a : Int)
theorem zFo_b {n c a b : Nat} : zFo n c a b false = if c < n ∧ c ≤ a then -1 - (c : Int) else -1 - (a : Int) := by
  unfold zFo
  simp
theorem zFo_t {n c a b : Nat} : zFo n c a b true = if c < n ∧ (a = b ∨ c ≤ a) then -1 - (c : Int) else if a = b then 0 else -1 - (a : Int) := by
  unfold zFo
  simp
theorem zm_fault {ph : pm_H} {a b ln : Nat} {t : Nat → Nat} (hS : zSh ph) (hT : zTm ph a b ln t) {x y : Int32} {n9 c : Nat} {is : Bool} (hx : x.toInt = (n9 : Int)) (hy : y.toInt = (c : Int)) : zM 201 [.ref 170, .int x, .int y, .int (zI is)] ph (fun v0 q => ph = q ∧ ∃ z : Int32, v0 = some (.int z) ∧ z.toInt = zFo n9 c a b is) := by
  obtain ⟨Q, hQ⟩ : ∃ Q : Option Value → pm_H → Prop, Q = (fun v0 q => ph = q ∧ ∃ z : Int32, v0 = some (.int z) ∧ z.toInt = zFo n9 c a b is) := ⟨_, rfl⟩
  rw [← hQ]
  refine zM_mk fun n D => ?_
  show zW n D 201 Q 0 [some (.ref 170), some (.int x), some (.int y), some (.int (zI is)), none] [] ph
  have c_0 : (Int32.ofInt (-1)).toInt = -1 := by decide +kernel
  have c_1 : (Int32.ofInt 0).toInt = 0 := by decide +kernel
  have c_2 : (Int32.ofInt 1).toInt = 1 := by decide +kernel
  have hx9 := x32_hi x
  have hy9 := x32_hi y
  obtain ⟨ga, gb, hab, hbn, hn80, gt⟩ := hT
  have ta := znt (k := a) (by omega)
  have tb := znt (k := b) (by omega)
  refine w_load (pc' := 1) (v := .int (zI is)) (m := 1) (ykc_201 (e := (2, .iload_n kF3, 0)) rfl) rfl rfl ?_
  refine w_beq (ykc_201 (e := (4, .ifCond .eq 18, 19)) rfl) rfl (fun b1495 => ?_) (fun b1495 => ?_)
  · refine w_alu (pc' := 20) (st' := [.int (Int32.ofInt 0)]) (ykc_201 (e := (0, .iconst 0, 0)) rfl) rfl rfl ?_
    refine w_store (pc' := 22) (L' := [some (.ref 170), some (.int x), some (.int y), some (.int (zI is)), some (.int (Int32.ofInt 0))]) (st' := []) (m := 2) (ykc_201 (e := (3, .istore 4, 0)) rfl) rfl rfl ?_
    refine w_load (pc' := 23) (v := .int x) (m := 1) (ykc_201 (e := (2, .iload_n kF1, 0)) rfl) rfl rfl ?_
    refine w_load (pc' := 24) (v := .int y) (m := 1) (ykc_201 (e := (2, .iload_n kF2, 0)) rfl) rfl rfl ?_
    refine w_ile (ykc_201 (e := (4, .if_icmp .le 20, 44)) rfl) rfl (fun b1496 => ?_) (fun b1496 => ?_)
    · refine w_load (pc' := 46) (v := .int (Int32.ofInt 0)) (m := 2) (ykc_201 (e := (2, .iload 4, 0)) rfl) rfl rfl ?_
      refine w_zeq (ykc_201 (e := (4, .ifCond .eq 7, 53)) rfl) rfl (fun b1497 => ?_) (fun q => by exfalso; omega)
      refine w_alu (pc' := 54) (st' := [.int (Int32.ofInt (-1))]) (ykc_201 (e := (0, .iconst (-1), 0)) rfl) rfl rfl ?_
      refine w_load (pc' := 55) (v := .ref 170) (m := 1) (ykc_201 (e := (2, .aload_n kF0, 0)) rfl) rfl rfl ?_
      refine w_gf (pc' := 58) (v := .int (zn a)) (ykc_201 (e := (5, .getfield 139, 0)) rfl) rfl ga rfl ?_
      obtain ⟨z1498, e_z1498, h_z1498⟩ : ∃ zq : Int32, (Int32.ofInt (-1)) - (zn a) = zq ∧ zq.toInt = (-1 : Int) - ((a : Nat) : Int) := ⟨_, rfl, zm1sub (by omega) (by omega) (by omega)⟩
      refine w_alu (pc' := 59) (st' := [.int z1498]) (ykc_201 (e := (0, .isub, 0)) rfl) (by rw [← e_z1498]; rfl) rfl ?_
      refine w_ret (v := (some (.int z1498))) (ykc_201 (e := (7, .ireturn, 0)) rfl) (zr_v rfl) ?_
      rw [hQ, show is = false from b1495]
      refine ⟨rfl, _, rfl, ?_⟩
      rw [zFo_b, if_neg (by omega)]
      omega
    · refine w_load (pc' := 29) (v := .int (Int32.ofInt 0)) (m := 2) (ykc_201 (e := (2, .iload 4, 0)) rfl) rfl rfl ?_
      refine w_zne (ykc_201 (e := (4, .ifCond .ne 11, 40)) rfl) rfl (fun q => by exfalso; omega) (fun b1499 => ?_)
      refine w_load (pc' := 33) (v := .ref 170) (m := 1) (ykc_201 (e := (2, .aload_n kF0, 0)) rfl) rfl rfl ?_
      refine w_gf (pc' := 36) (v := .int (zn a)) (ykc_201 (e := (5, .getfield 139, 0)) rfl) rfl ga rfl ?_
      refine w_load (pc' := 37) (v := .int y) (m := 1) (ykc_201 (e := (2, .iload_n kF2, 0)) rfl) rfl rfl ?_
      refine w_ilt (ykc_201 (e := (4, .if_icmp .lt 7, 44)) rfl) rfl (fun b1500 => ?_) (fun b1500 => ?_)
      · refine w_load (pc' := 46) (v := .int (Int32.ofInt 0)) (m := 2) (ykc_201 (e := (2, .iload 4, 0)) rfl) rfl rfl ?_
        refine w_zeq (ykc_201 (e := (4, .ifCond .eq 7, 53)) rfl) rfl (fun b1501 => ?_) (fun q => by exfalso; omega)
        refine w_alu (pc' := 54) (st' := [.int (Int32.ofInt (-1))]) (ykc_201 (e := (0, .iconst (-1), 0)) rfl) rfl rfl ?_
        refine w_load (pc' := 55) (v := .ref 170) (m := 1) (ykc_201 (e := (2, .aload_n kF0, 0)) rfl) rfl rfl ?_
        refine w_gf (pc' := 58) (v := .int (zn a)) (ykc_201 (e := (5, .getfield 139, 0)) rfl) rfl ga rfl ?_
        obtain ⟨z1502, e_z1502, h_z1502⟩ : ∃ zq : Int32, (Int32.ofInt (-1)) - (zn a) = zq ∧ zq.toInt = (-1 : Int) - ((a : Nat) : Int) := ⟨_, rfl, zm1sub (by omega) (by omega) (by omega)⟩
        refine w_alu (pc' := 59) (st' := [.int z1502]) (ykc_201 (e := (0, .isub, 0)) rfl) (by rw [← e_z1502]; rfl) rfl ?_
        refine w_ret (v := (some (.int z1502))) (ykc_201 (e := (7, .ireturn, 0)) rfl) (zr_v rfl) ?_
        rw [hQ, show is = false from b1495]
        refine ⟨rfl, _, rfl, ?_⟩
        rw [zFo_b, if_neg (by omega)]
        omega
      · refine w_alu (pc' := 41) (st' := [.int (Int32.ofInt (-1))]) (ykc_201 (e := (0, .iconst (-1), 0)) rfl) rfl rfl ?_
        refine w_load (pc' := 42) (v := .int y) (m := 1) (ykc_201 (e := (2, .iload_n kF2, 0)) rfl) rfl rfl ?_
        obtain ⟨z1503, e_z1503, h_z1503⟩ : ∃ zq : Int32, (Int32.ofInt (-1)) - y = zq ∧ zq.toInt = (-1 : Int) - ((c : Nat) : Int) := ⟨_, rfl, zm1sub (by omega) (by omega) (by omega)⟩
        refine w_alu (pc' := 43) (st' := [.int z1503]) (ykc_201 (e := (0, .isub, 0)) rfl) (by rw [← e_z1503]; rfl) rfl ?_
        refine w_ret (v := (some (.int z1503))) (ykc_201 (e := (7, .ireturn, 0)) rfl) (zr_v rfl) ?_
        rw [hQ, show is = false from b1495]
        refine ⟨rfl, _, rfl, ?_⟩
        rw [zFo_b, if_pos (by omega)]
        omega
  · refine w_load (pc' := 5) (v := .ref 170) (m := 1) (ykc_201 (e := (2, .aload_n kF0, 0)) rfl) rfl rfl ?_
    refine w_gf (pc' := 8) (v := .int (zn a)) (ykc_201 (e := (5, .getfield 139, 0)) rfl) rfl ga rfl ?_
    refine w_load (pc' := 9) (v := .ref 170) (m := 1) (ykc_201 (e := (2, .aload_n kF0, 0)) rfl) rfl rfl ?_
    refine w_gf (pc' := 12) (v := .int (zn b)) (ykc_201 (e := (5, .getfield 151, 0)) rfl) rfl gb rfl ?_
    refine w_ine (ykc_201 (e := (4, .if_icmp .ne 7, 19)) rfl) rfl (fun b1504 => ?_) (fun b1504 => ?_)
    · refine w_alu (pc' := 20) (st' := [.int (Int32.ofInt 0)]) (ykc_201 (e := (0, .iconst 0, 0)) rfl) rfl rfl ?_
      refine w_store (pc' := 22) (L' := [some (.ref 170), some (.int x), some (.int y), some (.int (zI is)), some (.int (Int32.ofInt 0))]) (st' := []) (m := 2) (ykc_201 (e := (3, .istore 4, 0)) rfl) rfl rfl ?_
      refine w_load (pc' := 23) (v := .int x) (m := 1) (ykc_201 (e := (2, .iload_n kF1, 0)) rfl) rfl rfl ?_
      refine w_load (pc' := 24) (v := .int y) (m := 1) (ykc_201 (e := (2, .iload_n kF2, 0)) rfl) rfl rfl ?_
      refine w_ile (ykc_201 (e := (4, .if_icmp .le 20, 44)) rfl) rfl (fun b1505 => ?_) (fun b1505 => ?_)
      · refine w_load (pc' := 46) (v := .int (Int32.ofInt 0)) (m := 2) (ykc_201 (e := (2, .iload 4, 0)) rfl) rfl rfl ?_
        refine w_zeq (ykc_201 (e := (4, .ifCond .eq 7, 53)) rfl) rfl (fun b1506 => ?_) (fun q => by exfalso; omega)
        refine w_alu (pc' := 54) (st' := [.int (Int32.ofInt (-1))]) (ykc_201 (e := (0, .iconst (-1), 0)) rfl) rfl rfl ?_
        refine w_load (pc' := 55) (v := .ref 170) (m := 1) (ykc_201 (e := (2, .aload_n kF0, 0)) rfl) rfl rfl ?_
        refine w_gf (pc' := 58) (v := .int (zn a)) (ykc_201 (e := (5, .getfield 139, 0)) rfl) rfl ga rfl ?_
        obtain ⟨z1507, e_z1507, h_z1507⟩ : ∃ zq : Int32, (Int32.ofInt (-1)) - (zn a) = zq ∧ zq.toInt = (-1 : Int) - ((a : Nat) : Int) := ⟨_, rfl, zm1sub (by omega) (by omega) (by omega)⟩
        refine w_alu (pc' := 59) (st' := [.int z1507]) (ykc_201 (e := (0, .isub, 0)) rfl) (by rw [← e_z1507]; rfl) rfl ?_
        refine w_ret (v := (some (.int z1507))) (ykc_201 (e := (7, .ireturn, 0)) rfl) (zr_v rfl) ?_
        rw [hQ, show is = true from b1495]
        refine ⟨rfl, _, rfl, ?_⟩
        rw [zFo_t, if_neg (by omega), if_neg (by omega)]
        omega
      · refine w_load (pc' := 29) (v := .int (Int32.ofInt 0)) (m := 2) (ykc_201 (e := (2, .iload 4, 0)) rfl) rfl rfl ?_
        refine w_zne (ykc_201 (e := (4, .ifCond .ne 11, 40)) rfl) rfl (fun q => by exfalso; omega) (fun b1508 => ?_)
        refine w_load (pc' := 33) (v := .ref 170) (m := 1) (ykc_201 (e := (2, .aload_n kF0, 0)) rfl) rfl rfl ?_
        refine w_gf (pc' := 36) (v := .int (zn a)) (ykc_201 (e := (5, .getfield 139, 0)) rfl) rfl ga rfl ?_
        refine w_load (pc' := 37) (v := .int y) (m := 1) (ykc_201 (e := (2, .iload_n kF2, 0)) rfl) rfl rfl ?_
        refine w_ilt (ykc_201 (e := (4, .if_icmp .lt 7, 44)) rfl) rfl (fun b1509 => ?_) (fun b1509 => ?_)
        · refine w_load (pc' := 46) (v := .int (Int32.ofInt 0)) (m := 2) (ykc_201 (e := (2, .iload 4, 0)) rfl) rfl rfl ?_
          refine w_zeq (ykc_201 (e := (4, .ifCond .eq 7, 53)) rfl) rfl (fun b1510 => ?_) (fun q => by exfalso; omega)
          refine w_alu (pc' := 54) (st' := [.int (Int32.ofInt (-1))]) (ykc_201 (e := (0, .iconst (-1), 0)) rfl) rfl rfl ?_
          refine w_load (pc' := 55) (v := .ref 170) (m := 1) (ykc_201 (e := (2, .aload_n kF0, 0)) rfl) rfl rfl ?_
          refine w_gf (pc' := 58) (v := .int (zn a)) (ykc_201 (e := (5, .getfield 139, 0)) rfl) rfl ga rfl ?_
          obtain ⟨z1511, e_z1511, h_z1511⟩ : ∃ zq : Int32, (Int32.ofInt (-1)) - (zn a) = zq ∧ zq.toInt = (-1 : Int) - ((a : Nat) : Int) := ⟨_, rfl, zm1sub (by omega) (by omega) (by omega)⟩
          refine w_alu (pc' := 59) (st' := [.int z1511]) (ykc_201 (e := (0, .isub, 0)) rfl) (by rw [← e_z1511]; rfl) rfl ?_
          refine w_ret (v := (some (.int z1511))) (ykc_201 (e := (7, .ireturn, 0)) rfl) (zr_v rfl) ?_
          rw [hQ, show is = true from b1495]
          refine ⟨rfl, _, rfl, ?_⟩
          rw [zFo_t, if_neg (by omega), if_neg (by omega)]
          omega
        · refine w_alu (pc' := 41) (st' := [.int (Int32.ofInt (-1))]) (ykc_201 (e := (0, .iconst (-1), 0)) rfl) rfl rfl ?_
          refine w_load (pc' := 42) (v := .int y) (m := 1) (ykc_201 (e := (2, .iload_n kF2, 0)) rfl) rfl rfl ?_
          obtain ⟨z1512, e_z1512, h_z1512⟩ : ∃ zq : Int32, (Int32.ofInt (-1)) - y = zq ∧ zq.toInt = (-1 : Int) - ((c : Nat) : Int) := ⟨_, rfl, zm1sub (by omega) (by omega) (by omega)⟩
          refine w_alu (pc' := 43) (st' := [.int z1512]) (ykc_201 (e := (0, .isub, 0)) rfl) (by rw [← e_z1512]; rfl) rfl ?_
          refine w_ret (v := (some (.int z1512))) (ykc_201 (e := (7, .ireturn, 0)) rfl) (zr_v rfl) ?_
          rw [hQ, show is = true from b1495]
          refine ⟨rfl, _, rfl, ?_⟩
          rw [zFo_t, if_pos (by omega)]
          omega
    · refine w_alu (pc' := 16) (st' := [.int (Int32.ofInt 1)]) (ykc_201 (e := (0, .iconst 1, 0)) rfl) rfl rfl ?_
      refine w_br (pc' := 20) (st' := [.int (Int32.ofInt 1)]) (ykc_201 (e := (4, .goto 4, 20)) rfl) rfl ?_
      refine w_store (pc' := 22) (L' := [some (.ref 170), some (.int x), some (.int y), some (.int (zI is)), some (.int (Int32.ofInt 1))]) (st' := []) (m := 2) (ykc_201 (e := (3, .istore 4, 0)) rfl) rfl rfl ?_
      refine w_load (pc' := 23) (v := .int x) (m := 1) (ykc_201 (e := (2, .iload_n kF1, 0)) rfl) rfl rfl ?_
      refine w_load (pc' := 24) (v := .int y) (m := 1) (ykc_201 (e := (2, .iload_n kF2, 0)) rfl) rfl rfl ?_
      refine w_ile (ykc_201 (e := (4, .if_icmp .le 20, 44)) rfl) rfl (fun b1513 => ?_) (fun b1513 => ?_)
      · refine w_load (pc' := 46) (v := .int (Int32.ofInt 1)) (m := 2) (ykc_201 (e := (2, .iload 4, 0)) rfl) rfl rfl ?_
        refine w_zeq (ykc_201 (e := (4, .ifCond .eq 7, 53)) rfl) rfl (fun q => by exfalso; omega) (fun b1514 => ?_)
        refine w_alu (pc' := 50) (st' := [.int (Int32.ofInt 0)]) (ykc_201 (e := (0, .iconst 0, 0)) rfl) rfl rfl ?_
        refine w_br (pc' := 59) (st' := [.int (Int32.ofInt 0)]) (ykc_201 (e := (4, .goto 9, 59)) rfl) rfl ?_
        refine w_ret (v := (some (.int (Int32.ofInt 0)))) (ykc_201 (e := (7, .ireturn, 0)) rfl) (zr_v rfl) ?_
        rw [hQ, show is = true from b1495]
        refine ⟨rfl, _, rfl, ?_⟩
        rw [zFo_t, if_neg (by omega), if_pos (by omega)]
        omega
      · refine w_load (pc' := 29) (v := .int (Int32.ofInt 1)) (m := 2) (ykc_201 (e := (2, .iload 4, 0)) rfl) rfl rfl ?_
        refine w_zne (ykc_201 (e := (4, .ifCond .ne 11, 40)) rfl) rfl (fun b1515 => ?_) (fun q => by exfalso; omega)
        refine w_alu (pc' := 41) (st' := [.int (Int32.ofInt (-1))]) (ykc_201 (e := (0, .iconst (-1), 0)) rfl) rfl rfl ?_
        refine w_load (pc' := 42) (v := .int y) (m := 1) (ykc_201 (e := (2, .iload_n kF2, 0)) rfl) rfl rfl ?_
        obtain ⟨z1516, e_z1516, h_z1516⟩ : ∃ zq : Int32, (Int32.ofInt (-1)) - y = zq ∧ zq.toInt = (-1 : Int) - ((c : Nat) : Int) := ⟨_, rfl, zm1sub (by omega) (by omega) (by omega)⟩
        refine w_alu (pc' := 43) (st' := [.int z1516]) (ykc_201 (e := (0, .isub, 0)) rfl) (by rw [← e_z1516]; rfl) rfl ?_
        refine w_ret (v := (some (.int z1516))) (ykc_201 (e := (7, .ireturn, 0)) rfl) (zr_v rfl) ?_
        rw [hQ, show is = true from b1495]
        refine ⟨rfl, _, rfl, ?_⟩
        rw [zFo_t, if_pos (by omega)]
        omega
