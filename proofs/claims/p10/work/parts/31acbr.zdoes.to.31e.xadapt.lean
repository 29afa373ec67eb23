/-! one act of a DAY, class and reference, by W; printed by wip/z/z1n_does.py -/
/-- what an act at s does to a row, or none: it can't be -/
def zAct (E : zEn) (P G : Nat) (v t : Nat → Nat) (s : Nat) : Option (Nat → Nat) :=
  if t s = 110 then some (zHqn E P G v (t (s + 1) - 48))
  else if t s = 102 then (if t (s + 1) - 48 < P ∧ t (s + 2) - 48 < 8 then some (znu v (8 + (t (s + 1) - 48)) (t (s + 2) - 48)) else none)
  else if t s = 103 then (if t (s + 1) - 48 < P ∧ t (s + 2) - 48 < 8 ∧ 0 ≤ zbk E.1 E.2.1 E.2.2.1 (v (t (s + 1) - 48)) (t (s + 2) - 48) then some (znu v (t (s + 1) - 48) (zbk E.1 E.2.1 E.2.2.1 (v (t (s + 1) - 48)) (t (s + 2) - 48)).toNat) else none)
  else if t s = 98 then (if t (s + 1) - 48 < P ∧ t (s + 2) - 48 ≤ 4 then some (znu v (16 + (t (s + 1) - 48)) (t (s + 2) - 48)) else none)
  else (if t (s + 2) - 48 < E.1 ∧ t (s + 3) - 48 < E.2.1 ∧ t (s + 1) - 48 < G ∧ v (32 + (t (s + 1) - 48)) ≠ E.2.1 * (t (s + 2) - 48) + (t (s + 3) - 48) then some (znu v (32 + (t (s + 1) - 48)) (E.2.1 * (t (s + 2) - 48) + (t (s + 3) - 48))) else none)
theorem zdw_c {c : Nat} (h : 0 < zdw c) : c = 110 ∨ c = 102 ∨ c = 103 ∨ c = 98 ∨ c = 112 := by
  unfold zdw at h
  by_cases e1 : c = 110
  · exact Or.inl e1
  · by_cases e2 : c = 102
    · exact Or.inr (Or.inl e2)
    · by_cases e3 : c = 103
      · exact Or.inr (Or.inr (Or.inl e3))
      · by_cases e4 : c = 98
        · exact Or.inr (Or.inr (Or.inr (Or.inl e4)))
        · by_cases e5 : c = 112
          · exact Or.inr (Or.inr (Or.inr (Or.inr e5)))
          · rw [if_neg e1, if_neg e2, if_neg e3, if_neg e4, if_neg e5] at h
            omega
theorem zKw_b {v : Nat → Nat} : ∀ n, n ≤ 8 → (∀ p, p < n → v (24 + p) < 256) → ∃ k, k ≤ 8 * n ∧ zKw v n = zn k
  | 0, _, _ => ⟨0, by decide, rfl⟩
  | n + 1, h8, h => by
    obtain ⟨k, h1, h2⟩ := zKw_b n (by omega) (fun p hp => h p (by omega))
    obtain ⟨g1, g2⟩ := zpn_n (v (24 + n)) (h n (by omega))
    refine ⟨k + zpn (v (24 + n)), by omega, ?_⟩
    show zKw v n + zpc (zn (v (24 + n))) = _
    rw [h2, g1]
    exact zaddN (znt (by omega)) (znt (by omega)) (by omega)
theorem zm_goesOn {ph : pm_H} {E : zEn} {P G A N : Nat} {v : Nat → Nat} {y : Int32} (hS : zSh ph) (hE : zMe ph E) (hN : zMp ph P G) (hA : A = 174 ∨ A = 175) (hv : zNr ph A 0 v) (hO : zOk E.1 E.2.1 P G v) (hy : y.toInt = (N : Int)) (hh : v 40 + N < 999999) : zM 243 [.ref 170, .ref A, .int y] ph (fun v0 q => v0 = none ∧ zHc A ph q ∧ zNr q A 0 (zHqn E P G v N)) := by
  obtain ⟨Q, hQ⟩ : ∃ Q : Option Value → pm_H → Prop, Q = (fun v0 q => v0 = none ∧ zHc A ph q ∧ zNr q A 0 (zHqn E P G v N)) := ⟨_, rfl⟩
  rw [← hQ]
  refine zM_mk fun n D => ?_
  show zW n D 243 Q 0 [some (.ref 170), some (.ref A), some (.int y), none] [] ph
  have c_0 : (Int32.ofInt 0).toInt = 0 := by decide
  have c_1 : (Int32.ofInt 1).toInt = 1 := by decide
  have hy9 := x32_hi y
  have hP8 : P ≤ 8 := hN.2.1
  have hG8 : G ≤ 8 := hN.2.2.2
  refine w_alu (pc' := 1) (st' := [.int (Int32.ofInt 0)]) (ykc_243 (e := (0, .iconst 0, 0)) rfl) rfl rfl ?_
  refine w_store (pc' := 2) (L' := [some (.ref 170), some (.ref A), some (.int y), some (.int (Int32.ofInt 0))]) (st' := []) (m := 1) (ykc_243 (e := (3, .istore_n kF3, 0)) rfl) rfl rfl ?_
  have hl1 : ∀ (n : Nat), ∀ (k : Nat) (p : pm_H), (k ≤ N) → (zHc A ph p) → (zNr p A 0 (zHqn E P G v k)) → zW n D 243 Q 2 [some (.ref 170), some (.ref A), some (.int y), some (.int (zn k))] [] p := by
    intro n
    induction n using Nat.strongRecOn with
    | ind n ih =>
      intro k p hk hf hvk
      have tk := znt (k := k) (by omega)
      refine w_load (pc' := 3) (v := .int (zn k)) (m := 1) (ykc_243 (e := (2, .iload_n kF3, 0)) rfl) rfl rfl ?_
      refine w_load (pc' := 4) (v := .int y) (m := 1) (ykc_243 (e := (2, .iload_n kF2, 0)) rfl) rfl rfl ?_
      refine w_ige (ykc_243 (e := (4, .if_icmp .ge 14, 18)) rfl) rfl (fun b1517 => ?_) (fun b1517 => ?_)
      · refine w_ret (v := none) (ykc_243 (e := (7, .return_, 0)) rfl) (zr_v rfl) ?_
        rw [hQ]
        have ek : k = N := by omega
        subst ek
        exact ⟨rfl, hf, hvk⟩
      · refine w_load (pc' := 8) (v := .ref 170) (m := 1) (ykc_243 (e := (2, .aload_n kF0, 0)) rfl) rfl rfl ?_
        refine w_load (pc' := 9) (v := .ref A) (m := 1) (ykc_243 (e := (2, .aload_n kF1, 0)) rfl) rfl rfl ?_
        have h40 := zHqn_40 (E := E) (G := G) (v := v) hP8 k
        refine w_cv (as := [.ref 170, .ref A]) (r := []) (ykc_243 (e := (6, .invokevirtual 347, 0)) rfl) rfl rfl rfl rfl (zm_hour (zHc_S hA hf hS) (zHc_e hA hf hE) (zHc_p hA hf hN) hA hvk (zHqn_ok hO hP8 hG8 k (by omega)) (by omega)) (fun v1518 ph1519 hv => ?_)
        obtain ⟨rfl, f2, hv2⟩ := hv
        show zW n D 243 Q 12 [some (.ref 170), some (.ref A), some (.int y), some (.int (zn k))] [] ph1519
        have e1520 : (zn k) + Int32.ofInt 1 = zn (k + 1) := (zaddN (a := k) (b := 1) (znt (by omega)) c_1 (by omega))
        have te1520 := znt (k := k + 1) (by omega)
        refine w_store (pc' := 15) (L' := [some (.ref 170), some (.ref A), some (.int y), some (.int (zn (k + 1)))]) (st' := []) (m := 3) (ykc_243 (e := (3, .iinc 3 1, 0)) rfl) (by rw [← e1520]; rfl) rfl ?_
        refine w_gb (ykc_243 (e := (4, .goto (-13), 2)) rfl) (fun k1521 hk1521 => ?_)
        rw [show zHr E P G (zHqn E P G v k) = zHqn E P G v (k + 1) from zHr_eq] at hv2
        exact ih k1521 hk1521 (k + 1) _ (by omega) (zFr_trans hf f2) hv2
  exact hl1 n 0 _ (Nat.zero_le _) zFr_refl hv
theorem zm_doesR {ph : pm_H} {E : zEn} {P G b k i : Nat} {v t : Nat → Nat} {x : Int32} (hS : zSh ph) (hE : zMe ph E) (hN : zMp ph P G) (hv : zNr ph 174 0 v) (hO : zOk E.1 E.2.1 P G v) (hh : v 40 < 999000) (hD : zEd ph t k) (hg : zDok b t k) (hk : k ≤ 60) (hx : x.toInt = (i : Int)) (hi : i < k) : zM 254 [.ref 170, .int x] ph (fun v0 q => zFr [174, 181, 182, 184] [] ph q ∧ ((∃ v2, zAct E P G v t (zDp t i) = some v2 ∧ v0 = some (.int (zI true)) ∧ zNr q 174 0 v2) ∨ (zAct E P G v t (zDp t i) = none ∧ v0 = some (.int (zI false)) ∧ zNr q 174 0 v))) := by
  obtain ⟨Q, hQ⟩ : ∃ Q : Option Value → pm_H → Prop, Q = (fun v0 q => zFr [174, 181, 182, 184] [] ph q ∧ ((∃ v2, zAct E P G v t (zDp t i) = some v2 ∧ v0 = some (.int (zI true)) ∧ zNr q 174 0 v2) ∨ (zAct E P G v t (zDp t i) = none ∧ v0 = some (.int (zI false)) ∧ zNr q 174 0 v))) := ⟨_, rfl⟩
  rw [← hQ]
  refine zM_mk fun n D => ?_
  show zW n D 254 Q 0 [some (.ref 170), some (.int x), none, none] [] ph
  have c_0 : (Int32.ofInt 0).toInt = 0 := by decide
  have c_1 : (Int32.ofInt 1).toInt = 1 := by decide
  have hx9 := x32_hi x
  have hL0 : zMl ph E.1 E.2.1 E.2.2.1 := hE.1
  obtain ⟨d1, d2, d3, d4⟩ := hD i hi
  obtain ⟨g1, g2, g3⟩ := hg i hi
  obtain ⟨s, hs⟩ : ∃ s, zDp t i = s := ⟨_, rfl⟩
  rw [hs] at d1 d2 d3 d4 g1 g2 g3
  have q1 := zdi_d (g3 0 (by omega))
  rw [Nat.add_zero] at q1
  have tq1 := znt (k := t (s + 1) - 48) (by omega)
  have hR7 : 3 ≤ E.1 ∧ E.1 ≤ 7 ∧ 3 ≤ E.2.1 ∧ E.2.1 ≤ 7 := ⟨hL0.2.2.2.1, hL0.2.2.2.2.1, hL0.2.2.2.2.2.1, hL0.2.2.2.2.2.2⟩
  have hP8 : P ≤ 8 := hN.2.1
  have hG8 : G ≤ 8 := hN.2.2.2
  have tE1 := znt (k := E.1) (by omega)
  have tE2 := znt (k := E.2.1) (by omega)
  refine w_load (pc' := 1) (v := .ref 170) (m := 1) (ykc_254 (e := (2, .aload_n kF0, 0)) rfl) rfl rfl ?_
  refine w_gf (pc' := 4) (v := .ref 186) (ykc_254 (e := (5, .getfield 77, 0)) rfl) rfl (zsg hS zs_170_31) rfl ?_
  refine w_load (pc' := 5) (v := .int x) (m := 1) (ykc_254 (e := (2, .iload_n kF1, 0)) rfl) rfl rfl ?_
  refine w_ialk (pc' := 6) (k := i) (ykc_254 (e := (5, .iaload, 0)) rfl) d2 (by omega) rfl ?_
  refine w_store (pc' := 7) (L' := [some (.ref 170), some (.int x), some (.int (zn (t (s + 1) - 48))), none]) (st' := []) (m := 1) (ykc_254 (e := (3, .istore_n kF2, 0)) rfl) rfl rfl ?_
  refine w_load (pc' := 8) (v := .ref 170) (m := 1) (ykc_254 (e := (2, .aload_n kF0, 0)) rfl) rfl rfl ?_
  refine w_gf (pc' := 11) (v := .ref 185) (ykc_254 (e := (5, .getfield 74, 0)) rfl) rfl (zsg hS zs_170_30) rfl ?_
  refine w_load (pc' := 12) (v := .int x) (m := 1) (ykc_254 (e := (2, .iload_n kF1, 0)) rfl) rfl rfl ?_
  refine w_ialk (pc' := 13) (k := i) (ykc_254 (e := (5, .iaload, 0)) rfl) d1 (by omega) rfl ?_
  rcases zdw_c g1 with e | e | e | e | e
  · refine w_br (pc' := 44) (st' := []) (ykc_254 (e := (4, .tableswitch 110 0 3 #[31, 42, 66, 90], 31)) rfl) (by rw [e]; rfl) ?_
    refine w_load (pc' := 45) (v := .ref 170) (m := 1) (ykc_254 (e := (2, .aload_n kF0, 0)) rfl) rfl rfl ?_
    refine w_load (pc' := 46) (v := .ref 170) (m := 1) (ykc_254 (e := (2, .aload_n kF0, 0)) rfl) rfl rfl ?_
    refine w_gf (pc' := 49) (v := .ref 174) (ykc_254 (e := (5, .getfield 41, 0)) rfl) rfl (zsg hS zs_170_11) rfl ?_
    refine w_load (pc' := 50) (v := .int (zn (t (s + 1) - 48))) (m := 1) (ykc_254 (e := (2, .iload_n kF2, 0)) rfl) rfl rfl ?_
    refine w_cv (as := [.ref 170, .ref 174, .int (zn (t (s + 1) - 48))]) (r := []) (ykc_254 (e := (6, .invokevirtual 370, 0)) rfl) rfl rfl rfl rfl (zm_goesOn (N := t (s + 1) - 48) hS hE hN (Or.inl rfl) hv hO tq1 (by omega)) (fun v1522 ph1523 hv => ?_)
    rcases hv with ⟨rfl, f2, hv2⟩
    · show zW n D 254 Q 53 [some (.ref 170), some (.int x), some (.int (zn (t (s + 1) - 48))), none] [] ph1523
      refine w_alu (pc' := 54) (st' := [.int (Int32.ofInt 1)]) (ykc_254 (e := (0, .iconst 1, 0)) rfl) rfl rfl ?_
      refine w_ret (v := (some (.int (Int32.ofInt 1)))) (ykc_254 (e := (7, .ireturn, 0)) rfl) zr_z ?_
      rw [hQ, zi1]
      refine ⟨zFr_mono f2 (by simp) (by simp), Or.inl ⟨_, ?_, rfl, hv2⟩⟩
      rw [hs]
      unfold zAct
      rw [if_pos e]
    
  · have q2 : 48 ≤ t (s + 2) ∧ t (s + 2) ≤ 57 := zdi_d (g3 1 (by rw [e]; decide))
    have tq2 := znt (k := t (s + 2) - 48) (by omega)
    have d3 := d3 (by rw [e]; decide)
    refine w_br (pc' := 55) (st' := []) (ykc_254 (e := (4, .tableswitch 110 0 3 #[31, 42, 66, 90], 31)) rfl) (by rw [e]; rfl) ?_
    refine w_load (pc' := 56) (v := .ref 170) (m := 1) (ykc_254 (e := (2, .aload_n kF0, 0)) rfl) rfl rfl ?_
    refine w_load (pc' := 57) (v := .ref 170) (m := 1) (ykc_254 (e := (2, .aload_n kF0, 0)) rfl) rfl rfl ?_
    refine w_gf (pc' := 60) (v := .ref 174) (ykc_254 (e := (5, .getfield 41, 0)) rfl) rfl (zsg hS zs_170_11) rfl ?_
    refine w_load (pc' := 61) (v := .int (zn (t (s + 1) - 48))) (m := 1) (ykc_254 (e := (2, .iload_n kF2, 0)) rfl) rfl rfl ?_
    refine w_load (pc' := 62) (v := .ref 170) (m := 1) (ykc_254 (e := (2, .aload_n kF0, 0)) rfl) rfl rfl ?_
    refine w_gf (pc' := 65) (v := .ref 187) (ykc_254 (e := (5, .getfield 80, 0)) rfl) rfl (zsg hS zs_170_32) rfl ?_
    refine w_load (pc' := 66) (v := .int x) (m := 1) (ykc_254 (e := (2, .iload_n kF1, 0)) rfl) rfl rfl ?_
    refine w_ialk (pc' := 67) (k := i) (ykc_254 (e := (5, .iaload, 0)) rfl) d3 (by omega) rfl ?_
    refine w_cv (as := [.ref 170, .ref 174, .int (zn (t (s + 1) - 48)), .int (zn (t (s + 2) - 48))]) (r := []) (ykc_254 (e := (6, .invokevirtual 377, 0)) rfl) rfl rfl rfl rfl (zm_faces1 hS hE.1 hN (Or.inl rfl) hv hO) (fun v1524 ph1525 hv => ?_)
    rcases hv with ⟨hbad, rfl, rfl⟩ | ⟨p, f, hp9, hf9, hpP, hf8, rfl, u9⟩
    · have tm1 : (Int32.ofInt (-1)).toInt = -1 := by decide
      show zW n D 254 Q 70 [some (.ref 170), some (.int x), some (.int (zn (t (s + 1) - 48))), none] [.int (Int32.ofInt (-1))] ph
      refine w_zlt (ykc_254 (e := (4, .ifCond .lt 7, 77)) rfl) rfl (fun b1526 => ?_) (fun q => by exfalso; omega)
      refine w_alu (pc' := 78) (st' := [.int (Int32.ofInt 0)]) (ykc_254 (e := (0, .iconst 0, 0)) rfl) rfl rfl ?_
      refine w_ret (v := (some (.int (Int32.ofInt 0)))) (ykc_254 (e := (7, .ireturn, 0)) rfl) zr_z ?_
      rw [hQ, zi0]
      refine ⟨zFr_refl, Or.inr ⟨?_, rfl, hv⟩⟩
      rw [hs]
      unfold zAct
      rw [if_neg (show ¬ t s = 110 by omega)]
      rw [if_pos e]
      rw [if_neg (by omega)]
    · have ep : p = t (s + 1) - 48 := zn_inj hp9.symm (by omega) (by omega)
      have ef : f = t (s + 2) - 48 := zn_inj hf9.symm (by omega) (by omega)
      subst ep ef
      have tz8 := znt (k := ze8 (v (8 + (t (s + 1) - 48))) (t (s + 2) - 48)) (by unfold ze8; omega)
      show zW n D 254 Q 70 [some (.ref 170), some (.int x), some (.int (zn (t (s + 1) - 48))), none] [.int (zn (ze8 (v (8 + (t (s + 1) - 48))) (t (s + 2) - 48)))] ph1525
      refine w_zlt (ykc_254 (e := (4, .ifCond .lt 7, 77)) rfl) rfl (fun q => by exfalso; omega) (fun b1527 => ?_)
      refine w_alu (pc' := 74) (st' := [.int (Int32.ofInt 1)]) (ykc_254 (e := (0, .iconst 1, 0)) rfl) rfl rfl ?_
      refine w_br (pc' := 78) (st' := [.int (Int32.ofInt 1)]) (ykc_254 (e := (4, .goto 4, 78)) rfl) rfl ?_
      refine w_ret (v := (some (.int (Int32.ofInt 1)))) (ykc_254 (e := (7, .ireturn, 0)) rfl) zr_z ?_
      rw [hQ, zi1]
      refine ⟨zFr_st u9 (Or.inl (by simp)), Or.inl ⟨znu v (8 + (t (s + 1) - 48)) (t (s + 2) - 48), ?_, rfl, zNr_u u9 hv⟩⟩
      rw [hs]
      unfold zAct
      rw [if_neg (show ¬ t s = 110 by omega)]
      rw [if_pos e]
      rw [if_pos ⟨by omega, by omega⟩]
    
  · have q2 : 48 ≤ t (s + 2) ∧ t (s + 2) ≤ 57 := zdi_d (g3 1 (by rw [e]; decide))
    have tq2 := znt (k := t (s + 2) - 48) (by omega)
    have d3 := d3 (by rw [e]; decide)
    refine w_br (pc' := 79) (st' := []) (ykc_254 (e := (4, .tableswitch 110 0 3 #[31, 42, 66, 90], 31)) rfl) (by rw [e]; rfl) ?_
    refine w_load (pc' := 80) (v := .ref 170) (m := 1) (ykc_254 (e := (2, .aload_n kF0, 0)) rfl) rfl rfl ?_
    refine w_load (pc' := 81) (v := .ref 170) (m := 1) (ykc_254 (e := (2, .aload_n kF0, 0)) rfl) rfl rfl ?_
    refine w_gf (pc' := 84) (v := .ref 174) (ykc_254 (e := (5, .getfield 41, 0)) rfl) rfl (zsg hS zs_170_11) rfl ?_
    refine w_load (pc' := 85) (v := .int (zn (t (s + 1) - 48))) (m := 1) (ykc_254 (e := (2, .iload_n kF2, 0)) rfl) rfl rfl ?_
    refine w_load (pc' := 86) (v := .ref 170) (m := 1) (ykc_254 (e := (2, .aload_n kF0, 0)) rfl) rfl rfl ?_
    refine w_gf (pc' := 89) (v := .ref 187) (ykc_254 (e := (5, .getfield 80, 0)) rfl) rfl (zsg hS zs_170_32) rfl ?_
    refine w_load (pc' := 90) (v := .int x) (m := 1) (ykc_254 (e := (2, .iload_n kF1, 0)) rfl) rfl rfl ?_
    refine w_ialk (pc' := 91) (k := i) (ykc_254 (e := (5, .iaload, 0)) rfl) d3 (by omega) rfl ?_
    refine w_cv (as := [.ref 170, .ref 174, .int (zn (t (s + 1) - 48)), .int (zn (t (s + 2) - 48))]) (r := []) (ykc_254 (e := (6, .invokevirtual 383, 0)) rfl) rfl rfl rfl rfl (zm_steps1 hS hE.1 hN (Or.inl rfl) hv hO) (fun v1528 ph1529 hv => ?_)
    rcases hv with ⟨hbad, rfl, rfl⟩ | ⟨p, f, hp9, hf9, hpP, hf8, ⟨hrk, rfl, rfl⟩ | ⟨g, hgR, hgk, rfl, u9⟩⟩
    · have tm1 : (Int32.ofInt (-1)).toInt = -1 := by decide
      show zW n D 254 Q 94 [some (.ref 170), some (.int x), some (.int (zn (t (s + 1) - 48))), none] [.int (Int32.ofInt (-1))] ph
      refine w_zlt (ykc_254 (e := (4, .ifCond .lt 7, 101)) rfl) rfl (fun b1530 => ?_) (fun q => by exfalso; omega)
      refine w_alu (pc' := 102) (st' := [.int (Int32.ofInt 0)]) (ykc_254 (e := (0, .iconst 0, 0)) rfl) rfl rfl ?_
      refine w_ret (v := (some (.int (Int32.ofInt 0)))) (ykc_254 (e := (7, .ireturn, 0)) rfl) zr_z ?_
      rw [hQ, zi0]
      refine ⟨zFr_refl, Or.inr ⟨?_, rfl, hv⟩⟩
      rw [hs]
      unfold zAct
      rw [if_neg (show ¬ t s = 110 by omega)]
      rw [if_neg (show ¬ t s = 102 by omega)]
      rw [if_pos e]
      rw [if_neg (by omega)]
    · have ep : p = t (s + 1) - 48 := zn_inj hp9.symm (by omega) (by omega)
      have ef : f = t (s + 2) - 48 := zn_inj hf9.symm (by omega) (by omega)
      subst ep ef
      have tm2 : ((Int8.ofInt (-2)).toInt32).toInt = -2 := by decide
      show zW n D 254 Q 94 [some (.ref 170), some (.int x), some (.int (zn (t (s + 1) - 48))), none] [.int ((Int8.ofInt (-2)).toInt32)] ph
      refine w_zlt (ykc_254 (e := (4, .ifCond .lt 7, 101)) rfl) rfl (fun b1531 => ?_) (fun q => by exfalso; omega)
      refine w_alu (pc' := 102) (st' := [.int (Int32.ofInt 0)]) (ykc_254 (e := (0, .iconst 0, 0)) rfl) rfl rfl ?_
      refine w_ret (v := (some (.int (Int32.ofInt 0)))) (ykc_254 (e := (7, .ireturn, 0)) rfl) zr_z ?_
      rw [hQ, zi0]
      refine ⟨zFr_refl, Or.inr ⟨?_, rfl, hv⟩⟩
      rw [hs]
      unfold zAct
      rw [if_neg (show ¬ t s = 110 by omega)]
      rw [if_neg (show ¬ t s = 102 by omega)]
      rw [if_pos e]
      rw [if_neg (fun q => by have q2 := q.2.2; omega)]
    · have tg := znt (k := g) (by have := zRC49 hR7.2.1 hR7.2.2.2; omega)
      have ep : p = t (s + 1) - 48 := zn_inj hp9.symm (by omega) (by omega)
      have ef : f = t (s + 2) - 48 := zn_inj hf9.symm (by omega) (by omega)
      subst ep ef
      show zW n D 254 Q 94 [some (.ref 170), some (.int x), some (.int (zn (t (s + 1) - 48))), none] [.int (zn g)] ph1529
      refine w_zlt (ykc_254 (e := (4, .ifCond .lt 7, 101)) rfl) rfl (fun q => by exfalso; omega) (fun b1532 => ?_)
      refine w_alu (pc' := 98) (st' := [.int (Int32.ofInt 1)]) (ykc_254 (e := (0, .iconst 1, 0)) rfl) rfl rfl ?_
      refine w_br (pc' := 102) (st' := [.int (Int32.ofInt 1)]) (ykc_254 (e := (4, .goto 4, 102)) rfl) rfl ?_
      refine w_ret (v := (some (.int (Int32.ofInt 1)))) (ykc_254 (e := (7, .ireturn, 0)) rfl) zr_z ?_
      rw [hQ, zi1]
      refine ⟨zFr_st u9 (Or.inl (by simp)), Or.inl ⟨znu v ((t (s + 1) - 48)) g, ?_, rfl, zNr_u u9 hv⟩⟩
      rw [hs]
      unfold zAct
      rw [if_neg (show ¬ t s = 110 by omega)]
      rw [if_neg (show ¬ t s = 102 by omega)]
      rw [if_pos e]
      rw [if_pos ⟨by omega, by omega, by rw [hgk]; omega⟩, hgk]
      rfl
    
  · have q2 : 48 ≤ t (s + 2) ∧ t (s + 2) ≤ 57 := zdi_d (g3 1 (by rw [e]; decide))
    have tq2 := znt (k := t (s + 2) - 48) (by omega)
    have d3 := d3 (by rw [e]; decide)
    refine w_br (pc' := 103) (st' := []) (ykc_254 (e := (4, .tableswitch 110 0 3 #[31, 42, 66, 90], 31)) rfl) (by rw [e]; rfl) ?_
    refine w_load (pc' := 104) (v := .ref 170) (m := 1) (ykc_254 (e := (2, .aload_n kF0, 0)) rfl) rfl rfl ?_
    refine w_load (pc' := 105) (v := .int (zn (t (s + 1) - 48))) (m := 1) (ykc_254 (e := (2, .iload_n kF2, 0)) rfl) rfl rfl ?_
    refine w_load (pc' := 106) (v := .ref 170) (m := 1) (ykc_254 (e := (2, .aload_n kF0, 0)) rfl) rfl rfl ?_
    refine w_gf (pc' := 109) (v := .ref 187) (ykc_254 (e := (5, .getfield 80, 0)) rfl) rfl (zsg hS zs_170_32) rfl ?_
    refine w_load (pc' := 110) (v := .int x) (m := 1) (ykc_254 (e := (2, .iload_n kF1, 0)) rfl) rfl rfl ?_
    refine w_ialk (pc' := 111) (k := i) (ykc_254 (e := (5, .iaload, 0)) rfl) d3 (by omega) rfl ?_
    refine w_cv (as := [.ref 170, .int (zn (t (s + 1) - 48)), .int (zn (t (s + 2) - 48))]) (r := []) (ykc_254 (e := (6, .invokevirtual 386, 0)) rfl) rfl rfl rfl rfl (zm_trims1 hS hE.1 hN hv hO) (fun v1533 ph1534 hv => ?_)
    rcases hv with ⟨hbad, rfl, rfl⟩ | ⟨p, f, hp9, hf9, hpP, hf4, rfl, u9⟩
    · have tm1 : (Int32.ofInt (-1)).toInt = -1 := by decide
      show zW n D 254 Q 114 [some (.ref 170), some (.int x), some (.int (zn (t (s + 1) - 48))), none] [.int (Int32.ofInt (-1))] ph
      refine w_zlt (ykc_254 (e := (4, .ifCond .lt 7, 121)) rfl) rfl (fun b1535 => ?_) (fun q => by exfalso; omega)
      refine w_alu (pc' := 122) (st' := [.int (Int32.ofInt 0)]) (ykc_254 (e := (0, .iconst 0, 0)) rfl) rfl rfl ?_
      refine w_ret (v := (some (.int (Int32.ofInt 0)))) (ykc_254 (e := (7, .ireturn, 0)) rfl) zr_z ?_
      rw [hQ, zi0]
      refine ⟨zFr_refl, Or.inr ⟨?_, rfl, hv⟩⟩
      rw [hs]
      unfold zAct
      rw [if_neg (show ¬ t s = 110 by omega)]
      rw [if_neg (show ¬ t s = 102 by omega)]
      rw [if_neg (show ¬ t s = 103 by omega)]
      rw [if_pos e]
      rw [if_neg (by omega)]
    · have ep : p = t (s + 1) - 48 := zn_inj hp9.symm (by omega) (by omega)
      have ef : f = t (s + 2) - 48 := zn_inj hf9.symm (by omega) (by omega)
      subst ep ef
      have tv := znt (k := v (16 + (t (s + 1) - 48))) (by have := (hO.1 _ hpP).2.2.1; omega)
      show zW n D 254 Q 114 [some (.ref 170), some (.int x), some (.int (zn (t (s + 1) - 48))), none] [.int (zn (v (16 + (t (s + 1) - 48))))] ph1534
      refine w_zlt (ykc_254 (e := (4, .ifCond .lt 7, 121)) rfl) rfl (fun q => by exfalso; omega) (fun b1536 => ?_)
      refine w_alu (pc' := 118) (st' := [.int (Int32.ofInt 1)]) (ykc_254 (e := (0, .iconst 1, 0)) rfl) rfl rfl ?_
      refine w_br (pc' := 122) (st' := [.int (Int32.ofInt 1)]) (ykc_254 (e := (4, .goto 4, 122)) rfl) rfl ?_
      refine w_ret (v := (some (.int (Int32.ofInt 1)))) (ykc_254 (e := (7, .ireturn, 0)) rfl) zr_z ?_
      rw [hQ, zi1]
      refine ⟨zFr_st u9 (Or.inl (by simp)), Or.inl ⟨znu v (16 + (t (s + 1) - 48)) (t (s + 2) - 48), ?_, rfl, zNr_u u9 hv⟩⟩
      rw [hs]
      unfold zAct
      rw [if_neg (show ¬ t s = 110 by omega)]
      rw [if_neg (show ¬ t s = 102 by omega)]
      rw [if_neg (show ¬ t s = 103 by omega)]
      rw [if_pos e]
      rw [if_pos ⟨by omega, by omega⟩]
    
  · have q2 : 48 ≤ t (s + 2) ∧ t (s + 2) ≤ 57 := zdi_d (g3 1 (by rw [e]; decide))
    have tq2 := znt (k := t (s + 2) - 48) (by omega)
    have d3 := d3 (by rw [e]; decide)
    have q3 : 48 ≤ t (s + 3) ∧ t (s + 3) ≤ 57 := zdi_d (g3 2 (by rw [e]; decide))
    have tq3 := znt (k := t (s + 3) - 48) (by omega)
    have d4 := d4 (by rw [e]; decide)
    refine w_br (pc' := 123) (st' := []) (ykc_254 (e := (4, .tableswitch 110 0 3 #[31, 42, 66, 90], 31)) rfl) (by rw [e]; rfl) ?_
    refine w_load (pc' := 124) (v := .ref 170) (m := 1) (ykc_254 (e := (2, .aload_n kF0, 0)) rfl) rfl rfl ?_
    refine w_gf (pc' := 127) (v := .ref 187) (ykc_254 (e := (5, .getfield 80, 0)) rfl) rfl (zsg hS zs_170_32) rfl ?_
    refine w_load (pc' := 128) (v := .int x) (m := 1) (ykc_254 (e := (2, .iload_n kF1, 0)) rfl) rfl rfl ?_
    refine w_ialk (pc' := 129) (k := i) (ykc_254 (e := (5, .iaload, 0)) rfl) d3 (by omega) rfl ?_
    refine w_load (pc' := 130) (v := .ref 170) (m := 1) (ykc_254 (e := (2, .aload_n kF0, 0)) rfl) rfl rfl ?_
    refine w_gf (pc' := 133) (v := .int (zn E.1)) (ykc_254 (e := (5, .getfield 24, 0)) rfl) rfl hL0.1 rfl ?_
    refine w_ige (ykc_254 (e := (4, .if_icmp .ge 20, 153)) rfl) rfl (fun b1538 => ?_) (fun b1538 => ?_)
    · refine w_alu (pc' := 154) (st' := [.int (Int32.ofInt 0)]) (ykc_254 (e := (0, .iconst 0, 0)) rfl) rfl rfl ?_
      refine w_store (pc' := 155) (L' := [some (.ref 170), some (.int x), some (.int (zn (t (s + 1) - 48))), some (.int (Int32.ofInt 0))]) (st' := []) (m := 1) (ykc_254 (e := (3, .istore_n kF3, 0)) rfl) rfl rfl ?_
      refine w_load (pc' := 156) (v := .int (Int32.ofInt 0)) (m := 1) (ykc_254 (e := (2, .iload_n kF3, 0)) rfl) rfl rfl ?_
      refine w_zeq (ykc_254 (e := (4, .ifCond .eq 33, 189)) rfl) rfl (fun b1539 => ?_) (fun b1539 => ?_)
      · refine w_alu (pc' := 190) (st' := [.int (Int32.ofInt 0)]) (ykc_254 (e := (0, .iconst 0, 0)) rfl) rfl rfl ?_
        refine w_ret (v := (some (.int (Int32.ofInt 0)))) (ykc_254 (e := (7, .ireturn, 0)) rfl) zr_z ?_
        rw [hQ, zi0]
        refine ⟨zFr_refl, Or.inr ⟨?_, rfl, hv⟩⟩
        rw [hs]
        unfold zAct
        rw [if_neg (show ¬ t s = 110 by omega)]
        rw [if_neg (show ¬ t s = 102 by omega)]
        rw [if_neg (show ¬ t s = 103 by omega)]
        rw [if_neg (show ¬ t s = 98 by omega)]
        rw [if_neg (by omega)]
      · refine w_load (pc' := 160) (v := .ref 170) (m := 1) (ykc_254 (e := (2, .aload_n kF0, 0)) rfl) rfl rfl ?_
        refine w_load (pc' := 161) (v := .int (zn (t (s + 1) - 48))) (m := 1) (ykc_254 (e := (2, .iload_n kF2, 0)) rfl) rfl rfl ?_
        refine w_load (pc' := 162) (v := .ref 170) (m := 1) (ykc_254 (e := (2, .aload_n kF0, 0)) rfl) rfl rfl ?_
        refine w_gf (pc' := 165) (v := .int (zn E.2.1)) (ykc_254 (e := (5, .getfield 27, 0)) rfl) rfl hL0.2.1 rfl ?_
        refine w_load (pc' := 166) (v := .ref 170) (m := 1) (ykc_254 (e := (2, .aload_n kF0, 0)) rfl) rfl rfl ?_
        refine w_gf (pc' := 169) (v := .ref 187) (ykc_254 (e := (5, .getfield 80, 0)) rfl) rfl (zsg hS zs_170_32) rfl ?_
        refine w_load (pc' := 170) (v := .int x) (m := 1) (ykc_254 (e := (2, .iload_n kF1, 0)) rfl) rfl rfl ?_
        refine w_ialk (pc' := 171) (k := i) (ykc_254 (e := (5, .iaload, 0)) rfl) d3 (by omega) rfl ?_
        have m1537 : E.2.1 * (t (s + 2) - 48) ≤ 7 * 9 := Nat.mul_le_mul (by omega) (by omega)
        have e1540 : (zn E.2.1) * (zn (t (s + 2) - 48)) = zn (E.2.1 * (t (s + 2) - 48)) := zn_of (zmulN (by omega) (by omega) (by omega) (by omega))
        have te1540 := znt (k := E.2.1 * (t (s + 2) - 48)) (by omega)
        refine w_alu (pc' := 172) (st' := [.int (zn (E.2.1 * (t (s + 2) - 48))), .int (zn (t (s + 1) - 48)), .ref 170]) (ykc_254 (e := (0, .imul, 0)) rfl) (by rw [← e1540]; rfl) rfl ?_
        refine w_load (pc' := 173) (v := .ref 170) (m := 1) (ykc_254 (e := (2, .aload_n kF0, 0)) rfl) rfl rfl ?_
        refine w_gf (pc' := 176) (v := .ref 188) (ykc_254 (e := (5, .getfield 83, 0)) rfl) rfl (zsg hS zs_170_33) rfl ?_
        refine w_load (pc' := 177) (v := .int x) (m := 1) (ykc_254 (e := (2, .iload_n kF1, 0)) rfl) rfl rfl ?_
        refine w_ialk (pc' := 178) (k := i) (ykc_254 (e := (5, .iaload, 0)) rfl) d4 (by omega) rfl ?_
        have e1541 : (zn (E.2.1 * (t (s + 2) - 48))) + (zn (t (s + 3) - 48)) = zn (E.2.1 * (t (s + 2) - 48) + (t (s + 3) - 48)) := (zaddN (a := E.2.1 * (t (s + 2) - 48)) (b := t (s + 3) - 48) (znt (by omega)) (znt (by omega)) (by omega)) 
        have te1541 := znt (k := E.2.1 * (t (s + 2) - 48) + (t (s + 3) - 48)) (by omega)
        refine w_alu (pc' := 179) (st' := [.int (zn (E.2.1 * (t (s + 2) - 48) + (t (s + 3) - 48))), .int (zn (t (s + 1) - 48)), .ref 170]) (ykc_254 (e := (0, .iadd, 0)) rfl) (by rw [← e1541]; rfl) rfl ?_
        refine w_cv (as := [.ref 170, .int (zn (t (s + 1) - 48)), .int (zn (E.2.1 * (t (s + 2) - 48) + (t (s + 3) - 48)))]) (r := []) (ykc_254 (e := (6, .invokevirtual 389, 0)) rfl) rfl rfl rfl rfl (zm_puts1 hS hE.1 hN hv hO) (fun v1542 ph1543 hv => ?_)
        rcases hv with ⟨hbad, rfl, rfl⟩ | ⟨p, f, hp9, hf9, hpP, hfR, u9, ⟨hsm, rfl⟩ | ⟨hne, rfl⟩⟩
        · have tm1 : (Int32.ofInt (-1)).toInt = -1 := by decide
          have hmm : E.2.1 * (t (s + 2) - 48) + (t (s + 3) - 48) < E.1 * E.2.1 := by
            have := Nat.mul_le_mul_left E.2.1 (show t (s + 2) - 48 + 1 ≤ E.1 by omega)
            rw [Nat.mul_add, Nat.mul_one, Nat.mul_comm E.2.1 E.1] at this
            omega
          show zW n D 254 Q 182 [some (.ref 170), some (.int x), some (.int (zn (t (s + 1) - 48))), some (.int (Int32.ofInt 0))] [.int (Int32.ofInt (-1))] ph
          refine w_zlt (ykc_254 (e := (4, .ifCond .lt 7, 189)) rfl) rfl (fun b1544 => ?_) (fun q => by exfalso; omega)
          refine w_alu (pc' := 190) (st' := [.int (Int32.ofInt 0)]) (ykc_254 (e := (0, .iconst 0, 0)) rfl) rfl rfl ?_
          refine w_ret (v := (some (.int (Int32.ofInt 0)))) (ykc_254 (e := (7, .ireturn, 0)) rfl) zr_z ?_
          rw [hQ, zi0]
          refine ⟨zFr_refl, Or.inr ⟨?_, rfl, hv⟩⟩
          rw [hs]
          unfold zAct
          rw [if_neg (show ¬ t s = 110 by omega)]
          rw [if_neg (show ¬ t s = 102 by omega)]
          rw [if_neg (show ¬ t s = 103 by omega)]
          rw [if_neg (show ¬ t s = 98 by omega)]
          rw [if_neg (fun q => by have q3 := q.2.2.1; omega)]
        · have ep : p = t (s + 1) - 48 := zn_inj hp9.symm (by omega) (by omega)
          have ef : f = E.2.1 * (t (s + 2) - 48) + (t (s + 3) - 48) := zn_inj hf9.symm (by have := zRC49 hR7.2.1 hR7.2.2.2; omega) (by omega)
          subst ep ef
          have tm2 : ((Int8.ofInt (-2)).toInt32).toInt = -2 := by decide
          show zW n D 254 Q 182 [some (.ref 170), some (.int x), some (.int (zn (t (s + 1) - 48))), some (.int (Int32.ofInt 0))] [.int ((Int8.ofInt (-2)).toInt32)] ph1543
          refine w_zlt (ykc_254 (e := (4, .ifCond .lt 7, 189)) rfl) rfl (fun b1545 => ?_) (fun q => by exfalso; omega)
          refine w_alu (pc' := 190) (st' := [.int (Int32.ofInt 0)]) (ykc_254 (e := (0, .iconst 0, 0)) rfl) rfl rfl ?_
          refine w_ret (v := (some (.int (Int32.ofInt 0)))) (ykc_254 (e := (7, .ireturn, 0)) rfl) zr_z ?_
          rw [hQ, zi0]
          have hv2 := zNr_u u9 hv
          rw [znu_id hsm] at hv2
          refine ⟨zFr_st u9 (Or.inl (by simp)), Or.inr ⟨?_, rfl, hv2⟩⟩
          rw [hs]
          unfold zAct
          rw [if_neg (show ¬ t s = 110 by omega)]
          rw [if_neg (show ¬ t s = 102 by omega)]
          rw [if_neg (show ¬ t s = 103 by omega)]
          rw [if_neg (show ¬ t s = 98 by omega)]
          rw [if_neg (fun q => q.2.2.2 hsm)]
        · have ep : p = t (s + 1) - 48 := zn_inj hp9.symm (by omega) (by omega)
          have ef : f = E.2.1 * (t (s + 2) - 48) + (t (s + 3) - 48) := zn_inj hf9.symm (by have := zRC49 hR7.2.1 hR7.2.2.2; omega) (by omega)
          subst ep ef
          have tv := znt (k := v (32 + (t (s + 1) - 48))) (by have := hO.2.1 _ hpP; have := zRC49 hR7.2.1 hR7.2.2.2; omega)
          show zW n D 254 Q 182 [some (.ref 170), some (.int x), some (.int (zn (t (s + 1) - 48))), some (.int (Int32.ofInt 0))] [.int (zn (v (32 + (t (s + 1) - 48))))] ph1543
          refine w_zlt (ykc_254 (e := (4, .ifCond .lt 7, 189)) rfl) rfl (fun q => by exfalso; omega) (fun b1546 => ?_)
          refine w_alu (pc' := 186) (st' := [.int (Int32.ofInt 1)]) (ykc_254 (e := (0, .iconst 1, 0)) rfl) rfl rfl ?_
          refine w_br (pc' := 190) (st' := [.int (Int32.ofInt 1)]) (ykc_254 (e := (4, .goto 4, 190)) rfl) rfl ?_
          refine w_ret (v := (some (.int (Int32.ofInt 1)))) (ykc_254 (e := (7, .ireturn, 0)) rfl) zr_z ?_
          rw [hQ, zi1]
          refine ⟨zFr_st u9 (Or.inl (by simp)), Or.inl ⟨_, ?_, rfl, zNr_u u9 hv⟩⟩
          rw [hs]
          unfold zAct
          rw [if_neg (show ¬ t s = 110 by omega)]
          rw [if_neg (show ¬ t s = 102 by omega)]
          rw [if_neg (show ¬ t s = 103 by omega)]
          rw [if_neg (show ¬ t s = 98 by omega)]
          rw [if_pos ⟨by omega, by omega, by omega, hne⟩]
        
    · refine w_load (pc' := 137) (v := .ref 170) (m := 1) (ykc_254 (e := (2, .aload_n kF0, 0)) rfl) rfl rfl ?_
      refine w_gf (pc' := 140) (v := .ref 188) (ykc_254 (e := (5, .getfield 83, 0)) rfl) rfl (zsg hS zs_170_33) rfl ?_
      refine w_load (pc' := 141) (v := .int x) (m := 1) (ykc_254 (e := (2, .iload_n kF1, 0)) rfl) rfl rfl ?_
      refine w_ialk (pc' := 142) (k := i) (ykc_254 (e := (5, .iaload, 0)) rfl) d4 (by omega) rfl ?_
      refine w_load (pc' := 143) (v := .ref 170) (m := 1) (ykc_254 (e := (2, .aload_n kF0, 0)) rfl) rfl rfl ?_
      refine w_gf (pc' := 146) (v := .int (zn E.2.1)) (ykc_254 (e := (5, .getfield 27, 0)) rfl) rfl hL0.2.1 rfl ?_
      refine w_ige (ykc_254 (e := (4, .if_icmp .ge 7, 153)) rfl) rfl (fun b1547 => ?_) (fun b1547 => ?_)
      · refine w_alu (pc' := 154) (st' := [.int (Int32.ofInt 0)]) (ykc_254 (e := (0, .iconst 0, 0)) rfl) rfl rfl ?_
        refine w_store (pc' := 155) (L' := [some (.ref 170), some (.int x), some (.int (zn (t (s + 1) - 48))), some (.int (Int32.ofInt 0))]) (st' := []) (m := 1) (ykc_254 (e := (3, .istore_n kF3, 0)) rfl) rfl rfl ?_
        refine w_load (pc' := 156) (v := .int (Int32.ofInt 0)) (m := 1) (ykc_254 (e := (2, .iload_n kF3, 0)) rfl) rfl rfl ?_
        refine w_zeq (ykc_254 (e := (4, .ifCond .eq 33, 189)) rfl) rfl (fun b1548 => ?_) (fun b1548 => ?_)
        · refine w_alu (pc' := 190) (st' := [.int (Int32.ofInt 0)]) (ykc_254 (e := (0, .iconst 0, 0)) rfl) rfl rfl ?_
          refine w_ret (v := (some (.int (Int32.ofInt 0)))) (ykc_254 (e := (7, .ireturn, 0)) rfl) zr_z ?_
          rw [hQ, zi0]
          refine ⟨zFr_refl, Or.inr ⟨?_, rfl, hv⟩⟩
          rw [hs]
          unfold zAct
          rw [if_neg (show ¬ t s = 110 by omega)]
          rw [if_neg (show ¬ t s = 102 by omega)]
          rw [if_neg (show ¬ t s = 103 by omega)]
          rw [if_neg (show ¬ t s = 98 by omega)]
          rw [if_neg (by omega)]
        · refine w_load (pc' := 160) (v := .ref 170) (m := 1) (ykc_254 (e := (2, .aload_n kF0, 0)) rfl) rfl rfl ?_
          refine w_load (pc' := 161) (v := .int (zn (t (s + 1) - 48))) (m := 1) (ykc_254 (e := (2, .iload_n kF2, 0)) rfl) rfl rfl ?_
          refine w_load (pc' := 162) (v := .ref 170) (m := 1) (ykc_254 (e := (2, .aload_n kF0, 0)) rfl) rfl rfl ?_
          refine w_gf (pc' := 165) (v := .int (zn E.2.1)) (ykc_254 (e := (5, .getfield 27, 0)) rfl) rfl hL0.2.1 rfl ?_
          refine w_load (pc' := 166) (v := .ref 170) (m := 1) (ykc_254 (e := (2, .aload_n kF0, 0)) rfl) rfl rfl ?_
          refine w_gf (pc' := 169) (v := .ref 187) (ykc_254 (e := (5, .getfield 80, 0)) rfl) rfl (zsg hS zs_170_32) rfl ?_
          refine w_load (pc' := 170) (v := .int x) (m := 1) (ykc_254 (e := (2, .iload_n kF1, 0)) rfl) rfl rfl ?_
          refine w_ialk (pc' := 171) (k := i) (ykc_254 (e := (5, .iaload, 0)) rfl) d3 (by omega) rfl ?_
          have m1537 : E.2.1 * (t (s + 2) - 48) ≤ 7 * 9 := Nat.mul_le_mul (by omega) (by omega)
          have e1549 : (zn E.2.1) * (zn (t (s + 2) - 48)) = zn (E.2.1 * (t (s + 2) - 48)) := zn_of (zmulN (by omega) (by omega) (by omega) (by omega))
          have te1549 := znt (k := E.2.1 * (t (s + 2) - 48)) (by omega)
          refine w_alu (pc' := 172) (st' := [.int (zn (E.2.1 * (t (s + 2) - 48))), .int (zn (t (s + 1) - 48)), .ref 170]) (ykc_254 (e := (0, .imul, 0)) rfl) (by rw [← e1549]; rfl) rfl ?_
          refine w_load (pc' := 173) (v := .ref 170) (m := 1) (ykc_254 (e := (2, .aload_n kF0, 0)) rfl) rfl rfl ?_
          refine w_gf (pc' := 176) (v := .ref 188) (ykc_254 (e := (5, .getfield 83, 0)) rfl) rfl (zsg hS zs_170_33) rfl ?_
          refine w_load (pc' := 177) (v := .int x) (m := 1) (ykc_254 (e := (2, .iload_n kF1, 0)) rfl) rfl rfl ?_
          refine w_ialk (pc' := 178) (k := i) (ykc_254 (e := (5, .iaload, 0)) rfl) d4 (by omega) rfl ?_
          have e1550 : (zn (E.2.1 * (t (s + 2) - 48))) + (zn (t (s + 3) - 48)) = zn (E.2.1 * (t (s + 2) - 48) + (t (s + 3) - 48)) := (zaddN (a := E.2.1 * (t (s + 2) - 48)) (b := t (s + 3) - 48) (znt (by omega)) (znt (by omega)) (by omega)) 
          have te1550 := znt (k := E.2.1 * (t (s + 2) - 48) + (t (s + 3) - 48)) (by omega)
          refine w_alu (pc' := 179) (st' := [.int (zn (E.2.1 * (t (s + 2) - 48) + (t (s + 3) - 48))), .int (zn (t (s + 1) - 48)), .ref 170]) (ykc_254 (e := (0, .iadd, 0)) rfl) (by rw [← e1550]; rfl) rfl ?_
          refine w_cv (as := [.ref 170, .int (zn (t (s + 1) - 48)), .int (zn (E.2.1 * (t (s + 2) - 48) + (t (s + 3) - 48)))]) (r := []) (ykc_254 (e := (6, .invokevirtual 389, 0)) rfl) rfl rfl rfl rfl (zm_puts1 hS hE.1 hN hv hO) (fun v1551 ph1552 hv => ?_)
          rcases hv with ⟨hbad, rfl, rfl⟩ | ⟨p, f, hp9, hf9, hpP, hfR, u9, ⟨hsm, rfl⟩ | ⟨hne, rfl⟩⟩
          · have tm1 : (Int32.ofInt (-1)).toInt = -1 := by decide
            have hmm : E.2.1 * (t (s + 2) - 48) + (t (s + 3) - 48) < E.1 * E.2.1 := by
              have := Nat.mul_le_mul_left E.2.1 (show t (s + 2) - 48 + 1 ≤ E.1 by omega)
              rw [Nat.mul_add, Nat.mul_one, Nat.mul_comm E.2.1 E.1] at this
              omega
            show zW n D 254 Q 182 [some (.ref 170), some (.int x), some (.int (zn (t (s + 1) - 48))), some (.int (Int32.ofInt 0))] [.int (Int32.ofInt (-1))] ph
            refine w_zlt (ykc_254 (e := (4, .ifCond .lt 7, 189)) rfl) rfl (fun b1553 => ?_) (fun q => by exfalso; omega)
            refine w_alu (pc' := 190) (st' := [.int (Int32.ofInt 0)]) (ykc_254 (e := (0, .iconst 0, 0)) rfl) rfl rfl ?_
            refine w_ret (v := (some (.int (Int32.ofInt 0)))) (ykc_254 (e := (7, .ireturn, 0)) rfl) zr_z ?_
            rw [hQ, zi0]
            refine ⟨zFr_refl, Or.inr ⟨?_, rfl, hv⟩⟩
            rw [hs]
            unfold zAct
            rw [if_neg (show ¬ t s = 110 by omega)]
            rw [if_neg (show ¬ t s = 102 by omega)]
            rw [if_neg (show ¬ t s = 103 by omega)]
            rw [if_neg (show ¬ t s = 98 by omega)]
            rw [if_neg (fun q => by have q3 := q.2.2.1; omega)]
          · have ep : p = t (s + 1) - 48 := zn_inj hp9.symm (by omega) (by omega)
            have ef : f = E.2.1 * (t (s + 2) - 48) + (t (s + 3) - 48) := zn_inj hf9.symm (by have := zRC49 hR7.2.1 hR7.2.2.2; omega) (by omega)
            subst ep ef
            have tm2 : ((Int8.ofInt (-2)).toInt32).toInt = -2 := by decide
            show zW n D 254 Q 182 [some (.ref 170), some (.int x), some (.int (zn (t (s + 1) - 48))), some (.int (Int32.ofInt 0))] [.int ((Int8.ofInt (-2)).toInt32)] ph1552
            refine w_zlt (ykc_254 (e := (4, .ifCond .lt 7, 189)) rfl) rfl (fun b1554 => ?_) (fun q => by exfalso; omega)
            refine w_alu (pc' := 190) (st' := [.int (Int32.ofInt 0)]) (ykc_254 (e := (0, .iconst 0, 0)) rfl) rfl rfl ?_
            refine w_ret (v := (some (.int (Int32.ofInt 0)))) (ykc_254 (e := (7, .ireturn, 0)) rfl) zr_z ?_
            rw [hQ, zi0]
            have hv2 := zNr_u u9 hv
            rw [znu_id hsm] at hv2
            refine ⟨zFr_st u9 (Or.inl (by simp)), Or.inr ⟨?_, rfl, hv2⟩⟩
            rw [hs]
            unfold zAct
            rw [if_neg (show ¬ t s = 110 by omega)]
            rw [if_neg (show ¬ t s = 102 by omega)]
            rw [if_neg (show ¬ t s = 103 by omega)]
            rw [if_neg (show ¬ t s = 98 by omega)]
            rw [if_neg (fun q => q.2.2.2 hsm)]
          · have ep : p = t (s + 1) - 48 := zn_inj hp9.symm (by omega) (by omega)
            have ef : f = E.2.1 * (t (s + 2) - 48) + (t (s + 3) - 48) := zn_inj hf9.symm (by have := zRC49 hR7.2.1 hR7.2.2.2; omega) (by omega)
            subst ep ef
            have tv := znt (k := v (32 + (t (s + 1) - 48))) (by have := hO.2.1 _ hpP; have := zRC49 hR7.2.1 hR7.2.2.2; omega)
            show zW n D 254 Q 182 [some (.ref 170), some (.int x), some (.int (zn (t (s + 1) - 48))), some (.int (Int32.ofInt 0))] [.int (zn (v (32 + (t (s + 1) - 48))))] ph1552
            refine w_zlt (ykc_254 (e := (4, .ifCond .lt 7, 189)) rfl) rfl (fun q => by exfalso; omega) (fun b1555 => ?_)
            refine w_alu (pc' := 186) (st' := [.int (Int32.ofInt 1)]) (ykc_254 (e := (0, .iconst 1, 0)) rfl) rfl rfl ?_
            refine w_br (pc' := 190) (st' := [.int (Int32.ofInt 1)]) (ykc_254 (e := (4, .goto 4, 190)) rfl) rfl ?_
            refine w_ret (v := (some (.int (Int32.ofInt 1)))) (ykc_254 (e := (7, .ireturn, 0)) rfl) zr_z ?_
            rw [hQ, zi1]
            refine ⟨zFr_st u9 (Or.inl (by simp)), Or.inl ⟨_, ?_, rfl, zNr_u u9 hv⟩⟩
            rw [hs]
            unfold zAct
            rw [if_neg (show ¬ t s = 110 by omega)]
            rw [if_neg (show ¬ t s = 102 by omega)]
            rw [if_neg (show ¬ t s = 103 by omega)]
            rw [if_neg (show ¬ t s = 98 by omega)]
            rw [if_pos ⟨by omega, by omega, by omega, hne⟩]
          
      · refine w_alu (pc' := 150) (st' := [.int (Int32.ofInt 1)]) (ykc_254 (e := (0, .iconst 1, 0)) rfl) rfl rfl ?_
        refine w_br (pc' := 154) (st' := [.int (Int32.ofInt 1)]) (ykc_254 (e := (4, .goto 4, 154)) rfl) rfl ?_
        refine w_store (pc' := 155) (L' := [some (.ref 170), some (.int x), some (.int (zn (t (s + 1) - 48))), some (.int (Int32.ofInt 1))]) (st' := []) (m := 1) (ykc_254 (e := (3, .istore_n kF3, 0)) rfl) rfl rfl ?_
        refine w_load (pc' := 156) (v := .int (Int32.ofInt 1)) (m := 1) (ykc_254 (e := (2, .iload_n kF3, 0)) rfl) rfl rfl ?_
        refine w_zeq (ykc_254 (e := (4, .ifCond .eq 33, 189)) rfl) rfl (fun b1556 => ?_) (fun b1556 => ?_)
        · refine w_alu (pc' := 190) (st' := [.int (Int32.ofInt 0)]) (ykc_254 (e := (0, .iconst 0, 0)) rfl) rfl rfl ?_
          refine w_ret (v := (some (.int (Int32.ofInt 0)))) (ykc_254 (e := (7, .ireturn, 0)) rfl) zr_z ?_
          rw [hQ, zi0]
          refine ⟨zFr_refl, Or.inr ⟨?_, rfl, hv⟩⟩
          rw [hs]
          unfold zAct
          rw [if_neg (show ¬ t s = 110 by omega)]
          rw [if_neg (show ¬ t s = 102 by omega)]
          rw [if_neg (show ¬ t s = 103 by omega)]
          rw [if_neg (show ¬ t s = 98 by omega)]
          rw [if_neg (by omega)]
        · refine w_load (pc' := 160) (v := .ref 170) (m := 1) (ykc_254 (e := (2, .aload_n kF0, 0)) rfl) rfl rfl ?_
          refine w_load (pc' := 161) (v := .int (zn (t (s + 1) - 48))) (m := 1) (ykc_254 (e := (2, .iload_n kF2, 0)) rfl) rfl rfl ?_
          refine w_load (pc' := 162) (v := .ref 170) (m := 1) (ykc_254 (e := (2, .aload_n kF0, 0)) rfl) rfl rfl ?_
          refine w_gf (pc' := 165) (v := .int (zn E.2.1)) (ykc_254 (e := (5, .getfield 27, 0)) rfl) rfl hL0.2.1 rfl ?_
          refine w_load (pc' := 166) (v := .ref 170) (m := 1) (ykc_254 (e := (2, .aload_n kF0, 0)) rfl) rfl rfl ?_
          refine w_gf (pc' := 169) (v := .ref 187) (ykc_254 (e := (5, .getfield 80, 0)) rfl) rfl (zsg hS zs_170_32) rfl ?_
          refine w_load (pc' := 170) (v := .int x) (m := 1) (ykc_254 (e := (2, .iload_n kF1, 0)) rfl) rfl rfl ?_
          refine w_ialk (pc' := 171) (k := i) (ykc_254 (e := (5, .iaload, 0)) rfl) d3 (by omega) rfl ?_
          have m1537 : E.2.1 * (t (s + 2) - 48) ≤ 7 * 9 := Nat.mul_le_mul (by omega) (by omega)
          have e1557 : (zn E.2.1) * (zn (t (s + 2) - 48)) = zn (E.2.1 * (t (s + 2) - 48)) := zn_of (zmulN (by omega) (by omega) (by omega) (by omega))
          have te1557 := znt (k := E.2.1 * (t (s + 2) - 48)) (by omega)
          refine w_alu (pc' := 172) (st' := [.int (zn (E.2.1 * (t (s + 2) - 48))), .int (zn (t (s + 1) - 48)), .ref 170]) (ykc_254 (e := (0, .imul, 0)) rfl) (by rw [← e1557]; rfl) rfl ?_
          refine w_load (pc' := 173) (v := .ref 170) (m := 1) (ykc_254 (e := (2, .aload_n kF0, 0)) rfl) rfl rfl ?_
          refine w_gf (pc' := 176) (v := .ref 188) (ykc_254 (e := (5, .getfield 83, 0)) rfl) rfl (zsg hS zs_170_33) rfl ?_
          refine w_load (pc' := 177) (v := .int x) (m := 1) (ykc_254 (e := (2, .iload_n kF1, 0)) rfl) rfl rfl ?_
          refine w_ialk (pc' := 178) (k := i) (ykc_254 (e := (5, .iaload, 0)) rfl) d4 (by omega) rfl ?_
          have e1558 : (zn (E.2.1 * (t (s + 2) - 48))) + (zn (t (s + 3) - 48)) = zn (E.2.1 * (t (s + 2) - 48) + (t (s + 3) - 48)) := (zaddN (a := E.2.1 * (t (s + 2) - 48)) (b := t (s + 3) - 48) (znt (by omega)) (znt (by omega)) (by omega)) 
          have te1558 := znt (k := E.2.1 * (t (s + 2) - 48) + (t (s + 3) - 48)) (by omega)
          refine w_alu (pc' := 179) (st' := [.int (zn (E.2.1 * (t (s + 2) - 48) + (t (s + 3) - 48))), .int (zn (t (s + 1) - 48)), .ref 170]) (ykc_254 (e := (0, .iadd, 0)) rfl) (by rw [← e1558]; rfl) rfl ?_
          refine w_cv (as := [.ref 170, .int (zn (t (s + 1) - 48)), .int (zn (E.2.1 * (t (s + 2) - 48) + (t (s + 3) - 48)))]) (r := []) (ykc_254 (e := (6, .invokevirtual 389, 0)) rfl) rfl rfl rfl rfl (zm_puts1 hS hE.1 hN hv hO) (fun v1559 ph1560 hv => ?_)
          rcases hv with ⟨hbad, rfl, rfl⟩ | ⟨p, f, hp9, hf9, hpP, hfR, u9, ⟨hsm, rfl⟩ | ⟨hne, rfl⟩⟩
          · have tm1 : (Int32.ofInt (-1)).toInt = -1 := by decide
            have hmm : E.2.1 * (t (s + 2) - 48) + (t (s + 3) - 48) < E.1 * E.2.1 := by
              have := Nat.mul_le_mul_left E.2.1 (show t (s + 2) - 48 + 1 ≤ E.1 by omega)
              rw [Nat.mul_add, Nat.mul_one, Nat.mul_comm E.2.1 E.1] at this
              omega
            show zW n D 254 Q 182 [some (.ref 170), some (.int x), some (.int (zn (t (s + 1) - 48))), some (.int (Int32.ofInt 1))] [.int (Int32.ofInt (-1))] ph
            refine w_zlt (ykc_254 (e := (4, .ifCond .lt 7, 189)) rfl) rfl (fun b1561 => ?_) (fun q => by exfalso; omega)
            refine w_alu (pc' := 190) (st' := [.int (Int32.ofInt 0)]) (ykc_254 (e := (0, .iconst 0, 0)) rfl) rfl rfl ?_
            refine w_ret (v := (some (.int (Int32.ofInt 0)))) (ykc_254 (e := (7, .ireturn, 0)) rfl) zr_z ?_
            rw [hQ, zi0]
            refine ⟨zFr_refl, Or.inr ⟨?_, rfl, hv⟩⟩
            rw [hs]
            unfold zAct
            rw [if_neg (show ¬ t s = 110 by omega)]
            rw [if_neg (show ¬ t s = 102 by omega)]
            rw [if_neg (show ¬ t s = 103 by omega)]
            rw [if_neg (show ¬ t s = 98 by omega)]
            rw [if_neg (fun q => by have q3 := q.2.2.1; omega)]
          · have ep : p = t (s + 1) - 48 := zn_inj hp9.symm (by omega) (by omega)
            have ef : f = E.2.1 * (t (s + 2) - 48) + (t (s + 3) - 48) := zn_inj hf9.symm (by have := zRC49 hR7.2.1 hR7.2.2.2; omega) (by omega)
            subst ep ef
            have tm2 : ((Int8.ofInt (-2)).toInt32).toInt = -2 := by decide
            show zW n D 254 Q 182 [some (.ref 170), some (.int x), some (.int (zn (t (s + 1) - 48))), some (.int (Int32.ofInt 1))] [.int ((Int8.ofInt (-2)).toInt32)] ph1560
            refine w_zlt (ykc_254 (e := (4, .ifCond .lt 7, 189)) rfl) rfl (fun b1562 => ?_) (fun q => by exfalso; omega)
            refine w_alu (pc' := 190) (st' := [.int (Int32.ofInt 0)]) (ykc_254 (e := (0, .iconst 0, 0)) rfl) rfl rfl ?_
            refine w_ret (v := (some (.int (Int32.ofInt 0)))) (ykc_254 (e := (7, .ireturn, 0)) rfl) zr_z ?_
            rw [hQ, zi0]
            have hv2 := zNr_u u9 hv
            rw [znu_id hsm] at hv2
            refine ⟨zFr_st u9 (Or.inl (by simp)), Or.inr ⟨?_, rfl, hv2⟩⟩
            rw [hs]
            unfold zAct
            rw [if_neg (show ¬ t s = 110 by omega)]
            rw [if_neg (show ¬ t s = 102 by omega)]
            rw [if_neg (show ¬ t s = 103 by omega)]
            rw [if_neg (show ¬ t s = 98 by omega)]
            rw [if_neg (fun q => q.2.2.2 hsm)]
          · have ep : p = t (s + 1) - 48 := zn_inj hp9.symm (by omega) (by omega)
            have ef : f = E.2.1 * (t (s + 2) - 48) + (t (s + 3) - 48) := zn_inj hf9.symm (by have := zRC49 hR7.2.1 hR7.2.2.2; omega) (by omega)
            subst ep ef
            have tv := znt (k := v (32 + (t (s + 1) - 48))) (by have := hO.2.1 _ hpP; have := zRC49 hR7.2.1 hR7.2.2.2; omega)
            show zW n D 254 Q 182 [some (.ref 170), some (.int x), some (.int (zn (t (s + 1) - 48))), some (.int (Int32.ofInt 1))] [.int (zn (v (32 + (t (s + 1) - 48))))] ph1560
            refine w_zlt (ykc_254 (e := (4, .ifCond .lt 7, 189)) rfl) rfl (fun q => by exfalso; omega) (fun b1563 => ?_)
            refine w_alu (pc' := 186) (st' := [.int (Int32.ofInt 1)]) (ykc_254 (e := (0, .iconst 1, 0)) rfl) rfl rfl ?_
            refine w_br (pc' := 190) (st' := [.int (Int32.ofInt 1)]) (ykc_254 (e := (4, .goto 4, 190)) rfl) rfl ?_
            refine w_ret (v := (some (.int (Int32.ofInt 1)))) (ykc_254 (e := (7, .ireturn, 0)) rfl) zr_z ?_
            rw [hQ, zi1]
            refine ⟨zFr_st u9 (Or.inl (by simp)), Or.inl ⟨_, ?_, rfl, zNr_u u9 hv⟩⟩
            rw [hs]
            unfold zAct
            rw [if_neg (show ¬ t s = 110 by omega)]
            rw [if_neg (show ¬ t s = 102 by omega)]
            rw [if_neg (show ¬ t s = 103 by omega)]
            rw [if_neg (show ¬ t s = 98 by omega)]
            rw [if_pos ⟨by omega, by omega, by omega, hne⟩]
          
  
theorem zc_plDig {ph : pm_H} {k i j : Nat} {x z : Int32} (hS : zSh ph) (hx : x.toInt = (i : Int)) (hz : z.toInt = (j : Int)) (hk : zc ph 157 2 = some (.int (zn k))) (h30 : k ≤ 30) (hi : i < k) (hj : j < 3) : zM 64 [.ref 157, .int x, .int z] ph (fun v0 q => ph = q ∧ ∃ y : Int32, v0 = some (.int y) ∧ zc ph 159 (3 * i + j) = some (.int y)) := by
  obtain ⟨Q, hQ⟩ : ∃ Q : Option Value → pm_H → Prop, Q = (fun v0 q => ph = q ∧ ∃ y : Int32, v0 = some (.int y) ∧ zc ph 159 (3 * i + j) = some (.int y)) := ⟨_, rfl⟩
  rw [← hQ]
  refine zM_mk fun n D => ?_
  show zW n D 64 Q 0 [some (.ref 157), some (.int x), some (.int z), none] [] ph
  have c_0 : ((Int8.ofInt 30).toInt32).toInt = 30 := by decide
  have c_1 : (Int32.ofInt (-1)).toInt = -1 := by decide
  have c_2 : (Int32.ofInt 0).toInt = 0 := by decide
  have c_3 : (Int32.ofInt 1).toInt = 1 := by decide
  have c_4 : (Int32.ofInt 3).toInt = 3 := by decide
  have tk := znt (k := k) (by omega)
  refine w_load (pc' := 1) (v := .int x) (m := 1) (ykc_64 (e := (2, .iload_n kF1, 0)) rfl) rfl rfl ?_
  refine w_zlt (ykc_64 (e := (4, .ifCond .lt 30, 31)) rfl) rfl (fun q => by exfalso; omega) (fun b1564 => ?_)
  refine w_load (pc' := 5) (v := .int x) (m := 1) (ykc_64 (e := (2, .iload_n kF1, 0)) rfl) rfl rfl ?_
  refine w_load (pc' := 6) (v := .ref 157) (m := 1) (ykc_64 (e := (2, .aload_n kF0, 0)) rfl) rfl rfl ?_
  refine w_gf (pc' := 9) (v := .int (zn k)) (ykc_64 (e := (5, .getfield 18, 0)) rfl) rfl hk rfl ?_
  refine w_ige (ykc_64 (e := (4, .if_icmp .ge 22, 31)) rfl) rfl (fun q => by exfalso; omega) (fun b1565 => ?_)
  refine w_load (pc' := 13) (v := .int x) (m := 1) (ykc_64 (e := (2, .iload_n kF1, 0)) rfl) rfl rfl ?_
  refine w_push (pc' := 15) (v := .int ((Int8.ofInt 30).toInt32)) (m := 2) (ykc_64 (e := (1, .bipush 30, 0)) rfl) rfl rfl ?_
  refine w_ige (ykc_64 (e := (4, .if_icmp .ge 16, 31)) rfl) rfl (fun q => by exfalso; omega) (fun b1566 => ?_)
  refine w_load (pc' := 19) (v := .int z) (m := 1) (ykc_64 (e := (2, .iload_n kF2, 0)) rfl) rfl rfl ?_
  refine w_zlt (ykc_64 (e := (4, .ifCond .lt 12, 31)) rfl) rfl (fun q => by exfalso; omega) (fun b1567 => ?_)
  refine w_load (pc' := 23) (v := .int z) (m := 1) (ykc_64 (e := (2, .iload_n kF2, 0)) rfl) rfl rfl ?_
  refine w_alu (pc' := 24) (st' := [.int (Int32.ofInt 3), .int z]) (ykc_64 (e := (0, .iconst 3, 0)) rfl) rfl rfl ?_
  refine w_ige (ykc_64 (e := (4, .if_icmp .ge 7, 31)) rfl) rfl (fun q => by exfalso; omega) (fun b1568 => ?_)
  refine w_alu (pc' := 28) (st' := [.int (Int32.ofInt 1)]) (ykc_64 (e := (0, .iconst 1, 0)) rfl) rfl rfl ?_
  refine w_br (pc' := 32) (st' := [.int (Int32.ofInt 1)]) (ykc_64 (e := (4, .goto 4, 32)) rfl) rfl ?_
  refine w_store (pc' := 33) (L' := [some (.ref 157), some (.int x), some (.int z), some (.int (Int32.ofInt 1))]) (st' := []) (m := 1) (ykc_64 (e := (3, .istore_n kF3, 0)) rfl) rfl rfl ?_
  refine w_load (pc' := 34) (v := .int (Int32.ofInt 1)) (m := 1) (ykc_64 (e := (2, .iload_n kF3, 0)) rfl) rfl rfl ?_
  refine w_zeq (ykc_64 (e := (4, .ifCond .eq 16, 50)) rfl) rfl (fun q => absurd q (by decide)) (fun b1569 => ?_)
  refine w_load (pc' := 38) (v := .ref 157) (m := 1) (ykc_64 (e := (2, .aload_n kF0, 0)) rfl) rfl rfl ?_
  refine w_gf (pc' := 41) (v := .ref 159) (ykc_64 (e := (5, .getfield 15, 0)) rfl) rfl (zsg hS zs_157_1) rfl ?_
  refine w_load (pc' := 42) (v := .int x) (m := 1) (ykc_64 (e := (2, .iload_n kF1, 0)) rfl) rfl rfl ?_
  refine w_alu (pc' := 43) (st' := [.int (Int32.ofInt 3), .int x, .ref 159]) (ykc_64 (e := (0, .iconst 3, 0)) rfl) rfl rfl ?_
  have e1570 : x * (Int32.ofInt 3) = zn (3 * i) := zn_of ((zmulN (a := i) (b := 3) (by omega) (by decide) (by omega) (by decide)).trans (by omega))
  have te1570 := znt (k := 3 * i) (by omega)
  refine w_alu (pc' := 44) (st' := [.int (zn (3 * i)), .ref 159]) (ykc_64 (e := (0, .imul, 0)) rfl) (by rw [← e1570]; rfl) rfl ?_
  refine w_load (pc' := 45) (v := .int z) (m := 1) (ykc_64 (e := (2, .iload_n kF2, 0)) rfl) rfl rfl ?_
  have e1571 : (zn (3 * i)) + z = zn (3 * i + j) := zn_of (by have h8 := ti_add (x := (zn (3 * i))) (y := z) (by omega) (by omega); omega)
  have te1571 := znt (k := 3 * i + j) (by omega)
  refine w_alu (pc' := 46) (st' := [.int (zn (3 * i + j)), .ref 159]) (ykc_64 (e := (0, .iadd, 0)) rfl) (by rw [← e1571]; rfl) rfl ?_
  refine w_ial (pc' := 47) (k := 3 * i + j) (ykc_64 (e := (5, .iaload, 0)) rfl) rfl (by omega) rfl (fun y9 g_y9 => ?_)
  refine w_br (pc' := 51) (st' := [.int y9]) (ykc_64 (e := (4, .goto 4, 51)) rfl) rfl ?_
  refine w_ret (v := (some (.int y9))) (ykc_64 (e := (7, .ireturn, 0)) rfl) (zr_v rfl) ?_
  rw [hQ]
  exact ⟨rfl, y9, rfl, g_y9⟩
theorem zc_act {ph : pm_H} {E : zEn} {F P G b k i : Nat} {v t : Nat → Nat} {x : Int32} (hS : zSh ph) (hE : zCe ph E F) (ht : zCt ph 25 P G v) (hO : zOk E.1 E.2.1 P G v) (hr : zc ph 10 1 = some (.ref F)) (hc : zCc ph E.1 E.2.1 E.2.2.1) (hh : v 40 < 999000) (hk : zc ph 157 2 = some (.int (zn k))) (h30 : k ≤ 30) (hD : zDd ph t k 3) (hg : zDok b t k) (hx : x.toInt = (i : Int)) (hi : i < k) : zM 141 [.ref 0, .int x] ph (fun v0 q => zFr [8, 9, 15, 20, 22, 23, 24, 26, 27, 28, 29, 30] [(5, 4), (25, 2)] ph q ∧ ∃ y : Int32, v0 = some (.int y) ∧ ((∃ v2, zAct E P G v t (zDp t i) = some v2 ∧ 0 ≤ y.toInt ∧ zCt q 25 P G v2 ∧ zCc q E.1 E.2.1 E.2.2.1) ∨ (zAct E P G v t (zDp t i) = none ∧ y.toInt < 0 ∧ zCt q 25 P G v ∧ zCc q E.1 E.2.1 E.2.2.1))) := by
  obtain ⟨Q, hQ⟩ : ∃ Q : Option Value → pm_H → Prop, Q = (fun v0 q => zFr [8, 9, 15, 20, 22, 23, 24, 26, 27, 28, 29, 30] [(5, 4), (25, 2)] ph q ∧ ∃ y : Int32, v0 = some (.int y) ∧ ((∃ v2, zAct E P G v t (zDp t i) = some v2 ∧ 0 ≤ y.toInt ∧ zCt q 25 P G v2 ∧ zCc q E.1 E.2.1 E.2.2.1) ∨ (zAct E P G v t (zDp t i) = none ∧ y.toInt < 0 ∧ zCt q 25 P G v ∧ zCc q E.1 E.2.1 E.2.2.1))) := ⟨_, rfl⟩
  rw [← hQ]
  refine zM_mk fun n D => ?_
  show zW n D 141 Q 0 [some (.ref 0), some (.int x), none, none] [] ph
  have c_0 : (Int32.ofInt (-1)).toInt = -1 := by decide
  have c_1 : (Int32.ofInt 0).toInt = 0 := by decide
  have c_2 : (Int32.ofInt 1).toInt = 1 := by decide
  have c_3 : (Int32.ofInt 2).toInt = 2 := by decide
  have hx9 := x32_hi x
  have hL0 : zCl ph E.1 E.2.1 E.2.2.1 := hE.1
  have hd0 : zSd ph 25 P G v := ht.2
  obtain ⟨g1, g2, g3⟩ := hg i hi
  have dk := hD.1 i hi
  have dd := hD.2 i
  obtain ⟨s, hs⟩ : ∃ s, zDp t i = s := ⟨_, rfl⟩
  rw [hs] at dk dd g1 g2 g3
  have hP8 : P ≤ 8 := hd0.2.1
  have hG8 : G ≤ 8 := hd0.2.2.2.1
  have hR7 : 3 ≤ E.1 ∧ E.1 ≤ 7 ∧ 3 ≤ E.2.1 ∧ E.2.1 ≤ 7 := ⟨hL0.2.2.2.2.2.1, hL0.2.2.2.2.2.2.1, hL0.2.2.2.2.2.2.2.1, hL0.2.2.2.2.2.2.2.2⟩
  have q1 := zdi_d (g3 0 (by omega))
  rw [Nat.add_zero] at q1
  have dd0 := dd 0 hi (by omega) (Or.inr (by decide))
  have tq1 := znt (k := t (s + 1) - 48) (by omega)
  refine w_load (pc' := 1) (v := .ref 0) (m := 1) (ykc_141 (e := (2, .aload_n kF0, 0)) rfl) rfl rfl ?_
  refine w_gf (pc' := 4) (v := .ref 157) (ykc_141 (e := (5, .getfield 69, 0)) rfl) rfl (zsg hS zs_0_9) rfl ?_
  refine w_load (pc' := 5) (v := .int x) (m := 1) (ykc_141 (e := (2, .iload_n kF1, 0)) rfl) rfl rfl ?_
  refine w_alu (pc' := 6) (st' := [.int (Int32.ofInt 0), .int x, .ref 157]) (ykc_141 (e := (0, .iconst 0, 0)) rfl) rfl rfl ?_
  refine w_cv (as := [.ref 157, .int x, .int (Int32.ofInt 0)]) (r := []) (ykc_141 (e := (6, .invokevirtual 289, 0)) rfl) rfl rfl rfl rfl (zc_plDig (k := k) (i := i) (j := 0) hS hx (by decide) hk h30 hi (by decide)) (fun v1572 ph1573 hv => ?_)
  rcases hv with ⟨rfl, y0, rfl, hy0⟩
  · have ey0 : y0 = zn (t (s + 1) - 48) := by
      have := hy0.symm.trans dd0
      cases this
      rfl
    subst ey0
    show zW n D 141 Q 9 [some (.ref 0), some (.int x), none, none] [.int (zn (t (s + 1) - 48))] ph
    refine w_store (pc' := 10) (L' := [some (.ref 0), some (.int x), some (.int (zn (t (s + 1) - 48))), none]) (st' := []) (m := 1) (ykc_141 (e := (3, .istore_n kF2, 0)) rfl) rfl rfl ?_
    refine w_load (pc' := 11) (v := .ref 0) (m := 1) (ykc_141 (e := (2, .aload_n kF0, 0)) rfl) rfl rfl ?_
    refine w_gf (pc' := 14) (v := .ref 157) (ykc_141 (e := (5, .getfield 69, 0)) rfl) rfl (zsg hS zs_0_9) rfl ?_
    refine w_load (pc' := 15) (v := .int x) (m := 1) (ykc_141 (e := (2, .iload_n kF1, 0)) rfl) rfl rfl ?_
    refine w_alu (pc' := 16) (st' := [.int (Int32.ofInt 1), .int x, .ref 157]) (ykc_141 (e := (0, .iconst 1, 0)) rfl) rfl rfl ?_
    refine w_cv (as := [.ref 157, .int x, .int (Int32.ofInt 1)]) (r := []) (ykc_141 (e := (6, .invokevirtual 289, 0)) rfl) rfl rfl rfl rfl (zc_plDig (k := k) (i := i) (j := 1) hS hx (by decide) hk h30 hi (by decide)) (fun v1574 ph1575 hv => ?_)
    rcases hv with ⟨rfl, y1, rfl, hy1⟩
    · show zW n D 141 Q 19 [some (.ref 0), some (.int x), some (.int (zn (t (s + 1) - 48))), none] [.int y1] ph
      refine w_store (pc' := 20) (L' := [some (.ref 0), some (.int x), some (.int (zn (t (s + 1) - 48))), some (.int y1)]) (st' := []) (m := 1) (ykc_141 (e := (3, .istore_n kF3, 0)) rfl) rfl rfl ?_
      refine w_load (pc' := 21) (v := .ref 0) (m := 1) (ykc_141 (e := (2, .aload_n kF0, 0)) rfl) rfl rfl ?_
      refine w_gf (pc' := 24) (v := .ref 157) (ykc_141 (e := (5, .getfield 69, 0)) rfl) rfl (zsg hS zs_0_9) rfl ?_
      refine w_load (pc' := 25) (v := .int x) (m := 1) (ykc_141 (e := (2, .iload_n kF1, 0)) rfl) rfl rfl ?_
      refine w_cv (as := [.ref 157, .int x]) (r := []) (ykc_141 (e := (6, .invokevirtual 290, 0)) rfl) rfl rfl rfl rfl (zc_plKind hS hx hk h30 hi dk) (fun v1576 ph1577 hv => ?_)
      rcases hv with ⟨rfl, rfl⟩
      · show zW n D 141 Q 28 [some (.ref 0), some (.int x), some (.int (zn (t (s + 1) - 48))), some (.int y1)] [.int (zn (t s))] ph
        rcases zdw_c g1 with e | e | e | e | e
        · refine w_br (pc' := 104) (st' := []) (ykc_141 (e := (4, .tableswitch 133 98 112 #[103, 133, 133, 133, 89, 96, 133, 133, 133, 133, 133, 133, 76, 133, 110], 76)) rfl) (by rw [e]; rfl) ?_
          refine w_load (pc' := 105) (v := .ref 0) (m := 1) (ykc_141 (e := (2, .aload_n kF0, 0)) rfl) rfl rfl ?_
          refine w_gf (pc' := 108) (v := .ref 10) (ykc_141 (e := (5, .getfield 35, 0)) rfl) rfl (zsg hS zs_0_3) rfl ?_
          refine w_load (pc' := 109) (v := .ref 0) (m := 1) (ykc_141 (e := (2, .aload_n kF0, 0)) rfl) rfl rfl ?_
          refine w_gf (pc' := 112) (v := .ref 25) (ykc_141 (e := (5, .getfield 42, 0)) rfl) rfl (zsg hS zs_0_4) rfl ?_
          refine w_load (pc' := 113) (v := .int (zn (t (s + 1) - 48))) (m := 1) (ykc_141 (e := (2, .iload_n kF2, 0)) rfl) rfl rfl ?_
          refine w_cv (as := [.ref 10, .ref 25, .int (zn (t (s + 1) - 48))]) (r := []) (ykc_141 (e := (6, .invokevirtual 239, 0)) rfl) rfl rfl rfl rfl (zc_pass (N := t (s + 1) - 48) hS hE ht hO (Or.inl rfl) hr hc (by omega)) (fun v1578 ph1579 hv => ?_)
          rcases hv with ⟨f2, ht2, hc2, rfl⟩
          · show zW n D 141 Q 116 [some (.ref 0), some (.int x), some (.int (zn (t (s + 1) - 48))), some (.int y1)] [.int (zKw (zHqn E P G v (t (s + 1) - 48)) P)] ph1579
            refine w_ret (v := (some (.int (zKw (zHqn E P G v (t (s + 1) - 48)) P)))) (ykc_141 (e := (7, .ireturn, 0)) rfl) (zr_v rfl) ?_
            rw [hQ]
            obtain ⟨kk, hk1, hk2⟩ := zKw_b (v := zHqn E P G v (t (s + 1) - 48)) P hP8 (fun p hp => ((zHqn_ok hO hP8 hG8 _ (by omega)).1 p hp).2.2.2)
            refine ⟨zFr_mono f2 (by simp) (by simp), _, rfl, Or.inl ⟨_, ?_, by rw [hk2, znt (by omega)]; omega, ht2, hc2⟩⟩
            rw [hs]
            unfold zAct
            rw [if_pos e]
            
          
        · have q2 : 48 ≤ t (s + 2) ∧ t (s + 2) ≤ 57 := zdi_d (g3 1 (by rw [e]; decide))
          have tq2 := znt (k := t (s + 2) - 48) (by omega)
          have ey1 : y1 = zn (t (s + 2) - 48) := by
            have := hy1.symm.trans (dd 1 hi (by rw [e]; decide) (Or.inr (by decide)))
            cases this
            rfl
          subst ey1
          show zW n D 141 Q 28 [some (.ref 0), some (.int x), some (.int (zn (t (s + 1) - 48))), some (.int (zn (t (s + 2) - 48)))] [.int (zn (t s))] ph
          refine w_br (pc' := 117) (st' := []) (ykc_141 (e := (4, .tableswitch 133 98 112 #[103, 133, 133, 133, 89, 96, 133, 133, 133, 133, 133, 133, 76, 133, 110], 76)) rfl) (by rw [e]; rfl) ?_
          refine w_load (pc' := 118) (v := .ref 0) (m := 1) (ykc_141 (e := (2, .aload_n kF0, 0)) rfl) rfl rfl ?_
          refine w_load (pc' := 119) (v := .int (zn (t (s + 1) - 48))) (m := 1) (ykc_141 (e := (2, .iload_n kF2, 0)) rfl) rfl rfl ?_
          refine w_load (pc' := 120) (v := .int (zn (t (s + 2) - 48))) (m := 1) (ykc_141 (e := (2, .iload_n kF3, 0)) rfl) rfl rfl ?_
          refine w_cv (as := [.ref 0, .int (zn (t (s + 1) - 48)), .int (zn (t (s + 2) - 48))]) (r := []) (ykc_141 (e := (6, .invokevirtual 259, 0)) rfl) rfl rfl rfl rfl (zc_turnTo hS hL0 hd0 hO) (fun v1580 ph1581 hv => ?_)
          rcases hv with ⟨hbad, rfl, rfl⟩ | ⟨p, f, hp9, hf9, hpP, hf8, rfl, u9⟩
          · have tm1 : (Int32.ofInt (-1)).toInt = -1 := by decide
            show zW n D 141 Q 123 [some (.ref 0), some (.int x), some (.int (zn (t (s + 1) - 48))), some (.int (zn (t (s + 2) - 48)))] [.int (Int32.ofInt (-1))] ph
            refine w_ret (v := (some (.int (Int32.ofInt (-1))))) (ykc_141 (e := (7, .ireturn, 0)) rfl) (zr_v rfl) ?_
            rw [hQ]
            refine ⟨zFr_refl, _, rfl, Or.inr ⟨?_, by omega, ht, hc⟩⟩
            rw [hs]
            unfold zAct
            rw [if_neg (show ¬ t s = 110 by omega)]
            rw [if_pos e]
            rw [if_neg (by omega)]
          · have ep : p = t (s + 1) - 48 := zn_inj hp9.symm (by omega) (by omega)
            have ef : f = t (s + 2) - 48 := zn_inj hf9.symm (by omega) (by omega)
            subst ep ef
            have tz8 := znt (k := ze8 (v (8 + (t (s + 1) - 48))) (t (s + 2) - 48)) (by unfold ze8; omega)
            show zW n D 141 Q 123 [some (.ref 0), some (.int x), some (.int (zn (t (s + 1) - 48))), some (.int (zn (t (s + 2) - 48)))] [.int (zn (ze8 (v (8 + (t (s + 1) - 48))) (t (s + 2) - 48)))] ph1581
            refine w_ret (v := (some (.int (zn (ze8 (v (8 + (t (s + 1) - 48))) (t (s + 2) - 48)))))) (ykc_141 (e := (7, .ireturn, 0)) rfl) (zr_v rfl) ?_
            rw [hQ]
            have f9 : zFr [27] [] _ _ := zFr_st u9 (Or.inl (by simp))
            refine ⟨zFr_mono f9 (by simp) (by simp), _, rfl, Or.inl ⟨znu v (8 + (t (s + 1) - 48)) (t (s + 2) - 48), ?_, by omega, ⟨⟨by decide, zSs_F f9 (by simp) (by simp) ht.1.2⟩, zSd_u (S := 25) (a := 2) (by decide) (by omega) u9 hd0⟩, zCc_F f9 (by simp) (by simp) (by simp) hc⟩⟩
            rw [hs]
            unfold zAct
            rw [if_neg (show ¬ t s = 110 by omega)]
            rw [if_pos e]
            rw [if_pos ⟨by omega, by omega⟩]
          
        · have q2 : 48 ≤ t (s + 2) ∧ t (s + 2) ≤ 57 := zdi_d (g3 1 (by rw [e]; decide))
          have tq2 := znt (k := t (s + 2) - 48) (by omega)
          have ey1 : y1 = zn (t (s + 2) - 48) := by
            have := hy1.symm.trans (dd 1 hi (by rw [e]; decide) (Or.inr (by decide)))
            cases this
            rfl
          subst ey1
          show zW n D 141 Q 28 [some (.ref 0), some (.int x), some (.int (zn (t (s + 1) - 48))), some (.int (zn (t (s + 2) - 48)))] [.int (zn (t s))] ph
          refine w_br (pc' := 124) (st' := []) (ykc_141 (e := (4, .tableswitch 133 98 112 #[103, 133, 133, 133, 89, 96, 133, 133, 133, 133, 133, 133, 76, 133, 110], 76)) rfl) (by rw [e]; rfl) ?_
          refine w_load (pc' := 125) (v := .ref 0) (m := 1) (ykc_141 (e := (2, .aload_n kF0, 0)) rfl) rfl rfl ?_
          refine w_load (pc' := 126) (v := .int (zn (t (s + 1) - 48))) (m := 1) (ykc_141 (e := (2, .iload_n kF2, 0)) rfl) rfl rfl ?_
          refine w_load (pc' := 127) (v := .int (zn (t (s + 2) - 48))) (m := 1) (ykc_141 (e := (2, .iload_n kF3, 0)) rfl) rfl rfl ?_
          refine w_cv (as := [.ref 0, .int (zn (t (s + 1) - 48)), .int (zn (t (s + 2) - 48))]) (r := []) (ykc_141 (e := (6, .invokevirtual 262, 0)) rfl) rfl rfl rfl rfl (zc_walk hS hL0 hd0 hO) (fun v1582 ph1583 hv => ?_)
          rcases hv with ⟨hbad, rfl, rfl⟩ | ⟨p, f, hp9, hf9, hpP, hf8, ⟨hrk, rfl, rfl⟩ | ⟨g, hgR, hgk, rfl, u9⟩⟩
          · have tm1 : (Int32.ofInt (-1)).toInt = -1 := by decide
            show zW n D 141 Q 130 [some (.ref 0), some (.int x), some (.int (zn (t (s + 1) - 48))), some (.int (zn (t (s + 2) - 48)))] [.int (Int32.ofInt (-1))] ph
            refine w_ret (v := (some (.int (Int32.ofInt (-1))))) (ykc_141 (e := (7, .ireturn, 0)) rfl) (zr_v rfl) ?_
            rw [hQ]
            refine ⟨zFr_refl, _, rfl, Or.inr ⟨?_, by omega, ht, hc⟩⟩
            rw [hs]
            unfold zAct
            rw [if_neg (show ¬ t s = 110 by omega)]
            rw [if_neg (show ¬ t s = 102 by omega)]
            rw [if_pos e]
            rw [if_neg (by omega)]
          · have ep : p = t (s + 1) - 48 := zn_inj hp9.symm (by omega) (by omega)
            have ef : f = t (s + 2) - 48 := zn_inj hf9.symm (by omega) (by omega)
            subst ep ef
            have tm2 : ((Int8.ofInt (-2)).toInt32).toInt = -2 := by decide
            show zW n D 141 Q 130 [some (.ref 0), some (.int x), some (.int (zn (t (s + 1) - 48))), some (.int (zn (t (s + 2) - 48)))] [.int ((Int8.ofInt (-2)).toInt32)] ph
            refine w_ret (v := (some (.int ((Int8.ofInt (-2)).toInt32)))) (ykc_141 (e := (7, .ireturn, 0)) rfl) (zr_v rfl) ?_
            rw [hQ]
            refine ⟨zFr_refl, _, rfl, Or.inr ⟨?_, by omega, ht, hc⟩⟩
            rw [hs]
            unfold zAct
            rw [if_neg (show ¬ t s = 110 by omega)]
            rw [if_neg (show ¬ t s = 102 by omega)]
            rw [if_pos e]
            rw [if_neg (fun q => by have q2 := q.2.2; omega)]
          · have ep : p = t (s + 1) - 48 := zn_inj hp9.symm (by omega) (by omega)
            have ef : f = t (s + 2) - 48 := zn_inj hf9.symm (by omega) (by omega)
            subst ep ef
            have tg := znt (k := g) (by have := zRC49 hR7.2.1 hR7.2.2.2; omega)
            show zW n D 141 Q 130 [some (.ref 0), some (.int x), some (.int (zn (t (s + 1) - 48))), some (.int (zn (t (s + 2) - 48)))] [.int (zn g)] ph1583
            refine w_ret (v := (some (.int (zn g)))) (ykc_141 (e := (7, .ireturn, 0)) rfl) (zr_v rfl) ?_
            rw [hQ]
            have f9 : zFr [26] [] _ _ := zFr_st u9 (Or.inl (by simp))
            refine ⟨zFr_mono f9 (by simp) (by simp), _, rfl, Or.inl ⟨znu v ((t (s + 1) - 48)) g, ?_, by omega, ⟨⟨by decide, zSs_F f9 (by simp) (by simp) ht.1.2⟩, (by
              have h9 := zSd_u (S := 25) (a := 1) (by decide) (by omega) u9 hd0
              rw [show 8 * (1 - 1) + (t (s + 1) - 48) = t (s + 1) - 48 by omega] at h9
              exact h9)⟩, zCc_F f9 (by simp) (by simp) (by simp) hc⟩⟩
            rw [hs]
            unfold zAct
            rw [if_neg (show ¬ t s = 110 by omega)]
            rw [if_neg (show ¬ t s = 102 by omega)]
            rw [if_pos e]
            rw [if_pos ⟨by omega, by omega, by rw [hgk]; omega⟩, hgk]
            rfl
          
        · have q2 : 48 ≤ t (s + 2) ∧ t (s + 2) ≤ 57 := zdi_d (g3 1 (by rw [e]; decide))
          have tq2 := znt (k := t (s + 2) - 48) (by omega)
          have ey1 : y1 = zn (t (s + 2) - 48) := by
            have := hy1.symm.trans (dd 1 hi (by rw [e]; decide) (Or.inr (by decide)))
            cases this
            rfl
          subst ey1
          show zW n D 141 Q 28 [some (.ref 0), some (.int x), some (.int (zn (t (s + 1) - 48))), some (.int (zn (t (s + 2) - 48)))] [.int (zn (t s))] ph
          refine w_br (pc' := 131) (st' := []) (ykc_141 (e := (4, .tableswitch 133 98 112 #[103, 133, 133, 133, 89, 96, 133, 133, 133, 133, 133, 133, 76, 133, 110], 76)) rfl) (by rw [e]; rfl) ?_
          refine w_load (pc' := 132) (v := .ref 0) (m := 1) (ykc_141 (e := (2, .aload_n kF0, 0)) rfl) rfl rfl ?_
          refine w_load (pc' := 133) (v := .int (zn (t (s + 1) - 48))) (m := 1) (ykc_141 (e := (2, .iload_n kF2, 0)) rfl) rfl rfl ?_
          refine w_load (pc' := 134) (v := .int (zn (t (s + 2) - 48))) (m := 1) (ykc_141 (e := (2, .iload_n kF3, 0)) rfl) rfl rfl ?_
          refine w_cv (as := [.ref 0, .int (zn (t (s + 1) - 48)), .int (zn (t (s + 2) - 48))]) (r := []) (ykc_141 (e := (6, .invokevirtual 265, 0)) rfl) rfl rfl rfl rfl (zc_trimTo hS hL0 hd0 hO) (fun v1584 ph1585 hv => ?_)
          rcases hv with ⟨hbad, rfl, rfl⟩ | ⟨p, f, hp9, hf9, hpP, hf4, rfl, u9⟩
          · have tm1 : (Int32.ofInt (-1)).toInt = -1 := by decide
            show zW n D 141 Q 137 [some (.ref 0), some (.int x), some (.int (zn (t (s + 1) - 48))), some (.int (zn (t (s + 2) - 48)))] [.int (Int32.ofInt (-1))] ph
            refine w_ret (v := (some (.int (Int32.ofInt (-1))))) (ykc_141 (e := (7, .ireturn, 0)) rfl) (zr_v rfl) ?_
            rw [hQ]
            refine ⟨zFr_refl, _, rfl, Or.inr ⟨?_, by omega, ht, hc⟩⟩
            rw [hs]
            unfold zAct
            rw [if_neg (show ¬ t s = 110 by omega)]
            rw [if_neg (show ¬ t s = 102 by omega)]
            rw [if_neg (show ¬ t s = 103 by omega)]
            rw [if_pos e]
            rw [if_neg (by omega)]
          · have ep : p = t (s + 1) - 48 := zn_inj hp9.symm (by omega) (by omega)
            have ef : f = t (s + 2) - 48 := zn_inj hf9.symm (by omega) (by omega)
            subst ep ef
            have tv := znt (k := v (16 + (t (s + 1) - 48))) (by have := (hO.1 _ hpP).2.2.1; omega)
            show zW n D 141 Q 137 [some (.ref 0), some (.int x), some (.int (zn (t (s + 1) - 48))), some (.int (zn (t (s + 2) - 48)))] [.int (zn (v (16 + (t (s + 1) - 48))))] ph1585
            refine w_ret (v := (some (.int (zn (v (16 + (t (s + 1) - 48))))))) (ykc_141 (e := (7, .ireturn, 0)) rfl) (zr_v rfl) ?_
            rw [hQ]
            have f9 : zFr [28] [] _ _ := zFr_st u9 (Or.inl (by simp))
            refine ⟨zFr_mono f9 (by simp) (by simp), _, rfl, Or.inl ⟨znu v (16 + (t (s + 1) - 48)) (t (s + 2) - 48), ?_, by omega, ⟨⟨by decide, zSs_F f9 (by simp) (by simp) ht.1.2⟩, zSd_u (S := 25) (a := 3) (by decide) (by omega) u9 hd0⟩, zCc_F f9 (by simp) (by simp) (by simp) hc⟩⟩
            rw [hs]
            unfold zAct
            rw [if_neg (show ¬ t s = 110 by omega)]
            rw [if_neg (show ¬ t s = 102 by omega)]
            rw [if_neg (show ¬ t s = 103 by omega)]
            rw [if_pos e]
            rw [if_pos ⟨by omega, by omega⟩]
          
        · have q2 : 48 ≤ t (s + 2) ∧ t (s + 2) ≤ 57 := zdi_d (g3 1 (by rw [e]; decide))
          have tq2 := znt (k := t (s + 2) - 48) (by omega)
          have ey1 : y1 = zn (t (s + 2) - 48) := by
            have := hy1.symm.trans (dd 1 hi (by rw [e]; decide) (Or.inr (by decide)))
            cases this
            rfl
          subst ey1
          show zW n D 141 Q 28 [some (.ref 0), some (.int x), some (.int (zn (t (s + 1) - 48))), some (.int (zn (t (s + 2) - 48)))] [.int (zn (t s))] ph
          have q3 : 48 ≤ t (s + 3) ∧ t (s + 3) ≤ 57 := zdi_d (g3 2 (by rw [e]; decide))
          have tq3 := znt (k := t (s + 3) - 48) (by omega)
          refine w_br (pc' := 138) (st' := []) (ykc_141 (e := (4, .tableswitch 133 98 112 #[103, 133, 133, 133, 89, 96, 133, 133, 133, 133, 133, 133, 76, 133, 110], 76)) rfl) (by rw [e]; rfl) ?_
          refine w_load (pc' := 139) (v := .ref 0) (m := 1) (ykc_141 (e := (2, .aload_n kF0, 0)) rfl) rfl rfl ?_
          refine w_load (pc' := 140) (v := .int (zn (t (s + 1) - 48))) (m := 1) (ykc_141 (e := (2, .iload_n kF2, 0)) rfl) rfl rfl ?_
          refine w_load (pc' := 141) (v := .ref 0) (m := 1) (ykc_141 (e := (2, .aload_n kF0, 0)) rfl) rfl rfl ?_
          refine w_gf (pc' := 144) (v := .ref 5) (ykc_141 (e := (5, .getfield 26, 0)) rfl) rfl (zsg hS zs_0_2) rfl ?_
          refine w_load (pc' := 145) (v := .int (zn (t (s + 2) - 48))) (m := 1) (ykc_141 (e := (2, .iload_n kF3, 0)) rfl) rfl rfl ?_
          refine w_load (pc' := 146) (v := .ref 0) (m := 1) (ykc_141 (e := (2, .aload_n kF0, 0)) rfl) rfl rfl ?_
          refine w_gf (pc' := 149) (v := .ref 157) (ykc_141 (e := (5, .getfield 69, 0)) rfl) rfl (zsg hS zs_0_9) rfl ?_
          refine w_load (pc' := 150) (v := .int x) (m := 1) (ykc_141 (e := (2, .iload_n kF1, 0)) rfl) rfl rfl ?_
          refine w_alu (pc' := 151) (st' := [.int (Int32.ofInt 2), .int x, .ref 157, .int (zn (t (s + 2) - 48)), .ref 5, .int (zn (t (s + 1) - 48)), .ref 0]) (ykc_141 (e := (0, .iconst 2, 0)) rfl) rfl rfl ?_
          refine w_cv (as := [.ref 157, .int x, .int (Int32.ofInt 2)]) (r := [.int (zn (t (s + 2) - 48)), .ref 5, .int (zn (t (s + 1) - 48)), .ref 0]) (ykc_141 (e := (6, .invokevirtual 289, 0)) rfl) rfl rfl rfl rfl (zc_plDig (k := k) (i := i) (j := 2) hS hx (by decide) hk h30 hi (by decide)) (fun v1586 ph1587 hv => ?_)
          rcases hv with ⟨rfl, y2, rfl, hy2⟩
          · have ey2 : y2 = zn (t (s + 3) - 48) := by
              have := hy2.symm.trans (dd 2 hi (by rw [e]; decide) (Or.inr (by decide)))
              cases this
              rfl
            subst ey2
            show zW n D 141 Q 154 [some (.ref 0), some (.int x), some (.int (zn (t (s + 1) - 48))), some (.int (zn (t (s + 2) - 48)))] [.int (zn (t (s + 3) - 48)), .int (zn (t (s + 2) - 48)), .ref 5, .int (zn (t (s + 1) - 48)), .ref 0] ph
            refine w_cv (as := [.ref 5, .int (zn (t (s + 2) - 48)), .int (zn (t (s + 3) - 48))]) (r := [.int (zn (t (s + 1) - 48)), .ref 0]) (ykc_141 (e := (6, .invokevirtual 140, 0)) rfl) rfl rfl rfl rfl (zc_fat hS hL0) (fun v1588 ph1589 hv => ?_)
            rcases hv with ⟨rfl, z9, rfl, hz9⟩
            · have tm1 : (Int32.ofInt (-1)).toInt = -1 := by decide
              unfold zfa at hz9
              show zW n D 141 Q 157 [some (.ref 0), some (.int x), some (.int (zn (t (s + 1) - 48))), some (.int (zn (t (s + 2) - 48)))] [.int z9, .int (zn (t (s + 1) - 48)), .ref 0] ph
              refine w_cv (as := [.ref 0, .int (zn (t (s + 1) - 48)), .int z9]) (r := []) (ykc_141 (e := (6, .invokevirtual 268, 0)) rfl) rfl rfl rfl rfl (zc_putOn hS hL0 hd0 hO) (fun v1590 ph1591 hv => ?_)
              rcases hv with ⟨hbad, rfl, rfl⟩ | ⟨p, f, hp9, hf9, hpP, hfR, ⟨hsm, rfl, rfl⟩ | ⟨hne, rfl, u9⟩⟩
              · show zW n D 141 Q 160 [some (.ref 0), some (.int x), some (.int (zn (t (s + 1) - 48))), some (.int (zn (t (s + 2) - 48)))] [.int (Int32.ofInt (-1))] ph
                refine w_ret (v := (some (.int (Int32.ofInt (-1))))) (ykc_141 (e := (7, .ireturn, 0)) rfl) (zr_v rfl) ?_
                rw [hQ]
                refine ⟨zFr_refl, _, rfl, Or.inr ⟨?_, by omega, ht, hc⟩⟩
                rw [hs]
                unfold zAct
                rw [if_neg (show ¬ t s = 110 by omega)]
                rw [if_neg (show ¬ t s = 102 by omega)]
                rw [if_neg (show ¬ t s = 103 by omega)]
                rw [if_neg (show ¬ t s = 98 by omega)]
                rw [if_neg (fun q => by
                  obtain ⟨a1, a2, a3, a4⟩ := q
                  rw [if_pos ⟨by omega, by omega, by omega, by omega⟩] at hz9
                  have hmm : E.2.1 * (t (s + 2) - 48) + (t (s + 3) - 48) < E.1 * E.2.1 := by
                    have := Nat.mul_le_mul_left E.2.1 (show t (s + 2) - 48 + 1 ≤ E.1 by omega)
                    rw [Nat.mul_add, Nat.mul_one, Nat.mul_comm E.2.1 E.1] at this
                    omega
                  have hcm : (zn (t (s + 2) - 48)).toInt.toNat * E.2.1 = E.2.1 * (t (s + 2) - 48) := by rw [tq2, Int.toNat_natCast, Nat.mul_comm]
                  rw [hcm, tq3, Int.toNat_natCast] at hz9
                  omega)]
              · have hin : t (s + 2) - 48 < E.1 ∧ t (s + 3) - 48 < E.2.1 ∧ f = E.2.1 * (t (s + 2) - 48) + (t (s + 3) - 48) := by
                  by_cases a : t (s + 2) - 48 < E.1 ∧ t (s + 3) - 48 < E.2.1
                  · rw [if_pos ⟨by omega, by omega, by omega, by omega⟩] at hz9
                    have hcm : (zn (t (s + 2) - 48)).toInt.toNat * E.2.1 = E.2.1 * (t (s + 2) - 48) := by rw [tq2, Int.toNat_natCast, Nat.mul_comm]
                    rw [hcm, tq3, Int.toNat_natCast, hf9, znt (by have := zRC49 hR7.2.1 hR7.2.2.2; omega)] at hz9
                    exact ⟨a.1, a.2, by omega⟩
                  · rw [if_neg (by omega), hf9, znt (by have := zRC49 hR7.2.1 hR7.2.2.2; omega)] at hz9
                    omega
                obtain ⟨in1, in2, in3⟩ := hin
                have ep : p = t (s + 1) - 48 := zn_inj hp9.symm (by omega) (by omega)
                subst ep in3
                have tm2 : ((Int8.ofInt (-2)).toInt32).toInt = -2 := by decide
                show zW n D 141 Q 160 [some (.ref 0), some (.int x), some (.int (zn (t (s + 1) - 48))), some (.int (zn (t (s + 2) - 48)))] [.int ((Int8.ofInt (-2)).toInt32)] ph
                refine w_ret (v := (some (.int ((Int8.ofInt (-2)).toInt32)))) (ykc_141 (e := (7, .ireturn, 0)) rfl) (zr_v rfl) ?_
                rw [hQ]
                refine ⟨zFr_refl, _, rfl, Or.inr ⟨?_, by omega, ht, hc⟩⟩
                rw [hs]
                unfold zAct
                rw [if_neg (show ¬ t s = 110 by omega)]
                rw [if_neg (show ¬ t s = 102 by omega)]
                rw [if_neg (show ¬ t s = 103 by omega)]
                rw [if_neg (show ¬ t s = 98 by omega)]
                rw [if_neg (fun q => q.2.2.2 hsm)]
              · have hin : t (s + 2) - 48 < E.1 ∧ t (s + 3) - 48 < E.2.1 ∧ f = E.2.1 * (t (s + 2) - 48) + (t (s + 3) - 48) := by
                  by_cases a : t (s + 2) - 48 < E.1 ∧ t (s + 3) - 48 < E.2.1
                  · rw [if_pos ⟨by omega, by omega, by omega, by omega⟩] at hz9
                    have hcm : (zn (t (s + 2) - 48)).toInt.toNat * E.2.1 = E.2.1 * (t (s + 2) - 48) := by rw [tq2, Int.toNat_natCast, Nat.mul_comm]
                    rw [hcm, tq3, Int.toNat_natCast, hf9, znt (by have := zRC49 hR7.2.1 hR7.2.2.2; omega)] at hz9
                    exact ⟨a.1, a.2, by omega⟩
                  · rw [if_neg (by omega), hf9, znt (by have := zRC49 hR7.2.1 hR7.2.2.2; omega)] at hz9
                    omega
                obtain ⟨in1, in2, in3⟩ := hin
                have ep : p = t (s + 1) - 48 := zn_inj hp9.symm (by omega) (by omega)
                subst ep in3
                have tv := znt (k := v (32 + (t (s + 1) - 48))) (by have := hO.2.1 _ hpP; have := zRC49 hR7.2.1 hR7.2.2.2; omega)
                show zW n D 141 Q 160 [some (.ref 0), some (.int x), some (.int (zn (t (s + 1) - 48))), some (.int (zn (t (s + 2) - 48)))] [.int (zn (v (32 + (t (s + 1) - 48))))] ph1591
                refine w_ret (v := (some (.int (zn (v (32 + (t (s + 1) - 48))))))) (ykc_141 (e := (7, .ireturn, 0)) rfl) (zr_v rfl) ?_
                rw [hQ]
                have f9 : zFr [30] [] _ _ := zFr_st u9 (Or.inl (by simp))
                refine ⟨zFr_mono f9 (by simp) (by simp), _, rfl, Or.inl ⟨znu v (32 + (t (s + 1) - 48)) (E.2.1 * (t (s + 2) - 48) + (t (s + 3) - 48)), ?_, by omega, ⟨⟨by decide, zSs_F f9 (by simp) (by simp) ht.1.2⟩, zSd_u (S := 25) (a := 5) (by decide) (by omega) u9 hd0⟩, zCc_F f9 (by simp) (by simp) (by simp) hc⟩⟩
                rw [hs]
                unfold zAct
                rw [if_neg (show ¬ t s = 110 by omega)]
                rw [if_neg (show ¬ t s = 102 by omega)]
                rw [if_neg (show ¬ t s = 103 by omega)]
                rw [if_neg (show ¬ t s = 98 by omega)]
                rw [if_pos ⟨in1, in2, by omega, hne⟩]
          
      
    
  

/-! the acts of a DAY one behind another, on paper -/
def zAr (E : zEn) (P G : Nat) (v t : Nat → Nat) : Nat → Option (Nat → Nat)
  | 0 => some v
  | i + 1 => (zAr E P G v t i).bind (fun v2 => zAct E P G v2 t (zDp t i))
/-- i of k acts could be done -/
def zAs2 (E : zEn) (P G : Nat) (v t : Nat → Nat) (k i : Nat) (v2 : Nat → Nat) : Prop := i ≤ k ∧ zAr E P G v t i = some v2 ∧ (i < k → zAct E P G v2 t (zDp t i) = none)
section ZAR
variable {E : zEn} {P G : Nat} {v t : Nat → Nat}
theorem zAr_s {i : Nat} {v2 : Nat → Nat} (h : zAr E P G v t i = some v2) : zAr E P G v t (i + 1) = zAct E P G v2 t (zDp t i) := by
  show (zAr E P G v t i).bind _ = _
  rw [h]
  rfl
theorem zAr_n {i : Nat} (h : zAr E P G v t i = none) : ∀ m, zAr E P G v t (i + m) = none
  | 0 => h
  | m + 1 => by
    show (zAr E P G v t (i + m)).bind _ = none
    rw [zAr_n h m]
    rfl
theorem zAs2_u {k i i' : Nat} {v2 v2' : Nat → Nat} (h : zAs2 E P G v t k i v2) (h' : zAs2 E P G v t k i' v2') : i = i' ∧ v2 = v2' := by
  obtain ⟨a1, a2, a3⟩ := h
  obtain ⟨b1, b2, b3⟩ := h'
  have key : ∀ {i i' : Nat} {v2 v2' : Nat → Nat}, zAr E P G v t i = some v2 → (i < k → zAct E P G v2 t (zDp t i) = none) → i' ≤ k → zAr E P G v t i' = some v2' → ¬ i < i' := fun {i i' v2 v2'} c1 c2 c3 c4 hlt => by
    have c5 : zAr E P G v t (i + 1) = none := by
      rw [zAr_s c1]
      exact c2 (by omega)
    have c6 := zAr_n c5 (i' - (i + 1))
    rw [show i + 1 + (i' - (i + 1)) = i' by omega, c4] at c6
    cases c6
  have e : i = i' := by
    have k1 := key a2 a3 b1 b2
    have k2 := key b2 b3 a1 a2
    omega
  subst e
  rw [a2] at b2
  cases b2
  exact ⟨rfl, rfl⟩
theorem zOk_u {R C : Nat} (h : zOk R C P G v) {i x : Nat} (h0 : i < 40) (h1 : i < 8 → x < R * C) (h2 : 8 ≤ i → i < 16 → x < 8) (h3 : 16 ≤ i → i < 24 → x ≤ 4) (h4 : 24 ≤ i → i < 32 → x < 256) (h5 : 32 ≤ i → x < R * C) (hP : P ≤ 8) : zOk R C P G (znu v i x) := by
  obtain ⟨g1, g2, g3⟩ := h
  refine ⟨fun p hp => ?_, fun g hg => ?_, ?_⟩
  · obtain ⟨k1, k2, k3, k4⟩ := g1 p hp
    refine ⟨?_, ?_, ?_, ?_⟩
    · by_cases e : p = i
      · subst e; rw [znu_e]; exact h1 (by omega)
      · rw [znu_n e]; exact k1
    · by_cases e : 8 + p = i
      · subst e; rw [znu_e]; exact h2 (by omega) (by omega)
      · rw [znu_n e]; exact k2
    · by_cases e : 16 + p = i
      · subst e; rw [znu_e]; exact h3 (by omega) (by omega)
      · rw [znu_n e]; exact k3
    · by_cases e : 24 + p = i
      · subst e; rw [znu_e]; exact h4 (by omega) (by omega)
      · rw [znu_n e]; exact k4
  · by_cases e : 32 + g = i
    · subst e; rw [znu_e]; exact h5 (by omega)
    · rw [znu_n e]; exact g2 g hg
  · rw [znu_n (by omega)]; exact g3
theorem zbk_lt {R C : Nat} {rk : Nat → Bool} {f w : Nat} (h : 0 ≤ zbk R C rk f w) : (zbk R C rk f w).toNat < R * C := by
  unfold zbk at h ⊢
  by_cases e : zin R C f w = true ∧ rk (zto C f w) = false
  · rw [if_pos e]
    exact zto_lt e.1
  · rw [if_neg e] at h
    omega
theorem zAct_ok {b i : Nat} {v2 : Nat → Nat} (hO : zOk E.1 E.2.1 P G v) (hP : P ≤ 8) (hG : G ≤ 8) (h40 : v 40 + 9 < 999999) (hg : zDg b t i) (h : zAct E P G v t (zDp t i) = some v2) : zOk E.1 E.2.1 P G v2 ∧ v2 40 ≤ v 40 + 9 := by
  obtain ⟨g1, g2, g3⟩ := hg
  obtain ⟨s, hs⟩ : ∃ s, zDp t i = s := ⟨_, rfl⟩
  rw [hs] at h g1 g2 g3
  have q1 := zdi_d (g3 0 g1)
  rw [Nat.add_zero] at q1
  unfold zAct at h
  by_cases e1 : t s = 110
  · rw [if_pos e1] at h
    cases h
    exact ⟨zHqn_ok hO hP hG _ (by omega), by rw [zHqn_40 hP]; omega⟩
  · rw [if_neg e1] at h
    by_cases e2 : t s = 102
    · rw [if_pos e2] at h
      split at h
      · next q =>
        cases h
        exact ⟨zOk_u hO (by omega) (fun q => by omega) (fun _ _ => q.2) (fun q => by omega) (fun q => by omega) (fun q => by omega) hP, by rw [znu_n (by omega)]; omega⟩
      · cases h
    · rw [if_neg e2] at h
      by_cases e3 : t s = 103
      · rw [if_pos e3] at h
        split at h
        · next q =>
          cases h
          exact ⟨zOk_u hO (by omega) (fun _ => zbk_lt q.2.2) (fun q => by omega) (fun q => by omega) (fun q => by omega) (fun q => by omega) hP, by rw [znu_n (by omega)]; omega⟩
        · cases h
      · rw [if_neg e3] at h
        by_cases e4 : t s = 98
        · rw [if_pos e4] at h
          split at h
          · next q =>
            cases h
            exact ⟨zOk_u hO (by omega) (fun q => by omega) (fun q => by omega) (fun _ _ => q.2) (fun q => by omega) (fun q => by omega) hP, by rw [znu_n (by omega)]; omega⟩
          · cases h
        · rw [if_neg e4] at h
          split at h
          · next q =>
            cases h
            have hmm : E.2.1 * (t (s + 2) - 48) + (t (s + 3) - 48) < E.1 * E.2.1 := by
              have := Nat.mul_le_mul_left E.2.1 (show t (s + 2) - 48 + 1 ≤ E.1 by omega)
              rw [Nat.mul_add, Nat.mul_one, Nat.mul_comm E.2.1 E.1] at this
              omega
            exact ⟨zOk_u hO (by omega) (fun q => by omega) (fun q => by omega) (fun q => by omega) (fun q => by omega) (fun _ => hmm) hP, by rw [znu_n (by omega)]; omega⟩
          · cases h
theorem zAr_ok {b k : Nat} (hO : zOk E.1 E.2.1 P G v) (hP : P ≤ 8) (hG : G ≤ 8) (hg : zDok b t k) (h40 : v 40 + 9 * k < 999000) : ∀ i, i ≤ k → ∀ {v2 : Nat → Nat}, zAr E P G v t i = some v2 → zOk E.1 E.2.1 P G v2 ∧ v2 40 ≤ v 40 + 9 * i
  | 0, _, v2, h => by
    cases h
    exact ⟨hO, by omega⟩
  | i + 1, hi, v2, h => by
    cases h1 : zAr E P G v t i with
    | none =>
      have : zAr E P G v t (i + 1) = none := by
        show (zAr E P G v t i).bind _ = none
        rw [h1]
        rfl
      rw [this] at h
      cases h
    | some v1 =>
      rw [zAr_s h1] at h
      obtain ⟨g1, g2⟩ := zAr_ok hO hP hG hg h40 i (by omega) h1
      obtain ⟨g3, g4⟩ := zAct_ok g1 hP hG (by omega) (hg i (by omega)) h
      exact ⟨g3, by omega⟩
end ZAR

/-! DAY, class and reference, by W; printed by wip/z/z1o_day.py -/
theorem zKC_fa {p q : pm_H} {R C : Nat} {rk : Nat → Bool} {v2 : Nat → Nat} {P G nx u fl hn : Nat} {v : Nat → Nat} {w sv : Nat → Nat → Nat} (f : zFr [8, 9, 15, 20, 22, 23, 24, 26, 27, 28, 29, 30] [(5, 4), (25, 2)] p q) (h : zKC p R C rk P G v nx u w fl sv hn) (hd : zSd q 25 P G v2) : zKC q R C rk P G v2 nx u w fl sv hn := ⟨zCl_F f (by simp) (by intro i hi; simp <;> omega) (by simp) h.1, hd, zCu_F f (by simp) (by simp) (by intro j h1 h2; simp <;> omega) (by intro j i h1 h2; simp <;> omega) h.2.2.1, zCk_F f (by simp) (by simp) (by intro j h1 h2; simp <;> omega) (by intro j i h1 h2; simp <;> omega) h.2.2.2.1, (f.1 _ _ (by simp) (by simp)).trans h.2.2.2.2.1, h.2.2.2.2.2⟩
/-- a plan's or a text's cells have changed -/
theorem zKC_pl {p q : pm_H} {R C : Nat} {rk : Nat → Bool} {P G nx u fl hn : Nat} {v : Nat → Nat} {w sv : Nat → Nat → Nat} (f : zFr [158, 159] [(157, 2), (1, 1)] p q) (h : zKC p R C rk P G v nx u w fl sv hn) : zKC q R C rk P G v nx u w fl sv hn := ⟨zCl_F f (by simp) (by intro i hi; simp) (by simp) h.1, zSd_F f (by intro j hj; simp <;> omega) (by intro j k hj; simp <;> omega) h.2.1, zCu_F f (by simp) (by simp) (by intro j h1 h2; simp <;> omega) (by intro j i h1 h2; simp <;> omega) h.2.2.1, zCk_F2 f (by simp) (by simp) (by intro j h1 h2; simp <;> omega) (by intro j i h1 h2; simp <;> omega) h.2.2.2.1, (f.1 _ _ (by simp) (by simp)).trans h.2.2.2.2.1, h.2.2.2.2.2⟩
/-- the row from before put into the history -/
theorem zKC_pu {p q1 q2 q : pm_H} {R C : Nat} {rk : Nat → Bool} {v0 : Nat → Nat} {P G nx u fl hn : Nat} {v : Nat → Nat} {w sv : Nat → Nat → Nat} (h : zKC p R C rk P G v nx u w fl sv hn) (f : zCo (45 + 6 * nx) p q1) (u1 : zst q1 q2 43 1 (.int (zn (if nx + 1 < 15 then nx + 1 else 0)))) (u2 : zst q2 q 43 2 (.int (zn (min 15 (u + 1))))) (hd : zSd q (45 + 6 * nx) P G v0) : zKC q R C rk P G v (if nx + 1 < 15 then nx + 1 else 0) (zAd u) (zAw u (zWp u w v0)) fl sv hn := by
  obtain ⟨hL, h25, hU, hk, hh⟩ := h
  have fr : zFr [] [(43, 1), (43, 2)] q1 q := zFr_trans (zFr_st u1 (Or.inr (by simp))) (zFr_st u2 (Or.inr (by simp)))
  have hnx := hU.2.1
  refine ⟨?_, ?_, zCu_push hU f u1 u2 hd, ?_, ?_, hh.2⟩
  · exact zCl_F fr (by simp) (by intro i hi; simp) (by simp) (zCl_F f (by simp <;> omega) (by intro i hi; simp <;> omega) (by intro i; simp <;> omega) hL)
  · exact zSd_F fr (by intro j hj; simp) (by intro j k hj; simp <;> omega) (zCo_d (by omega) f h25)
  · exact zCk_F fr (by simp) (by simp) (by intro j h1 h2; simp) (by intro j i h1 h2; simp <;> omega) (zCk_F f (by simp <;> omega) (by simp <;> omega) (by intro j h1 h2; simp <;> omega) (by intro j i h1 h2; simp <;> omega) hk)
  · exact (fr.1 _ _ (by simp) (by simp)).trans ((f.1 _ _ (by simp <;> omega) (by simp <;> omega)).trans hh.1)
theorem zMe_F4 {p q : pm_H} {E : zEn} (f : zFr [174, 181, 182, 183, 184, 185, 186, 187, 188] [(170, 0), (170, 14), (170, 15), (170, 16), (170, 17), (170, 34)] p q) (h : zMe p E) : zMe q E := by
  obtain ⟨h1, ⟨a1, a2, a3, a4, a5, a6, a7⟩, h3⟩ := h
  exact ⟨zMl_F f (by simp) (by simp) (by simp) (by simp) h1, ⟨(f.1 _ _ (by decide) (by decide)).trans a1, a2, a3, fun i hi => ⟨(f.1 _ _ (by simp) (by simp)).trans (a4 i hi).1, (a4 i hi).2⟩, (f.1 _ _ (by decide) (by decide)).trans a5, a6, fun i hi => ⟨(f.1 _ _ (by simp) (by simp)).trans (a7 i hi).1, (a7 i hi).2⟩⟩, h3⟩
theorem zWp_lt {u i : Nat} {w : Nat → Nat → Nat} {v : Nat → Nat} (h : i < u) : zWp u w v i = w i := by
  unfold zWp
  rw [if_neg (by omega)]
theorem zm_day {ph : pm_H} {E : zEn} {P G u ch hn ln : Nat} {v t : Nat → Nat} {w : Nat → Nat → Nat} {kp : Nat → Bool} {kc : Nat → Nat} {sv : Nat → Nat → Nat} (hS : zSh ph) (hK : zKM ph E.1 E.2.1 E.2.2.1 P G v u w ch kp kc sv hn) (hE : zMe ph E) (hO : zOk E.1 E.2.1 P G v) (h40 : v 40 < 990000) (hn0 : zc ph 170 14 = some (.int (zn ln))) (hn80 : ln ≤ 80) (gt : ∀ i, i < ln → zc ph 176 i = some (.int (zn (t i))) ∧ t i < 256) : zM 255 [.ref 170] ph (fun v0 q => zFr [171, 174, 181, 182, 183, 184, 185, 186, 187, 188] [(170, 0), (170, 1), (170, 14), (170, 15), (170, 16), (170, 17), (170, 27), (170, 34)] ph q ∧ zc q 170 0 = some (.int (zn 0)) ∧ zc q 170 14 = some (.int (zn 0)) ∧ ∃ (ok : Bool) (a k : Nat) (y : Int32), zDo (min ln 60) t ok a k ∧ v0 = some (.int y) ∧ ((¬ (ok = true ∧ ln ≤ 60) ∧ y.toInt = -1 - (a : Int) ∧ zKM q E.1 E.2.1 E.2.2.1 P G v u w ch kp kc sv hn) ∨ (ok = true ∧ ln ≤ 60 ∧ ∃ i v2, zAs2 E P G v t k i v2 ∧ y.toInt = (i : Int) ∧ ((i = 0 ∧ zKM q E.1 E.2.1 E.2.2.1 P G v2 u w ch kp kc sv hn) ∨ (0 < i ∧ zKM q E.1 E.2.1 E.2.2.1 P G v2 (zAd u) (zAw u (zWp u w v)) ch kp kc sv hn))))) := by
  obtain ⟨Q, hQ⟩ : ∃ Q : Option Value → pm_H → Prop, Q = (fun v0 q => zFr [171, 174, 181, 182, 183, 184, 185, 186, 187, 188] [(170, 0), (170, 1), (170, 14), (170, 15), (170, 16), (170, 17), (170, 27), (170, 34)] ph q ∧ zc q 170 0 = some (.int (zn 0)) ∧ zc q 170 14 = some (.int (zn 0)) ∧ ∃ (ok : Bool) (a k : Nat) (y : Int32), zDo (min ln 60) t ok a k ∧ v0 = some (.int y) ∧ ((¬ (ok = true ∧ ln ≤ 60) ∧ y.toInt = -1 - (a : Int) ∧ zKM q E.1 E.2.1 E.2.2.1 P G v u w ch kp kc sv hn) ∨ (ok = true ∧ ln ≤ 60 ∧ ∃ i v2, zAs2 E P G v t k i v2 ∧ y.toInt = (i : Int) ∧ ((i = 0 ∧ zKM q E.1 E.2.1 E.2.2.1 P G v2 u w ch kp kc sv hn) ∨ (0 < i ∧ zKM q E.1 E.2.1 E.2.2.1 P G v2 (zAd u) (zAw u (zWp u w v)) ch kp kc sv hn))))) := ⟨_, rfl⟩
  rw [← hQ]
  refine zM_mk fun n D => ?_
  show zW n D 255 Q 0 [some (.ref 170), none, none, none, none] [] ph
  have c_0 : ((Int8.ofInt 40).toInt32).toInt = 40 := by decide
  have c_1 : ((Int8.ofInt 60).toInt32).toInt = 60 := by decide
  have c_2 : (Int32.ofInt 0).toInt = 0 := by decide
  have c_3 : (Int32.ofInt 1).toInt = 1 := by decide
  have hK0 := hK
  obtain ⟨hL, hN, hv, hU, hk9, hh⟩ := hK
  have hu15 := hU.2.1
  have tln := znt (k := ln) (by omega)
  have tz := znt (k := 0) (by omega)
  have hP8 : P ≤ 8 := hN.2.1
  have hG8 : G ≤ 8 := hN.2.2.2
  refine w_load (pc' := 1) (v := .ref 170) (m := 1) (ykc_255 (e := (2, .aload_n kF0, 0)) rfl) rfl rfl ?_
  refine w_alu (pc' := 2) (st' := [.int (Int32.ofInt 0), .ref 170]) (ykc_255 (e := (0, .iconst 0, 0)) rfl) rfl rfl ?_
  refine w_pf (pc' := 5) (ykc_255 (e := (5, .putfield 3, 0)) rfl) rfl rfl (fun ph1518 u1517 => ?_)
  refine w_load (pc' := 6) (v := .ref 170) (m := 1) (ykc_255 (e := (2, .aload_n kF0, 0)) rfl) rfl rfl ?_
  refine w_push (pc' := 8) (v := .int ((Int8.ofInt 60).toInt32)) (m := 2) (ykc_255 (e := (1, .bipush 60, 0)) rfl) rfl rfl ?_
  have f0 : zFr [] [(170, 0)] ph _ := zFr_st u1517 (Or.inr (by simp))
  refine w_cv (as := [.ref 170, .int ((Int8.ofInt 60).toInt32)]) (r := []) (ykc_255 (e := (6, .invokevirtual 175, 0)) rfl) rfl rfl rfl rfl (zm_begins (c := 60) (zSh_F f0 (by decide +kernel) hS) ((f0.1 170 14 (by decide) (by decide)).trans hn0) hn80 (fun i hi => ⟨(f0.1 176 i (by simp) (by simp)).trans (gt i hi).1, (gt i hi).2⟩) (by decide) (by decide)) (fun v1519 ph1520 hv => ?_)
  obtain ⟨rfl, f1, h14, hT⟩ := hv
  show zW n D 255 Q 11 [some (.ref 170), none, none, none, none] [.int (zn ln)] ph1520
  refine w_store (pc' := 12) (L' := [some (.ref 170), some (.int (zn ln)), none, none, none]) (st' := []) (m := 1) (ykc_255 (e := (3, .istore_n kF1, 0)) rfl) rfl rfl ?_
  refine w_load (pc' := 13) (v := .ref 170) (m := 1) (ykc_255 (e := (2, .aload_n kF0, 0)) rfl) rfl rfl ?_
  refine w_alu (pc' := 14) (st' := [.int (Int32.ofInt 0), .ref 170]) (ykc_255 (e := (0, .iconst 0, 0)) rfl) rfl rfl ?_
  refine w_pf (pc' := 17) (ykc_255 (e := (5, .putfield 392, 0)) rfl) rfl rfl (fun ph1522 u1521 => ?_)
  refine w_alu (pc' := 18) (st' := [.int (Int32.ofInt 1)]) (ykc_255 (e := (0, .iconst 1, 0)) rfl) rfl rfl ?_
  refine w_store (pc' := 19) (L' := [some (.ref 170), some (.int (zn ln)), some (.int (Int32.ofInt 1)), none, none]) (st' := []) (m := 1) (ykc_255 (e := (3, .istore_n kF2, 0)) rfl) rfl rfl ?_
  have F0 : zFr [185, 186, 187, 188] [(170, 0), (170, 14), (170, 15), (170, 16), (170, 17), (170, 34)] ph ph1522 := (show zFr [185, 186, 187, 188] [(170, 0), (170, 14), (170, 15), (170, 16), (170, 17), (170, 34)] ph ph1522 from (zFr_trans (zFr_trans (zFr_st u1517 (Or.inr (by simp))) (zFr_mono f1 (by simp) (by simp))) (zFr_st u1521 (Or.inr (by simp)))))
  have g34 := u1521.1
  have hT1 := zTm_F (zFr_st u1521 (Or.inr (by simp)) : zFr [] [(170, 34)] _ _) (by simp) (by simp) (by simp) hT
  have g0 : zc ph1522 170 0 = some (.int (zn 0)) := (u1521.2.1 170 0 (fun q => absurd q.2 (by decide))).trans ((f1.1 170 0 (by decide) (by decide)).trans u1517.1)
  have g14 : zc ph1522 170 14 = some (.int (zn 0)) := (u1521.2.1 170 14 (fun q => absurd q.2 (by decide))).trans h14
  have hl1 : ∀ (n : Nat), ∀ (k a : Nat) (p : pm_H), (zFr [185, 186, 187, 188] [(170, 15), (170, 34)] ph1522 p) → (zTm p a (min ln 60) ln t) → (zc p 170 34 = some (.int (zn k))) → (zDok (min ln 60) t k) → (zDp t k = a) → (zEd p t k) → zW n D 255 Q 19 [some (.ref 170), some (.int (zn ln)), some (.int (Int32.ofInt 1)), none, none] [] p := by
    intro n
    induction n using Nat.strongRecOn with
    | ind n ih =>
      intro k a p hf hTa h34 hok hka hD
      have hab := hTa.2.2.1
      have hge := zDp_ge hok
      have tk := znt (k := k) (by omega)
      have ta := znt (k := a) (by omega)
      have tb := znt (k := min ln 60) (by omega)
      have F2 : zFr [185, 186, 187, 188] [(170, 0), (170, 14), (170, 15), (170, 16), (170, 17), (170, 34)] ph p := zFr_trans F0 (zFr_mono hf (by simp) (by simp))
      have hSp := zSh_F F2 (by decide +kernel) hS
      refine w_load (pc' := 20) (v := .int (Int32.ofInt 1)) (m := 1) (ykc_255 (e := (2, .iload_n kF2, 0)) rfl) rfl rfl ?_
      refine w_zeq (ykc_255 (e := (4, .ifCond .eq 22, 42)) rfl) rfl (fun q => by exfalso; omega) (fun b1523 => ?_)
      refine w_load (pc' := 24) (v := .ref 170) (m := 1) (ykc_255 (e := (2, .aload_n kF0, 0)) rfl) rfl rfl ?_
      refine w_gf (pc' := 27) (v := .int (zn a)) (ykc_255 (e := (5, .getfield 139, 0)) rfl) rfl hTa.1 rfl ?_
      refine w_load (pc' := 28) (v := .ref 170) (m := 1) (ykc_255 (e := (2, .aload_n kF0, 0)) rfl) rfl rfl ?_
      refine w_gf (pc' := 31) (v := .int (zn (min ln 60))) (ykc_255 (e := (5, .getfield 151, 0)) rfl) rfl hTa.2.1 rfl ?_
      refine w_ige (ykc_255 (e := (4, .if_icmp .ge 11, 42)) rfl) rfl (fun b1524 => ?_) (fun b1524 => ?_)
      · refine w_load (pc' := 43) (v := .ref 170) (m := 1) (ykc_255 (e := (2, .aload_n kF0, 0)) rfl) rfl rfl ?_
        refine w_load (pc' := 44) (v := .int (zn ln)) (m := 1) (ykc_255 (e := (2, .iload_n kF1, 0)) rfl) rfl rfl ?_
        refine w_push (pc' := 46) (v := .int ((Int8.ofInt 60).toInt32)) (m := 2) (ykc_255 (e := (1, .bipush 60, 0)) rfl) rfl rfl ?_
        refine w_load (pc' := 47) (v := .int (Int32.ofInt 1)) (m := 1) (ykc_255 (e := (2, .iload_n kF2, 0)) rfl) rfl rfl ?_
        have ea : a = min ln 60 := by omega
        have ho : zDo (min ln 60) t true a k := ⟨hok, Or.inl ⟨rfl, ea, by omega⟩⟩
        refine w_cv (as := [.ref 170, .int (zn ln), .int ((Int8.ofInt 60).toInt32), .int (Int32.ofInt 1)]) (r := []) (ykc_255 (e := (6, .invokevirtual 213, 0)) rfl) rfl rfl rfl rfl (zm_fault (is := true) (n9 := ln) (c := 60) hSp hTa (by omega) (by decide)) (fun v1525 ph1526 hv => ?_)
        rcases hv with ⟨rfl, z9, rfl, hz9⟩
        · rw [zFo_t] at hz9
          have hzc : (60 < ln ∧ z9.toInt = -1 - (a : Int)) ∨ (ln ≤ 60 ∧ z9.toInt = 0) := by
            split at hz9
            · omega
            · first | omega | (rw [if_pos ea] at hz9; omega)
          show zW n D 255 Q 50 [some (.ref 170), some (.int (zn ln)), some (.int (Int32.ofInt 1)), none, none] [.int z9] p
          refine w_store (pc' := 51) (L' := [some (.ref 170), some (.int (zn ln)), some (.int (Int32.ofInt 1)), some (.int z9), none]) (st' := []) (m := 1) (ykc_255 (e := (3, .istore_n kF3, 0)) rfl) rfl rfl ?_
          refine w_load (pc' := 52) (v := .int z9) (m := 1) (ykc_255 (e := (2, .iload_n kF3, 0)) rfl) rfl rfl ?_
          refine w_zge (ykc_255 (e := (4, .ifCond .ge 5, 57)) rfl) rfl (fun b1527 => ?_) (fun b1527 => ?_)
          · refine w_load (pc' := 58) (v := .ref 170) (m := 1) (ykc_255 (e := (2, .aload_n kF0, 0)) rfl) rfl rfl ?_
            have hv1 := zNr_F F2 (by simp) (by simp) hv
            have hU1 := zMu_F F2 (by simp) (by simp) (by simp) hU
            have hln : ln ≤ 60 := by omega
            refine w_cv (as := [.ref 170]) (r := []) (ykc_255 (e := (6, .invokevirtual 363, 0)) rfl) rfl rfl rfl rfl (zm_putsBy hSp hv1 hU1.1 hu15) (fun v1528 ph1529 hv => ?_)
            rcases hv with ⟨rfl, fp, gp, op⟩
            · show zW n D 255 Q 61 [some (.ref 170), some (.int (zn ln)), some (.int (Int32.ofInt 1)), some (.int z9), none] [] ph1529
              refine w_alu (pc' := 62) (st' := [.int (Int32.ofInt 0)]) (ykc_255 (e := (0, .iconst 0, 0)) rfl) rfl rfl ?_
              refine w_store (pc' := 64) (L' := [some (.ref 170), some (.int (zn ln)), some (.int (Int32.ofInt 1)), some (.int z9), some (.int (Int32.ofInt 0))]) (st' := []) (m := 2) (ykc_255 (e := (3, .istore 4, 0)) rfl) rfl rfl ?_
              have hr := zWp_r hU1.2.2 gp op
              have F3 : zFr [183, 185, 186, 187, 188] [(170, 0), (170, 14), (170, 15), (170, 16), (170, 17), (170, 34)] ph ph1529 := zFr_trans (zFr_mono F2 (by simp) (by simp)) (zFr_mono fp (by simp) (by simp))
              have hv2 := zNr_F fp (by simp) (by simp) hv1
              have hD3 := zEd_F fp (by simp) (by simp) hD
              have h34b := (fp.1 170 34 (by decide) (by decide)).trans h34
              have hl2 : ∀ (n : Nat), ∀ (i : Nat) (v2 : Nat → Nat) (p2 : pm_H), (i ≤ k) → (zFr [174, 181, 182, 184] [] ph1529 p2) → (zNr p2 174 0 v2) → (zAr E P G v t i = some v2) → zW n D 255 Q 64 [some (.ref 170), some (.int (zn ln)), some (.int (Int32.ofInt 1)), some (.int z9), some (.int (zn i))] [] p2 := by
                intro n
                induction n using Nat.strongRecOn with
                | ind n ih =>
                  intro i v2 p2 hi hf2 hv3 hr2
                  have ti := znt (k := i) (by omega)
                  have F4 : zFr [174, 181, 182, 183, 184, 185, 186, 187, 188] [(170, 0), (170, 14), (170, 15), (170, 16), (170, 17), (170, 34)] ph p2 := zFr_trans (zFr_mono F3 (by simp) (by simp)) (zFr_mono hf2 (by simp) (by simp))
                  have hS4 := zSh_F F4 (by decide +kernel) hS
                  obtain ⟨hO2, h402⟩ := zAr_ok hO hP8 hG8 hok (by omega) i hi hr2
                  have h34c := (hf2.1 170 34 (by decide) (by decide)).trans h34b
                  refine w_load (pc' := 66) (v := .int (zn i)) (m := 2) (ykc_255 (e := (2, .iload 4, 0)) rfl) rfl rfl ?_
                  refine w_load (pc' := 67) (v := .ref 170) (m := 1) (ykc_255 (e := (2, .aload_n kF0, 0)) rfl) rfl rfl ?_
                  refine w_gf (pc' := 70) (v := .int (zn k)) (ykc_255 (e := (5, .getfield 392, 0)) rfl) rfl h34c rfl ?_
                  refine w_ige (ykc_255 (e := (4, .if_icmp .ge 18, 88)) rfl) rfl (fun b1530 => ?_) (fun b1530 => ?_)
                  · have has : zAs2 E P G v t k i v2 := ⟨hi, hr2, fun q => absurd q (by omega)⟩
                    have F5 := F4
                    have FX := hf2
                    have hv5 := hv3
                    have hS5 := zSh_F F5 (by decide +kernel) hS
                    have h34d := (FX.1 170 34 (by decide) (by decide)).trans h34b
                    refine w_load (pc' := 89) (v := .ref 170) (m := 1) (ykc_255 (e := (2, .aload_n kF0, 0)) rfl) rfl rfl ?_
                    refine w_alu (pc' := 90) (st' := [.int (Int32.ofInt 0), .ref 170]) (ykc_255 (e := (0, .iconst 0, 0)) rfl) rfl rfl ?_
                    refine w_pf (pc' := 93) (ykc_255 (e := (5, .putfield 15, 0)) rfl) rfl rfl (fun ph1532 u1531 => ?_)
                    refine w_load (pc' := 94) (v := .ref 170) (m := 1) (ykc_255 (e := (2, .aload_n kF0, 0)) rfl) rfl rfl ?_
                    refine w_load (pc' := 96) (v := .int (zn i)) (m := 2) (ykc_255 (e := (2, .iload 4, 0)) rfl) rfl rfl ?_
                    refine w_load (pc' := 97) (v := .ref 170) (m := 1) (ykc_255 (e := (2, .aload_n kF0, 0)) rfl) rfl rfl ?_
                    refine w_gf (pc' := 100) (v := .int (zn k)) (ykc_255 (e := (5, .getfield 392, 0)) rfl) rfl ((u1531.2.1 170 34 (fun q => absurd q.2 (by decide))).trans h34d) rfl ?_
                    refine w_ige (ykc_255 (e := (4, .if_icmp .ge 7, 107)) rfl) rfl (fun b1533 => ?_) (fun b1533 => ?_)
                    · refine w_alu (pc' := 108) (st' := [.int (Int32.ofInt 0), .ref 170]) (ykc_255 (e := (0, .iconst 0, 0)) rfl) rfl rfl ?_
                      refine w_cs (as := [.int (Int32.ofInt 0)]) (r := [.ref 170]) (ykc_255 (e := (6, .invokestatic 154, 0)) rfl) rfl rfl rfl rfl (zm_flag0) (fun v1534 ph1535 hv => ?_)
                      obtain ⟨rfl, rfl⟩ := hv
                      show zW n D 255 Q 111 [some (.ref 170), some (.int (zn ln)), some (.int (Int32.ofInt 1)), some (.int z9), some (.int (zn i))] [.int (zI false), .ref 170] ph1532
                      refine w_alu (pc' := 112) (st' := [.long ((zI false).toInt64), .ref 170]) (ykc_255 (e := (0, .i2l, 0)) rfl) rfl rfl ?_
                      refine w_cv (as := [.ref 170, .long ((zI false).toInt64)]) (r := []) (ykc_255 (e := (6, .invokevirtual 373, 0)) rfl) rfl rfl rfl rfl (zm_enter (zSh_F (show zFr [171] [(170, 1)] p2 ph1532 from (zFr_st u1531 (Or.inr (by simp)))) (by decide +kernel) hS5) (k := 0) u1531.1 (by decide)) (fun v1536 ph1537 hv => ?_)
                      obtain ⟨rfl, fe1, ge1⟩ := hv
                      show zW n D 255 Q 115 [some (.ref 170), some (.int (zn ln)), some (.int (Int32.ofInt 1)), some (.int z9), some (.int (zn i))] [] ph1537
                      refine w_load (pc' := 116) (v := .ref 170) (m := 1) (ykc_255 (e := (2, .aload_n kF0, 0)) rfl) rfl rfl ?_
                      refine w_load (pc' := 117) (v := .ref 170) (m := 1) (ykc_255 (e := (2, .aload_n kF0, 0)) rfl) rfl rfl ?_
                      refine w_gf (pc' := 120) (v := .ref 174) (ykc_255 (e := (5, .getfield 41, 0)) rfl) rfl ((fe1.1 170 11 (by decide) (by decide)).trans ((u1531.2.1 170 11 (fun q => absurd q.2 (by decide))).trans (zsg hS5 zs_170_11))) rfl ?_
                      refine w_push (pc' := 122) (v := .int ((Int8.ofInt 40).toInt32)) (m := 2) (ykc_255 (e := (1, .bipush 40, 0)) rfl) rfl rfl ?_
                      refine w_ialk (pc' := 123) (k := 40) (ykc_255 (e := (5, .iaload, 0)) rfl) ((fe1.1 174 40 (by decide) (by decide)).trans ((u1531.2.1 174 40 (fun q => absurd q.1 (by decide))).trans (zNr0 hv5 (i := 40) (by decide)))) (by omega) rfl ?_
                      refine w_alu (pc' := 124) (st' := [.long ((zn (v2 40)).toInt64), .ref 170]) (ykc_255 (e := (0, .i2l, 0)) rfl) rfl rfl ?_
                      refine w_cv (as := [.ref 170, .long ((zn (v2 40)).toInt64)]) (r := []) (ykc_255 (e := (6, .invokevirtual 373, 0)) rfl) rfl rfl rfl rfl (zm_enter (zSh_F (show zFr [171] [(170, 1)] p2 ph1537 from (zFr_trans (zFr_st u1531 (Or.inr (by simp))) (zFr_mono fe1 (by simp) (by simp)))) (by decide +kernel) hS5) (k := 1) ge1 (by decide)) (fun v1538 ph1539 hv => ?_)
                      obtain ⟨rfl, fe2, ge2⟩ := hv
                      show zW n D 255 Q 127 [some (.ref 170), some (.int (zn ln)), some (.int (Int32.ofInt 1)), some (.int z9), some (.int (zn i))] [] ph1539
                      refine w_load (pc' := 129) (v := .int (zn i)) (m := 2) (ykc_255 (e := (2, .iload 4, 0)) rfl) rfl rfl ?_
                      refine w_zle (ykc_255 (e := (4, .ifCond .le 12, 141)) rfl) rfl (fun b1540 => ?_) (fun b1540 => ?_)
                      · refine w_alu (pc' := 142) (st' := [.int (Int32.ofInt 0)]) (ykc_255 (e := (0, .iconst 0, 0)) rfl) rfl rfl ?_
                        refine w_ret (v := (some (.int (Int32.ofInt 0)))) (ykc_255 (e := (7, .ireturn, 0)) rfl) (zr_v rfl) ?_
                        have F9 := (show zFr [171] [(170, 1)] p2 ph1539 from (zFr_trans (zFr_trans (zFr_st u1531 (Or.inr (by simp))) (zFr_mono fe1 (by simp) (by simp))) (zFr_mono fe2 (by simp) (by simp))))
                        have F8 : zFr [171, 174, 181, 182, 183, 184, 185, 186, 187, 188] [(170, 0), (170, 1), (170, 14), (170, 15), (170, 16), (170, 17), (170, 27), (170, 34)] ph ph1539 := zFr_trans (zFr_mono F5 (by simp) (by simp)) (zFr_mono F9 (by simp) (by simp))
                        have F7 : zFr [171, 174, 181, 182, 183, 184, 185, 186, 187, 188] [(170, 0), (170, 1), (170, 14), (170, 15), (170, 16), (170, 17), (170, 34)] ph ph1539 := zFr_trans (zFr_mono F5 (by simp) (by simp)) (zFr_mono F9 (by simp) (by simp))
                        have ei : i = 0 := by omega
                        rw [hQ]
                        exact ⟨F8, (F9.1 170 0 (by decide) (by decide)).trans ((FX.1 170 0 (by decide) (by decide)).trans ((fp.1 170 0 (by decide) (by decide)).trans ((hf.1 170 0 (by decide) (by decide)).trans g0))), (F9.1 170 14 (by decide) (by decide)).trans ((FX.1 170 14 (by decide) (by decide)).trans ((fp.1 170 14 (by decide) (by decide)).trans ((hf.1 170 14 (by decide) (by decide)).trans g14))), true, a, k, _, ho, rfl, Or.inr ⟨rfl, hln, i, v2, has, by rw [ei]; decide, Or.inl ⟨ei, zMl_F F7 (by simp) (by simp) (by simp) (by simp) hL, zMp_F F7 (by simp) (by simp) (by simp) hN, zNr_F F9 (by simp) (by simp) hv5, ⟨(F7.1 170 27 (by decide) (by decide)).trans hU.1, hu15, fun j hj => (zUr_F F9 (by simp) (by simp) (zUr_F FX (by simp) (by simp) hr)) j (by omega) |> fun h => (by
                          have h2 := h
                          rw [zWp_lt hj] at h2
                          exact h2)⟩, zMk_F F7 (by simp) (by simp) (by simp) hk9, zMh_F F7 (by simp) (by simp) hh⟩⟩⟩
                      · refine w_load (pc' := 133) (v := .ref 170) (m := 1) (ykc_255 (e := (2, .aload_n kF0, 0)) rfl) rfl rfl ?_
                        refine w_load (pc' := 135) (v := .int (zn i)) (m := 2) (ykc_255 (e := (2, .iload 4, 0)) rfl) rfl rfl ?_
                        refine w_cv (as := [.ref 170, .int (zn i)]) (r := []) (ykc_255 (e := (6, .invokevirtual 341, 0)) rfl) rfl rfl rfl rfl (zm_adds (x := zn i) (zSh_F (show zFr [171] [(170, 1)] p2 ph1539 from (zFr_trans (zFr_trans (zFr_st u1531 (Or.inr (by simp))) (zFr_mono fe1 (by simp) (by simp))) (zFr_mono fe2 (by simp) (by simp)))) (by decide +kernel) hS5) (((show zFr [171] [(170, 1)] p2 ph1539 from (zFr_trans (zFr_trans (zFr_st u1531 (Or.inr (by simp))) (zFr_mono fe1 (by simp) (by simp))) (zFr_mono fe2 (by simp) (by simp)))).1 170 27 (by decide) (by decide)).trans ((F5.1 170 27 (by decide) (by decide)).trans hU.1)) hu15 (zUr_F (show zFr [171] [(170, 1)] p2 ph1539 from (zFr_trans (zFr_trans (zFr_st u1531 (Or.inr (by simp))) (zFr_mono fe1 (by simp) (by simp))) (zFr_mono fe2 (by simp) (by simp)))) (by simp) (by simp) (zUr_F FX (by simp) (by simp) hr))) (fun v1541 ph1542 hv => ?_)
                        obtain ⟨rfl, fa, ga, ra⟩ := hv
                        have fb := (show zFr [171] [(170, 1)] p2 ph1539 from (zFr_trans (zFr_trans (zFr_st u1531 (Or.inr (by simp))) (zFr_mono fe1 (by simp) (by simp))) (zFr_mono fe2 (by simp) (by simp))))
                        show zW n D 255 Q 138 [some (.ref 170), some (.int (zn ln)), some (.int (Int32.ofInt 1)), some (.int z9), some (.int (zn i))] [.int (zn i)] ph1542
                        refine w_br (pc' := 142) (st' := [.int (zn i)]) (ykc_255 (e := (4, .goto 4, 142)) rfl) rfl ?_
                        refine w_ret (v := (some (.int (zn i)))) (ykc_255 (e := (7, .ireturn, 0)) rfl) (zr_v rfl) ?_
                        have F9 : zFr [171, 183] [(170, 1), (170, 27)] p2 ph1542 := zFr_trans (zFr_mono fb (by simp) (by simp)) (zFr_mono fa (by simp) (by simp))
                        have F8 : zFr [171, 174, 181, 182, 183, 184, 185, 186, 187, 188] [(170, 0), (170, 1), (170, 14), (170, 15), (170, 16), (170, 17), (170, 27), (170, 34)] ph ph1542 := zFr_trans (zFr_mono F5 (by simp) (by simp)) (zFr_mono F9 (by simp) (by simp))
                        rw [hQ]
                        exact ⟨F8, (F9.1 170 0 (by decide) (by decide)).trans ((FX.1 170 0 (by decide) (by decide)).trans ((fp.1 170 0 (by decide) (by decide)).trans ((hf.1 170 0 (by decide) (by decide)).trans g0))), (F9.1 170 14 (by decide) (by decide)).trans ((FX.1 170 14 (by decide) (by decide)).trans ((fp.1 170 14 (by decide) (by decide)).trans ((hf.1 170 14 (by decide) (by decide)).trans g14))), true, a, k, _, ho, rfl, Or.inr ⟨rfl, hln, i, v2, has, ti, Or.inr ⟨by omega, zMl_F F8 (by simp) (by simp) (by simp) (by simp) hL, zMp_F F8 (by simp) (by simp) (by simp) hN, zNr_F F9 (by simp) (by simp) hv5, ⟨ga, zAd_15 hu15, ra⟩, zMk_F F8 (by simp) (by simp) (by simp) hk9, zMh_F F8 (by simp) (by simp) hh⟩⟩⟩
                    · refine w_alu (pc' := 104) (st' := [.int (Int32.ofInt 1), .ref 170]) (ykc_255 (e := (0, .iconst 1, 0)) rfl) rfl rfl ?_
                      refine w_br (pc' := 108) (st' := [.int (Int32.ofInt 1), .ref 170]) (ykc_255 (e := (4, .goto 4, 108)) rfl) rfl ?_
                      refine w_cs (as := [.int (Int32.ofInt 1)]) (r := [.ref 170]) (ykc_255 (e := (6, .invokestatic 154, 0)) rfl) rfl rfl rfl rfl (zm_flag1) (fun v1543 ph1544 hv => ?_)
                      obtain ⟨rfl, rfl⟩ := hv
                      show zW n D 255 Q 111 [some (.ref 170), some (.int (zn ln)), some (.int (Int32.ofInt 1)), some (.int z9), some (.int (zn i))] [.int (zI true), .ref 170] ph1532
                      refine w_alu (pc' := 112) (st' := [.long ((zI true).toInt64), .ref 170]) (ykc_255 (e := (0, .i2l, 0)) rfl) rfl rfl ?_
                      refine w_cv (as := [.ref 170, .long ((zI true).toInt64)]) (r := []) (ykc_255 (e := (6, .invokevirtual 373, 0)) rfl) rfl rfl rfl rfl (zm_enter (zSh_F (show zFr [171] [(170, 1)] p2 ph1532 from (zFr_st u1531 (Or.inr (by simp)))) (by decide +kernel) hS5) (k := 0) u1531.1 (by decide)) (fun v1545 ph1546 hv => ?_)
                      obtain ⟨rfl, fe1, ge1⟩ := hv
                      show zW n D 255 Q 115 [some (.ref 170), some (.int (zn ln)), some (.int (Int32.ofInt 1)), some (.int z9), some (.int (zn i))] [] ph1546
                      refine w_load (pc' := 116) (v := .ref 170) (m := 1) (ykc_255 (e := (2, .aload_n kF0, 0)) rfl) rfl rfl ?_
                      refine w_load (pc' := 117) (v := .ref 170) (m := 1) (ykc_255 (e := (2, .aload_n kF0, 0)) rfl) rfl rfl ?_
                      refine w_gf (pc' := 120) (v := .ref 174) (ykc_255 (e := (5, .getfield 41, 0)) rfl) rfl ((fe1.1 170 11 (by decide) (by decide)).trans ((u1531.2.1 170 11 (fun q => absurd q.2 (by decide))).trans (zsg hS5 zs_170_11))) rfl ?_
                      refine w_push (pc' := 122) (v := .int ((Int8.ofInt 40).toInt32)) (m := 2) (ykc_255 (e := (1, .bipush 40, 0)) rfl) rfl rfl ?_
                      refine w_ialk (pc' := 123) (k := 40) (ykc_255 (e := (5, .iaload, 0)) rfl) ((fe1.1 174 40 (by decide) (by decide)).trans ((u1531.2.1 174 40 (fun q => absurd q.1 (by decide))).trans (zNr0 hv5 (i := 40) (by decide)))) (by omega) rfl ?_
                      refine w_alu (pc' := 124) (st' := [.long ((zn (v2 40)).toInt64), .ref 170]) (ykc_255 (e := (0, .i2l, 0)) rfl) rfl rfl ?_
                      refine w_cv (as := [.ref 170, .long ((zn (v2 40)).toInt64)]) (r := []) (ykc_255 (e := (6, .invokevirtual 373, 0)) rfl) rfl rfl rfl rfl (zm_enter (zSh_F (show zFr [171] [(170, 1)] p2 ph1546 from (zFr_trans (zFr_st u1531 (Or.inr (by simp))) (zFr_mono fe1 (by simp) (by simp)))) (by decide +kernel) hS5) (k := 1) ge1 (by decide)) (fun v1547 ph1548 hv => ?_)
                      obtain ⟨rfl, fe2, ge2⟩ := hv
                      show zW n D 255 Q 127 [some (.ref 170), some (.int (zn ln)), some (.int (Int32.ofInt 1)), some (.int z9), some (.int (zn i))] [] ph1548
                      refine w_load (pc' := 129) (v := .int (zn i)) (m := 2) (ykc_255 (e := (2, .iload 4, 0)) rfl) rfl rfl ?_
                      refine w_zle (ykc_255 (e := (4, .ifCond .le 12, 141)) rfl) rfl (fun b1549 => ?_) (fun b1549 => ?_)
                      · refine w_alu (pc' := 142) (st' := [.int (Int32.ofInt 0)]) (ykc_255 (e := (0, .iconst 0, 0)) rfl) rfl rfl ?_
                        refine w_ret (v := (some (.int (Int32.ofInt 0)))) (ykc_255 (e := (7, .ireturn, 0)) rfl) (zr_v rfl) ?_
                        have F9 := (show zFr [171] [(170, 1)] p2 ph1548 from (zFr_trans (zFr_trans (zFr_st u1531 (Or.inr (by simp))) (zFr_mono fe1 (by simp) (by simp))) (zFr_mono fe2 (by simp) (by simp))))
                        have F8 : zFr [171, 174, 181, 182, 183, 184, 185, 186, 187, 188] [(170, 0), (170, 1), (170, 14), (170, 15), (170, 16), (170, 17), (170, 27), (170, 34)] ph ph1548 := zFr_trans (zFr_mono F5 (by simp) (by simp)) (zFr_mono F9 (by simp) (by simp))
                        have F7 : zFr [171, 174, 181, 182, 183, 184, 185, 186, 187, 188] [(170, 0), (170, 1), (170, 14), (170, 15), (170, 16), (170, 17), (170, 34)] ph ph1548 := zFr_trans (zFr_mono F5 (by simp) (by simp)) (zFr_mono F9 (by simp) (by simp))
                        have ei : i = 0 := by omega
                        rw [hQ]
                        exact ⟨F8, (F9.1 170 0 (by decide) (by decide)).trans ((FX.1 170 0 (by decide) (by decide)).trans ((fp.1 170 0 (by decide) (by decide)).trans ((hf.1 170 0 (by decide) (by decide)).trans g0))), (F9.1 170 14 (by decide) (by decide)).trans ((FX.1 170 14 (by decide) (by decide)).trans ((fp.1 170 14 (by decide) (by decide)).trans ((hf.1 170 14 (by decide) (by decide)).trans g14))), true, a, k, _, ho, rfl, Or.inr ⟨rfl, hln, i, v2, has, by rw [ei]; decide, Or.inl ⟨ei, zMl_F F7 (by simp) (by simp) (by simp) (by simp) hL, zMp_F F7 (by simp) (by simp) (by simp) hN, zNr_F F9 (by simp) (by simp) hv5, ⟨(F7.1 170 27 (by decide) (by decide)).trans hU.1, hu15, fun j hj => (zUr_F F9 (by simp) (by simp) (zUr_F FX (by simp) (by simp) hr)) j (by omega) |> fun h => (by
                          have h2 := h
                          rw [zWp_lt hj] at h2
                          exact h2)⟩, zMk_F F7 (by simp) (by simp) (by simp) hk9, zMh_F F7 (by simp) (by simp) hh⟩⟩⟩
                      · refine w_load (pc' := 133) (v := .ref 170) (m := 1) (ykc_255 (e := (2, .aload_n kF0, 0)) rfl) rfl rfl ?_
                        refine w_load (pc' := 135) (v := .int (zn i)) (m := 2) (ykc_255 (e := (2, .iload 4, 0)) rfl) rfl rfl ?_
                        refine w_cv (as := [.ref 170, .int (zn i)]) (r := []) (ykc_255 (e := (6, .invokevirtual 341, 0)) rfl) rfl rfl rfl rfl (zm_adds (x := zn i) (zSh_F (show zFr [171] [(170, 1)] p2 ph1548 from (zFr_trans (zFr_trans (zFr_st u1531 (Or.inr (by simp))) (zFr_mono fe1 (by simp) (by simp))) (zFr_mono fe2 (by simp) (by simp)))) (by decide +kernel) hS5) (((show zFr [171] [(170, 1)] p2 ph1548 from (zFr_trans (zFr_trans (zFr_st u1531 (Or.inr (by simp))) (zFr_mono fe1 (by simp) (by simp))) (zFr_mono fe2 (by simp) (by simp)))).1 170 27 (by decide) (by decide)).trans ((F5.1 170 27 (by decide) (by decide)).trans hU.1)) hu15 (zUr_F (show zFr [171] [(170, 1)] p2 ph1548 from (zFr_trans (zFr_trans (zFr_st u1531 (Or.inr (by simp))) (zFr_mono fe1 (by simp) (by simp))) (zFr_mono fe2 (by simp) (by simp)))) (by simp) (by simp) (zUr_F FX (by simp) (by simp) hr))) (fun v1550 ph1551 hv => ?_)
                        obtain ⟨rfl, fa, ga, ra⟩ := hv
                        have fb := (show zFr [171] [(170, 1)] p2 ph1548 from (zFr_trans (zFr_trans (zFr_st u1531 (Or.inr (by simp))) (zFr_mono fe1 (by simp) (by simp))) (zFr_mono fe2 (by simp) (by simp))))
                        show zW n D 255 Q 138 [some (.ref 170), some (.int (zn ln)), some (.int (Int32.ofInt 1)), some (.int z9), some (.int (zn i))] [.int (zn i)] ph1551
                        refine w_br (pc' := 142) (st' := [.int (zn i)]) (ykc_255 (e := (4, .goto 4, 142)) rfl) rfl ?_
                        refine w_ret (v := (some (.int (zn i)))) (ykc_255 (e := (7, .ireturn, 0)) rfl) (zr_v rfl) ?_
                        have F9 : zFr [171, 183] [(170, 1), (170, 27)] p2 ph1551 := zFr_trans (zFr_mono fb (by simp) (by simp)) (zFr_mono fa (by simp) (by simp))
                        have F8 : zFr [171, 174, 181, 182, 183, 184, 185, 186, 187, 188] [(170, 0), (170, 1), (170, 14), (170, 15), (170, 16), (170, 17), (170, 27), (170, 34)] ph ph1551 := zFr_trans (zFr_mono F5 (by simp) (by simp)) (zFr_mono F9 (by simp) (by simp))
                        rw [hQ]
                        exact ⟨F8, (F9.1 170 0 (by decide) (by decide)).trans ((FX.1 170 0 (by decide) (by decide)).trans ((fp.1 170 0 (by decide) (by decide)).trans ((hf.1 170 0 (by decide) (by decide)).trans g0))), (F9.1 170 14 (by decide) (by decide)).trans ((FX.1 170 14 (by decide) (by decide)).trans ((fp.1 170 14 (by decide) (by decide)).trans ((hf.1 170 14 (by decide) (by decide)).trans g14))), true, a, k, _, ho, rfl, Or.inr ⟨rfl, hln, i, v2, has, ti, Or.inr ⟨by omega, zMl_F F8 (by simp) (by simp) (by simp) (by simp) hL, zMp_F F8 (by simp) (by simp) (by simp) hN, zNr_F F9 (by simp) (by simp) hv5, ⟨ga, zAd_15 hu15, ra⟩, zMk_F F8 (by simp) (by simp) (by simp) hk9, zMh_F F8 (by simp) (by simp) hh⟩⟩⟩
                    
                  · refine w_load (pc' := 74) (v := .ref 170) (m := 1) (ykc_255 (e := (2, .aload_n kF0, 0)) rfl) rfl rfl ?_
                    refine w_load (pc' := 76) (v := .int (zn i)) (m := 2) (ykc_255 (e := (2, .iload 4, 0)) rfl) rfl rfl ?_
                    refine w_cv (as := [.ref 170, .int (zn i)]) (r := []) (ykc_255 (e := (6, .invokevirtual 400, 0)) rfl) rfl rfl rfl rfl (zm_doesR (b := min ln 60) (k := k) hS4 (zMe_F4 F4 hE) (zMp_F F4 (by simp) (by simp) (by simp) hN) hv3 hO2 (by omega) (zEd_F hf2 (by simp) (by simp) hD3) hok (by omega) ti (by omega)) (fun v1552 ph1553 hv => ?_)
                    rcases hv with ⟨fd, ⟨v3, hac, rfl, hv4⟩ | ⟨hac, rfl, hv4⟩⟩
                    · show zW n D 255 Q 79 [some (.ref 170), some (.int (zn ln)), some (.int (Int32.ofInt 1)), some (.int z9), some (.int (zn i))] [.int (zI true)] ph1553
                      refine w_beq (ykc_255 (e := (4, .ifCond .eq 9, 88)) rfl) rfl (fun q => absurd q (by decide)) (fun b1554 => ?_)
                      have e1555 : (zn i) + Int32.ofInt 1 = zn (i + 1) := (zaddN (a := i) (b := 1) (znt (by omega)) c_3 (by omega))
                      have te1555 := znt (k := i + 1) (by omega)
                      refine w_store (pc' := 85) (L' := [some (.ref 170), some (.int (zn ln)), some (.int (Int32.ofInt 1)), some (.int z9), some (.int (zn (i + 1)))]) (st' := []) (m := 3) (ykc_255 (e := (3, .iinc 4 1, 0)) rfl) (by rw [← e1555]; rfl) rfl ?_
                      refine w_gb (ykc_255 (e := (4, .goto (-21), 64)) rfl) (fun k1556 hk1556 => ?_)
                      exact ih k1556 hk1556 (i + 1) v3 _ (by omega) (zFr_trans hf2 (zFr_mono fd (by simp) (by simp))) hv4 (by rw [zAr_s hr2]; exact hac)
                    · have has : zAs2 E P G v t k i v2 := ⟨hi, hr2, fun _ => hac⟩
                      have F5 : zFr [174, 181, 182, 183, 184, 185, 186, 187, 188] [(170, 0), (170, 14), (170, 15), (170, 16), (170, 17), (170, 34)] ph ph1553 := zFr_trans F4 (zFr_mono fd (by simp) (by simp))
                      have FX : zFr [174, 181, 182, 184] [] ph1529 ph1553 := zFr_trans hf2 fd
                      have hv5 := hv4
                      show zW n D 255 Q 79 [some (.ref 170), some (.int (zn ln)), some (.int (Int32.ofInt 1)), some (.int z9), some (.int (zn i))] [.int (zI false)] ph1553
                      refine w_beq (ykc_255 (e := (4, .ifCond .eq 9, 88)) rfl) rfl (fun b1557 => ?_) (fun q => absurd q (by decide))
                      have hS5 := zSh_F F5 (by decide +kernel) hS
                      have h34d := (FX.1 170 34 (by decide) (by decide)).trans h34b
                      refine w_load (pc' := 89) (v := .ref 170) (m := 1) (ykc_255 (e := (2, .aload_n kF0, 0)) rfl) rfl rfl ?_
                      refine w_alu (pc' := 90) (st' := [.int (Int32.ofInt 0), .ref 170]) (ykc_255 (e := (0, .iconst 0, 0)) rfl) rfl rfl ?_
                      refine w_pf (pc' := 93) (ykc_255 (e := (5, .putfield 15, 0)) rfl) rfl rfl (fun ph1559 u1558 => ?_)
                      refine w_load (pc' := 94) (v := .ref 170) (m := 1) (ykc_255 (e := (2, .aload_n kF0, 0)) rfl) rfl rfl ?_
                      refine w_load (pc' := 96) (v := .int (zn i)) (m := 2) (ykc_255 (e := (2, .iload 4, 0)) rfl) rfl rfl ?_
                      refine w_load (pc' := 97) (v := .ref 170) (m := 1) (ykc_255 (e := (2, .aload_n kF0, 0)) rfl) rfl rfl ?_
                      refine w_gf (pc' := 100) (v := .int (zn k)) (ykc_255 (e := (5, .getfield 392, 0)) rfl) rfl ((u1558.2.1 170 34 (fun q => absurd q.2 (by decide))).trans h34d) rfl ?_
                      refine w_ige (ykc_255 (e := (4, .if_icmp .ge 7, 107)) rfl) rfl (fun b1560 => ?_) (fun b1560 => ?_)
                      · refine w_alu (pc' := 108) (st' := [.int (Int32.ofInt 0), .ref 170]) (ykc_255 (e := (0, .iconst 0, 0)) rfl) rfl rfl ?_
                        refine w_cs (as := [.int (Int32.ofInt 0)]) (r := [.ref 170]) (ykc_255 (e := (6, .invokestatic 154, 0)) rfl) rfl rfl rfl rfl (zm_flag0) (fun v1561 ph1562 hv => ?_)
                        obtain ⟨rfl, rfl⟩ := hv
                        show zW n D 255 Q 111 [some (.ref 170), some (.int (zn ln)), some (.int (Int32.ofInt 1)), some (.int z9), some (.int (zn i))] [.int (zI false), .ref 170] ph1559
                        refine w_alu (pc' := 112) (st' := [.long ((zI false).toInt64), .ref 170]) (ykc_255 (e := (0, .i2l, 0)) rfl) rfl rfl ?_
                        refine w_cv (as := [.ref 170, .long ((zI false).toInt64)]) (r := []) (ykc_255 (e := (6, .invokevirtual 373, 0)) rfl) rfl rfl rfl rfl (zm_enter (zSh_F (show zFr [171] [(170, 1)] ph1553 ph1559 from (zFr_st u1558 (Or.inr (by simp)))) (by decide +kernel) hS5) (k := 0) u1558.1 (by decide)) (fun v1563 ph1564 hv => ?_)
                        obtain ⟨rfl, fe1, ge1⟩ := hv
                        show zW n D 255 Q 115 [some (.ref 170), some (.int (zn ln)), some (.int (Int32.ofInt 1)), some (.int z9), some (.int (zn i))] [] ph1564
                        refine w_load (pc' := 116) (v := .ref 170) (m := 1) (ykc_255 (e := (2, .aload_n kF0, 0)) rfl) rfl rfl ?_
                        refine w_load (pc' := 117) (v := .ref 170) (m := 1) (ykc_255 (e := (2, .aload_n kF0, 0)) rfl) rfl rfl ?_
                        refine w_gf (pc' := 120) (v := .ref 174) (ykc_255 (e := (5, .getfield 41, 0)) rfl) rfl ((fe1.1 170 11 (by decide) (by decide)).trans ((u1558.2.1 170 11 (fun q => absurd q.2 (by decide))).trans (zsg hS5 zs_170_11))) rfl ?_
                        refine w_push (pc' := 122) (v := .int ((Int8.ofInt 40).toInt32)) (m := 2) (ykc_255 (e := (1, .bipush 40, 0)) rfl) rfl rfl ?_
                        refine w_ialk (pc' := 123) (k := 40) (ykc_255 (e := (5, .iaload, 0)) rfl) ((fe1.1 174 40 (by decide) (by decide)).trans ((u1558.2.1 174 40 (fun q => absurd q.1 (by decide))).trans (zNr0 hv5 (i := 40) (by decide)))) (by omega) rfl ?_
                        refine w_alu (pc' := 124) (st' := [.long ((zn (v2 40)).toInt64), .ref 170]) (ykc_255 (e := (0, .i2l, 0)) rfl) rfl rfl ?_
                        refine w_cv (as := [.ref 170, .long ((zn (v2 40)).toInt64)]) (r := []) (ykc_255 (e := (6, .invokevirtual 373, 0)) rfl) rfl rfl rfl rfl (zm_enter (zSh_F (show zFr [171] [(170, 1)] ph1553 ph1564 from (zFr_trans (zFr_st u1558 (Or.inr (by simp))) (zFr_mono fe1 (by simp) (by simp)))) (by decide +kernel) hS5) (k := 1) ge1 (by decide)) (fun v1565 ph1566 hv => ?_)
                        obtain ⟨rfl, fe2, ge2⟩ := hv
                        show zW n D 255 Q 127 [some (.ref 170), some (.int (zn ln)), some (.int (Int32.ofInt 1)), some (.int z9), some (.int (zn i))] [] ph1566
                        refine w_load (pc' := 129) (v := .int (zn i)) (m := 2) (ykc_255 (e := (2, .iload 4, 0)) rfl) rfl rfl ?_
                        refine w_zle (ykc_255 (e := (4, .ifCond .le 12, 141)) rfl) rfl (fun b1567 => ?_) (fun b1567 => ?_)
                        · refine w_alu (pc' := 142) (st' := [.int (Int32.ofInt 0)]) (ykc_255 (e := (0, .iconst 0, 0)) rfl) rfl rfl ?_
                          refine w_ret (v := (some (.int (Int32.ofInt 0)))) (ykc_255 (e := (7, .ireturn, 0)) rfl) (zr_v rfl) ?_
                          have F9 := (show zFr [171] [(170, 1)] ph1553 ph1566 from (zFr_trans (zFr_trans (zFr_st u1558 (Or.inr (by simp))) (zFr_mono fe1 (by simp) (by simp))) (zFr_mono fe2 (by simp) (by simp))))
                          have F8 : zFr [171, 174, 181, 182, 183, 184, 185, 186, 187, 188] [(170, 0), (170, 1), (170, 14), (170, 15), (170, 16), (170, 17), (170, 27), (170, 34)] ph ph1566 := zFr_trans (zFr_mono F5 (by simp) (by simp)) (zFr_mono F9 (by simp) (by simp))
                          have F7 : zFr [171, 174, 181, 182, 183, 184, 185, 186, 187, 188] [(170, 0), (170, 1), (170, 14), (170, 15), (170, 16), (170, 17), (170, 34)] ph ph1566 := zFr_trans (zFr_mono F5 (by simp) (by simp)) (zFr_mono F9 (by simp) (by simp))
                          have ei : i = 0 := by omega
                          rw [hQ]
                          exact ⟨F8, (F9.1 170 0 (by decide) (by decide)).trans ((FX.1 170 0 (by decide) (by decide)).trans ((fp.1 170 0 (by decide) (by decide)).trans ((hf.1 170 0 (by decide) (by decide)).trans g0))), (F9.1 170 14 (by decide) (by decide)).trans ((FX.1 170 14 (by decide) (by decide)).trans ((fp.1 170 14 (by decide) (by decide)).trans ((hf.1 170 14 (by decide) (by decide)).trans g14))), true, a, k, _, ho, rfl, Or.inr ⟨rfl, hln, i, v2, has, by rw [ei]; decide, Or.inl ⟨ei, zMl_F F7 (by simp) (by simp) (by simp) (by simp) hL, zMp_F F7 (by simp) (by simp) (by simp) hN, zNr_F F9 (by simp) (by simp) hv5, ⟨(F7.1 170 27 (by decide) (by decide)).trans hU.1, hu15, fun j hj => (zUr_F F9 (by simp) (by simp) (zUr_F FX (by simp) (by simp) hr)) j (by omega) |> fun h => (by
                            have h2 := h
                            rw [zWp_lt hj] at h2
                            exact h2)⟩, zMk_F F7 (by simp) (by simp) (by simp) hk9, zMh_F F7 (by simp) (by simp) hh⟩⟩⟩
                        · refine w_load (pc' := 133) (v := .ref 170) (m := 1) (ykc_255 (e := (2, .aload_n kF0, 0)) rfl) rfl rfl ?_
                          refine w_load (pc' := 135) (v := .int (zn i)) (m := 2) (ykc_255 (e := (2, .iload 4, 0)) rfl) rfl rfl ?_
                          refine w_cv (as := [.ref 170, .int (zn i)]) (r := []) (ykc_255 (e := (6, .invokevirtual 341, 0)) rfl) rfl rfl rfl rfl (zm_adds (x := zn i) (zSh_F (show zFr [171] [(170, 1)] ph1553 ph1566 from (zFr_trans (zFr_trans (zFr_st u1558 (Or.inr (by simp))) (zFr_mono fe1 (by simp) (by simp))) (zFr_mono fe2 (by simp) (by simp)))) (by decide +kernel) hS5) (((show zFr [171] [(170, 1)] ph1553 ph1566 from (zFr_trans (zFr_trans (zFr_st u1558 (Or.inr (by simp))) (zFr_mono fe1 (by simp) (by simp))) (zFr_mono fe2 (by simp) (by simp)))).1 170 27 (by decide) (by decide)).trans ((F5.1 170 27 (by decide) (by decide)).trans hU.1)) hu15 (zUr_F (show zFr [171] [(170, 1)] ph1553 ph1566 from (zFr_trans (zFr_trans (zFr_st u1558 (Or.inr (by simp))) (zFr_mono fe1 (by simp) (by simp))) (zFr_mono fe2 (by simp) (by simp)))) (by simp) (by simp) (zUr_F FX (by simp) (by simp) hr))) (fun v1568 ph1569 hv => ?_)
                          obtain ⟨rfl, fa, ga, ra⟩ := hv
                          have fb := (show zFr [171] [(170, 1)] ph1553 ph1566 from (zFr_trans (zFr_trans (zFr_st u1558 (Or.inr (by simp))) (zFr_mono fe1 (by simp) (by simp))) (zFr_mono fe2 (by simp) (by simp))))
                          show zW n D 255 Q 138 [some (.ref 170), some (.int (zn ln)), some (.int (Int32.ofInt 1)), some (.int z9), some (.int (zn i))] [.int (zn i)] ph1569
                          refine w_br (pc' := 142) (st' := [.int (zn i)]) (ykc_255 (e := (4, .goto 4, 142)) rfl) rfl ?_
                          refine w_ret (v := (some (.int (zn i)))) (ykc_255 (e := (7, .ireturn, 0)) rfl) (zr_v rfl) ?_
                          have F9 : zFr [171, 183] [(170, 1), (170, 27)] ph1553 ph1569 := zFr_trans (zFr_mono fb (by simp) (by simp)) (zFr_mono fa (by simp) (by simp))
                          have F8 : zFr [171, 174, 181, 182, 183, 184, 185, 186, 187, 188] [(170, 0), (170, 1), (170, 14), (170, 15), (170, 16), (170, 17), (170, 27), (170, 34)] ph ph1569 := zFr_trans (zFr_mono F5 (by simp) (by simp)) (zFr_mono F9 (by simp) (by simp))
                          rw [hQ]
                          exact ⟨F8, (F9.1 170 0 (by decide) (by decide)).trans ((FX.1 170 0 (by decide) (by decide)).trans ((fp.1 170 0 (by decide) (by decide)).trans ((hf.1 170 0 (by decide) (by decide)).trans g0))), (F9.1 170 14 (by decide) (by decide)).trans ((FX.1 170 14 (by decide) (by decide)).trans ((fp.1 170 14 (by decide) (by decide)).trans ((hf.1 170 14 (by decide) (by decide)).trans g14))), true, a, k, _, ho, rfl, Or.inr ⟨rfl, hln, i, v2, has, ti, Or.inr ⟨by omega, zMl_F F8 (by simp) (by simp) (by simp) (by simp) hL, zMp_F F8 (by simp) (by simp) (by simp) hN, zNr_F F9 (by simp) (by simp) hv5, ⟨ga, zAd_15 hu15, ra⟩, zMk_F F8 (by simp) (by simp) (by simp) hk9, zMh_F F8 (by simp) (by simp) hh⟩⟩⟩
                      · refine w_alu (pc' := 104) (st' := [.int (Int32.ofInt 1), .ref 170]) (ykc_255 (e := (0, .iconst 1, 0)) rfl) rfl rfl ?_
                        refine w_br (pc' := 108) (st' := [.int (Int32.ofInt 1), .ref 170]) (ykc_255 (e := (4, .goto 4, 108)) rfl) rfl ?_
                        refine w_cs (as := [.int (Int32.ofInt 1)]) (r := [.ref 170]) (ykc_255 (e := (6, .invokestatic 154, 0)) rfl) rfl rfl rfl rfl (zm_flag1) (fun v1570 ph1571 hv => ?_)
                        obtain ⟨rfl, rfl⟩ := hv
                        show zW n D 255 Q 111 [some (.ref 170), some (.int (zn ln)), some (.int (Int32.ofInt 1)), some (.int z9), some (.int (zn i))] [.int (zI true), .ref 170] ph1559
                        refine w_alu (pc' := 112) (st' := [.long ((zI true).toInt64), .ref 170]) (ykc_255 (e := (0, .i2l, 0)) rfl) rfl rfl ?_
                        refine w_cv (as := [.ref 170, .long ((zI true).toInt64)]) (r := []) (ykc_255 (e := (6, .invokevirtual 373, 0)) rfl) rfl rfl rfl rfl (zm_enter (zSh_F (show zFr [171] [(170, 1)] ph1553 ph1559 from (zFr_st u1558 (Or.inr (by simp)))) (by decide +kernel) hS5) (k := 0) u1558.1 (by decide)) (fun v1572 ph1573 hv => ?_)
                        obtain ⟨rfl, fe1, ge1⟩ := hv
                        show zW n D 255 Q 115 [some (.ref 170), some (.int (zn ln)), some (.int (Int32.ofInt 1)), some (.int z9), some (.int (zn i))] [] ph1573
                        refine w_load (pc' := 116) (v := .ref 170) (m := 1) (ykc_255 (e := (2, .aload_n kF0, 0)) rfl) rfl rfl ?_
                        refine w_load (pc' := 117) (v := .ref 170) (m := 1) (ykc_255 (e := (2, .aload_n kF0, 0)) rfl) rfl rfl ?_
                        refine w_gf (pc' := 120) (v := .ref 174) (ykc_255 (e := (5, .getfield 41, 0)) rfl) rfl ((fe1.1 170 11 (by decide) (by decide)).trans ((u1558.2.1 170 11 (fun q => absurd q.2 (by decide))).trans (zsg hS5 zs_170_11))) rfl ?_
                        refine w_push (pc' := 122) (v := .int ((Int8.ofInt 40).toInt32)) (m := 2) (ykc_255 (e := (1, .bipush 40, 0)) rfl) rfl rfl ?_
                        refine w_ialk (pc' := 123) (k := 40) (ykc_255 (e := (5, .iaload, 0)) rfl) ((fe1.1 174 40 (by decide) (by decide)).trans ((u1558.2.1 174 40 (fun q => absurd q.1 (by decide))).trans (zNr0 hv5 (i := 40) (by decide)))) (by omega) rfl ?_
                        refine w_alu (pc' := 124) (st' := [.long ((zn (v2 40)).toInt64), .ref 170]) (ykc_255 (e := (0, .i2l, 0)) rfl) rfl rfl ?_
                        refine w_cv (as := [.ref 170, .long ((zn (v2 40)).toInt64)]) (r := []) (ykc_255 (e := (6, .invokevirtual 373, 0)) rfl) rfl rfl rfl rfl (zm_enter (zSh_F (show zFr [171] [(170, 1)] ph1553 ph1573 from (zFr_trans (zFr_st u1558 (Or.inr (by simp))) (zFr_mono fe1 (by simp) (by simp)))) (by decide +kernel) hS5) (k := 1) ge1 (by decide)) (fun v1574 ph1575 hv => ?_)
                        obtain ⟨rfl, fe2, ge2⟩ := hv
                        show zW n D 255 Q 127 [some (.ref 170), some (.int (zn ln)), some (.int (Int32.ofInt 1)), some (.int z9), some (.int (zn i))] [] ph1575
                        refine w_load (pc' := 129) (v := .int (zn i)) (m := 2) (ykc_255 (e := (2, .iload 4, 0)) rfl) rfl rfl ?_
                        refine w_zle (ykc_255 (e := (4, .ifCond .le 12, 141)) rfl) rfl (fun b1576 => ?_) (fun b1576 => ?_)
                        · refine w_alu (pc' := 142) (st' := [.int (Int32.ofInt 0)]) (ykc_255 (e := (0, .iconst 0, 0)) rfl) rfl rfl ?_
                          refine w_ret (v := (some (.int (Int32.ofInt 0)))) (ykc_255 (e := (7, .ireturn, 0)) rfl) (zr_v rfl) ?_
                          have F9 := (show zFr [171] [(170, 1)] ph1553 ph1575 from (zFr_trans (zFr_trans (zFr_st u1558 (Or.inr (by simp))) (zFr_mono fe1 (by simp) (by simp))) (zFr_mono fe2 (by simp) (by simp))))
                          have F8 : zFr [171, 174, 181, 182, 183, 184, 185, 186, 187, 188] [(170, 0), (170, 1), (170, 14), (170, 15), (170, 16), (170, 17), (170, 27), (170, 34)] ph ph1575 := zFr_trans (zFr_mono F5 (by simp) (by simp)) (zFr_mono F9 (by simp) (by simp))
                          have F7 : zFr [171, 174, 181, 182, 183, 184, 185, 186, 187, 188] [(170, 0), (170, 1), (170, 14), (170, 15), (170, 16), (170, 17), (170, 34)] ph ph1575 := zFr_trans (zFr_mono F5 (by simp) (by simp)) (zFr_mono F9 (by simp) (by simp))
                          have ei : i = 0 := by omega
                          rw [hQ]
                          exact ⟨F8, (F9.1 170 0 (by decide) (by decide)).trans ((FX.1 170 0 (by decide) (by decide)).trans ((fp.1 170 0 (by decide) (by decide)).trans ((hf.1 170 0 (by decide) (by decide)).trans g0))), (F9.1 170 14 (by decide) (by decide)).trans ((FX.1 170 14 (by decide) (by decide)).trans ((fp.1 170 14 (by decide) (by decide)).trans ((hf.1 170 14 (by decide) (by decide)).trans g14))), true, a, k, _, ho, rfl, Or.inr ⟨rfl, hln, i, v2, has, by rw [ei]; decide, Or.inl ⟨ei, zMl_F F7 (by simp) (by simp) (by simp) (by simp) hL, zMp_F F7 (by simp) (by simp) (by simp) hN, zNr_F F9 (by simp) (by simp) hv5, ⟨(F7.1 170 27 (by decide) (by decide)).trans hU.1, hu15, fun j hj => (zUr_F F9 (by simp) (by simp) (zUr_F FX (by simp) (by simp) hr)) j (by omega) |> fun h => (by
                            have h2 := h
                            rw [zWp_lt hj] at h2
                            exact h2)⟩, zMk_F F7 (by simp) (by simp) (by simp) hk9, zMh_F F7 (by simp) (by simp) hh⟩⟩⟩
                        · refine w_load (pc' := 133) (v := .ref 170) (m := 1) (ykc_255 (e := (2, .aload_n kF0, 0)) rfl) rfl rfl ?_
                          refine w_load (pc' := 135) (v := .int (zn i)) (m := 2) (ykc_255 (e := (2, .iload 4, 0)) rfl) rfl rfl ?_
                          refine w_cv (as := [.ref 170, .int (zn i)]) (r := []) (ykc_255 (e := (6, .invokevirtual 341, 0)) rfl) rfl rfl rfl rfl (zm_adds (x := zn i) (zSh_F (show zFr [171] [(170, 1)] ph1553 ph1575 from (zFr_trans (zFr_trans (zFr_st u1558 (Or.inr (by simp))) (zFr_mono fe1 (by simp) (by simp))) (zFr_mono fe2 (by simp) (by simp)))) (by decide +kernel) hS5) (((show zFr [171] [(170, 1)] ph1553 ph1575 from (zFr_trans (zFr_trans (zFr_st u1558 (Or.inr (by simp))) (zFr_mono fe1 (by simp) (by simp))) (zFr_mono fe2 (by simp) (by simp)))).1 170 27 (by decide) (by decide)).trans ((F5.1 170 27 (by decide) (by decide)).trans hU.1)) hu15 (zUr_F (show zFr [171] [(170, 1)] ph1553 ph1575 from (zFr_trans (zFr_trans (zFr_st u1558 (Or.inr (by simp))) (zFr_mono fe1 (by simp) (by simp))) (zFr_mono fe2 (by simp) (by simp)))) (by simp) (by simp) (zUr_F FX (by simp) (by simp) hr))) (fun v1577 ph1578 hv => ?_)
                          obtain ⟨rfl, fa, ga, ra⟩ := hv
                          have fb := (show zFr [171] [(170, 1)] ph1553 ph1575 from (zFr_trans (zFr_trans (zFr_st u1558 (Or.inr (by simp))) (zFr_mono fe1 (by simp) (by simp))) (zFr_mono fe2 (by simp) (by simp))))
                          show zW n D 255 Q 138 [some (.ref 170), some (.int (zn ln)), some (.int (Int32.ofInt 1)), some (.int z9), some (.int (zn i))] [.int (zn i)] ph1578
                          refine w_br (pc' := 142) (st' := [.int (zn i)]) (ykc_255 (e := (4, .goto 4, 142)) rfl) rfl ?_
                          refine w_ret (v := (some (.int (zn i)))) (ykc_255 (e := (7, .ireturn, 0)) rfl) (zr_v rfl) ?_
                          have F9 : zFr [171, 183] [(170, 1), (170, 27)] ph1553 ph1578 := zFr_trans (zFr_mono fb (by simp) (by simp)) (zFr_mono fa (by simp) (by simp))
                          have F8 : zFr [171, 174, 181, 182, 183, 184, 185, 186, 187, 188] [(170, 0), (170, 1), (170, 14), (170, 15), (170, 16), (170, 17), (170, 27), (170, 34)] ph ph1578 := zFr_trans (zFr_mono F5 (by simp) (by simp)) (zFr_mono F9 (by simp) (by simp))
                          rw [hQ]
                          exact ⟨F8, (F9.1 170 0 (by decide) (by decide)).trans ((FX.1 170 0 (by decide) (by decide)).trans ((fp.1 170 0 (by decide) (by decide)).trans ((hf.1 170 0 (by decide) (by decide)).trans g0))), (F9.1 170 14 (by decide) (by decide)).trans ((FX.1 170 14 (by decide) (by decide)).trans ((fp.1 170 14 (by decide) (by decide)).trans ((hf.1 170 14 (by decide) (by decide)).trans g14))), true, a, k, _, ho, rfl, Or.inr ⟨rfl, hln, i, v2, has, ti, Or.inr ⟨by omega, zMl_F F8 (by simp) (by simp) (by simp) (by simp) hL, zMp_F F8 (by simp) (by simp) (by simp) hN, zNr_F F9 (by simp) (by simp) hv5, ⟨ga, zAd_15 hu15, ra⟩, zMk_F F8 (by simp) (by simp) (by simp) hk9, zMh_F F8 (by simp) (by simp) hh⟩⟩⟩
                      
                    
              exact hl2 n 0 v _ (Nat.zero_le _) zFr_refl hv2 rfl
              
            
          · refine w_load (pc' := 56) (v := .int z9) (m := 1) (ykc_255 (e := (2, .iload_n kF3, 0)) rfl) rfl rfl ?_
            refine w_ret (v := (some (.int z9))) (ykc_255 (e := (7, .ireturn, 0)) rfl) (zr_v rfl) ?_
            rw [hQ]
            exact ⟨zFr_mono F2 (by simp) (by simp), (hf.1 170 0 (by decide) (by decide)).trans g0, (hf.1 170 14 (by decide) (by decide)).trans g14, true, a, k, z9, ho, rfl, Or.inl ⟨fun q => absurd q.2 (by omega), by omega, ⟨zMl_F F2 (by simp) (by simp) (by simp) (by simp) hL, zMp_F F2 (by simp) (by simp) (by simp) hN, zNr_F F2 (by simp) (by simp) hv, zMu_F F2 (by simp) (by simp) (by simp) hU, zMk_F F2 (by simp) (by simp) (by simp) hk9, zMh_F F2 (by simp) (by simp) hh⟩⟩⟩
        
      · refine w_load (pc' := 35) (v := .ref 170) (m := 1) (ykc_255 (e := (2, .aload_n kF0, 0)) rfl) rfl rfl ?_
        refine w_cv (as := [.ref 170]) (r := []) (ykc_255 (e := (6, .invokevirtual 397, 0)) rfl) rfl rfl rfl rfl (zm_readsAct hSp hTa h34 (by omega) (by omega)) (fun v1579 ph1580 hv => ?_)
        rcases hv with ⟨fr, gr1, gr2, ⟨rfl, w1, w2, w3, wT, w4, w5, w6, w7⟩ | ⟨rfl, a2, hb2, wT⟩⟩
        · have hg9 : zDg (min ln 60) t k := ⟨by rw [hka]; exact w1, by rw [hka]; exact w2, by rw [hka]; exact w3⟩
          show zW n D 255 Q 38 [some (.ref 170), some (.int (zn ln)), some (.int (Int32.ofInt 1)), none, none] [.int (zI true)] ph1580
          refine w_store (pc' := 39) (L' := [some (.ref 170), some (.int (zn ln)), some (.int (zI true)), none, none]) (st' := []) (m := 1) (ykc_255 (e := (3, .istore_n kF2, 0)) rfl) rfl rfl ?_
          refine w_gb (ykc_255 (e := (4, .goto (-20), 19)) rfl) (fun k1581 hk1581 => ?_)
          exact ih k1581 hk1581 (k + 1) _ _ (zFr_trans hf fr) wT gr1 (zDok_s hok hg9) (by show zDp t k + 1 + zdw (t (zDp t k)) = _; rw [hka]) (fun i hi => by
            by_cases e : i = k
            · subst e
              rw [hka]
              exact ⟨w4, w5, w6, w7⟩
            · obtain ⟨o1, o2, o3, o4⟩ := gr2 i e
              obtain ⟨d1, d2, d3, d4⟩ := hD i (by omega)
              exact ⟨o1.trans d1, o2.trans d2, fun h => o3.trans (d3 h), fun h => o4.trans (d4 h)⟩)
        · show zW n D 255 Q 38 [some (.ref 170), some (.int (zn ln)), some (.int (Int32.ofInt 1)), none, none] [.int (zI false)] ph1580
          refine w_store (pc' := 39) (L' := [some (.ref 170), some (.int (zn ln)), some (.int (zI false)), none, none]) (st' := []) (m := 1) (ykc_255 (e := (3, .istore_n kF2, 0)) rfl) rfl rfl ?_
          refine w_gb (ykc_255 (e := (4, .goto (-20), 19)) rfl) (fun k1582 hk1582 => ?_)
          refine w_load (pc' := 20) (v := .int (zI false)) (m := 1) (ykc_255 (e := (2, .iload_n kF2, 0)) rfl) rfl rfl ?_
          refine w_beq (ykc_255 (e := (4, .ifCond .eq 22, 42)) rfl) rfl (fun b1583 => ?_) (fun q => absurd q (by decide))
          refine w_load (pc' := 43) (v := .ref 170) (m := 1) (ykc_255 (e := (2, .aload_n kF0, 0)) rfl) rfl rfl ?_
          refine w_load (pc' := 44) (v := .int (zn ln)) (m := 1) (ykc_255 (e := (2, .iload_n kF1, 0)) rfl) rfl rfl ?_
          refine w_push (pc' := 46) (v := .int ((Int8.ofInt 60).toInt32)) (m := 2) (ykc_255 (e := (1, .bipush 60, 0)) rfl) rfl rfl ?_
          refine w_load (pc' := 47) (v := .int (zI false)) (m := 1) (ykc_255 (e := (2, .iload_n kF2, 0)) rfl) rfl rfl ?_
          have ho : zDo (min ln 60) t false a2 k := ⟨hok, Or.inr ⟨rfl, by rw [hka]; exact hb2⟩⟩
          have ha2 := zDo_a ho
          have F3 : zFr [185, 186, 187, 188] [(170, 0), (170, 14), (170, 15), (170, 16), (170, 17), (170, 34)] ph ph1580 := zFr_trans F2 (zFr_mono fr (by simp) (by simp))
          refine w_cv (as := [.ref 170, .int (zn ln), .int ((Int8.ofInt 60).toInt32), .int (zI false)]) (r := []) (ykc_255 (e := (6, .invokevirtual 213, 0)) rfl) rfl rfl rfl rfl (zm_fault (is := false) (n9 := ln) (c := 60) (zSh_F F3 (by decide +kernel) hS) wT (by omega) (by decide)) (fun v1584 ph1585 hv => ?_)
          rcases hv with ⟨rfl, z9, rfl, hz9⟩
          · have hzn : z9.toInt = -1 - (a2 : Int) := by
              rw [hz9, zFo_b]
              split <;> omega
            show zW k1582 D 255 Q 50 [some (.ref 170), some (.int (zn ln)), some (.int (zI false)), none, none] [.int z9] ph1580
            refine w_store (pc' := 51) (L' := [some (.ref 170), some (.int (zn ln)), some (.int (zI false)), some (.int z9), none]) (st' := []) (m := 1) (ykc_255 (e := (3, .istore_n kF3, 0)) rfl) rfl rfl ?_
            refine w_load (pc' := 52) (v := .int z9) (m := 1) (ykc_255 (e := (2, .iload_n kF3, 0)) rfl) rfl rfl ?_
            refine w_zge (ykc_255 (e := (4, .ifCond .ge 5, 57)) rfl) rfl (fun q => by exfalso; omega) (fun b1586 => ?_)
            refine w_load (pc' := 56) (v := .int z9) (m := 1) (ykc_255 (e := (2, .iload_n kF3, 0)) rfl) rfl rfl ?_
            refine w_ret (v := (some (.int z9))) (ykc_255 (e := (7, .ireturn, 0)) rfl) (zr_v rfl) ?_
            rw [hQ]
            exact ⟨zFr_mono F3 (by simp) (by simp), (fr.1 170 0 (by decide) (by decide)).trans ((hf.1 170 0 (by decide) (by decide)).trans g0), (fr.1 170 14 (by decide) (by decide)).trans ((hf.1 170 14 (by decide) (by decide)).trans g14), false, a2, k, z9, ho, rfl, Or.inl ⟨fun q => absurd q.1 (by decide), hzn, ⟨zMl_F F3 (by simp) (by simp) (by simp) (by simp) hL, zMp_F F3 (by simp) (by simp) (by simp) hN, zNr_F F3 (by simp) (by simp) hv, zMu_F F3 (by simp) (by simp) (by simp) hU, zMk_F F3 (by simp) (by simp) (by simp) hk9, zMh_F F3 (by simp) (by simp) hh⟩⟩⟩
          
        
  exact hl1 n 0 0 _ zFr_refl hT1 g34 (fun i hi => absurd hi (Nat.not_lt_zero i)) rfl (fun i hi => absurd hi (Nat.not_lt_zero i))
  
theorem zc_plActs {ph : pm_H} {k : Nat} (hk : zc ph 157 2 = some (.int (zn k))) : zM 62 [.ref 157] ph (fun v0 q => ph = q ∧ v0 = some (.int (zn k))) := by
  obtain ⟨Q, hQ⟩ : ∃ Q : Option Value → pm_H → Prop, Q = (fun v0 q => ph = q ∧ v0 = some (.int (zn k))) := ⟨_, rfl⟩
  rw [← hQ]
  refine zM_mk fun n D => ?_
  show zW n D 62 Q 0 [some (.ref 157)] [] ph
  refine w_load (pc' := 1) (v := .ref 157) (m := 1) (ykc_62 (e := (2, .aload_n kF0, 0)) rfl) rfl rfl ?_
  refine w_gf (pc' := 4) (v := .int (zn k)) (ykc_62 (e := (5, .getfield 18, 0)) rfl) rfl hk rfl ?_
  refine w_ret (v := (some (.int (zn k)))) (ykc_62 (e := (7, .ireturn, 0)) rfl) (zr_v rfl) ?_
  rw [hQ]
  exact ⟨rfl, rfl⟩
theorem zCi_F2 {A : List Nat} {L : List (Nat × Nat)} {p q : pm_H} {E : zEn} {F : Nat} (f : zFr A L p q) (h1 : 5 ∉ A ∧ 6 ∉ A ∧ 7 ∉ A ∧ 10 ∉ A ∧ 21 ∉ A ∧ 11 ∉ A ∧ 12 ∉ A ∧ 16 ∉ A ∧ 17 ∉ A) (h2 : ∀ i, i < 4 → (5, i) ∉ L) (h3 : ∀ i, (6, i) ∉ L ∧ (7, i) ∉ L ∧ (21, i) ∉ L ∧ (11, i) ∉ L ∧ (12, i) ∉ L ∧ (16, i) ∉ L ∧ (17, i) ∉ L) (h4 : (10, 4) ∉ L) (h : zCe p E F) : zCe q E F := by
  obtain ⟨a1, a2, a3, a4⟩ := h
  refine ⟨zCl_F f ⟨h1.1, h1.2.1, h1.2.2.1⟩ h2 (fun i => ⟨(h3 i).1, (h3 i).2.1⟩) a1, zCi_F f ⟨h1.2.2.2.1, h1.2.2.2.2.1⟩ ⟨h4, fun i => (h3 i).2.2.1⟩ a2, ?_, a4⟩
  rcases a4 with e | e <;> subst e
  · exact zFm_F f ⟨h1.2.2.2.2.2.1, h1.2.2.2.2.2.2.1⟩ (fun i => ⟨(h3 i).2.2.2.1, (h3 i).2.2.2.2.1⟩) a3
  · exact zFm_F f ⟨h1.2.2.2.2.2.2.2.1, h1.2.2.2.2.2.2.2.2⟩ (fun i => ⟨(h3 i).2.2.2.2.2.1, (h3 i).2.2.2.2.2.2⟩) a3
theorem zCe_pl {p q : pm_H} {E : zEn} {F : Nat} (f : zFr [158, 159] [(157, 2), (1, 1)] p q) (h : zCe p E F) : zCe q E F := zCi_F2 f (by simp) (by intro i hi; simp) (by simp) (by simp) h
theorem zCe_31 {p q : pm_H} {E : zEn} {F : Nat} (f : zCo 31 p q) (h : zCe p E F) : zCe q E F := zCi_F2 f (by simp) (by intro i hi; simp) (by simp) (by simp) h
theorem zCe_fa {p q : pm_H} {E : zEn} {F : Nat} (f : zFr [8, 9, 15, 20, 22, 23, 24, 26, 27, 28, 29, 30] [(5, 4), (25, 2)] p q) (h : zCe p E F) : zCe q E F := zCi_F2 f (by simp) (by intro i hi; simp <;> omega) (by simp) (by simp) h
theorem zCe_n {p q : pm_H} {E : zEn} {F : Nat} (f : zFr [4] [(3, 1)] p q) (h : zCe p E F) : zCe q E F := zCi_F2 f (by simp) (by intro i hi; simp) (by simp) (by simp) h
theorem zCe_q {p q : pm_H} {E : zEn} {F nx : Nat} (hnx : nx < 15) (f : zFr [45 + 6 * nx + 1, 45 + 6 * nx + 2, 45 + 6 * nx + 3, 45 + 6 * nx + 4, 45 + 6 * nx + 5] [(45 + 6 * nx, 0), (45 + 6 * nx, 1), (45 + 6 * nx, 2), (43, 1), (43, 2)] p q) (h : zCe p E F) : zCe q E F := zCi_F2 f (by simp <;> omega) (by intro i hi; simp <;> omega) (by intro i; simp <;> omega) (by simp <;> omega) h
theorem zc_day {ph : pm_H} {E : zEn} {F P G nx u fl hn ln : Nat} {v t : Nat → Nat} {w sv : Nat → Nat → Nat} (hS : zSh ph) (hK : zKC ph E.1 E.2.1 E.2.2.1 P G v nx u w fl sv hn) (hE : zCe ph E F) (hr : zc ph 10 1 = some (.ref F)) (hc : zCc ph E.1 E.2.1 E.2.2.1) (hO : zOk E.1 E.2.1 P G v) (h40 : v 40 < 990000) (hT : zTc ph ln t) : zM 138 [.ref 0] ph (fun v0 q => zc q 1 1 = some (.int (zn 0)) ∧ zCe q E F ∧ zc q 10 1 = some (.ref F) ∧ zCc q E.1 E.2.1 E.2.2.1 ∧ ∃ (ok : Bool) (a k : Nat) (y : Int32), zDo (min ln 60) t ok a k ∧ v0 = some (.int y) ∧ ((¬ (ok = true ∧ ln ≤ 60) ∧ y.toInt = -1 - (a : Int) ∧ zKC q E.1 E.2.1 E.2.2.1 P G v nx u w fl sv hn) ∨ (ok = true ∧ ln ≤ 60 ∧ ∃ i v2, zAs2 E P G v t k i v2 ∧ y.toInt = (i : Int) ∧ ((i = 0 ∧ zKC q E.1 E.2.1 E.2.2.1 P G v2 nx u w fl sv hn) ∨ (0 < i ∧ ∃ nx1, zKC q E.1 E.2.1 E.2.2.1 P G v2 nx1 (zAd u) (zAw u (zWp u w v)) fl sv hn))))) := by
  obtain ⟨Q, hQ⟩ : ∃ Q : Option Value → pm_H → Prop, Q = (fun v0 q => zc q 1 1 = some (.int (zn 0)) ∧ zCe q E F ∧ zc q 10 1 = some (.ref F) ∧ zCc q E.1 E.2.1 E.2.2.1 ∧ ∃ (ok : Bool) (a k : Nat) (y : Int32), zDo (min ln 60) t ok a k ∧ v0 = some (.int y) ∧ ((¬ (ok = true ∧ ln ≤ 60) ∧ y.toInt = -1 - (a : Int) ∧ zKC q E.1 E.2.1 E.2.2.1 P G v nx u w fl sv hn) ∨ (ok = true ∧ ln ≤ 60 ∧ ∃ i v2, zAs2 E P G v t k i v2 ∧ y.toInt = (i : Int) ∧ ((i = 0 ∧ zKC q E.1 E.2.1 E.2.2.1 P G v2 nx u w fl sv hn) ∨ (0 < i ∧ ∃ nx1, zKC q E.1 E.2.1 E.2.2.1 P G v2 nx1 (zAd u) (zAw u (zWp u w v)) fl sv hn))))) := ⟨_, rfl⟩
  rw [← hQ]
  refine zM_mk fun n D => ?_
  show zW n D 138 Q 0 [some (.ref 0), none, none] [] ph
  have c_0 : (Int32.ofInt (-1)).toInt = -1 := by decide
  have c_1 : (Int32.ofInt 0).toInt = 0 := by decide
  have c_2 : (Int32.ofInt 1).toInt = 1 := by decide
  have hP8 : P ≤ 8 := hK.2.1.2.1
  have hG8 : G ≤ 8 := hK.2.1.2.2.2.1
  have hln80 := hT.2.1
  refine w_load (pc' := 1) (v := .ref 0) (m := 1) (ykc_138 (e := (2, .aload_n kF0, 0)) rfl) rfl rfl ?_
  refine w_gf (pc' := 4) (v := .ref 157) (ykc_138 (e := (5, .getfield 69, 0)) rfl) rfl (zsg hS zs_0_9) rfl ?_
  refine w_load (pc' := 5) (v := .ref 0) (m := 1) (ykc_138 (e := (2, .aload_n kF0, 0)) rfl) rfl rfl ?_
  refine w_gf (pc' := 8) (v := .ref 1) (ykc_138 (e := (5, .getfield 10, 0)) rfl) rfl (zsg hS zs_0_0) rfl ?_
  refine w_cv (as := [.ref 157, .ref 1]) (r := []) (ykc_138 (e := (6, .invokevirtual 271, 0)) rfl) rfl rfl rfl rfl (zc_planRead hS hT) (fun v1587 ph1588 hv => ?_)
  rcases hv with ⟨f1, ok, a, k, ho, ⟨hok, hl60, rfl, hk30, hk2, hdd⟩ | ⟨hno, rfl⟩⟩
  · have ha60 := zDo_a ho
    have ta := znt (k := a) (by omega)
    have tm1 : (Int32.ofInt (-1)).toInt = -1 := by decide
    show zW n D 138 Q 11 [some (.ref 0), none, none] [.int (Int32.ofInt (-1))] ph1588
    refine w_store (pc' := 12) (L' := [some (.ref 0), some (.int (Int32.ofInt (-1))), none]) (st' := []) (m := 1) (ykc_138 (e := (3, .istore_n kF1, 0)) rfl) rfl rfl ?_
    refine w_load (pc' := 13) (v := .ref 0) (m := 1) (ykc_138 (e := (2, .aload_n kF0, 0)) rfl) rfl rfl ?_
    refine w_gf (pc' := 16) (v := .ref 1) (ykc_138 (e := (5, .getfield 10, 0)) rfl) rfl ((f1.1 0 0 (by decide) (by decide)).trans (zsg hS zs_0_0)) rfl ?_
    refine w_cv (as := [.ref 1]) (r := []) (ykc_138 (e := (6, .invokevirtual 119, 0)) rfl) rfl rfl rfl rfl (zc_tclear) (fun v1589 ph1590 hv => ?_)
    obtain ⟨rfl, f2, g1⟩ := hv
    have fz : zFr [158, 159] [(157, 2), (1, 1)] ph _ := zFr_trans (zFr_mono f1 (by simp) (by simp)) (zFr_mono f2 (by simp) (by simp))
    show zW n D 138 Q 19 [some (.ref 0), some (.int (Int32.ofInt (-1))), none] [] ph1590
    refine w_load (pc' := 20) (v := .int (Int32.ofInt (-1))) (m := 1) (ykc_138 (e := (2, .iload_n kF1, 0)) rfl) rfl rfl ?_
    refine w_zlt (ykc_138 (e := (4, .ifCond .lt 7, 27)) rfl) rfl (fun b1591 => ?_) (fun q => by exfalso; omega)
    refine w_load (pc' := 28) (v := .ref 0) (m := 1) (ykc_138 (e := (2, .aload_n kF0, 0)) rfl) rfl rfl ?_
    refine w_gf (pc' := 31) (v := .ref 31) (ykc_138 (e := (5, .getfield 46, 0)) rfl) rfl ((f2.1 0 5 (by decide) (by decide)).trans ((f1.1 0 5 (by decide) (by decide)).trans (zsg hS zs_0_5))) rfl ?_
    refine w_load (pc' := 32) (v := .ref 0) (m := 1) (ykc_138 (e := (2, .aload_n kF0, 0)) rfl) rfl rfl ?_
    refine w_gf (pc' := 35) (v := .ref 25) (ykc_138 (e := (5, .getfield 42, 0)) rfl) rfl ((f2.1 0 4 (by decide) (by decide)).trans ((f1.1 0 4 (by decide) (by decide)).trans (zsg hS zs_0_4))) rfl ?_
    have hSz := zSh_F fz (by decide +kernel) hS
    have hKz := zKC_pl fz hK
    have hEz := zCe_pl fz hE
    have hrz := (fz.1 10 1 (by decide) (by decide)).trans hr
    have hcz := zCc_F fz (by simp) (by simp) (by simp) hc
    have hkz := (f2.1 157 2 (by decide) (by decide)).trans hk2
    have hdz := zDd_F f2 (by simp) (by simp) hdd
    refine w_cv (as := [.ref 31, .ref 25]) (r := []) (ykc_138 (e := (6, .invokevirtual 235, 0)) rfl) rfl rfl rfl rfl (zc_copy (zSs_of hSz (S := 25) (by decide)) (zSs_of hSz (S := 31) (by decide)) hKz.2.1 (by omega)) (fun v1592 ph1593 hv => ?_)
    rcases hv with ⟨rfl, fb, db⟩
    · show zW n D 138 Q 38 [some (.ref 0), some (.int (Int32.ofInt (-1))), none] [] ph1593
      refine w_alu (pc' := 39) (st' := [.int (Int32.ofInt 0)]) (ykc_138 (e := (0, .iconst 0, 0)) rfl) rfl rfl ?_
      refine w_store (pc' := 40) (L' := [some (.ref 0), some (.int (Int32.ofInt (-1))), some (.int (Int32.ofInt 0))]) (st' := []) (m := 1) (ykc_138 (e := (3, .istore_n kF2, 0)) rfl) rfl rfl ?_
      have hSb := zCo_S (S := 31) (by decide) fb hSz
      have hKb := zKC_31 fb hKz
      have hEb : zCe ph1593 E F := zCe_31 fb hEz
      have hrb := (fb.1 10 1 (by simp) (by simp)).trans hrz
      have hcb := zCc_F fb (by simp) (by simp) (by simp) hcz
      have hkb := (fb.1 157 2 (by simp) (by simp)).trans hkz
      have hdb := zDd_F fb (by simp) (by simp) hdz
      have hgb := (fb.1 1 1 (by simp) (by simp)).trans g1
      have htb : zCt ph1593 25 P G v := ⟨⟨by decide, zSs_of hSb (S := 25) (by decide)⟩, hKb.2.1⟩
      have hl1 : ∀ (n : Nat), ∀ (i : Nat) (v2 : Nat → Nat) (p : pm_H), (i ≤ k) → (zFr [8, 9, 15, 20, 22, 23, 24, 26, 27, 28, 29, 30] [(5, 4), (25, 2)] ph1593 p) → (zCt p 25 P G v2) → (zCc p E.1 E.2.1 E.2.2.1) → (zAr E P G v t i = some v2) → zW n D 138 Q 40 [some (.ref 0), some (.int (Int32.ofInt (-1))), some (.int (zn i))] [] p := by
        intro n
        induction n using Nat.strongRecOn with
        | ind n ih =>
          intro i v2 p hi hf ht2 hc2 hr2
          have ti := znt (k := i) (by omega)
          have tk := znt (k := k) (by omega)
          have hSp := zSh_F hf (by decide +kernel) hSb
          have hkp := (hf.1 157 2 (by simp) (by simp)).trans hkb
          obtain ⟨hO2, h402⟩ := zAr_ok hO hP8 hG8 ho.1 (by omega) i hi hr2
          have hEp := zCe_fa hf hEb
          have hrp := (hf.1 10 1 (by simp) (by simp)).trans hrb
          refine w_load (pc' := 41) (v := .int (zn i)) (m := 1) (ykc_138 (e := (2, .iload_n kF2, 0)) rfl) rfl rfl ?_
          refine w_load (pc' := 42) (v := .ref 0) (m := 1) (ykc_138 (e := (2, .aload_n kF0, 0)) rfl) rfl rfl ?_
          refine w_gf (pc' := 45) (v := .ref 157) (ykc_138 (e := (5, .getfield 69, 0)) rfl) rfl ((hf.1 0 9 (by decide) (by decide)).trans ((fb.1 0 9 (by decide) (by decide)).trans ((f2.1 0 9 (by decide) (by decide)).trans ((f1.1 0 9 (by decide) (by decide)).trans (zsg hS zs_0_9))))) rfl ?_
          refine w_cv (as := [.ref 157]) (r := [.int (zn i)]) (ykc_138 (e := (6, .invokevirtual 272, 0)) rfl) rfl rfl rfl rfl (zc_plActs hkp) (fun v1594 ph1595 hv => ?_)
          obtain ⟨rfl, rfl⟩ := hv
          show zW n D 138 Q 48 [some (.ref 0), some (.int (Int32.ofInt (-1))), some (.int (zn i))] [.int (zn k), .int (zn i)] p
          refine w_ige (ykc_138 (e := (4, .if_icmp .ge 17, 65)) rfl) rfl (fun b1596 => ?_) (fun b1596 => ?_)
          · refine w_load (pc' := 66) (v := .int (zn i)) (m := 1) (ykc_138 (e := (2, .iload_n kF2, 0)) rfl) rfl rfl ?_
            have has : zAs2 E P G v t k i v2 := ⟨hi, hr2, fun q => absurd q (by omega)⟩
            have FX := hf
            have ht3 := ht2
            have hc3 := hc2
            have hSx := zSh_F FX (by decide +kernel) hSb
            have hKx := zKC_fa FX hKb ht3.2
            have hEx := zCe_fa FX hEb
            have hrx := (FX.1 10 1 (by simp) (by simp)).trans hrb
            have hgx := (FX.1 1 1 (by simp) (by simp)).trans hgb
            have dbx := zSd_F FX (by intro j hj; simp <;> omega) (by intro j i hj; simp <;> omega) db
            have hkx := (FX.1 157 2 (by simp) (by simp)).trans hkb
            have hnx := hKx.2.2.1.2.1
            refine w_zle (ykc_138 (e := (4, .ifCond .le 14, 80)) rfl) rfl (fun b1597 => ?_) (fun b1597 => ?_)
            · have hKy := hKx
              have hSy := hSx
              have hgy := hgx
              have hEy := hEx
              have hry := hrx
              have hcy := hc3
              refine w_load (pc' := 81) (v := .ref 0) (m := 1) (ykc_138 (e := (2, .aload_n kF0, 0)) rfl) rfl rfl ?_
              refine w_gf (pc' := 84) (v := .ref 3) (ykc_138 (e := (5, .getfield 19, 0)) rfl) rfl ((hf.1 0 1 (by decide) (by decide)).trans ((fb.1 0 1 (by decide) (by decide)).trans ((f2.1 0 1 (by decide) (by decide)).trans ((f1.1 0 1 (by decide) (by decide)).trans (zsg hS zs_0_1))))) rfl ?_
              refine w_cv (as := [.ref 3]) (r := []) (ykc_138 (e := (6, .invokevirtual 245, 0)) rfl) rfl rfl rfl rfl (zc_anew) (fun v1598 ph1599 hv => ?_)
              obtain ⟨rfl, fn1, gn1⟩ := hv
              show zW n D 138 Q 87 [some (.ref 0), some (.int (Int32.ofInt (-1))), some (.int (zn i))] [.ref 3] ph1599
              refine w_load (pc' := 88) (v := .int (zn i)) (m := 1) (ykc_138 (e := (2, .iload_n kF2, 0)) rfl) rfl rfl ?_
              refine w_load (pc' := 89) (v := .ref 0) (m := 1) (ykc_138 (e := (2, .aload_n kF0, 0)) rfl) rfl rfl ?_
              refine w_gf (pc' := 92) (v := .ref 157) (ykc_138 (e := (5, .getfield 69, 0)) rfl) rfl ((fn1.1 0 9 (by decide) (by decide)).trans ((hf.1 0 9 (by decide) (by decide)).trans ((fb.1 0 9 (by decide) (by decide)).trans ((f2.1 0 9 (by decide) (by decide)).trans ((f1.1 0 9 (by decide) (by decide)).trans (zsg hS zs_0_9)))))) rfl ?_
              refine w_cv (as := [.ref 157]) (r := [.int (zn i), .ref 3]) (ykc_138 (e := (6, .invokevirtual 272, 0)) rfl) rfl rfl rfl rfl (zc_plActs ((fn1.1 157 2 (by simp <;> omega) (by simp <;> omega)).trans hkx)) (fun v1600 ph1601 hv => ?_)
              obtain ⟨rfl, rfl⟩ := hv
              show zW n D 138 Q 95 [some (.ref 0), some (.int (Int32.ofInt (-1))), some (.int (zn i))] [.int (zn k), .int (zn i), .ref 3] ph1599
              refine w_ige (ykc_138 (e := (4, .if_icmp .ge 7, 102)) rfl) rfl (fun b1602 => ?_) (fun b1602 => ?_)
              · refine w_alu (pc' := 103) (st' := [.long (Int64.ofNat kG0), .ref 3]) (ykc_138 (e := (0, .lconst kG0, 0)) rfl) rfl rfl ?_
                refine w_cv (as := [.ref 3, .long (Int64.ofNat kG0)]) (r := []) (ykc_138 (e := (6, .invokevirtual 252, 0)) rfl) rfl rfl rfl rfl (zc_add (zN_S (show zFr [4] [(3, 1)] p ph1599 from (zFr_mono fn1 (by simp) (by simp))) hSy) (k := 0) gn1 (by decide)) (fun v1603 ph1604 hv => ?_)
                obtain ⟨rfl, fn2, gn2⟩ := hv
                show zW n D 138 Q 106 [some (.ref 0), some (.int (Int32.ofInt (-1))), some (.int (zn i))] [.ref 3] ph1604
                refine w_load (pc' := 107) (v := .ref 0) (m := 1) (ykc_138 (e := (2, .aload_n kF0, 0)) rfl) rfl rfl ?_
                refine w_gf (pc' := 110) (v := .ref 25) (ykc_138 (e := (5, .getfield 42, 0)) rfl) rfl ((fn2.1 0 4 (by decide) (by decide)).trans ((fn1.1 0 4 (by decide) (by decide)).trans ((hf.1 0 4 (by decide) (by decide)).trans ((fb.1 0 4 (by decide) (by decide)).trans ((f2.1 0 4 (by decide) (by decide)).trans ((f1.1 0 4 (by decide) (by decide)).trans (zsg hS zs_0_4))))))) rfl ?_
                refine w_gf (pc' := 113) (v := .int (zn (v2 40))) (ykc_138 (e := (5, .getfield 281, 0)) rfl) rfl ((fn2.1 25 2 (by decide) (by decide)).trans ((fn1.1 25 2 (by decide) (by decide)).trans hKy.2.1.2.2.2.2.1)) rfl ?_
                refine w_alu (pc' := 114) (st' := [.long ((zn (v2 40)).toInt64), .ref 3]) (ykc_138 (e := (0, .i2l, 0)) rfl) rfl rfl ?_
                refine w_cv (as := [.ref 3, .long ((zn (v2 40)).toInt64)]) (r := []) (ykc_138 (e := (6, .invokevirtual 252, 0)) rfl) rfl rfl rfl rfl (zc_add (zN_S (show zFr [4] [(3, 1)] p ph1604 from (zFr_trans (zFr_mono fn1 (by simp) (by simp)) (zFr_mono fn2 (by simp) (by simp)))) hSy) (k := 1) gn2 (by decide)) (fun v1605 ph1606 hv => ?_)
                obtain ⟨rfl, fn3, gn3⟩ := hv
                show zW n D 138 Q 117 [some (.ref 0), some (.int (Int32.ofInt (-1))), some (.int (zn i))] [.ref 3] ph1606
                refine w_alu (pc' := 118) (st' := []) (ykc_138 (e := (0, .pop, 0)) rfl) rfl rfl ?_
                refine w_load (pc' := 119) (v := .int (zn i)) (m := 1) (ykc_138 (e := (2, .iload_n kF2, 0)) rfl) rfl rfl ?_
                refine w_ret (v := (some (.int (zn i)))) (ykc_138 (e := (7, .ireturn, 0)) rfl) (zr_v rfl) ?_
                have FN := (show zFr [4] [(3, 1)] p ph1606 from (zFr_trans (zFr_trans (zFr_mono fn1 (by simp) (by simp)) (zFr_mono fn2 (by simp) (by simp))) (zFr_mono fn3 (by simp) (by simp))))
                rw [hQ]
                exact ⟨(FN.1 1 1 (by decide) (by decide)).trans hgy, zCe_n FN hEy, (FN.1 10 1 (by decide) (by decide)).trans hry, zCc_F FN (by simp) (by simp) (by simp) hcy, ok, a, k, _, ho, rfl, Or.inr ⟨hok, hl60, i, v2, has, ti, Or.inl ⟨by omega, zKC_n FN hKy⟩⟩⟩
              · refine w_alu (pc' := 99) (st' := [.long (Int64.ofNat kG1), .ref 3]) (ykc_138 (e := (0, .lconst kG1, 0)) rfl) rfl rfl ?_
                refine w_br (pc' := 103) (st' := [.long (Int64.ofNat kG1), .ref 3]) (ykc_138 (e := (4, .goto 4, 103)) rfl) rfl ?_
                refine w_cv (as := [.ref 3, .long (Int64.ofNat kG1)]) (r := []) (ykc_138 (e := (6, .invokevirtual 252, 0)) rfl) rfl rfl rfl rfl (zc_add (zN_S (show zFr [4] [(3, 1)] p ph1599 from (zFr_mono fn1 (by simp) (by simp))) hSy) (k := 0) gn1 (by decide)) (fun v1607 ph1608 hv => ?_)
                obtain ⟨rfl, fn2, gn2⟩ := hv
                show zW n D 138 Q 106 [some (.ref 0), some (.int (Int32.ofInt (-1))), some (.int (zn i))] [.ref 3] ph1608
                refine w_load (pc' := 107) (v := .ref 0) (m := 1) (ykc_138 (e := (2, .aload_n kF0, 0)) rfl) rfl rfl ?_
                refine w_gf (pc' := 110) (v := .ref 25) (ykc_138 (e := (5, .getfield 42, 0)) rfl) rfl ((fn2.1 0 4 (by decide) (by decide)).trans ((fn1.1 0 4 (by decide) (by decide)).trans ((hf.1 0 4 (by decide) (by decide)).trans ((fb.1 0 4 (by decide) (by decide)).trans ((f2.1 0 4 (by decide) (by decide)).trans ((f1.1 0 4 (by decide) (by decide)).trans (zsg hS zs_0_4))))))) rfl ?_
                refine w_gf (pc' := 113) (v := .int (zn (v2 40))) (ykc_138 (e := (5, .getfield 281, 0)) rfl) rfl ((fn2.1 25 2 (by decide) (by decide)).trans ((fn1.1 25 2 (by decide) (by decide)).trans hKy.2.1.2.2.2.2.1)) rfl ?_
                refine w_alu (pc' := 114) (st' := [.long ((zn (v2 40)).toInt64), .ref 3]) (ykc_138 (e := (0, .i2l, 0)) rfl) rfl rfl ?_
                refine w_cv (as := [.ref 3, .long ((zn (v2 40)).toInt64)]) (r := []) (ykc_138 (e := (6, .invokevirtual 252, 0)) rfl) rfl rfl rfl rfl (zc_add (zN_S (show zFr [4] [(3, 1)] p ph1608 from (zFr_trans (zFr_mono fn1 (by simp) (by simp)) (zFr_mono fn2 (by simp) (by simp)))) hSy) (k := 1) gn2 (by decide)) (fun v1609 ph1610 hv => ?_)
                obtain ⟨rfl, fn3, gn3⟩ := hv
                show zW n D 138 Q 117 [some (.ref 0), some (.int (Int32.ofInt (-1))), some (.int (zn i))] [.ref 3] ph1610
                refine w_alu (pc' := 118) (st' := []) (ykc_138 (e := (0, .pop, 0)) rfl) rfl rfl ?_
                refine w_load (pc' := 119) (v := .int (zn i)) (m := 1) (ykc_138 (e := (2, .iload_n kF2, 0)) rfl) rfl rfl ?_
                refine w_ret (v := (some (.int (zn i)))) (ykc_138 (e := (7, .ireturn, 0)) rfl) (zr_v rfl) ?_
                have FN := (show zFr [4] [(3, 1)] p ph1610 from (zFr_trans (zFr_trans (zFr_mono fn1 (by simp) (by simp)) (zFr_mono fn2 (by simp) (by simp))) (zFr_mono fn3 (by simp) (by simp))))
                rw [hQ]
                exact ⟨(FN.1 1 1 (by decide) (by decide)).trans hgy, zCe_n FN hEy, (FN.1 10 1 (by decide) (by decide)).trans hry, zCc_F FN (by simp) (by simp) (by simp) hcy, ok, a, k, _, ho, rfl, Or.inr ⟨hok, hl60, i, v2, has, ti, Or.inl ⟨by omega, zKC_n FN hKy⟩⟩⟩
            · refine w_load (pc' := 70) (v := .ref 0) (m := 1) (ykc_138 (e := (2, .aload_n kF0, 0)) rfl) rfl rfl ?_
              refine w_gf (pc' := 73) (v := .ref 43) (ykc_138 (e := (5, .getfield 55, 0)) rfl) rfl ((hf.1 0 7 (by decide) (by decide)).trans ((fb.1 0 7 (by decide) (by decide)).trans ((f2.1 0 7 (by decide) (by decide)).trans ((f1.1 0 7 (by decide) (by decide)).trans (zsg hS zs_0_7))))) rfl ?_
              refine w_load (pc' := 74) (v := .ref 0) (m := 1) (ykc_138 (e := (2, .aload_n kF0, 0)) rfl) rfl rfl ?_
              refine w_gf (pc' := 77) (v := .ref 31) (ykc_138 (e := (5, .getfield 46, 0)) rfl) rfl ((hf.1 0 5 (by decide) (by decide)).trans ((fb.1 0 5 (by decide) (by decide)).trans ((f2.1 0 5 (by decide) (by decide)).trans ((f1.1 0 5 (by decide) (by decide)).trans (zsg hS zs_0_5))))) rfl ?_
              refine w_cv (as := [.ref 43, .ref 31]) (r := []) (ykc_138 (e := (6, .invokevirtual 278, 0)) rfl) rfl rfl rfl rfl (zc_push (T := 31) hSx (Or.inr rfl) dbx hKx.2.2.1.1 hKx.2.2.1.2.2.1 hnx hKx.2.2.1.2.2.2.1) (fun v1611 ph1612 hv => ?_)
              rcases hv with ⟨rfl, ⟨q1, q2, pf, pu1, pu2⟩, pd⟩
              · have fq : zFr [45 + 6 * nx + 1, 45 + 6 * nx + 2, 45 + 6 * nx + 3, 45 + 6 * nx + 4, 45 + 6 * nx + 5] [(45 + 6 * nx, 0), (45 + 6 * nx, 1), (45 + 6 * nx, 2), (43, 1), (43, 2)] p ph1612 := zFr_trans (zFr_mono pf (by simp) (by simp)) (zFr_trans (zFr_st pu1 (Or.inr (by simp))) (zFr_st pu2 (Or.inr (by simp))))
                have hKy := zKC_pu hKx pf pu1 pu2 pd
                have hSy := zSh_st pu2 (by decide +kernel) (zSh_st pu1 (by decide +kernel) (zCo_S (zSadr_past hnx) pf hSx))
                have hgy := (fq.1 1 1 (by simp <;> omega) (by simp <;> omega)).trans hgx
                have hEy := zCe_q hnx fq hEx
                have hry := (fq.1 10 1 (by simp <;> omega) (by simp <;> omega)).trans hrx
                have hcy := zCc_F fq (by simp <;> omega) (by simp <;> omega) (by intro i; simp <;> omega) hc3
                show zW n D 138 Q 80 [some (.ref 0), some (.int (Int32.ofInt (-1))), some (.int (zn i))] [] ph1612
                refine w_load (pc' := 81) (v := .ref 0) (m := 1) (ykc_138 (e := (2, .aload_n kF0, 0)) rfl) rfl rfl ?_
                refine w_gf (pc' := 84) (v := .ref 3) (ykc_138 (e := (5, .getfield 19, 0)) rfl) rfl ((fq.1 0 1 (by simp <;> omega) (by simp <;> omega)).trans ((hf.1 0 1 (by decide) (by decide)).trans ((fb.1 0 1 (by decide) (by decide)).trans ((f2.1 0 1 (by decide) (by decide)).trans ((f1.1 0 1 (by decide) (by decide)).trans (zsg hS zs_0_1)))))) rfl ?_
                refine w_cv (as := [.ref 3]) (r := []) (ykc_138 (e := (6, .invokevirtual 245, 0)) rfl) rfl rfl rfl rfl (zc_anew) (fun v1613 ph1614 hv => ?_)
                obtain ⟨rfl, fn1, gn1⟩ := hv
                show zW n D 138 Q 87 [some (.ref 0), some (.int (Int32.ofInt (-1))), some (.int (zn i))] [.ref 3] ph1614
                refine w_load (pc' := 88) (v := .int (zn i)) (m := 1) (ykc_138 (e := (2, .iload_n kF2, 0)) rfl) rfl rfl ?_
                refine w_load (pc' := 89) (v := .ref 0) (m := 1) (ykc_138 (e := (2, .aload_n kF0, 0)) rfl) rfl rfl ?_
                refine w_gf (pc' := 92) (v := .ref 157) (ykc_138 (e := (5, .getfield 69, 0)) rfl) rfl ((fn1.1 0 9 (by decide) (by decide)).trans ((fq.1 0 9 (by simp <;> omega) (by simp <;> omega)).trans ((hf.1 0 9 (by decide) (by decide)).trans ((fb.1 0 9 (by decide) (by decide)).trans ((f2.1 0 9 (by decide) (by decide)).trans ((f1.1 0 9 (by decide) (by decide)).trans (zsg hS zs_0_9))))))) rfl ?_
                refine w_cv (as := [.ref 157]) (r := [.int (zn i), .ref 3]) (ykc_138 (e := (6, .invokevirtual 272, 0)) rfl) rfl rfl rfl rfl (zc_plActs ((fn1.1 157 2 (by simp <;> omega) (by simp <;> omega)).trans ((fq.1 157 2 (by simp <;> omega) (by simp <;> omega)).trans hkx))) (fun v1615 ph1616 hv => ?_)
                obtain ⟨rfl, rfl⟩ := hv
                show zW n D 138 Q 95 [some (.ref 0), some (.int (Int32.ofInt (-1))), some (.int (zn i))] [.int (zn k), .int (zn i), .ref 3] ph1614
                refine w_ige (ykc_138 (e := (4, .if_icmp .ge 7, 102)) rfl) rfl (fun b1617 => ?_) (fun b1617 => ?_)
                · refine w_alu (pc' := 103) (st' := [.long (Int64.ofNat kG0), .ref 3]) (ykc_138 (e := (0, .lconst kG0, 0)) rfl) rfl rfl ?_
                  refine w_cv (as := [.ref 3, .long (Int64.ofNat kG0)]) (r := []) (ykc_138 (e := (6, .invokevirtual 252, 0)) rfl) rfl rfl rfl rfl (zc_add (zN_S (show zFr [4] [(3, 1)] ph1612 ph1614 from (zFr_mono fn1 (by simp) (by simp))) hSy) (k := 0) gn1 (by decide)) (fun v1618 ph1619 hv => ?_)
                  obtain ⟨rfl, fn2, gn2⟩ := hv
                  show zW n D 138 Q 106 [some (.ref 0), some (.int (Int32.ofInt (-1))), some (.int (zn i))] [.ref 3] ph1619
                  refine w_load (pc' := 107) (v := .ref 0) (m := 1) (ykc_138 (e := (2, .aload_n kF0, 0)) rfl) rfl rfl ?_
                  refine w_gf (pc' := 110) (v := .ref 25) (ykc_138 (e := (5, .getfield 42, 0)) rfl) rfl ((fn2.1 0 4 (by decide) (by decide)).trans ((fn1.1 0 4 (by decide) (by decide)).trans ((fq.1 0 4 (by simp <;> omega) (by simp <;> omega)).trans ((hf.1 0 4 (by decide) (by decide)).trans ((fb.1 0 4 (by decide) (by decide)).trans ((f2.1 0 4 (by decide) (by decide)).trans ((f1.1 0 4 (by decide) (by decide)).trans (zsg hS zs_0_4)))))))) rfl ?_
                  refine w_gf (pc' := 113) (v := .int (zn (v2 40))) (ykc_138 (e := (5, .getfield 281, 0)) rfl) rfl ((fn2.1 25 2 (by decide) (by decide)).trans ((fn1.1 25 2 (by decide) (by decide)).trans hKy.2.1.2.2.2.2.1)) rfl ?_
                  refine w_alu (pc' := 114) (st' := [.long ((zn (v2 40)).toInt64), .ref 3]) (ykc_138 (e := (0, .i2l, 0)) rfl) rfl rfl ?_
                  refine w_cv (as := [.ref 3, .long ((zn (v2 40)).toInt64)]) (r := []) (ykc_138 (e := (6, .invokevirtual 252, 0)) rfl) rfl rfl rfl rfl (zc_add (zN_S (show zFr [4] [(3, 1)] ph1612 ph1619 from (zFr_trans (zFr_mono fn1 (by simp) (by simp)) (zFr_mono fn2 (by simp) (by simp)))) hSy) (k := 1) gn2 (by decide)) (fun v1620 ph1621 hv => ?_)
                  obtain ⟨rfl, fn3, gn3⟩ := hv
                  show zW n D 138 Q 117 [some (.ref 0), some (.int (Int32.ofInt (-1))), some (.int (zn i))] [.ref 3] ph1621
                  refine w_alu (pc' := 118) (st' := []) (ykc_138 (e := (0, .pop, 0)) rfl) rfl rfl ?_
                  refine w_load (pc' := 119) (v := .int (zn i)) (m := 1) (ykc_138 (e := (2, .iload_n kF2, 0)) rfl) rfl rfl ?_
                  refine w_ret (v := (some (.int (zn i)))) (ykc_138 (e := (7, .ireturn, 0)) rfl) (zr_v rfl) ?_
                  have FN := (show zFr [4] [(3, 1)] ph1612 ph1621 from (zFr_trans (zFr_trans (zFr_mono fn1 (by simp) (by simp)) (zFr_mono fn2 (by simp) (by simp))) (zFr_mono fn3 (by simp) (by simp))))
                  rw [hQ]
                  exact ⟨(FN.1 1 1 (by decide) (by decide)).trans hgy, zCe_n FN hEy, (FN.1 10 1 (by decide) (by decide)).trans hry, zCc_F FN (by simp) (by simp) (by simp) hcy, ok, a, k, _, ho, rfl, Or.inr ⟨hok, hl60, i, v2, has, ti, Or.inr ⟨by omega, _, zKC_n FN hKy⟩⟩⟩
                · refine w_alu (pc' := 99) (st' := [.long (Int64.ofNat kG1), .ref 3]) (ykc_138 (e := (0, .lconst kG1, 0)) rfl) rfl rfl ?_
                  refine w_br (pc' := 103) (st' := [.long (Int64.ofNat kG1), .ref 3]) (ykc_138 (e := (4, .goto 4, 103)) rfl) rfl ?_
                  refine w_cv (as := [.ref 3, .long (Int64.ofNat kG1)]) (r := []) (ykc_138 (e := (6, .invokevirtual 252, 0)) rfl) rfl rfl rfl rfl (zc_add (zN_S (show zFr [4] [(3, 1)] ph1612 ph1614 from (zFr_mono fn1 (by simp) (by simp))) hSy) (k := 0) gn1 (by decide)) (fun v1622 ph1623 hv => ?_)
                  obtain ⟨rfl, fn2, gn2⟩ := hv
                  show zW n D 138 Q 106 [some (.ref 0), some (.int (Int32.ofInt (-1))), some (.int (zn i))] [.ref 3] ph1623
                  refine w_load (pc' := 107) (v := .ref 0) (m := 1) (ykc_138 (e := (2, .aload_n kF0, 0)) rfl) rfl rfl ?_
                  refine w_gf (pc' := 110) (v := .ref 25) (ykc_138 (e := (5, .getfield 42, 0)) rfl) rfl ((fn2.1 0 4 (by decide) (by decide)).trans ((fn1.1 0 4 (by decide) (by decide)).trans ((fq.1 0 4 (by simp <;> omega) (by simp <;> omega)).trans ((hf.1 0 4 (by decide) (by decide)).trans ((fb.1 0 4 (by decide) (by decide)).trans ((f2.1 0 4 (by decide) (by decide)).trans ((f1.1 0 4 (by decide) (by decide)).trans (zsg hS zs_0_4)))))))) rfl ?_
                  refine w_gf (pc' := 113) (v := .int (zn (v2 40))) (ykc_138 (e := (5, .getfield 281, 0)) rfl) rfl ((fn2.1 25 2 (by decide) (by decide)).trans ((fn1.1 25 2 (by decide) (by decide)).trans hKy.2.1.2.2.2.2.1)) rfl ?_
                  refine w_alu (pc' := 114) (st' := [.long ((zn (v2 40)).toInt64), .ref 3]) (ykc_138 (e := (0, .i2l, 0)) rfl) rfl rfl ?_
                  refine w_cv (as := [.ref 3, .long ((zn (v2 40)).toInt64)]) (r := []) (ykc_138 (e := (6, .invokevirtual 252, 0)) rfl) rfl rfl rfl rfl (zc_add (zN_S (show zFr [4] [(3, 1)] ph1612 ph1623 from (zFr_trans (zFr_mono fn1 (by simp) (by simp)) (zFr_mono fn2 (by simp) (by simp)))) hSy) (k := 1) gn2 (by decide)) (fun v1624 ph1625 hv => ?_)
                  obtain ⟨rfl, fn3, gn3⟩ := hv
                  show zW n D 138 Q 117 [some (.ref 0), some (.int (Int32.ofInt (-1))), some (.int (zn i))] [.ref 3] ph1625
                  refine w_alu (pc' := 118) (st' := []) (ykc_138 (e := (0, .pop, 0)) rfl) rfl rfl ?_
                  refine w_load (pc' := 119) (v := .int (zn i)) (m := 1) (ykc_138 (e := (2, .iload_n kF2, 0)) rfl) rfl rfl ?_
                  refine w_ret (v := (some (.int (zn i)))) (ykc_138 (e := (7, .ireturn, 0)) rfl) (zr_v rfl) ?_
                  have FN := (show zFr [4] [(3, 1)] ph1612 ph1625 from (zFr_trans (zFr_trans (zFr_mono fn1 (by simp) (by simp)) (zFr_mono fn2 (by simp) (by simp))) (zFr_mono fn3 (by simp) (by simp))))
                  rw [hQ]
                  exact ⟨(FN.1 1 1 (by decide) (by decide)).trans hgy, zCe_n FN hEy, (FN.1 10 1 (by decide) (by decide)).trans hry, zCc_F FN (by simp) (by simp) (by simp) hcy, ok, a, k, _, ho, rfl, Or.inr ⟨hok, hl60, i, v2, has, ti, Or.inr ⟨by omega, _, zKC_n FN hKy⟩⟩⟩
              
            
          · refine w_load (pc' := 52) (v := .ref 0) (m := 1) (ykc_138 (e := (2, .aload_n kF0, 0)) rfl) rfl rfl ?_
            refine w_load (pc' := 53) (v := .int (zn i)) (m := 1) (ykc_138 (e := (2, .iload_n kF2, 0)) rfl) rfl rfl ?_
            refine w_cv (as := [.ref 0, .int (zn i)]) (r := []) (ykc_138 (e := (6, .invokevirtual 275, 0)) rfl) rfl rfl rfl rfl (zc_act hSp hEp ht2 hO2 hrp hc2 (by omega) hkp hk30 (zDd_F hf (by simp) (by simp) hdb) ho.1 ti (by omega)) (fun v1626 ph1627 hv => ?_)
            rcases hv with ⟨fa, y9, rfl, ⟨v3, hac, hy0, ht3, hc3⟩ | ⟨hac, hy0, ht3, hc3⟩⟩
            · show zW n D 138 Q 56 [some (.ref 0), some (.int (Int32.ofInt (-1))), some (.int (zn i))] [.int y9] ph1627
              refine w_zlt (ykc_138 (e := (4, .ifCond .lt 9, 65)) rfl) rfl (fun q => by exfalso; omega) (fun b1628 => ?_)
              have e1629 : (zn i) + Int32.ofInt 1 = zn (i + 1) := (zaddN (a := i) (b := 1) (znt (by omega)) c_2 (by omega))
              have te1629 := znt (k := i + 1) (by omega)
              refine w_store (pc' := 62) (L' := [some (.ref 0), some (.int (Int32.ofInt (-1))), some (.int (zn (i + 1)))]) (st' := []) (m := 3) (ykc_138 (e := (3, .iinc 2 1, 0)) rfl) (by rw [← e1629]; rfl) rfl ?_
              refine w_gb (ykc_138 (e := (4, .goto (-22), 40)) rfl) (fun k1630 hk1630 => ?_)
              exact ih k1630 hk1630 (i + 1) v3 _ (by omega) (zFr_trans hf fa) ht3 hc3 (by rw [zAr_s hr2]; exact hac)
            · have has : zAs2 E P G v t k i v2 := ⟨hi, hr2, fun _ => hac⟩
              have FX := zFr_trans hf fa
              show zW n D 138 Q 56 [some (.ref 0), some (.int (Int32.ofInt (-1))), some (.int (zn i))] [.int y9] ph1627
              refine w_zlt (ykc_138 (e := (4, .ifCond .lt 9, 65)) rfl) rfl (fun b1631 => ?_) (fun q => by exfalso; omega)
              refine w_load (pc' := 66) (v := .int (zn i)) (m := 1) (ykc_138 (e := (2, .iload_n kF2, 0)) rfl) rfl rfl ?_
              have hSx := zSh_F FX (by decide +kernel) hSb
              have hKx := zKC_fa FX hKb ht3.2
              have hEx := zCe_fa FX hEb
              have hrx := (FX.1 10 1 (by simp) (by simp)).trans hrb
              have hgx := (FX.1 1 1 (by simp) (by simp)).trans hgb
              have dbx := zSd_F FX (by intro j hj; simp <;> omega) (by intro j i hj; simp <;> omega) db
              have hkx := (FX.1 157 2 (by simp) (by simp)).trans hkb
              have hnx := hKx.2.2.1.2.1
              refine w_zle (ykc_138 (e := (4, .ifCond .le 14, 80)) rfl) rfl (fun b1632 => ?_) (fun b1632 => ?_)
              · have hKy := hKx
                have hSy := hSx
                have hgy := hgx
                have hEy := hEx
                have hry := hrx
                have hcy := hc3
                refine w_load (pc' := 81) (v := .ref 0) (m := 1) (ykc_138 (e := (2, .aload_n kF0, 0)) rfl) rfl rfl ?_
                refine w_gf (pc' := 84) (v := .ref 3) (ykc_138 (e := (5, .getfield 19, 0)) rfl) rfl ((fa.1 0 1 (by simp <;> omega) (by simp <;> omega)).trans ((hf.1 0 1 (by decide) (by decide)).trans ((fb.1 0 1 (by decide) (by decide)).trans ((f2.1 0 1 (by decide) (by decide)).trans ((f1.1 0 1 (by decide) (by decide)).trans (zsg hS zs_0_1)))))) rfl ?_
                refine w_cv (as := [.ref 3]) (r := []) (ykc_138 (e := (6, .invokevirtual 245, 0)) rfl) rfl rfl rfl rfl (zc_anew) (fun v1633 ph1634 hv => ?_)
                obtain ⟨rfl, fn1, gn1⟩ := hv
                show zW n D 138 Q 87 [some (.ref 0), some (.int (Int32.ofInt (-1))), some (.int (zn i))] [.ref 3] ph1634
                refine w_load (pc' := 88) (v := .int (zn i)) (m := 1) (ykc_138 (e := (2, .iload_n kF2, 0)) rfl) rfl rfl ?_
                refine w_load (pc' := 89) (v := .ref 0) (m := 1) (ykc_138 (e := (2, .aload_n kF0, 0)) rfl) rfl rfl ?_
                refine w_gf (pc' := 92) (v := .ref 157) (ykc_138 (e := (5, .getfield 69, 0)) rfl) rfl ((fn1.1 0 9 (by decide) (by decide)).trans ((fa.1 0 9 (by simp <;> omega) (by simp <;> omega)).trans ((hf.1 0 9 (by decide) (by decide)).trans ((fb.1 0 9 (by decide) (by decide)).trans ((f2.1 0 9 (by decide) (by decide)).trans ((f1.1 0 9 (by decide) (by decide)).trans (zsg hS zs_0_9))))))) rfl ?_
                refine w_cv (as := [.ref 157]) (r := [.int (zn i), .ref 3]) (ykc_138 (e := (6, .invokevirtual 272, 0)) rfl) rfl rfl rfl rfl (zc_plActs ((fn1.1 157 2 (by simp <;> omega) (by simp <;> omega)).trans hkx)) (fun v1635 ph1636 hv => ?_)
                obtain ⟨rfl, rfl⟩ := hv
                show zW n D 138 Q 95 [some (.ref 0), some (.int (Int32.ofInt (-1))), some (.int (zn i))] [.int (zn k), .int (zn i), .ref 3] ph1634
                refine w_ige (ykc_138 (e := (4, .if_icmp .ge 7, 102)) rfl) rfl (fun b1637 => ?_) (fun b1637 => ?_)
                · refine w_alu (pc' := 103) (st' := [.long (Int64.ofNat kG0), .ref 3]) (ykc_138 (e := (0, .lconst kG0, 0)) rfl) rfl rfl ?_
                  refine w_cv (as := [.ref 3, .long (Int64.ofNat kG0)]) (r := []) (ykc_138 (e := (6, .invokevirtual 252, 0)) rfl) rfl rfl rfl rfl (zc_add (zN_S (show zFr [4] [(3, 1)] ph1627 ph1634 from (zFr_mono fn1 (by simp) (by simp))) hSy) (k := 0) gn1 (by decide)) (fun v1638 ph1639 hv => ?_)
                  obtain ⟨rfl, fn2, gn2⟩ := hv
                  show zW n D 138 Q 106 [some (.ref 0), some (.int (Int32.ofInt (-1))), some (.int (zn i))] [.ref 3] ph1639
                  refine w_load (pc' := 107) (v := .ref 0) (m := 1) (ykc_138 (e := (2, .aload_n kF0, 0)) rfl) rfl rfl ?_
                  refine w_gf (pc' := 110) (v := .ref 25) (ykc_138 (e := (5, .getfield 42, 0)) rfl) rfl ((fn2.1 0 4 (by decide) (by decide)).trans ((fn1.1 0 4 (by decide) (by decide)).trans ((fa.1 0 4 (by simp <;> omega) (by simp <;> omega)).trans ((hf.1 0 4 (by decide) (by decide)).trans ((fb.1 0 4 (by decide) (by decide)).trans ((f2.1 0 4 (by decide) (by decide)).trans ((f1.1 0 4 (by decide) (by decide)).trans (zsg hS zs_0_4)))))))) rfl ?_
                  refine w_gf (pc' := 113) (v := .int (zn (v2 40))) (ykc_138 (e := (5, .getfield 281, 0)) rfl) rfl ((fn2.1 25 2 (by decide) (by decide)).trans ((fn1.1 25 2 (by decide) (by decide)).trans hKy.2.1.2.2.2.2.1)) rfl ?_
                  refine w_alu (pc' := 114) (st' := [.long ((zn (v2 40)).toInt64), .ref 3]) (ykc_138 (e := (0, .i2l, 0)) rfl) rfl rfl ?_
                  refine w_cv (as := [.ref 3, .long ((zn (v2 40)).toInt64)]) (r := []) (ykc_138 (e := (6, .invokevirtual 252, 0)) rfl) rfl rfl rfl rfl (zc_add (zN_S (show zFr [4] [(3, 1)] ph1627 ph1639 from (zFr_trans (zFr_mono fn1 (by simp) (by simp)) (zFr_mono fn2 (by simp) (by simp)))) hSy) (k := 1) gn2 (by decide)) (fun v1640 ph1641 hv => ?_)
                  obtain ⟨rfl, fn3, gn3⟩ := hv
                  show zW n D 138 Q 117 [some (.ref 0), some (.int (Int32.ofInt (-1))), some (.int (zn i))] [.ref 3] ph1641
                  refine w_alu (pc' := 118) (st' := []) (ykc_138 (e := (0, .pop, 0)) rfl) rfl rfl ?_
                  refine w_load (pc' := 119) (v := .int (zn i)) (m := 1) (ykc_138 (e := (2, .iload_n kF2, 0)) rfl) rfl rfl ?_
                  refine w_ret (v := (some (.int (zn i)))) (ykc_138 (e := (7, .ireturn, 0)) rfl) (zr_v rfl) ?_
                  have FN := (show zFr [4] [(3, 1)] ph1627 ph1641 from (zFr_trans (zFr_trans (zFr_mono fn1 (by simp) (by simp)) (zFr_mono fn2 (by simp) (by simp))) (zFr_mono fn3 (by simp) (by simp))))
                  rw [hQ]
                  exact ⟨(FN.1 1 1 (by decide) (by decide)).trans hgy, zCe_n FN hEy, (FN.1 10 1 (by decide) (by decide)).trans hry, zCc_F FN (by simp) (by simp) (by simp) hcy, ok, a, k, _, ho, rfl, Or.inr ⟨hok, hl60, i, v2, has, ti, Or.inl ⟨by omega, zKC_n FN hKy⟩⟩⟩
                · refine w_alu (pc' := 99) (st' := [.long (Int64.ofNat kG1), .ref 3]) (ykc_138 (e := (0, .lconst kG1, 0)) rfl) rfl rfl ?_
                  refine w_br (pc' := 103) (st' := [.long (Int64.ofNat kG1), .ref 3]) (ykc_138 (e := (4, .goto 4, 103)) rfl) rfl ?_
                  refine w_cv (as := [.ref 3, .long (Int64.ofNat kG1)]) (r := []) (ykc_138 (e := (6, .invokevirtual 252, 0)) rfl) rfl rfl rfl rfl (zc_add (zN_S (show zFr [4] [(3, 1)] ph1627 ph1634 from (zFr_mono fn1 (by simp) (by simp))) hSy) (k := 0) gn1 (by decide)) (fun v1642 ph1643 hv => ?_)
                  obtain ⟨rfl, fn2, gn2⟩ := hv
                  show zW n D 138 Q 106 [some (.ref 0), some (.int (Int32.ofInt (-1))), some (.int (zn i))] [.ref 3] ph1643
                  refine w_load (pc' := 107) (v := .ref 0) (m := 1) (ykc_138 (e := (2, .aload_n kF0, 0)) rfl) rfl rfl ?_
                  refine w_gf (pc' := 110) (v := .ref 25) (ykc_138 (e := (5, .getfield 42, 0)) rfl) rfl ((fn2.1 0 4 (by decide) (by decide)).trans ((fn1.1 0 4 (by decide) (by decide)).trans ((fa.1 0 4 (by simp <;> omega) (by simp <;> omega)).trans ((hf.1 0 4 (by decide) (by decide)).trans ((fb.1 0 4 (by decide) (by decide)).trans ((f2.1 0 4 (by decide) (by decide)).trans ((f1.1 0 4 (by decide) (by decide)).trans (zsg hS zs_0_4)))))))) rfl ?_
                  refine w_gf (pc' := 113) (v := .int (zn (v2 40))) (ykc_138 (e := (5, .getfield 281, 0)) rfl) rfl ((fn2.1 25 2 (by decide) (by decide)).trans ((fn1.1 25 2 (by decide) (by decide)).trans hKy.2.1.2.2.2.2.1)) rfl ?_
                  refine w_alu (pc' := 114) (st' := [.long ((zn (v2 40)).toInt64), .ref 3]) (ykc_138 (e := (0, .i2l, 0)) rfl) rfl rfl ?_
                  refine w_cv (as := [.ref 3, .long ((zn (v2 40)).toInt64)]) (r := []) (ykc_138 (e := (6, .invokevirtual 252, 0)) rfl) rfl rfl rfl rfl (zc_add (zN_S (show zFr [4] [(3, 1)] ph1627 ph1643 from (zFr_trans (zFr_mono fn1 (by simp) (by simp)) (zFr_mono fn2 (by simp) (by simp)))) hSy) (k := 1) gn2 (by decide)) (fun v1644 ph1645 hv => ?_)
                  obtain ⟨rfl, fn3, gn3⟩ := hv
                  show zW n D 138 Q 117 [some (.ref 0), some (.int (Int32.ofInt (-1))), some (.int (zn i))] [.ref 3] ph1645
                  refine w_alu (pc' := 118) (st' := []) (ykc_138 (e := (0, .pop, 0)) rfl) rfl rfl ?_
                  refine w_load (pc' := 119) (v := .int (zn i)) (m := 1) (ykc_138 (e := (2, .iload_n kF2, 0)) rfl) rfl rfl ?_
                  refine w_ret (v := (some (.int (zn i)))) (ykc_138 (e := (7, .ireturn, 0)) rfl) (zr_v rfl) ?_
                  have FN := (show zFr [4] [(3, 1)] ph1627 ph1645 from (zFr_trans (zFr_trans (zFr_mono fn1 (by simp) (by simp)) (zFr_mono fn2 (by simp) (by simp))) (zFr_mono fn3 (by simp) (by simp))))
                  rw [hQ]
                  exact ⟨(FN.1 1 1 (by decide) (by decide)).trans hgy, zCe_n FN hEy, (FN.1 10 1 (by decide) (by decide)).trans hry, zCc_F FN (by simp) (by simp) (by simp) hcy, ok, a, k, _, ho, rfl, Or.inr ⟨hok, hl60, i, v2, has, ti, Or.inl ⟨by omega, zKC_n FN hKy⟩⟩⟩
              · refine w_load (pc' := 70) (v := .ref 0) (m := 1) (ykc_138 (e := (2, .aload_n kF0, 0)) rfl) rfl rfl ?_
                refine w_gf (pc' := 73) (v := .ref 43) (ykc_138 (e := (5, .getfield 55, 0)) rfl) rfl ((fa.1 0 7 (by simp <;> omega) (by simp <;> omega)).trans ((hf.1 0 7 (by decide) (by decide)).trans ((fb.1 0 7 (by decide) (by decide)).trans ((f2.1 0 7 (by decide) (by decide)).trans ((f1.1 0 7 (by decide) (by decide)).trans (zsg hS zs_0_7)))))) rfl ?_
                refine w_load (pc' := 74) (v := .ref 0) (m := 1) (ykc_138 (e := (2, .aload_n kF0, 0)) rfl) rfl rfl ?_
                refine w_gf (pc' := 77) (v := .ref 31) (ykc_138 (e := (5, .getfield 46, 0)) rfl) rfl ((fa.1 0 5 (by simp <;> omega) (by simp <;> omega)).trans ((hf.1 0 5 (by decide) (by decide)).trans ((fb.1 0 5 (by decide) (by decide)).trans ((f2.1 0 5 (by decide) (by decide)).trans ((f1.1 0 5 (by decide) (by decide)).trans (zsg hS zs_0_5)))))) rfl ?_
                refine w_cv (as := [.ref 43, .ref 31]) (r := []) (ykc_138 (e := (6, .invokevirtual 278, 0)) rfl) rfl rfl rfl rfl (zc_push (T := 31) hSx (Or.inr rfl) dbx hKx.2.2.1.1 hKx.2.2.1.2.2.1 hnx hKx.2.2.1.2.2.2.1) (fun v1646 ph1647 hv => ?_)
                rcases hv with ⟨rfl, ⟨q1, q2, pf, pu1, pu2⟩, pd⟩
                · have fq : zFr [45 + 6 * nx + 1, 45 + 6 * nx + 2, 45 + 6 * nx + 3, 45 + 6 * nx + 4, 45 + 6 * nx + 5] [(45 + 6 * nx, 0), (45 + 6 * nx, 1), (45 + 6 * nx, 2), (43, 1), (43, 2)] ph1627 ph1647 := zFr_trans (zFr_mono pf (by simp) (by simp)) (zFr_trans (zFr_st pu1 (Or.inr (by simp))) (zFr_st pu2 (Or.inr (by simp))))
                  have hKy := zKC_pu hKx pf pu1 pu2 pd
                  have hSy := zSh_st pu2 (by decide +kernel) (zSh_st pu1 (by decide +kernel) (zCo_S (zSadr_past hnx) pf hSx))
                  have hgy := (fq.1 1 1 (by simp <;> omega) (by simp <;> omega)).trans hgx
                  have hEy := zCe_q hnx fq hEx
                  have hry := (fq.1 10 1 (by simp <;> omega) (by simp <;> omega)).trans hrx
                  have hcy := zCc_F fq (by simp <;> omega) (by simp <;> omega) (by intro i; simp <;> omega) hc3
                  show zW n D 138 Q 80 [some (.ref 0), some (.int (Int32.ofInt (-1))), some (.int (zn i))] [] ph1647
                  refine w_load (pc' := 81) (v := .ref 0) (m := 1) (ykc_138 (e := (2, .aload_n kF0, 0)) rfl) rfl rfl ?_
                  refine w_gf (pc' := 84) (v := .ref 3) (ykc_138 (e := (5, .getfield 19, 0)) rfl) rfl ((fq.1 0 1 (by simp <;> omega) (by simp <;> omega)).trans ((fa.1 0 1 (by simp <;> omega) (by simp <;> omega)).trans ((hf.1 0 1 (by decide) (by decide)).trans ((fb.1 0 1 (by decide) (by decide)).trans ((f2.1 0 1 (by decide) (by decide)).trans ((f1.1 0 1 (by decide) (by decide)).trans (zsg hS zs_0_1))))))) rfl ?_
                  refine w_cv (as := [.ref 3]) (r := []) (ykc_138 (e := (6, .invokevirtual 245, 0)) rfl) rfl rfl rfl rfl (zc_anew) (fun v1648 ph1649 hv => ?_)
                  obtain ⟨rfl, fn1, gn1⟩ := hv
                  show zW n D 138 Q 87 [some (.ref 0), some (.int (Int32.ofInt (-1))), some (.int (zn i))] [.ref 3] ph1649
                  refine w_load (pc' := 88) (v := .int (zn i)) (m := 1) (ykc_138 (e := (2, .iload_n kF2, 0)) rfl) rfl rfl ?_
                  refine w_load (pc' := 89) (v := .ref 0) (m := 1) (ykc_138 (e := (2, .aload_n kF0, 0)) rfl) rfl rfl ?_
                  refine w_gf (pc' := 92) (v := .ref 157) (ykc_138 (e := (5, .getfield 69, 0)) rfl) rfl ((fn1.1 0 9 (by decide) (by decide)).trans ((fq.1 0 9 (by simp <;> omega) (by simp <;> omega)).trans ((fa.1 0 9 (by simp <;> omega) (by simp <;> omega)).trans ((hf.1 0 9 (by decide) (by decide)).trans ((fb.1 0 9 (by decide) (by decide)).trans ((f2.1 0 9 (by decide) (by decide)).trans ((f1.1 0 9 (by decide) (by decide)).trans (zsg hS zs_0_9)))))))) rfl ?_
                  refine w_cv (as := [.ref 157]) (r := [.int (zn i), .ref 3]) (ykc_138 (e := (6, .invokevirtual 272, 0)) rfl) rfl rfl rfl rfl (zc_plActs ((fn1.1 157 2 (by simp <;> omega) (by simp <;> omega)).trans ((fq.1 157 2 (by simp <;> omega) (by simp <;> omega)).trans hkx))) (fun v1650 ph1651 hv => ?_)
                  obtain ⟨rfl, rfl⟩ := hv
                  show zW n D 138 Q 95 [some (.ref 0), some (.int (Int32.ofInt (-1))), some (.int (zn i))] [.int (zn k), .int (zn i), .ref 3] ph1649
                  refine w_ige (ykc_138 (e := (4, .if_icmp .ge 7, 102)) rfl) rfl (fun b1652 => ?_) (fun b1652 => ?_)
                  · refine w_alu (pc' := 103) (st' := [.long (Int64.ofNat kG0), .ref 3]) (ykc_138 (e := (0, .lconst kG0, 0)) rfl) rfl rfl ?_
                    refine w_cv (as := [.ref 3, .long (Int64.ofNat kG0)]) (r := []) (ykc_138 (e := (6, .invokevirtual 252, 0)) rfl) rfl rfl rfl rfl (zc_add (zN_S (show zFr [4] [(3, 1)] ph1647 ph1649 from (zFr_mono fn1 (by simp) (by simp))) hSy) (k := 0) gn1 (by decide)) (fun v1653 ph1654 hv => ?_)
                    obtain ⟨rfl, fn2, gn2⟩ := hv
                    show zW n D 138 Q 106 [some (.ref 0), some (.int (Int32.ofInt (-1))), some (.int (zn i))] [.ref 3] ph1654
                    refine w_load (pc' := 107) (v := .ref 0) (m := 1) (ykc_138 (e := (2, .aload_n kF0, 0)) rfl) rfl rfl ?_
                    refine w_gf (pc' := 110) (v := .ref 25) (ykc_138 (e := (5, .getfield 42, 0)) rfl) rfl ((fn2.1 0 4 (by decide) (by decide)).trans ((fn1.1 0 4 (by decide) (by decide)).trans ((fq.1 0 4 (by simp <;> omega) (by simp <;> omega)).trans ((fa.1 0 4 (by simp <;> omega) (by simp <;> omega)).trans ((hf.1 0 4 (by decide) (by decide)).trans ((fb.1 0 4 (by decide) (by decide)).trans ((f2.1 0 4 (by decide) (by decide)).trans ((f1.1 0 4 (by decide) (by decide)).trans (zsg hS zs_0_4))))))))) rfl ?_
                    refine w_gf (pc' := 113) (v := .int (zn (v2 40))) (ykc_138 (e := (5, .getfield 281, 0)) rfl) rfl ((fn2.1 25 2 (by decide) (by decide)).trans ((fn1.1 25 2 (by decide) (by decide)).trans hKy.2.1.2.2.2.2.1)) rfl ?_
                    refine w_alu (pc' := 114) (st' := [.long ((zn (v2 40)).toInt64), .ref 3]) (ykc_138 (e := (0, .i2l, 0)) rfl) rfl rfl ?_
                    refine w_cv (as := [.ref 3, .long ((zn (v2 40)).toInt64)]) (r := []) (ykc_138 (e := (6, .invokevirtual 252, 0)) rfl) rfl rfl rfl rfl (zc_add (zN_S (show zFr [4] [(3, 1)] ph1647 ph1654 from (zFr_trans (zFr_mono fn1 (by simp) (by simp)) (zFr_mono fn2 (by simp) (by simp)))) hSy) (k := 1) gn2 (by decide)) (fun v1655 ph1656 hv => ?_)
                    obtain ⟨rfl, fn3, gn3⟩ := hv
                    show zW n D 138 Q 117 [some (.ref 0), some (.int (Int32.ofInt (-1))), some (.int (zn i))] [.ref 3] ph1656
                    refine w_alu (pc' := 118) (st' := []) (ykc_138 (e := (0, .pop, 0)) rfl) rfl rfl ?_
                    refine w_load (pc' := 119) (v := .int (zn i)) (m := 1) (ykc_138 (e := (2, .iload_n kF2, 0)) rfl) rfl rfl ?_
                    refine w_ret (v := (some (.int (zn i)))) (ykc_138 (e := (7, .ireturn, 0)) rfl) (zr_v rfl) ?_
                    have FN := (show zFr [4] [(3, 1)] ph1647 ph1656 from (zFr_trans (zFr_trans (zFr_mono fn1 (by simp) (by simp)) (zFr_mono fn2 (by simp) (by simp))) (zFr_mono fn3 (by simp) (by simp))))
                    rw [hQ]
                    exact ⟨(FN.1 1 1 (by decide) (by decide)).trans hgy, zCe_n FN hEy, (FN.1 10 1 (by decide) (by decide)).trans hry, zCc_F FN (by simp) (by simp) (by simp) hcy, ok, a, k, _, ho, rfl, Or.inr ⟨hok, hl60, i, v2, has, ti, Or.inr ⟨by omega, _, zKC_n FN hKy⟩⟩⟩
                  · refine w_alu (pc' := 99) (st' := [.long (Int64.ofNat kG1), .ref 3]) (ykc_138 (e := (0, .lconst kG1, 0)) rfl) rfl rfl ?_
                    refine w_br (pc' := 103) (st' := [.long (Int64.ofNat kG1), .ref 3]) (ykc_138 (e := (4, .goto 4, 103)) rfl) rfl ?_
                    refine w_cv (as := [.ref 3, .long (Int64.ofNat kG1)]) (r := []) (ykc_138 (e := (6, .invokevirtual 252, 0)) rfl) rfl rfl rfl rfl (zc_add (zN_S (show zFr [4] [(3, 1)] ph1647 ph1649 from (zFr_mono fn1 (by simp) (by simp))) hSy) (k := 0) gn1 (by decide)) (fun v1657 ph1658 hv => ?_)
                    obtain ⟨rfl, fn2, gn2⟩ := hv
                    show zW n D 138 Q 106 [some (.ref 0), some (.int (Int32.ofInt (-1))), some (.int (zn i))] [.ref 3] ph1658
                    refine w_load (pc' := 107) (v := .ref 0) (m := 1) (ykc_138 (e := (2, .aload_n kF0, 0)) rfl) rfl rfl ?_
                    refine w_gf (pc' := 110) (v := .ref 25) (ykc_138 (e := (5, .getfield 42, 0)) rfl) rfl ((fn2.1 0 4 (by decide) (by decide)).trans ((fn1.1 0 4 (by decide) (by decide)).trans ((fq.1 0 4 (by simp <;> omega) (by simp <;> omega)).trans ((fa.1 0 4 (by simp <;> omega) (by simp <;> omega)).trans ((hf.1 0 4 (by decide) (by decide)).trans ((fb.1 0 4 (by decide) (by decide)).trans ((f2.1 0 4 (by decide) (by decide)).trans ((f1.1 0 4 (by decide) (by decide)).trans (zsg hS zs_0_4))))))))) rfl ?_
                    refine w_gf (pc' := 113) (v := .int (zn (v2 40))) (ykc_138 (e := (5, .getfield 281, 0)) rfl) rfl ((fn2.1 25 2 (by decide) (by decide)).trans ((fn1.1 25 2 (by decide) (by decide)).trans hKy.2.1.2.2.2.2.1)) rfl ?_
                    refine w_alu (pc' := 114) (st' := [.long ((zn (v2 40)).toInt64), .ref 3]) (ykc_138 (e := (0, .i2l, 0)) rfl) rfl rfl ?_
                    refine w_cv (as := [.ref 3, .long ((zn (v2 40)).toInt64)]) (r := []) (ykc_138 (e := (6, .invokevirtual 252, 0)) rfl) rfl rfl rfl rfl (zc_add (zN_S (show zFr [4] [(3, 1)] ph1647 ph1658 from (zFr_trans (zFr_mono fn1 (by simp) (by simp)) (zFr_mono fn2 (by simp) (by simp)))) hSy) (k := 1) gn2 (by decide)) (fun v1659 ph1660 hv => ?_)
                    obtain ⟨rfl, fn3, gn3⟩ := hv
                    show zW n D 138 Q 117 [some (.ref 0), some (.int (Int32.ofInt (-1))), some (.int (zn i))] [.ref 3] ph1660
                    refine w_alu (pc' := 118) (st' := []) (ykc_138 (e := (0, .pop, 0)) rfl) rfl rfl ?_
                    refine w_load (pc' := 119) (v := .int (zn i)) (m := 1) (ykc_138 (e := (2, .iload_n kF2, 0)) rfl) rfl rfl ?_
                    refine w_ret (v := (some (.int (zn i)))) (ykc_138 (e := (7, .ireturn, 0)) rfl) (zr_v rfl) ?_
                    have FN := (show zFr [4] [(3, 1)] ph1647 ph1660 from (zFr_trans (zFr_trans (zFr_mono fn1 (by simp) (by simp)) (zFr_mono fn2 (by simp) (by simp))) (zFr_mono fn3 (by simp) (by simp))))
                    rw [hQ]
                    exact ⟨(FN.1 1 1 (by decide) (by decide)).trans hgy, zCe_n FN hEy, (FN.1 10 1 (by decide) (by decide)).trans hry, zCc_F FN (by simp) (by simp) (by simp) hcy, ok, a, k, _, ho, rfl, Or.inr ⟨hok, hl60, i, v2, has, ti, Or.inr ⟨by omega, _, zKC_n FN hKy⟩⟩⟩
                
              
            
      exact hl1 n 0 v _ (Nat.zero_le _) zFr_refl htb hcb rfl
      
    
  · have ha60 := zDo_a ho
    have ta := znt (k := a) (by omega)
    show zW n D 138 Q 11 [some (.ref 0), none, none] [.int (zn a)] ph1588
    refine w_store (pc' := 12) (L' := [some (.ref 0), some (.int (zn a)), none]) (st' := []) (m := 1) (ykc_138 (e := (3, .istore_n kF1, 0)) rfl) rfl rfl ?_
    refine w_load (pc' := 13) (v := .ref 0) (m := 1) (ykc_138 (e := (2, .aload_n kF0, 0)) rfl) rfl rfl ?_
    refine w_gf (pc' := 16) (v := .ref 1) (ykc_138 (e := (5, .getfield 10, 0)) rfl) rfl ((f1.1 0 0 (by decide) (by decide)).trans (zsg hS zs_0_0)) rfl ?_
    refine w_cv (as := [.ref 1]) (r := []) (ykc_138 (e := (6, .invokevirtual 119, 0)) rfl) rfl rfl rfl rfl (zc_tclear) (fun v1661 ph1662 hv => ?_)
    obtain ⟨rfl, f2, g1⟩ := hv
    have fz : zFr [158, 159] [(157, 2), (1, 1)] ph _ := zFr_trans (zFr_mono f1 (by simp) (by simp)) (zFr_mono f2 (by simp) (by simp))
    show zW n D 138 Q 19 [some (.ref 0), some (.int (zn a)), none] [] ph1662
    refine w_load (pc' := 20) (v := .int (zn a)) (m := 1) (ykc_138 (e := (2, .iload_n kF1, 0)) rfl) rfl rfl ?_
    refine w_zlt (ykc_138 (e := (4, .ifCond .lt 7, 27)) rfl) rfl (fun q => by exfalso; omega) (fun b1663 => ?_)
    refine w_alu (pc' := 24) (st' := [.int (Int32.ofInt (-1))]) (ykc_138 (e := (0, .iconst (-1), 0)) rfl) rfl rfl ?_
    refine w_load (pc' := 25) (v := .int (zn a)) (m := 1) (ykc_138 (e := (2, .iload_n kF1, 0)) rfl) rfl rfl ?_
    obtain ⟨z1664, e_z1664, h_z1664⟩ : ∃ zq : Int32, (Int32.ofInt (-1)) - (zn a) = zq ∧ zq.toInt = (-1 : Int) - ((a : Nat) : Int) := ⟨_, rfl, zm1sub (by omega) (by omega) (by omega)⟩
    refine w_alu (pc' := 26) (st' := [.int z1664]) (ykc_138 (e := (0, .isub, 0)) rfl) (by rw [← e_z1664]; rfl) rfl ?_
    refine w_ret (v := (some (.int z1664))) (ykc_138 (e := (7, .ireturn, 0)) rfl) (zr_v rfl) ?_
    rw [hQ]
    exact ⟨g1, zCe_pl fz hE, (fz.1 10 1 (by decide) (by decide)).trans hr, zCc_F fz (by simp) (by simp) (by simp) hc, ok, a, k, _, ho, rfl, Or.inl ⟨hno, by omega, zKC_pl fz hK⟩⟩
  

/-! the land's view with any numbers: what it leaves, by W; printed by wip/z/z1p_view.py -/
theorem zc_e8A {a b : Int32} {ph : pm_H} : zM 47 [.int a, .int b] ph (fun v q => ph = q ∧ ∃ y : Int32, v = some (.int y)) := by
  obtain ⟨Q, hQ⟩ : ∃ Q : Option Value → pm_H → Prop, Q = (fun v q => ph = q ∧ ∃ y : Int32, v = some (.int y)) := ⟨_, rfl⟩
  rw [← hQ]
  refine zM_mk fun n D => ?_
  show zW n D 47 Q 0 [some (.int a), some (.int b), none] [] ph
  have c_0 : ((Int8.ofInt 7).toInt32).toInt = 7 := by decide
  have c_1 : ((Int8.ofInt 8).toInt32).toInt = 8 := by decide
  refine w_load (pc' := 1) (v := .int a) (m := 1) (ykc_47 (e := (2, .iload_n kF0, 0)) rfl) rfl rfl ?_
  refine w_load (pc' := 2) (v := .int b) (m := 1) (ykc_47 (e := (2, .iload_n kF1, 0)) rfl) rfl rfl ?_
  refine w_alu (pc' := 3) (st' := [.int (a - b)]) (ykc_47 (e := (0, .isub, 0)) rfl) rfl rfl ?_
  refine w_push (pc' := 5) (v := .int ((Int8.ofInt 7).toInt32)) (m := 2) (ykc_47 (e := (1, .bipush 7, 0)) rfl) rfl rfl ?_
  refine w_alu (pc' := 6) (st' := [.int ((a - b) &&& ((Int8.ofInt 7).toInt32))]) (ykc_47 (e := (0, .iand, 0)) rfl) rfl rfl ?_
  refine w_store (pc' := 7) (L' := [some (.int a), some (.int b), some (.int ((a - b) &&& ((Int8.ofInt 7).toInt32)))]) (st' := []) (m := 1) (ykc_47 (e := (3, .istore_n kF2, 0)) rfl) rfl rfl ?_
  refine w_load (pc' := 8) (v := .int ((a - b) &&& ((Int8.ofInt 7).toInt32))) (m := 1) (ykc_47 (e := (2, .iload_n kF2, 0)) rfl) rfl rfl ?_
  refine w_push (pc' := 10) (v := .int ((Int8.ofInt 8).toInt32)) (m := 2) (ykc_47 (e := (1, .bipush 8, 0)) rfl) rfl rfl ?_
  refine w_load (pc' := 11) (v := .int ((a - b) &&& ((Int8.ofInt 7).toInt32))) (m := 1) (ykc_47 (e := (2, .iload_n kF2, 0)) rfl) rfl rfl ?_
  refine w_alu (pc' := 12) (st' := [.int (((Int8.ofInt 8).toInt32) - ((a - b) &&& ((Int8.ofInt 7).toInt32))), .int ((a - b) &&& ((Int8.ofInt 7).toInt32))]) (ykc_47 (e := (0, .isub, 0)) rfl) rfl rfl ?_
  obtain ⟨z647, e_z647⟩ : ∃ zq : Int32, (if (((Int8.ofInt 8).toInt32) - ((a - b) &&& ((Int8.ofInt 7).toInt32))) < ((a - b) &&& ((Int8.ofInt 7).toInt32)) then (((Int8.ofInt 8).toInt32) - ((a - b) &&& ((Int8.ofInt 7).toInt32))) else ((a - b) &&& ((Int8.ofInt 7).toInt32))) = zq := ⟨_, rfl⟩
  refine w_mem1 (pc' := 15) (m := 3) (st' := [.int z647]) (ph' := ph) (ykc_47 (e := (5, .invokestatic 85, 0)) rfl) (by rw [← e_z647]; rfl) rfl ?_
  refine w_ret (v := (some (.int z647))) (ykc_47 (e := (7, .ireturn, 0)) rfl) (zr_v rfl) ?_
  rw [hQ]
  exact ⟨rfl, _, rfl⟩
theorem zc_viewE {ph : pm_H} {R C : Nat} {rk : Nat → Bool} (hS : zSh ph) (hL : zCl ph R C rk) (hc : zCc ph R C rk) {x1 x2 x3 x4 : Int32} : zM 48 [.ref 5, .int x1, .int x2, .int x3, .int x4] ph (fun v q => zFr [8, 9] [(5, 4)] ph q ∧ zCc q R C rk) := by
  obtain ⟨Q, hQ⟩ : ∃ Q : Option Value → pm_H → Prop, Q = (fun v q => zFr [8, 9] [(5, 4)] ph q ∧ zCc q R C rk) := ⟨_, rfl⟩
  rw [← hQ]
  refine zM_mk fun n D => ?_
  show zW n D 48 Q 0 [some (.ref 5), some (.int x1), some (.int x2), some (.int x3), some (.int x4), none, none, none] [] ph
  have c_0 : ((Int8.ofInt 6).toInt32).toInt = 6 := by decide
  have c_1 : ((Int8.ofInt 7).toInt32).toInt = 7 := by decide
  have c_2 : ((Int8.ofInt 8).toInt32).toInt = 8 := by decide
  have c_3 : (Int32.ofInt 0).toInt = 0 := by decide
  have c_4 : (Int32.ofInt 1).toInt = 1 := by decide
  have c_5 : (Int32.ofInt 4).toInt = 4 := by decide
  have hL0 := hL
  have hc0 := hc
  have hx4 := x32_lo x4
  have hx5 := x32_hi x4
  have hx6 := x32_lo x1
  have hx7 := x32_hi x1
  obtain ⟨gR, gC, gN, gK, gA, hR3, hR7, hC3, hC7⟩ := hL
  have hRC := zRC49 hR7 hC7
  have tR := znt (k := R) (by omega)
  have tC := znt (k := C) (by omega)
  have tRC := znt (k := R * C) (by omega)
  obtain ⟨x, hx, hcx⟩ := hc
  refine w_load (pc' := 1) (v := .ref 5) (m := 1) (ykc_48 (e := (2, .aload_n kF0, 0)) rfl) rfl rfl ?_
  refine w_load (pc' := 2) (v := .int x1) (m := 1) (ykc_48 (e := (2, .iload_n kF1, 0)) rfl) rfl rfl ?_
  refine w_cv (as := [.ref 5, .int x1]) (r := []) (ykc_48 (e := (6, .invokevirtual 64, 0)) rfl) rfl rfl rfl rfl (zc_holds hS hL0 (f := x1)) (fun v648 ph649 hv => ?_)
  obtain ⟨rfl, rfl⟩ := hv
  show zW n D 48 Q 5 [some (.ref 5), some (.int x1), some (.int x2), some (.int x3), some (.int x4), none, none, none] [.int (zI (decide (0 ≤ x1.toInt ∧ x1.toInt < ((R * C : Nat) : Int))))] ph
  refine w_bne (ykc_48 (e := (4, .ifCond .ne 5, 10)) rfl) rfl (fun b650 => ?_) (fun b650 => ?_)
  · have d9 := of_decide_eq_true b650
    obtain ⟨f, hf, rfl⟩ : ∃ f : Nat, f < R * C ∧ x1 = zn f := ⟨x1.toInt.toNat, by omega, zn_of (by omega)⟩
    have tf := znt (k := f) (by have := zRC49 hR7 hC7; omega)
    have hRC9 := zRC49 hR7 hC7
    have hT : ∀ (n : Nat) (ph1 : pm_H), zFr [8, 9] [(5, 4)] ph ph1 → zCc ph1 R C rk → zW n D 48 Q 26 [some (.ref 5), some (.int (zn f)), some (.int x2), some (.int x3), some (.int x4), none, none, none] [] ph1 := by
      intro n ph1 hf1 hcq
      refine w_alu (pc' := 27) (st' := [.long (Int64.ofNat kG0)]) (ykc_48 (e := (0, .lconst kG0, 0)) rfl) rfl rfl ?_
      refine w_store (pc' := 29) (L' := [some (.ref 5), some (.int (zn f)), some (.int x2), some (.int x3), some (.int x4), some (.long (Int64.ofNat kG0)), none, none]) (st' := []) (m := 2) (ykc_48 (e := (3, .lstore 5, 0)) rfl) rfl rfl ?_
      refine w_alu (pc' := 30) (st' := [.int (Int32.ofInt 0)]) (ykc_48 (e := (0, .iconst 0, 0)) rfl) rfl rfl ?_
      refine w_store (pc' := 32) (L' := [some (.ref 5), some (.int (zn f)), some (.int x2), some (.int x3), some (.int x4), some (.long (Int64.ofNat kG0)), none, some (.int (Int32.ofInt 0))]) (st' := []) (m := 2) (ykc_48 (e := (3, .istore 7, 0)) rfl) rfl rfl ?_
      have hl : ∀ (n : Nat), ∀ (k : Nat) (a9 : Int64), (k ≤ 8) → zW n D 48 Q 32 [some (.ref 5), some (.int (zn f)), some (.int x2), some (.int x3), some (.int x4), some (.long a9), none, some (.int (zn k))] [] ph1 := by
        intro n
        induction n using Nat.strongRecOn with
        | ind n ih =>
          intro k a9 hk
          have tk := znt (k := k) (by omega)
          refine w_load (pc' := 34) (v := .int (zn k)) (m := 2) (ykc_48 (e := (2, .iload 7, 0)) rfl) rfl rfl ?_
          refine w_push (pc' := 36) (v := .int ((Int8.ofInt 8).toInt32)) (m := 2) (ykc_48 (e := (1, .bipush 8, 0)) rfl) rfl rfl ?_
          refine w_ige (ykc_48 (e := (4, .if_icmp .ge 38, 74)) rfl) rfl (fun b651 => ?_) (fun b651 => ?_)
          · refine w_alu (pc' := 75) (st' := [.int (Int32.ofInt 0)]) (ykc_48 (e := (0, .iconst 0, 0)) rfl) rfl rfl ?_
            refine w_push (pc' := 77) (v := .int ((Int8.ofInt 6).toInt32)) (m := 2) (ykc_48 (e := (1, .bipush 6, 0)) rfl) rfl rfl ?_
            refine w_load (pc' := 79) (v := .int x4) (m := 2) (ykc_48 (e := (2, .iload 4, 0)) rfl) rfl rfl ?_
            obtain ⟨z652, e_z652⟩ : ∃ zq : Int32, (if x4 < ((Int8.ofInt 6).toInt32) then x4 else ((Int8.ofInt 6).toInt32)) = zq := ⟨_, rfl⟩
            have h_z652 := zminI e_z652
            refine w_mem1 (pc' := 82) (m := 3) (st' := [.int z652, .int (Int32.ofInt 0)]) (ph' := ph1) (ykc_48 (e := (5, .invokestatic 85, 0)) rfl) (by rw [← e_z652]; rfl) rfl ?_
            obtain ⟨z653, e_z653⟩ : ∃ zq : Int32, (if (Int32.ofInt 0) < z652 then z652 else (Int32.ofInt 0)) = zq := ⟨_, rfl⟩
            have h_z653 := zmaxI e_z653
            have n_z653 : z653.toInt = (((max 0 (min 6 x4.toInt)).toNat : Nat) : Int) := by omega
            refine w_mem1 (pc' := 85) (m := 3) (st' := [.int z653]) (ph' := ph1) (ykc_48 (e := (5, .invokestatic 97, 0)) rfl) (by rw [← e_z653]; rfl) rfl ?_
            refine w_store (pc' := 87) (L' := [some (.ref 5), some (.int (zn f)), some (.int x2), some (.int x3), some (.int x4), some (.long a9), none, some (.int z653)]) (st' := []) (m := 2) (ykc_48 (e := (3, .istore 7, 0)) rfl) rfl rfl ?_
            refine w_load (pc' := 89) (v := .long a9) (m := 2) (ykc_48 (e := (2, .lload 5, 0)) rfl) rfl rfl ?_
            refine w_load (pc' := 90) (v := .ref 5) (m := 1) (ykc_48 (e := (2, .aload_n kF0, 0)) rfl) rfl rfl ?_
            refine w_gf (pc' := 93) (v := .ref 9) (ykc_48 (e := (5, .getfield 22, 0)) rfl) rfl ((hf1.1 5 8 (by decide) (by decide)).trans (zsg hS zs_5_8)) rfl ?_
            refine w_load (pc' := 94) (v := .int (zn f)) (m := 1) (ykc_48 (e := (2, .iload_n kF1, 0)) rfl) rfl rfl ?_
            refine w_push (pc' := 96) (v := .int ((Int8.ofInt 7).toInt32)) (m := 2) (ykc_48 (e := (1, .bipush 7, 0)) rfl) rfl rfl ?_
            have e654 : (zn f) * ((Int8.ofInt 7).toInt32) = zn (7 * f) := (zmulK (a := f) (b := 7) (znt (by omega)) c_1 (by omega))
            have te654 := znt (k := 7 * f) (by omega)
            refine w_alu (pc' := 97) (st' := [.int (zn (7 * f)), .ref 9, .long a9]) (ykc_48 (e := (0, .imul, 0)) rfl) (by show some ([.int ((zn f) * ((Int8.ofInt 7).toInt32)), .ref 9, .long a9] : List Value) = _; rw [e654]) rfl ?_
            refine w_load (pc' := 99) (v := .int z653) (m := 2) (ykc_48 (e := (2, .iload 7, 0)) rfl) rfl rfl ?_
            have e655 : (zn (7 * f)) + z653 = zn (7 * f + ((max 0 (min 6 x4.toInt)).toNat)) := (zaddN (a := 7 * f) (b := (max 0 (min 6 x4.toInt)).toNat) (znt (by omega)) (by omega) (by omega)) 
            have te655 := znt (k := 7 * f + ((max 0 (min 6 x4.toInt)).toNat)) (by omega)
            refine w_alu (pc' := 100) (st' := [.int (zn (7 * f + ((max 0 (min 6 x4.toInt)).toNat))), .ref 9, .long a9]) (ykc_48 (e := (0, .iadd, 0)) rfl) (by rw [← e655]; rfl) rfl ?_
            refine w_lal (pc' := 101) (k := 7 * f + ((max 0 (min 6 x4.toInt)).toNat)) (ykc_48 (e := (5, .laload, 0)) rfl) (by omega) rfl (fun y9 g_y9 => ?_)
            refine w_alu (pc' := 102) (st' := [.long (a9 &&& y9)]) (ykc_48 (e := (0, .land, 0)) rfl) rfl rfl ?_
            refine w_alu (pc' := 103) (st' := [.long (Int64.ofNat kG1), .long (a9 &&& y9)]) (ykc_48 (e := (0, .lconst kG1, 0)) rfl) rfl rfl ?_
            refine w_load (pc' := 104) (v := .int (zn f)) (m := 1) (ykc_48 (e := (2, .iload_n kF1, 0)) rfl) rfl rfl ?_
            refine w_alu (pc' := 105) (st' := [.long ((Int64.ofNat kG1) <<< ((zn f).toInt64 &&& 63)), .long (a9 &&& y9)]) (ykc_48 (e := (0, .lshl, 0)) rfl) rfl rfl ?_
            refine w_alu (pc' := 106) (st' := [.long ((a9 &&& y9) ||| ((Int64.ofNat kG1) <<< ((zn f).toInt64 &&& 63)))]) (ykc_48 (e := (0, .lor, 0)) rfl) rfl rfl ?_
            refine w_ret (v := (some (.long ((a9 &&& y9) ||| ((Int64.ofNat kG1) <<< ((zn f).toInt64 &&& 63)))))) (ykc_48 (e := (7, .lreturn, 0)) rfl) (zr_v rfl) ?_
            rw [hQ]
            exact ⟨hf1, hcq⟩
          · refine w_load (pc' := 41) (v := .int (zn k)) (m := 2) (ykc_48 (e := (2, .iload 7, 0)) rfl) rfl rfl ?_
            refine w_load (pc' := 42) (v := .int x2) (m := 1) (ykc_48 (e := (2, .iload_n kF2, 0)) rfl) rfl rfl ?_
            refine w_cs (as := [.int (zn k), .int x2]) (r := []) (ykc_48 (e := (6, .invokestatic 94, 0)) rfl) rfl rfl rfl rfl (zc_e8A) (fun v656 ph657 hv => ?_)
            obtain ⟨rfl, e9, rfl⟩ := hv
            show zW n D 48 Q 45 [some (.ref 5), some (.int (zn f)), some (.int x2), some (.int x3), some (.int x4), some (.long a9), none, some (.int (zn k))] [.int e9] ph1
            refine w_alu (pc' := 46) (st' := [.int (Int32.ofInt 4), .int e9]) (ykc_48 (e := (0, .iconst 4, 0)) rfl) rfl rfl ?_
            refine w_load (pc' := 47) (v := .int x3) (m := 1) (ykc_48 (e := (2, .iload_n kF3, 0)) rfl) rfl rfl ?_
            refine w_alu (pc' := 48) (st' := [.int ((Int32.ofInt 4) - x3), .int e9]) (ykc_48 (e := (0, .isub, 0)) rfl) rfl rfl ?_
            refine w_igt (ykc_48 (e := (4, .if_icmp .gt 20, 68)) rfl) rfl (fun b658 => ?_) (fun b658 => ?_)
            · have e659 : (zn k) + Int32.ofInt 1 = zn (k + 1) := (zaddN (a := k) (b := 1) (znt (by omega)) c_4 (by omega))
              have te659 := znt (k := k + 1) (by omega)
              refine w_store (pc' := 71) (L' := [some (.ref 5), some (.int (zn f)), some (.int x2), some (.int x3), some (.int x4), some (.long a9), none, some (.int (zn (k + 1)))]) (st' := []) (m := 3) (ykc_48 (e := (3, .iinc 7 1, 0)) rfl) (by rw [← e659]; rfl) rfl ?_
              refine w_gb (ykc_48 (e := (4, .goto (-39), 32)) rfl) (fun k660 hk660 => ?_)
              exact ih k660 hk660 (k + 1) _ (by omega)
            · refine w_load (pc' := 53) (v := .long a9) (m := 2) (ykc_48 (e := (2, .lload 5, 0)) rfl) rfl rfl ?_
              refine w_load (pc' := 54) (v := .ref 5) (m := 1) (ykc_48 (e := (2, .aload_n kF0, 0)) rfl) rfl rfl ?_
              refine w_gf (pc' := 57) (v := .ref 8) (ykc_48 (e := (5, .getfield 18, 0)) rfl) rfl ((hf1.1 5 7 (by decide) (by decide)).trans (zsg hS zs_5_7)) rfl ?_
              refine w_load (pc' := 58) (v := .int (zn f)) (m := 1) (ykc_48 (e := (2, .iload_n kF1, 0)) rfl) rfl rfl ?_
              refine w_push (pc' := 60) (v := .int ((Int8.ofInt 8).toInt32)) (m := 2) (ykc_48 (e := (1, .bipush 8, 0)) rfl) rfl rfl ?_
              have e661 : (zn f) * ((Int8.ofInt 8).toInt32) = zn (8 * f) := (zmulK (a := f) (b := 8) (znt (by omega)) c_2 (by omega))
              have te661 := znt (k := 8 * f) (by omega)
              refine w_alu (pc' := 61) (st' := [.int (zn (8 * f)), .ref 8, .long a9]) (ykc_48 (e := (0, .imul, 0)) rfl) (by show some ([.int ((zn f) * ((Int8.ofInt 8).toInt32)), .ref 8, .long a9] : List Value) = _; rw [e661]) rfl ?_
              refine w_load (pc' := 63) (v := .int (zn k)) (m := 2) (ykc_48 (e := (2, .iload 7, 0)) rfl) rfl rfl ?_
              have e662 : (zn (8 * f)) + (zn k) = zn (8 * f + k) := (zaddN (a := 8 * f) (b := k) (znt (by omega)) (znt (by omega)) (by omega)) 
              have te662 := znt (k := 8 * f + k) (by omega)
              refine w_alu (pc' := 64) (st' := [.int (zn (8 * f + k)), .ref 8, .long a9]) (ykc_48 (e := (0, .iadd, 0)) rfl) (by rw [← e662]; rfl) rfl ?_
              refine w_lal (pc' := 65) (k := 8 * f + k) (ykc_48 (e := (5, .laload, 0)) rfl) (by omega) rfl (fun y8 g_y8 => ?_)
              refine w_alu (pc' := 66) (st' := [.long (a9 ||| y8)]) (ykc_48 (e := (0, .lor, 0)) rfl) rfl rfl ?_
              refine w_store (pc' := 68) (L' := [some (.ref 5), some (.int (zn f)), some (.int x2), some (.int x3), some (.int x4), some (.long (a9 ||| y8)), none, some (.int (zn k))]) (st' := []) (m := 2) (ykc_48 (e := (3, .lstore 5, 0)) rfl) rfl rfl ?_
              have e663 : (zn k) + Int32.ofInt 1 = zn (k + 1) := (zaddN (a := k) (b := 1) (znt (by omega)) c_4 (by omega))
              have te663 := znt (k := k + 1) (by omega)
              refine w_store (pc' := 71) (L' := [some (.ref 5), some (.int (zn f)), some (.int x2), some (.int x3), some (.int x4), some (.long (a9 ||| y8)), none, some (.int (zn (k + 1)))]) (st' := []) (m := 3) (ykc_48 (e := (3, .iinc 7 1, 0)) rfl) (by rw [← e663]; rfl) rfl ?_
              refine w_gb (ykc_48 (e := (4, .goto (-39), 32)) rfl) (fun k664 hk664 => ?_)
              exact ih k664 hk664 (k + 1) _ (by omega)
      exact hl n 0 _ (Nat.zero_le _)
    refine w_load (pc' := 11) (v := .ref 5) (m := 1) (ykc_48 (e := (2, .aload_n kF0, 0)) rfl) rfl rfl ?_
    refine w_gf (pc' := 14) (v := .long x) (ykc_48 (e := (5, .getfield 57, 0)) rfl) rfl hx rfl ?_
    refine w_load (pc' := 15) (v := .int (zn f)) (m := 1) (ykc_48 (e := (2, .iload_n kF1, 0)) rfl) rfl rfl ?_
    refine w_cs (as := [.long x, .int (zn f)]) (r := []) (ykc_48 (e := (6, .invokestatic 68, 0)) rfl) rfl rfl rfl rfl (zc_has (kn := f) (by omega) (by omega)) (fun v665 ph666 hv => ?_)
    obtain ⟨rfl, rfl⟩ := hv
    show zW n D 48 Q 18 [some (.ref 5), some (.int (zn f)), some (.int x2), some (.int x3), some (.int x4), none, none, none] [.int (zI (zb x f))] ph
    refine w_bne (ykc_48 (e := (4, .ifCond .ne 8, 26)) rfl) rfl (fun b667 => ?_) (fun b667 => ?_)
    · exact hT n _ zFr_refl hc0
    · refine w_load (pc' := 22) (v := .ref 5) (m := 1) (ykc_48 (e := (2, .aload_n kF0, 0)) rfl) rfl rfl ?_
      refine w_load (pc' := 23) (v := .int (zn f)) (m := 1) (ykc_48 (e := (2, .iload_n kF1, 0)) rfl) rfl rfl ?_
      refine w_cv (as := [.ref 5, .int (zn f)]) (r := []) (ykc_48 (e := (6, .invokevirtual 90, 0)) rfl) rfl rfl rfl rfl (zc_survey hS hL0 (f := f) hf hx) (fun v668 ph669 hv => ?_)
      obtain ⟨rfl, fv, fv4, fv8, fv9, fo8, fo9⟩ := hv
      show zW n D 48 Q 26 [some (.ref 5), some (.int (zn f)), some (.int x2), some (.int x3), some (.int x4), none, none, none] [] ph669
      refine hT n _ fv ⟨_, fv4, fun g hg hb => ?_⟩
      by_cases e : g = f
      · subst e
        exact ⟨fv8, fv9⟩
      · rw [zb_or, zL1, zb_bit (by omega) (by omega), decide_eq_false e, Bool.or_false] at hb
        exact ⟨fun w hw => (fo8 _ (by omega)).trans ((hcx g hg hb).1 w hw), fun d hd => (fo9 _ (by omega)).trans ((hcx g hg hb).2 d hd)⟩
  · refine w_alu (pc' := 9) (st' := [.long (Int64.ofNat kG0)]) (ykc_48 (e := (0, .lconst kG0, 0)) rfl) rfl rfl ?_
    refine w_ret (v := (some (.long (Int64.ofNat kG0)))) (ykc_48 (e := (7, .lreturn, 0)) rfl) (zr_v rfl) ?_
    rw [hQ]
    exact ⟨zFr_refl, hc0⟩

/-! the codes of a RULE that was read well are in order -/
/-- how deep the stack is behind the codes (latest first), or none: something is taken from too few -/
def zdp : List Nat → Option Nat
  | [] => some 0
  | c :: cs => (zdp cs).bind (fun d => if c = 3000 then (if 1 ≤ d then some d else none) else if 2000 ≤ c then (if 2 ≤ d ∧ c < 2007 then some (d - 1) else none) else if c < 1008 then some (d + 1) else none)
section ZCGL
variable {b : Nat} {t : Nat → Nat}
theorem zdp_m {cs : List Nat} {d : Nat} (h : zdp cs = some d) (hd : 1 ≤ d) : zdp (3000 :: cs) = some d := by
  show (zdp cs).bind _ = _
  rw [h]
  exact (if_pos hd : (if 1 ≤ d then some d else none) = some d)
theorem zdp_v {cs : List Nat} {c d : Nat} (h : zdp cs = some d) (hc : c < 1008) : zdp (c :: cs) = some (d + 1) := by
  show (zdp cs).bind _ = _
  rw [h]
  show (if c = 3000 then _ else if 2000 ≤ c then _ else if c < 1008 then some (d + 1) else none) = _
  rw [if_neg (by omega), if_neg (by omega), if_pos hc]
theorem zdp_o {cs : List Nat} {c d : Nat} (h : zdp cs = some (d + 1)) (hd : 1 ≤ d) (hc : 2000 ≤ c ∧ c < 2007) : zdp (c :: cs) = some d := by
  show (zdp cs).bind _ = _
  rw [h]
  show (if c = 3000 then _ else if 2000 ≤ c then (if 2 ≤ d + 1 ∧ c < 2007 then some (d + 1 - 1) else none) else _) = _
  rw [if_neg (by omega), if_pos hc.1, if_pos ⟨by omega, hc.2⟩]
  rfl
theorem zop_b {c : Nat} (h : zop c ≠ 0) : 2000 ≤ zop c ∧ zop c < 2007 := by
  unfold zop at h ⊢
  repeat' split
  all_goals first | decide | (exfalso; simp_all)
theorem znv_b {a : Nat} (h : zdi (t a) = true) : znv t a (zdc b t a) < 1000 := by
  have h0 : 48 ≤ t a ∧ t a ≤ 57 := of_decide_eq_true h
  have e1 : znv t a 1 = t a - 48 := by show 10 * 0 + (t (a + 0) - 48) = _; rw [Nat.add_zero]; omega
  have e2 : znv t a 2 = 10 * znv t a 1 + (t (a + 1) - 48) := rfl
  have e3 : znv t a 3 = 10 * znv t a 2 + (t (a + 2) - 48) := rfl
  unfold zdc
  by_cases g1 : a + 1 < b ∧ zdi (t (a + 1)) = true
  · have k1 : 48 ≤ t (a + 1) ∧ t (a + 1) ≤ 57 := of_decide_eq_true g1.2
    rw [if_pos g1]
    by_cases g2 : a + 2 < b ∧ zdi (t (a + 2)) = true
    · have k2 : 48 ≤ t (a + 2) ∧ t (a + 2) ≤ 57 := of_decide_eq_true g2.2
      rw [if_pos g2]
      omega
    · rw [if_neg g2]
      omega
  · rw [if_neg g1]
    omega
theorem zde_d : ∀ {f m a ns d : Nat} {cs : List Nat} {a2 : Nat} {cs2 : List Nat}, zde b t f m a ns cs = some (true, a2, cs2) → zdp cs = some d → (m ≤ 3 → zdp cs2 = some (d + 1)) ∧ (3 < m → 1 ≤ d → zdp cs2 = some d) := by
  intro f
  induction f with
  | zero => intro m a ns d cs a2 cs2 h; cases h
  | succ f ih =>
    intro m a ns d cs a2 cs2 h hd
    unfold zde at h
    by_cases e1 : m = 3
    · rw [if_pos e1] at h
      refine ⟨fun _ => ?_, fun q => absurd q (by omega)⟩
      by_cases e2 : a < b ∧ t a = 45
      · rw [if_pos e2] at h
        cases hx : zde b t f 3 (a + 1) ns cs with
        | none => rw [hx] at h; cases h
        | some x =>
          rw [hx] at h
          obtain ⟨ok1, a1, c1⟩ := x
          have h : some (ok1, a1, 3000 :: c1) = some (true, a2, cs2) := h
          cases h
          exact zdp_m ((ih hx hd).1 (Nat.le_refl 3)) (by omega)
      · rw [if_neg e2] at h
        by_cases e3 : a < b ∧ zdi (t a) = true
        · rw [if_pos e3] at h
          cases h
          exact zdp_v hd (Nat.lt_of_lt_of_le (znv_b e3.2) (by decide))
        · rw [if_neg e3] at h
          by_cases e4 : a < b ∧ zlt (t a) < 8
          · rw [if_pos e4] at h
            cases h
            exact zdp_v hd (by omega)
          · rw [if_neg e4] at h
            by_cases e5 : ns < 4 ∧ a < b ∧ t a = 40
            · rw [if_pos e5] at h
              cases hx : zde b t f 0 (a + 1) (ns + 1) cs with
              | none => rw [hx] at h; cases h
              | some x =>
                rw [hx] at h
                obtain ⟨ok1, a1, c1⟩ := x
                have h7 : (if ok1 = true ∧ a1 < b ∧ t a1 = 41 then (true, a1 + 1, c1) else (false, a1, c1)) = (true, a2, cs2) := Option.some.inj h
                by_cases e6 : ok1 = true ∧ a1 < b ∧ t a1 = 41
                · rw [if_pos e6] at h7
                  obtain ⟨e7, -, -⟩ := e6
                  have h8 : c1 = cs2 := congrArg (fun x => x.2.2) h7
                  rw [e7, h8] at hx
                  exact (ih hx hd).1 (Nat.zero_le 3)
                · rw [if_neg e6] at h7
                  exact absurd (show false = true from congrArg (fun x => x.1) h7) (by decide)
            · rw [if_neg e5] at h
              cases h
    · rw [if_neg e1] at h
      by_cases e2 : m < 3
      · rw [if_pos e2] at h
        refine ⟨fun _ => ?_, fun q => absurd q (by omega)⟩
        cases hx : zde b t f (m + 1) a ns cs with
        | none => rw [hx] at h; cases h
        | some x =>
          rw [hx] at h
          obtain ⟨ok1, a1, c1⟩ := x
          have h : (if ok1 = true then zde b t f (m + 4) a1 ns c1 else some (ok1, a1, c1)) = some (true, a2, cs2) := h
          cases ok1 with
          | false => cases h
          | true =>
            rw [if_pos rfl] at h
            exact (ih h ((ih hx hd).1 (by omega))).2 (by omega) (by omega)
      · rw [if_neg e2] at h
        refine ⟨fun q => absurd q (by omega), fun _ h1 => ?_⟩
        by_cases e3 : a < b ∧ zrk2 (m - 4) (t a) = true
        · rw [if_pos e3] at h
          have ho := (of_decide_eq_true e3.2).1
          cases hx : zde b t f (m - 3) (a + 1) ns cs with
          | none => rw [hx] at h; cases h
          | some x =>
            rw [hx] at h
            obtain ⟨ok1, a1, c1⟩ := x
            have h : (if ok1 = true then (if m = 4 then some (true, a1, zop (t a) :: c1) else zde b t f m a1 ns (zop (t a) :: c1)) else some (ok1, a1, c1)) = some (true, a2, cs2) := h
            cases ok1 with
            | false => cases h
            | true =>
              rw [if_pos rfl] at h
              by_cases e4 : m - 3 ≤ 3
              · have h2 := zdp_o ((ih hx hd).1 e4) h1 (zop_b ho)
                by_cases e5 : m = 4
                · rw [if_pos e5] at h
                  cases h
                  exact h2
                · rw [if_neg e5] at h
                  exact (ih h h2).2 (by omega) h1
              · exfalso
                have := (zbd_op ho).2
                have := (of_decide_eq_true e3.2).2
                omega
        · rw [if_neg e3] at h
          cases h
          exact hd
theorem ztp_c {f g : Nat → Nat} : ∀ {k : Nat}, (∀ i, i < k → f i = g i) → ztp f k = ztp g k
  | 0, _ => rfl
  | k + 1, h => by
    show (if f k = 3000 then ztp f k else if 2000 ≤ f k then ztp f k - 1 else ztp f k + 1) = (if g k = 3000 then ztp g k else if 2000 ≤ g k then ztp g k - 1 else ztp g k + 1)
    rw [ztp_c (fun i hi => h i (by omega)), h k (by omega)]
/-- the codes in their order -/
theorem zrv_lt {cs : List Nat} {c i : Nat} (h : i < cs.length) : (c :: cs).reverse.getD i 0 = cs.reverse.getD i 0 := by
  rw [List.getD_eq_getElem?_getD, List.getD_eq_getElem?_getD, List.reverse_cons, List.getElem?_append_left (by rw [List.length_reverse]; exact h)]
theorem zrv_e {cs : List Nat} {c : Nat} : (c :: cs).reverse.getD cs.length 0 = c := by
  rw [List.reverse_cons, List.getD_eq_getElem?_getD, List.getElem?_append_right (by rw [List.length_reverse]; exact Nat.le_refl _), List.length_reverse, Nat.sub_self]
  rfl
theorem zdp_t : ∀ {cs : List Nat} {d : Nat}, zdp cs = some d → ztp (fun i => cs.reverse.getD i 0) cs.length = d ∧ ∀ k, k < cs.length → (cs.reverse.getD k 0 = 3000 → 1 ≤ ztp (fun i => cs.reverse.getD i 0) k) ∧ (2000 ≤ cs.reverse.getD k 0 → cs.reverse.getD k 0 ≠ 3000 → 2 ≤ ztp (fun i => cs.reverse.getD i 0) k) ∧ (cs.reverse.getD k 0 < 1000 ∨ (1000 ≤ cs.reverse.getD k 0 ∧ cs.reverse.getD k 0 < 1008) ∨ (2000 ≤ cs.reverse.getD k 0 ∧ cs.reverse.getD k 0 < 2007) ∨ cs.reverse.getD k 0 = 3000)
  | [], d, h => by
    cases h
    exact ⟨rfl, fun k hk => absurd hk (Nat.not_lt_zero k)⟩
  | c :: cs, d, h => by
    cases h0 : zdp cs with
    | none =>
      have : zdp (c :: cs) = none := by
        show (zdp cs).bind _ = none
        rw [h0]
        rfl
      rw [this] at h
      cases h
    | some d0 =>
      obtain ⟨i1, i2⟩ := zdp_t h0
      have h : (if c = 3000 then (if 1 ≤ d0 then some d0 else none) else if 2000 ≤ c then (if 2 ≤ d0 ∧ c < 2007 then some (d0 - 1) else none) else if c < 1008 then some (d0 + 1) else none) = some d := by
        have h9 : (zdp cs).bind (fun d => if c = 3000 then (if 1 ≤ d then some d else none) else if 2000 ≤ c then (if 2 ≤ d ∧ c < 2007 then some (d - 1) else none) else if c < 1008 then some (d + 1) else none) = some d := h
        rw [h0] at h9
        exact h9
      have e1 : ztp (fun i => (c :: cs).reverse.getD i 0) cs.length = d0 := (ztp_c (fun i hi => zrv_lt hi)).trans i1
      refine ⟨?_, fun k hk => ?_⟩
      · show (if (c :: cs).reverse.getD cs.length 0 = 3000 then ztp (fun i => (c :: cs).reverse.getD i 0) cs.length else if 2000 ≤ (c :: cs).reverse.getD cs.length 0 then ztp (fun i => (c :: cs).reverse.getD i 0) cs.length - 1 else ztp (fun i => (c :: cs).reverse.getD i 0) cs.length + 1) = d
        rw [zrv_e, e1]
        (repeat' split at h) <;> (repeat' split) <;> first | (cases h; rfl) | (cases h; done) | (exfalso; omega)
      · by_cases e : k = cs.length
        · subst e
          rw [zrv_e, e1]
          (repeat' split at h) <;> first | (cases h; done) | exact ⟨fun q => by omega, fun q q2 => by omega, by omega⟩
        · have hk : k < cs.length := by
            have : (c :: cs).length = cs.length + 1 := rfl
            omega
          rw [zrv_lt hk, ztp_c (f := fun i => (c :: cs).reverse.getD i 0) (g := fun i => cs.reverse.getD i 0) (fun i hi => zrv_lt (by omega))]
          exact i2 k hk
/-- a RULE that was read well -/
theorem zRu_cg {ln a2 : Nat} {cs2 : List Nat} (h : zRu ln t true a2 cs2) : zcg cs2.length (fun i => cs2.reverse.getD i 0) ∧ (0 < ln → 0 < cs2.length) := by
  rcases h with ⟨h1, h2, h3, h4⟩ | ⟨h1, h2, f, h3⟩
  · subst h4
    exact ⟨⟨fun q => absurd q (Nat.lt_irrefl 0), fun k hk => absurd hk (Nat.not_lt_zero k)⟩, fun q => by omega⟩
  · have h4 := (zde_d h3 (d := 0) rfl).1 (by decide)
    obtain ⟨k1, k2⟩ := zdp_t h4
    refine ⟨⟨fun _ => by rw [k1]; decide, k2⟩, fun _ => ?_⟩
    cases cs2 with
    | nil => cases h4
    | cons c cs => exact Nat.succ_pos _
end ZCGL


/-! isClear, by hand, printed by wip/x/h_clear.py -/
def xsgn (x : Int32) : Int32 := (x >>> (31 &&& 31)) ||| ((-x).toUInt32 >>> (Int32.toUInt32 31 &&& Int32.toUInt32 31)).toInt32
set_option maxRecDepth 6000 in
theorem xsgn_all : (List.range 129).all (fun n => decide ((xsgn (Int32.ofInt ((n : Int) - 64))).toInt = Int.sign ((n : Int) - 64))) = true := by decide +kernel
set_option maxRecDepth 6000 in
theorem xsgn_ok {x : Int32} (h1 : -64 ≤ x.toInt) (h2 : x.toInt ≤ 64) : (xsgn x).toInt = Int.sign x.toInt := by
  have h := List.all_eq_true.mp xsgn_all ((x.toInt + 64).toNat) (List.mem_range.mpr (by omega))
  have e : (((x.toInt + 64).toNat : Nat) : Int) - 64 = x.toInt := by omega
  have e2 : Int32.ofInt x.toInt = x := Int32.ofInt_toInt x
  have h := of_decide_eq_true h
  rw [e, e2] at h
  exact h
/-- a step from a to b -/
def xtw (a b : Nat) : Nat := bif Nat.blt a b then a + 1 else bif Nat.blt b a then a - 1 else a
def xwk (W g a b : Nat) : Nat → Nat → Nat → Bool
  | 0, _, _ => false
  | n + 1, r, c => bif Nat.beq (W * xtw r a + xtw c b) g then true else bif Nat.blt (W * xtw r a + xtw c b) 49 then xwk W g a b n (xtw r a) (xtw c b) else false
set_option maxRecDepth 6000 in
theorem xtw_int (a b : Nat) : (xtw a b : Int) = (a : Int) + Int.sign ((b : Int) - a) := by
  unfold xtw
  rcases Nat.lt_trichotomy a b with h | h | h
  · have e : Nat.blt a b = true := Nat.ble_eq_true_of_le h
    rw [e, Int.sign_eq_one_of_pos (by omega)]
    rfl
  · subst h
    have e : Nat.blt a a = false := by
      cases hq : Nat.blt a a with
      | false => rfl
      | true => have := Nat.le_of_ble_eq_true hq; omega
    rw [e]
    simp
  · have e : Nat.blt a b = false := by
      cases hq : Nat.blt a b with
      | false => rfl
      | true => have := Nat.le_of_ble_eq_true hq; omega
    have e2 : Nat.blt b a = true := Nat.ble_eq_true_of_le h
    rw [e, e2, Int.sign_eq_neg_one_of_neg (by omega)]
    show ((a - 1 : Nat) : Int) = _
    omega
set_option maxRecDepth 6000 in
theorem xtw_le (a b : Nat) : xtw a b ≤ max a b := by
  have := xtw_int a b
  rcases Nat.lt_trichotomy a b with h | h | h
  · rw [Int.sign_eq_one_of_pos (by omega)] at this; omega
  · subst h; simp at this; omega
  · rw [Int.sign_eq_neg_one_of_neg (by omega)] at this; omega
set_option maxRecDepth 6000 in
theorem xsignum {D : Nat} {x : Int32} {ph : pm_H} (h1 : -64 ≤ x.toInt) (h2 : x.toInt ≤ 64) : ∃ v ph', pm_Rd kK false (D + 1) 304 [.int x] ph (v, ph', 0, 0) ∧ (∃ z : Int32, v = some (.int z) ∧ ph' = ph ∧ z.toInt = Int.sign x.toInt) := by
  refine xRd_mk (nl := 1) rfl rfl ?_
  show xGT kK D 304 _ (0, [some (.int x)], [], ph, 0, 0)
  refine gt_load (v := .int x) (n := 1) (ykc_304 (e := (2, .iload_n kF0, 0)) rfl) rfl rfl ?_
  refine gt_push (v := .int 31) (n := 2) (ykc_304 (e := (1, .bipush 31, 0)) rfl) rfl rfl ?_
  refine gt_alu (ykc_304 (e := (0, .ishr, 0)) rfl) rfl rfl ?_
  refine gt_load (v := .int x) (n := 1) (ykc_304 (e := (2, .iload_n kF0, 0)) rfl) rfl rfl ?_
  refine gt_alu (ykc_304 (e := (0, .ineg, 0)) rfl) rfl rfl ?_
  refine gt_push (v := .int 31) (n := 2) (ykc_304 (e := (1, .bipush 31, 0)) rfl) rfl rfl ?_
  refine gt_alu (ykc_304 (e := (0, .iushr, 0)) rfl) rfl rfl ?_
  refine gt_alu (st' := [.int (xsgn x)]) (ykc_304 (e := (0, .ior, 0)) rfl) rfl rfl ?_
  refine gt_ret (v := some (.int (xsgn x))) (ykc_304 (e := (7, .ireturn, 0)) rfl) rfl ?_
  exact ⟨_, rfl, rfl, xsgn_ok h1 h2⟩

set_option maxRecDepth 6000 in
theorem xclear_loop {m : Int} {w D Wn gn qa qb fuel : Nat} {f g W : Int32} {ph : pm_H} {Q : Option Value → pm_H → Prop} (hP : xH xX kK m w ph) (hW : xget ph 170 4 = some (.int W)) (hWn : W.toInt = (Wn : Int)) (hW0 : 3 ≤ Wn) (hW1 : Wn ≤ 7) (hgn : g.toInt = (gn : Int)) (hg1 : gn ≤ 48) (egr : g.toInt / W.toInt = (qa : Int)) (egc : g.toInt % W.toInt = (qb : Int)) (bgr : qa ≤ 16) (bgc : qb < Wn) (hQ : ∀ z : Int32, 0 ≤ z.toInt → z.toInt ≤ 1 → Q (some (.int z)) ph) : ∀ (rn cn : Nat) (r c q : Int32), xwk Wn gn qa qb fuel rn cn = true → r.toInt = (rn : Int) → c.toInt = (cn : Int) → rn ≤ 16 → cn < Wn → 0 ≤ q.toInt → q.toInt ≤ 1 → xGT kK (D + 1) 223 Q (21, [some (.ref 170), some (.int f), some (.int g), some (.int r), some (.int c), some (.int q), some (.int (Int32.ofInt 1))], [], ph, 0, 0) := by
  induction fuel with
  | zero => intro rn cn r c q h; cases h
  | succ fuel ih =>
    intro rn cn r c q h hr hc hrn hcn hq hq1
    unfold xwk at h
    have hr1 : (rn : Int) + Int.sign ((qa : Int) - (rn : Int)) = (xtw rn (qa) : Int) := (xtw_int _ _).symm
    have hc1 : (cn : Int) + Int.sign ((qb : Int) - (cn : Int)) = (xtw cn (qb) : Int) := (xtw_int _ _).symm
    have br := xtw_le rn (qa)
    have bc := xtw_le cn (qb)
    have bm : Wn * xtw rn (qa) ≤ 7 * 16 := Nat.mul_le_mul hW1 (by omega)
    refine gt_load (v := .int (Int32.ofInt 1)) (n := 2) (ykc_223 (e := (2, .iload 6, 0)) rfl) rfl rfl ?_
    refine gt_zeq_f (ykc_223 (e := (4, .ifCond .eq 91, 114)) rfl) (by decide) rfl ?_
    refine gt_load (v := .int r) (n := 1) (ykc_223 (e := (2, .iload_n kF3, 0)) rfl) rfl rfl ?_
    refine gt_load (v := .int g) (n := 1) (ykc_223 (e := (2, .iload_n kF2, 0)) rfl) rfl rfl ?_
    refine gt_load (v := .ref 170) (n := 1) (ykc_223 (e := (2, .aload_n kF0, 0)) rfl) rfl rfl ?_
    refine gt_gfk (v := .int W) (ykc_223 (e := (5, .getfield 27, 0)) rfl) rfl hP hW rfl ?_
    obtain ⟨gr, e_gr, h_gr⟩ : ∃ zq : Int32, g / W = zq ∧ zq.toInt = (qa : Int) := ⟨_, rfl, by rw [ti_div (by omega) (by omega), egr]⟩
    refine gt_alu (st' := [.int gr, .int r]) (ykc_223 (e := (0, .idiv, 0)) rfl) (by rw [← e_gr]; exact (xv_idiv g W _ (by omega))) rfl ?_
    refine gt_load (v := .int r) (n := 1) (ykc_223 (e := (2, .iload_n kF3, 0)) rfl) rfl rfl ?_
    obtain ⟨dr, e_dr, h_dr⟩ : ∃ zq : Int32, gr - r = zq ∧ zq.toInt = (qa : Int) - (rn : Int) := ⟨_, rfl, by rw [ti_sub (by rw [h_gr]; omega) (by rw [h_gr]; omega), h_gr, hr]⟩
    refine gt_alu (st' := [.int dr, .int r]) (ykc_223 (e := (0, .isub, 0)) rfl) (by rw [← e_dr]; exact rfl) rfl ?_
    refine gt_cs (n := 1) (as := [.int dr]) (r := [.int r]) (ykc_223 (e := (6, .invokestatic 279, 0)) rfl) rfl rfl rfl rfl (xsignum (D := D) (by rw [h_dr]; omega) (by rw [h_dr]; omega)) rfl (fun vv ph1 hv => ?_)
    obtain ⟨sr, e9, e8, sr_s⟩ := hv; subst e9; have e7 := e8.symm; subst e7
    change xGT kK (D + 1) 223 Q (38, [some (.ref 170), some (.int f), some (.int g), some (.int r), some (.int c), some (.int q), some (.int (Int32.ofInt 1))], [.int sr, .int r], ph, 0, 0)
    obtain ⟨r1, e_r1, h_r1⟩ : ∃ zq : Int32, r + sr = zq ∧ zq.toInt = (xtw rn (qa) : Int) := ⟨_, rfl, by rw [ti_add (by rw [sr_s, h_dr, hr, hr1]; omega) (by rw [sr_s, h_dr, hr, hr1]; omega), sr_s, h_dr, hr, hr1]⟩
    refine gt_alu (st' := [.int r1]) (ykc_223 (e := (0, .iadd, 0)) rfl) (by rw [← e_r1]; exact rfl) rfl ?_
    refine gt_store (L' := [some (.ref 170), some (.int f), some (.int g), some (.int r1), some (.int c), some (.int q), some (.int (Int32.ofInt 1))]) (st' := []) (n := 1) (ykc_223 (e := (3, .istore_n kF3, 0)) rfl) rfl rfl ?_
    refine gt_load (v := .int c) (n := 2) (ykc_223 (e := (2, .iload 4, 0)) rfl) rfl rfl ?_
    refine gt_load (v := .int g) (n := 1) (ykc_223 (e := (2, .iload_n kF2, 0)) rfl) rfl rfl ?_
    refine gt_load (v := .ref 170) (n := 1) (ykc_223 (e := (2, .aload_n kF0, 0)) rfl) rfl rfl ?_
    refine gt_gfk (v := .int W) (ykc_223 (e := (5, .getfield 27, 0)) rfl) rfl hP hW rfl ?_
    obtain ⟨gc, e_gc, h_gc⟩ : ∃ zq : Int32, g - g / W * W = zq ∧ zq.toInt = (qb : Int) := ⟨_, rfl, by rw [ti_rem (by omega) (by omega), egc]⟩
    refine gt_alu (st' := [.int gc, .int c]) (ykc_223 (e := (0, .irem, 0)) rfl) (by rw [← e_gc]; exact (xv_irem g W _ (by omega))) rfl ?_
    refine gt_load (v := .int c) (n := 2) (ykc_223 (e := (2, .iload 4, 0)) rfl) rfl rfl ?_
    obtain ⟨dc, e_dc, h_dc⟩ : ∃ zq : Int32, gc - c = zq ∧ zq.toInt = (qb : Int) - (cn : Int) := ⟨_, rfl, by rw [ti_sub (by rw [h_gc]; omega) (by rw [h_gc]; omega), h_gc, hc]⟩
    refine gt_alu (st' := [.int dc, .int c]) (ykc_223 (e := (0, .isub, 0)) rfl) (by rw [← e_dc]; exact rfl) rfl ?_
    refine gt_cs (n := 1) (as := [.int dc]) (r := [.int c]) (ykc_223 (e := (6, .invokestatic 279, 0)) rfl) rfl rfl rfl rfl (xsignum (D := D) (by rw [h_dc]; omega) (by rw [h_dc]; omega)) rfl (fun vv ph2 hv => ?_)
    obtain ⟨sc, e9, e8, sc_s⟩ := hv; subst e9; have e7 := e8.symm; subst e7
    change xGT kK (D + 1) 223 Q (54, [some (.ref 170), some (.int f), some (.int g), some (.int r1), some (.int c), some (.int q), some (.int (Int32.ofInt 1))], [.int sc, .int c], ph, 0, 0)
    obtain ⟨c1, e_c1, h_c1⟩ : ∃ zq : Int32, c + sc = zq ∧ zq.toInt = (xtw cn (qb) : Int) := ⟨_, rfl, by rw [ti_add (by rw [sc_s, h_dc, hc, hc1]; omega) (by rw [sc_s, h_dc, hc, hc1]; omega), sc_s, h_dc, hc, hc1]⟩
    refine gt_alu (st' := [.int c1]) (ykc_223 (e := (0, .iadd, 0)) rfl) (by rw [← e_c1]; exact rfl) rfl ?_
    refine gt_store (L' := [some (.ref 170), some (.int f), some (.int g), some (.int r1), some (.int c1), some (.int q), some (.int (Int32.ofInt 1))]) (st' := []) (n := 2) (ykc_223 (e := (3, .istore 4, 0)) rfl) rfl rfl ?_
    refine gt_load (v := .ref 170) (n := 1) (ykc_223 (e := (2, .aload_n kF0, 0)) rfl) rfl rfl ?_
    refine gt_gfk (v := .int W) (ykc_223 (e := (5, .getfield 27, 0)) rfl) rfl hP hW rfl ?_
    refine gt_load (v := .int r1) (n := 1) (ykc_223 (e := (2, .iload_n kF3, 0)) rfl) rfl rfl ?_
    obtain ⟨p1, e_p1, h_p1⟩ : ∃ zq : Int32, W * r1 = zq ∧ zq.toInt = (Wn * xtw rn (qa) : Int) := ⟨_, rfl, by rw [ti_mul (by rw [h_r1, hWn]; omega) (by rw [h_r1, hWn]; omega), h_r1, hWn]⟩
    refine gt_alu (st' := [.int p1]) (ykc_223 (e := (0, .imul, 0)) rfl) (by rw [← e_p1]; exact rfl) rfl ?_
    refine gt_load (v := .int c1) (n := 2) (ykc_223 (e := (2, .iload 4, 0)) rfl) rfl rfl ?_
    obtain ⟨i1, e_i1, h_i1⟩ : ∃ zq : Int32, p1 + c1 = zq ∧ zq.toInt = ((Wn * xtw rn (qa) + xtw cn (qb) : Nat) : Int) := ⟨_, rfl, by rw [ti_add (by rw [h_p1, h_c1]; omega) (by rw [h_p1, h_c1]; omega), h_p1, h_c1]; push_cast; omega⟩
    refine gt_alu (st' := [.int i1]) (ykc_223 (e := (0, .iadd, 0)) rfl) (by rw [← e_i1]; exact rfl) rfl ?_
    refine gt_load (v := .int g) (n := 1) (ykc_223 (e := (2, .iload_n kF2, 0)) rfl) rfl rfl ?_
    cases he : Nat.beq (Wn * xtw rn (qa) + xtw cn (qb)) gn with
    | true =>
      have e1 := Nat.eq_of_beq_eq_true he
      refine gt_ieq_t (ykc_223 (e := (4, .if_icmp .eq 7, 74)) rfl) (by rw [h_i1, hgn, e1]) ?_
      refine gt_alu (st' := [.int (Int32.ofInt 0)]) (ykc_223 (e := (0, .iconst 0, 0)) rfl) rfl rfl ?_
      refine gt_store (L' := [some (.ref 170), some (.int f), some (.int g), some (.int r1), some (.int c1), some (.int q), some (.int (Int32.ofInt 0))]) (st' := []) (n := 2) (ykc_223 (e := (3, .istore 6, 0)) rfl) rfl rfl ?_
      by_cases hq0 : q.toInt = 0
      · refine gt_load (v := .int q) (n := 2) (ykc_223 (e := (2, .iload 5, 0)) rfl) rfl rfl ?_
        refine gt_zeq_t (ykc_223 (e := (4, .ifCond .eq 29, 108)) rfl) hq0 ?_
        refine gt_alu (st' := [.int (Int32.ofInt 0)]) (ykc_223 (e := (0, .iconst 0, 0)) rfl) rfl rfl ?_
        refine gt_store (L' := [some (.ref 170), some (.int f), some (.int g), some (.int r1), some (.int c1), some (.int (Int32.ofInt 0)), some (.int (Int32.ofInt 0))]) (st' := []) (n := 2) (ykc_223 (e := (3, .istore 5, 0)) rfl) rfl rfl ?_
        refine gt_br (pc' := 21) (st' := []) (ykc_223 (e := (4, .goto (-90), 21)) rfl) rfl ?_
        refine gt_load (v := .int (Int32.ofInt 0)) (n := 2) (ykc_223 (e := (2, .iload 6, 0)) rfl) rfl rfl ?_
        refine gt_zeq_t (ykc_223 (e := (4, .ifCond .eq 91, 114)) rfl) (by decide) ?_
        refine gt_load (v := .int (Int32.ofInt 0)) (n := 2) (ykc_223 (e := (2, .iload 5, 0)) rfl) rfl rfl ?_
        refine gt_ret (ykc_223 (e := (7, .ireturn, 0)) rfl) (xretz (by decide) (by decide)) ?_
        exact hQ _ (by decide) (by decide)
      · refine gt_load (v := .int q) (n := 2) (ykc_223 (e := (2, .iload 5, 0)) rfl) rfl rfl ?_
        refine gt_zeq_f (ykc_223 (e := (4, .ifCond .eq 29, 108)) rfl) (by omega) rfl ?_
        refine gt_load (v := .int (Int32.ofInt 0)) (n := 2) (ykc_223 (e := (2, .iload 6, 0)) rfl) rfl rfl ?_
        refine gt_zeq_t (ykc_223 (e := (4, .ifCond .eq 20, 104)) rfl) (by decide) ?_
        refine gt_alu (st' := [.int (Int32.ofInt 1)]) (ykc_223 (e := (0, .iconst 1, 0)) rfl) rfl rfl ?_
        refine gt_br (pc' := 109) (st' := [.int (Int32.ofInt 1)]) (ykc_223 (e := (4, .goto 4, 109)) rfl) rfl ?_
        refine gt_store (L' := [some (.ref 170), some (.int f), some (.int g), some (.int r1), some (.int c1), some (.int (Int32.ofInt 1)), some (.int (Int32.ofInt 0))]) (st' := []) (n := 2) (ykc_223 (e := (3, .istore 5, 0)) rfl) rfl rfl ?_
        refine gt_br (pc' := 21) (st' := []) (ykc_223 (e := (4, .goto (-90), 21)) rfl) rfl ?_
        refine gt_load (v := .int (Int32.ofInt 0)) (n := 2) (ykc_223 (e := (2, .iload 6, 0)) rfl) rfl rfl ?_
        refine gt_zeq_t (ykc_223 (e := (4, .ifCond .eq 91, 114)) rfl) (by decide) ?_
        refine gt_load (v := .int (Int32.ofInt 1)) (n := 2) (ykc_223 (e := (2, .iload 5, 0)) rfl) rfl rfl ?_
        refine gt_ret (ykc_223 (e := (7, .ireturn, 0)) rfl) rfl ?_
        exact hQ _ (by decide) (by decide)
    | false =>
      rw [he] at h
      simp only [cond_false] at h
      obtain ⟨hlt, hwk2⟩ := x_and h
      have hlt : Wn * xtw rn (qa) + xtw cn (qb) < 49 := Nat.le_of_ble_eq_true hlt
      have hne : Wn * xtw rn (qa) + xtw cn (qb) ≠ gn := fun e => by
        rw [e] at he
        have : Nat.beq gn gn = true := by simp
        rw [this] at he
        cases he
      refine gt_ieq_f (ykc_223 (e := (4, .if_icmp .eq 7, 74)) rfl) (by rw [h_i1, hgn]; omega) rfl ?_
      refine gt_alu (st' := [.int (Int32.ofInt 1)]) (ykc_223 (e := (0, .iconst 1, 0)) rfl) rfl rfl ?_
      refine gt_br (pc' := 75) (st' := [.int (Int32.ofInt 1)]) (ykc_223 (e := (4, .goto 4, 75)) rfl) rfl ?_
      refine gt_store (L' := [some (.ref 170), some (.int f), some (.int g), some (.int r1), some (.int c1), some (.int q), some (.int (Int32.ofInt 1))]) (st' := []) (n := 2) (ykc_223 (e := (3, .istore 6, 0)) rfl) rfl rfl ?_
      by_cases hq0 : q.toInt = 0
      · refine gt_load (v := .int q) (n := 2) (ykc_223 (e := (2, .iload 5, 0)) rfl) rfl rfl ?_
        refine gt_zeq_t (ykc_223 (e := (4, .ifCond .eq 29, 108)) rfl) hq0 ?_
        refine gt_alu (st' := [.int (Int32.ofInt 0)]) (ykc_223 (e := (0, .iconst 0, 0)) rfl) rfl rfl ?_
        refine gt_store (L' := [some (.ref 170), some (.int f), some (.int g), some (.int r1), some (.int c1), some (.int (Int32.ofInt 0)), some (.int (Int32.ofInt 1))]) (st' := []) (n := 2) (ykc_223 (e := (3, .istore 5, 0)) rfl) rfl rfl ?_
        refine gt_br (pc' := 21) (st' := []) (ykc_223 (e := (4, .goto (-90), 21)) rfl) rfl ?_
        exact ih (xtw rn (qa)) (xtw cn (qb)) r1 c1 _ hwk2 h_r1 h_c1 (by omega) (by omega) (by decide) (by decide)
      · refine gt_load (v := .int q) (n := 2) (ykc_223 (e := (2, .iload 5, 0)) rfl) rfl rfl ?_
        refine gt_zeq_f (ykc_223 (e := (4, .ifCond .eq 29, 108)) rfl) (by omega) rfl ?_
        refine gt_load (v := .int (Int32.ofInt 1)) (n := 2) (ykc_223 (e := (2, .iload 6, 0)) rfl) rfl rfl ?_
        refine gt_zeq_f (ykc_223 (e := (4, .ifCond .eq 20, 104)) rfl) (by decide) rfl ?_
        refine gt_load (v := .ref 170) (n := 1) (ykc_223 (e := (2, .aload_n kF0, 0)) rfl) rfl rfl ?_
        refine gt_gfr (A := 172) (ykc_223 (e := (5, .getfield 33, 0)) rfl) rfl hP rfl rfl rfl ?_
        refine gt_load (v := .ref 170) (n := 1) (ykc_223 (e := (2, .aload_n kF0, 0)) rfl) rfl rfl ?_
        refine gt_gfk (v := .int W) (ykc_223 (e := (5, .getfield 27, 0)) rfl) rfl hP hW rfl ?_
        refine gt_load (v := .int r1) (n := 1) (ykc_223 (e := (2, .iload_n kF3, 0)) rfl) rfl rfl ?_
        obtain ⟨p2, e_p2, h_p2⟩ : ∃ zq : Int32, W * r1 = zq ∧ zq.toInt = (Wn * xtw rn (qa) : Int) := ⟨_, rfl, by rw [ti_mul (by rw [h_r1, hWn]; omega) (by rw [h_r1, hWn]; omega), h_r1, hWn]⟩
        refine gt_alu (st' := [.int p2, .ref 172]) (ykc_223 (e := (0, .imul, 0)) rfl) (by rw [← e_p2]; exact rfl) rfl ?_
        refine gt_load (v := .int c1) (n := 2) (ykc_223 (e := (2, .iload 4, 0)) rfl) rfl rfl ?_
        obtain ⟨i2, e_i2, h_i2⟩ : ∃ zq : Int32, p2 + c1 = zq ∧ zq.toInt = ((Wn * xtw rn (qa) + xtw cn (qb) : Nat) : Int) := ⟨_, rfl, by rw [ti_add (by rw [h_p2, h_c1]; omega) (by rw [h_p2, h_c1]; omega), h_p2, h_c1]; push_cast; omega⟩
        refine gt_alu (st' := [.int i2, .ref 172]) (ykc_223 (e := (0, .iadd, 0)) rfl) (by rw [← e_i2]; exact rfl) rfl ?_
        refine gt_bal (A := 172) (ykc_223 (e := (5, .baload, 0)) rfl) hP rfl rfl (by rw [h_i2]; omega) (by rw [h_i2]; omega) rfl (fun rk g_rk b0_rk b1_rk => ?_)
        by_cases hrk : rk.toInt = 0
        · refine gt_zne_f (ykc_223 (e := (4, .ifCond .ne 7, 108)) rfl) hrk rfl ?_
          refine gt_alu (st' := [.int (Int32.ofInt 1)]) (ykc_223 (e := (0, .iconst 1, 0)) rfl) rfl rfl ?_
          refine gt_br (pc' := 109) (st' := [.int (Int32.ofInt 1)]) (ykc_223 (e := (4, .goto 4, 109)) rfl) rfl ?_
          refine gt_store (L' := [some (.ref 170), some (.int f), some (.int g), some (.int r1), some (.int c1), some (.int (Int32.ofInt 1)), some (.int (Int32.ofInt 1))]) (st' := []) (n := 2) (ykc_223 (e := (3, .istore 5, 0)) rfl) rfl rfl ?_
          refine gt_br (pc' := 21) (st' := []) (ykc_223 (e := (4, .goto (-90), 21)) rfl) rfl ?_
          exact ih (xtw rn (qa)) (xtw cn (qb)) r1 c1 _ hwk2 h_r1 h_c1 (by omega) (by omega) (by decide) (by decide)
        · refine gt_zne_t (ykc_223 (e := (4, .ifCond .ne 7, 108)) rfl) hrk ?_
          refine gt_alu (st' := [.int (Int32.ofInt 0)]) (ykc_223 (e := (0, .iconst 0, 0)) rfl) rfl rfl ?_
          refine gt_store (L' := [some (.ref 170), some (.int f), some (.int g), some (.int r1), some (.int c1), some (.int (Int32.ofInt 0)), some (.int (Int32.ofInt 1))]) (st' := []) (n := 2) (ykc_223 (e := (3, .istore 5, 0)) rfl) rfl rfl ?_
          refine gt_br (pc' := 21) (st' := []) (ykc_223 (e := (4, .goto (-90), 21)) rfl) rfl ?_
          exact ih (xtw rn (qa)) (xtw cn (qb)) r1 c1 _ hwk2 h_r1 h_c1 (by omega) (by omega) (by decide) (by decide)
set_option maxRecDepth 6000 in
theorem xclear_run {m : Int} {w D Wn fn gn : Nat} {f g W : Int32} {ph : pm_H} (hP : xH xX kK m w ph) (hW : xget ph 170 4 = some (.int W)) (hWn : W.toInt = (Wn : Int)) (hW0 : 3 ≤ Wn) (hW1 : Wn ≤ 7) (hfn : f.toInt = (fn : Int)) (hf1 : fn ≤ 48) (hgn : g.toInt = (gn : Int)) (hg1 : gn ≤ 48) (hwk : xwk Wn gn (gn / Wn) (gn % Wn) 17 (fn / Wn) (fn % Wn) = true) : ∃ v ph', pm_Rd kK false (D + 1 + 1) 223 [.ref 170, .int f, .int g] ph (v, ph', 0, 0) ∧ (∃ z : Int32, v = some (.int z) ∧ 0 ≤ z.toInt ∧ z.toInt ≤ 1 ∧ ph' = ph) := by
  have bq : ∀ k : Nat, k ≤ 48 → k / Wn ≤ 16 ∧ k % Wn < Wn := fun k hk => by
    have h1 : k / Wn ≤ k / 3 := Nat.div_le_div_left hW0 (by decide)
    exact ⟨by omega, Nat.mod_lt _ (by omega)⟩
  refine xRd_mk (nl := 7) rfl rfl ?_
  show xGT kK (D + 1) 223 _ (0, [some (.ref 170), some (.int f), some (.int g), none, none, none, none], [], ph, 0, 0)
  refine gt_load (v := .int f) (n := 1) (ykc_223 (e := (2, .iload_n kF1, 0)) rfl) rfl rfl ?_
  refine gt_load (v := .ref 170) (n := 1) (ykc_223 (e := (2, .aload_n kF0, 0)) rfl) rfl rfl ?_
  refine gt_gfk (v := .int W) (ykc_223 (e := (5, .getfield 27, 0)) rfl) rfl hP hW rfl ?_
  obtain ⟨r, e_r, h_r⟩ : ∃ zq : Int32, f / W = zq ∧ zq.toInt = ((fn / Wn : Nat) : Int) := ⟨_, rfl, by rw [ti_div (by omega) (by omega), hfn, hWn]; exact (Int.natCast_ediv fn Wn).symm⟩
  refine gt_alu (st' := [.int r]) (ykc_223 (e := (0, .idiv, 0)) rfl) (by rw [← e_r]; exact (xv_idiv f W _ (by omega))) rfl ?_
  refine gt_store (L' := [some (.ref 170), some (.int f), some (.int g), some (.int r), none, none, none]) (st' := []) (n := 1) (ykc_223 (e := (3, .istore_n kF3, 0)) rfl) rfl rfl ?_
  refine gt_load (v := .int f) (n := 1) (ykc_223 (e := (2, .iload_n kF1, 0)) rfl) rfl rfl ?_
  refine gt_load (v := .ref 170) (n := 1) (ykc_223 (e := (2, .aload_n kF0, 0)) rfl) rfl rfl ?_
  refine gt_gfk (v := .int W) (ykc_223 (e := (5, .getfield 27, 0)) rfl) rfl hP hW rfl ?_
  obtain ⟨c, e_c, h_c⟩ : ∃ zq : Int32, f - f / W * W = zq ∧ zq.toInt = ((fn % Wn : Nat) : Int) := ⟨_, rfl, by rw [ti_rem (by omega) (by omega), hfn, hWn]; exact (Int.natCast_emod fn Wn).symm⟩
  refine gt_alu (st' := [.int c]) (ykc_223 (e := (0, .irem, 0)) rfl) (by rw [← e_c]; exact (xv_irem f W _ (by omega))) rfl ?_
  refine gt_store (L' := [some (.ref 170), some (.int f), some (.int g), some (.int r), some (.int c), none, none]) (st' := []) (n := 2) (ykc_223 (e := (3, .istore 4, 0)) rfl) rfl rfl ?_
  refine gt_alu (st' := [.int (Int32.ofInt 1)]) (ykc_223 (e := (0, .iconst 1, 0)) rfl) rfl rfl ?_
  refine gt_store (L' := [some (.ref 170), some (.int f), some (.int g), some (.int r), some (.int c), some (.int (Int32.ofInt 1)), none]) (st' := []) (n := 2) (ykc_223 (e := (3, .istore 5, 0)) rfl) rfl rfl ?_
  refine gt_alu (st' := [.int (Int32.ofInt 1)]) (ykc_223 (e := (0, .iconst 1, 0)) rfl) rfl rfl ?_
  refine gt_store (L' := [some (.ref 170), some (.int f), some (.int g), some (.int r), some (.int c), some (.int (Int32.ofInt 1)), some (.int (Int32.ofInt 1))]) (st' := []) (n := 2) (ykc_223 (e := (3, .istore 6, 0)) rfl) rfl rfl ?_
  exact xclear_loop hP hW hWn hW0 hW1 hgn hg1 (by rw [hgn, hWn]; exact (Int.natCast_ediv gn Wn).symm) (by rw [hgn, hWn]; exact (Int.natCast_emod gn Wn).symm) (bq gn hg1).1 (bq gn hg1).2 (fun z h0 h1 => ⟨z, rfl, h0, h1, rfl⟩) _ _ r c _ hwk h_r h_c (bq fn hf1).1 (bq fn hf1).2 (by decide) (by decide)
set_option maxRecDepth 6000 in
theorem xwk_A : (List.range 5).all (fun W => (List.range 48).all (fun g => (List.range 49).all (fun f => xwk (W + 3) g (g / (W + 3)) (g % (W + 3)) 17 (f / (W + 3)) (f % (W + 3))))) = true := by decide +kernel
set_option maxRecDepth 6000 in
theorem xwk_B : (List.range 49).all (fun f => xwk 7 48 (48 / 7) (48 % 7) 17 (f / 7) (f % 7)) = true := by decide +kernel
set_option maxRecDepth 6000 in
theorem xwk_C : (List.range 49).all (fun f => xwk 5 48 (48 / 5) (48 % 5) 17 (f / 5) (f % 5)) = true := by decide +kernel
set_option maxRecDepth 6000 in
theorem xwk_D : [45, 46].all (fun f => xwk 3 48 (48 / 3) (48 % 3) 17 (f / 3) (f % 3)) = true := by decide +kernel
set_option maxRecDepth 6000 in
theorem xwk_E : [44, 45].all (fun f => xwk 4 48 (48 / 4) (48 % 4) 17 (f / 4) (f % 4)) = true := by decide +kernel
set_option maxRecDepth 6000 in
theorem xwk_F : [42, 43].all (fun f => xwk 6 48 (48 / 6) (48 % 6) 17 (f / 6) (f % 6)) = true := by decide +kernel
set_option maxRecDepth 6000 in
/-- where the walk is safe, as numbers -/
theorem xclear_con {E : pm_H → Prop} {l1 h1 l2 h2 : Int} {fp : List (Nat × xh)} (b1 : 0 ≤ l1) (b2 : h1 ≤ 48) (b3 : 0 ≤ l2) (b4 : h2 ≤ 48) (hwk : ∀ (Wn fn gn : Nat), 3 ≤ Wn → Wn ≤ 7 → l1 ≤ fn → (fn : Int) ≤ h1 → l2 ≤ gn → (gn : Int) ≤ h2 → (fp = [] ∨ ∃ c : Int, fp = [(696324, .inl (c, c))] ∧ (Wn : Int) = c) → xwk Wn gn (gn / Wn) (gn % Wn) 17 (fn / Wn) (fn % Wn) = true) (hfp : fp = [] ∨ ∃ c : Int, fp = [(696324, .inl (c, c))]) : xcon xX kK E 5 223 [.inr (.inr (.inl 0)), .inl (l1, h1), .inl (l2, h2)] fp 0 (some (.inl ((Int.ofNat 0), (Int.ofNat 1)))) [] := by
  intro D' hD' m hm h0m vs ph hv hf hP g9
  obtain ⟨D, rfl⟩ : ∃ D, D' = D + 1 + 1 := ⟨D' - 2, by omega⟩
  match vs, hv with
  | [v1, v2, v3], ⟨q1, ⟨f, e2, f0, f1⟩, ⟨g, e3, g0, g1⟩, _⟩ =>
  have e1 := xaO hP (A := 170) rfl q1
  subst e1 e2 e3
  obtain ⟨W, hW, W0, W1⟩ := xM_fi (k := 4) hP rfl
  have W0 : 3 ≤ W.toInt := W0
  have W1 : W.toInt ≤ 7 := W1
  obtain ⟨Wn, hWn⟩ : ∃ n : Nat, W.toInt = (n : Int) := ⟨W.toInt.toNat, by omega⟩
  obtain ⟨fn, hfn⟩ : ∃ n : Nat, f.toInt = (n : Int) := ⟨f.toInt.toNat, by omega⟩
  obtain ⟨gn, hgn⟩ : ∃ n : Nat, g.toInt = (n : Int) := ⟨g.toInt.toNat, by omega⟩
  have hcol : fp = [] ∨ ∃ c : Int, fp = [(696324, .inl (c, c))] ∧ (Wn : Int) = c := by
    rcases hfp with e | ⟨c, e⟩
    · exact Or.inl e
    · refine Or.inr ⟨c, e, ?_⟩
      obtain ⟨-, -, v, h1, x, e9, h2, h3⟩ := hf 696324 (.inl (c, c)) (by rw [e]; exact List.mem_cons_self)
      subst e9
      have h1 : xget ph 170 4 = some (.int x) := h1
      have := xget_int hW h1
      subst this
      have h2 : c ≤ W.toInt := h2
      have h3 : W.toInt ≤ c := h3
      omega
  obtain ⟨v, ph', k1, z, e, z0, z1, e2⟩ := xclear_run (D := D) hP hW hWn (by omega) (by omega) hfn (by omega) hgn (by omega) (hwk Wn fn gn (by omega) (by omega) (by omega) (by omega) (by omega) (by omega) hcol)
  subst e2
  exact ⟨v, ph', k1, hP, g9, ⟨_, e, z, rfl, z0, z1⟩, xF0⟩
set_option maxRecDepth 6000 in
theorem xclear_0 {E : pm_H → Prop} : xcon xX kK E 5 223 [.inr (.inr (.inl 0)), .inl ((Int.ofNat 0), (Int.ofNat 48)), .inl ((Int.ofNat 0), (Int.ofNat 47))] [] 0 (some (.inl ((Int.ofNat 0), (Int.ofNat 1)))) [] := xclear_con (by decide) (by decide) (by decide) (by decide) (fun Wn fn gn w0 w1 f0 f1 g0 g1 _ => by
  have f1 : (fn : Int) ≤ 48 := f1
  have g1 : (gn : Int) ≤ 47 := g1
  obtain ⟨k, rfl⟩ : ∃ k, Wn = k + 3 := ⟨Wn - 3, by omega⟩
  exact List.all_eq_true.mp (List.all_eq_true.mp (List.all_eq_true.mp xwk_A k (List.mem_range.mpr (by omega))) gn (List.mem_range.mpr (by omega))) fn (List.mem_range.mpr (by omega))) (Or.inl rfl)
set_option maxRecDepth 6000 in
theorem xclear_W {fp : List (Nat × xh)} {c : Int} {Wn : Nat} (h : fp = [] ∨ ∃ c : Int, fp = [(696324, .inl (c, c))] ∧ (Wn : Int) = c) (e : fp = [(696324, .inl (c, c))]) : (Wn : Int) = c := by
  rcases h with h | ⟨c2, h, h2⟩
  · rw [e] at h; cases h
  · rw [e] at h; cases h; exact h2
set_option maxRecDepth 6000 in
theorem xclear_1 {E : pm_H → Prop} : xcon xX kK E 5 223 [.inr (.inr (.inl 0)), .inl ((Int.ofNat 0), (Int.ofNat 48)), .inl ((Int.ofNat 0), (Int.ofNat 48))] [(696324, .inl ((Int.ofNat 7), (Int.ofNat 7)))] 0 (some (.inl ((Int.ofNat 0), (Int.ofNat 1)))) [] := xclear_con (by decide) (by decide) (by decide) (by decide) (fun Wn fn gn w0 w1 f0 f1 g0 g1 hc => by
  have f1 : (fn : Int) ≤ 48 := f1
  have g1 : (gn : Int) ≤ 48 := g1
  have hc : (Wn : Int) = 7 := xclear_W hc rfl
  have : Wn = 7 := by omega
  subst this
  rcases (show gn ≤ 47 ∨ gn = 48 by omega) with h | h
  · exact List.all_eq_true.mp (List.all_eq_true.mp (List.all_eq_true.mp xwk_A 4 (List.mem_range.mpr (by omega))) gn (List.mem_range.mpr (by omega))) fn (List.mem_range.mpr (by omega))
  · subst h
    exact List.all_eq_true.mp xwk_B fn (List.mem_range.mpr (by omega))) (Or.inr ⟨_, rfl⟩)
set_option maxRecDepth 6000 in
theorem xclear_2 {E : pm_H → Prop} : xcon xX kK E 5 223 [.inr (.inr (.inl 0)), .inl ((Int.ofNat 0), (Int.ofNat 48)), .inl ((Int.ofNat 48), (Int.ofNat 48))] [(696324, .inl ((Int.ofNat 5), (Int.ofNat 5)))] 0 (some (.inl ((Int.ofNat 0), (Int.ofNat 1)))) [] := xclear_con (by decide) (by decide) (by decide) (by decide) (fun Wn fn gn w0 w1 f0 f1 g0 g1 hc => by
  have f1 : (fn : Int) ≤ 48 := f1
  have g0 : (48 : Int) ≤ gn := g0
  have g1 : (gn : Int) ≤ 48 := g1
  have hc : (Wn : Int) = 5 := xclear_W hc rfl
  have : Wn = 5 := by omega
  have h : gn = 48 := by omega
  subst this h
  exact List.all_eq_true.mp xwk_C fn (List.mem_range.mpr (by omega))) (Or.inr ⟨_, rfl⟩)

set_option maxRecDepth 6000 in
theorem xclear_3 {E : pm_H → Prop} : xcon xX kK E 5 223 [.inr (.inr (.inl 0)), .inl ((Int.ofNat 45), (Int.ofNat 46)), .inl ((Int.ofNat 48), (Int.ofNat 48))] [(696324, .inl ((Int.ofNat 3), (Int.ofNat 3)))] 0 (some (.inl ((Int.ofNat 0), (Int.ofNat 1)))) [] := xclear_con (by decide) (by decide) (by decide) (by decide) (fun Wn fn gn w0 w1 f0 f1 g0 g1 hc => by
  have f0 : (45 : Int) ≤ fn := f0
  have f1 : (fn : Int) ≤ 46 := f1
  have g0 : (48 : Int) ≤ gn := g0
  have g1 : (gn : Int) ≤ 48 := g1
  have hc : (Wn : Int) = 3 := xclear_W hc rfl
  have : Wn = 3 := by omega
  have h : gn = 48 := by omega
  subst this h
  rcases (show fn = 45 ∨ fn = 46 by omega) with h | h <;> subst h
  · exact List.all_eq_true.mp xwk_D 45 (by decide)
  · exact List.all_eq_true.mp xwk_D 46 (by decide)) (Or.inr ⟨_, rfl⟩)

set_option maxRecDepth 6000 in
theorem xclear_4 {E : pm_H → Prop} : xcon xX kK E 5 223 [.inr (.inr (.inl 0)), .inl ((Int.ofNat 44), (Int.ofNat 45)), .inl ((Int.ofNat 48), (Int.ofNat 48))] [(696324, .inl ((Int.ofNat 4), (Int.ofNat 4)))] 0 (some (.inl ((Int.ofNat 0), (Int.ofNat 1)))) [] := xclear_con (by decide) (by decide) (by decide) (by decide) (fun Wn fn gn w0 w1 f0 f1 g0 g1 hc => by
  have f0 : (44 : Int) ≤ fn := f0
  have f1 : (fn : Int) ≤ 45 := f1
  have g0 : (48 : Int) ≤ gn := g0
  have g1 : (gn : Int) ≤ 48 := g1
  have hc : (Wn : Int) = 4 := xclear_W hc rfl
  have : Wn = 4 := by omega
  have h : gn = 48 := by omega
  subst this h
  rcases (show fn = 44 ∨ fn = 45 by omega) with h | h <;> subst h
  · exact List.all_eq_true.mp xwk_E 44 (by decide)
  · exact List.all_eq_true.mp xwk_E 45 (by decide)) (Or.inr ⟨_, rfl⟩)

set_option maxRecDepth 6000 in
theorem xclear_5 {E : pm_H → Prop} : xcon xX kK E 5 223 [.inr (.inr (.inl 0)), .inl ((Int.ofNat 42), (Int.ofNat 43)), .inl ((Int.ofNat 48), (Int.ofNat 48))] [(696324, .inl ((Int.ofNat 6), (Int.ofNat 6)))] 0 (some (.inl ((Int.ofNat 0), (Int.ofNat 1)))) [] := xclear_con (by decide) (by decide) (by decide) (by decide) (fun Wn fn gn w0 w1 f0 f1 g0 g1 hc => by
  have f0 : (42 : Int) ≤ fn := f0
  have f1 : (fn : Int) ≤ 43 := f1
  have g0 : (48 : Int) ≤ gn := g0
  have g1 : (gn : Int) ≤ 48 := g1
  have hc : (Wn : Int) = 6 := xclear_W hc rfl
  have : Wn = 6 := by omega
  have h : gn = 48 := by omega
  subst this h
  rcases (show fn = 42 ∨ fn = 43 by omega) with h | h <;> subst h
  · exact List.all_eq_true.mp xwk_F 42 (by decide)
  · exact List.all_eq_true.mp xwk_F 43 (by decide)) (Or.inr ⟨_, rfl⟩)


/-! worked, ruled, by hand, printed by wip/x/h_ruled.py -/
set_option maxRecDepth 6000 in
theorem xzf {a b : Int} (h : b < a) : zle a b = false := by
  cases hq : zle a b with
  | false => rfl
  | true => have := zle_le hq; omega

set_option maxRecDepth 6000 in
theorem xflag {D : Nat} {x : Int32} {ph : pm_H} : ∃ v ph', pm_Rd kK false (D + 1) 184 [.int x] ph (v, ph', 0, 0) ∧ (∃ z : Int32, v = some (.int z) ∧ ph' = ph ∧ z.toInt = if x.toInt = 0 then 0 else 1) := by
  refine xRd_mk (nl := 1) rfl rfl ?_
  show xGT kK D 184 _ (0, [some (.int x)], [], ph, 0, 0)
  refine gt_load (v := .int x) (n := 1) (ykc_184 (e := (2, .iload_n kF0, 0)) rfl) rfl rfl ?_
  by_cases h : x.toInt = 0
  · refine gt_zeq_t (ykc_184 (e := (4, .ifCond .eq 7, 8)) rfl) h ?_
    refine gt_alu (st' := [.int (Int32.ofInt 0)]) (ykc_184 (e := (0, .iconst 0, 0)) rfl) rfl rfl ?_
    refine gt_ret (ykc_184 (e := (7, .ireturn, 0)) rfl) rfl ?_
    exact ⟨_, rfl, rfl, by rw [if_pos h]; decide⟩
  · refine gt_zeq_f (ykc_184 (e := (4, .ifCond .eq 7, 8)) rfl) h rfl ?_
    refine gt_alu (st' := [.int (Int32.ofInt 1)]) (ykc_184 (e := (0, .iconst 1, 0)) rfl) rfl rfl ?_
    refine gt_br (pc' := 9) (st' := [.int (Int32.ofInt 1)]) (ykc_184 (e := (4, .goto 4, 9)) rfl) rfl ?_
    refine gt_ret (ykc_184 (e := (7, .ireturn, 0)) rfl) rfl ?_
    exact ⟨_, rfl, rfl, by rw [if_neg h]; decide⟩
set_option maxRecDepth 6000 in
/-- a table of branches -/
theorem xts_in {pc aux : Nat} {d lo hi o : Int} {offs : Array Int} {x : Int32} {r : List Value} {t : Nat} (h1 : lo ≤ x.toInt) (h2 : x.toInt ≤ hi) (h3 : offs[(x.toInt - lo).toNat]? = some o) (h4 : pm_tgt pc o = some t) : pm_br (.tableswitch d lo hi offs) aux pc (.int x :: r) = some (t, r) := by
  show (bif decide (x.toInt < lo) || decide (hi < x.toInt) then (match pm_tgt pc d with
    | some t => some (t, r)
    | none => none) else (match offs[(x.toInt - lo).toNat]? with
    | some o => (match pm_tgt pc o with
      | some t => some (t, r)
      | none => none)
    | none => none)) = _
  rw [decide_eq_false (by omega), decide_eq_false (by omega), h3]
  simp only [Bool.or_self, cond_false, h4]
set_option maxRecDepth 6000 in
theorem xts_out {pc aux : Nat} {d lo hi : Int} {offs : Array Int} {x : Int32} {r : List Value} {t : Nat} (h1 : x.toInt < lo ∨ hi < x.toInt) (h4 : pm_tgt pc d = some t) : pm_br (.tableswitch d lo hi offs) aux pc (.int x :: r) = some (t, r) := by
  show (bif decide (x.toInt < lo) || decide (hi < x.toInt) then (match pm_tgt pc d with
    | some t => some (t, r)
    | none => none) else _) = _
  have e : (decide (x.toInt < lo) || decide (hi < x.toInt)) = true := by
    rcases h1 with h | h
    · rw [decide_eq_true h]; rfl
    · rw [decide_eq_true h]; exact Bool.or_true _
  rw [e]
  simp only [cond_true, h4]

set_option maxRecDepth 6000 in
theorem xworked {D : Nat} {c x y : Int32} {ph : pm_H} : ∃ v ph', pm_Rd kK false (D + 1 + 1) 218 [.int c, .int x, .int y] ph (v, ph', 0, 0) ∧ (∃ z : Int32, v = some (.int z) ∧ ph' = ph) := by
  refine xRd_mk (nl := 3) rfl rfl ?_
  show xGT kK (D + 1) 218 _ (0, [some (.int c), some (.int x), some (.int y)], [], ph, 0, 0)
  refine gt_load (v := .int c) (n := 1) (ykc_218 (e := (2, .iload_n kF0, 0)) rfl) rfl rfl ?_
  rcases (show c.toInt = 0 ∨ c.toInt = 1 ∨ c.toInt = 2 ∨ c.toInt = 3 ∨ c.toInt = 4 ∨ c.toInt = 5 ∨ (c.toInt < 0 ∨ 5 < c.toInt) by omega) with hc | hc | hc | hc | hc | hc | hc
  · refine gt_br (pc' := 40) (st' := []) (ykc_218 (e := (4, .tableswitch 93 0 5 #[39, 53, 67, 81, 85, 89], 39)) rfl) (xts_in (by omega) (by omega) (by rw [show (c.toInt - 0).toNat = 0 by omega]; rfl) rfl) ?_
    refine gt_load (v := .int x) (n := 1) (ykc_218 (e := (2, .iload_n kF1, 0)) rfl) rfl rfl ?_
    refine gt_load (v := .int y) (n := 1) (ykc_218 (e := (2, .iload_n kF2, 0)) rfl) rfl rfl ?_
    by_cases q : y.toInt ≤ x.toInt
    · refine gt_ige_t (ykc_218 (e := (4, .if_icmp .ge 7, 49)) rfl) q ?_
      refine gt_alu (st' := [.int (Int32.ofInt 0)]) (ykc_218 (e := (0, .iconst 0, 0)) rfl) rfl rfl ?_
      refine gt_cs (n := 1) (as := [.int (Int32.ofInt 0)]) (r := []) (ykc_218 (e := (6, .invokestatic 154, 0)) rfl) rfl rfl rfl rfl (xflag (D := D)) rfl (fun vv ph201 hv => ?_)
      obtain ⟨z, e9, e8, z_s⟩ := hv; subst e9; have e7 := e8.symm; subst e7
      change xGT kK (D + 1) 218 _ (53, [some (.int c), some (.int x), some (.int y)], [.int z], ph, 0, 0)
      refine gt_ret (ykc_218 (e := (7, .ireturn, 0)) rfl) rfl ?_
      exact ⟨_, rfl, rfl⟩
    · refine gt_ige_f (ykc_218 (e := (4, .if_icmp .ge 7, 49)) rfl) (by omega) rfl ?_
      refine gt_alu (st' := [.int (Int32.ofInt 1)]) (ykc_218 (e := (0, .iconst 1, 0)) rfl) rfl rfl ?_
      refine gt_br (pc' := 50) (st' := [.int (Int32.ofInt 1)]) (ykc_218 (e := (4, .goto 4, 50)) rfl) rfl ?_
      refine gt_cs (n := 1) (as := [.int (Int32.ofInt 1)]) (r := []) (ykc_218 (e := (6, .invokestatic 154, 0)) rfl) rfl rfl rfl rfl (xflag (D := D)) rfl (fun vv ph201 hv => ?_)
      obtain ⟨z, e9, e8, z_s⟩ := hv; subst e9; have e7 := e8.symm; subst e7
      change xGT kK (D + 1) 218 _ (53, [some (.int c), some (.int x), some (.int y)], [.int z], ph, 0, 0)
      refine gt_ret (ykc_218 (e := (7, .ireturn, 0)) rfl) rfl ?_
      exact ⟨_, rfl, rfl⟩
  · refine gt_br (pc' := 54) (st' := []) (ykc_218 (e := (4, .tableswitch 93 0 5 #[39, 53, 67, 81, 85, 89], 39)) rfl) (xts_in (by omega) (by omega) (by rw [show (c.toInt - 0).toNat = 1 by omega]; rfl) rfl) ?_
    refine gt_load (v := .int x) (n := 1) (ykc_218 (e := (2, .iload_n kF1, 0)) rfl) rfl rfl ?_
    refine gt_load (v := .int y) (n := 1) (ykc_218 (e := (2, .iload_n kF2, 0)) rfl) rfl rfl ?_
    by_cases q : x.toInt ≤ y.toInt
    · refine gt_ile_t (ykc_218 (e := (4, .if_icmp .le 7, 63)) rfl) q ?_
      refine gt_alu (st' := [.int (Int32.ofInt 0)]) (ykc_218 (e := (0, .iconst 0, 0)) rfl) rfl rfl ?_
      refine gt_cs (n := 1) (as := [.int (Int32.ofInt 0)]) (r := []) (ykc_218 (e := (6, .invokestatic 154, 0)) rfl) rfl rfl rfl rfl (xflag (D := D)) rfl (fun vv ph201 hv => ?_)
      obtain ⟨z, e9, e8, z_s⟩ := hv; subst e9; have e7 := e8.symm; subst e7
      change xGT kK (D + 1) 218 _ (67, [some (.int c), some (.int x), some (.int y)], [.int z], ph, 0, 0)
      refine gt_ret (ykc_218 (e := (7, .ireturn, 0)) rfl) rfl ?_
      exact ⟨_, rfl, rfl⟩
    · refine gt_ile_f (ykc_218 (e := (4, .if_icmp .le 7, 63)) rfl) (by omega) rfl ?_
      refine gt_alu (st' := [.int (Int32.ofInt 1)]) (ykc_218 (e := (0, .iconst 1, 0)) rfl) rfl rfl ?_
      refine gt_br (pc' := 64) (st' := [.int (Int32.ofInt 1)]) (ykc_218 (e := (4, .goto 4, 64)) rfl) rfl ?_
      refine gt_cs (n := 1) (as := [.int (Int32.ofInt 1)]) (r := []) (ykc_218 (e := (6, .invokestatic 154, 0)) rfl) rfl rfl rfl rfl (xflag (D := D)) rfl (fun vv ph201 hv => ?_)
      obtain ⟨z, e9, e8, z_s⟩ := hv; subst e9; have e7 := e8.symm; subst e7
      change xGT kK (D + 1) 218 _ (67, [some (.int c), some (.int x), some (.int y)], [.int z], ph, 0, 0)
      refine gt_ret (ykc_218 (e := (7, .ireturn, 0)) rfl) rfl ?_
      exact ⟨_, rfl, rfl⟩
  · refine gt_br (pc' := 68) (st' := []) (ykc_218 (e := (4, .tableswitch 93 0 5 #[39, 53, 67, 81, 85, 89], 39)) rfl) (xts_in (by omega) (by omega) (by rw [show (c.toInt - 0).toNat = 2 by omega]; rfl) rfl) ?_
    refine gt_load (v := .int x) (n := 1) (ykc_218 (e := (2, .iload_n kF1, 0)) rfl) rfl rfl ?_
    refine gt_load (v := .int y) (n := 1) (ykc_218 (e := (2, .iload_n kF2, 0)) rfl) rfl rfl ?_
    by_cases q : x.toInt ≠ y.toInt
    · refine gt_ine_t (ykc_218 (e := (4, .if_icmp .ne 7, 77)) rfl) q ?_
      refine gt_alu (st' := [.int (Int32.ofInt 0)]) (ykc_218 (e := (0, .iconst 0, 0)) rfl) rfl rfl ?_
      refine gt_cs (n := 1) (as := [.int (Int32.ofInt 0)]) (r := []) (ykc_218 (e := (6, .invokestatic 154, 0)) rfl) rfl rfl rfl rfl (xflag (D := D)) rfl (fun vv ph201 hv => ?_)
      obtain ⟨z, e9, e8, z_s⟩ := hv; subst e9; have e7 := e8.symm; subst e7
      change xGT kK (D + 1) 218 _ (81, [some (.int c), some (.int x), some (.int y)], [.int z], ph, 0, 0)
      refine gt_ret (ykc_218 (e := (7, .ireturn, 0)) rfl) rfl ?_
      exact ⟨_, rfl, rfl⟩
    · refine gt_ine_f (ykc_218 (e := (4, .if_icmp .ne 7, 77)) rfl) (by omega) rfl ?_
      refine gt_alu (st' := [.int (Int32.ofInt 1)]) (ykc_218 (e := (0, .iconst 1, 0)) rfl) rfl rfl ?_
      refine gt_br (pc' := 78) (st' := [.int (Int32.ofInt 1)]) (ykc_218 (e := (4, .goto 4, 78)) rfl) rfl ?_
      refine gt_cs (n := 1) (as := [.int (Int32.ofInt 1)]) (r := []) (ykc_218 (e := (6, .invokestatic 154, 0)) rfl) rfl rfl rfl rfl (xflag (D := D)) rfl (fun vv ph201 hv => ?_)
      obtain ⟨z, e9, e8, z_s⟩ := hv; subst e9; have e7 := e8.symm; subst e7
      change xGT kK (D + 1) 218 _ (81, [some (.int c), some (.int x), some (.int y)], [.int z], ph, 0, 0)
      refine gt_ret (ykc_218 (e := (7, .ireturn, 0)) rfl) rfl ?_
      exact ⟨_, rfl, rfl⟩
  · refine gt_br (pc' := 82) (st' := []) (ykc_218 (e := (4, .tableswitch 93 0 5 #[39, 53, 67, 81, 85, 89], 39)) rfl) (xts_in (by omega) (by omega) (by rw [show (c.toInt - 0).toNat = 3 by omega]; rfl) rfl) ?_
    refine gt_load (v := .int x) (n := 1) (ykc_218 (e := (2, .iload_n kF1, 0)) rfl) rfl rfl ?_
    refine gt_load (v := .int y) (n := 1) (ykc_218 (e := (2, .iload_n kF2, 0)) rfl) rfl rfl ?_
    refine gt_alu (st' := [.int (x + y)]) (ykc_218 (e := (0, .iadd, 0)) rfl) rfl rfl ?_
    refine gt_ret (ykc_218 (e := (7, .ireturn, 0)) rfl) rfl ?_
    exact ⟨_, rfl, rfl⟩
  · refine gt_br (pc' := 86) (st' := []) (ykc_218 (e := (4, .tableswitch 93 0 5 #[39, 53, 67, 81, 85, 89], 39)) rfl) (xts_in (by omega) (by omega) (by rw [show (c.toInt - 0).toNat = 4 by omega]; rfl) rfl) ?_
    refine gt_load (v := .int x) (n := 1) (ykc_218 (e := (2, .iload_n kF1, 0)) rfl) rfl rfl ?_
    refine gt_load (v := .int y) (n := 1) (ykc_218 (e := (2, .iload_n kF2, 0)) rfl) rfl rfl ?_
    refine gt_alu (st' := [.int (x - y)]) (ykc_218 (e := (0, .isub, 0)) rfl) rfl rfl ?_
    refine gt_ret (ykc_218 (e := (7, .ireturn, 0)) rfl) rfl ?_
    exact ⟨_, rfl, rfl⟩
  · refine gt_br (pc' := 90) (st' := []) (ykc_218 (e := (4, .tableswitch 93 0 5 #[39, 53, 67, 81, 85, 89], 39)) rfl) (xts_in (by omega) (by omega) (by rw [show (c.toInt - 0).toNat = 5 by omega]; rfl) rfl) ?_
    refine gt_load (v := .int x) (n := 1) (ykc_218 (e := (2, .iload_n kF1, 0)) rfl) rfl rfl ?_
    refine gt_load (v := .int y) (n := 1) (ykc_218 (e := (2, .iload_n kF2, 0)) rfl) rfl rfl ?_
    refine gt_alu (st' := [.int (x * y)]) (ykc_218 (e := (0, .imul, 0)) rfl) rfl rfl ?_
    refine gt_ret (ykc_218 (e := (7, .ireturn, 0)) rfl) rfl ?_
    exact ⟨_, rfl, rfl⟩
  · refine gt_br (pc' := 94) (st' := []) (ykc_218 (e := (4, .tableswitch 93 0 5 #[39, 53, 67, 81, 85, 89], 39)) rfl) (xts_out (by omega) rfl) ?_
    refine gt_load (v := .int y) (n := 1) (ykc_218 (e := (2, .iload_n kF2, 0)) rfl) rfl rfl ?_
    by_cases q : y.toInt ≠ 0
    · refine gt_zne_t (ykc_218 (e := (4, .ifCond .ne 7, 102)) rfl) q ?_
      refine gt_load (v := .int x) (n := 1) (ykc_218 (e := (2, .iload_n kF1, 0)) rfl) rfl rfl ?_
      refine gt_load (v := .int y) (n := 1) (ykc_218 (e := (2, .iload_n kF2, 0)) rfl) rfl rfl ?_
      refine gt_alu (st' := [.int (x / y)]) (ykc_218 (e := (0, .idiv, 0)) rfl) (xv_idiv x y _ q) rfl ?_
      refine gt_ret (ykc_218 (e := (7, .ireturn, 0)) rfl) rfl ?_
      exact ⟨_, rfl, rfl⟩
    · refine gt_zne_f (ykc_218 (e := (4, .ifCond .ne 7, 102)) rfl) (by omega) rfl ?_
      refine gt_alu (st' := [.int (Int32.ofInt 0)]) (ykc_218 (e := (0, .iconst 0, 0)) rfl) rfl rfl ?_
      refine gt_br (pc' := 105) (st' := [.int (Int32.ofInt 0)]) (ykc_218 (e := (4, .goto 6, 105)) rfl) rfl ?_
      refine gt_ret (ykc_218 (e := (7, .ireturn, 0)) rfl) rfl ?_
      exact ⟨_, rfl, rfl⟩

set_option maxRecDepth 6000 in
theorem xi1 : (Int32.ofInt 1).toInt = 1 := by decide
set_option maxRecDepth 6000 in
theorem xim1 : (Int32.ofInt (-1)).toInt = -1 := by decide
set_option maxRecDepth 6000 in
theorem x1000 : ((Int16.ofInt 1000).toInt32).toInt = 1000 := by decide
set_option maxRecDepth 6000 in
theorem x2000 : ((Int16.ofInt 2000).toInt32).toInt = 2000 := by decide
set_option maxRecDepth 6000 in
theorem x3000 : ((Int16.ofInt 3000).toInt32).toInt = 3000 := by decide
set_option maxRecDepth 6000 in
theorem xany {m : Int} {w k : Nat} {y : Int32} : xeG m w y.toInt (xat [] k) := ⟨x32_lo y, x32_hi y⟩
set_option maxRecDepth 6000 in
theorem xruled_loop {E : pm_H → Prop} (hE : xHE xX xgA_G8 xgF_G8 E) {m : Int} {w D n : Nat} {l : List Int32} {N : Int32} {Q : Option Value → pm_H → Prop} (hNn : N.toInt = (n : Int)) (hn : n ≤ 80) (hlen : l.length = 80) (hQ : ∀ (z : Int32) (ph' : pm_H), xH xX kK m w ph' → E ph' → Q (some (.int z)) ph') : ∀ (s : Nat) (t k : Int32) (o3 : Option Value) (d : Nat) (ph : pm_H), xH xX kK m w ph → E ph → xget ph 170 23 = some (.int N) → pm_at ph 179 = some (.inl (0, .inl l)) → k.toInt + s = n → 0 ≤ k.toInt → t.toInt = (d : Int) → xvc ((l.take n).drop k.toInt.toNat) d = true → d ≤ 80 → xGT kK (D + 1 + 1) 219 Q (4, [some (.ref 170), some (.int t), some (.int k), o3], [], ph, 0, 0) := by
  intro s
  induction s with
  | zero =>
    intro t k o3 d ph hP g9 hN hat hk hk0 ht hxv hd
    refine gt_load (v := .int k) (n := 1) (ykc_219 (e := (2, .iload_n kF2, 0)) rfl) rfl rfl ?_
    refine gt_load (v := .ref 170) (n := 1) (ykc_219 (e := (2, .aload_n kF0, 0)) rfl) rfl rfl ?_
    refine gt_gfk (v := .int N) (ykc_219 (e := (5, .getfield 248, 0)) rfl) rfl hP hN rfl ?_
    refine gt_ige_t (ykc_219 (e := (4, .if_icmp .ge 116, 125)) rfl) (by omega) ?_
    refine gt_load (v := .ref 170) (n := 1) (ykc_219 (e := (2, .aload_n kF0, 0)) rfl) rfl rfl ?_
    refine gt_gfk (v := .int N) (ykc_219 (e := (5, .getfield 248, 0)) rfl) rfl hP hN rfl ?_
    by_cases q : N.toInt ≠ 0
    · refine gt_zne_t (ykc_219 (e := (4, .ifCond .ne 19, 148)) rfl) q ?_
      refine gt_load (v := .ref 170) (n := 1) (ykc_219 (e := (2, .aload_n kF0, 0)) rfl) rfl rfl ?_
      refine gt_gfr (A := 181) (ykc_219 (e := (5, .getfield 62, 0)) rfl) rfl hP rfl rfl rfl ?_
      refine gt_alu (st' := [.int (Int32.ofInt 0), .ref 181]) (ykc_219 (e := (0, .iconst 0, 0)) rfl) rfl rfl ?_
      refine gt_ial (A := 181) (ykc_219 (e := (5, .iaload, 0)) rfl) hP rfl rfl (by decide) (by decide) rfl (fun z g_z b_z => ?_)
      refine gt_ret (ykc_219 (e := (7, .ireturn, 0)) rfl) rfl ?_
      exact hQ _ _ hP g9
    · refine gt_zne_f (ykc_219 (e := (4, .ifCond .ne 19, 148)) rfl) (by omega) rfl ?_
      refine gt_load (v := .ref 170) (n := 1) (ykc_219 (e := (2, .aload_n kF0, 0)) rfl) rfl rfl ?_
      refine gt_gfr (A := 182) (ykc_219 (e := (5, .getfield 65, 0)) rfl) rfl hP rfl rfl rfl ?_
      refine gt_alu (st' := [.int (Int32.ofInt 1), .ref 182]) (ykc_219 (e := (0, .iconst 1, 0)) rfl) rfl rfl ?_
      refine gt_ial (A := 182) (ykc_219 (e := (5, .iaload, 0)) rfl) hP rfl rfl (by decide) (by decide) rfl (fun z1 g_z1 b_z1 => ?_)
      refine gt_load (v := .ref 170) (n := 1) (ykc_219 (e := (2, .aload_n kF0, 0)) rfl) rfl rfl ?_
      refine gt_gfr (A := 182) (ykc_219 (e := (5, .getfield 65, 0)) rfl) rfl hP rfl rfl rfl ?_
      refine gt_alu (st' := [.int (Int32.ofInt 0), .ref 182, .int z1]) (ykc_219 (e := (0, .iconst 0, 0)) rfl) rfl rfl ?_
      refine gt_ial (A := 182) (ykc_219 (e := (5, .iaload, 0)) rfl) hP rfl rfl (by decide) (by decide) rfl (fun z2 g_z2 b_z2 => ?_)
      refine gt_alu (st' := [.int (z1 - z2)]) (ykc_219 (e := (0, .isub, 0)) rfl) rfl rfl ?_
      refine gt_br (pc' := 154) (st' := [.int (z1 - z2)]) (ykc_219 (e := (4, .goto 9, 154)) rfl) rfl ?_
      refine gt_ret (ykc_219 (e := (7, .ireturn, 0)) rfl) rfl ?_
      exact hQ _ _ hP g9
  | succ s ih0 =>
    have ih : ∀ (t k : Int32) (o3 : Option Value) (d : Nat) (ph : pm_H), xH xX kK m w ph → E ph → xget ph 170 23 = some (.int N) → pm_at ph 179 = some (.inl (0, .inl l)) → k.toInt + s = n → 0 ≤ k.toInt → t.toInt = (d : Int) → xvc ((l.take n).drop k.toInt.toNat) d = true → d ≤ 80 → xGT kK (D + 1 + 1) 219 Q (4, [some (.ref 170), some (.int t), some (.int k), o3], [], ph, 0, 0) := ih0
    intro t k o3 d ph hP g9 hN hat hk hk0 ht hxv hd
    have hA : ∃ l, pm_at ph 179 = some (.inl (0, .inl l)) := ⟨l, hat⟩
    have hlt : k.toInt.toNat < l.length := by omega
    obtain ⟨c, hc9⟩ : ∃ c, l[k.toInt.toNat]? = some c := ⟨_, List.getElem?_eq_getElem hlt⟩
    have hc : xget ph 179 k.toInt.toNat = some (.int c) := by
      unfold xget
      rw [hat]
      show (l[k.toInt.toNat]?).map Value.int = _
      rw [hc9]
      rfl
    have hdrop : (l.take n).drop k.toInt.toNat = c :: (l.take n).drop (k.toInt.toNat + 1) := by
      have h1 : (l.take n)[k.toInt.toNat]? = some c := by rw [List.getElem?_take_of_lt (by omega)]; exact hc9
      obtain ⟨h2, h3⟩ := List.getElem?_eq_some_iff.mp h1
      rw [List.drop_eq_getElem_cons h2, h3]
    rw [hdrop] at hxv
    unfold xvc at hxv
    refine gt_load (v := .int k) (n := 1) (ykc_219 (e := (2, .iload_n kF2, 0)) rfl) rfl rfl ?_
    refine gt_load (v := .ref 170) (n := 1) (ykc_219 (e := (2, .aload_n kF0, 0)) rfl) rfl rfl ?_
    refine gt_gfk (v := .int N) (ykc_219 (e := (5, .getfield 248, 0)) rfl) rfl hP hN rfl ?_
    refine gt_ige_f (ykc_219 (e := (4, .if_icmp .ge 116, 125)) rfl) (by omega) rfl ?_
    refine gt_load (v := .ref 170) (n := 1) (ykc_219 (e := (2, .aload_n kF0, 0)) rfl) rfl rfl ?_
    refine gt_gfr (A := 179) (ykc_219 (e := (5, .getfield 56, 0)) rfl) rfl hP rfl rfl rfl ?_
    refine gt_load (v := .int k) (n := 1) (ykc_219 (e := (2, .iload_n kF2, 0)) rfl) rfl rfl ?_
    refine gt_ialk (y := c) (ykc_219 (e := (5, .iaload, 0)) rfl) hc hA (by omega) rfl ?_
    refine gt_store (L' := [some (.ref 170), some (.int t), some (.int k), some (.int c)]) (st' := []) (n := 1) (ykc_219 (e := (3, .istore_n kF3, 0)) rfl) rfl rfl ?_
    refine gt_load (v := .int c) (n := 1) (ykc_219 (e := (2, .iload_n kF3, 0)) rfl) rfl rfl ?_
    refine gt_push (v := .int ((Int16.ofInt 3000).toInt32)) (n := 3) (ykc_219 (e := (1, .sipush 3000, 0)) rfl) rfl rfl ?_
    rcases (show c.toInt = 3000 ∨ (2000 ≤ c.toInt ∧ c.toInt ≠ 3000) ∨ (1000 ≤ c.toInt ∧ c.toInt < 2000) ∨ c.toInt < 1000 by omega) with q | q | q | q
    · rw [zle_iff.mpr (show (3000 : Int) ≤ c.toInt by omega), zle_iff.mpr (show c.toInt ≤ 3000 by omega)] at hxv
      simp only [cond_true] at hxv
      obtain ⟨h1, hx3⟩ := x_and hxv
      have h1 := Nat.le_of_ble_eq_true h1
      refine gt_ine_f (ykc_219 (e := (4, .if_icmp .ne 23, 46)) rfl) (by rw [x3000]; omega) rfl ?_
      refine gt_load (v := .ref 170) (n := 1) (ykc_219 (e := (2, .aload_n kF0, 0)) rfl) rfl rfl ?_
      refine gt_gfr (A := 181) (ykc_219 (e := (5, .getfield 62, 0)) rfl) rfl hP rfl rfl rfl ?_
      refine gt_load (v := .int t) (n := 1) (ykc_219 (e := (2, .iload_n kF1, 0)) rfl) rfl rfl ?_
      refine gt_alu (st' := [.int (Int32.ofInt 1), .int t, .ref 181]) (ykc_219 (e := (0, .iconst 1, 0)) rfl) rfl rfl ?_
      obtain ⟨i1, e_i1, h_i1⟩ : ∃ zq : Int32, t - (Int32.ofInt 1) = zq ∧ zq.toInt = t.toInt - 1 := ⟨_, rfl, by rw [ti_sub (by rw [xi1]; omega) (by rw [xi1]; omega), xi1]⟩
      refine gt_alu (st' := [.int i1, .ref 181]) (ykc_219 (e := (0, .isub, 0)) rfl) (by rw [← e_i1]; exact rfl) rfl ?_
      refine gt_load (v := .ref 170) (n := 1) (ykc_219 (e := (2, .aload_n kF0, 0)) rfl) rfl rfl ?_
      refine gt_gfr (A := 181) (ykc_219 (e := (5, .getfield 62, 0)) rfl) rfl hP rfl rfl rfl ?_
      refine gt_load (v := .int t) (n := 1) (ykc_219 (e := (2, .iload_n kF1, 0)) rfl) rfl rfl ?_
      refine gt_alu (st' := [.int (Int32.ofInt 1), .int t, .ref 181, .int i1, .ref 181]) (ykc_219 (e := (0, .iconst 1, 0)) rfl) rfl rfl ?_
      obtain ⟨i2, e_i2, h_i2⟩ : ∃ zq : Int32, t - (Int32.ofInt 1) = zq ∧ zq.toInt = t.toInt - 1 := ⟨_, rfl, by rw [ti_sub (by rw [xi1]; omega) (by rw [xi1]; omega), xi1]⟩
      refine gt_alu (st' := [.int i2, .ref 181, .int i1, .ref 181]) (ykc_219 (e := (0, .isub, 0)) rfl) (by rw [← e_i2]; exact rfl) rfl ?_
      refine gt_ial (A := 181) (ykc_219 (e := (5, .iaload, 0)) rfl) hP rfl rfl (by omega) (by omega) rfl (fun y g_y b_y => ?_)
      refine gt_alu (st' := [.int (-y), .int i1, .ref 181]) (ykc_219 (e := (0, .ineg, 0)) rfl) rfl rfl ?_
      refine gt_ias (A := 181) (y := -y) (x := i1) (ykc_219 (e := (5, .iastore, 0)) rfl) hP rfl rfl (by omega) (by omega) xany rfl (fun ph201 hP201 u201 => ?_)
      have f201_23 : xget ph201 170 23 = some (.int N) := (u201.2.1 170 23 (fun q => absurd q.1 (by decide))).trans hN
      refine gt_br (pc' := 119) (st' := []) (ykc_219 (e := (4, .goto 76, 119)) rfl) rfl ?_
      obtain ⟨k1, e_k1, h_k1⟩ : ∃ zq : Int32, k + Int32.ofInt 1 = zq ∧ zq.toInt = k.toInt + 1 := ⟨_, rfl, by rw [ti_add (by rw [xi1]; omega) (by rw [xi1]; omega), xi1]⟩
      refine gt_store (L' := [some (.ref 170), some (.int t), some (.int k1), some (.int c)]) (st' := []) (n := 3) (ykc_219 (e := (3, .iinc 2 1, 0)) rfl) (by rw [← e_k1]; rfl) rfl ?_
      refine gt_br (pc' := 4) (st' := []) (ykc_219 (e := (4, .goto (-118), 4)) rfl) rfl ?_
      exact ih t k1 _ (d) _ hP201 (xu1_E hE u201 rfl rfl rfl g9) ((u201.2.1 170 23 (fun q => absurd q.1 (by decide))).trans hN) ((u201.2.2 179 (by decide)).trans hat) (by omega) (by omega) (by omega) (by rw [show k1.toInt.toNat = k.toInt.toNat + 1 by omega]; exact hx3) (by omega)
    · have hx9 : (bif Nat.ble 2 d then xvc ((l.take n).drop (k.toInt.toNat + 1)) (d - 1) else false) = true := by
        rcases (show 3000 < c.toInt ∨ c.toInt < 3000 by omega) with r | r
        · rw [zle_iff.mpr (show (3000 : Int) ≤ c.toInt by omega), xzf (show c.toInt > 3000 by omega)] at hxv
          exact hxv
        · rw [xzf (show (3000 : Int) > c.toInt by omega), zle_iff.mpr (show (2000 : Int) ≤ c.toInt by omega)] at hxv
          exact hxv
      obtain ⟨h1, hx3⟩ := x_and hx9
      have h1 := Nat.le_of_ble_eq_true h1
      refine gt_ine_t (ykc_219 (e := (4, .if_icmp .ne 23, 46)) rfl) (by rw [x3000]; omega) ?_
      refine gt_load (v := .int c) (n := 1) (ykc_219 (e := (2, .iload_n kF3, 0)) rfl) rfl rfl ?_
      refine gt_push (v := .int ((Int16.ofInt 2000).toInt32)) (n := 3) (ykc_219 (e := (1, .sipush 2000, 0)) rfl) rfl rfl ?_
      refine gt_ilt_f (ykc_219 (e := (4, .if_icmp .lt 39, 89)) rfl) (by rw [x2000]; omega) rfl ?_
      obtain ⟨t1, e_t1, h_t1⟩ : ∃ zq : Int32, t + Int32.ofInt (-1) = zq ∧ zq.toInt = t.toInt - 1 := ⟨_, rfl, by rw [ti_add (by rw [xim1]; omega) (by rw [xim1]; omega), xim1]; omega⟩
      refine gt_store (L' := [some (.ref 170), some (.int t1), some (.int k), some (.int c)]) (st' := []) (n := 3) (ykc_219 (e := (3, .iinc 1 (-1), 0)) rfl) (by rw [← e_t1]; rfl) rfl ?_
      refine gt_load (v := .ref 170) (n := 1) (ykc_219 (e := (2, .aload_n kF0, 0)) rfl) rfl rfl ?_
      refine gt_gfr (A := 181) (ykc_219 (e := (5, .getfield 62, 0)) rfl) rfl hP rfl rfl rfl ?_
      refine gt_load (v := .int t1) (n := 1) (ykc_219 (e := (2, .iload_n kF1, 0)) rfl) rfl rfl ?_
      refine gt_alu (st' := [.int (Int32.ofInt 1), .int t1, .ref 181]) (ykc_219 (e := (0, .iconst 1, 0)) rfl) rfl rfl ?_
      obtain ⟨i1, e_i1, h_i1⟩ : ∃ zq : Int32, t1 - (Int32.ofInt 1) = zq ∧ zq.toInt = t.toInt - 2 := ⟨_, rfl, by rw [ti_sub (by rw [xi1]; omega) (by rw [xi1]; omega), xi1]; omega⟩
      refine gt_alu (st' := [.int i1, .ref 181]) (ykc_219 (e := (0, .isub, 0)) rfl) (by rw [← e_i1]; exact rfl) rfl ?_
      refine gt_load (v := .int c) (n := 1) (ykc_219 (e := (2, .iload_n kF3, 0)) rfl) rfl rfl ?_
      refine gt_push (v := .int ((Int16.ofInt 2000).toInt32)) (n := 3) (ykc_219 (e := (1, .sipush 2000, 0)) rfl) rfl rfl ?_
      refine gt_alu (st' := [.int (c - ((Int16.ofInt 2000).toInt32)), .int i1, .ref 181]) (ykc_219 (e := (0, .isub, 0)) rfl) rfl rfl ?_
      refine gt_load (v := .ref 170) (n := 1) (ykc_219 (e := (2, .aload_n kF0, 0)) rfl) rfl rfl ?_
      refine gt_gfr (A := 181) (ykc_219 (e := (5, .getfield 62, 0)) rfl) rfl hP rfl rfl rfl ?_
      refine gt_load (v := .int t1) (n := 1) (ykc_219 (e := (2, .iload_n kF1, 0)) rfl) rfl rfl ?_
      refine gt_alu (st' := [.int (Int32.ofInt 1), .int t1, .ref 181, .int (c - ((Int16.ofInt 2000).toInt32)), .int i1, .ref 181]) (ykc_219 (e := (0, .iconst 1, 0)) rfl) rfl rfl ?_
      obtain ⟨i2, e_i2, h_i2⟩ : ∃ zq : Int32, t1 - (Int32.ofInt 1) = zq ∧ zq.toInt = t.toInt - 2 := ⟨_, rfl, by rw [ti_sub (by rw [xi1]; omega) (by rw [xi1]; omega), xi1]; omega⟩
      refine gt_alu (st' := [.int i2, .ref 181, .int (c - ((Int16.ofInt 2000).toInt32)), .int i1, .ref 181]) (ykc_219 (e := (0, .isub, 0)) rfl) (by rw [← e_i2]; exact rfl) rfl ?_
      refine gt_ial (A := 181) (ykc_219 (e := (5, .iaload, 0)) rfl) hP rfl rfl (by omega) (by omega) rfl (fun y1 g_y1 b_y1 => ?_)
      refine gt_load (v := .ref 170) (n := 1) (ykc_219 (e := (2, .aload_n kF0, 0)) rfl) rfl rfl ?_
      refine gt_gfr (A := 181) (ykc_219 (e := (5, .getfield 62, 0)) rfl) rfl hP rfl rfl rfl ?_
      refine gt_load (v := .int t1) (n := 1) (ykc_219 (e := (2, .iload_n kF1, 0)) rfl) rfl rfl ?_
      refine gt_ial (A := 181) (ykc_219 (e := (5, .iaload, 0)) rfl) hP rfl rfl (by omega) (by omega) rfl (fun y2 g_y2 b_y2 => ?_)
      refine gt_cs (n := 3) (as := [.int (c - ((Int16.ofInt 2000).toInt32)), .int y1, .int y2]) (r := [.int i1, .ref 181]) (ykc_219 (e := (6, .invokestatic 258, 0)) rfl) rfl rfl rfl rfl (xworked (D := D)) rfl (fun vv ph301 hv => ?_)
      obtain ⟨z, e9, e8⟩ := hv; subst e9; have e7 := e8.symm; subst e7
      change xGT kK (D + 1 + 1) 219 Q (85, [some (.ref 170), some (.int t1), some (.int k), some (.int c)], [.int z, .int i1, .ref 181], ph, 0, 0)
      refine gt_ias (A := 181) (y := z) (x := i1) (ykc_219 (e := (5, .iastore, 0)) rfl) hP rfl rfl (by omega) (by omega) xany rfl (fun ph302 hP302 u302 => ?_)
      have f302_23 : xget ph302 170 23 = some (.int N) := (u302.2.1 170 23 (fun q => absurd q.1 (by decide))).trans hN
      refine gt_br (pc' := 119) (st' := []) (ykc_219 (e := (4, .goto 33, 119)) rfl) rfl ?_
      obtain ⟨k1, e_k1, h_k1⟩ : ∃ zq : Int32, k + Int32.ofInt 1 = zq ∧ zq.toInt = k.toInt + 1 := ⟨_, rfl, by rw [ti_add (by rw [xi1]; omega) (by rw [xi1]; omega), xi1]⟩
      refine gt_store (L' := [some (.ref 170), some (.int t1), some (.int k1), some (.int c)]) (st' := []) (n := 3) (ykc_219 (e := (3, .iinc 2 1, 0)) rfl) (by rw [← e_k1]; rfl) rfl ?_
      refine gt_br (pc' := 4) (st' := []) (ykc_219 (e := (4, .goto (-118), 4)) rfl) rfl ?_
      exact ih t1 k1 _ (d - 1) _ hP302 (xu1_E hE u302 rfl rfl rfl g9) ((u302.2.1 170 23 (fun q => absurd q.1 (by decide))).trans hN) ((u302.2.2 179 (by decide)).trans hat) (by omega) (by omega) (by omega) (by rw [show k1.toInt.toNat = k.toInt.toNat + 1 by omega]; exact hx3) (by omega)
    · rw [xzf (show (3000 : Int) > c.toInt by omega), xzf (show (2000 : Int) > c.toInt by omega), zle_iff.mpr (show (1000 : Int) ≤ c.toInt by omega)] at hxv
      simp only [cond_true, cond_false] at hxv
      obtain ⟨h0, hx9⟩ := x_and hxv
      have h0 := zle_le h0
      obtain ⟨h1, hx3⟩ := x_and hx9
      have h1 : d < 80 := Nat.le_of_ble_eq_true h1
      refine gt_ine_t (ykc_219 (e := (4, .if_icmp .ne 23, 46)) rfl) (by rw [x3000]; omega) ?_
      refine gt_load (v := .int c) (n := 1) (ykc_219 (e := (2, .iload_n kF3, 0)) rfl) rfl rfl ?_
      refine gt_push (v := .int ((Int16.ofInt 2000).toInt32)) (n := 3) (ykc_219 (e := (1, .sipush 2000, 0)) rfl) rfl rfl ?_
      refine gt_ilt_t (ykc_219 (e := (4, .if_icmp .lt 39, 89)) rfl) (by rw [x2000]; omega) ?_
      refine gt_load (v := .ref 170) (n := 1) (ykc_219 (e := (2, .aload_n kF0, 0)) rfl) rfl rfl ?_
      refine gt_gfr (A := 181) (ykc_219 (e := (5, .getfield 62, 0)) rfl) rfl hP rfl rfl rfl ?_
      refine gt_load (v := .int t) (n := 1) (ykc_219 (e := (2, .iload_n kF1, 0)) rfl) rfl rfl ?_
      refine gt_load (v := .int c) (n := 1) (ykc_219 (e := (2, .iload_n kF3, 0)) rfl) rfl rfl ?_
      refine gt_push (v := .int ((Int16.ofInt 1000).toInt32)) (n := 3) (ykc_219 (e := (1, .sipush 1000, 0)) rfl) rfl rfl ?_
      refine gt_ilt_f (ykc_219 (e := (4, .if_icmp .lt 16, 114)) rfl) (by rw [x1000]; omega) rfl ?_
      refine gt_load (v := .ref 170) (n := 1) (ykc_219 (e := (2, .aload_n kF0, 0)) rfl) rfl rfl ?_
      refine gt_gfr (A := 182) (ykc_219 (e := (5, .getfield 65, 0)) rfl) rfl hP rfl rfl rfl ?_
      refine gt_load (v := .int c) (n := 1) (ykc_219 (e := (2, .iload_n kF3, 0)) rfl) rfl rfl ?_
      refine gt_push (v := .int ((Int16.ofInt 1000).toInt32)) (n := 3) (ykc_219 (e := (1, .sipush 1000, 0)) rfl) rfl rfl ?_
      obtain ⟨i1, e_i1, h_i1⟩ : ∃ zq : Int32, c - ((Int16.ofInt 1000).toInt32) = zq ∧ zq.toInt = c.toInt - 1000 := ⟨_, rfl, by rw [ti_sub (by rw [x1000]; omega) (by rw [x1000]; omega), x1000]⟩
      refine gt_alu (st' := [.int i1, .ref 182, .int t, .ref 181]) (ykc_219 (e := (0, .isub, 0)) rfl) (by rw [← e_i1]; exact rfl) rfl ?_
      refine gt_ial (A := 182) (ykc_219 (e := (5, .iaload, 0)) rfl) hP rfl rfl (by omega) (by omega) rfl (fun y g_y b_y => ?_)
      refine gt_br (pc' := 115) (st' := [.int y, .int t, .ref 181]) (ykc_219 (e := (4, .goto 4, 115)) rfl) rfl ?_
      refine gt_ias (A := 181) (y := y) (x := t) (ykc_219 (e := (5, .iastore, 0)) rfl) hP rfl rfl (by omega) (by omega) xany rfl (fun ph401 hP401 u401 => ?_)
      have f401_23 : xget ph401 170 23 = some (.int N) := (u401.2.1 170 23 (fun q => absurd q.1 (by decide))).trans hN
      obtain ⟨t1, e_t1, h_t1⟩ : ∃ zq : Int32, t + Int32.ofInt 1 = zq ∧ zq.toInt = t.toInt + 1 := ⟨_, rfl, by rw [ti_add (by rw [xi1]; omega) (by rw [xi1]; omega), xi1]⟩
      refine gt_store (L' := [some (.ref 170), some (.int t1), some (.int k), some (.int c)]) (st' := []) (n := 3) (ykc_219 (e := (3, .iinc 1 1, 0)) rfl) (by rw [← e_t1]; rfl) rfl ?_
      obtain ⟨k1, e_k1, h_k1⟩ : ∃ zq : Int32, k + Int32.ofInt 1 = zq ∧ zq.toInt = k.toInt + 1 := ⟨_, rfl, by rw [ti_add (by rw [xi1]; omega) (by rw [xi1]; omega), xi1]⟩
      refine gt_store (L' := [some (.ref 170), some (.int t1), some (.int k1), some (.int c)]) (st' := []) (n := 3) (ykc_219 (e := (3, .iinc 2 1, 0)) rfl) (by rw [← e_k1]; rfl) rfl ?_
      refine gt_br (pc' := 4) (st' := []) (ykc_219 (e := (4, .goto (-118), 4)) rfl) rfl ?_
      exact ih t1 k1 _ (d + 1) _ hP401 (xu1_E hE u401 rfl rfl rfl g9) ((u401.2.1 170 23 (fun q => absurd q.1 (by decide))).trans hN) ((u401.2.2 179 (by decide)).trans hat) (by omega) (by omega) (by omega) (by rw [show k1.toInt.toNat = k.toInt.toNat + 1 by omega]; exact hx3) (by omega)
    · rw [xzf (show (3000 : Int) > c.toInt by omega), xzf (show (2000 : Int) > c.toInt by omega), xzf (show (1000 : Int) > c.toInt by omega)] at hxv
      simp only [cond_true, cond_false] at hxv
      obtain ⟨h1, hx3⟩ := x_and hxv
      have h1 : d < 80 := Nat.le_of_ble_eq_true h1
      refine gt_ine_t (ykc_219 (e := (4, .if_icmp .ne 23, 46)) rfl) (by rw [x3000]; omega) ?_
      refine gt_load (v := .int c) (n := 1) (ykc_219 (e := (2, .iload_n kF3, 0)) rfl) rfl rfl ?_
      refine gt_push (v := .int ((Int16.ofInt 2000).toInt32)) (n := 3) (ykc_219 (e := (1, .sipush 2000, 0)) rfl) rfl rfl ?_
      refine gt_ilt_t (ykc_219 (e := (4, .if_icmp .lt 39, 89)) rfl) (by rw [x2000]; omega) ?_
      refine gt_load (v := .ref 170) (n := 1) (ykc_219 (e := (2, .aload_n kF0, 0)) rfl) rfl rfl ?_
      refine gt_gfr (A := 181) (ykc_219 (e := (5, .getfield 62, 0)) rfl) rfl hP rfl rfl rfl ?_
      refine gt_load (v := .int t) (n := 1) (ykc_219 (e := (2, .iload_n kF1, 0)) rfl) rfl rfl ?_
      refine gt_load (v := .int c) (n := 1) (ykc_219 (e := (2, .iload_n kF3, 0)) rfl) rfl rfl ?_
      refine gt_push (v := .int ((Int16.ofInt 1000).toInt32)) (n := 3) (ykc_219 (e := (1, .sipush 1000, 0)) rfl) rfl rfl ?_
      refine gt_ilt_t (ykc_219 (e := (4, .if_icmp .lt 16, 114)) rfl) (by rw [x1000]; omega) ?_
      refine gt_load (v := .int c) (n := 1) (ykc_219 (e := (2, .iload_n kF3, 0)) rfl) rfl rfl ?_
      refine gt_ias (A := 181) (y := c) (x := t) (ykc_219 (e := (5, .iastore, 0)) rfl) hP rfl rfl (by omega) (by omega) xany rfl (fun ph401 hP401 u401 => ?_)
      have f401_23 : xget ph401 170 23 = some (.int N) := (u401.2.1 170 23 (fun q => absurd q.1 (by decide))).trans hN
      obtain ⟨t1, e_t1, h_t1⟩ : ∃ zq : Int32, t + Int32.ofInt 1 = zq ∧ zq.toInt = t.toInt + 1 := ⟨_, rfl, by rw [ti_add (by rw [xi1]; omega) (by rw [xi1]; omega), xi1]⟩
      refine gt_store (L' := [some (.ref 170), some (.int t1), some (.int k), some (.int c)]) (st' := []) (n := 3) (ykc_219 (e := (3, .iinc 1 1, 0)) rfl) (by rw [← e_t1]; rfl) rfl ?_
      obtain ⟨k1, e_k1, h_k1⟩ : ∃ zq : Int32, k + Int32.ofInt 1 = zq ∧ zq.toInt = k.toInt + 1 := ⟨_, rfl, by rw [ti_add (by rw [xi1]; omega) (by rw [xi1]; omega), xi1]⟩
      refine gt_store (L' := [some (.ref 170), some (.int t1), some (.int k1), some (.int c)]) (st' := []) (n := 3) (ykc_219 (e := (3, .iinc 2 1, 0)) rfl) (by rw [← e_k1]; rfl) rfl ?_
      refine gt_br (pc' := 4) (st' := []) (ykc_219 (e := (4, .goto (-118), 4)) rfl) rfl ?_
      exact ih t1 k1 _ (d + 1) _ hP401 (xu1_E hE u401 rfl rfl rfl g9) ((u401.2.1 170 23 (fun q => absurd q.1 (by decide))).trans hN) ((u401.2.2 179 (by decide)).trans hat) (by omega) (by omega) (by omega) (by rw [show k1.toInt.toNat = k.toInt.toNat + 1 by omega]; exact hx3) (by omega)
set_option maxRecDepth 6000 in
theorem xruled {E : pm_H → Prop} (hE : xHE xX xgA_G8 xgF_G8 E) (hV : ∀ p, E p → xV p) : xcon xX kK E 10 219 [.inr (.inr (.inl 0))] [] 0 (some (.inl ((Int.negSucc 2147483647), (Int.ofNat 2147483647)))) [] := by
  intro D' hD' m hm h0m vs ph hv hf hP g9
  obtain ⟨D, rfl⟩ : ∃ D, D' = D + 1 + 1 + 1 := ⟨D' - 3, by omega⟩
  match vs, hv with
  | [v1], ⟨q1, _⟩ =>
  have e1 := xaO hP (A := 170) rfl q1
  subst e1
  suffices hs : ∃ v ph', pm_Rd kK false (D + 1 + 1 + 1) 219 [.ref 170] ph (v, ph', 0, 0) ∧ (∃ z : Int32, v = some (.int z) ∧ xH xX kK m 0 ph' ∧ E ph') by
    obtain ⟨v, ph', k1, z, e, hP1, g91⟩ := hs
    exact ⟨v, ph', k1, hP1, g91, ⟨_, e, xaT⟩, xF0⟩
  obtain ⟨l, n, hat, hN, hn, hxv⟩ := hV ph g9
  obtain ⟨l2, hat2, hlen, -⟩ := xA_at (A := 179) hP rfl rfl
  rw [hat] at hat2
  cases hat2
  refine xRd_mk (nl := 4) rfl rfl ?_
  show xGT kK (D + 1 + 1) 219 _ (0, [some (.ref 170), none, none, none], [], ph, 0, 0)
  refine gt_alu (st' := [.int (Int32.ofInt 0)]) (ykc_219 (e := (0, .iconst 0, 0)) rfl) rfl rfl ?_
  refine gt_store (L' := [some (.ref 170), some (.int (Int32.ofInt 0)), none, none]) (st' := []) (n := 1) (ykc_219 (e := (3, .istore_n kF1, 0)) rfl) rfl rfl ?_
  refine gt_alu (st' := [.int (Int32.ofInt 0)]) (ykc_219 (e := (0, .iconst 0, 0)) rfl) rfl rfl ?_
  refine gt_store (L' := [some (.ref 170), some (.int (Int32.ofInt 0)), some (.int (Int32.ofInt 0)), none]) (st' := []) (n := 1) (ykc_219 (e := (3, .istore_n kF2, 0)) rfl) rfl rfl ?_
  have hNn : (Int32.ofNat n).toInt = (n : Int) := by rw [Int32.toInt_ofNat']; exact xbm (by omega) (by omega)
  have z0 : (Int32.ofInt 0).toInt = 0 := by decide
  refine xruled_loop hE hNn hn hlen (fun z ph' h1 h2 => ⟨z, rfl, h1, h2⟩) n _ _ _ 0 ph hP g9 hN hat (by omega) (by omega) (by omega) ?_ (by omega)
  rw [z0]
  exact hxv


/-! Small methods of the reference, by hand, printed by wip/x/h_small.py -/
section XLS
variable {K : pm_K} {D j pc pc' aux : Nat} {Q : Option Value → pm_H → Prop} {L : List (Option Value)} {st : List Value} {ph : pm_H} {m : Int} {w : Nat} {x : Int32}
set_option maxRecDepth 6000 in
theorem gt_las {y : Int64} {A i n p u : Nat} {sg : List (Nat × xe)} (hc : pm_code K j pc = some (5, .lastore, aux)) (hP : xH xX kK m w ph) (ho : xown A = some i) (ht : xkt i = some (some A, .inl (2, n, p, sg, u))) (h0 : 0 ≤ x.toInt) (h1 : x.toInt < n) (hp : pc + 1 = pc') (kk : ∀ ph', xH xX kK m w ph' → xu0 ph ph' A → xGT K D j Q (pc', L, st, ph', 0, 0)) : xGT K D j Q (pc, L, .long y :: .int x :: .ref A :: st, ph, 0, 0) := by
  obtain ⟨s, t, h4, -, h3⟩ := hP A i ho
  rw [show xX.2.1 i = xkt i from rfl, ht] at h4
  cases h4
  obtain ⟨l, hat, hlen⟩ := h3
  have hlt : x.toInt.toNat < l.length := by omega
  have hat2 : pm_at (ph.set A (.inl (2, .inr (.inl (l.set x.toInt.toNat y))))) A = some (.inl (2, .inr (.inl (l.set x.toInt.toNat y)))) := xat_self hat
  refine gt_mem (ph' := ph.set A (.inl (2, .inr (.inl (l.set x.toInt.toNat y))))) hc ?_ hp (kk _ ?_ ⟨?_, ?_⟩)
  · unfold pm_mem
    simp only [hat, xup_eq h0 hlt]
  · exact xH_set (t := .inl (2, n, p, sg, u)) hP ho ht ⟨_, hat2, by rw [List.length_set]; exact hlen⟩
  · intro b c
    by_cases eb : b = A
    · subst eb
      unfold xget
      rw [hat2, hat]
      rfl
    · exact xget_ne eb
  · intro b eb
    exact xat_ne eb
set_option maxRecDepth 6000 in
theorem gt_bas {y : Int32} {A i n p u : Nat} {sg : List (Nat × xe)} (hc : pm_code K j pc = some (5, .bastore, aux)) (hP : xH xX kK m w ph) (ho : xown A = some i) (ht : xkt i = some (some A, .inl (1, n, p, sg, u))) (h0 : 0 ≤ x.toInt) (h1 : x.toInt < n) (hp : pc + 1 = pc') (kk : ∀ ph', xH xX kK m w ph' → (xu0 ph ph' A ∧ xgb ph' A x.toInt.toNat (y &&& 1) ∧ ∀ k z, k ≠ x.toInt.toNat → (xgb ph' A k z ↔ xgb ph A k z)) → xGT K D j Q (pc', L, st, ph', 0, 0)) : xGT K D j Q (pc, L, .int y :: .int x :: .ref A :: st, ph, 0, 0) := by
  obtain ⟨s, t, h4, -, h3⟩ := hP A i ho
  rw [show xX.2.1 i = xkt i from rfl, ht] at h4
  cases h4
  obtain ⟨l, hat, hlen, hel⟩ := h3
  have hlt : x.toInt.toNat < l.length := by omega
  have hat2 : pm_at (ph.set A (.inl (1, .inl (l.set x.toInt.toNat (y &&& 1))))) A = some (.inl (1, .inl (l.set x.toInt.toNat (y &&& 1)))) := xat_self hat
  refine gt_mem (ph' := ph.set A (.inl (1, .inl (l.set x.toInt.toNat (y &&& 1))))) hc ?_ hp (kk _ ?_ ⟨⟨?_, ?_⟩, ?_, ?_⟩)
  · unfold pm_mem
    simp only [hat, xup_eq h0 hlt]
  · refine xH_set (t := .inl (1, n, p, sg, u)) hP ho ht ⟨_, hat2, by rw [List.length_set]; exact hlen, fun i2 x2 hx2 => ?_⟩
    by_cases ei : i2 = x.toInt.toNat
    · subst ei
      rw [List.getElem?_set_self hlt] at hx2
      cases hx2
      have h1 : (1 : Int32).toInt = 1 := rfl
      have := xand_le (x := y) (y := (1 : Int32)) (by omega)
      omega
    · rw [List.getElem?_set_ne (Ne.symm ei)] at hx2
      exact hel i2 x2 hx2
  · intro b c
    by_cases eb : b = A
    · subst eb
      unfold xget
      rw [hat2, hat]
      rfl
    · exact xget_ne eb
  · intro b eb
    exact xat_ne eb
  · exact ⟨_, hat2, List.getElem?_set_self hlt⟩
  · intro k z hk
    constructor
    · rintro ⟨l2, h5, h6⟩
      rw [hat2] at h5
      cases h5
      rw [List.getElem?_set_ne (Ne.symm hk)] at h6
      exact ⟨l, hat, h6⟩
    · rintro ⟨l2, h5, h6⟩
      rw [hat] at h5
      cases h5
      exact ⟨_, hat2, by rw [List.getElem?_set_ne (Ne.symm hk)]; exact h6⟩
end XLS
set_option maxRecDepth 6000 in
theorem xcmpL {x y : Int64} : ((lg_cmp x y).toInt < 0 ↔ x.toInt < y.toInt) ∧ (0 < (lg_cmp x y).toInt ↔ y.toInt < x.toInt) ∧ ((lg_cmp x y).toInt = 0 ↔ x.toInt = y.toInt) := by
  have h := xcmp_lt x y
  refine ⟨h.1, ?_, h.2⟩
  omega

set_option maxRecDepth 6000 in
theorem xin_run {D : Nat} {v lo hi : Int64} {ph : pm_H} : ∃ r ph', pm_Rd kK false (D + 1) 182 [.long v, .long lo, .long hi] ph (r, ph', 0, 0) ∧ (∃ z : Int32, r = some (.int z) ∧ ph' = ph ∧ ((z.toInt = 1 ∧ lo.toInt ≤ v.toInt ∧ v.toInt ≤ hi.toInt) ∨ (z.toInt = 0 ∧ (v.toInt < lo.toInt ∨ hi.toInt < v.toInt)))) := by
  refine xRd_mk (nl := 6) rfl rfl ?_
  show xGT kK D 182 _ (0, [some (.long v), none, some (.long lo), none, some (.long hi), none], [], ph, 0, 0)
  refine gt_load (v := .long v) (n := 1) (ykc_182 (e := (2, .lload_n kF0, 0)) rfl) rfl rfl ?_
  refine gt_load (v := .long lo) (n := 1) (ykc_182 (e := (2, .lload_n kF2, 0)) rfl) rfl rfl ?_
  refine gt_alu (st' := [.int (lg_cmp v lo)]) (ykc_182 (e := (0, .lcmp, 0)) rfl) rfl rfl ?_
  by_cases h1 : v.toInt < lo.toInt
  · refine gt_zlt_t (ykc_182 (e := (4, .ifCond .lt 14, 17)) rfl) (xcmpL.1.mpr h1) ?_
    refine gt_alu (st' := [.int (Int32.ofInt 0)]) (ykc_182 (e := (0, .iconst 0, 0)) rfl) rfl rfl ?_
    refine gt_ret (ykc_182 (e := (7, .ireturn, 0)) rfl) rfl ?_
    exact ⟨_, rfl, rfl, Or.inr ⟨by decide, Or.inl h1⟩⟩
  · refine gt_zlt_f (ykc_182 (e := (4, .ifCond .lt 14, 17)) rfl) (by have := @xcmpL v lo; omega) rfl ?_
    refine gt_load (v := .long v) (n := 1) (ykc_182 (e := (2, .lload_n kF0, 0)) rfl) rfl rfl ?_
    refine gt_load (v := .long hi) (n := 2) (ykc_182 (e := (2, .lload 4, 0)) rfl) rfl rfl ?_
    refine gt_alu (st' := [.int (lg_cmp v hi)]) (ykc_182 (e := (0, .lcmp, 0)) rfl) rfl rfl ?_
    by_cases h2 : hi.toInt < v.toInt
    · refine gt_zgt_t (ykc_182 (e := (4, .ifCond .gt 7, 17)) rfl) (xcmpL.2.1.mpr h2) ?_
      refine gt_alu (st' := [.int (Int32.ofInt 0)]) (ykc_182 (e := (0, .iconst 0, 0)) rfl) rfl rfl ?_
      refine gt_ret (ykc_182 (e := (7, .ireturn, 0)) rfl) rfl ?_
      exact ⟨_, rfl, rfl, Or.inr ⟨by decide, Or.inr h2⟩⟩
    · refine gt_zgt_f (ykc_182 (e := (4, .ifCond .gt 7, 17)) rfl) (by have := @xcmpL v hi; omega) rfl ?_
      refine gt_alu (st' := [.int (Int32.ofInt 1)]) (ykc_182 (e := (0, .iconst 1, 0)) rfl) rfl rfl ?_
      refine gt_br (pc' := 18) (st' := [.int (Int32.ofInt 1)]) (ykc_182 (e := (4, .goto 4, 18)) rfl) rfl ?_
      refine gt_ret (ykc_182 (e := (7, .ireturn, 0)) rfl) rfl ?_
      exact ⟨_, rfl, rfl, Or.inl ⟨by decide, by omega, by omega⟩⟩
set_option maxRecDepth 6000 in
theorem tl_i2l {x : Int32} : x.toInt64.toInt = x.toInt := Int32.toInt_toInt64 x
set_option maxRecDepth 6000 in
theorem tl_0 : (Int64.ofNat (0 : Fin 2)).toInt = 0 := by decide
set_option maxRecDepth 6000 in
theorem tl_1 : (Int64.ofNat (1 : Fin 2)).toInt = 1 := by decide

set_option maxRecDepth 6000 in
theorem xisPerson {m : Int} {w D : Nat} {p P : Int32} {ph : pm_H} (hP : xH xX kK m w ph) (hF : xget ph 170 5 = some (.int P)) : ∃ r ph', pm_Rd kK false (D + 1 + 1) 190 [.ref 170, .int p] ph (r, ph', 0, 0) ∧ (∃ z : Int32, r = some (.int z) ∧ ph' = ph ∧ ((z.toInt = 1 ∧ 0 ≤ p.toInt ∧ p.toInt < P.toInt) ∨ (z.toInt = 0 ∧ (p.toInt < 0 ∨ P.toInt ≤ p.toInt)))) := by
  have hb : 0 ≤ P.toInt ∧ P.toInt ≤ 8 := by
    obtain ⟨P2, h1, h2, h3⟩ := xM_fi (k := 5) hP rfl
    have := xget_int hF h1
    subst this
    exact ⟨h2, h3⟩
  refine xRd_mk (nl := 2) rfl rfl ?_
  show xGT kK (D + 1) 190 _ (0, [some (.ref 170), some (.int p)], [], ph, 0, 0)
  refine gt_load (v := .int p) (n := 1) (ykc_190 (e := (2, .iload_n kF1, 0)) rfl) rfl rfl ?_
  refine gt_alu (st' := [.long p.toInt64]) (ykc_190 (e := (0, .i2l, 0)) rfl) rfl rfl ?_
  refine gt_alu (st' := [.long (Int64.ofNat kG0), .long p.toInt64]) (ykc_190 (e := (0, .lconst kG0, 0)) rfl) rfl rfl ?_
  refine gt_load (v := .ref 170) (n := 1) (ykc_190 (e := (2, .aload_n kF0, 0)) rfl) rfl rfl ?_
  refine gt_gfk (v := .int P) (ykc_190 (e := (5, .getfield 130, 0)) rfl) rfl hP hF rfl ?_
  refine gt_alu (st' := [.int (Int32.ofInt 1), .int P, .long (Int64.ofNat kG0), .long p.toInt64]) (ykc_190 (e := (0, .iconst 1, 0)) rfl) rfl rfl ?_
  obtain ⟨q, e_q, h_q⟩ : ∃ zq : Int32, P - (Int32.ofInt 1) = zq ∧ zq.toInt = P.toInt - 1 := ⟨_, rfl, by rw [ti_sub (by rw [xi1]; omega) (by rw [xi1]; omega), xi1]⟩
  refine gt_alu (st' := [.int q, .long (Int64.ofNat kG0), .long p.toInt64]) (ykc_190 (e := (0, .isub, 0)) rfl) (by rw [← e_q]; exact rfl) rfl ?_
  refine gt_alu (st' := [.long q.toInt64, .long (Int64.ofNat kG0), .long p.toInt64]) (ykc_190 (e := (0, .i2l, 0)) rfl) rfl rfl ?_
  refine gt_cs (n := 3) (as := [.long p.toInt64, .long (Int64.ofNat kG0), .long q.toInt64]) (r := []) (ykc_190 (e := (6, .invokestatic 126, 0)) rfl) rfl rfl rfl rfl (xin_run (D := D)) rfl (fun vv ph1 hv => ?_)
  obtain ⟨z, e9, e8, z_s⟩ := hv; subst e9; have e7 := e8.symm; subst e7; rw [tl_i2l, tl_i2l, h_q] at z_s
  change xGT kK (D + 1) 190 _ (13, [some (.ref 170), some (.int p)], [.int z], ph, 0, 0)
  have z0 : (Int64.ofNat kG0).toInt = 0 := rfl
  rw [z0] at z_s
  refine gt_ret (ykc_190 (e := (7, .ireturn, 0)) rfl) (xretz (by omega) (by omega)) ?_
  refine ⟨z, rfl, rfl, ?_⟩
  omega

set_option maxRecDepth 6000 in
theorem xisThing {m : Int} {w D : Nat} {p P : Int32} {ph : pm_H} (hP : xH xX kK m w ph) (hF : xget ph 170 6 = some (.int P)) : ∃ r ph', pm_Rd kK false (D + 1 + 1) 191 [.ref 170, .int p] ph (r, ph', 0, 0) ∧ (∃ z : Int32, r = some (.int z) ∧ ph' = ph ∧ ((z.toInt = 1 ∧ 0 ≤ p.toInt ∧ p.toInt < P.toInt) ∨ (z.toInt = 0 ∧ (p.toInt < 0 ∨ P.toInt ≤ p.toInt)))) := by
  have hb : 0 ≤ P.toInt ∧ P.toInt ≤ 8 := by
    obtain ⟨P2, h1, h2, h3⟩ := xM_fi (k := 6) hP rfl
    have := xget_int hF h1
    subst this
    exact ⟨h2, h3⟩
  refine xRd_mk (nl := 2) rfl rfl ?_
  show xGT kK (D + 1) 191 _ (0, [some (.ref 170), some (.int p)], [], ph, 0, 0)
  refine gt_load (v := .int p) (n := 1) (ykc_191 (e := (2, .iload_n kF1, 0)) rfl) rfl rfl ?_
  refine gt_alu (st' := [.long p.toInt64]) (ykc_191 (e := (0, .i2l, 0)) rfl) rfl rfl ?_
  refine gt_alu (st' := [.long (Int64.ofNat kG0), .long p.toInt64]) (ykc_191 (e := (0, .lconst kG0, 0)) rfl) rfl rfl ?_
  refine gt_load (v := .ref 170) (n := 1) (ykc_191 (e := (2, .aload_n kF0, 0)) rfl) rfl rfl ?_
  refine gt_gfk (v := .int P) (ykc_191 (e := (5, .getfield 133, 0)) rfl) rfl hP hF rfl ?_
  refine gt_alu (st' := [.int (Int32.ofInt 1), .int P, .long (Int64.ofNat kG0), .long p.toInt64]) (ykc_191 (e := (0, .iconst 1, 0)) rfl) rfl rfl ?_
  obtain ⟨q, e_q, h_q⟩ : ∃ zq : Int32, P - (Int32.ofInt 1) = zq ∧ zq.toInt = P.toInt - 1 := ⟨_, rfl, by rw [ti_sub (by rw [xi1]; omega) (by rw [xi1]; omega), xi1]⟩
  refine gt_alu (st' := [.int q, .long (Int64.ofNat kG0), .long p.toInt64]) (ykc_191 (e := (0, .isub, 0)) rfl) (by rw [← e_q]; exact rfl) rfl ?_
  refine gt_alu (st' := [.long q.toInt64, .long (Int64.ofNat kG0), .long p.toInt64]) (ykc_191 (e := (0, .i2l, 0)) rfl) rfl rfl ?_
  refine gt_cs (n := 3) (as := [.long p.toInt64, .long (Int64.ofNat kG0), .long q.toInt64]) (r := []) (ykc_191 (e := (6, .invokestatic 126, 0)) rfl) rfl rfl rfl rfl (xin_run (D := D)) rfl (fun vv ph1 hv => ?_)
  obtain ⟨z, e9, e8, z_s⟩ := hv; subst e9; have e7 := e8.symm; subst e7; rw [tl_i2l, tl_i2l, h_q] at z_s
  change xGT kK (D + 1) 191 _ (13, [some (.ref 170), some (.int p)], [.int z], ph, 0, 0)
  have z0 : (Int64.ofNat kG0).toInt = 0 := rfl
  rw [z0] at z_s
  refine gt_ret (ykc_191 (e := (7, .ireturn, 0)) rfl) (xretz (by omega) (by omega)) ?_
  refine ⟨z, rfl, rfl, ?_⟩
  omega

def xhasb (b : Int64) (k : Int32) : Prop := (b >>> (k.toInt64 &&& 63)) &&& Int64.ofNat kG1 = Int64.ofNat kG1
set_option maxRecDepth 6000 in
theorem xhas_run {D : Nat} {b : Int64} {k : Int32} {ph : pm_H} : ∃ r ph', pm_Rd kK false (D + 1) 183 [.long b, .int k] ph (r, ph', 0, 0) ∧ (∃ z : Int32, r = some (.int z) ∧ ph' = ph ∧ ((z.toInt = 1 ∧ xhasb b k) ∨ (z.toInt = 0 ∧ ¬ xhasb b k))) := by
  refine xRd_mk (nl := 3) rfl rfl ?_
  show xGT kK D 183 _ (0, [some (.long b), none, some (.int k)], [], ph, 0, 0)
  refine gt_load (v := .long b) (n := 1) (ykc_183 (e := (2, .lload_n kF0, 0)) rfl) rfl rfl ?_
  refine gt_load (v := .int k) (n := 1) (ykc_183 (e := (2, .iload_n kF2, 0)) rfl) rfl rfl ?_
  refine gt_alu (st' := [.long (b >>> (k.toInt64 &&& 63))]) (ykc_183 (e := (0, .lshr, 0)) rfl) rfl rfl ?_
  refine gt_alu (st' := [.long (Int64.ofNat kG1), .long (b >>> (k.toInt64 &&& 63))]) (ykc_183 (e := (0, .lconst kG1, 0)) rfl) rfl rfl ?_
  refine gt_alu (st' := [.long ((b >>> (k.toInt64 &&& 63)) &&& (Int64.ofNat kG1))]) (ykc_183 (e := (0, .land, 0)) rfl) rfl rfl ?_
  refine gt_alu (st' := [.long (Int64.ofNat kG1), .long ((b >>> (k.toInt64 &&& 63)) &&& (Int64.ofNat kG1))]) (ykc_183 (e := (0, .lconst kG1, 0)) rfl) rfl rfl ?_
  refine gt_alu (st' := [.int (lg_cmp ((b >>> (k.toInt64 &&& 63)) &&& (Int64.ofNat kG1)) (Int64.ofNat kG1))]) (ykc_183 (e := (0, .lcmp, 0)) rfl) rfl rfl ?_
  by_cases h : (b >>> (k.toInt64 &&& 63)) &&& Int64.ofNat kG1 = Int64.ofNat kG1
  · refine gt_zne_f (ykc_183 (e := (4, .ifCond .ne 7, 14)) rfl) (xcmpL.2.2.mpr (by rw [h])) rfl ?_
    refine gt_alu (st' := [.int (Int32.ofInt 1)]) (ykc_183 (e := (0, .iconst 1, 0)) rfl) rfl rfl ?_
    refine gt_br (pc' := 15) (st' := [.int (Int32.ofInt 1)]) (ykc_183 (e := (4, .goto 4, 15)) rfl) rfl ?_
    refine gt_ret (ykc_183 (e := (7, .ireturn, 0)) rfl) rfl ?_
    exact ⟨_, rfl, rfl, Or.inl ⟨by decide, h⟩⟩
  · refine gt_zne_t (ykc_183 (e := (4, .ifCond .ne 7, 14)) rfl) (fun q => h (Int64.toInt_inj.mp (xcmpL.2.2.mp q))) ?_
    refine gt_alu (st' := [.int (Int32.ofInt 0)]) (ykc_183 (e := (0, .iconst 0, 0)) rfl) rfl rfl ?_
    refine gt_ret (ykc_183 (e := (7, .ireturn, 0)) rfl) rfl ?_
    exact ⟨_, rfl, rfl, Or.inr ⟨by decide, h⟩⟩

/-- told one number more -/
def xent1 (ph ph' : pm_H) (t1 : Int32) : Prop := xget ph' 170 1 = some (.int t1) ∧ (∀ b c, ¬ (b = 170 ∧ c = 1) → xget ph' b c = xget ph b c) ∧ ∀ b, b ≠ 170 → b ≠ 171 → pm_at ph' b = pm_at ph b
set_option maxRecDepth 6000 in
theorem xenters {m : Int} {w D : Nat} {v : Int64} {t : Int32} {ph : pm_H} (hP : xH xX kK m w ph) (ht : xget ph 170 1 = some (.int t)) (h0 : 0 ≤ t.toInt) (h1 : t.toInt < 53) : ∃ r ph', pm_Rd kK false (D + 1) 186 [.ref 170, .long v] ph (r, ph', 0, 0) ∧ (∃ t1 : Int32, r = none ∧ t1.toInt = t.toInt + 1 ∧ xH xX kK m w ph' ∧ xent1 ph ph' t1) := by
  refine xRd_mk (nl := 3) rfl rfl ?_
  show xGT kK D 186 _ (0, [some (.ref 170), some (.long v), none], [], ph, 0, 0)
  refine gt_load (v := .ref 170) (n := 1) (ykc_186 (e := (2, .aload_n kF0, 0)) rfl) rfl rfl ?_
  refine gt_gfr (A := 171) (ykc_186 (e := (5, .getfield 11, 0)) rfl) rfl hP rfl rfl rfl ?_
  refine gt_load (v := .ref 170) (n := 1) (ykc_186 (e := (2, .aload_n kF0, 0)) rfl) rfl rfl ?_
  refine gt_gfk (v := .int t) (ykc_186 (e := (5, .getfield 15, 0)) rfl) rfl hP ht rfl ?_
  refine gt_load (v := .long v) (n := 1) (ykc_186 (e := (2, .lload_n kF1, 0)) rfl) rfl rfl ?_
  refine gt_las (A := 171) (y := v) (x := t) (ykc_186 (e := (5, .lastore, 0)) rfl) hP rfl rfl (by omega) (by omega) rfl (fun ph1 hP1 u1 => ?_)
  have f1_1 : xget ph1 170 1 = some (.int t) := (u1.1 170 1).trans ht
  refine gt_load (v := .ref 170) (n := 1) (ykc_186 (e := (2, .aload_n kF0, 0)) rfl) rfl rfl ?_
  refine gt_alu (st' := [.ref 170, .ref 170]) (ykc_186 (e := (0, .dup, 0)) rfl) rfl rfl ?_
  refine gt_gfk (v := .int t) (ykc_186 (e := (5, .getfield 15, 0)) rfl) rfl hP1 f1_1 rfl ?_
  refine gt_alu (st' := [.int (Int32.ofInt 1), .int t, .ref 170]) (ykc_186 (e := (0, .iconst 1, 0)) rfl) rfl rfl ?_
  obtain ⟨t1, e_t1, h_t1⟩ : ∃ zq : Int32, t + (Int32.ofInt 1) = zq ∧ zq.toInt = t.toInt + 1 := ⟨_, rfl, by rw [ti_add (by rw [xi1]; omega) (by rw [xi1]; omega), xi1]⟩
  refine gt_alu (st' := [.int t1, .ref 170]) (ykc_186 (e := (0, .iadd, 0)) rfl) (by rw [← e_t1]; exact rfl) rfl ?_
  refine gt_pf (y := t1) (ykc_186 (e := (5, .putfield 15, 0)) rfl) rfl hP1 rfl rfl (by show 0 ≤ t1.toInt; omega) (by show t1.toInt ≤ 53; omega) rfl (fun ph2 hP2 u2 => ?_)
  refine gt_ret (ykc_186 (e := (7, .return_, 0)) rfl) rfl ?_
  exact ⟨t1, rfl, h_t1, hP2, u2.1, fun b c hne => (u2.2.1 b c hne).trans (u1.1 b c), fun b h1 h2 => (u2.2.2 b h1).trans (u1.2 b h2)⟩
set_option maxRecDepth 6000 in
theorem xent1_E {E : pm_H → Prop} {gA : List Nat} {gF : List (Nat × Nat)} {ph ph' : pm_H} {t1 : Int32} (hE : xHE xX gA gF E) (u : xent1 ph ph' t1) (h0 : xmemN gA 0 = false) (h1 : xmemN gA 1 = false) (h2 : xmemP gF 0 1 = false) (g : E ph) : E ph' := by
  refine hE ph ph' ⟨fun b j hb hj => ?_, fun b j c hb hj => ?_⟩ g
  · have hb : xown b = some j := hb
    by_cases e : b = 170
    · subst e
      have e0 : xown 170 = some 0 := rfl
      rw [e0] at hb
      cases hb
      exact absurd hj (xmemN_ok h0)
    · by_cases e2 : b = 171
      · subst e2
        have e0 : xown 171 = some 1 := rfl
        rw [e0] at hb
        cases hb
        exact absurd hj (xmemN_ok h1)
      · exact (u.2.2 b e e2).symm
  · refine (u.2.1 b c ?_).symm
    rintro ⟨e1, e2⟩
    subst e1 e2
    have hb : xown 170 = some j := hb
    have e0 : xown 170 = some 0 := rfl
    rw [e0] at hb
    cases hb
    exact absurd hj (xmemP_ok h2)

/-! X: a method's summary as a contract -/
section XAD
variable {X : xD} {KC : pm_K} {E : pm_H → Prop}
def xhmV (n : Nat) (l : List xh) : List xv := match l with
  | [] => []
  | h :: r => xhm n h :: xhmV (n + 1) r
theorem xhmV_ok {m : Int} : ∀ {L : List Value} {hs : List xh} {n : Nat} {σ : Nat → Int}, 0 < n → σ 0 = 0 → xhV X m L hs → ∃ σ', (∀ t, t < n → σ' t = σ t) ∧ xsG X m σ' (n + hs.length) L (xhmV n hs) := by
  intro L
  induction L with
  | nil =>
    intro hs n σ hn h0 g
    cases hs with
    | nil => exact ⟨σ, fun _ _ => rfl, trivial⟩
    | cons _ _ => exact g.elim
  | cons o L ih =>
    intro hs n σ hn h0 g
    cases hs with
    | nil => exact g.elim
    | cons h hs =>
      obtain ⟨gv, g⟩ := g
      obtain ⟨e9, g9⟩ := xhm_ok hn h0 gv
      obtain ⟨σ', h1, h2⟩ := ih (n := n + 1) (σ := xup σ n e9) (by omega) (by rw [xup_lt hn]; exact h0) g
      refine ⟨σ', fun t ht => by rw [h1 t (by omega), xup_lt ht], ⟨xvG_up (fun t ht => h1 t ht) (by rw [List.length_cons]; omega) g9, ?_⟩⟩
      rw [List.length_cons, show n + (hs.length + 1) = n + 1 + hs.length by omega]
      exact h2
theorem xcok_con {d j W : Nat} {c : xc} {pre : List xh} {fp fq : List (Nat × xh)} {res : Option xh} (h : xcok X KC E d j c) (hchk : c (xhmV 1 pre) (xrs0 X res fq) (1 + pre.length + fp.length, [], [], xhmF (1 + pre.length) fp, W, []) = true) : xcon X KC E d j pre fp W res fq := by
  intro D hD m hm hW vs ph hv hf hP hE
  obtain ⟨σ1, a1, a2⟩ := xhmV_ok (n := 1) (σ := fun _ => 0) (by decide) rfl hv
  obtain ⟨σ2, b1, b2⟩ := xhmF_ok (n := 1 + pre.length) (σ := σ1) (by omega) (by rw [a1 0 (by decide)]) hf
  obtain ⟨v, ph', k1, k2, k3, k4, k5⟩ := h D hD m hm (1 + pre.length + fp.length) σ2 [] [] [] (xrs0 X res fq) (fun v ph' => xH X KC m 0 ph' ∧ E ph' ∧ xhR X m v res ∧ xhF X m ph' fq) (fun v S hr σ ph' vv hg' ho => by
    obtain ⟨n, A, sa, fs, w, F⟩ := S
    obtain ⟨g1, g2, g3, g4, g5, g6, g7, g8, g9⟩ := hg'
    unfold xrs0 at hr
    simp only at hr
    have hfq := (x_and hr).1
    replace hr := (x_and hr).2
    refine ⟨xH_w (Nat.zero_le _) g7, g9, ?_, xhsF_ok hm hfq g6⟩
    split at hr
    · exact ho
    · obtain ⟨u, e, gu⟩ := ho
      exact ⟨u, e, xhs_ok hm hr gu⟩
    · cases hr) _ _ hchk σ2 ph vs ⟨Nat.le_refl _, fun _ _ => rfl, ⟨by omega, by rw [b1 0 (by omega), a1 0 (by decide)], hW⟩, trivial, trivial, b2, hP, trivial, hE⟩ (xsG_up b1 (by omega) a2)
  exact ⟨v, ph', k1, k2, k3, k4, k5⟩
end XAD
