/-! one act of a DAY, class and reference, by W; printed by wip/z/z1n_does.py -/
/-- what an act at s does to a row, or none: it can't be -/
noncomputable def zAct (E : zEn) (P G : Nat) (v t : Nat → Nat) (s : Nat) : Option (Nat → Nat) :=
  if t s = 110 then some (zHqn E P G v (t (s + 1) - 48))
  else if t s = 102 then (if t (s + 1) - 48 < P ∧ t (s + 2) - 48 < 8 then some (znu v (8 + (t (s + 1) - 48)) (t (s + 2) - 48)) else none)
  else if t s = 103 then (if t (s + 1) - 48 < P ∧ t (s + 2) - 48 < 8 ∧ 0 ≤ zbk E.1 E.2.1 E.2.2.1 (v (t (s + 1) - 48)) (t (s + 2) - 48) then some (znu v (t (s + 1) - 48) (zbk E.1 E.2.1 E.2.2.1 (v (t (s + 1) - 48)) (t (s + 2) - 48)).toNat) else none)
  else if t s = 98 then (if t (s + 1) - 48 < P ∧ t (s + 2) - 48 ≤ 4 then some (znu v (16 + (t (s + 1) - 48)) (t (s + 2) - 48)) else none)
  else (if t (s + 2) - 48 < E.1 ∧ t (s + 3) - 48 < E.2.1 ∧ t (s + 1) - 48 < G ∧ v (32 + (t (s + 1) - 48)) ≠ E.2.1 * (t (s + 2) - 48) + (t (s + 3) - 48) then some (znu v (32 + (t (s + 1) - 48)) (E.2.1 * (t (s + 2) - 48) + (t (s + 3) - 48))) else none)
theorem zdw_c {c : Nat} (h : 0 < zdw c) : c = 110 ∨ c = 102 ∨ c = 103 ∨ c = 98 ∨ c = 112 := by
  unfold zdw at h
  by_cases e1 : c = 110
  · exact Or.inl e1
  · by_cases e2 : c = 102
    · exact Or.inr (Or.inl e2)
    · by_cases e3 : c = 103
      · exact Or.inr (Or.inr (Or.inl e3))
      · by_cases e4 : c = 98
        · exact Or.inr (Or.inr (Or.inr (Or.inl e4)))
        · by_cases e5 : c = 112
          · exact Or.inr (Or.inr (Or.inr (Or.inr e5)))
          · rw [if_neg e1, if_neg e2, if_neg e3, if_neg e4, if_neg e5] at h
            omega
theorem zKw_b {v : Nat → Nat} : ∀ n, n ≤ 8 → (∀ p, p < n → v (24 + p) < 256) → ∃ k, k ≤ 8 * n ∧ zKw v n = zn k
  | 0, _, _ => ⟨0, by decide, rfl⟩
  | n + 1, h8, h => by
    obtain ⟨k, h1, h2⟩ := zKw_b n (by omega) (fun p hp => h p (by omega))
    obtain ⟨g1, g2⟩ := zpn_n (v (24 + n)) (h n (by omega))
    refine ⟨k + zpn (v (24 + n)), by omega, ?_⟩
    show zKw v n + zpc (zn (v (24 + n))) = _
    rw [h2, g1]
    exact zaddN (znt (by omega)) (znt (by omega)) (by omega)
theorem zm_goesOn {ph : pm_H} {E : zEn} {P G A N : Nat} {v : Nat → Nat} {y : Int32} (hS : zSh ph) (hE : zMe ph E) (hN : zMp ph P G) (hA : A = 174 ∨ A = 175) (hv : zNr ph A 0 v) (hO : zOk E.1 E.2.1 P G v) (hy : y.toInt = (N : Int)) (hh : v 40 + N < 999999) : zM 243 [.ref 170, .ref A, .int y] ph (fun v0 q => v0 = none ∧ zHc A ph q ∧ zNr q A 0 (zHqn E P G v N)) := by
  obtain ⟨Q, hQ⟩ : ∃ Q : Option Value → pm_H → Prop, Q = (fun v0 q => v0 = none ∧ zHc A ph q ∧ zNr q A 0 (zHqn E P G v N)) := ⟨_, rfl⟩
  rw [← hQ]
  refine zM_mk fun n D => ?_
  show zW n D 243 Q 0 [some (.ref 170), some (.ref A), some (.int y), none] [] ph
  have c_0 : (Int32.ofInt 0).toInt = 0 := by decide
  have c_1 : (Int32.ofInt 1).toInt = 1 := by decide
  have hy9 := x32_hi y
  have hP8 : P ≤ 8 := hN.2.1
  have hG8 : G ≤ 8 := hN.2.2.2
  refine w_alu (pc' := 1) (st' := [.int (Int32.ofInt 0)]) (ykc_243 (e := (0, .iconst 0, 0)) rfl) rfl rfl ?_
  refine w_store (pc' := 2) (L' := [some (.ref 170), some (.ref A), some (.int y), some (.int (Int32.ofInt 0))]) (st' := []) (m := 1) (ykc_243 (e := (3, .istore_n kF3, 0)) rfl) rfl rfl ?_
  have hl1 : ∀ (n : Nat), ∀ (k : Nat) (p : pm_H), (k ≤ N) → (zHc A ph p) → (zNr p A 0 (zHqn E P G v k)) → zW n D 243 Q 2 [some (.ref 170), some (.ref A), some (.int y), some (.int (zn k))] [] p := by
    intro n
    induction n using Nat.strongRecOn with
    | ind n ih =>
      intro k p hk hf hvk
      have tk := znt (k := k) (by omega)
      refine w_load (pc' := 3) (v := .int (zn k)) (m := 1) (ykc_243 (e := (2, .iload_n kF3, 0)) rfl) rfl rfl ?_
      refine w_load (pc' := 4) (v := .int y) (m := 1) (ykc_243 (e := (2, .iload_n kF2, 0)) rfl) rfl rfl ?_
      refine w_ige (ykc_243 (e := (4, .if_icmp .ge 14, 18)) rfl) rfl (fun b1517 => ?_) (fun b1517 => ?_)
      · refine w_ret (v := none) (ykc_243 (e := (7, .return_, 0)) rfl) (zr_v rfl) ?_
        rw [hQ]
        have ek : k = N := by omega
        subst ek
        exact ⟨rfl, hf, hvk⟩
      · refine w_load (pc' := 8) (v := .ref 170) (m := 1) (ykc_243 (e := (2, .aload_n kF0, 0)) rfl) rfl rfl ?_
        refine w_load (pc' := 9) (v := .ref A) (m := 1) (ykc_243 (e := (2, .aload_n kF1, 0)) rfl) rfl rfl ?_
        have h40 := zHqn_40 (E := E) (G := G) (v := v) hP8 k
        refine w_cv (as := [.ref 170, .ref A]) (r := []) (ykc_243 (e := (6, .invokevirtual 347, 0)) rfl) rfl rfl rfl rfl (zm_hour (zHc_S hA hf hS) (zHc_e hA hf hE) (zHc_p hA hf hN) hA hvk (zHqn_ok hO hP8 hG8 k (by omega)) (by omega)) (fun v1518 ph1519 hv => ?_)
        obtain ⟨rfl, f2, hv2⟩ := hv
        show zW n D 243 Q 12 [some (.ref 170), some (.ref A), some (.int y), some (.int (zn k))] [] ph1519
        have e1520 : (zn k) + Int32.ofInt 1 = zn (k + 1) := (zaddN (a := k) (b := 1) (znt (by omega)) c_1 (by omega))
        have te1520 := znt (k := k + 1) (by omega)
        refine w_store (pc' := 15) (L' := [some (.ref 170), some (.ref A), some (.int y), some (.int (zn (k + 1)))]) (st' := []) (m := 3) (ykc_243 (e := (3, .iinc 3 1, 0)) rfl) (by rw [← e1520]; rfl) rfl ?_
        refine w_gb (ykc_243 (e := (4, .goto (-13), 2)) rfl) (fun k1521 hk1521 => ?_)
        rw [show zHr E P G (zHqn E P G v k) = zHqn E P G v (k + 1) from zHr_eq] at hv2
        exact ih k1521 hk1521 (k + 1) _ (by omega) (zFr_trans hf f2) hv2
  exact hl1 n 0 _ (Nat.zero_le _) zFr_refl hv
theorem zm_doesR {ph : pm_H} {E : zEn} {P G b k i : Nat} {v t : Nat → Nat} {x : Int32} (hS : zSh ph) (hE : zMe ph E) (hN : zMp ph P G) (hv : zNr ph 174 0 v) (hO : zOk E.1 E.2.1 P G v) (hh : v 40 < 999000) (hD : zEd ph t k) (hg : zDok b t k) (hk : k ≤ 60) (hx : x.toInt = (i : Int)) (hi : i < k) : zM 254 [.ref 170, .int x] ph (fun v0 q => zFr [174, 181, 182, 184] [] ph q ∧ ((∃ v2, zAct E P G v t (zDp t i) = some v2 ∧ v0 = some (.int (zI true)) ∧ zNr q 174 0 v2) ∨ (zAct E P G v t (zDp t i) = none ∧ v0 = some (.int (zI false)) ∧ zNr q 174 0 v))) := by
  obtain ⟨Q, hQ⟩ : ∃ Q : Option Value → pm_H → Prop, Q = (fun v0 q => zFr [174, 181, 182, 184] [] ph q ∧ ((∃ v2, zAct E P G v t (zDp t i) = some v2 ∧ v0 = some (.int (zI true)) ∧ zNr q 174 0 v2) ∨ (zAct E P G v t (zDp t i) = none ∧ v0 = some (.int (zI false)) ∧ zNr q 174 0 v))) := ⟨_, rfl⟩
  rw [← hQ]
  refine zM_mk fun n D => ?_
  show zW n D 254 Q 0 [some (.ref 170), some (.int x), none, none] [] ph
  have c_0 : (Int32.ofInt 0).toInt = 0 := by decide
  have c_1 : (Int32.ofInt 1).toInt = 1 := by decide
  have hx9 := x32_hi x
  have hL0 : zMl ph E.1 E.2.1 E.2.2.1 := hE.1
  obtain ⟨d1, d2, d3, d4⟩ := hD i hi
  obtain ⟨g1, g2, g3⟩ := hg i hi
  obtain ⟨s, hs⟩ : ∃ s, zDp t i = s := ⟨_, rfl⟩
  rw [hs] at d1 d2 d3 d4 g1 g2 g3
  have q1 := zdi_d (g3 0 (by omega))
  rw [Nat.add_zero] at q1
  have tq1 := znt (k := t (s + 1) - 48) (by omega)
  have hR7 : 3 ≤ E.1 ∧ E.1 ≤ 7 ∧ 3 ≤ E.2.1 ∧ E.2.1 ≤ 7 := ⟨hL0.2.2.2.1, hL0.2.2.2.2.1, hL0.2.2.2.2.2.1, hL0.2.2.2.2.2.2⟩
  have hP8 : P ≤ 8 := hN.2.1
  have hG8 : G ≤ 8 := hN.2.2.2
  have tE1 := znt (k := E.1) (by omega)
  have tE2 := znt (k := E.2.1) (by omega)
  refine w_load (pc' := 1) (v := .ref 170) (m := 1) (ykc_254 (e := (2, .aload_n kF0, 0)) rfl) rfl rfl ?_
  refine w_gf (pc' := 4) (v := .ref 186) (ykc_254 (e := (5, .getfield 77, 0)) rfl) rfl (zsg hS zs_170_31) rfl ?_
  refine w_load (pc' := 5) (v := .int x) (m := 1) (ykc_254 (e := (2, .iload_n kF1, 0)) rfl) rfl rfl ?_
  refine w_ialk (pc' := 6) (k := i) (ykc_254 (e := (5, .iaload, 0)) rfl) d2 (by omega) rfl ?_
  refine w_store (pc' := 7) (L' := [some (.ref 170), some (.int x), some (.int (zn (t (s + 1) - 48))), none]) (st' := []) (m := 1) (ykc_254 (e := (3, .istore_n kF2, 0)) rfl) rfl rfl ?_
  refine w_load (pc' := 8) (v := .ref 170) (m := 1) (ykc_254 (e := (2, .aload_n kF0, 0)) rfl) rfl rfl ?_
  refine w_gf (pc' := 11) (v := .ref 185) (ykc_254 (e := (5, .getfield 74, 0)) rfl) rfl (zsg hS zs_170_30) rfl ?_
  refine w_load (pc' := 12) (v := .int x) (m := 1) (ykc_254 (e := (2, .iload_n kF1, 0)) rfl) rfl rfl ?_
  refine w_ialk (pc' := 13) (k := i) (ykc_254 (e := (5, .iaload, 0)) rfl) d1 (by omega) rfl ?_
  rcases zdw_c g1 with e | e | e | e | e
  · refine w_br (pc' := 44) (st' := []) (ykc_254 (e := (4, .tableswitch 110 0 3 #[31, 42, 66, 90], 31)) rfl) (by rw [e]; rfl) ?_
    refine w_load (pc' := 45) (v := .ref 170) (m := 1) (ykc_254 (e := (2, .aload_n kF0, 0)) rfl) rfl rfl ?_
    refine w_load (pc' := 46) (v := .ref 170) (m := 1) (ykc_254 (e := (2, .aload_n kF0, 0)) rfl) rfl rfl ?_
    refine w_gf (pc' := 49) (v := .ref 174) (ykc_254 (e := (5, .getfield 41, 0)) rfl) rfl (zsg hS zs_170_11) rfl ?_
    refine w_load (pc' := 50) (v := .int (zn (t (s + 1) - 48))) (m := 1) (ykc_254 (e := (2, .iload_n kF2, 0)) rfl) rfl rfl ?_
    refine w_cv (as := [.ref 170, .ref 174, .int (zn (t (s + 1) - 48))]) (r := []) (ykc_254 (e := (6, .invokevirtual 370, 0)) rfl) rfl rfl rfl rfl (zm_goesOn (N := t (s + 1) - 48) hS hE hN (Or.inl rfl) hv hO tq1 (by omega)) (fun v1522 ph1523 hv => ?_)
    rcases hv with ⟨rfl, f2, hv2⟩
    · show zW n D 254 Q 53 [some (.ref 170), some (.int x), some (.int (zn (t (s + 1) - 48))), none] [] ph1523
      refine w_alu (pc' := 54) (st' := [.int (Int32.ofInt 1)]) (ykc_254 (e := (0, .iconst 1, 0)) rfl) rfl rfl ?_
      refine w_ret (v := (some (.int (Int32.ofInt 1)))) (ykc_254 (e := (7, .ireturn, 0)) rfl) zr_z ?_
      rw [hQ, zi1]
      refine ⟨zFr_mono f2 (by simp) (by simp), Or.inl ⟨_, ?_, rfl, hv2⟩⟩
      rw [hs]
      unfold zAct
      rw [if_pos e]
    
  · have q2 : 48 ≤ t (s + 2) ∧ t (s + 2) ≤ 57 := zdi_d (g3 1 (by rw [e]; decide))
    have tq2 := znt (k := t (s + 2) - 48) (by omega)
    have d3 := d3 (by rw [e]; decide)
    refine w_br (pc' := 55) (st' := []) (ykc_254 (e := (4, .tableswitch 110 0 3 #[31, 42, 66, 90], 31)) rfl) (by rw [e]; rfl) ?_
    refine w_load (pc' := 56) (v := .ref 170) (m := 1) (ykc_254 (e := (2, .aload_n kF0, 0)) rfl) rfl rfl ?_
    refine w_load (pc' := 57) (v := .ref 170) (m := 1) (ykc_254 (e := (2, .aload_n kF0, 0)) rfl) rfl rfl ?_
    refine w_gf (pc' := 60) (v := .ref 174) (ykc_254 (e := (5, .getfield 41, 0)) rfl) rfl (zsg hS zs_170_11) rfl ?_
    refine w_load (pc' := 61) (v := .int (zn (t (s + 1) - 48))) (m := 1) (ykc_254 (e := (2, .iload_n kF2, 0)) rfl) rfl rfl ?_
    refine w_load (pc' := 62) (v := .ref 170) (m := 1) (ykc_254 (e := (2, .aload_n kF0, 0)) rfl) rfl rfl ?_
    refine w_gf (pc' := 65) (v := .ref 187) (ykc_254 (e := (5, .getfield 80, 0)) rfl) rfl (zsg hS zs_170_32) rfl ?_
    refine w_load (pc' := 66) (v := .int x) (m := 1) (ykc_254 (e := (2, .iload_n kF1, 0)) rfl) rfl rfl ?_
    refine w_ialk (pc' := 67) (k := i) (ykc_254 (e := (5, .iaload, 0)) rfl) d3 (by omega) rfl ?_
    refine w_cv (as := [.ref 170, .ref 174, .int (zn (t (s + 1) - 48)), .int (zn (t (s + 2) - 48))]) (r := []) (ykc_254 (e := (6, .invokevirtual 377, 0)) rfl) rfl rfl rfl rfl (zm_faces1 hS hE.1 hN (Or.inl rfl) hv hO) (fun v1524 ph1525 hv => ?_)
    rcases hv with ⟨hbad, rfl, rfl⟩ | ⟨p, f, hp9, hf9, hpP, hf8, rfl, u9⟩
    · have tm1 : (Int32.ofInt (-1)).toInt = -1 := by decide
      show zW n D 254 Q 70 [some (.ref 170), some (.int x), some (.int (zn (t (s + 1) - 48))), none] [.int (Int32.ofInt (-1))] ph
      refine w_zlt (ykc_254 (e := (4, .ifCond .lt 7, 77)) rfl) rfl (fun b1526 => ?_) (fun q => by exfalso; omega)
      refine w_alu (pc' := 78) (st' := [.int (Int32.ofInt 0)]) (ykc_254 (e := (0, .iconst 0, 0)) rfl) rfl rfl ?_
      refine w_ret (v := (some (.int (Int32.ofInt 0)))) (ykc_254 (e := (7, .ireturn, 0)) rfl) zr_z ?_
      rw [hQ, zi0]
      refine ⟨zFr_refl, Or.inr ⟨?_, rfl, hv⟩⟩
      rw [hs]
      unfold zAct
      rw [if_neg (show ¬ t s = 110 by omega)]
      rw [if_pos e]
      rw [if_neg (by omega)]
    · have ep : p = t (s + 1) - 48 := zn_inj hp9.symm (by omega) (by omega)
      have ef : f = t (s + 2) - 48 := zn_inj hf9.symm (by omega) (by omega)
      subst ep ef
      have tz8 := znt (k := ze8 (v (8 + (t (s + 1) - 48))) (t (s + 2) - 48)) (by unfold ze8; omega)
      show zW n D 254 Q 70 [some (.ref 170), some (.int x), some (.int (zn (t (s + 1) - 48))), none] [.int (zn (ze8 (v (8 + (t (s + 1) - 48))) (t (s + 2) - 48)))] ph1525
      refine w_zlt (ykc_254 (e := (4, .ifCond .lt 7, 77)) rfl) rfl (fun q => by exfalso; omega) (fun b1527 => ?_)
      refine w_alu (pc' := 74) (st' := [.int (Int32.ofInt 1)]) (ykc_254 (e := (0, .iconst 1, 0)) rfl) rfl rfl ?_
      refine w_br (pc' := 78) (st' := [.int (Int32.ofInt 1)]) (ykc_254 (e := (4, .goto 4, 78)) rfl) rfl ?_
      refine w_ret (v := (some (.int (Int32.ofInt 1)))) (ykc_254 (e := (7, .ireturn, 0)) rfl) zr_z ?_
      rw [hQ, zi1]
      refine ⟨zFr_st u9 (Or.inl (by simp)), Or.inl ⟨znu v (8 + (t (s + 1) - 48)) (t (s + 2) - 48), ?_, rfl, zNr_u u9 hv⟩⟩
      rw [hs]
      unfold zAct
      rw [if_neg (show ¬ t s = 110 by omega)]
      rw [if_pos e]
      rw [if_pos ⟨by omega, by omega⟩]
    
  · have q2 : 48 ≤ t (s + 2) ∧ t (s + 2) ≤ 57 := zdi_d (g3 1 (by rw [e]; decide))
    have tq2 := znt (k := t (s + 2) - 48) (by omega)
    have d3 := d3 (by rw [e]; decide)
    refine w_br (pc' := 79) (st' := []) (ykc_254 (e := (4, .tableswitch 110 0 3 #[31, 42, 66, 90], 31)) rfl) (by rw [e]; rfl) ?_
    refine w_load (pc' := 80) (v := .ref 170) (m := 1) (ykc_254 (e := (2, .aload_n kF0, 0)) rfl) rfl rfl ?_
    refine w_load (pc' := 81) (v := .ref 170) (m := 1) (ykc_254 (e := (2, .aload_n kF0, 0)) rfl) rfl rfl ?_
    refine w_gf (pc' := 84) (v := .ref 174) (ykc_254 (e := (5, .getfield 41, 0)) rfl) rfl (zsg hS zs_170_11) rfl ?_
    refine w_load (pc' := 85) (v := .int (zn (t (s + 1) - 48))) (m := 1) (ykc_254 (e := (2, .iload_n kF2, 0)) rfl) rfl rfl ?_
    refine w_load (pc' := 86) (v := .ref 170) (m := 1) (ykc_254 (e := (2, .aload_n kF0, 0)) rfl) rfl rfl ?_
    refine w_gf (pc' := 89) (v := .ref 187) (ykc_254 (e := (5, .getfield 80, 0)) rfl) rfl (zsg hS zs_170_32) rfl ?_
    refine w_load (pc' := 90) (v := .int x) (m := 1) (ykc_254 (e := (2, .iload_n kF1, 0)) rfl) rfl rfl ?_
    refine w_ialk (pc' := 91) (k := i) (ykc_254 (e := (5, .iaload, 0)) rfl) d3 (by omega) rfl ?_
    refine w_cv (as := [.ref 170, .ref 174, .int (zn (t (s + 1) - 48)), .int (zn (t (s + 2) - 48))]) (r := []) (ykc_254 (e := (6, .invokevirtual 383, 0)) rfl) rfl rfl rfl rfl (zm_steps1 hS hE.1 hN (Or.inl rfl) hv hO) (fun v1528 ph1529 hv => ?_)
    rcases hv with ⟨hbad, rfl, rfl⟩ | ⟨p, f, hp9, hf9, hpP, hf8, ⟨hrk, rfl, rfl⟩ | ⟨g, hgR, hgk, rfl, u9⟩⟩
    · have tm1 : (Int32.ofInt (-1)).toInt = -1 := by decide
      show zW n D 254 Q 94 [some (.ref 170), some (.int x), some (.int (zn (t (s + 1) - 48))), none] [.int (Int32.ofInt (-1))] ph
      refine w_zlt (ykc_254 (e := (4, .ifCond .lt 7, 101)) rfl) rfl (fun b1530 => ?_) (fun q => by exfalso; omega)
      refine w_alu (pc' := 102) (st' := [.int (Int32.ofInt 0)]) (ykc_254 (e := (0, .iconst 0, 0)) rfl) rfl rfl ?_
      refine w_ret (v := (some (.int (Int32.ofInt 0)))) (ykc_254 (e := (7, .ireturn, 0)) rfl) zr_z ?_
      rw [hQ, zi0]
      refine ⟨zFr_refl, Or.inr ⟨?_, rfl, hv⟩⟩
      rw [hs]
      unfold zAct
      rw [if_neg (show ¬ t s = 110 by omega)]
      rw [if_neg (show ¬ t s = 102 by omega)]
      rw [if_pos e]
      rw [if_neg (by omega)]
    · have ep : p = t (s + 1) - 48 := zn_inj hp9.symm (by omega) (by omega)
      have ef : f = t (s + 2) - 48 := zn_inj hf9.symm (by omega) (by omega)
      subst ep ef
      have tm2 : ((Int8.ofInt (-2)).toInt32).toInt = -2 := by decide
      show zW n D 254 Q 94 [some (.ref 170), some (.int x), some (.int (zn (t (s + 1) - 48))), none] [.int ((Int8.ofInt (-2)).toInt32)] ph
      refine w_zlt (ykc_254 (e := (4, .ifCond .lt 7, 101)) rfl) rfl (fun b1531 => ?_) (fun q => by exfalso; omega)
      refine w_alu (pc' := 102) (st' := [.int (Int32.ofInt 0)]) (ykc_254 (e := (0, .iconst 0, 0)) rfl) rfl rfl ?_
      refine w_ret (v := (some (.int (Int32.ofInt 0)))) (ykc_254 (e := (7, .ireturn, 0)) rfl) zr_z ?_
      rw [hQ, zi0]
      refine ⟨zFr_refl, Or.inr ⟨?_, rfl, hv⟩⟩
      rw [hs]
      unfold zAct
      rw [if_neg (show ¬ t s = 110 by omega)]
      rw [if_neg (show ¬ t s = 102 by omega)]
      rw [if_pos e]
      rw [if_neg (fun q => by have q2 := q.2.2; omega)]
    · have tg := znt (k := g) (by have := zRC49 hR7.2.1 hR7.2.2.2; omega)
      have ep : p = t (s + 1) - 48 := zn_inj hp9.symm (by omega) (by omega)
      have ef : f = t (s + 2) - 48 := zn_inj hf9.symm (by omega) (by omega)
      subst ep ef
      show zW n D 254 Q 94 [some (.ref 170), some (.int x), some (.int (zn (t (s + 1) - 48))), none] [.int (zn g)] ph1529
      refine w_zlt (ykc_254 (e := (4, .ifCond .lt 7, 101)) rfl) rfl (fun q => by exfalso; omega) (fun b1532 => ?_)
      refine w_alu (pc' := 98) (st' := [.int (Int32.ofInt 1)]) (ykc_254 (e := (0, .iconst 1, 0)) rfl) rfl rfl ?_
      refine w_br (pc' := 102) (st' := [.int (Int32.ofInt 1)]) (ykc_254 (e := (4, .goto 4, 102)) rfl) rfl ?_
      refine w_ret (v := (some (.int (Int32.ofInt 1)))) (ykc_254 (e := (7, .ireturn, 0)) rfl) zr_z ?_
      rw [hQ, zi1]
      refine ⟨zFr_st u9 (Or.inl (by simp)), Or.inl ⟨znu v ((t (s + 1) - 48)) g, ?_, rfl, zNr_u u9 hv⟩⟩
      rw [hs]
      unfold zAct
      rw [if_neg (show ¬ t s = 110 by omega)]
      rw [if_neg (show ¬ t s = 102 by omega)]
      rw [if_pos e]
      rw [if_pos ⟨by omega, by omega, by rw [hgk]; omega⟩, hgk]
      rfl
    
  · have q2 : 48 ≤ t (s + 2) ∧ t (s + 2) ≤ 57 := zdi_d (g3 1 (by rw [e]; decide))
    have tq2 := znt (k := t (s + 2) - 48) (by omega)
    have d3 := d3 (by rw [e]; decide)
    refine w_br (pc' := 103) (st' := []) (ykc_254 (e := (4, .tableswitch 110 0 3 #[31, 42, 66, 90], 31)) rfl) (by rw [e]; rfl) ?_
    refine w_load (pc' := 104) (v := .ref 170) (m := 1) (ykc_254 (e := (2, .aload_n kF0, 0)) rfl) rfl rfl ?_
    refine w_load (pc' := 105) (v := .int (zn (t (s + 1) - 48))) (m := 1) (ykc_254 (e := (2, .iload_n kF2, 0)) rfl) rfl rfl ?_
    refine w_load (pc' := 106) (v := .ref 170) (m := 1) (ykc_254 (e := (2, .aload_n kF0, 0)) rfl) rfl rfl ?_
    refine w_gf (pc' := 109) (v := .ref 187) (ykc_254 (e := (5, .getfield 80, 0)) rfl) rfl (zsg hS zs_170_32) rfl ?_
    refine w_load (pc' := 110) (v := .int x) (m := 1) (ykc_254 (e := (2, .iload_n kF1, 0)) rfl) rfl rfl ?_
    refine w_ialk (pc' := 111) (k := i) (ykc_254 (e := (5, .iaload, 0)) rfl) d3 (by omega) rfl ?_
    refine w_cv (as := [.ref 170, .int (zn (t (s + 1) - 48)), .int (zn (t (s + 2) - 48))]) (r := []) (ykc_254 (e := (6, .invokevirtual 386, 0)) rfl) rfl rfl rfl rfl (zm_trims1 hS hE.1 hN hv hO) (fun v1533 ph1534 hv => ?_)
    rcases hv with ⟨hbad, rfl, rfl⟩ | ⟨p, f, hp9, hf9, hpP, hf4, rfl, u9⟩
    · have tm1 : (Int32.ofInt (-1)).toInt = -1 := by decide
      show zW n D 254 Q 114 [some (.ref 170), some (.int x), some (.int (zn (t (s + 1) - 48))), none] [.int (Int32.ofInt (-1))] ph
      refine w_zlt (ykc_254 (e := (4, .ifCond .lt 7, 121)) rfl) rfl (fun b1535 => ?_) (fun q => by exfalso; omega)
      refine w_alu (pc' := 122) (st' := [.int (Int32.ofInt 0)]) (ykc_254 (e := (0, .iconst 0, 0)) rfl) rfl rfl ?_
      refine w_ret (v := (some (.int (Int32.ofInt 0)))) (ykc_254 (e := (7, .ireturn, 0)) rfl) zr_z ?_
      rw [hQ, zi0]
      refine ⟨zFr_refl, Or.inr ⟨?_, rfl, hv⟩⟩
      rw [hs]
      unfold zAct
      rw [if_neg (show ¬ t s = 110 by omega)]
      rw [if_neg (show ¬ t s = 102 by omega)]
      rw [if_neg (show ¬ t s = 103 by omega)]
      rw [if_pos e]
      rw [if_neg (by omega)]
    · have ep : p = t (s + 1) - 48 := zn_inj hp9.symm (by omega) (by omega)
      have ef : f = t (s + 2) - 48 := zn_inj hf9.symm (by omega) (by omega)
      subst ep ef
      have tv := znt (k := v (16 + (t (s + 1) - 48))) (by have := (hO.1 _ hpP).2.2.1; omega)
      show zW n D 254 Q 114 [some (.ref 170), some (.int x), some (.int (zn (t (s + 1) - 48))), none] [.int (zn (v (16 + (t (s + 1) - 48))))] ph1534
      refine w_zlt (ykc_254 (e := (4, .ifCond .lt 7, 121)) rfl) rfl (fun q => by exfalso; omega) (fun b1536 => ?_)
      refine w_alu (pc' := 118) (st' := [.int (Int32.ofInt 1)]) (ykc_254 (e := (0, .iconst 1, 0)) rfl) rfl rfl ?_
      refine w_br (pc' := 122) (st' := [.int (Int32.ofInt 1)]) (ykc_254 (e := (4, .goto 4, 122)) rfl) rfl ?_
      refine w_ret (v := (some (.int (Int32.ofInt 1)))) (ykc_254 (e := (7, .ireturn, 0)) rfl) zr_z ?_
      rw [hQ, zi1]
      refine ⟨zFr_st u9 (Or.inl (by simp)), Or.inl ⟨znu v (16 + (t (s + 1) - 48)) (t (s + 2) - 48), ?_, rfl, zNr_u u9 hv⟩⟩
      rw [hs]
      unfold zAct
      rw [if_neg (show ¬ t s = 110 by omega)]
      rw [if_neg (show ¬ t s = 102 by omega)]
      rw [if_neg (show ¬ t s = 103 by omega)]
      rw [if_pos e]
      rw [if_pos ⟨by omega, by omega⟩]
    
  · have q2 : 48 ≤ t (s + 2) ∧ t (s + 2) ≤ 57 := zdi_d (g3 1 (by rw [e]; decide))
    have tq2 := znt (k := t (s + 2) - 48) (by omega)
    have d3 := d3 (by rw [e]; decide)
    have q3 : 48 ≤ t (s + 3) ∧ t (s + 3) ≤ 57 := zdi_d (g3 2 (by rw [e]; decide))
    have tq3 := znt (k := t (s + 3) - 48) (by omega)
    have d4 := d4 (by rw [e]; decide)
    refine w_br (pc' := 123) (st' := []) (ykc_254 (e := (4, .tableswitch 110 0 3 #[31, 42, 66, 90], 31)) rfl) (by rw [e]; rfl) ?_
    refine w_load (pc' := 124) (v := .ref 170) (m := 1) (ykc_254 (e := (2, .aload_n kF0, 0)) rfl) rfl rfl ?_
    refine w_gf (pc' := 127) (v := .ref 187) (ykc_254 (e := (5, .getfield 80, 0)) rfl) rfl (zsg hS zs_170_32) rfl ?_
    refine w_load (pc' := 128) (v := .int x) (m := 1) (ykc_254 (e := (2, .iload_n kF1, 0)) rfl) rfl rfl ?_
    refine w_ialk (pc' := 129) (k := i) (ykc_254 (e := (5, .iaload, 0)) rfl) d3 (by omega) rfl ?_
    refine w_load (pc' := 130) (v := .ref 170) (m := 1) (ykc_254 (e := (2, .aload_n kF0, 0)) rfl) rfl rfl ?_
    refine w_gf (pc' := 133) (v := .int (zn E.1)) (ykc_254 (e := (5, .getfield 24, 0)) rfl) rfl hL0.1 rfl ?_
    refine w_ige (ykc_254 (e := (4, .if_icmp .ge 20, 153)) rfl) rfl (fun b1538 => ?_) (fun b1538 => ?_)
    · refine w_alu (pc' := 154) (st' := [.int (Int32.ofInt 0)]) (ykc_254 (e := (0, .iconst 0, 0)) rfl) rfl rfl ?_
      refine w_store (pc' := 155) (L' := [some (.ref 170), some (.int x), some (.int (zn (t (s + 1) - 48))), some (.int (Int32.ofInt 0))]) (st' := []) (m := 1) (ykc_254 (e := (3, .istore_n kF3, 0)) rfl) rfl rfl ?_
      refine w_load (pc' := 156) (v := .int (Int32.ofInt 0)) (m := 1) (ykc_254 (e := (2, .iload_n kF3, 0)) rfl) rfl rfl ?_
      refine w_zeq (ykc_254 (e := (4, .ifCond .eq 33, 189)) rfl) rfl (fun b1539 => ?_) (fun b1539 => ?_)
      · refine w_alu (pc' := 190) (st' := [.int (Int32.ofInt 0)]) (ykc_254 (e := (0, .iconst 0, 0)) rfl) rfl rfl ?_
        refine w_ret (v := (some (.int (Int32.ofInt 0)))) (ykc_254 (e := (7, .ireturn, 0)) rfl) zr_z ?_
        rw [hQ, zi0]
        refine ⟨zFr_refl, Or.inr ⟨?_, rfl, hv⟩⟩
        rw [hs]
        unfold zAct
        rw [if_neg (show ¬ t s = 110 by omega)]
        rw [if_neg (show ¬ t s = 102 by omega)]
        rw [if_neg (show ¬ t s = 103 by omega)]
        rw [if_neg (show ¬ t s = 98 by omega)]
        rw [if_neg (by omega)]
      · refine w_load (pc' := 160) (v := .ref 170) (m := 1) (ykc_254 (e := (2, .aload_n kF0, 0)) rfl) rfl rfl ?_
        refine w_load (pc' := 161) (v := .int (zn (t (s + 1) - 48))) (m := 1) (ykc_254 (e := (2, .iload_n kF2, 0)) rfl) rfl rfl ?_
        refine w_load (pc' := 162) (v := .ref 170) (m := 1) (ykc_254 (e := (2, .aload_n kF0, 0)) rfl) rfl rfl ?_
        refine w_gf (pc' := 165) (v := .int (zn E.2.1)) (ykc_254 (e := (5, .getfield 27, 0)) rfl) rfl hL0.2.1 rfl ?_
        refine w_load (pc' := 166) (v := .ref 170) (m := 1) (ykc_254 (e := (2, .aload_n kF0, 0)) rfl) rfl rfl ?_
        refine w_gf (pc' := 169) (v := .ref 187) (ykc_254 (e := (5, .getfield 80, 0)) rfl) rfl (zsg hS zs_170_32) rfl ?_
        refine w_load (pc' := 170) (v := .int x) (m := 1) (ykc_254 (e := (2, .iload_n kF1, 0)) rfl) rfl rfl ?_
        refine w_ialk (pc' := 171) (k := i) (ykc_254 (e := (5, .iaload, 0)) rfl) d3 (by omega) rfl ?_
        have m1537 : E.2.1 * (t (s + 2) - 48) ≤ 7 * 9 := Nat.mul_le_mul (by omega) (by omega)
        have e1540 : (zn E.2.1) * (zn (t (s + 2) - 48)) = zn (E.2.1 * (t (s + 2) - 48)) := zn_of (zmulN (by omega) (by omega) (by omega) (by omega))
        have te1540 := znt (k := E.2.1 * (t (s + 2) - 48)) (by omega)
        refine w_alu (pc' := 172) (st' := [.int (zn (E.2.1 * (t (s + 2) - 48))), .int (zn (t (s + 1) - 48)), .ref 170]) (ykc_254 (e := (0, .imul, 0)) rfl) (by rw [← e1540]; rfl) rfl ?_
        refine w_load (pc' := 173) (v := .ref 170) (m := 1) (ykc_254 (e := (2, .aload_n kF0, 0)) rfl) rfl rfl ?_
        refine w_gf (pc' := 176) (v := .ref 188) (ykc_254 (e := (5, .getfield 83, 0)) rfl) rfl (zsg hS zs_170_33) rfl ?_
        refine w_load (pc' := 177) (v := .int x) (m := 1) (ykc_254 (e := (2, .iload_n kF1, 0)) rfl) rfl rfl ?_
        refine w_ialk (pc' := 178) (k := i) (ykc_254 (e := (5, .iaload, 0)) rfl) d4 (by omega) rfl ?_
        have e1541 : (zn (E.2.1 * (t (s + 2) - 48))) + (zn (t (s + 3) - 48)) = zn (E.2.1 * (t (s + 2) - 48) + (t (s + 3) - 48)) := (zaddN (a := E.2.1 * (t (s + 2) - 48)) (b := t (s + 3) - 48) (znt (by omega)) (znt (by omega)) (by omega)) 
        have te1541 := znt (k := E.2.1 * (t (s + 2) - 48) + (t (s + 3) - 48)) (by omega)
        refine w_alu (pc' := 179) (st' := [.int (zn (E.2.1 * (t (s + 2) - 48) + (t (s + 3) - 48))), .int (zn (t (s + 1) - 48)), .ref 170]) (ykc_254 (e := (0, .iadd, 0)) rfl) (by rw [← e1541]; rfl) rfl ?_
        refine w_cv (as := [.ref 170, .int (zn (t (s + 1) - 48)), .int (zn (E.2.1 * (t (s + 2) - 48) + (t (s + 3) - 48)))]) (r := []) (ykc_254 (e := (6, .invokevirtual 389, 0)) rfl) rfl rfl rfl rfl (zm_puts1 hS hE.1 hN hv hO) (fun v1542 ph1543 hv => ?_)
        rcases hv with ⟨hbad, rfl, rfl⟩ | ⟨p, f, hp9, hf9, hpP, hfR, u9, ⟨hsm, rfl⟩ | ⟨hne, rfl⟩⟩
        · have tm1 : (Int32.ofInt (-1)).toInt = -1 := by decide
          have hmm : E.2.1 * (t (s + 2) - 48) + (t (s + 3) - 48) < E.1 * E.2.1 := by
            have := Nat.mul_le_mul_left E.2.1 (show t (s + 2) - 48 + 1 ≤ E.1 by omega)
            rw [Nat.mul_add, Nat.mul_one, Nat.mul_comm E.2.1 E.1] at this
            omega
          show zW n D 254 Q 182 [some (.ref 170), some (.int x), some (.int (zn (t (s + 1) - 48))), some (.int (Int32.ofInt 0))] [.int (Int32.ofInt (-1))] ph
          refine w_zlt (ykc_254 (e := (4, .ifCond .lt 7, 189)) rfl) rfl (fun b1544 => ?_) (fun q => by exfalso; omega)
          refine w_alu (pc' := 190) (st' := [.int (Int32.ofInt 0)]) (ykc_254 (e := (0, .iconst 0, 0)) rfl) rfl rfl ?_
          refine w_ret (v := (some (.int (Int32.ofInt 0)))) (ykc_254 (e := (7, .ireturn, 0)) rfl) zr_z ?_
          rw [hQ, zi0]
          refine ⟨zFr_refl, Or.inr ⟨?_, rfl, hv⟩⟩
          rw [hs]
          unfold zAct
          rw [if_neg (show ¬ t s = 110 by omega)]
          rw [if_neg (show ¬ t s = 102 by omega)]
          rw [if_neg (show ¬ t s = 103 by omega)]
          rw [if_neg (show ¬ t s = 98 by omega)]
          rw [if_neg (fun q => by have q3 := q.2.2.1; omega)]
        · have ep : p = t (s + 1) - 48 := zn_inj hp9.symm (by omega) (by omega)
          have ef : f = E.2.1 * (t (s + 2) - 48) + (t (s + 3) - 48) := zn_inj hf9.symm (by have := zRC49 hR7.2.1 hR7.2.2.2; omega) (by omega)
          subst ep ef
          have tm2 : ((Int8.ofInt (-2)).toInt32).toInt = -2 := by decide
          show zW n D 254 Q 182 [some (.ref 170), some (.int x), some (.int (zn (t (s + 1) - 48))), some (.int (Int32.ofInt 0))] [.int ((Int8.ofInt (-2)).toInt32)] ph1543
          refine w_zlt (ykc_254 (e := (4, .ifCond .lt 7, 189)) rfl) rfl (fun b1545 => ?_) (fun q => by exfalso; omega)
          refine w_alu (pc' := 190) (st' := [.int (Int32.ofInt 0)]) (ykc_254 (e := (0, .iconst 0, 0)) rfl) rfl rfl ?_
          refine w_ret (v := (some (.int (Int32.ofInt 0)))) (ykc_254 (e := (7, .ireturn, 0)) rfl) zr_z ?_
          rw [hQ, zi0]
          have hv2 := zNr_u u9 hv
          rw [znu_id hsm] at hv2
          refine ⟨zFr_st u9 (Or.inl (by simp)), Or.inr ⟨?_, rfl, hv2⟩⟩
          rw [hs]
          unfold zAct
          rw [if_neg (show ¬ t s = 110 by omega)]
          rw [if_neg (show ¬ t s = 102 by omega)]
          rw [if_neg (show ¬ t s = 103 by omega)]
          rw [if_neg (show ¬ t s = 98 by omega)]
          rw [if_neg (fun q => q.2.2.2 hsm)]
        · have ep : p = t (s + 1) - 48 := zn_inj hp9.symm (by omega) (by omega)
          have ef : f = E.2.1 * (t (s + 2) - 48) + (t (s + 3) - 48) := zn_inj hf9.symm (by have := zRC49 hR7.2.1 hR7.2.2.2; omega) (by omega)
          subst ep ef
          have tv := znt (k := v (32 + (t (s + 1) - 48))) (by have := hO.2.1 _ hpP; have := zRC49 hR7.2.1 hR7.2.2.2; omega)
          show zW n D 254 Q 182 [some (.ref 170), some (.int x), some (.int (zn (t (s + 1) - 48))), some (.int (Int32.ofInt 0))] [.int (zn (v (32 + (t (s + 1) - 48))))] ph1543
          refine w_zlt (ykc_254 (e := (4, .ifCond .lt 7, 189)) rfl) rfl (fun q => by exfalso; omega) (fun b1546 => ?_)
          refine w_alu (pc' := 186) (st' := [.int (Int32.ofInt 1)]) (ykc_254 (e := (0, .iconst 1, 0)) rfl) rfl rfl ?_
          refine w_br (pc' := 190) (st' := [.int (Int32.ofInt 1)]) (ykc_254 (e := (4, .goto 4, 190)) rfl) rfl ?_
          refine w_ret (v := (some (.int (Int32.ofInt 1)))) (ykc_254 (e := (7, .ireturn, 0)) rfl) zr_z ?_
          rw [hQ, zi1]
          refine ⟨zFr_st u9 (Or.inl (by simp)), Or.inl ⟨_, ?_, rfl, zNr_u u9 hv⟩⟩
          rw [hs]
          unfold zAct
          rw [if_neg (show ¬ t s = 110 by omega)]
          rw [if_neg (show ¬ t s = 102 by omega)]
          rw [if_neg (show ¬ t s = 103 by omega)]
          rw [if_neg (show ¬ t s = 98 by omega)]
          rw [if_pos ⟨by omega, by omega, by omega, hne⟩]
        
    · refine w_load (pc' := 137) (v := .ref 170) (m := 1) (ykc_254 (e := (2, .aload_n kF0, 0)) rfl) rfl rfl ?_
      refine w_gf (pc' := 140) (v := .ref 188) (ykc_254 (e := (5, .getfield 83, 0)) rfl) rfl (zsg hS zs_170_33) rfl ?_
      refine w_load (pc' := 141) (v := .int x) (m := 1) (ykc_254 (e := (2, .iload_n kF1, 0)) rfl) rfl rfl ?_
      refine w_ialk (pc' := 142) (k := i) (ykc_254 (e := (5, .iaload, 0)) rfl) d4 (by omega) rfl ?_
      refine w_load (pc' := 143) (v := .ref 170) (m := 1) (ykc_254 (e := (2, .aload_n kF0, 0)) rfl) rfl rfl ?_
      refine w_gf (pc' := 146) (v := .int (zn E.2.1)) (ykc_254 (e := (5, .getfield 27, 0)) rfl) rfl hL0.2.1 rfl ?_
      refine w_ige (ykc_254 (e := (4, .if_icmp .ge 7, 153)) rfl) rfl (fun b1547 => ?_) (fun b1547 => ?_)
      · refine w_alu (pc' := 154) (st' := [.int (Int32.ofInt 0)]) (ykc_254 (e := (0, .iconst 0, 0)) rfl) rfl rfl ?_
        refine w_store (pc' := 155) (L' := [some (.ref 170), some (.int x), some (.int (zn (t (s + 1) - 48))), some (.int (Int32.ofInt 0))]) (st' := []) (m := 1) (ykc_254 (e := (3, .istore_n kF3, 0)) rfl) rfl rfl ?_
        refine w_load (pc' := 156) (v := .int (Int32.ofInt 0)) (m := 1) (ykc_254 (e := (2, .iload_n kF3, 0)) rfl) rfl rfl ?_
        refine w_zeq (ykc_254 (e := (4, .ifCond .eq 33, 189)) rfl) rfl (fun b1548 => ?_) (fun b1548 => ?_)
        · refine w_alu (pc' := 190) (st' := [.int (Int32.ofInt 0)]) (ykc_254 (e := (0, .iconst 0, 0)) rfl) rfl rfl ?_
          refine w_ret (v := (some (.int (Int32.ofInt 0)))) (ykc_254 (e := (7, .ireturn, 0)) rfl) zr_z ?_
          rw [hQ, zi0]
          refine ⟨zFr_refl, Or.inr ⟨?_, rfl, hv⟩⟩
          rw [hs]
          unfold zAct
          rw [if_neg (show ¬ t s = 110 by omega)]
          rw [if_neg (show ¬ t s = 102 by omega)]
          rw [if_neg (show ¬ t s = 103 by omega)]
          rw [if_neg (show ¬ t s = 98 by omega)]
          rw [if_neg (by omega)]
        · refine w_load (pc' := 160) (v := .ref 170) (m := 1) (ykc_254 (e := (2, .aload_n kF0, 0)) rfl) rfl rfl ?_
          refine w_load (pc' := 161) (v := .int (zn (t (s + 1) - 48))) (m := 1) (ykc_254 (e := (2, .iload_n kF2, 0)) rfl) rfl rfl ?_
          refine w_load (pc' := 162) (v := .ref 170) (m := 1) (ykc_254 (e := (2, .aload_n kF0, 0)) rfl) rfl rfl ?_
          refine w_gf (pc' := 165) (v := .int (zn E.2.1)) (ykc_254 (e := (5, .getfield 27, 0)) rfl) rfl hL0.2.1 rfl ?_
          refine w_load (pc' := 166) (v := .ref 170) (m := 1) (ykc_254 (e := (2, .aload_n kF0, 0)) rfl) rfl rfl ?_
          refine w_gf (pc' := 169) (v := .ref 187) (ykc_254 (e := (5, .getfield 80, 0)) rfl) rfl (zsg hS zs_170_32) rfl ?_
          refine w_load (pc' := 170) (v := .int x) (m := 1) (ykc_254 (e := (2, .iload_n kF1, 0)) rfl) rfl rfl ?_
          refine w_ialk (pc' := 171) (k := i) (ykc_254 (e := (5, .iaload, 0)) rfl) d3 (by omega) rfl ?_
          have m1537 : E.2.1 * (t (s + 2) - 48) ≤ 7 * 9 := Nat.mul_le_mul (by omega) (by omega)
          have e1549 : (zn E.2.1) * (zn (t (s + 2) - 48)) = zn (E.2.1 * (t (s + 2) - 48)) := zn_of (zmulN (by omega) (by omega) (by omega) (by omega))
          have te1549 := znt (k := E.2.1 * (t (s + 2) - 48)) (by omega)
          refine w_alu (pc' := 172) (st' := [.int (zn (E.2.1 * (t (s + 2) - 48))), .int (zn (t (s + 1) - 48)), .ref 170]) (ykc_254 (e := (0, .imul, 0)) rfl) (by rw [← e1549]; rfl) rfl ?_
          refine w_load (pc' := 173) (v := .ref 170) (m := 1) (ykc_254 (e := (2, .aload_n kF0, 0)) rfl) rfl rfl ?_
          refine w_gf (pc' := 176) (v := .ref 188) (ykc_254 (e := (5, .getfield 83, 0)) rfl) rfl (zsg hS zs_170_33) rfl ?_
          refine w_load (pc' := 177) (v := .int x) (m := 1) (ykc_254 (e := (2, .iload_n kF1, 0)) rfl) rfl rfl ?_
          refine w_ialk (pc' := 178) (k := i) (ykc_254 (e := (5, .iaload, 0)) rfl) d4 (by omega) rfl ?_
          have e1550 : (zn (E.2.1 * (t (s + 2) - 48))) + (zn (t (s + 3) - 48)) = zn (E.2.1 * (t (s + 2) - 48) + (t (s + 3) - 48)) := (zaddN (a := E.2.1 * (t (s + 2) - 48)) (b := t (s + 3) - 48) (znt (by omega)) (znt (by omega)) (by omega)) 
          have te1550 := znt (k := E.2.1 * (t (s + 2) - 48) + (t (s + 3) - 48)) (by omega)
          refine w_alu (pc' := 179) (st' := [.int (zn (E.2.1 * (t (s + 2) - 48) + (t (s + 3) - 48))), .int (zn (t (s + 1) - 48)), .ref 170]) (ykc_254 (e := (0, .iadd, 0)) rfl) (by rw [← e1550]; rfl) rfl ?_
          refine w_cv (as := [.ref 170, .int (zn (t (s + 1) - 48)), .int (zn (E.2.1 * (t (s + 2) - 48) + (t (s + 3) - 48)))]) (r := []) (ykc_254 (e := (6, .invokevirtual 389, 0)) rfl) rfl rfl rfl rfl (zm_puts1 hS hE.1 hN hv hO) (fun v1551 ph1552 hv => ?_)
          rcases hv with ⟨hbad, rfl, rfl⟩ | ⟨p, f, hp9, hf9, hpP, hfR, u9, ⟨hsm, rfl⟩ | ⟨hne, rfl⟩⟩
          · have tm1 : (Int32.ofInt (-1)).toInt = -1 := by decide
            have hmm : E.2.1 * (t (s + 2) - 48) + (t (s + 3) - 48) < E.1 * E.2.1 := by
              have := Nat.mul_le_mul_left E.2.1 (show t (s + 2) - 48 + 1 ≤ E.1 by omega)
              rw [Nat.mul_add, Nat.mul_one, Nat.mul_comm E.2.1 E.1] at this
              omega
            show zW n D 254 Q 182 [some (.ref 170), some (.int x), some (.int (zn (t (s + 1) - 48))), some (.int (Int32.ofInt 0))] [.int (Int32.ofInt (-1))] ph
            refine w_zlt (ykc_254 (e := (4, .ifCond .lt 7, 189)) rfl) rfl (fun b1553 => ?_) (fun q => by exfalso; omega)
            refine w_alu (pc' := 190) (st' := [.int (Int32.ofInt 0)]) (ykc_254 (e := (0, .iconst 0, 0)) rfl) rfl rfl ?_
            refine w_ret (v := (some (.int (Int32.ofInt 0)))) (ykc_254 (e := (7, .ireturn, 0)) rfl) zr_z ?_
            rw [hQ, zi0]
            refine ⟨zFr_refl, Or.inr ⟨?_, rfl, hv⟩⟩
            rw [hs]
            unfold zAct
            rw [if_neg (show ¬ t s = 110 by omega)]
            rw [if_neg (show ¬ t s = 102 by omega)]
            rw [if_neg (show ¬ t s = 103 by omega)]
            rw [if_neg (show ¬ t s = 98 by omega)]
            rw [if_neg (fun q => by have q3 := q.2.2.1; omega)]
          · have ep : p = t (s + 1) - 48 := zn_inj hp9.symm (by omega) (by omega)
            have ef : f = E.2.1 * (t (s + 2) - 48) + (t (s + 3) - 48) := zn_inj hf9.symm (by have := zRC49 hR7.2.1 hR7.2.2.2; omega) (by omega)
            subst ep ef
            have tm2 : ((Int8.ofInt (-2)).toInt32).toInt = -2 := by decide
            show zW n D 254 Q 182 [some (.ref 170), some (.int x), some (.int (zn (t (s + 1) - 48))), some (.int (Int32.ofInt 0))] [.int ((Int8.ofInt (-2)).toInt32)] ph1552
            refine w_zlt (ykc_254 (e := (4, .ifCond .lt 7, 189)) rfl) rfl (fun b1554 => ?_) (fun q => by exfalso; omega)
            refine w_alu (pc' := 190) (st' := [.int (Int32.ofInt 0)]) (ykc_254 (e := (0, .iconst 0, 0)) rfl) rfl rfl ?_
            refine w_ret (v := (some (.int (Int32.ofInt 0)))) (ykc_254 (e := (7, .ireturn, 0)) rfl) zr_z ?_
            rw [hQ, zi0]
            have hv2 := zNr_u u9 hv
            rw [znu_id hsm] at hv2
            refine ⟨zFr_st u9 (Or.inl (by simp)), Or.inr ⟨?_, rfl, hv2⟩⟩
            rw [hs]
            unfold zAct
            rw [if_neg (show ¬ t s = 110 by omega)]
            rw [if_neg (show ¬ t s = 102 by omega)]
            rw [if_neg (show ¬ t s = 103 by omega)]
            rw [if_neg (show ¬ t s = 98 by omega)]
            rw [if_neg (fun q => q.2.2.2 hsm)]
          · have ep : p = t (s + 1) - 48 := zn_inj hp9.symm (by omega) (by omega)
            have ef : f = E.2.1 * (t (s + 2) - 48) + (t (s + 3) - 48) := zn_inj hf9.symm (by have := zRC49 hR7.2.1 hR7.2.2.2; omega) (by omega)
            subst ep ef
            have tv := znt (k := v (32 + (t (s + 1) - 48))) (by have := hO.2.1 _ hpP; have := zRC49 hR7.2.1 hR7.2.2.2; omega)
            show zW n D 254 Q 182 [some (.ref 170), some (.int x), some (.int (zn (t (s + 1) - 48))), some (.int (Int32.ofInt 0))] [.int (zn (v (32 + (t (s + 1) - 48))))] ph1552
            refine w_zlt (ykc_254 (e := (4, .ifCond .lt 7, 189)) rfl) rfl (fun q => by exfalso; omega) (fun b1555 => ?_)
            refine w_alu (pc' := 186) (st' := [.int (Int32.ofInt 1)]) (ykc_254 (e := (0, .iconst 1, 0)) rfl) rfl rfl ?_
            refine w_br (pc' := 190) (st' := [.int (Int32.ofInt 1)]) (ykc_254 (e := (4, .goto 4, 190)) rfl) rfl ?_
            refine w_ret (v := (some (.int (Int32.ofInt 1)))) (ykc_254 (e := (7, .ireturn, 0)) rfl) zr_z ?_
            rw [hQ, zi1]
            refine ⟨zFr_st u9 (Or.inl (by simp)), Or.inl ⟨_, ?_, rfl, zNr_u u9 hv⟩⟩
            rw [hs]
            unfold zAct
            rw [if_neg (show ¬ t s = 110 by omega)]
            rw [if_neg (show ¬ t s = 102 by omega)]
            rw [if_neg (show ¬ t s = 103 by omega)]
            rw [if_neg (show ¬ t s = 98 by omega)]
            rw [if_pos ⟨by omega, by omega, by omega, hne⟩]
          
      · refine w_alu (pc' := 150) (st' := [.int (Int32.ofInt 1)]) (ykc_254 (e := (0, .iconst 1, 0)) rfl) rfl rfl ?_
        refine w_br (pc' := 154) (st' := [.int (Int32.ofInt 1)]) (ykc_254 (e := (4, .goto 4, 154)) rfl) rfl ?_
        refine w_store (pc' := 155) (L' := [some (.ref 170), some (.int x), some (.int (zn (t (s + 1) - 48))), some (.int (Int32.ofInt 1))]) (st' := []) (m := 1) (ykc_254 (e := (3, .istore_n kF3, 0)) rfl) rfl rfl ?_
        refine w_load (pc' := 156) (v := .int (Int32.ofInt 1)) (m := 1) (ykc_254 (e := (2, .iload_n kF3, 0)) rfl) rfl rfl ?_
        refine w_zeq (ykc_254 (e := (4, .ifCond .eq 33, 189)) rfl) rfl (fun b1556 => ?_) (fun b1556 => ?_)
        · refine w_alu (pc' := 190) (st' := [.int (Int32.ofInt 0)]) (ykc_254 (e := (0, .iconst 0, 0)) rfl) rfl rfl ?_
          refine w_ret (v := (some (.int (Int32.ofInt 0)))) (ykc_254 (e := (7, .ireturn, 0)) rfl) zr_z ?_
          rw [hQ, zi0]
          refine ⟨zFr_refl, Or.inr ⟨?_, rfl, hv⟩⟩
          rw [hs]
          unfold zAct
          rw [if_neg (show ¬ t s = 110 by omega)]
          rw [if_neg (show ¬ t s = 102 by omega)]
          rw [if_neg (show ¬ t s = 103 by omega)]
          rw [if_neg (show ¬ t s = 98 by omega)]
          rw [if_neg (by omega)]
        · refine w_load (pc' := 160) (v := .ref 170) (m := 1) (ykc_254 (e := (2, .aload_n kF0, 0)) rfl) rfl rfl ?_
          refine w_load (pc' := 161) (v := .int (zn (t (s + 1) - 48))) (m := 1) (ykc_254 (e := (2, .iload_n kF2, 0)) rfl) rfl rfl ?_
          refine w_load (pc' := 162) (v := .ref 170) (m := 1) (ykc_254 (e := (2, .aload_n kF0, 0)) rfl) rfl rfl ?_
          refine w_gf (pc' := 165) (v := .int (zn E.2.1)) (ykc_254 (e := (5, .getfield 27, 0)) rfl) rfl hL0.2.1 rfl ?_
          refine w_load (pc' := 166) (v := .ref 170) (m := 1) (ykc_254 (e := (2, .aload_n kF0, 0)) rfl) rfl rfl ?_
          refine w_gf (pc' := 169) (v := .ref 187) (ykc_254 (e := (5, .getfield 80, 0)) rfl) rfl (zsg hS zs_170_32) rfl ?_
          refine w_load (pc' := 170) (v := .int x) (m := 1) (ykc_254 (e := (2, .iload_n kF1, 0)) rfl) rfl rfl ?_
          refine w_ialk (pc' := 171) (k := i) (ykc_254 (e := (5, .iaload, 0)) rfl) d3 (by omega) rfl ?_
          have m1537 : E.2.1 * (t (s + 2) - 48) ≤ 7 * 9 := Nat.mul_le_mul (by omega) (by omega)
          have e1557 : (zn E.2.1) * (zn (t (s + 2) - 48)) = zn (E.2.1 * (t (s + 2) - 48)) := zn_of (zmulN (by omega) (by omega) (by omega) (by omega))
          have te1557 := znt (k := E.2.1 * (t (s + 2) - 48)) (by omega)
          refine w_alu (pc' := 172) (st' := [.int (zn (E.2.1 * (t (s + 2) - 48))), .int (zn (t (s + 1) - 48)), .ref 170]) (ykc_254 (e := (0, .imul, 0)) rfl) (by rw [← e1557]; rfl) rfl ?_
          refine w_load (pc' := 173) (v := .ref 170) (m := 1) (ykc_254 (e := (2, .aload_n kF0, 0)) rfl) rfl rfl ?_
          refine w_gf (pc' := 176) (v := .ref 188) (ykc_254 (e := (5, .getfield 83, 0)) rfl) rfl (zsg hS zs_170_33) rfl ?_
          refine w_load (pc' := 177) (v := .int x) (m := 1) (ykc_254 (e := (2, .iload_n kF1, 0)) rfl) rfl rfl ?_
          refine w_ialk (pc' := 178) (k := i) (ykc_254 (e := (5, .iaload, 0)) rfl) d4 (by omega) rfl ?_
          have e1558 : (zn (E.2.1 * (t (s + 2) - 48))) + (zn (t (s + 3) - 48)) = zn (E.2.1 * (t (s + 2) - 48) + (t (s + 3) - 48)) := (zaddN (a := E.2.1 * (t (s + 2) - 48)) (b := t (s + 3) - 48) (znt (by omega)) (znt (by omega)) (by omega)) 
          have te1558 := znt (k := E.2.1 * (t (s + 2) - 48) + (t (s + 3) - 48)) (by omega)
          refine w_alu (pc' := 179) (st' := [.int (zn (E.2.1 * (t (s + 2) - 48) + (t (s + 3) - 48))), .int (zn (t (s + 1) - 48)), .ref 170]) (ykc_254 (e := (0, .iadd, 0)) rfl) (by rw [← e1558]; rfl) rfl ?_
          refine w_cv (as := [.ref 170, .int (zn (t (s + 1) - 48)), .int (zn (E.2.1 * (t (s + 2) - 48) + (t (s + 3) - 48)))]) (r := []) (ykc_254 (e := (6, .invokevirtual 389, 0)) rfl) rfl rfl rfl rfl (zm_puts1 hS hE.1 hN hv hO) (fun v1559 ph1560 hv => ?_)
          rcases hv with ⟨hbad, rfl, rfl⟩ | ⟨p, f, hp9, hf9, hpP, hfR, u9, ⟨hsm, rfl⟩ | ⟨hne, rfl⟩⟩
          · have tm1 : (Int32.ofInt (-1)).toInt = -1 := by decide
            have hmm : E.2.1 * (t (s + 2) - 48) + (t (s + 3) - 48) < E.1 * E.2.1 := by
              have := Nat.mul_le_mul_left E.2.1 (show t (s + 2) - 48 + 1 ≤ E.1 by omega)
              rw [Nat.mul_add, Nat.mul_one, Nat.mul_comm E.2.1 E.1] at this
              omega
            show zW n D 254 Q 182 [some (.ref 170), some (.int x), some (.int (zn (t (s + 1) - 48))), some (.int (Int32.ofInt 1))] [.int (Int32.ofInt (-1))] ph
            refine w_zlt (ykc_254 (e := (4, .ifCond .lt 7, 189)) rfl) rfl (fun b1561 => ?_) (fun q => by exfalso; omega)
            refine w_alu (pc' := 190) (st' := [.int (Int32.ofInt 0)]) (ykc_254 (e := (0, .iconst 0, 0)) rfl) rfl rfl ?_
            refine w_ret (v := (some (.int (Int32.ofInt 0)))) (ykc_254 (e := (7, .ireturn, 0)) rfl) zr_z ?_
            rw [hQ, zi0]
            refine ⟨zFr_refl, Or.inr ⟨?_, rfl, hv⟩⟩
            rw [hs]
            unfold zAct
            rw [if_neg (show ¬ t s = 110 by omega)]
            rw [if_neg (show ¬ t s = 102 by omega)]
            rw [if_neg (show ¬ t s = 103 by omega)]
            rw [if_neg (show ¬ t s = 98 by omega)]
            rw [if_neg (fun q => by have q3 := q.2.2.1; omega)]
          · have ep : p = t (s + 1) - 48 := zn_inj hp9.symm (by omega) (by omega)
            have ef : f = E.2.1 * (t (s + 2) - 48) + (t (s + 3) - 48) := zn_inj hf9.symm (by have := zRC49 hR7.2.1 hR7.2.2.2; omega) (by omega)
            subst ep ef
            have tm2 : ((Int8.ofInt (-2)).toInt32).toInt = -2 := by decide
            show zW n D 254 Q 182 [some (.ref 170), some (.int x), some (.int (zn (t (s + 1) - 48))), some (.int (Int32.ofInt 1))] [.int ((Int8.ofInt (-2)).toInt32)] ph1560
            refine w_zlt (ykc_254 (e := (4, .ifCond .lt 7, 189)) rfl) rfl (fun b1562 => ?_) (fun q => by exfalso; omega)
            refine w_alu (pc' := 190) (st' := [.int (Int32.ofInt 0)]) (ykc_254 (e := (0, .iconst 0, 0)) rfl) rfl rfl ?_
            refine w_ret (v := (some (.int (Int32.ofInt 0)))) (ykc_254 (e := (7, .ireturn, 0)) rfl) zr_z ?_
            rw [hQ, zi0]
            have hv2 := zNr_u u9 hv
            rw [znu_id hsm] at hv2
            refine ⟨zFr_st u9 (Or.inl (by simp)), Or.inr ⟨?_, rfl, hv2⟩⟩
            rw [hs]
            unfold zAct
            rw [if_neg (show ¬ t s = 110 by omega)]
            rw [if_neg (show ¬ t s = 102 by omega)]
            rw [if_neg (show ¬ t s = 103 by omega)]
            rw [if_neg (show ¬ t s = 98 by omega)]
            rw [if_neg (fun q => q.2.2.2 hsm)]
          · have ep : p = t (s + 1) - 48 := zn_inj hp9.symm (by omega) (by omega)
            have ef : f = E.2.1 * (t (s + 2) - 48) + (t (s + 3) - 48) := zn_inj hf9.symm (by have := zRC49 hR7.2.1 hR7.2.2.2; omega) (by omega)
            subst ep ef
            have tv := znt (k := v (32 + (t (s + 1) - 48))) (by have := hO.2.1 _ hpP; have := zRC49 hR7.2.1 hR7.2.2.2; omega)
            show zW n D 254 Q 182 [some (.ref 170), some (.int x), some (.int (zn (t (s + 1) - 48))), some (.int (Int32.ofInt 1))] [.int (zn (v (32 + (t (s + 1) - 48))))] ph1560
            refine w_zlt (ykc_254 (e := (4, .ifCond .lt 7, 189)) rfl) rfl (fun q => by exfalso; omega) (fun b1563 => ?_)
            refine w_alu (pc' := 186) (st' := [.int (Int32.ofInt 1)]) (ykc_254 (e := (0, .iconst 1, 0)) rfl) rfl rfl ?_
            refine w_br (pc' := 190) (st' := [.int (Int32.ofInt 1)]) (ykc_254 (e := (4, .goto 4, 190)) rfl) rfl ?_
            refine w_ret (v := (some (.int (Int32.ofInt 1)))) (ykc_254 (e := (7, .ireturn, 0)) rfl) zr_z ?_
            rw [hQ, zi1]
            refine ⟨zFr_st u9 (Or.inl (by simp)), Or.inl ⟨_, ?_, rfl, zNr_u u9 hv⟩⟩
            rw [hs]
            unfold zAct
            rw [if_neg (show ¬ t s = 110 by omega)]
            rw [if_neg (show ¬ t s = 102 by omega)]
            rw [if_neg (show ¬ t s = 103 by omega)]
            rw [if_neg (show ¬ t s = 98 by omega)]
            rw [if_pos ⟨by omega, by omega, by omega, hne⟩]
          
  
theorem zc_plDig {ph : pm_H} {k i j : Nat} {x z : Int32} (hS : zSh ph) (hx : x.toInt = (i : Int)) (hz : z.toInt = (j : Int)) (hk : zc ph 157 2 = some (.int (zn k))) (h30 : k ≤ 30) (hi : i < k) (hj : j < 3) : zM 64 [.ref 157, .int x, .int z] ph (fun v0 q => ph = q ∧ ∃ y : Int32, v0 = some (.int y) ∧ zc ph 159 (3 * i + j) = some (.int y)) := by
  obtain ⟨Q, hQ⟩ : ∃ Q : Option Value → pm_H → Prop, Q = (fun v0 q => ph = q ∧ ∃ y : Int32, v0 = some (.int y) ∧ zc ph 159 (3 * i + j) = some (.int y)) := ⟨_, rfl⟩
  rw [← hQ]
  refine zM_mk fun n D => ?_
  show zW n D 64 Q 0 [some (.ref 157), some (.int x), some (.int z), none] [] ph
  have c_0 : ((Int8.ofInt 30).toInt32).toInt = 30 := by decide
  have c_1 : (Int32.ofInt (-1)).toInt = -1 := by decide
  have c_2 : (Int32.ofInt 0).toInt = 0 := by decide
  have c_3 : (Int32.ofInt 1).toInt = 1 := by decide
  have c_4 : (Int32.ofInt 3).toInt = 3 := by decide
  have tk := znt (k := k) (by omega)
  refine w_load (pc' := 1) (v := .int x) (m := 1) (ykc_64 (e := (2, .iload_n kF1, 0)) rfl) rfl rfl ?_
  refine w_zlt (ykc_64 (e := (4, .ifCond .lt 30, 31)) rfl) rfl (fun q => by exfalso; omega) (fun b1564 => ?_)
  refine w_load (pc' := 5) (v := .int x) (m := 1) (ykc_64 (e := (2, .iload_n kF1, 0)) rfl) rfl rfl ?_
  refine w_load (pc' := 6) (v := .ref 157) (m := 1) (ykc_64 (e := (2, .aload_n kF0, 0)) rfl) rfl rfl ?_
  refine w_gf (pc' := 9) (v := .int (zn k)) (ykc_64 (e := (5, .getfield 18, 0)) rfl) rfl hk rfl ?_
  refine w_ige (ykc_64 (e := (4, .if_icmp .ge 22, 31)) rfl) rfl (fun q => by exfalso; omega) (fun b1565 => ?_)
  refine w_load (pc' := 13) (v := .int x) (m := 1) (ykc_64 (e := (2, .iload_n kF1, 0)) rfl) rfl rfl ?_
  refine w_push (pc' := 15) (v := .int ((Int8.ofInt 30).toInt32)) (m := 2) (ykc_64 (e := (1, .bipush 30, 0)) rfl) rfl rfl ?_
  refine w_ige (ykc_64 (e := (4, .if_icmp .ge 16, 31)) rfl) rfl (fun q => by exfalso; omega) (fun b1566 => ?_)
  refine w_load (pc' := 19) (v := .int z) (m := 1) (ykc_64 (e := (2, .iload_n kF2, 0)) rfl) rfl rfl ?_
  refine w_zlt (ykc_64 (e := (4, .ifCond .lt 12, 31)) rfl) rfl (fun q => by exfalso; omega) (fun b1567 => ?_)
  refine w_load (pc' := 23) (v := .int z) (m := 1) (ykc_64 (e := (2, .iload_n kF2, 0)) rfl) rfl rfl ?_
  refine w_alu (pc' := 24) (st' := [.int (Int32.ofInt 3), .int z]) (ykc_64 (e := (0, .iconst 3, 0)) rfl) rfl rfl ?_
  refine w_ige (ykc_64 (e := (4, .if_icmp .ge 7, 31)) rfl) rfl (fun q => by exfalso; omega) (fun b1568 => ?_)
  refine w_alu (pc' := 28) (st' := [.int (Int32.ofInt 1)]) (ykc_64 (e := (0, .iconst 1, 0)) rfl) rfl rfl ?_
  refine w_br (pc' := 32) (st' := [.int (Int32.ofInt 1)]) (ykc_64 (e := (4, .goto 4, 32)) rfl) rfl ?_
  refine w_store (pc' := 33) (L' := [some (.ref 157), some (.int x), some (.int z), some (.int (Int32.ofInt 1))]) (st' := []) (m := 1) (ykc_64 (e := (3, .istore_n kF3, 0)) rfl) rfl rfl ?_
  refine w_load (pc' := 34) (v := .int (Int32.ofInt 1)) (m := 1) (ykc_64 (e := (2, .iload_n kF3, 0)) rfl) rfl rfl ?_
  refine w_zeq (ykc_64 (e := (4, .ifCond .eq 16, 50)) rfl) rfl (fun q => absurd q (by decide)) (fun b1569 => ?_)
  refine w_load (pc' := 38) (v := .ref 157) (m := 1) (ykc_64 (e := (2, .aload_n kF0, 0)) rfl) rfl rfl ?_
  refine w_gf (pc' := 41) (v := .ref 159) (ykc_64 (e := (5, .getfield 15, 0)) rfl) rfl (zsg hS zs_157_1) rfl ?_
  refine w_load (pc' := 42) (v := .int x) (m := 1) (ykc_64 (e := (2, .iload_n kF1, 0)) rfl) rfl rfl ?_
  refine w_alu (pc' := 43) (st' := [.int (Int32.ofInt 3), .int x, .ref 159]) (ykc_64 (e := (0, .iconst 3, 0)) rfl) rfl rfl ?_
  have e1570 : x * (Int32.ofInt 3) = zn (3 * i) := zn_of ((zmulN (a := i) (b := 3) (by omega) (by decide) (by omega) (by decide)).trans (by omega))
  have te1570 := znt (k := 3 * i) (by omega)
  refine w_alu (pc' := 44) (st' := [.int (zn (3 * i)), .ref 159]) (ykc_64 (e := (0, .imul, 0)) rfl) (by rw [← e1570]; rfl) rfl ?_
  refine w_load (pc' := 45) (v := .int z) (m := 1) (ykc_64 (e := (2, .iload_n kF2, 0)) rfl) rfl rfl ?_
  have e1571 : (zn (3 * i)) + z = zn (3 * i + j) := zn_of (by have h8 := ti_add (x := (zn (3 * i))) (y := z) (by omega) (by omega); omega)
  have te1571 := znt (k := 3 * i + j) (by omega)
  refine w_alu (pc' := 46) (st' := [.int (zn (3 * i + j)), .ref 159]) (ykc_64 (e := (0, .iadd, 0)) rfl) (by rw [← e1571]; rfl) rfl ?_
  refine w_ial (pc' := 47) (k := 3 * i + j) (ykc_64 (e := (5, .iaload, 0)) rfl) rfl (by omega) rfl (fun y9 g_y9 => ?_)
  refine w_br (pc' := 51) (st' := [.int y9]) (ykc_64 (e := (4, .goto 4, 51)) rfl) rfl ?_
  refine w_ret (v := (some (.int y9))) (ykc_64 (e := (7, .ireturn, 0)) rfl) (zr_v rfl) ?_
  rw [hQ]
  exact ⟨rfl, y9, rfl, g_y9⟩
theorem zc_act {ph : pm_H} {E : zEn} {F P G b k i : Nat} {v t : Nat → Nat} {x : Int32} (hS : zSh ph) (hE : zCe ph E F) (ht : zCt ph 25 P G v) (hO : zOk E.1 E.2.1 P G v) (hr : zc ph 10 1 = some (.ref F)) (hc : zCc ph E.1 E.2.1 E.2.2.1) (hh : v 40 < 999000) (hk : zc ph 157 2 = some (.int (zn k))) (h30 : k ≤ 30) (hD : zDd ph t k 3) (hg : zDok b t k) (hx : x.toInt = (i : Int)) (hi : i < k) : zM 141 [.ref 0, .int x] ph (fun v0 q => zFr [8, 9, 15, 20, 22, 23, 24, 26, 27, 28, 29, 30] [(5, 4), (25, 2)] ph q ∧ ∃ y : Int32, v0 = some (.int y) ∧ ((∃ v2, zAct E P G v t (zDp t i) = some v2 ∧ 0 ≤ y.toInt ∧ zCt q 25 P G v2 ∧ zCc q E.1 E.2.1 E.2.2.1) ∨ (zAct E P G v t (zDp t i) = none ∧ y.toInt < 0 ∧ zCt q 25 P G v ∧ zCc q E.1 E.2.1 E.2.2.1))) := by
  obtain ⟨Q, hQ⟩ : ∃ Q : Option Value → pm_H → Prop, Q = (fun v0 q => zFr [8, 9, 15, 20, 22, 23, 24, 26, 27, 28, 29, 30] [(5, 4), (25, 2)] ph q ∧ ∃ y : Int32, v0 = some (.int y) ∧ ((∃ v2, zAct E P G v t (zDp t i) = some v2 ∧ 0 ≤ y.toInt ∧ zCt q 25 P G v2 ∧ zCc q E.1 E.2.1 E.2.2.1) ∨ (zAct E P G v t (zDp t i) = none ∧ y.toInt < 0 ∧ zCt q 25 P G v ∧ zCc q E.1 E.2.1 E.2.2.1))) := ⟨_, rfl⟩
  rw [← hQ]
  refine zM_mk fun n D => ?_
  show zW n D 141 Q 0 [some (.ref 0), some (.int x), none, none] [] ph
  have c_0 : (Int32.ofInt (-1)).toInt = -1 := by decide
  have c_1 : (Int32.ofInt 0).toInt = 0 := by decide
  have c_2 : (Int32.ofInt 1).toInt = 1 := by decide
  have c_3 : (Int32.ofInt 2).toInt = 2 := by decide
  have hx9 := x32_hi x
  have hL0 : zCl ph E.1 E.2.1 E.2.2.1 := hE.1
  have hd0 : zSd ph 25 P G v := ht.2
  obtain ⟨g1, g2, g3⟩ := hg i hi
  have dk := hD.1 i hi
  have dd := hD.2 i
  obtain ⟨s, hs⟩ : ∃ s, zDp t i = s := ⟨_, rfl⟩
  rw [hs] at dk dd g1 g2 g3
  have hP8 : P ≤ 8 := hd0.2.1
  have hG8 : G ≤ 8 := hd0.2.2.2.1
  have hR7 : 3 ≤ E.1 ∧ E.1 ≤ 7 ∧ 3 ≤ E.2.1 ∧ E.2.1 ≤ 7 := ⟨hL0.2.2.2.2.2.1, hL0.2.2.2.2.2.2.1, hL0.2.2.2.2.2.2.2.1, hL0.2.2.2.2.2.2.2.2⟩
  have q1 := zdi_d (g3 0 (by omega))
  rw [Nat.add_zero] at q1
  have dd0 := dd 0 hi (by omega) (Or.inr (by decide))
  have tq1 := znt (k := t (s + 1) - 48) (by omega)
  refine w_load (pc' := 1) (v := .ref 0) (m := 1) (ykc_141 (e := (2, .aload_n kF0, 0)) rfl) rfl rfl ?_
  refine w_gf (pc' := 4) (v := .ref 157) (ykc_141 (e := (5, .getfield 69, 0)) rfl) rfl (zsg hS zs_0_9) rfl ?_
  refine w_load (pc' := 5) (v := .int x) (m := 1) (ykc_141 (e := (2, .iload_n kF1, 0)) rfl) rfl rfl ?_
  refine w_alu (pc' := 6) (st' := [.int (Int32.ofInt 0), .int x, .ref 157]) (ykc_141 (e := (0, .iconst 0, 0)) rfl) rfl rfl ?_
  refine w_cv (as := [.ref 157, .int x, .int (Int32.ofInt 0)]) (r := []) (ykc_141 (e := (6, .invokevirtual 289, 0)) rfl) rfl rfl rfl rfl (zc_plDig (k := k) (i := i) (j := 0) hS hx (by decide) hk h30 hi (by decide)) (fun v1572 ph1573 hv => ?_)
  rcases hv with ⟨rfl, y0, rfl, hy0⟩
  · have ey0 : y0 = zn (t (s + 1) - 48) := by
      have := hy0.symm.trans dd0
      cases this
      rfl
    subst ey0
    show zW n D 141 Q 9 [some (.ref 0), some (.int x), none, none] [.int (zn (t (s + 1) - 48))] ph
    refine w_store (pc' := 10) (L' := [some (.ref 0), some (.int x), some (.int (zn (t (s + 1) - 48))), none]) (st' := []) (m := 1) (ykc_141 (e := (3, .istore_n kF2, 0)) rfl) rfl rfl ?_
    refine w_load (pc' := 11) (v := .ref 0) (m := 1) (ykc_141 (e := (2, .aload_n kF0, 0)) rfl) rfl rfl ?_
    refine w_gf (pc' := 14) (v := .ref 157) (ykc_141 (e := (5, .getfield 69, 0)) rfl) rfl (zsg hS zs_0_9) rfl ?_
    refine w_load (pc' := 15) (v := .int x) (m := 1) (ykc_141 (e := (2, .iload_n kF1, 0)) rfl) rfl rfl ?_
    refine w_alu (pc' := 16) (st' := [.int (Int32.ofInt 1), .int x, .ref 157]) (ykc_141 (e := (0, .iconst 1, 0)) rfl) rfl rfl ?_
    refine w_cv (as := [.ref 157, .int x, .int (Int32.ofInt 1)]) (r := []) (ykc_141 (e := (6, .invokevirtual 289, 0)) rfl) rfl rfl rfl rfl (zc_plDig (k := k) (i := i) (j := 1) hS hx (by decide) hk h30 hi (by decide)) (fun v1574 ph1575 hv => ?_)
    rcases hv with ⟨rfl, y1, rfl, hy1⟩
    · show zW n D 141 Q 19 [some (.ref 0), some (.int x), some (.int (zn (t (s + 1) - 48))), none] [.int y1] ph
      refine w_store (pc' := 20) (L' := [some (.ref 0), some (.int x), some (.int (zn (t (s + 1) - 48))), some (.int y1)]) (st' := []) (m := 1) (ykc_141 (e := (3, .istore_n kF3, 0)) rfl) rfl rfl ?_
      refine w_load (pc' := 21) (v := .ref 0) (m := 1) (ykc_141 (e := (2, .aload_n kF0, 0)) rfl) rfl rfl ?_
      refine w_gf (pc' := 24) (v := .ref 157) (ykc_141 (e := (5, .getfield 69, 0)) rfl) rfl (zsg hS zs_0_9) rfl ?_
      refine w_load (pc' := 25) (v := .int x) (m := 1) (ykc_141 (e := (2, .iload_n kF1, 0)) rfl) rfl rfl ?_
      refine w_cv (as := [.ref 157, .int x]) (r := []) (ykc_141 (e := (6, .invokevirtual 290, 0)) rfl) rfl rfl rfl rfl (zc_plKind hS hx hk h30 hi dk) (fun v1576 ph1577 hv => ?_)
      rcases hv with ⟨rfl, rfl⟩
      · show zW n D 141 Q 28 [some (.ref 0), some (.int x), some (.int (zn (t (s + 1) - 48))), some (.int y1)] [.int (zn (t s))] ph
        rcases zdw_c g1 with e | e | e | e | e
        · refine w_br (pc' := 104) (st' := []) (ykc_141 (e := (4, .tableswitch 133 98 112 #[103, 133, 133, 133, 89, 96, 133, 133, 133, 133, 133, 133, 76, 133, 110], 76)) rfl) (by rw [e]; rfl) ?_
          refine w_load (pc' := 105) (v := .ref 0) (m := 1) (ykc_141 (e := (2, .aload_n kF0, 0)) rfl) rfl rfl ?_
          refine w_gf (pc' := 108) (v := .ref 10) (ykc_141 (e := (5, .getfield 35, 0)) rfl) rfl (zsg hS zs_0_3) rfl ?_
          refine w_load (pc' := 109) (v := .ref 0) (m := 1) (ykc_141 (e := (2, .aload_n kF0, 0)) rfl) rfl rfl ?_
          refine w_gf (pc' := 112) (v := .ref 25) (ykc_141 (e := (5, .getfield 42, 0)) rfl) rfl (zsg hS zs_0_4) rfl ?_
          refine w_load (pc' := 113) (v := .int (zn (t (s + 1) - 48))) (m := 1) (ykc_141 (e := (2, .iload_n kF2, 0)) rfl) rfl rfl ?_
          refine w_cv (as := [.ref 10, .ref 25, .int (zn (t (s + 1) - 48))]) (r := []) (ykc_141 (e := (6, .invokevirtual 239, 0)) rfl) rfl rfl rfl rfl (zc_pass (N := t (s + 1) - 48) hS hE ht hO (Or.inl rfl) hr hc (by omega)) (fun v1578 ph1579 hv => ?_)
          rcases hv with ⟨f2, ht2, hc2, rfl⟩
          · show zW n D 141 Q 116 [some (.ref 0), some (.int x), some (.int (zn (t (s + 1) - 48))), some (.int y1)] [.int (zKw (zHqn E P G v (t (s + 1) - 48)) P)] ph1579
            refine w_ret (v := (some (.int (zKw (zHqn E P G v (t (s + 1) - 48)) P)))) (ykc_141 (e := (7, .ireturn, 0)) rfl) (zr_v rfl) ?_
            rw [hQ]
            obtain ⟨kk, hk1, hk2⟩ := zKw_b (v := zHqn E P G v (t (s + 1) - 48)) P hP8 (fun p hp => ((zHqn_ok hO hP8 hG8 _ (by omega)).1 p hp).2.2.2)
            refine ⟨zFr_mono f2 (by simp) (by simp), _, rfl, Or.inl ⟨_, ?_, by rw [hk2, znt (by omega)]; omega, ht2, hc2⟩⟩
            rw [hs]
            unfold zAct
            rw [if_pos e]
            
          
        · have q2 : 48 ≤ t (s + 2) ∧ t (s + 2) ≤ 57 := zdi_d (g3 1 (by rw [e]; decide))
          have tq2 := znt (k := t (s + 2) - 48) (by omega)
          have ey1 : y1 = zn (t (s + 2) - 48) := by
            have := hy1.symm.trans (dd 1 hi (by rw [e]; decide) (Or.inr (by decide)))
            cases this
            rfl
          subst ey1
          show zW n D 141 Q 28 [some (.ref 0), some (.int x), some (.int (zn (t (s + 1) - 48))), some (.int (zn (t (s + 2) - 48)))] [.int (zn (t s))] ph
          refine w_br (pc' := 117) (st' := []) (ykc_141 (e := (4, .tableswitch 133 98 112 #[103, 133, 133, 133, 89, 96, 133, 133, 133, 133, 133, 133, 76, 133, 110], 76)) rfl) (by rw [e]; rfl) ?_
          refine w_load (pc' := 118) (v := .ref 0) (m := 1) (ykc_141 (e := (2, .aload_n kF0, 0)) rfl) rfl rfl ?_
          refine w_load (pc' := 119) (v := .int (zn (t (s + 1) - 48))) (m := 1) (ykc_141 (e := (2, .iload_n kF2, 0)) rfl) rfl rfl ?_
          refine w_load (pc' := 120) (v := .int (zn (t (s + 2) - 48))) (m := 1) (ykc_141 (e := (2, .iload_n kF3, 0)) rfl) rfl rfl ?_
          refine w_cv (as := [.ref 0, .int (zn (t (s + 1) - 48)), .int (zn (t (s + 2) - 48))]) (r := []) (ykc_141 (e := (6, .invokevirtual 259, 0)) rfl) rfl rfl rfl rfl (zc_turnTo hS hL0 hd0 hO) (fun v1580 ph1581 hv => ?_)
          rcases hv with ⟨hbad, rfl, rfl⟩ | ⟨p, f, hp9, hf9, hpP, hf8, rfl, u9⟩
          · have tm1 : (Int32.ofInt (-1)).toInt = -1 := by decide
            show zW n D 141 Q 123 [some (.ref 0), some (.int x), some (.int (zn (t (s + 1) - 48))), some (.int (zn (t (s + 2) - 48)))] [.int (Int32.ofInt (-1))] ph
            refine w_ret (v := (some (.int (Int32.ofInt (-1))))) (ykc_141 (e := (7, .ireturn, 0)) rfl) (zr_v rfl) ?_
            rw [hQ]
            refine ⟨zFr_refl, _, rfl, Or.inr ⟨?_, by omega, ht, hc⟩⟩
            rw [hs]
            unfold zAct
            rw [if_neg (show ¬ t s = 110 by omega)]
            rw [if_pos e]
            rw [if_neg (by omega)]
          · have ep : p = t (s + 1) - 48 := zn_inj hp9.symm (by omega) (by omega)
            have ef : f = t (s + 2) - 48 := zn_inj hf9.symm (by omega) (by omega)
            subst ep ef
            have tz8 := znt (k := ze8 (v (8 + (t (s + 1) - 48))) (t (s + 2) - 48)) (by unfold ze8; omega)
            show zW n D 141 Q 123 [some (.ref 0), some (.int x), some (.int (zn (t (s + 1) - 48))), some (.int (zn (t (s + 2) - 48)))] [.int (zn (ze8 (v (8 + (t (s + 1) - 48))) (t (s + 2) - 48)))] ph1581
            refine w_ret (v := (some (.int (zn (ze8 (v (8 + (t (s + 1) - 48))) (t (s + 2) - 48)))))) (ykc_141 (e := (7, .ireturn, 0)) rfl) (zr_v rfl) ?_
            rw [hQ]
            have f9 : zFr [27] [] _ _ := zFr_st u9 (Or.inl (by simp))
            refine ⟨zFr_mono f9 (by simp) (by simp), _, rfl, Or.inl ⟨znu v (8 + (t (s + 1) - 48)) (t (s + 2) - 48), ?_, by omega, ⟨⟨by decide, zSs_F f9 (by simp) (by simp) ht.1.2⟩, zSd_u (S := 25) (a := 2) (by decide) (by omega) u9 hd0⟩, zCc_F f9 (by simp) (by simp) (by simp) hc⟩⟩
            rw [hs]
            unfold zAct
            rw [if_neg (show ¬ t s = 110 by omega)]
            rw [if_pos e]
            rw [if_pos ⟨by omega, by omega⟩]
          
        · have q2 : 48 ≤ t (s + 2) ∧ t (s + 2) ≤ 57 := zdi_d (g3 1 (by rw [e]; decide))
          have tq2 := znt (k := t (s + 2) - 48) (by omega)
          have ey1 : y1 = zn (t (s + 2) - 48) := by
            have := hy1.symm.trans (dd 1 hi (by rw [e]; decide) (Or.inr (by decide)))
            cases this
            rfl
          subst ey1
          show zW n D 141 Q 28 [some (.ref 0), some (.int x), some (.int (zn (t (s + 1) - 48))), some (.int (zn (t (s + 2) - 48)))] [.int (zn (t s))] ph
          refine w_br (pc' := 124) (st' := []) (ykc_141 (e := (4, .tableswitch 133 98 112 #[103, 133, 133, 133, 89, 96, 133, 133, 133, 133, 133, 133, 76, 133, 110], 76)) rfl) (by rw [e]; rfl) ?_
          refine w_load (pc' := 125) (v := .ref 0) (m := 1) (ykc_141 (e := (2, .aload_n kF0, 0)) rfl) rfl rfl ?_
          refine w_load (pc' := 126) (v := .int (zn (t (s + 1) - 48))) (m := 1) (ykc_141 (e := (2, .iload_n kF2, 0)) rfl) rfl rfl ?_
          refine w_load (pc' := 127) (v := .int (zn (t (s + 2) - 48))) (m := 1) (ykc_141 (e := (2, .iload_n kF3, 0)) rfl) rfl rfl ?_
          refine w_cv (as := [.ref 0, .int (zn (t (s + 1) - 48)), .int (zn (t (s + 2) - 48))]) (r := []) (ykc_141 (e := (6, .invokevirtual 262, 0)) rfl) rfl rfl rfl rfl (zc_walk hS hL0 hd0 hO) (fun v1582 ph1583 hv => ?_)
          rcases hv with ⟨hbad, rfl, rfl⟩ | ⟨p, f, hp9, hf9, hpP, hf8, ⟨hrk, rfl, rfl⟩ | ⟨g, hgR, hgk, rfl, u9⟩⟩
          · have tm1 : (Int32.ofInt (-1)).toInt = -1 := by decide
            show zW n D 141 Q 130 [some (.ref 0), some (.int x), some (.int (zn (t (s + 1) - 48))), some (.int (zn (t (s + 2) - 48)))] [.int (Int32.ofInt (-1))] ph
            refine w_ret (v := (some (.int (Int32.ofInt (-1))))) (ykc_141 (e := (7, .ireturn, 0)) rfl) (zr_v rfl) ?_
            rw [hQ]
            refine ⟨zFr_refl, _, rfl, Or.inr ⟨?_, by omega, ht, hc⟩⟩
            rw [hs]
            unfold zAct
            rw [if_neg (show ¬ t s = 110 by omega)]
            rw [if_neg (show ¬ t s = 102 by omega)]
            rw [if_pos e]
            rw [if_neg (by omega)]
          · have ep : p = t (s + 1) - 48 := zn_inj hp9.symm (by omega) (by omega)
            have ef : f = t (s + 2) - 48 := zn_inj hf9.symm (by omega) (by omega)
            subst ep ef
            have tm2 : ((Int8.ofInt (-2)).toInt32).toInt = -2 := by decide
            show zW n D 141 Q 130 [some (.ref 0), some (.int x), some (.int (zn (t (s + 1) - 48))), some (.int (zn (t (s + 2) - 48)))] [.int ((Int8.ofInt (-2)).toInt32)] ph
            refine w_ret (v := (some (.int ((Int8.ofInt (-2)).toInt32)))) (ykc_141 (e := (7, .ireturn, 0)) rfl) (zr_v rfl) ?_
            rw [hQ]
            refine ⟨zFr_refl, _, rfl, Or.inr ⟨?_, by omega, ht, hc⟩⟩
            rw [hs]
            unfold zAct
            rw [if_neg (show ¬ t s = 110 by omega)]
            rw [if_neg (show ¬ t s = 102 by omega)]
            rw [if_pos e]
            rw [if_neg (fun q => by have q2 := q.2.2; omega)]
          · have ep : p = t (s + 1) - 48 := zn_inj hp9.symm (by omega) (by omega)
            have ef : f = t (s + 2) - 48 := zn_inj hf9.symm (by omega) (by omega)
            subst ep ef
            have tg := znt (k := g) (by have := zRC49 hR7.2.1 hR7.2.2.2; omega)
            show zW n D 141 Q 130 [some (.ref 0), some (.int x), some (.int (zn (t (s + 1) - 48))), some (.int (zn (t (s + 2) - 48)))] [.int (zn g)] ph1583
            refine w_ret (v := (some (.int (zn g)))) (ykc_141 (e := (7, .ireturn, 0)) rfl) (zr_v rfl) ?_
            rw [hQ]
            have f9 : zFr [26] [] _ _ := zFr_st u9 (Or.inl (by simp))
            refine ⟨zFr_mono f9 (by simp) (by simp), _, rfl, Or.inl ⟨znu v ((t (s + 1) - 48)) g, ?_, by omega, ⟨⟨by decide, zSs_F f9 (by simp) (by simp) ht.1.2⟩, (by
              have h9 := zSd_u (S := 25) (a := 1) (by decide) (by omega) u9 hd0
              rw [show 8 * (1 - 1) + (t (s + 1) - 48) = t (s + 1) - 48 by omega] at h9
              exact h9)⟩, zCc_F f9 (by simp) (by simp) (by simp) hc⟩⟩
            rw [hs]
            unfold zAct
            rw [if_neg (show ¬ t s = 110 by omega)]
            rw [if_neg (show ¬ t s = 102 by omega)]
            rw [if_pos e]
            rw [if_pos ⟨by omega, by omega, by rw [hgk]; omega⟩, hgk]
            rfl
          
        · have q2 : 48 ≤ t (s + 2) ∧ t (s + 2) ≤ 57 := zdi_d (g3 1 (by rw [e]; decide))
          have tq2 := znt (k := t (s + 2) - 48) (by omega)
          have ey1 : y1 = zn (t (s + 2) - 48) := by
            have := hy1.symm.trans (dd 1 hi (by rw [e]; decide) (Or.inr (by decide)))
            cases this
            rfl
          subst ey1
          show zW n D 141 Q 28 [some (.ref 0), some (.int x), some (.int (zn (t (s + 1) - 48))), some (.int (zn (t (s + 2) - 48)))] [.int (zn (t s))] ph
          refine w_br (pc' := 131) (st' := []) (ykc_141 (e := (4, .tableswitch 133 98 112 #[103, 133, 133, 133, 89, 96, 133, 133, 133, 133, 133, 133, 76, 133, 110], 76)) rfl) (by rw [e]; rfl) ?_
          refine w_load (pc' := 132) (v := .ref 0) (m := 1) (ykc_141 (e := (2, .aload_n kF0, 0)) rfl) rfl rfl ?_
          refine w_load (pc' := 133) (v := .int (zn (t (s + 1) - 48))) (m := 1) (ykc_141 (e := (2, .iload_n kF2, 0)) rfl) rfl rfl ?_
          refine w_load (pc' := 134) (v := .int (zn (t (s + 2) - 48))) (m := 1) (ykc_141 (e := (2, .iload_n kF3, 0)) rfl) rfl rfl ?_
          refine w_cv (as := [.ref 0, .int (zn (t (s + 1) - 48)), .int (zn (t (s + 2) - 48))]) (r := []) (ykc_141 (e := (6, .invokevirtual 265, 0)) rfl) rfl rfl rfl rfl (zc_trimTo hS hL0 hd0 hO) (fun v1584 ph1585 hv => ?_)
          rcases hv with ⟨hbad, rfl, rfl⟩ | ⟨p, f, hp9, hf9, hpP, hf4, rfl, u9⟩
          · have tm1 : (Int32.ofInt (-1)).toInt = -1 := by decide
            show zW n D 141 Q 137 [some (.ref 0), some (.int x), some (.int (zn (t (s + 1) - 48))), some (.int (zn (t (s + 2) - 48)))] [.int (Int32.ofInt (-1))] ph
            refine w_ret (v := (some (.int (Int32.ofInt (-1))))) (ykc_141 (e := (7, .ireturn, 0)) rfl) (zr_v rfl) ?_
            rw [hQ]
            refine ⟨zFr_refl, _, rfl, Or.inr ⟨?_, by omega, ht, hc⟩⟩
            rw [hs]
            unfold zAct
            rw [if_neg (show ¬ t s = 110 by omega)]
            rw [if_neg (show ¬ t s = 102 by omega)]
            rw [if_neg (show ¬ t s = 103 by omega)]
            rw [if_pos e]
            rw [if_neg (by omega)]
          · have ep : p = t (s + 1) - 48 := zn_inj hp9.symm (by omega) (by omega)
            have ef : f = t (s + 2) - 48 := zn_inj hf9.symm (by omega) (by omega)
            subst ep ef
            have tv := znt (k := v (16 + (t (s + 1) - 48))) (by have := (hO.1 _ hpP).2.2.1; omega)
            show zW n D 141 Q 137 [some (.ref 0), some (.int x), some (.int (zn (t (s + 1) - 48))), some (.int (zn (t (s + 2) - 48)))] [.int (zn (v (16 + (t (s + 1) - 48))))] ph1585
            refine w_ret (v := (some (.int (zn (v (16 + (t (s + 1) - 48))))))) (ykc_141 (e := (7, .ireturn, 0)) rfl) (zr_v rfl) ?_
            rw [hQ]
            have f9 : zFr [28] [] _ _ := zFr_st u9 (Or.inl (by simp))
            refine ⟨zFr_mono f9 (by simp) (by simp), _, rfl, Or.inl ⟨znu v (16 + (t (s + 1) - 48)) (t (s + 2) - 48), ?_, by omega, ⟨⟨by decide, zSs_F f9 (by simp) (by simp) ht.1.2⟩, zSd_u (S := 25) (a := 3) (by decide) (by omega) u9 hd0⟩, zCc_F f9 (by simp) (by simp) (by simp) hc⟩⟩
            rw [hs]
            unfold zAct
            rw [if_neg (show ¬ t s = 110 by omega)]
            rw [if_neg (show ¬ t s = 102 by omega)]
            rw [if_neg (show ¬ t s = 103 by omega)]
            rw [if_pos e]
            rw [if_pos ⟨by omega, by omega⟩]
          
        · have q2 : 48 ≤ t (s + 2) ∧ t (s + 2) ≤ 57 := zdi_d (g3 1 (by rw [e]; decide))
          have tq2 := znt (k := t (s + 2) - 48) (by omega)
          have ey1 : y1 = zn (t (s + 2) - 48) := by
            have := hy1.symm.trans (dd 1 hi (by rw [e]; decide) (Or.inr (by decide)))
            cases this
            rfl
          subst ey1
          show zW n D 141 Q 28 [some (.ref 0), some (.int x), some (.int (zn (t (s + 1) - 48))), some (.int (zn (t (s + 2) - 48)))] [.int (zn (t s))] ph
          have q3 : 48 ≤ t (s + 3) ∧ t (s + 3) ≤ 57 := zdi_d (g3 2 (by rw [e]; decide))
          have tq3 := znt (k := t (s + 3) - 48) (by omega)
          refine w_br (pc' := 138) (st' := []) (ykc_141 (e := (4, .tableswitch 133 98 112 #[103, 133, 133, 133, 89, 96, 133, 133, 133, 133, 133, 133, 76, 133, 110], 76)) rfl) (by rw [e]; rfl) ?_
          refine w_load (pc' := 139) (v := .ref 0) (m := 1) (ykc_141 (e := (2, .aload_n kF0, 0)) rfl) rfl rfl ?_
          refine w_load (pc' := 140) (v := .int (zn (t (s + 1) - 48))) (m := 1) (ykc_141 (e := (2, .iload_n kF2, 0)) rfl) rfl rfl ?_
          refine w_load (pc' := 141) (v := .ref 0) (m := 1) (ykc_141 (e := (2, .aload_n kF0, 0)) rfl) rfl rfl ?_
          refine w_gf (pc' := 144) (v := .ref 5) (ykc_141 (e := (5, .getfield 26, 0)) rfl) rfl (zsg hS zs_0_2) rfl ?_
          refine w_load (pc' := 145) (v := .int (zn (t (s + 2) - 48))) (m := 1) (ykc_141 (e := (2, .iload_n kF3, 0)) rfl) rfl rfl ?_
          refine w_load (pc' := 146) (v := .ref 0) (m := 1) (ykc_141 (e := (2, .aload_n kF0, 0)) rfl) rfl rfl ?_
          refine w_gf (pc' := 149) (v := .ref 157) (ykc_141 (e := (5, .getfield 69, 0)) rfl) rfl (zsg hS zs_0_9) rfl ?_
          refine w_load (pc' := 150) (v := .int x) (m := 1) (ykc_141 (e := (2, .iload_n kF1, 0)) rfl) rfl rfl ?_
          refine w_alu (pc' := 151) (st' := [.int (Int32.ofInt 2), .int x, .ref 157, .int (zn (t (s + 2) - 48)), .ref 5, .int (zn (t (s + 1) - 48)), .ref 0]) (ykc_141 (e := (0, .iconst 2, 0)) rfl) rfl rfl ?_
          refine w_cv (as := [.ref 157, .int x, .int (Int32.ofInt 2)]) (r := [.int (zn (t (s + 2) - 48)), .ref 5, .int (zn (t (s + 1) - 48)), .ref 0]) (ykc_141 (e := (6, .invokevirtual 289, 0)) rfl) rfl rfl rfl rfl (zc_plDig (k := k) (i := i) (j := 2) hS hx (by decide) hk h30 hi (by decide)) (fun v1586 ph1587 hv => ?_)
          rcases hv with ⟨rfl, y2, rfl, hy2⟩
          · have ey2 : y2 = zn (t (s + 3) - 48) := by
              have := hy2.symm.trans (dd 2 hi (by rw [e]; decide) (Or.inr (by decide)))
              cases this
              rfl
            subst ey2
            show zW n D 141 Q 154 [some (.ref 0), some (.int x), some (.int (zn (t (s + 1) - 48))), some (.int (zn (t (s + 2) - 48)))] [.int (zn (t (s + 3) - 48)), .int (zn (t (s + 2) - 48)), .ref 5, .int (zn (t (s + 1) - 48)), .ref 0] ph
            refine w_cv (as := [.ref 5, .int (zn (t (s + 2) - 48)), .int (zn (t (s + 3) - 48))]) (r := [.int (zn (t (s + 1) - 48)), .ref 0]) (ykc_141 (e := (6, .invokevirtual 140, 0)) rfl) rfl rfl rfl rfl (zc_fat hS hL0) (fun v1588 ph1589 hv => ?_)
            rcases hv with ⟨rfl, z9, rfl, hz9⟩
            · have tm1 : (Int32.ofInt (-1)).toInt = -1 := by decide
              unfold zfa at hz9
              show zW n D 141 Q 157 [some (.ref 0), some (.int x), some (.int (zn (t (s + 1) - 48))), some (.int (zn (t (s + 2) - 48)))] [.int z9, .int (zn (t (s + 1) - 48)), .ref 0] ph
              refine w_cv (as := [.ref 0, .int (zn (t (s + 1) - 48)), .int z9]) (r := []) (ykc_141 (e := (6, .invokevirtual 268, 0)) rfl) rfl rfl rfl rfl (zc_putOn hS hL0 hd0 hO) (fun v1590 ph1591 hv => ?_)
              rcases hv with ⟨hbad, rfl, rfl⟩ | ⟨p, f, hp9, hf9, hpP, hfR, ⟨hsm, rfl, rfl⟩ | ⟨hne, rfl, u9⟩⟩
              · show zW n D 141 Q 160 [some (.ref 0), some (.int x), some (.int (zn (t (s + 1) - 48))), some (.int (zn (t (s + 2) - 48)))] [.int (Int32.ofInt (-1))] ph
                refine w_ret (v := (some (.int (Int32.ofInt (-1))))) (ykc_141 (e := (7, .ireturn, 0)) rfl) (zr_v rfl) ?_
                rw [hQ]
                refine ⟨zFr_refl, _, rfl, Or.inr ⟨?_, by omega, ht, hc⟩⟩
                rw [hs]
                unfold zAct
                rw [if_neg (show ¬ t s = 110 by omega)]
                rw [if_neg (show ¬ t s = 102 by omega)]
                rw [if_neg (show ¬ t s = 103 by omega)]
                rw [if_neg (show ¬ t s = 98 by omega)]
                rw [if_neg (fun q => by
                  obtain ⟨a1, a2, a3, a4⟩ := q
                  rw [if_pos ⟨by omega, by omega, by omega, by omega⟩] at hz9
                  have hmm : E.2.1 * (t (s + 2) - 48) + (t (s + 3) - 48) < E.1 * E.2.1 := by
                    have := Nat.mul_le_mul_left E.2.1 (show t (s + 2) - 48 + 1 ≤ E.1 by omega)
                    rw [Nat.mul_add, Nat.mul_one, Nat.mul_comm E.2.1 E.1] at this
                    omega
                  have hcm : (zn (t (s + 2) - 48)).toInt.toNat * E.2.1 = E.2.1 * (t (s + 2) - 48) := by rw [tq2, Int.toNat_natCast, Nat.mul_comm]
                  rw [hcm, tq3, Int.toNat_natCast] at hz9
                  omega)]
              · have hin : t (s + 2) - 48 < E.1 ∧ t (s + 3) - 48 < E.2.1 ∧ f = E.2.1 * (t (s + 2) - 48) + (t (s + 3) - 48) := by
                  by_cases a : t (s + 2) - 48 < E.1 ∧ t (s + 3) - 48 < E.2.1
                  · rw [if_pos ⟨by omega, by omega, by omega, by omega⟩] at hz9
                    have hcm : (zn (t (s + 2) - 48)).toInt.toNat * E.2.1 = E.2.1 * (t (s + 2) - 48) := by rw [tq2, Int.toNat_natCast, Nat.mul_comm]
                    rw [hcm, tq3, Int.toNat_natCast, hf9, znt (by have := zRC49 hR7.2.1 hR7.2.2.2; omega)] at hz9
                    exact ⟨a.1, a.2, by omega⟩
                  · rw [if_neg (by omega), hf9, znt (by have := zRC49 hR7.2.1 hR7.2.2.2; omega)] at hz9
                    omega
                obtain ⟨in1, in2, in3⟩ := hin
                have ep : p = t (s + 1) - 48 := zn_inj hp9.symm (by omega) (by omega)
                subst ep in3
                have tm2 : ((Int8.ofInt (-2)).toInt32).toInt = -2 := by decide
                show zW n D 141 Q 160 [some (.ref 0), some (.int x), some (.int (zn (t (s + 1) - 48))), some (.int (zn (t (s + 2) - 48)))] [.int ((Int8.ofInt (-2)).toInt32)] ph
                refine w_ret (v := (some (.int ((Int8.ofInt (-2)).toInt32)))) (ykc_141 (e := (7, .ireturn, 0)) rfl) (zr_v rfl) ?_
                rw [hQ]
                refine ⟨zFr_refl, _, rfl, Or.inr ⟨?_, by omega, ht, hc⟩⟩
                rw [hs]
                unfold zAct
                rw [if_neg (show ¬ t s = 110 by omega)]
                rw [if_neg (show ¬ t s = 102 by omega)]
                rw [if_neg (show ¬ t s = 103 by omega)]
                rw [if_neg (show ¬ t s = 98 by omega)]
                rw [if_neg (fun q => q.2.2.2 hsm)]
              · have hin : t (s + 2) - 48 < E.1 ∧ t (s + 3) - 48 < E.2.1 ∧ f = E.2.1 * (t (s + 2) - 48) + (t (s + 3) - 48) := by
                  by_cases a : t (s + 2) - 48 < E.1 ∧ t (s + 3) - 48 < E.2.1
                  · rw [if_pos ⟨by omega, by omega, by omega, by omega⟩] at hz9
                    have hcm : (zn (t (s + 2) - 48)).toInt.toNat * E.2.1 = E.2.1 * (t (s + 2) - 48) := by rw [tq2, Int.toNat_natCast, Nat.mul_comm]
                    rw [hcm, tq3, Int.toNat_natCast, hf9, znt (by have := zRC49 hR7.2.1 hR7.2.2.2; omega)] at hz9
                    exact ⟨a.1, a.2, by omega⟩
                  · rw [if_neg (by omega), hf9, znt (by have := zRC49 hR7.2.1 hR7.2.2.2; omega)] at hz9
                    omega
                obtain ⟨in1, in2, in3⟩ := hin
                have ep : p = t (s + 1) - 48 := zn_inj hp9.symm (by omega) (by omega)
                subst ep in3
                have tv := znt (k := v (32 + (t (s + 1) - 48))) (by have := hO.2.1 _ hpP; have := zRC49 hR7.2.1 hR7.2.2.2; omega)
                show zW n D 141 Q 160 [some (.ref 0), some (.int x), some (.int (zn (t (s + 1) - 48))), some (.int (zn (t (s + 2) - 48)))] [.int (zn (v (32 + (t (s + 1) - 48))))] ph1591
                refine w_ret (v := (some (.int (zn (v (32 + (t (s + 1) - 48))))))) (ykc_141 (e := (7, .ireturn, 0)) rfl) (zr_v rfl) ?_
                rw [hQ]
                have f9 : zFr [30] [] _ _ := zFr_st u9 (Or.inl (by simp))
                refine ⟨zFr_mono f9 (by simp) (by simp), _, rfl, Or.inl ⟨znu v (32 + (t (s + 1) - 48)) (E.2.1 * (t (s + 2) - 48) + (t (s + 3) - 48)), ?_, by omega, ⟨⟨by decide, zSs_F f9 (by simp) (by simp) ht.1.2⟩, zSd_u (S := 25) (a := 5) (by decide) (by omega) u9 hd0⟩, zCc_F f9 (by simp) (by simp) (by simp) hc⟩⟩
                rw [hs]
                unfold zAct
                rw [if_neg (show ¬ t s = 110 by omega)]
                rw [if_neg (show ¬ t s = 102 by omega)]
                rw [if_neg (show ¬ t s = 103 by omega)]
                rw [if_neg (show ¬ t s = 98 by omega)]
                rw [if_pos ⟨in1, in2, by omega, hne⟩]
          
      
    
  
