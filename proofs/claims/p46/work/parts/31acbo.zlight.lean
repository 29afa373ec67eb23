/-! the two LIGHTS: answers and what is written, by W; printed by wip/z/z1k_light.py -/
/-- how many signs are digits, 20 at most -/
def zLm (ln : Nat) (t : Nat → Nat) (k : Nat) : Prop := k ≤ ln ∧ k ≤ 20 ∧ (∀ i, i < k → zdi (t i) = true) ∧ (k < ln → k < 20 → zdi (t k) = false)
theorem zLm_u {ln : Nat} {t : Nat → Nat} {k k2 : Nat} (h1 : zLm ln t k) (h2 : zLm ln t k2) : k = k2 := by
  obtain ⟨a1, a2, a3, a4⟩ := h1
  obtain ⟨b1, b2, b3, b4⟩ := h2
  rcases Nat.lt_trichotomy k k2 with e | e | e
  · have c1 := a4 (by omega) (by omega)
    rw [b3 k e] at c1
    cases c1
  · exact e
  · have c1 := b4 (by omega) (by omega)
    rw [a3 k2 e] at c1
    cases c1
theorem zdi_d {c : Nat} (h : zdi c = true) : 48 ≤ c ∧ c ≤ 57 := of_decide_eq_true h
theorem zc_rlight {ph : pm_H} {ln : Nat} {t : Nat → Nat} (hS : zSh ph) (hT : zTc ph ln t) : zM 75 [.ref 10, .ref 1] ph (fun v0 q => ∃ k, zLm ln t k ∧ ((0 < ln ∧ k = ln ∧ v0 = some (.int (Int32.ofInt (-1))) ∧ zFr [21] [(10, 4)] ph q ∧ zc q 10 4 = some (.int (zn ln)) ∧ ∀ i, i < ln → zc q 21 i = some (.int (zn (t i - 48)))) ∨ ((ln = 0 ∨ k < ln) ∧ v0 = some (.int (zn k)) ∧ ph = q))) := by
  obtain ⟨Q, hQ⟩ : ∃ Q : Option Value → pm_H → Prop, Q = (fun v0 q => ∃ k, zLm ln t k ∧ ((0 < ln ∧ k = ln ∧ v0 = some (.int (Int32.ofInt (-1))) ∧ zFr [21] [(10, 4)] ph q ∧ zc q 10 4 = some (.int (zn ln)) ∧ ∀ i, i < ln → zc q 21 i = some (.int (zn (t i - 48)))) ∨ ((ln = 0 ∨ k < ln) ∧ v0 = some (.int (zn k)) ∧ ph = q))) := ⟨_, rfl⟩
  rw [← hQ]
  refine zM_mk fun n D => ?_
  show zW n D 75 Q 0 [some (.ref 10), some (.ref 1), none, none] [] ph
  have c_0 : ((Int8.ofInt 20).toInt32).toInt = 20 := by decide +kernel
  have c_1 : (Int32.ofInt (-1)).toInt = -1 := by decide +kernel
  have c_2 : (Int32.ofInt 0).toInt = 0 := by decide +kernel
  have c_3 : (Int32.ofInt 1).toInt = 1 := by decide +kernel
  have hT0 := hT
  obtain ⟨gn, hn80, gt⟩ := hT
  have tn := znt (k := ln) (by omega)
  refine w_load (pc' := 1) (v := .ref 1) (m := 1) (ykc_75 (e := (2, .aload_n kF1, 0)) rfl) rfl rfl ?_
  refine w_cv (as := [.ref 1]) (r := []) (ykc_75 (e := (6, .invokevirtual 43, 0)) rfl) rfl rfl rfl rfl (zc_tsize hT0.1) (fun v1517 ph1518 hv => ?_)
  obtain ⟨rfl, rfl⟩ := hv
  show zW n D 75 Q 4 [some (.ref 10), some (.ref 1), none, none] [.int (zn ln)] ph
  refine w_store (pc' := 5) (L' := [some (.ref 10), some (.ref 1), some (.int (zn ln)), none]) (st' := []) (m := 1) (ykc_75 (e := (3, .istore_n kF2, 0)) rfl) rfl rfl ?_
  refine w_load (pc' := 6) (v := .int (zn ln)) (m := 1) (ykc_75 (e := (2, .iload_n kF2, 0)) rfl) rfl rfl ?_
  refine w_zne (ykc_75 (e := (4, .ifCond .ne 5, 11)) rfl) rfl (fun b1519 => ?_) (fun b1519 => ?_)
  · refine w_alu (pc' := 12) (st' := [.int (Int32.ofInt 0)]) (ykc_75 (e := (0, .iconst 0, 0)) rfl) rfl rfl ?_
    refine w_store (pc' := 13) (L' := [some (.ref 10), some (.ref 1), some (.int (zn ln)), some (.int (Int32.ofInt 0))]) (st' := []) (m := 1) (ykc_75 (e := (3, .istore_n kF3, 0)) rfl) rfl rfl ?_
    have hl1 : ∀ (n : Nat), ∀ (k : Nat), (k ≤ ln) → (k ≤ 20) → (∀ i, i < k → zdi (t i) = true) → zW n D 75 Q 13 [some (.ref 10), some (.ref 1), some (.int (zn ln)), some (.int (zn k))] [] ph := by
      intro n
      induction n using Nat.strongRecOn with
      | ind n ih =>
        intro k hk hk20 hd
        have tk := znt (k := k) (by omega)
        refine w_load (pc' := 14) (v := .int (zn k)) (m := 1) (ykc_75 (e := (2, .iload_n kF3, 0)) rfl) rfl rfl ?_
        refine w_load (pc' := 15) (v := .int (zn ln)) (m := 1) (ykc_75 (e := (2, .iload_n kF2, 0)) rfl) rfl rfl ?_
        refine w_ige (ykc_75 (e := (4, .if_icmp .ge 25, 40)) rfl) rfl (fun b1520 => ?_) (fun b1520 => ?_)
        · refine w_alu (pc' := 41) (st' := [.int (Int32.ofInt 0)]) (ykc_75 (e := (0, .iconst 0, 0)) rfl) rfl rfl ?_
          refine w_store (pc' := 42) (L' := [some (.ref 10), some (.ref 1), some (.int (zn ln)), some (.int (Int32.ofInt 0))]) (st' := []) (m := 1) (ykc_75 (e := (3, .istore_n kF3, 0)) rfl) rfl rfl ?_
          have ek : k = ln := by omega
          subst ek
          have hl2 : ∀ (n : Nat), ∀ (j : Nat) (p : pm_H), (j ≤ k) → (zFr [21] [] ph p) → (∀ i, i < j → zc p 21 i = some (.int (zn (t i - 48)))) → zW n D 75 Q 42 [some (.ref 10), some (.ref 1), some (.int (zn k)), some (.int (zn j))] [] p := by
            intro n
            induction n using Nat.strongRecOn with
            | ind n ih =>
              intro j p hj hf hg
              have tj := znt (k := j) (by omega)
              have hSp := zSh_F hf (by decide +kernel) hS
              have hTp := zTc_F hf (by first | exact ⟨zqm rfl, zqm rfl⟩ | simp) (by first | exact zqp rfl | simp) (by first | exact (fun _ => zqr rfl) | simp) hT0
              refine w_load (pc' := 43) (v := .int (zn j)) (m := 1) (ykc_75 (e := (2, .iload_n kF3, 0)) rfl) rfl rfl ?_
              refine w_load (pc' := 44) (v := .int (zn k)) (m := 1) (ykc_75 (e := (2, .iload_n kF2, 0)) rfl) rfl rfl ?_
              refine w_ige (ykc_75 (e := (4, .if_icmp .ge 26, 70)) rfl) rfl (fun b1521 => ?_) (fun b1521 => ?_)
              · refine w_load (pc' := 71) (v := .ref 10) (m := 1) (ykc_75 (e := (2, .aload_n kF0, 0)) rfl) rfl rfl ?_
                refine w_load (pc' := 72) (v := .int (zn k)) (m := 1) (ykc_75 (e := (2, .iload_n kF2, 0)) rfl) rfl rfl ?_
                refine w_pf (pc' := 75) (ykc_75 (e := (5, .putfield 29, 0)) rfl) rfl rfl (fun ph1523 u1522 => ?_)
                refine w_alu (pc' := 76) (st' := [.int (Int32.ofInt (-1))]) (ykc_75 (e := (0, .iconst (-1), 0)) rfl) rfl rfl ?_
                refine w_ret (v := (some (.int (Int32.ofInt (-1))))) (ykc_75 (e := (7, .ireturn, 0)) rfl) (zr_v rfl) ?_
                rw [hQ]
                have ej : j = k := by omega
                subst ej
                exact ⟨j, ⟨hk, hk20, hd, fun h => absurd h (by omega)⟩, Or.inl ⟨by omega, rfl, rfl, zFr_trans (zFr_mono hf (by first | exact zqa rfl | simp) (by first | exact zqf rfl | simp)) (zFr_st u1522 (Or.inr (by first | exact zqj rfl | simp))), u1522.1, fun i hi => (u1522.2.1 21 i (fun q => absurd q.1 (by first | exact Nat.ne_of_beq_eq_false rfl | decide))).trans (hg i hi)⟩⟩
              · refine w_load (pc' := 48) (v := .int (zn j)) (m := 1) (ykc_75 (e := (2, .iload_n kF3, 0)) rfl) rfl rfl ?_
                refine w_push (pc' := 50) (v := .int ((Int8.ofInt 20).toInt32)) (m := 2) (ykc_75 (e := (1, .bipush 20, 0)) rfl) rfl rfl ?_
                refine w_ige (ykc_75 (e := (4, .if_icmp .ge 20, 70)) rfl) rfl (fun q => by exfalso; omega) (fun b1524 => ?_)
                refine w_load (pc' := 54) (v := .ref 10) (m := 1) (ykc_75 (e := (2, .aload_n kF0, 0)) rfl) rfl rfl ?_
                refine w_gf (pc' := 57) (v := .ref 21) (ykc_75 (e := (5, .getfield 25, 0)) rfl) rfl ((hf.1 10 3 (by first | exact zqm rfl | decide) (by first | exact zqp rfl | decide)).trans (zsg hS zs_10_3)) rfl ?_
                refine w_load (pc' := 58) (v := .int (zn j)) (m := 1) (ykc_75 (e := (2, .iload_n kF3, 0)) rfl) rfl rfl ?_
                refine w_load (pc' := 59) (v := .ref 1) (m := 1) (ykc_75 (e := (2, .aload_n kF1, 0)) rfl) rfl rfl ?_
                refine w_load (pc' := 60) (v := .int (zn j)) (m := 1) (ykc_75 (e := (2, .iload_n kF3, 0)) rfl) rfl rfl ?_
                refine w_cv (as := [.ref 1, .int (zn j)]) (r := [.int (zn j), .ref 21]) (ykc_75 (e := (6, .invokevirtual 49, 0)) rfl) rfl rfl rfl rfl (zc_digit hSp hTp (k := j) (by omega)) (fun v1525 ph1526 hv => ?_)
                obtain ⟨rfl, z9, rfl, e9⟩ := hv
                have d9 := @zDi_c k j t
                have b9 := zdi_d (hd j (by omega))
                obtain rfl : z9 = zn (t j - 48) := zn_of (by omega)
                show zW n D 75 Q 63 [some (.ref 10), some (.ref 1), some (.int (zn k)), some (.int (zn j))] [.int (zn (t j - 48)), .int (zn j), .ref 21] p
                refine w_ias (pc' := 64) (k := j) (ykc_75 (e := (5, .iastore, 0)) rfl) (by omega) rfl (fun ph1528 u1527 => ?_)
                have e1529 : (zn j) + Int32.ofInt 1 = zn (j + 1) := (zaddN (a := j) (b := 1) (znt (by omega)) c_3 (by omega))
                have te1529 := znt (k := j + 1) (by omega)
                refine w_store (pc' := 67) (L' := [some (.ref 10), some (.ref 1), some (.int (zn k)), some (.int (zn (j + 1)))]) (st' := []) (m := 3) (ykc_75 (e := (3, .iinc 3 1, 0)) rfl) (by rw [← e1529]; rfl) rfl ?_
                refine w_gb (ykc_75 (e := (4, .goto (-25), 42)) rfl) (fun k1530 hk1530 => ?_)
                exact ih k1530 hk1530 (j + 1) _ (by omega) (zFr_add hf u1527 (Or.inl (by first | exact zqi rfl | simp))) (fun i hi => by
                  by_cases e : i = j
                  · subst e; exact u1527.1
                  · exact (u1527.2.1 21 i (fun q => e q.2)).trans (hg i (by omega)))
          exact hl2 n 0 _ (Nat.zero_le _) zFr_refl (fun i hi => absurd hi (Nat.not_lt_zero i))
          
        · refine w_load (pc' := 19) (v := .int (zn k)) (m := 1) (ykc_75 (e := (2, .iload_n kF3, 0)) rfl) rfl rfl ?_
          refine w_push (pc' := 21) (v := .int ((Int8.ofInt 20).toInt32)) (m := 2) (ykc_75 (e := (1, .bipush 20, 0)) rfl) rfl rfl ?_
          refine w_ieq (ykc_75 (e := (4, .if_icmp .eq 11, 32)) rfl) rfl (fun b1531 => ?_) (fun b1531 => ?_)
          · refine w_load (pc' := 33) (v := .int (zn k)) (m := 1) (ykc_75 (e := (2, .iload_n kF3, 0)) rfl) rfl rfl ?_
            refine w_ret (v := (some (.int (zn k)))) (ykc_75 (e := (7, .ireturn, 0)) rfl) (zr_v rfl) ?_
            rw [hQ]
            exact ⟨k, ⟨hk, hk20, hd, fun h h2 => zdi_f (by omega)⟩, Or.inr ⟨Or.inr (by omega), rfl, rfl⟩⟩
          · refine w_load (pc' := 25) (v := .ref 1) (m := 1) (ykc_75 (e := (2, .aload_n kF1, 0)) rfl) rfl rfl ?_
            refine w_load (pc' := 26) (v := .int (zn k)) (m := 1) (ykc_75 (e := (2, .iload_n kF3, 0)) rfl) rfl rfl ?_
            refine w_cv (as := [.ref 1, .int (zn k)]) (r := []) (ykc_75 (e := (6, .invokevirtual 49, 0)) rfl) rfl rfl rfl rfl (zc_digit hS hT0 (k := k) (by omega)) (fun v1532 ph1533 hv => ?_)
            obtain ⟨rfl, z9, rfl, e9⟩ := hv
            have d9 := @zDi_c ln k t
            have b9 := @zDi_b ln k t
            show zW n D 75 Q 29 [some (.ref 10), some (.ref 1), some (.int (zn ln)), some (.int (zn k))] [.int z9] ph
            refine w_zge (ykc_75 (e := (4, .ifCond .ge 5, 34)) rfl) rfl (fun b1534 => ?_) (fun b1534 => ?_)
            · have e1535 : (zn k) + Int32.ofInt 1 = zn (k + 1) := (zaddN (a := k) (b := 1) (znt (by omega)) c_3 (by omega))
              have te1535 := znt (k := k + 1) (by omega)
              refine w_store (pc' := 37) (L' := [some (.ref 10), some (.ref 1), some (.int (zn ln)), some (.int (zn (k + 1)))]) (st' := []) (m := 3) (ykc_75 (e := (3, .iinc 3 1, 0)) rfl) (by rw [← e1535]; rfl) rfl ?_
              refine w_gb (ykc_75 (e := (4, .goto (-24), 13)) rfl) (fun k1536 hk1536 => ?_)
              exact ih k1536 hk1536 (k + 1) (by omega) (by omega) (fun i hi => by
                by_cases e : i = k
                · subst e; exact zdi_t (by omega)
                · exact hd i (by omega))
            · refine w_load (pc' := 33) (v := .int (zn k)) (m := 1) (ykc_75 (e := (2, .iload_n kF3, 0)) rfl) rfl rfl ?_
              refine w_ret (v := (some (.int (zn k)))) (ykc_75 (e := (7, .ireturn, 0)) rfl) (zr_v rfl) ?_
              rw [hQ]
              exact ⟨k, ⟨hk, hk20, hd, fun h h2 => zdi_f (by omega)⟩, Or.inr ⟨Or.inr (by omega), rfl, rfl⟩⟩
    exact hl1 n 0 (Nat.zero_le _) (by decide) (fun i hi => absurd hi (Nat.not_lt_zero i))
    
  · refine w_alu (pc' := 10) (st' := [.int (Int32.ofInt 0)]) (ykc_75 (e := (0, .iconst 0, 0)) rfl) rfl rfl ?_
    refine w_ret (v := (some (.int (Int32.ofInt 0)))) (ykc_75 (e := (7, .ireturn, 0)) rfl) (zr_v rfl) ?_
    rw [hQ]
    exact ⟨0, ⟨by omega, by decide, fun i hi => absurd hi (Nat.not_lt_zero i), fun h => absurd h (by omega)⟩, Or.inr ⟨Or.inl (by omega), rfl, rfl⟩⟩
theorem zc_lightR {ph : pm_H} {ln : Nat} {t : Nat → Nat} (hS : zSh ph) (hT : zTc ph ln t) : zM 127 [.ref 0] ph (fun v0 q => zFr [21] [(10, 4), (1, 1)] ph q ∧ zc q 1 1 = some (.int (zn 0)) ∧ ∃ (k : Nat) (y : Int32), zLm ln t k ∧ v0 = some (.int y) ∧ ((0 < ln ∧ k = ln ∧ y.toInt = (ln : Int) ∧ zc q 10 4 = some (.int (zn ln)) ∧ ∀ i, i < ln → zc q 21 i = some (.int (zn (t i - 48)))) ∨ ((ln = 0 ∨ k < ln) ∧ y.toInt = -1 - (k : Int) ∧ zc q 10 4 = zc ph 10 4 ∧ ∀ i, zc q 21 i = zc ph 21 i))) := by
  obtain ⟨Q, hQ⟩ : ∃ Q : Option Value → pm_H → Prop, Q = (fun v0 q => zFr [21] [(10, 4), (1, 1)] ph q ∧ zc q 1 1 = some (.int (zn 0)) ∧ ∃ (k : Nat) (y : Int32), zLm ln t k ∧ v0 = some (.int y) ∧ ((0 < ln ∧ k = ln ∧ y.toInt = (ln : Int) ∧ zc q 10 4 = some (.int (zn ln)) ∧ ∀ i, i < ln → zc q 21 i = some (.int (zn (t i - 48)))) ∨ ((ln = 0 ∨ k < ln) ∧ y.toInt = -1 - (k : Int) ∧ zc q 10 4 = zc ph 10 4 ∧ ∀ i, zc q 21 i = zc ph 21 i))) := ⟨_, rfl⟩
  rw [← hQ]
  refine zM_mk fun n D => ?_
  show zW n D 127 Q 0 [some (.ref 0), none, none] [] ph
  have c_0 : (Int32.ofInt (-1)).toInt = -1 := by decide +kernel
  have hT0 := hT
  obtain ⟨gn, hn80, gt⟩ := hT
  have tn := znt (k := ln) (by omega)
  refine w_load (pc' := 1) (v := .ref 0) (m := 1) (ykc_127 (e := (2, .aload_n kF0, 0)) rfl) rfl rfl ?_
  refine w_gf (pc' := 4) (v := .ref 1) (ykc_127 (e := (5, .getfield 10, 0)) rfl) rfl (zsg hS zs_0_0) rfl ?_
  refine w_cv (as := [.ref 1]) (r := []) (ykc_127 (e := (6, .invokevirtual 108, 0)) rfl) rfl rfl rfl rfl (zc_tsize hT0.1) (fun v1537 ph1538 hv => ?_)
  obtain ⟨rfl, rfl⟩ := hv
  show zW n D 127 Q 7 [some (.ref 0), none, none] [.int (zn ln)] ph
  refine w_store (pc' := 8) (L' := [some (.ref 0), some (.int (zn ln)), none]) (st' := []) (m := 1) (ykc_127 (e := (3, .istore_n kF1, 0)) rfl) rfl rfl ?_
  refine w_load (pc' := 9) (v := .ref 0) (m := 1) (ykc_127 (e := (2, .aload_n kF0, 0)) rfl) rfl rfl ?_
  refine w_gf (pc' := 12) (v := .ref 10) (ykc_127 (e := (5, .getfield 35, 0)) rfl) rfl (zsg hS zs_0_3) rfl ?_
  refine w_load (pc' := 13) (v := .ref 0) (m := 1) (ykc_127 (e := (2, .aload_n kF0, 0)) rfl) rfl rfl ?_
  refine w_gf (pc' := 16) (v := .ref 1) (ykc_127 (e := (5, .getfield 10, 0)) rfl) rfl (zsg hS zs_0_0) rfl ?_
  refine w_cv (as := [.ref 10, .ref 1]) (r := []) (ykc_127 (e := (6, .invokevirtual 154, 0)) rfl) rfl rfl rfl rfl (zc_rlight hS hT0) (fun v1539 ph1540 hv => ?_)
  rcases hv with ⟨k, hk, ⟨g0, g1, rfl, f1, g4, g5⟩ | ⟨g0, rfl, rfl⟩⟩
  · have tm1 : (Int32.ofInt (-1)).toInt = -1 := by decide
    show zW n D 127 Q 19 [some (.ref 0), some (.int (zn ln)), none] [.int (Int32.ofInt (-1))] ph1540
    refine w_store (pc' := 20) (L' := [some (.ref 0), some (.int (zn ln)), some (.int (Int32.ofInt (-1)))]) (st' := []) (m := 1) (ykc_127 (e := (3, .istore_n kF2, 0)) rfl) rfl rfl ?_
    refine w_load (pc' := 21) (v := .ref 0) (m := 1) (ykc_127 (e := (2, .aload_n kF0, 0)) rfl) rfl rfl ?_
    refine w_gf (pc' := 24) (v := .ref 1) (ykc_127 (e := (5, .getfield 10, 0)) rfl) rfl ((f1.1 0 0 (by first | exact zqm rfl | decide) (by first | exact zqp rfl | decide)).trans (zsg hS zs_0_0)) rfl ?_
    refine w_cv (as := [.ref 1]) (r := []) (ykc_127 (e := (6, .invokevirtual 119, 0)) rfl) rfl rfl rfl rfl (zc_tclear) (fun v1541 ph1542 hv => ?_)
    obtain ⟨rfl, f2, h11⟩ := hv
    show zW n D 127 Q 27 [some (.ref 0), some (.int (zn ln)), some (.int (Int32.ofInt (-1)))] [] ph1542
    refine w_load (pc' := 28) (v := .int (Int32.ofInt (-1))) (m := 1) (ykc_127 (e := (2, .iload_n kF2, 0)) rfl) rfl rfl ?_
    refine w_zlt (ykc_127 (e := (4, .ifCond .lt 9, 37)) rfl) rfl (fun b1543 => ?_) (fun q => by exfalso; omega)
    refine w_load (pc' := 38) (v := .int (zn ln)) (m := 1) (ykc_127 (e := (2, .iload_n kF1, 0)) rfl) rfl rfl ?_
    refine w_ret (v := (some (.int (zn ln)))) (ykc_127 (e := (7, .ireturn, 0)) rfl) (zr_v rfl) ?_
    rw [hQ]
    exact ⟨(show zFr [21] [(10, 4), (1, 1)] ph ph1542 from (zFr_trans (zFr_mono f1 (by first | exact zqa rfl | simp) (by first | exact zqf rfl | simp)) (zFr_mono f2 (by first | exact zqa rfl | simp) (by first | exact zqf rfl | simp)))), h11, k, _, hk, rfl, Or.inl ⟨g0, g1, znt (by omega), (f2.1 10 4 (by first | exact zqm rfl | decide) (by first | exact zqp rfl | decide)).trans g4, fun i hi => (f2.1 21 i (by first | exact zqm rfl | simp) (by first | exact zqp rfl | simp)).trans (g5 i hi)⟩⟩
  · have hk80 : k ≤ 80 := Nat.le_trans hk.1 hn80
    have tk := znt (k := k) (by omega)
    show zW n D 127 Q 19 [some (.ref 0), some (.int (zn ln)), none] [.int (zn k)] ph
    refine w_store (pc' := 20) (L' := [some (.ref 0), some (.int (zn ln)), some (.int (zn k))]) (st' := []) (m := 1) (ykc_127 (e := (3, .istore_n kF2, 0)) rfl) rfl rfl ?_
    refine w_load (pc' := 21) (v := .ref 0) (m := 1) (ykc_127 (e := (2, .aload_n kF0, 0)) rfl) rfl rfl ?_
    refine w_gf (pc' := 24) (v := .ref 1) (ykc_127 (e := (5, .getfield 10, 0)) rfl) rfl (zsg hS zs_0_0) rfl ?_
    refine w_cv (as := [.ref 1]) (r := []) (ykc_127 (e := (6, .invokevirtual 119, 0)) rfl) rfl rfl rfl rfl (zc_tclear) (fun v1544 ph1545 hv => ?_)
    obtain ⟨rfl, f2, h11⟩ := hv
    show zW n D 127 Q 27 [some (.ref 0), some (.int (zn ln)), some (.int (zn k))] [] ph1545
    refine w_load (pc' := 28) (v := .int (zn k)) (m := 1) (ykc_127 (e := (2, .iload_n kF2, 0)) rfl) rfl rfl ?_
    refine w_zlt (ykc_127 (e := (4, .ifCond .lt 9, 37)) rfl) rfl (fun q => by exfalso; omega) (fun b1546 => ?_)
    refine w_alu (pc' := 32) (st' := [.int (Int32.ofInt (-1))]) (ykc_127 (e := (0, .iconst (-1), 0)) rfl) rfl rfl ?_
    refine w_load (pc' := 33) (v := .int (zn k)) (m := 1) (ykc_127 (e := (2, .iload_n kF2, 0)) rfl) rfl rfl ?_
    obtain ⟨z1547, e_z1547, h_z1547⟩ : ∃ zq : Int32, (Int32.ofInt (-1)) - (zn k) = zq ∧ zq.toInt = (-1 : Int) - ((k : Nat) : Int) := ⟨_, rfl, zm1sub (by omega) (by omega) (by omega)⟩
    refine w_alu (pc' := 34) (st' := [.int z1547]) (ykc_127 (e := (0, .isub, 0)) rfl) (by rw [← e_z1547]; rfl) rfl ?_
    refine w_br (pc' := 38) (st' := [.int z1547]) (ykc_127 (e := (4, .goto 4, 38)) rfl) rfl ?_
    refine w_ret (v := (some (.int z1547))) (ykc_127 (e := (7, .ireturn, 0)) rfl) (zr_v rfl) ?_
    rw [hQ]
    exact ⟨(show zFr [21] [(10, 4), (1, 1)] ph ph1545 from (zFr_mono f2 (by first | exact zqa rfl | simp) (by first | exact zqf rfl | simp))), h11, k, _, hk, rfl, Or.inr ⟨g0, by omega, f2.1 10 4 (by first | exact zqm rfl | decide) (by first | exact zqp rfl | decide), fun i => f2.1 21 i (by first | exact zqm rfl | simp) (by first | exact zqp rfl | simp)⟩⟩
  
theorem zm_lightR {ph : pm_H} {ln : Nat} {t : Nat → Nat} (hS : zSh ph) (hn : zc ph 170 14 = some (.int (zn ln))) (hn80 : ln ≤ 80) (gt : ∀ i, i < ln → zc ph 176 i = some (.int (zn (t i))) ∧ t i < 256) : zM 210 [.ref 170] ph (fun v0 q => zFr [173, 178] [(170, 0), (170, 8), (170, 14), (170, 15), (170, 16), (170, 17)] ph q ∧ zc q 170 0 = some (.int (zn 0)) ∧ zc q 170 14 = some (.int (zn 0)) ∧ ∃ (k : Nat) (y : Int32), zLm ln t k ∧ v0 = some (.int y) ∧ ((0 < ln ∧ k = ln ∧ y.toInt = (ln : Int) ∧ zc q 170 8 = some (.int (zn ln)) ∧ ∀ i, i < ln → zc q 173 i = some (.int (zn (t i - 48)))) ∨ ((ln = 0 ∨ k < ln) ∧ y.toInt = -1 - (k : Int) ∧ zc q 170 8 = zc ph 170 8 ∧ ∀ i, zc q 173 i = zc ph 173 i))) := by
  obtain ⟨Q, hQ⟩ : ∃ Q : Option Value → pm_H → Prop, Q = (fun v0 q => zFr [173, 178] [(170, 0), (170, 8), (170, 14), (170, 15), (170, 16), (170, 17)] ph q ∧ zc q 170 0 = some (.int (zn 0)) ∧ zc q 170 14 = some (.int (zn 0)) ∧ ∃ (k : Nat) (y : Int32), zLm ln t k ∧ v0 = some (.int y) ∧ ((0 < ln ∧ k = ln ∧ y.toInt = (ln : Int) ∧ zc q 170 8 = some (.int (zn ln)) ∧ ∀ i, i < ln → zc q 173 i = some (.int (zn (t i - 48)))) ∨ ((ln = 0 ∨ k < ln) ∧ y.toInt = -1 - (k : Int) ∧ zc q 170 8 = zc ph 170 8 ∧ ∀ i, zc q 173 i = zc ph 173 i))) := ⟨_, rfl⟩
  rw [← hQ]
  refine zM_mk fun n D => ?_
  show zW n D 210 Q 0 [some (.ref 170), none, none] [] ph
  have c_0 : ((Int8.ofInt 20).toInt32).toInt = 20 := by decide +kernel
  have c_1 : ((Int8.ofInt 80).toInt32).toInt = 80 := by decide +kernel
  have c_2 : (Int32.ofInt (-1)).toInt = -1 := by decide +kernel
  have c_3 : (Int32.ofInt 0).toInt = 0 := by decide +kernel
  have c_4 : (Int32.ofInt 1).toInt = 1 := by decide +kernel
  have tn := znt (k := ln) (by omega)
  refine w_load (pc' := 1) (v := .ref 170) (m := 1) (ykc_210 (e := (2, .aload_n kF0, 0)) rfl) rfl rfl ?_
  refine w_alu (pc' := 2) (st' := [.int (Int32.ofInt 0), .ref 170]) (ykc_210 (e := (0, .iconst 0, 0)) rfl) rfl rfl ?_
  refine w_pf (pc' := 5) (ykc_210 (e := (5, .putfield 3, 0)) rfl) rfl rfl (fun ph1549 u1548 => ?_)
  refine w_load (pc' := 6) (v := .ref 170) (m := 1) (ykc_210 (e := (2, .aload_n kF0, 0)) rfl) rfl rfl ?_
  refine w_push (pc' := 8) (v := .int ((Int8.ofInt 80).toInt32)) (m := 2) (ykc_210 (e := (1, .bipush 80, 0)) rfl) rfl rfl ?_
  have f0 : zFr [] [(170, 0)] ph _ := zFr_st u1548 (Or.inr (by first | exact zqj rfl | simp))
  refine w_cv (as := [.ref 170, .int ((Int8.ofInt 80).toInt32)]) (r := []) (ykc_210 (e := (6, .invokevirtual 175, 0)) rfl) rfl rfl rfl rfl (zm_begins (c := 80) (zSh_F f0 (by decide +kernel) hS) ((f0.1 170 14 (by first | exact zqm rfl | decide) (by first | exact zqp rfl | decide)).trans hn) hn80 (fun i hi => ⟨(f0.1 176 i (by first | exact zqm rfl | simp) (by first | exact zqp rfl | simp)).trans (gt i hi).1, (gt i hi).2⟩) (by decide) (by decide)) (fun v1550 ph1551 hv => ?_)
  obtain ⟨rfl, f1, h14, hT⟩ := hv
  show zW n D 210 Q 11 [some (.ref 170), none, none] [.int (zn ln)] ph1551
  refine w_alu (pc' := 12) (st' := []) (ykc_210 (e := (0, .pop, 0)) rfl) rfl rfl ?_
  refine w_alu (pc' := 13) (st' := [.int (Int32.ofInt 0)]) (ykc_210 (e := (0, .iconst 0, 0)) rfl) rfl rfl ?_
  refine w_store (pc' := 14) (L' := [some (.ref 170), some (.int (Int32.ofInt 0)), none]) (st' := []) (m := 1) (ykc_210 (e := (3, .istore_n kF1, 0)) rfl) rfl rfl ?_
  rw [Nat.min_eq_left hn80] at hT
  have hf1 : zFr [178] [(170, 15)] ph1551 ph1551 := zFr_refl
  have h00 := (f1.1 170 0 (by first | exact zqm rfl | decide) (by first | exact zqp rfl | decide)).trans u1548.1
  have hl1 : ∀ (n : Nat), ∀ (k : Nat) (p : pm_H), (k ≤ 20) → (zFr [178] [(170, 15)] ph1551 p) → (zTm p k ln ln t) → (∀ i, i < k → zdi (t i) = true) → (∀ i, i < k → zc p 178 i = some (.int (zn (t i - 48)))) → zW n D 210 Q 14 [some (.ref 170), some (.int (zn k)), none] [] p := by
    intro n
    induction n using Nat.strongRecOn with
    | ind n ih =>
      intro k p hk20 hf hTp hd hg
      have hk := hTp.2.2.1
      have tk := znt (k := k) (by omega)
      have F0 : zFr [178] [(170, 0), (170, 14), (170, 15), (170, 16), (170, 17)] ph p := zFr_trans (zFr_mono f0 (by first | exact zqa rfl | simp) (by first | exact zqf rfl | simp)) (zFr_trans (zFr_mono f1 (by first | exact zqa rfl | simp) (by first | exact zqf rfl | simp)) (zFr_mono hf (by first | exact zqa rfl | simp) (by first | exact zqf rfl | simp)))
      have hSp := zSh_F F0 (by decide +kernel) hS
      refine w_load (pc' := 15) (v := .int (zn k)) (m := 1) (ykc_210 (e := (2, .iload_n kF1, 0)) rfl) rfl rfl ?_
      refine w_push (pc' := 17) (v := .int ((Int8.ofInt 20).toInt32)) (m := 2) (ykc_210 (e := (1, .bipush 20, 0)) rfl) rfl rfl ?_
      refine w_ige (ykc_210 (e := (4, .if_icmp .ge 27, 44)) rfl) rfl (fun b1552 => ?_) (fun b1552 => ?_)
      · have hk9 : zLm ln t k := ⟨hk, hk20, hd, fun h h2 => absurd h2 (by omega)⟩
        refine w_load (pc' := 45) (v := .int (zn k)) (m := 1) (ykc_210 (e := (2, .iload_n kF1, 0)) rfl) rfl rfl ?_
        refine w_zeq (ykc_210 (e := (4, .ifCond .eq 14, 59)) rfl) rfl (fun b1553 => ?_) (fun b1553 => ?_)
        · refine w_alu (pc' := 60) (st' := [.int (Int32.ofInt (-1))]) (ykc_210 (e := (0, .iconst (-1), 0)) rfl) rfl rfl ?_
          refine w_load (pc' := 61) (v := .ref 170) (m := 1) (ykc_210 (e := (2, .aload_n kF0, 0)) rfl) rfl rfl ?_
          refine w_gf (pc' := 64) (v := .int (zn k)) (ykc_210 (e := (5, .getfield 139, 0)) rfl) rfl hTp.1 rfl ?_
          obtain ⟨z1554, e_z1554, h_z1554⟩ : ∃ zq : Int32, (Int32.ofInt (-1)) - (zn k) = zq ∧ zq.toInt = (-1 : Int) - ((k : Nat) : Int) := ⟨_, rfl, zm1sub (by omega) (by omega) (by omega)⟩
          refine w_alu (pc' := 65) (st' := [.int z1554]) (ykc_210 (e := (0, .isub, 0)) rfl) (by rw [← e_z1554]; rfl) rfl ?_
          refine w_ret (v := (some (.int z1554))) (ykc_210 (e := (7, .ireturn, 0)) rfl) (zr_v rfl) ?_
          rw [hQ]
          exact ⟨(show zFr [173, 178] [(170, 0), (170, 8), (170, 14), (170, 15), (170, 16), (170, 17)] ph p from (zFr_trans (zFr_trans (zFr_st u1548 (Or.inr (by first | exact zqj rfl | simp))) (zFr_mono f1 (by first | exact zqa rfl | simp) (by first | exact zqf rfl | simp))) (zFr_mono hf (by first | exact zqa rfl | simp) (by first | exact zqf rfl | simp)))), (hf.1 170 0 (by first | exact zqm rfl | decide) (by first | exact zqp rfl | decide)).trans h00, (hf.1 170 14 (by first | exact zqm rfl | decide) (by first | exact zqp rfl | decide)).trans h14, k, _, hk9, rfl, Or.inr ⟨by omega, by omega, F0.1 170 8 (by first | exact zqm rfl | decide) (by first | exact zqp rfl | decide), fun i => F0.1 173 i (by first | exact zqm rfl | simp) (by first | exact zqp rfl | simp)⟩⟩
        · refine w_load (pc' := 49) (v := .ref 170) (m := 1) (ykc_210 (e := (2, .aload_n kF0, 0)) rfl) rfl rfl ?_
          refine w_gf (pc' := 52) (v := .int (zn k)) (ykc_210 (e := (5, .getfield 139, 0)) rfl) rfl hTp.1 rfl ?_
          refine w_load (pc' := 53) (v := .ref 170) (m := 1) (ykc_210 (e := (2, .aload_n kF0, 0)) rfl) rfl rfl ?_
          refine w_gf (pc' := 56) (v := .int (zn ln)) (ykc_210 (e := (5, .getfield 151, 0)) rfl) rfl hTp.2.1 rfl ?_
          refine w_ige (ykc_210 (e := (4, .if_icmp .ge 10, 66)) rfl) rfl (fun b1555 => ?_) (fun b1555 => ?_)
          · refine w_load (pc' := 67) (v := .ref 170) (m := 1) (ykc_210 (e := (2, .aload_n kF0, 0)) rfl) rfl rfl ?_
            refine w_load (pc' := 68) (v := .int (zn k)) (m := 1) (ykc_210 (e := (2, .iload_n kF1, 0)) rfl) rfl rfl ?_
            refine w_pf (pc' := 71) (ykc_210 (e := (5, .putfield 30, 0)) rfl) rfl rfl (fun ph1557 u1556 => ?_)
            refine w_alu (pc' := 72) (st' := [.int (Int32.ofInt 0)]) (ykc_210 (e := (0, .iconst 0, 0)) rfl) rfl rfl ?_
            refine w_store (pc' := 73) (L' := [some (.ref 170), some (.int (zn k)), some (.int (Int32.ofInt 0))]) (st' := []) (m := 1) (ykc_210 (e := (3, .istore_n kF2, 0)) rfl) rfl rfl ?_
            have hl2 : ∀ (n : Nat), ∀ (j : Nat) (p2 : pm_H), (j ≤ k) → (zFr [173] [] ph1557 p2) → (∀ i, i < j → zc p2 173 i = some (.int (zn (t i - 48)))) → zW n D 210 Q 73 [some (.ref 170), some (.int (zn k)), some (.int (zn j))] [] p2 := by
              intro n
              induction n using Nat.strongRecOn with
              | ind n ih =>
                intro j p2 hj hf2 hg2
                have tj := znt (k := j) (by omega)
                have F2 : zFr [173, 178] [(170, 0), (170, 8), (170, 14), (170, 15), (170, 16), (170, 17)] ph p2 := zFr_trans (zFr_mono F0 (by first | exact zqa rfl | simp) (by first | exact zqf rfl | simp)) (zFr_trans (zFr_st u1556 (Or.inr (by first | exact zqj rfl | simp))) (zFr_mono hf2 (by first | exact zqa rfl | simp) (by first | exact zqf rfl | simp)))
                have hg3 : j < k → zc p2 178 j = some (.int (zn (t j - 48))) := fun h => (hf2.1 178 j (by first | exact zqm rfl | simp) (by first | exact zqp rfl | simp)).trans ((u1556.2.1 178 j (fun q => absurd q.1 (by first | exact Nat.ne_of_beq_eq_false rfl | decide))).trans (hg j h))
                refine w_load (pc' := 74) (v := .int (zn j)) (m := 1) (ykc_210 (e := (2, .iload_n kF2, 0)) rfl) rfl rfl ?_
                refine w_load (pc' := 75) (v := .int (zn k)) (m := 1) (ykc_210 (e := (2, .iload_n kF1, 0)) rfl) rfl rfl ?_
                refine w_ige (ykc_210 (e := (4, .if_icmp .ge 21, 96)) rfl) rfl (fun b1558 => ?_) (fun b1558 => ?_)
                · refine w_load (pc' := 97) (v := .int (zn k)) (m := 1) (ykc_210 (e := (2, .iload_n kF1, 0)) rfl) rfl rfl ?_
                  refine w_ret (v := (some (.int (zn k)))) (ykc_210 (e := (7, .ireturn, 0)) rfl) (zr_v rfl) ?_
                  rw [hQ]
                  have ej : j = k := by omega
                  subst ej
                  have ekl : j = ln := by omega
                  exact ⟨F2, (hf2.1 170 0 (by first | exact zqm rfl | decide) (by first | exact zqp rfl | decide)).trans ((u1556.2.1 170 0 (fun q => absurd q.2 (by first | exact Nat.ne_of_beq_eq_false rfl | decide))).trans ((hf.1 170 0 (by first | exact zqm rfl | decide) (by first | exact zqp rfl | decide)).trans h00)), (hf2.1 170 14 (by first | exact zqm rfl | decide) (by first | exact zqp rfl | decide)).trans ((u1556.2.1 170 14 (fun q => absurd q.2 (by first | exact Nat.ne_of_beq_eq_false rfl | decide))).trans ((hf.1 170 14 (by first | exact zqm rfl | decide) (by first | exact zqp rfl | decide)).trans h14)), j, _, hk9, rfl, Or.inl ⟨by omega, ekl, by omega, (hf2.1 170 8 (by first | exact zqm rfl | decide) (by first | exact zqp rfl | decide)).trans (by rw [← ekl]; exact u1556.1), fun i hi => hg2 i (by omega)⟩⟩
                · refine w_load (pc' := 79) (v := .ref 170) (m := 1) (ykc_210 (e := (2, .aload_n kF0, 0)) rfl) rfl rfl ?_
                  refine w_gf (pc' := 82) (v := .ref 173) (ykc_210 (e := (5, .getfield 37, 0)) rfl) rfl ((hf2.1 170 10 (by first | exact zqm rfl | decide) (by first | exact zqp rfl | decide)).trans ((u1556.2.1 170 10 (fun q => absurd q.2 (by first | exact Nat.ne_of_beq_eq_false rfl | decide))).trans ((hf.1 170 10 (by first | exact zqm rfl | decide) (by first | exact zqp rfl | decide)).trans ((f1.1 170 10 (by first | exact zqm rfl | decide) (by first | exact zqp rfl | decide)).trans ((u1548.2.1 170 10 (fun q => absurd q.2 (by first | exact Nat.ne_of_beq_eq_false rfl | decide))).trans (zsg hS zs_170_10)))))) rfl ?_
                  refine w_load (pc' := 83) (v := .int (zn j)) (m := 1) (ykc_210 (e := (2, .iload_n kF2, 0)) rfl) rfl rfl ?_
                  refine w_load (pc' := 84) (v := .ref 170) (m := 1) (ykc_210 (e := (2, .aload_n kF0, 0)) rfl) rfl rfl ?_
                  refine w_gf (pc' := 87) (v := .ref 178) (ykc_210 (e := (5, .getfield 53, 0)) rfl) rfl ((hf2.1 170 19 (by first | exact zqm rfl | decide) (by first | exact zqp rfl | decide)).trans ((u1556.2.1 170 19 (fun q => absurd q.2 (by first | exact Nat.ne_of_beq_eq_false rfl | decide))).trans ((hf.1 170 19 (by first | exact zqm rfl | decide) (by first | exact zqp rfl | decide)).trans ((f1.1 170 19 (by first | exact zqm rfl | decide) (by first | exact zqp rfl | decide)).trans ((u1548.2.1 170 19 (fun q => absurd q.2 (by first | exact Nat.ne_of_beq_eq_false rfl | decide))).trans (zsg hS zs_170_19)))))) rfl ?_
                  refine w_load (pc' := 88) (v := .int (zn j)) (m := 1) (ykc_210 (e := (2, .iload_n kF2, 0)) rfl) rfl rfl ?_
                  refine w_ialk (pc' := 89) (k := j) (ykc_210 (e := (5, .iaload, 0)) rfl) (hg3 (by omega)) (by omega) rfl ?_
                  refine w_ias (pc' := 90) (k := j) (ykc_210 (e := (5, .iastore, 0)) rfl) (by omega) rfl (fun ph1560 u1559 => ?_)
                  have e1561 : (zn j) + Int32.ofInt 1 = zn (j + 1) := (zaddN (a := j) (b := 1) (znt (by omega)) c_4 (by omega))
                  have te1561 := znt (k := j + 1) (by omega)
                  refine w_store (pc' := 93) (L' := [some (.ref 170), some (.int (zn k)), some (.int (zn (j + 1)))]) (st' := []) (m := 3) (ykc_210 (e := (3, .iinc 2 1, 0)) rfl) (by rw [← e1561]; rfl) rfl ?_
                  refine w_gb (ykc_210 (e := (4, .goto (-20), 73)) rfl) (fun k1562 hk1562 => ?_)
                  exact ih k1562 hk1562 (j + 1) _ (by omega) (zFr_add hf2 u1559 (Or.inl (by first | exact zqi rfl | simp))) (fun i hi => by
                    by_cases e : i = j
                    · subst e; exact u1559.1
                    · exact (u1559.2.1 173 i (fun q => e q.2)).trans (hg2 i (by omega)))
            exact hl2 n 0 _ (Nat.zero_le _) zFr_refl (fun i hi => absurd hi (Nat.not_lt_zero i))
            
          · refine w_alu (pc' := 60) (st' := [.int (Int32.ofInt (-1))]) (ykc_210 (e := (0, .iconst (-1), 0)) rfl) rfl rfl ?_
            refine w_load (pc' := 61) (v := .ref 170) (m := 1) (ykc_210 (e := (2, .aload_n kF0, 0)) rfl) rfl rfl ?_
            refine w_gf (pc' := 64) (v := .int (zn k)) (ykc_210 (e := (5, .getfield 139, 0)) rfl) rfl hTp.1 rfl ?_
            obtain ⟨z1563, e_z1563, h_z1563⟩ : ∃ zq : Int32, (Int32.ofInt (-1)) - (zn k) = zq ∧ zq.toInt = (-1 : Int) - ((k : Nat) : Int) := ⟨_, rfl, zm1sub (by omega) (by omega) (by omega)⟩
            refine w_alu (pc' := 65) (st' := [.int z1563]) (ykc_210 (e := (0, .isub, 0)) rfl) (by rw [← e_z1563]; rfl) rfl ?_
            refine w_ret (v := (some (.int z1563))) (ykc_210 (e := (7, .ireturn, 0)) rfl) (zr_v rfl) ?_
            rw [hQ]
            exact ⟨(show zFr [173, 178] [(170, 0), (170, 8), (170, 14), (170, 15), (170, 16), (170, 17)] ph p from (zFr_trans (zFr_trans (zFr_st u1548 (Or.inr (by first | exact zqj rfl | simp))) (zFr_mono f1 (by first | exact zqa rfl | simp) (by first | exact zqf rfl | simp))) (zFr_mono hf (by first | exact zqa rfl | simp) (by first | exact zqf rfl | simp)))), (hf.1 170 0 (by first | exact zqm rfl | decide) (by first | exact zqp rfl | decide)).trans h00, (hf.1 170 14 (by first | exact zqm rfl | decide) (by first | exact zqp rfl | decide)).trans h14, k, _, hk9, rfl, Or.inr ⟨by omega, by omega, F0.1 170 8 (by first | exact zqm rfl | decide) (by first | exact zqp rfl | decide), fun i => F0.1 173 i (by first | exact zqm rfl | simp) (by first | exact zqp rfl | simp)⟩⟩
      · refine w_load (pc' := 21) (v := .ref 170) (m := 1) (ykc_210 (e := (2, .aload_n kF0, 0)) rfl) rfl rfl ?_
        refine w_cv (as := [.ref 170]) (r := []) (ykc_210 (e := (6, .invokevirtual 171, 0)) rfl) rfl rfl rfl rfl (zm_isDigit hSp hTp) (fun v1564 ph1565 hv => ?_)
        obtain ⟨rfl, rfl⟩ := hv
        show zW n D 210 Q 24 [some (.ref 170), some (.int (zn k)), none] [.int (zI (decide (k < ln ∧ 48 ≤ t k ∧ t k ≤ 57)))] p
        refine w_beq (ykc_210 (e := (4, .ifCond .eq 20, 44)) rfl) rfl (fun b1566 => ?_) (fun b1566 => ?_)
        · have hk9 : zLm ln t k := ⟨hk, hk20, hd, fun h h2 => zdi_f (fun q => absurd (⟨h, q⟩ : k < ln ∧ 48 ≤ t k ∧ t k ≤ 57) (of_decide_eq_false b1566))⟩
          refine w_load (pc' := 45) (v := .int (zn k)) (m := 1) (ykc_210 (e := (2, .iload_n kF1, 0)) rfl) rfl rfl ?_
          refine w_zeq (ykc_210 (e := (4, .ifCond .eq 14, 59)) rfl) rfl (fun b1567 => ?_) (fun b1567 => ?_)
          · refine w_alu (pc' := 60) (st' := [.int (Int32.ofInt (-1))]) (ykc_210 (e := (0, .iconst (-1), 0)) rfl) rfl rfl ?_
            refine w_load (pc' := 61) (v := .ref 170) (m := 1) (ykc_210 (e := (2, .aload_n kF0, 0)) rfl) rfl rfl ?_
            refine w_gf (pc' := 64) (v := .int (zn k)) (ykc_210 (e := (5, .getfield 139, 0)) rfl) rfl hTp.1 rfl ?_
            obtain ⟨z1568, e_z1568, h_z1568⟩ : ∃ zq : Int32, (Int32.ofInt (-1)) - (zn k) = zq ∧ zq.toInt = (-1 : Int) - ((k : Nat) : Int) := ⟨_, rfl, zm1sub (by omega) (by omega) (by omega)⟩
            refine w_alu (pc' := 65) (st' := [.int z1568]) (ykc_210 (e := (0, .isub, 0)) rfl) (by rw [← e_z1568]; rfl) rfl ?_
            refine w_ret (v := (some (.int z1568))) (ykc_210 (e := (7, .ireturn, 0)) rfl) (zr_v rfl) ?_
            rw [hQ]
            exact ⟨(show zFr [173, 178] [(170, 0), (170, 8), (170, 14), (170, 15), (170, 16), (170, 17)] ph p from (zFr_trans (zFr_trans (zFr_st u1548 (Or.inr (by first | exact zqj rfl | simp))) (zFr_mono f1 (by first | exact zqa rfl | simp) (by first | exact zqf rfl | simp))) (zFr_mono hf (by first | exact zqa rfl | simp) (by first | exact zqf rfl | simp)))), (hf.1 170 0 (by first | exact zqm rfl | decide) (by first | exact zqp rfl | decide)).trans h00, (hf.1 170 14 (by first | exact zqm rfl | decide) (by first | exact zqp rfl | decide)).trans h14, k, _, hk9, rfl, Or.inr ⟨by omega, by omega, F0.1 170 8 (by first | exact zqm rfl | decide) (by first | exact zqp rfl | decide), fun i => F0.1 173 i (by first | exact zqm rfl | simp) (by first | exact zqp rfl | simp)⟩⟩
          · refine w_load (pc' := 49) (v := .ref 170) (m := 1) (ykc_210 (e := (2, .aload_n kF0, 0)) rfl) rfl rfl ?_
            refine w_gf (pc' := 52) (v := .int (zn k)) (ykc_210 (e := (5, .getfield 139, 0)) rfl) rfl hTp.1 rfl ?_
            refine w_load (pc' := 53) (v := .ref 170) (m := 1) (ykc_210 (e := (2, .aload_n kF0, 0)) rfl) rfl rfl ?_
            refine w_gf (pc' := 56) (v := .int (zn ln)) (ykc_210 (e := (5, .getfield 151, 0)) rfl) rfl hTp.2.1 rfl ?_
            refine w_ige (ykc_210 (e := (4, .if_icmp .ge 10, 66)) rfl) rfl (fun b1569 => ?_) (fun b1569 => ?_)
            · refine w_load (pc' := 67) (v := .ref 170) (m := 1) (ykc_210 (e := (2, .aload_n kF0, 0)) rfl) rfl rfl ?_
              refine w_load (pc' := 68) (v := .int (zn k)) (m := 1) (ykc_210 (e := (2, .iload_n kF1, 0)) rfl) rfl rfl ?_
              refine w_pf (pc' := 71) (ykc_210 (e := (5, .putfield 30, 0)) rfl) rfl rfl (fun ph1571 u1570 => ?_)
              refine w_alu (pc' := 72) (st' := [.int (Int32.ofInt 0)]) (ykc_210 (e := (0, .iconst 0, 0)) rfl) rfl rfl ?_
              refine w_store (pc' := 73) (L' := [some (.ref 170), some (.int (zn k)), some (.int (Int32.ofInt 0))]) (st' := []) (m := 1) (ykc_210 (e := (3, .istore_n kF2, 0)) rfl) rfl rfl ?_
              have hl2 : ∀ (n : Nat), ∀ (j : Nat) (p2 : pm_H), (j ≤ k) → (zFr [173] [] ph1571 p2) → (∀ i, i < j → zc p2 173 i = some (.int (zn (t i - 48)))) → zW n D 210 Q 73 [some (.ref 170), some (.int (zn k)), some (.int (zn j))] [] p2 := by
                intro n
                induction n using Nat.strongRecOn with
                | ind n ih =>
                  intro j p2 hj hf2 hg2
                  have tj := znt (k := j) (by omega)
                  have F2 : zFr [173, 178] [(170, 0), (170, 8), (170, 14), (170, 15), (170, 16), (170, 17)] ph p2 := zFr_trans (zFr_mono F0 (by first | exact zqa rfl | simp) (by first | exact zqf rfl | simp)) (zFr_trans (zFr_st u1570 (Or.inr (by first | exact zqj rfl | simp))) (zFr_mono hf2 (by first | exact zqa rfl | simp) (by first | exact zqf rfl | simp)))
                  have hg3 : j < k → zc p2 178 j = some (.int (zn (t j - 48))) := fun h => (hf2.1 178 j (by first | exact zqm rfl | simp) (by first | exact zqp rfl | simp)).trans ((u1570.2.1 178 j (fun q => absurd q.1 (by first | exact Nat.ne_of_beq_eq_false rfl | decide))).trans (hg j h))
                  refine w_load (pc' := 74) (v := .int (zn j)) (m := 1) (ykc_210 (e := (2, .iload_n kF2, 0)) rfl) rfl rfl ?_
                  refine w_load (pc' := 75) (v := .int (zn k)) (m := 1) (ykc_210 (e := (2, .iload_n kF1, 0)) rfl) rfl rfl ?_
                  refine w_ige (ykc_210 (e := (4, .if_icmp .ge 21, 96)) rfl) rfl (fun b1572 => ?_) (fun b1572 => ?_)
                  · refine w_load (pc' := 97) (v := .int (zn k)) (m := 1) (ykc_210 (e := (2, .iload_n kF1, 0)) rfl) rfl rfl ?_
                    refine w_ret (v := (some (.int (zn k)))) (ykc_210 (e := (7, .ireturn, 0)) rfl) (zr_v rfl) ?_
                    rw [hQ]
                    have ej : j = k := by omega
                    subst ej
                    have ekl : j = ln := by omega
                    exact ⟨F2, (hf2.1 170 0 (by first | exact zqm rfl | decide) (by first | exact zqp rfl | decide)).trans ((u1570.2.1 170 0 (fun q => absurd q.2 (by first | exact Nat.ne_of_beq_eq_false rfl | decide))).trans ((hf.1 170 0 (by first | exact zqm rfl | decide) (by first | exact zqp rfl | decide)).trans h00)), (hf2.1 170 14 (by first | exact zqm rfl | decide) (by first | exact zqp rfl | decide)).trans ((u1570.2.1 170 14 (fun q => absurd q.2 (by first | exact Nat.ne_of_beq_eq_false rfl | decide))).trans ((hf.1 170 14 (by first | exact zqm rfl | decide) (by first | exact zqp rfl | decide)).trans h14)), j, _, hk9, rfl, Or.inl ⟨by omega, ekl, by omega, (hf2.1 170 8 (by first | exact zqm rfl | decide) (by first | exact zqp rfl | decide)).trans (by rw [← ekl]; exact u1570.1), fun i hi => hg2 i (by omega)⟩⟩
                  · refine w_load (pc' := 79) (v := .ref 170) (m := 1) (ykc_210 (e := (2, .aload_n kF0, 0)) rfl) rfl rfl ?_
                    refine w_gf (pc' := 82) (v := .ref 173) (ykc_210 (e := (5, .getfield 37, 0)) rfl) rfl ((hf2.1 170 10 (by first | exact zqm rfl | decide) (by first | exact zqp rfl | decide)).trans ((u1570.2.1 170 10 (fun q => absurd q.2 (by first | exact Nat.ne_of_beq_eq_false rfl | decide))).trans ((hf.1 170 10 (by first | exact zqm rfl | decide) (by first | exact zqp rfl | decide)).trans ((f1.1 170 10 (by first | exact zqm rfl | decide) (by first | exact zqp rfl | decide)).trans ((u1548.2.1 170 10 (fun q => absurd q.2 (by first | exact Nat.ne_of_beq_eq_false rfl | decide))).trans (zsg hS zs_170_10)))))) rfl ?_
                    refine w_load (pc' := 83) (v := .int (zn j)) (m := 1) (ykc_210 (e := (2, .iload_n kF2, 0)) rfl) rfl rfl ?_
                    refine w_load (pc' := 84) (v := .ref 170) (m := 1) (ykc_210 (e := (2, .aload_n kF0, 0)) rfl) rfl rfl ?_
                    refine w_gf (pc' := 87) (v := .ref 178) (ykc_210 (e := (5, .getfield 53, 0)) rfl) rfl ((hf2.1 170 19 (by first | exact zqm rfl | decide) (by first | exact zqp rfl | decide)).trans ((u1570.2.1 170 19 (fun q => absurd q.2 (by first | exact Nat.ne_of_beq_eq_false rfl | decide))).trans ((hf.1 170 19 (by first | exact zqm rfl | decide) (by first | exact zqp rfl | decide)).trans ((f1.1 170 19 (by first | exact zqm rfl | decide) (by first | exact zqp rfl | decide)).trans ((u1548.2.1 170 19 (fun q => absurd q.2 (by first | exact Nat.ne_of_beq_eq_false rfl | decide))).trans (zsg hS zs_170_19)))))) rfl ?_
                    refine w_load (pc' := 88) (v := .int (zn j)) (m := 1) (ykc_210 (e := (2, .iload_n kF2, 0)) rfl) rfl rfl ?_
                    refine w_ialk (pc' := 89) (k := j) (ykc_210 (e := (5, .iaload, 0)) rfl) (hg3 (by omega)) (by omega) rfl ?_
                    refine w_ias (pc' := 90) (k := j) (ykc_210 (e := (5, .iastore, 0)) rfl) (by omega) rfl (fun ph1574 u1573 => ?_)
                    have e1575 : (zn j) + Int32.ofInt 1 = zn (j + 1) := (zaddN (a := j) (b := 1) (znt (by omega)) c_4 (by omega))
                    have te1575 := znt (k := j + 1) (by omega)
                    refine w_store (pc' := 93) (L' := [some (.ref 170), some (.int (zn k)), some (.int (zn (j + 1)))]) (st' := []) (m := 3) (ykc_210 (e := (3, .iinc 2 1, 0)) rfl) (by rw [← e1575]; rfl) rfl ?_
                    refine w_gb (ykc_210 (e := (4, .goto (-20), 73)) rfl) (fun k1576 hk1576 => ?_)
                    exact ih k1576 hk1576 (j + 1) _ (by omega) (zFr_add hf2 u1573 (Or.inl (by first | exact zqi rfl | simp))) (fun i hi => by
                      by_cases e : i = j
                      · subst e; exact u1573.1
                      · exact (u1573.2.1 173 i (fun q => e q.2)).trans (hg2 i (by omega)))
              exact hl2 n 0 _ (Nat.zero_le _) zFr_refl (fun i hi => absurd hi (Nat.not_lt_zero i))
              
            · refine w_alu (pc' := 60) (st' := [.int (Int32.ofInt (-1))]) (ykc_210 (e := (0, .iconst (-1), 0)) rfl) rfl rfl ?_
              refine w_load (pc' := 61) (v := .ref 170) (m := 1) (ykc_210 (e := (2, .aload_n kF0, 0)) rfl) rfl rfl ?_
              refine w_gf (pc' := 64) (v := .int (zn k)) (ykc_210 (e := (5, .getfield 139, 0)) rfl) rfl hTp.1 rfl ?_
              obtain ⟨z1577, e_z1577, h_z1577⟩ : ∃ zq : Int32, (Int32.ofInt (-1)) - (zn k) = zq ∧ zq.toInt = (-1 : Int) - ((k : Nat) : Int) := ⟨_, rfl, zm1sub (by omega) (by omega) (by omega)⟩
              refine w_alu (pc' := 65) (st' := [.int z1577]) (ykc_210 (e := (0, .isub, 0)) rfl) (by rw [← e_z1577]; rfl) rfl ?_
              refine w_ret (v := (some (.int z1577))) (ykc_210 (e := (7, .ireturn, 0)) rfl) (zr_v rfl) ?_
              rw [hQ]
              exact ⟨(show zFr [173, 178] [(170, 0), (170, 8), (170, 14), (170, 15), (170, 16), (170, 17)] ph p from (zFr_trans (zFr_trans (zFr_st u1548 (Or.inr (by first | exact zqj rfl | simp))) (zFr_mono f1 (by first | exact zqa rfl | simp) (by first | exact zqf rfl | simp))) (zFr_mono hf (by first | exact zqa rfl | simp) (by first | exact zqf rfl | simp)))), (hf.1 170 0 (by first | exact zqm rfl | decide) (by first | exact zqp rfl | decide)).trans h00, (hf.1 170 14 (by first | exact zqm rfl | decide) (by first | exact zqp rfl | decide)).trans h14, k, _, hk9, rfl, Or.inr ⟨by omega, by omega, F0.1 170 8 (by first | exact zqm rfl | decide) (by first | exact zqp rfl | decide), fun i => F0.1 173 i (by first | exact zqm rfl | simp) (by first | exact zqp rfl | simp)⟩⟩
        · refine w_load (pc' := 28) (v := .ref 170) (m := 1) (ykc_210 (e := (2, .aload_n kF0, 0)) rfl) rfl rfl ?_
          refine w_gf (pc' := 31) (v := .ref 178) (ykc_210 (e := (5, .getfield 53, 0)) rfl) rfl ((hf.1 170 19 (by first | exact zqm rfl | decide) (by first | exact zqp rfl | decide)).trans ((f1.1 170 19 (by first | exact zqm rfl | decide) (by first | exact zqp rfl | decide)).trans ((u1548.2.1 170 19 (fun q => absurd q.2 (by first | exact Nat.ne_of_beq_eq_false rfl | decide))).trans (zsg hS zs_170_19)))) rfl ?_
          refine w_load (pc' := 32) (v := .int (zn k)) (m := 1) (ykc_210 (e := (2, .iload_n kF1, 0)) rfl) rfl rfl ?_
          refine w_load (pc' := 33) (v := .ref 170) (m := 1) (ykc_210 (e := (2, .aload_n kF0, 0)) rfl) rfl rfl ?_
          refine w_alu (pc' := 34) (st' := [.int (Int32.ofInt 1), .ref 170, .int (zn k), .ref 178]) (ykc_210 (e := (0, .iconst 1, 0)) rfl) rfl rfl ?_
          have hdd := of_decide_eq_true b1566
          refine w_cv (as := [.ref 170, .int (Int32.ofInt 1)]) (r := [.int (zn k), .ref 178]) (ykc_210 (e := (6, .invokevirtual 224, 0)) rfl) rfl rfl rfl rfl (zm_num1 hSp hTp) (fun v1578 ph1579 hv => ?_)
          rcases hv with ⟨f2, ⟨-, rfl, hT2⟩ | ⟨hnd, -, -⟩⟩
          · show zW n D 210 Q 37 [some (.ref 170), some (.int (zn k)), none] [.int (zn (t k - 48)), .int (zn k), .ref 178] ph1579
            refine w_ias (pc' := 38) (k := k) (ykc_210 (e := (5, .iastore, 0)) rfl) (by omega) rfl (fun ph1581 u1580 => ?_)
            have e1582 : (zn k) + Int32.ofInt 1 = zn (k + 1) := (zaddN (a := k) (b := 1) (znt (by omega)) c_4 (by omega))
            have te1582 := znt (k := k + 1) (by omega)
            refine w_store (pc' := 41) (L' := [some (.ref 170), some (.int (zn (k + 1))), none]) (st' := []) (m := 3) (ykc_210 (e := (3, .iinc 1 1, 0)) rfl) (by rw [← e1582]; rfl) rfl ?_
            refine w_gb (ykc_210 (e := (4, .goto (-27), 14)) rfl) (fun k1583 hk1583 => ?_)
            exact ih k1583 hk1583 (k + 1) _ (by omega) (zFr_add (zFr_trans hf (zFr_mono f2 (by first | exact zqa rfl | simp) (by first | exact zqf rfl | simp))) u1580 (Or.inl (by first | exact zqi rfl | simp))) (zTm_F (zFr_st u1580 (Or.inl (by first | exact zqi rfl | simp)) : zFr [178] [] _ _) (by first | exact ⟨zqm rfl, zqm rfl⟩ | simp) (by first | exact ⟨zqp rfl, zqp rfl⟩ | simp) (by first | exact (fun _ => zqr rfl) | simp) hT2) (fun i hi => by
              by_cases e : i = k
              · subst e; exact zdi_t (by omega)
              · exact hd i (by omega)) (fun i hi => by
              by_cases e : i = k
              · subst e; exact u1580.1
              · exact (u1580.2.1 178 i (fun q => e q.2)).trans ((f2.1 178 i (by first | exact zqm rfl | simp) (by first | exact zqp rfl | simp)).trans (hg i (by omega))))
          · exact absurd hdd hnd
          
  exact hl1 n 0 _ (by decide) zFr_refl hT (fun i hi => absurd hi (Nat.not_lt_zero i)) (fun i hi => absurd hi (Nat.not_lt_zero i))
  
