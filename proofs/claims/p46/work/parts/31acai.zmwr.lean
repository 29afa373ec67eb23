/-! the reference: rows copied, undone, one act, by W; printed by wip/z/z_g_mwrite.py -/
theorem zm_putsBy {ph : pm_H} {v : Nat → Nat} {u : Nat} (hS : zSh ph) (hv : zNr ph 174 0 v) (gu : zc ph 170 27 = some (.int (zn u))) (hu : u ≤ 15) : zM 238 [.ref 170] ph (fun v0 q => v0 = none ∧ zFr [183] [] ph q ∧ zNr q 183 (41 * u) v ∧ ∀ i, i < 41 * u → zc q 183 i = zc ph 183 i) := by
  obtain ⟨Q, hQ⟩ : ∃ Q : Option Value → pm_H → Prop, Q = (fun v0 q => v0 = none ∧ zFr [183] [] ph q ∧ zNr q 183 (41 * u) v ∧ ∀ i, i < 41 * u → zc q 183 i = zc ph 183 i) := ⟨_, rfl⟩
  rw [← hQ]
  refine zM_mk fun n D => ?_
  show zW n D 238 Q 0 [some (.ref 170), none] [] ph
  have c_0 : ((Int8.ofInt 41).toInt32).toInt = 41 := by decide +kernel
  have c_1 : (Int32.ofInt 0).toInt = 0 := by decide +kernel
  have c_2 : (Int32.ofInt 1).toInt = 1 := by decide +kernel
  have tu := znt (k := u) (by omega)
  refine w_alu (pc' := 1) (st' := [.int (Int32.ofInt 0)]) (ykc_238 (e := (0, .iconst 0, 0)) rfl) rfl rfl ?_
  refine w_store (pc' := 2) (L' := [some (.ref 170), some (.int (Int32.ofInt 0))]) (st' := []) (m := 1) (ykc_238 (e := (3, .istore_n kF1, 0)) rfl) rfl rfl ?_
  have hl : ∀ (n : Nat), ∀ (k : Nat) (ph1 : pm_H), (k ≤ 41) → (zFr [183] [] ph ph1) → (∀ i, i < k → zc ph1 183 (41 * u + i) = some (.int (zn (v i)))) → (∀ i, i < 41 * u → zc ph1 183 i = zc ph 183 i) → zW n D 238 Q 2 [some (.ref 170), some (.int (zn k))] [] ph1 := by
    intro n
    induction n using Nat.strongRecOn with
    | ind n ih =>
      intro k ph1 hk hf hr ho
      have tk := znt (k := k) (by omega)
      refine w_load (pc' := 3) (v := .int (zn k)) (m := 1) (ykc_238 (e := (2, .iload_n kF1, 0)) rfl) rfl rfl ?_
      refine w_push (pc' := 5) (v := .int ((Int8.ofInt 41).toInt32)) (m := 2) (ykc_238 (e := (1, .bipush 41, 0)) rfl) rfl rfl ?_
      refine w_ige (ykc_238 (e := (4, .if_icmp .ge 29, 34)) rfl) rfl (fun b384 => ?_) (fun b384 => ?_)
      · refine w_ret (v := none) (ykc_238 (e := (7, .return_, 0)) rfl) (zr_v rfl) ?_
        rw [hQ]
        exact ⟨rfl, hf, fun i hi => hr i (by omega), ho⟩
      · refine w_load (pc' := 9) (v := .ref 170) (m := 1) (ykc_238 (e := (2, .aload_n kF0, 0)) rfl) rfl rfl ?_
        refine w_gf (pc' := 12) (v := .ref 183) (ykc_238 (e := (5, .getfield 68, 0)) rfl) rfl ((hf.1 170 28 (by first | exact zqm rfl | decide) (by first | exact zqp rfl | decide)).trans (zsg hS zs_170_28)) rfl ?_
        refine w_push (pc' := 14) (v := .int ((Int8.ofInt 41).toInt32)) (m := 2) (ykc_238 (e := (1, .bipush 41, 0)) rfl) rfl rfl ?_
        refine w_load (pc' := 15) (v := .ref 170) (m := 1) (ykc_238 (e := (2, .aload_n kF0, 0)) rfl) rfl rfl ?_
        refine w_gf (pc' := 18) (v := .int (zn u)) (ykc_238 (e := (5, .getfield 188, 0)) rfl) rfl ((hf.1 170 27 (by first | exact zqm rfl | decide) (by first | exact zqp rfl | decide)).trans gu) rfl ?_
        have e385 : ((Int8.ofInt 41).toInt32) * (zn u) = zn (41 * u) := zn_of (by rw [ti_mul (by rw [show ((Int8.ofInt 41).toInt32).toInt = (41 : Int) by omega, show (zn u).toInt = ((u : Nat) : Int) by omega]; omega) (by rw [show ((Int8.ofInt 41).toInt32).toInt = (41 : Int) by omega, show (zn u).toInt = ((u : Nat) : Int) by omega]; omega), show ((Int8.ofInt 41).toInt32).toInt = (41 : Int) by omega, show (zn u).toInt = ((u : Nat) : Int) by omega] <;> omega)
        have te385 := znt (k := 41 * u) (by omega)
        refine w_alu (pc' := 19) (st' := [.int (zn (41 * u)), .ref 183]) (ykc_238 (e := (0, .imul, 0)) rfl) (by rw [← e385]; rfl) rfl ?_
        refine w_load (pc' := 20) (v := .int (zn k)) (m := 1) (ykc_238 (e := (2, .iload_n kF1, 0)) rfl) rfl rfl ?_
        have e386 : (zn (41 * u)) + (zn k) = zn (41 * u + k) := (zaddN (a := 41 * u) (b := k) (znt (by omega)) (znt (by omega)) (by omega)) 
        have te386 := znt (k := 41 * u + k) (by omega)
        refine w_alu (pc' := 21) (st' := [.int (zn (41 * u + k)), .ref 183]) (ykc_238 (e := (0, .iadd, 0)) rfl) (by rw [← e386]; rfl) rfl ?_
        refine w_load (pc' := 22) (v := .ref 170) (m := 1) (ykc_238 (e := (2, .aload_n kF0, 0)) rfl) rfl rfl ?_
        refine w_gf (pc' := 25) (v := .ref 174) (ykc_238 (e := (5, .getfield 41, 0)) rfl) rfl ((hf.1 170 11 (by first | exact zqm rfl | decide) (by first | exact zqp rfl | decide)).trans (zsg hS zs_170_11)) rfl ?_
        refine w_load (pc' := 26) (v := .int (zn k)) (m := 1) (ykc_238 (e := (2, .iload_n kF1, 0)) rfl) rfl rfl ?_
        refine w_ialk (pc' := 27) (k := k) (ykc_238 (e := (5, .iaload, 0)) rfl) ((hf.1 174 k (by first | exact zqm rfl | decide) (by first | exact zqp rfl | simp)).trans (zNr0 hv (i := k) (by omega))) (by omega) rfl ?_
        refine w_ias (pc' := 28) (k := 41 * u + k) (ykc_238 (e := (5, .iastore, 0)) rfl) (by omega) rfl (fun ph388 u387 => ?_)
        have e389 : (zn k) + Int32.ofInt 1 = zn (k + 1) := (zaddN (a := k) (b := 1) (znt (by omega)) c_2 (by omega))
        have te389 := znt (k := k + 1) (by omega)
        refine w_store (pc' := 31) (L' := [some (.ref 170), some (.int (zn (k + 1)))]) (st' := []) (m := 3) (ykc_238 (e := (3, .iinc 1 1, 0)) rfl) (by rw [← e389]; rfl) rfl ?_
        refine w_gb (ykc_238 (e := (4, .goto (-29), 2)) rfl) (fun k390 hk390 => ?_)
        exact ih k390 hk390 (k + 1) _ (by omega) (zFr_add hf u387 (Or.inl (by first | exact zqi rfl | simp))) (fun i hi => by
          by_cases e : i = k
          · subst e
            exact u387.1
          · exact (u387.2.1 183 (41 * u + i) (fun q => e (by have q2 := q.2; omega))).trans (hr i (by omega))) (fun i hi => (u387.2.1 183 i (fun q => by have q2 := q.2; omega)).trans (ho i hi))
  exact hl n 0 ph (by omega) zFr_refl (fun i hi => absurd hi (Nat.not_lt_zero i)) (fun i hi => rfl)
/-- the rows that can be undone, u of them -/
def zUr (ph : pm_H) (u : Nat) (w : Nat → Nat → Nat) : Prop := ∀ i, i < u → zNr ph 183 (41 * i) (w i)
theorem zUr_F {A : List Nat} {F : List (Nat × Nat)} {p q : pm_H} {u : Nat} {w : Nat → Nat → Nat} (f : zFr A F p q) (hF : ∀ i, (183, i) ∉ F) (hA : 183 ∉ A) (h : zUr p u w) : zUr q u w := fun i hi => zNr_F f hF hA (h i hi)
/-- one row more: the oldest one is forgotten where there are 15 -/
def zAd (u : Nat) : Nat := if u < 15 then u + 1 else 15
def zAw (u : Nat) (w : Nat → Nat → Nat) (i : Nat) : Nat → Nat := if u < 15 then w i else w (i + 1)
theorem zm_adds {ph : pm_H} {w : Nat → Nat → Nat} {u : Nat} {x : Int32} (hS : zSh ph) (gu : zc ph 170 27 = some (.int (zn u))) (hu : u ≤ 15) (hw : zUr ph (u + 1) w) : zM 239 [.ref 170, .int x] ph (fun v0 q => v0 = some (.int x) ∧ zFr [183] [(170, 27)] ph q ∧ zc q 170 27 = some (.int (zn (zAd u))) ∧ zUr q (zAd u) (zAw u w)) := by
  obtain ⟨Q, hQ⟩ : ∃ Q : Option Value → pm_H → Prop, Q = (fun v0 q => v0 = some (.int x) ∧ zFr [183] [(170, 27)] ph q ∧ zc q 170 27 = some (.int (zn (zAd u))) ∧ zUr q (zAd u) (zAw u w)) := ⟨_, rfl⟩
  rw [← hQ]
  refine zM_mk fun n D => ?_
  show zW n D 239 Q 0 [some (.ref 170), some (.int x), none] [] ph
  have c_0 : ((Int16.ofInt 615).toInt32).toInt = 615 := by decide +kernel
  have c_1 : ((Int8.ofInt 15).toInt32).toInt = 15 := by decide +kernel
  have c_2 : ((Int8.ofInt 41).toInt32).toInt = 41 := by decide +kernel
  have c_3 : (Int32.ofInt 0).toInt = 0 := by decide +kernel
  have c_4 : (Int32.ofInt 1).toInt = 1 := by decide +kernel
  have tu := znt (k := u) (by omega)
  refine w_load (pc' := 1) (v := .ref 170) (m := 1) (ykc_239 (e := (2, .aload_n kF0, 0)) rfl) rfl rfl ?_
  refine w_alu (pc' := 2) (st' := [.ref 170, .ref 170]) (ykc_239 (e := (0, .dup, 0)) rfl) rfl rfl ?_
  refine w_gf (pc' := 5) (v := .int (zn u)) (ykc_239 (e := (5, .getfield 188, 0)) rfl) rfl gu rfl ?_
  refine w_alu (pc' := 6) (st' := [.int (Int32.ofInt 1), .int (zn u), .ref 170]) (ykc_239 (e := (0, .iconst 1, 0)) rfl) rfl rfl ?_
  have e391 : (zn u) + (Int32.ofInt 1) = zn (u + 1) := (zaddN (a := u) (b := 1) (znt (by omega)) c_4 (by omega)) 
  have te391 := znt (k := u + 1) (by omega)
  refine w_alu (pc' := 7) (st' := [.int (zn (u + 1)), .ref 170]) (ykc_239 (e := (0, .iadd, 0)) rfl) (by rw [← e391]; rfl) rfl ?_
  refine w_pf (pc' := 10) (ykc_239 (e := (5, .putfield 188, 0)) rfl) rfl rfl (fun ph393 u392 => ?_)
  refine w_load (pc' := 11) (v := .ref 170) (m := 1) (ykc_239 (e := (2, .aload_n kF0, 0)) rfl) rfl rfl ?_
  refine w_gf (pc' := 14) (v := .int (zn (u + 1))) (ykc_239 (e := (5, .getfield 188, 0)) rfl) rfl u392.1 rfl ?_
  refine w_push (pc' := 16) (v := .int ((Int8.ofInt 15).toInt32)) (m := 2) (ykc_239 (e := (1, .bipush 15, 0)) rfl) rfl rfl ?_
  have hrow : ∀ i, i < 41 * (u + 1) → zc ph 183 i = some (.int (zn (w (i / 41) (i % 41)))) := fun i hi => by
    have h := hw (i / 41) (by omega) (i % 41) (by omega)
    rwa [show 41 * (i / 41) + i % 41 = i by omega] at h
  have hl : ∀ (n : Nat), ∀ (k : Nat) (ph1 : pm_H), (u = 15) → (k ≤ 615) → (zFr [183] [(170, 27)] ph ph1) → (zc ph1 170 27 = some (.int (zn (u + 1)))) → (∀ i, i < k → zc ph1 183 i = some (.int (zn (w (i / 41 + 1) (i % 41))))) → (∀ i, k ≤ i → zc ph1 183 i = zc ph 183 i) → zW n D 239 Q 21 [some (.ref 170), some (.int x), some (.int (zn k))] [] ph1 := by
    intro n
    induction n using Nat.strongRecOn with
    | ind n ih =>
      intro k ph1 hu15 hk hf h27 hn ho
      have hS0 := hS
      have hS : zSh ph1 := zSh_F hf (by decide +kernel) hS0
      have tk := znt (k := k) (by omega)
      have tu1 := znt (k := u + 1) (by omega)
      refine w_load (pc' := 22) (v := .int (zn k)) (m := 1) (ykc_239 (e := (2, .iload_n kF2, 0)) rfl) rfl rfl ?_
      refine w_push (pc' := 25) (v := .int ((Int16.ofInt 615).toInt32)) (m := 3) (ykc_239 (e := (1, .sipush 615, 0)) rfl) rfl rfl ?_
      refine w_ige (ykc_239 (e := (4, .if_icmp .ge 24, 49)) rfl) rfl (fun b394 => ?_) (fun b394 => ?_)
      · refine w_load (pc' := 50) (v := .ref 170) (m := 1) (ykc_239 (e := (2, .aload_n kF0, 0)) rfl) rfl rfl ?_
        refine w_alu (pc' := 51) (st' := [.ref 170, .ref 170]) (ykc_239 (e := (0, .dup, 0)) rfl) rfl rfl ?_
        refine w_gf (pc' := 54) (v := .int (zn (u + 1))) (ykc_239 (e := (5, .getfield 188, 0)) rfl) rfl h27 rfl ?_
        refine w_alu (pc' := 55) (st' := [.int (Int32.ofInt 1), .int (zn (u + 1)), .ref 170]) (ykc_239 (e := (0, .iconst 1, 0)) rfl) rfl rfl ?_
        have e395 : (zn (u + 1)) - (Int32.ofInt 1) = zn (u) := zn_of (by have := ti_sub (x := (zn (u + 1))) (y := (Int32.ofInt 1)) (by omega) (by omega); omega)
        have te395 := znt (k := u) (by omega)
        refine w_alu (pc' := 56) (st' := [.int (zn (u)), .ref 170]) (ykc_239 (e := (0, .isub, 0)) rfl) (by rw [← e395]; rfl) rfl ?_
        refine w_pf (pc' := 59) (ykc_239 (e := (5, .putfield 188, 0)) rfl) rfl rfl (fun ph397 u396 => ?_)
        refine w_load (pc' := 60) (v := .int x) (m := 1) (ykc_239 (e := (2, .iload_n kF1, 0)) rfl) rfl rfl ?_
        refine w_ret (v := (some (.int x))) (ykc_239 (e := (7, .ireturn, 0)) rfl) (zr_v rfl) ?_
        rw [hQ]
        have hnl : ¬ u < 15 := by omega
        refine ⟨rfl, zFr_trans hf (zFr_st u396 (Or.inr (by first | exact zqj rfl | simp))), ?_, fun i hi => ?_⟩
        · unfold zAd; rw [if_neg hnl, show (15 : Nat) = u by omega]; exact u396.1
        · unfold zAd at hi
          rw [if_neg hnl] at hi
          unfold zAw
          rw [if_neg hnl]
          intro j hj
          refine (u396.2.1 183 (41 * i + j) (fun q => absurd q.1 (by first | exact Nat.ne_of_beq_eq_false rfl | decide))).trans ((hn (41 * i + j) (by omega)).trans ?_)
          rw [show (41 * i + j) / 41 = i by omega, show (41 * i + j) % 41 = j by omega]
      · refine w_load (pc' := 29) (v := .ref 170) (m := 1) (ykc_239 (e := (2, .aload_n kF0, 0)) rfl) rfl rfl ?_
        refine w_gf (pc' := 32) (v := .ref 183) (ykc_239 (e := (5, .getfield 68, 0)) rfl) rfl (zsg hS zs_170_28) rfl ?_
        refine w_load (pc' := 33) (v := .int (zn k)) (m := 1) (ykc_239 (e := (2, .iload_n kF2, 0)) rfl) rfl rfl ?_
        refine w_load (pc' := 34) (v := .ref 170) (m := 1) (ykc_239 (e := (2, .aload_n kF0, 0)) rfl) rfl rfl ?_
        refine w_gf (pc' := 37) (v := .ref 183) (ykc_239 (e := (5, .getfield 68, 0)) rfl) rfl (zsg hS zs_170_28) rfl ?_
        refine w_load (pc' := 38) (v := .int (zn k)) (m := 1) (ykc_239 (e := (2, .iload_n kF2, 0)) rfl) rfl rfl ?_
        refine w_push (pc' := 40) (v := .int ((Int8.ofInt 41).toInt32)) (m := 2) (ykc_239 (e := (1, .bipush 41, 0)) rfl) rfl rfl ?_
        have e398 : (zn k) + ((Int8.ofInt 41).toInt32) = zn (k + 41) := (zaddN (a := k) (b := 41) (znt (by omega)) c_2 (by omega)) 
        have te398 := znt (k := k + 41) (by omega)
        refine w_alu (pc' := 41) (st' := [.int (zn (k + 41)), .ref 183, .int (zn k), .ref 183]) (ykc_239 (e := (0, .iadd, 0)) rfl) (by rw [← e398]; rfl) rfl ?_
        refine w_ialk (pc' := 42) (k := k + 41) (ykc_239 (e := (5, .iaload, 0)) rfl) (by have h := (ho (k + 41) (by omega)).trans (hrow (k + 41) (by omega)); rwa [show (k + 41) / 41 = k / 41 + 1 by omega, show (k + 41) % 41 = k % 41 by omega] at h) (by omega) rfl ?_
        refine w_ias (pc' := 43) (k := k) (ykc_239 (e := (5, .iastore, 0)) rfl) (by omega) rfl (fun ph400 u399 => ?_)
        have e401 : (zn k) + Int32.ofInt 1 = zn (k + 1) := (zaddN (a := k) (b := 1) (znt (by omega)) c_4 (by omega))
        have te401 := znt (k := k + 1) (by omega)
        refine w_store (pc' := 46) (L' := [some (.ref 170), some (.int x), some (.int (zn (k + 1)))]) (st' := []) (m := 3) (ykc_239 (e := (3, .iinc 2 1, 0)) rfl) (by rw [← e401]; rfl) rfl ?_
        refine w_gb (ykc_239 (e := (4, .goto (-25), 21)) rfl) (fun k402 hk402 => ?_)
        exact ih k402 hk402 (k + 1) _ hu15 (by omega) (zFr_add hf u399 (Or.inl (by first | exact zqi rfl | simp))) ((u399.2.1 170 27 (fun q => absurd q.1 (by first | exact Nat.ne_of_beq_eq_false rfl | decide))).trans h27) (fun i hi => by
          by_cases e : i = k
          · subst e
            exact u399.1
          · exact (u399.2.1 183 i (fun q => e q.2)).trans (hn i (by omega))) (fun i hi => (u399.2.1 183 i (fun q => by have q2 := q.2; omega)).trans (ho i (by omega)))
  refine w_ile (ykc_239 (e := (4, .if_icmp .le 43, 59)) rfl) rfl (fun b403 => ?_) (fun b403 => ?_)
  · refine w_load (pc' := 60) (v := .int x) (m := 1) (ykc_239 (e := (2, .iload_n kF1, 0)) rfl) rfl rfl ?_
    refine w_ret (v := (some (.int x))) (ykc_239 (e := (7, .ireturn, 0)) rfl) (zr_v rfl) ?_
    rw [hQ]
    have hlt : u < 15 := by omega
    refine ⟨rfl, zFr_st u392 (Or.inr (by first | exact zqj rfl | simp)), ?_, fun i hi => ?_⟩
    · unfold zAd; rw [if_pos hlt]; exact u392.1
    · unfold zAd at hi
      rw [if_pos hlt] at hi
      unfold zAw
      rw [if_pos hlt]
      exact zNr_F (A := []) (F := [(170, 27)]) (zFr_st u392 (Or.inr (by first | exact zqj rfl | simp))) (by simp) (by simp) (hw i hi)
  · refine w_alu (pc' := 20) (st' := [.int (Int32.ofInt 0)]) (ykc_239 (e := (0, .iconst 0, 0)) rfl) rfl rfl ?_
    refine w_store (pc' := 21) (L' := [some (.ref 170), some (.int x), some (.int (Int32.ofInt 0))]) (st' := []) (m := 1) (ykc_239 (e := (3, .istore_n kF2, 0)) rfl) rfl rfl ?_
    exact hl n 0 ph393 (by omega) (by omega) (zFr_st u392 (Or.inr (by first | exact zqj rfl | simp))) u392.1 (fun i hi => absurd hi (Nat.not_lt_zero i)) (fun i _ => u392.2.1 183 i (fun q => absurd q.1 (by first | exact Nat.ne_of_beq_eq_false rfl | decide)))
