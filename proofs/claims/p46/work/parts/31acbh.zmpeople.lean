/-! people and things of the reference, by W; printed by wip/z/z1f_mpeople.py -/
theorem zm_rfield {ph : pm_H} {R C a b ln : Nat} {rk : Nat → Bool} {t : Nat → Nat} (hS : zSh ph) (hL : zMl ph R C rk) (hT : zTm ph a b ln t) : zM 203 [.ref 170] ph (fun v0 q => zFr [] [(170, 15)] ph q ∧ ((zLd b t R a = true ∧ zLd b t C (a + 1) = true ∧ v0 = some (.int (zn (zLf C t a))) ∧ zTm q (a + 2) b ln t) ∨ (zLd b t R a = true ∧ zLd b t C (a + 1) = false ∧ v0 = some (.int (Int32.ofInt (-1))) ∧ zTm q (a + 1) b ln t) ∨ (zLd b t R a = false ∧ v0 = some (.int (Int32.ofInt (-1))) ∧ zTm q a b ln t))) := by
  obtain ⟨Q, hQ⟩ : ∃ Q : Option Value → pm_H → Prop, Q = (fun v0 q => zFr [] [(170, 15)] ph q ∧ ((zLd b t R a = true ∧ zLd b t C (a + 1) = true ∧ v0 = some (.int (zn (zLf C t a))) ∧ zTm q (a + 2) b ln t) ∨ (zLd b t R a = true ∧ zLd b t C (a + 1) = false ∧ v0 = some (.int (Int32.ofInt (-1))) ∧ zTm q (a + 1) b ln t) ∨ (zLd b t R a = false ∧ v0 = some (.int (Int32.ofInt (-1))) ∧ zTm q a b ln t))) := ⟨_, rfl⟩
  rw [← hQ]
  refine zM_mk fun n D => ?_
  show zW n D 203 Q 0 [some (.ref 170), none, none] [] ph
  have c_0 : (Int32.ofInt (-1)).toInt = -1 := by decide +kernel
  have c_1 : (Int32.ofInt 0).toInt = 0 := by decide +kernel
  have c_2 : (Int32.ofInt 1).toInt = 1 := by decide +kernel
  have hab := hT.2.2.1
  have hbln := hT.2.2.2.1
  have hb80 : b ≤ 80 := Nat.le_trans hT.2.2.2.1 hT.2.2.2.2.1
  obtain ⟨gR, gC, gK, hR3, hR7, hC3, hC7⟩ := hL
  have tR := znt (k := R) (by omega)
  have tC := znt (k := C) (by omega)
  refine w_load (pc' := 1) (v := .ref 170) (m := 1) (ykc_203 (e := (2, .aload_n kF0, 0)) rfl) rfl rfl ?_
  refine w_alu (pc' := 2) (st' := [.int (Int32.ofInt 0), .ref 170]) (ykc_203 (e := (0, .iconst 0, 0)) rfl) rfl rfl ?_
  refine w_load (pc' := 3) (v := .ref 170) (m := 1) (ykc_203 (e := (2, .aload_n kF0, 0)) rfl) rfl rfl ?_
  refine w_gf (pc' := 6) (v := .int (zn R)) (ykc_203 (e := (5, .getfield 24, 0)) rfl) rfl gR rfl ?_
  refine w_alu (pc' := 7) (st' := [.int (Int32.ofInt 1), .int (zn R), .int (Int32.ofInt 0), .ref 170]) (ykc_203 (e := (0, .iconst 1, 0)) rfl) rfl rfl ?_
  have e1871 : (zn R) - (Int32.ofInt 1) = zn (R - 1) := zsubN (a := R) (b := 1) tR c_2 (by omega)
  have te1871 := znt (k := R - 1) (by omega)
  refine w_alu (pc' := 8) (st' := [.int (zn (R - 1)), .int (Int32.ofInt 0), .ref 170]) (ykc_203 (e := (0, .isub, 0)) rfl) (by show some ([.int ((zn R) - (Int32.ofInt 1)), .int (Int32.ofInt 0), .ref 170] : List Value) = _; rw [e1871]) rfl ?_
  refine w_cv (as := [.ref 170, .int (Int32.ofInt 0), .int (zn (R - 1))]) (r := []) (ykc_203 (e := (6, .invokevirtual 179, 0)) rfl) rfl rfl rfl rfl (zm_digitIn hS hT (l := 0) (h := R - 1) (by omega) (by omega)) (fun v1872 ph1873 hv => ?_)
  rcases hv with ⟨fd0, ⟨hc0, rfl, hfd0⟩ | ⟨hc0, rfl, hfd0⟩⟩
  · have r1 : zLd b t R a = true := decide_eq_true (by omega)
    have hb9 := hfd0.2.2.2.2.2 a (by omega)
    have td0 := znt (k := t a - 48) (by omega)
    show zW n D 203 Q 11 [some (.ref 170), none, none] [.int (zn (t a - 48))] ph1873
    refine w_store (pc' := 12) (L' := [some (.ref 170), some (.int (zn (t a - 48))), none]) (st' := []) (m := 1) (ykc_203 (e := (3, .istore_n kF1, 0)) rfl) rfl rfl ?_
    refine w_load (pc' := 13) (v := .int (zn (t a - 48))) (m := 1) (ykc_203 (e := (2, .iload_n kF1, 0)) rfl) rfl rfl ?_
    refine w_zge (ykc_203 (e := (4, .ifCond .ge 7, 20)) rfl) rfl (fun b1874 => ?_) (fun q => by exfalso; omega)
    refine w_load (pc' := 21) (v := .ref 170) (m := 1) (ykc_203 (e := (2, .aload_n kF0, 0)) rfl) rfl rfl ?_
    refine w_alu (pc' := 22) (st' := [.int (Int32.ofInt 0), .ref 170]) (ykc_203 (e := (0, .iconst 0, 0)) rfl) rfl rfl ?_
    refine w_load (pc' := 23) (v := .ref 170) (m := 1) (ykc_203 (e := (2, .aload_n kF0, 0)) rfl) rfl rfl ?_
    refine w_gf (pc' := 26) (v := .int (zn C)) (ykc_203 (e := (5, .getfield 27, 0)) rfl) rfl ((fd0.1 170 4 (by first | exact zqm rfl | decide) (by first | exact zqp rfl | decide)).trans gC) rfl ?_
    refine w_alu (pc' := 27) (st' := [.int (Int32.ofInt 1), .int (zn C), .int (Int32.ofInt 0), .ref 170]) (ykc_203 (e := (0, .iconst 1, 0)) rfl) rfl rfl ?_
    have e1875 : (zn C) - (Int32.ofInt 1) = zn (C - 1) := zsubN (a := C) (b := 1) tC c_2 (by omega)
    have te1875 := znt (k := C - 1) (by omega)
    refine w_alu (pc' := 28) (st' := [.int (zn (C - 1)), .int (Int32.ofInt 0), .ref 170]) (ykc_203 (e := (0, .isub, 0)) rfl) (by show some ([.int ((zn C) - (Int32.ofInt 1)), .int (Int32.ofInt 0), .ref 170] : List Value) = _; rw [e1875]) rfl ?_
    refine w_cv (as := [.ref 170, .int (Int32.ofInt 0), .int (zn (C - 1))]) (r := []) (ykc_203 (e := (6, .invokevirtual 179, 0)) rfl) rfl rfl rfl rfl (zm_digitIn (zF15_S fd0 hS) hfd0 (l := 0) (h := C - 1) (by omega) (by omega)) (fun v1876 ph1877 hv => ?_)
    rcases hv with ⟨fd1, ⟨hc1, rfl, hfd1⟩ | ⟨hc1, rfl, hfd1⟩⟩
    · have r2 : zLd b t C (a + 1) = true := decide_eq_true (by omega)
      have hb8 := hfd0.2.2.2.2.2 (a + 1) (by omega)
      have td1 := znt (k := t (a + 1) - 48) (by omega)
      show zW n D 203 Q 31 [some (.ref 170), some (.int (zn (t a - 48))), none] [.int (zn (t (a + 1) - 48))] ph1877
      refine w_store (pc' := 32) (L' := [some (.ref 170), some (.int (zn (t a - 48))), some (.int (zn (t (a + 1) - 48)))]) (st' := []) (m := 1) (ykc_203 (e := (3, .istore_n kF2, 0)) rfl) rfl rfl ?_
      refine w_load (pc' := 33) (v := .int (zn (t (a + 1) - 48))) (m := 1) (ykc_203 (e := (2, .iload_n kF2, 0)) rfl) rfl rfl ?_
      refine w_zge (ykc_203 (e := (4, .ifCond .ge 7, 40)) rfl) rfl (fun b1878 => ?_) (fun q => by exfalso; omega)
      refine w_load (pc' := 41) (v := .ref 170) (m := 1) (ykc_203 (e := (2, .aload_n kF0, 0)) rfl) rfl rfl ?_
      refine w_gf (pc' := 44) (v := .int (zn C)) (ykc_203 (e := (5, .getfield 27, 0)) rfl) rfl ((fd1.1 170 4 (by first | exact zqm rfl | decide) (by first | exact zqp rfl | decide)).trans ((fd0.1 170 4 (by first | exact zqm rfl | decide) (by first | exact zqp rfl | decide)).trans gC)) rfl ?_
      refine w_load (pc' := 45) (v := .int (zn (t a - 48))) (m := 1) (ykc_203 (e := (2, .iload_n kF1, 0)) rfl) rfl rfl ?_
      have hm9 : C * (t a - 48) ≤ 7 * 7 := Nat.mul_le_mul (by omega) (by omega)
      have e1879 : (zn C) * (zn (t a - 48)) = zn (C * (t a - 48)) := zn_of (zmulN (by omega) (by omega) (by omega) (by omega))
      have te1879 := znt (k := C * (t a - 48)) (by omega)
      refine w_alu (pc' := 46) (st' := [.int (zn (C * (t a - 48)))]) (ykc_203 (e := (0, .imul, 0)) rfl) (by rw [← e1879]; rfl) rfl ?_
      refine w_load (pc' := 47) (v := .int (zn (t (a + 1) - 48))) (m := 1) (ykc_203 (e := (2, .iload_n kF2, 0)) rfl) rfl rfl ?_
      have e1880 : (zn (C * (t a - 48))) + (zn (t (a + 1) - 48)) = zn (C * (t a - 48) + (t (a + 1) - 48)) := (zaddN (a := C * (t a - 48)) (b := t (a + 1) - 48) (znt (by omega)) (znt (by omega)) (by omega)) 
      have te1880 := znt (k := C * (t a - 48) + (t (a + 1) - 48)) (by omega)
      refine w_alu (pc' := 48) (st' := [.int (zn (C * (t a - 48) + (t (a + 1) - 48)))]) (ykc_203 (e := (0, .iadd, 0)) rfl) (by rw [← e1880]; rfl) rfl ?_
      refine w_ret (v := (some (.int (zn (C * (t a - 48) + (t (a + 1) - 48)))))) (ykc_203 (e := (7, .ireturn, 0)) rfl) (zr_v rfl) ?_
      rw [hQ]
      exact ⟨zFr_trans fd0 fd1, Or.inl ⟨r1, r2, rfl, hfd1⟩⟩
    · have r2 : zLd b t C (a + 1) = false := decide_eq_false (by omega)
      show zW n D 203 Q 31 [some (.ref 170), some (.int (zn (t a - 48))), none] [.int (Int32.ofInt (-1))] ph1877
      refine w_store (pc' := 32) (L' := [some (.ref 170), some (.int (zn (t a - 48))), some (.int (Int32.ofInt (-1)))]) (st' := []) (m := 1) (ykc_203 (e := (3, .istore_n kF2, 0)) rfl) rfl rfl ?_
      refine w_load (pc' := 33) (v := .int (Int32.ofInt (-1))) (m := 1) (ykc_203 (e := (2, .iload_n kF2, 0)) rfl) rfl rfl ?_
      refine w_zge (ykc_203 (e := (4, .ifCond .ge 7, 40)) rfl) rfl (fun q => by exfalso; omega) (fun b1881 => ?_)
      refine w_alu (pc' := 37) (st' := [.int (Int32.ofInt (-1))]) (ykc_203 (e := (0, .iconst (-1), 0)) rfl) rfl rfl ?_
      refine w_br (pc' := 48) (st' := [.int (Int32.ofInt (-1))]) (ykc_203 (e := (4, .goto 11, 48)) rfl) rfl ?_
      refine w_ret (v := (some (.int (Int32.ofInt (-1))))) (ykc_203 (e := (7, .ireturn, 0)) rfl) (zr_v rfl) ?_
      rw [hQ]
      exact ⟨zFr_trans fd0 fd1, Or.inr (Or.inl ⟨r1, r2, rfl, hfd1⟩)⟩
    
  · have r1 : zLd b t R a = false := decide_eq_false (by omega)
    show zW n D 203 Q 11 [some (.ref 170), none, none] [.int (Int32.ofInt (-1))] ph1873
    refine w_store (pc' := 12) (L' := [some (.ref 170), some (.int (Int32.ofInt (-1))), none]) (st' := []) (m := 1) (ykc_203 (e := (3, .istore_n kF1, 0)) rfl) rfl rfl ?_
    refine w_load (pc' := 13) (v := .int (Int32.ofInt (-1))) (m := 1) (ykc_203 (e := (2, .iload_n kF1, 0)) rfl) rfl rfl ?_
    refine w_zge (ykc_203 (e := (4, .ifCond .ge 7, 20)) rfl) rfl (fun q => by exfalso; omega) (fun b1882 => ?_)
    refine w_alu (pc' := 17) (st' := [.int (Int32.ofInt (-1))]) (ykc_203 (e := (0, .iconst (-1), 0)) rfl) rfl rfl ?_
    refine w_br (pc' := 31) (st' := [.int (Int32.ofInt (-1))]) (ykc_203 (e := (4, .goto 14, 31)) rfl) rfl ?_
    refine w_store (pc' := 32) (L' := [some (.ref 170), some (.int (Int32.ofInt (-1))), some (.int (Int32.ofInt (-1)))]) (st' := []) (m := 1) (ykc_203 (e := (3, .istore_n kF2, 0)) rfl) rfl rfl ?_
    refine w_load (pc' := 33) (v := .int (Int32.ofInt (-1))) (m := 1) (ykc_203 (e := (2, .iload_n kF2, 0)) rfl) rfl rfl ?_
    refine w_zge (ykc_203 (e := (4, .ifCond .ge 7, 40)) rfl) rfl (fun q => by exfalso; omega) (fun b1883 => ?_)
    refine w_alu (pc' := 37) (st' := [.int (Int32.ofInt (-1))]) (ykc_203 (e := (0, .iconst (-1), 0)) rfl) rfl rfl ?_
    refine w_br (pc' := 48) (st' := [.int (Int32.ofInt (-1))]) (ykc_203 (e := (4, .goto 11, 48)) rfl) rfl ?_
    refine w_ret (v := (some (.int (Int32.ofInt (-1))))) (ykc_203 (e := (7, .ireturn, 0)) rfl) (zr_v rfl) ?_
    rw [hQ]
    exact ⟨fd0, Or.inr (Or.inr ⟨r1, rfl, hfd0⟩)⟩
theorem zb0 {R C : Nat} : zLb R C 0 = R := rfl
theorem zb1 {R C : Nat} : zLb R C 1 = C := rfl
theorem zb2 {R C : Nat} : zLb R C 2 = 8 := rfl
theorem zb3 {R C : Nat} : zLb R C 3 = 5 := rfl
theorem zLd_b {n b p bd : Nat} {t : Nat → Nat} (h : p < b ↔ p < n) : zLd b t bd p = zLd n t bd p := by
  unfold zLd
  exact decide_eq_decide.mpr ⟨fun q => ⟨h.mp q.1, q.2⟩, fun q => ⟨h.mpr q.1, q.2⟩⟩
theorem zLk_b {R C wd n b p i : Nat} {rk : Nat → Bool} {t : Nat → Nat} (h : p + i < b ↔ p + i < n) : zLk R C rk wd b t p i = zLk R C rk wd n t p i := by
  unfold zLk
  rw [zLd_b h]
theorem zLg_b {R C wd n b p : Nat} {rk : Nat → Bool} {t : Nat → Nat} : ∀ {k : Nat}, (∀ i, i < k → (p + i < b ↔ p + i < n)) → zLg R C rk wd b t p k = zLg R C rk wd n t p k
  | 0, _ => rfl
  | k + 1, h => by
    show (if zLg R C rk wd b t p k = k ∧ zLk R C rk wd b t p k = true then k + 1 else zLg R C rk wd b t p k) = (if zLg R C rk wd n t p k = k ∧ zLk R C rk wd n t p k = true then k + 1 else zLg R C rk wd n t p k)
    rw [zLg_b (k := k) (fun i hi => h i (by omega)), zLk_b (h k (by omega))]
theorem zLk_t {R C wd n p i : Nat} {rk : Nat → Bool} {t : Nat → Nat} (h : zLd n t (zLb R C i) (p + i) = true) (h2 : ¬ (wd = 4 ∧ i = 1) ∨ rk (zLf C t p) = false) : zLk R C rk wd n t p i = true := zLk_1 (of_decide_eq_true h) h2
theorem zLk_n {R C wd n p i : Nat} {rk : Nat → Bool} {t : Nat → Nat} (h : zLd n t (zLb R C i) (p + i) = false) : zLk R C rk wd n t p i = false := zLk_0 (of_decide_eq_false h)
theorem zLg_4 {R C wd n p : Nat} {rk : Nat → Bool} {t : Nat → Nat} : (zLk R C rk wd n t p 0 = false → zLg R C rk wd n t p 4 = 0) ∧ (zLk R C rk wd n t p 0 = true → zLk R C rk wd n t p 1 = false → zLg R C rk wd n t p 4 = 1) ∧ (zLk R C rk wd n t p 0 = true → zLk R C rk wd n t p 1 = true → zLk R C rk wd n t p 2 = false → zLg R C rk wd n t p 4 = 2) ∧ (zLk R C rk wd n t p 0 = true → zLk R C rk wd n t p 1 = true → zLk R C rk wd n t p 2 = true → zLk R C rk wd n t p 3 = false → zLg R C rk wd n t p 4 = 3) ∧ (zLk R C rk wd n t p 0 = true → zLk R C rk wd n t p 1 = true → zLk R C rk wd n t p 2 = true → zLk R C rk wd n t p 3 = true → zLg R C rk wd n t p 4 = 4) :=
  ⟨fun h => zLg_f (i := 0) rfl h 3, fun h0 h1 => zLg_f (zLg_s rfl h0) h1 2, fun h0 h1 h2 => zLg_f (zLg_s (zLg_s rfl h0) h1) h2 1, fun h0 h1 h2 h3 => zLg_f (zLg_s (zLg_s (zLg_s rfl h0) h1) h2) h3 0, fun h0 h1 h2 h3 => zLg_s (zLg_s (zLg_s (zLg_s rfl h0) h1) h2) h3⟩
theorem zLg_2 {R C wd n p : Nat} {rk : Nat → Bool} {t : Nat → Nat} : (zLk R C rk wd n t p 0 = false → zLg R C rk wd n t p 2 = 0) ∧ (zLk R C rk wd n t p 0 = true → zLk R C rk wd n t p 1 = false → zLg R C rk wd n t p 2 = 1) ∧ (zLk R C rk wd n t p 0 = true → zLk R C rk wd n t p 1 = true → zLg R C rk wd n t p 2 = 2) :=
  ⟨fun h => zLg_f (i := 0) rfl h 1, fun h0 h1 => zLg_f (zLg_s rfl h0) h1 0, fun h0 h1 => zLg_s (zLg_s rfl h0) h1⟩
theorem zm_rperson {ph : pm_H} {R C a b ln : Nat} {rk : Nat → Bool} {t : Nat → Nat} (hS : zSh ph) (hL : zMl ph R C rk) (hT : zTm ph a b ln t) {l N : Nat} (hl : zc ph 170 20 = some (.int (zn l))) (hl8 : l < 8) (hN : zc ph 170 5 = some (.int (zn N))) (hN8 : N + l ≤ 8) : zM 204 [.ref 170] ph (fun v0 q => zFr [178] [(170, 15), (170, 20)] ph q ∧ ((N + l = 8 ∧ v0 = some (.int (zI false)) ∧ zTm q a b ln t) ∨ (N + l < 8 ∧ zLg R C rk 4 b t a 4 = 4 ∧ v0 = some (.int (zI true)) ∧ zTm q (a + 4) b ln t ∧ zc q 170 20 = some (.int (zn (l + 1))) ∧ zc q 178 (3 * l) = some (.int (zn (zLf C t a))) ∧ zc q 178 (3 * l + 1) = some (.int (zn (t (a + 2) - 48))) ∧ zc q 178 (3 * l + 2) = some (.int (zn (t (a + 3) - 48))) ∧ ∀ i, i < 3 * l → zc q 178 i = zc ph 178 i) ∨ (N + l < 8 ∧ zLg R C rk 4 b t a 4 < 4 ∧ v0 = some (.int (zI false)) ∧ zTm q (a + zLg R C rk 4 b t a 4) b ln t))) := by
  obtain ⟨Q, hQ⟩ : ∃ Q : Option Value → pm_H → Prop, Q = (fun v0 q => zFr [178] [(170, 15), (170, 20)] ph q ∧ ((N + l = 8 ∧ v0 = some (.int (zI false)) ∧ zTm q a b ln t) ∨ (N + l < 8 ∧ zLg R C rk 4 b t a 4 = 4 ∧ v0 = some (.int (zI true)) ∧ zTm q (a + 4) b ln t ∧ zc q 170 20 = some (.int (zn (l + 1))) ∧ zc q 178 (3 * l) = some (.int (zn (zLf C t a))) ∧ zc q 178 (3 * l + 1) = some (.int (zn (t (a + 2) - 48))) ∧ zc q 178 (3 * l + 2) = some (.int (zn (t (a + 3) - 48))) ∧ ∀ i, i < 3 * l → zc q 178 i = zc ph 178 i) ∨ (N + l < 8 ∧ zLg R C rk 4 b t a 4 < 4 ∧ v0 = some (.int (zI false)) ∧ zTm q (a + zLg R C rk 4 b t a 4) b ln t))) := ⟨_, rfl⟩
  rw [← hQ]
  refine zM_mk fun n D => ?_
  show zW n D 204 Q 0 [some (.ref 170), none] [] ph
  have c_0 : ((Int8.ofInt 7).toInt32).toInt = 7 := by decide +kernel
  have c_1 : ((Int8.ofInt 8).toInt32).toInt = 8 := by decide +kernel
  have c_2 : (Int32.ofInt (-1)).toInt = -1 := by decide +kernel
  have c_3 : (Int32.ofInt 0).toInt = 0 := by decide +kernel
  have c_4 : (Int32.ofInt 1).toInt = 1 := by decide +kernel
  have c_5 : (Int32.ofInt 2).toInt = 2 := by decide +kernel
  have c_6 : (Int32.ofInt 3).toInt = 3 := by decide +kernel
  have c_7 : (Int32.ofInt 4).toInt = 4 := by decide +kernel
  have hL0 := hL
  have hab := hT.2.2.1
  have hb80 : b ≤ 80 := Nat.le_trans hT.2.2.2.1 hT.2.2.2.2.1
  obtain ⟨gR, gC, gK, hR3, hR7, hC3, hC7⟩ := hL
  have hRC := zRC49 hR7 hC7
  have tl := znt (k := l) (by omega)
  have tN := znt (k := N) (by omega)
  obtain ⟨k0, k1, k2, k3, k4⟩ := @zLg_4 R C 4 b a rk t
  refine w_load (pc' := 1) (v := .ref 170) (m := 1) (ykc_204 (e := (2, .aload_n kF0, 0)) rfl) rfl rfl ?_
  refine w_gf (pc' := 4) (v := .int (zn N)) (ykc_204 (e := (5, .getfield 130, 0)) rfl) rfl hN rfl ?_
  refine w_load (pc' := 5) (v := .ref 170) (m := 1) (ykc_204 (e := (2, .aload_n kF0, 0)) rfl) rfl rfl ?_
  refine w_gf (pc' := 8) (v := .int (zn l)) (ykc_204 (e := (5, .getfield 197, 0)) rfl) rfl hl rfl ?_
  have e1884 : (zn N) + (zn l) = zn (N + l) := (zaddN (a := N) (b := l) (znt (by omega)) (znt (by omega)) (by omega)) 
  have te1884 := znt (k := N + l) (by omega)
  refine w_alu (pc' := 9) (st' := [.int (zn (N + l))]) (ykc_204 (e := (0, .iadd, 0)) rfl) (by rw [← e1884]; rfl) rfl ?_
  refine w_push (pc' := 11) (v := .int ((Int8.ofInt 8).toInt32)) (m := 2) (ykc_204 (e := (1, .bipush 8, 0)) rfl) rfl rfl ?_
  refine w_ine (ykc_204 (e := (4, .if_icmp .ne 5, 16)) rfl) rfl (fun b1885 => ?_) (fun b1885 => ?_)
  · refine w_alu (pc' := 17) (st' := [.int (Int32.ofInt 3)]) (ykc_204 (e := (0, .iconst 3, 0)) rfl) rfl rfl ?_
    refine w_load (pc' := 18) (v := .ref 170) (m := 1) (ykc_204 (e := (2, .aload_n kF0, 0)) rfl) rfl rfl ?_
    refine w_gf (pc' := 21) (v := .int (zn l)) (ykc_204 (e := (5, .getfield 197, 0)) rfl) rfl hl rfl ?_
    have e1886 : (Int32.ofInt 3) * (zn l) = zn (3 * l) := zn_of (by rw [ti_mul (by rw [show (Int32.ofInt 3).toInt = (3 : Int) by omega, show (zn l).toInt = ((l : Nat) : Int) by omega]; omega) (by rw [show (Int32.ofInt 3).toInt = (3 : Int) by omega, show (zn l).toInt = ((l : Nat) : Int) by omega]; omega), show (Int32.ofInt 3).toInt = (3 : Int) by omega, show (zn l).toInt = ((l : Nat) : Int) by omega] <;> omega)
    have te1886 := znt (k := 3 * l) (by omega)
    refine w_alu (pc' := 22) (st' := [.int (zn (3 * l))]) (ykc_204 (e := (0, .imul, 0)) rfl) (by rw [← e1886]; rfl) rfl ?_
    refine w_store (pc' := 23) (L' := [some (.ref 170), some (.int (zn (3 * l)))]) (st' := []) (m := 1) (ykc_204 (e := (3, .istore_n kF1, 0)) rfl) rfl rfl ?_
    refine w_load (pc' := 24) (v := .ref 170) (m := 1) (ykc_204 (e := (2, .aload_n kF0, 0)) rfl) rfl rfl ?_
    refine w_gf (pc' := 27) (v := .ref 178) (ykc_204 (e := (5, .getfield 53, 0)) rfl) rfl (zsg hS zs_170_19) rfl ?_
    refine w_load (pc' := 28) (v := .int (zn (3 * l))) (m := 1) (ykc_204 (e := (2, .iload_n kF1, 0)) rfl) rfl rfl ?_
    refine w_load (pc' := 29) (v := .ref 170) (m := 1) (ykc_204 (e := (2, .aload_n kF0, 0)) rfl) rfl rfl ?_
    refine w_cv (as := [.ref 170]) (r := [.int (zn (3 * l)), .ref 178]) (ykc_204 (e := (6, .invokevirtual 200, 0)) rfl) rfl rfl rfl rfl (zm_rfield hS hL0 hT) (fun v1887 ph1888 hv => ?_)
    rcases hv with ⟨ff, ⟨r1, r2, rfl, hff⟩ | ⟨r1, r2, rfl, hff⟩ | ⟨r1, rfl, hff⟩⟩
    · have y0 : zLk R C rk 4 b t a 0 = true := zLk_t (i := 0) (by rw [zb0]; exact r1) (Or.inl (by omega))
      have d0 : a < b ∧ 48 ≤ t a ∧ t a < 48 + R := of_decide_eq_true r1
      have d1 : a + 1 < b ∧ 48 ≤ t (a + 1) ∧ t (a + 1) < 48 + C := of_decide_eq_true r2
      have lf := zLf_lt (R := R) (C := C) (t := t) (p := a) (by omega) (by omega) d0.2.2 d1.2.2
      have tf := znt (k := zLf C t a) (by omega)
      have gt2 := hff.2.2.2.2.2
      show zW n D 204 Q 32 [some (.ref 170), some (.int (zn (3 * l)))] [.int (zn (zLf C t a)), .int (zn (3 * l)), .ref 178] ph1888
      refine w_ias (pc' := 33) (k := 3 * l) (ykc_204 (e := (5, .iastore, 0)) rfl) (by omega) rfl (fun ph1890 u1889 => ?_)
      refine w_load (pc' := 34) (v := .ref 170) (m := 1) (ykc_204 (e := (2, .aload_n kF0, 0)) rfl) rfl rfl ?_
      refine w_gf (pc' := 37) (v := .ref 178) (ykc_204 (e := (5, .getfield 53, 0)) rfl) rfl ((u1889.2.1 170 19 (fun q => absurd q.1 (by first | exact Nat.ne_of_beq_eq_false rfl | decide))).trans ((ff.1 170 19 (by first | exact zqm rfl | decide) (by first | exact zqp rfl | decide)).trans (zsg hS zs_170_19))) rfl ?_
      refine w_load (pc' := 38) (v := .int (zn (3 * l))) (m := 1) (ykc_204 (e := (2, .iload_n kF1, 0)) rfl) rfl rfl ?_
      refine w_ialk (pc' := 39) (k := 3 * l) (ykc_204 (e := (5, .iaload, 0)) rfl) u1889.1 (by omega) rfl ?_
      refine w_zlt (ykc_204 (e := (4, .ifCond .lt 34, 73)) rfl) rfl (fun q => by exfalso; omega) (fun b1891 => ?_)
      refine w_load (pc' := 43) (v := .ref 170) (m := 1) (ykc_204 (e := (2, .aload_n kF0, 0)) rfl) rfl rfl ?_
      refine w_gf (pc' := 46) (v := .ref 172) (ykc_204 (e := (5, .getfield 33, 0)) rfl) rfl ((u1889.2.1 170 9 (fun q => absurd q.1 (by first | exact Nat.ne_of_beq_eq_false rfl | decide))).trans ((ff.1 170 9 (by first | exact zqm rfl | decide) (by first | exact zqp rfl | decide)).trans (zsg hS zs_170_9))) rfl ?_
      refine w_load (pc' := 47) (v := .ref 170) (m := 1) (ykc_204 (e := (2, .aload_n kF0, 0)) rfl) rfl rfl ?_
      refine w_gf (pc' := 50) (v := .ref 178) (ykc_204 (e := (5, .getfield 53, 0)) rfl) rfl ((u1889.2.1 170 19 (fun q => absurd q.1 (by first | exact Nat.ne_of_beq_eq_false rfl | decide))).trans ((ff.1 170 19 (by first | exact zqm rfl | decide) (by first | exact zqp rfl | decide)).trans (zsg hS zs_170_19))) rfl ?_
      refine w_load (pc' := 51) (v := .int (zn (3 * l))) (m := 1) (ykc_204 (e := (2, .iload_n kF1, 0)) rfl) rfl rfl ?_
      refine w_ialk (pc' := 52) (k := 3 * l) (ykc_204 (e := (5, .iaload, 0)) rfl) u1889.1 (by omega) rfl ?_
      refine w_balk (pc' := 53) (k := zLf C t a) (ykc_204 (e := (5, .baload, 0)) rfl) ((u1889.2.1 172 (zLf C t a) (fun q => absurd q.1 (by first | exact Nat.ne_of_beq_eq_false rfl | decide))).trans ((ff.1 172 (zLf C t a) (by first | exact zqm rfl | decide) (by first | exact zqp rfl | simp)).trans (gK (zLf C t a) lf))) (by omega) rfl ?_
      refine w_beq (ykc_204 (e := (4, .ifCond .eq 20, 73)) rfl) rfl (fun b1892 => ?_) (fun b1892 => ?_)
      · have hrk := b1892
        have y1 : zLk R C rk 4 b t a 1 = true := zLk_t (i := 1) (by rw [zb1]; exact r2) (Or.inr hrk)
        refine w_load (pc' := 74) (v := .ref 170) (m := 1) (ykc_204 (e := (2, .aload_n kF0, 0)) rfl) rfl rfl ?_
        refine w_gf (pc' := 77) (v := .ref 178) (ykc_204 (e := (5, .getfield 53, 0)) rfl) rfl ((u1889.2.1 170 19 (fun q => absurd q.1 (by first | exact Nat.ne_of_beq_eq_false rfl | decide))).trans ((ff.1 170 19 (by first | exact zqm rfl | decide) (by first | exact zqp rfl | decide)).trans (zsg hS zs_170_19))) rfl ?_
        refine w_load (pc' := 78) (v := .int (zn (3 * l))) (m := 1) (ykc_204 (e := (2, .iload_n kF1, 0)) rfl) rfl rfl ?_
        refine w_alu (pc' := 79) (st' := [.int (Int32.ofInt 1), .int (zn (3 * l)), .ref 178]) (ykc_204 (e := (0, .iconst 1, 0)) rfl) rfl rfl ?_
        have e1893 : (zn (3 * l)) + (Int32.ofInt 1) = zn (3 * l + 1) := (zaddN (a := 3 * l) (b := 1) (znt (by omega)) c_4 (by omega)) 
        have te1893 := znt (k := 3 * l + 1) (by omega)
        refine w_alu (pc' := 80) (st' := [.int (zn (3 * l + 1)), .ref 178]) (ykc_204 (e := (0, .iadd, 0)) rfl) (by rw [← e1893]; rfl) rfl ?_
        refine w_load (pc' := 81) (v := .ref 170) (m := 1) (ykc_204 (e := (2, .aload_n kF0, 0)) rfl) rfl rfl ?_
        refine w_gf (pc' := 84) (v := .ref 178) (ykc_204 (e := (5, .getfield 53, 0)) rfl) rfl ((u1889.2.1 170 19 (fun q => absurd q.1 (by first | exact Nat.ne_of_beq_eq_false rfl | decide))).trans ((ff.1 170 19 (by first | exact zqm rfl | decide) (by first | exact zqp rfl | decide)).trans (zsg hS zs_170_19))) rfl ?_
        refine w_load (pc' := 85) (v := .int (zn (3 * l))) (m := 1) (ykc_204 (e := (2, .iload_n kF1, 0)) rfl) rfl rfl ?_
        refine w_ialk (pc' := 86) (k := 3 * l) (ykc_204 (e := (5, .iaload, 0)) rfl) u1889.1 (by omega) rfl ?_
        refine w_zge (ykc_204 (e := (4, .ifCond .ge 7, 93)) rfl) rfl (fun b1894 => ?_) (fun q => by exfalso; omega)
        refine w_load (pc' := 94) (v := .ref 170) (m := 1) (ykc_204 (e := (2, .aload_n kF0, 0)) rfl) rfl rfl ?_
        refine w_alu (pc' := 95) (st' := [.int (Int32.ofInt 0), .ref 170, .int (zn (3 * l + 1)), .ref 178]) (ykc_204 (e := (0, .iconst 0, 0)) rfl) rfl rfl ?_
        refine w_push (pc' := 97) (v := .int ((Int8.ofInt 7).toInt32)) (m := 2) (ykc_204 (e := (1, .bipush 7, 0)) rfl) rfl rfl ?_
        refine w_cv (as := [.ref 170, .int (Int32.ofInt 0), .int ((Int8.ofInt 7).toInt32)]) (r := [.int (zn (3 * l + 1)), .ref 178]) (ykc_204 (e := (6, .invokevirtual 179, 0)) rfl) rfl rfl rfl rfl (zm_digitIn (zSh_F ((zFr_trans (zFr_mono ff (by first | exact zqa rfl | simp) (by first | exact zqf rfl | simp)) (zFr_st u1889 (Or.inl (by first | exact zqi rfl | simp)))) : zFr [178] [(170, 15), (170, 20)] ph _) (by decide +kernel) hS) (zTm_F (zFr_st u1889 (Or.inl (by first | exact zqi rfl | simp)) : zFr [178] [(170, 20)] _ _) (by first | exact ⟨zqm rfl, zqm rfl⟩ | simp) (by first | exact ⟨zqp rfl, zqp rfl⟩ | simp) (by first | exact (fun _ => zqr rfl) | simp) hff) (l := 0) (h := 7) (by omega) (by omega)) (fun v1895 ph1896 hv => ?_)
        rcases hv with ⟨f2, ⟨c2, rfl, hf2⟩ | ⟨c2, rfl, hf2⟩⟩
        · have c2 : a + 2 < b ∧ 48 ≤ t (a + 2) ∧ t (a + 2) < 48 + 8 := by omega
          have y2 : zLk R C rk 4 b t a 2 = true := zLk_1 (by rw [zb2]; exact c2) (Or.inl (by omega))
          have td2 := znt (k := t (a + 2) - 48) (by omega)
          show zW n D 204 Q 100 [some (.ref 170), some (.int (zn (3 * l)))] [.int (zn (t (a + 2) - 48)), .int (zn (3 * l + 1)), .ref 178] ph1896
          refine w_ias (pc' := 101) (k := 3 * l + 1) (ykc_204 (e := (5, .iastore, 0)) rfl) (by omega) rfl (fun ph1898 u1897 => ?_)
          refine w_load (pc' := 102) (v := .ref 170) (m := 1) (ykc_204 (e := (2, .aload_n kF0, 0)) rfl) rfl rfl ?_
          refine w_gf (pc' := 105) (v := .ref 178) (ykc_204 (e := (5, .getfield 53, 0)) rfl) rfl ((u1897.2.1 170 19 (fun q => absurd q.1 (by first | exact Nat.ne_of_beq_eq_false rfl | decide))).trans ((f2.1 170 19 (by first | exact zqm rfl | decide) (by first | exact zqp rfl | decide)).trans ((u1889.2.1 170 19 (fun q => absurd q.1 (by first | exact Nat.ne_of_beq_eq_false rfl | decide))).trans ((ff.1 170 19 (by first | exact zqm rfl | decide) (by first | exact zqp rfl | decide)).trans (zsg hS zs_170_19))))) rfl ?_
          refine w_load (pc' := 106) (v := .int (zn (3 * l))) (m := 1) (ykc_204 (e := (2, .iload_n kF1, 0)) rfl) rfl rfl ?_
          refine w_alu (pc' := 107) (st' := [.int (Int32.ofInt 2), .int (zn (3 * l)), .ref 178]) (ykc_204 (e := (0, .iconst 2, 0)) rfl) rfl rfl ?_
          have e1899 : (zn (3 * l)) + (Int32.ofInt 2) = zn (3 * l + 2) := (zaddN (a := 3 * l) (b := 2) (znt (by omega)) c_5 (by omega)) 
          have te1899 := znt (k := 3 * l + 2) (by omega)
          refine w_alu (pc' := 108) (st' := [.int (zn (3 * l + 2)), .ref 178]) (ykc_204 (e := (0, .iadd, 0)) rfl) (by rw [← e1899]; rfl) rfl ?_
          refine w_load (pc' := 109) (v := .ref 170) (m := 1) (ykc_204 (e := (2, .aload_n kF0, 0)) rfl) rfl rfl ?_
          refine w_gf (pc' := 112) (v := .ref 178) (ykc_204 (e := (5, .getfield 53, 0)) rfl) rfl ((u1897.2.1 170 19 (fun q => absurd q.1 (by first | exact Nat.ne_of_beq_eq_false rfl | decide))).trans ((f2.1 170 19 (by first | exact zqm rfl | decide) (by first | exact zqp rfl | decide)).trans ((u1889.2.1 170 19 (fun q => absurd q.1 (by first | exact Nat.ne_of_beq_eq_false rfl | decide))).trans ((ff.1 170 19 (by first | exact zqm rfl | decide) (by first | exact zqp rfl | decide)).trans (zsg hS zs_170_19))))) rfl ?_
          refine w_load (pc' := 113) (v := .int (zn (3 * l))) (m := 1) (ykc_204 (e := (2, .iload_n kF1, 0)) rfl) rfl rfl ?_
          refine w_alu (pc' := 114) (st' := [.int (Int32.ofInt 1), .int (zn (3 * l)), .ref 178, .int (zn (3 * l + 2)), .ref 178]) (ykc_204 (e := (0, .iconst 1, 0)) rfl) rfl rfl ?_
          have e1900 : (zn (3 * l)) + (Int32.ofInt 1) = zn (3 * l + 1) := (zaddN (a := 3 * l) (b := 1) (znt (by omega)) c_4 (by omega)) 
          have te1900 := znt (k := 3 * l + 1) (by omega)
          refine w_alu (pc' := 115) (st' := [.int (zn (3 * l + 1)), .ref 178, .int (zn (3 * l + 2)), .ref 178]) (ykc_204 (e := (0, .iadd, 0)) rfl) (by rw [← e1900]; rfl) rfl ?_
          refine w_ialk (pc' := 116) (k := 3 * l + 1) (ykc_204 (e := (5, .iaload, 0)) rfl) u1897.1 (by omega) rfl ?_
          refine w_zge (ykc_204 (e := (4, .ifCond .ge 7, 123)) rfl) rfl (fun b1901 => ?_) (fun q => by exfalso; omega)
          refine w_load (pc' := 124) (v := .ref 170) (m := 1) (ykc_204 (e := (2, .aload_n kF0, 0)) rfl) rfl rfl ?_
          refine w_alu (pc' := 125) (st' := [.int (Int32.ofInt 0), .ref 170, .int (zn (3 * l + 2)), .ref 178]) (ykc_204 (e := (0, .iconst 0, 0)) rfl) rfl rfl ?_
          refine w_alu (pc' := 126) (st' := [.int (Int32.ofInt 4), .int (Int32.ofInt 0), .ref 170, .int (zn (3 * l + 2)), .ref 178]) (ykc_204 (e := (0, .iconst 4, 0)) rfl) rfl rfl ?_
          refine w_cv (as := [.ref 170, .int (Int32.ofInt 0), .int (Int32.ofInt 4)]) (r := [.int (zn (3 * l + 2)), .ref 178]) (ykc_204 (e := (6, .invokevirtual 179, 0)) rfl) rfl rfl rfl rfl (zm_digitIn (zSh_F ((zFr_trans (zFr_trans (zFr_trans (zFr_mono ff (by first | exact zqa rfl | simp) (by first | exact zqf rfl | simp)) (zFr_st u1889 (Or.inl (by first | exact zqi rfl | simp)))) (zFr_mono f2 (by first | exact zqa rfl | simp) (by first | exact zqf rfl | simp))) (zFr_st u1897 (Or.inl (by first | exact zqi rfl | simp)))) : zFr [178] [(170, 15), (170, 20)] ph _) (by decide +kernel) hS) (zTm_F (zFr_st u1897 (Or.inl (by first | exact zqi rfl | simp)) : zFr [178] [(170, 20)] _ _) (by first | exact ⟨zqm rfl, zqm rfl⟩ | simp) (by first | exact ⟨zqp rfl, zqp rfl⟩ | simp) (by first | exact (fun _ => zqr rfl) | simp) hf2) (l := 0) (h := 4) (by omega) (by omega)) (fun v1902 ph1903 hv => ?_)
          rcases hv with ⟨f3, ⟨c3, rfl, hf3⟩ | ⟨c3, rfl, hf3⟩⟩
          · rw [show a + 2 + 1 = a + 3 from rfl] at c3
            have c3 : a + 3 < b ∧ 48 ≤ t (a + 3) ∧ t (a + 3) < 48 + 5 := by omega
            have y3 : zLk R C rk 4 b t a 3 = true := zLk_1 (by rw [zb3]; exact c3) (Or.inl (by omega))
            have td3 := znt (k := t (a + 3) - 48) (by omega)
            show zW n D 204 Q 129 [some (.ref 170), some (.int (zn (3 * l)))] [.int (zn (t (a + 3) - 48)), .int (zn (3 * l + 2)), .ref 178] ph1903
            refine w_ias (pc' := 130) (k := 3 * l + 2) (ykc_204 (e := (5, .iastore, 0)) rfl) (by omega) rfl (fun ph1905 u1904 => ?_)
            refine w_load (pc' := 131) (v := .ref 170) (m := 1) (ykc_204 (e := (2, .aload_n kF0, 0)) rfl) rfl rfl ?_
            refine w_alu (pc' := 132) (st' := [.ref 170, .ref 170]) (ykc_204 (e := (0, .dup, 0)) rfl) rfl rfl ?_
            refine w_gf (pc' := 135) (v := .int (zn l)) (ykc_204 (e := (5, .getfield 197, 0)) rfl) rfl ((u1904.2.1 170 20 (fun q => absurd q.1 (by first | exact Nat.ne_of_beq_eq_false rfl | decide))).trans ((f3.1 170 20 (by first | exact zqm rfl | decide) (by first | exact zqp rfl | decide)).trans ((u1897.2.1 170 20 (fun q => absurd q.1 (by first | exact Nat.ne_of_beq_eq_false rfl | decide))).trans ((f2.1 170 20 (by first | exact zqm rfl | decide) (by first | exact zqp rfl | decide)).trans ((u1889.2.1 170 20 (fun q => absurd q.1 (by first | exact Nat.ne_of_beq_eq_false rfl | decide))).trans ((ff.1 170 20 (by first | exact zqm rfl | decide) (by first | exact zqp rfl | decide)).trans hl)))))) rfl ?_
            refine w_alu (pc' := 136) (st' := [.int (Int32.ofInt 1), .int (zn l), .ref 170]) (ykc_204 (e := (0, .iconst 1, 0)) rfl) rfl rfl ?_
            have e1906 : (zn l) + (Int32.ofInt 1) = zn (l + 1) := (zaddN (a := l) (b := 1) (znt (by omega)) c_4 (by omega)) 
            have te1906 := znt (k := l + 1) (by omega)
            refine w_alu (pc' := 137) (st' := [.int (zn (l + 1)), .ref 170]) (ykc_204 (e := (0, .iadd, 0)) rfl) (by rw [← e1906]; rfl) rfl ?_
            refine w_pf (pc' := 140) (ykc_204 (e := (5, .putfield 197, 0)) rfl) rfl rfl (fun ph1908 u1907 => ?_)
            refine w_load (pc' := 141) (v := .ref 170) (m := 1) (ykc_204 (e := (2, .aload_n kF0, 0)) rfl) rfl rfl ?_
            refine w_gf (pc' := 144) (v := .ref 178) (ykc_204 (e := (5, .getfield 53, 0)) rfl) rfl ((u1907.2.1 170 19 (fun q => absurd q.2 (by first | exact Nat.ne_of_beq_eq_false rfl | decide))).trans ((u1904.2.1 170 19 (fun q => absurd q.1 (by first | exact Nat.ne_of_beq_eq_false rfl | decide))).trans ((f3.1 170 19 (by first | exact zqm rfl | decide) (by first | exact zqp rfl | decide)).trans ((u1897.2.1 170 19 (fun q => absurd q.1 (by first | exact Nat.ne_of_beq_eq_false rfl | decide))).trans ((f2.1 170 19 (by first | exact zqm rfl | decide) (by first | exact zqp rfl | decide)).trans ((u1889.2.1 170 19 (fun q => absurd q.1 (by first | exact Nat.ne_of_beq_eq_false rfl | decide))).trans ((ff.1 170 19 (by first | exact zqm rfl | decide) (by first | exact zqp rfl | decide)).trans (zsg hS zs_170_19)))))))) rfl ?_
            refine w_load (pc' := 145) (v := .int (zn (3 * l))) (m := 1) (ykc_204 (e := (2, .iload_n kF1, 0)) rfl) rfl rfl ?_
            refine w_alu (pc' := 146) (st' := [.int (Int32.ofInt 2), .int (zn (3 * l)), .ref 178]) (ykc_204 (e := (0, .iconst 2, 0)) rfl) rfl rfl ?_
            have e1909 : (zn (3 * l)) + (Int32.ofInt 2) = zn (3 * l + 2) := (zaddN (a := 3 * l) (b := 2) (znt (by omega)) c_5 (by omega)) 
            have te1909 := znt (k := 3 * l + 2) (by omega)
            refine w_alu (pc' := 147) (st' := [.int (zn (3 * l + 2)), .ref 178]) (ykc_204 (e := (0, .iadd, 0)) rfl) (by rw [← e1909]; rfl) rfl ?_
            refine w_ialk (pc' := 148) (k := 3 * l + 2) (ykc_204 (e := (5, .iaload, 0)) rfl) ((u1907.2.1 178 (3 * l + 2) (fun q => absurd q.1 (by first | exact Nat.ne_of_beq_eq_false rfl | decide))).trans u1904.1) (by omega) rfl ?_
            refine w_zlt (ykc_204 (e := (4, .ifCond .lt 7, 155)) rfl) rfl (fun q => by exfalso; omega) (fun b1910 => ?_)
            refine w_alu (pc' := 152) (st' := [.int (Int32.ofInt 1)]) (ykc_204 (e := (0, .iconst 1, 0)) rfl) rfl rfl ?_
            refine w_br (pc' := 156) (st' := [.int (Int32.ofInt 1)]) (ykc_204 (e := (4, .goto 4, 156)) rfl) rfl ?_
            refine w_ret (v := (some (.int (Int32.ofInt 1)))) (ykc_204 (e := (7, .ireturn, 0)) rfl) zr_z ?_
            have hg := k4 y0 y1 y2 y3
            have f9 : zFr [178] [(170, 15), (170, 20)] ph ph1908 := (zFr_trans (zFr_trans (zFr_trans (zFr_trans (zFr_trans (zFr_trans (zFr_mono ff (by first | exact zqa rfl | simp) (by first | exact zqf rfl | simp)) (zFr_st u1889 (Or.inl (by first | exact zqi rfl | simp)))) (zFr_mono f2 (by first | exact zqa rfl | simp) (by first | exact zqf rfl | simp))) (zFr_st u1897 (Or.inl (by first | exact zqi rfl | simp)))) (zFr_mono f3 (by first | exact zqa rfl | simp) (by first | exact zqf rfl | simp))) (zFr_st u1904 (Or.inl (by first | exact zqi rfl | simp)))) (zFr_st u1907 (Or.inr (by first | exact zqj rfl | simp))))
            rw [hQ, zi1]
            exact ⟨f9, Or.inr (Or.inl ⟨by omega, hg, rfl, (zTm_F (zFr_st u1907 (Or.inr (by first | exact zqj rfl | simp)) : zFr [178] [(170, 20)] _ _) (by first | exact ⟨zqm rfl, zqm rfl⟩ | simp) (by first | exact ⟨zqp rfl, zqp rfl⟩ | simp) (by first | exact (fun _ => zqr rfl) | simp) (zTm_F (zFr_st u1904 (Or.inl (by first | exact zqi rfl | simp)) : zFr [178] [(170, 20)] _ _) (by first | exact ⟨zqm rfl, zqm rfl⟩ | simp) (by first | exact ⟨zqp rfl, zqp rfl⟩ | simp) (by first | exact (fun _ => zqr rfl) | simp) hf3)), u1907.1, ((u1907.2.1 178 (3 * l) (fun q => absurd q.1 (by first | exact Nat.ne_of_beq_eq_false rfl | decide))).trans ((u1904.2.1 178 (3 * l) (fun q => by have q2 := q.2; omega)).trans ((f3.1 178 (3 * l) (by first | exact zqm rfl | decide) (by first | exact zqp rfl | simp)).trans ((u1897.2.1 178 (3 * l) (fun q => by have q2 := q.2; omega)).trans ((f2.1 178 (3 * l) (by first | exact zqm rfl | decide) (by first | exact zqp rfl | simp)).trans u1889.1))))), ((u1907.2.1 178 (3 * l + 1) (fun q => absurd q.1 (by first | exact Nat.ne_of_beq_eq_false rfl | decide))).trans ((u1904.2.1 178 (3 * l + 1) (fun q => by have q2 := q.2; omega)).trans ((f3.1 178 (3 * l + 1) (by first | exact zqm rfl | decide) (by first | exact zqp rfl | simp)).trans u1897.1))), ((u1907.2.1 178 (3 * l + 2) (fun q => absurd q.1 (by first | exact Nat.ne_of_beq_eq_false rfl | decide))).trans u1904.1), fun i hi => ((u1907.2.1 178 i (fun q => absurd q.1 (by first | exact Nat.ne_of_beq_eq_false rfl | decide))).trans ((u1904.2.1 178 i (fun q => by have q2 := q.2; omega)).trans ((f3.1 178 i (by first | exact zqm rfl | decide) (by first | exact zqp rfl | simp)).trans ((u1897.2.1 178 i (fun q => by have q2 := q.2; omega)).trans ((f2.1 178 i (by first | exact zqm rfl | decide) (by first | exact zqp rfl | simp)).trans ((u1889.2.1 178 i (fun q => by have q2 := q.2; omega)).trans (ff.1 178 i (by first | exact zqm rfl | decide) (by first | exact zqp rfl | simp))))))))⟩)⟩
          · rw [show a + 2 + 1 = a + 3 from rfl] at c3
            have n3 : zLk R C rk 4 b t a 3 = false := zLk_0 (by rw [zb3]; omega)
            show zW n D 204 Q 129 [some (.ref 170), some (.int (zn (3 * l)))] [.int (Int32.ofInt (-1)), .int (zn (3 * l + 2)), .ref 178] ph1903
            refine w_ias (pc' := 130) (k := 3 * l + 2) (ykc_204 (e := (5, .iastore, 0)) rfl) (by omega) rfl (fun ph1912 u1911 => ?_)
            refine w_load (pc' := 131) (v := .ref 170) (m := 1) (ykc_204 (e := (2, .aload_n kF0, 0)) rfl) rfl rfl ?_
            refine w_alu (pc' := 132) (st' := [.ref 170, .ref 170]) (ykc_204 (e := (0, .dup, 0)) rfl) rfl rfl ?_
            refine w_gf (pc' := 135) (v := .int (zn l)) (ykc_204 (e := (5, .getfield 197, 0)) rfl) rfl ((u1911.2.1 170 20 (fun q => absurd q.1 (by first | exact Nat.ne_of_beq_eq_false rfl | decide))).trans ((f3.1 170 20 (by first | exact zqm rfl | decide) (by first | exact zqp rfl | decide)).trans ((u1897.2.1 170 20 (fun q => absurd q.1 (by first | exact Nat.ne_of_beq_eq_false rfl | decide))).trans ((f2.1 170 20 (by first | exact zqm rfl | decide) (by first | exact zqp rfl | decide)).trans ((u1889.2.1 170 20 (fun q => absurd q.1 (by first | exact Nat.ne_of_beq_eq_false rfl | decide))).trans ((ff.1 170 20 (by first | exact zqm rfl | decide) (by first | exact zqp rfl | decide)).trans hl)))))) rfl ?_
            refine w_alu (pc' := 136) (st' := [.int (Int32.ofInt 1), .int (zn l), .ref 170]) (ykc_204 (e := (0, .iconst 1, 0)) rfl) rfl rfl ?_
            have e1913 : (zn l) + (Int32.ofInt 1) = zn (l + 1) := (zaddN (a := l) (b := 1) (znt (by omega)) c_4 (by omega)) 
            have te1913 := znt (k := l + 1) (by omega)
            refine w_alu (pc' := 137) (st' := [.int (zn (l + 1)), .ref 170]) (ykc_204 (e := (0, .iadd, 0)) rfl) (by rw [← e1913]; rfl) rfl ?_
            refine w_pf (pc' := 140) (ykc_204 (e := (5, .putfield 197, 0)) rfl) rfl rfl (fun ph1915 u1914 => ?_)
            refine w_load (pc' := 141) (v := .ref 170) (m := 1) (ykc_204 (e := (2, .aload_n kF0, 0)) rfl) rfl rfl ?_
            refine w_gf (pc' := 144) (v := .ref 178) (ykc_204 (e := (5, .getfield 53, 0)) rfl) rfl ((u1914.2.1 170 19 (fun q => absurd q.2 (by first | exact Nat.ne_of_beq_eq_false rfl | decide))).trans ((u1911.2.1 170 19 (fun q => absurd q.1 (by first | exact Nat.ne_of_beq_eq_false rfl | decide))).trans ((f3.1 170 19 (by first | exact zqm rfl | decide) (by first | exact zqp rfl | decide)).trans ((u1897.2.1 170 19 (fun q => absurd q.1 (by first | exact Nat.ne_of_beq_eq_false rfl | decide))).trans ((f2.1 170 19 (by first | exact zqm rfl | decide) (by first | exact zqp rfl | decide)).trans ((u1889.2.1 170 19 (fun q => absurd q.1 (by first | exact Nat.ne_of_beq_eq_false rfl | decide))).trans ((ff.1 170 19 (by first | exact zqm rfl | decide) (by first | exact zqp rfl | decide)).trans (zsg hS zs_170_19)))))))) rfl ?_
            refine w_load (pc' := 145) (v := .int (zn (3 * l))) (m := 1) (ykc_204 (e := (2, .iload_n kF1, 0)) rfl) rfl rfl ?_
            refine w_alu (pc' := 146) (st' := [.int (Int32.ofInt 2), .int (zn (3 * l)), .ref 178]) (ykc_204 (e := (0, .iconst 2, 0)) rfl) rfl rfl ?_
            have e1916 : (zn (3 * l)) + (Int32.ofInt 2) = zn (3 * l + 2) := (zaddN (a := 3 * l) (b := 2) (znt (by omega)) c_5 (by omega)) 
            have te1916 := znt (k := 3 * l + 2) (by omega)
            refine w_alu (pc' := 147) (st' := [.int (zn (3 * l + 2)), .ref 178]) (ykc_204 (e := (0, .iadd, 0)) rfl) (by rw [← e1916]; rfl) rfl ?_
            refine w_ialk (pc' := 148) (k := 3 * l + 2) (ykc_204 (e := (5, .iaload, 0)) rfl) ((u1914.2.1 178 (3 * l + 2) (fun q => absurd q.1 (by first | exact Nat.ne_of_beq_eq_false rfl | decide))).trans u1911.1) (by omega) rfl ?_
            refine w_zlt (ykc_204 (e := (4, .ifCond .lt 7, 155)) rfl) rfl (fun b1917 => ?_) (fun q => by exfalso; omega)
            refine w_alu (pc' := 156) (st' := [.int (Int32.ofInt 0)]) (ykc_204 (e := (0, .iconst 0, 0)) rfl) rfl rfl ?_
            refine w_ret (v := (some (.int (Int32.ofInt 0)))) (ykc_204 (e := (7, .ireturn, 0)) rfl) zr_z ?_
            have hg := k3 y0 y1 y2 n3
            have f9 : zFr [178] [(170, 15), (170, 20)] ph ph1915 := (zFr_trans (zFr_trans (zFr_trans (zFr_trans (zFr_trans (zFr_trans (zFr_mono ff (by first | exact zqa rfl | simp) (by first | exact zqf rfl | simp)) (zFr_st u1889 (Or.inl (by first | exact zqi rfl | simp)))) (zFr_mono f2 (by first | exact zqa rfl | simp) (by first | exact zqf rfl | simp))) (zFr_st u1897 (Or.inl (by first | exact zqi rfl | simp)))) (zFr_mono f3 (by first | exact zqa rfl | simp) (by first | exact zqf rfl | simp))) (zFr_st u1911 (Or.inl (by first | exact zqi rfl | simp)))) (zFr_st u1914 (Or.inr (by first | exact zqj rfl | simp))))
            rw [hQ, zi0]
            exact ⟨f9, Or.inr (Or.inr ⟨by omega, by omega, rfl, by rw [hg]; exact (zTm_F (zFr_st u1914 (Or.inr (by first | exact zqj rfl | simp)) : zFr [178] [(170, 20)] _ _) (by first | exact ⟨zqm rfl, zqm rfl⟩ | simp) (by first | exact ⟨zqp rfl, zqp rfl⟩ | simp) (by first | exact (fun _ => zqr rfl) | simp) (zTm_F (zFr_st u1911 (Or.inl (by first | exact zqi rfl | simp)) : zFr [178] [(170, 20)] _ _) (by first | exact ⟨zqm rfl, zqm rfl⟩ | simp) (by first | exact ⟨zqp rfl, zqp rfl⟩ | simp) (by first | exact (fun _ => zqr rfl) | simp) hf3))⟩)⟩
          
        · have n2 : zLk R C rk 4 b t a 2 = false := zLk_0 (by rw [zb2]; omega)
          show zW n D 204 Q 100 [some (.ref 170), some (.int (zn (3 * l)))] [.int (Int32.ofInt (-1)), .int (zn (3 * l + 1)), .ref 178] ph1896
          refine w_ias (pc' := 101) (k := 3 * l + 1) (ykc_204 (e := (5, .iastore, 0)) rfl) (by omega) rfl (fun ph1919 u1918 => ?_)
          refine w_load (pc' := 102) (v := .ref 170) (m := 1) (ykc_204 (e := (2, .aload_n kF0, 0)) rfl) rfl rfl ?_
          refine w_gf (pc' := 105) (v := .ref 178) (ykc_204 (e := (5, .getfield 53, 0)) rfl) rfl ((u1918.2.1 170 19 (fun q => absurd q.1 (by first | exact Nat.ne_of_beq_eq_false rfl | decide))).trans ((f2.1 170 19 (by first | exact zqm rfl | decide) (by first | exact zqp rfl | decide)).trans ((u1889.2.1 170 19 (fun q => absurd q.1 (by first | exact Nat.ne_of_beq_eq_false rfl | decide))).trans ((ff.1 170 19 (by first | exact zqm rfl | decide) (by first | exact zqp rfl | decide)).trans (zsg hS zs_170_19))))) rfl ?_
          refine w_load (pc' := 106) (v := .int (zn (3 * l))) (m := 1) (ykc_204 (e := (2, .iload_n kF1, 0)) rfl) rfl rfl ?_
          refine w_alu (pc' := 107) (st' := [.int (Int32.ofInt 2), .int (zn (3 * l)), .ref 178]) (ykc_204 (e := (0, .iconst 2, 0)) rfl) rfl rfl ?_
          have e1920 : (zn (3 * l)) + (Int32.ofInt 2) = zn (3 * l + 2) := (zaddN (a := 3 * l) (b := 2) (znt (by omega)) c_5 (by omega)) 
          have te1920 := znt (k := 3 * l + 2) (by omega)
          refine w_alu (pc' := 108) (st' := [.int (zn (3 * l + 2)), .ref 178]) (ykc_204 (e := (0, .iadd, 0)) rfl) (by rw [← e1920]; rfl) rfl ?_
          refine w_load (pc' := 109) (v := .ref 170) (m := 1) (ykc_204 (e := (2, .aload_n kF0, 0)) rfl) rfl rfl ?_
          refine w_gf (pc' := 112) (v := .ref 178) (ykc_204 (e := (5, .getfield 53, 0)) rfl) rfl ((u1918.2.1 170 19 (fun q => absurd q.1 (by first | exact Nat.ne_of_beq_eq_false rfl | decide))).trans ((f2.1 170 19 (by first | exact zqm rfl | decide) (by first | exact zqp rfl | decide)).trans ((u1889.2.1 170 19 (fun q => absurd q.1 (by first | exact Nat.ne_of_beq_eq_false rfl | decide))).trans ((ff.1 170 19 (by first | exact zqm rfl | decide) (by first | exact zqp rfl | decide)).trans (zsg hS zs_170_19))))) rfl ?_
          refine w_load (pc' := 113) (v := .int (zn (3 * l))) (m := 1) (ykc_204 (e := (2, .iload_n kF1, 0)) rfl) rfl rfl ?_
          refine w_alu (pc' := 114) (st' := [.int (Int32.ofInt 1), .int (zn (3 * l)), .ref 178, .int (zn (3 * l + 2)), .ref 178]) (ykc_204 (e := (0, .iconst 1, 0)) rfl) rfl rfl ?_
          have e1921 : (zn (3 * l)) + (Int32.ofInt 1) = zn (3 * l + 1) := (zaddN (a := 3 * l) (b := 1) (znt (by omega)) c_4 (by omega)) 
          have te1921 := znt (k := 3 * l + 1) (by omega)
          refine w_alu (pc' := 115) (st' := [.int (zn (3 * l + 1)), .ref 178, .int (zn (3 * l + 2)), .ref 178]) (ykc_204 (e := (0, .iadd, 0)) rfl) (by rw [← e1921]; rfl) rfl ?_
          refine w_ialk (pc' := 116) (k := 3 * l + 1) (ykc_204 (e := (5, .iaload, 0)) rfl) u1918.1 (by omega) rfl ?_
          refine w_zge (ykc_204 (e := (4, .ifCond .ge 7, 123)) rfl) rfl (fun q => by exfalso; omega) (fun b1922 => ?_)
          refine w_alu (pc' := 120) (st' := [.int (Int32.ofInt (-1)), .int (zn (3 * l + 2)), .ref 178]) (ykc_204 (e := (0, .iconst (-1), 0)) rfl) rfl rfl ?_
          refine w_br (pc' := 129) (st' := [.int (Int32.ofInt (-1)), .int (zn (3 * l + 2)), .ref 178]) (ykc_204 (e := (4, .goto 9, 129)) rfl) rfl ?_
          refine w_ias (pc' := 130) (k := 3 * l + 2) (ykc_204 (e := (5, .iastore, 0)) rfl) (by omega) rfl (fun ph1924 u1923 => ?_)
          refine w_load (pc' := 131) (v := .ref 170) (m := 1) (ykc_204 (e := (2, .aload_n kF0, 0)) rfl) rfl rfl ?_
          refine w_alu (pc' := 132) (st' := [.ref 170, .ref 170]) (ykc_204 (e := (0, .dup, 0)) rfl) rfl rfl ?_
          refine w_gf (pc' := 135) (v := .int (zn l)) (ykc_204 (e := (5, .getfield 197, 0)) rfl) rfl ((u1923.2.1 170 20 (fun q => absurd q.1 (by first | exact Nat.ne_of_beq_eq_false rfl | decide))).trans ((u1918.2.1 170 20 (fun q => absurd q.1 (by first | exact Nat.ne_of_beq_eq_false rfl | decide))).trans ((f2.1 170 20 (by first | exact zqm rfl | decide) (by first | exact zqp rfl | decide)).trans ((u1889.2.1 170 20 (fun q => absurd q.1 (by first | exact Nat.ne_of_beq_eq_false rfl | decide))).trans ((ff.1 170 20 (by first | exact zqm rfl | decide) (by first | exact zqp rfl | decide)).trans hl))))) rfl ?_
          refine w_alu (pc' := 136) (st' := [.int (Int32.ofInt 1), .int (zn l), .ref 170]) (ykc_204 (e := (0, .iconst 1, 0)) rfl) rfl rfl ?_
          have e1925 : (zn l) + (Int32.ofInt 1) = zn (l + 1) := (zaddN (a := l) (b := 1) (znt (by omega)) c_4 (by omega)) 
          have te1925 := znt (k := l + 1) (by omega)
          refine w_alu (pc' := 137) (st' := [.int (zn (l + 1)), .ref 170]) (ykc_204 (e := (0, .iadd, 0)) rfl) (by rw [← e1925]; rfl) rfl ?_
          refine w_pf (pc' := 140) (ykc_204 (e := (5, .putfield 197, 0)) rfl) rfl rfl (fun ph1927 u1926 => ?_)
          refine w_load (pc' := 141) (v := .ref 170) (m := 1) (ykc_204 (e := (2, .aload_n kF0, 0)) rfl) rfl rfl ?_
          refine w_gf (pc' := 144) (v := .ref 178) (ykc_204 (e := (5, .getfield 53, 0)) rfl) rfl ((u1926.2.1 170 19 (fun q => absurd q.2 (by first | exact Nat.ne_of_beq_eq_false rfl | decide))).trans ((u1923.2.1 170 19 (fun q => absurd q.1 (by first | exact Nat.ne_of_beq_eq_false rfl | decide))).trans ((u1918.2.1 170 19 (fun q => absurd q.1 (by first | exact Nat.ne_of_beq_eq_false rfl | decide))).trans ((f2.1 170 19 (by first | exact zqm rfl | decide) (by first | exact zqp rfl | decide)).trans ((u1889.2.1 170 19 (fun q => absurd q.1 (by first | exact Nat.ne_of_beq_eq_false rfl | decide))).trans ((ff.1 170 19 (by first | exact zqm rfl | decide) (by first | exact zqp rfl | decide)).trans (zsg hS zs_170_19))))))) rfl ?_
          refine w_load (pc' := 145) (v := .int (zn (3 * l))) (m := 1) (ykc_204 (e := (2, .iload_n kF1, 0)) rfl) rfl rfl ?_
          refine w_alu (pc' := 146) (st' := [.int (Int32.ofInt 2), .int (zn (3 * l)), .ref 178]) (ykc_204 (e := (0, .iconst 2, 0)) rfl) rfl rfl ?_
          have e1928 : (zn (3 * l)) + (Int32.ofInt 2) = zn (3 * l + 2) := (zaddN (a := 3 * l) (b := 2) (znt (by omega)) c_5 (by omega)) 
          have te1928 := znt (k := 3 * l + 2) (by omega)
          refine w_alu (pc' := 147) (st' := [.int (zn (3 * l + 2)), .ref 178]) (ykc_204 (e := (0, .iadd, 0)) rfl) (by rw [← e1928]; rfl) rfl ?_
          refine w_ialk (pc' := 148) (k := 3 * l + 2) (ykc_204 (e := (5, .iaload, 0)) rfl) ((u1926.2.1 178 (3 * l + 2) (fun q => absurd q.1 (by first | exact Nat.ne_of_beq_eq_false rfl | decide))).trans u1923.1) (by omega) rfl ?_
          refine w_zlt (ykc_204 (e := (4, .ifCond .lt 7, 155)) rfl) rfl (fun b1929 => ?_) (fun q => by exfalso; omega)
          refine w_alu (pc' := 156) (st' := [.int (Int32.ofInt 0)]) (ykc_204 (e := (0, .iconst 0, 0)) rfl) rfl rfl ?_
          refine w_ret (v := (some (.int (Int32.ofInt 0)))) (ykc_204 (e := (7, .ireturn, 0)) rfl) zr_z ?_
          have hg := k2 y0 y1 n2
          have f9 : zFr [178] [(170, 15), (170, 20)] ph ph1927 := (zFr_trans (zFr_trans (zFr_trans (zFr_trans (zFr_trans (zFr_mono ff (by first | exact zqa rfl | simp) (by first | exact zqf rfl | simp)) (zFr_st u1889 (Or.inl (by first | exact zqi rfl | simp)))) (zFr_mono f2 (by first | exact zqa rfl | simp) (by first | exact zqf rfl | simp))) (zFr_st u1918 (Or.inl (by first | exact zqi rfl | simp)))) (zFr_st u1923 (Or.inl (by first | exact zqi rfl | simp)))) (zFr_st u1926 (Or.inr (by first | exact zqj rfl | simp))))
          rw [hQ, zi0]
          exact ⟨f9, Or.inr (Or.inr ⟨by omega, by omega, rfl, by rw [hg]; exact (zTm_F (zFr_st u1926 (Or.inr (by first | exact zqj rfl | simp)) : zFr [178] [(170, 20)] _ _) (by first | exact ⟨zqm rfl, zqm rfl⟩ | simp) (by first | exact ⟨zqp rfl, zqp rfl⟩ | simp) (by first | exact (fun _ => zqr rfl) | simp) (zTm_F (zFr_st u1923 (Or.inl (by first | exact zqi rfl | simp)) : zFr [178] [(170, 20)] _ _) (by first | exact ⟨zqm rfl, zqm rfl⟩ | simp) (by first | exact ⟨zqp rfl, zqp rfl⟩ | simp) (by first | exact (fun _ => zqr rfl) | simp) (zTm_F (zFr_st u1918 (Or.inl (by first | exact zqi rfl | simp)) : zFr [178] [(170, 20)] _ _) (by first | exact ⟨zqm rfl, zqm rfl⟩ | simp) (by first | exact ⟨zqp rfl, zqp rfl⟩ | simp) (by first | exact (fun _ => zqr rfl) | simp) hf2)))⟩)⟩
        
      · have hrk := b1892
        have n1 : zLk R C rk 4 b t a 1 = false := zLk_r ⟨rfl, rfl⟩ hrk
        refine w_load (pc' := 57) (v := .ref 170) (m := 1) (ykc_204 (e := (2, .aload_n kF0, 0)) rfl) rfl rfl ?_
        refine w_alu (pc' := 58) (st' := [.ref 170, .ref 170]) (ykc_204 (e := (0, .dup, 0)) rfl) rfl rfl ?_
        refine w_gf (pc' := 61) (v := .int (zn (a + 2))) (ykc_204 (e := (5, .getfield 139, 0)) rfl) rfl ((u1889.2.1 170 15 (fun q => absurd q.1 (by first | exact Nat.ne_of_beq_eq_false rfl | decide))).trans hff.1) rfl ?_
        refine w_alu (pc' := 62) (st' := [.int (Int32.ofInt 1), .int (zn (a + 2)), .ref 170]) (ykc_204 (e := (0, .iconst 1, 0)) rfl) rfl rfl ?_
        have e1930 : (zn (a + 2)) - (Int32.ofInt 1) = zn (a + 1) := zsubN (a := a + 2) (b := 1) (znt (by omega)) c_4 (by omega)
        have te1930 := znt (k := a + 1) (by omega)
        refine w_alu (pc' := 63) (st' := [.int (zn (a + 1)), .ref 170]) (ykc_204 (e := (0, .isub, 0)) rfl) (by show some ([.int ((zn (a + 2)) - (Int32.ofInt 1)), .ref 170] : List Value) = _; rw [e1930]) rfl ?_
        refine w_pf (pc' := 66) (ykc_204 (e := (5, .putfield 139, 0)) rfl) rfl rfl (fun ph1932 u1931 => ?_)
        refine w_load (pc' := 67) (v := .ref 170) (m := 1) (ykc_204 (e := (2, .aload_n kF0, 0)) rfl) rfl rfl ?_
        refine w_gf (pc' := 70) (v := .ref 178) (ykc_204 (e := (5, .getfield 53, 0)) rfl) rfl ((u1931.2.1 170 19 (fun q => absurd q.2 (by first | exact Nat.ne_of_beq_eq_false rfl | decide))).trans ((u1889.2.1 170 19 (fun q => absurd q.1 (by first | exact Nat.ne_of_beq_eq_false rfl | decide))).trans ((ff.1 170 19 (by first | exact zqm rfl | decide) (by first | exact zqp rfl | decide)).trans (zsg hS zs_170_19)))) rfl ?_
        refine w_load (pc' := 71) (v := .int (zn (3 * l))) (m := 1) (ykc_204 (e := (2, .iload_n kF1, 0)) rfl) rfl rfl ?_
        refine w_alu (pc' := 72) (st' := [.int (Int32.ofInt (-1)), .int (zn (3 * l)), .ref 178]) (ykc_204 (e := (0, .iconst (-1), 0)) rfl) rfl rfl ?_
        refine w_ias (pc' := 73) (k := 3 * l) (ykc_204 (e := (5, .iastore, 0)) rfl) (by omega) rfl (fun ph1934 u1933 => ?_)
        have hT1 := zTm_u u1931 (a' := a + 1) (by omega) (zTm_F (zFr_st u1889 (Or.inl (by first | exact zqi rfl | simp)) : zFr [178] [(170, 20)] _ _) (by first | exact ⟨zqm rfl, zqm rfl⟩ | simp) (by first | exact ⟨zqp rfl, zqp rfl⟩ | simp) (by first | exact (fun _ => zqr rfl) | simp) hff)
        refine w_load (pc' := 74) (v := .ref 170) (m := 1) (ykc_204 (e := (2, .aload_n kF0, 0)) rfl) rfl rfl ?_
        refine w_gf (pc' := 77) (v := .ref 178) (ykc_204 (e := (5, .getfield 53, 0)) rfl) rfl ((u1933.2.1 170 19 (fun q => absurd q.1 (by first | exact Nat.ne_of_beq_eq_false rfl | decide))).trans ((u1931.2.1 170 19 (fun q => absurd q.2 (by first | exact Nat.ne_of_beq_eq_false rfl | decide))).trans ((u1889.2.1 170 19 (fun q => absurd q.1 (by first | exact Nat.ne_of_beq_eq_false rfl | decide))).trans ((ff.1 170 19 (by first | exact zqm rfl | decide) (by first | exact zqp rfl | decide)).trans (zsg hS zs_170_19))))) rfl ?_
        refine w_load (pc' := 78) (v := .int (zn (3 * l))) (m := 1) (ykc_204 (e := (2, .iload_n kF1, 0)) rfl) rfl rfl ?_
        refine w_alu (pc' := 79) (st' := [.int (Int32.ofInt 1), .int (zn (3 * l)), .ref 178]) (ykc_204 (e := (0, .iconst 1, 0)) rfl) rfl rfl ?_
        have e1935 : (zn (3 * l)) + (Int32.ofInt 1) = zn (3 * l + 1) := (zaddN (a := 3 * l) (b := 1) (znt (by omega)) c_4 (by omega)) 
        have te1935 := znt (k := 3 * l + 1) (by omega)
        refine w_alu (pc' := 80) (st' := [.int (zn (3 * l + 1)), .ref 178]) (ykc_204 (e := (0, .iadd, 0)) rfl) (by rw [← e1935]; rfl) rfl ?_
        refine w_load (pc' := 81) (v := .ref 170) (m := 1) (ykc_204 (e := (2, .aload_n kF0, 0)) rfl) rfl rfl ?_
        refine w_gf (pc' := 84) (v := .ref 178) (ykc_204 (e := (5, .getfield 53, 0)) rfl) rfl ((u1933.2.1 170 19 (fun q => absurd q.1 (by first | exact Nat.ne_of_beq_eq_false rfl | decide))).trans ((u1931.2.1 170 19 (fun q => absurd q.2 (by first | exact Nat.ne_of_beq_eq_false rfl | decide))).trans ((u1889.2.1 170 19 (fun q => absurd q.1 (by first | exact Nat.ne_of_beq_eq_false rfl | decide))).trans ((ff.1 170 19 (by first | exact zqm rfl | decide) (by first | exact zqp rfl | decide)).trans (zsg hS zs_170_19))))) rfl ?_
        refine w_load (pc' := 85) (v := .int (zn (3 * l))) (m := 1) (ykc_204 (e := (2, .iload_n kF1, 0)) rfl) rfl rfl ?_
        refine w_ialk (pc' := 86) (k := 3 * l) (ykc_204 (e := (5, .iaload, 0)) rfl) u1933.1 (by omega) rfl ?_
        refine w_zge (ykc_204 (e := (4, .ifCond .ge 7, 93)) rfl) rfl (fun q => by exfalso; omega) (fun b1936 => ?_)
        refine w_alu (pc' := 90) (st' := [.int (Int32.ofInt (-1)), .int (zn (3 * l + 1)), .ref 178]) (ykc_204 (e := (0, .iconst (-1), 0)) rfl) rfl rfl ?_
        refine w_br (pc' := 100) (st' := [.int (Int32.ofInt (-1)), .int (zn (3 * l + 1)), .ref 178]) (ykc_204 (e := (4, .goto 10, 100)) rfl) rfl ?_
        refine w_ias (pc' := 101) (k := 3 * l + 1) (ykc_204 (e := (5, .iastore, 0)) rfl) (by omega) rfl (fun ph1938 u1937 => ?_)
        refine w_load (pc' := 102) (v := .ref 170) (m := 1) (ykc_204 (e := (2, .aload_n kF0, 0)) rfl) rfl rfl ?_
        refine w_gf (pc' := 105) (v := .ref 178) (ykc_204 (e := (5, .getfield 53, 0)) rfl) rfl ((u1937.2.1 170 19 (fun q => absurd q.1 (by first | exact Nat.ne_of_beq_eq_false rfl | decide))).trans ((u1933.2.1 170 19 (fun q => absurd q.1 (by first | exact Nat.ne_of_beq_eq_false rfl | decide))).trans ((u1931.2.1 170 19 (fun q => absurd q.2 (by first | exact Nat.ne_of_beq_eq_false rfl | decide))).trans ((u1889.2.1 170 19 (fun q => absurd q.1 (by first | exact Nat.ne_of_beq_eq_false rfl | decide))).trans ((ff.1 170 19 (by first | exact zqm rfl | decide) (by first | exact zqp rfl | decide)).trans (zsg hS zs_170_19)))))) rfl ?_
        refine w_load (pc' := 106) (v := .int (zn (3 * l))) (m := 1) (ykc_204 (e := (2, .iload_n kF1, 0)) rfl) rfl rfl ?_
        refine w_alu (pc' := 107) (st' := [.int (Int32.ofInt 2), .int (zn (3 * l)), .ref 178]) (ykc_204 (e := (0, .iconst 2, 0)) rfl) rfl rfl ?_
        have e1939 : (zn (3 * l)) + (Int32.ofInt 2) = zn (3 * l + 2) := (zaddN (a := 3 * l) (b := 2) (znt (by omega)) c_5 (by omega)) 
        have te1939 := znt (k := 3 * l + 2) (by omega)
        refine w_alu (pc' := 108) (st' := [.int (zn (3 * l + 2)), .ref 178]) (ykc_204 (e := (0, .iadd, 0)) rfl) (by rw [← e1939]; rfl) rfl ?_
        refine w_load (pc' := 109) (v := .ref 170) (m := 1) (ykc_204 (e := (2, .aload_n kF0, 0)) rfl) rfl rfl ?_
        refine w_gf (pc' := 112) (v := .ref 178) (ykc_204 (e := (5, .getfield 53, 0)) rfl) rfl ((u1937.2.1 170 19 (fun q => absurd q.1 (by first | exact Nat.ne_of_beq_eq_false rfl | decide))).trans ((u1933.2.1 170 19 (fun q => absurd q.1 (by first | exact Nat.ne_of_beq_eq_false rfl | decide))).trans ((u1931.2.1 170 19 (fun q => absurd q.2 (by first | exact Nat.ne_of_beq_eq_false rfl | decide))).trans ((u1889.2.1 170 19 (fun q => absurd q.1 (by first | exact Nat.ne_of_beq_eq_false rfl | decide))).trans ((ff.1 170 19 (by first | exact zqm rfl | decide) (by first | exact zqp rfl | decide)).trans (zsg hS zs_170_19)))))) rfl ?_
        refine w_load (pc' := 113) (v := .int (zn (3 * l))) (m := 1) (ykc_204 (e := (2, .iload_n kF1, 0)) rfl) rfl rfl ?_
        refine w_alu (pc' := 114) (st' := [.int (Int32.ofInt 1), .int (zn (3 * l)), .ref 178, .int (zn (3 * l + 2)), .ref 178]) (ykc_204 (e := (0, .iconst 1, 0)) rfl) rfl rfl ?_
        have e1940 : (zn (3 * l)) + (Int32.ofInt 1) = zn (3 * l + 1) := (zaddN (a := 3 * l) (b := 1) (znt (by omega)) c_4 (by omega)) 
        have te1940 := znt (k := 3 * l + 1) (by omega)
        refine w_alu (pc' := 115) (st' := [.int (zn (3 * l + 1)), .ref 178, .int (zn (3 * l + 2)), .ref 178]) (ykc_204 (e := (0, .iadd, 0)) rfl) (by rw [← e1940]; rfl) rfl ?_
        refine w_ialk (pc' := 116) (k := 3 * l + 1) (ykc_204 (e := (5, .iaload, 0)) rfl) u1937.1 (by omega) rfl ?_
        refine w_zge (ykc_204 (e := (4, .ifCond .ge 7, 123)) rfl) rfl (fun q => by exfalso; omega) (fun b1941 => ?_)
        refine w_alu (pc' := 120) (st' := [.int (Int32.ofInt (-1)), .int (zn (3 * l + 2)), .ref 178]) (ykc_204 (e := (0, .iconst (-1), 0)) rfl) rfl rfl ?_
        refine w_br (pc' := 129) (st' := [.int (Int32.ofInt (-1)), .int (zn (3 * l + 2)), .ref 178]) (ykc_204 (e := (4, .goto 9, 129)) rfl) rfl ?_
        refine w_ias (pc' := 130) (k := 3 * l + 2) (ykc_204 (e := (5, .iastore, 0)) rfl) (by omega) rfl (fun ph1943 u1942 => ?_)
        refine w_load (pc' := 131) (v := .ref 170) (m := 1) (ykc_204 (e := (2, .aload_n kF0, 0)) rfl) rfl rfl ?_
        refine w_alu (pc' := 132) (st' := [.ref 170, .ref 170]) (ykc_204 (e := (0, .dup, 0)) rfl) rfl rfl ?_
        refine w_gf (pc' := 135) (v := .int (zn l)) (ykc_204 (e := (5, .getfield 197, 0)) rfl) rfl ((u1942.2.1 170 20 (fun q => absurd q.1 (by first | exact Nat.ne_of_beq_eq_false rfl | decide))).trans ((u1937.2.1 170 20 (fun q => absurd q.1 (by first | exact Nat.ne_of_beq_eq_false rfl | decide))).trans ((u1933.2.1 170 20 (fun q => absurd q.1 (by first | exact Nat.ne_of_beq_eq_false rfl | decide))).trans ((u1931.2.1 170 20 (fun q => absurd q.2 (by first | exact Nat.ne_of_beq_eq_false rfl | decide))).trans ((u1889.2.1 170 20 (fun q => absurd q.1 (by first | exact Nat.ne_of_beq_eq_false rfl | decide))).trans ((ff.1 170 20 (by first | exact zqm rfl | decide) (by first | exact zqp rfl | decide)).trans hl)))))) rfl ?_
        refine w_alu (pc' := 136) (st' := [.int (Int32.ofInt 1), .int (zn l), .ref 170]) (ykc_204 (e := (0, .iconst 1, 0)) rfl) rfl rfl ?_
        have e1944 : (zn l) + (Int32.ofInt 1) = zn (l + 1) := (zaddN (a := l) (b := 1) (znt (by omega)) c_4 (by omega)) 
        have te1944 := znt (k := l + 1) (by omega)
        refine w_alu (pc' := 137) (st' := [.int (zn (l + 1)), .ref 170]) (ykc_204 (e := (0, .iadd, 0)) rfl) (by rw [← e1944]; rfl) rfl ?_
        refine w_pf (pc' := 140) (ykc_204 (e := (5, .putfield 197, 0)) rfl) rfl rfl (fun ph1946 u1945 => ?_)
        refine w_load (pc' := 141) (v := .ref 170) (m := 1) (ykc_204 (e := (2, .aload_n kF0, 0)) rfl) rfl rfl ?_
        refine w_gf (pc' := 144) (v := .ref 178) (ykc_204 (e := (5, .getfield 53, 0)) rfl) rfl ((u1945.2.1 170 19 (fun q => absurd q.2 (by first | exact Nat.ne_of_beq_eq_false rfl | decide))).trans ((u1942.2.1 170 19 (fun q => absurd q.1 (by first | exact Nat.ne_of_beq_eq_false rfl | decide))).trans ((u1937.2.1 170 19 (fun q => absurd q.1 (by first | exact Nat.ne_of_beq_eq_false rfl | decide))).trans ((u1933.2.1 170 19 (fun q => absurd q.1 (by first | exact Nat.ne_of_beq_eq_false rfl | decide))).trans ((u1931.2.1 170 19 (fun q => absurd q.2 (by first | exact Nat.ne_of_beq_eq_false rfl | decide))).trans ((u1889.2.1 170 19 (fun q => absurd q.1 (by first | exact Nat.ne_of_beq_eq_false rfl | decide))).trans ((ff.1 170 19 (by first | exact zqm rfl | decide) (by first | exact zqp rfl | decide)).trans (zsg hS zs_170_19)))))))) rfl ?_
        refine w_load (pc' := 145) (v := .int (zn (3 * l))) (m := 1) (ykc_204 (e := (2, .iload_n kF1, 0)) rfl) rfl rfl ?_
        refine w_alu (pc' := 146) (st' := [.int (Int32.ofInt 2), .int (zn (3 * l)), .ref 178]) (ykc_204 (e := (0, .iconst 2, 0)) rfl) rfl rfl ?_
        have e1947 : (zn (3 * l)) + (Int32.ofInt 2) = zn (3 * l + 2) := (zaddN (a := 3 * l) (b := 2) (znt (by omega)) c_5 (by omega)) 
        have te1947 := znt (k := 3 * l + 2) (by omega)
        refine w_alu (pc' := 147) (st' := [.int (zn (3 * l + 2)), .ref 178]) (ykc_204 (e := (0, .iadd, 0)) rfl) (by rw [← e1947]; rfl) rfl ?_
        refine w_ialk (pc' := 148) (k := 3 * l + 2) (ykc_204 (e := (5, .iaload, 0)) rfl) ((u1945.2.1 178 (3 * l + 2) (fun q => absurd q.1 (by first | exact Nat.ne_of_beq_eq_false rfl | decide))).trans u1942.1) (by omega) rfl ?_
        refine w_zlt (ykc_204 (e := (4, .ifCond .lt 7, 155)) rfl) rfl (fun b1948 => ?_) (fun q => by exfalso; omega)
        refine w_alu (pc' := 156) (st' := [.int (Int32.ofInt 0)]) (ykc_204 (e := (0, .iconst 0, 0)) rfl) rfl rfl ?_
        refine w_ret (v := (some (.int (Int32.ofInt 0)))) (ykc_204 (e := (7, .ireturn, 0)) rfl) zr_z ?_
        have hg := k1 y0 n1
        have f9 : zFr [178] [(170, 15), (170, 20)] ph ph1946 := (zFr_trans (zFr_trans (zFr_trans (zFr_trans (zFr_trans (zFr_trans (zFr_mono ff (by first | exact zqa rfl | simp) (by first | exact zqf rfl | simp)) (zFr_st u1889 (Or.inl (by first | exact zqi rfl | simp)))) (zFr_st u1931 (Or.inr (by first | exact zqj rfl | simp)))) (zFr_st u1933 (Or.inl (by first | exact zqi rfl | simp)))) (zFr_st u1937 (Or.inl (by first | exact zqi rfl | simp)))) (zFr_st u1942 (Or.inl (by first | exact zqi rfl | simp)))) (zFr_st u1945 (Or.inr (by first | exact zqj rfl | simp))))
        rw [hQ, zi0]
        exact ⟨f9, Or.inr (Or.inr ⟨by omega, by omega, rfl, by rw [hg]; exact (zTm_F (zFr_st u1945 (Or.inr (by first | exact zqj rfl | simp)) : zFr [178] [(170, 20)] _ _) (by first | exact ⟨zqm rfl, zqm rfl⟩ | simp) (by first | exact ⟨zqp rfl, zqp rfl⟩ | simp) (by first | exact (fun _ => zqr rfl) | simp) (zTm_F (zFr_st u1942 (Or.inl (by first | exact zqi rfl | simp)) : zFr [178] [(170, 20)] _ _) (by first | exact ⟨zqm rfl, zqm rfl⟩ | simp) (by first | exact ⟨zqp rfl, zqp rfl⟩ | simp) (by first | exact (fun _ => zqr rfl) | simp) (zTm_F (zFr_st u1937 (Or.inl (by first | exact zqi rfl | simp)) : zFr [178] [(170, 20)] _ _) (by first | exact ⟨zqm rfl, zqm rfl⟩ | simp) (by first | exact ⟨zqp rfl, zqp rfl⟩ | simp) (by first | exact (fun _ => zqr rfl) | simp) (zTm_F (zFr_st u1933 (Or.inl (by first | exact zqi rfl | simp)) : zFr [178] [(170, 20)] _ _) (by first | exact ⟨zqm rfl, zqm rfl⟩ | simp) (by first | exact ⟨zqp rfl, zqp rfl⟩ | simp) (by first | exact (fun _ => zqr rfl) | simp) hT1))))⟩)⟩
    · have y0 : zLk R C rk 4 b t a 0 = true := zLk_t (i := 0) (by rw [zb0]; exact r1) (Or.inl (by omega))
      have n1 : zLk R C rk 4 b t a 1 = false := zLk_n (i := 1) (by rw [zb1]; exact r2)
      have tm1 : (Int32.ofInt (-1)).toInt = -1 := by decide
      show zW n D 204 Q 32 [some (.ref 170), some (.int (zn (3 * l)))] [.int (Int32.ofInt (-1)), .int (zn (3 * l)), .ref 178] ph1888
      refine w_ias (pc' := 33) (k := 3 * l) (ykc_204 (e := (5, .iastore, 0)) rfl) (by omega) rfl (fun ph1950 u1949 => ?_)
      refine w_load (pc' := 34) (v := .ref 170) (m := 1) (ykc_204 (e := (2, .aload_n kF0, 0)) rfl) rfl rfl ?_
      refine w_gf (pc' := 37) (v := .ref 178) (ykc_204 (e := (5, .getfield 53, 0)) rfl) rfl ((u1949.2.1 170 19 (fun q => absurd q.1 (by first | exact Nat.ne_of_beq_eq_false rfl | decide))).trans ((ff.1 170 19 (by first | exact zqm rfl | decide) (by first | exact zqp rfl | decide)).trans (zsg hS zs_170_19))) rfl ?_
      refine w_load (pc' := 38) (v := .int (zn (3 * l))) (m := 1) (ykc_204 (e := (2, .iload_n kF1, 0)) rfl) rfl rfl ?_
      refine w_ialk (pc' := 39) (k := 3 * l) (ykc_204 (e := (5, .iaload, 0)) rfl) u1949.1 (by omega) rfl ?_
      refine w_zlt (ykc_204 (e := (4, .ifCond .lt 34, 73)) rfl) rfl (fun b1951 => ?_) (fun q => by exfalso; omega)
      refine w_load (pc' := 74) (v := .ref 170) (m := 1) (ykc_204 (e := (2, .aload_n kF0, 0)) rfl) rfl rfl ?_
      refine w_gf (pc' := 77) (v := .ref 178) (ykc_204 (e := (5, .getfield 53, 0)) rfl) rfl ((u1949.2.1 170 19 (fun q => absurd q.1 (by first | exact Nat.ne_of_beq_eq_false rfl | decide))).trans ((ff.1 170 19 (by first | exact zqm rfl | decide) (by first | exact zqp rfl | decide)).trans (zsg hS zs_170_19))) rfl ?_
      refine w_load (pc' := 78) (v := .int (zn (3 * l))) (m := 1) (ykc_204 (e := (2, .iload_n kF1, 0)) rfl) rfl rfl ?_
      refine w_alu (pc' := 79) (st' := [.int (Int32.ofInt 1), .int (zn (3 * l)), .ref 178]) (ykc_204 (e := (0, .iconst 1, 0)) rfl) rfl rfl ?_
      have e1952 : (zn (3 * l)) + (Int32.ofInt 1) = zn (3 * l + 1) := (zaddN (a := 3 * l) (b := 1) (znt (by omega)) c_4 (by omega)) 
      have te1952 := znt (k := 3 * l + 1) (by omega)
      refine w_alu (pc' := 80) (st' := [.int (zn (3 * l + 1)), .ref 178]) (ykc_204 (e := (0, .iadd, 0)) rfl) (by rw [← e1952]; rfl) rfl ?_
      refine w_load (pc' := 81) (v := .ref 170) (m := 1) (ykc_204 (e := (2, .aload_n kF0, 0)) rfl) rfl rfl ?_
      refine w_gf (pc' := 84) (v := .ref 178) (ykc_204 (e := (5, .getfield 53, 0)) rfl) rfl ((u1949.2.1 170 19 (fun q => absurd q.1 (by first | exact Nat.ne_of_beq_eq_false rfl | decide))).trans ((ff.1 170 19 (by first | exact zqm rfl | decide) (by first | exact zqp rfl | decide)).trans (zsg hS zs_170_19))) rfl ?_
      refine w_load (pc' := 85) (v := .int (zn (3 * l))) (m := 1) (ykc_204 (e := (2, .iload_n kF1, 0)) rfl) rfl rfl ?_
      refine w_ialk (pc' := 86) (k := 3 * l) (ykc_204 (e := (5, .iaload, 0)) rfl) u1949.1 (by omega) rfl ?_
      refine w_zge (ykc_204 (e := (4, .ifCond .ge 7, 93)) rfl) rfl (fun q => by exfalso; omega) (fun b1953 => ?_)
      refine w_alu (pc' := 90) (st' := [.int (Int32.ofInt (-1)), .int (zn (3 * l + 1)), .ref 178]) (ykc_204 (e := (0, .iconst (-1), 0)) rfl) rfl rfl ?_
      refine w_br (pc' := 100) (st' := [.int (Int32.ofInt (-1)), .int (zn (3 * l + 1)), .ref 178]) (ykc_204 (e := (4, .goto 10, 100)) rfl) rfl ?_
      refine w_ias (pc' := 101) (k := 3 * l + 1) (ykc_204 (e := (5, .iastore, 0)) rfl) (by omega) rfl (fun ph1955 u1954 => ?_)
      refine w_load (pc' := 102) (v := .ref 170) (m := 1) (ykc_204 (e := (2, .aload_n kF0, 0)) rfl) rfl rfl ?_
      refine w_gf (pc' := 105) (v := .ref 178) (ykc_204 (e := (5, .getfield 53, 0)) rfl) rfl ((u1954.2.1 170 19 (fun q => absurd q.1 (by first | exact Nat.ne_of_beq_eq_false rfl | decide))).trans ((u1949.2.1 170 19 (fun q => absurd q.1 (by first | exact Nat.ne_of_beq_eq_false rfl | decide))).trans ((ff.1 170 19 (by first | exact zqm rfl | decide) (by first | exact zqp rfl | decide)).trans (zsg hS zs_170_19)))) rfl ?_
      refine w_load (pc' := 106) (v := .int (zn (3 * l))) (m := 1) (ykc_204 (e := (2, .iload_n kF1, 0)) rfl) rfl rfl ?_
      refine w_alu (pc' := 107) (st' := [.int (Int32.ofInt 2), .int (zn (3 * l)), .ref 178]) (ykc_204 (e := (0, .iconst 2, 0)) rfl) rfl rfl ?_
      have e1956 : (zn (3 * l)) + (Int32.ofInt 2) = zn (3 * l + 2) := (zaddN (a := 3 * l) (b := 2) (znt (by omega)) c_5 (by omega)) 
      have te1956 := znt (k := 3 * l + 2) (by omega)
      refine w_alu (pc' := 108) (st' := [.int (zn (3 * l + 2)), .ref 178]) (ykc_204 (e := (0, .iadd, 0)) rfl) (by rw [← e1956]; rfl) rfl ?_
      refine w_load (pc' := 109) (v := .ref 170) (m := 1) (ykc_204 (e := (2, .aload_n kF0, 0)) rfl) rfl rfl ?_
      refine w_gf (pc' := 112) (v := .ref 178) (ykc_204 (e := (5, .getfield 53, 0)) rfl) rfl ((u1954.2.1 170 19 (fun q => absurd q.1 (by first | exact Nat.ne_of_beq_eq_false rfl | decide))).trans ((u1949.2.1 170 19 (fun q => absurd q.1 (by first | exact Nat.ne_of_beq_eq_false rfl | decide))).trans ((ff.1 170 19 (by first | exact zqm rfl | decide) (by first | exact zqp rfl | decide)).trans (zsg hS zs_170_19)))) rfl ?_
      refine w_load (pc' := 113) (v := .int (zn (3 * l))) (m := 1) (ykc_204 (e := (2, .iload_n kF1, 0)) rfl) rfl rfl ?_
      refine w_alu (pc' := 114) (st' := [.int (Int32.ofInt 1), .int (zn (3 * l)), .ref 178, .int (zn (3 * l + 2)), .ref 178]) (ykc_204 (e := (0, .iconst 1, 0)) rfl) rfl rfl ?_
      have e1957 : (zn (3 * l)) + (Int32.ofInt 1) = zn (3 * l + 1) := (zaddN (a := 3 * l) (b := 1) (znt (by omega)) c_4 (by omega)) 
      have te1957 := znt (k := 3 * l + 1) (by omega)
      refine w_alu (pc' := 115) (st' := [.int (zn (3 * l + 1)), .ref 178, .int (zn (3 * l + 2)), .ref 178]) (ykc_204 (e := (0, .iadd, 0)) rfl) (by rw [← e1957]; rfl) rfl ?_
      refine w_ialk (pc' := 116) (k := 3 * l + 1) (ykc_204 (e := (5, .iaload, 0)) rfl) u1954.1 (by omega) rfl ?_
      refine w_zge (ykc_204 (e := (4, .ifCond .ge 7, 123)) rfl) rfl (fun q => by exfalso; omega) (fun b1958 => ?_)
      refine w_alu (pc' := 120) (st' := [.int (Int32.ofInt (-1)), .int (zn (3 * l + 2)), .ref 178]) (ykc_204 (e := (0, .iconst (-1), 0)) rfl) rfl rfl ?_
      refine w_br (pc' := 129) (st' := [.int (Int32.ofInt (-1)), .int (zn (3 * l + 2)), .ref 178]) (ykc_204 (e := (4, .goto 9, 129)) rfl) rfl ?_
      refine w_ias (pc' := 130) (k := 3 * l + 2) (ykc_204 (e := (5, .iastore, 0)) rfl) (by omega) rfl (fun ph1960 u1959 => ?_)
      refine w_load (pc' := 131) (v := .ref 170) (m := 1) (ykc_204 (e := (2, .aload_n kF0, 0)) rfl) rfl rfl ?_
      refine w_alu (pc' := 132) (st' := [.ref 170, .ref 170]) (ykc_204 (e := (0, .dup, 0)) rfl) rfl rfl ?_
      refine w_gf (pc' := 135) (v := .int (zn l)) (ykc_204 (e := (5, .getfield 197, 0)) rfl) rfl ((u1959.2.1 170 20 (fun q => absurd q.1 (by first | exact Nat.ne_of_beq_eq_false rfl | decide))).trans ((u1954.2.1 170 20 (fun q => absurd q.1 (by first | exact Nat.ne_of_beq_eq_false rfl | decide))).trans ((u1949.2.1 170 20 (fun q => absurd q.1 (by first | exact Nat.ne_of_beq_eq_false rfl | decide))).trans ((ff.1 170 20 (by first | exact zqm rfl | decide) (by first | exact zqp rfl | decide)).trans hl)))) rfl ?_
      refine w_alu (pc' := 136) (st' := [.int (Int32.ofInt 1), .int (zn l), .ref 170]) (ykc_204 (e := (0, .iconst 1, 0)) rfl) rfl rfl ?_
      have e1961 : (zn l) + (Int32.ofInt 1) = zn (l + 1) := (zaddN (a := l) (b := 1) (znt (by omega)) c_4 (by omega)) 
      have te1961 := znt (k := l + 1) (by omega)
      refine w_alu (pc' := 137) (st' := [.int (zn (l + 1)), .ref 170]) (ykc_204 (e := (0, .iadd, 0)) rfl) (by rw [← e1961]; rfl) rfl ?_
      refine w_pf (pc' := 140) (ykc_204 (e := (5, .putfield 197, 0)) rfl) rfl rfl (fun ph1963 u1962 => ?_)
      refine w_load (pc' := 141) (v := .ref 170) (m := 1) (ykc_204 (e := (2, .aload_n kF0, 0)) rfl) rfl rfl ?_
      refine w_gf (pc' := 144) (v := .ref 178) (ykc_204 (e := (5, .getfield 53, 0)) rfl) rfl ((u1962.2.1 170 19 (fun q => absurd q.2 (by first | exact Nat.ne_of_beq_eq_false rfl | decide))).trans ((u1959.2.1 170 19 (fun q => absurd q.1 (by first | exact Nat.ne_of_beq_eq_false rfl | decide))).trans ((u1954.2.1 170 19 (fun q => absurd q.1 (by first | exact Nat.ne_of_beq_eq_false rfl | decide))).trans ((u1949.2.1 170 19 (fun q => absurd q.1 (by first | exact Nat.ne_of_beq_eq_false rfl | decide))).trans ((ff.1 170 19 (by first | exact zqm rfl | decide) (by first | exact zqp rfl | decide)).trans (zsg hS zs_170_19)))))) rfl ?_
      refine w_load (pc' := 145) (v := .int (zn (3 * l))) (m := 1) (ykc_204 (e := (2, .iload_n kF1, 0)) rfl) rfl rfl ?_
      refine w_alu (pc' := 146) (st' := [.int (Int32.ofInt 2), .int (zn (3 * l)), .ref 178]) (ykc_204 (e := (0, .iconst 2, 0)) rfl) rfl rfl ?_
      have e1964 : (zn (3 * l)) + (Int32.ofInt 2) = zn (3 * l + 2) := (zaddN (a := 3 * l) (b := 2) (znt (by omega)) c_5 (by omega)) 
      have te1964 := znt (k := 3 * l + 2) (by omega)
      refine w_alu (pc' := 147) (st' := [.int (zn (3 * l + 2)), .ref 178]) (ykc_204 (e := (0, .iadd, 0)) rfl) (by rw [← e1964]; rfl) rfl ?_
      refine w_ialk (pc' := 148) (k := 3 * l + 2) (ykc_204 (e := (5, .iaload, 0)) rfl) ((u1962.2.1 178 (3 * l + 2) (fun q => absurd q.1 (by first | exact Nat.ne_of_beq_eq_false rfl | decide))).trans u1959.1) (by omega) rfl ?_
      refine w_zlt (ykc_204 (e := (4, .ifCond .lt 7, 155)) rfl) rfl (fun b1965 => ?_) (fun q => by exfalso; omega)
      refine w_alu (pc' := 156) (st' := [.int (Int32.ofInt 0)]) (ykc_204 (e := (0, .iconst 0, 0)) rfl) rfl rfl ?_
      refine w_ret (v := (some (.int (Int32.ofInt 0)))) (ykc_204 (e := (7, .ireturn, 0)) rfl) zr_z ?_
      have hg := k1 y0 n1
      have f9 : zFr [178] [(170, 15), (170, 20)] ph ph1963 := (zFr_trans (zFr_trans (zFr_trans (zFr_trans (zFr_mono ff (by first | exact zqa rfl | simp) (by first | exact zqf rfl | simp)) (zFr_st u1949 (Or.inl (by first | exact zqi rfl | simp)))) (zFr_st u1954 (Or.inl (by first | exact zqi rfl | simp)))) (zFr_st u1959 (Or.inl (by first | exact zqi rfl | simp)))) (zFr_st u1962 (Or.inr (by first | exact zqj rfl | simp))))
      rw [hQ, zi0]
      exact ⟨f9, Or.inr (Or.inr ⟨by omega, by omega, rfl, by rw [hg]; exact (zTm_F (zFr_st u1962 (Or.inr (by first | exact zqj rfl | simp)) : zFr [178] [(170, 20)] _ _) (by first | exact ⟨zqm rfl, zqm rfl⟩ | simp) (by first | exact ⟨zqp rfl, zqp rfl⟩ | simp) (by first | exact (fun _ => zqr rfl) | simp) (zTm_F (zFr_st u1959 (Or.inl (by first | exact zqi rfl | simp)) : zFr [178] [(170, 20)] _ _) (by first | exact ⟨zqm rfl, zqm rfl⟩ | simp) (by first | exact ⟨zqp rfl, zqp rfl⟩ | simp) (by first | exact (fun _ => zqr rfl) | simp) (zTm_F (zFr_st u1954 (Or.inl (by first | exact zqi rfl | simp)) : zFr [178] [(170, 20)] _ _) (by first | exact ⟨zqm rfl, zqm rfl⟩ | simp) (by first | exact ⟨zqp rfl, zqp rfl⟩ | simp) (by first | exact (fun _ => zqr rfl) | simp) (zTm_F (zFr_st u1949 (Or.inl (by first | exact zqi rfl | simp)) : zFr [178] [(170, 20)] _ _) (by first | exact ⟨zqm rfl, zqm rfl⟩ | simp) (by first | exact ⟨zqp rfl, zqp rfl⟩ | simp) (by first | exact (fun _ => zqr rfl) | simp) hff))))⟩)⟩
    · have n0 : zLk R C rk 4 b t a 0 = false := zLk_n (i := 0) (by rw [zb0]; exact r1)
      have tm1 : (Int32.ofInt (-1)).toInt = -1 := by decide
      show zW n D 204 Q 32 [some (.ref 170), some (.int (zn (3 * l)))] [.int (Int32.ofInt (-1)), .int (zn (3 * l)), .ref 178] ph1888
      refine w_ias (pc' := 33) (k := 3 * l) (ykc_204 (e := (5, .iastore, 0)) rfl) (by omega) rfl (fun ph1967 u1966 => ?_)
      refine w_load (pc' := 34) (v := .ref 170) (m := 1) (ykc_204 (e := (2, .aload_n kF0, 0)) rfl) rfl rfl ?_
      refine w_gf (pc' := 37) (v := .ref 178) (ykc_204 (e := (5, .getfield 53, 0)) rfl) rfl ((u1966.2.1 170 19 (fun q => absurd q.1 (by first | exact Nat.ne_of_beq_eq_false rfl | decide))).trans ((ff.1 170 19 (by first | exact zqm rfl | decide) (by first | exact zqp rfl | decide)).trans (zsg hS zs_170_19))) rfl ?_
      refine w_load (pc' := 38) (v := .int (zn (3 * l))) (m := 1) (ykc_204 (e := (2, .iload_n kF1, 0)) rfl) rfl rfl ?_
      refine w_ialk (pc' := 39) (k := 3 * l) (ykc_204 (e := (5, .iaload, 0)) rfl) u1966.1 (by omega) rfl ?_
      refine w_zlt (ykc_204 (e := (4, .ifCond .lt 34, 73)) rfl) rfl (fun b1968 => ?_) (fun q => by exfalso; omega)
      refine w_load (pc' := 74) (v := .ref 170) (m := 1) (ykc_204 (e := (2, .aload_n kF0, 0)) rfl) rfl rfl ?_
      refine w_gf (pc' := 77) (v := .ref 178) (ykc_204 (e := (5, .getfield 53, 0)) rfl) rfl ((u1966.2.1 170 19 (fun q => absurd q.1 (by first | exact Nat.ne_of_beq_eq_false rfl | decide))).trans ((ff.1 170 19 (by first | exact zqm rfl | decide) (by first | exact zqp rfl | decide)).trans (zsg hS zs_170_19))) rfl ?_
      refine w_load (pc' := 78) (v := .int (zn (3 * l))) (m := 1) (ykc_204 (e := (2, .iload_n kF1, 0)) rfl) rfl rfl ?_
      refine w_alu (pc' := 79) (st' := [.int (Int32.ofInt 1), .int (zn (3 * l)), .ref 178]) (ykc_204 (e := (0, .iconst 1, 0)) rfl) rfl rfl ?_
      have e1969 : (zn (3 * l)) + (Int32.ofInt 1) = zn (3 * l + 1) := (zaddN (a := 3 * l) (b := 1) (znt (by omega)) c_4 (by omega)) 
      have te1969 := znt (k := 3 * l + 1) (by omega)
      refine w_alu (pc' := 80) (st' := [.int (zn (3 * l + 1)), .ref 178]) (ykc_204 (e := (0, .iadd, 0)) rfl) (by rw [← e1969]; rfl) rfl ?_
      refine w_load (pc' := 81) (v := .ref 170) (m := 1) (ykc_204 (e := (2, .aload_n kF0, 0)) rfl) rfl rfl ?_
      refine w_gf (pc' := 84) (v := .ref 178) (ykc_204 (e := (5, .getfield 53, 0)) rfl) rfl ((u1966.2.1 170 19 (fun q => absurd q.1 (by first | exact Nat.ne_of_beq_eq_false rfl | decide))).trans ((ff.1 170 19 (by first | exact zqm rfl | decide) (by first | exact zqp rfl | decide)).trans (zsg hS zs_170_19))) rfl ?_
      refine w_load (pc' := 85) (v := .int (zn (3 * l))) (m := 1) (ykc_204 (e := (2, .iload_n kF1, 0)) rfl) rfl rfl ?_
      refine w_ialk (pc' := 86) (k := 3 * l) (ykc_204 (e := (5, .iaload, 0)) rfl) u1966.1 (by omega) rfl ?_
      refine w_zge (ykc_204 (e := (4, .ifCond .ge 7, 93)) rfl) rfl (fun q => by exfalso; omega) (fun b1970 => ?_)
      refine w_alu (pc' := 90) (st' := [.int (Int32.ofInt (-1)), .int (zn (3 * l + 1)), .ref 178]) (ykc_204 (e := (0, .iconst (-1), 0)) rfl) rfl rfl ?_
      refine w_br (pc' := 100) (st' := [.int (Int32.ofInt (-1)), .int (zn (3 * l + 1)), .ref 178]) (ykc_204 (e := (4, .goto 10, 100)) rfl) rfl ?_
      refine w_ias (pc' := 101) (k := 3 * l + 1) (ykc_204 (e := (5, .iastore, 0)) rfl) (by omega) rfl (fun ph1972 u1971 => ?_)
      refine w_load (pc' := 102) (v := .ref 170) (m := 1) (ykc_204 (e := (2, .aload_n kF0, 0)) rfl) rfl rfl ?_
      refine w_gf (pc' := 105) (v := .ref 178) (ykc_204 (e := (5, .getfield 53, 0)) rfl) rfl ((u1971.2.1 170 19 (fun q => absurd q.1 (by first | exact Nat.ne_of_beq_eq_false rfl | decide))).trans ((u1966.2.1 170 19 (fun q => absurd q.1 (by first | exact Nat.ne_of_beq_eq_false rfl | decide))).trans ((ff.1 170 19 (by first | exact zqm rfl | decide) (by first | exact zqp rfl | decide)).trans (zsg hS zs_170_19)))) rfl ?_
      refine w_load (pc' := 106) (v := .int (zn (3 * l))) (m := 1) (ykc_204 (e := (2, .iload_n kF1, 0)) rfl) rfl rfl ?_
      refine w_alu (pc' := 107) (st' := [.int (Int32.ofInt 2), .int (zn (3 * l)), .ref 178]) (ykc_204 (e := (0, .iconst 2, 0)) rfl) rfl rfl ?_
      have e1973 : (zn (3 * l)) + (Int32.ofInt 2) = zn (3 * l + 2) := (zaddN (a := 3 * l) (b := 2) (znt (by omega)) c_5 (by omega)) 
      have te1973 := znt (k := 3 * l + 2) (by omega)
      refine w_alu (pc' := 108) (st' := [.int (zn (3 * l + 2)), .ref 178]) (ykc_204 (e := (0, .iadd, 0)) rfl) (by rw [← e1973]; rfl) rfl ?_
      refine w_load (pc' := 109) (v := .ref 170) (m := 1) (ykc_204 (e := (2, .aload_n kF0, 0)) rfl) rfl rfl ?_
      refine w_gf (pc' := 112) (v := .ref 178) (ykc_204 (e := (5, .getfield 53, 0)) rfl) rfl ((u1971.2.1 170 19 (fun q => absurd q.1 (by first | exact Nat.ne_of_beq_eq_false rfl | decide))).trans ((u1966.2.1 170 19 (fun q => absurd q.1 (by first | exact Nat.ne_of_beq_eq_false rfl | decide))).trans ((ff.1 170 19 (by first | exact zqm rfl | decide) (by first | exact zqp rfl | decide)).trans (zsg hS zs_170_19)))) rfl ?_
      refine w_load (pc' := 113) (v := .int (zn (3 * l))) (m := 1) (ykc_204 (e := (2, .iload_n kF1, 0)) rfl) rfl rfl ?_
      refine w_alu (pc' := 114) (st' := [.int (Int32.ofInt 1), .int (zn (3 * l)), .ref 178, .int (zn (3 * l + 2)), .ref 178]) (ykc_204 (e := (0, .iconst 1, 0)) rfl) rfl rfl ?_
      have e1974 : (zn (3 * l)) + (Int32.ofInt 1) = zn (3 * l + 1) := (zaddN (a := 3 * l) (b := 1) (znt (by omega)) c_4 (by omega)) 
      have te1974 := znt (k := 3 * l + 1) (by omega)
      refine w_alu (pc' := 115) (st' := [.int (zn (3 * l + 1)), .ref 178, .int (zn (3 * l + 2)), .ref 178]) (ykc_204 (e := (0, .iadd, 0)) rfl) (by rw [← e1974]; rfl) rfl ?_
      refine w_ialk (pc' := 116) (k := 3 * l + 1) (ykc_204 (e := (5, .iaload, 0)) rfl) u1971.1 (by omega) rfl ?_
      refine w_zge (ykc_204 (e := (4, .ifCond .ge 7, 123)) rfl) rfl (fun q => by exfalso; omega) (fun b1975 => ?_)
      refine w_alu (pc' := 120) (st' := [.int (Int32.ofInt (-1)), .int (zn (3 * l + 2)), .ref 178]) (ykc_204 (e := (0, .iconst (-1), 0)) rfl) rfl rfl ?_
      refine w_br (pc' := 129) (st' := [.int (Int32.ofInt (-1)), .int (zn (3 * l + 2)), .ref 178]) (ykc_204 (e := (4, .goto 9, 129)) rfl) rfl ?_
      refine w_ias (pc' := 130) (k := 3 * l + 2) (ykc_204 (e := (5, .iastore, 0)) rfl) (by omega) rfl (fun ph1977 u1976 => ?_)
      refine w_load (pc' := 131) (v := .ref 170) (m := 1) (ykc_204 (e := (2, .aload_n kF0, 0)) rfl) rfl rfl ?_
      refine w_alu (pc' := 132) (st' := [.ref 170, .ref 170]) (ykc_204 (e := (0, .dup, 0)) rfl) rfl rfl ?_
      refine w_gf (pc' := 135) (v := .int (zn l)) (ykc_204 (e := (5, .getfield 197, 0)) rfl) rfl ((u1976.2.1 170 20 (fun q => absurd q.1 (by first | exact Nat.ne_of_beq_eq_false rfl | decide))).trans ((u1971.2.1 170 20 (fun q => absurd q.1 (by first | exact Nat.ne_of_beq_eq_false rfl | decide))).trans ((u1966.2.1 170 20 (fun q => absurd q.1 (by first | exact Nat.ne_of_beq_eq_false rfl | decide))).trans ((ff.1 170 20 (by first | exact zqm rfl | decide) (by first | exact zqp rfl | decide)).trans hl)))) rfl ?_
      refine w_alu (pc' := 136) (st' := [.int (Int32.ofInt 1), .int (zn l), .ref 170]) (ykc_204 (e := (0, .iconst 1, 0)) rfl) rfl rfl ?_
      have e1978 : (zn l) + (Int32.ofInt 1) = zn (l + 1) := (zaddN (a := l) (b := 1) (znt (by omega)) c_4 (by omega)) 
      have te1978 := znt (k := l + 1) (by omega)
      refine w_alu (pc' := 137) (st' := [.int (zn (l + 1)), .ref 170]) (ykc_204 (e := (0, .iadd, 0)) rfl) (by rw [← e1978]; rfl) rfl ?_
      refine w_pf (pc' := 140) (ykc_204 (e := (5, .putfield 197, 0)) rfl) rfl rfl (fun ph1980 u1979 => ?_)
      refine w_load (pc' := 141) (v := .ref 170) (m := 1) (ykc_204 (e := (2, .aload_n kF0, 0)) rfl) rfl rfl ?_
      refine w_gf (pc' := 144) (v := .ref 178) (ykc_204 (e := (5, .getfield 53, 0)) rfl) rfl ((u1979.2.1 170 19 (fun q => absurd q.2 (by first | exact Nat.ne_of_beq_eq_false rfl | decide))).trans ((u1976.2.1 170 19 (fun q => absurd q.1 (by first | exact Nat.ne_of_beq_eq_false rfl | decide))).trans ((u1971.2.1 170 19 (fun q => absurd q.1 (by first | exact Nat.ne_of_beq_eq_false rfl | decide))).trans ((u1966.2.1 170 19 (fun q => absurd q.1 (by first | exact Nat.ne_of_beq_eq_false rfl | decide))).trans ((ff.1 170 19 (by first | exact zqm rfl | decide) (by first | exact zqp rfl | decide)).trans (zsg hS zs_170_19)))))) rfl ?_
      refine w_load (pc' := 145) (v := .int (zn (3 * l))) (m := 1) (ykc_204 (e := (2, .iload_n kF1, 0)) rfl) rfl rfl ?_
      refine w_alu (pc' := 146) (st' := [.int (Int32.ofInt 2), .int (zn (3 * l)), .ref 178]) (ykc_204 (e := (0, .iconst 2, 0)) rfl) rfl rfl ?_
      have e1981 : (zn (3 * l)) + (Int32.ofInt 2) = zn (3 * l + 2) := (zaddN (a := 3 * l) (b := 2) (znt (by omega)) c_5 (by omega)) 
      have te1981 := znt (k := 3 * l + 2) (by omega)
      refine w_alu (pc' := 147) (st' := [.int (zn (3 * l + 2)), .ref 178]) (ykc_204 (e := (0, .iadd, 0)) rfl) (by rw [← e1981]; rfl) rfl ?_
      refine w_ialk (pc' := 148) (k := 3 * l + 2) (ykc_204 (e := (5, .iaload, 0)) rfl) ((u1979.2.1 178 (3 * l + 2) (fun q => absurd q.1 (by first | exact Nat.ne_of_beq_eq_false rfl | decide))).trans u1976.1) (by omega) rfl ?_
      refine w_zlt (ykc_204 (e := (4, .ifCond .lt 7, 155)) rfl) rfl (fun b1982 => ?_) (fun q => by exfalso; omega)
      refine w_alu (pc' := 156) (st' := [.int (Int32.ofInt 0)]) (ykc_204 (e := (0, .iconst 0, 0)) rfl) rfl rfl ?_
      refine w_ret (v := (some (.int (Int32.ofInt 0)))) (ykc_204 (e := (7, .ireturn, 0)) rfl) zr_z ?_
      have hg := k0 n0
      have f9 : zFr [178] [(170, 15), (170, 20)] ph ph1980 := (zFr_trans (zFr_trans (zFr_trans (zFr_trans (zFr_mono ff (by first | exact zqa rfl | simp) (by first | exact zqf rfl | simp)) (zFr_st u1966 (Or.inl (by first | exact zqi rfl | simp)))) (zFr_st u1971 (Or.inl (by first | exact zqi rfl | simp)))) (zFr_st u1976 (Or.inl (by first | exact zqi rfl | simp)))) (zFr_st u1979 (Or.inr (by first | exact zqj rfl | simp))))
      rw [hQ, zi0]
      exact ⟨f9, Or.inr (Or.inr ⟨by omega, by omega, rfl, by rw [hg]; exact (zTm_F (zFr_st u1979 (Or.inr (by first | exact zqj rfl | simp)) : zFr [178] [(170, 20)] _ _) (by first | exact ⟨zqm rfl, zqm rfl⟩ | simp) (by first | exact ⟨zqp rfl, zqp rfl⟩ | simp) (by first | exact (fun _ => zqr rfl) | simp) (zTm_F (zFr_st u1976 (Or.inl (by first | exact zqi rfl | simp)) : zFr [178] [(170, 20)] _ _) (by first | exact ⟨zqm rfl, zqm rfl⟩ | simp) (by first | exact ⟨zqp rfl, zqp rfl⟩ | simp) (by first | exact (fun _ => zqr rfl) | simp) (zTm_F (zFr_st u1971 (Or.inl (by first | exact zqi rfl | simp)) : zFr [178] [(170, 20)] _ _) (by first | exact ⟨zqm rfl, zqm rfl⟩ | simp) (by first | exact ⟨zqp rfl, zqp rfl⟩ | simp) (by first | exact (fun _ => zqr rfl) | simp) (zTm_F (zFr_st u1966 (Or.inl (by first | exact zqi rfl | simp)) : zFr [178] [(170, 20)] _ _) (by first | exact ⟨zqm rfl, zqm rfl⟩ | simp) (by first | exact ⟨zqp rfl, zqp rfl⟩ | simp) (by first | exact (fun _ => zqr rfl) | simp) hff))))⟩)⟩
    
  · refine w_alu (pc' := 15) (st' := [.int (Int32.ofInt 0)]) (ykc_204 (e := (0, .iconst 0, 0)) rfl) rfl rfl ?_
    refine w_ret (v := (some (.int (Int32.ofInt 0)))) (ykc_204 (e := (7, .ireturn, 0)) rfl) zr_z ?_
    rw [hQ, zi0]
    exact ⟨zFr_refl, Or.inl ⟨by omega, rfl, hT⟩⟩
theorem zm_rthing {ph : pm_H} {R C a b ln : Nat} {rk : Nat → Bool} {t : Nat → Nat} (hS : zSh ph) (hL : zMl ph R C rk) (hT : zTm ph a b ln t) {l N : Nat} (hl : zc ph 170 20 = some (.int (zn l))) (hl8 : l < 8) (hN : zc ph 170 6 = some (.int (zn N))) (hN8 : N + l ≤ 8) : zM 205 [.ref 170] ph (fun v0 q => zFr [178] [(170, 15), (170, 20)] ph q ∧ ((N + l = 8 ∧ v0 = some (.int (zI false)) ∧ zTm q a b ln t) ∨ (N + l < 8 ∧ zLg R C rk 2 b t a 2 = 2 ∧ v0 = some (.int (zI true)) ∧ zTm q (a + 2) b ln t ∧ zc q 170 20 = some (.int (zn (l + 1))) ∧ zc q 178 l = some (.int (zn (zLf C t a))) ∧ ∀ i, i < l → zc q 178 i = zc ph 178 i) ∨ (N + l < 8 ∧ zLg R C rk 2 b t a 2 < 2 ∧ v0 = some (.int (zI false)) ∧ zTm q (a + zLg R C rk 2 b t a 2) b ln t))) := by
  obtain ⟨Q, hQ⟩ : ∃ Q : Option Value → pm_H → Prop, Q = (fun v0 q => zFr [178] [(170, 15), (170, 20)] ph q ∧ ((N + l = 8 ∧ v0 = some (.int (zI false)) ∧ zTm q a b ln t) ∨ (N + l < 8 ∧ zLg R C rk 2 b t a 2 = 2 ∧ v0 = some (.int (zI true)) ∧ zTm q (a + 2) b ln t ∧ zc q 170 20 = some (.int (zn (l + 1))) ∧ zc q 178 l = some (.int (zn (zLf C t a))) ∧ ∀ i, i < l → zc q 178 i = zc ph 178 i) ∨ (N + l < 8 ∧ zLg R C rk 2 b t a 2 < 2 ∧ v0 = some (.int (zI false)) ∧ zTm q (a + zLg R C rk 2 b t a 2) b ln t))) := ⟨_, rfl⟩
  rw [← hQ]
  refine zM_mk fun n D => ?_
  show zW n D 205 Q 0 [some (.ref 170)] [] ph
  have c_0 : ((Int8.ofInt 8).toInt32).toInt = 8 := by decide +kernel
  have c_1 : (Int32.ofInt 0).toInt = 0 := by decide +kernel
  have c_2 : (Int32.ofInt 1).toInt = 1 := by decide +kernel
  have hL0 := hL
  have hab := hT.2.2.1
  have hb80 : b ≤ 80 := Nat.le_trans hT.2.2.2.1 hT.2.2.2.2.1
  obtain ⟨gR, gC, gK, hR3, hR7, hC3, hC7⟩ := hL
  have hRC := zRC49 hR7 hC7
  have tl := znt (k := l) (by omega)
  have tN := znt (k := N) (by omega)
  obtain ⟨k0, k1, k2⟩ := @zLg_2 R C 2 b a rk t
  refine w_load (pc' := 1) (v := .ref 170) (m := 1) (ykc_205 (e := (2, .aload_n kF0, 0)) rfl) rfl rfl ?_
  refine w_gf (pc' := 4) (v := .int (zn N)) (ykc_205 (e := (5, .getfield 133, 0)) rfl) rfl hN rfl ?_
  refine w_load (pc' := 5) (v := .ref 170) (m := 1) (ykc_205 (e := (2, .aload_n kF0, 0)) rfl) rfl rfl ?_
  refine w_gf (pc' := 8) (v := .int (zn l)) (ykc_205 (e := (5, .getfield 197, 0)) rfl) rfl hl rfl ?_
  have e1983 : (zn N) + (zn l) = zn (N + l) := (zaddN (a := N) (b := l) (znt (by omega)) (znt (by omega)) (by omega)) 
  have te1983 := znt (k := N + l) (by omega)
  refine w_alu (pc' := 9) (st' := [.int (zn (N + l))]) (ykc_205 (e := (0, .iadd, 0)) rfl) (by rw [← e1983]; rfl) rfl ?_
  refine w_push (pc' := 11) (v := .int ((Int8.ofInt 8).toInt32)) (m := 2) (ykc_205 (e := (1, .bipush 8, 0)) rfl) rfl rfl ?_
  refine w_ine (ykc_205 (e := (4, .if_icmp .ne 5, 16)) rfl) rfl (fun b1984 => ?_) (fun b1984 => ?_)
  · refine w_load (pc' := 17) (v := .ref 170) (m := 1) (ykc_205 (e := (2, .aload_n kF0, 0)) rfl) rfl rfl ?_
    refine w_gf (pc' := 20) (v := .ref 178) (ykc_205 (e := (5, .getfield 53, 0)) rfl) rfl (zsg hS zs_170_19) rfl ?_
    refine w_load (pc' := 21) (v := .ref 170) (m := 1) (ykc_205 (e := (2, .aload_n kF0, 0)) rfl) rfl rfl ?_
    refine w_gf (pc' := 24) (v := .int (zn l)) (ykc_205 (e := (5, .getfield 197, 0)) rfl) rfl hl rfl ?_
    refine w_load (pc' := 25) (v := .ref 170) (m := 1) (ykc_205 (e := (2, .aload_n kF0, 0)) rfl) rfl rfl ?_
    refine w_cv (as := [.ref 170]) (r := [.int (zn l), .ref 178]) (ykc_205 (e := (6, .invokevirtual 200, 0)) rfl) rfl rfl rfl rfl (zm_rfield hS hL0 hT) (fun v1985 ph1986 hv => ?_)
    rcases hv with ⟨ff, ⟨r1, r2, rfl, hff⟩ | ⟨r1, r2, rfl, hff⟩ | ⟨r1, rfl, hff⟩⟩
    · have y0 : zLk R C rk 2 b t a 0 = true := zLk_t (i := 0) (by rw [zb0]; exact r1) (Or.inl (by omega))
      have y1 : zLk R C rk 2 b t a 1 = true := zLk_t (i := 1) (by rw [zb1]; exact r2) (Or.inl (by omega))
      have d0 : a < b ∧ 48 ≤ t a ∧ t a < 48 + R := of_decide_eq_true r1
      have d1 : a + 1 < b ∧ 48 ≤ t (a + 1) ∧ t (a + 1) < 48 + C := of_decide_eq_true r2
      have lf := zLf_lt (R := R) (C := C) (t := t) (p := a) (by omega) (by omega) d0.2.2 d1.2.2
      have tf := znt (k := zLf C t a) (by omega)
      show zW n D 205 Q 28 [some (.ref 170)] [.int (zn (zLf C t a)), .int (zn l), .ref 178] ph1986
      refine w_ias (pc' := 29) (k := l) (ykc_205 (e := (5, .iastore, 0)) rfl) (by omega) rfl (fun ph1988 u1987 => ?_)
      refine w_load (pc' := 30) (v := .ref 170) (m := 1) (ykc_205 (e := (2, .aload_n kF0, 0)) rfl) rfl rfl ?_
      refine w_alu (pc' := 31) (st' := [.ref 170, .ref 170]) (ykc_205 (e := (0, .dup, 0)) rfl) rfl rfl ?_
      refine w_gf (pc' := 34) (v := .int (zn l)) (ykc_205 (e := (5, .getfield 197, 0)) rfl) rfl ((u1987.2.1 170 20 (fun q => absurd q.1 (by first | exact Nat.ne_of_beq_eq_false rfl | decide))).trans ((ff.1 170 20 (by first | exact zqm rfl | decide) (by first | exact zqp rfl | decide)).trans hl)) rfl ?_
      refine w_alu (pc' := 35) (st' := [.int (Int32.ofInt 1), .int (zn l), .ref 170]) (ykc_205 (e := (0, .iconst 1, 0)) rfl) rfl rfl ?_
      have e1989 : (zn l) + (Int32.ofInt 1) = zn (l + 1) := (zaddN (a := l) (b := 1) (znt (by omega)) c_2 (by omega)) 
      have te1989 := znt (k := l + 1) (by omega)
      refine w_alu (pc' := 36) (st' := [.int (zn (l + 1)), .ref 170]) (ykc_205 (e := (0, .iadd, 0)) rfl) (by rw [← e1989]; rfl) rfl ?_
      refine w_pf (pc' := 39) (ykc_205 (e := (5, .putfield 197, 0)) rfl) rfl rfl (fun ph1991 u1990 => ?_)
      refine w_load (pc' := 40) (v := .ref 170) (m := 1) (ykc_205 (e := (2, .aload_n kF0, 0)) rfl) rfl rfl ?_
      refine w_gf (pc' := 43) (v := .ref 178) (ykc_205 (e := (5, .getfield 53, 0)) rfl) rfl ((u1990.2.1 170 19 (fun q => absurd q.2 (by first | exact Nat.ne_of_beq_eq_false rfl | decide))).trans ((u1987.2.1 170 19 (fun q => absurd q.1 (by first | exact Nat.ne_of_beq_eq_false rfl | decide))).trans ((ff.1 170 19 (by first | exact zqm rfl | decide) (by first | exact zqp rfl | decide)).trans (zsg hS zs_170_19)))) rfl ?_
      refine w_load (pc' := 44) (v := .ref 170) (m := 1) (ykc_205 (e := (2, .aload_n kF0, 0)) rfl) rfl rfl ?_
      refine w_gf (pc' := 47) (v := .int (zn (l + 1))) (ykc_205 (e := (5, .getfield 197, 0)) rfl) rfl u1990.1 rfl ?_
      refine w_alu (pc' := 48) (st' := [.int (Int32.ofInt 1), .int (zn (l + 1)), .ref 178]) (ykc_205 (e := (0, .iconst 1, 0)) rfl) rfl rfl ?_
      have e1992 : (zn (l + 1)) - (Int32.ofInt 1) = zn (l) := zsubN (a := l + 1) (b := 1) (znt (by omega)) c_2 (by omega)
      have te1992 := znt (k := l) (by omega)
      refine w_alu (pc' := 49) (st' := [.int (zn (l)), .ref 178]) (ykc_205 (e := (0, .isub, 0)) rfl) (by show some ([.int ((zn (l + 1)) - (Int32.ofInt 1)), .ref 178] : List Value) = _; rw [e1992]) rfl ?_
      refine w_ialk (pc' := 50) (k := l) (ykc_205 (e := (5, .iaload, 0)) rfl) ((u1990.2.1 178 l (fun q => absurd q.1 (by first | exact Nat.ne_of_beq_eq_false rfl | decide))).trans u1987.1) (by omega) rfl ?_
      refine w_zlt (ykc_205 (e := (4, .ifCond .lt 7, 57)) rfl) rfl (fun q => by exfalso; omega) (fun b1993 => ?_)
      refine w_alu (pc' := 54) (st' := [.int (Int32.ofInt 1)]) (ykc_205 (e := (0, .iconst 1, 0)) rfl) rfl rfl ?_
      refine w_br (pc' := 58) (st' := [.int (Int32.ofInt 1)]) (ykc_205 (e := (4, .goto 4, 58)) rfl) rfl ?_
      refine w_ret (v := (some (.int (Int32.ofInt 1)))) (ykc_205 (e := (7, .ireturn, 0)) rfl) zr_z ?_
      have hg := k2 y0 y1
      have f9 : zFr [178] [(170, 15), (170, 20)] ph ph1991 := (zFr_trans (zFr_trans (zFr_mono ff (by first | exact zqa rfl | simp) (by first | exact zqf rfl | simp)) (zFr_st u1987 (Or.inl (by first | exact zqi rfl | simp)))) (zFr_st u1990 (Or.inr (by first | exact zqj rfl | simp))))
      rw [hQ, zi1]
      exact ⟨f9, Or.inr (Or.inl ⟨by omega, hg, rfl, (zTm_F (zFr_st u1990 (Or.inr (by first | exact zqj rfl | simp)) : zFr [178] [(170, 20)] _ _) (by first | exact ⟨zqm rfl, zqm rfl⟩ | simp) (by first | exact ⟨zqp rfl, zqp rfl⟩ | simp) (by first | exact (fun _ => zqr rfl) | simp) (zTm_F (zFr_st u1987 (Or.inl (by first | exact zqi rfl | simp)) : zFr [178] [(170, 20)] _ _) (by first | exact ⟨zqm rfl, zqm rfl⟩ | simp) (by first | exact ⟨zqp rfl, zqp rfl⟩ | simp) (by first | exact (fun _ => zqr rfl) | simp) hff)), u1990.1, ((u1990.2.1 178 l (fun q => absurd q.1 (by first | exact Nat.ne_of_beq_eq_false rfl | decide))).trans u1987.1), fun i hi => ((u1990.2.1 178 i (fun q => absurd q.1 (by first | exact Nat.ne_of_beq_eq_false rfl | decide))).trans ((u1987.2.1 178 i (fun q => by have q2 := q.2; omega)).trans (ff.1 178 i (by first | exact zqm rfl | decide) (by first | exact zqp rfl | simp))))⟩)⟩
    · have y0 : zLk R C rk 2 b t a 0 = true := zLk_t (i := 0) (by rw [zb0]; exact r1) (Or.inl (by omega))
      have n1 : zLk R C rk 2 b t a 1 = false := zLk_n (i := 1) (by rw [zb1]; exact r2)
      have tm1 : (Int32.ofInt (-1)).toInt = -1 := by decide
      show zW n D 205 Q 28 [some (.ref 170)] [.int (Int32.ofInt (-1)), .int (zn l), .ref 178] ph1986
      refine w_ias (pc' := 29) (k := l) (ykc_205 (e := (5, .iastore, 0)) rfl) (by omega) rfl (fun ph1995 u1994 => ?_)
      refine w_load (pc' := 30) (v := .ref 170) (m := 1) (ykc_205 (e := (2, .aload_n kF0, 0)) rfl) rfl rfl ?_
      refine w_alu (pc' := 31) (st' := [.ref 170, .ref 170]) (ykc_205 (e := (0, .dup, 0)) rfl) rfl rfl ?_
      refine w_gf (pc' := 34) (v := .int (zn l)) (ykc_205 (e := (5, .getfield 197, 0)) rfl) rfl ((u1994.2.1 170 20 (fun q => absurd q.1 (by first | exact Nat.ne_of_beq_eq_false rfl | decide))).trans ((ff.1 170 20 (by first | exact zqm rfl | decide) (by first | exact zqp rfl | decide)).trans hl)) rfl ?_
      refine w_alu (pc' := 35) (st' := [.int (Int32.ofInt 1), .int (zn l), .ref 170]) (ykc_205 (e := (0, .iconst 1, 0)) rfl) rfl rfl ?_
      have e1996 : (zn l) + (Int32.ofInt 1) = zn (l + 1) := (zaddN (a := l) (b := 1) (znt (by omega)) c_2 (by omega)) 
      have te1996 := znt (k := l + 1) (by omega)
      refine w_alu (pc' := 36) (st' := [.int (zn (l + 1)), .ref 170]) (ykc_205 (e := (0, .iadd, 0)) rfl) (by rw [← e1996]; rfl) rfl ?_
      refine w_pf (pc' := 39) (ykc_205 (e := (5, .putfield 197, 0)) rfl) rfl rfl (fun ph1998 u1997 => ?_)
      refine w_load (pc' := 40) (v := .ref 170) (m := 1) (ykc_205 (e := (2, .aload_n kF0, 0)) rfl) rfl rfl ?_
      refine w_gf (pc' := 43) (v := .ref 178) (ykc_205 (e := (5, .getfield 53, 0)) rfl) rfl ((u1997.2.1 170 19 (fun q => absurd q.2 (by first | exact Nat.ne_of_beq_eq_false rfl | decide))).trans ((u1994.2.1 170 19 (fun q => absurd q.1 (by first | exact Nat.ne_of_beq_eq_false rfl | decide))).trans ((ff.1 170 19 (by first | exact zqm rfl | decide) (by first | exact zqp rfl | decide)).trans (zsg hS zs_170_19)))) rfl ?_
      refine w_load (pc' := 44) (v := .ref 170) (m := 1) (ykc_205 (e := (2, .aload_n kF0, 0)) rfl) rfl rfl ?_
      refine w_gf (pc' := 47) (v := .int (zn (l + 1))) (ykc_205 (e := (5, .getfield 197, 0)) rfl) rfl u1997.1 rfl ?_
      refine w_alu (pc' := 48) (st' := [.int (Int32.ofInt 1), .int (zn (l + 1)), .ref 178]) (ykc_205 (e := (0, .iconst 1, 0)) rfl) rfl rfl ?_
      have e1999 : (zn (l + 1)) - (Int32.ofInt 1) = zn (l) := zsubN (a := l + 1) (b := 1) (znt (by omega)) c_2 (by omega)
      have te1999 := znt (k := l) (by omega)
      refine w_alu (pc' := 49) (st' := [.int (zn (l)), .ref 178]) (ykc_205 (e := (0, .isub, 0)) rfl) (by show some ([.int ((zn (l + 1)) - (Int32.ofInt 1)), .ref 178] : List Value) = _; rw [e1999]) rfl ?_
      refine w_ialk (pc' := 50) (k := l) (ykc_205 (e := (5, .iaload, 0)) rfl) ((u1997.2.1 178 l (fun q => absurd q.1 (by first | exact Nat.ne_of_beq_eq_false rfl | decide))).trans u1994.1) (by omega) rfl ?_
      refine w_zlt (ykc_205 (e := (4, .ifCond .lt 7, 57)) rfl) rfl (fun b2000 => ?_) (fun q => by exfalso; omega)
      refine w_alu (pc' := 58) (st' := [.int (Int32.ofInt 0)]) (ykc_205 (e := (0, .iconst 0, 0)) rfl) rfl rfl ?_
      refine w_ret (v := (some (.int (Int32.ofInt 0)))) (ykc_205 (e := (7, .ireturn, 0)) rfl) zr_z ?_
      have hg := k1 y0 n1
      have f9 : zFr [178] [(170, 15), (170, 20)] ph ph1998 := (zFr_trans (zFr_trans (zFr_mono ff (by first | exact zqa rfl | simp) (by first | exact zqf rfl | simp)) (zFr_st u1994 (Or.inl (by first | exact zqi rfl | simp)))) (zFr_st u1997 (Or.inr (by first | exact zqj rfl | simp))))
      rw [hQ, zi0]
      exact ⟨f9, Or.inr (Or.inr ⟨by omega, by omega, rfl, by rw [hg]; exact (zTm_F (zFr_st u1997 (Or.inr (by first | exact zqj rfl | simp)) : zFr [178] [(170, 20)] _ _) (by first | exact ⟨zqm rfl, zqm rfl⟩ | simp) (by first | exact ⟨zqp rfl, zqp rfl⟩ | simp) (by first | exact (fun _ => zqr rfl) | simp) (zTm_F (zFr_st u1994 (Or.inl (by first | exact zqi rfl | simp)) : zFr [178] [(170, 20)] _ _) (by first | exact ⟨zqm rfl, zqm rfl⟩ | simp) (by first | exact ⟨zqp rfl, zqp rfl⟩ | simp) (by first | exact (fun _ => zqr rfl) | simp) hff))⟩)⟩
    · have n0 : zLk R C rk 2 b t a 0 = false := zLk_n (i := 0) (by rw [zb0]; exact r1)
      have tm1 : (Int32.ofInt (-1)).toInt = -1 := by decide
      show zW n D 205 Q 28 [some (.ref 170)] [.int (Int32.ofInt (-1)), .int (zn l), .ref 178] ph1986
      refine w_ias (pc' := 29) (k := l) (ykc_205 (e := (5, .iastore, 0)) rfl) (by omega) rfl (fun ph2002 u2001 => ?_)
      refine w_load (pc' := 30) (v := .ref 170) (m := 1) (ykc_205 (e := (2, .aload_n kF0, 0)) rfl) rfl rfl ?_
      refine w_alu (pc' := 31) (st' := [.ref 170, .ref 170]) (ykc_205 (e := (0, .dup, 0)) rfl) rfl rfl ?_
      refine w_gf (pc' := 34) (v := .int (zn l)) (ykc_205 (e := (5, .getfield 197, 0)) rfl) rfl ((u2001.2.1 170 20 (fun q => absurd q.1 (by first | exact Nat.ne_of_beq_eq_false rfl | decide))).trans ((ff.1 170 20 (by first | exact zqm rfl | decide) (by first | exact zqp rfl | decide)).trans hl)) rfl ?_
      refine w_alu (pc' := 35) (st' := [.int (Int32.ofInt 1), .int (zn l), .ref 170]) (ykc_205 (e := (0, .iconst 1, 0)) rfl) rfl rfl ?_
      have e2003 : (zn l) + (Int32.ofInt 1) = zn (l + 1) := (zaddN (a := l) (b := 1) (znt (by omega)) c_2 (by omega)) 
      have te2003 := znt (k := l + 1) (by omega)
      refine w_alu (pc' := 36) (st' := [.int (zn (l + 1)), .ref 170]) (ykc_205 (e := (0, .iadd, 0)) rfl) (by rw [← e2003]; rfl) rfl ?_
      refine w_pf (pc' := 39) (ykc_205 (e := (5, .putfield 197, 0)) rfl) rfl rfl (fun ph2005 u2004 => ?_)
      refine w_load (pc' := 40) (v := .ref 170) (m := 1) (ykc_205 (e := (2, .aload_n kF0, 0)) rfl) rfl rfl ?_
      refine w_gf (pc' := 43) (v := .ref 178) (ykc_205 (e := (5, .getfield 53, 0)) rfl) rfl ((u2004.2.1 170 19 (fun q => absurd q.2 (by first | exact Nat.ne_of_beq_eq_false rfl | decide))).trans ((u2001.2.1 170 19 (fun q => absurd q.1 (by first | exact Nat.ne_of_beq_eq_false rfl | decide))).trans ((ff.1 170 19 (by first | exact zqm rfl | decide) (by first | exact zqp rfl | decide)).trans (zsg hS zs_170_19)))) rfl ?_
      refine w_load (pc' := 44) (v := .ref 170) (m := 1) (ykc_205 (e := (2, .aload_n kF0, 0)) rfl) rfl rfl ?_
      refine w_gf (pc' := 47) (v := .int (zn (l + 1))) (ykc_205 (e := (5, .getfield 197, 0)) rfl) rfl u2004.1 rfl ?_
      refine w_alu (pc' := 48) (st' := [.int (Int32.ofInt 1), .int (zn (l + 1)), .ref 178]) (ykc_205 (e := (0, .iconst 1, 0)) rfl) rfl rfl ?_
      have e2006 : (zn (l + 1)) - (Int32.ofInt 1) = zn (l) := zsubN (a := l + 1) (b := 1) (znt (by omega)) c_2 (by omega)
      have te2006 := znt (k := l) (by omega)
      refine w_alu (pc' := 49) (st' := [.int (zn (l)), .ref 178]) (ykc_205 (e := (0, .isub, 0)) rfl) (by show some ([.int ((zn (l + 1)) - (Int32.ofInt 1)), .ref 178] : List Value) = _; rw [e2006]) rfl ?_
      refine w_ialk (pc' := 50) (k := l) (ykc_205 (e := (5, .iaload, 0)) rfl) ((u2004.2.1 178 l (fun q => absurd q.1 (by first | exact Nat.ne_of_beq_eq_false rfl | decide))).trans u2001.1) (by omega) rfl ?_
      refine w_zlt (ykc_205 (e := (4, .ifCond .lt 7, 57)) rfl) rfl (fun b2007 => ?_) (fun q => by exfalso; omega)
      refine w_alu (pc' := 58) (st' := [.int (Int32.ofInt 0)]) (ykc_205 (e := (0, .iconst 0, 0)) rfl) rfl rfl ?_
      refine w_ret (v := (some (.int (Int32.ofInt 0)))) (ykc_205 (e := (7, .ireturn, 0)) rfl) zr_z ?_
      have hg := k0 n0
      have f9 : zFr [178] [(170, 15), (170, 20)] ph ph2005 := (zFr_trans (zFr_trans (zFr_mono ff (by first | exact zqa rfl | simp) (by first | exact zqf rfl | simp)) (zFr_st u2001 (Or.inl (by first | exact zqi rfl | simp)))) (zFr_st u2004 (Or.inr (by first | exact zqj rfl | simp))))
      rw [hQ, zi0]
      exact ⟨f9, Or.inr (Or.inr ⟨by omega, by omega, rfl, by rw [hg]; exact (zTm_F (zFr_st u2004 (Or.inr (by first | exact zqj rfl | simp)) : zFr [178] [(170, 20)] _ _) (by first | exact ⟨zqm rfl, zqm rfl⟩ | simp) (by first | exact ⟨zqp rfl, zqp rfl⟩ | simp) (by first | exact (fun _ => zqr rfl) | simp) (zTm_F (zFr_st u2001 (Or.inl (by first | exact zqi rfl | simp)) : zFr [178] [(170, 20)] _ _) (by first | exact ⟨zqm rfl, zqm rfl⟩ | simp) (by first | exact ⟨zqp rfl, zqp rfl⟩ | simp) (by first | exact (fun _ => zqr rfl) | simp) hff))⟩)⟩
    
  · refine w_alu (pc' := 15) (st' := [.int (Int32.ofInt 0)]) (ykc_205 (e := (0, .iconst 0, 0)) rfl) rfl rfl ?_
    refine w_ret (v := (some (.int (Int32.ofInt 0)))) (ykc_205 (e := (7, .ireturn, 0)) rfl) zr_z ?_
    rw [hQ, zi0]
    exact ⟨zFr_refl, Or.inl ⟨by omega, rfl, hT⟩⟩
theorem zm_rlines4 {ph : pm_H} {R C ln N : Nat} {rk : Nat → Bool} {t : Nat → Nat} {y : Int32} (hS : zSh ph) (hL : zMl ph R C rk) (hn14 : zc ph 170 14 = some (.int (zn ln))) (hn80 : ln ≤ 80) (gtm : ∀ i, i < ln → zc ph 176 i = some (.int (zn (t i))) ∧ t i < 256) (hN : zc ph 170 5 = some (.int (zn N))) (hN8 : N ≤ 8) (hy : y.toInt = 39) : zM 206 [.ref 170, .int (Int32.ofInt 1), .int y] ph (fun v0 q => zFr [178] [(170, 14), (170, 15), (170, 16), (170, 17), (170, 20)] ph q ∧ ∃ z : Int32, v0 = some (.int z) ∧ ((zLa R C rk 4 5 ln t (8 - N) < 0 ∧ z.toInt = zLa R C rk 4 5 ln t (8 - N)) ∨ (0 ≤ zLa R C rk 4 5 ln t (8 - N) ∧ z.toInt = 0 ∧ ∃ k : Nat, (k : Int) = zLa R C rk 4 5 ln t (8 - N) ∧ zc q 170 20 = some (.int (zn k)) ∧ ∀ j, j < k → zLg R C rk 4 ln t (5 * j) 4 = 4 ∧ zc q 178 (3 * j) = some (.int (zn (zLf C t (5 * j)))) ∧ zc q 178 (3 * j + 1) = some (.int (zn (t (5 * j + 2) - 48))) ∧ zc q 178 (3 * j + 2) = some (.int (zn (t (5 * j + 3) - 48)))))) := by
  obtain ⟨Q, hQ⟩ : ∃ Q : Option Value → pm_H → Prop, Q = (fun v0 q => zFr [178] [(170, 14), (170, 15), (170, 16), (170, 17), (170, 20)] ph q ∧ ∃ z : Int32, v0 = some (.int z) ∧ ((zLa R C rk 4 5 ln t (8 - N) < 0 ∧ z.toInt = zLa R C rk 4 5 ln t (8 - N)) ∨ (0 ≤ zLa R C rk 4 5 ln t (8 - N) ∧ z.toInt = 0 ∧ ∃ k : Nat, (k : Int) = zLa R C rk 4 5 ln t (8 - N) ∧ zc q 170 20 = some (.int (zn k)) ∧ ∀ j, j < k → zLg R C rk 4 ln t (5 * j) 4 = 4 ∧ zc q 178 (3 * j) = some (.int (zn (zLf C t (5 * j)))) ∧ zc q 178 (3 * j + 1) = some (.int (zn (t (5 * j + 2) - 48))) ∧ zc q 178 (3 * j + 2) = some (.int (zn (t (5 * j + 3) - 48)))))) := ⟨_, rfl⟩
  rw [← hQ]
  refine zM_mk fun n D => ?_
  show zW n D 206 Q 0 [some (.ref 170), some (.int (Int32.ofInt 1)), some (.int y), none, none, none] [] ph
  have c_0 : ((Int8.ofInt 59).toInt32).toInt = 59 := by decide +kernel
  have c_1 : (Int32.ofInt 0).toInt = 0 := by decide +kernel
  have c_2 : (Int32.ofInt 1).toInt = 1 := by decide +kernel
  have tln := znt (k := ln) (by omega)
  refine w_load (pc' := 1) (v := .ref 170) (m := 1) (ykc_206 (e := (2, .aload_n kF0, 0)) rfl) rfl rfl ?_
  refine w_load (pc' := 2) (v := .int y) (m := 1) (ykc_206 (e := (2, .iload_n kF2, 0)) rfl) rfl rfl ?_
  refine w_cv (as := [.ref 170, .int y]) (r := []) (ykc_206 (e := (6, .invokevirtual 175, 0)) rfl) rfl rfl rfl rfl (zm_begins (ln := ln) (c := 39) (t := t) hS hn14 hn80 gtm hy (by omega)) (fun v2008 ph2009 hv => ?_)
  obtain ⟨rfl, fb, g14, hT⟩ := hv
  show zW n D 206 Q 5 [some (.ref 170), some (.int (Int32.ofInt 1)), some (.int y), none, none, none] [.int (zn ln)] ph2009
  refine w_store (pc' := 6) (L' := [some (.ref 170), some (.int (Int32.ofInt 1)), some (.int y), some (.int (zn ln)), none, none]) (st' := []) (m := 1) (ykc_206 (e := (3, .istore_n kF3, 0)) rfl) rfl rfl ?_
  refine w_load (pc' := 7) (v := .ref 170) (m := 1) (ykc_206 (e := (2, .aload_n kF0, 0)) rfl) rfl rfl ?_
  refine w_alu (pc' := 8) (st' := [.int (Int32.ofInt 0), .ref 170]) (ykc_206 (e := (0, .iconst 0, 0)) rfl) rfl rfl ?_
  refine w_pf (pc' := 11) (ykc_206 (e := (5, .putfield 197, 0)) rfl) rfl rfl (fun ph2011 u2010 => ?_)
  refine w_alu (pc' := 12) (st' := [.int (Int32.ofInt 1)]) (ykc_206 (e := (0, .iconst 1, 0)) rfl) rfl rfl ?_
  refine w_store (pc' := 14) (L' := [some (.ref 170), some (.int (Int32.ofInt 1)), some (.int y), some (.int (zn ln)), some (.int (Int32.ofInt 1)), none]) (st' := []) (m := 2) (ykc_206 (e := (3, .istore 4, 0)) rfl) rfl rfl ?_
  refine w_load (pc' := 15) (v := .int (zn ln)) (m := 1) (ykc_206 (e := (2, .iload_n kF3, 0)) rfl) rfl rfl ?_
  refine w_zle (ykc_206 (e := (4, .ifCond .le 7, 22)) rfl) rfl (fun b2012 => ?_) (fun b2012 => ?_)
  · refine w_alu (pc' := 23) (st' := [.int (Int32.ofInt 0)]) (ykc_206 (e := (0, .iconst 0, 0)) rfl) rfl rfl ?_
    refine w_store (pc' := 25) (L' := [some (.ref 170), some (.int (Int32.ofInt 1)), some (.int y), some (.int (zn ln)), some (.int (Int32.ofInt 1)), some (.int (Int32.ofInt 0))]) (st' := []) (m := 2) (ykc_206 (e := (3, .istore 5, 0)) rfl) rfl rfl ?_
    have e0 : zLa R C rk 4 5 ln t (8 - N) = 0 := if_pos (by omega)
    have f1 : zFr [178] [(170, 14), (170, 15), (170, 16), (170, 17), (170, 20)] ph ph2011 := zFr_trans (zFr_mono fb (by first | exact zqa rfl | simp) (by first | exact zqf rfl | simp)) (zFr_st u2010 (Or.inr (by first | exact zqj rfl | simp)))
    have hfa := zm_fault (is := true) (a := 0) (b := min ln 39) (ln := ln) (t := t) (n9 := ln) (c := 39) (zSh_F f1 (by decide +kernel) hS) (zTm_F (zFr_st u2010 (Or.inr (by first | exact zqj rfl | simp)) : zFr [] [(170, 20)] _ _) (by first | exact ⟨zqm rfl, zqm rfl⟩ | simp) (by first | exact ⟨zqp rfl, zqp rfl⟩ | simp) (by first | exact (fun _ => zqr rfl) | simp) hT) (x := zn ln) (y := y) (by omega) (by omega)
    rw [← zi1] at hfa
    refine w_load (pc' := 27) (v := .int (Int32.ofInt 0)) (m := 2) (ykc_206 (e := (2, .iload 5, 0)) rfl) rfl rfl ?_
    refine w_zeq (ykc_206 (e := (4, .ifCond .eq 44, 71)) rfl) rfl (fun b2013 => ?_) (fun q => by exfalso; omega)
    refine w_load (pc' := 72) (v := .ref 170) (m := 1) (ykc_206 (e := (2, .aload_n kF0, 0)) rfl) rfl rfl ?_
    refine w_load (pc' := 73) (v := .int (zn ln)) (m := 1) (ykc_206 (e := (2, .iload_n kF3, 0)) rfl) rfl rfl ?_
    refine w_load (pc' := 74) (v := .int y) (m := 1) (ykc_206 (e := (2, .iload_n kF2, 0)) rfl) rfl rfl ?_
    refine w_load (pc' := 76) (v := .int (Int32.ofInt 1)) (m := 2) (ykc_206 (e := (2, .iload 4, 0)) rfl) rfl rfl ?_
    refine w_cv (as := [.ref 170, .int (zn ln), .int y, .int (Int32.ofInt 1)]) (r := []) (ykc_206 (e := (6, .invokevirtual 213, 0)) rfl) rfl rfl rfl rfl (hfa) (fun v2014 ph2015 hv => ?_)
    obtain ⟨rfl, zf, rfl, ezf⟩ := hv
    show zW n D 206 Q 79 [some (.ref 170), some (.int (Int32.ofInt 1)), some (.int y), some (.int (zn ln)), some (.int (Int32.ofInt 1)), some (.int (Int32.ofInt 0))] [.int zf] ph2011
    refine w_ret (v := (some (.int zf))) (ykc_206 (e := (7, .ireturn, 0)) rfl) (zr_v rfl) ?_
    rw [hQ]
    refine ⟨f1, _, rfl, Or.inr ⟨by omega, ?_, 0, by omega, u2010.1, fun j hj => absurd hj (Nat.not_lt_zero j)⟩⟩
    rw [ezf]
    unfold zFo
    rw [if_neg (by omega), if_pos ⟨rfl, by omega⟩]
    
  · refine w_alu (pc' := 19) (st' := [.int (Int32.ofInt 1)]) (ykc_206 (e := (0, .iconst 1, 0)) rfl) rfl rfl ?_
    refine w_br (pc' := 23) (st' := [.int (Int32.ofInt 1)]) (ykc_206 (e := (4, .goto 4, 23)) rfl) rfl ?_
    refine w_store (pc' := 25) (L' := [some (.ref 170), some (.int (Int32.ofInt 1)), some (.int y), some (.int (zn ln)), some (.int (Int32.ofInt 1)), some (.int (Int32.ofInt 1))]) (st' := []) (m := 2) (ykc_206 (e := (3, .istore 5, 0)) rfl) rfl rfl ?_
    have e0 : zLa R C rk 4 5 ln t (8 - N) = zLo R C rk 4 5 ln t (8 - N) 9 0 := if_neg (by omega)
    have f1 : zFr [178] [(170, 14), (170, 15), (170, 16), (170, 17), (170, 20)] ph ph2011 := zFr_trans (zFr_mono fb (by first | exact zqa rfl | simp) (by first | exact zqf rfl | simp)) (zFr_st u2010 (Or.inr (by first | exact zqj rfl | simp)))
    have hT1 := zTm_F (zFr_st u2010 (Or.inr (by first | exact zqj rfl | simp)) : zFr [] [(170, 20)] _ _) (by first | exact ⟨zqm rfl, zqm rfl⟩ | simp) (by first | exact ⟨zqp rfl, zqp rfl⟩ | simp) (by first | exact (fun _ => zqr rfl) | simp) hT
    have hl : ∀ (n : Nat), ∀ (l : Nat) (is0 : Int32) (ph2 : pm_H), (l ≤ 7) → (zFr [178] [(170, 14), (170, 15), (170, 16), (170, 17), (170, 20)] ph ph2) → (zTm ph2 (5 * l) (min ln 39) ln t) → (zc ph2 170 20 = some (.int (zn l))) → (l ≤ 8 - N) → (zLa R C rk 4 5 ln t (8 - N) = zLo R C rk 4 5 ln t (8 - N) (9 - l) l) → (∀ j, j < l → zLg R C rk 4 ln t (5 * j) 4 = 4 ∧ zc ph2 178 (3 * j) = some (.int (zn (zLf C t (5 * j)))) ∧ zc ph2 178 (3 * j + 1) = some (.int (zn (t (5 * j + 2) - 48))) ∧ zc ph2 178 (3 * j + 2) = some (.int (zn (t (5 * j + 3) - 48)))) → zW n D 206 Q 25 [some (.ref 170), some (.int (Int32.ofInt 1)), some (.int y), some (.int (zn ln)), some (.int is0), some (.int (Int32.ofInt 1))] [] ph2 := by
      intro n
      induction n using Nat.strongRecOn with
      | ind n ih =>
        intro l is0 ph2 hl7 hf hT h20 hlr ha hg
        have tl := znt (k := l) (by omega)
        have hS2 := zSh_F hf (by decide +kernel) hS
        have hL2 := zMl_F hf (by first | exact zqp rfl | simp) (by first | exact zqp rfl | simp) (by first | exact (fun _ => zqr rfl) | simp) (by first | exact ⟨zqm rfl, zqm rfl⟩ | simp) hL
        have hN2 := (hf.1 170 5 (by first | exact zqm rfl | decide) (by first | exact zqp rfl | decide)).trans hN
        have hbl : ∀ p, p < 5 * l + 4 → (p < min ln 39 ↔ p < ln) := fun p hp => by omega
        refine w_load (pc' := 27) (v := .int (Int32.ofInt 1)) (m := 2) (ykc_206 (e := (2, .iload 5, 0)) rfl) rfl rfl ?_
        refine w_zeq (ykc_206 (e := (4, .ifCond .eq 44, 71)) rfl) rfl (fun q => by exfalso; omega) (fun b2016 => ?_)
        refine w_load (pc' := 31) (v := .int (Int32.ofInt 1)) (m := 1) (ykc_206 (e := (2, .iload_n kF1, 0)) rfl) rfl rfl ?_
        refine w_zeq (ykc_206 (e := (4, .ifCond .eq 10, 41)) rfl) rfl (fun q => by exfalso; omega) (fun b2017 => ?_)
        refine w_load (pc' := 35) (v := .ref 170) (m := 1) (ykc_206 (e := (2, .aload_n kF0, 0)) rfl) rfl rfl ?_
        refine w_cv (as := [.ref 170]) (r := []) (ykc_206 (e := (6, .invokevirtual 203, 0)) rfl) rfl rfl rfl rfl (zm_rperson hS2 hL2 hT h20 (by omega) hN2 (by omega)) (fun v2018 ph2019 hv => ?_)
        rcases hv with ⟨fr, ⟨hf8, rfl, hr⟩ | ⟨hf8, hgg, rfl, hr, r20, r0, r1, r2, rl⟩ | ⟨hf8, hgb, rfl, hr⟩⟩
        · show zW n D 206 Q 38 [some (.ref 170), some (.int (Int32.ofInt 1)), some (.int y), some (.int (zn ln)), some (.int is0), some (.int (Int32.ofInt 1))] [.int (zI false)] ph2019
          refine w_br (pc' := 45) (st' := [.int (zI false)]) (ykc_206 (e := (4, .goto 7, 45)) rfl) rfl ?_
          refine w_store (pc' := 47) (L' := [some (.ref 170), some (.int (Int32.ofInt 1)), some (.int y), some (.int (zn ln)), some (.int (zI false)), some (.int (Int32.ofInt 1))]) (st' := []) (m := 2) (ykc_206 (e := (3, .istore 4, 0)) rfl) rfl rfl ?_
          refine w_load (pc' := 49) (v := .int (zI false)) (m := 2) (ykc_206 (e := (2, .iload 4, 0)) rfl) rfl rfl ?_
          refine w_beq (ykc_206 (e := (4, .ifCond .eq 16, 65)) rfl) rfl (fun b2020 => ?_) (fun q => absurd q (by decide))
          refine w_alu (pc' := 66) (st' := [.int (Int32.ofInt 0)]) (ykc_206 (e := (0, .iconst 0, 0)) rfl) rfl rfl ?_
          refine w_store (pc' := 68) (L' := [some (.ref 170), some (.int (Int32.ofInt 1)), some (.int y), some (.int (zn ln)), some (.int (zI false)), some (.int (Int32.ofInt 0))]) (st' := []) (m := 2) (ykc_206 (e := (3, .istore 5, 0)) rfl) rfl rfl ?_
          refine w_gb (ykc_206 (e := (4, .goto (-43), 25)) rfl) (fun k2021 hk2021 => ?_)
          refine w_load (pc' := 27) (v := .int (Int32.ofInt 0)) (m := 2) (ykc_206 (e := (2, .iload 5, 0)) rfl) rfl rfl ?_
          refine w_zeq (ykc_206 (e := (4, .ifCond .eq 44, 71)) rfl) rfl (fun b2022 => ?_) (fun q => by exfalso; omega)
          refine w_load (pc' := 72) (v := .ref 170) (m := 1) (ykc_206 (e := (2, .aload_n kF0, 0)) rfl) rfl rfl ?_
          refine w_load (pc' := 73) (v := .int (zn ln)) (m := 1) (ykc_206 (e := (2, .iload_n kF3, 0)) rfl) rfl rfl ?_
          refine w_load (pc' := 74) (v := .int y) (m := 1) (ykc_206 (e := (2, .iload_n kF2, 0)) rfl) rfl rfl ?_
          refine w_load (pc' := 76) (v := .int (zI false)) (m := 2) (ykc_206 (e := (2, .iload 4, 0)) rfl) rfl rfl ?_
          refine w_cv (as := [.ref 170, .int (zn ln), .int y, .int (zI false)]) (r := []) (ykc_206 (e := (6, .invokevirtual 213, 0)) rfl) rfl rfl rfl rfl (zm_fault (is := false) (a := 5 * l) (b := min ln 39) (ln := ln) (t := t) (n9 := ln) (c := 39) (zSh_F fr (by decide +kernel) hS2) hr (by omega) (by omega)) (fun v2023 ph2024 hv => ?_)
          obtain ⟨rfl, zf, rfl, ezf⟩ := hv
          show zW k2021 D 206 Q 79 [some (.ref 170), some (.int (Int32.ofInt 1)), some (.int y), some (.int (zn ln)), some (.int (zI false)), some (.int (Int32.ofInt 0))] [.int zf] ph2019
          refine w_ret (v := (some (.int zf))) (ykc_206 (e := (7, .ireturn, 0)) rfl) (zr_v rfl) ?_
          have h8 := ha.trans (zLo_0 (by omega) (show l = 8 - N by omega))
          have hab := hr.2.2.1
          rw [hQ]
          refine ⟨zFr_trans hf (zFr_mono fr (by first | exact zqa rfl | simp) (by first | exact zqf rfl | simp)), _, rfl, Or.inl ⟨by omega, ?_⟩⟩
          rw [ezf, h8]
          unfold zFo
          rw [if_neg (fun q => by rcases q.2 with q2 | q2; exact absurd q2.1 (by first | exact Nat.ne_of_beq_eq_false rfl | decide); omega), if_neg (fun q => absurd q.1 (by first | exact Nat.ne_of_beq_eq_false rfl | decide))]
        · have hgc : zLg R C rk 4 (min ln 39) t (5 * l) 4 = zLg R C rk 4 ln t (5 * l) 4 := zLg_b (fun i hi => hbl _ (by omega))
          rw [hgc] at hgg
          have hlast := (zLk_d (zLg_a hgg (4 - 1) (by omega))).1
          have hgl : ∀ j, j < l + 1 → zLg R C rk 4 ln t (5 * j) 4 = 4 ∧ zc ph2019 178 (3 * j) = some (.int (zn (zLf C t (5 * j)))) ∧ zc ph2019 178 (3 * j + 1) = some (.int (zn (t (5 * j + 2) - 48))) ∧ zc ph2019 178 (3 * j + 2) = some (.int (zn (t (5 * j + 3) - 48))) := fun j hj => by
            by_cases e : j = l
            · subst e; exact ⟨hgg, r0, r1, r2⟩
            · obtain ⟨g1, g2, g3, g4⟩ := hg j (by omega)
              exact ⟨g1, (rl _ (by omega)).trans g2, (rl _ (by omega)).trans g3, (rl _ (by omega)).trans g4⟩
          show zW n D 206 Q 38 [some (.ref 170), some (.int (Int32.ofInt 1)), some (.int y), some (.int (zn ln)), some (.int is0), some (.int (Int32.ofInt 1))] [.int (zI true)] ph2019
          refine w_br (pc' := 45) (st' := [.int (zI true)]) (ykc_206 (e := (4, .goto 7, 45)) rfl) rfl ?_
          refine w_store (pc' := 47) (L' := [some (.ref 170), some (.int (Int32.ofInt 1)), some (.int y), some (.int (zn ln)), some (.int (zI true)), some (.int (Int32.ofInt 1))]) (st' := []) (m := 2) (ykc_206 (e := (3, .istore 4, 0)) rfl) rfl rfl ?_
          refine w_load (pc' := 49) (v := .int (zI true)) (m := 2) (ykc_206 (e := (2, .iload 4, 0)) rfl) rfl rfl ?_
          refine w_beq (ykc_206 (e := (4, .ifCond .eq 16, 65)) rfl) rfl (fun q => absurd q (by decide)) (fun b2025 => ?_)
          refine w_load (pc' := 53) (v := .ref 170) (m := 1) (ykc_206 (e := (2, .aload_n kF0, 0)) rfl) rfl rfl ?_
          refine w_push (pc' := 55) (v := .int ((Int8.ofInt 59).toInt32)) (m := 2) (ykc_206 (e := (1, .bipush 59, 0)) rfl) rfl rfl ?_
          refine w_cv (as := [.ref 170, .int ((Int8.ofInt 59).toInt32)]) (r := []) (ykc_206 (e := (6, .invokevirtual 209, 0)) rfl) rfl rfl rfl rfl (zm_takes (zSh_F fr (by decide +kernel) hS2) hr (c := 59) (by omega)) (fun v2026 ph2027 hv => ?_)
          rcases hv with ⟨fs, ⟨hc5, rfl, hts⟩ | ⟨hc5, rfl, hts⟩⟩
          · show zW n D 206 Q 58 [some (.ref 170), some (.int (Int32.ofInt 1)), some (.int y), some (.int (zn ln)), some (.int (zI true)), some (.int (Int32.ofInt 1))] [.int (zI true)] ph2027
            refine w_beq (ykc_206 (e := (4, .ifCond .eq 7, 65)) rfl) rfl (fun q => absurd q (by decide)) (fun b2028 => ?_)
            refine w_alu (pc' := 62) (st' := [.int (Int32.ofInt 1)]) (ykc_206 (e := (0, .iconst 1, 0)) rfl) rfl rfl ?_
            refine w_br (pc' := 66) (st' := [.int (Int32.ofInt 1)]) (ykc_206 (e := (4, .goto 4, 66)) rfl) rfl ?_
            refine w_store (pc' := 68) (L' := [some (.ref 170), some (.int (Int32.ofInt 1)), some (.int y), some (.int (zn ln)), some (.int (zI true)), some (.int (Int32.ofInt 1))]) (st' := []) (m := 2) (ykc_206 (e := (3, .istore 5, 0)) rfl) rfl rfl ?_
            refine w_gb (ykc_206 (e := (4, .goto (-43), 25)) rfl) (fun k2029 hk2029 => ?_)
            have h8 := ha.trans (zLo_4 (by omega) (by omega) hgg (by omega) (by omega))
            rw [show 5 * l + 4 + 1 = 5 * (l + 1) by omega] at hts
            exact ih k2029 hk2029 (l + 1) _ _ (by omega) (zFr_trans hf (zFr_trans (zFr_mono fr (by first | exact zqa rfl | simp) (by first | exact zqf rfl | simp)) (zFr_mono fs (by first | exact zqa rfl | simp) (by first | exact zqf rfl | simp)))) hts ((fs.1 170 20 (by first | exact zqm rfl | decide) (by first | exact zqp rfl | decide)).trans r20) (by omega) h8 (fun j hj => by
              obtain ⟨g1, g2, g3, g4⟩ := hgl j hj
              exact ⟨g1, (fs.1 178 _ (by first | exact zqm rfl | decide) (by first | exact zqp rfl | simp)).trans g2, (fs.1 178 _ (by first | exact zqm rfl | decide) (by first | exact zqp rfl | simp)).trans g3, (fs.1 178 _ (by first | exact zqm rfl | decide) (by first | exact zqp rfl | simp)).trans g4⟩)
          · show zW n D 206 Q 58 [some (.ref 170), some (.int (Int32.ofInt 1)), some (.int y), some (.int (zn ln)), some (.int (zI true)), some (.int (Int32.ofInt 1))] [.int (zI false)] ph2027
            refine w_beq (ykc_206 (e := (4, .ifCond .eq 7, 65)) rfl) rfl (fun b2030 => ?_) (fun q => absurd q (by decide))
            refine w_alu (pc' := 66) (st' := [.int (Int32.ofInt 0)]) (ykc_206 (e := (0, .iconst 0, 0)) rfl) rfl rfl ?_
            refine w_store (pc' := 68) (L' := [some (.ref 170), some (.int (Int32.ofInt 1)), some (.int y), some (.int (zn ln)), some (.int (zI true)), some (.int (Int32.ofInt 0))]) (st' := []) (m := 2) (ykc_206 (e := (3, .istore 5, 0)) rfl) rfl rfl ?_
            refine w_gb (ykc_206 (e := (4, .goto (-43), 25)) rfl) (fun k2031 hk2031 => ?_)
            refine w_load (pc' := 27) (v := .int (Int32.ofInt 0)) (m := 2) (ykc_206 (e := (2, .iload 5, 0)) rfl) rfl rfl ?_
            refine w_zeq (ykc_206 (e := (4, .ifCond .eq 44, 71)) rfl) rfl (fun b2032 => ?_) (fun q => by exfalso; omega)
            refine w_load (pc' := 72) (v := .ref 170) (m := 1) (ykc_206 (e := (2, .aload_n kF0, 0)) rfl) rfl rfl ?_
            refine w_load (pc' := 73) (v := .int (zn ln)) (m := 1) (ykc_206 (e := (2, .iload_n kF3, 0)) rfl) rfl rfl ?_
            refine w_load (pc' := 74) (v := .int y) (m := 1) (ykc_206 (e := (2, .iload_n kF2, 0)) rfl) rfl rfl ?_
            refine w_load (pc' := 76) (v := .int (zI true)) (m := 2) (ykc_206 (e := (2, .iload 4, 0)) rfl) rfl rfl ?_
            refine w_cv (as := [.ref 170, .int (zn ln), .int y, .int (zI true)]) (r := []) (ykc_206 (e := (6, .invokevirtual 213, 0)) rfl) rfl rfl rfl rfl (zm_fault (is := true) (a := 5 * l + 4) (b := min ln 39) (ln := ln) (t := t) (n9 := ln) (c := 39) (zSh_F fs (by decide +kernel) (zSh_F fr (by decide +kernel) hS2)) hts (by omega) (by omega)) (fun v2033 ph2034 hv => ?_)
            obtain ⟨rfl, zf, rfl, ezf⟩ := hv
            show zW k2031 D 206 Q 79 [some (.ref 170), some (.int (Int32.ofInt 1)), some (.int y), some (.int (zn ln)), some (.int (zI true)), some (.int (Int32.ofInt 0))] [.int zf] ph2027
            refine w_ret (v := (some (.int zf))) (ykc_206 (e := (7, .ireturn, 0)) rfl) (zr_v rfl) ?_
            have f9 : zFr [178] [(170, 14), (170, 15), (170, 16), (170, 17), (170, 20)] ph ph2027 := zFr_trans hf (zFr_trans (zFr_mono fr (by first | exact zqa rfl | simp) (by first | exact zqf rfl | simp)) (zFr_mono fs (by first | exact zqa rfl | simp) (by first | exact zqf rfl | simp)))
            have hab := hts.2.2.1
            rw [hQ]
            refine ⟨f9, _, rfl, ?_⟩
            rw [ezf]
            unfold zFo
            by_cases e : 5 * l + 4 = ln
            · have h8 := ha.trans (zLo_2 (by omega) (by omega) hgg e)
              rw [if_neg (by omega), if_pos ⟨rfl, by omega⟩]
              exact Or.inr ⟨by omega, rfl, l + 1, by omega, (fs.1 170 20 (by first | exact zqm rfl | decide) (by first | exact zqp rfl | decide)).trans r20, fun j hj => by
                obtain ⟨g1, g2, g3, g4⟩ := hgl j hj
                exact ⟨g1, (fs.1 178 _ (by first | exact zqm rfl | decide) (by first | exact zqp rfl | simp)).trans g2, (fs.1 178 _ (by first | exact zqm rfl | decide) (by first | exact zqp rfl | simp)).trans g3, (fs.1 178 _ (by first | exact zqm rfl | decide) (by first | exact zqp rfl | simp)).trans g4⟩⟩
            · have h4 : l = 7 ∨ t (5 * l + 4) ≠ 59 := by omega
              have h8 := ha.trans (zLo_3 (by omega) (by omega) hgg e h4)
              refine Or.inl ⟨by omega, ?_⟩
              rw [h8]
              by_cases e2 : 5 * l + 4 = min ln 39
              · rw [if_pos ⟨by omega, Or.inl ⟨rfl, e2⟩⟩]
                omega
              · rw [if_neg (fun q => by rcases q.2 with q2 | q2; exact e2 q2.2; omega), if_neg (fun q => e2 q.2)]
          
        · have hgc : zLg R C rk 4 (min ln 39) t (5 * l) 4 = zLg R C rk 4 ln t (5 * l) 4 := zLg_b (fun i hi => hbl _ (by omega))
          rw [hgc] at hgb hr
          show zW n D 206 Q 38 [some (.ref 170), some (.int (Int32.ofInt 1)), some (.int y), some (.int (zn ln)), some (.int is0), some (.int (Int32.ofInt 1))] [.int (zI false)] ph2019
          refine w_br (pc' := 45) (st' := [.int (zI false)]) (ykc_206 (e := (4, .goto 7, 45)) rfl) rfl ?_
          refine w_store (pc' := 47) (L' := [some (.ref 170), some (.int (Int32.ofInt 1)), some (.int y), some (.int (zn ln)), some (.int (zI false)), some (.int (Int32.ofInt 1))]) (st' := []) (m := 2) (ykc_206 (e := (3, .istore 4, 0)) rfl) rfl rfl ?_
          refine w_load (pc' := 49) (v := .int (zI false)) (m := 2) (ykc_206 (e := (2, .iload 4, 0)) rfl) rfl rfl ?_
          refine w_beq (ykc_206 (e := (4, .ifCond .eq 16, 65)) rfl) rfl (fun b2035 => ?_) (fun q => absurd q (by decide))
          refine w_alu (pc' := 66) (st' := [.int (Int32.ofInt 0)]) (ykc_206 (e := (0, .iconst 0, 0)) rfl) rfl rfl ?_
          refine w_store (pc' := 68) (L' := [some (.ref 170), some (.int (Int32.ofInt 1)), some (.int y), some (.int (zn ln)), some (.int (zI false)), some (.int (Int32.ofInt 0))]) (st' := []) (m := 2) (ykc_206 (e := (3, .istore 5, 0)) rfl) rfl rfl ?_
          refine w_gb (ykc_206 (e := (4, .goto (-43), 25)) rfl) (fun k2036 hk2036 => ?_)
          refine w_load (pc' := 27) (v := .int (Int32.ofInt 0)) (m := 2) (ykc_206 (e := (2, .iload 5, 0)) rfl) rfl rfl ?_
          refine w_zeq (ykc_206 (e := (4, .ifCond .eq 44, 71)) rfl) rfl (fun b2037 => ?_) (fun q => by exfalso; omega)
          refine w_load (pc' := 72) (v := .ref 170) (m := 1) (ykc_206 (e := (2, .aload_n kF0, 0)) rfl) rfl rfl ?_
          refine w_load (pc' := 73) (v := .int (zn ln)) (m := 1) (ykc_206 (e := (2, .iload_n kF3, 0)) rfl) rfl rfl ?_
          refine w_load (pc' := 74) (v := .int y) (m := 1) (ykc_206 (e := (2, .iload_n kF2, 0)) rfl) rfl rfl ?_
          refine w_load (pc' := 76) (v := .int (zI false)) (m := 2) (ykc_206 (e := (2, .iload 4, 0)) rfl) rfl rfl ?_
          refine w_cv (as := [.ref 170, .int (zn ln), .int y, .int (zI false)]) (r := []) (ykc_206 (e := (6, .invokevirtual 213, 0)) rfl) rfl rfl rfl rfl (zm_fault (is := false) (a := 5 * l + zLg R C rk 4 ln t (5 * l) 4) (b := min ln 39) (ln := ln) (t := t) (n9 := ln) (c := 39) (zSh_F fr (by decide +kernel) hS2) hr (by omega) (by omega)) (fun v2038 ph2039 hv => ?_)
          obtain ⟨rfl, zf, rfl, ezf⟩ := hv
          show zW k2036 D 206 Q 79 [some (.ref 170), some (.int (Int32.ofInt 1)), some (.int y), some (.int (zn ln)), some (.int (zI false)), some (.int (Int32.ofInt 0))] [.int zf] ph2019
          refine w_ret (v := (some (.int zf))) (ykc_206 (e := (7, .ireturn, 0)) rfl) (zr_v rfl) ?_
          have h8 := ha.trans (zLo_1 (by omega) (by omega) hgb)
          rw [hQ]
          refine ⟨zFr_trans hf (zFr_mono fr (by first | exact zqa rfl | simp) (by first | exact zqf rfl | simp)), _, rfl, Or.inl ⟨by omega, ?_⟩⟩
          rw [ezf, h8]
          unfold zFo
          rw [if_neg (fun q => by rcases q.2 with q2 | q2; exact absurd q2.1 (by first | exact Nat.ne_of_beq_eq_false rfl | decide); omega), if_neg (fun q => absurd q.1 (by first | exact Nat.ne_of_beq_eq_false rfl | decide))]
        
    exact hl n 0 _ ph2011 (Nat.zero_le _) f1 hT1 u2010.1 (Nat.zero_le _) e0 (fun j hj => absurd hj (Nat.not_lt_zero j))
theorem zm_rlines2 {ph : pm_H} {R C ln N : Nat} {rk : Nat → Bool} {t : Nat → Nat} {y : Int32} (hS : zSh ph) (hL : zMl ph R C rk) (hn14 : zc ph 170 14 = some (.int (zn ln))) (hn80 : ln ≤ 80) (gtm : ∀ i, i < ln → zc ph 176 i = some (.int (zn (t i))) ∧ t i < 256) (hN : zc ph 170 6 = some (.int (zn N))) (hN8 : N ≤ 8) (hy : y.toInt = 23) : zM 206 [.ref 170, .int (Int32.ofInt 0), .int y] ph (fun v0 q => zFr [178] [(170, 14), (170, 15), (170, 16), (170, 17), (170, 20)] ph q ∧ ∃ z : Int32, v0 = some (.int z) ∧ ((zLa R C rk 2 3 ln t (8 - N) < 0 ∧ z.toInt = zLa R C rk 2 3 ln t (8 - N)) ∨ (0 ≤ zLa R C rk 2 3 ln t (8 - N) ∧ z.toInt = 0 ∧ ∃ k : Nat, (k : Int) = zLa R C rk 2 3 ln t (8 - N) ∧ zc q 170 20 = some (.int (zn k)) ∧ ∀ j, j < k → zLg R C rk 2 ln t (3 * j) 2 = 2 ∧ zc q 178 j = some (.int (zn (zLf C t (3 * j))))))) := by
  obtain ⟨Q, hQ⟩ : ∃ Q : Option Value → pm_H → Prop, Q = (fun v0 q => zFr [178] [(170, 14), (170, 15), (170, 16), (170, 17), (170, 20)] ph q ∧ ∃ z : Int32, v0 = some (.int z) ∧ ((zLa R C rk 2 3 ln t (8 - N) < 0 ∧ z.toInt = zLa R C rk 2 3 ln t (8 - N)) ∨ (0 ≤ zLa R C rk 2 3 ln t (8 - N) ∧ z.toInt = 0 ∧ ∃ k : Nat, (k : Int) = zLa R C rk 2 3 ln t (8 - N) ∧ zc q 170 20 = some (.int (zn k)) ∧ ∀ j, j < k → zLg R C rk 2 ln t (3 * j) 2 = 2 ∧ zc q 178 j = some (.int (zn (zLf C t (3 * j))))))) := ⟨_, rfl⟩
  rw [← hQ]
  refine zM_mk fun n D => ?_
  show zW n D 206 Q 0 [some (.ref 170), some (.int (Int32.ofInt 0)), some (.int y), none, none, none] [] ph
  have c_0 : ((Int8.ofInt 59).toInt32).toInt = 59 := by decide +kernel
  have c_1 : (Int32.ofInt 0).toInt = 0 := by decide +kernel
  have c_2 : (Int32.ofInt 1).toInt = 1 := by decide +kernel
  have tln := znt (k := ln) (by omega)
  refine w_load (pc' := 1) (v := .ref 170) (m := 1) (ykc_206 (e := (2, .aload_n kF0, 0)) rfl) rfl rfl ?_
  refine w_load (pc' := 2) (v := .int y) (m := 1) (ykc_206 (e := (2, .iload_n kF2, 0)) rfl) rfl rfl ?_
  refine w_cv (as := [.ref 170, .int y]) (r := []) (ykc_206 (e := (6, .invokevirtual 175, 0)) rfl) rfl rfl rfl rfl (zm_begins (ln := ln) (c := 23) (t := t) hS hn14 hn80 gtm hy (by omega)) (fun v2040 ph2041 hv => ?_)
  obtain ⟨rfl, fb, g14, hT⟩ := hv
  show zW n D 206 Q 5 [some (.ref 170), some (.int (Int32.ofInt 0)), some (.int y), none, none, none] [.int (zn ln)] ph2041
  refine w_store (pc' := 6) (L' := [some (.ref 170), some (.int (Int32.ofInt 0)), some (.int y), some (.int (zn ln)), none, none]) (st' := []) (m := 1) (ykc_206 (e := (3, .istore_n kF3, 0)) rfl) rfl rfl ?_
  refine w_load (pc' := 7) (v := .ref 170) (m := 1) (ykc_206 (e := (2, .aload_n kF0, 0)) rfl) rfl rfl ?_
  refine w_alu (pc' := 8) (st' := [.int (Int32.ofInt 0), .ref 170]) (ykc_206 (e := (0, .iconst 0, 0)) rfl) rfl rfl ?_
  refine w_pf (pc' := 11) (ykc_206 (e := (5, .putfield 197, 0)) rfl) rfl rfl (fun ph2043 u2042 => ?_)
  refine w_alu (pc' := 12) (st' := [.int (Int32.ofInt 1)]) (ykc_206 (e := (0, .iconst 1, 0)) rfl) rfl rfl ?_
  refine w_store (pc' := 14) (L' := [some (.ref 170), some (.int (Int32.ofInt 0)), some (.int y), some (.int (zn ln)), some (.int (Int32.ofInt 1)), none]) (st' := []) (m := 2) (ykc_206 (e := (3, .istore 4, 0)) rfl) rfl rfl ?_
  refine w_load (pc' := 15) (v := .int (zn ln)) (m := 1) (ykc_206 (e := (2, .iload_n kF3, 0)) rfl) rfl rfl ?_
  refine w_zle (ykc_206 (e := (4, .ifCond .le 7, 22)) rfl) rfl (fun b2044 => ?_) (fun b2044 => ?_)
  · refine w_alu (pc' := 23) (st' := [.int (Int32.ofInt 0)]) (ykc_206 (e := (0, .iconst 0, 0)) rfl) rfl rfl ?_
    refine w_store (pc' := 25) (L' := [some (.ref 170), some (.int (Int32.ofInt 0)), some (.int y), some (.int (zn ln)), some (.int (Int32.ofInt 1)), some (.int (Int32.ofInt 0))]) (st' := []) (m := 2) (ykc_206 (e := (3, .istore 5, 0)) rfl) rfl rfl ?_
    have e0 : zLa R C rk 2 3 ln t (8 - N) = 0 := if_pos (by omega)
    have f1 : zFr [178] [(170, 14), (170, 15), (170, 16), (170, 17), (170, 20)] ph ph2043 := zFr_trans (zFr_mono fb (by first | exact zqa rfl | simp) (by first | exact zqf rfl | simp)) (zFr_st u2042 (Or.inr (by first | exact zqj rfl | simp)))
    have hfa := zm_fault (is := true) (a := 0) (b := min ln 23) (ln := ln) (t := t) (n9 := ln) (c := 23) (zSh_F f1 (by decide +kernel) hS) (zTm_F (zFr_st u2042 (Or.inr (by first | exact zqj rfl | simp)) : zFr [] [(170, 20)] _ _) (by first | exact ⟨zqm rfl, zqm rfl⟩ | simp) (by first | exact ⟨zqp rfl, zqp rfl⟩ | simp) (by first | exact (fun _ => zqr rfl) | simp) hT) (x := zn ln) (y := y) (by omega) (by omega)
    rw [← zi1] at hfa
    refine w_load (pc' := 27) (v := .int (Int32.ofInt 0)) (m := 2) (ykc_206 (e := (2, .iload 5, 0)) rfl) rfl rfl ?_
    refine w_zeq (ykc_206 (e := (4, .ifCond .eq 44, 71)) rfl) rfl (fun b2045 => ?_) (fun q => by exfalso; omega)
    refine w_load (pc' := 72) (v := .ref 170) (m := 1) (ykc_206 (e := (2, .aload_n kF0, 0)) rfl) rfl rfl ?_
    refine w_load (pc' := 73) (v := .int (zn ln)) (m := 1) (ykc_206 (e := (2, .iload_n kF3, 0)) rfl) rfl rfl ?_
    refine w_load (pc' := 74) (v := .int y) (m := 1) (ykc_206 (e := (2, .iload_n kF2, 0)) rfl) rfl rfl ?_
    refine w_load (pc' := 76) (v := .int (Int32.ofInt 1)) (m := 2) (ykc_206 (e := (2, .iload 4, 0)) rfl) rfl rfl ?_
    refine w_cv (as := [.ref 170, .int (zn ln), .int y, .int (Int32.ofInt 1)]) (r := []) (ykc_206 (e := (6, .invokevirtual 213, 0)) rfl) rfl rfl rfl rfl (hfa) (fun v2046 ph2047 hv => ?_)
    obtain ⟨rfl, zf, rfl, ezf⟩ := hv
    show zW n D 206 Q 79 [some (.ref 170), some (.int (Int32.ofInt 0)), some (.int y), some (.int (zn ln)), some (.int (Int32.ofInt 1)), some (.int (Int32.ofInt 0))] [.int zf] ph2043
    refine w_ret (v := (some (.int zf))) (ykc_206 (e := (7, .ireturn, 0)) rfl) (zr_v rfl) ?_
    rw [hQ]
    refine ⟨f1, _, rfl, Or.inr ⟨by omega, ?_, 0, by omega, u2042.1, fun j hj => absurd hj (Nat.not_lt_zero j)⟩⟩
    rw [ezf]
    unfold zFo
    rw [if_neg (by omega), if_pos ⟨rfl, by omega⟩]
    
  · refine w_alu (pc' := 19) (st' := [.int (Int32.ofInt 1)]) (ykc_206 (e := (0, .iconst 1, 0)) rfl) rfl rfl ?_
    refine w_br (pc' := 23) (st' := [.int (Int32.ofInt 1)]) (ykc_206 (e := (4, .goto 4, 23)) rfl) rfl ?_
    refine w_store (pc' := 25) (L' := [some (.ref 170), some (.int (Int32.ofInt 0)), some (.int y), some (.int (zn ln)), some (.int (Int32.ofInt 1)), some (.int (Int32.ofInt 1))]) (st' := []) (m := 2) (ykc_206 (e := (3, .istore 5, 0)) rfl) rfl rfl ?_
    have e0 : zLa R C rk 2 3 ln t (8 - N) = zLo R C rk 2 3 ln t (8 - N) 9 0 := if_neg (by omega)
    have f1 : zFr [178] [(170, 14), (170, 15), (170, 16), (170, 17), (170, 20)] ph ph2043 := zFr_trans (zFr_mono fb (by first | exact zqa rfl | simp) (by first | exact zqf rfl | simp)) (zFr_st u2042 (Or.inr (by first | exact zqj rfl | simp)))
    have hT1 := zTm_F (zFr_st u2042 (Or.inr (by first | exact zqj rfl | simp)) : zFr [] [(170, 20)] _ _) (by first | exact ⟨zqm rfl, zqm rfl⟩ | simp) (by first | exact ⟨zqp rfl, zqp rfl⟩ | simp) (by first | exact (fun _ => zqr rfl) | simp) hT
    have hl : ∀ (n : Nat), ∀ (l : Nat) (is0 : Int32) (ph2 : pm_H), (l ≤ 7) → (zFr [178] [(170, 14), (170, 15), (170, 16), (170, 17), (170, 20)] ph ph2) → (zTm ph2 (3 * l) (min ln 23) ln t) → (zc ph2 170 20 = some (.int (zn l))) → (l ≤ 8 - N) → (zLa R C rk 2 3 ln t (8 - N) = zLo R C rk 2 3 ln t (8 - N) (9 - l) l) → (∀ j, j < l → zLg R C rk 2 ln t (3 * j) 2 = 2 ∧ zc ph2 178 j = some (.int (zn (zLf C t (3 * j))))) → zW n D 206 Q 25 [some (.ref 170), some (.int (Int32.ofInt 0)), some (.int y), some (.int (zn ln)), some (.int is0), some (.int (Int32.ofInt 1))] [] ph2 := by
      intro n
      induction n using Nat.strongRecOn with
      | ind n ih =>
        intro l is0 ph2 hl7 hf hT h20 hlr ha hg
        have tl := znt (k := l) (by omega)
        have hS2 := zSh_F hf (by decide +kernel) hS
        have hL2 := zMl_F hf (by first | exact zqp rfl | simp) (by first | exact zqp rfl | simp) (by first | exact (fun _ => zqr rfl) | simp) (by first | exact ⟨zqm rfl, zqm rfl⟩ | simp) hL
        have hN2 := (hf.1 170 6 (by first | exact zqm rfl | decide) (by first | exact zqp rfl | decide)).trans hN
        have hbl : ∀ p, p < 3 * l + 2 → (p < min ln 23 ↔ p < ln) := fun p hp => by omega
        refine w_load (pc' := 27) (v := .int (Int32.ofInt 1)) (m := 2) (ykc_206 (e := (2, .iload 5, 0)) rfl) rfl rfl ?_
        refine w_zeq (ykc_206 (e := (4, .ifCond .eq 44, 71)) rfl) rfl (fun q => by exfalso; omega) (fun b2048 => ?_)
        refine w_load (pc' := 31) (v := .int (Int32.ofInt 0)) (m := 1) (ykc_206 (e := (2, .iload_n kF1, 0)) rfl) rfl rfl ?_
        refine w_zeq (ykc_206 (e := (4, .ifCond .eq 10, 41)) rfl) rfl (fun b2049 => ?_) (fun q => by exfalso; omega)
        refine w_load (pc' := 42) (v := .ref 170) (m := 1) (ykc_206 (e := (2, .aload_n kF0, 0)) rfl) rfl rfl ?_
        refine w_cv (as := [.ref 170]) (r := []) (ykc_206 (e := (6, .invokevirtual 206, 0)) rfl) rfl rfl rfl rfl (zm_rthing hS2 hL2 hT h20 (by omega) hN2 (by omega)) (fun v2050 ph2051 hv => ?_)
        rcases hv with ⟨fr, ⟨hf8, rfl, hr⟩ | ⟨hf8, hgg, rfl, hr, r20, r0, rl⟩ | ⟨hf8, hgb, rfl, hr⟩⟩
        · show zW n D 206 Q 45 [some (.ref 170), some (.int (Int32.ofInt 0)), some (.int y), some (.int (zn ln)), some (.int is0), some (.int (Int32.ofInt 1))] [.int (zI false)] ph2051
          refine w_store (pc' := 47) (L' := [some (.ref 170), some (.int (Int32.ofInt 0)), some (.int y), some (.int (zn ln)), some (.int (zI false)), some (.int (Int32.ofInt 1))]) (st' := []) (m := 2) (ykc_206 (e := (3, .istore 4, 0)) rfl) rfl rfl ?_
          refine w_load (pc' := 49) (v := .int (zI false)) (m := 2) (ykc_206 (e := (2, .iload 4, 0)) rfl) rfl rfl ?_
          refine w_beq (ykc_206 (e := (4, .ifCond .eq 16, 65)) rfl) rfl (fun b2052 => ?_) (fun q => absurd q (by decide))
          refine w_alu (pc' := 66) (st' := [.int (Int32.ofInt 0)]) (ykc_206 (e := (0, .iconst 0, 0)) rfl) rfl rfl ?_
          refine w_store (pc' := 68) (L' := [some (.ref 170), some (.int (Int32.ofInt 0)), some (.int y), some (.int (zn ln)), some (.int (zI false)), some (.int (Int32.ofInt 0))]) (st' := []) (m := 2) (ykc_206 (e := (3, .istore 5, 0)) rfl) rfl rfl ?_
          refine w_gb (ykc_206 (e := (4, .goto (-43), 25)) rfl) (fun k2053 hk2053 => ?_)
          refine w_load (pc' := 27) (v := .int (Int32.ofInt 0)) (m := 2) (ykc_206 (e := (2, .iload 5, 0)) rfl) rfl rfl ?_
          refine w_zeq (ykc_206 (e := (4, .ifCond .eq 44, 71)) rfl) rfl (fun b2054 => ?_) (fun q => by exfalso; omega)
          refine w_load (pc' := 72) (v := .ref 170) (m := 1) (ykc_206 (e := (2, .aload_n kF0, 0)) rfl) rfl rfl ?_
          refine w_load (pc' := 73) (v := .int (zn ln)) (m := 1) (ykc_206 (e := (2, .iload_n kF3, 0)) rfl) rfl rfl ?_
          refine w_load (pc' := 74) (v := .int y) (m := 1) (ykc_206 (e := (2, .iload_n kF2, 0)) rfl) rfl rfl ?_
          refine w_load (pc' := 76) (v := .int (zI false)) (m := 2) (ykc_206 (e := (2, .iload 4, 0)) rfl) rfl rfl ?_
          refine w_cv (as := [.ref 170, .int (zn ln), .int y, .int (zI false)]) (r := []) (ykc_206 (e := (6, .invokevirtual 213, 0)) rfl) rfl rfl rfl rfl (zm_fault (is := false) (a := 3 * l) (b := min ln 23) (ln := ln) (t := t) (n9 := ln) (c := 23) (zSh_F fr (by decide +kernel) hS2) hr (by omega) (by omega)) (fun v2055 ph2056 hv => ?_)
          obtain ⟨rfl, zf, rfl, ezf⟩ := hv
          show zW k2053 D 206 Q 79 [some (.ref 170), some (.int (Int32.ofInt 0)), some (.int y), some (.int (zn ln)), some (.int (zI false)), some (.int (Int32.ofInt 0))] [.int zf] ph2051
          refine w_ret (v := (some (.int zf))) (ykc_206 (e := (7, .ireturn, 0)) rfl) (zr_v rfl) ?_
          have h8 := ha.trans (zLo_0 (by omega) (show l = 8 - N by omega))
          have hab := hr.2.2.1
          rw [hQ]
          refine ⟨zFr_trans hf (zFr_mono fr (by first | exact zqa rfl | simp) (by first | exact zqf rfl | simp)), _, rfl, Or.inl ⟨by omega, ?_⟩⟩
          rw [ezf, h8]
          unfold zFo
          rw [if_neg (fun q => by rcases q.2 with q2 | q2; exact absurd q2.1 (by first | exact Nat.ne_of_beq_eq_false rfl | decide); omega), if_neg (fun q => absurd q.1 (by first | exact Nat.ne_of_beq_eq_false rfl | decide))]
        · have hgc : zLg R C rk 2 (min ln 23) t (3 * l) 2 = zLg R C rk 2 ln t (3 * l) 2 := zLg_b (fun i hi => hbl _ (by omega))
          rw [hgc] at hgg
          have hlast := (zLk_d (zLg_a hgg (2 - 1) (by omega))).1
          have hgl : ∀ j, j < l + 1 → zLg R C rk 2 ln t (3 * j) 2 = 2 ∧ zc ph2051 178 j = some (.int (zn (zLf C t (3 * j)))) := fun j hj => by
            by_cases e : j = l
            · subst e; exact ⟨hgg, r0⟩
            · obtain ⟨g1, g2⟩ := hg j (by omega)
              exact ⟨g1, (rl _ (by omega)).trans g2⟩
          show zW n D 206 Q 45 [some (.ref 170), some (.int (Int32.ofInt 0)), some (.int y), some (.int (zn ln)), some (.int is0), some (.int (Int32.ofInt 1))] [.int (zI true)] ph2051
          refine w_store (pc' := 47) (L' := [some (.ref 170), some (.int (Int32.ofInt 0)), some (.int y), some (.int (zn ln)), some (.int (zI true)), some (.int (Int32.ofInt 1))]) (st' := []) (m := 2) (ykc_206 (e := (3, .istore 4, 0)) rfl) rfl rfl ?_
          refine w_load (pc' := 49) (v := .int (zI true)) (m := 2) (ykc_206 (e := (2, .iload 4, 0)) rfl) rfl rfl ?_
          refine w_beq (ykc_206 (e := (4, .ifCond .eq 16, 65)) rfl) rfl (fun q => absurd q (by decide)) (fun b2057 => ?_)
          refine w_load (pc' := 53) (v := .ref 170) (m := 1) (ykc_206 (e := (2, .aload_n kF0, 0)) rfl) rfl rfl ?_
          refine w_push (pc' := 55) (v := .int ((Int8.ofInt 59).toInt32)) (m := 2) (ykc_206 (e := (1, .bipush 59, 0)) rfl) rfl rfl ?_
          refine w_cv (as := [.ref 170, .int ((Int8.ofInt 59).toInt32)]) (r := []) (ykc_206 (e := (6, .invokevirtual 209, 0)) rfl) rfl rfl rfl rfl (zm_takes (zSh_F fr (by decide +kernel) hS2) hr (c := 59) (by omega)) (fun v2058 ph2059 hv => ?_)
          rcases hv with ⟨fs, ⟨hc5, rfl, hts⟩ | ⟨hc5, rfl, hts⟩⟩
          · show zW n D 206 Q 58 [some (.ref 170), some (.int (Int32.ofInt 0)), some (.int y), some (.int (zn ln)), some (.int (zI true)), some (.int (Int32.ofInt 1))] [.int (zI true)] ph2059
            refine w_beq (ykc_206 (e := (4, .ifCond .eq 7, 65)) rfl) rfl (fun q => absurd q (by decide)) (fun b2060 => ?_)
            refine w_alu (pc' := 62) (st' := [.int (Int32.ofInt 1)]) (ykc_206 (e := (0, .iconst 1, 0)) rfl) rfl rfl ?_
            refine w_br (pc' := 66) (st' := [.int (Int32.ofInt 1)]) (ykc_206 (e := (4, .goto 4, 66)) rfl) rfl ?_
            refine w_store (pc' := 68) (L' := [some (.ref 170), some (.int (Int32.ofInt 0)), some (.int y), some (.int (zn ln)), some (.int (zI true)), some (.int (Int32.ofInt 1))]) (st' := []) (m := 2) (ykc_206 (e := (3, .istore 5, 0)) rfl) rfl rfl ?_
            refine w_gb (ykc_206 (e := (4, .goto (-43), 25)) rfl) (fun k2061 hk2061 => ?_)
            have h8 := ha.trans (zLo_4 (by omega) (by omega) hgg (by omega) (by omega))
            rw [show 3 * l + 2 + 1 = 3 * (l + 1) by omega] at hts
            exact ih k2061 hk2061 (l + 1) _ _ (by omega) (zFr_trans hf (zFr_trans (zFr_mono fr (by first | exact zqa rfl | simp) (by first | exact zqf rfl | simp)) (zFr_mono fs (by first | exact zqa rfl | simp) (by first | exact zqf rfl | simp)))) hts ((fs.1 170 20 (by first | exact zqm rfl | decide) (by first | exact zqp rfl | decide)).trans r20) (by omega) h8 (fun j hj => by
              obtain ⟨g1, g2⟩ := hgl j hj
              exact ⟨g1, (fs.1 178 _ (by first | exact zqm rfl | decide) (by first | exact zqp rfl | simp)).trans g2⟩)
          · show zW n D 206 Q 58 [some (.ref 170), some (.int (Int32.ofInt 0)), some (.int y), some (.int (zn ln)), some (.int (zI true)), some (.int (Int32.ofInt 1))] [.int (zI false)] ph2059
            refine w_beq (ykc_206 (e := (4, .ifCond .eq 7, 65)) rfl) rfl (fun b2062 => ?_) (fun q => absurd q (by decide))
            refine w_alu (pc' := 66) (st' := [.int (Int32.ofInt 0)]) (ykc_206 (e := (0, .iconst 0, 0)) rfl) rfl rfl ?_
            refine w_store (pc' := 68) (L' := [some (.ref 170), some (.int (Int32.ofInt 0)), some (.int y), some (.int (zn ln)), some (.int (zI true)), some (.int (Int32.ofInt 0))]) (st' := []) (m := 2) (ykc_206 (e := (3, .istore 5, 0)) rfl) rfl rfl ?_
            refine w_gb (ykc_206 (e := (4, .goto (-43), 25)) rfl) (fun k2063 hk2063 => ?_)
            refine w_load (pc' := 27) (v := .int (Int32.ofInt 0)) (m := 2) (ykc_206 (e := (2, .iload 5, 0)) rfl) rfl rfl ?_
            refine w_zeq (ykc_206 (e := (4, .ifCond .eq 44, 71)) rfl) rfl (fun b2064 => ?_) (fun q => by exfalso; omega)
            refine w_load (pc' := 72) (v := .ref 170) (m := 1) (ykc_206 (e := (2, .aload_n kF0, 0)) rfl) rfl rfl ?_
            refine w_load (pc' := 73) (v := .int (zn ln)) (m := 1) (ykc_206 (e := (2, .iload_n kF3, 0)) rfl) rfl rfl ?_
            refine w_load (pc' := 74) (v := .int y) (m := 1) (ykc_206 (e := (2, .iload_n kF2, 0)) rfl) rfl rfl ?_
            refine w_load (pc' := 76) (v := .int (zI true)) (m := 2) (ykc_206 (e := (2, .iload 4, 0)) rfl) rfl rfl ?_
            refine w_cv (as := [.ref 170, .int (zn ln), .int y, .int (zI true)]) (r := []) (ykc_206 (e := (6, .invokevirtual 213, 0)) rfl) rfl rfl rfl rfl (zm_fault (is := true) (a := 3 * l + 2) (b := min ln 23) (ln := ln) (t := t) (n9 := ln) (c := 23) (zSh_F fs (by decide +kernel) (zSh_F fr (by decide +kernel) hS2)) hts (by omega) (by omega)) (fun v2065 ph2066 hv => ?_)
            obtain ⟨rfl, zf, rfl, ezf⟩ := hv
            show zW k2063 D 206 Q 79 [some (.ref 170), some (.int (Int32.ofInt 0)), some (.int y), some (.int (zn ln)), some (.int (zI true)), some (.int (Int32.ofInt 0))] [.int zf] ph2059
            refine w_ret (v := (some (.int zf))) (ykc_206 (e := (7, .ireturn, 0)) rfl) (zr_v rfl) ?_
            have f9 : zFr [178] [(170, 14), (170, 15), (170, 16), (170, 17), (170, 20)] ph ph2059 := zFr_trans hf (zFr_trans (zFr_mono fr (by first | exact zqa rfl | simp) (by first | exact zqf rfl | simp)) (zFr_mono fs (by first | exact zqa rfl | simp) (by first | exact zqf rfl | simp)))
            have hab := hts.2.2.1
            rw [hQ]
            refine ⟨f9, _, rfl, ?_⟩
            rw [ezf]
            unfold zFo
            by_cases e : 3 * l + 2 = ln
            · have h8 := ha.trans (zLo_2 (by omega) (by omega) hgg e)
              rw [if_neg (by omega), if_pos ⟨rfl, by omega⟩]
              exact Or.inr ⟨by omega, rfl, l + 1, by omega, (fs.1 170 20 (by first | exact zqm rfl | decide) (by first | exact zqp rfl | decide)).trans r20, fun j hj => by
                obtain ⟨g1, g2⟩ := hgl j hj
                exact ⟨g1, (fs.1 178 _ (by first | exact zqm rfl | decide) (by first | exact zqp rfl | simp)).trans g2⟩⟩
            · have h4 : l = 7 ∨ t (3 * l + 2) ≠ 59 := by omega
              have h8 := ha.trans (zLo_3 (by omega) (by omega) hgg e h4)
              refine Or.inl ⟨by omega, ?_⟩
              rw [h8]
              by_cases e2 : 3 * l + 2 = min ln 23
              · rw [if_pos ⟨by omega, Or.inl ⟨rfl, e2⟩⟩]
                omega
              · rw [if_neg (fun q => by rcases q.2 with q2 | q2; exact e2 q2.2; omega), if_neg (fun q => e2 q.2)]
          
        · have hgc : zLg R C rk 2 (min ln 23) t (3 * l) 2 = zLg R C rk 2 ln t (3 * l) 2 := zLg_b (fun i hi => hbl _ (by omega))
          rw [hgc] at hgb hr
          show zW n D 206 Q 45 [some (.ref 170), some (.int (Int32.ofInt 0)), some (.int y), some (.int (zn ln)), some (.int is0), some (.int (Int32.ofInt 1))] [.int (zI false)] ph2051
          refine w_store (pc' := 47) (L' := [some (.ref 170), some (.int (Int32.ofInt 0)), some (.int y), some (.int (zn ln)), some (.int (zI false)), some (.int (Int32.ofInt 1))]) (st' := []) (m := 2) (ykc_206 (e := (3, .istore 4, 0)) rfl) rfl rfl ?_
          refine w_load (pc' := 49) (v := .int (zI false)) (m := 2) (ykc_206 (e := (2, .iload 4, 0)) rfl) rfl rfl ?_
          refine w_beq (ykc_206 (e := (4, .ifCond .eq 16, 65)) rfl) rfl (fun b2067 => ?_) (fun q => absurd q (by decide))
          refine w_alu (pc' := 66) (st' := [.int (Int32.ofInt 0)]) (ykc_206 (e := (0, .iconst 0, 0)) rfl) rfl rfl ?_
          refine w_store (pc' := 68) (L' := [some (.ref 170), some (.int (Int32.ofInt 0)), some (.int y), some (.int (zn ln)), some (.int (zI false)), some (.int (Int32.ofInt 0))]) (st' := []) (m := 2) (ykc_206 (e := (3, .istore 5, 0)) rfl) rfl rfl ?_
          refine w_gb (ykc_206 (e := (4, .goto (-43), 25)) rfl) (fun k2068 hk2068 => ?_)
          refine w_load (pc' := 27) (v := .int (Int32.ofInt 0)) (m := 2) (ykc_206 (e := (2, .iload 5, 0)) rfl) rfl rfl ?_
          refine w_zeq (ykc_206 (e := (4, .ifCond .eq 44, 71)) rfl) rfl (fun b2069 => ?_) (fun q => by exfalso; omega)
          refine w_load (pc' := 72) (v := .ref 170) (m := 1) (ykc_206 (e := (2, .aload_n kF0, 0)) rfl) rfl rfl ?_
          refine w_load (pc' := 73) (v := .int (zn ln)) (m := 1) (ykc_206 (e := (2, .iload_n kF3, 0)) rfl) rfl rfl ?_
          refine w_load (pc' := 74) (v := .int y) (m := 1) (ykc_206 (e := (2, .iload_n kF2, 0)) rfl) rfl rfl ?_
          refine w_load (pc' := 76) (v := .int (zI false)) (m := 2) (ykc_206 (e := (2, .iload 4, 0)) rfl) rfl rfl ?_
          refine w_cv (as := [.ref 170, .int (zn ln), .int y, .int (zI false)]) (r := []) (ykc_206 (e := (6, .invokevirtual 213, 0)) rfl) rfl rfl rfl rfl (zm_fault (is := false) (a := 3 * l + zLg R C rk 2 ln t (3 * l) 2) (b := min ln 23) (ln := ln) (t := t) (n9 := ln) (c := 23) (zSh_F fr (by decide +kernel) hS2) hr (by omega) (by omega)) (fun v2070 ph2071 hv => ?_)
          obtain ⟨rfl, zf, rfl, ezf⟩ := hv
          show zW k2068 D 206 Q 79 [some (.ref 170), some (.int (Int32.ofInt 0)), some (.int y), some (.int (zn ln)), some (.int (zI false)), some (.int (Int32.ofInt 0))] [.int zf] ph2051
          refine w_ret (v := (some (.int zf))) (ykc_206 (e := (7, .ireturn, 0)) rfl) (zr_v rfl) ?_
          have h8 := ha.trans (zLo_1 (by omega) (by omega) hgb)
          rw [hQ]
          refine ⟨zFr_trans hf (zFr_mono fr (by first | exact zqa rfl | simp) (by first | exact zqf rfl | simp)), _, rfl, Or.inl ⟨by omega, ?_⟩⟩
          rw [ezf, h8]
          unfold zFo
          rw [if_neg (fun q => by rcases q.2 with q2 | q2; exact absurd q2.1 (by first | exact Nat.ne_of_beq_eq_false rfl | decide); omega), if_neg (fun q => absurd q.1 (by first | exact Nat.ne_of_beq_eq_false rfl | decide))]
        
    exact hl n 0 _ ph2043 (Nat.zero_le _) f1 hT1 u2042.1 (Nat.zero_le _) e0 (fun j hj => absurd hj (Nat.not_lt_zero j))
theorem zm_isNew {ph : pm_H} {k u ch : Nat} (hS : zSh ph) (h20 : zc ph 170 20 = some (.int (zn k))) (hk8 : k ≤ 8) (gu : zc ph 170 27 = some (.int (zn u))) (hu : u ≤ 15) (gc : zc ph 170 7 = some (.int (zn ch))) (hch : ch < 1000) : zM 207 [.ref 170] ph (fun v0 q => v0 = some (.int (zn k)) ∧ zFr [] [(170, 7), (170, 27)] ph q ∧ zc q 170 27 = some (.int (zn (if 0 < k then 0 else u))) ∧ zc q 170 7 = some (.int (zn (if 0 < k then ch + 1 else ch)))) := by
  obtain ⟨Q, hQ⟩ : ∃ Q : Option Value → pm_H → Prop, Q = (fun v0 q => v0 = some (.int (zn k)) ∧ zFr [] [(170, 7), (170, 27)] ph q ∧ zc q 170 27 = some (.int (zn (if 0 < k then 0 else u))) ∧ zc q 170 7 = some (.int (zn (if 0 < k then ch + 1 else ch)))) := ⟨_, rfl⟩
  rw [← hQ]
  refine zM_mk fun n D => ?_
  show zW n D 207 Q 0 [some (.ref 170)] [] ph
  have c_0 : (Int32.ofInt 0).toInt = 0 := by decide +kernel
  have c_1 : (Int32.ofInt 1).toInt = 1 := by decide +kernel
  have tk := znt (k := k) (by omega)
  have tu := znt (k := u) (by omega)
  have tc := znt (k := ch) (by omega)
  refine w_load (pc' := 1) (v := .ref 170) (m := 1) (ykc_207 (e := (2, .aload_n kF0, 0)) rfl) rfl rfl ?_
  refine w_load (pc' := 2) (v := .ref 170) (m := 1) (ykc_207 (e := (2, .aload_n kF0, 0)) rfl) rfl rfl ?_
  refine w_gf (pc' := 5) (v := .int (zn k)) (ykc_207 (e := (5, .getfield 197, 0)) rfl) rfl h20 rfl ?_
  refine w_zle (ykc_207 (e := (4, .ifCond .le 7, 12)) rfl) rfl (fun b2072 => ?_) (fun b2072 => ?_)
  · refine w_load (pc' := 13) (v := .ref 170) (m := 1) (ykc_207 (e := (2, .aload_n kF0, 0)) rfl) rfl rfl ?_
    refine w_gf (pc' := 16) (v := .int (zn u)) (ykc_207 (e := (5, .getfield 188, 0)) rfl) rfl gu rfl ?_
    refine w_pf (pc' := 19) (ykc_207 (e := (5, .putfield 188, 0)) rfl) rfl rfl (fun ph2074 u2073 => ?_)
    refine w_load (pc' := 20) (v := .ref 170) (m := 1) (ykc_207 (e := (2, .aload_n kF0, 0)) rfl) rfl rfl ?_
    refine w_alu (pc' := 21) (st' := [.ref 170, .ref 170]) (ykc_207 (e := (0, .dup, 0)) rfl) rfl rfl ?_
    refine w_gf (pc' := 24) (v := .int (zn ch)) (ykc_207 (e := (5, .getfield 191, 0)) rfl) rfl ((u2073.2.1 170 7 (fun q => absurd q.2 (by first | exact Nat.ne_of_beq_eq_false rfl | decide))).trans gc) rfl ?_
    refine w_load (pc' := 25) (v := .ref 170) (m := 1) (ykc_207 (e := (2, .aload_n kF0, 0)) rfl) rfl rfl ?_
    refine w_gf (pc' := 28) (v := .int (zn k)) (ykc_207 (e := (5, .getfield 197, 0)) rfl) rfl ((u2073.2.1 170 20 (fun q => absurd q.2 (by first | exact Nat.ne_of_beq_eq_false rfl | decide))).trans h20) rfl ?_
    refine w_zle (ykc_207 (e := (4, .ifCond .le 7, 35)) rfl) rfl (fun b2075 => ?_) (fun q => by exfalso; omega)
    refine w_alu (pc' := 36) (st' := [.int (Int32.ofInt 0), .int (zn ch), .ref 170]) (ykc_207 (e := (0, .iconst 0, 0)) rfl) rfl rfl ?_
    refine w_cs (as := [.int (Int32.ofInt 0)]) (r := [.int (zn ch), .ref 170]) (ykc_207 (e := (6, .invokestatic 154, 0)) rfl) rfl rfl rfl rfl (zm_flag0) (fun v2076 ph2077 hv => ?_)
    obtain ⟨rfl, rfl⟩ := hv
    have cI1 : (zI true).toInt = 1 := rfl
    have cI0 : (zI false).toInt = 0 := rfl
    show zW n D 207 Q 39 [some (.ref 170)] [.int (zI false), .int (zn ch), .ref 170] ph2074
    have e2078 : (zn ch) + (zI false) = zn (ch) := zaddN (a := ch) (b := 0) tc cI0 (by omega)
    have te2078 := znt (k := ch) (by omega)
    refine w_alu (pc' := 40) (st' := [.int (zn (ch)), .ref 170]) (ykc_207 (e := (0, .iadd, 0)) rfl) (by show some ([.int ((zn ch) + (zI false)), .ref 170] : List Value) = _; rw [e2078]) rfl ?_
    refine w_pf (pc' := 43) (ykc_207 (e := (5, .putfield 191, 0)) rfl) rfl rfl (fun ph2080 u2079 => ?_)
    refine w_load (pc' := 44) (v := .ref 170) (m := 1) (ykc_207 (e := (2, .aload_n kF0, 0)) rfl) rfl rfl ?_
    refine w_gf (pc' := 47) (v := .int (zn k)) (ykc_207 (e := (5, .getfield 197, 0)) rfl) rfl ((u2079.2.1 170 20 (fun q => absurd q.2 (by first | exact Nat.ne_of_beq_eq_false rfl | decide))).trans ((u2073.2.1 170 20 (fun q => absurd q.2 (by first | exact Nat.ne_of_beq_eq_false rfl | decide))).trans h20)) rfl ?_
    refine w_ret (v := (some (.int (zn k)))) (ykc_207 (e := (7, .ireturn, 0)) rfl) (zr_v rfl) ?_
    have h9 : ¬ 0 < k := by omega
    rw [hQ, if_neg h9, if_neg h9]
    exact ⟨rfl, zFr_trans (zFr_st u2073 (Or.inr (by first | exact zqj rfl | simp))) (zFr_st u2079 (Or.inr (by first | exact zqj rfl | simp))), ((u2079.2.1 170 27 (fun q => absurd q.2 (by first | exact Nat.ne_of_beq_eq_false rfl | decide))).trans u2073.1), u2079.1⟩
  · refine w_alu (pc' := 9) (st' := [.int (Int32.ofInt 0), .ref 170]) (ykc_207 (e := (0, .iconst 0, 0)) rfl) rfl rfl ?_
    refine w_br (pc' := 16) (st' := [.int (Int32.ofInt 0), .ref 170]) (ykc_207 (e := (4, .goto 7, 16)) rfl) rfl ?_
    refine w_pf (pc' := 19) (ykc_207 (e := (5, .putfield 188, 0)) rfl) rfl rfl (fun ph2082 u2081 => ?_)
    refine w_load (pc' := 20) (v := .ref 170) (m := 1) (ykc_207 (e := (2, .aload_n kF0, 0)) rfl) rfl rfl ?_
    refine w_alu (pc' := 21) (st' := [.ref 170, .ref 170]) (ykc_207 (e := (0, .dup, 0)) rfl) rfl rfl ?_
    refine w_gf (pc' := 24) (v := .int (zn ch)) (ykc_207 (e := (5, .getfield 191, 0)) rfl) rfl ((u2081.2.1 170 7 (fun q => absurd q.2 (by first | exact Nat.ne_of_beq_eq_false rfl | decide))).trans gc) rfl ?_
    refine w_load (pc' := 25) (v := .ref 170) (m := 1) (ykc_207 (e := (2, .aload_n kF0, 0)) rfl) rfl rfl ?_
    refine w_gf (pc' := 28) (v := .int (zn k)) (ykc_207 (e := (5, .getfield 197, 0)) rfl) rfl ((u2081.2.1 170 20 (fun q => absurd q.2 (by first | exact Nat.ne_of_beq_eq_false rfl | decide))).trans h20) rfl ?_
    refine w_zle (ykc_207 (e := (4, .ifCond .le 7, 35)) rfl) rfl (fun q => by exfalso; omega) (fun b2083 => ?_)
    refine w_alu (pc' := 32) (st' := [.int (Int32.ofInt 1), .int (zn ch), .ref 170]) (ykc_207 (e := (0, .iconst 1, 0)) rfl) rfl rfl ?_
    refine w_br (pc' := 36) (st' := [.int (Int32.ofInt 1), .int (zn ch), .ref 170]) (ykc_207 (e := (4, .goto 4, 36)) rfl) rfl ?_
    refine w_cs (as := [.int (Int32.ofInt 1)]) (r := [.int (zn ch), .ref 170]) (ykc_207 (e := (6, .invokestatic 154, 0)) rfl) rfl rfl rfl rfl (zm_flag1) (fun v2084 ph2085 hv => ?_)
    obtain ⟨rfl, rfl⟩ := hv
    have cI1 : (zI true).toInt = 1 := rfl
    have cI0 : (zI false).toInt = 0 := rfl
    show zW n D 207 Q 39 [some (.ref 170)] [.int (zI true), .int (zn ch), .ref 170] ph2082
    have e2086 : (zn ch) + (zI true) = zn (ch + 1) := zaddN (a := ch) (b := 1) tc cI1 (by omega)
    have te2086 := znt (k := ch + 1) (by omega)
    refine w_alu (pc' := 40) (st' := [.int (zn (ch + 1)), .ref 170]) (ykc_207 (e := (0, .iadd, 0)) rfl) (by show some ([.int ((zn ch) + (zI true)), .ref 170] : List Value) = _; rw [e2086]) rfl ?_
    refine w_pf (pc' := 43) (ykc_207 (e := (5, .putfield 191, 0)) rfl) rfl rfl (fun ph2088 u2087 => ?_)
    refine w_load (pc' := 44) (v := .ref 170) (m := 1) (ykc_207 (e := (2, .aload_n kF0, 0)) rfl) rfl rfl ?_
    refine w_gf (pc' := 47) (v := .int (zn k)) (ykc_207 (e := (5, .getfield 197, 0)) rfl) rfl ((u2087.2.1 170 20 (fun q => absurd q.2 (by first | exact Nat.ne_of_beq_eq_false rfl | decide))).trans ((u2081.2.1 170 20 (fun q => absurd q.2 (by first | exact Nat.ne_of_beq_eq_false rfl | decide))).trans h20)) rfl ?_
    refine w_ret (v := (some (.int (zn k)))) (ykc_207 (e := (7, .ireturn, 0)) rfl) (zr_v rfl) ?_
    have h9 : 0 < k := by omega
    rw [hQ, if_pos h9, if_pos h9]
    exact ⟨rfl, zFr_trans (zFr_st u2081 (Or.inr (by first | exact zqj rfl | simp))) (zFr_st u2087 (Or.inr (by first | exact zqj rfl | simp))), ((u2087.2.1 170 27 (fun q => absurd q.2 (by first | exact Nat.ne_of_beq_eq_false rfl | decide))).trans u2081.1), u2087.1⟩
theorem zNr_ad {p q1 q2 q3 q : pm_H} {P f a b : Nat} {v : Nat → Nat} (u1 : zst p q1 174 P (.int (zn f))) (u2 : zst q1 q2 174 (8 + P) (.int (zn a))) (u3 : zst q2 q3 174 (16 + P) (.int (zn b))) (u4 : zst q3 q 174 (24 + P) (.int (zn 0))) (h : zNr p 174 0 v) : zNr q 174 0 (zad v P f a b) := zNr_u u4 (zNr_u u3 (zNr_u u2 (zNr_u u1 h)))
theorem zm_people {ph : pm_H} {ln : Nat} {t : Nat → Nat} {R C P G u ch hn : Nat} {rk : Nat → Bool} {v : Nat → Nat} {w : Nat → Nat → Nat} {kp : Nat → Bool} {kc : Nat → Nat} {sv : Nat → Nat → Nat} (hS : zSh ph) (hn14 : zc ph 170 14 = some (.int (zn ln))) (hn80 : ln ≤ 80) (gtm : ∀ i, i < ln → zc ph 176 i = some (.int (zn (t i))) ∧ t i < 256) (hK : zKM ph R C rk P G v u w ch kp kc sv hn) (hch : ch < 1000) : zM 208 [.ref 170] ph (fun v0 q => ∃ z : Int32, v0 = some (.int z) ∧ z.toInt = zLa R C rk 4 5 ln t (8 - P) ∧ ((zLa R C rk 4 5 ln t (8 - P) ≤ 0 ∧ zKM q R C rk P G v u w ch kp kc sv hn) ∨ (∃ k : Nat, 0 < k ∧ (k : Int) = zLa R C rk 4 5 ln t (8 - P) ∧ zKM q R C rk (P + k) G (zPv C t P v k) 0 w (ch + 1) kp kc sv hn))) := by
  obtain ⟨Q, hQ⟩ : ∃ Q : Option Value → pm_H → Prop, Q = (fun v0 q => ∃ z : Int32, v0 = some (.int z) ∧ z.toInt = zLa R C rk 4 5 ln t (8 - P) ∧ ((zLa R C rk 4 5 ln t (8 - P) ≤ 0 ∧ zKM q R C rk P G v u w ch kp kc sv hn) ∨ (∃ k : Nat, 0 < k ∧ (k : Int) = zLa R C rk 4 5 ln t (8 - P) ∧ zKM q R C rk (P + k) G (zPv C t P v k) 0 w (ch + 1) kp kc sv hn))) := ⟨_, rfl⟩
  rw [← hQ]
  refine zM_mk fun n D => ?_
  show zW n D 208 Q 0 [some (.ref 170), none, none] [] ph
  have c_0 : ((Int8.ofInt 16).toInt32).toInt = 16 := by decide +kernel
  have c_1 : ((Int8.ofInt 24).toInt32).toInt = 24 := by decide +kernel
  have c_2 : ((Int8.ofInt 39).toInt32).toInt = 39 := by decide +kernel
  have c_3 : ((Int8.ofInt 8).toInt32).toInt = 8 := by decide +kernel
  have c_4 : (Int32.ofInt 0).toInt = 0 := by decide +kernel
  have c_5 : (Int32.ofInt 1).toInt = 1 := by decide +kernel
  have c_6 : (Int32.ofInt 2).toInt = 2 := by decide +kernel
  have c_7 : (Int32.ofInt 3).toInt = 3 := by decide +kernel
  obtain ⟨hL, hN, hv, hU, hk, hh⟩ := hK
  obtain ⟨gP, hP8, gG, hG8⟩ := id hN
  have tP := znt (k := P) (by omega)
  have tG := znt (k := G) (by omega)
  have hR37 : 3 ≤ R ∧ R ≤ 7 := ⟨hL.2.2.2.1, hL.2.2.2.2.1⟩
  have hC37 : 3 ≤ C ∧ C ≤ 7 := hL.2.2.2.2.2
  have hRC49 : R * C ≤ 49 := zRC49 hR37.2 hC37.2
  have hr := @zLa_r R C 4 5 ln (8 - P) rk t (by omega)
  refine w_load (pc' := 1) (v := .ref 170) (m := 1) (ykc_208 (e := (2, .aload_n kF0, 0)) rfl) rfl rfl ?_
  refine w_alu (pc' := 2) (st' := [.int (Int32.ofInt 0), .ref 170]) (ykc_208 (e := (0, .iconst 0, 0)) rfl) rfl rfl ?_
  refine w_pf (pc' := 5) (ykc_208 (e := (5, .putfield 3, 0)) rfl) rfl rfl (fun ph2090 u2089 => ?_)
  refine w_load (pc' := 6) (v := .ref 170) (m := 1) (ykc_208 (e := (2, .aload_n kF0, 0)) rfl) rfl rfl ?_
  refine w_alu (pc' := 7) (st' := [.int (Int32.ofInt 1), .ref 170]) (ykc_208 (e := (0, .iconst 1, 0)) rfl) rfl rfl ?_
  refine w_push (pc' := 9) (v := .int ((Int8.ofInt 39).toInt32)) (m := 2) (ykc_208 (e := (1, .bipush 39, 0)) rfl) rfl rfl ?_
  have f0 : zFr [] [(170, 0)] ph ph2090 := zFr_st u2089 (Or.inr (by first | exact zqj rfl | simp))
  refine w_cv (as := [.ref 170, .int (Int32.ofInt 1), .int ((Int8.ofInt 39).toInt32)]) (r := []) (ykc_208 (e := (6, .invokevirtual 217, 0)) rfl) rfl rfl rfl rfl (zm_rlines4 (ln := ln) (t := t) (N := P) (zSh_F f0 (by decide +kernel) hS) (zMl_F f0 (by first | exact zqp rfl | simp) (by first | exact zqp rfl | simp) (by first | exact (fun _ => zqr rfl) | simp) (by first | exact ⟨zqm rfl, zqm rfl⟩ | simp) hL) ((f0.1 170 14 (by first | exact zqm rfl | decide) (by first | exact zqp rfl | decide)).trans hn14) hn80 (fun i hi => ⟨(f0.1 176 i (by first | exact zqm rfl | decide) (by first | exact zqp rfl | simp)).trans (gtm i hi).1, (gtm i hi).2⟩) ((f0.1 170 5 (by first | exact zqm rfl | decide) (by first | exact zqp rfl | decide)).trans gP) (by omega) (by omega)) (fun v2091 ph2092 hv => ?_)
  rcases hv with ⟨fr, z9, rfl, ⟨hneg, ez⟩ | ⟨hpos, ez, k9, ek9, rl20, hgl⟩⟩
  · have f1 : zFr [178] [(170, 0), (170, 14), (170, 15), (170, 16), (170, 17), (170, 20)] ph ph2092 := zFr_trans (zFr_mono f0 (by first | exact zqa rfl | simp) (by first | exact zqf rfl | simp)) (zFr_mono fr (by first | exact zqa rfl | simp) (by first | exact zqf rfl | simp))
    show zW n D 208 Q 12 [some (.ref 170), none, none] [.int z9] ph2092
    refine w_store (pc' := 13) (L' := [some (.ref 170), some (.int z9), none]) (st' := []) (m := 1) (ykc_208 (e := (3, .istore_n kF1, 0)) rfl) rfl rfl ?_
    refine w_load (pc' := 14) (v := .int z9) (m := 1) (ykc_208 (e := (2, .iload_n kF1, 0)) rfl) rfl rfl ?_
    refine w_zge (ykc_208 (e := (4, .ifCond .ge 5, 19)) rfl) rfl (fun q => by exfalso; omega) (fun b2093 => ?_)
    refine w_load (pc' := 18) (v := .int z9) (m := 1) (ykc_208 (e := (2, .iload_n kF1, 0)) rfl) rfl rfl ?_
    refine w_ret (v := (some (.int z9))) (ykc_208 (e := (7, .ireturn, 0)) rfl) (zr_v rfl) ?_
    rw [hQ]
    exact ⟨_, rfl, ez, Or.inl ⟨by omega, zMl_F f1 (by first | exact zqp rfl | simp) (by first | exact zqp rfl | simp) (by first | exact (fun _ => zqr rfl) | simp) (by first | exact ⟨zqm rfl, zqm rfl⟩ | simp) hL, zMp_F f1 (by first | exact zqp rfl | simp) (by first | exact zqp rfl | simp) (by first | exact zqm rfl | simp) hN, zNr_F f1 (by first | exact (fun _ => zqr rfl) | simp) (by first | exact zqm rfl | simp) hv, zMu_F f1 (by first | exact ⟨zqm rfl, zqm rfl⟩ | simp) (by first | exact zqp rfl | simp) (by first | exact (fun _ => zqr rfl) | simp) hU, zMk_F f1 (by first | exact ⟨zqm rfl, zqm rfl, zqm rfl, zqm rfl⟩ | simp) (by first | exact zqp rfl | simp) (by first | exact (fun _ => ⟨zqr rfl, zqr rfl, zqr rfl⟩) | simp) hk, zMh_F f1 (by first | exact zqm rfl | simp) (by first | exact zqp rfl | simp) hh⟩⟩
  · have f1 : zFr [178] [(170, 0), (170, 14), (170, 15), (170, 16), (170, 17), (170, 20)] ph ph2092 := zFr_trans (zFr_mono f0 (by first | exact zqa rfl | simp) (by first | exact zqf rfl | simp)) (zFr_mono fr (by first | exact zqa rfl | simp) (by first | exact zqf rfl | simp))
    have h20 := rl20
    have tk9 := znt (k := k9) (by omega)
    show zW n D 208 Q 12 [some (.ref 170), none, none] [.int z9] ph2092
    refine w_store (pc' := 13) (L' := [some (.ref 170), some (.int z9), none]) (st' := []) (m := 1) (ykc_208 (e := (3, .istore_n kF1, 0)) rfl) rfl rfl ?_
    refine w_load (pc' := 14) (v := .int z9) (m := 1) (ykc_208 (e := (2, .iload_n kF1, 0)) rfl) rfl rfl ?_
    refine w_zge (ykc_208 (e := (4, .ifCond .ge 5, 19)) rfl) rfl (fun b2094 => ?_) (fun q => by exfalso; omega)
    refine w_alu (pc' := 20) (st' := [.int (Int32.ofInt 0)]) (ykc_208 (e := (0, .iconst 0, 0)) rfl) rfl rfl ?_
    refine w_store (pc' := 21) (L' := [some (.ref 170), some (.int z9), some (.int (Int32.ofInt 0))]) (st' := []) (m := 1) (ykc_208 (e := (3, .istore_n kF2, 0)) rfl) rfl rfl ?_
    have hl : ∀ (n : Nat), ∀ (k : Nat) (ph2 : pm_H), (k ≤ k9) → (zFr [174] [(170, 5)] ph2092 ph2) → (zMp ph2 (P + k) G) → (zNr ph2 174 0 (zPv C t P v k)) → zW n D 208 Q 21 [some (.ref 170), some (.int z9), some (.int (zn k))] [] ph2 := by
      intro n
      induction n using Nat.strongRecOn with
      | ind n ih =>
        intro k ph2 hk9 hf hN2 hv2
        have tk := znt (k := k) (by omega)
        have tc9 := znt (k := P + k) (by omega)
        refine w_load (pc' := 22) (v := .int (zn k)) (m := 1) (ykc_208 (e := (2, .iload_n kF2, 0)) rfl) rfl rfl ?_
        refine w_load (pc' := 23) (v := .ref 170) (m := 1) (ykc_208 (e := (2, .aload_n kF0, 0)) rfl) rfl rfl ?_
        refine w_gf (pc' := 26) (v := .int (zn k9)) (ykc_208 (e := (5, .getfield 197, 0)) rfl) rfl ((hf.1 170 20 (by first | exact zqm rfl | decide) (by first | exact zqp rfl | decide)).trans h20) rfl ?_
        refine w_ige (ykc_208 (e := (4, .if_icmp .ge 93, 119)) rfl) rfl (fun b2095 => ?_) (fun b2095 => ?_)
        · refine w_load (pc' := 120) (v := .ref 170) (m := 1) (ykc_208 (e := (2, .aload_n kF0, 0)) rfl) rfl rfl ?_
          have ek : k = k9 := by omega
          subst ek
          have f2 : zFr [174, 178] [(170, 0), (170, 5), (170, 6), (170, 14), (170, 15), (170, 16), (170, 17), (170, 20)] ph ph2 := zFr_trans (zFr_mono f1 (by first | exact zqa rfl | simp) (by first | exact zqf rfl | simp)) (zFr_mono hf (by first | exact zqa rfl | simp) (by first | exact zqf rfl | simp))
          refine w_cv (as := [.ref 170]) (r := []) (ykc_208 (e := (6, .invokevirtual 221, 0)) rfl) rfl rfl rfl rfl (zm_isNew (u := u) (ch := ch) (zSh_F f2 (by decide +kernel) hS) ((hf.1 170 20 (by first | exact zqm rfl | decide) (by first | exact zqp rfl | decide)).trans h20) (by omega) ((f2.1 170 27 (by first | exact zqm rfl | decide) (by first | exact zqp rfl | decide)).trans hU.1) hU.2.1 ((f2.1 170 7 (by first | exact zqm rfl | decide) (by first | exact zqp rfl | decide)).trans hk.1) hch) (fun v2096 ph2097 hv => ?_)
          obtain ⟨rfl, fn, g27, g7⟩ := hv
          show zW n D 208 Q 123 [some (.ref 170), some (.int z9), some (.int (zn k))] [.int (zn k)] ph2097
          refine w_ret (v := (some (.int (zn k)))) (ykc_208 (e := (7, .ireturn, 0)) rfl) (zr_v rfl) ?_
          have f3 : zFr [174, 178] [(170, 0), (170, 5), (170, 6), (170, 7), (170, 14), (170, 15), (170, 16), (170, 17), (170, 20), (170, 27)] ph _ := zFr_trans (zFr_mono f2 (by first | exact zqa rfl | simp) (by first | exact zqf rfl | simp)) (zFr_mono fn (by first | exact zqa rfl | simp) (by first | exact zqf rfl | simp))
          have hL3 := zMl_F f3 (by first | exact zqp rfl | simp) (by first | exact zqp rfl | simp) (by first | exact (fun _ => zqr rfl) | simp) (by first | exact ⟨zqm rfl, zqm rfl⟩ | simp) hL
          have hN3 := zMp_F fn (by first | exact zqp rfl | simp) (by first | exact zqp rfl | simp) (by first | exact zqm rfl | simp) hN2
          have hv3 := zNr_F fn (by first | exact (fun _ => zqr rfl) | simp) (by first | exact zqm rfl | simp) hv2
          have hh3 := zMh_F f3 (by first | exact zqm rfl | simp) (by first | exact zqp rfl | simp) hh
          rw [hQ]
          refine ⟨_, rfl, by omega, ?_⟩
          by_cases e : 0 < k
          · rw [if_pos e] at g27 g7
            refine Or.inr ⟨k, e, by omega, hL3, hN3, hv3, ⟨g27, by decide, fun i hi => absurd hi (Nat.not_lt_zero i)⟩, ⟨g7, by omega, fun i hi => ?_⟩, hh3⟩
            obtain ⟨k1, k2, k3, k4⟩ := hk.2.2 i hi
            exact ⟨(f3.1 198 i (by first | exact zqm rfl | decide) (by first | exact zqp rfl | simp)).trans k1, (f3.1 199 i (by first | exact zqm rfl | decide) (by first | exact zqp rfl | simp)).trans k2, by omega, fun h => zNr_F f3 (by first | exact (fun _ => zqr rfl) | simp) (by first | exact zqm rfl | simp) (k4 h)⟩
          · obtain rfl : k = 0 := by omega
            rw [if_neg e] at g27 g7
            refine Or.inl ⟨by omega, hL3, hN3, hv3, ⟨g27, hU.2.1, zUr_F f3 (by first | exact (fun _ => zqr rfl) | simp) (by first | exact zqm rfl | simp) hU.2.2⟩, ⟨g7, hk.2.1, fun i hi => ?_⟩, hh3⟩
            obtain ⟨k1, k2, k3, k4⟩ := hk.2.2 i hi
            exact ⟨(f3.1 198 i (by first | exact zqm rfl | decide) (by first | exact zqp rfl | simp)).trans k1, (f3.1 199 i (by first | exact zqm rfl | decide) (by first | exact zqp rfl | simp)).trans k2, k3, fun h => zNr_F f3 (by first | exact (fun _ => zqr rfl) | simp) (by first | exact zqm rfl | simp) (k4 h)⟩
        · have hlt : k < k9 := by omega
          refine w_load (pc' := 30) (v := .ref 170) (m := 1) (ykc_208 (e := (2, .aload_n kF0, 0)) rfl) rfl rfl ?_
          refine w_gf (pc' := 33) (v := .ref 174) (ykc_208 (e := (5, .getfield 41, 0)) rfl) rfl ((hf.1 170 11 (by first | exact zqm rfl | decide) (by first | exact zqp rfl | decide)).trans ((f1.1 170 11 (by first | exact zqm rfl | decide) (by first | exact zqp rfl | decide)).trans (zsg hS zs_170_11))) rfl ?_
          refine w_load (pc' := 34) (v := .ref 170) (m := 1) (ykc_208 (e := (2, .aload_n kF0, 0)) rfl) rfl rfl ?_
          refine w_gf (pc' := 37) (v := .int (zn (P + k))) (ykc_208 (e := (5, .getfield 130, 0)) rfl) rfl hN2.1 rfl ?_
          refine w_load (pc' := 38) (v := .ref 170) (m := 1) (ykc_208 (e := (2, .aload_n kF0, 0)) rfl) rfl rfl ?_
          refine w_gf (pc' := 41) (v := .ref 178) (ykc_208 (e := (5, .getfield 53, 0)) rfl) rfl ((hf.1 170 19 (by first | exact zqm rfl | decide) (by first | exact zqp rfl | decide)).trans ((f1.1 170 19 (by first | exact zqm rfl | decide) (by first | exact zqp rfl | decide)).trans (zsg hS zs_170_19))) rfl ?_
          refine w_alu (pc' := 42) (st' := [.int (Int32.ofInt 3), .ref 178, .int (zn (P + k)), .ref 174]) (ykc_208 (e := (0, .iconst 3, 0)) rfl) rfl rfl ?_
          refine w_load (pc' := 43) (v := .int (zn k)) (m := 1) (ykc_208 (e := (2, .iload_n kF2, 0)) rfl) rfl rfl ?_
          have e2098 : (Int32.ofInt 3) * (zn k) = zn (3 * k) := zn_of (by rw [ti_mul (by rw [show (Int32.ofInt 3).toInt = (3 : Int) by omega, show (zn k).toInt = ((k : Nat) : Int) by omega]; omega) (by rw [show (Int32.ofInt 3).toInt = (3 : Int) by omega, show (zn k).toInt = ((k : Nat) : Int) by omega]; omega), show (Int32.ofInt 3).toInt = (3 : Int) by omega, show (zn k).toInt = ((k : Nat) : Int) by omega] <;> omega)
          have te2098 := znt (k := 3 * k) (by omega)
          refine w_alu (pc' := 44) (st' := [.int (zn (3 * k)), .ref 178, .int (zn (P + k)), .ref 174]) (ykc_208 (e := (0, .imul, 0)) rfl) (by rw [← e2098]; rfl) rfl ?_
          refine w_ialk (pc' := 45) (k := 3 * k) (ykc_208 (e := (5, .iaload, 0)) rfl) ((hf.1 178 (3 * k) (by first | exact zqm rfl | decide) (by first | exact zqp rfl | simp)).trans (hgl k hlt).2.1) (by omega) rfl ?_
          refine w_ias (pc' := 46) (k := P + k) (ykc_208 (e := (5, .iastore, 0)) rfl) (by omega) rfl (fun ph2100 u2099 => ?_)
          refine w_load (pc' := 47) (v := .ref 170) (m := 1) (ykc_208 (e := (2, .aload_n kF0, 0)) rfl) rfl rfl ?_
          refine w_gf (pc' := 50) (v := .ref 174) (ykc_208 (e := (5, .getfield 41, 0)) rfl) rfl ((u2099.2.1 170 11 (fun q => absurd q.1 (by first | exact Nat.ne_of_beq_eq_false rfl | decide))).trans ((hf.1 170 11 (by first | exact zqm rfl | decide) (by first | exact zqp rfl | decide)).trans ((f1.1 170 11 (by first | exact zqm rfl | decide) (by first | exact zqp rfl | decide)).trans (zsg hS zs_170_11)))) rfl ?_
          refine w_push (pc' := 52) (v := .int ((Int8.ofInt 8).toInt32)) (m := 2) (ykc_208 (e := (1, .bipush 8, 0)) rfl) rfl rfl ?_
          refine w_load (pc' := 53) (v := .ref 170) (m := 1) (ykc_208 (e := (2, .aload_n kF0, 0)) rfl) rfl rfl ?_
          refine w_gf (pc' := 56) (v := .int (zn (P + k))) (ykc_208 (e := (5, .getfield 130, 0)) rfl) rfl ((u2099.2.1 170 5 (fun q => absurd q.1 (by first | exact Nat.ne_of_beq_eq_false rfl | decide))).trans hN2.1) rfl ?_
          have e2101 : ((Int8.ofInt 8).toInt32) + (zn (P + k)) = zn (8 + (P + k)) := (zaddN (a := 8) (b := P + k) c_3 (znt (by omega)) (by omega)) 
          have te2101 := znt (k := 8 + (P + k)) (by omega)
          refine w_alu (pc' := 57) (st' := [.int (zn (8 + (P + k))), .ref 174]) (ykc_208 (e := (0, .iadd, 0)) rfl) (by rw [← e2101]; rfl) rfl ?_
          refine w_load (pc' := 58) (v := .ref 170) (m := 1) (ykc_208 (e := (2, .aload_n kF0, 0)) rfl) rfl rfl ?_
          refine w_gf (pc' := 61) (v := .ref 178) (ykc_208 (e := (5, .getfield 53, 0)) rfl) rfl ((u2099.2.1 170 19 (fun q => absurd q.1 (by first | exact Nat.ne_of_beq_eq_false rfl | decide))).trans ((hf.1 170 19 (by first | exact zqm rfl | decide) (by first | exact zqp rfl | decide)).trans ((f1.1 170 19 (by first | exact zqm rfl | decide) (by first | exact zqp rfl | decide)).trans (zsg hS zs_170_19)))) rfl ?_
          refine w_alu (pc' := 62) (st' := [.int (Int32.ofInt 3), .ref 178, .int (zn (8 + (P + k))), .ref 174]) (ykc_208 (e := (0, .iconst 3, 0)) rfl) rfl rfl ?_
          refine w_load (pc' := 63) (v := .int (zn k)) (m := 1) (ykc_208 (e := (2, .iload_n kF2, 0)) rfl) rfl rfl ?_
          have e2102 : (Int32.ofInt 3) * (zn k) = zn (3 * k) := zn_of (by rw [ti_mul (by rw [show (Int32.ofInt 3).toInt = (3 : Int) by omega, show (zn k).toInt = ((k : Nat) : Int) by omega]; omega) (by rw [show (Int32.ofInt 3).toInt = (3 : Int) by omega, show (zn k).toInt = ((k : Nat) : Int) by omega]; omega), show (Int32.ofInt 3).toInt = (3 : Int) by omega, show (zn k).toInt = ((k : Nat) : Int) by omega] <;> omega)
          have te2102 := znt (k := 3 * k) (by omega)
          refine w_alu (pc' := 64) (st' := [.int (zn (3 * k)), .ref 178, .int (zn (8 + (P + k))), .ref 174]) (ykc_208 (e := (0, .imul, 0)) rfl) (by rw [← e2102]; rfl) rfl ?_
          refine w_alu (pc' := 65) (st' := [.int (Int32.ofInt 1), .int (zn (3 * k)), .ref 178, .int (zn (8 + (P + k))), .ref 174]) (ykc_208 (e := (0, .iconst 1, 0)) rfl) rfl rfl ?_
          have e2103 : (zn (3 * k)) + (Int32.ofInt 1) = zn (3 * k + 1) := (zaddN (a := 3 * k) (b := 1) (znt (by omega)) c_5 (by omega)) 
          have te2103 := znt (k := 3 * k + 1) (by omega)
          refine w_alu (pc' := 66) (st' := [.int (zn (3 * k + 1)), .ref 178, .int (zn (8 + (P + k))), .ref 174]) (ykc_208 (e := (0, .iadd, 0)) rfl) (by rw [← e2103]; rfl) rfl ?_
          refine w_ialk (pc' := 67) (k := 3 * k + 1) (ykc_208 (e := (5, .iaload, 0)) rfl) ((u2099.2.1 178 (3 * k + 1) (fun q => absurd q.1 (by first | exact Nat.ne_of_beq_eq_false rfl | decide))).trans ((hf.1 178 (3 * k + 1) (by first | exact zqm rfl | decide) (by first | exact zqp rfl | simp)).trans (hgl k hlt).2.2.1)) (by omega) rfl ?_
          refine w_ias (pc' := 68) (k := 8 + (P + k)) (ykc_208 (e := (5, .iastore, 0)) rfl) (by omega) rfl (fun ph2105 u2104 => ?_)
          refine w_load (pc' := 69) (v := .ref 170) (m := 1) (ykc_208 (e := (2, .aload_n kF0, 0)) rfl) rfl rfl ?_
          refine w_gf (pc' := 72) (v := .ref 174) (ykc_208 (e := (5, .getfield 41, 0)) rfl) rfl ((u2104.2.1 170 11 (fun q => absurd q.1 (by first | exact Nat.ne_of_beq_eq_false rfl | decide))).trans ((u2099.2.1 170 11 (fun q => absurd q.1 (by first | exact Nat.ne_of_beq_eq_false rfl | decide))).trans ((hf.1 170 11 (by first | exact zqm rfl | decide) (by first | exact zqp rfl | decide)).trans ((f1.1 170 11 (by first | exact zqm rfl | decide) (by first | exact zqp rfl | decide)).trans (zsg hS zs_170_11))))) rfl ?_
          refine w_push (pc' := 74) (v := .int ((Int8.ofInt 16).toInt32)) (m := 2) (ykc_208 (e := (1, .bipush 16, 0)) rfl) rfl rfl ?_
          refine w_load (pc' := 75) (v := .ref 170) (m := 1) (ykc_208 (e := (2, .aload_n kF0, 0)) rfl) rfl rfl ?_
          refine w_gf (pc' := 78) (v := .int (zn (P + k))) (ykc_208 (e := (5, .getfield 130, 0)) rfl) rfl ((u2104.2.1 170 5 (fun q => absurd q.1 (by first | exact Nat.ne_of_beq_eq_false rfl | decide))).trans ((u2099.2.1 170 5 (fun q => absurd q.1 (by first | exact Nat.ne_of_beq_eq_false rfl | decide))).trans hN2.1)) rfl ?_
          have e2106 : ((Int8.ofInt 16).toInt32) + (zn (P + k)) = zn (16 + (P + k)) := (zaddN (a := 16) (b := P + k) c_0 (znt (by omega)) (by omega)) 
          have te2106 := znt (k := 16 + (P + k)) (by omega)
          refine w_alu (pc' := 79) (st' := [.int (zn (16 + (P + k))), .ref 174]) (ykc_208 (e := (0, .iadd, 0)) rfl) (by rw [← e2106]; rfl) rfl ?_
          refine w_load (pc' := 80) (v := .ref 170) (m := 1) (ykc_208 (e := (2, .aload_n kF0, 0)) rfl) rfl rfl ?_
          refine w_gf (pc' := 83) (v := .ref 178) (ykc_208 (e := (5, .getfield 53, 0)) rfl) rfl ((u2104.2.1 170 19 (fun q => absurd q.1 (by first | exact Nat.ne_of_beq_eq_false rfl | decide))).trans ((u2099.2.1 170 19 (fun q => absurd q.1 (by first | exact Nat.ne_of_beq_eq_false rfl | decide))).trans ((hf.1 170 19 (by first | exact zqm rfl | decide) (by first | exact zqp rfl | decide)).trans ((f1.1 170 19 (by first | exact zqm rfl | decide) (by first | exact zqp rfl | decide)).trans (zsg hS zs_170_19))))) rfl ?_
          refine w_alu (pc' := 84) (st' := [.int (Int32.ofInt 3), .ref 178, .int (zn (16 + (P + k))), .ref 174]) (ykc_208 (e := (0, .iconst 3, 0)) rfl) rfl rfl ?_
          refine w_load (pc' := 85) (v := .int (zn k)) (m := 1) (ykc_208 (e := (2, .iload_n kF2, 0)) rfl) rfl rfl ?_
          have e2107 : (Int32.ofInt 3) * (zn k) = zn (3 * k) := zn_of (by rw [ti_mul (by rw [show (Int32.ofInt 3).toInt = (3 : Int) by omega, show (zn k).toInt = ((k : Nat) : Int) by omega]; omega) (by rw [show (Int32.ofInt 3).toInt = (3 : Int) by omega, show (zn k).toInt = ((k : Nat) : Int) by omega]; omega), show (Int32.ofInt 3).toInt = (3 : Int) by omega, show (zn k).toInt = ((k : Nat) : Int) by omega] <;> omega)
          have te2107 := znt (k := 3 * k) (by omega)
          refine w_alu (pc' := 86) (st' := [.int (zn (3 * k)), .ref 178, .int (zn (16 + (P + k))), .ref 174]) (ykc_208 (e := (0, .imul, 0)) rfl) (by rw [← e2107]; rfl) rfl ?_
          refine w_alu (pc' := 87) (st' := [.int (Int32.ofInt 2), .int (zn (3 * k)), .ref 178, .int (zn (16 + (P + k))), .ref 174]) (ykc_208 (e := (0, .iconst 2, 0)) rfl) rfl rfl ?_
          have e2108 : (zn (3 * k)) + (Int32.ofInt 2) = zn (3 * k + 2) := (zaddN (a := 3 * k) (b := 2) (znt (by omega)) c_6 (by omega)) 
          have te2108 := znt (k := 3 * k + 2) (by omega)
          refine w_alu (pc' := 88) (st' := [.int (zn (3 * k + 2)), .ref 178, .int (zn (16 + (P + k))), .ref 174]) (ykc_208 (e := (0, .iadd, 0)) rfl) (by rw [← e2108]; rfl) rfl ?_
          refine w_ialk (pc' := 89) (k := 3 * k + 2) (ykc_208 (e := (5, .iaload, 0)) rfl) ((u2104.2.1 178 (3 * k + 2) (fun q => absurd q.1 (by first | exact Nat.ne_of_beq_eq_false rfl | decide))).trans ((u2099.2.1 178 (3 * k + 2) (fun q => absurd q.1 (by first | exact Nat.ne_of_beq_eq_false rfl | decide))).trans ((hf.1 178 (3 * k + 2) (by first | exact zqm rfl | decide) (by first | exact zqp rfl | simp)).trans (hgl k hlt).2.2.2))) (by omega) rfl ?_
          refine w_ias (pc' := 90) (k := 16 + (P + k)) (ykc_208 (e := (5, .iastore, 0)) rfl) (by omega) rfl (fun ph2110 u2109 => ?_)
          refine w_load (pc' := 91) (v := .ref 170) (m := 1) (ykc_208 (e := (2, .aload_n kF0, 0)) rfl) rfl rfl ?_
          refine w_gf (pc' := 94) (v := .ref 174) (ykc_208 (e := (5, .getfield 41, 0)) rfl) rfl ((u2109.2.1 170 11 (fun q => absurd q.1 (by first | exact Nat.ne_of_beq_eq_false rfl | decide))).trans ((u2104.2.1 170 11 (fun q => absurd q.1 (by first | exact Nat.ne_of_beq_eq_false rfl | decide))).trans ((u2099.2.1 170 11 (fun q => absurd q.1 (by first | exact Nat.ne_of_beq_eq_false rfl | decide))).trans ((hf.1 170 11 (by first | exact zqm rfl | decide) (by first | exact zqp rfl | decide)).trans ((f1.1 170 11 (by first | exact zqm rfl | decide) (by first | exact zqp rfl | decide)).trans (zsg hS zs_170_11)))))) rfl ?_
          refine w_push (pc' := 96) (v := .int ((Int8.ofInt 24).toInt32)) (m := 2) (ykc_208 (e := (1, .bipush 24, 0)) rfl) rfl rfl ?_
          refine w_load (pc' := 97) (v := .ref 170) (m := 1) (ykc_208 (e := (2, .aload_n kF0, 0)) rfl) rfl rfl ?_
          refine w_gf (pc' := 100) (v := .int (zn (P + k))) (ykc_208 (e := (5, .getfield 130, 0)) rfl) rfl ((u2109.2.1 170 5 (fun q => absurd q.1 (by first | exact Nat.ne_of_beq_eq_false rfl | decide))).trans ((u2104.2.1 170 5 (fun q => absurd q.1 (by first | exact Nat.ne_of_beq_eq_false rfl | decide))).trans ((u2099.2.1 170 5 (fun q => absurd q.1 (by first | exact Nat.ne_of_beq_eq_false rfl | decide))).trans hN2.1))) rfl ?_
          have e2111 : ((Int8.ofInt 24).toInt32) + (zn (P + k)) = zn (24 + (P + k)) := (zaddN (a := 24) (b := P + k) c_1 (znt (by omega)) (by omega)) 
          have te2111 := znt (k := 24 + (P + k)) (by omega)
          refine w_alu (pc' := 101) (st' := [.int (zn (24 + (P + k))), .ref 174]) (ykc_208 (e := (0, .iadd, 0)) rfl) (by rw [← e2111]; rfl) rfl ?_
          refine w_alu (pc' := 102) (st' := [.int (Int32.ofInt 0), .int (zn (24 + (P + k))), .ref 174]) (ykc_208 (e := (0, .iconst 0, 0)) rfl) rfl rfl ?_
          refine w_ias (pc' := 103) (k := 24 + (P + k)) (ykc_208 (e := (5, .iastore, 0)) rfl) (by omega) rfl (fun ph2113 u2112 => ?_)
          refine w_load (pc' := 104) (v := .ref 170) (m := 1) (ykc_208 (e := (2, .aload_n kF0, 0)) rfl) rfl rfl ?_
          refine w_alu (pc' := 105) (st' := [.ref 170, .ref 170]) (ykc_208 (e := (0, .dup, 0)) rfl) rfl rfl ?_
          refine w_gf (pc' := 108) (v := .int (zn (P + k))) (ykc_208 (e := (5, .getfield 130, 0)) rfl) rfl ((u2112.2.1 170 5 (fun q => absurd q.1 (by first | exact Nat.ne_of_beq_eq_false rfl | decide))).trans ((u2109.2.1 170 5 (fun q => absurd q.1 (by first | exact Nat.ne_of_beq_eq_false rfl | decide))).trans ((u2104.2.1 170 5 (fun q => absurd q.1 (by first | exact Nat.ne_of_beq_eq_false rfl | decide))).trans ((u2099.2.1 170 5 (fun q => absurd q.1 (by first | exact Nat.ne_of_beq_eq_false rfl | decide))).trans hN2.1)))) rfl ?_
          refine w_alu (pc' := 109) (st' := [.int (Int32.ofInt 1), .int (zn (P + k)), .ref 170]) (ykc_208 (e := (0, .iconst 1, 0)) rfl) rfl rfl ?_
          have e2114 : (zn (P + k)) + (Int32.ofInt 1) = zn (P + k + 1) := (zaddN (a := P + k) (b := 1) (znt (by omega)) c_5 (by omega)) 
          have te2114 := znt (k := P + k + 1) (by omega)
          refine w_alu (pc' := 110) (st' := [.int (zn (P + k + 1)), .ref 170]) (ykc_208 (e := (0, .iadd, 0)) rfl) (by rw [← e2114]; rfl) rfl ?_
          refine w_pf (pc' := 113) (ykc_208 (e := (5, .putfield 130, 0)) rfl) rfl rfl (fun ph2116 u2115 => ?_)
          have e2117 : (zn k) + Int32.ofInt 1 = zn (k + 1) := (zaddN (a := k) (b := 1) (znt (by omega)) c_5 (by omega))
          have te2117 := znt (k := k + 1) (by omega)
          refine w_store (pc' := 116) (L' := [some (.ref 170), some (.int z9), some (.int (zn (k + 1)))]) (st' := []) (m := 3) (ykc_208 (e := (3, .iinc 2 1, 0)) rfl) (by rw [← e2117]; rfl) rfl ?_
          refine w_gb (ykc_208 (e := (4, .goto (-95), 21)) rfl) (fun k2118 hk2118 => ?_)
          have hv3 := zNr_ad u2099 u2104 u2109 u2112 hv2
          exact ih k2118 hk2118 (k + 1) _ (by omega) (zFr_add (zFr_add (zFr_add (zFr_add (zFr_add hf u2099 (Or.inl (by first | exact zqi rfl | simp))) u2104 (Or.inl (by first | exact zqi rfl | simp))) u2109 (Or.inl (by first | exact zqi rfl | simp))) u2112 (Or.inl (by first | exact zqi rfl | simp))) u2115 (Or.inr (by first | exact zqj rfl | simp))) ⟨u2115.1, by omega, ((u2115.2.1 170 6 (fun q => absurd q.2 (by first | exact Nat.ne_of_beq_eq_false rfl | decide))).trans ((u2112.2.1 170 6 (fun q => absurd q.1 (by first | exact Nat.ne_of_beq_eq_false rfl | decide))).trans ((u2109.2.1 170 6 (fun q => absurd q.1 (by first | exact Nat.ne_of_beq_eq_false rfl | decide))).trans ((u2104.2.1 170 6 (fun q => absurd q.1 (by first | exact Nat.ne_of_beq_eq_false rfl | decide))).trans ((u2099.2.1 170 6 (fun q => absurd q.1 (by first | exact Nat.ne_of_beq_eq_false rfl | decide))).trans hN2.2.2.1))))), hG8⟩ (zNr_F (zFr_st u2115 (Or.inr (by first | exact zqj rfl | simp)) : zFr [] [(170, 5)] _ _) (by first | exact (fun _ => zqr rfl) | simp) (by first | exact zqm rfl | simp) hv3)
    exact hl n 0 ph2092 (Nat.zero_le _) zFr_refl (zMp_F f1 (by first | exact zqp rfl | simp) (by first | exact zqp rfl | simp) (by first | exact zqm rfl | simp) hN) (zNr_F f1 (by first | exact (fun _ => zqr rfl) | simp) (by first | exact zqm rfl | simp) hv)
  
theorem zm_things {ph : pm_H} {ln : Nat} {t : Nat → Nat} {R C P G u ch hn : Nat} {rk : Nat → Bool} {v : Nat → Nat} {w : Nat → Nat → Nat} {kp : Nat → Bool} {kc : Nat → Nat} {sv : Nat → Nat → Nat} (hS : zSh ph) (hn14 : zc ph 170 14 = some (.int (zn ln))) (hn80 : ln ≤ 80) (gtm : ∀ i, i < ln → zc ph 176 i = some (.int (zn (t i))) ∧ t i < 256) (hK : zKM ph R C rk P G v u w ch kp kc sv hn) (hch : ch < 1000) : zM 209 [.ref 170] ph (fun v0 q => ∃ z : Int32, v0 = some (.int z) ∧ z.toInt = zLa R C rk 2 3 ln t (8 - G) ∧ ((zLa R C rk 2 3 ln t (8 - G) ≤ 0 ∧ zKM q R C rk P G v u w ch kp kc sv hn) ∨ (∃ k : Nat, 0 < k ∧ (k : Int) = zLa R C rk 2 3 ln t (8 - G) ∧ zKM q R C rk P (G + k) (zGv C t G v k) 0 w (ch + 1) kp kc sv hn))) := by
  obtain ⟨Q, hQ⟩ : ∃ Q : Option Value → pm_H → Prop, Q = (fun v0 q => ∃ z : Int32, v0 = some (.int z) ∧ z.toInt = zLa R C rk 2 3 ln t (8 - G) ∧ ((zLa R C rk 2 3 ln t (8 - G) ≤ 0 ∧ zKM q R C rk P G v u w ch kp kc sv hn) ∨ (∃ k : Nat, 0 < k ∧ (k : Int) = zLa R C rk 2 3 ln t (8 - G) ∧ zKM q R C rk P (G + k) (zGv C t G v k) 0 w (ch + 1) kp kc sv hn))) := ⟨_, rfl⟩
  rw [← hQ]
  refine zM_mk fun n D => ?_
  show zW n D 209 Q 0 [some (.ref 170), none, none] [] ph
  have c_0 : ((Int8.ofInt 23).toInt32).toInt = 23 := by decide +kernel
  have c_1 : ((Int8.ofInt 32).toInt32).toInt = 32 := by decide +kernel
  have c_2 : (Int32.ofInt 0).toInt = 0 := by decide +kernel
  have c_3 : (Int32.ofInt 1).toInt = 1 := by decide +kernel
  obtain ⟨hL, hN, hv, hU, hk, hh⟩ := hK
  obtain ⟨gP, hP8, gG, hG8⟩ := id hN
  have tP := znt (k := P) (by omega)
  have tG := znt (k := G) (by omega)
  have hR37 : 3 ≤ R ∧ R ≤ 7 := ⟨hL.2.2.2.1, hL.2.2.2.2.1⟩
  have hC37 : 3 ≤ C ∧ C ≤ 7 := hL.2.2.2.2.2
  have hRC49 : R * C ≤ 49 := zRC49 hR37.2 hC37.2
  have hr := @zLa_r R C 2 3 ln (8 - G) rk t (by omega)
  refine w_load (pc' := 1) (v := .ref 170) (m := 1) (ykc_209 (e := (2, .aload_n kF0, 0)) rfl) rfl rfl ?_
  refine w_alu (pc' := 2) (st' := [.int (Int32.ofInt 0), .ref 170]) (ykc_209 (e := (0, .iconst 0, 0)) rfl) rfl rfl ?_
  refine w_pf (pc' := 5) (ykc_209 (e := (5, .putfield 3, 0)) rfl) rfl rfl (fun ph2120 u2119 => ?_)
  refine w_load (pc' := 6) (v := .ref 170) (m := 1) (ykc_209 (e := (2, .aload_n kF0, 0)) rfl) rfl rfl ?_
  refine w_alu (pc' := 7) (st' := [.int (Int32.ofInt 0), .ref 170]) (ykc_209 (e := (0, .iconst 0, 0)) rfl) rfl rfl ?_
  refine w_push (pc' := 9) (v := .int ((Int8.ofInt 23).toInt32)) (m := 2) (ykc_209 (e := (1, .bipush 23, 0)) rfl) rfl rfl ?_
  have f0 : zFr [] [(170, 0)] ph ph2120 := zFr_st u2119 (Or.inr (by first | exact zqj rfl | simp))
  refine w_cv (as := [.ref 170, .int (Int32.ofInt 0), .int ((Int8.ofInt 23).toInt32)]) (r := []) (ykc_209 (e := (6, .invokevirtual 217, 0)) rfl) rfl rfl rfl rfl (zm_rlines2 (ln := ln) (t := t) (N := G) (zSh_F f0 (by decide +kernel) hS) (zMl_F f0 (by first | exact zqp rfl | simp) (by first | exact zqp rfl | simp) (by first | exact (fun _ => zqr rfl) | simp) (by first | exact ⟨zqm rfl, zqm rfl⟩ | simp) hL) ((f0.1 170 14 (by first | exact zqm rfl | decide) (by first | exact zqp rfl | decide)).trans hn14) hn80 (fun i hi => ⟨(f0.1 176 i (by first | exact zqm rfl | decide) (by first | exact zqp rfl | simp)).trans (gtm i hi).1, (gtm i hi).2⟩) ((f0.1 170 6 (by first | exact zqm rfl | decide) (by first | exact zqp rfl | decide)).trans gG) (by omega) (by omega)) (fun v2121 ph2122 hv => ?_)
  rcases hv with ⟨fr, z9, rfl, ⟨hneg, ez⟩ | ⟨hpos, ez, k9, ek9, rl20, hgl⟩⟩
  · have f1 : zFr [178] [(170, 0), (170, 14), (170, 15), (170, 16), (170, 17), (170, 20)] ph ph2122 := zFr_trans (zFr_mono f0 (by first | exact zqa rfl | simp) (by first | exact zqf rfl | simp)) (zFr_mono fr (by first | exact zqa rfl | simp) (by first | exact zqf rfl | simp))
    show zW n D 209 Q 12 [some (.ref 170), none, none] [.int z9] ph2122
    refine w_store (pc' := 13) (L' := [some (.ref 170), some (.int z9), none]) (st' := []) (m := 1) (ykc_209 (e := (3, .istore_n kF1, 0)) rfl) rfl rfl ?_
    refine w_load (pc' := 14) (v := .int z9) (m := 1) (ykc_209 (e := (2, .iload_n kF1, 0)) rfl) rfl rfl ?_
    refine w_zge (ykc_209 (e := (4, .ifCond .ge 5, 19)) rfl) rfl (fun q => by exfalso; omega) (fun b2123 => ?_)
    refine w_load (pc' := 18) (v := .int z9) (m := 1) (ykc_209 (e := (2, .iload_n kF1, 0)) rfl) rfl rfl ?_
    refine w_ret (v := (some (.int z9))) (ykc_209 (e := (7, .ireturn, 0)) rfl) (zr_v rfl) ?_
    rw [hQ]
    exact ⟨_, rfl, ez, Or.inl ⟨by omega, zMl_F f1 (by first | exact zqp rfl | simp) (by first | exact zqp rfl | simp) (by first | exact (fun _ => zqr rfl) | simp) (by first | exact ⟨zqm rfl, zqm rfl⟩ | simp) hL, zMp_F f1 (by first | exact zqp rfl | simp) (by first | exact zqp rfl | simp) (by first | exact zqm rfl | simp) hN, zNr_F f1 (by first | exact (fun _ => zqr rfl) | simp) (by first | exact zqm rfl | simp) hv, zMu_F f1 (by first | exact ⟨zqm rfl, zqm rfl⟩ | simp) (by first | exact zqp rfl | simp) (by first | exact (fun _ => zqr rfl) | simp) hU, zMk_F f1 (by first | exact ⟨zqm rfl, zqm rfl, zqm rfl, zqm rfl⟩ | simp) (by first | exact zqp rfl | simp) (by first | exact (fun _ => ⟨zqr rfl, zqr rfl, zqr rfl⟩) | simp) hk, zMh_F f1 (by first | exact zqm rfl | simp) (by first | exact zqp rfl | simp) hh⟩⟩
  · have f1 : zFr [178] [(170, 0), (170, 14), (170, 15), (170, 16), (170, 17), (170, 20)] ph ph2122 := zFr_trans (zFr_mono f0 (by first | exact zqa rfl | simp) (by first | exact zqf rfl | simp)) (zFr_mono fr (by first | exact zqa rfl | simp) (by first | exact zqf rfl | simp))
    have h20 := rl20
    have tk9 := znt (k := k9) (by omega)
    show zW n D 209 Q 12 [some (.ref 170), none, none] [.int z9] ph2122
    refine w_store (pc' := 13) (L' := [some (.ref 170), some (.int z9), none]) (st' := []) (m := 1) (ykc_209 (e := (3, .istore_n kF1, 0)) rfl) rfl rfl ?_
    refine w_load (pc' := 14) (v := .int z9) (m := 1) (ykc_209 (e := (2, .iload_n kF1, 0)) rfl) rfl rfl ?_
    refine w_zge (ykc_209 (e := (4, .ifCond .ge 5, 19)) rfl) rfl (fun b2124 => ?_) (fun q => by exfalso; omega)
    refine w_alu (pc' := 20) (st' := [.int (Int32.ofInt 0)]) (ykc_209 (e := (0, .iconst 0, 0)) rfl) rfl rfl ?_
    refine w_store (pc' := 21) (L' := [some (.ref 170), some (.int z9), some (.int (Int32.ofInt 0))]) (st' := []) (m := 1) (ykc_209 (e := (3, .istore_n kF2, 0)) rfl) rfl rfl ?_
    have hl : ∀ (n : Nat), ∀ (k : Nat) (ph2 : pm_H), (k ≤ k9) → (zFr [174] [(170, 6)] ph2122 ph2) → (zMp ph2 P (G + k)) → (zNr ph2 174 0 (zGv C t G v k)) → zW n D 209 Q 21 [some (.ref 170), some (.int z9), some (.int (zn k))] [] ph2 := by
      intro n
      induction n using Nat.strongRecOn with
      | ind n ih =>
        intro k ph2 hk9 hf hN2 hv2
        have tk := znt (k := k) (by omega)
        have tc9 := znt (k := G + k) (by omega)
        refine w_load (pc' := 22) (v := .int (zn k)) (m := 1) (ykc_209 (e := (2, .iload_n kF2, 0)) rfl) rfl rfl ?_
        refine w_load (pc' := 23) (v := .ref 170) (m := 1) (ykc_209 (e := (2, .aload_n kF0, 0)) rfl) rfl rfl ?_
        refine w_gf (pc' := 26) (v := .int (zn k9)) (ykc_209 (e := (5, .getfield 197, 0)) rfl) rfl ((hf.1 170 20 (by first | exact zqm rfl | decide) (by first | exact zqp rfl | decide)).trans h20) rfl ?_
        refine w_ige (ykc_209 (e := (4, .if_icmp .ge 37, 63)) rfl) rfl (fun b2125 => ?_) (fun b2125 => ?_)
        · refine w_load (pc' := 64) (v := .ref 170) (m := 1) (ykc_209 (e := (2, .aload_n kF0, 0)) rfl) rfl rfl ?_
          have ek : k = k9 := by omega
          subst ek
          have f2 : zFr [174, 178] [(170, 0), (170, 5), (170, 6), (170, 14), (170, 15), (170, 16), (170, 17), (170, 20)] ph ph2 := zFr_trans (zFr_mono f1 (by first | exact zqa rfl | simp) (by first | exact zqf rfl | simp)) (zFr_mono hf (by first | exact zqa rfl | simp) (by first | exact zqf rfl | simp))
          refine w_cv (as := [.ref 170]) (r := []) (ykc_209 (e := (6, .invokevirtual 221, 0)) rfl) rfl rfl rfl rfl (zm_isNew (u := u) (ch := ch) (zSh_F f2 (by decide +kernel) hS) ((hf.1 170 20 (by first | exact zqm rfl | decide) (by first | exact zqp rfl | decide)).trans h20) (by omega) ((f2.1 170 27 (by first | exact zqm rfl | decide) (by first | exact zqp rfl | decide)).trans hU.1) hU.2.1 ((f2.1 170 7 (by first | exact zqm rfl | decide) (by first | exact zqp rfl | decide)).trans hk.1) hch) (fun v2126 ph2127 hv => ?_)
          obtain ⟨rfl, fn, g27, g7⟩ := hv
          show zW n D 209 Q 67 [some (.ref 170), some (.int z9), some (.int (zn k))] [.int (zn k)] ph2127
          refine w_ret (v := (some (.int (zn k)))) (ykc_209 (e := (7, .ireturn, 0)) rfl) (zr_v rfl) ?_
          have f3 : zFr [174, 178] [(170, 0), (170, 5), (170, 6), (170, 7), (170, 14), (170, 15), (170, 16), (170, 17), (170, 20), (170, 27)] ph _ := zFr_trans (zFr_mono f2 (by first | exact zqa rfl | simp) (by first | exact zqf rfl | simp)) (zFr_mono fn (by first | exact zqa rfl | simp) (by first | exact zqf rfl | simp))
          have hL3 := zMl_F f3 (by first | exact zqp rfl | simp) (by first | exact zqp rfl | simp) (by first | exact (fun _ => zqr rfl) | simp) (by first | exact ⟨zqm rfl, zqm rfl⟩ | simp) hL
          have hN3 := zMp_F fn (by first | exact zqp rfl | simp) (by first | exact zqp rfl | simp) (by first | exact zqm rfl | simp) hN2
          have hv3 := zNr_F fn (by first | exact (fun _ => zqr rfl) | simp) (by first | exact zqm rfl | simp) hv2
          have hh3 := zMh_F f3 (by first | exact zqm rfl | simp) (by first | exact zqp rfl | simp) hh
          rw [hQ]
          refine ⟨_, rfl, by omega, ?_⟩
          by_cases e : 0 < k
          · rw [if_pos e] at g27 g7
            refine Or.inr ⟨k, e, by omega, hL3, hN3, hv3, ⟨g27, by decide, fun i hi => absurd hi (Nat.not_lt_zero i)⟩, ⟨g7, by omega, fun i hi => ?_⟩, hh3⟩
            obtain ⟨k1, k2, k3, k4⟩ := hk.2.2 i hi
            exact ⟨(f3.1 198 i (by first | exact zqm rfl | decide) (by first | exact zqp rfl | simp)).trans k1, (f3.1 199 i (by first | exact zqm rfl | decide) (by first | exact zqp rfl | simp)).trans k2, by omega, fun h => zNr_F f3 (by first | exact (fun _ => zqr rfl) | simp) (by first | exact zqm rfl | simp) (k4 h)⟩
          · obtain rfl : k = 0 := by omega
            rw [if_neg e] at g27 g7
            refine Or.inl ⟨by omega, hL3, hN3, hv3, ⟨g27, hU.2.1, zUr_F f3 (by first | exact (fun _ => zqr rfl) | simp) (by first | exact zqm rfl | simp) hU.2.2⟩, ⟨g7, hk.2.1, fun i hi => ?_⟩, hh3⟩
            obtain ⟨k1, k2, k3, k4⟩ := hk.2.2 i hi
            exact ⟨(f3.1 198 i (by first | exact zqm rfl | decide) (by first | exact zqp rfl | simp)).trans k1, (f3.1 199 i (by first | exact zqm rfl | decide) (by first | exact zqp rfl | simp)).trans k2, k3, fun h => zNr_F f3 (by first | exact (fun _ => zqr rfl) | simp) (by first | exact zqm rfl | simp) (k4 h)⟩
        · have hlt : k < k9 := by omega
          refine w_load (pc' := 30) (v := .ref 170) (m := 1) (ykc_209 (e := (2, .aload_n kF0, 0)) rfl) rfl rfl ?_
          refine w_gf (pc' := 33) (v := .ref 174) (ykc_209 (e := (5, .getfield 41, 0)) rfl) rfl ((hf.1 170 11 (by first | exact zqm rfl | decide) (by first | exact zqp rfl | decide)).trans ((f1.1 170 11 (by first | exact zqm rfl | decide) (by first | exact zqp rfl | decide)).trans (zsg hS zs_170_11))) rfl ?_
          refine w_push (pc' := 35) (v := .int ((Int8.ofInt 32).toInt32)) (m := 2) (ykc_209 (e := (1, .bipush 32, 0)) rfl) rfl rfl ?_
          refine w_load (pc' := 36) (v := .ref 170) (m := 1) (ykc_209 (e := (2, .aload_n kF0, 0)) rfl) rfl rfl ?_
          refine w_gf (pc' := 39) (v := .int (zn (G + k))) (ykc_209 (e := (5, .getfield 133, 0)) rfl) rfl hN2.2.2.1 rfl ?_
          have e2128 : ((Int8.ofInt 32).toInt32) + (zn (G + k)) = zn (32 + (G + k)) := (zaddN (a := 32) (b := G + k) c_1 (znt (by omega)) (by omega)) 
          have te2128 := znt (k := 32 + (G + k)) (by omega)
          refine w_alu (pc' := 40) (st' := [.int (zn (32 + (G + k))), .ref 174]) (ykc_209 (e := (0, .iadd, 0)) rfl) (by rw [← e2128]; rfl) rfl ?_
          refine w_load (pc' := 41) (v := .ref 170) (m := 1) (ykc_209 (e := (2, .aload_n kF0, 0)) rfl) rfl rfl ?_
          refine w_gf (pc' := 44) (v := .ref 178) (ykc_209 (e := (5, .getfield 53, 0)) rfl) rfl ((hf.1 170 19 (by first | exact zqm rfl | decide) (by first | exact zqp rfl | decide)).trans ((f1.1 170 19 (by first | exact zqm rfl | decide) (by first | exact zqp rfl | decide)).trans (zsg hS zs_170_19))) rfl ?_
          refine w_load (pc' := 45) (v := .int (zn k)) (m := 1) (ykc_209 (e := (2, .iload_n kF2, 0)) rfl) rfl rfl ?_
          refine w_ialk (pc' := 46) (k := k) (ykc_209 (e := (5, .iaload, 0)) rfl) ((hf.1 178 k (by first | exact zqm rfl | decide) (by first | exact zqp rfl | simp)).trans (hgl k hlt).2) (by omega) rfl ?_
          refine w_ias (pc' := 47) (k := 32 + (G + k)) (ykc_209 (e := (5, .iastore, 0)) rfl) (by omega) rfl (fun ph2130 u2129 => ?_)
          refine w_load (pc' := 48) (v := .ref 170) (m := 1) (ykc_209 (e := (2, .aload_n kF0, 0)) rfl) rfl rfl ?_
          refine w_alu (pc' := 49) (st' := [.ref 170, .ref 170]) (ykc_209 (e := (0, .dup, 0)) rfl) rfl rfl ?_
          refine w_gf (pc' := 52) (v := .int (zn (G + k))) (ykc_209 (e := (5, .getfield 133, 0)) rfl) rfl ((u2129.2.1 170 6 (fun q => absurd q.1 (by first | exact Nat.ne_of_beq_eq_false rfl | decide))).trans hN2.2.2.1) rfl ?_
          refine w_alu (pc' := 53) (st' := [.int (Int32.ofInt 1), .int (zn (G + k)), .ref 170]) (ykc_209 (e := (0, .iconst 1, 0)) rfl) rfl rfl ?_
          have e2131 : (zn (G + k)) + (Int32.ofInt 1) = zn (G + k + 1) := (zaddN (a := G + k) (b := 1) (znt (by omega)) c_3 (by omega)) 
          have te2131 := znt (k := G + k + 1) (by omega)
          refine w_alu (pc' := 54) (st' := [.int (zn (G + k + 1)), .ref 170]) (ykc_209 (e := (0, .iadd, 0)) rfl) (by rw [← e2131]; rfl) rfl ?_
          refine w_pf (pc' := 57) (ykc_209 (e := (5, .putfield 133, 0)) rfl) rfl rfl (fun ph2133 u2132 => ?_)
          have e2134 : (zn k) + Int32.ofInt 1 = zn (k + 1) := (zaddN (a := k) (b := 1) (znt (by omega)) c_3 (by omega))
          have te2134 := znt (k := k + 1) (by omega)
          refine w_store (pc' := 60) (L' := [some (.ref 170), some (.int z9), some (.int (zn (k + 1)))]) (st' := []) (m := 3) (ykc_209 (e := (3, .iinc 2 1, 0)) rfl) (by rw [← e2134]; rfl) rfl ?_
          refine w_gb (ykc_209 (e := (4, .goto (-39), 21)) rfl) (fun k2135 hk2135 => ?_)
          have hv3 := zNr_u u2129 hv2
          exact ih k2135 hk2135 (k + 1) _ (by omega) (zFr_add (zFr_add hf u2129 (Or.inl (by first | exact zqi rfl | simp))) u2132 (Or.inr (by first | exact zqj rfl | simp))) ⟨((u2132.2.1 170 5 (fun q => absurd q.2 (by first | exact Nat.ne_of_beq_eq_false rfl | decide))).trans ((u2129.2.1 170 5 (fun q => absurd q.1 (by first | exact Nat.ne_of_beq_eq_false rfl | decide))).trans hN2.1)), hP8, u2132.1, by omega⟩ (zNr_F (zFr_st u2132 (Or.inr (by first | exact zqj rfl | simp)) : zFr [] [(170, 6)] _ _) (by first | exact (fun _ => zqr rfl) | simp) (by first | exact zqm rfl | simp) hv3)
    exact hl n 0 ph2122 (Nat.zero_le _) zFr_refl (zMp_F f1 (by first | exact zqp rfl | simp) (by first | exact zqp rfl | simp) (by first | exact zqm rfl | simp) hN) (zNr_F f1 (by first | exact (fun _ => zqr rfl) | simp) (by first | exact zqm rfl | simp) hv)
  
