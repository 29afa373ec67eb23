/-! people and things of the reference, by W; printed by wip/z/z1f_mpeople.py -/
theorem zm_rfield {ph : pm_H} {R C a b ln : Nat} {rk : Nat → Bool} {t : Nat → Nat} (hS : zSh ph) (hL : zMl ph R C rk) (hT : zTm ph a b ln t) : zM 203 [.ref 170] ph (fun v0 q => zFr [] [(170, 15)] ph q ∧ ((zLd b t R a = true ∧ zLd b t C (a + 1) = true ∧ v0 = some (.int (zn (zLf C t a))) ∧ zTm q (a + 2) b ln t) ∨ (zLd b t R a = true ∧ zLd b t C (a + 1) = false ∧ v0 = some (.int (Int32.ofInt (-1))) ∧ zTm q (a + 1) b ln t) ∨ (zLd b t R a = false ∧ v0 = some (.int (Int32.ofInt (-1))) ∧ zTm q a b ln t))) := by
  obtain ⟨Q, hQ⟩ : ∃ Q : Option Value → pm_H → Prop, Q = (fun v0 q => zFr [] [(170, 15)] ph q ∧ ((zLd b t R a = true ∧ zLd b t C (a + 1) = true ∧ v0 = some (.int (zn (zLf C t a))) ∧ zTm q (a + 2) b ln t) ∨ (zLd b t R a = true ∧ zLd b t C (a + 1) = false ∧ v0 = some (.int (Int32.ofInt (-1))) ∧ zTm q (a + 1) b ln t) ∨ (zLd b t R a = false ∧ v0 = some (.int (Int32.ofInt (-1))) ∧ zTm q a b ln t))) := ⟨_, rfl⟩
  rw [← hQ]
  refine zM_mk fun n D => ?_
  show zW n D 203 Q 0 [some (.ref 170), none, none] [] ph
  have c_0 : (Int32.ofInt (-1)).toInt = -1 := by decide
  have c_1 : (Int32.ofInt 0).toInt = 0 := by decide
  have c_2 : (Int32.ofInt 1).toInt = 1 := by decide
  have hab := hT.2.2.1
  have hbln := hT.2.2.2.1
  have hb80 : b ≤ 80 := Nat.le_trans hT.2.2.2.1 hT.2.2.2.2.1
  obtain ⟨gR, gC, gK, hR3, hR7, hC3, hC7⟩ := hL
  have tR := znt (k := R) (by omega)
  have tC := znt (k := C) (by omega)
  refine w_load (pc' := 1) (v := .ref 170) (m := 1) (ykc_203 (e := (2, .aload_n kF0, 0)) rfl) rfl rfl ?_
  refine w_alu (pc' := 2) (st' := [.int (Int32.ofInt 0), .ref 170]) (ykc_203 (e := (0, .iconst 0, 0)) rfl) rfl rfl ?_
  refine w_load (pc' := 3) (v := .ref 170) (m := 1) (ykc_203 (e := (2, .aload_n kF0, 0)) rfl) rfl rfl ?_
  refine w_gf (pc' := 6) (v := .int (zn R)) (ykc_203 (e := (5, .getfield 24, 0)) rfl) rfl gR rfl ?_
  refine w_alu (pc' := 7) (st' := [.int (Int32.ofInt 1), .int (zn R), .int (Int32.ofInt 0), .ref 170]) (ykc_203 (e := (0, .iconst 1, 0)) rfl) rfl rfl ?_
  have e1871 : (zn R) - (Int32.ofInt 1) = zn (R - 1) := zsubN (a := R) (b := 1) tR c_2 (by omega)
  have te1871 := znt (k := R - 1) (by omega)
  refine w_alu (pc' := 8) (st' := [.int (zn (R - 1)), .int (Int32.ofInt 0), .ref 170]) (ykc_203 (e := (0, .isub, 0)) rfl) (by show some ([.int ((zn R) - (Int32.ofInt 1)), .int (Int32.ofInt 0), .ref 170] : List Value) = _; rw [e1871]) rfl ?_
  refine w_cv (as := [.ref 170, .int (Int32.ofInt 0), .int (zn (R - 1))]) (r := []) (ykc_203 (e := (6, .invokevirtual 179, 0)) rfl) rfl rfl rfl rfl (zm_digitIn hS hT (l := 0) (h := R - 1) (by omega) (by omega)) (fun v1872 ph1873 hv => ?_)
  rcases hv with ⟨fd0, ⟨hc0, rfl, hfd0⟩ | ⟨hc0, rfl, hfd0⟩⟩
  · have r1 : zLd b t R a = true := decide_eq_true (by omega)
    have hb9 := hfd0.2.2.2.2.2 a (by omega)
    have td0 := znt (k := t a - 48) (by omega)
    show zW n D 203 Q 11 [some (.ref 170), none, none] [.int (zn (t a - 48))] ph1873
    refine w_store (pc' := 12) (L' := [some (.ref 170), some (.int (zn (t a - 48))), none]) (st' := []) (m := 1) (ykc_203 (e := (3, .istore_n kF1, 0)) rfl) rfl rfl ?_
    refine w_load (pc' := 13) (v := .int (zn (t a - 48))) (m := 1) (ykc_203 (e := (2, .iload_n kF1, 0)) rfl) rfl rfl ?_
    refine w_zge (ykc_203 (e := (4, .ifCond .ge 7, 20)) rfl) rfl (fun b1874 => ?_) (fun q => by exfalso; omega)
    refine w_load (pc' := 21) (v := .ref 170) (m := 1) (ykc_203 (e := (2, .aload_n kF0, 0)) rfl) rfl rfl ?_
    refine w_alu (pc' := 22) (st' := [.int (Int32.ofInt 0), .ref 170]) (ykc_203 (e := (0, .iconst 0, 0)) rfl) rfl rfl ?_
    refine w_load (pc' := 23) (v := .ref 170) (m := 1) (ykc_203 (e := (2, .aload_n kF0, 0)) rfl) rfl rfl ?_
    refine w_gf (pc' := 26) (v := .int (zn C)) (ykc_203 (e := (5, .getfield 27, 0)) rfl) rfl ((fd0.1 170 4 (by decide) (by decide)).trans gC) rfl ?_
    refine w_alu (pc' := 27) (st' := [.int (Int32.ofInt 1), .int (zn C), .int (Int32.ofInt 0), .ref 170]) (ykc_203 (e := (0, .iconst 1, 0)) rfl) rfl rfl ?_
    have e1875 : (zn C) - (Int32.ofInt 1) = zn (C - 1) := zsubN (a := C) (b := 1) tC c_2 (by omega)
    have te1875 := znt (k := C - 1) (by omega)
    refine w_alu (pc' := 28) (st' := [.int (zn (C - 1)), .int (Int32.ofInt 0), .ref 170]) (ykc_203 (e := (0, .isub, 0)) rfl) (by show some ([.int ((zn C) - (Int32.ofInt 1)), .int (Int32.ofInt 0), .ref 170] : List Value) = _; rw [e1875]) rfl ?_
    refine w_cv (as := [.ref 170, .int (Int32.ofInt 0), .int (zn (C - 1))]) (r := []) (ykc_203 (e := (6, .invokevirtual 179, 0)) rfl) rfl rfl rfl rfl (zm_digitIn (zF15_S fd0 hS) hfd0 (l := 0) (h := C - 1) (by omega) (by omega)) (fun v1876 ph1877 hv => ?_)
    rcases hv with ⟨fd1, ⟨hc1, rfl, hfd1⟩ | ⟨hc1, rfl, hfd1⟩⟩
    · have r2 : zLd b t C (a + 1) = true := decide_eq_true (by omega)
      have hb8 := hfd0.2.2.2.2.2 (a + 1) (by omega)
      have td1 := znt (k := t (a + 1) - 48) (by omega)
      show zW n D 203 Q 31 [some (.ref 170), some (.int (zn (t a - 48))), none] [.int (zn (t (a + 1) - 48))] ph1877
      refine w_store (pc' := 32) (L' := [some (.ref 170), some (.int (zn (t a - 48))), some (.int (zn (t (a + 1) - 48)))]) (st' := []) (m := 1) (ykc_203 (e := (3, .istore_n kF2, 0)) rfl) rfl rfl ?_
      refine w_load (pc' := 33) (v := .int (zn (t (a + 1) - 48))) (m := 1) (ykc_203 (e := (2, .iload_n kF2, 0)) rfl) rfl rfl ?_
      refine w_zge (ykc_203 (e := (4, .ifCond .ge 7, 40)) rfl) rfl (fun b1878 => ?_) (fun q => by exfalso; omega)
      refine w_load (pc' := 41) (v := .ref 170) (m := 1) (ykc_203 (e := (2, .aload_n kF0, 0)) rfl) rfl rfl ?_
      refine w_gf (pc' := 44) (v := .int (zn C)) (ykc_203 (e := (5, .getfield 27, 0)) rfl) rfl ((fd1.1 170 4 (by decide) (by decide)).trans ((fd0.1 170 4 (by decide) (by decide)).trans gC)) rfl ?_
      refine w_load (pc' := 45) (v := .int (zn (t a - 48))) (m := 1) (ykc_203 (e := (2, .iload_n kF1, 0)) rfl) rfl rfl ?_
      have hm9 : C * (t a - 48) ≤ 7 * 7 := Nat.mul_le_mul (by omega) (by omega)
      have e1879 : (zn C) * (zn (t a - 48)) = zn (C * (t a - 48)) := zn_of (zmulN (by omega) (by omega) (by omega) (by omega))
      have te1879 := znt (k := C * (t a - 48)) (by omega)
      refine w_alu (pc' := 46) (st' := [.int (zn (C * (t a - 48)))]) (ykc_203 (e := (0, .imul, 0)) rfl) (by rw [← e1879]; rfl) rfl ?_
      refine w_load (pc' := 47) (v := .int (zn (t (a + 1) - 48))) (m := 1) (ykc_203 (e := (2, .iload_n kF2, 0)) rfl) rfl rfl ?_
      have e1880 : (zn (C * (t a - 48))) + (zn (t (a + 1) - 48)) = zn (C * (t a - 48) + (t (a + 1) - 48)) := (zaddN (a := C * (t a - 48)) (b := t (a + 1) - 48) (znt (by omega)) (znt (by omega)) (by omega)) 
      have te1880 := znt (k := C * (t a - 48) + (t (a + 1) - 48)) (by omega)
      refine w_alu (pc' := 48) (st' := [.int (zn (C * (t a - 48) + (t (a + 1) - 48)))]) (ykc_203 (e := (0, .iadd, 0)) rfl) (by rw [← e1880]; rfl) rfl ?_
      refine w_ret (v := (some (.int (zn (C * (t a - 48) + (t (a + 1) - 48)))))) (ykc_203 (e := (7, .ireturn, 0)) rfl) (zr_v rfl) ?_
      rw [hQ]
      exact ⟨zFr_trans fd0 fd1, Or.inl ⟨r1, r2, rfl, hfd1⟩⟩
    · have r2 : zLd b t C (a + 1) = false := decide_eq_false (by omega)
      show zW n D 203 Q 31 [some (.ref 170), some (.int (zn (t a - 48))), none] [.int (Int32.ofInt (-1))] ph1877
      refine w_store (pc' := 32) (L' := [some (.ref 170), some (.int (zn (t a - 48))), some (.int (Int32.ofInt (-1)))]) (st' := []) (m := 1) (ykc_203 (e := (3, .istore_n kF2, 0)) rfl) rfl rfl ?_
      refine w_load (pc' := 33) (v := .int (Int32.ofInt (-1))) (m := 1) (ykc_203 (e := (2, .iload_n kF2, 0)) rfl) rfl rfl ?_
      refine w_zge (ykc_203 (e := (4, .ifCond .ge 7, 40)) rfl) rfl (fun q => by exfalso; omega) (fun b1881 => ?_)
      refine w_alu (pc' := 37) (st' := [.int (Int32.ofInt (-1))]) (ykc_203 (e := (0, .iconst (-1), 0)) rfl) rfl rfl ?_
      refine w_br (pc' := 48) (st' := [.int (Int32.ofInt (-1))]) (ykc_203 (e := (4, .goto 11, 48)) rfl) rfl ?_
      refine w_ret (v := (some (.int (Int32.ofInt (-1))))) (ykc_203 (e := (7, .ireturn, 0)) rfl) (zr_v rfl) ?_
      rw [hQ]
      exact ⟨zFr_trans fd0 fd1, Or.inr (Or.inl ⟨r1, r2, rfl, hfd1⟩)⟩
    
  · have r1 : zLd b t R a = false := decide_eq_false (by omega)
    show zW n D 203 Q 11 [some (.ref 170), none, none] [.int (Int32.ofInt (-1))] ph1873
    refine w_store (pc' := 12) (L' := [some (.ref 170), some (.int (Int32.ofInt (-1))), none]) (st' := []) (m := 1) (ykc_203 (e := (3, .istore_n kF1, 0)) rfl) rfl rfl ?_
    refine w_load (pc' := 13) (v := .int (Int32.ofInt (-1))) (m := 1) (ykc_203 (e := (2, .iload_n kF1, 0)) rfl) rfl rfl ?_
    refine w_zge (ykc_203 (e := (4, .ifCond .ge 7, 20)) rfl) rfl (fun q => by exfalso; omega) (fun b1882 => ?_)
    refine w_alu (pc' := 17) (st' := [.int (Int32.ofInt (-1))]) (ykc_203 (e := (0, .iconst (-1), 0)) rfl) rfl rfl ?_
    refine w_br (pc' := 31) (st' := [.int (Int32.ofInt (-1))]) (ykc_203 (e := (4, .goto 14, 31)) rfl) rfl ?_
    refine w_store (pc' := 32) (L' := [some (.ref 170), some (.int (Int32.ofInt (-1))), some (.int (Int32.ofInt (-1)))]) (st' := []) (m := 1) (ykc_203 (e := (3, .istore_n kF2, 0)) rfl) rfl rfl ?_
    refine w_load (pc' := 33) (v := .int (Int32.ofInt (-1))) (m := 1) (ykc_203 (e := (2, .iload_n kF2, 0)) rfl) rfl rfl ?_
    refine w_zge (ykc_203 (e := (4, .ifCond .ge 7, 40)) rfl) rfl (fun q => by exfalso; omega) (fun b1883 => ?_)
    refine w_alu (pc' := 37) (st' := [.int (Int32.ofInt (-1))]) (ykc_203 (e := (0, .iconst (-1), 0)) rfl) rfl rfl ?_
    refine w_br (pc' := 48) (st' := [.int (Int32.ofInt (-1))]) (ykc_203 (e := (4, .goto 11, 48)) rfl) rfl ?_
    refine w_ret (v := (some (.int (Int32.ofInt (-1))))) (ykc_203 (e := (7, .ireturn, 0)) rfl) (zr_v rfl) ?_
    rw [hQ]
    exact ⟨fd0, Or.inr (Or.inr ⟨r1, rfl, hfd0⟩)⟩
theorem zb0 {R C : Nat} : zLb R C 0 = R := rfl
theorem zb1 {R C : Nat} : zLb R C 1 = C := rfl
theorem zb2 {R C : Nat} : zLb R C 2 = 8 := rfl
theorem zb3 {R C : Nat} : zLb R C 3 = 5 := rfl
theorem zLd_b {n b p bd : Nat} {t : Nat → Nat} (h : p < b ↔ p < n) : zLd b t bd p = zLd n t bd p := by
  unfold zLd
  exact decide_eq_decide.mpr ⟨fun q => ⟨h.mp q.1, q.2⟩, fun q => ⟨h.mpr q.1, q.2⟩⟩
theorem zLk_b {R C wd n b p i : Nat} {rk : Nat → Bool} {t : Nat → Nat} (h : p + i < b ↔ p + i < n) : zLk R C rk wd b t p i = zLk R C rk wd n t p i := by
  unfold zLk
  rw [zLd_b h]
theorem zLg_b {R C wd n b p : Nat} {rk : Nat → Bool} {t : Nat → Nat} : ∀ {k : Nat}, (∀ i, i < k → (p + i < b ↔ p + i < n)) → zLg R C rk wd b t p k = zLg R C rk wd n t p k
  | 0, _ => rfl
  | k + 1, h => by
    show (if zLg R C rk wd b t p k = k ∧ zLk R C rk wd b t p k = true then k + 1 else zLg R C rk wd b t p k) = (if zLg R C rk wd n t p k = k ∧ zLk R C rk wd n t p k = true then k + 1 else zLg R C rk wd n t p k)
    rw [zLg_b (k := k) (fun i hi => h i (by omega)), zLk_b (h k (by omega))]
theorem zLk_t {R C wd n p i : Nat} {rk : Nat → Bool} {t : Nat → Nat} (h : zLd n t (zLb R C i) (p + i) = true) (h2 : ¬ (wd = 4 ∧ i = 1) ∨ rk (zLf C t p) = false) : zLk R C rk wd n t p i = true := zLk_1 (of_decide_eq_true h) h2
theorem zLk_n {R C wd n p i : Nat} {rk : Nat → Bool} {t : Nat → Nat} (h : zLd n t (zLb R C i) (p + i) = false) : zLk R C rk wd n t p i = false := zLk_0 (of_decide_eq_false h)
theorem zLg_4 {R C wd n p : Nat} {rk : Nat → Bool} {t : Nat → Nat} : (zLk R C rk wd n t p 0 = false → zLg R C rk wd n t p 4 = 0) ∧ (zLk R C rk wd n t p 0 = true → zLk R C rk wd n t p 1 = false → zLg R C rk wd n t p 4 = 1) ∧ (zLk R C rk wd n t p 0 = true → zLk R C rk wd n t p 1 = true → zLk R C rk wd n t p 2 = false → zLg R C rk wd n t p 4 = 2) ∧ (zLk R C rk wd n t p 0 = true → zLk R C rk wd n t p 1 = true → zLk R C rk wd n t p 2 = true → zLk R C rk wd n t p 3 = false → zLg R C rk wd n t p 4 = 3) ∧ (zLk R C rk wd n t p 0 = true → zLk R C rk wd n t p 1 = true → zLk R C rk wd n t p 2 = true → zLk R C rk wd n t p 3 = true → zLg R C rk wd n t p 4 = 4) :=
  ⟨fun h => zLg_f (i := 0) rfl h 3, fun h0 h1 => zLg_f (zLg_s rfl h0) h1 2, fun h0 h1 h2 => zLg_f (zLg_s (zLg_s rfl h0) h1) h2 1, fun h0 h1 h2 h3 => zLg_f (zLg_s (zLg_s (zLg_s rfl h0) h1) h2) h3 0, fun h0 h1 h2 h3 => zLg_s (zLg_s (zLg_s (zLg_s rfl h0) h1) h2) h3⟩
theorem zLg_2 {R C wd n p : Nat} {rk : Nat → Bool} {t : Nat → Nat} : (zLk R C rk wd n t p 0 = false → zLg R C rk wd n t p 2 = 0) ∧ (zLk R C rk wd n t p 0 = true → zLk R C rk wd n t p 1 = false → zLg R C rk wd n t p 2 = 1) ∧ (zLk R C rk wd n t p 0 = true → zLk R C rk wd n t p 1 = true → zLg R C rk wd n t p 2 = 2) :=
  ⟨fun h => zLg_f (i := 0) rfl h 1, fun h0 h1 => zLg_f (zLg_s rfl h0) h1 0, fun h0 h1 => zLg_s (zLg_s rfl h0) h1⟩
theorem zm_rperson {ph : pm_H} {R C a b ln : Nat} {rk : Nat → Bool} {t : Nat → Nat} (hS : zSh ph) (hL : zMl ph R C rk) (hT : zTm ph a b ln t) {l N : Nat} (hl : zc ph 170 20 = some (.int (zn l))) (hl8 : l < 8) (hN : zc ph 170 5 = some (.int (zn N))) (hN8 : N + l ≤ 8) : zM 204 [.ref 170] ph (fun v0 q => zFr [178] [(170, 15), (170, 20)] ph q ∧ ((N + l = 8 ∧ v0 = some (.int (zI false)) ∧ zTm q a b ln t) ∨ (N + l < 8 ∧ zLg R C rk 4 b t a 4 = 4 ∧ v0 = some (.int (zI true)) ∧ zTm q (a + 4) b ln t ∧ zc q 170 20 = some (.int (zn (l + 1))) ∧ zc q 178 (3 * l) = some (.int (zn (zLf C t a))) ∧ zc q 178 (3 * l + 1) = some (.int (zn (t (a + 2) - 48))) ∧ zc q 178 (3 * l + 2) = some (.int (zn (t (a + 3) - 48))) ∧ ∀ i, i < 3 * l → zc q 178 i = zc ph 178 i) ∨ (N + l < 8 ∧ zLg R C rk 4 b t a 4 < 4 ∧ v0 = some (.int (zI false)) ∧ zTm q (a + zLg R C rk 4 b t a 4) b ln t))) := by
  obtain ⟨Q, hQ⟩ : ∃ Q : Option Value → pm_H → Prop, Q = (fun v0 q => zFr [178] [(170, 15), (170, 20)] ph q ∧ ((N + l = 8 ∧ v0 = some (.int (zI false)) ∧ zTm q a b ln t) ∨ (N + l < 8 ∧ zLg R C rk 4 b t a 4 = 4 ∧ v0 = some (.int (zI true)) ∧ zTm q (a + 4) b ln t ∧ zc q 170 20 = some (.int (zn (l + 1))) ∧ zc q 178 (3 * l) = some (.int (zn (zLf C t a))) ∧ zc q 178 (3 * l + 1) = some (.int (zn (t (a + 2) - 48))) ∧ zc q 178 (3 * l + 2) = some (.int (zn (t (a + 3) - 48))) ∧ ∀ i, i < 3 * l → zc q 178 i = zc ph 178 i) ∨ (N + l < 8 ∧ zLg R C rk 4 b t a 4 < 4 ∧ v0 = some (.int (zI false)) ∧ zTm q (a + zLg R C rk 4 b t a 4) b ln t))) := ⟨_, rfl⟩
  rw [← hQ]
  refine zM_mk fun n D => ?_
  show zW n D 204 Q 0 [some (.ref 170), none] [] ph
  have c_0 : ((Int8.ofInt 7).toInt32).toInt = 7 := by decide
  have c_1 : ((Int8.ofInt 8).toInt32).toInt = 8 := by decide
  have c_2 : (Int32.ofInt (-1)).toInt = -1 := by decide
  have c_3 : (Int32.ofInt 0).toInt = 0 := by decide
  have c_4 : (Int32.ofInt 1).toInt = 1 := by decide
  have c_5 : (Int32.ofInt 2).toInt = 2 := by decide
  have c_6 : (Int32.ofInt 3).toInt = 3 := by decide
  have c_7 : (Int32.ofInt 4).toInt = 4 := by decide
  have hL0 := hL
  have hab := hT.2.2.1
  have hb80 : b ≤ 80 := Nat.le_trans hT.2.2.2.1 hT.2.2.2.2.1
  obtain ⟨gR, gC, gK, hR3, hR7, hC3, hC7⟩ := hL
  have hRC := zRC49 hR7 hC7
  have tl := znt (k := l) (by omega)
  have tN := znt (k := N) (by omega)
  obtain ⟨k0, k1, k2, k3, k4⟩ := @zLg_4 R C 4 b a rk t
  refine w_load (pc' := 1) (v := .ref 170) (m := 1) (ykc_204 (e := (2, .aload_n kF0, 0)) rfl) rfl rfl ?_
  refine w_gf (pc' := 4) (v := .int (zn N)) (ykc_204 (e := (5, .getfield 130, 0)) rfl) rfl hN rfl ?_
  refine w_load (pc' := 5) (v := .ref 170) (m := 1) (ykc_204 (e := (2, .aload_n kF0, 0)) rfl) rfl rfl ?_
  refine w_gf (pc' := 8) (v := .int (zn l)) (ykc_204 (e := (5, .getfield 197, 0)) rfl) rfl hl rfl ?_
  have e1884 : (zn N) + (zn l) = zn (N + l) := (zaddN (a := N) (b := l) (znt (by omega)) (znt (by omega)) (by omega)) 
  have te1884 := znt (k := N + l) (by omega)
  refine w_alu (pc' := 9) (st' := [.int (zn (N + l))]) (ykc_204 (e := (0, .iadd, 0)) rfl) (by rw [← e1884]; rfl) rfl ?_
  refine w_push (pc' := 11) (v := .int ((Int8.ofInt 8).toInt32)) (m := 2) (ykc_204 (e := (1, .bipush 8, 0)) rfl) rfl rfl ?_
  refine w_ine (ykc_204 (e := (4, .if_icmp .ne 5, 16)) rfl) rfl (fun b1885 => ?_) (fun b1885 => ?_)
  · refine w_alu (pc' := 17) (st' := [.int (Int32.ofInt 3)]) (ykc_204 (e := (0, .iconst 3, 0)) rfl) rfl rfl ?_
    refine w_load (pc' := 18) (v := .ref 170) (m := 1) (ykc_204 (e := (2, .aload_n kF0, 0)) rfl) rfl rfl ?_
    refine w_gf (pc' := 21) (v := .int (zn l)) (ykc_204 (e := (5, .getfield 197, 0)) rfl) rfl hl rfl ?_
    have e1886 : (Int32.ofInt 3) * (zn l) = zn (3 * l) := zn_of (by rw [ti_mul (by rw [show (Int32.ofInt 3).toInt = (3 : Int) by omega, show (zn l).toInt = ((l : Nat) : Int) by omega]; omega) (by rw [show (Int32.ofInt 3).toInt = (3 : Int) by omega, show (zn l).toInt = ((l : Nat) : Int) by omega]; omega), show (Int32.ofInt 3).toInt = (3 : Int) by omega, show (zn l).toInt = ((l : Nat) : Int) by omega] <;> omega)
    have te1886 := znt (k := 3 * l) (by omega)
    refine w_alu (pc' := 22) (st' := [.int (zn (3 * l))]) (ykc_204 (e := (0, .imul, 0)) rfl) (by rw [← e1886]; rfl) rfl ?_
    refine w_store (pc' := 23) (L' := [some (.ref 170), some (.int (zn (3 * l)))]) (st' := []) (m := 1) (ykc_204 (e := (3, .istore_n kF1, 0)) rfl) rfl rfl ?_
    refine w_load (pc' := 24) (v := .ref 170) (m := 1) (ykc_204 (e := (2, .aload_n kF0, 0)) rfl) rfl rfl ?_
    refine w_gf (pc' := 27) (v := .ref 178) (ykc_204 (e := (5, .getfield 53, 0)) rfl) rfl (zsg hS zs_170_19) rfl ?_
    refine w_load (pc' := 28) (v := .int (zn (3 * l))) (m := 1) (ykc_204 (e := (2, .iload_n kF1, 0)) rfl) rfl rfl ?_
    refine w_load (pc' := 29) (v := .ref 170) (m := 1) (ykc_204 (e := (2, .aload_n kF0, 0)) rfl) rfl rfl ?_
    refine w_cv (as := [.ref 170]) (r := [.int (zn (3 * l)), .ref 178]) (ykc_204 (e := (6, .invokevirtual 200, 0)) rfl) rfl rfl rfl rfl (zm_rfield hS hL0 hT) (fun v1887 ph1888 hv => ?_)
    rcases hv with ⟨ff, ⟨r1, r2, rfl, hff⟩ | ⟨r1, r2, rfl, hff⟩ | ⟨r1, rfl, hff⟩⟩
    · have y0 : zLk R C rk 4 b t a 0 = true := zLk_t (i := 0) (by rw [zb0]; exact r1) (Or.inl (by omega))
      have d0 : a < b ∧ 48 ≤ t a ∧ t a < 48 + R := of_decide_eq_true r1
      have d1 : a + 1 < b ∧ 48 ≤ t (a + 1) ∧ t (a + 1) < 48 + C := of_decide_eq_true r2
      have lf := zLf_lt (R := R) (C := C) (t := t) (p := a) (by omega) (by omega) d0.2.2 d1.2.2
      have tf := znt (k := zLf C t a) (by omega)
      have gt2 := hff.2.2.2.2.2
      show zW n D 204 Q 32 [some (.ref 170), some (.int (zn (3 * l)))] [.int (zn (zLf C t a)), .int (zn (3 * l)), .ref 178] ph1888
      refine w_ias (pc' := 33) (k := 3 * l) (ykc_204 (e := (5, .iastore, 0)) rfl) (by omega) rfl (fun ph1890 u1889 => ?_)
      refine w_load (pc' := 34) (v := .ref 170) (m := 1) (ykc_204 (e := (2, .aload_n kF0, 0)) rfl) rfl rfl ?_
      refine w_gf (pc' := 37) (v := .ref 178) (ykc_204 (e := (5, .getfield 53, 0)) rfl) rfl ((u1889.2.1 170 19 (fun q => absurd q.1 (by decide))).trans ((ff.1 170 19 (by decide) (by decide)).trans (zsg hS zs_170_19))) rfl ?_
      refine w_load (pc' := 38) (v := .int (zn (3 * l))) (m := 1) (ykc_204 (e := (2, .iload_n kF1, 0)) rfl) rfl rfl ?_
      refine w_ialk (pc' := 39) (k := 3 * l) (ykc_204 (e := (5, .iaload, 0)) rfl) u1889.1 (by omega) rfl ?_
      refine w_zlt (ykc_204 (e := (4, .ifCond .lt 34, 73)) rfl) rfl (fun q => by exfalso; omega) (fun b1891 => ?_)
      refine w_load (pc' := 43) (v := .ref 170) (m := 1) (ykc_204 (e := (2, .aload_n kF0, 0)) rfl) rfl rfl ?_
      refine w_gf (pc' := 46) (v := .ref 172) (ykc_204 (e := (5, .getfield 33, 0)) rfl) rfl ((u1889.2.1 170 9 (fun q => absurd q.1 (by decide))).trans ((ff.1 170 9 (by decide) (by decide)).trans (zsg hS zs_170_9))) rfl ?_
      refine w_load (pc' := 47) (v := .ref 170) (m := 1) (ykc_204 (e := (2, .aload_n kF0, 0)) rfl) rfl rfl ?_
      refine w_gf (pc' := 50) (v := .ref 178) (ykc_204 (e := (5, .getfield 53, 0)) rfl) rfl ((u1889.2.1 170 19 (fun q => absurd q.1 (by decide))).trans ((ff.1 170 19 (by decide) (by decide)).trans (zsg hS zs_170_19))) rfl ?_
      refine w_load (pc' := 51) (v := .int (zn (3 * l))) (m := 1) (ykc_204 (e := (2, .iload_n kF1, 0)) rfl) rfl rfl ?_
      refine w_ialk (pc' := 52) (k := 3 * l) (ykc_204 (e := (5, .iaload, 0)) rfl) u1889.1 (by omega) rfl ?_
      refine w_balk (pc' := 53) (k := zLf C t a) (ykc_204 (e := (5, .baload, 0)) rfl) ((u1889.2.1 172 (zLf C t a) (fun q => absurd q.1 (by decide))).trans ((ff.1 172 (zLf C t a) (by decide) (by simp)).trans (gK (zLf C t a) lf))) (by omega) rfl ?_
      refine w_beq (ykc_204 (e := (4, .ifCond .eq 20, 73)) rfl) rfl (fun b1892 => ?_) (fun b1892 => ?_)
      · have hrk := b1892
        have y1 : zLk R C rk 4 b t a 1 = true := zLk_t (i := 1) (by rw [zb1]; exact r2) (Or.inr hrk)
        refine w_load (pc' := 74) (v := .ref 170) (m := 1) (ykc_204 (e := (2, .aload_n kF0, 0)) rfl) rfl rfl ?_
        refine w_gf (pc' := 77) (v := .ref 178) (ykc_204 (e := (5, .getfield 53, 0)) rfl) rfl ((u1889.2.1 170 19 (fun q => absurd q.1 (by decide))).trans ((ff.1 170 19 (by decide) (by decide)).trans (zsg hS zs_170_19))) rfl ?_
        refine w_load (pc' := 78) (v := .int (zn (3 * l))) (m := 1) (ykc_204 (e := (2, .iload_n kF1, 0)) rfl) rfl rfl ?_
        refine w_alu (pc' := 79) (st' := [.int (Int32.ofInt 1), .int (zn (3 * l)), .ref 178]) (ykc_204 (e := (0, .iconst 1, 0)) rfl) rfl rfl ?_
        have e1893 : (zn (3 * l)) + (Int32.ofInt 1) = zn (3 * l + 1) := (zaddN (a := 3 * l) (b := 1) (znt (by omega)) c_4 (by omega)) 
        have te1893 := znt (k := 3 * l + 1) (by omega)
        refine w_alu (pc' := 80) (st' := [.int (zn (3 * l + 1)), .ref 178]) (ykc_204 (e := (0, .iadd, 0)) rfl) (by rw [← e1893]; rfl) rfl ?_
        refine w_load (pc' := 81) (v := .ref 170) (m := 1) (ykc_204 (e := (2, .aload_n kF0, 0)) rfl) rfl rfl ?_
        refine w_gf (pc' := 84) (v := .ref 178) (ykc_204 (e := (5, .getfield 53, 0)) rfl) rfl ((u1889.2.1 170 19 (fun q => absurd q.1 (by decide))).trans ((ff.1 170 19 (by decide) (by decide)).trans (zsg hS zs_170_19))) rfl ?_
        refine w_load (pc' := 85) (v := .int (zn (3 * l))) (m := 1) (ykc_204 (e := (2, .iload_n kF1, 0)) rfl) rfl rfl ?_
        refine w_ialk (pc' := 86) (k := 3 * l) (ykc_204 (e := (5, .iaload, 0)) rfl) u1889.1 (by omega) rfl ?_
        refine w_zge (ykc_204 (e := (4, .ifCond .ge 7, 93)) rfl) rfl (fun b1894 => ?_) (fun q => by exfalso; omega)
        refine w_load (pc' := 94) (v := .ref 170) (m := 1) (ykc_204 (e := (2, .aload_n kF0, 0)) rfl) rfl rfl ?_
        refine w_alu (pc' := 95) (st' := [.int (Int32.ofInt 0), .ref 170, .int (zn (3 * l + 1)), .ref 178]) (ykc_204 (e := (0, .iconst 0, 0)) rfl) rfl rfl ?_
        refine w_push (pc' := 97) (v := .int ((Int8.ofInt 7).toInt32)) (m := 2) (ykc_204 (e := (1, .bipush 7, 0)) rfl) rfl rfl ?_
        refine w_cv (as := [.ref 170, .int (Int32.ofInt 0), .int ((Int8.ofInt 7).toInt32)]) (r := [.int (zn (3 * l + 1)), .ref 178]) (ykc_204 (e := (6, .invokevirtual 179, 0)) rfl) rfl rfl rfl rfl (zm_digitIn (zSh_F ((zFr_trans (zFr_mono ff (by simp) (by simp)) (zFr_st u1889 (Or.inl (by simp)))) : zFr [178] [(170, 15), (170, 20)] ph _) (by decide +kernel) hS) (zTm_F (zFr_st u1889 (Or.inl (by simp)) : zFr [178] [(170, 20)] _ _) (by simp) (by simp) (by simp) hff) (l := 0) (h := 7) (by omega) (by omega)) (fun v1895 ph1896 hv => ?_)
        rcases hv with ⟨f2, ⟨c2, rfl, hf2⟩ | ⟨c2, rfl, hf2⟩⟩
        · have c2 : a + 2 < b ∧ 48 ≤ t (a + 2) ∧ t (a + 2) < 48 + 8 := by omega
          have y2 : zLk R C rk 4 b t a 2 = true := zLk_1 (by rw [zb2]; exact c2) (Or.inl (by omega))
          have td2 := znt (k := t (a + 2) - 48) (by omega)
          show zW n D 204 Q 100 [some (.ref 170), some (.int (zn (3 * l)))] [.int (zn (t (a + 2) - 48)), .int (zn (3 * l + 1)), .ref 178] ph1896
          refine w_ias (pc' := 101) (k := 3 * l + 1) (ykc_204 (e := (5, .iastore, 0)) rfl) (by omega) rfl (fun ph1898 u1897 => ?_)
          refine w_load (pc' := 102) (v := .ref 170) (m := 1) (ykc_204 (e := (2, .aload_n kF0, 0)) rfl) rfl rfl ?_
          refine w_gf (pc' := 105) (v := .ref 178) (ykc_204 (e := (5, .getfield 53, 0)) rfl) rfl ((u1897.2.1 170 19 (fun q => absurd q.1 (by decide))).trans ((f2.1 170 19 (by decide) (by decide)).trans ((u1889.2.1 170 19 (fun q => absurd q.1 (by decide))).trans ((ff.1 170 19 (by decide) (by decide)).trans (zsg hS zs_170_19))))) rfl ?_
          refine w_load (pc' := 106) (v := .int (zn (3 * l))) (m := 1) (ykc_204 (e := (2, .iload_n kF1, 0)) rfl) rfl rfl ?_
          refine w_alu (pc' := 107) (st' := [.int (Int32.ofInt 2), .int (zn (3 * l)), .ref 178]) (ykc_204 (e := (0, .iconst 2, 0)) rfl) rfl rfl ?_
          have e1899 : (zn (3 * l)) + (Int32.ofInt 2) = zn (3 * l + 2) := (zaddN (a := 3 * l) (b := 2) (znt (by omega)) c_5 (by omega)) 
          have te1899 := znt (k := 3 * l + 2) (by omega)
          refine w_alu (pc' := 108) (st' := [.int (zn (3 * l + 2)), .ref 178]) (ykc_204 (e := (0, .iadd, 0)) rfl) (by rw [← e1899]; rfl) rfl ?_
          refine w_load (pc' := 109) (v := .ref 170) (m := 1) (ykc_204 (e := (2, .aload_n kF0, 0)) rfl) rfl rfl ?_
          refine w_gf (pc' := 112) (v := .ref 178) (ykc_204 (e := (5, .getfield 53, 0)) rfl) rfl ((u1897.2.1 170 19 (fun q => absurd q.1 (by decide))).trans ((f2.1 170 19 (by decide) (by decide)).trans ((u1889.2.1 170 19 (fun q => absurd q.1 (by decide))).trans ((ff.1 170 19 (by decide) (by decide)).trans (zsg hS zs_170_19))))) rfl ?_
          refine w_load (pc' := 113) (v := .int (zn (3 * l))) (m := 1) (ykc_204 (e := (2, .iload_n kF1, 0)) rfl) rfl rfl ?_
          refine w_alu (pc' := 114) (st' := [.int (Int32.ofInt 1), .int (zn (3 * l)), .ref 178, .int (zn (3 * l + 2)), .ref 178]) (ykc_204 (e := (0, .iconst 1, 0)) rfl) rfl rfl ?_
          have e1900 : (zn (3 * l)) + (Int32.ofInt 1) = zn (3 * l + 1) := (zaddN (a := 3 * l) (b := 1) (znt (by omega)) c_4 (by omega)) 
          have te1900 := znt (k := 3 * l + 1) (by omega)
          refine w_alu (pc' := 115) (st' := [.int (zn (3 * l + 1)), .ref 178, .int (zn (3 * l + 2)), .ref 178]) (ykc_204 (e := (0, .iadd, 0)) rfl) (by rw [← e1900]; rfl) rfl ?_
          refine w_ialk (pc' := 116) (k := 3 * l + 1) (ykc_204 (e := (5, .iaload, 0)) rfl) u1897.1 (by omega) rfl ?_
          refine w_zge (ykc_204 (e := (4, .ifCond .ge 7, 123)) rfl) rfl (fun b1901 => ?_) (fun q => by exfalso; omega)
          refine w_load (pc' := 124) (v := .ref 170) (m := 1) (ykc_204 (e := (2, .aload_n kF0, 0)) rfl) rfl rfl ?_
          refine w_alu (pc' := 125) (st' := [.int (Int32.ofInt 0), .ref 170, .int (zn (3 * l + 2)), .ref 178]) (ykc_204 (e := (0, .iconst 0, 0)) rfl) rfl rfl ?_
          refine w_alu (pc' := 126) (st' := [.int (Int32.ofInt 4), .int (Int32.ofInt 0), .ref 170, .int (zn (3 * l + 2)), .ref 178]) (ykc_204 (e := (0, .iconst 4, 0)) rfl) rfl rfl ?_
          refine w_cv (as := [.ref 170, .int (Int32.ofInt 0), .int (Int32.ofInt 4)]) (r := [.int (zn (3 * l + 2)), .ref 178]) (ykc_204 (e := (6, .invokevirtual 179, 0)) rfl) rfl rfl rfl rfl (zm_digitIn (zSh_F ((zFr_trans (zFr_trans (zFr_trans (zFr_mono ff (by simp) (by simp)) (zFr_st u1889 (Or.inl (by simp)))) (zFr_mono f2 (by simp) (by simp))) (zFr_st u1897 (Or.inl (by simp)))) : zFr [178] [(170, 15), (170, 20)] ph _) (by decide +kernel) hS) (zTm_F (zFr_st u1897 (Or.inl (by simp)) : zFr [178] [(170, 20)] _ _) (by simp) (by simp) (by simp) hf2) (l := 0) (h := 4) (by omega) (by omega)) (fun v1902 ph1903 hv => ?_)
          rcases hv with ⟨f3, ⟨c3, rfl, hf3⟩ | ⟨c3, rfl, hf3⟩⟩
          · rw [show a + 2 + 1 = a + 3 from rfl] at c3
            have c3 : a + 3 < b ∧ 48 ≤ t (a + 3) ∧ t (a + 3) < 48 + 5 := by omega
            have y3 : zLk R C rk 4 b t a 3 = true := zLk_1 (by rw [zb3]; exact c3) (Or.inl (by omega))
            have td3 := znt (k := t (a + 3) - 48) (by omega)
            show zW n D 204 Q 129 [some (.ref 170), some (.int (zn (3 * l)))] [.int (zn (t (a + 3) - 48)), .int (zn (3 * l + 2)), .ref 178] ph1903
            refine w_ias (pc' := 130) (k := 3 * l + 2) (ykc_204 (e := (5, .iastore, 0)) rfl) (by omega) rfl (fun ph1905 u1904 => ?_)
            refine w_load (pc' := 131) (v := .ref 170) (m := 1) (ykc_204 (e := (2, .aload_n kF0, 0)) rfl) rfl rfl ?_
            refine w_alu (pc' := 132) (st' := [.ref 170, .ref 170]) (ykc_204 (e := (0, .dup, 0)) rfl) rfl rfl ?_
            refine w_gf (pc' := 135) (v := .int (zn l)) (ykc_204 (e := (5, .getfield 197, 0)) rfl) rfl ((u1904.2.1 170 20 (fun q => absurd q.1 (by decide))).trans ((f3.1 170 20 (by decide) (by decide)).trans ((u1897.2.1 170 20 (fun q => absurd q.1 (by decide))).trans ((f2.1 170 20 (by decide) (by decide)).trans ((u1889.2.1 170 20 (fun q => absurd q.1 (by decide))).trans ((ff.1 170 20 (by decide) (by decide)).trans hl)))))) rfl ?_
            refine w_alu (pc' := 136) (st' := [.int (Int32.ofInt 1), .int (zn l), .ref 170]) (ykc_204 (e := (0, .iconst 1, 0)) rfl) rfl rfl ?_
            have e1906 : (zn l) + (Int32.ofInt 1) = zn (l + 1) := (zaddN (a := l) (b := 1) (znt (by omega)) c_4 (by omega)) 
            have te1906 := znt (k := l + 1) (by omega)
            refine w_alu (pc' := 137) (st' := [.int (zn (l + 1)), .ref 170]) (ykc_204 (e := (0, .iadd, 0)) rfl) (by rw [← e1906]; rfl) rfl ?_
            refine w_pf (pc' := 140) (ykc_204 (e := (5, .putfield 197, 0)) rfl) rfl rfl (fun ph1908 u1907 => ?_)
            refine w_load (pc' := 141) (v := .ref 170) (m := 1) (ykc_204 (e := (2, .aload_n kF0, 0)) rfl) rfl rfl ?_
            refine w_gf (pc' := 144) (v := .ref 178) (ykc_204 (e := (5, .getfield 53, 0)) rfl) rfl ((u1907.2.1 170 19 (fun q => absurd q.2 (by decide))).trans ((u1904.2.1 170 19 (fun q => absurd q.1 (by decide))).trans ((f3.1 170 19 (by decide) (by decide)).trans ((u1897.2.1 170 19 (fun q => absurd q.1 (by decide))).trans ((f2.1 170 19 (by decide) (by decide)).trans ((u1889.2.1 170 19 (fun q => absurd q.1 (by decide))).trans ((ff.1 170 19 (by decide) (by decide)).trans (zsg hS zs_170_19)))))))) rfl ?_
            refine w_load (pc' := 145) (v := .int (zn (3 * l))) (m := 1) (ykc_204 (e := (2, .iload_n kF1, 0)) rfl) rfl rfl ?_
            refine w_alu (pc' := 146) (st' := [.int (Int32.ofInt 2), .int (zn (3 * l)), .ref 178]) (ykc_204 (e := (0, .iconst 2, 0)) rfl) rfl rfl ?_
            have e1909 : (zn (3 * l)) + (Int32.ofInt 2) = zn (3 * l + 2) := (zaddN (a := 3 * l) (b := 2) (znt (by omega)) c_5 (by omega)) 
            have te1909 := znt (k := 3 * l + 2) (by omega)
            refine w_alu (pc' := 147) (st' := [.int (zn (3 * l + 2)), .ref 178]) (ykc_204 (e := (0, .iadd, 0)) rfl) (by rw [← e1909]; rfl) rfl ?_
            refine w_ialk (pc' := 148) (k := 3 * l + 2) (ykc_204 (e := (5, .iaload, 0)) rfl) ((u1907.2.1 178 (3 * l + 2) (fun q => absurd q.1 (by decide))).trans u1904.1) (by omega) rfl ?_
            refine w_zlt (ykc_204 (e := (4, .ifCond .lt 7, 155)) rfl) rfl (fun q => by exfalso; omega) (fun b1910 => ?_)
            refine w_alu (pc' := 152) (st' := [.int (Int32.ofInt 1)]) (ykc_204 (e := (0, .iconst 1, 0)) rfl) rfl rfl ?_
            refine w_br (pc' := 156) (st' := [.int (Int32.ofInt 1)]) (ykc_204 (e := (4, .goto 4, 156)) rfl) rfl ?_
            refine w_ret (v := (some (.int (Int32.ofInt 1)))) (ykc_204 (e := (7, .ireturn, 0)) rfl) zr_z ?_
            have hg := k4 y0 y1 y2 y3
            have f9 : zFr [178] [(170, 15), (170, 20)] ph ph1908 := (zFr_trans (zFr_trans (zFr_trans (zFr_trans (zFr_trans (zFr_trans (zFr_mono ff (by simp) (by simp)) (zFr_st u1889 (Or.inl (by simp)))) (zFr_mono f2 (by simp) (by simp))) (zFr_st u1897 (Or.inl (by simp)))) (zFr_mono f3 (by simp) (by simp))) (zFr_st u1904 (Or.inl (by simp)))) (zFr_st u1907 (Or.inr (by simp))))
            rw [hQ, zi1]
            exact ⟨f9, Or.inr (Or.inl ⟨by omega, hg, rfl, (zTm_F (zFr_st u1907 (Or.inr (by simp)) : zFr [178] [(170, 20)] _ _) (by simp) (by simp) (by simp) (zTm_F (zFr_st u1904 (Or.inl (by simp)) : zFr [178] [(170, 20)] _ _) (by simp) (by simp) (by simp) hf3)), u1907.1, ((u1907.2.1 178 (3 * l) (fun q => absurd q.1 (by decide))).trans ((u1904.2.1 178 (3 * l) (fun q => by have q2 := q.2; omega)).trans ((f3.1 178 (3 * l) (by decide) (by simp)).trans ((u1897.2.1 178 (3 * l) (fun q => by have q2 := q.2; omega)).trans ((f2.1 178 (3 * l) (by decide) (by simp)).trans u1889.1))))), ((u1907.2.1 178 (3 * l + 1) (fun q => absurd q.1 (by decide))).trans ((u1904.2.1 178 (3 * l + 1) (fun q => by have q2 := q.2; omega)).trans ((f3.1 178 (3 * l + 1) (by decide) (by simp)).trans u1897.1))), ((u1907.2.1 178 (3 * l + 2) (fun q => absurd q.1 (by decide))).trans u1904.1), fun i hi => ((u1907.2.1 178 i (fun q => absurd q.1 (by decide))).trans ((u1904.2.1 178 i (fun q => by have q2 := q.2; omega)).trans ((f3.1 178 i (by decide) (by simp)).trans ((u1897.2.1 178 i (fun q => by have q2 := q.2; omega)).trans ((f2.1 178 i (by decide) (by simp)).trans ((u1889.2.1 178 i (fun q => by have q2 := q.2; omega)).trans (ff.1 178 i (by decide) (by simp))))))))⟩)⟩
          · rw [show a + 2 + 1 = a + 3 from rfl] at c3
            have n3 : zLk R C rk 4 b t a 3 = false := zLk_0 (by rw [zb3]; omega)
            show zW n D 204 Q 129 [some (.ref 170), some (.int (zn (3 * l)))] [.int (Int32.ofInt (-1)), .int (zn (3 * l + 2)), .ref 178] ph1903
            refine w_ias (pc' := 130) (k := 3 * l + 2) (ykc_204 (e := (5, .iastore, 0)) rfl) (by omega) rfl (fun ph1912 u1911 => ?_)
            refine w_load (pc' := 131) (v := .ref 170) (m := 1) (ykc_204 (e := (2, .aload_n kF0, 0)) rfl) rfl rfl ?_
            refine w_alu (pc' := 132) (st' := [.ref 170, .ref 170]) (ykc_204 (e := (0, .dup, 0)) rfl) rfl rfl ?_
            refine w_gf (pc' := 135) (v := .int (zn l)) (ykc_204 (e := (5, .getfield 197, 0)) rfl) rfl ((u1911.2.1 170 20 (fun q => absurd q.1 (by decide))).trans ((f3.1 170 20 (by decide) (by decide)).trans ((u1897.2.1 170 20 (fun q => absurd q.1 (by decide))).trans ((f2.1 170 20 (by decide) (by decide)).trans ((u1889.2.1 170 20 (fun q => absurd q.1 (by decide))).trans ((ff.1 170 20 (by decide) (by decide)).trans hl)))))) rfl ?_
            refine w_alu (pc' := 136) (st' := [.int (Int32.ofInt 1), .int (zn l), .ref 170]) (ykc_204 (e := (0, .iconst 1, 0)) rfl) rfl rfl ?_
            have e1913 : (zn l) + (Int32.ofInt 1) = zn (l + 1) := (zaddN (a := l) (b := 1) (znt (by omega)) c_4 (by omega)) 
            have te1913 := znt (k := l + 1) (by omega)
            refine w_alu (pc' := 137) (st' := [.int (zn (l + 1)), .ref 170]) (ykc_204 (e := (0, .iadd, 0)) rfl) (by rw [← e1913]; rfl) rfl ?_
            refine w_pf (pc' := 140) (ykc_204 (e := (5, .putfield 197, 0)) rfl) rfl rfl (fun ph1915 u1914 => ?_)
            refine w_load (pc' := 141) (v := .ref 170) (m := 1) (ykc_204 (e := (2, .aload_n kF0, 0)) rfl) rfl rfl ?_
            refine w_gf (pc' := 144) (v := .ref 178) (ykc_204 (e := (5, .getfield 53, 0)) rfl) rfl ((u1914.2.1 170 19 (fun q => absurd q.2 (by decide))).trans ((u1911.2.1 170 19 (fun q => absurd q.1 (by decide))).trans ((f3.1 170 19 (by decide) (by decide)).trans ((u1897.2.1 170 19 (fun q => absurd q.1 (by decide))).trans ((f2.1 170 19 (by decide) (by decide)).trans ((u1889.2.1 170 19 (fun q => absurd q.1 (by decide))).trans ((ff.1 170 19 (by decide) (by decide)).trans (zsg hS zs_170_19)))))))) rfl ?_
            refine w_load (pc' := 145) (v := .int (zn (3 * l))) (m := 1) (ykc_204 (e := (2, .iload_n kF1, 0)) rfl) rfl rfl ?_
            refine w_alu (pc' := 146) (st' := [.int (Int32.ofInt 2), .int (zn (3 * l)), .ref 178]) (ykc_204 (e := (0, .iconst 2, 0)) rfl) rfl rfl ?_
            have e1916 : (zn (3 * l)) + (Int32.ofInt 2) = zn (3 * l + 2) := (zaddN (a := 3 * l) (b := 2) (znt (by omega)) c_5 (by omega)) 
            have te1916 := znt (k := 3 * l + 2) (by omega)
            refine w_alu (pc' := 147) (st' := [.int (zn (3 * l + 2)), .ref 178]) (ykc_204 (e := (0, .iadd, 0)) rfl) (by rw [← e1916]; rfl) rfl ?_
            refine w_ialk (pc' := 148) (k := 3 * l + 2) (ykc_204 (e := (5, .iaload, 0)) rfl) ((u1914.2.1 178 (3 * l + 2) (fun q => absurd q.1 (by decide))).trans u1911.1) (by omega) rfl ?_
            refine w_zlt (ykc_204 (e := (4, .ifCond .lt 7, 155)) rfl) rfl (fun b1917 => ?_) (fun q => by exfalso; omega)
            refine w_alu (pc' := 156) (st' := [.int (Int32.ofInt 0)]) (ykc_204 (e := (0, .iconst 0, 0)) rfl) rfl rfl ?_
            refine w_ret (v := (some (.int (Int32.ofInt 0)))) (ykc_204 (e := (7, .ireturn, 0)) rfl) zr_z ?_
            have hg := k3 y0 y1 y2 n3
            have f9 : zFr [178] [(170, 15), (170, 20)] ph ph1915 := (zFr_trans (zFr_trans (zFr_trans (zFr_trans (zFr_trans (zFr_trans (zFr_mono ff (by simp) (by simp)) (zFr_st u1889 (Or.inl (by simp)))) (zFr_mono f2 (by simp) (by simp))) (zFr_st u1897 (Or.inl (by simp)))) (zFr_mono f3 (by simp) (by simp))) (zFr_st u1911 (Or.inl (by simp)))) (zFr_st u1914 (Or.inr (by simp))))
            rw [hQ, zi0]
            exact ⟨f9, Or.inr (Or.inr ⟨by omega, by omega, rfl, by rw [hg]; exact (zTm_F (zFr_st u1914 (Or.inr (by simp)) : zFr [178] [(170, 20)] _ _) (by simp) (by simp) (by simp) (zTm_F (zFr_st u1911 (Or.inl (by simp)) : zFr [178] [(170, 20)] _ _) (by simp) (by simp) (by simp) hf3))⟩)⟩
          
        · have n2 : zLk R C rk 4 b t a 2 = false := zLk_0 (by rw [zb2]; omega)
          show zW n D 204 Q 100 [some (.ref 170), some (.int (zn (3 * l)))] [.int (Int32.ofInt (-1)), .int (zn (3 * l + 1)), .ref 178] ph1896
          refine w_ias (pc' := 101) (k := 3 * l + 1) (ykc_204 (e := (5, .iastore, 0)) rfl) (by omega) rfl (fun ph1919 u1918 => ?_)
          refine w_load (pc' := 102) (v := .ref 170) (m := 1) (ykc_204 (e := (2, .aload_n kF0, 0)) rfl) rfl rfl ?_
          refine w_gf (pc' := 105) (v := .ref 178) (ykc_204 (e := (5, .getfield 53, 0)) rfl) rfl ((u1918.2.1 170 19 (fun q => absurd q.1 (by decide))).trans ((f2.1 170 19 (by decide) (by decide)).trans ((u1889.2.1 170 19 (fun q => absurd q.1 (by decide))).trans ((ff.1 170 19 (by decide) (by decide)).trans (zsg hS zs_170_19))))) rfl ?_
          refine w_load (pc' := 106) (v := .int (zn (3 * l))) (m := 1) (ykc_204 (e := (2, .iload_n kF1, 0)) rfl) rfl rfl ?_
          refine w_alu (pc' := 107) (st' := [.int (Int32.ofInt 2), .int (zn (3 * l)), .ref 178]) (ykc_204 (e := (0, .iconst 2, 0)) rfl) rfl rfl ?_
          have e1920 : (zn (3 * l)) + (Int32.ofInt 2) = zn (3 * l + 2) := (zaddN (a := 3 * l) (b := 2) (znt (by omega)) c_5 (by omega)) 
          have te1920 := znt (k := 3 * l + 2) (by omega)
          refine w_alu (pc' := 108) (st' := [.int (zn (3 * l + 2)), .ref 178]) (ykc_204 (e := (0, .iadd, 0)) rfl) (by rw [← e1920]; rfl) rfl ?_
          refine w_load (pc' := 109) (v := .ref 170) (m := 1) (ykc_204 (e := (2, .aload_n kF0, 0)) rfl) rfl rfl ?_
          refine w_gf (pc' := 112) (v := .ref 178) (ykc_204 (e := (5, .getfield 53, 0)) rfl) rfl ((u1918.2.1 170 19 (fun q => absurd q.1 (by decide))).trans ((f2.1 170 19 (by decide) (by decide)).trans ((u1889.2.1 170 19 (fun q => absurd q.1 (by decide))).trans ((ff.1 170 19 (by decide) (by decide)).trans (zsg hS zs_170_19))))) rfl ?_
          refine w_load (pc' := 113) (v := .int (zn (3 * l))) (m := 1) (ykc_204 (e := (2, .iload_n kF1, 0)) rfl) rfl rfl ?_
          refine w_alu (pc' := 114) (st' := [.int (Int32.ofInt 1), .int (zn (3 * l)), .ref 178, .int (zn (3 * l + 2)), .ref 178]) (ykc_204 (e := (0, .iconst 1, 0)) rfl) rfl rfl ?_
          have e1921 : (zn (3 * l)) + (Int32.ofInt 1) = zn (3 * l + 1) := (zaddN (a := 3 * l) (b := 1) (znt (by omega)) c_4 (by omega)) 
          have te1921 := znt (k := 3 * l + 1) (by omega)
          refine w_alu (pc' := 115) (st' := [.int (zn (3 * l + 1)), .ref 178, .int (zn (3 * l + 2)), .ref 178]) (ykc_204 (e := (0, .iadd, 0)) rfl) (by rw [← e1921]; rfl) rfl ?_
          refine w_ialk (pc' := 116) (k := 3 * l + 1) (ykc_204 (e := (5, .iaload, 0)) rfl) u1918.1 (by omega) rfl ?_
          refine w_zge (ykc_204 (e := (4, .ifCond .ge 7, 123)) rfl) rfl (fun q => by exfalso; omega) (fun b1922 => ?_)
          refine w_alu (pc' := 120) (st' := [.int (Int32.ofInt (-1)), .int (zn (3 * l + 2)), .ref 178]) (ykc_204 (e := (0, .iconst (-1), 0)) rfl) rfl rfl ?_
          refine w_br (pc' := 129) (st' := [.int (Int32.ofInt (-1)), .int (zn (3 * l + 2)), .ref 178]) (ykc_204 (e := (4, .goto 9, 129)) rfl) rfl ?_
          refine w_ias (pc' := 130) (k := 3 * l + 2) (ykc_204 (e := (5, .iastore, 0)) rfl) (by omega) rfl (fun ph1924 u1923 => ?_)
          refine w_load (pc' := 131) (v := .ref 170) (m := 1) (ykc_204 (e := (2, .aload_n kF0, 0)) rfl) rfl rfl ?_
          refine w_alu (pc' := 132) (st' := [.ref 170, .ref 170]) (ykc_204 (e := (0, .dup, 0)) rfl) rfl rfl ?_
          refine w_gf (pc' := 135) (v := .int (zn l)) (ykc_204 (e := (5, .getfield 197, 0)) rfl) rfl ((u1923.2.1 170 20 (fun q => absurd q.1 (by decide))).trans ((u1918.2.1 170 20 (fun q => absurd q.1 (by decide))).trans ((f2.1 170 20 (by decide) (by decide)).trans ((u1889.2.1 170 20 (fun q => absurd q.1 (by decide))).trans ((ff.1 170 20 (by decide) (by decide)).trans hl))))) rfl ?_
          refine w_alu (pc' := 136) (st' := [.int (Int32.ofInt 1), .int (zn l), .ref 170]) (ykc_204 (e := (0, .iconst 1, 0)) rfl) rfl rfl ?_
          have e1925 : (zn l) + (Int32.ofInt 1) = zn (l + 1) := (zaddN (a := l) (b := 1) (znt (by omega)) c_4 (by omega)) 
          have te1925 := znt (k := l + 1) (by omega)
          refine w_alu (pc' := 137) (st' := [.int (zn (l + 1)), .ref 170]) (ykc_204 (e := (0, .iadd, 0)) rfl) (by rw [← e1925]; rfl) rfl ?_
          refine w_pf (pc' := 140) (ykc_204 (e := (5, .putfield 197, 0)) rfl) rfl rfl (fun ph1927 u1926 => ?_)
          refine w_load (pc' := 141) (v := .ref 170) (m := 1) (ykc_204 (e := (2, .aload_n kF0, 0)) rfl) rfl rfl ?_
          refine w_gf (pc' := 144) (v := .ref 178) (ykc_204 (e := (5, .getfield 53, 0)) rfl) rfl ((u1926.2.1 170 19 (fun q => absurd q.2 (by decide))).trans ((u1923.2.1 170 19 (fun q => absurd q.1 (by decide))).trans ((u1918.2.1 170 19 (fun q => absurd q.1 (by decide))).trans ((f2.1 170 19 (by decide) (by decide)).trans ((u1889.2.1 170 19 (fun q => absurd q.1 (by decide))).trans ((ff.1 170 19 (by decide) (by decide)).trans (zsg hS zs_170_19))))))) rfl ?_
          refine w_load (pc' := 145) (v := .int (zn (3 * l))) (m := 1) (ykc_204 (e := (2, .iload_n kF1, 0)) rfl) rfl rfl ?_
          refine w_alu (pc' := 146) (st' := [.int (Int32.ofInt 2), .int (zn (3 * l)), .ref 178]) (ykc_204 (e := (0, .iconst 2, 0)) rfl) rfl rfl ?_
          have e1928 : (zn (3 * l)) + (Int32.ofInt 2) = zn (3 * l + 2) := (zaddN (a := 3 * l) (b := 2) (znt (by omega)) c_5 (by omega)) 
          have te1928 := znt (k := 3 * l + 2) (by omega)
          refine w_alu (pc' := 147) (st' := [.int (zn (3 * l + 2)), .ref 178]) (ykc_204 (e := (0, .iadd, 0)) rfl) (by rw [← e1928]; rfl) rfl ?_
          refine w_ialk (pc' := 148) (k := 3 * l + 2) (ykc_204 (e := (5, .iaload, 0)) rfl) ((u1926.2.1 178 (3 * l + 2) (fun q => absurd q.1 (by decide))).trans u1923.1) (by omega) rfl ?_
          refine w_zlt (ykc_204 (e := (4, .ifCond .lt 7, 155)) rfl) rfl (fun b1929 => ?_) (fun q => by exfalso; omega)
          refine w_alu (pc' := 156) (st' := [.int (Int32.ofInt 0)]) (ykc_204 (e := (0, .iconst 0, 0)) rfl) rfl rfl ?_
          refine w_ret (v := (some (.int (Int32.ofInt 0)))) (ykc_204 (e := (7, .ireturn, 0)) rfl) zr_z ?_
          have hg := k2 y0 y1 n2
          have f9 : zFr [178] [(170, 15), (170, 20)] ph ph1927 := (zFr_trans (zFr_trans (zFr_trans (zFr_trans (zFr_trans (zFr_mono ff (by simp) (by simp)) (zFr_st u1889 (Or.inl (by simp)))) (zFr_mono f2 (by simp) (by simp))) (zFr_st u1918 (Or.inl (by simp)))) (zFr_st u1923 (Or.inl (by simp)))) (zFr_st u1926 (Or.inr (by simp))))
          rw [hQ, zi0]
          exact ⟨f9, Or.inr (Or.inr ⟨by omega, by omega, rfl, by rw [hg]; exact (zTm_F (zFr_st u1926 (Or.inr (by simp)) : zFr [178] [(170, 20)] _ _) (by simp) (by simp) (by simp) (zTm_F (zFr_st u1923 (Or.inl (by simp)) : zFr [178] [(170, 20)] _ _) (by simp) (by simp) (by simp) (zTm_F (zFr_st u1918 (Or.inl (by simp)) : zFr [178] [(170, 20)] _ _) (by simp) (by simp) (by simp) hf2)))⟩)⟩
        
      · have hrk := b1892
        have n1 : zLk R C rk 4 b t a 1 = false := zLk_r ⟨rfl, rfl⟩ hrk
        refine w_load (pc' := 57) (v := .ref 170) (m := 1) (ykc_204 (e := (2, .aload_n kF0, 0)) rfl) rfl rfl ?_
        refine w_alu (pc' := 58) (st' := [.ref 170, .ref 170]) (ykc_204 (e := (0, .dup, 0)) rfl) rfl rfl ?_
        refine w_gf (pc' := 61) (v := .int (zn (a + 2))) (ykc_204 (e := (5, .getfield 139, 0)) rfl) rfl ((u1889.2.1 170 15 (fun q => absurd q.1 (by decide))).trans hff.1) rfl ?_
        refine w_alu (pc' := 62) (st' := [.int (Int32.ofInt 1), .int (zn (a + 2)), .ref 170]) (ykc_204 (e := (0, .iconst 1, 0)) rfl) rfl rfl ?_
        have e1930 : (zn (a + 2)) - (Int32.ofInt 1) = zn (a + 1) := zsubN (a := a + 2) (b := 1) (znt (by omega)) c_4 (by omega)
        have te1930 := znt (k := a + 1) (by omega)
        refine w_alu (pc' := 63) (st' := [.int (zn (a + 1)), .ref 170]) (ykc_204 (e := (0, .isub, 0)) rfl) (by show some ([.int ((zn (a + 2)) - (Int32.ofInt 1)), .ref 170] : List Value) = _; rw [e1930]) rfl ?_
        refine w_pf (pc' := 66) (ykc_204 (e := (5, .putfield 139, 0)) rfl) rfl rfl (fun ph1932 u1931 => ?_)
        refine w_load (pc' := 67) (v := .ref 170) (m := 1) (ykc_204 (e := (2, .aload_n kF0, 0)) rfl) rfl rfl ?_
        refine w_gf (pc' := 70) (v := .ref 178) (ykc_204 (e := (5, .getfield 53, 0)) rfl) rfl ((u1931.2.1 170 19 (fun q => absurd q.2 (by decide))).trans ((u1889.2.1 170 19 (fun q => absurd q.1 (by decide))).trans ((ff.1 170 19 (by decide) (by decide)).trans (zsg hS zs_170_19)))) rfl ?_
        refine w_load (pc' := 71) (v := .int (zn (3 * l))) (m := 1) (ykc_204 (e := (2, .iload_n kF1, 0)) rfl) rfl rfl ?_
        refine w_alu (pc' := 72) (st' := [.int (Int32.ofInt (-1)), .int (zn (3 * l)), .ref 178]) (ykc_204 (e := (0, .iconst (-1), 0)) rfl) rfl rfl ?_
        refine w_ias (pc' := 73) (k := 3 * l) (ykc_204 (e := (5, .iastore, 0)) rfl) (by omega) rfl (fun ph1934 u1933 => ?_)
        have hT1 := zTm_u u1931 (a' := a + 1) (by omega) (zTm_F (zFr_st u1889 (Or.inl (by simp)) : zFr [178] [(170, 20)] _ _) (by simp) (by simp) (by simp) hff)
        refine w_load (pc' := 74) (v := .ref 170) (m := 1) (ykc_204 (e := (2, .aload_n kF0, 0)) rfl) rfl rfl ?_
        refine w_gf (pc' := 77) (v := .ref 178) (ykc_204 (e := (5, .getfield 53, 0)) rfl) rfl ((u1933.2.1 170 19 (fun q => absurd q.1 (by decide))).trans ((u1931.2.1 170 19 (fun q => absurd q.2 (by decide))).trans ((u1889.2.1 170 19 (fun q => absurd q.1 (by decide))).trans ((ff.1 170 19 (by decide) (by decide)).trans (zsg hS zs_170_19))))) rfl ?_
        refine w_load (pc' := 78) (v := .int (zn (3 * l))) (m := 1) (ykc_204 (e := (2, .iload_n kF1, 0)) rfl) rfl rfl ?_
        refine w_alu (pc' := 79) (st' := [.int (Int32.ofInt 1), .int (zn (3 * l)), .ref 178]) (ykc_204 (e := (0, .iconst 1, 0)) rfl) rfl rfl ?_
        have e1935 : (zn (3 * l)) + (Int32.ofInt 1) = zn (3 * l + 1) := (zaddN (a := 3 * l) (b := 1) (znt (by omega)) c_4 (by omega)) 
        have te1935 := znt (k := 3 * l + 1) (by omega)
        refine w_alu (pc' := 80) (st' := [.int (zn (3 * l + 1)), .ref 178]) (ykc_204 (e := (0, .iadd, 0)) rfl) (by rw [← e1935]; rfl) rfl ?_
        refine w_load (pc' := 81) (v := .ref 170) (m := 1) (ykc_204 (e := (2, .aload_n kF0, 0)) rfl) rfl rfl ?_
        refine w_gf (pc' := 84) (v := .ref 178) (ykc_204 (e := (5, .getfield 53, 0)) rfl) rfl ((u1933.2.1 170 19 (fun q => absurd q.1 (by decide))).trans ((u1931.2.1 170 19 (fun q => absurd q.2 (by decide))).trans ((u1889.2.1 170 19 (fun q => absurd q.1 (by decide))).trans ((ff.1 170 19 (by decide) (by decide)).trans (zsg hS zs_170_19))))) rfl ?_
        refine w_load (pc' := 85) (v := .int (zn (3 * l))) (m := 1) (ykc_204 (e := (2, .iload_n kF1, 0)) rfl) rfl rfl ?_
        refine w_ialk (pc' := 86) (k := 3 * l) (ykc_204 (e := (5, .iaload, 0)) rfl) u1933.1 (by omega) rfl ?_
        refine w_zge (ykc_204 (e := (4, .ifCond .ge 7, 93)) rfl) rfl (fun q => by exfalso; omega) (fun b1936 => ?_)
        refine w_alu (pc' := 90) (st' := [.int (Int32.ofInt (-1)), .int (zn (3 * l + 1)), .ref 178]) (ykc_204 (e := (0, .iconst (-1), 0)) rfl) rfl rfl ?_
        refine w_br (pc' := 100) (st' := [.int (Int32.ofInt (-1)), .int (zn (3 * l + 1)), .ref 178]) (ykc_204 (e := (4, .goto 10, 100)) rfl) rfl ?_
        refine w_ias (pc' := 101) (k := 3 * l + 1) (ykc_204 (e := (5, .iastore, 0)) rfl) (by omega) rfl (fun ph1938 u1937 => ?_)
        refine w_load (pc' := 102) (v := .ref 170) (m := 1) (ykc_204 (e := (2, .aload_n kF0, 0)) rfl) rfl rfl ?_
        refine w_gf (pc' := 105) (v := .ref 178) (ykc_204 (e := (5, .getfield 53, 0)) rfl) rfl ((u1937.2.1 170 19 (fun q => absurd q.1 (by decide))).trans ((u1933.2.1 170 19 (fun q => absurd q.1 (by decide))).trans ((u1931.2.1 170 19 (fun q => absurd q.2 (by decide))).trans ((u1889.2.1 170 19 (fun q => absurd q.1 (by decide))).trans ((ff.1 170 19 (by decide) (by decide)).trans (zsg hS zs_170_19)))))) rfl ?_
        refine w_load (pc' := 106) (v := .int (zn (3 * l))) (m := 1) (ykc_204 (e := (2, .iload_n kF1, 0)) rfl) rfl rfl ?_
        refine w_alu (pc' := 107) (st' := [.int (Int32.ofInt 2), .int (zn (3 * l)), .ref 178]) (ykc_204 (e := (0, .iconst 2, 0)) rfl) rfl rfl ?_
        have e1939 : (zn (3 * l)) + (Int32.ofInt 2) = zn (3 * l + 2) := (zaddN (a := 3 * l) (b := 2) (znt (by omega)) c_5 (by omega)) 
        have te1939 := znt (k := 3 * l + 2) (by omega)
        refine w_alu (pc' := 108) (st' := [.int (zn (3 * l + 2)), .ref 178]) (ykc_204 (e := (0, .iadd, 0)) rfl) (by rw [← e1939]; rfl) rfl ?_
        refine w_load (pc' := 109) (v := .ref 170) (m := 1) (ykc_204 (e := (2, .aload_n kF0, 0)) rfl) rfl rfl ?_
        refine w_gf (pc' := 112) (v := .ref 178) (ykc_204 (e := (5, .getfield 53, 0)) rfl) rfl ((u1937.2.1 170 19 (fun q => absurd q.1 (by decide))).trans ((u1933.2.1 170 19 (fun q => absurd q.1 (by decide))).trans ((u1931.2.1 170 19 (fun q => absurd q.2 (by decide))).trans ((u1889.2.1 170 19 (fun q => absurd q.1 (by decide))).trans ((ff.1 170 19 (by decide) (by decide)).trans (zsg hS zs_170_19)))))) rfl ?_
        refine w_load (pc' := 113) (v := .int (zn (3 * l))) (m := 1) (ykc_204 (e := (2, .iload_n kF1, 0)) rfl) rfl rfl ?_
        refine w_alu (pc' := 114) (st' := [.int (Int32.ofInt 1), .int (zn (3 * l)), .ref 178, .int (zn (3 * l + 2)), .ref 178]) (ykc_204 (e := (0, .iconst 1, 0)) rfl) rfl rfl ?_
        have e1940 : (zn (3 * l)) + (Int32.ofInt 1) = zn (3 * l + 1) := (zaddN (a := 3 * l) (b := 1) (znt (by omega)) c_4 (by omega)) 
        have te1940 := znt (k := 3 * l + 1) (by omega)
        refine w_alu (pc' := 115) (st' := [.int (zn (3 * l + 1)), .ref 178, .int (zn (3 * l + 2)), .ref 178]) (ykc_204 (e := (0, .iadd, 0)) rfl) (by rw [← e1940]; rfl) rfl ?_
        refine w_ialk (pc' := 116) (k := 3 * l + 1) (ykc_204 (e := (5, .iaload, 0)) rfl) u1937.1 (by omega) rfl ?_
        refine w_zge (ykc_204 (e := (4, .ifCond .ge 7, 123)) rfl) rfl (fun q => by exfalso; omega) (fun b1941 => ?_)
        refine w_alu (pc' := 120) (st' := [.int (Int32.ofInt (-1)), .int (zn (3 * l + 2)), .ref 178]) (ykc_204 (e := (0, .iconst (-1), 0)) rfl) rfl rfl ?_
        refine w_br (pc' := 129) (st' := [.int (Int32.ofInt (-1)), .int (zn (3 * l + 2)), .ref 178]) (ykc_204 (e := (4, .goto 9, 129)) rfl) rfl ?_
        refine w_ias (pc' := 130) (k := 3 * l + 2) (ykc_204 (e := (5, .iastore, 0)) rfl) (by omega) rfl (fun ph1943 u1942 => ?_)
        refine w_load (pc' := 131) (v := .ref 170) (m := 1) (ykc_204 (e := (2, .aload_n kF0, 0)) rfl) rfl rfl ?_
        refine w_alu (pc' := 132) (st' := [.ref 170, .ref 170]) (ykc_204 (e := (0, .dup, 0)) rfl) rfl rfl ?_
        refine w_gf (pc' := 135) (v := .int (zn l)) (ykc_204 (e := (5, .getfield 197, 0)) rfl) rfl ((u1942.2.1 170 20 (fun q => absurd q.1 (by decide))).trans ((u1937.2.1 170 20 (fun q => absurd q.1 (by decide))).trans ((u1933.2.1 170 20 (fun q => absurd q.1 (by decide))).trans ((u1931.2.1 170 20 (fun q => absurd q.2 (by decide))).trans ((u1889.2.1 170 20 (fun q => absurd q.1 (by decide))).trans ((ff.1 170 20 (by decide) (by decide)).trans hl)))))) rfl ?_
        refine w_alu (pc' := 136) (st' := [.int (Int32.ofInt 1), .int (zn l), .ref 170]) (ykc_204 (e := (0, .iconst 1, 0)) rfl) rfl rfl ?_
        have e1944 : (zn l) + (Int32.ofInt 1) = zn (l + 1) := (zaddN (a := l) (b := 1) (znt (by omega)) c_4 (by omega)) 
        have te1944 := znt (k := l + 1) (by omega)
        refine w_alu (pc' := 137) (st' := [.int (zn (l + 1)), .ref 170]) (ykc_204 (e := (0, .iadd, 0)) rfl) (by rw [← e1944]; rfl) rfl ?_
        refine w_pf (pc' := 140) (ykc_204 (e := (5, .putfield 197, 0)) rfl) rfl rfl (fun ph1946 u1945 => ?_)
        refine w_load (pc' := 141) (v := .ref 170) (m := 1) (ykc_204 (e := (2, .aload_n kF0, 0)) rfl) rfl rfl ?_
        refine w_gf (pc' := 144) (v := .ref 178) (ykc_204 (e := (5, .getfield 53, 0)) rfl) rfl ((u1945.2.1 170 19 (fun q => absurd q.2 (by decide))).trans ((u1942.2.1 170 19 (fun q => absurd q.1 (by decide))).trans ((u1937.2.1 170 19 (fun q => absurd q.1 (by decide))).trans ((u1933.2.1 170 19 (fun q => absurd q.1 (by decide))).trans ((u1931.2.1 170 19 (fun q => absurd q.2 (by decide))).trans ((u1889.2.1 170 19 (fun q => absurd q.1 (by decide))).trans ((ff.1 170 19 (by decide) (by decide)).trans (zsg hS zs_170_19)))))))) rfl ?_
        refine w_load (pc' := 145) (v := .int (zn (3 * l))) (m := 1) (ykc_204 (e := (2, .iload_n kF1, 0)) rfl) rfl rfl ?_
        refine w_alu (pc' := 146) (st' := [.int (Int32.ofInt 2), .int (zn (3 * l)), .ref 178]) (ykc_204 (e := (0, .iconst 2, 0)) rfl) rfl rfl ?_
        have e1947 : (zn (3 * l)) + (Int32.ofInt 2) = zn (3 * l + 2) := (zaddN (a := 3 * l) (b := 2) (znt (by omega)) c_5 (by omega)) 
        have te1947 := znt (k := 3 * l + 2) (by omega)
        refine w_alu (pc' := 147) (st' := [.int (zn (3 * l + 2)), .ref 178]) (ykc_204 (e := (0, .iadd, 0)) rfl) (by rw [← e1947]; rfl) rfl ?_
        refine w_ialk (pc' := 148) (k := 3 * l + 2) (ykc_204 (e := (5, .iaload, 0)) rfl) ((u1945.2.1 178 (3 * l + 2) (fun q => absurd q.1 (by decide))).trans u1942.1) (by omega) rfl ?_
        refine w_zlt (ykc_204 (e := (4, .ifCond .lt 7, 155)) rfl) rfl (fun b1948 => ?_) (fun q => by exfalso; omega)
        refine w_alu (pc' := 156) (st' := [.int (Int32.ofInt 0)]) (ykc_204 (e := (0, .iconst 0, 0)) rfl) rfl rfl ?_
        refine w_ret (v := (some (.int (Int32.ofInt 0)))) (ykc_204 (e := (7, .ireturn, 0)) rfl) zr_z ?_
        have hg := k1 y0 n1
        have f9 : zFr [178] [(170, 15), (170, 20)] ph ph1946 := (zFr_trans (zFr_trans (zFr_trans (zFr_trans (zFr_trans (zFr_trans (zFr_mono ff (by simp) (by simp)) (zFr_st u1889 (Or.inl (by simp)))) (zFr_st u1931 (Or.inr (by simp)))) (zFr_st u1933 (Or.inl (by simp)))) (zFr_st u1937 (Or.inl (by simp)))) (zFr_st u1942 (Or.inl (by simp)))) (zFr_st u1945 (Or.inr (by simp))))
        rw [hQ, zi0]
        exact ⟨f9, Or.inr (Or.inr ⟨by omega, by omega, rfl, by rw [hg]; exact (zTm_F (zFr_st u1945 (Or.inr (by simp)) : zFr [178] [(170, 20)] _ _) (by simp) (by simp) (by simp) (zTm_F (zFr_st u1942 (Or.inl (by simp)) : zFr [178] [(170, 20)] _ _) (by simp) (by simp) (by simp) (zTm_F (zFr_st u1937 (Or.inl (by simp)) : zFr [178] [(170, 20)] _ _) (by simp) (by simp) (by simp) (zTm_F (zFr_st u1933 (Or.inl (by simp)) : zFr [178] [(170, 20)] _ _) (by simp) (by simp) (by simp) hT1))))⟩)⟩
    · have y0 : zLk R C rk 4 b t a 0 = true := zLk_t (i := 0) (by rw [zb0]; exact r1) (Or.inl (by omega))
      have n1 : zLk R C rk 4 b t a 1 = false := zLk_n (i := 1) (by rw [zb1]; exact r2)
      have tm1 : (Int32.ofInt (-1)).toInt = -1 := by decide
      show zW n D 204 Q 32 [some (.ref 170), some (.int (zn (3 * l)))] [.int (Int32.ofInt (-1)), .int (zn (3 * l)), .ref 178] ph1888
      refine w_ias (pc' := 33) (k := 3 * l) (ykc_204 (e := (5, .iastore, 0)) rfl) (by omega) rfl (fun ph1950 u1949 => ?_)
      refine w_load (pc' := 34) (v := .ref 170) (m := 1) (ykc_204 (e := (2, .aload_n kF0, 0)) rfl) rfl rfl ?_
      refine w_gf (pc' := 37) (v := .ref 178) (ykc_204 (e := (5, .getfield 53, 0)) rfl) rfl ((u1949.2.1 170 19 (fun q => absurd q.1 (by decide))).trans ((ff.1 170 19 (by decide) (by decide)).trans (zsg hS zs_170_19))) rfl ?_
      refine w_load (pc' := 38) (v := .int (zn (3 * l))) (m := 1) (ykc_204 (e := (2, .iload_n kF1, 0)) rfl) rfl rfl ?_
      refine w_ialk (pc' := 39) (k := 3 * l) (ykc_204 (e := (5, .iaload, 0)) rfl) u1949.1 (by omega) rfl ?_
      refine w_zlt (ykc_204 (e := (4, .ifCond .lt 34, 73)) rfl) rfl (fun b1951 => ?_) (fun q => by exfalso; omega)
      refine w_load (pc' := 74) (v := .ref 170) (m := 1) (ykc_204 (e := (2, .aload_n kF0, 0)) rfl) rfl rfl ?_
      refine w_gf (pc' := 77) (v := .ref 178) (ykc_204 (e := (5, .getfield 53, 0)) rfl) rfl ((u1949.2.1 170 19 (fun q => absurd q.1 (by decide))).trans ((ff.1 170 19 (by decide) (by decide)).trans (zsg hS zs_170_19))) rfl ?_
      refine w_load (pc' := 78) (v := .int (zn (3 * l))) (m := 1) (ykc_204 (e := (2, .iload_n kF1, 0)) rfl) rfl rfl ?_
      refine w_alu (pc' := 79) (st' := [.int (Int32.ofInt 1), .int (zn (3 * l)), .ref 178]) (ykc_204 (e := (0, .iconst 1, 0)) rfl) rfl rfl ?_
      have e1952 : (zn (3 * l)) + (Int32.ofInt 1) = zn (3 * l + 1) := (zaddN (a := 3 * l) (b := 1) (znt (by omega)) c_4 (by omega)) 
      have te1952 := znt (k := 3 * l + 1) (by omega)
      refine w_alu (pc' := 80) (st' := [.int (zn (3 * l + 1)), .ref 178]) (ykc_204 (e := (0, .iadd, 0)) rfl) (by rw [← e1952]; rfl) rfl ?_
      refine w_load (pc' := 81) (v := .ref 170) (m := 1) (ykc_204 (e := (2, .aload_n kF0, 0)) rfl) rfl rfl ?_
      refine w_gf (pc' := 84) (v := .ref 178) (ykc_204 (e := (5, .getfield 53, 0)) rfl) rfl ((u1949.2.1 170 19 (fun q => absurd q.1 (by decide))).trans ((ff.1 170 19 (by decide) (by decide)).trans (zsg hS zs_170_19))) rfl ?_
      refine w_load (pc' := 85) (v := .int (zn (3 * l))) (m := 1) (ykc_204 (e := (2, .iload_n kF1, 0)) rfl) rfl rfl ?_
      refine w_ialk (pc' := 86) (k := 3 * l) (ykc_204 (e := (5, .iaload, 0)) rfl) u1949.1 (by omega) rfl ?_
      refine w_zge (ykc_204 (e := (4, .ifCond .ge 7, 93)) rfl) rfl (fun q => by exfalso; omega) (fun b1953 => ?_)
      refine w_alu (pc' := 90) (st' := [.int (Int32.ofInt (-1)), .int (zn (3 * l + 1)), .ref 178]) (ykc_204 (e := (0, .iconst (-1), 0)) rfl) rfl rfl ?_
      refine w_br (pc' := 100) (st' := [.int (Int32.ofInt (-1)), .int (zn (3 * l + 1)), .ref 178]) (ykc_204 (e := (4, .goto 10, 100)) rfl) rfl ?_
      refine w_ias (pc' := 101) (k := 3 * l + 1) (ykc_204 (e := (5, .iastore, 0)) rfl) (by omega) rfl (fun ph1955 u1954 => ?_)
      refine w_load (pc' := 102) (v := .ref 170) (m := 1) (ykc_204 (e := (2, .aload_n kF0, 0)) rfl) rfl rfl ?_
      refine w_gf (pc' := 105) (v := .ref 178) (ykc_204 (e := (5, .getfield 53, 0)) rfl) rfl ((u1954.2.1 170 19 (fun q => absurd q.1 (by decide))).trans ((u1949.2.1 170 19 (fun q => absurd q.1 (by decide))).trans ((ff.1 170 19 (by decide) (by decide)).trans (zsg hS zs_170_19)))) rfl ?_
      refine w_load (pc' := 106) (v := .int (zn (3 * l))) (m := 1) (ykc_204 (e := (2, .iload_n kF1, 0)) rfl) rfl rfl ?_
      refine w_alu (pc' := 107) (st' := [.int (Int32.ofInt 2), .int (zn (3 * l)), .ref 178]) (ykc_204 (e := (0, .iconst 2, 0)) rfl) rfl rfl ?_
      have e1956 : (zn (3 * l)) + (Int32.ofInt 2) = zn (3 * l + 2) := (zaddN (a := 3 * l) (b := 2) (znt (by omega)) c_5 (by omega)) 
      have te1956 := znt (k := 3 * l + 2) (by omega)
      refine w_alu (pc' := 108) (st' := [.int (zn (3 * l + 2)), .ref 178]) (ykc_204 (e := (0, .iadd, 0)) rfl) (by rw [← e1956]; rfl) rfl ?_
      refine w_load (pc' := 109) (v := .ref 170) (m := 1) (ykc_204 (e := (2, .aload_n kF0, 0)) rfl) rfl rfl ?_
      refine w_gf (pc' := 112) (v := .ref 178) (ykc_204 (e := (5, .getfield 53, 0)) rfl) rfl ((u1954.2.1 170 19 (fun q => absurd q.1 (by decide))).trans ((u1949.2.1 170 19 (fun q => absurd q.1 (by decide))).trans ((ff.1 170 19 (by decide) (by decide)).trans (zsg hS zs_170_19)))) rfl ?_
      refine w_load (pc' := 113) (v := .int (zn (3 * l))) (m := 1) (ykc_204 (e := (2, .iload_n kF1, 0)) rfl) rfl rfl ?_
      refine w_alu (pc' := 114) (st' := [.int (Int32.ofInt 1), .int (zn (3 * l)), .ref 178, .int (zn (3 * l + 2)), .ref 178]) (ykc_204 (e := (0, .iconst 1, 0)) rfl) rfl rfl ?_
      have e1957 : (zn (3 * l)) + (Int32.ofInt 1) = zn (3 * l + 1) := (zaddN (a := 3 * l) (b := 1) (znt (by omega)) c_4 (by omega)) 
      have te1957 := znt (k := 3 * l + 1) (by omega)
      refine w_alu (pc' := 115) (st' := [.int (zn (3 * l + 1)), .ref 178, .int (zn (3 * l + 2)), .ref 178]) (ykc_204 (e := (0, .iadd, 0)) rfl) (by rw [← e1957]; rfl) rfl ?_
      refine w_ialk (pc' := 116) (k := 3 * l + 1) (ykc_204 (e := (5, .iaload, 0)) rfl) u1954.1 (by omega) rfl ?_
      refine w_zge (ykc_204 (e := (4, .ifCond .ge 7, 123)) rfl) rfl (fun q => by exfalso; omega) (fun b1958 => ?_)
      refine w_alu (pc' := 120) (st' := [.int (Int32.ofInt (-1)), .int (zn (3 * l + 2)), .ref 178]) (ykc_204 (e := (0, .iconst (-1), 0)) rfl) rfl rfl ?_
      refine w_br (pc' := 129) (st' := [.int (Int32.ofInt (-1)), .int (zn (3 * l + 2)), .ref 178]) (ykc_204 (e := (4, .goto 9, 129)) rfl) rfl ?_
      refine w_ias (pc' := 130) (k := 3 * l + 2) (ykc_204 (e := (5, .iastore, 0)) rfl) (by omega) rfl (fun ph1960 u1959 => ?_)
      refine w_load (pc' := 131) (v := .ref 170) (m := 1) (ykc_204 (e := (2, .aload_n kF0, 0)) rfl) rfl rfl ?_
      refine w_alu (pc' := 132) (st' := [.ref 170, .ref 170]) (ykc_204 (e := (0, .dup, 0)) rfl) rfl rfl ?_
      refine w_gf (pc' := 135) (v := .int (zn l)) (ykc_204 (e := (5, .getfield 197, 0)) rfl) rfl ((u1959.2.1 170 20 (fun q => absurd q.1 (by decide))).trans ((u1954.2.1 170 20 (fun q => absurd q.1 (by decide))).trans ((u1949.2.1 170 20 (fun q => absurd q.1 (by decide))).trans ((ff.1 170 20 (by decide) (by decide)).trans hl)))) rfl ?_
      refine w_alu (pc' := 136) (st' := [.int (Int32.ofInt 1), .int (zn l), .ref 170]) (ykc_204 (e := (0, .iconst 1, 0)) rfl) rfl rfl ?_
      have e1961 : (zn l) + (Int32.ofInt 1) = zn (l + 1) := (zaddN (a := l) (b := 1) (znt (by omega)) c_4 (by omega)) 
      have te1961 := znt (k := l + 1) (by omega)
      refine w_alu (pc' := 137) (st' := [.int (zn (l + 1)), .ref 170]) (ykc_204 (e := (0, .iadd, 0)) rfl) (by rw [← e1961]; rfl) rfl ?_
      refine w_pf (pc' := 140) (ykc_204 (e := (5, .putfield 197, 0)) rfl) rfl rfl (fun ph1963 u1962 => ?_)
      refine w_load (pc' := 141) (v := .ref 170) (m := 1) (ykc_204 (e := (2, .aload_n kF0, 0)) rfl) rfl rfl ?_
      refine w_gf (pc' := 144) (v := .ref 178) (ykc_204 (e := (5, .getfield 53, 0)) rfl) rfl ((u1962.2.1 170 19 (fun q => absurd q.2 (by decide))).trans ((u1959.2.1 170 19 (fun q => absurd q.1 (by decide))).trans ((u1954.2.1 170 19 (fun q => absurd q.1 (by decide))).trans ((u1949.2.1 170 19 (fun q => absurd q.1 (by decide))).trans ((ff.1 170 19 (by decide) (by decide)).trans (zsg hS zs_170_19)))))) rfl ?_
      refine w_load (pc' := 145) (v := .int (zn (3 * l))) (m := 1) (ykc_204 (e := (2, .iload_n kF1, 0)) rfl) rfl rfl ?_
      refine w_alu (pc' := 146) (st' := [.int (Int32.ofInt 2), .int (zn (3 * l)), .ref 178]) (ykc_204 (e := (0, .iconst 2, 0)) rfl) rfl rfl ?_
      have e1964 : (zn (3 * l)) + (Int32.ofInt 2) = zn (3 * l + 2) := (zaddN (a := 3 * l) (b := 2) (znt (by omega)) c_5 (by omega)) 
      have te1964 := znt (k := 3 * l + 2) (by omega)
      refine w_alu (pc' := 147) (st' := [.int (zn (3 * l + 2)), .ref 178]) (ykc_204 (e := (0, .iadd, 0)) rfl) (by rw [← e1964]; rfl) rfl ?_
      refine w_ialk (pc' := 148) (k := 3 * l + 2) (ykc_204 (e := (5, .iaload, 0)) rfl) ((u1962.2.1 178 (3 * l + 2) (fun q => absurd q.1 (by decide))).trans u1959.1) (by omega) rfl ?_
      refine w_zlt (ykc_204 (e := (4, .ifCond .lt 7, 155)) rfl) rfl (fun b1965 => ?_) (fun q => by exfalso; omega)
      refine w_alu (pc' := 156) (st' := [.int (Int32.ofInt 0)]) (ykc_204 (e := (0, .iconst 0, 0)) rfl) rfl rfl ?_
      refine w_ret (v := (some (.int (Int32.ofInt 0)))) (ykc_204 (e := (7, .ireturn, 0)) rfl) zr_z ?_
      have hg := k1 y0 n1
      have f9 : zFr [178] [(170, 15), (170, 20)] ph ph1963 := (zFr_trans (zFr_trans (zFr_trans (zFr_trans (zFr_mono ff (by simp) (by simp)) (zFr_st u1949 (Or.inl (by simp)))) (zFr_st u1954 (Or.inl (by simp)))) (zFr_st u1959 (Or.inl (by simp)))) (zFr_st u1962 (Or.inr (by simp))))
      rw [hQ, zi0]
      exact ⟨f9, Or.inr (Or.inr ⟨by omega, by omega, rfl, by rw [hg]; exact (zTm_F (zFr_st u1962 (Or.inr (by simp)) : zFr [178] [(170, 20)] _ _) (by simp) (by simp) (by simp) (zTm_F (zFr_st u1959 (Or.inl (by simp)) : zFr [178] [(170, 20)] _ _) (by simp) (by simp) (by simp) (zTm_F (zFr_st u1954 (Or.inl (by simp)) : zFr [178] [(170, 20)] _ _) (by simp) (by simp) (by simp) (zTm_F (zFr_st u1949 (Or.inl (by simp)) : zFr [178] [(170, 20)] _ _) (by simp) (by simp) (by simp) hff))))⟩)⟩
    · have n0 : zLk R C rk 4 b t a 0 = false := zLk_n (i := 0) (by rw [zb0]; exact r1)
      have tm1 : (Int32.ofInt (-1)).toInt = -1 := by decide
      show zW n D 204 Q 32 [some (.ref 170), some (.int (zn (3 * l)))] [.int (Int32.ofInt (-1)), .int (zn (3 * l)), .ref 178] ph1888
      refine w_ias (pc' := 33) (k := 3 * l) (ykc_204 (e := (5, .iastore, 0)) rfl) (by omega) rfl (fun ph1967 u1966 => ?_)
      refine w_load (pc' := 34) (v := .ref 170) (m := 1) (ykc_204 (e := (2, .aload_n kF0, 0)) rfl) rfl rfl ?_
      refine w_gf (pc' := 37) (v := .ref 178) (ykc_204 (e := (5, .getfield 53, 0)) rfl) rfl ((u1966.2.1 170 19 (fun q => absurd q.1 (by decide))).trans ((ff.1 170 19 (by decide) (by decide)).trans (zsg hS zs_170_19))) rfl ?_
      refine w_load (pc' := 38) (v := .int (zn (3 * l))) (m := 1) (ykc_204 (e := (2, .iload_n kF1, 0)) rfl) rfl rfl ?_
      refine w_ialk (pc' := 39) (k := 3 * l) (ykc_204 (e := (5, .iaload, 0)) rfl) u1966.1 (by omega) rfl ?_
      refine w_zlt (ykc_204 (e := (4, .ifCond .lt 34, 73)) rfl) rfl (fun b1968 => ?_) (fun q => by exfalso; omega)
      refine w_load (pc' := 74) (v := .ref 170) (m := 1) (ykc_204 (e := (2, .aload_n kF0, 0)) rfl) rfl rfl ?_
      refine w_gf (pc' := 77) (v := .ref 178) (ykc_204 (e := (5, .getfield 53, 0)) rfl) rfl ((u1966.2.1 170 19 (fun q => absurd q.1 (by decide))).trans ((ff.1 170 19 (by decide) (by decide)).trans (zsg hS zs_170_19))) rfl ?_
      refine w_load (pc' := 78) (v := .int (zn (3 * l))) (m := 1) (ykc_204 (e := (2, .iload_n kF1, 0)) rfl) rfl rfl ?_
      refine w_alu (pc' := 79) (st' := [.int (Int32.ofInt 1), .int (zn (3 * l)), .ref 178]) (ykc_204 (e := (0, .iconst 1, 0)) rfl) rfl rfl ?_
      have e1969 : (zn (3 * l)) + (Int32.ofInt 1) = zn (3 * l + 1) := (zaddN (a := 3 * l) (b := 1) (znt (by omega)) c_4 (by omega)) 
      have te1969 := znt (k := 3 * l + 1) (by omega)
      refine w_alu (pc' := 80) (st' := [.int (zn (3 * l + 1)), .ref 178]) (ykc_204 (e := (0, .iadd, 0)) rfl) (by rw [← e1969]; rfl) rfl ?_
      refine w_load (pc' := 81) (v := .ref 170) (m := 1) (ykc_204 (e := (2, .aload_n kF0, 0)) rfl) rfl rfl ?_
      refine w_gf (pc' := 84) (v := .ref 178) (ykc_204 (e := (5, .getfield 53, 0)) rfl) rfl ((u1966.2.1 170 19 (fun q => absurd q.1 (by decide))).trans ((ff.1 170 19 (by decide) (by decide)).trans (zsg hS zs_170_19))) rfl ?_
      refine w_load (pc' := 85) (v := .int (zn (3 * l))) (m := 1) (ykc_204 (e := (2, .iload_n kF1, 0)) rfl) rfl rfl ?_
      refine w_ialk (pc' := 86) (k := 3 * l) (ykc_204 (e := (5, .iaload, 0)) rfl) u1966.1 (by omega) rfl ?_
      refine w_zge (ykc_204 (e := (4, .ifCond .ge 7, 93)) rfl) rfl (fun q => by exfalso; omega) (fun b1970 => ?_)
      refine w_alu (pc' := 90) (st' := [.int (Int32.ofInt (-1)), .int (zn (3 * l + 1)), .ref 178]) (ykc_204 (e := (0, .iconst (-1), 0)) rfl) rfl rfl ?_
      refine w_br (pc' := 100) (st' := [.int (Int32.ofInt (-1)), .int (zn (3 * l + 1)), .ref 178]) (ykc_204 (e := (4, .goto 10, 100)) rfl) rfl ?_
      refine w_ias (pc' := 101) (k := 3 * l + 1) (ykc_204 (e := (5, .iastore, 0)) rfl) (by omega) rfl (fun ph1972 u1971 => ?_)
      refine w_load (pc' := 102) (v := .ref 170) (m := 1) (ykc_204 (e := (2, .aload_n kF0, 0)) rfl) rfl rfl ?_
      refine w_gf (pc' := 105) (v := .ref 178) (ykc_204 (e := (5, .getfield 53, 0)) rfl) rfl ((u1971.2.1 170 19 (fun q => absurd q.1 (by decide))).trans ((u1966.2.1 170 19 (fun q => absurd q.1 (by decide))).trans ((ff.1 170 19 (by decide) (by decide)).trans (zsg hS zs_170_19)))) rfl ?_
      refine w_load (pc' := 106) (v := .int (zn (3 * l))) (m := 1) (ykc_204 (e := (2, .iload_n kF1, 0)) rfl) rfl rfl ?_
      refine w_alu (pc' := 107) (st' := [.int (Int32.ofInt 2), .int (zn (3 * l)), .ref 178]) (ykc_204 (e := (0, .iconst 2, 0)) rfl) rfl rfl ?_
      have e1973 : (zn (3 * l)) + (Int32.ofInt 2) = zn (3 * l + 2) := (zaddN (a := 3 * l) (b := 2) (znt (by omega)) c_5 (by omega)) 
      have te1973 := znt (k := 3 * l + 2) (by omega)
      refine w_alu (pc' := 108) (st' := [.int (zn (3 * l + 2)), .ref 178]) (ykc_204 (e := (0, .iadd, 0)) rfl) (by rw [← e1973]; rfl) rfl ?_
      refine w_load (pc' := 109) (v := .ref 170) (m := 1) (ykc_204 (e := (2, .aload_n kF0, 0)) rfl) rfl rfl ?_
      refine w_gf (pc' := 112) (v := .ref 178) (ykc_204 (e := (5, .getfield 53, 0)) rfl) rfl ((u1971.2.1 170 19 (fun q => absurd q.1 (by decide))).trans ((u1966.2.1 170 19 (fun q => absurd q.1 (by decide))).trans ((ff.1 170 19 (by decide) (by decide)).trans (zsg hS zs_170_19)))) rfl ?_
      refine w_load (pc' := 113) (v := .int (zn (3 * l))) (m := 1) (ykc_204 (e := (2, .iload_n kF1, 0)) rfl) rfl rfl ?_
      refine w_alu (pc' := 114) (st' := [.int (Int32.ofInt 1), .int (zn (3 * l)), .ref 178, .int (zn (3 * l + 2)), .ref 178]) (ykc_204 (e := (0, .iconst 1, 0)) rfl) rfl rfl ?_
      have e1974 : (zn (3 * l)) + (Int32.ofInt 1) = zn (3 * l + 1) := (zaddN (a := 3 * l) (b := 1) (znt (by omega)) c_4 (by omega)) 
      have te1974 := znt (k := 3 * l + 1) (by omega)
      refine w_alu (pc' := 115) (st' := [.int (zn (3 * l + 1)), .ref 178, .int (zn (3 * l + 2)), .ref 178]) (ykc_204 (e := (0, .iadd, 0)) rfl) (by rw [← e1974]; rfl) rfl ?_
      refine w_ialk (pc' := 116) (k := 3 * l + 1) (ykc_204 (e := (5, .iaload, 0)) rfl) u1971.1 (by omega) rfl ?_
      refine w_zge (ykc_204 (e := (4, .ifCond .ge 7, 123)) rfl) rfl (fun q => by exfalso; omega) (fun b1975 => ?_)
      refine w_alu (pc' := 120) (st' := [.int (Int32.ofInt (-1)), .int (zn (3 * l + 2)), .ref 178]) (ykc_204 (e := (0, .iconst (-1), 0)) rfl) rfl rfl ?_
      refine w_br (pc' := 129) (st' := [.int (Int32.ofInt (-1)), .int (zn (3 * l + 2)), .ref 178]) (ykc_204 (e := (4, .goto 9, 129)) rfl) rfl ?_
      refine w_ias (pc' := 130) (k := 3 * l + 2) (ykc_204 (e := (5, .iastore, 0)) rfl) (by omega) rfl (fun ph1977 u1976 => ?_)
      refine w_load (pc' := 131) (v := .ref 170) (m := 1) (ykc_204 (e := (2, .aload_n kF0, 0)) rfl) rfl rfl ?_
      refine w_alu (pc' := 132) (st' := [.ref 170, .ref 170]) (ykc_204 (e := (0, .dup, 0)) rfl) rfl rfl ?_
      refine w_gf (pc' := 135) (v := .int (zn l)) (ykc_204 (e := (5, .getfield 197, 0)) rfl) rfl ((u1976.2.1 170 20 (fun q => absurd q.1 (by decide))).trans ((u1971.2.1 170 20 (fun q => absurd q.1 (by decide))).trans ((u1966.2.1 170 20 (fun q => absurd q.1 (by decide))).trans ((ff.1 170 20 (by decide) (by decide)).trans hl)))) rfl ?_
      refine w_alu (pc' := 136) (st' := [.int (Int32.ofInt 1), .int (zn l), .ref 170]) (ykc_204 (e := (0, .iconst 1, 0)) rfl) rfl rfl ?_
      have e1978 : (zn l) + (Int32.ofInt 1) = zn (l + 1) := (zaddN (a := l) (b := 1) (znt (by omega)) c_4 (by omega)) 
      have te1978 := znt (k := l + 1) (by omega)
      refine w_alu (pc' := 137) (st' := [.int (zn (l + 1)), .ref 170]) (ykc_204 (e := (0, .iadd, 0)) rfl) (by rw [← e1978]; rfl) rfl ?_
      refine w_pf (pc' := 140) (ykc_204 (e := (5, .putfield 197, 0)) rfl) rfl rfl (fun ph1980 u1979 => ?_)
      refine w_load (pc' := 141) (v := .ref 170) (m := 1) (ykc_204 (e := (2, .aload_n kF0, 0)) rfl) rfl rfl ?_
      refine w_gf (pc' := 144) (v := .ref 178) (ykc_204 (e := (5, .getfield 53, 0)) rfl) rfl ((u1979.2.1 170 19 (fun q => absurd q.2 (by decide))).trans ((u1976.2.1 170 19 (fun q => absurd q.1 (by decide))).trans ((u1971.2.1 170 19 (fun q => absurd q.1 (by decide))).trans ((u1966.2.1 170 19 (fun q => absurd q.1 (by decide))).trans ((ff.1 170 19 (by decide) (by decide)).trans (zsg hS zs_170_19)))))) rfl ?_
      refine w_load (pc' := 145) (v := .int (zn (3 * l))) (m := 1) (ykc_204 (e := (2, .iload_n kF1, 0)) rfl) rfl rfl ?_
      refine w_alu (pc' := 146) (st' := [.int (Int32.ofInt 2), .int (zn (3 * l)), .ref 178]) (ykc_204 (e := (0, .iconst 2, 0)) rfl) rfl rfl ?_
      have e1981 : (zn (3 * l)) + (Int32.ofInt 2) = zn (3 * l + 2) := (zaddN (a := 3 * l) (b := 2) (znt (by omega)) c_5 (by omega)) 
      have te1981 := znt (k := 3 * l + 2) (by omega)
      refine w_alu (pc' := 147) (st' := [.int (zn (3 * l + 2)), .ref 178]) (ykc_204 (e := (0, .iadd, 0)) rfl) (by rw [← e1981]; rfl) rfl ?_
      refine w_ialk (pc' := 148) (k := 3 * l + 2) (ykc_204 (e := (5, .iaload, 0)) rfl) ((u1979.2.1 178 (3 * l + 2) (fun q => absurd q.1 (by decide))).trans u1976.1) (by omega) rfl ?_
      refine w_zlt (ykc_204 (e := (4, .ifCond .lt 7, 155)) rfl) rfl (fun b1982 => ?_) (fun q => by exfalso; omega)
      refine w_alu (pc' := 156) (st' := [.int (Int32.ofInt 0)]) (ykc_204 (e := (0, .iconst 0, 0)) rfl) rfl rfl ?_
      refine w_ret (v := (some (.int (Int32.ofInt 0)))) (ykc_204 (e := (7, .ireturn, 0)) rfl) zr_z ?_
      have hg := k0 n0
      have f9 : zFr [178] [(170, 15), (170, 20)] ph ph1980 := (zFr_trans (zFr_trans (zFr_trans (zFr_trans (zFr_mono ff (by simp) (by simp)) (zFr_st u1966 (Or.inl (by simp)))) (zFr_st u1971 (Or.inl (by simp)))) (zFr_st u1976 (Or.inl (by simp)))) (zFr_st u1979 (Or.inr (by simp))))
      rw [hQ, zi0]
      exact ⟨f9, Or.inr (Or.inr ⟨by omega, by omega, rfl, by rw [hg]; exact (zTm_F (zFr_st u1979 (Or.inr (by simp)) : zFr [178] [(170, 20)] _ _) (by simp) (by simp) (by simp) (zTm_F (zFr_st u1976 (Or.inl (by simp)) : zFr [178] [(170, 20)] _ _) (by simp) (by simp) (by simp) (zTm_F (zFr_st u1971 (Or.inl (by simp)) : zFr [178] [(170, 20)] _ _) (by simp) (by simp) (by simp) (zTm_F (zFr_st u1966 (Or.inl (by simp)) : zFr [178] [(170, 20)] _ _) (by simp) (by simp) (by simp) hff))))⟩)⟩
    
  · refine w_alu (pc' := 15) (st' := [.int (Int32.ofInt 0)]) (ykc_204 (e := (0, .iconst 0, 0)) rfl) rfl rfl ?_
    refine w_ret (v := (some (.int (Int32.ofInt 0)))) (ykc_204 (e := (7, .ireturn, 0)) rfl) zr_z ?_
    rw [hQ, zi0]
    exact ⟨zFr_refl, Or.inl ⟨by omega, rfl, hT⟩⟩
theorem zm_rthing {ph : pm_H} {R C a b ln : Nat} {rk : Nat → Bool} {t : Nat → Nat} (hS : zSh ph) (hL : zMl ph R C rk) (hT : zTm ph a b ln t) {l N : Nat} (hl : zc ph 170 20 = some (.int (zn l))) (hl8 : l < 8) (hN : zc ph 170 6 = some (.int (zn N))) (hN8 : N + l ≤ 8) : zM 205 [.ref 170] ph (fun v0 q => zFr [178] [(170, 15), (170, 20)] ph q ∧ ((N + l = 8 ∧ v0 = some (.int (zI false)) ∧ zTm q a b ln t) ∨ (N + l < 8 ∧ zLg R C rk 2 b t a 2 = 2 ∧ v0 = some (.int (zI true)) ∧ zTm q (a + 2) b ln t ∧ zc q 170 20 = some (.int (zn (l + 1))) ∧ zc q 178 l = some (.int (zn (zLf C t a))) ∧ ∀ i, i < l → zc q 178 i = zc ph 178 i) ∨ (N + l < 8 ∧ zLg R C rk 2 b t a 2 < 2 ∧ v0 = some (.int (zI false)) ∧ zTm q (a + zLg R C rk 2 b t a 2) b ln t))) := by
  obtain ⟨Q, hQ⟩ : ∃ Q : Option Value → pm_H → Prop, Q = (fun v0 q => zFr [178] [(170, 15), (170, 20)] ph q ∧ ((N + l = 8 ∧ v0 = some (.int (zI false)) ∧ zTm q a b ln t) ∨ (N + l < 8 ∧ zLg R C rk 2 b t a 2 = 2 ∧ v0 = some (.int (zI true)) ∧ zTm q (a + 2) b ln t ∧ zc q 170 20 = some (.int (zn (l + 1))) ∧ zc q 178 l = some (.int (zn (zLf C t a))) ∧ ∀ i, i < l → zc q 178 i = zc ph 178 i) ∨ (N + l < 8 ∧ zLg R C rk 2 b t a 2 < 2 ∧ v0 = some (.int (zI false)) ∧ zTm q (a + zLg R C rk 2 b t a 2) b ln t))) := ⟨_, rfl⟩
  rw [← hQ]
  refine zM_mk fun n D => ?_
  show zW n D 205 Q 0 [some (.ref 170)] [] ph
  have c_0 : ((Int8.ofInt 8).toInt32).toInt = 8 := by decide
  have c_1 : (Int32.ofInt 0).toInt = 0 := by decide
  have c_2 : (Int32.ofInt 1).toInt = 1 := by decide
  have hL0 := hL
  have hab := hT.2.2.1
  have hb80 : b ≤ 80 := Nat.le_trans hT.2.2.2.1 hT.2.2.2.2.1
  obtain ⟨gR, gC, gK, hR3, hR7, hC3, hC7⟩ := hL
  have hRC := zRC49 hR7 hC7
  have tl := znt (k := l) (by omega)
  have tN := znt (k := N) (by omega)
  obtain ⟨k0, k1, k2⟩ := @zLg_2 R C 2 b a rk t
  refine w_load (pc' := 1) (v := .ref 170) (m := 1) (ykc_205 (e := (2, .aload_n kF0, 0)) rfl) rfl rfl ?_
  refine w_gf (pc' := 4) (v := .int (zn N)) (ykc_205 (e := (5, .getfield 133, 0)) rfl) rfl hN rfl ?_
  refine w_load (pc' := 5) (v := .ref 170) (m := 1) (ykc_205 (e := (2, .aload_n kF0, 0)) rfl) rfl rfl ?_
  refine w_gf (pc' := 8) (v := .int (zn l)) (ykc_205 (e := (5, .getfield 197, 0)) rfl) rfl hl rfl ?_
  have e1983 : (zn N) + (zn l) = zn (N + l) := (zaddN (a := N) (b := l) (znt (by omega)) (znt (by omega)) (by omega)) 
  have te1983 := znt (k := N + l) (by omega)
  refine w_alu (pc' := 9) (st' := [.int (zn (N + l))]) (ykc_205 (e := (0, .iadd, 0)) rfl) (by rw [← e1983]; rfl) rfl ?_
  refine w_push (pc' := 11) (v := .int ((Int8.ofInt 8).toInt32)) (m := 2) (ykc_205 (e := (1, .bipush 8, 0)) rfl) rfl rfl ?_
  refine w_ine (ykc_205 (e := (4, .if_icmp .ne 5, 16)) rfl) rfl (fun b1984 => ?_) (fun b1984 => ?_)
  · refine w_load (pc' := 17) (v := .ref 170) (m := 1) (ykc_205 (e := (2, .aload_n kF0, 0)) rfl) rfl rfl ?_
    refine w_gf (pc' := 20) (v := .ref 178) (ykc_205 (e := (5, .getfield 53, 0)) rfl) rfl (zsg hS zs_170_19) rfl ?_
    refine w_load (pc' := 21) (v := .ref 170) (m := 1) (ykc_205 (e := (2, .aload_n kF0, 0)) rfl) rfl rfl ?_
    refine w_gf (pc' := 24) (v := .int (zn l)) (ykc_205 (e := (5, .getfield 197, 0)) rfl) rfl hl rfl ?_
    refine w_load (pc' := 25) (v := .ref 170) (m := 1) (ykc_205 (e := (2, .aload_n kF0, 0)) rfl) rfl rfl ?_
    refine w_cv (as := [.ref 170]) (r := [.int (zn l), .ref 178]) (ykc_205 (e := (6, .invokevirtual 200, 0)) rfl) rfl rfl rfl rfl (zm_rfield hS hL0 hT) (fun v1985 ph1986 hv => ?_)
    rcases hv with ⟨ff, ⟨r1, r2, rfl, hff⟩ | ⟨r1, r2, rfl, hff⟩ | ⟨r1, rfl, hff⟩⟩
    · have y0 : zLk R C rk 2 b t a 0 = true := zLk_t (i := 0) (by rw [zb0]; exact r1) (Or.inl (by omega))
      have y1 : zLk R C rk 2 b t a 1 = true := zLk_t (i := 1) (by rw [zb1]; exact r2) (Or.inl (by omega))
      have d0 : a < b ∧ 48 ≤ t a ∧ t a < 48 + R := of_decide_eq_true r1
      have d1 : a + 1 < b ∧ 48 ≤ t (a + 1) ∧ t (a + 1) < 48 + C := of_decide_eq_true r2
      have lf := zLf_lt (R := R) (C := C) (t := t) (p := a) (by omega) (by omega) d0.2.2 d1.2.2
      have tf := znt (k := zLf C t a) (by omega)
      show zW n D 205 Q 28 [some (.ref 170)] [.int (zn (zLf C t a)), .int (zn l), .ref 178] ph1986
      refine w_ias (pc' := 29) (k := l) (ykc_205 (e := (5, .iastore, 0)) rfl) (by omega) rfl (fun ph1988 u1987 => ?_)
      refine w_load (pc' := 30) (v := .ref 170) (m := 1) (ykc_205 (e := (2, .aload_n kF0, 0)) rfl) rfl rfl ?_
      refine w_alu (pc' := 31) (st' := [.ref 170, .ref 170]) (ykc_205 (e := (0, .dup, 0)) rfl) rfl rfl ?_
      refine w_gf (pc' := 34) (v := .int (zn l)) (ykc_205 (e := (5, .getfield 197, 0)) rfl) rfl ((u1987.2.1 170 20 (fun q => absurd q.1 (by decide))).trans ((ff.1 170 20 (by decide) (by decide)).trans hl)) rfl ?_
      refine w_alu (pc' := 35) (st' := [.int (Int32.ofInt 1), .int (zn l), .ref 170]) (ykc_205 (e := (0, .iconst 1, 0)) rfl) rfl rfl ?_
      have e1989 : (zn l) + (Int32.ofInt 1) = zn (l + 1) := (zaddN (a := l) (b := 1) (znt (by omega)) c_2 (by omega)) 
      have te1989 := znt (k := l + 1) (by omega)
      refine w_alu (pc' := 36) (st' := [.int (zn (l + 1)), .ref 170]) (ykc_205 (e := (0, .iadd, 0)) rfl) (by rw [← e1989]; rfl) rfl ?_
      refine w_pf (pc' := 39) (ykc_205 (e := (5, .putfield 197, 0)) rfl) rfl rfl (fun ph1991 u1990 => ?_)
      refine w_load (pc' := 40) (v := .ref 170) (m := 1) (ykc_205 (e := (2, .aload_n kF0, 0)) rfl) rfl rfl ?_
      refine w_gf (pc' := 43) (v := .ref 178) (ykc_205 (e := (5, .getfield 53, 0)) rfl) rfl ((u1990.2.1 170 19 (fun q => absurd q.2 (by decide))).trans ((u1987.2.1 170 19 (fun q => absurd q.1 (by decide))).trans ((ff.1 170 19 (by decide) (by decide)).trans (zsg hS zs_170_19)))) rfl ?_
      refine w_load (pc' := 44) (v := .ref 170) (m := 1) (ykc_205 (e := (2, .aload_n kF0, 0)) rfl) rfl rfl ?_
      refine w_gf (pc' := 47) (v := .int (zn (l + 1))) (ykc_205 (e := (5, .getfield 197, 0)) rfl) rfl u1990.1 rfl ?_
      refine w_alu (pc' := 48) (st' := [.int (Int32.ofInt 1), .int (zn (l + 1)), .ref 178]) (ykc_205 (e := (0, .iconst 1, 0)) rfl) rfl rfl ?_
      have e1992 : (zn (l + 1)) - (Int32.ofInt 1) = zn (l) := zsubN (a := l + 1) (b := 1) (znt (by omega)) c_2 (by omega)
      have te1992 := znt (k := l) (by omega)
      refine w_alu (pc' := 49) (st' := [.int (zn (l)), .ref 178]) (ykc_205 (e := (0, .isub, 0)) rfl) (by show some ([.int ((zn (l + 1)) - (Int32.ofInt 1)), .ref 178] : List Value) = _; rw [e1992]) rfl ?_
      refine w_ialk (pc' := 50) (k := l) (ykc_205 (e := (5, .iaload, 0)) rfl) ((u1990.2.1 178 l (fun q => absurd q.1 (by decide))).trans u1987.1) (by omega) rfl ?_
      refine w_zlt (ykc_205 (e := (4, .ifCond .lt 7, 57)) rfl) rfl (fun q => by exfalso; omega) (fun b1993 => ?_)
      refine w_alu (pc' := 54) (st' := [.int (Int32.ofInt 1)]) (ykc_205 (e := (0, .iconst 1, 0)) rfl) rfl rfl ?_
      refine w_br (pc' := 58) (st' := [.int (Int32.ofInt 1)]) (ykc_205 (e := (4, .goto 4, 58)) rfl) rfl ?_
      refine w_ret (v := (some (.int (Int32.ofInt 1)))) (ykc_205 (e := (7, .ireturn, 0)) rfl) zr_z ?_
      have hg := k2 y0 y1
      have f9 : zFr [178] [(170, 15), (170, 20)] ph ph1991 := (zFr_trans (zFr_trans (zFr_mono ff (by simp) (by simp)) (zFr_st u1987 (Or.inl (by simp)))) (zFr_st u1990 (Or.inr (by simp))))
      rw [hQ, zi1]
      exact ⟨f9, Or.inr (Or.inl ⟨by omega, hg, rfl, (zTm_F (zFr_st u1990 (Or.inr (by simp)) : zFr [178] [(170, 20)] _ _) (by simp) (by simp) (by simp) (zTm_F (zFr_st u1987 (Or.inl (by simp)) : zFr [178] [(170, 20)] _ _) (by simp) (by simp) (by simp) hff)), u1990.1, ((u1990.2.1 178 l (fun q => absurd q.1 (by decide))).trans u1987.1), fun i hi => ((u1990.2.1 178 i (fun q => absurd q.1 (by decide))).trans ((u1987.2.1 178 i (fun q => by have q2 := q.2; omega)).trans (ff.1 178 i (by decide) (by simp))))⟩)⟩
    · have y0 : zLk R C rk 2 b t a 0 = true := zLk_t (i := 0) (by rw [zb0]; exact r1) (Or.inl (by omega))
      have n1 : zLk R C rk 2 b t a 1 = false := zLk_n (i := 1) (by rw [zb1]; exact r2)
      have tm1 : (Int32.ofInt (-1)).toInt = -1 := by decide
      show zW n D 205 Q 28 [some (.ref 170)] [.int (Int32.ofInt (-1)), .int (zn l), .ref 178] ph1986
      refine w_ias (pc' := 29) (k := l) (ykc_205 (e := (5, .iastore, 0)) rfl) (by omega) rfl (fun ph1995 u1994 => ?_)
      refine w_load (pc' := 30) (v := .ref 170) (m := 1) (ykc_205 (e := (2, .aload_n kF0, 0)) rfl) rfl rfl ?_
      refine w_alu (pc' := 31) (st' := [.ref 170, .ref 170]) (ykc_205 (e := (0, .dup, 0)) rfl) rfl rfl ?_
      refine w_gf (pc' := 34) (v := .int (zn l)) (ykc_205 (e := (5, .getfield 197, 0)) rfl) rfl ((u1994.2.1 170 20 (fun q => absurd q.1 (by decide))).trans ((ff.1 170 20 (by decide) (by decide)).trans hl)) rfl ?_
      refine w_alu (pc' := 35) (st' := [.int (Int32.ofInt 1), .int (zn l), .ref 170]) (ykc_205 (e := (0, .iconst 1, 0)) rfl) rfl rfl ?_
      have e1996 : (zn l) + (Int32.ofInt 1) = zn (l + 1) := (zaddN (a := l) (b := 1) (znt (by omega)) c_2 (by omega)) 
      have te1996 := znt (k := l + 1) (by omega)
      refine w_alu (pc' := 36) (st' := [.int (zn (l + 1)), .ref 170]) (ykc_205 (e := (0, .iadd, 0)) rfl) (by rw [← e1996]; rfl) rfl ?_
      refine w_pf (pc' := 39) (ykc_205 (e := (5, .putfield 197, 0)) rfl) rfl rfl (fun ph1998 u1997 => ?_)
      refine w_load (pc' := 40) (v := .ref 170) (m := 1) (ykc_205 (e := (2, .aload_n kF0, 0)) rfl) rfl rfl ?_
      refine w_gf (pc' := 43) (v := .ref 178) (ykc_205 (e := (5, .getfield 53, 0)) rfl) rfl ((u1997.2.1 170 19 (fun q => absurd q.2 (by decide))).trans ((u1994.2.1 170 19 (fun q => absurd q.1 (by decide))).trans ((ff.1 170 19 (by decide) (by decide)).trans (zsg hS zs_170_19)))) rfl ?_
      refine w_load (pc' := 44) (v := .ref 170) (m := 1) (ykc_205 (e := (2, .aload_n kF0, 0)) rfl) rfl rfl ?_
      refine w_gf (pc' := 47) (v := .int (zn (l + 1))) (ykc_205 (e := (5, .getfield 197, 0)) rfl) rfl u1997.1 rfl ?_
      refine w_alu (pc' := 48) (st' := [.int (Int32.ofInt 1), .int (zn (l + 1)), .ref 178]) (ykc_205 (e := (0, .iconst 1, 0)) rfl) rfl rfl ?_
      have e1999 : (zn (l + 1)) - (Int32.ofInt 1) = zn (l) := zsubN (a := l + 1) (b := 1) (znt (by omega)) c_2 (by omega)
      have te1999 := znt (k := l) (by omega)
      refine w_alu (pc' := 49) (st' := [.int (zn (l)), .ref 178]) (ykc_205 (e := (0, .isub, 0)) rfl) (by show some ([.int ((zn (l + 1)) - (Int32.ofInt 1)), .ref 178] : List Value) = _; rw [e1999]) rfl ?_
      refine w_ialk (pc' := 50) (k := l) (ykc_205 (e := (5, .iaload, 0)) rfl) ((u1997.2.1 178 l (fun q => absurd q.1 (by decide))).trans u1994.1) (by omega) rfl ?_
      refine w_zlt (ykc_205 (e := (4, .ifCond .lt 7, 57)) rfl) rfl (fun b2000 => ?_) (fun q => by exfalso; omega)
      refine w_alu (pc' := 58) (st' := [.int (Int32.ofInt 0)]) (ykc_205 (e := (0, .iconst 0, 0)) rfl) rfl rfl ?_
      refine w_ret (v := (some (.int (Int32.ofInt 0)))) (ykc_205 (e := (7, .ireturn, 0)) rfl) zr_z ?_
      have hg := k1 y0 n1
      have f9 : zFr [178] [(170, 15), (170, 20)] ph ph1998 := (zFr_trans (zFr_trans (zFr_mono ff (by simp) (by simp)) (zFr_st u1994 (Or.inl (by simp)))) (zFr_st u1997 (Or.inr (by simp))))
      rw [hQ, zi0]
      exact ⟨f9, Or.inr (Or.inr ⟨by omega, by omega, rfl, by rw [hg]; exact (zTm_F (zFr_st u1997 (Or.inr (by simp)) : zFr [178] [(170, 20)] _ _) (by simp) (by simp) (by simp) (zTm_F (zFr_st u1994 (Or.inl (by simp)) : zFr [178] [(170, 20)] _ _) (by simp) (by simp) (by simp) hff))⟩)⟩
    · have n0 : zLk R C rk 2 b t a 0 = false := zLk_n (i := 0) (by rw [zb0]; exact r1)
      have tm1 : (Int32.ofInt (-1)).toInt = -1 := by decide
      show zW n D 205 Q 28 [some (.ref 170)] [.int (Int32.ofInt (-1)), .int (zn l), .ref 178] ph1986
      refine w_ias (pc' := 29) (k := l) (ykc_205 (e := (5, .iastore, 0)) rfl) (by omega) rfl (fun ph2002 u2001 => ?_)
      refine w_load (pc' := 30) (v := .ref 170) (m := 1) (ykc_205 (e := (2, .aload_n kF0, 0)) rfl) rfl rfl ?_
      refine w_alu (pc' := 31) (st' := [.ref 170, .ref 170]) (ykc_205 (e := (0, .dup, 0)) rfl) rfl rfl ?_
      refine w_gf (pc' := 34) (v := .int (zn l)) (ykc_205 (e := (5, .getfield 197, 0)) rfl) rfl ((u2001.2.1 170 20 (fun q => absurd q.1 (by decide))).trans ((ff.1 170 20 (by decide) (by decide)).trans hl)) rfl ?_
      refine w_alu (pc' := 35) (st' := [.int (Int32.ofInt 1), .int (zn l), .ref 170]) (ykc_205 (e := (0, .iconst 1, 0)) rfl) rfl rfl ?_
      have e2003 : (zn l) + (Int32.ofInt 1) = zn (l + 1) := (zaddN (a := l) (b := 1) (znt (by omega)) c_2 (by omega)) 
      have te2003 := znt (k := l + 1) (by omega)
      refine w_alu (pc' := 36) (st' := [.int (zn (l + 1)), .ref 170]) (ykc_205 (e := (0, .iadd, 0)) rfl) (by rw [← e2003]; rfl) rfl ?_
      refine w_pf (pc' := 39) (ykc_205 (e := (5, .putfield 197, 0)) rfl) rfl rfl (fun ph2005 u2004 => ?_)
      refine w_load (pc' := 40) (v := .ref 170) (m := 1) (ykc_205 (e := (2, .aload_n kF0, 0)) rfl) rfl rfl ?_
      refine w_gf (pc' := 43) (v := .ref 178) (ykc_205 (e := (5, .getfield 53, 0)) rfl) rfl ((u2004.2.1 170 19 (fun q => absurd q.2 (by decide))).trans ((u2001.2.1 170 19 (fun q => absurd q.1 (by decide))).trans ((ff.1 170 19 (by decide) (by decide)).trans (zsg hS zs_170_19)))) rfl ?_
      refine w_load (pc' := 44) (v := .ref 170) (m := 1) (ykc_205 (e := (2, .aload_n kF0, 0)) rfl) rfl rfl ?_
      refine w_gf (pc' := 47) (v := .int (zn (l + 1))) (ykc_205 (e := (5, .getfield 197, 0)) rfl) rfl u2004.1 rfl ?_
      refine w_alu (pc' := 48) (st' := [.int (Int32.ofInt 1), .int (zn (l + 1)), .ref 178]) (ykc_205 (e := (0, .iconst 1, 0)) rfl) rfl rfl ?_
      have e2006 : (zn (l + 1)) - (Int32.ofInt 1) = zn (l) := zsubN (a := l + 1) (b := 1) (znt (by omega)) c_2 (by omega)
      have te2006 := znt (k := l) (by omega)
      refine w_alu (pc' := 49) (st' := [.int (zn (l)), .ref 178]) (ykc_205 (e := (0, .isub, 0)) rfl) (by show some ([.int ((zn (l + 1)) - (Int32.ofInt 1)), .ref 178] : List Value) = _; rw [e2006]) rfl ?_
      refine w_ialk (pc' := 50) (k := l) (ykc_205 (e := (5, .iaload, 0)) rfl) ((u2004.2.1 178 l (fun q => absurd q.1 (by decide))).trans u2001.1) (by omega) rfl ?_
      refine w_zlt (ykc_205 (e := (4, .ifCond .lt 7, 57)) rfl) rfl (fun b2007 => ?_) (fun q => by exfalso; omega)
      refine w_alu (pc' := 58) (st' := [.int (Int32.ofInt 0)]) (ykc_205 (e := (0, .iconst 0, 0)) rfl) rfl rfl ?_
      refine w_ret (v := (some (.int (Int32.ofInt 0)))) (ykc_205 (e := (7, .ireturn, 0)) rfl) zr_z ?_
      have hg := k0 n0
      have f9 : zFr [178] [(170, 15), (170, 20)] ph ph2005 := (zFr_trans (zFr_trans (zFr_mono ff (by simp) (by simp)) (zFr_st u2001 (Or.inl (by simp)))) (zFr_st u2004 (Or.inr (by simp))))
      rw [hQ, zi0]
      exact ⟨f9, Or.inr (Or.inr ⟨by omega, by omega, rfl, by rw [hg]; exact (zTm_F (zFr_st u2004 (Or.inr (by simp)) : zFr [178] [(170, 20)] _ _) (by simp) (by simp) (by simp) (zTm_F (zFr_st u2001 (Or.inl (by simp)) : zFr [178] [(170, 20)] _ _) (by simp) (by simp) (by simp) hff))⟩)⟩
    
  · refine w_alu (pc' := 15) (st' := [.int (Int32.ofInt 0)]) (ykc_205 (e := (0, .iconst 0, 0)) rfl) rfl rfl ?_
    refine w_ret (v := (some (.int (Int32.ofInt 0)))) (ykc_205 (e := (7, .ireturn, 0)) rfl) zr_z ?_
    rw [hQ, zi0]
    exact ⟨zFr_refl, Or.inl ⟨by omega, rfl, hT⟩⟩
theorem zm_rlines4 {ph : pm_H} {R C ln N : Nat} {rk : Nat → Bool} {t : Nat → Nat} {y : Int32} (hS : zSh ph) (hL : zMl ph R C rk) (hn14 : zc ph 170 14 = some (.int (zn ln))) (hn80 : ln ≤ 80) (gtm : ∀ i, i < ln → zc ph 176 i = some (.int (zn (t i))) ∧ t i < 256) (hN : zc ph 170 5 = some (.int (zn N))) (hN8 : N ≤ 8) (hy : y.toInt = 39) : zM 206 [.ref 170, .int (Int32.ofInt 1), .int y] ph (fun v0 q => zFr [178] [(170, 14), (170, 15), (170, 16), (170, 17), (170, 20)] ph q ∧ ∃ z : Int32, v0 = some (.int z) ∧ ((zLa R C rk 4 5 ln t (8 - N) < 0 ∧ z.toInt = zLa R C rk 4 5 ln t (8 - N)) ∨ (0 ≤ zLa R C rk 4 5 ln t (8 - N) ∧ z.toInt = 0 ∧ ∃ k : Nat, (k : Int) = zLa R C rk 4 5 ln t (8 - N) ∧ zc q 170 20 = some (.int (zn k)) ∧ ∀ j, j < k → zLg R C rk 4 ln t (5 * j) 4 = 4 ∧ zc q 178 (3 * j) = some (.int (zn (zLf C t (5 * j)))) ∧ zc q 178 (3 * j + 1) = some (.int (zn (t (5 * j + 2) - 48))) ∧ zc q 178 (3 * j + 2) = some (.int (zn (t (5 * j + 3) - 48)))))) := by
  obtain ⟨Q, hQ⟩ : ∃ Q : Option Value → pm_H → Prop, Q = (fun v0 q => zFr [178] [(170, 14), (170, 15), (170, 16), (170, 17), (170, 20)] ph q ∧ ∃ z : Int32, v0 = some (.int z) ∧ ((zLa R C rk 4 5 ln t (8 - N) < 0 ∧ z.toInt = zLa R C rk 4 5 ln t (8 - N)) ∨ (0 ≤ zLa R C rk 4 5 ln t (8 - N) ∧ z.toInt = 0 ∧ ∃ k : Nat, (k : Int) = zLa R C rk 4 5 ln t (8 - N) ∧ zc q 170 20 = some (.int (zn k)) ∧ ∀ j, j < k → zLg R C rk 4 ln t (5 * j) 4 = 4 ∧ zc q 178 (3 * j) = some (.int (zn (zLf C t (5 * j)))) ∧ zc q 178 (3 * j + 1) = some (.int (zn (t (5 * j + 2) - 48))) ∧ zc q 178 (3 * j + 2) = some (.int (zn (t (5 * j + 3) - 48)))))) := ⟨_, rfl⟩
  rw [← hQ]
  refine zM_mk fun n D => ?_
  show zW n D 206 Q 0 [some (.ref 170), some (.int (Int32.ofInt 1)), some (.int y), none, none, none] [] ph
  have c_0 : ((Int8.ofInt 59).toInt32).toInt = 59 := by decide
  have c_1 : (Int32.ofInt 0).toInt = 0 := by decide
  have c_2 : (Int32.ofInt 1).toInt = 1 := by decide
  have tln := znt (k := ln) (by omega)
  refine w_load (pc' := 1) (v := .ref 170) (m := 1) (ykc_206 (e := (2, .aload_n kF0, 0)) rfl) rfl rfl ?_
  refine w_load (pc' := 2) (v := .int y) (m := 1) (ykc_206 (e := (2, .iload_n kF2, 0)) rfl) rfl rfl ?_
  refine w_cv (as := [.ref 170, .int y]) (r := []) (ykc_206 (e := (6, .invokevirtual 175, 0)) rfl) rfl rfl rfl rfl (zm_begins (ln := ln) (c := 39) (t := t) hS hn14 hn80 gtm hy (by omega)) (fun v2008 ph2009 hv => ?_)
  obtain ⟨rfl, fb, g14, hT⟩ := hv
  show zW n D 206 Q 5 [some (.ref 170), some (.int (Int32.ofInt 1)), some (.int y), none, none, none] [.int (zn ln)] ph2009
  refine w_store (pc' := 6) (L' := [some (.ref 170), some (.int (Int32.ofInt 1)), some (.int y), some (.int (zn ln)), none, none]) (st' := []) (m := 1) (ykc_206 (e := (3, .istore_n kF3, 0)) rfl) rfl rfl ?_
  refine w_load (pc' := 7) (v := .ref 170) (m := 1) (ykc_206 (e := (2, .aload_n kF0, 0)) rfl) rfl rfl ?_
  refine w_alu (pc' := 8) (st' := [.int (Int32.ofInt 0), .ref 170]) (ykc_206 (e := (0, .iconst 0, 0)) rfl) rfl rfl ?_
  refine w_pf (pc' := 11) (ykc_206 (e := (5, .putfield 197, 0)) rfl) rfl rfl (fun ph2011 u2010 => ?_)
  refine w_alu (pc' := 12) (st' := [.int (Int32.ofInt 1)]) (ykc_206 (e := (0, .iconst 1, 0)) rfl) rfl rfl ?_
  refine w_store (pc' := 14) (L' := [some (.ref 170), some (.int (Int32.ofInt 1)), some (.int y), some (.int (zn ln)), some (.int (Int32.ofInt 1)), none]) (st' := []) (m := 2) (ykc_206 (e := (3, .istore 4, 0)) rfl) rfl rfl ?_
  refine w_load (pc' := 15) (v := .int (zn ln)) (m := 1) (ykc_206 (e := (2, .iload_n kF3, 0)) rfl) rfl rfl ?_
  refine w_zle (ykc_206 (e := (4, .ifCond .le 7, 22)) rfl) rfl (fun b2012 => ?_) (fun b2012 => ?_)
  · refine w_alu (pc' := 23) (st' := [.int (Int32.ofInt 0)]) (ykc_206 (e := (0, .iconst 0, 0)) rfl) rfl rfl ?_
    refine w_store (pc' := 25) (L' := [some (.ref 170), some (.int (Int32.ofInt 1)), some (.int y), some (.int (zn ln)), some (.int (Int32.ofInt 1)), some (.int (Int32.ofInt 0))]) (st' := []) (m := 2) (ykc_206 (e := (3, .istore 5, 0)) rfl) rfl rfl ?_
    have e0 : zLa R C rk 4 5 ln t (8 - N) = 0 := if_pos (by omega)
    have f1 : zFr [178] [(170, 14), (170, 15), (170, 16), (170, 17), (170, 20)] ph ph2011 := zFr_trans (zFr_mono fb (by simp) (by simp)) (zFr_st u2010 (Or.inr (by simp)))
    have hfa := zm_fault (is := true) (a := 0) (b := min ln 39) (ln := ln) (t := t) (n9 := ln) (c := 39) (zSh_F f1 (by decide +kernel) hS) (zTm_F (zFr_st u2010 (Or.inr (by simp)) : zFr [] [(170, 20)] _ _) (by simp) (by simp) (by simp) hT) (x := zn ln) (y := y) (by omega) (by omega)
    rw [← zi1] at hfa
    refine w_load (pc' := 27) (v := .int (Int32.ofInt 0)) (m := 2) (ykc_206 (e := (2, .iload 5, 0)) rfl) rfl rfl ?_
    refine w_zeq (ykc_206 (e := (4, .ifCond .eq 44, 71)) rfl) rfl (fun b2013 => ?_) (fun q => by exfalso; omega)
    refine w_load (pc' := 72) (v := .ref 170) (m := 1) (ykc_206 (e := (2, .aload_n kF0, 0)) rfl) rfl rfl ?_
    refine w_load (pc' := 73) (v := .int (zn ln)) (m := 1) (ykc_206 (e := (2, .iload_n kF3, 0)) rfl) rfl rfl ?_
    refine w_load (pc' := 74) (v := .int y) (m := 1) (ykc_206 (e := (2, .iload_n kF2, 0)) rfl) rfl rfl ?_
    refine w_load (pc' := 76) (v := .int (Int32.ofInt 1)) (m := 2) (ykc_206 (e := (2, .iload 4, 0)) rfl) rfl rfl ?_
    refine w_cv (as := [.ref 170, .int (zn ln), .int y, .int (Int32.ofInt 1)]) (r := []) (ykc_206 (e := (6, .invokevirtual 213, 0)) rfl) rfl rfl rfl rfl (hfa) (fun v2014 ph2015 hv => ?_)
    obtain ⟨rfl, zf, rfl, ezf⟩ := hv
    show zW n D 206 Q 79 [some (.ref 170), some (.int (Int32.ofInt 1)), some (.int y), some (.int (zn ln)), some (.int (Int32.ofInt 1)), some (.int (Int32.ofInt 0))] [.int zf] ph2011
    refine w_ret (v := (some (.int zf))) (ykc_206 (e := (7, .ireturn, 0)) rfl) (zr_v rfl) ?_
    rw [hQ]
    refine ⟨f1, _, rfl, Or.inr ⟨by omega, ?_, 0, by omega, u2010.1, fun j hj => absurd hj (Nat.not_lt_zero j)⟩⟩
    rw [ezf]
    unfold zFo
    rw [if_neg (by omega), if_pos ⟨rfl, by omega⟩]
    
  · refine w_alu (pc' := 19) (st' := [.int (Int32.ofInt 1)]) (ykc_206 (e := (0, .iconst 1, 0)) rfl) rfl rfl ?_
    refine w_br (pc' := 23) (st' := [.int (Int32.ofInt 1)]) (ykc_206 (e := (4, .goto 4, 23)) rfl) rfl ?_
    refine w_store (pc' := 25) (L' := [some (.ref 170), some (.int (Int32.ofInt 1)), some (.int y), some (.int (zn ln)), some (.int (Int32.ofInt 1)), some (.int (Int32.ofInt 1))]) (st' := []) (m := 2) (ykc_206 (e := (3, .istore 5, 0)) rfl) rfl rfl ?_
    have e0 : zLa R C rk 4 5 ln t (8 - N) = zLo R C rk 4 5 ln t (8 - N) 9 0 := if_neg (by omega)
    have f1 : zFr [178] [(170, 14), (170, 15), (170, 16), (170, 17), (170, 20)] ph ph2011 := zFr_trans (zFr_mono fb (by simp) (by simp)) (zFr_st u2010 (Or.inr (by simp)))
    have hT1 := zTm_F (zFr_st u2010 (Or.inr (by simp)) : zFr [] [(170, 20)] _ _) (by simp) (by simp) (by simp) hT
    have hl : ∀ (n : Nat), ∀ (l : Nat) (is0 : Int32) (ph2 : pm_H), (l ≤ 7) → (zFr [178] [(170, 14), (170, 15), (170, 16), (170, 17), (170, 20)] ph ph2) → (zTm ph2 (5 * l) (min ln 39) ln t) → (zc ph2 170 20 = some (.int (zn l))) → (l ≤ 8 - N) → (zLa R C rk 4 5 ln t (8 - N) = zLo R C rk 4 5 ln t (8 - N) (9 - l) l) → (∀ j, j < l → zLg R C rk 4 ln t (5 * j) 4 = 4 ∧ zc ph2 178 (3 * j) = some (.int (zn (zLf C t (5 * j)))) ∧ zc ph2 178 (3 * j + 1) = some (.int (zn (t (5 * j + 2) - 48))) ∧ zc ph2 178 (3 * j + 2) = some (.int (zn (t (5 * j + 3) - 48)))) → zW n D 206 Q 25 [some (.ref 170), some (.int (Int32.ofInt 1)), some (.int y), some (.int (zn ln)), some (.int is0), some (.int (Int32.ofInt 1))] [] ph2 := by
      intro n
      induction n using Nat.strongRecOn with
      | ind n ih =>
        intro l is0 ph2 hl7 hf hT h20 hlr ha hg
        have tl := znt (k := l) (by omega)
        have hS2 := zSh_F hf (by decide +kernel) hS
        have hL2 := zMl_F hf (by simp) (by simp) (by simp) (by simp) hL
        have hN2 := (hf.1 170 5 (by decide) (by decide)).trans hN
        have hbl : ∀ p, p < 5 * l + 4 → (p < min ln 39 ↔ p < ln) := fun p hp => by omega
        refine w_load (pc' := 27) (v := .int (Int32.ofInt 1)) (m := 2) (ykc_206 (e := (2, .iload 5, 0)) rfl) rfl rfl ?_
        refine w_zeq (ykc_206 (e := (4, .ifCond .eq 44, 71)) rfl) rfl (fun q => by exfalso; omega) (fun b2016 => ?_)
        refine w_load (pc' := 31) (v := .int (Int32.ofInt 1)) (m := 1) (ykc_206 (e := (2, .iload_n kF1, 0)) rfl) rfl rfl ?_
        refine w_zeq (ykc_206 (e := (4, .ifCond .eq 10, 41)) rfl) rfl (fun q => by exfalso; omega) (fun b2017 => ?_)
        refine w_load (pc' := 35) (v := .ref 170) (m := 1) (ykc_206 (e := (2, .aload_n kF0, 0)) rfl) rfl rfl ?_
        refine w_cv (as := [.ref 170]) (r := []) (ykc_206 (e := (6, .invokevirtual 203, 0)) rfl) rfl rfl rfl rfl (zm_rperson hS2 hL2 hT h20 (by omega) hN2 (by omega)) (fun v2018 ph2019 hv => ?_)
        rcases hv with ⟨fr, ⟨hf8, rfl, hr⟩ | ⟨hf8, hgg, rfl, hr, r20, r0, r1, r2, rl⟩ | ⟨hf8, hgb, rfl, hr⟩⟩
        · show zW n D 206 Q 38 [some (.ref 170), some (.int (Int32.ofInt 1)), some (.int y), some (.int (zn ln)), some (.int is0), some (.int (Int32.ofInt 1))] [.int (zI false)] ph2019
          refine w_br (pc' := 45) (st' := [.int (zI false)]) (ykc_206 (e := (4, .goto 7, 45)) rfl) rfl ?_
          refine w_store (pc' := 47) (L' := [some (.ref 170), some (.int (Int32.ofInt 1)), some (.int y), some (.int (zn ln)), some (.int (zI false)), some (.int (Int32.ofInt 1))]) (st' := []) (m := 2) (ykc_206 (e := (3, .istore 4, 0)) rfl) rfl rfl ?_
          refine w_load (pc' := 49) (v := .int (zI false)) (m := 2) (ykc_206 (e := (2, .iload 4, 0)) rfl) rfl rfl ?_
          refine w_beq (ykc_206 (e := (4, .ifCond .eq 16, 65)) rfl) rfl (fun b2020 => ?_) (fun q => absurd q (by decide))
          refine w_alu (pc' := 66) (st' := [.int (Int32.ofInt 0)]) (ykc_206 (e := (0, .iconst 0, 0)) rfl) rfl rfl ?_
          refine w_store (pc' := 68) (L' := [some (.ref 170), some (.int (Int32.ofInt 1)), some (.int y), some (.int (zn ln)), some (.int (zI false)), some (.int (Int32.ofInt 0))]) (st' := []) (m := 2) (ykc_206 (e := (3, .istore 5, 0)) rfl) rfl rfl ?_
          refine w_gb (ykc_206 (e := (4, .goto (-43), 25)) rfl) (fun k2021 hk2021 => ?_)
          refine w_load (pc' := 27) (v := .int (Int32.ofInt 0)) (m := 2) (ykc_206 (e := (2, .iload 5, 0)) rfl) rfl rfl ?_
          refine w_zeq (ykc_206 (e := (4, .ifCond .eq 44, 71)) rfl) rfl (fun b2022 => ?_) (fun q => by exfalso; omega)
          refine w_load (pc' := 72) (v := .ref 170) (m := 1) (ykc_206 (e := (2, .aload_n kF0, 0)) rfl) rfl rfl ?_
          refine w_load (pc' := 73) (v := .int (zn ln)) (m := 1) (ykc_206 (e := (2, .iload_n kF3, 0)) rfl) rfl rfl ?_
          refine w_load (pc' := 74) (v := .int y) (m := 1) (ykc_206 (e := (2, .iload_n kF2, 0)) rfl) rfl rfl ?_
          refine w_load (pc' := 76) (v := .int (zI false)) (m := 2) (ykc_206 (e := (2, .iload 4, 0)) rfl) rfl rfl ?_
          refine w_cv (as := [.ref 170, .int (zn ln), .int y, .int (zI false)]) (r := []) (ykc_206 (e := (6, .invokevirtual 213, 0)) rfl) rfl rfl rfl rfl (zm_fault (is := false) (a := 5 * l) (b := min ln 39) (ln := ln) (t := t) (n9 := ln) (c := 39) (zSh_F fr (by decide +kernel) hS2) hr (by omega) (by omega)) (fun v2023 ph2024 hv => ?_)
          obtain ⟨rfl, zf, rfl, ezf⟩ := hv
          show zW k2021 D 206 Q 79 [some (.ref 170), some (.int (Int32.ofInt 1)), some (.int y), some (.int (zn ln)), some (.int (zI false)), some (.int (Int32.ofInt 0))] [.int zf] ph2019
          refine w_ret (v := (some (.int zf))) (ykc_206 (e := (7, .ireturn, 0)) rfl) (zr_v rfl) ?_
          have h8 := ha.trans (zLo_0 (by omega) (show l = 8 - N by omega))
          have hab := hr.2.2.1
          rw [hQ]
          refine ⟨zFr_trans hf (zFr_mono fr (by simp) (by simp)), _, rfl, Or.inl ⟨by omega, ?_⟩⟩
          rw [ezf, h8]
          unfold zFo
          rw [if_neg (fun q => by rcases q.2 with q2 | q2; exact absurd q2.1 (by decide); omega), if_neg (fun q => absurd q.1 (by decide))]
        · have hgc : zLg R C rk 4 (min ln 39) t (5 * l) 4 = zLg R C rk 4 ln t (5 * l) 4 := zLg_b (fun i hi => hbl _ (by omega))
          rw [hgc] at hgg
          have hlast := (zLk_d (zLg_a hgg (4 - 1) (by omega))).1
          have hgl : ∀ j, j < l + 1 → zLg R C rk 4 ln t (5 * j) 4 = 4 ∧ zc ph2019 178 (3 * j) = some (.int (zn (zLf C t (5 * j)))) ∧ zc ph2019 178 (3 * j + 1) = some (.int (zn (t (5 * j + 2) - 48))) ∧ zc ph2019 178 (3 * j + 2) = some (.int (zn (t (5 * j + 3) - 48))) := fun j hj => by
            by_cases e : j = l
            · subst e; exact ⟨hgg, r0, r1, r2⟩
            · obtain ⟨g1, g2, g3, g4⟩ := hg j (by omega)
              exact ⟨g1, (rl _ (by omega)).trans g2, (rl _ (by omega)).trans g3, (rl _ (by omega)).trans g4⟩
          show zW n D 206 Q 38 [some (.ref 170), some (.int (Int32.ofInt 1)), some (.int y), some (.int (zn ln)), some (.int is0), some (.int (Int32.ofInt 1))] [.int (zI true)] ph2019
          refine w_br (pc' := 45) (st' := [.int (zI true)]) (ykc_206 (e := (4, .goto 7, 45)) rfl) rfl ?_
          refine w_store (pc' := 47) (L' := [some (.ref 170), some (.int (Int32.ofInt 1)), some (.int y), some (.int (zn ln)), some (.int (zI true)), some (.int (Int32.ofInt 1))]) (st' := []) (m := 2) (ykc_206 (e := (3, .istore 4, 0)) rfl) rfl rfl ?_
          refine w_load (pc' := 49) (v := .int (zI true)) (m := 2) (ykc_206 (e := (2, .iload 4, 0)) rfl) rfl rfl ?_
          refine w_beq (ykc_206 (e := (4, .ifCond .eq 16, 65)) rfl) rfl (fun q => absurd q (by decide)) (fun b2025 => ?_)
          refine w_load (pc' := 53) (v := .ref 170) (m := 1) (ykc_206 (e := (2, .aload_n kF0, 0)) rfl) rfl rfl ?_
          refine w_push (pc' := 55) (v := .int ((Int8.ofInt 59).toInt32)) (m := 2) (ykc_206 (e := (1, .bipush 59, 0)) rfl) rfl rfl ?_
          refine w_cv (as := [.ref 170, .int ((Int8.ofInt 59).toInt32)]) (r := []) (ykc_206 (e := (6, .invokevirtual 209, 0)) rfl) rfl rfl rfl rfl (zm_takes (zSh_F fr (by decide +kernel) hS2) hr (c := 59) (by omega)) (fun v2026 ph2027 hv => ?_)
          rcases hv with ⟨fs, ⟨hc5, rfl, hts⟩ | ⟨hc5, rfl, hts⟩⟩
          · show zW n D 206 Q 58 [some (.ref 170), some (.int (Int32.ofInt 1)), some (.int y), some (.int (zn ln)), some (.int (zI true)), some (.int (Int32.ofInt 1))] [.int (zI true)] ph2027
            refine w_beq (ykc_206 (e := (4, .ifCond .eq 7, 65)) rfl) rfl (fun q => absurd q (by decide)) (fun b2028 => ?_)
            refine w_alu (pc' := 62) (st' := [.int (Int32.ofInt 1)]) (ykc_206 (e := (0, .iconst 1, 0)) rfl) rfl rfl ?_
            refine w_br (pc' := 66) (st' := [.int (Int32.ofInt 1)]) (ykc_206 (e := (4, .goto 4, 66)) rfl) rfl ?_
            refine w_store (pc' := 68) (L' := [some (.ref 170), some (.int (Int32.ofInt 1)), some (.int y), some (.int (zn ln)), some (.int (zI true)), some (.int (Int32.ofInt 1))]) (st' := []) (m := 2) (ykc_206 (e := (3, .istore 5, 0)) rfl) rfl rfl ?_
            refine w_gb (ykc_206 (e := (4, .goto (-43), 25)) rfl) (fun k2029 hk2029 => ?_)
            have h8 := ha.trans (zLo_4 (by omega) (by omega) hgg (by omega) (by omega))
            rw [show 5 * l + 4 + 1 = 5 * (l + 1) by omega] at hts
            exact ih k2029 hk2029 (l + 1) _ _ (by omega) (zFr_trans hf (zFr_trans (zFr_mono fr (by simp) (by simp)) (zFr_mono fs (by simp) (by simp)))) hts ((fs.1 170 20 (by decide) (by decide)).trans r20) (by omega) h8 (fun j hj => by
              obtain ⟨g1, g2, g3, g4⟩ := hgl j hj
              exact ⟨g1, (fs.1 178 _ (by decide) (by simp)).trans g2, (fs.1 178 _ (by decide) (by simp)).trans g3, (fs.1 178 _ (by decide) (by simp)).trans g4⟩)
          · show zW n D 206 Q 58 [some (.ref 170), some (.int (Int32.ofInt 1)), some (.int y), some (.int (zn ln)), some (.int (zI true)), some (.int (Int32.ofInt 1))] [.int (zI false)] ph2027
            refine w_beq (ykc_206 (e := (4, .ifCond .eq 7, 65)) rfl) rfl (fun b2030 => ?_) (fun q => absurd q (by decide))
            refine w_alu (pc' := 66) (st' := [.int (Int32.ofInt 0)]) (ykc_206 (e := (0, .iconst 0, 0)) rfl) rfl rfl ?_
            refine w_store (pc' := 68) (L' := [some (.ref 170), some (.int (Int32.ofInt 1)), some (.int y), some (.int (zn ln)), some (.int (zI true)), some (.int (Int32.ofInt 0))]) (st' := []) (m := 2) (ykc_206 (e := (3, .istore 5, 0)) rfl) rfl rfl ?_
            refine w_gb (ykc_206 (e := (4, .goto (-43), 25)) rfl) (fun k2031 hk2031 => ?_)
            refine w_load (pc' := 27) (v := .int (Int32.ofInt 0)) (m := 2) (ykc_206 (e := (2, .iload 5, 0)) rfl) rfl rfl ?_
            refine w_zeq (ykc_206 (e := (4, .ifCond .eq 44, 71)) rfl) rfl (fun b2032 => ?_) (fun q => by exfalso; omega)
            refine w_load (pc' := 72) (v := .ref 170) (m := 1) (ykc_206 (e := (2, .aload_n kF0, 0)) rfl) rfl rfl ?_
            refine w_load (pc' := 73) (v := .int (zn ln)) (m := 1) (ykc_206 (e := (2, .iload_n kF3, 0)) rfl) rfl rfl ?_
            refine w_load (pc' := 74) (v := .int y) (m := 1) (ykc_206 (e := (2, .iload_n kF2, 0)) rfl) rfl rfl ?_
            refine w_load (pc' := 76) (v := .int (zI true)) (m := 2) (ykc_206 (e := (2, .iload 4, 0)) rfl) rfl rfl ?_
            refine w_cv (as := [.ref 170, .int (zn ln), .int y, .int (zI true)]) (r := []) (ykc_206 (e := (6, .invokevirtual 213, 0)) rfl) rfl rfl rfl rfl (zm_fault (is := true) (a := 5 * l + 4) (b := min ln 39) (ln := ln) (t := t) (n9 := ln) (c := 39) (zSh_F fs (by decide +kernel) (zSh_F fr (by decide +kernel) hS2)) hts (by omega) (by omega)) (fun v2033 ph2034 hv => ?_)
            obtain ⟨rfl, zf, rfl, ezf⟩ := hv
            show zW k2031 D 206 Q 79 [some (.ref 170), some (.int (Int32.ofInt 1)), some (.int y), some (.int (zn ln)), some (.int (zI true)), some (.int (Int32.ofInt 0))] [.int zf] ph2027
            refine w_ret (v := (some (.int zf))) (ykc_206 (e := (7, .ireturn, 0)) rfl) (zr_v rfl) ?_
            have f9 : zFr [178] [(170, 14), (170, 15), (170, 16), (170, 17), (170, 20)] ph ph2027 := zFr_trans hf (zFr_trans (zFr_mono fr (by simp) (by simp)) (zFr_mono fs (by simp) (by simp)))
            have hab := hts.2.2.1
            rw [hQ]
            refine ⟨f9, _, rfl, ?_⟩
            rw [ezf]
            unfold zFo
            by_cases e : 5 * l + 4 = ln
            · have h8 := ha.trans (zLo_2 (by omega) (by omega) hgg e)
              rw [if_neg (by omega), if_pos ⟨rfl, by omega⟩]
              exact Or.inr ⟨by omega, rfl, l + 1, by omega, (fs.1 170 20 (by decide) (by decide)).trans r20, fun j hj => by
                obtain ⟨g1, g2, g3, g4⟩ := hgl j hj
                exact ⟨g1, (fs.1 178 _ (by decide) (by simp)).trans g2, (fs.1 178 _ (by decide) (by simp)).trans g3, (fs.1 178 _ (by decide) (by simp)).trans g4⟩⟩
            · have h4 : l = 7 ∨ t (5 * l + 4) ≠ 59 := by omega
              have h8 := ha.trans (zLo_3 (by omega) (by omega) hgg e h4)
              refine Or.inl ⟨by omega, ?_⟩
              rw [h8]
              by_cases e2 : 5 * l + 4 = min ln 39
              · rw [if_pos ⟨by omega, Or.inl ⟨rfl, e2⟩⟩]
                omega
              · rw [if_neg (fun q => by rcases q.2 with q2 | q2; exact e2 q2.2; omega), if_neg (fun q => e2 q.2)]
          
        · have hgc : zLg R C rk 4 (min ln 39) t (5 * l) 4 = zLg R C rk 4 ln t (5 * l) 4 := zLg_b (fun i hi => hbl _ (by omega))
          rw [hgc] at hgb hr
          show zW n D 206 Q 38 [some (.ref 170), some (.int (Int32.ofInt 1)), some (.int y), some (.int (zn ln)), some (.int is0), some (.int (Int32.ofInt 1))] [.int (zI false)] ph2019
          refine w_br (pc' := 45) (st' := [.int (zI false)]) (ykc_206 (e := (4, .goto 7, 45)) rfl) rfl ?_
          refine w_store (pc' := 47) (L' := [some (.ref 170), some (.int (Int32.ofInt 1)), some (.int y), some (.int (zn ln)), some (.int (zI false)), some (.int (Int32.ofInt 1))]) (st' := []) (m := 2) (ykc_206 (e := (3, .istore 4, 0)) rfl) rfl rfl ?_
          refine w_load (pc' := 49) (v := .int (zI false)) (m := 2) (ykc_206 (e := (2, .iload 4, 0)) rfl) rfl rfl ?_
          refine w_beq (ykc_206 (e := (4, .ifCond .eq 16, 65)) rfl) rfl (fun b2035 => ?_) (fun q => absurd q (by decide))
          refine w_alu (pc' := 66) (st' := [.int (Int32.ofInt 0)]) (ykc_206 (e := (0, .iconst 0, 0)) rfl) rfl rfl ?_
          refine w_store (pc' := 68) (L' := [some (.ref 170), some (.int (Int32.ofInt 1)), some (.int y), some (.int (zn ln)), some (.int (zI false)), some (.int (Int32.ofInt 0))]) (st' := []) (m := 2) (ykc_206 (e := (3, .istore 5, 0)) rfl) rfl rfl ?_
          refine w_gb (ykc_206 (e := (4, .goto (-43), 25)) rfl) (fun k2036 hk2036 => ?_)
          refine w_load (pc' := 27) (v := .int (Int32.ofInt 0)) (m := 2) (ykc_206 (e := (2, .iload 5, 0)) rfl) rfl rfl ?_
          refine w_zeq (ykc_206 (e := (4, .ifCond .eq 44, 71)) rfl) rfl (fun b2037 => ?_) (fun q => by exfalso; omega)
          refine w_load (pc' := 72) (v := .ref 170) (m := 1) (ykc_206 (e := (2, .aload_n kF0, 0)) rfl) rfl rfl ?_
          refine w_load (pc' := 73) (v := .int (zn ln)) (m := 1) (ykc_206 (e := (2, .iload_n kF3, 0)) rfl) rfl rfl ?_
          refine w_load (pc' := 74) (v := .int y) (m := 1) (ykc_206 (e := (2, .iload_n kF2, 0)) rfl) rfl rfl ?_
          refine w_load (pc' := 76) (v := .int (zI false)) (m := 2) (ykc_206 (e := (2, .iload 4, 0)) rfl) rfl rfl ?_
          refine w_cv (as := [.ref 170, .int (zn ln), .int y, .int (zI false)]) (r := []) (ykc_206 (e := (6, .invokevirtual 213, 0)) rfl) rfl rfl rfl rfl (zm_fault (is := false) (a := 5 * l + zLg R C rk 4 ln t (5 * l) 4) (b := min ln 39) (ln := ln) (t := t) (n9 := ln) (c := 39) (zSh_F fr (by decide +kernel) hS2) hr (by omega) (by omega)) (fun v2038 ph2039 hv => ?_)
          obtain ⟨rfl, zf, rfl, ezf⟩ := hv
          show zW k2036 D 206 Q 79 [some (.ref 170), some (.int (Int32.ofInt 1)), some (.int y), some (.int (zn ln)), some (.int (zI false)), some (.int (Int32.ofInt 0))] [.int zf] ph2019
          refine w_ret (v := (some (.int zf))) (ykc_206 (e := (7, .ireturn, 0)) rfl) (zr_v rfl) ?_
          have h8 := ha.trans (zLo_1 (by omega) (by omega) hgb)
          rw [hQ]
          refine ⟨zFr_trans hf (zFr_mono fr (by simp) (by simp)), _, rfl, Or.inl ⟨by omega, ?_⟩⟩
          rw [ezf, h8]
          unfold zFo
          rw [if_neg (fun q => by rcases q.2 with q2 | q2; exact absurd q2.1 (by decide); omega), if_neg (fun q => absurd q.1 (by decide))]
        
    exact hl n 0 _ ph2011 (Nat.zero_le _) f1 hT1 u2010.1 (Nat.zero_le _) e0 (fun j hj => absurd hj (Nat.not_lt_zero j))
theorem zm_rlines2 {ph : pm_H} {R C ln N : Nat} {rk : Nat → Bool} {t : Nat → Nat} {y : Int32} (hS : zSh ph) (hL : zMl ph R C rk) (hn14 : zc ph 170 14 = some (.int (zn ln))) (hn80 : ln ≤ 80) (gtm : ∀ i, i < ln → zc ph 176 i = some (.int (zn (t i))) ∧ t i < 256) (hN : zc ph 170 6 = some (.int (zn N))) (hN8 : N ≤ 8) (hy : y.toInt = 23) : zM 206 [.ref 170, .int (Int32.ofInt 0), .int y] ph (fun v0 q => zFr [178] [(170, 14), (170, 15), (170, 16), (170, 17), (170, 20)] ph q ∧ ∃ z : Int32, v0 = some (.int z) ∧ ((zLa R C rk 2 3 ln t (8 - N) < 0 ∧ z.toInt = zLa R C rk 2 3 ln t (8 - N)) ∨ (0 ≤ zLa R C rk 2 3 ln t (8 - N) ∧ z.toInt = 0 ∧ ∃ k : Nat, (k : Int) = zLa R C rk 2 3 ln t (8 - N) ∧ zc q 170 20 = some (.int (zn k)) ∧ ∀ j, j < k → zLg R C rk 2 ln t (3 * j) 2 = 2 ∧ zc q 178 j = some (.int (zn (zLf C t (3 * j))))))) := by
  obtain ⟨Q, hQ⟩ : ∃ Q : Option Value → pm_H → Prop, Q = (fun v0 q => zFr [178] [(170, 14), (170, 15), (170, 16), (170, 17), (170, 20)] ph q ∧ ∃ z : Int32, v0 = some (.int z) ∧ ((zLa R C rk 2 3 ln t (8 - N) < 0 ∧ z.toInt = zLa R C rk 2 3 ln t (8 - N)) ∨ (0 ≤ zLa R C rk 2 3 ln t (8 - N) ∧ z.toInt = 0 ∧ ∃ k : Nat, (k : Int) = zLa R C rk 2 3 ln t (8 - N) ∧ zc q 170 20 = some (.int (zn k)) ∧ ∀ j, j < k → zLg R C rk 2 ln t (3 * j) 2 = 2 ∧ zc q 178 j = some (.int (zn (zLf C t (3 * j))))))) := ⟨_, rfl⟩
  rw [← hQ]
  refine zM_mk fun n D => ?_
  show zW n D 206 Q 0 [some (.ref 170), some (.int (Int32.ofInt 0)), some (.int y), none, none, none] [] ph
  have c_0 : ((Int8.ofInt 59).toInt32).toInt = 59 := by decide
  have c_1 : (Int32.ofInt 0).toInt = 0 := by decide
  have c_2 : (Int32.ofInt 1).toInt = 1 := by decide
  have tln := znt (k := ln) (by omega)
  refine w_load (pc' := 1) (v := .ref 170) (m := 1) (ykc_206 (e := (2, .aload_n kF0, 0)) rfl) rfl rfl ?_
  refine w_load (pc' := 2) (v := .int y) (m := 1) (ykc_206 (e := (2, .iload_n kF2, 0)) rfl) rfl rfl ?_
  refine w_cv (as := [.ref 170, .int y]) (r := []) (ykc_206 (e := (6, .invokevirtual 175, 0)) rfl) rfl rfl rfl rfl (zm_begins (ln := ln) (c := 23) (t := t) hS hn14 hn80 gtm hy (by omega)) (fun v2040 ph2041 hv => ?_)
  obtain ⟨rfl, fb, g14, hT⟩ := hv
  show zW n D 206 Q 5 [some (.ref 170), some (.int (Int32.ofInt 0)), some (.int y), none, none, none] [.int (zn ln)] ph2041
  refine w_store (pc' := 6) (L' := [some (.ref 170), some (.int (Int32.ofInt 0)), some (.int y), some (.int (zn ln)), none, none]) (st' := []) (m := 1) (ykc_206 (e := (3, .istore_n kF3, 0)) rfl) rfl rfl ?_
  refine w_load (pc' := 7) (v := .ref 170) (m := 1) (ykc_206 (e := (2, .aload_n kF0, 0)) rfl) rfl rfl ?_
  refine w_alu (pc' := 8) (st' := [.int (Int32.ofInt 0), .ref 170]) (ykc_206 (e := (0, .iconst 0, 0)) rfl) rfl rfl ?_
  refine w_pf (pc' := 11) (ykc_206 (e := (5, .putfield 197, 0)) rfl) rfl rfl (fun ph2043 u2042 => ?_)
  refine w_alu (pc' := 12) (st' := [.int (Int32.ofInt 1)]) (ykc_206 (e := (0, .iconst 1, 0)) rfl) rfl rfl ?_
  refine w_store (pc' := 14) (L' := [some (.ref 170), some (.int (Int32.ofInt 0)), some (.int y), some (.int (zn ln)), some (.int (Int32.ofInt 1)), none]) (st' := []) (m := 2) (ykc_206 (e := (3, .istore 4, 0)) rfl) rfl rfl ?_
  refine w_load (pc' := 15) (v := .int (zn ln)) (m := 1) (ykc_206 (e := (2, .iload_n kF3, 0)) rfl) rfl rfl ?_
  refine w_zle (ykc_206 (e := (4, .ifCond .le 7, 22)) rfl) rfl (fun b2044 => ?_) (fun b2044 => ?_)
  · refine w_alu (pc' := 23) (st' := [.int (Int32.ofInt 0)]) (ykc_206 (e := (0, .iconst 0, 0)) rfl) rfl rfl ?_
    refine w_store (pc' := 25) (L' := [some (.ref 170), some (.int (Int32.ofInt 0)), some (.int y), some (.int (zn ln)), some (.int (Int32.ofInt 1)), some (.int (Int32.ofInt 0))]) (st' := []) (m := 2) (ykc_206 (e := (3, .istore 5, 0)) rfl) rfl rfl ?_
    have e0 : zLa R C rk 2 3 ln t (8 - N) = 0 := if_pos (by omega)
    have f1 : zFr [178] [(170, 14), (170, 15), (170, 16), (170, 17), (170, 20)] ph ph2043 := zFr_trans (zFr_mono fb (by simp) (by simp)) (zFr_st u2042 (Or.inr (by simp)))
    have hfa := zm_fault (is := true) (a := 0) (b := min ln 23) (ln := ln) (t := t) (n9 := ln) (c := 23) (zSh_F f1 (by decide +kernel) hS) (zTm_F (zFr_st u2042 (Or.inr (by simp)) : zFr [] [(170, 20)] _ _) (by simp) (by simp) (by simp) hT) (x := zn ln) (y := y) (by omega) (by omega)
    rw [← zi1] at hfa
    refine w_load (pc' := 27) (v := .int (Int32.ofInt 0)) (m := 2) (ykc_206 (e := (2, .iload 5, 0)) rfl) rfl rfl ?_
    refine w_zeq (ykc_206 (e := (4, .ifCond .eq 44, 71)) rfl) rfl (fun b2045 => ?_) (fun q => by exfalso; omega)
    refine w_load (pc' := 72) (v := .ref 170) (m := 1) (ykc_206 (e := (2, .aload_n kF0, 0)) rfl) rfl rfl ?_
    refine w_load (pc' := 73) (v := .int (zn ln)) (m := 1) (ykc_206 (e := (2, .iload_n kF3, 0)) rfl) rfl rfl ?_
    refine w_load (pc' := 74) (v := .int y) (m := 1) (ykc_206 (e := (2, .iload_n kF2, 0)) rfl) rfl rfl ?_
    refine w_load (pc' := 76) (v := .int (Int32.ofInt 1)) (m := 2) (ykc_206 (e := (2, .iload 4, 0)) rfl) rfl rfl ?_
    refine w_cv (as := [.ref 170, .int (zn ln), .int y, .int (Int32.ofInt 1)]) (r := []) (ykc_206 (e := (6, .invokevirtual 213, 0)) rfl) rfl rfl rfl rfl (hfa) (fun v2046 ph2047 hv => ?_)
    obtain ⟨rfl, zf, rfl, ezf⟩ := hv
    show zW n D 206 Q 79 [some (.ref 170), some (.int (Int32.ofInt 0)), some (.int y), some (.int (zn ln)), some (.int (Int32.ofInt 1)), some (.int (Int32.ofInt 0))] [.int zf] ph2043
    refine w_ret (v := (some (.int zf))) (ykc_206 (e := (7, .ireturn, 0)) rfl) (zr_v rfl) ?_
    rw [hQ]
    refine ⟨f1, _, rfl, Or.inr ⟨by omega, ?_, 0, by omega, u2042.1, fun j hj => absurd hj (Nat.not_lt_zero j)⟩⟩
    rw [ezf]
    unfold zFo
    rw [if_neg (by omega), if_pos ⟨rfl, by omega⟩]
    
  · refine w_alu (pc' := 19) (st' := [.int (Int32.ofInt 1)]) (ykc_206 (e := (0, .iconst 1, 0)) rfl) rfl rfl ?_
    refine w_br (pc' := 23) (st' := [.int (Int32.ofInt 1)]) (ykc_206 (e := (4, .goto 4, 23)) rfl) rfl ?_
    refine w_store (pc' := 25) (L' := [some (.ref 170), some (.int (Int32.ofInt 0)), some (.int y), some (.int (zn ln)), some (.int (Int32.ofInt 1)), some (.int (Int32.ofInt 1))]) (st' := []) (m := 2) (ykc_206 (e := (3, .istore 5, 0)) rfl) rfl rfl ?_
    have e0 : zLa R C rk 2 3 ln t (8 - N) = zLo R C rk 2 3 ln t (8 - N) 9 0 := if_neg (by omega)
    have f1 : zFr [178] [(170, 14), (170, 15), (170, 16), (170, 17), (170, 20)] ph ph2043 := zFr_trans (zFr_mono fb (by simp) (by simp)) (zFr_st u2042 (Or.inr (by simp)))
    have hT1 := zTm_F (zFr_st u2042 (Or.inr (by simp)) : zFr [] [(170, 20)] _ _) (by simp) (by simp) (by simp) hT
    have hl : ∀ (n : Nat), ∀ (l : Nat) (is0 : Int32) (ph2 : pm_H), (l ≤ 7) → (zFr [178] [(170, 14), (170, 15), (170, 16), (170, 17), (170, 20)] ph ph2) → (zTm ph2 (3 * l) (min ln 23) ln t) → (zc ph2 170 20 = some (.int (zn l))) → (l ≤ 8 - N) → (zLa R C rk 2 3 ln t (8 - N) = zLo R C rk 2 3 ln t (8 - N) (9 - l) l) → (∀ j, j < l → zLg R C rk 2 ln t (3 * j) 2 = 2 ∧ zc ph2 178 j = some (.int (zn (zLf C t (3 * j))))) → zW n D 206 Q 25 [some (.ref 170), some (.int (Int32.ofInt 0)), some (.int y), some (.int (zn ln)), some (.int is0), some (.int (Int32.ofInt 1))] [] ph2 := by
      intro n
      induction n using Nat.strongRecOn with
      | ind n ih =>
        intro l is0 ph2 hl7 hf hT h20 hlr ha hg
        have tl := znt (k := l) (by omega)
        have hS2 := zSh_F hf (by decide +kernel) hS
        have hL2 := zMl_F hf (by simp) (by simp) (by simp) (by simp) hL
        have hN2 := (hf.1 170 6 (by decide) (by decide)).trans hN
        have hbl : ∀ p, p < 3 * l + 2 → (p < min ln 23 ↔ p < ln) := fun p hp => by omega
        refine w_load (pc' := 27) (v := .int (Int32.ofInt 1)) (m := 2) (ykc_206 (e := (2, .iload 5, 0)) rfl) rfl rfl ?_
        refine w_zeq (ykc_206 (e := (4, .ifCond .eq 44, 71)) rfl) rfl (fun q => by exfalso; omega) (fun b2048 => ?_)
        refine w_load (pc' := 31) (v := .int (Int32.ofInt 0)) (m := 1) (ykc_206 (e := (2, .iload_n kF1, 0)) rfl) rfl rfl ?_
        refine w_zeq (ykc_206 (e := (4, .ifCond .eq 10, 41)) rfl) rfl (fun b2049 => ?_) (fun q => by exfalso; omega)
        refine w_load (pc' := 42) (v := .ref 170) (m := 1) (ykc_206 (e := (2, .aload_n kF0, 0)) rfl) rfl rfl ?_
        refine w_cv (as := [.ref 170]) (r := []) (ykc_206 (e := (6, .invokevirtual 206, 0)) rfl) rfl rfl rfl rfl (zm_rthing hS2 hL2 hT h20 (by omega) hN2 (by omega)) (fun v2050 ph2051 hv => ?_)
        rcases hv with ⟨fr, ⟨hf8, rfl, hr⟩ | ⟨hf8, hgg, rfl, hr, r20, r0, rl⟩ | ⟨hf8, hgb, rfl, hr⟩⟩
        · show zW n D 206 Q 45 [some (.ref 170), some (.int (Int32.ofInt 0)), some (.int y), some (.int (zn ln)), some (.int is0), some (.int (Int32.ofInt 1))] [.int (zI false)] ph2051
          refine w_store (pc' := 47) (L' := [some (.ref 170), some (.int (Int32.ofInt 0)), some (.int y), some (.int (zn ln)), some (.int (zI false)), some (.int (Int32.ofInt 1))]) (st' := []) (m := 2) (ykc_206 (e := (3, .istore 4, 0)) rfl) rfl rfl ?_
          refine w_load (pc' := 49) (v := .int (zI false)) (m := 2) (ykc_206 (e := (2, .iload 4, 0)) rfl) rfl rfl ?_
          refine w_beq (ykc_206 (e := (4, .ifCond .eq 16, 65)) rfl) rfl (fun b2052 => ?_) (fun q => absurd q (by decide))
          refine w_alu (pc' := 66) (st' := [.int (Int32.ofInt 0)]) (ykc_206 (e := (0, .iconst 0, 0)) rfl) rfl rfl ?_
          refine w_store (pc' := 68) (L' := [some (.ref 170), some (.int (Int32.ofInt 0)), some (.int y), some (.int (zn ln)), some (.int (zI false)), some (.int (Int32.ofInt 0))]) (st' := []) (m := 2) (ykc_206 (e := (3, .istore 5, 0)) rfl) rfl rfl ?_
          refine w_gb (ykc_206 (e := (4, .goto (-43), 25)) rfl) (fun k2053 hk2053 => ?_)
          refine w_load (pc' := 27) (v := .int (Int32.ofInt 0)) (m := 2) (ykc_206 (e := (2, .iload 5, 0)) rfl) rfl rfl ?_
          refine w_zeq (ykc_206 (e := (4, .ifCond .eq 44, 71)) rfl) rfl (fun b2054 => ?_) (fun q => by exfalso; omega)
          refine w_load (pc' := 72) (v := .ref 170) (m := 1) (ykc_206 (e := (2, .aload_n kF0, 0)) rfl) rfl rfl ?_
          refine w_load (pc' := 73) (v := .int (zn ln)) (m := 1) (ykc_206 (e := (2, .iload_n kF3, 0)) rfl) rfl rfl ?_
          refine w_load (pc' := 74) (v := .int y) (m := 1) (ykc_206 (e := (2, .iload_n kF2, 0)) rfl) rfl rfl ?_
          refine w_load (pc' := 76) (v := .int (zI false)) (m := 2) (ykc_206 (e := (2, .iload 4, 0)) rfl) rfl rfl ?_
          refine w_cv (as := [.ref 170, .int (zn ln), .int y, .int (zI false)]) (r := []) (ykc_206 (e := (6, .invokevirtual 213, 0)) rfl) rfl rfl rfl rfl (zm_fault (is := false) (a := 3 * l) (b := min ln 23) (ln := ln) (t := t) (n9 := ln) (c := 23) (zSh_F fr (by decide +kernel) hS2) hr (by omega) (by omega)) (fun v2055 ph2056 hv => ?_)
          obtain ⟨rfl, zf, rfl, ezf⟩ := hv
          show zW k2053 D 206 Q 79 [some (.ref 170), some (.int (Int32.ofInt 0)), some (.int y), some (.int (zn ln)), some (.int (zI false)), some (.int (Int32.ofInt 0))] [.int zf] ph2051
          refine w_ret (v := (some (.int zf))) (ykc_206 (e := (7, .ireturn, 0)) rfl) (zr_v rfl) ?_
          have h8 := ha.trans (zLo_0 (by omega) (show l = 8 - N by omega))
          have hab := hr.2.2.1
          rw [hQ]
          refine ⟨zFr_trans hf (zFr_mono fr (by simp) (by simp)), _, rfl, Or.inl ⟨by omega, ?_⟩⟩
          rw [ezf, h8]
          unfold zFo
          rw [if_neg (fun q => by rcases q.2 with q2 | q2; exact absurd q2.1 (by decide); omega), if_neg (fun q => absurd q.1 (by decide))]
        · have hgc : zLg R C rk 2 (min ln 23) t (3 * l) 2 = zLg R C rk 2 ln t (3 * l) 2 := zLg_b (fun i hi => hbl _ (by omega))
          rw [hgc] at hgg
          have hlast := (zLk_d (zLg_a hgg (2 - 1) (by omega))).1
          have hgl : ∀ j, j < l + 1 → zLg R C rk 2 ln t (3 * j) 2 = 2 ∧ zc ph2051 178 j = some (.int (zn (zLf C t (3 * j)))) := fun j hj => by
            by_cases e : j = l
            · subst e; exact ⟨hgg, r0⟩
            · obtain ⟨g1, g2⟩ := hg j (by omega)
              exact ⟨g1, (rl _ (by omega)).trans g2⟩
          show zW n D 206 Q 45 [some (.ref 170), some (.int (Int32.ofInt 0)), some (.int y), some (.int (zn ln)), some (.int is0), some (.int (Int32.ofInt 1))] [.int (zI true)] ph2051
          refine w_store (pc' := 47) (L' := [some (.ref 170), some (.int (Int32.ofInt 0)), some (.int y), some (.int (zn ln)), some (.int (zI true)), some (.int (Int32.ofInt 1))]) (st' := []) (m := 2) (ykc_206 (e := (3, .istore 4, 0)) rfl) rfl rfl ?_
          refine w_load (pc' := 49) (v := .int (zI true)) (m := 2) (ykc_206 (e := (2, .iload 4, 0)) rfl) rfl rfl ?_
          refine w_beq (ykc_206 (e := (4, .ifCond .eq 16, 65)) rfl) rfl (fun q => absurd q (by decide)) (fun b2057 => ?_)
          refine w_load (pc' := 53) (v := .ref 170) (m := 1) (ykc_206 (e := (2, .aload_n kF0, 0)) rfl) rfl rfl ?_
          refine w_push (pc' := 55) (v := .int ((Int8.ofInt 59).toInt32)) (m := 2) (ykc_206 (e := (1, .bipush 59, 0)) rfl) rfl rfl ?_
          refine w_cv (as := [.ref 170, .int ((Int8.ofInt 59).toInt32)]) (r := []) (ykc_206 (e := (6, .invokevirtual 209, 0)) rfl) rfl rfl rfl rfl (zm_takes (zSh_F fr (by decide +kernel) hS2) hr (c := 59) (by omega)) (fun v2058 ph2059 hv => ?_)
          rcases hv with ⟨fs, ⟨hc5, rfl, hts⟩ | ⟨hc5, rfl, hts⟩⟩
          · show zW n D 206 Q 58 [some (.ref 170), some (.int (Int32.ofInt 0)), some (.int y), some (.int (zn ln)), some (.int (zI true)), some (.int (Int32.ofInt 1))] [.int (zI true)] ph2059
            refine w_beq (ykc_206 (e := (4, .ifCond .eq 7, 65)) rfl) rfl (fun q => absurd q (by decide)) (fun b2060 => ?_)
            refine w_alu (pc' := 62) (st' := [.int (Int32.ofInt 1)]) (ykc_206 (e := (0, .iconst 1, 0)) rfl) rfl rfl ?_
            refine w_br (pc' := 66) (st' := [.int (Int32.ofInt 1)]) (ykc_206 (e := (4, .goto 4, 66)) rfl) rfl ?_
            refine w_store (pc' := 68) (L' := [some (.ref 170), some (.int (Int32.ofInt 0)), some (.int y), some (.int (zn ln)), some (.int (zI true)), some (.int (Int32.ofInt 1))]) (st' := []) (m := 2) (ykc_206 (e := (3, .istore 5, 0)) rfl) rfl rfl ?_
            refine w_gb (ykc_206 (e := (4, .goto (-43), 25)) rfl) (fun k2061 hk2061 => ?_)
            have h8 := ha.trans (zLo_4 (by omega) (by omega) hgg (by omega) (by omega))
            rw [show 3 * l + 2 + 1 = 3 * (l + 1) by omega] at hts
            exact ih k2061 hk2061 (l + 1) _ _ (by omega) (zFr_trans hf (zFr_trans (zFr_mono fr (by simp) (by simp)) (zFr_mono fs (by simp) (by simp)))) hts ((fs.1 170 20 (by decide) (by decide)).trans r20) (by omega) h8 (fun j hj => by
              obtain ⟨g1, g2⟩ := hgl j hj
              exact ⟨g1, (fs.1 178 _ (by decide) (by simp)).trans g2⟩)
          · show zW n D 206 Q 58 [some (.ref 170), some (.int (Int32.ofInt 0)), some (.int y), some (.int (zn ln)), some (.int (zI true)), some (.int (Int32.ofInt 1))] [.int (zI false)] ph2059
            refine w_beq (ykc_206 (e := (4, .ifCond .eq 7, 65)) rfl) rfl (fun b2062 => ?_) (fun q => absurd q (by decide))
            refine w_alu (pc' := 66) (st' := [.int (Int32.ofInt 0)]) (ykc_206 (e := (0, .iconst 0, 0)) rfl) rfl rfl ?_
            refine w_store (pc' := 68) (L' := [some (.ref 170), some (.int (Int32.ofInt 0)), some (.int y), some (.int (zn ln)), some (.int (zI true)), some (.int (Int32.ofInt 0))]) (st' := []) (m := 2) (ykc_206 (e := (3, .istore 5, 0)) rfl) rfl rfl ?_
            refine w_gb (ykc_206 (e := (4, .goto (-43), 25)) rfl) (fun k2063 hk2063 => ?_)
            refine w_load (pc' := 27) (v := .int (Int32.ofInt 0)) (m := 2) (ykc_206 (e := (2, .iload 5, 0)) rfl) rfl rfl ?_
            refine w_zeq (ykc_206 (e := (4, .ifCond .eq 44, 71)) rfl) rfl (fun b2064 => ?_) (fun q => by exfalso; omega)
            refine w_load (pc' := 72) (v := .ref 170) (m := 1) (ykc_206 (e := (2, .aload_n kF0, 0)) rfl) rfl rfl ?_
            refine w_load (pc' := 73) (v := .int (zn ln)) (m := 1) (ykc_206 (e := (2, .iload_n kF3, 0)) rfl) rfl rfl ?_
            refine w_load (pc' := 74) (v := .int y) (m := 1) (ykc_206 (e := (2, .iload_n kF2, 0)) rfl) rfl rfl ?_
            refine w_load (pc' := 76) (v := .int (zI true)) (m := 2) (ykc_206 (e := (2, .iload 4, 0)) rfl) rfl rfl ?_
            refine w_cv (as := [.ref 170, .int (zn ln), .int y, .int (zI true)]) (r := []) (ykc_206 (e := (6, .invokevirtual 213, 0)) rfl) rfl rfl rfl rfl (zm_fault (is := true) (a := 3 * l + 2) (b := min ln 23) (ln := ln) (t := t) (n9 := ln) (c := 23) (zSh_F fs (by decide +kernel) (zSh_F fr (by decide +kernel) hS2)) hts (by omega) (by omega)) (fun v2065 ph2066 hv => ?_)
            obtain ⟨rfl, zf, rfl, ezf⟩ := hv
            show zW k2063 D 206 Q 79 [some (.ref 170), some (.int (Int32.ofInt 0)), some (.int y), some (.int (zn ln)), some (.int (zI true)), some (.int (Int32.ofInt 0))] [.int zf] ph2059
            refine w_ret (v := (some (.int zf))) (ykc_206 (e := (7, .ireturn, 0)) rfl) (zr_v rfl) ?_
            have f9 : zFr [178] [(170, 14), (170, 15), (170, 16), (170, 17), (170, 20)] ph ph2059 := zFr_trans hf (zFr_trans (zFr_mono fr (by simp) (by simp)) (zFr_mono fs (by simp) (by simp)))
            have hab := hts.2.2.1
            rw [hQ]
            refine ⟨f9, _, rfl, ?_⟩
            rw [ezf]
            unfold zFo
            by_cases e : 3 * l + 2 = ln
            · have h8 := ha.trans (zLo_2 (by omega) (by omega) hgg e)
              rw [if_neg (by omega), if_pos ⟨rfl, by omega⟩]
              exact Or.inr ⟨by omega, rfl, l + 1, by omega, (fs.1 170 20 (by decide) (by decide)).trans r20, fun j hj => by
                obtain ⟨g1, g2⟩ := hgl j hj
                exact ⟨g1, (fs.1 178 _ (by decide) (by simp)).trans g2⟩⟩
            · have h4 : l = 7 ∨ t (3 * l + 2) ≠ 59 := by omega
              have h8 := ha.trans (zLo_3 (by omega) (by omega) hgg e h4)
              refine Or.inl ⟨by omega, ?_⟩
              rw [h8]
              by_cases e2 : 3 * l + 2 = min ln 23
              · rw [if_pos ⟨by omega, Or.inl ⟨rfl, e2⟩⟩]
                omega
              · rw [if_neg (fun q => by rcases q.2 with q2 | q2; exact e2 q2.2; omega), if_neg (fun q => e2 q.2)]
          
        · have hgc : zLg R C rk 2 (min ln 23) t (3 * l) 2 = zLg R C rk 2 ln t (3 * l) 2 := zLg_b (fun i hi => hbl _ (by omega))
          rw [hgc] at hgb hr
          show zW n D 206 Q 45 [some (.ref 170), some (.int (Int32.ofInt 0)), some (.int y), some (.int (zn ln)), some (.int is0), some (.int (Int32.ofInt 1))] [.int (zI false)] ph2051
          refine w_store (pc' := 47) (L' := [some (.ref 170), some (.int (Int32.ofInt 0)), some (.int y), some (.int (zn ln)), some (.int (zI false)), some (.int (Int32.ofInt 1))]) (st' := []) (m := 2) (ykc_206 (e := (3, .istore 4, 0)) rfl) rfl rfl ?_
          refine w_load (pc' := 49) (v := .int (zI false)) (m := 2) (ykc_206 (e := (2, .iload 4, 0)) rfl) rfl rfl ?_
          refine w_beq (ykc_206 (e := (4, .ifCond .eq 16, 65)) rfl) rfl (fun b2067 => ?_) (fun q => absurd q (by decide))
          refine w_alu (pc' := 66) (st' := [.int (Int32.ofInt 0)]) (ykc_206 (e := (0, .iconst 0, 0)) rfl) rfl rfl ?_
          refine w_store (pc' := 68) (L' := [some (.ref 170), some (.int (Int32.ofInt 0)), some (.int y), some (.int (zn ln)), some (.int (zI false)), some (.int (Int32.ofInt 0))]) (st' := []) (m := 2) (ykc_206 (e := (3, .istore 5, 0)) rfl) rfl rfl ?_
          refine w_gb (ykc_206 (e := (4, .goto (-43), 25)) rfl) (fun k2068 hk2068 => ?_)
          refine w_load (pc' := 27) (v := .int (Int32.ofInt 0)) (m := 2) (ykc_206 (e := (2, .iload 5, 0)) rfl) rfl rfl ?_
          refine w_zeq (ykc_206 (e := (4, .ifCond .eq 44, 71)) rfl) rfl (fun b2069 => ?_) (fun q => by exfalso; omega)
          refine w_load (pc' := 72) (v := .ref 170) (m := 1) (ykc_206 (e := (2, .aload_n kF0, 0)) rfl) rfl rfl ?_
          refine w_load (pc' := 73) (v := .int (zn ln)) (m := 1) (ykc_206 (e := (2, .iload_n kF3, 0)) rfl) rfl rfl ?_
          refine w_load (pc' := 74) (v := .int y) (m := 1) (ykc_206 (e := (2, .iload_n kF2, 0)) rfl) rfl rfl ?_
          refine w_load (pc' := 76) (v := .int (zI false)) (m := 2) (ykc_206 (e := (2, .iload 4, 0)) rfl) rfl rfl ?_
          refine w_cv (as := [.ref 170, .int (zn ln), .int y, .int (zI false)]) (r := []) (ykc_206 (e := (6, .invokevirtual 213, 0)) rfl) rfl rfl rfl rfl (zm_fault (is := false) (a := 3 * l + zLg R C rk 2 ln t (3 * l) 2) (b := min ln 23) (ln := ln) (t := t) (n9 := ln) (c := 23) (zSh_F fr (by decide +kernel) hS2) hr (by omega) (by omega)) (fun v2070 ph2071 hv => ?_)
          obtain ⟨rfl, zf, rfl, ezf⟩ := hv
          show zW k2068 D 206 Q 79 [some (.ref 170), some (.int (Int32.ofInt 0)), some (.int y), some (.int (zn ln)), some (.int (zI false)), some (.int (Int32.ofInt 0))] [.int zf] ph2051
          refine w_ret (v := (some (.int zf))) (ykc_206 (e := (7, .ireturn, 0)) rfl) (zr_v rfl) ?_
          have h8 := ha.trans (zLo_1 (by omega) (by omega) hgb)
          rw [hQ]
          refine ⟨zFr_trans hf (zFr_mono fr (by simp) (by simp)), _, rfl, Or.inl ⟨by omega, ?_⟩⟩
          rw [ezf, h8]
          unfold zFo
          rw [if_neg (fun q => by rcases q.2 with q2 | q2; exact absurd q2.1 (by decide); omega), if_neg (fun q => absurd q.1 (by decide))]
        
    exact hl n 0 _ ph2043 (Nat.zero_le _) f1 hT1 u2042.1 (Nat.zero_le _) e0 (fun j hj => absurd hj (Nat.not_lt_zero j))
theorem zm_isNew {ph : pm_H} {k u ch : Nat} (hS : zSh ph) (h20 : zc ph 170 20 = some (.int (zn k))) (hk8 : k ≤ 8) (gu : zc ph 170 27 = some (.int (zn u))) (hu : u ≤ 15) (gc : zc ph 170 7 = some (.int (zn ch))) (hch : ch < 1000) : zM 207 [.ref 170] ph (fun v0 q => v0 = some (.int (zn k)) ∧ zFr [] [(170, 7), (170, 27)] ph q ∧ zc q 170 27 = some (.int (zn (if 0 < k then 0 else u))) ∧ zc q 170 7 = some (.int (zn (if 0 < k then ch + 1 else ch)))) := by
  obtain ⟨Q, hQ⟩ : ∃ Q : Option Value → pm_H → Prop, Q = (fun v0 q => v0 = some (.int (zn k)) ∧ zFr [] [(170, 7), (170, 27)] ph q ∧ zc q 170 27 = some (.int (zn (if 0 < k then 0 else u))) ∧ zc q 170 7 = some (.int (zn (if 0 < k then ch + 1 else ch)))) := ⟨_, rfl⟩
  rw [← hQ]
  refine zM_mk fun n D => ?_
  show zW n D 207 Q 0 [some (.ref 170)] [] ph
  have c_0 : (Int32.ofInt 0).toInt = 0 := by decide
  have c_1 : (Int32.ofInt 1).toInt = 1 := by decide
  have tk := znt (k := k) (by omega)
  have tu := znt (k := u) (by omega)
  have tc := znt (k := ch) (by omega)
  refine w_load (pc' := 1) (v := .ref 170) (m := 1) (ykc_207 (e := (2, .aload_n kF0, 0)) rfl) rfl rfl ?_
  refine w_load (pc' := 2) (v := .ref 170) (m := 1) (ykc_207 (e := (2, .aload_n kF0, 0)) rfl) rfl rfl ?_
  refine w_gf (pc' := 5) (v := .int (zn k)) (ykc_207 (e := (5, .getfield 197, 0)) rfl) rfl h20 rfl ?_
  refine w_zle (ykc_207 (e := (4, .ifCond .le 7, 12)) rfl) rfl (fun b2072 => ?_) (fun b2072 => ?_)
  · refine w_load (pc' := 13) (v := .ref 170) (m := 1) (ykc_207 (e := (2, .aload_n kF0, 0)) rfl) rfl rfl ?_
    refine w_gf (pc' := 16) (v := .int (zn u)) (ykc_207 (e := (5, .getfield 188, 0)) rfl) rfl gu rfl ?_
    refine w_pf (pc' := 19) (ykc_207 (e := (5, .putfield 188, 0)) rfl) rfl rfl (fun ph2074 u2073 => ?_)
    refine w_load (pc' := 20) (v := .ref 170) (m := 1) (ykc_207 (e := (2, .aload_n kF0, 0)) rfl) rfl rfl ?_
    refine w_alu (pc' := 21) (st' := [.ref 170, .ref 170]) (ykc_207 (e := (0, .dup, 0)) rfl) rfl rfl ?_
    refine w_gf (pc' := 24) (v := .int (zn ch)) (ykc_207 (e := (5, .getfield 191, 0)) rfl) rfl ((u2073.2.1 170 7 (fun q => absurd q.2 (by decide))).trans gc) rfl ?_
    refine w_load (pc' := 25) (v := .ref 170) (m := 1) (ykc_207 (e := (2, .aload_n kF0, 0)) rfl) rfl rfl ?_
    refine w_gf (pc' := 28) (v := .int (zn k)) (ykc_207 (e := (5, .getfield 197, 0)) rfl) rfl ((u2073.2.1 170 20 (fun q => absurd q.2 (by decide))).trans h20) rfl ?_
    refine w_zle (ykc_207 (e := (4, .ifCond .le 7, 35)) rfl) rfl (fun b2075 => ?_) (fun q => by exfalso; omega)
    refine w_alu (pc' := 36) (st' := [.int (Int32.ofInt 0), .int (zn ch), .ref 170]) (ykc_207 (e := (0, .iconst 0, 0)) rfl) rfl rfl ?_
    refine w_cs (as := [.int (Int32.ofInt 0)]) (r := [.int (zn ch), .ref 170]) (ykc_207 (e := (6, .invokestatic 154, 0)) rfl) rfl rfl rfl rfl (zm_flag0) (fun v2076 ph2077 hv => ?_)
    obtain ⟨rfl, rfl⟩ := hv
    have cI1 : (zI true).toInt = 1 := rfl
    have cI0 : (zI false).toInt = 0 := rfl
    show zW n D 207 Q 39 [some (.ref 170)] [.int (zI false), .int (zn ch), .ref 170] ph2074
    have e2078 : (zn ch) + (zI false) = zn (ch) := zaddN (a := ch) (b := 0) tc cI0 (by omega)
    have te2078 := znt (k := ch) (by omega)
    refine w_alu (pc' := 40) (st' := [.int (zn (ch)), .ref 170]) (ykc_207 (e := (0, .iadd, 0)) rfl) (by show some ([.int ((zn ch) + (zI false)), .ref 170] : List Value) = _; rw [e2078]) rfl ?_
    refine w_pf (pc' := 43) (ykc_207 (e := (5, .putfield 191, 0)) rfl) rfl rfl (fun ph2080 u2079 => ?_)
    refine w_load (pc' := 44) (v := .ref 170) (m := 1) (ykc_207 (e := (2, .aload_n kF0, 0)) rfl) rfl rfl ?_
    refine w_gf (pc' := 47) (v := .int (zn k)) (ykc_207 (e := (5, .getfield 197, 0)) rfl) rfl ((u2079.2.1 170 20 (fun q => absurd q.2 (by decide))).trans ((u2073.2.1 170 20 (fun q => absurd q.2 (by decide))).trans h20)) rfl ?_
    refine w_ret (v := (some (.int (zn k)))) (ykc_207 (e := (7, .ireturn, 0)) rfl) (zr_v rfl) ?_
    have h9 : ¬ 0 < k := by omega
    rw [hQ, if_neg h9, if_neg h9]
    exact ⟨rfl, zFr_trans (zFr_st u2073 (Or.inr (by simp))) (zFr_st u2079 (Or.inr (by simp))), ((u2079.2.1 170 27 (fun q => absurd q.2 (by decide))).trans u2073.1), u2079.1⟩
  · refine w_alu (pc' := 9) (st' := [.int (Int32.ofInt 0), .ref 170]) (ykc_207 (e := (0, .iconst 0, 0)) rfl) rfl rfl ?_
    refine w_br (pc' := 16) (st' := [.int (Int32.ofInt 0), .ref 170]) (ykc_207 (e := (4, .goto 7, 16)) rfl) rfl ?_
    refine w_pf (pc' := 19) (ykc_207 (e := (5, .putfield 188, 0)) rfl) rfl rfl (fun ph2082 u2081 => ?_)
    refine w_load (pc' := 20) (v := .ref 170) (m := 1) (ykc_207 (e := (2, .aload_n kF0, 0)) rfl) rfl rfl ?_
    refine w_alu (pc' := 21) (st' := [.ref 170, .ref 170]) (ykc_207 (e := (0, .dup, 0)) rfl) rfl rfl ?_
    refine w_gf (pc' := 24) (v := .int (zn ch)) (ykc_207 (e := (5, .getfield 191, 0)) rfl) rfl ((u2081.2.1 170 7 (fun q => absurd q.2 (by decide))).trans gc) rfl ?_
    refine w_load (pc' := 25) (v := .ref 170) (m := 1) (ykc_207 (e := (2, .aload_n kF0, 0)) rfl) rfl rfl ?_
    refine w_gf (pc' := 28) (v := .int (zn k)) (ykc_207 (e := (5, .getfield 197, 0)) rfl) rfl ((u2081.2.1 170 20 (fun q => absurd q.2 (by decide))).trans h20) rfl ?_
    refine w_zle (ykc_207 (e := (4, .ifCond .le 7, 35)) rfl) rfl (fun q => by exfalso; omega) (fun b2083 => ?_)
    refine w_alu (pc' := 32) (st' := [.int (Int32.ofInt 1), .int (zn ch), .ref 170]) (ykc_207 (e := (0, .iconst 1, 0)) rfl) rfl rfl ?_
    refine w_br (pc' := 36) (st' := [.int (Int32.ofInt 1), .int (zn ch), .ref 170]) (ykc_207 (e := (4, .goto 4, 36)) rfl) rfl ?_
    refine w_cs (as := [.int (Int32.ofInt 1)]) (r := [.int (zn ch), .ref 170]) (ykc_207 (e := (6, .invokestatic 154, 0)) rfl) rfl rfl rfl rfl (zm_flag1) (fun v2084 ph2085 hv => ?_)
    obtain ⟨rfl, rfl⟩ := hv
    have cI1 : (zI true).toInt = 1 := rfl
    have cI0 : (zI false).toInt = 0 := rfl
    show zW n D 207 Q 39 [some (.ref 170)] [.int (zI true), .int (zn ch), .ref 170] ph2082
    have e2086 : (zn ch) + (zI true) = zn (ch + 1) := zaddN (a := ch) (b := 1) tc cI1 (by omega)
    have te2086 := znt (k := ch + 1) (by omega)
    refine w_alu (pc' := 40) (st' := [.int (zn (ch + 1)), .ref 170]) (ykc_207 (e := (0, .iadd, 0)) rfl) (by show some ([.int ((zn ch) + (zI true)), .ref 170] : List Value) = _; rw [e2086]) rfl ?_
    refine w_pf (pc' := 43) (ykc_207 (e := (5, .putfield 191, 0)) rfl) rfl rfl (fun ph2088 u2087 => ?_)
    refine w_load (pc' := 44) (v := .ref 170) (m := 1) (ykc_207 (e := (2, .aload_n kF0, 0)) rfl) rfl rfl ?_
    refine w_gf (pc' := 47) (v := .int (zn k)) (ykc_207 (e := (5, .getfield 197, 0)) rfl) rfl ((u2087.2.1 170 20 (fun q => absurd q.2 (by decide))).trans ((u2081.2.1 170 20 (fun q => absurd q.2 (by decide))).trans h20)) rfl ?_
    refine w_ret (v := (some (.int (zn k)))) (ykc_207 (e := (7, .ireturn, 0)) rfl) (zr_v rfl) ?_
    have h9 : 0 < k := by omega
    rw [hQ, if_pos h9, if_pos h9]
    exact ⟨rfl, zFr_trans (zFr_st u2081 (Or.inr (by simp))) (zFr_st u2087 (Or.inr (by simp))), ((u2087.2.1 170 27 (fun q => absurd q.2 (by decide))).trans u2081.1), u2087.1⟩
theorem zNr_ad {p q1 q2 q3 q : pm_H} {P f a b : Nat} {v : Nat → Nat} (u1 : zst p q1 174 P (.int (zn f))) (u2 : zst q1 q2 174 (8 + P) (.int (zn a))) (u3 : zst q2 q3 174 (16 + P) (.int (zn b))) (u4 : zst q3 q 174 (24 + P) (.int (zn 0))) (h : zNr p 174 0 v) : zNr q 174 0 (zad v P f a b) := zNr_u u4 (zNr_u u3 (zNr_u u2 (zNr_u u1 h)))
theorem zm_people {ph : pm_H} {ln : Nat} {t : Nat → Nat} {R C P G u ch hn : Nat} {rk : Nat → Bool} {v : Nat → Nat} {w : Nat → Nat → Nat} {kp : Nat → Bool} {kc : Nat → Nat} {sv : Nat → Nat → Nat} (hS : zSh ph) (hn14 : zc ph 170 14 = some (.int (zn ln))) (hn80 : ln ≤ 80) (gtm : ∀ i, i < ln → zc ph 176 i = some (.int (zn (t i))) ∧ t i < 256) (hK : zKM ph R C rk P G v u w ch kp kc sv hn) (hch : ch < 1000) : zM 208 [.ref 170] ph (fun v0 q => ∃ z : Int32, v0 = some (.int z) ∧ z.toInt = zLa R C rk 4 5 ln t (8 - P) ∧ ((zLa R C rk 4 5 ln t (8 - P) ≤ 0 ∧ zKM q R C rk P G v u w ch kp kc sv hn) ∨ (∃ k : Nat, 0 < k ∧ (k : Int) = zLa R C rk 4 5 ln t (8 - P) ∧ zKM q R C rk (P + k) G (zPv C t P v k) 0 w (ch + 1) kp kc sv hn))) := by
  obtain ⟨Q, hQ⟩ : ∃ Q : Option Value → pm_H → Prop, Q = (fun v0 q => ∃ z : Int32, v0 = some (.int z) ∧ z.toInt = zLa R C rk 4 5 ln t (8 - P) ∧ ((zLa R C rk 4 5 ln t (8 - P) ≤ 0 ∧ zKM q R C rk P G v u w ch kp kc sv hn) ∨ (∃ k : Nat, 0 < k ∧ (k : Int) = zLa R C rk 4 5 ln t (8 - P) ∧ zKM q R C rk (P + k) G (zPv C t P v k) 0 w (ch + 1) kp kc sv hn))) := ⟨_, rfl⟩
  rw [← hQ]
  refine zM_mk fun n D => ?_
  show zW n D 208 Q 0 [some (.ref 170), none, none] [] ph
  have c_0 : ((Int8.ofInt 16).toInt32).toInt = 16 := by decide
  have c_1 : ((Int8.ofInt 24).toInt32).toInt = 24 := by decide
  have c_2 : ((Int8.ofInt 39).toInt32).toInt = 39 := by decide
  have c_3 : ((Int8.ofInt 8).toInt32).toInt = 8 := by decide
  have c_4 : (Int32.ofInt 0).toInt = 0 := by decide
  have c_5 : (Int32.ofInt 1).toInt = 1 := by decide
  have c_6 : (Int32.ofInt 2).toInt = 2 := by decide
  have c_7 : (Int32.ofInt 3).toInt = 3 := by decide
  obtain ⟨hL, hN, hv, hU, hk, hh⟩ := hK
  obtain ⟨gP, hP8, gG, hG8⟩ := id hN
  have tP := znt (k := P) (by omega)
  have tG := znt (k := G) (by omega)
  have hR37 : 3 ≤ R ∧ R ≤ 7 := ⟨hL.2.2.2.1, hL.2.2.2.2.1⟩
  have hC37 : 3 ≤ C ∧ C ≤ 7 := hL.2.2.2.2.2
  have hRC49 : R * C ≤ 49 := zRC49 hR37.2 hC37.2
  have hr := @zLa_r R C 4 5 ln (8 - P) rk t (by omega)
  refine w_load (pc' := 1) (v := .ref 170) (m := 1) (ykc_208 (e := (2, .aload_n kF0, 0)) rfl) rfl rfl ?_
  refine w_alu (pc' := 2) (st' := [.int (Int32.ofInt 0), .ref 170]) (ykc_208 (e := (0, .iconst 0, 0)) rfl) rfl rfl ?_
  refine w_pf (pc' := 5) (ykc_208 (e := (5, .putfield 3, 0)) rfl) rfl rfl (fun ph2090 u2089 => ?_)
  refine w_load (pc' := 6) (v := .ref 170) (m := 1) (ykc_208 (e := (2, .aload_n kF0, 0)) rfl) rfl rfl ?_
  refine w_alu (pc' := 7) (st' := [.int (Int32.ofInt 1), .ref 170]) (ykc_208 (e := (0, .iconst 1, 0)) rfl) rfl rfl ?_
  refine w_push (pc' := 9) (v := .int ((Int8.ofInt 39).toInt32)) (m := 2) (ykc_208 (e := (1, .bipush 39, 0)) rfl) rfl rfl ?_
  have f0 : zFr [] [(170, 0)] ph ph2090 := zFr_st u2089 (Or.inr (by simp))
  refine w_cv (as := [.ref 170, .int (Int32.ofInt 1), .int ((Int8.ofInt 39).toInt32)]) (r := []) (ykc_208 (e := (6, .invokevirtual 217, 0)) rfl) rfl rfl rfl rfl (zm_rlines4 (ln := ln) (t := t) (N := P) (zSh_F f0 (by decide +kernel) hS) (zMl_F f0 (by simp) (by simp) (by simp) (by simp) hL) ((f0.1 170 14 (by decide) (by decide)).trans hn14) hn80 (fun i hi => ⟨(f0.1 176 i (by decide) (by simp)).trans (gtm i hi).1, (gtm i hi).2⟩) ((f0.1 170 5 (by decide) (by decide)).trans gP) (by omega) (by omega)) (fun v2091 ph2092 hv => ?_)
  rcases hv with ⟨fr, z9, rfl, ⟨hneg, ez⟩ | ⟨hpos, ez, k9, ek9, rl20, hgl⟩⟩
  · have f1 : zFr [178] [(170, 0), (170, 14), (170, 15), (170, 16), (170, 17), (170, 20)] ph ph2092 := zFr_trans (zFr_mono f0 (by simp) (by simp)) (zFr_mono fr (by simp) (by simp))
    show zW n D 208 Q 12 [some (.ref 170), none, none] [.int z9] ph2092
    refine w_store (pc' := 13) (L' := [some (.ref 170), some (.int z9), none]) (st' := []) (m := 1) (ykc_208 (e := (3, .istore_n kF1, 0)) rfl) rfl rfl ?_
    refine w_load (pc' := 14) (v := .int z9) (m := 1) (ykc_208 (e := (2, .iload_n kF1, 0)) rfl) rfl rfl ?_
    refine w_zge (ykc_208 (e := (4, .ifCond .ge 5, 19)) rfl) rfl (fun q => by exfalso; omega) (fun b2093 => ?_)
    refine w_load (pc' := 18) (v := .int z9) (m := 1) (ykc_208 (e := (2, .iload_n kF1, 0)) rfl) rfl rfl ?_
    refine w_ret (v := (some (.int z9))) (ykc_208 (e := (7, .ireturn, 0)) rfl) (zr_v rfl) ?_
    rw [hQ]
    exact ⟨_, rfl, ez, Or.inl ⟨by omega, zMl_F f1 (by simp) (by simp) (by simp) (by simp) hL, zMp_F f1 (by simp) (by simp) (by simp) hN, zNr_F f1 (by simp) (by simp) hv, zMu_F f1 (by simp) (by simp) (by simp) hU, zMk_F f1 (by simp) (by simp) (by simp) hk, zMh_F f1 (by simp) (by simp) hh⟩⟩
  · have f1 : zFr [178] [(170, 0), (170, 14), (170, 15), (170, 16), (170, 17), (170, 20)] ph ph2092 := zFr_trans (zFr_mono f0 (by simp) (by simp)) (zFr_mono fr (by simp) (by simp))
    have h20 := rl20
    have tk9 := znt (k := k9) (by omega)
    show zW n D 208 Q 12 [some (.ref 170), none, none] [.int z9] ph2092
    refine w_store (pc' := 13) (L' := [some (.ref 170), some (.int z9), none]) (st' := []) (m := 1) (ykc_208 (e := (3, .istore_n kF1, 0)) rfl) rfl rfl ?_
    refine w_load (pc' := 14) (v := .int z9) (m := 1) (ykc_208 (e := (2, .iload_n kF1, 0)) rfl) rfl rfl ?_
    refine w_zge (ykc_208 (e := (4, .ifCond .ge 5, 19)) rfl) rfl (fun b2094 => ?_) (fun q => by exfalso; omega)
    refine w_alu (pc' := 20) (st' := [.int (Int32.ofInt 0)]) (ykc_208 (e := (0, .iconst 0, 0)) rfl) rfl rfl ?_
    refine w_store (pc' := 21) (L' := [some (.ref 170), some (.int z9), some (.int (Int32.ofInt 0))]) (st' := []) (m := 1) (ykc_208 (e := (3, .istore_n kF2, 0)) rfl) rfl rfl ?_
    have hl : ∀ (n : Nat), ∀ (k : Nat) (ph2 : pm_H), (k ≤ k9) → (zFr [174] [(170, 5)] ph2092 ph2) → (zMp ph2 (P + k) G) → (zNr ph2 174 0 (zPv C t P v k)) → zW n D 208 Q 21 [some (.ref 170), some (.int z9), some (.int (zn k))] [] ph2 := by
      intro n
      induction n using Nat.strongRecOn with
      | ind n ih =>
        intro k ph2 hk9 hf hN2 hv2
        have tk := znt (k := k) (by omega)
        have tc9 := znt (k := P + k) (by omega)
        refine w_load (pc' := 22) (v := .int (zn k)) (m := 1) (ykc_208 (e := (2, .iload_n kF2, 0)) rfl) rfl rfl ?_
        refine w_load (pc' := 23) (v := .ref 170) (m := 1) (ykc_208 (e := (2, .aload_n kF0, 0)) rfl) rfl rfl ?_
        refine w_gf (pc' := 26) (v := .int (zn k9)) (ykc_208 (e := (5, .getfield 197, 0)) rfl) rfl ((hf.1 170 20 (by decide) (by decide)).trans h20) rfl ?_
        refine w_ige (ykc_208 (e := (4, .if_icmp .ge 93, 119)) rfl) rfl (fun b2095 => ?_) (fun b2095 => ?_)
        · refine w_load (pc' := 120) (v := .ref 170) (m := 1) (ykc_208 (e := (2, .aload_n kF0, 0)) rfl) rfl rfl ?_
          have ek : k = k9 := by omega
          subst ek
          have f2 : zFr [174, 178] [(170, 0), (170, 5), (170, 6), (170, 14), (170, 15), (170, 16), (170, 17), (170, 20)] ph ph2 := zFr_trans (zFr_mono f1 (by simp) (by simp)) (zFr_mono hf (by simp) (by simp))
          refine w_cv (as := [.ref 170]) (r := []) (ykc_208 (e := (6, .invokevirtual 221, 0)) rfl) rfl rfl rfl rfl (zm_isNew (u := u) (ch := ch) (zSh_F f2 (by decide +kernel) hS) ((hf.1 170 20 (by decide) (by decide)).trans h20) (by omega) ((f2.1 170 27 (by decide) (by decide)).trans hU.1) hU.2.1 ((f2.1 170 7 (by decide) (by decide)).trans hk.1) hch) (fun v2096 ph2097 hv => ?_)
          obtain ⟨rfl, fn, g27, g7⟩ := hv
          show zW n D 208 Q 123 [some (.ref 170), some (.int z9), some (.int (zn k))] [.int (zn k)] ph2097
          refine w_ret (v := (some (.int (zn k)))) (ykc_208 (e := (7, .ireturn, 0)) rfl) (zr_v rfl) ?_
          have f3 : zFr [174, 178] [(170, 0), (170, 5), (170, 6), (170, 7), (170, 14), (170, 15), (170, 16), (170, 17), (170, 20), (170, 27)] ph _ := zFr_trans (zFr_mono f2 (by simp) (by simp)) (zFr_mono fn (by simp) (by simp))
          have hL3 := zMl_F f3 (by simp) (by simp) (by simp) (by simp) hL
          have hN3 := zMp_F fn (by simp) (by simp) (by simp) hN2
          have hv3 := zNr_F fn (by simp) (by simp) hv2
          have hh3 := zMh_F f3 (by simp) (by simp) hh
          rw [hQ]
          refine ⟨_, rfl, by omega, ?_⟩
          by_cases e : 0 < k
          · rw [if_pos e] at g27 g7
            refine Or.inr ⟨k, e, by omega, hL3, hN3, hv3, ⟨g27, by decide, fun i hi => absurd hi (Nat.not_lt_zero i)⟩, ⟨g7, by omega, fun i hi => ?_⟩, hh3⟩
            obtain ⟨k1, k2, k3, k4⟩ := hk.2.2 i hi
            exact ⟨(f3.1 198 i (by decide) (by simp)).trans k1, (f3.1 199 i (by decide) (by simp)).trans k2, by omega, fun h => zNr_F f3 (by simp) (by simp) (k4 h)⟩
          · obtain rfl : k = 0 := by omega
            rw [if_neg e] at g27 g7
            refine Or.inl ⟨by omega, hL3, hN3, hv3, ⟨g27, hU.2.1, zUr_F f3 (by simp) (by simp) hU.2.2⟩, ⟨g7, hk.2.1, fun i hi => ?_⟩, hh3⟩
            obtain ⟨k1, k2, k3, k4⟩ := hk.2.2 i hi
            exact ⟨(f3.1 198 i (by decide) (by simp)).trans k1, (f3.1 199 i (by decide) (by simp)).trans k2, k3, fun h => zNr_F f3 (by simp) (by simp) (k4 h)⟩
        · have hlt : k < k9 := by omega
          refine w_load (pc' := 30) (v := .ref 170) (m := 1) (ykc_208 (e := (2, .aload_n kF0, 0)) rfl) rfl rfl ?_
          refine w_gf (pc' := 33) (v := .ref 174) (ykc_208 (e := (5, .getfield 41, 0)) rfl) rfl ((hf.1 170 11 (by decide) (by decide)).trans ((f1.1 170 11 (by decide) (by decide)).trans (zsg hS zs_170_11))) rfl ?_
          refine w_load (pc' := 34) (v := .ref 170) (m := 1) (ykc_208 (e := (2, .aload_n kF0, 0)) rfl) rfl rfl ?_
          refine w_gf (pc' := 37) (v := .int (zn (P + k))) (ykc_208 (e := (5, .getfield 130, 0)) rfl) rfl hN2.1 rfl ?_
          refine w_load (pc' := 38) (v := .ref 170) (m := 1) (ykc_208 (e := (2, .aload_n kF0, 0)) rfl) rfl rfl ?_
          refine w_gf (pc' := 41) (v := .ref 178) (ykc_208 (e := (5, .getfield 53, 0)) rfl) rfl ((hf.1 170 19 (by decide) (by decide)).trans ((f1.1 170 19 (by decide) (by decide)).trans (zsg hS zs_170_19))) rfl ?_
          refine w_alu (pc' := 42) (st' := [.int (Int32.ofInt 3), .ref 178, .int (zn (P + k)), .ref 174]) (ykc_208 (e := (0, .iconst 3, 0)) rfl) rfl rfl ?_
          refine w_load (pc' := 43) (v := .int (zn k)) (m := 1) (ykc_208 (e := (2, .iload_n kF2, 0)) rfl) rfl rfl ?_
          have e2098 : (Int32.ofInt 3) * (zn k) = zn (3 * k) := zn_of (by rw [ti_mul (by rw [show (Int32.ofInt 3).toInt = (3 : Int) by omega, show (zn k).toInt = ((k : Nat) : Int) by omega]; omega) (by rw [show (Int32.ofInt 3).toInt = (3 : Int) by omega, show (zn k).toInt = ((k : Nat) : Int) by omega]; omega), show (Int32.ofInt 3).toInt = (3 : Int) by omega, show (zn k).toInt = ((k : Nat) : Int) by omega] <;> omega)
          have te2098 := znt (k := 3 * k) (by omega)
          refine w_alu (pc' := 44) (st' := [.int (zn (3 * k)), .ref 178, .int (zn (P + k)), .ref 174]) (ykc_208 (e := (0, .imul, 0)) rfl) (by rw [← e2098]; rfl) rfl ?_
          refine w_ialk (pc' := 45) (k := 3 * k) (ykc_208 (e := (5, .iaload, 0)) rfl) ((hf.1 178 (3 * k) (by decide) (by simp)).trans (hgl k hlt).2.1) (by omega) rfl ?_
          refine w_ias (pc' := 46) (k := P + k) (ykc_208 (e := (5, .iastore, 0)) rfl) (by omega) rfl (fun ph2100 u2099 => ?_)
          refine w_load (pc' := 47) (v := .ref 170) (m := 1) (ykc_208 (e := (2, .aload_n kF0, 0)) rfl) rfl rfl ?_
          refine w_gf (pc' := 50) (v := .ref 174) (ykc_208 (e := (5, .getfield 41, 0)) rfl) rfl ((u2099.2.1 170 11 (fun q => absurd q.1 (by decide))).trans ((hf.1 170 11 (by decide) (by decide)).trans ((f1.1 170 11 (by decide) (by decide)).trans (zsg hS zs_170_11)))) rfl ?_
          refine w_push (pc' := 52) (v := .int ((Int8.ofInt 8).toInt32)) (m := 2) (ykc_208 (e := (1, .bipush 8, 0)) rfl) rfl rfl ?_
          refine w_load (pc' := 53) (v := .ref 170) (m := 1) (ykc_208 (e := (2, .aload_n kF0, 0)) rfl) rfl rfl ?_
          refine w_gf (pc' := 56) (v := .int (zn (P + k))) (ykc_208 (e := (5, .getfield 130, 0)) rfl) rfl ((u2099.2.1 170 5 (fun q => absurd q.1 (by decide))).trans hN2.1) rfl ?_
          have e2101 : ((Int8.ofInt 8).toInt32) + (zn (P + k)) = zn (8 + (P + k)) := (zaddN (a := 8) (b := P + k) c_3 (znt (by omega)) (by omega)) 
          have te2101 := znt (k := 8 + (P + k)) (by omega)
          refine w_alu (pc' := 57) (st' := [.int (zn (8 + (P + k))), .ref 174]) (ykc_208 (e := (0, .iadd, 0)) rfl) (by rw [← e2101]; rfl) rfl ?_
          refine w_load (pc' := 58) (v := .ref 170) (m := 1) (ykc_208 (e := (2, .aload_n kF0, 0)) rfl) rfl rfl ?_
          refine w_gf (pc' := 61) (v := .ref 178) (ykc_208 (e := (5, .getfield 53, 0)) rfl) rfl ((u2099.2.1 170 19 (fun q => absurd q.1 (by decide))).trans ((hf.1 170 19 (by decide) (by decide)).trans ((f1.1 170 19 (by decide) (by decide)).trans (zsg hS zs_170_19)))) rfl ?_
          refine w_alu (pc' := 62) (st' := [.int (Int32.ofInt 3), .ref 178, .int (zn (8 + (P + k))), .ref 174]) (ykc_208 (e := (0, .iconst 3, 0)) rfl) rfl rfl ?_
          refine w_load (pc' := 63) (v := .int (zn k)) (m := 1) (ykc_208 (e := (2, .iload_n kF2, 0)) rfl) rfl rfl ?_
          have e2102 : (Int32.ofInt 3) * (zn k) = zn (3 * k) := zn_of (by rw [ti_mul (by rw [show (Int32.ofInt 3).toInt = (3 : Int) by omega, show (zn k).toInt = ((k : Nat) : Int) by omega]; omega) (by rw [show (Int32.ofInt 3).toInt = (3 : Int) by omega, show (zn k).toInt = ((k : Nat) : Int) by omega]; omega), show (Int32.ofInt 3).toInt = (3 : Int) by omega, show (zn k).toInt = ((k : Nat) : Int) by omega] <;> omega)
          have te2102 := znt (k := 3 * k) (by omega)
          refine w_alu (pc' := 64) (st' := [.int (zn (3 * k)), .ref 178, .int (zn (8 + (P + k))), .ref 174]) (ykc_208 (e := (0, .imul, 0)) rfl) (by rw [← e2102]; rfl) rfl ?_
          refine w_alu (pc' := 65) (st' := [.int (Int32.ofInt 1), .int (zn (3 * k)), .ref 178, .int (zn (8 + (P + k))), .ref 174]) (ykc_208 (e := (0, .iconst 1, 0)) rfl) rfl rfl ?_
          have e2103 : (zn (3 * k)) + (Int32.ofInt 1) = zn (3 * k + 1) := (zaddN (a := 3 * k) (b := 1) (znt (by omega)) c_5 (by omega)) 
          have te2103 := znt (k := 3 * k + 1) (by omega)
          refine w_alu (pc' := 66) (st' := [.int (zn (3 * k + 1)), .ref 178, .int (zn (8 + (P + k))), .ref 174]) (ykc_208 (e := (0, .iadd, 0)) rfl) (by rw [← e2103]; rfl) rfl ?_
          refine w_ialk (pc' := 67) (k := 3 * k + 1) (ykc_208 (e := (5, .iaload, 0)) rfl) ((u2099.2.1 178 (3 * k + 1) (fun q => absurd q.1 (by decide))).trans ((hf.1 178 (3 * k + 1) (by decide) (by simp)).trans (hgl k hlt).2.2.1)) (by omega) rfl ?_
          refine w_ias (pc' := 68) (k := 8 + (P + k)) (ykc_208 (e := (5, .iastore, 0)) rfl) (by omega) rfl (fun ph2105 u2104 => ?_)
          refine w_load (pc' := 69) (v := .ref 170) (m := 1) (ykc_208 (e := (2, .aload_n kF0, 0)) rfl) rfl rfl ?_
          refine w_gf (pc' := 72) (v := .ref 174) (ykc_208 (e := (5, .getfield 41, 0)) rfl) rfl ((u2104.2.1 170 11 (fun q => absurd q.1 (by decide))).trans ((u2099.2.1 170 11 (fun q => absurd q.1 (by decide))).trans ((hf.1 170 11 (by decide) (by decide)).trans ((f1.1 170 11 (by decide) (by decide)).trans (zsg hS zs_170_11))))) rfl ?_
          refine w_push (pc' := 74) (v := .int ((Int8.ofInt 16).toInt32)) (m := 2) (ykc_208 (e := (1, .bipush 16, 0)) rfl) rfl rfl ?_
          refine w_load (pc' := 75) (v := .ref 170) (m := 1) (ykc_208 (e := (2, .aload_n kF0, 0)) rfl) rfl rfl ?_
          refine w_gf (pc' := 78) (v := .int (zn (P + k))) (ykc_208 (e := (5, .getfield 130, 0)) rfl) rfl ((u2104.2.1 170 5 (fun q => absurd q.1 (by decide))).trans ((u2099.2.1 170 5 (fun q => absurd q.1 (by decide))).trans hN2.1)) rfl ?_
          have e2106 : ((Int8.ofInt 16).toInt32) + (zn (P + k)) = zn (16 + (P + k)) := (zaddN (a := 16) (b := P + k) c_0 (znt (by omega)) (by omega)) 
          have te2106 := znt (k := 16 + (P + k)) (by omega)
          refine w_alu (pc' := 79) (st' := [.int (zn (16 + (P + k))), .ref 174]) (ykc_208 (e := (0, .iadd, 0)) rfl) (by rw [← e2106]; rfl) rfl ?_
          refine w_load (pc' := 80) (v := .ref 170) (m := 1) (ykc_208 (e := (2, .aload_n kF0, 0)) rfl) rfl rfl ?_
          refine w_gf (pc' := 83) (v := .ref 178) (ykc_208 (e := (5, .getfield 53, 0)) rfl) rfl ((u2104.2.1 170 19 (fun q => absurd q.1 (by decide))).trans ((u2099.2.1 170 19 (fun q => absurd q.1 (by decide))).trans ((hf.1 170 19 (by decide) (by decide)).trans ((f1.1 170 19 (by decide) (by decide)).trans (zsg hS zs_170_19))))) rfl ?_
          refine w_alu (pc' := 84) (st' := [.int (Int32.ofInt 3), .ref 178, .int (zn (16 + (P + k))), .ref 174]) (ykc_208 (e := (0, .iconst 3, 0)) rfl) rfl rfl ?_
          refine w_load (pc' := 85) (v := .int (zn k)) (m := 1) (ykc_208 (e := (2, .iload_n kF2, 0)) rfl) rfl rfl ?_
          have e2107 : (Int32.ofInt 3) * (zn k) = zn (3 * k) := zn_of (by rw [ti_mul (by rw [show (Int32.ofInt 3).toInt = (3 : Int) by omega, show (zn k).toInt = ((k : Nat) : Int) by omega]; omega) (by rw [show (Int32.ofInt 3).toInt = (3 : Int) by omega, show (zn k).toInt = ((k : Nat) : Int) by omega]; omega), show (Int32.ofInt 3).toInt = (3 : Int) by omega, show (zn k).toInt = ((k : Nat) : Int) by omega] <;> omega)
          have te2107 := znt (k := 3 * k) (by omega)
          refine w_alu (pc' := 86) (st' := [.int (zn (3 * k)), .ref 178, .int (zn (16 + (P + k))), .ref 174]) (ykc_208 (e := (0, .imul, 0)) rfl) (by rw [← e2107]; rfl) rfl ?_
          refine w_alu (pc' := 87) (st' := [.int (Int32.ofInt 2), .int (zn (3 * k)), .ref 178, .int (zn (16 + (P + k))), .ref 174]) (ykc_208 (e := (0, .iconst 2, 0)) rfl) rfl rfl ?_
          have e2108 : (zn (3 * k)) + (Int32.ofInt 2) = zn (3 * k + 2) := (zaddN (a := 3 * k) (b := 2) (znt (by omega)) c_6 (by omega)) 
          have te2108 := znt (k := 3 * k + 2) (by omega)
          refine w_alu (pc' := 88) (st' := [.int (zn (3 * k + 2)), .ref 178, .int (zn (16 + (P + k))), .ref 174]) (ykc_208 (e := (0, .iadd, 0)) rfl) (by rw [← e2108]; rfl) rfl ?_
          refine w_ialk (pc' := 89) (k := 3 * k + 2) (ykc_208 (e := (5, .iaload, 0)) rfl) ((u2104.2.1 178 (3 * k + 2) (fun q => absurd q.1 (by decide))).trans ((u2099.2.1 178 (3 * k + 2) (fun q => absurd q.1 (by decide))).trans ((hf.1 178 (3 * k + 2) (by decide) (by simp)).trans (hgl k hlt).2.2.2))) (by omega) rfl ?_
          refine w_ias (pc' := 90) (k := 16 + (P + k)) (ykc_208 (e := (5, .iastore, 0)) rfl) (by omega) rfl (fun ph2110 u2109 => ?_)
          refine w_load (pc' := 91) (v := .ref 170) (m := 1) (ykc_208 (e := (2, .aload_n kF0, 0)) rfl) rfl rfl ?_
          refine w_gf (pc' := 94) (v := .ref 174) (ykc_208 (e := (5, .getfield 41, 0)) rfl) rfl ((u2109.2.1 170 11 (fun q => absurd q.1 (by decide))).trans ((u2104.2.1 170 11 (fun q => absurd q.1 (by decide))).trans ((u2099.2.1 170 11 (fun q => absurd q.1 (by decide))).trans ((hf.1 170 11 (by decide) (by decide)).trans ((f1.1 170 11 (by decide) (by decide)).trans (zsg hS zs_170_11)))))) rfl ?_
          refine w_push (pc' := 96) (v := .int ((Int8.ofInt 24).toInt32)) (m := 2) (ykc_208 (e := (1, .bipush 24, 0)) rfl) rfl rfl ?_
          refine w_load (pc' := 97) (v := .ref 170) (m := 1) (ykc_208 (e := (2, .aload_n kF0, 0)) rfl) rfl rfl ?_
          refine w_gf (pc' := 100) (v := .int (zn (P + k))) (ykc_208 (e := (5, .getfield 130, 0)) rfl) rfl ((u2109.2.1 170 5 (fun q => absurd q.1 (by decide))).trans ((u2104.2.1 170 5 (fun q => absurd q.1 (by decide))).trans ((u2099.2.1 170 5 (fun q => absurd q.1 (by decide))).trans hN2.1))) rfl ?_
          have e2111 : ((Int8.ofInt 24).toInt32) + (zn (P + k)) = zn (24 + (P + k)) := (zaddN (a := 24) (b := P + k) c_1 (znt (by omega)) (by omega)) 
          have te2111 := znt (k := 24 + (P + k)) (by omega)
          refine w_alu (pc' := 101) (st' := [.int (zn (24 + (P + k))), .ref 174]) (ykc_208 (e := (0, .iadd, 0)) rfl) (by rw [← e2111]; rfl) rfl ?_
          refine w_alu (pc' := 102) (st' := [.int (Int32.ofInt 0), .int (zn (24 + (P + k))), .ref 174]) (ykc_208 (e := (0, .iconst 0, 0)) rfl) rfl rfl ?_
          refine w_ias (pc' := 103) (k := 24 + (P + k)) (ykc_208 (e := (5, .iastore, 0)) rfl) (by omega) rfl (fun ph2113 u2112 => ?_)
          refine w_load (pc' := 104) (v := .ref 170) (m := 1) (ykc_208 (e := (2, .aload_n kF0, 0)) rfl) rfl rfl ?_
          refine w_alu (pc' := 105) (st' := [.ref 170, .ref 170]) (ykc_208 (e := (0, .dup, 0)) rfl) rfl rfl ?_
          refine w_gf (pc' := 108) (v := .int (zn (P + k))) (ykc_208 (e := (5, .getfield 130, 0)) rfl) rfl ((u2112.2.1 170 5 (fun q => absurd q.1 (by decide))).trans ((u2109.2.1 170 5 (fun q => absurd q.1 (by decide))).trans ((u2104.2.1 170 5 (fun q => absurd q.1 (by decide))).trans ((u2099.2.1 170 5 (fun q => absurd q.1 (by decide))).trans hN2.1)))) rfl ?_
          refine w_alu (pc' := 109) (st' := [.int (Int32.ofInt 1), .int (zn (P + k)), .ref 170]) (ykc_208 (e := (0, .iconst 1, 0)) rfl) rfl rfl ?_
          have e2114 : (zn (P + k)) + (Int32.ofInt 1) = zn (P + k + 1) := (zaddN (a := P + k) (b := 1) (znt (by omega)) c_5 (by omega)) 
          have te2114 := znt (k := P + k + 1) (by omega)
          refine w_alu (pc' := 110) (st' := [.int (zn (P + k + 1)), .ref 170]) (ykc_208 (e := (0, .iadd, 0)) rfl) (by rw [← e2114]; rfl) rfl ?_
          refine w_pf (pc' := 113) (ykc_208 (e := (5, .putfield 130, 0)) rfl) rfl rfl (fun ph2116 u2115 => ?_)
          have e2117 : (zn k) + Int32.ofInt 1 = zn (k + 1) := (zaddN (a := k) (b := 1) (znt (by omega)) c_5 (by omega))
          have te2117 := znt (k := k + 1) (by omega)
          refine w_store (pc' := 116) (L' := [some (.ref 170), some (.int z9), some (.int (zn (k + 1)))]) (st' := []) (m := 3) (ykc_208 (e := (3, .iinc 2 1, 0)) rfl) (by rw [← e2117]; rfl) rfl ?_
          refine w_gb (ykc_208 (e := (4, .goto (-95), 21)) rfl) (fun k2118 hk2118 => ?_)
          have hv3 := zNr_ad u2099 u2104 u2109 u2112 hv2
          exact ih k2118 hk2118 (k + 1) _ (by omega) (zFr_add (zFr_add (zFr_add (zFr_add (zFr_add hf u2099 (Or.inl (by simp))) u2104 (Or.inl (by simp))) u2109 (Or.inl (by simp))) u2112 (Or.inl (by simp))) u2115 (Or.inr (by simp))) ⟨u2115.1, by omega, ((u2115.2.1 170 6 (fun q => absurd q.2 (by decide))).trans ((u2112.2.1 170 6 (fun q => absurd q.1 (by decide))).trans ((u2109.2.1 170 6 (fun q => absurd q.1 (by decide))).trans ((u2104.2.1 170 6 (fun q => absurd q.1 (by decide))).trans ((u2099.2.1 170 6 (fun q => absurd q.1 (by decide))).trans hN2.2.2.1))))), hG8⟩ (zNr_F (zFr_st u2115 (Or.inr (by simp)) : zFr [] [(170, 5)] _ _) (by simp) (by simp) hv3)
    exact hl n 0 ph2092 (Nat.zero_le _) zFr_refl (zMp_F f1 (by simp) (by simp) (by simp) hN) (zNr_F f1 (by simp) (by simp) hv)
  
theorem zm_things {ph : pm_H} {ln : Nat} {t : Nat → Nat} {R C P G u ch hn : Nat} {rk : Nat → Bool} {v : Nat → Nat} {w : Nat → Nat → Nat} {kp : Nat → Bool} {kc : Nat → Nat} {sv : Nat → Nat → Nat} (hS : zSh ph) (hn14 : zc ph 170 14 = some (.int (zn ln))) (hn80 : ln ≤ 80) (gtm : ∀ i, i < ln → zc ph 176 i = some (.int (zn (t i))) ∧ t i < 256) (hK : zKM ph R C rk P G v u w ch kp kc sv hn) (hch : ch < 1000) : zM 209 [.ref 170] ph (fun v0 q => ∃ z : Int32, v0 = some (.int z) ∧ z.toInt = zLa R C rk 2 3 ln t (8 - G) ∧ ((zLa R C rk 2 3 ln t (8 - G) ≤ 0 ∧ zKM q R C rk P G v u w ch kp kc sv hn) ∨ (∃ k : Nat, 0 < k ∧ (k : Int) = zLa R C rk 2 3 ln t (8 - G) ∧ zKM q R C rk P (G + k) (zGv C t G v k) 0 w (ch + 1) kp kc sv hn))) := by
  obtain ⟨Q, hQ⟩ : ∃ Q : Option Value → pm_H → Prop, Q = (fun v0 q => ∃ z : Int32, v0 = some (.int z) ∧ z.toInt = zLa R C rk 2 3 ln t (8 - G) ∧ ((zLa R C rk 2 3 ln t (8 - G) ≤ 0 ∧ zKM q R C rk P G v u w ch kp kc sv hn) ∨ (∃ k : Nat, 0 < k ∧ (k : Int) = zLa R C rk 2 3 ln t (8 - G) ∧ zKM q R C rk P (G + k) (zGv C t G v k) 0 w (ch + 1) kp kc sv hn))) := ⟨_, rfl⟩
  rw [← hQ]
  refine zM_mk fun n D => ?_
  show zW n D 209 Q 0 [some (.ref 170), none, none] [] ph
  have c_0 : ((Int8.ofInt 23).toInt32).toInt = 23 := by decide
  have c_1 : ((Int8.ofInt 32).toInt32).toInt = 32 := by decide
  have c_2 : (Int32.ofInt 0).toInt = 0 := by decide
  have c_3 : (Int32.ofInt 1).toInt = 1 := by decide
  obtain ⟨hL, hN, hv, hU, hk, hh⟩ := hK
  obtain ⟨gP, hP8, gG, hG8⟩ := id hN
  have tP := znt (k := P) (by omega)
  have tG := znt (k := G) (by omega)
  have hR37 : 3 ≤ R ∧ R ≤ 7 := ⟨hL.2.2.2.1, hL.2.2.2.2.1⟩
  have hC37 : 3 ≤ C ∧ C ≤ 7 := hL.2.2.2.2.2
  have hRC49 : R * C ≤ 49 := zRC49 hR37.2 hC37.2
  have hr := @zLa_r R C 2 3 ln (8 - G) rk t (by omega)
  refine w_load (pc' := 1) (v := .ref 170) (m := 1) (ykc_209 (e := (2, .aload_n kF0, 0)) rfl) rfl rfl ?_
  refine w_alu (pc' := 2) (st' := [.int (Int32.ofInt 0), .ref 170]) (ykc_209 (e := (0, .iconst 0, 0)) rfl) rfl rfl ?_
  refine w_pf (pc' := 5) (ykc_209 (e := (5, .putfield 3, 0)) rfl) rfl rfl (fun ph2120 u2119 => ?_)
  refine w_load (pc' := 6) (v := .ref 170) (m := 1) (ykc_209 (e := (2, .aload_n kF0, 0)) rfl) rfl rfl ?_
  refine w_alu (pc' := 7) (st' := [.int (Int32.ofInt 0), .ref 170]) (ykc_209 (e := (0, .iconst 0, 0)) rfl) rfl rfl ?_
  refine w_push (pc' := 9) (v := .int ((Int8.ofInt 23).toInt32)) (m := 2) (ykc_209 (e := (1, .bipush 23, 0)) rfl) rfl rfl ?_
  have f0 : zFr [] [(170, 0)] ph ph2120 := zFr_st u2119 (Or.inr (by simp))
  refine w_cv (as := [.ref 170, .int (Int32.ofInt 0), .int ((Int8.ofInt 23).toInt32)]) (r := []) (ykc_209 (e := (6, .invokevirtual 217, 0)) rfl) rfl rfl rfl rfl (zm_rlines2 (ln := ln) (t := t) (N := G) (zSh_F f0 (by decide +kernel) hS) (zMl_F f0 (by simp) (by simp) (by simp) (by simp) hL) ((f0.1 170 14 (by decide) (by decide)).trans hn14) hn80 (fun i hi => ⟨(f0.1 176 i (by decide) (by simp)).trans (gtm i hi).1, (gtm i hi).2⟩) ((f0.1 170 6 (by decide) (by decide)).trans gG) (by omega) (by omega)) (fun v2121 ph2122 hv => ?_)
  rcases hv with ⟨fr, z9, rfl, ⟨hneg, ez⟩ | ⟨hpos, ez, k9, ek9, rl20, hgl⟩⟩
  · have f1 : zFr [178] [(170, 0), (170, 14), (170, 15), (170, 16), (170, 17), (170, 20)] ph ph2122 := zFr_trans (zFr_mono f0 (by simp) (by simp)) (zFr_mono fr (by simp) (by simp))
    show zW n D 209 Q 12 [some (.ref 170), none, none] [.int z9] ph2122
    refine w_store (pc' := 13) (L' := [some (.ref 170), some (.int z9), none]) (st' := []) (m := 1) (ykc_209 (e := (3, .istore_n kF1, 0)) rfl) rfl rfl ?_
    refine w_load (pc' := 14) (v := .int z9) (m := 1) (ykc_209 (e := (2, .iload_n kF1, 0)) rfl) rfl rfl ?_
    refine w_zge (ykc_209 (e := (4, .ifCond .ge 5, 19)) rfl) rfl (fun q => by exfalso; omega) (fun b2123 => ?_)
    refine w_load (pc' := 18) (v := .int z9) (m := 1) (ykc_209 (e := (2, .iload_n kF1, 0)) rfl) rfl rfl ?_
    refine w_ret (v := (some (.int z9))) (ykc_209 (e := (7, .ireturn, 0)) rfl) (zr_v rfl) ?_
    rw [hQ]
    exact ⟨_, rfl, ez, Or.inl ⟨by omega, zMl_F f1 (by simp) (by simp) (by simp) (by simp) hL, zMp_F f1 (by simp) (by simp) (by simp) hN, zNr_F f1 (by simp) (by simp) hv, zMu_F f1 (by simp) (by simp) (by simp) hU, zMk_F f1 (by simp) (by simp) (by simp) hk, zMh_F f1 (by simp) (by simp) hh⟩⟩
  · have f1 : zFr [178] [(170, 0), (170, 14), (170, 15), (170, 16), (170, 17), (170, 20)] ph ph2122 := zFr_trans (zFr_mono f0 (by simp) (by simp)) (zFr_mono fr (by simp) (by simp))
    have h20 := rl20
    have tk9 := znt (k := k9) (by omega)
    show zW n D 209 Q 12 [some (.ref 170), none, none] [.int z9] ph2122
    refine w_store (pc' := 13) (L' := [some (.ref 170), some (.int z9), none]) (st' := []) (m := 1) (ykc_209 (e := (3, .istore_n kF1, 0)) rfl) rfl rfl ?_
    refine w_load (pc' := 14) (v := .int z9) (m := 1) (ykc_209 (e := (2, .iload_n kF1, 0)) rfl) rfl rfl ?_
    refine w_zge (ykc_209 (e := (4, .ifCond .ge 5, 19)) rfl) rfl (fun b2124 => ?_) (fun q => by exfalso; omega)
    refine w_alu (pc' := 20) (st' := [.int (Int32.ofInt 0)]) (ykc_209 (e := (0, .iconst 0, 0)) rfl) rfl rfl ?_
    refine w_store (pc' := 21) (L' := [some (.ref 170), some (.int z9), some (.int (Int32.ofInt 0))]) (st' := []) (m := 1) (ykc_209 (e := (3, .istore_n kF2, 0)) rfl) rfl rfl ?_
    have hl : ∀ (n : Nat), ∀ (k : Nat) (ph2 : pm_H), (k ≤ k9) → (zFr [174] [(170, 6)] ph2122 ph2) → (zMp ph2 P (G + k)) → (zNr ph2 174 0 (zGv C t G v k)) → zW n D 209 Q 21 [some (.ref 170), some (.int z9), some (.int (zn k))] [] ph2 := by
      intro n
      induction n using Nat.strongRecOn with
      | ind n ih =>
        intro k ph2 hk9 hf hN2 hv2
        have tk := znt (k := k) (by omega)
        have tc9 := znt (k := G + k) (by omega)
        refine w_load (pc' := 22) (v := .int (zn k)) (m := 1) (ykc_209 (e := (2, .iload_n kF2, 0)) rfl) rfl rfl ?_
        refine w_load (pc' := 23) (v := .ref 170) (m := 1) (ykc_209 (e := (2, .aload_n kF0, 0)) rfl) rfl rfl ?_
        refine w_gf (pc' := 26) (v := .int (zn k9)) (ykc_209 (e := (5, .getfield 197, 0)) rfl) rfl ((hf.1 170 20 (by decide) (by decide)).trans h20) rfl ?_
        refine w_ige (ykc_209 (e := (4, .if_icmp .ge 37, 63)) rfl) rfl (fun b2125 => ?_) (fun b2125 => ?_)
        · refine w_load (pc' := 64) (v := .ref 170) (m := 1) (ykc_209 (e := (2, .aload_n kF0, 0)) rfl) rfl rfl ?_
          have ek : k = k9 := by omega
          subst ek
          have f2 : zFr [174, 178] [(170, 0), (170, 5), (170, 6), (170, 14), (170, 15), (170, 16), (170, 17), (170, 20)] ph ph2 := zFr_trans (zFr_mono f1 (by simp) (by simp)) (zFr_mono hf (by simp) (by simp))
          refine w_cv (as := [.ref 170]) (r := []) (ykc_209 (e := (6, .invokevirtual 221, 0)) rfl) rfl rfl rfl rfl (zm_isNew (u := u) (ch := ch) (zSh_F f2 (by decide +kernel) hS) ((hf.1 170 20 (by decide) (by decide)).trans h20) (by omega) ((f2.1 170 27 (by decide) (by decide)).trans hU.1) hU.2.1 ((f2.1 170 7 (by decide) (by decide)).trans hk.1) hch) (fun v2126 ph2127 hv => ?_)
          obtain ⟨rfl, fn, g27, g7⟩ := hv
          show zW n D 209 Q 67 [some (.ref 170), some (.int z9), some (.int (zn k))] [.int (zn k)] ph2127
          refine w_ret (v := (some (.int (zn k)))) (ykc_209 (e := (7, .ireturn, 0)) rfl) (zr_v rfl) ?_
          have f3 : zFr [174, 178] [(170, 0), (170, 5), (170, 6), (170, 7), (170, 14), (170, 15), (170, 16), (170, 17), (170, 20), (170, 27)] ph _ := zFr_trans (zFr_mono f2 (by simp) (by simp)) (zFr_mono fn (by simp) (by simp))
          have hL3 := zMl_F f3 (by simp) (by simp) (by simp) (by simp) hL
          have hN3 := zMp_F fn (by simp) (by simp) (by simp) hN2
          have hv3 := zNr_F fn (by simp) (by simp) hv2
          have hh3 := zMh_F f3 (by simp) (by simp) hh
          rw [hQ]
          refine ⟨_, rfl, by omega, ?_⟩
          by_cases e : 0 < k
          · rw [if_pos e] at g27 g7
            refine Or.inr ⟨k, e, by omega, hL3, hN3, hv3, ⟨g27, by decide, fun i hi => absurd hi (Nat.not_lt_zero i)⟩, ⟨g7, by omega, fun i hi => ?_⟩, hh3⟩
            obtain ⟨k1, k2, k3, k4⟩ := hk.2.2 i hi
            exact ⟨(f3.1 198 i (by decide) (by simp)).trans k1, (f3.1 199 i (by decide) (by simp)).trans k2, by omega, fun h => zNr_F f3 (by simp) (by simp) (k4 h)⟩
          · obtain rfl : k = 0 := by omega
            rw [if_neg e] at g27 g7
            refine Or.inl ⟨by omega, hL3, hN3, hv3, ⟨g27, hU.2.1, zUr_F f3 (by simp) (by simp) hU.2.2⟩, ⟨g7, hk.2.1, fun i hi => ?_⟩, hh3⟩
            obtain ⟨k1, k2, k3, k4⟩ := hk.2.2 i hi
            exact ⟨(f3.1 198 i (by decide) (by simp)).trans k1, (f3.1 199 i (by decide) (by simp)).trans k2, k3, fun h => zNr_F f3 (by simp) (by simp) (k4 h)⟩
        · have hlt : k < k9 := by omega
          refine w_load (pc' := 30) (v := .ref 170) (m := 1) (ykc_209 (e := (2, .aload_n kF0, 0)) rfl) rfl rfl ?_
          refine w_gf (pc' := 33) (v := .ref 174) (ykc_209 (e := (5, .getfield 41, 0)) rfl) rfl ((hf.1 170 11 (by decide) (by decide)).trans ((f1.1 170 11 (by decide) (by decide)).trans (zsg hS zs_170_11))) rfl ?_
          refine w_push (pc' := 35) (v := .int ((Int8.ofInt 32).toInt32)) (m := 2) (ykc_209 (e := (1, .bipush 32, 0)) rfl) rfl rfl ?_
          refine w_load (pc' := 36) (v := .ref 170) (m := 1) (ykc_209 (e := (2, .aload_n kF0, 0)) rfl) rfl rfl ?_
          refine w_gf (pc' := 39) (v := .int (zn (G + k))) (ykc_209 (e := (5, .getfield 133, 0)) rfl) rfl hN2.2.2.1 rfl ?_
          have e2128 : ((Int8.ofInt 32).toInt32) + (zn (G + k)) = zn (32 + (G + k)) := (zaddN (a := 32) (b := G + k) c_1 (znt (by omega)) (by omega)) 
          have te2128 := znt (k := 32 + (G + k)) (by omega)
          refine w_alu (pc' := 40) (st' := [.int (zn (32 + (G + k))), .ref 174]) (ykc_209 (e := (0, .iadd, 0)) rfl) (by rw [← e2128]; rfl) rfl ?_
          refine w_load (pc' := 41) (v := .ref 170) (m := 1) (ykc_209 (e := (2, .aload_n kF0, 0)) rfl) rfl rfl ?_
          refine w_gf (pc' := 44) (v := .ref 178) (ykc_209 (e := (5, .getfield 53, 0)) rfl) rfl ((hf.1 170 19 (by decide) (by decide)).trans ((f1.1 170 19 (by decide) (by decide)).trans (zsg hS zs_170_19))) rfl ?_
          refine w_load (pc' := 45) (v := .int (zn k)) (m := 1) (ykc_209 (e := (2, .iload_n kF2, 0)) rfl) rfl rfl ?_
          refine w_ialk (pc' := 46) (k := k) (ykc_209 (e := (5, .iaload, 0)) rfl) ((hf.1 178 k (by decide) (by simp)).trans (hgl k hlt).2) (by omega) rfl ?_
          refine w_ias (pc' := 47) (k := 32 + (G + k)) (ykc_209 (e := (5, .iastore, 0)) rfl) (by omega) rfl (fun ph2130 u2129 => ?_)
          refine w_load (pc' := 48) (v := .ref 170) (m := 1) (ykc_209 (e := (2, .aload_n kF0, 0)) rfl) rfl rfl ?_
          refine w_alu (pc' := 49) (st' := [.ref 170, .ref 170]) (ykc_209 (e := (0, .dup, 0)) rfl) rfl rfl ?_
          refine w_gf (pc' := 52) (v := .int (zn (G + k))) (ykc_209 (e := (5, .getfield 133, 0)) rfl) rfl ((u2129.2.1 170 6 (fun q => absurd q.1 (by decide))).trans hN2.2.2.1) rfl ?_
          refine w_alu (pc' := 53) (st' := [.int (Int32.ofInt 1), .int (zn (G + k)), .ref 170]) (ykc_209 (e := (0, .iconst 1, 0)) rfl) rfl rfl ?_
          have e2131 : (zn (G + k)) + (Int32.ofInt 1) = zn (G + k + 1) := (zaddN (a := G + k) (b := 1) (znt (by omega)) c_3 (by omega)) 
          have te2131 := znt (k := G + k + 1) (by omega)
          refine w_alu (pc' := 54) (st' := [.int (zn (G + k + 1)), .ref 170]) (ykc_209 (e := (0, .iadd, 0)) rfl) (by rw [← e2131]; rfl) rfl ?_
          refine w_pf (pc' := 57) (ykc_209 (e := (5, .putfield 133, 0)) rfl) rfl rfl (fun ph2133 u2132 => ?_)
          have e2134 : (zn k) + Int32.ofInt 1 = zn (k + 1) := (zaddN (a := k) (b := 1) (znt (by omega)) c_3 (by omega))
          have te2134 := znt (k := k + 1) (by omega)
          refine w_store (pc' := 60) (L' := [some (.ref 170), some (.int z9), some (.int (zn (k + 1)))]) (st' := []) (m := 3) (ykc_209 (e := (3, .iinc 2 1, 0)) rfl) (by rw [← e2134]; rfl) rfl ?_
          refine w_gb (ykc_209 (e := (4, .goto (-39), 21)) rfl) (fun k2135 hk2135 => ?_)
          have hv3 := zNr_u u2129 hv2
          exact ih k2135 hk2135 (k + 1) _ (by omega) (zFr_add (zFr_add hf u2129 (Or.inl (by simp))) u2132 (Or.inr (by simp))) ⟨((u2132.2.1 170 5 (fun q => absurd q.2 (by decide))).trans ((u2129.2.1 170 5 (fun q => absurd q.1 (by decide))).trans hN2.1)), hP8, u2132.1, by omega⟩ (zNr_F (zFr_st u2132 (Or.inr (by simp)) : zFr [] [(170, 6)] _ _) (by simp) (by simp) hv3)
    exact hl n 0 ph2122 (Nat.zero_le _) zFr_refl (zMp_F f1 (by simp) (by simp) (by simp) hN) (zNr_F f1 (by simp) (by simp) hv)
  

/-! the RULE's reading, on paper: the class's automaton, the reference's descent, and that they agree -/
/-- how an operator binds, by its code; 0 an opening bracket -/
def zbd (o : Nat) : Nat := if o = 0 then 0 else if o < 2003 then 1 else if o < 2005 then 2 else if o < 3000 then 3 else 4
def zrl (b : Nat) : List Nat → List Nat → List Nat × List Nat
  | [], C => ([], C)
  | o :: W, C => if b ≤ zbd o then zrl b W (o :: C) else (o :: W, C)
/-- an operator's code by its sign, or 0; a letter's place, or 8 -/
def zop (c : Nat) : Nat := if c = 60 then 2000 else if c = 62 then 2001 else if c = 61 then 2002 else if c = 43 then 2003 else if c = 45 then 2004 else if c = 42 then 2005 else if c = 47 then 2006 else 0
def zlt (c : Nat) : Nat := if c = 98 then 0 else if c = 108 then 1 else if c = 107 then 2 else if c = 102 then 3 else if c = 114 then 4 else if c = 99 then 5 else if c = 110 then 6 else if c = 112 then 7 else 8
def zub (f : Nat → Bool) (i : Nat) (x : Bool) : Nat → Bool := fun j => if j = i then x else f j
/-- codes, what waits (both: the latest first), where a comparison was, brackets, digits, whether a thing is wanted -/
abbrev zAs : Type := List Nat × List Nat × (Nat → Bool) × Nat × Nat × Bool
def zdi (c : Nat) : Bool := decide (48 ≤ c ∧ c ≤ 57)
/-- one sign more -/
def zstep (c : Nat) (s : zAs) : Option zAs := match s with
  | (C, W, cm, dp, dg, wt) =>
    if zdi c = true then
      (if wt = true then some ((c - 48) :: C, W, cm, dp, 1, false)
       else match C with
        | [] => none
        | x :: C => if 1 ≤ dg ∧ dg ≤ 2 then some ((10 * x + (c - 48)) :: C, W, cm, dp, dg + 1, false) else none)
    else if wt = true then
      (if c = 45 then some (C, 3000 :: W, cm, dp, 0, true)
       else if c = 40 then (if dp < 4 then some (C, 0 :: W, zub cm (dp + 1) false, dp + 1, 0, true) else none)
       else if zlt c < 8 then some ((1000 + zlt c) :: C, W, cm, dp, 0, false) else none)
    else if c = 41 then
      (if dp = 0 then none else some ((zrl 1 W C).2, (zrl 1 W C).1.tail, cm, dp - 1, 0, false))
    else if zop c = 0 then none
    else if zbd (zop c) = 1 ∧ cm dp = true then none
    else some ((zrl (zbd (zop c)) W C).2, zop c :: (zrl (zbd (zop c)) W C).1, (if zbd (zop c) = 1 then zub cm dp true else cm), dp, 0, true)
/-- k signs from p on -/
def zrn (t : Nat → Nat) (s : zAs) (p : Nat) : Nat → Option zAs
  | 0 => some s
  | k + 1 => (zrn t s p k).bind (zstep (t (p + k)))
theorem zrn_add {t : Nat → Nat} {s : zAs} {p k m : Nat} : zrn t s p (k + m) = (zrn t s p k).bind (fun q => zrn t q (p + k) m) := by
  induction m with
  | zero =>
    show zrn t s p k = (zrn t s p k).bind (fun q => some q)
    cases zrn t s p k <;> rfl
  | succ m ih =>
    show (zrn t s p (k + m)).bind (zstep (t (p + (k + m)))) = _
    rw [ih]
    cases zrn t s p k with
    | none => rfl
    | some q =>
      show (zrn t q (p + k) m).bind _ = (zrn t q (p + k) m).bind (zstep (t (p + k + m)))
      rw [Nat.add_assoc]
theorem zrn_1 {t : Nat → Nat} {s s' : zAs} {p : Nat} (h : zstep (t p) s = some s') : zrn t s p 1 = some s' := by
  show (some s).bind (zstep (t (p + 0))) = some s'
  rw [Nat.add_zero]
  exact h
theorem zrn_t {t : Nat → Nat} {s s' s'' : zAs} {a b c : Nat} (h1 : a ≤ b) (h2 : b ≤ c) (g1 : zrn t s a (b - a) = some s') (g2 : zrn t s' b (c - b) = some s'') : zrn t s a (c - a) = some s'' := by
  rw [show c - a = (b - a) + (c - b) by omega, zrn_add, g1]
  show zrn t s' (a + (b - a)) (c - b) = _
  rw [show a + (b - a) = b by omega]
  exact g2
/-- how many digits a number at a has, 3 at most; its first k digits -/
def zdc (b : Nat) (t : Nat → Nat) (a : Nat) : Nat := if a + 1 < b ∧ zdi (t (a + 1)) = true then (if a + 2 < b ∧ zdi (t (a + 2)) = true then 3 else 2) else 1
def znv (t : Nat → Nat) (a : Nat) : Nat → Nat
  | 0 => 0
  | k + 1 => 10 * znv t a k + (t (a + k) - 48)
/-- an operator of a rank -/
def zrk2 (r c : Nat) : Bool := decide (zop c ≠ 0 ∧ zbd (zop c) = r + 1)
/-- the descent: ranks 0 .. 3 (3: a thing), 4 .. 6: what comes behind one of rank 0 .. 2; from a, brackets, codes -/
def zde (b : Nat) (t : Nat → Nat) : Nat → Nat → Nat → Nat → List Nat → Option (Bool × Nat × List Nat)
  | 0, _, _, _, _ => none
  | f + 1, m, a, ns, cs =>
    if m = 3 then
      (if a < b ∧ t a = 45 then (zde b t f 3 (a + 1) ns cs).map (fun x => (x.1, x.2.1, 3000 :: x.2.2))
       else if a < b ∧ zdi (t a) = true then some (true, a + zdc b t a, znv t a (zdc b t a) :: cs)
       else if a < b ∧ zlt (t a) < 8 then some (true, a + 1, (1000 + zlt (t a)) :: cs)
       else if ns < 4 ∧ a < b ∧ t a = 40 then (zde b t f 0 (a + 1) (ns + 1) cs).map (fun x => if x.1 = true ∧ x.2.1 < b ∧ t x.2.1 = 41 then (true, x.2.1 + 1, x.2.2) else (false, x.2.1, x.2.2))
       else some (false, a, cs))
    else if m < 3 then (zde b t f (m + 1) a ns cs).bind (fun x => if x.1 = true then zde b t f (m + 4) x.2.1 ns x.2.2 else some x)
    else if a < b ∧ zrk2 (m - 4) (t a) = true then (zde b t f (m - 3) (a + 1) ns cs).bind (fun x => if x.1 = true then (if m = 4 then some (true, x.2.1, zop (t a) :: x.2.2) else zde b t f m x.2.1 ns (zop (t a) :: x.2.2)) else some x)
    else some (true, a, cs)
/-! what is released -/
theorem zrl_all {b : Nat} : ∀ {W2 : List Nat} {W C : List Nat}, (∀ o ∈ W2, b ≤ zbd o) → (∀ o, W.head? = some o → zbd o < b) → zrl b (W2 ++ W) C = (W, W2.reverse ++ C)
  | [], [], _, _, _ => rfl
  | [], o :: W, C, _, h => by
    show (if b ≤ zbd o then zrl b W (o :: C) else (o :: W, C)) = _
    rw [if_neg (Nat.not_le.mpr (h o rfl))]
    rfl
  | o :: W2, W, C, h1, h2 => by
    show (if b ≤ zbd o then zrl b (W2 ++ W) (o :: C) else _) = _
    rw [if_pos (h1 o List.mem_cons_self), zrl_all (fun q hq => h1 q (List.mem_cons_of_mem _ hq)) h2, List.reverse_cons, List.append_assoc]
    rfl
theorem zbd_op {c : Nat} (h : zop c ≠ 0) : 1 ≤ zbd (zop c) ∧ zbd (zop c) ≤ 3 := by
  unfold zop at h ⊢
  repeat' split
  all_goals first | decide | (exfalso; simp_all)
theorem zop_nd {c : Nat} (h : zop c ≠ 0) : zdi c = false ∧ c ≠ 41 := by
  unfold zop at h
  unfold zdi
  repeat' split at h
  all_goals first | (exfalso; exact h rfl) | (subst_vars; decide)
theorem zlt_nd {c : Nat} (h : zlt c < 8) : zdi c = false ∧ c ≠ 45 ∧ c ≠ 40 := by
  unfold zlt at h
  unfold zdi
  repeat' split at h
  all_goals first | (exfalso; omega) | (subst_vars; decide)
/-! single steps -/
section ZSP
variable {C W : List Nat} {cm : Nat → Bool} {dp dg c : Nat}
theorem zstep_d1 (h : zdi c = true) : zstep c (C, W, cm, dp, dg, true) = some ((c - 48) :: C, W, cm, dp, 1, false) := by
  unfold zstep
  simp [h]
theorem zstep_d2 {x : Nat} (h : zdi c = true) (hd : 1 ≤ dg ∧ dg ≤ 2) : zstep c (x :: C, W, cm, dp, dg, false) = some ((10 * x + (c - 48)) :: C, W, cm, dp, dg + 1, false) := by
  unfold zstep
  simp [h, hd]
theorem zstep_d0 (h : zdi c = true) (hd : dg = 0 ∨ 3 ≤ dg) : zstep c (C, W, cm, dp, dg, false) = none := by
  unfold zstep
  cases C with
  | nil => simp [h]
  | cons x C =>
    have : ¬ (1 ≤ dg ∧ dg ≤ 2) := by omega
    simp [h, this]
theorem zstep_m : zstep 45 (C, W, cm, dp, dg, true) = some (C, 3000 :: W, cm, dp, 0, true) := by
  unfold zstep
  simp [zdi]
theorem zstep_l (h : zlt c < 8) : zstep c (C, W, cm, dp, dg, true) = some ((1000 + zlt c) :: C, W, cm, dp, 0, false) := by
  obtain ⟨h1, h2, h3⟩ := zlt_nd h
  unfold zstep
  simp [h1, h2, h3, h]
theorem zstep_b (h : dp < 4) : zstep 40 (C, W, cm, dp, dg, true) = some (C, 0 :: W, zub cm (dp + 1) false, dp + 1, 0, true) := by
  unfold zstep
  simp [zdi, h]
theorem zstep_n (h1 : c ≠ 45) (h2 : zdi c = false) (h3 : ¬ zlt c < 8) (h4 : ¬ (dp < 4 ∧ c = 40)) : zstep c (C, W, cm, dp, dg, true) = none := by
  unfold zstep
  by_cases e : c = 40
  · have : ¬ dp < 4 := fun q => h4 ⟨q, e⟩
    simp [h1, h2, e, this, zdi]
  · simp [h1, h2, h3, e]
theorem zstep_c (h : dp ≠ 0) : zstep 41 (C, W, cm, dp, dg, false) = some ((zrl 1 W C).2, (zrl 1 W C).1.tail, cm, dp - 1, 0, false) := by
  unfold zstep
  simp [zdi, h]
theorem zstep_o (h : zop c ≠ 0) (hc : ¬ (zbd (zop c) = 1 ∧ cm dp = true)) : zstep c (C, W, cm, dp, dg, false) = some ((zrl (zbd (zop c)) W C).2, zop c :: (zrl (zbd (zop c)) W C).1, (if zbd (zop c) = 1 then zub cm dp true else cm), dp, 0, true) := by
  obtain ⟨h1, h2⟩ := zop_nd h
  unfold zstep
  simp [h1, h2, h, hc]
theorem zstep_x (h1 : zdi c = true → dg = 0 ∨ 3 ≤ dg) (h2 : c = 41 → dp = 0) (h3 : zop c ≠ 0 → zbd (zop c) = 1 ∧ cm dp = true) : zstep c (C, W, cm, dp, dg, false) = none := by
  cases hd : zdi c with
  | true => exact zstep_d0 hd (h1 hd)
  | false =>
    unfold zstep
    by_cases e : c = 41
    · simp [hd, e, h2 e, zdi]
    · by_cases e2 : zop c = 0
      · simp [hd, e, e2]
      · have := h3 e2
        simp [hd, e, e2, this]
end ZSP
/-! the two readings agree -/
/-- behind one of rank r that was read well: what may not come -/
def zNx (b : Nat) (t : Nat → Nat) (r a dg : Nat) (cx : Bool) : Prop := a < b → (zdi (t a) = true → dg = 0 ∨ 3 ≤ dg) ∧ (zop (t a) ≠ 0 → zbd (zop (t a)) ≤ r ∨ (zbd (zop (t a)) = 1 ∧ cx = true))
/-- from s at a the automaton comes to a', with codes cs2 at last, all that waits binding more than r -/
def zGo2 (b : Nat) (t : Nat → Nat) (s : zAs) (r a ns : Nat) (W : List Nat) (cm : Nat → Bool) (a2 : Nat) (cs2 : List Nat) : Prop := a ≤ a2 ∧ a2 ≤ b ∧ ∃ C2 W2 cm2 dg2, zrn t s a (a2 - a) = some (C2, W2 ++ W, cm2, ns, dg2, false) ∧ cs2 = W2.reverse ++ C2 ∧ (∀ o ∈ W2, r + 1 ≤ zbd o) ∧ (∀ i, i < ns → cm2 i = cm i) ∧ (0 < r → cm2 ns = cm ns) ∧ zNx b t r a2 dg2 (cm2 ns)
/-- or it stops at a2 -/
def zSt2 (b : Nat) (t : Nat → Nat) (s : zAs) (a a2 : Nat) : Prop := a ≤ a2 ∧ a2 ≤ b ∧ ∃ s2, zrn t s a (a2 - a) = some s2 ∧ (a2 < b → zstep (t a2) s2 = none) ∧ (a2 = b → s2.2.2.2.2.2 = true ∨ 0 < s2.2.2.2.1)
theorem zSt2_t {b : Nat} {t : Nat → Nat} {s s' : zAs} {a a1 a2 : Nat} (h1 : a ≤ a1) (g : zrn t s a (a1 - a) = some s') (h : zSt2 b t s' a1 a2) : zSt2 b t s a a2 := by
  obtain ⟨k1, k2, s2, k3, k4⟩ := h
  exact ⟨by omega, k2, s2, zrn_t h1 k1 g k3, k4⟩
theorem zub_n {f : Nat → Bool} {i j : Nat} {x : Bool} (h : j ≠ i) : zub f i x j = f j := if_neg h
theorem zub_e {f : Nat → Bool} {i : Nat} {x : Bool} : zub f i x i = x := if_pos rfl
/-- a number -/
theorem znum_run {b : Nat} {t : Nat → Nat} {a ns dg : Nat} {cs W : List Nat} {cm : Nat → Bool} (ha : a < b) (hd : zdi (t a) = true) : zGo2 b t (cs, W, cm, ns, dg, true) 3 a ns W cm (a + zdc b t a) (znv t a (zdc b t a) :: cs) := by
  have s1 := zrn_1 (t := t) (s := (cs, W, cm, ns, dg, true)) (p := a) (zstep_d1 (C := cs) (W := W) (cm := cm) (dp := ns) (dg := dg) hd)
  have nx : ∀ k, 1 ≤ k → a + k ≤ b → (a + k < b → zdi (t (a + k)) = true → k = 3) → zNx b t 3 (a + k) k (cm ns) := fun k h1 h2 h3 hlt => ⟨fun q => by have := h3 hlt q; omega, fun q => Or.inl (zbd_op q).2⟩
  by_cases e1 : a + 1 < b ∧ zdi (t (a + 1)) = true
  · have s2 : zrn t (cs, W, cm, ns, dg, true) a 2 = some ((10 * (t a - 48) + (t (a + 1) - 48)) :: cs, W, cm, ns, 2, false) := by
      show (zrn t _ a 1).bind (zstep (t (a + 1))) = _
      rw [s1]
      exact zstep_d2 e1.2 (by decide)
    by_cases e2 : a + 2 < b ∧ zdi (t (a + 2)) = true
    · have e : zdc b t a = 3 := by unfold zdc; rw [if_pos e1, if_pos e2]
      have s3 : zrn t (cs, W, cm, ns, dg, true) a 3 = some ((10 * (10 * (t a - 48) + (t (a + 1) - 48)) + (t (a + 2) - 48)) :: cs, W, cm, ns, 3, false) := by
        show (zrn t _ a 2).bind (zstep (t (a + 2))) = _
        rw [s2]
        exact zstep_d2 e2.2 (by decide)
      rw [e]
      refine ⟨by omega, by omega, _, [], cm, 3, by rw [show a + 3 - a = 3 by omega]; exact s3, ?_, fun o h => absurd h List.not_mem_nil, fun _ _ => rfl, fun _ => rfl, nx 3 (by decide) (by omega) (fun _ _ => rfl)⟩
      show znv t a 3 :: cs = _
      simp [znv]
    · have e : zdc b t a = 2 := by unfold zdc; rw [if_pos e1, if_neg e2]
      rw [e]
      refine ⟨by omega, by omega, _, [], cm, 2, by rw [show a + 2 - a = 2 by omega]; exact s2, ?_, fun o h => absurd h List.not_mem_nil, fun _ _ => rfl, fun _ => rfl, nx 2 (by decide) (by omega) (fun h q => absurd ⟨h, q⟩ e2)⟩
      show znv t a 2 :: cs = _
      simp [znv]
  · have e : zdc b t a = 1 := by unfold zdc; rw [if_neg e1]
    rw [e]
    refine ⟨by omega, by omega, _, [], cm, 1, by rw [show a + 1 - a = 1 by omega]; exact s1, ?_, fun o h => absurd h List.not_mem_nil, fun _ _ => rfl, fun _ => rfl, nx 1 (by decide) (by omega) (fun h q => absurd ⟨h, q⟩ e1)⟩
    show znv t a 1 :: cs = _
    simp [znv]
/-- what the reading of m says of the automaton -/
def zSim (b : Nat) (t : Nat → Nat) (f : Nat) : Prop :=
  (∀ (r a ns dg : Nat) (cs W : List Nat) (cm : Nat → Bool) (ok : Bool) (a2 : Nat) (cs2 : List Nat), r ≤ 3 → a ≤ b → (r < 3 → ∀ o, W.head? = some o → zbd o ≤ r) → (r = 0 → cm ns = false) → zde b t f r a ns cs = some (ok, a2, cs2) → (ok = true → zGo2 b t (cs, W, cm, ns, dg, true) r a ns W cm a2 cs2) ∧ (ok = false → zSt2 b t (cs, W, cm, ns, dg, true) a a2)) ∧
  (∀ (r a ns dg : Nat) (C1 W1 W : List Nat) (cm : Nat → Bool) (ok : Bool) (a2 : Nat) (cs2 : List Nat), r < 3 → a ≤ b → (∀ o, W.head? = some o → zbd o ≤ r) → (r = 0 → cm ns = false) → (∀ o ∈ W1, r + 1 ≤ zbd o) → zNx b t (r + 1) a dg (cm ns) → zde b t f (r + 4) a ns (W1.reverse ++ C1) = some (ok, a2, cs2) → (ok = true → zGo2 b t (C1, W1 ++ W, cm, ns, dg, false) r a ns W cm a2 cs2) ∧ (ok = false → zSt2 b t (C1, W1 ++ W, cm, ns, dg, false) a a2))

/-! the two readings agree: the proof -/
section ZSM
variable {b : Nat} {t : Nat → Nat}
theorem zsim_3 {f : Nat} (ih : zSim b t f) {a ns dg : Nat} {cs W : List Nat} {cm : Nat → Bool} {ok : Bool} {a2 : Nat} {cs2 : List Nat} (hab : a ≤ b) (h : zde b t (f + 1) 3 a ns cs = some (ok, a2, cs2)) : (ok = true → zGo2 b t (cs, W, cm, ns, dg, true) 3 a ns W cm a2 cs2) ∧ (ok = false → zSt2 b t (cs, W, cm, ns, dg, true) a a2) := by
  unfold zde at h
  rw [if_pos rfl] at h
  by_cases e1 : a < b ∧ t a = 45
  · rw [if_pos e1] at h
    have s1 : zrn t (cs, W, cm, ns, dg, true) a (a + 1 - a) = some (cs, 3000 :: W, cm, ns, 0, true) := by
      rw [show a + 1 - a = 1 by omega]
      refine zrn_1 ?_
      rw [e1.2]
      exact zstep_m
    cases hx : zde b t f 3 (a + 1) ns cs with
    | none => rw [hx] at h; cases h
    | some x =>
      rw [hx] at h
      obtain ⟨ok1, a1, c1⟩ := x
      have h : some (ok1, a1, 3000 :: c1) = some (ok, a2, cs2) := h
      cases h
      obtain ⟨g1, g2⟩ := ih.1 3 (a + 1) ns 0 cs (3000 :: W) cm ok a2 c1 (by decide) (by omega) (fun q => absurd q (by decide)) (fun q => absurd q (by decide)) hx
      refine ⟨fun hok => ?_, fun hok => zSt2_t (by omega) s1 (g2 hok)⟩
      obtain ⟨k1, k2, C2, W2, cm2, dg2, k3, k4, k5, k6, k7, k8⟩ := g1 hok
      refine ⟨by omega, k2, C2, W2 ++ [3000], cm2, dg2, ?_, ?_, ?_, k6, k7, k8⟩
      · rw [List.append_assoc]
        exact zrn_t (by omega) k1 s1 k3
      · rw [k4, List.reverse_append]
        rfl
      · intro o ho
        rcases List.mem_append.mp ho with q | q
        · exact k5 o q
        · rw [List.mem_singleton.mp q]; decide
  · rw [if_neg e1] at h
    by_cases e2 : a < b ∧ zdi (t a) = true
    · rw [if_pos e2] at h
      cases h
      exact ⟨fun _ => znum_run e2.1 e2.2, fun q => absurd q (by decide)⟩
    · rw [if_neg e2] at h
      by_cases e3 : a < b ∧ zlt (t a) < 8
      · rw [if_pos e3] at h
        cases h
        refine ⟨fun _ => ⟨by omega, by omega, _, [], cm, 0, by rw [show a + 1 - a = 1 by omega]; exact zrn_1 (zstep_l e3.2), rfl, fun o q => absurd q List.not_mem_nil, fun _ _ => rfl, fun _ => rfl, fun _ => ⟨fun _ => Or.inl rfl, fun q => Or.inl (zbd_op q).2⟩⟩, fun q => absurd q (by decide)⟩
      · rw [if_neg e3] at h
        by_cases e4 : ns < 4 ∧ a < b ∧ t a = 40
        · rw [if_pos e4] at h
          have s1 : zrn t (cs, W, cm, ns, dg, true) a (a + 1 - a) = some (cs, 0 :: W, zub cm (ns + 1) false, ns + 1, 0, true) := by
            rw [show a + 1 - a = 1 by omega]
            refine zrn_1 ?_
            rw [e4.2.2]
            exact zstep_b e4.1
          cases hx : zde b t f 0 (a + 1) (ns + 1) cs with
          | none => rw [hx] at h; cases h
          | some x =>
            rw [hx] at h
            obtain ⟨ok1, a1, c1⟩ := x
            obtain ⟨g1, g2⟩ := ih.1 0 (a + 1) (ns + 1) 0 cs (0 :: W) (zub cm (ns + 1) false) ok1 a1 c1 (by decide) (by omega) (fun _ o ho => by rw [← Option.some.inj ho]; decide) (fun _ => zub_e) hx
            have h : (if ok1 = true ∧ a1 < b ∧ t a1 = 41 then (true, a1 + 1, c1) else (false, a1, c1)) = (ok, a2, cs2) := Option.some.inj h
            by_cases e5 : ok1 = true ∧ a1 < b ∧ t a1 = 41
            · rw [if_pos e5] at h
              obtain ⟨rfl, rfl, rfl⟩ : ok = true ∧ a2 = a1 + 1 ∧ cs2 = c1 := by
                cases h
                exact ⟨rfl, rfl, rfl⟩
              refine ⟨fun _ => ?_, fun q => absurd q (by decide)⟩
              obtain ⟨k1, k2, C2, W2, cm2, dg2, k3, k4, k5, k6, k7, k8⟩ := g1 e5.1
              have er := zrl_all (b := 1) (W2 := W2) (W := 0 :: W) (C := C2) k5 (fun o ho => by rw [← Option.some.inj ho]; decide)
              have s2 : zstep (t a1) (C2, W2 ++ 0 :: W, cm2, ns + 1, dg2, false) = some (cs2, W, cm2, ns, 0, false) := by
                rw [e5.2.2, zstep_c (by omega), er, k4]
                rfl
              refine ⟨by omega, by omega, cs2, [], cm2, 0, ?_, rfl, fun o q => absurd q List.not_mem_nil, fun i hi => (k6 i (by omega)).trans (zub_n (by omega)), fun _ => (k6 ns (by omega)).trans (zub_n (by omega)), fun _ => ⟨fun _ => Or.inl rfl, fun q => Or.inl (zbd_op q).2⟩⟩
              refine zrn_t (b := a1) (by omega) (by omega) (zrn_t (by omega) k1 s1 k3) ?_
              rw [show a1 + 1 - a1 = 1 by omega]
              exact zrn_1 s2
            · rw [if_neg e5] at h
              obtain ⟨rfl, rfl, rfl⟩ : ok = false ∧ a2 = a1 ∧ cs2 = c1 := by
                cases h
                exact ⟨rfl, rfl, rfl⟩
              refine ⟨fun q => absurd q (by decide), fun _ => ?_⟩
              cases ok1 with
              | false => exact zSt2_t (by omega) s1 (g2 rfl)
              | true =>
                obtain ⟨k1, k2, C2, W2, cm2, dg2, k3, k4, k5, k6, k7, k8⟩ := g1 rfl
                refine ⟨by omega, k2, _, zrn_t (by omega) k1 s1 k3, fun hlt => ?_, fun _ => Or.inr (Nat.succ_pos ns)⟩
                obtain ⟨n1, n2⟩ := k8 hlt
                refine zstep_x n1 (fun q => absurd ⟨rfl, hlt, q⟩ e5) (fun q => ?_)
                have := zbd_op q
                rcases n2 q with r | r
                · omega
                · exact r
        · rw [if_neg e4] at h
          cases h
          refine ⟨fun q => absurd q (by decide), fun _ => ⟨Nat.le_refl _, hab, _, by rw [Nat.sub_self]; rfl, fun hlt => ?_, fun _ => Or.inl rfl⟩⟩
          exact zstep_n (fun q => e1 ⟨hlt, q⟩) (Bool.eq_false_iff.mpr fun q => e2 ⟨hlt, q⟩) (fun q => e3 ⟨hlt, q⟩) (fun q => e4 ⟨q.1, hlt, q.2⟩)
theorem zsim_r {f : Nat} (ih : zSim b t f) {r a ns dg : Nat} {cs W : List Nat} {cm : Nat → Bool} {ok : Bool} {a2 : Nat} {cs2 : List Nat} (hr : r < 3) (hab : a ≤ b) (hW : ∀ o, W.head? = some o → zbd o ≤ r) (hc : r = 0 → cm ns = false) (h : zde b t (f + 1) r a ns cs = some (ok, a2, cs2)) : (ok = true → zGo2 b t (cs, W, cm, ns, dg, true) r a ns W cm a2 cs2) ∧ (ok = false → zSt2 b t (cs, W, cm, ns, dg, true) a a2) := by
  unfold zde at h
  rw [if_neg (by omega), if_pos hr] at h
  cases hx : zde b t f (r + 1) a ns cs with
  | none => rw [hx] at h; cases h
  | some x =>
    rw [hx] at h
    obtain ⟨ok1, a1, c1⟩ := x
    obtain ⟨g1, g2⟩ := ih.1 (r + 1) a ns dg cs W cm ok1 a1 c1 (by omega) hab (fun _ o ho => Nat.le_succ_of_le (hW o ho)) (fun q => absurd q (by omega)) hx
    have h : (if ok1 = true then zde b t f (r + 4) a1 ns c1 else some (ok1, a1, c1)) = some (ok, a2, cs2) := h
    cases ok1 with
    | false =>
      cases h
      exact ⟨fun q => absurd q (by decide), fun _ => g2 rfl⟩
    | true =>
      obtain ⟨k1, k2, C2, W2, cm2, dg2, k3, k4, k5, k6, k7, k8⟩ := g1 rfl
      rw [if_pos rfl, k4] at h
      obtain ⟨l1, l2⟩ := ih.2 r a1 ns dg2 C2 W2 W cm2 ok a2 cs2 hr k2 hW (fun q => (k7 (by omega)).trans (hc q)) (fun o ho => Nat.le_of_succ_le (k5 o ho)) k8 h
      refine ⟨fun hok => ?_, fun hok => zSt2_t k1 k3 (l2 hok)⟩
      obtain ⟨m1, m2, C3, W3, cm3, dg3, m3, m4, m5, m6, m7, m8⟩ := l1 hok
      exact ⟨by omega, m2, C3, W3, cm3, dg3, zrn_t k1 m1 k3 m3, m4, m5, fun i hi => (m6 i hi).trans (k6 i hi), fun q => (m7 q).trans (k7 (by omega)), m8⟩
theorem zsim_l {f : Nat} (ih : zSim b t f) {r a ns dg : Nat} {C1 W1 W : List Nat} {cm : Nat → Bool} {ok : Bool} {a2 : Nat} {cs2 : List Nat} (hr : r < 3) (hab : a ≤ b) (hW : ∀ o, W.head? = some o → zbd o ≤ r) (hc : r = 0 → cm ns = false) (hW1 : ∀ o ∈ W1, r + 1 ≤ zbd o) (hn : zNx b t (r + 1) a dg (cm ns)) (h : zde b t (f + 1) (r + 4) a ns (W1.reverse ++ C1) = some (ok, a2, cs2)) : (ok = true → zGo2 b t (C1, W1 ++ W, cm, ns, dg, false) r a ns W cm a2 cs2) ∧ (ok = false → zSt2 b t (C1, W1 ++ W, cm, ns, dg, false) a a2) := by
  unfold zde at h
  rw [if_neg (by omega), if_neg (by omega), show r + 4 - 4 = r by omega, show r + 4 - 3 = r + 1 by omega] at h
  by_cases e1 : a < b ∧ zrk2 r (t a) = true
  · rw [if_pos e1] at h
    obtain ⟨o1, o2⟩ := of_decide_eq_true e1.2
    have er := zrl_all (b := r + 1) (W2 := W1) (W := W) (C := C1) hW1 (fun o ho => Nat.lt_succ_of_le (hW o ho))
    have s1 : zrn t (C1, W1 ++ W, cm, ns, dg, false) a (a + 1 - a) = some (W1.reverse ++ C1, zop (t a) :: W, (if zbd (zop (t a)) = 1 then zub cm ns true else cm), ns, 0, true) := by
      rw [show a + 1 - a = 1 by omega]
      refine zrn_1 ?_
      rw [zstep_o o1 (fun q => by
        have h0 : r = 0 := by omega
        rw [hc h0] at q
        exact absurd q.2 (by decide)), o2, er]
    generalize hcm : (if zbd (zop (t a)) = 1 then zub cm ns true else cm) = cm' at s1
    have hlo : ∀ i, i < ns → cm' i = cm i := fun i hi => by
      rw [← hcm]
      split
      · exact zub_n (by omega)
      · rfl
    have hr1 : 0 < r → cm' ns = cm ns := fun q => by
      rw [← hcm, if_neg (by omega)]
    have hr0 : r = 0 → cm' ns = true := fun q => by
      rw [← hcm, if_pos (by omega)]
      exact zub_e
    cases hx : zde b t f (r + 1) (a + 1) ns (W1.reverse ++ C1) with
    | none => rw [hx] at h; cases h
    | some x =>
      rw [hx] at h
      obtain ⟨ok1, a1, c1⟩ := x
      obtain ⟨g1, g2⟩ := ih.1 (r + 1) (a + 1) ns 0 (W1.reverse ++ C1) (zop (t a) :: W) cm' ok1 a1 c1 (by omega) (by omega) (fun _ o ho => by rw [← Option.some.inj ho, o2]; exact Nat.le_refl _) (fun q => absurd q (by omega)) hx
      have h : (if ok1 = true then (if r + 4 = 4 then some (true, a1, zop (t a) :: c1) else zde b t f (r + 4) a1 ns (zop (t a) :: c1)) else some (ok1, a1, c1)) = some (ok, a2, cs2) := h
      cases ok1 with
      | false =>
        cases h
        exact ⟨fun q => absurd q (by decide), fun _ => zSt2_t (by omega) s1 (g2 rfl)⟩
      | true =>
        rw [if_pos rfl] at h
        obtain ⟨k1, k2, C2, W2, cm2, dg2, k3, k4, k5, k6, k7, k8⟩ := g1 rfl
        have k3 := zrn_t (by omega) k1 s1 k3
        have ew : W2 ++ zop (t a) :: W = (W2 ++ [zop (t a)]) ++ W := by rw [List.append_assoc]; rfl
        have ec : zop (t a) :: c1 = (W2 ++ [zop (t a)]).reverse ++ C2 := by rw [k4, List.reverse_append]; rfl
        have hb : ∀ o ∈ W2 ++ [zop (t a)], r + 1 ≤ zbd o := fun o ho => by
          rcases List.mem_append.mp ho with q | q
          · exact Nat.le_of_succ_le (k5 o q)
          · rw [List.mem_singleton.mp q, o2]; exact Nat.le_refl _
        rw [ew] at k3
        by_cases e2 : r = 0
        · rw [if_pos (by omega)] at h
          cases h
          refine ⟨fun _ => ⟨by omega, k2, C2, _, cm2, dg2, k3, ec, hb, fun i hi => (k6 i hi).trans (hlo i hi), fun q => absurd q (by omega), fun hlt => ⟨(k8 hlt).1, fun q => Or.inr ?_⟩⟩, fun q => absurd q (by decide)⟩
          have h1 := zbd_op q
          have h2 : cm2 ns = true := (k7 (by omega)).trans (hr0 e2)
          rcases (k8 hlt).2 q with g | g
          · exact ⟨by omega, h2⟩
          · exact ⟨g.1, h2⟩
        · rw [if_neg (by omega), ec] at h
          obtain ⟨l1, l2⟩ := ih.2 r a1 ns dg2 C2 (W2 ++ [zop (t a)]) W cm2 ok a2 cs2 hr k2 hW (fun q => absurd q e2) hb k8 h
          refine ⟨fun hok => ?_, fun hok => zSt2_t (by omega) k3 (l2 hok)⟩
          obtain ⟨m1, m2, C3, W3, cm3, dg3, m3, m4, m5, m6, m7, m8⟩ := l1 hok
          exact ⟨by omega, m2, C3, W3, cm3, dg3, zrn_t (by omega) m1 k3 m3, m4, m5, fun i hi => (m6 i hi).trans ((k6 i hi).trans (hlo i hi)), fun q => (m7 q).trans ((k7 (by omega)).trans (hr1 q)), m8⟩
  · rw [if_neg e1] at h
    cases h
    refine ⟨fun _ => ⟨Nat.le_refl _, hab, C1, W1, cm, dg, by rw [Nat.sub_self]; rfl, rfl, hW1, fun _ _ => rfl, fun _ => rfl, fun hlt => ⟨(hn hlt).1, fun q => ?_⟩⟩, fun q => absurd q (by decide)⟩
    rcases (hn hlt).2 q with g | g
    · refine Or.inl ?_
      have : zbd (zop (t a)) ≠ r + 1 := fun g2 => e1 ⟨hlt, decide_eq_true ⟨q, g2⟩⟩
      omega
    · exact Or.inr g
theorem zsim : ∀ f, zSim b t f := by
  intro f
  induction f with
  | zero =>
    constructor
    · intros; rename_i h; cases h
    · intros; rename_i h; cases h
  | succ f ih =>
    refine ⟨fun r a ns dg cs W cm ok a2 cs2 h1 h2 h3 h4 h => ?_, fun r a ns dg C1 W1 W cm ok a2 cs2 h1 h2 h3 h4 h5 h6 h => zsim_l ih h1 h2 h3 h4 h5 h6 h⟩
    by_cases e : r = 3
    · subst e; exact zsim_3 ih h2 h
    · exact zsim_r ih (by omega) h2 (h3 (by omega)) h4 h
/-- more fuel, the same -/
theorem zde_s : ∀ {f m a ns : Nat} {cs : List Nat} {x : Bool × Nat × List Nat}, zde b t f m a ns cs = some x → zde b t (f + 1) m a ns cs = some x := by
  intro f
  induction f with
  | zero => intro m a ns cs x h; cases h
  | succ f ih =>
    intro m a ns cs x h
    have hm : ∀ {m a ns cs} {g : Bool × Nat × List Nat → Bool × Nat × List Nat}, (zde b t f m a ns cs).map g = some x → (zde b t (f + 1) m a ns cs).map g = some x := fun {m a ns cs g} h => by
      cases hx : zde b t f m a ns cs with
      | none => rw [hx] at h; cases h
      | some y => rw [ih hx]; rw [hx] at h; exact h
    have hb : ∀ {m a ns cs} {g g' : Bool × Nat × List Nat → Option (Bool × Nat × List Nat)}, (∀ y, g y = some x → g' y = some x) → (zde b t f m a ns cs).bind g = some x → (zde b t (f + 1) m a ns cs).bind g' = some x := fun {m a ns cs g g'} hg h => by
      cases hx : zde b t f m a ns cs with
      | none => rw [hx] at h; cases h
      | some y => rw [ih hx]; rw [hx] at h; exact hg y h
    unfold zde at h ⊢
    by_cases e1 : m = 3
    · rw [if_pos e1] at h ⊢
      by_cases e2 : a < b ∧ t a = 45
      · rw [if_pos e2] at h ⊢; exact hm h
      · rw [if_neg e2] at h ⊢
        by_cases e3 : a < b ∧ zdi (t a) = true
        · rw [if_pos e3] at h ⊢; exact h
        · rw [if_neg e3] at h ⊢
          by_cases e4 : a < b ∧ zlt (t a) < 8
          · rw [if_pos e4] at h ⊢; exact h
          · rw [if_neg e4] at h ⊢
            by_cases e5 : ns < 4 ∧ a < b ∧ t a = 40
            · rw [if_pos e5] at h ⊢; exact hm h
            · rw [if_neg e5] at h ⊢; exact h
    · rw [if_neg e1] at h ⊢
      by_cases e2 : m < 3
      · rw [if_pos e2] at h ⊢
        refine hb (fun y hy => ?_) h
        by_cases e3 : y.1 = true
        · rw [if_pos e3] at hy ⊢; exact ih hy
        · rw [if_neg e3] at hy ⊢; exact hy
      · rw [if_neg e2] at h ⊢
        by_cases e3 : a < b ∧ zrk2 (m - 4) (t a) = true
        · rw [if_pos e3] at h ⊢
          refine hb (fun y hy => ?_) h
          by_cases e4 : y.1 = true
          · rw [if_pos e4] at hy ⊢
            by_cases e5 : m = 4
            · rw [if_pos e5] at hy ⊢; exact hy
            · rw [if_neg e5] at hy ⊢; exact ih hy
          · rw [if_neg e4] at hy ⊢; exact hy
        · rw [if_neg e3] at h ⊢; exact h
theorem zde_k {f m a ns : Nat} {cs : List Nat} {x : Bool × Nat × List Nat} (h : zde b t f m a ns cs = some x) : ∀ k, zde b t (f + k) m a ns cs = some x
  | 0 => h
  | k + 1 => zde_s (zde_k h k)
theorem zde_m {f g m a ns : Nat} {cs : List Nat} {x : Bool × Nat × List Nat} (h : zde b t f m a ns cs = some x) (hg : f ≤ g) : zde b t g m a ns cs = some x := by
  have := zde_k h (g - f)
  rwa [show f + (g - f) = g by omega] at this
end ZSM

/-! the class reads a RULE, by W; printed by wip/z/z1g_form.py -/
/-- the sign of what waits; a code that can stand; what can wait -/
def zwo (o : Nat) : Nat := if o = 0 then 40 else if o = 2000 then 60 else if o = 2001 then 62 else if o = 2002 then 61 else if o = 2003 then 43 else if o = 2004 then 45 else if o = 2005 then 42 else if o = 2006 then 47 else 109
def zcv (c : Nat) : Prop := c < 1008 ∨ (2000 ≤ c ∧ c < 2007) ∨ c = 3000
def zvo (o : Nat) : Prop := o = 0 ∨ (2000 ≤ o ∧ o < 2007) ∨ o = 3000
/-- how a sign binds -/
def zbs (c : Nat) : Nat := if c = 109 then 4 else if zop c = 0 then 0 else zbd (zop c)
theorem zbs_4 {c : Nat} : zbs c ≤ 4 := by
  unfold zbs
  split
  · omega
  · split
    · omega
    · next h => exact Nat.le_succ_of_le (zbd_op h).2
theorem zop_109 : zop 109 = 0 := rfl
theorem zwo_lt {o : Nat} : zwo o < 128 := by unfold zwo; (repeat' split) <;> omega
theorem zbs_wo {o : Nat} (h : zvo o) : zbs (zwo o) = zbd o := by
  rcases (show o = 0 ∨ o = 2000 ∨ o = 2001 ∨ o = 2002 ∨ o = 2003 ∨ o = 2004 ∨ o = 2005 ∨ o = 2006 ∨ o = 3000 by unfold zvo at h; omega) with e | e | e | e | e | e | e | e | e <;> subst e <;> decide
theorem zwo_neg {o : Nat} (h : zvo o) (h0 : 1 ≤ zbd o) : -(zn (zwo o)) = zcc o := by
  rcases (show o = 0 ∨ o = 2000 ∨ o = 2001 ∨ o = 2002 ∨ o = 2003 ∨ o = 2004 ∨ o = 2005 ∨ o = 2006 ∨ o = 3000 by unfold zvo at h; omega) with e | e | e | e | e | e | e | e | e <;> subst e <;> first | exact absurd h0 (by decide) | decide
theorem zwo_op {c : Nat} (h : zop c ≠ 0) : zwo (zop c) = c ∧ zvo (zop c) := by
  unfold zop at h
  repeat' split at h
  all_goals first | (exfalso; exact h rfl) | (subst_vars; exact ⟨rfl, Or.inr (Or.inl (by decide))⟩)
theorem zvo_v {o : Nat} (h : zvo o) (h0 : 1 ≤ zbd o) : zcv o := by
  rcases h with h | h | h
  · subst h; exact absurd h0 (by decide)
  · exact Or.inr (Or.inl h)
  · exact Or.inr (Or.inr h)
theorem zcc_n {c : Nat} (h : c < 2000) : zcc c = zn c := if_pos h
/-- the signs by which bindingOf branches -/
def zbT (k : Nat) : Nat := if k = 0 then 84 else 74 + 2 * k
theorem zbr9 : (List.range 256).all (fun c => match pm_br (.lookupswitch 83 #[(42, 79), (43, 77), (45, 77), (47, 79), (60, 75), (61, 75), (62, 75), (109, 81)]) 75 1 [.int (zn c)] with
  | some (t, []) => Nat.beq t (zbT (zbs c))
  | _ => false) = true := by decide +kernel
theorem zbr9c {c k : Nat} (h : c < 256) (hk : zbs c = k) : pm_br (.lookupswitch 83 #[(42, 79), (43, 77), (45, 77), (47, 79), (60, 75), (61, 75), (62, 75), (109, 81)]) 75 1 [.int (zn c)] = some (zbT k, []) := by
  have h1 := List.all_eq_true.mp zbr9 c (List.mem_range.mpr h)
  generalize pm_br (.lookupswitch 83 #[(42, 79), (43, 77), (45, 77), (47, 79), (60, 75), (61, 75), (62, 75), (109, 81)]) 75 1 [.int (zn c)] = x at h1
  rw [hk] at h1
  match x, h1 with
  | some (t, []), h1 => rw [Nat.eq_of_beq_eq_true h1]
theorem zc_bind {c : Nat} {ph : pm_H} (hc : c < 256) : zM 9 [.int (zn c)] ph (fun v0 q => ph = q ∧ v0 = some (.int (zn (zbs c)))) := by
  obtain ⟨Q, hQ⟩ : ∃ Q : Option Value → pm_H → Prop, Q = (fun v0 q => ph = q ∧ v0 = some (.int (zn (zbs c)))) := ⟨_, rfl⟩
  rw [← hQ]
  refine zM_mk fun n D => ?_
  show zW n D 9 Q 0 [some (.int (zn c))] [] ph
  have c_0 : (Int32.ofInt 0).toInt = 0 := by decide
  have c_1 : (Int32.ofInt 1).toInt = 1 := by decide
  have c_2 : (Int32.ofInt 2).toInt = 2 := by decide
  have c_3 : (Int32.ofInt 3).toInt = 3 := by decide
  have c_4 : (Int32.ofInt 4).toInt = 4 := by decide
  have h4 := @zbs_4 c
  refine w_load (pc' := 1) (v := .int (zn c)) (m := 1) (ykc_9 (e := (2, .iload_n kF0, 0)) rfl) rfl rfl ?_
  rcases (show zbs c = 0 ∨ zbs c = 1 ∨ zbs c = 2 ∨ zbs c = 3 ∨ zbs c = 4 by omega) with e | e | e | e | e
  · refine w_br (pc' := 84) (st' := []) (ykc_9 (e := (4, .lookupswitch 83 #[(42, 79), (43, 77), (45, 77), (47, 79), (60, 75), (61, 75), (62, 75), (109, 81)], 75)) rfl) (zbr9c hc e) ?_
    refine w_alu (pc' := 85) (st' := [.int (Int32.ofInt 0)]) (ykc_9 (e := (0, .iconst 0, 0)) rfl) rfl rfl ?_
    refine w_ret (v := (some (.int (Int32.ofInt 0)))) (ykc_9 (e := (7, .ireturn, 0)) rfl) (zr_v rfl) ?_
    rw [hQ, e]
    exact ⟨rfl, rfl⟩
  · refine w_br (pc' := 76) (st' := []) (ykc_9 (e := (4, .lookupswitch 83 #[(42, 79), (43, 77), (45, 77), (47, 79), (60, 75), (61, 75), (62, 75), (109, 81)], 75)) rfl) (zbr9c hc e) ?_
    refine w_alu (pc' := 77) (st' := [.int (Int32.ofInt 1)]) (ykc_9 (e := (0, .iconst 1, 0)) rfl) rfl rfl ?_
    refine w_ret (v := (some (.int (Int32.ofInt 1)))) (ykc_9 (e := (7, .ireturn, 0)) rfl) (zr_v rfl) ?_
    rw [hQ, e]
    exact ⟨rfl, rfl⟩
  · refine w_br (pc' := 78) (st' := []) (ykc_9 (e := (4, .lookupswitch 83 #[(42, 79), (43, 77), (45, 77), (47, 79), (60, 75), (61, 75), (62, 75), (109, 81)], 75)) rfl) (zbr9c hc e) ?_
    refine w_alu (pc' := 79) (st' := [.int (Int32.ofInt 2)]) (ykc_9 (e := (0, .iconst 2, 0)) rfl) rfl rfl ?_
    refine w_ret (v := (some (.int (Int32.ofInt 2)))) (ykc_9 (e := (7, .ireturn, 0)) rfl) (zr_v rfl) ?_
    rw [hQ, e]
    exact ⟨rfl, rfl⟩
  · refine w_br (pc' := 80) (st' := []) (ykc_9 (e := (4, .lookupswitch 83 #[(42, 79), (43, 77), (45, 77), (47, 79), (60, 75), (61, 75), (62, 75), (109, 81)], 75)) rfl) (zbr9c hc e) ?_
    refine w_alu (pc' := 81) (st' := [.int (Int32.ofInt 3)]) (ykc_9 (e := (0, .iconst 3, 0)) rfl) rfl rfl ?_
    refine w_ret (v := (some (.int (Int32.ofInt 3)))) (ykc_9 (e := (7, .ireturn, 0)) rfl) (zr_v rfl) ?_
    rw [hQ, e]
    exact ⟨rfl, rfl⟩
  · refine w_br (pc' := 82) (st' := []) (ykc_9 (e := (4, .lookupswitch 83 #[(42, 79), (43, 77), (45, 77), (47, 79), (60, 75), (61, 75), (62, 75), (109, 81)], 75)) rfl) (zbr9c hc e) ?_
    refine w_alu (pc' := 83) (st' := [.int (Int32.ofInt 4)]) (ykc_9 (e := (0, .iconst 4, 0)) rfl) rfl rfl ?_
    refine w_ret (v := (some (.int (Int32.ofInt 4)))) (ykc_9 (e := (7, .ireturn, 0)) rfl) (zr_v rfl) ?_
    rw [hQ, e]
    exact ⟨rfl, rfl⟩
theorem zc_emit {ph : pm_H} {F k : Nat} {x : Int32} (hp : zc ph F 0 = some (.ref (F + 1))) (hk : zc ph F 1 = some (.int (zn k))) (h40 : k < 40) : zM 11 [.ref F, .int x] ph (fun v0 q => v0 = none ∧ zFr [F + 1] [(F, 1)] ph q ∧ zc q F 1 = some (.int (zn (k + 1))) ∧ zc q (F + 1) k = some (.int x) ∧ ∀ i, i ≠ k → zc q (F + 1) i = zc ph (F + 1) i) := by
  obtain ⟨Q, hQ⟩ : ∃ Q : Option Value → pm_H → Prop, Q = (fun v0 q => v0 = none ∧ zFr [F + 1] [(F, 1)] ph q ∧ zc q F 1 = some (.int (zn (k + 1))) ∧ zc q (F + 1) k = some (.int x) ∧ ∀ i, i ≠ k → zc q (F + 1) i = zc ph (F + 1) i) := ⟨_, rfl⟩
  rw [← hQ]
  refine zM_mk fun n D => ?_
  show zW n D 11 Q 0 [some (.ref F), some (.int x)] [] ph
  have c_0 : ((Int8.ofInt 40).toInt32).toInt = 40 := by decide
  have c_1 : (Int32.ofInt 1).toInt = 1 := by decide
  have tk := znt (k := k) (by omega)
  refine w_load (pc' := 1) (v := .ref F) (m := 1) (ykc_11 (e := (2, .aload_n kF0, 0)) rfl) rfl rfl ?_
  refine w_gf (pc' := 4) (v := .int (zn k)) (ykc_11 (e := (5, .getfield 55, 0)) rfl) rfl hk rfl ?_
  refine w_zlt (ykc_11 (e := (4, .ifCond .lt 32, 36)) rfl) rfl (fun q => by exfalso; omega) (fun b1517 => ?_)
  refine w_load (pc' := 8) (v := .ref F) (m := 1) (ykc_11 (e := (2, .aload_n kF0, 0)) rfl) rfl rfl ?_
  refine w_gf (pc' := 11) (v := .int (zn k)) (ykc_11 (e := (5, .getfield 55, 0)) rfl) rfl hk rfl ?_
  refine w_push (pc' := 13) (v := .int ((Int8.ofInt 40).toInt32)) (m := 2) (ykc_11 (e := (1, .bipush 40, 0)) rfl) rfl rfl ?_
  refine w_ige (ykc_11 (e := (4, .if_icmp .ge 23, 36)) rfl) rfl (fun q => by exfalso; omega) (fun b1518 => ?_)
  refine w_load (pc' := 17) (v := .ref F) (m := 1) (ykc_11 (e := (2, .aload_n kF0, 0)) rfl) rfl rfl ?_
  refine w_gf (pc' := 20) (v := .ref (F + 1)) (ykc_11 (e := (5, .getfield 9, 0)) rfl) rfl hp rfl ?_
  refine w_load (pc' := 21) (v := .ref F) (m := 1) (ykc_11 (e := (2, .aload_n kF0, 0)) rfl) rfl rfl ?_
  refine w_gf (pc' := 24) (v := .int (zn k)) (ykc_11 (e := (5, .getfield 55, 0)) rfl) rfl hk rfl ?_
  refine w_load (pc' := 25) (v := .int x) (m := 1) (ykc_11 (e := (2, .iload_n kF1, 0)) rfl) rfl rfl ?_
  refine w_ias (pc' := 26) (k := k) (ykc_11 (e := (5, .iastore, 0)) rfl) (by omega) rfl (fun ph1520 u1519 => ?_)
  refine w_load (pc' := 27) (v := .ref F) (m := 1) (ykc_11 (e := (2, .aload_n kF0, 0)) rfl) rfl rfl ?_
  refine w_alu (pc' := 28) (st' := [.ref F, .ref F]) (ykc_11 (e := (0, .dup, 0)) rfl) rfl rfl ?_
  refine w_gf (pc' := 31) (v := .int (zn k)) (ykc_11 (e := (5, .getfield 55, 0)) rfl) rfl ((u1519.2.1 F 1 (fun q => by have q2 := q.1; omega)).trans hk) rfl ?_
  refine w_alu (pc' := 32) (st' := [.int (Int32.ofInt 1), .int (zn k), .ref F]) (ykc_11 (e := (0, .iconst 1, 0)) rfl) rfl rfl ?_
  have e1521 : (zn k) + (Int32.ofInt 1) = zn (k + 1) := (zaddN (a := k) (b := 1) (znt (by omega)) c_1 (by omega)) 
  have te1521 := znt (k := k + 1) (by omega)
  refine w_alu (pc' := 33) (st' := [.int (zn (k + 1)), .ref F]) (ykc_11 (e := (0, .iadd, 0)) rfl) (by rw [← e1521]; rfl) rfl ?_
  refine w_pf (pc' := 36) (ykc_11 (e := (5, .putfield 55, 0)) rfl) rfl rfl (fun ph1523 u1522 => ?_)
  refine w_ret (v := none) (ykc_11 (e := (7, .return_, 0)) rfl) (zr_v rfl) ?_
  rw [hQ]
  exact ⟨rfl, zFr_trans (zFr_st u1519 (Or.inl (by simp))) (zFr_st u1522 (Or.inr (by simp))), u1522.1, (u1522.2.1 (F + 1) k (fun q => by have q1 := q.1; omega)).trans u1519.1, fun i hi => (u1522.2.1 (F + 1) i (fun q => by have q1 := q.1; omega)).trans (u1519.2.1 (F + 1) i (fun q => hi q.2))⟩
theorem zc_holdF {ph : pm_H} {F k : Nat} {x : Int32} (hp : zc ph F 2 = some (.ref (F + 2))) (hk : zc ph F 3 = some (.int (zn k))) (h40 : k < 40) : zM 12 [.ref F, .int x] ph (fun v0 q => v0 = none ∧ zFr [F + 2] [(F, 3)] ph q ∧ zc q F 3 = some (.int (zn (k + 1))) ∧ zc q (F + 2) k = some (.int x) ∧ ∀ i, i ≠ k → zc q (F + 2) i = zc ph (F + 2) i) := by
  obtain ⟨Q, hQ⟩ : ∃ Q : Option Value → pm_H → Prop, Q = (fun v0 q => v0 = none ∧ zFr [F + 2] [(F, 3)] ph q ∧ zc q F 3 = some (.int (zn (k + 1))) ∧ zc q (F + 2) k = some (.int x) ∧ ∀ i, i ≠ k → zc q (F + 2) i = zc ph (F + 2) i) := ⟨_, rfl⟩
  rw [← hQ]
  refine zM_mk fun n D => ?_
  show zW n D 12 Q 0 [some (.ref F), some (.int x)] [] ph
  have c_0 : ((Int8.ofInt 40).toInt32).toInt = 40 := by decide
  have c_1 : (Int32.ofInt 1).toInt = 1 := by decide
  have tk := znt (k := k) (by omega)
  refine w_load (pc' := 1) (v := .ref F) (m := 1) (ykc_12 (e := (2, .aload_n kF0, 0)) rfl) rfl rfl ?_
  refine w_gf (pc' := 4) (v := .int (zn k)) (ykc_12 (e := (5, .getfield 57, 0)) rfl) rfl hk rfl ?_
  refine w_zlt (ykc_12 (e := (4, .ifCond .lt 32, 36)) rfl) rfl (fun q => by exfalso; omega) (fun b1524 => ?_)
  refine w_load (pc' := 8) (v := .ref F) (m := 1) (ykc_12 (e := (2, .aload_n kF0, 0)) rfl) rfl rfl ?_
  refine w_gf (pc' := 11) (v := .int (zn k)) (ykc_12 (e := (5, .getfield 57, 0)) rfl) rfl hk rfl ?_
  refine w_push (pc' := 13) (v := .int ((Int8.ofInt 40).toInt32)) (m := 2) (ykc_12 (e := (1, .bipush 40, 0)) rfl) rfl rfl ?_
  refine w_ige (ykc_12 (e := (4, .if_icmp .ge 23, 36)) rfl) rfl (fun q => by exfalso; omega) (fun b1525 => ?_)
  refine w_load (pc' := 17) (v := .ref F) (m := 1) (ykc_12 (e := (2, .aload_n kF0, 0)) rfl) rfl rfl ?_
  refine w_gf (pc' := 20) (v := .ref (F + 2)) (ykc_12 (e := (5, .getfield 13, 0)) rfl) rfl hp rfl ?_
  refine w_load (pc' := 21) (v := .ref F) (m := 1) (ykc_12 (e := (2, .aload_n kF0, 0)) rfl) rfl rfl ?_
  refine w_gf (pc' := 24) (v := .int (zn k)) (ykc_12 (e := (5, .getfield 57, 0)) rfl) rfl hk rfl ?_
  refine w_load (pc' := 25) (v := .int x) (m := 1) (ykc_12 (e := (2, .iload_n kF1, 0)) rfl) rfl rfl ?_
  refine w_ias (pc' := 26) (k := k) (ykc_12 (e := (5, .iastore, 0)) rfl) (by omega) rfl (fun ph1527 u1526 => ?_)
  refine w_load (pc' := 27) (v := .ref F) (m := 1) (ykc_12 (e := (2, .aload_n kF0, 0)) rfl) rfl rfl ?_
  refine w_alu (pc' := 28) (st' := [.ref F, .ref F]) (ykc_12 (e := (0, .dup, 0)) rfl) rfl rfl ?_
  refine w_gf (pc' := 31) (v := .int (zn k)) (ykc_12 (e := (5, .getfield 57, 0)) rfl) rfl ((u1526.2.1 F 3 (fun q => by have q2 := q.1; omega)).trans hk) rfl ?_
  refine w_alu (pc' := 32) (st' := [.int (Int32.ofInt 1), .int (zn k), .ref F]) (ykc_12 (e := (0, .iconst 1, 0)) rfl) rfl rfl ?_
  have e1528 : (zn k) + (Int32.ofInt 1) = zn (k + 1) := (zaddN (a := k) (b := 1) (znt (by omega)) c_1 (by omega)) 
  have te1528 := znt (k := k + 1) (by omega)
  refine w_alu (pc' := 33) (st' := [.int (zn (k + 1)), .ref F]) (ykc_12 (e := (0, .iadd, 0)) rfl) (by rw [← e1528]; rfl) rfl ?_
  refine w_pf (pc' := 36) (ykc_12 (e := (5, .putfield 57, 0)) rfl) rfl rfl (fun ph1530 u1529 => ?_)
  refine w_ret (v := none) (ykc_12 (e := (7, .return_, 0)) rfl) (zr_v rfl) ?_
  rw [hQ]
  exact ⟨rfl, zFr_trans (zFr_st u1526 (Or.inl (by simp))) (zFr_st u1529 (Or.inr (by simp))), u1529.1, (u1529.2.1 (F + 2) k (fun q => by have q1 := q.1; omega)).trans u1526.1, fun i hi => (u1529.2.1 (F + 2) i (fun q => by have q1 := q.1; omega)).trans (u1526.2.1 (F + 2) i (fun q => hi q.2))⟩
/-- a Formula at F that is being read -/
def zFp (ph : pm_H) (F : Nat) : Prop := zc ph F 0 = some (.ref (F + 1)) ∧ zc ph F 2 = some (.ref (F + 2)) ∧ zc ph F 4 = some (.ref (F + 3))
def zFc (ph : pm_H) (F : Nat) (C : List Nat) : Prop := zc ph F 1 = some (.int (zn C.length)) ∧ ∀ i c, C[i]? = some c → zc ph (F + 1) (C.length - 1 - i) = some (.int (zcc c)) ∧ zcv c
def zFw (ph : pm_H) (F : Nat) (W : List Nat) : Prop := zc ph F 3 = some (.int (zn W.length)) ∧ ∀ i o, W[i]? = some o → zc ph (F + 2) (W.length - 1 - i) = some (.int (zn (zwo o))) ∧ zvo o
def zFb (ph : pm_H) (F : Nat) (cm : Nat → Bool) : Prop := ∀ i, i < 5 → zc ph (F + 3) i = some (.int (zI (cm i)))
def zFd (ph : pm_H) (F dp dg : Nat) (wt : Bool) : Prop := zc ph F 5 = some (.int (zn dp)) ∧ dp ≤ 4 ∧ zc ph F 6 = some (.int (zn dg)) ∧ dg ≤ 3 ∧ zc ph F 7 = some (.int (zI wt))
section ZFX
variable {A : List Nat} {L : List (Nat × Nat)} {p q : pm_H} {F dp dg k : Nat} {C W : List Nat} {cm : Nat → Bool} {wt : Bool}
theorem zFp_F (f : zFr A L p q) (h1 : F ∉ A) (h2 : (F, 0) ∉ L ∧ (F, 2) ∉ L ∧ (F, 4) ∉ L) (h : zFp p F) : zFp q F := ⟨(f.1 _ _ h1 h2.1).trans h.1, (f.1 _ _ h1 h2.2.1).trans h.2.1, (f.1 _ _ h1 h2.2.2).trans h.2.2⟩
theorem zFc_F (f : zFr A L p q) (h1 : F ∉ A ∧ F + 1 ∉ A) (h2 : (F, 1) ∉ L ∧ ∀ i, (F + 1, i) ∉ L) (h : zFc p F C) : zFc q F C := ⟨(f.1 _ _ h1.1 h2.1).trans h.1, fun i c hc => ⟨(f.1 _ _ h1.2 (h2.2 _)).trans (h.2 i c hc).1, (h.2 i c hc).2⟩⟩
theorem zFw_F (f : zFr A L p q) (h1 : F ∉ A ∧ F + 2 ∉ A) (h2 : (F, 3) ∉ L ∧ ∀ i, (F + 2, i) ∉ L) (h : zFw p F W) : zFw q F W := ⟨(f.1 _ _ h1.1 h2.1).trans h.1, fun i c hc => ⟨(f.1 _ _ h1.2 (h2.2 _)).trans (h.2 i c hc).1, (h.2 i c hc).2⟩⟩
theorem zFb_F (f : zFr A L p q) (h1 : F + 3 ∉ A) (h2 : ∀ i, (F + 3, i) ∉ L) (h : zFb p F cm) : zFb q F cm := fun i hi => (f.1 _ _ h1 (h2 i)).trans (h i hi)
theorem zFd_F (f : zFr A L p q) (h1 : F ∉ A) (h2 : (F, 5) ∉ L ∧ (F, 6) ∉ L ∧ (F, 7) ∉ L) (h : zFd p F dp dg wt) : zFd q F dp dg wt := ⟨(f.1 _ _ h1 h2.1).trans h.1, h.2.1, (f.1 _ _ h1 h2.2.1).trans h.2.2.1, h.2.2.2.1, (f.1 _ _ h1 h2.2.2).trans h.2.2.2.2⟩
/-- one code more -/
theorem zFc_c {c : Nat} (h : zFc p F C) (h1 : zc q F 1 = some (.int (zn (C.length + 1)))) (h2 : zc q (F + 1) C.length = some (.int (zcc c))) (h3 : ∀ i, i ≠ C.length → zc q (F + 1) i = zc p (F + 1) i) (hc : zcv c) : zFc q F (c :: C) := by
  refine ⟨h1, fun i x hx => ?_⟩
  cases i with
  | zero =>
    cases hx
    exact ⟨by rw [show (c :: C).length - 1 - 0 = C.length by simp]; exact h2, hc⟩
  | succ i =>
    have hx : C[i]? = some x := hx
    have hi := (List.getElem?_eq_some_iff.mp hx).1
    obtain ⟨g1, g2⟩ := h.2 i x hx
    refine ⟨?_, g2⟩
    rw [show (c :: C).length - 1 - (i + 1) = C.length - 1 - i by simp; omega, h3 _ (by omega)]
    exact g1
theorem zFw_c {o : Nat} (h : zFw p F W) (h1 : zc q F 3 = some (.int (zn (W.length + 1)))) (h2 : zc q (F + 2) W.length = some (.int (zn (zwo o)))) (h3 : ∀ i, i ≠ W.length → zc q (F + 2) i = zc p (F + 2) i) (hc : zvo o) : zFw q F (o :: W) := by
  refine ⟨h1, fun i x hx => ?_⟩
  cases i with
  | zero =>
    cases hx
    exact ⟨by rw [show (o :: W).length - 1 - 0 = W.length by simp]; exact h2, hc⟩
  | succ i =>
    have hx : W[i]? = some x := hx
    have hi := (List.getElem?_eq_some_iff.mp hx).1
    obtain ⟨g1, g2⟩ := h.2 i x hx
    refine ⟨?_, g2⟩
    rw [show (o :: W).length - 1 - (i + 1) = W.length - 1 - i by simp; omega, h3 _ (by omega)]
    exact g1
/-- the latest one that waits; without it -/
theorem zFw_h {o : Nat} (h : zFw p F (o :: W)) : zc p (F + 2) W.length = some (.int (zn (zwo o))) ∧ zvo o := by
  have h2 := h.2 0 o rfl
  rwa [show (o :: W).length - 1 - 0 = W.length by simp] at h2
theorem zFw_t {o : Nat} (h : zFw p F (o :: W)) (h1 : zc q F 3 = some (.int (zn W.length))) (h3 : ∀ i, zc q (F + 2) i = zc p (F + 2) i) : zFw q F W := by
  refine ⟨h1, fun i x hx => ?_⟩
  have h2 := h.2 (i + 1) x hx
  rw [show (o :: W).length - 1 - (i + 1) = W.length - 1 - i by simp; omega] at h2
  exact ⟨(h3 _).trans h2.1, h2.2⟩
theorem zrl_len {b : Nat} : ∀ {W C : List Nat}, (zrl b W C).1.length + (zrl b W C).2.length = W.length + C.length
  | [], _ => rfl
  | o :: W, C => by
    show (if b ≤ zbd o then zrl b W (o :: C) else (o :: W, C)).1.length + (if b ≤ zbd o then zrl b W (o :: C) else (o :: W, C)).2.length = _
    split
    · rw [zrl_len (W := W) (C := o :: C)]; simp; omega
    · rfl
end ZFX
theorem zc_release {ph : pm_H} {F b : Nat} {x : Int32} {C W : List Nat} (hp : zFp ph F) (hC : zFc ph F C) (hW : zFw ph F W) (hx : x.toInt = (b : Int)) (hb : 1 ≤ b) (h40 : C.length + W.length ≤ 40) : zM 10 [.ref F, .int x] ph (fun v0 q => v0 = none ∧ zFr [F + 1] [(F, 1), (F, 3)] ph q ∧ zFc q F (zrl b W C).2 ∧ zFw q F (zrl b W C).1) := by
  obtain ⟨Q, hQ⟩ : ∃ Q : Option Value → pm_H → Prop, Q = (fun v0 q => v0 = none ∧ zFr [F + 1] [(F, 1), (F, 3)] ph q ∧ zFc q F (zrl b W C).2 ∧ zFw q F (zrl b W C).1) := ⟨_, rfl⟩
  rw [← hQ]
  refine zM_mk fun n D => ?_
  show zW n D 10 Q 0 [some (.ref F), some (.int x)] [] ph
  have c_0 : (Int32.ofInt 1).toInt = 1 := by decide
  have hx9 := x32_hi x
  have hl : ∀ (n : Nat), ∀ (W2 C2 : List Nat) (ph1 : pm_H), (zFr [F + 1] [(F, 1), (F, 3)] ph ph1) → (zFc ph1 F C2) → (zFw ph1 F W2) → (zrl b W2 C2 = zrl b W C) → (C2.length + W2.length ≤ 40) → zW n D 10 Q 0 [some (.ref F), some (.int x)] [] ph1 := by
    intro n
    induction n using Nat.strongRecOn with
    | ind n ih =>
      intro W2 C2 ph1 hf hC1 hW1 hz h41
      have hp1 := zFp_F hf (by simp) (by simp) hp
      cases W2 with
      | nil =>
        have t0 := znt (k := 0) (by omega)
        refine w_load (pc' := 1) (v := .ref F) (m := 1) (ykc_10 (e := (2, .aload_n kF0, 0)) rfl) rfl rfl ?_
        refine w_gf (pc' := 4) (v := .int (zn 0)) (ykc_10 (e := (5, .getfield 57, 0)) rfl) rfl hW1.1 rfl ?_
        refine w_zle (ykc_10 (e := (4, .ifCond .le 48, 52)) rfl) rfl (fun b1531 => ?_) (fun q => by exfalso; omega)
        refine w_ret (v := none) (ykc_10 (e := (7, .return_, 0)) rfl) (zr_v rfl) ?_
        rw [hQ, ← hz]
        exact ⟨rfl, hf, hC1, hW1⟩
      | cons o W3 =>
        have hl9 : C2.length + (W3.length + 1) ≤ 40 := h41
        have tw := znt (k := W3.length + 1) (by omega)
        have tw2 := znt (k := W3.length) (by omega)
        obtain ⟨ho, hov⟩ := zFw_h hW1
        have ho128 := @zwo_lt o
        have to := znt (k := zwo o) (by omega)
        have hbo := zbs_wo hov
        have hzr : zrl b (o :: W3) C2 = if b ≤ zbd o then zrl b W3 (o :: C2) else (o :: W3, C2) := rfl
        refine w_load (pc' := 1) (v := .ref F) (m := 1) (ykc_10 (e := (2, .aload_n kF0, 0)) rfl) rfl rfl ?_
        refine w_gf (pc' := 4) (v := .int (zn (W3.length + 1))) (ykc_10 (e := (5, .getfield 57, 0)) rfl) rfl hW1.1 rfl ?_
        refine w_zle (ykc_10 (e := (4, .ifCond .le 48, 52)) rfl) rfl (fun q => by exfalso; omega) (fun b1532 => ?_)
        refine w_load (pc' := 8) (v := .ref F) (m := 1) (ykc_10 (e := (2, .aload_n kF0, 0)) rfl) rfl rfl ?_
        refine w_gf (pc' := 11) (v := .ref (F + 2)) (ykc_10 (e := (5, .getfield 13, 0)) rfl) rfl hp1.2.1 rfl ?_
        refine w_load (pc' := 12) (v := .ref F) (m := 1) (ykc_10 (e := (2, .aload_n kF0, 0)) rfl) rfl rfl ?_
        refine w_gf (pc' := 15) (v := .int (zn (W3.length + 1))) (ykc_10 (e := (5, .getfield 57, 0)) rfl) rfl hW1.1 rfl ?_
        refine w_alu (pc' := 16) (st' := [.int (Int32.ofInt 1), .int (zn (W3.length + 1)), .ref (F + 2)]) (ykc_10 (e := (0, .iconst 1, 0)) rfl) rfl rfl ?_
        have e1533 : (zn (W3.length + 1)) - (Int32.ofInt 1) = zn (W3.length) := zsubN (a := W3.length + 1) (b := 1) (znt (by omega)) c_0 (by omega)
        have te1533 := znt (k := W3.length) (by omega)
        refine w_alu (pc' := 17) (st' := [.int (zn (W3.length)), .ref (F + 2)]) (ykc_10 (e := (0, .isub, 0)) rfl) (by show some ([.int ((zn (W3.length + 1)) - (Int32.ofInt 1)), .ref (F + 2)] : List Value) = _; rw [e1533]) rfl ?_
        refine w_ialk (pc' := 18) (k := W3.length) (ykc_10 (e := (5, .iaload, 0)) rfl) ho (by omega) rfl ?_
        refine w_cs (as := [.int (zn (zwo o))]) (r := []) (ykc_10 (e := (6, .invokestatic 89, 0)) rfl) rfl rfl rfl rfl (zc_bind (c := zwo o) (by omega)) (fun v1534 ph1535 hv => ?_)
        obtain ⟨rfl, rfl⟩ := hv
        have tb9 := znt (k := zbs (zwo o)) (by have := @zbs_4 (zwo o); omega)
        have hb9 := @zbs_4 (zwo o)
        show zW n D 10 Q 21 [some (.ref F), some (.int x)] [.int (zn (zbs (zwo o)))] ph1
        refine w_load (pc' := 22) (v := .int x) (m := 1) (ykc_10 (e := (2, .iload_n kF1, 0)) rfl) rfl rfl ?_
        refine w_ilt (ykc_10 (e := (4, .if_icmp .lt 30, 52)) rfl) rfl (fun b1536 => ?_) (fun b1536 => ?_)
        · refine w_ret (v := none) (ykc_10 (e := (7, .return_, 0)) rfl) (zr_v rfl) ?_
          have hbb : ¬ b ≤ zbd o := by omega
          rw [hQ, ← hz, hzr, if_neg hbb]
          exact ⟨rfl, hf, hC1, hW1⟩
        · refine w_load (pc' := 26) (v := .ref F) (m := 1) (ykc_10 (e := (2, .aload_n kF0, 0)) rfl) rfl rfl ?_
          refine w_alu (pc' := 27) (st' := [.ref F, .ref F]) (ykc_10 (e := (0, .dup, 0)) rfl) rfl rfl ?_
          refine w_gf (pc' := 30) (v := .int (zn (W3.length + 1))) (ykc_10 (e := (5, .getfield 57, 0)) rfl) rfl hW1.1 rfl ?_
          refine w_alu (pc' := 31) (st' := [.int (Int32.ofInt 1), .int (zn (W3.length + 1)), .ref F]) (ykc_10 (e := (0, .iconst 1, 0)) rfl) rfl rfl ?_
          have e1537 : (zn (W3.length + 1)) - (Int32.ofInt 1) = zn (W3.length) := zsubN (a := W3.length + 1) (b := 1) (znt (by omega)) c_0 (by omega)
          have te1537 := znt (k := W3.length) (by omega)
          refine w_alu (pc' := 32) (st' := [.int (zn (W3.length)), .ref F]) (ykc_10 (e := (0, .isub, 0)) rfl) (by show some ([.int ((zn (W3.length + 1)) - (Int32.ofInt 1)), .ref F] : List Value) = _; rw [e1537]) rfl ?_
          refine w_pf (pc' := 35) (ykc_10 (e := (5, .putfield 57, 0)) rfl) rfl rfl (fun ph1539 u1538 => ?_)
          refine w_load (pc' := 36) (v := .ref F) (m := 1) (ykc_10 (e := (2, .aload_n kF0, 0)) rfl) rfl rfl ?_
          refine w_load (pc' := 37) (v := .ref F) (m := 1) (ykc_10 (e := (2, .aload_n kF0, 0)) rfl) rfl rfl ?_
          refine w_gf (pc' := 40) (v := .ref (F + 2)) (ykc_10 (e := (5, .getfield 13, 0)) rfl) rfl ((u1538.2.1 F 2 (fun q => absurd q.2 (by decide))).trans hp1.2.1) rfl ?_
          refine w_load (pc' := 41) (v := .ref F) (m := 1) (ykc_10 (e := (2, .aload_n kF0, 0)) rfl) rfl rfl ?_
          refine w_gf (pc' := 44) (v := .int (zn (W3.length))) (ykc_10 (e := (5, .getfield 57, 0)) rfl) rfl u1538.1 rfl ?_
          refine w_ialk (pc' := 45) (k := W3.length) (ykc_10 (e := (5, .iaload, 0)) rfl) ((u1538.2.1 (F + 2) W3.length (fun q => by have q2 := q.1; omega)).trans ho) (by omega) rfl ?_
          have hbb : b ≤ zbd o := by omega
          refine w_alu (pc' := 46) (st' := [.int (zcc o), .ref F]) (ykc_10 (e := (0, .ineg, 0)) rfl) (by show some ([.int (-(zn (zwo o))), .ref F] : List Value) = _; rw [(zwo_neg hov (by omega) : -(zn (zwo o)) = zcc o)]) rfl ?_
          have fu : zFr [F + 1] [(F, 1), (F, 3)] ph1 ph1539 := zFr_st u1538 (Or.inr (by simp))
          have hp2 := zFp_F fu (by simp) (by simp) hp1
          have hC2 : zFc ph1539 F C2 := zFc_F (A := []) (L := [(F, 3)]) (zFr_st u1538 (Or.inr (by simp))) (by simp) (by simp) hC1
          refine w_cv (as := [.ref F, .int (zcc o)]) (r := []) (ykc_10 (e := (6, .invokevirtual 70, 0)) rfl) rfl rfl rfl rfl (zc_emit hp2.1 hC2.1 (by omega)) (fun v1540 ph1541 hv => ?_)
          obtain ⟨rfl, fe, g1, g2, g3⟩ := hv
          show zW n D 10 Q 49 [some (.ref F), some (.int x)] [] ph1541
          refine w_gb (ykc_10 (e := (4, .goto (-49), 0)) rfl) (fun k1542 hk1542 => ?_)
          exact ih k1542 hk1542 W3 (o :: C2) _ (zFr_trans hf (zFr_trans fu (zFr_mono fe (by simp) (by simp)))) (zFc_c hC2 g1 g2 g3 (zvo_v hov (by omega))) (zFw_t hW1 ((fe.1 F 3 (by simp) (by simp)).trans u1538.1) (fun i => (fe.1 (F + 2) i (by simp) (by simp)).trans (u1538.2.1 (F + 2) i (fun q => by have q1 := q.1; omega)))) (by rw [← hz, hzr, if_pos hbb]) (by show C2.length + 1 + W3.length ≤ 40; omega)
  exact hl n W C ph zFr_refl hC hW rfl h40
theorem zi2b : (List.range 256).all (fun c => decide (((zn c).toInt8.toInt32).toInt = if c < 128 then (c : Int) else (c : Int) - 256)) = true := by decide +kernel
theorem zi2bc {c : Nat} (h : c < 256) : ((zn c).toInt8.toInt32).toInt = if c < 128 then (c : Int) else (c : Int) - 256 := of_decide_eq_true (List.all_eq_true.mp zi2b c (List.mem_range.mpr h))
theorem zj_can {c : Nat} {ph : pm_H} (hc : c < 256) : zM 315 [.int (zn c)] ph (fun v0 q => ph = q ∧ v0 = some (.int (zI true))) := by
  obtain ⟨Q, hQ⟩ : ∃ Q : Option Value → pm_H → Prop, Q = (fun v0 q => ph = q ∧ v0 = some (.int (zI true))) := ⟨_, rfl⟩
  rw [← hQ]
  refine zM_mk fun n D => ?_
  show zW n D 315 Q 0 [some (.int (zn c))] [] ph
  have c_0 : ((Int16.ofInt 255).toInt32).toInt = 255 := by decide
  have c_1 : (Int32.ofInt 0).toInt = 0 := by decide
  have c_2 : (Int32.ofInt 1).toInt = 1 := by decide
  have tc := znt (k := c) (by omega)
  refine w_load (pc' := 1) (v := .int (zn c)) (m := 1) (ykc_315 (e := (2, .iload_n kF0, 0)) rfl) rfl rfl ?_
  refine w_zlt (ykc_315 (e := (4, .ifCond .lt 14, 15)) rfl) rfl (fun q => by exfalso; omega) (fun b1543 => ?_)
  refine w_load (pc' := 5) (v := .int (zn c)) (m := 1) (ykc_315 (e := (2, .iload_n kF0, 0)) rfl) rfl rfl ?_
  refine w_push (pc' := 8) (v := .int ((Int16.ofInt 255).toInt32)) (m := 3) (ykc_315 (e := (1, .sipush 255, 0)) rfl) rfl rfl ?_
  refine w_igt (ykc_315 (e := (4, .if_icmp .gt 7, 15)) rfl) rfl (fun q => by exfalso; omega) (fun b1544 => ?_)
  refine w_alu (pc' := 12) (st' := [.int (Int32.ofInt 1)]) (ykc_315 (e := (0, .iconst 1, 0)) rfl) rfl rfl ?_
  refine w_br (pc' := 16) (st' := [.int (Int32.ofInt 1)]) (ykc_315 (e := (4, .goto 4, 16)) rfl) rfl ?_
  refine w_ret (v := (some (.int (Int32.ofInt 1)))) (ykc_315 (e := (7, .ireturn, 0)) rfl) zr_z ?_
  rw [hQ, zi1]
  exact ⟨rfl, rfl⟩
theorem zj_ixc {s B N : Nat} {cs : Nat → Nat} {ph : pm_H} (hst : zStr s B N cs) {c : Nat} (hc : c < 256) {x0 x1 : Int32} (hx0 : x0.toInt = 0) (hx1 : x1.toInt = (N : Int)) : zM 317 [.ref B, .int (zn c), .int x0, .int x1] ph (fun v0 q => ph = q ∧ ((∃ k, k < N ∧ cs k = c ∧ v0 = some (.int (zn k))) ∨ ((∀ k, k < N → cs k ≠ c) ∧ v0 = some (.int (Int32.ofInt (-1)))))) := by
  obtain ⟨Q, hQ⟩ : ∃ Q : Option Value → pm_H → Prop, Q = (fun v0 q => ph = q ∧ ((∃ k, k < N ∧ cs k = c ∧ v0 = some (.int (zn k))) ∨ ((∀ k, k < N → cs k ≠ c) ∧ v0 = some (.int (Int32.ofInt (-1)))))) := ⟨_, rfl⟩
  rw [← hQ]
  refine zM_mk fun n D => ?_
  show zW n D 317 Q 0 [some (.ref B), some (.int (zn c)), some (.int x0), some (.int x1), none, none] [] ph
  have c_0 : (Int32.ofInt (-1)).toInt = -1 := by decide
  have c_1 : (Int32.ofInt 1).toInt = 1 := by decide
  obtain ⟨i9, s1, s2, s3, s4, s5, f, s6, s7⟩ := hst
  have tc := znt (k := c) (by omega)
  have hb8 := zi2bc hc
  refine w_load (pc' := 1) (v := .int (zn c)) (m := 1) (ykc_317 (e := (2, .iload_n kF1, 0)) rfl) rfl rfl ?_
  refine w_alu (pc' := 2) (st' := [.int ((zn c).toInt8.toInt32)]) (ykc_317 (e := (0, .i2b, 0)) rfl) rfl rfl ?_
  refine w_store (pc' := 4) (L' := [some (.ref B), some (.int (zn c)), some (.int x0), some (.int x1), some (.int ((zn c).toInt8.toInt32)), none]) (st' := []) (m := 2) (ykc_317 (e := (3, .istore 4, 0)) rfl) rfl rfl ?_
  refine w_load (pc' := 5) (v := .int x0) (m := 1) (ykc_317 (e := (2, .iload_n kF2, 0)) rfl) rfl rfl ?_
  refine w_store (pc' := 7) (L' := [some (.ref B), some (.int (zn c)), some (.int x0), some (.int x1), some (.int ((zn c).toInt8.toInt32)), some (.int x0)]) (st' := []) (m := 2) (ykc_317 (e := (3, .istore 5, 0)) rfl) rfl rfl ?_
  have hl : ∀ (n : Nat), ∀ (k : Nat) (z : Int32), (k ≤ N) → (z.toInt = (k : Int)) → (∀ i, i < k → cs i ≠ c) → zW n D 317 Q 7 [some (.ref B), some (.int (zn c)), some (.int x0), some (.int x1), some (.int ((zn c).toInt8.toInt32)), some (.int z)] [] ph := by
    intro n
    induction n using Nat.strongRecOn with
    | ind n ih =>
      intro k z hk hz hno
      refine w_load (pc' := 9) (v := .int z) (m := 2) (ykc_317 (e := (2, .iload 5, 0)) rfl) rfl rfl ?_
      refine w_load (pc' := 10) (v := .int x1) (m := 1) (ykc_317 (e := (2, .iload_n kF3, 0)) rfl) rfl rfl ?_
      refine w_ige (ykc_317 (e := (4, .if_icmp .ge 21, 31)) rfl) rfl (fun b1545 => ?_) (fun b1545 => ?_)
      · refine w_alu (pc' := 32) (st' := [.int (Int32.ofInt (-1))]) (ykc_317 (e := (0, .iconst (-1), 0)) rfl) rfl rfl ?_
        refine w_ret (v := (some (.int (Int32.ofInt (-1))))) (ykc_317 (e := (7, .ireturn, 0)) rfl) (zr_v rfl) ?_
        have ek : k = N := by omega
        subst ek
        rw [hQ]
        exact ⟨rfl, Or.inr ⟨hno, rfl⟩⟩
      · refine w_load (pc' := 14) (v := .ref B) (m := 1) (ykc_317 (e := (2, .aload_n kF0, 0)) rfl) rfl rfl ?_
        refine w_load (pc' := 16) (v := .int z) (m := 2) (ykc_317 (e := (2, .iload 5, 0)) rfl) rfl rfl ?_
        obtain ⟨hfk, hck⟩ := s7 k (by omega)
        have tck := znt (k := cs k) (by omega)
        refine w_blr (pc' := 17) (k := k) (y := zn (cs k)) (ykc_317 (e := (5, .baload, 0)) rfl) ⟨s4, s6, hfk⟩ (by omega) rfl ?_
        refine w_load (pc' := 19) (v := .int ((zn c).toInt8.toInt32)) (m := 2) (ykc_317 (e := (2, .iload 4, 0)) rfl) rfl rfl ?_
        refine w_ine (ykc_317 (e := (4, .if_icmp .ne 6, 25)) rfl) rfl (fun b1546 => ?_) (fun b1546 => ?_)
        · have e1547 : z + Int32.ofInt 1 = zn (k + 1) := (zaddN (a := k) (b := 1) (by omega) c_1 (by omega))
          have te1547 := znt (k := k + 1) (by omega)
          refine w_store (pc' := 28) (L' := [some (.ref B), some (.int (zn c)), some (.int x0), some (.int x1), some (.int ((zn c).toInt8.toInt32)), some (.int (zn (k + 1)))]) (st' := []) (m := 3) (ykc_317 (e := (3, .iinc 5 1, 0)) rfl) (by rw [← e1547]; rfl) rfl ?_
          refine w_gb (ykc_317 (e := (4, .goto (-21), 7)) rfl) (fun k1548 hk1548 => ?_)
          exact ih k1548 hk1548 (k + 1) _ (by omega) (by omega) (fun i hi => by
            by_cases e : i = k
            · subst e
              intro q
              rw [if_pos (by omega)] at hb8
              omega
            · exact hno i (by omega))
        · refine w_load (pc' := 24) (v := .int z) (m := 2) (ykc_317 (e := (2, .iload 5, 0)) rfl) rfl rfl ?_
          refine w_ret (v := (some (.int z))) (ykc_317 (e := (7, .ireturn, 0)) rfl) (zr_v rfl) ?_
          have hz9 : z = zn k := zn_of hz
          rw [hQ, hz9]
          exact ⟨rfl, Or.inl ⟨k, by omega, by split at hb8 <;> omega, rfl⟩⟩
  exact hl n 0 x0 (Nat.zero_le _) hx0 (fun i hi => absurd hi (Nat.not_lt_zero i))
theorem zj_ix4 {s B N : Nat} {cs : Nat → Nat} {ph : pm_H} (hst : zStr s B N cs) {c : Nat} (hc : c < 256) {x0 x1 : Int32} (hx0 : x0.toInt = 0) (hx1 : x1.toInt = (N : Int)) : zM 316 [.ref B, .int (zn c), .int x0, .int x1] ph (fun v0 q => ph = q ∧ ((∃ k, k < N ∧ cs k = c ∧ v0 = some (.int (zn k))) ∨ ((∀ k, k < N → cs k ≠ c) ∧ v0 = some (.int (Int32.ofInt (-1)))))) := by
  obtain ⟨Q, hQ⟩ : ∃ Q : Option Value → pm_H → Prop, Q = (fun v0 q => ph = q ∧ ((∃ k, k < N ∧ cs k = c ∧ v0 = some (.int (zn k))) ∨ ((∀ k, k < N → cs k ≠ c) ∧ v0 = some (.int (Int32.ofInt (-1)))))) := ⟨_, rfl⟩
  rw [← hQ]
  refine zM_mk fun n D => ?_
  show zW n D 316 Q 0 [some (.ref B), some (.int (zn c)), some (.int x0), some (.int x1)] [] ph
  have c_0 : (Int32.ofInt (-1)).toInt = -1 := by decide
  have c_1 : (Int32.ofInt 0).toInt = 0 := by decide
  have hst0 := hst
  obtain ⟨i9, s1, s2, s3, s4, s5, f, s6, s7⟩ := hst
  have tN : (Int32.ofNat N).toInt = (N : Int) := znt (by omega)
  refine w_load (pc' := 1) (v := .int (zn c)) (m := 1) (ykc_316 (e := (2, .iload_n kF1, 0)) rfl) rfl rfl ?_
  refine w_cs (as := [.int (zn c)]) (r := []) (ykc_316 (e := (6, .invokestatic 88, 0)) rfl) rfl rfl rfl rfl (zj_can hc) (fun v1549 ph1550 hv => ?_)
  obtain ⟨rfl, rfl⟩ := hv
  show zW n D 316 Q 4 [some (.ref B), some (.int (zn c)), some (.int x0), some (.int x1)] [.int (zI true)] ph
  refine w_bne (ykc_316 (e := (4, .ifCond .ne 5, 9)) rfl) rfl (fun b1551 => ?_) (fun q => absurd q (by decide))
  refine w_load (pc' := 10) (v := .int x0) (m := 1) (ykc_316 (e := (2, .iload_n kF2, 0)) rfl) rfl rfl ?_
  refine w_alu (pc' := 11) (st' := [.int (Int32.ofInt 0), .int x0]) (ykc_316 (e := (0, .iconst 0, 0)) rfl) rfl rfl ?_
  obtain ⟨z1552, e_z1552⟩ : ∃ zq : Int32, (if x0 < (Int32.ofInt 0) then (Int32.ofInt 0) else x0) = zq := ⟨_, rfl⟩
  have h_z1552 := zmaxI e_z1552
  have n_z1552 : z1552.toInt = ((0 : Nat) : Int) := by omega
  refine w_mem1 (pc' := 14) (m := 3) (st' := [.int z1552]) (ph' := ph) (ykc_316 (e := (5, .invokestatic 92, 0)) rfl) (by rw [← e_z1552]; rfl) rfl ?_
  refine w_store (pc' := 15) (L' := [some (.ref B), some (.int (zn c)), some (.int z1552), some (.int x1)]) (st' := []) (m := 1) (ykc_316 (e := (3, .istore_n kF2, 0)) rfl) rfl rfl ?_
  refine w_load (pc' := 16) (v := .int x1) (m := 1) (ykc_316 (e := (2, .iload_n kF3, 0)) rfl) rfl rfl ?_
  refine w_load (pc' := 17) (v := .ref B) (m := 1) (ykc_316 (e := (2, .aload_n kF0, 0)) rfl) rfl rfl ?_
  refine w_alr (ykc_316 (e := (5, .arraylength, 0)) rfl) ⟨s4, s6⟩ rfl ?_
  obtain ⟨z1553, e_z1553⟩ : ∃ zq : Int32, (if (Int32.ofNat N) < x1 then (Int32.ofNat N) else x1) = zq := ⟨_, rfl⟩
  have h_z1553 := zminI e_z1553
  have n_z1553 : z1553.toInt = ((N : Nat) : Int) := by omega
  refine w_mem1 (pc' := 21) (m := 3) (st' := [.int z1553]) (ph' := ph) (ykc_316 (e := (5, .invokestatic 38, 0)) rfl) (by rw [← e_z1553]; rfl) rfl ?_
  refine w_store (pc' := 22) (L' := [some (.ref B), some (.int (zn c)), some (.int z1552), some (.int z1553)]) (st' := []) (m := 1) (ykc_316 (e := (3, .istore_n kF3, 0)) rfl) rfl rfl ?_
  refine w_load (pc' := 23) (v := .int z1552) (m := 1) (ykc_316 (e := (2, .iload_n kF2, 0)) rfl) rfl rfl ?_
  refine w_load (pc' := 24) (v := .int z1553) (m := 1) (ykc_316 (e := (2, .iload_n kF3, 0)) rfl) rfl rfl ?_
  refine w_ilt (ykc_316 (e := (4, .if_icmp .lt 5, 29)) rfl) rfl (fun b1554 => ?_) (fun b1554 => ?_)
  · refine w_load (pc' := 30) (v := .ref B) (m := 1) (ykc_316 (e := (2, .aload_n kF0, 0)) rfl) rfl rfl ?_
    refine w_load (pc' := 31) (v := .int (zn c)) (m := 1) (ykc_316 (e := (2, .iload_n kF1, 0)) rfl) rfl rfl ?_
    refine w_load (pc' := 32) (v := .int z1552) (m := 1) (ykc_316 (e := (2, .iload_n kF2, 0)) rfl) rfl rfl ?_
    refine w_load (pc' := 33) (v := .int z1553) (m := 1) (ykc_316 (e := (2, .iload_n kF3, 0)) rfl) rfl rfl ?_
    refine w_cs (as := [.ref B, .int (zn c), .int z1552, .int z1553]) (r := []) (ykc_316 (e := (6, .invokestatic 95, 0)) rfl) rfl rfl rfl rfl (zj_ixc hst0 hc (x0 := z1552) (x1 := z1553) (by omega) (by omega)) (fun v1555 ph1556 hv => ?_)
    rcases hv with ⟨rfl, ⟨k, h1, h2, rfl⟩ | ⟨h1, rfl⟩⟩
    · show zW n D 316 Q 36 [some (.ref B), some (.int (zn c)), some (.int z1552), some (.int z1553)] [.int (zn k)] ph
      refine w_ret (v := (some (.int (zn k)))) (ykc_316 (e := (7, .ireturn, 0)) rfl) (zr_v rfl) ?_
      rw [hQ]
      exact ⟨rfl, Or.inl ⟨k, h1, h2, rfl⟩⟩
    · show zW n D 316 Q 36 [some (.ref B), some (.int (zn c)), some (.int z1552), some (.int z1553)] [.int (Int32.ofInt (-1))] ph
      refine w_ret (v := (some (.int (Int32.ofInt (-1))))) (ykc_316 (e := (7, .ireturn, 0)) rfl) (zr_v rfl) ?_
      rw [hQ]
      exact ⟨rfl, Or.inr ⟨h1, rfl⟩⟩
    
  · refine w_alu (pc' := 28) (st' := [.int (Int32.ofInt (-1))]) (ykc_316 (e := (0, .iconst (-1), 0)) rfl) rfl rfl ?_
    refine w_ret (v := (some (.int (Int32.ofInt (-1))))) (ykc_316 (e := (7, .ireturn, 0)) rfl) (zr_v rfl) ?_
    rw [hQ]
    exact ⟨rfl, Or.inr ⟨fun k hk => absurd hk (by omega), rfl⟩⟩
theorem zj_ix2 {s B N : Nat} {cs : Nat → Nat} {ph : pm_H} (hst : zStr s B N cs) {c : Nat} (hc : c < 256) {x0 : Int32} (hx0 : x0.toInt = 0) : zM 309 [.ref s, .int (zn c), .int x0] ph (fun v0 q => ph = q ∧ ((∃ k, k < N ∧ cs k = c ∧ v0 = some (.int (zn k))) ∨ ((∀ k, k < N → cs k ≠ c) ∧ v0 = some (.int (Int32.ofInt (-1)))))) := by
  obtain ⟨Q, hQ⟩ : ∃ Q : Option Value → pm_H → Prop, Q = (fun v0 q => ph = q ∧ ((∃ k, k < N ∧ cs k = c ∧ v0 = some (.int (zn k))) ∨ ((∀ k, k < N → cs k ≠ c) ∧ v0 = some (.int (Int32.ofInt (-1)))))) := ⟨_, rfl⟩
  rw [← hQ]
  refine zM_mk fun n D => ?_
  show zW n D 309 Q 0 [some (.ref s), some (.int (zn c)), some (.int x0)] [] ph
  have hst0 := hst
  obtain ⟨i9, s1, s2, s3, s4, s5, f, s6, s7⟩ := hst
  have k0 : (0 : Int32).toInt = 0 := by decide
  have k1 : (1 : Int32).toInt = 1 := by decide
  refine w_load (pc' := 1) (v := .ref s) (m := 1) (ykc_309 (e := (2, .aload_n kF0, 0)) rfl) rfl rfl ?_
  refine w_cvr s1 (as := [.ref s]) (r := []) (ykc_309 (e := (6, .invokevirtual 492, 0)) rfl) rfl rfl rfl rfl (zj_latin hst0) (fun v1557 ph1558 hv => ?_)
  obtain ⟨rfl, rfl⟩ := hv
  show zW n D 309 Q 4 [some (.ref s), some (.int (zn c)), some (.int x0)] [.int (zI true)] ph
  refine w_beq (ykc_309 (e := (4, .ifCond .eq 19, 23)) rfl) rfl (fun q => absurd q (by decide)) (fun b1559 => ?_)
  refine w_load (pc' := 8) (v := .ref s) (m := 1) (ykc_309 (e := (2, .aload_n kF0, 0)) rfl) rfl rfl ?_
  refine w_gfr (pc' := 11) (v := .ref B) (ykc_309 (e := (5, .getfield 9, 0)) rfl) rfl s1 s2 rfl ?_
  refine w_load (pc' := 12) (v := .int (zn c)) (m := 1) (ykc_309 (e := (2, .iload_n kF1, 0)) rfl) rfl rfl ?_
  refine w_load (pc' := 13) (v := .int x0) (m := 1) (ykc_309 (e := (2, .iload_n kF2, 0)) rfl) rfl rfl ?_
  refine w_load (pc' := 14) (v := .ref s) (m := 1) (ykc_309 (e := (2, .aload_n kF0, 0)) rfl) rfl rfl ?_
  refine w_cvr s1 (as := [.ref s]) (r := [.int x0, .int (zn c), .ref B]) (ykc_309 (e := (6, .invokevirtual 505, 0)) rfl) rfl rfl rfl rfl (zj_len hst0) (fun v1560 ph1561 hv => ?_)
  obtain ⟨rfl, rfl⟩ := hv
  have tN := znt (k := N) (by omega)
  show zW n D 309 Q 17 [some (.ref s), some (.int (zn c)), some (.int x0)] [.int (zn N), .int x0, .int (zn c), .ref B] ph
  refine w_cs (as := [.ref B, .int (zn c), .int x0, .int (zn N)]) (r := []) (ykc_309 (e := (6, .invokestatic 637, 0)) rfl) rfl rfl rfl rfl (zj_ix4 hst0 hc hx0 (by omega)) (fun v1562 ph1563 hv => ?_)
  rcases hv with ⟨rfl, ⟨k, h1, h2, rfl⟩ | ⟨h1, rfl⟩⟩
  · show zW n D 309 Q 20 [some (.ref s), some (.int (zn c)), some (.int x0)] [.int (zn k)] ph
    refine w_br (pc' := 36) (st' := [.int (zn k)]) (ykc_309 (e := (4, .goto 16, 36)) rfl) rfl ?_
    refine w_ret (v := (some (.int (zn k)))) (ykc_309 (e := (7, .ireturn, 0)) rfl) (zr_v rfl) ?_
    rw [hQ]
    exact ⟨rfl, Or.inl ⟨k, h1, h2, rfl⟩⟩
  · show zW n D 309 Q 20 [some (.ref s), some (.int (zn c)), some (.int x0)] [.int (Int32.ofInt (-1))] ph
    refine w_br (pc' := 36) (st' := [.int (Int32.ofInt (-1))]) (ykc_309 (e := (4, .goto 16, 36)) rfl) rfl ?_
    refine w_ret (v := (some (.int (Int32.ofInt (-1))))) (ykc_309 (e := (7, .ireturn, 0)) rfl) (zr_v rfl) ?_
    rw [hQ]
    exact ⟨rfl, Or.inr ⟨h1, rfl⟩⟩
  
theorem zj_ix {s B N : Nat} {cs : Nat → Nat} {ph : pm_H} (hst : zStr s B N cs) {c : Nat} (hc : c < 256) : zM 308 [.ref s, .int (zn c)] ph (fun v0 q => ph = q ∧ ((∃ k, k < N ∧ cs k = c ∧ v0 = some (.int (zn k))) ∨ ((∀ k, k < N → cs k ≠ c) ∧ v0 = some (.int (Int32.ofInt (-1)))))) := by
  obtain ⟨Q, hQ⟩ : ∃ Q : Option Value → pm_H → Prop, Q = (fun v0 q => ph = q ∧ ((∃ k, k < N ∧ cs k = c ∧ v0 = some (.int (zn k))) ∨ ((∀ k, k < N → cs k ≠ c) ∧ v0 = some (.int (Int32.ofInt (-1)))))) := ⟨_, rfl⟩
  rw [← hQ]
  refine zM_mk fun n D => ?_
  show zW n D 308 Q 0 [some (.ref s), some (.int (zn c))] [] ph
  have c_0 : (Int32.ofInt 0).toInt = 0 := by decide
  have hst0 := hst
  obtain ⟨i9, s1, s2, s3, s4, s5, f, s6, s7⟩ := hst
  have k0 : (0 : Int32).toInt = 0 := by decide
  have k1 : (1 : Int32).toInt = 1 := by decide
  refine w_load (pc' := 1) (v := .ref s) (m := 1) (ykc_308 (e := (2, .aload_n kF0, 0)) rfl) rfl rfl ?_
  refine w_load (pc' := 2) (v := .int (zn c)) (m := 1) (ykc_308 (e := (2, .iload_n kF1, 0)) rfl) rfl rfl ?_
  refine w_alu (pc' := 3) (st' := [.int (Int32.ofInt 0), .int (zn c), .ref s]) (ykc_308 (e := (0, .iconst 0, 0)) rfl) rfl rfl ?_
  refine w_cvr s1 (as := [.ref s, .int (zn c), .int (Int32.ofInt 0)]) (r := []) (ykc_308 (e := (6, .invokevirtual 633, 0)) rfl) rfl rfl rfl rfl (zj_ix2 hst0 hc (by omega)) (fun v1564 ph1565 hv => ?_)
  rcases hv with ⟨rfl, ⟨k, h1, h2, rfl⟩ | ⟨h1, rfl⟩⟩
  · show zW n D 308 Q 6 [some (.ref s), some (.int (zn c))] [.int (zn k)] ph
    refine w_ret (v := (some (.int (zn k)))) (ykc_308 (e := (7, .ireturn, 0)) rfl) (zr_v rfl) ?_
    rw [hQ]
    exact ⟨rfl, Or.inl ⟨k, h1, h2, rfl⟩⟩
  · show zW n D 308 Q 6 [some (.ref s), some (.int (zn c))] [.int (Int32.ofInt (-1))] ph
    refine w_ret (v := (some (.int (Int32.ofInt (-1))))) (ykc_308 (e := (7, .ireturn, 0)) rfl) (zr_v rfl) ?_
    rw [hQ]
    exact ⟨rfl, Or.inr ⟨h1, rfl⟩⟩
  
theorem zlt_ls : ∀ k, k < 8 → zlt (zls [98, 108, 107, 102, 114, 99, 110, 112] k) = k := by decide
theorem zlt_ls2 {c : Nat} (h : zlt c < 8) : zls [98, 108, 107, 102, 114, 99, 110, 112] (zlt c) = c := by
  unfold zlt at h ⊢
  repeat' split
  all_goals first | (subst_vars; rfl) | (exfalso; simp_all)
/-- a letter's place -/
theorem zc_letter {c : Nat} {ph : pm_H} (hc : c < 256) : zM 308 [.ref 1048626, .int (zn c)] ph (fun v0 q => ph = q ∧ ((zlt c < 8 ∧ v0 = some (.int (zn (zlt c)))) ∨ (¬ zlt c < 8 ∧ v0 = some (.int (Int32.ofInt (-1)))))) := zM_imp (zj_ix zstr_letc hc) fun v q h => by
  obtain ⟨h0, ⟨k, h1, h2, h3⟩ | ⟨h1, h2⟩⟩ := h
  · have e : zlt c = k := by rw [← h2]; exact zlt_ls k h1
    exact ⟨h0, Or.inl ⟨by omega, by rw [e]; exact h3⟩⟩
  · exact ⟨h0, Or.inr ⟨fun q => h1 _ q (zlt_ls2 q), h2⟩⟩

/-! the class reads a RULE: take, read, by W; printed by wip/z/z1h_read.py -/
def zFs (ph : pm_H) (F : Nat) (s : zAs) : Prop := zFp ph F ∧ zFc ph F s.1 ∧ zFw ph F s.2.1 ∧ zFb ph F s.2.2.1 ∧ zFd ph F s.2.2.2.1 s.2.2.2.2.1 s.2.2.2.2.2
def zFf (F : Nat) (p q : pm_H) : Prop := zFr [F + 1, F + 2, F + 3] [(F, 1), (F, 3), (F, 5), (F, 6), (F, 7)] p q
theorem zFs_mk {ph : pm_H} {F : Nat} {C W : List Nat} {cm : Nat → Bool} {dp dg : Nat} {wt : Bool} (h : zFp ph F ∧ zFc ph F C ∧ zFw ph F W ∧ zFb ph F cm ∧ zFd ph F dp dg wt) : zFs ph F (C, W, cm, dp, dg, wt) := h
theorem zTk1 {ph q : pm_H} {F c : Nat} {s0 s : zAs} (f : zFf F ph q) (h : zstep c s0 = some s) (hF : zFs q F s) : zFf F ph q ∧ (∃ cm9, zFb q F cm9) ∧ ((∃ s', zstep c s0 = some s' ∧ (some (Value.int (zI true)) : Option Value) = some (.int (zI true)) ∧ zFs q F s') ∨ (zstep c s0 = none ∧ (some (Value.int (zI true)) : Option Value) = some (.int (zI false)))) := ⟨f, ⟨_, hF.2.2.2.1⟩, Or.inl ⟨s, h, rfl, hF⟩⟩
/-- a number that is being told -/
def zIv (s : zAs) : Prop := 1 ≤ s.2.2.2.2.1 → ∃ x C, s.1 = x :: C ∧ x < 10 ^ s.2.2.2.2.1
def zLn (s : zAs) : Nat := s.1.length + s.2.1.length
theorem zi2c : (List.range 256).all (fun c => decide (((zn c).toUInt32 % 65536).toInt32 = zn c)) = true := by decide +kernel
theorem zi2cc {c : Nat} (h : c < 256) : ((zn c).toUInt32 % 65536).toInt32 = zn c := of_decide_eq_true (List.all_eq_true.mp zi2c c (List.mem_range.mpr h))
theorem zdi_t {c : Nat} (h : 48 ≤ c ∧ c ≤ 57) : zdi c = true := decide_eq_true h
theorem zdi_f {c : Nat} (h : ¬ (48 ≤ c ∧ c ≤ 57)) : zdi c = false := decide_eq_false h
theorem zstep_iv {c : Nat} {s s' : zAs} (hi : zIv s) (h : zstep c s = some s') : zIv s' ∧ zLn s' ≤ zLn s + 1 := by
  obtain ⟨C, W, cm, dp, dg, wt⟩ := s
  unfold zstep at h
  simp only at h
  have z0 : ∀ (C W : List Nat) (cm : Nat → Bool) (dp : Nat) (wt : Bool), zIv (C, W, cm, dp, 0, wt) := fun C W cm dp wt h => absurd h (by show ¬ 1 ≤ 0; decide)
  by_cases e1 : zdi c = true
  · rw [if_pos e1] at h
    have hc : 48 ≤ c ∧ c ≤ 57 := of_decide_eq_true e1
    by_cases e2 : wt = true
    · rw [if_pos e2] at h
      cases h
      exact ⟨fun _ => ⟨_, _, rfl, by show c - 48 < 10 ^ 1; omega⟩, by show C.length + 1 + W.length ≤ C.length + W.length + 1; omega⟩
    · rw [if_neg e2] at h
      cases C with
      | nil => cases h
      | cons x C =>
        by_cases e3 : 1 ≤ dg ∧ dg ≤ 2
        · simp only [if_pos e3] at h
          cases h
          obtain ⟨x2, C2, g1, g2⟩ := hi e3.1
          have g1 : x :: C = x2 :: C2 := g1
          cases g1
          have g2 : x < 10 ^ dg := g2
          refine ⟨fun _ => ⟨_, _, rfl, ?_⟩, by show C.length + 1 + W.length ≤ C.length + 1 + W.length + 1; omega⟩
          show 10 * x + (c - 48) < 10 ^ (dg + 1)
          rw [Nat.pow_succ]
          omega
        · simp only [if_neg e3] at h
          cases h
  · rw [if_neg e1] at h
    by_cases e2 : wt = true
    · rw [if_pos e2] at h
      by_cases e3 : c = 45
      · rw [if_pos e3] at h
        cases h
        exact ⟨z0 _ _ _ _ _, by show C.length + (W.length + 1) ≤ C.length + W.length + 1; omega⟩
      · rw [if_neg e3] at h
        by_cases e4 : c = 40
        · rw [if_pos e4] at h
          by_cases e5 : dp < 4
          · rw [if_pos e5] at h
            cases h
            exact ⟨z0 _ _ _ _ _, by show C.length + (W.length + 1) ≤ C.length + W.length + 1; omega⟩
          · rw [if_neg e5] at h
            cases h
        · rw [if_neg e4] at h
          by_cases e5 : zlt c < 8
          · rw [if_pos e5] at h
            cases h
            exact ⟨z0 _ _ _ _ _, by show C.length + 1 + W.length ≤ C.length + W.length + 1; omega⟩
          · rw [if_neg e5] at h
            cases h
    · rw [if_neg e2] at h
      have hl := fun b => @zrl_len b W C
      by_cases e3 : c = 41
      · rw [if_pos e3] at h
        by_cases e4 : dp = 0
        · rw [if_pos e4] at h
          cases h
        · rw [if_neg e4] at h
          cases h
          refine ⟨z0 _ _ _ _ _, ?_⟩
          show (zrl 1 W C).2.length + (zrl 1 W C).1.tail.length ≤ C.length + W.length + 1
          have := hl 1
          rw [List.length_tail]
          omega
      · rw [if_neg e3] at h
        by_cases e4 : zop c = 0
        · rw [if_pos e4] at h
          cases h
        · rw [if_neg e4] at h
          by_cases e5 : zbd (zop c) = 1 ∧ cm dp = true
          · rw [if_pos e5] at h
            cases h
          · rw [if_neg e5] at h
            cases h
            refine ⟨z0 _ _ _ _ _, ?_⟩
            show (zrl (zbd (zop c)) W C).2.length + ((zrl (zbd (zop c)) W C).1.length + 1) ≤ C.length + W.length + 1
            have := hl (zbd (zop c))
            omega
theorem zc_takeD {ph : pm_H} {F : Nat} {C W : List Nat} {cm : Nat → Bool} {dp dg : Nat} {wt : Bool} {d : Nat} (hd9 : d ≤ 9) (hiv : zIv (C, W, cm, dp, dg, wt)) (hF : zFs ph F (C, W, cm, dp, dg, wt)) (h40 : C.length + W.length < 40) : zM 5 [.ref F, .int (zn d)] ph (fun v0 q => zFf F ph q ∧ (∃ cm9, zFb q F cm9) ∧ ((∃ s, zstep (48 + d) (C, W, cm, dp, dg, wt) = some s ∧ v0 = some (.int (zI true)) ∧ zFs q F s) ∨ (zstep (48 + d) (C, W, cm, dp, dg, wt) = none ∧ v0 = some (.int (zI false))))) := by
  obtain ⟨Q, hQ⟩ : ∃ Q : Option Value → pm_H → Prop, Q = (fun v0 q => zFf F ph q ∧ (∃ cm9, zFb q F cm9) ∧ ((∃ s, zstep (48 + d) (C, W, cm, dp, dg, wt) = some s ∧ v0 = some (.int (zI true)) ∧ zFs q F s) ∨ (zstep (48 + d) (C, W, cm, dp, dg, wt) = none ∧ v0 = some (.int (zI false))))) := ⟨_, rfl⟩
  rw [← hQ]
  refine zM_mk fun n D => ?_
  show zW n D 5 Q 0 [some (.ref F), some (.int (zn d))] [] ph
  have c_0 : ((Int8.ofInt 10).toInt32).toInt = 10 := by decide
  have c_1 : (Int32.ofInt 0).toInt = 0 := by decide
  have c_2 : (Int32.ofInt 1).toInt = 1 := by decide
  have c_3 : (Int32.ofInt 2).toInt = 2 := by decide
  obtain ⟨hp, hC, hW, hb, hd⟩ := hF
  have hp : zFp ph F := hp
  have hC : zFc ph F C := hC
  have hW : zFw ph F W := hW
  have hb : zFb ph F cm := hb
  have hd : zFd ph F dp dg wt := hd
  have tdp := znt (k := dp) (by have := hd.2.1; omega)
  have tdg := znt (k := dg) (by have := hd.2.2.2.1; omega)
  have hdp4 := hd.2.1
  have hdg3 := hd.2.2.2.1
  have tCl := znt (k := C.length) (by omega)
  have tWl := znt (k := W.length) (by omega)
  have td := znt (k := d) (by omega)
  have hdi : zdi (48 + d) = true := zdi_t (by omega)
  refine w_load (pc' := 1) (v := .ref F) (m := 1) (ykc_5 (e := (2, .aload_n kF0, 0)) rfl) rfl rfl ?_
  refine w_gf (pc' := 4) (v := .int (zI wt)) (ykc_5 (e := (5, .getfield 43, 0)) rfl) rfl hd.2.2.2.2 rfl ?_
  refine w_beq (ykc_5 (e := (4, .ifCond .eq 20, 24)) rfl) rfl (fun b1566 => ?_) (fun b1566 => ?_)
  · refine w_load (pc' := 25) (v := .ref F) (m := 1) (ykc_5 (e := (2, .aload_n kF0, 0)) rfl) rfl rfl ?_
    refine w_gf (pc' := 28) (v := .int (zn dg)) (ykc_5 (e := (5, .getfield 60, 0)) rfl) rfl hd.2.2.1 rfl ?_
    refine w_alu (pc' := 29) (st' := [.int (Int32.ofInt 1), .int (zn dg)]) (ykc_5 (e := (0, .iconst 1, 0)) rfl) rfl rfl ?_
    refine w_ilt (ykc_5 (e := (4, .if_icmp .lt 19, 48)) rfl) rfl (fun b1567 => ?_) (fun b1567 => ?_)
    · refine w_alu (pc' := 49) (st' := [.int (Int32.ofInt 0)]) (ykc_5 (e := (0, .iconst 0, 0)) rfl) rfl rfl ?_
      refine w_ret (v := (some (.int (Int32.ofInt 0)))) (ykc_5 (e := (7, .ireturn, 0)) rfl) zr_z ?_
      rw [hQ, zi0]
      have hwt : wt = false := b1566
      subst hwt
      exact ⟨zFr_refl, ⟨cm, hb⟩, Or.inr ⟨zstep_d0 hdi (by omega), rfl⟩⟩
    · obtain ⟨x, C1, eC, hx⟩ := hiv (by show 1 ≤ dg; omega)
      have eC : C = x :: C1 := eC
      subst eC
      have hlx : (x :: C1).length = C1.length + 1 := rfl
      have hx : x < 10 ^ dg := hx
      have tC1 := znt (k := C1.length + 1) (by show (x :: C1).length < _; omega)
      have tC0 := znt (k := C1.length) (by have : (x :: C1).length = C1.length + 1 := rfl; omega)
      refine w_load (pc' := 33) (v := .ref F) (m := 1) (ykc_5 (e := (2, .aload_n kF0, 0)) rfl) rfl rfl ?_
      refine w_gf (pc' := 36) (v := .int (zn dg)) (ykc_5 (e := (5, .getfield 60, 0)) rfl) rfl hd.2.2.1 rfl ?_
      refine w_alu (pc' := 37) (st' := [.int (Int32.ofInt 2), .int (zn dg)]) (ykc_5 (e := (0, .iconst 2, 0)) rfl) rfl rfl ?_
      refine w_igt (ykc_5 (e := (4, .if_icmp .gt 11, 48)) rfl) rfl (fun b1568 => ?_) (fun b1568 => ?_)
      · refine w_alu (pc' := 49) (st' := [.int (Int32.ofInt 0)]) (ykc_5 (e := (0, .iconst 0, 0)) rfl) rfl rfl ?_
        refine w_ret (v := (some (.int (Int32.ofInt 0)))) (ykc_5 (e := (7, .ireturn, 0)) rfl) zr_z ?_
        rw [hQ, zi0]
        have hwt : wt = false := b1566
        subst hwt
        exact ⟨zFr_refl, ⟨cm, hb⟩, Or.inr ⟨zstep_d0 hdi (by omega), rfl⟩⟩
      · refine w_load (pc' := 41) (v := .ref F) (m := 1) (ykc_5 (e := (2, .aload_n kF0, 0)) rfl) rfl rfl ?_
        refine w_gf (pc' := 44) (v := .int (zn (C1.length + 1))) (ykc_5 (e := (5, .getfield 55, 0)) rfl) rfl hC.1 rfl ?_
        refine w_alu (pc' := 45) (st' := [.int (Int32.ofInt 1), .int (zn (C1.length + 1))]) (ykc_5 (e := (0, .iconst 1, 0)) rfl) rfl rfl ?_
        refine w_ige (ykc_5 (e := (4, .if_icmp .ge 5, 50)) rfl) rfl (fun b1569 => ?_) (fun q => by exfalso; omega)
        have hx2 : x < 100 := by
          rcases (show dg = 1 ∨ dg = 2 by omega) with e | e <;> subst e <;> omega
        have tx := znt (k := x) (by omega)
        have ex : zcc x = zn x := zcc_n (by omega)
        have hx0 := (hC.2 0 x rfl).1
        rw [show (x :: C1).length - 1 - 0 = C1.length by simp, ex] at hx0
        refine w_load (pc' := 51) (v := .ref F) (m := 1) (ykc_5 (e := (2, .aload_n kF0, 0)) rfl) rfl rfl ?_
        refine w_gf (pc' := 54) (v := .ref (F + 1)) (ykc_5 (e := (5, .getfield 9, 0)) rfl) rfl hp.1 rfl ?_
        refine w_load (pc' := 55) (v := .ref F) (m := 1) (ykc_5 (e := (2, .aload_n kF0, 0)) rfl) rfl rfl ?_
        refine w_gf (pc' := 58) (v := .int (zn (C1.length + 1))) (ykc_5 (e := (5, .getfield 55, 0)) rfl) rfl hC.1 rfl ?_
        refine w_alu (pc' := 59) (st' := [.int (Int32.ofInt 1), .int (zn (C1.length + 1)), .ref (F + 1)]) (ykc_5 (e := (0, .iconst 1, 0)) rfl) rfl rfl ?_
        have e1570 : (zn (C1.length + 1)) - (Int32.ofInt 1) = zn (C1.length) := zsubN (a := C1.length + 1) (b := 1) (znt (by omega)) c_2 (by omega)
        have te1570 := znt (k := C1.length) (by omega)
        refine w_alu (pc' := 60) (st' := [.int (zn (C1.length)), .ref (F + 1)]) (ykc_5 (e := (0, .isub, 0)) rfl) (by show some ([.int ((zn (C1.length + 1)) - (Int32.ofInt 1)), .ref (F + 1)] : List Value) = _; rw [e1570]) rfl ?_
        refine w_load (pc' := 61) (v := .ref F) (m := 1) (ykc_5 (e := (2, .aload_n kF0, 0)) rfl) rfl rfl ?_
        refine w_gf (pc' := 64) (v := .ref (F + 1)) (ykc_5 (e := (5, .getfield 9, 0)) rfl) rfl hp.1 rfl ?_
        refine w_load (pc' := 65) (v := .ref F) (m := 1) (ykc_5 (e := (2, .aload_n kF0, 0)) rfl) rfl rfl ?_
        refine w_gf (pc' := 68) (v := .int (zn (C1.length + 1))) (ykc_5 (e := (5, .getfield 55, 0)) rfl) rfl hC.1 rfl ?_
        refine w_alu (pc' := 69) (st' := [.int (Int32.ofInt 1), .int (zn (C1.length + 1)), .ref (F + 1), .int (zn (C1.length)), .ref (F + 1)]) (ykc_5 (e := (0, .iconst 1, 0)) rfl) rfl rfl ?_
        have e1571 : (zn (C1.length + 1)) - (Int32.ofInt 1) = zn (C1.length) := zsubN (a := C1.length + 1) (b := 1) (znt (by omega)) c_2 (by omega)
        have te1571 := znt (k := C1.length) (by omega)
        refine w_alu (pc' := 70) (st' := [.int (zn (C1.length)), .ref (F + 1), .int (zn (C1.length)), .ref (F + 1)]) (ykc_5 (e := (0, .isub, 0)) rfl) (by show some ([.int ((zn (C1.length + 1)) - (Int32.ofInt 1)), .ref (F + 1), .int (zn (C1.length)), .ref (F + 1)] : List Value) = _; rw [e1571]) rfl ?_
        refine w_ialk (pc' := 71) (k := C1.length) (ykc_5 (e := (5, .iaload, 0)) rfl) hx0 (by omega) rfl ?_
        refine w_push (pc' := 73) (v := .int ((Int8.ofInt 10).toInt32)) (m := 2) (ykc_5 (e := (1, .bipush 10, 0)) rfl) rfl rfl ?_
        have e1572 : (zn x) * ((Int8.ofInt 10).toInt32) = zn (x * 10) := zn_of (by rw [ti_mul (by rw [show (zn x).toInt = ((x : Nat) : Int) by omega, show ((Int8.ofInt 10).toInt32).toInt = (10 : Int) by omega]; omega) (by rw [show (zn x).toInt = ((x : Nat) : Int) by omega, show ((Int8.ofInt 10).toInt32).toInt = (10 : Int) by omega]; omega), show (zn x).toInt = ((x : Nat) : Int) by omega, show ((Int8.ofInt 10).toInt32).toInt = (10 : Int) by omega] <;> omega)
        have te1572 := znt (k := x * 10) (by omega)
        refine w_alu (pc' := 74) (st' := [.int (zn (x * 10)), .int (zn (C1.length)), .ref (F + 1)]) (ykc_5 (e := (0, .imul, 0)) rfl) (by rw [← e1572]; rfl) rfl ?_
        refine w_load (pc' := 75) (v := .int (zn d)) (m := 1) (ykc_5 (e := (2, .iload_n kF1, 0)) rfl) rfl rfl ?_
        have e1573 : (zn (x * 10)) + (zn d) = zn (x * 10 + d) := (zaddN (a := x * 10) (b := d) (znt (by omega)) (znt (by omega)) (by omega)) 
        have te1573 := znt (k := x * 10 + d) (by omega)
        refine w_alu (pc' := 76) (st' := [.int (zn (x * 10 + d)), .int (zn (C1.length)), .ref (F + 1)]) (ykc_5 (e := (0, .iadd, 0)) rfl) (by rw [← e1573]; rfl) rfl ?_
        refine w_ias (pc' := 77) (k := C1.length) (ykc_5 (e := (5, .iastore, 0)) rfl) (by omega) rfl (fun ph1575 u1574 => ?_)
        refine w_load (pc' := 78) (v := .ref F) (m := 1) (ykc_5 (e := (2, .aload_n kF0, 0)) rfl) rfl rfl ?_
        refine w_alu (pc' := 79) (st' := [.ref F, .ref F]) (ykc_5 (e := (0, .dup, 0)) rfl) rfl rfl ?_
        refine w_gf (pc' := 82) (v := .int (zn dg)) (ykc_5 (e := (5, .getfield 60, 0)) rfl) rfl ((u1574.2.1 F 6 (fun q => by have q2 := q.1; omega)).trans hd.2.2.1) rfl ?_
        refine w_alu (pc' := 83) (st' := [.int (Int32.ofInt 1), .int (zn dg), .ref F]) (ykc_5 (e := (0, .iconst 1, 0)) rfl) rfl rfl ?_
        have e1576 : (zn dg) + (Int32.ofInt 1) = zn (dg + 1) := (zaddN (a := dg) (b := 1) (znt (by omega)) c_2 (by omega)) 
        have te1576 := znt (k := dg + 1) (by omega)
        refine w_alu (pc' := 84) (st' := [.int (zn (dg + 1)), .ref F]) (ykc_5 (e := (0, .iadd, 0)) rfl) (by rw [← e1576]; rfl) rfl ?_
        refine w_pf (pc' := 87) (ykc_5 (e := (5, .putfield 60, 0)) rfl) rfl rfl (fun ph1578 u1577 => ?_)
        refine w_alu (pc' := 88) (st' := [.int (Int32.ofInt 1)]) (ykc_5 (e := (0, .iconst 1, 0)) rfl) rfl rfl ?_
        refine w_ret (v := (some (.int (Int32.ofInt 1)))) (ykc_5 (e := (7, .ireturn, 0)) rfl) zr_z ?_
        have hwt : wt = false := b1566
        subst hwt
        have hc2 : zFc ph1578 F ((10 * x + (48 + d - 48)) :: C1) := by
          refine ⟨((u1577.2.1 F 1 (fun q => absurd q.2 (by decide))).trans ((u1574.2.1 F 1 (fun q => by have q2 := q.1; omega)).trans hC.1)), fun i c hc => ?_⟩
          cases i with
          | zero =>
            cases hc
            refine ⟨?_, Or.inl (by omega)⟩
            rw [show ((10 * x + (48 + d - 48)) :: C1).length - 1 - 0 = C1.length by simp, zcc_n (by omega), show 10 * x + (48 + d - 48) = x * 10 + d by omega]
            exact (u1577.2.1 (F + 1) C1.length (fun q => by have q1 := q.1; omega)).trans u1574.1
          | succ i =>
            have h1 := hC.2 (i + 1) c hc
            have hi := (List.getElem?_eq_some_iff.mp (show C1[i]? = some c from hc)).1
            refine ⟨?_, h1.2⟩
            refine (u1577.2.1 (F + 1) _ (fun q => by have q1 := q.1; omega)).trans ((u1574.2.1 (F + 1) _ (fun q => ?_)).trans h1.1)
            have q2 : (x :: C1).length - 1 - (i + 1) = C1.length := q.2
            simp only [List.length_cons] at q2
            omega
        have f1 : zFr [F + 1] [(F, 6)] ph ph1578 := zFr_trans (zFr_st u1574 (Or.inl (by simp))) (zFr_st u1577 (Or.inr (by simp)))
        rw [hQ, zi1]
        exact zTk1 (show zFr [F + 1, F + 2, F + 3] [(F, 1), (F, 3), (F, 5), (F, 6), (F, 7)] ph ph1578 from (zFr_trans (zFr_st u1574 (Or.inl (by simp))) (zFr_st u1577 (Or.inr (by simp))))) (zstep_d2 hdi (by omega)) (zFs_mk ⟨zFp_F f1 (by simp) (by simp) hp, hc2, zFw_F f1 (by simp) (by simp) hW, zFb_F f1 (by simp) (by simp) hb, ⟨((u1577.2.1 F 5 (fun q => absurd q.2 (by decide))).trans ((u1574.2.1 F 5 (fun q => by have q2 := q.1; omega)).trans hd.1)), hd.2.1, u1577.1, by omega, ((u1577.2.1 F 7 (fun q => absurd q.2 (by decide))).trans ((u1574.2.1 F 7 (fun q => by have q2 := q.1; omega)).trans hd.2.2.2.2))⟩⟩)
  · refine w_load (pc' := 8) (v := .ref F) (m := 1) (ykc_5 (e := (2, .aload_n kF0, 0)) rfl) rfl rfl ?_
    refine w_load (pc' := 9) (v := .int (zn d)) (m := 1) (ykc_5 (e := (2, .iload_n kF1, 0)) rfl) rfl rfl ?_
    refine w_cv (as := [.ref F, .int (zn d)]) (r := []) (ykc_5 (e := (6, .invokevirtual 70, 0)) rfl) rfl rfl rfl rfl (zc_emit hp.1 hC.1 (by omega)) (fun v1579 ph1580 hv => ?_)
    obtain ⟨rfl, fe, g1_fe, g2_fe, g3_fe⟩ := hv
    show zW n D 5 Q 12 [some (.ref F), some (.int (zn d))] [] ph1580
    refine w_load (pc' := 13) (v := .ref F) (m := 1) (ykc_5 (e := (2, .aload_n kF0, 0)) rfl) rfl rfl ?_
    refine w_alu (pc' := 14) (st' := [.int (Int32.ofInt 1), .ref F]) (ykc_5 (e := (0, .iconst 1, 0)) rfl) rfl rfl ?_
    refine w_pf (pc' := 17) (ykc_5 (e := (5, .putfield 60, 0)) rfl) rfl rfl (fun ph1582 u1581 => ?_)
    refine w_load (pc' := 18) (v := .ref F) (m := 1) (ykc_5 (e := (2, .aload_n kF0, 0)) rfl) rfl rfl ?_
    refine w_alu (pc' := 19) (st' := [.int (Int32.ofInt 0), .ref F]) (ykc_5 (e := (0, .iconst 0, 0)) rfl) rfl rfl ?_
    refine w_pf (pc' := 22) (ykc_5 (e := (5, .putfield 43, 0)) rfl) rfl rfl (fun ph1584 u1583 => ?_)
    refine w_alu (pc' := 23) (st' := [.int (Int32.ofInt 1)]) (ykc_5 (e := (0, .iconst 1, 0)) rfl) rfl rfl ?_
    refine w_ret (v := (some (.int (Int32.ofInt 1)))) (ykc_5 (e := (7, .ireturn, 0)) rfl) zr_z ?_
    rw [hQ, zi1]
    have hwt : wt = true := b1566
    subst hwt
    have f2 : zFr [] [(F, 6), (F, 7)] _ ph1584 := zFr_trans (zFr_st u1581 (Or.inr (by simp))) (zFr_st u1583 (Or.inr (by simp)))
    have h6 : zc ph1584 F 6 = some (.int (zn 1)) := ((u1583.2.1 F 6 (fun q => absurd q.2 (by decide))).trans u1581.1)
    have h7 : zc ph1584 F 7 = some (.int (zI false)) := u1583.1
    exact zTk1 (show zFr [F + 1, F + 2, F + 3] [(F, 1), (F, 3), (F, 5), (F, 6), (F, 7)] ph ph1584 from (zFr_trans (zFr_trans (zFr_mono fe (by simp) (by simp)) (zFr_st u1581 (Or.inr (by simp)))) (zFr_st u1583 (Or.inr (by simp))))) (zstep_d1 hdi) (zFs_mk ⟨zFp_F f2 (by simp) (by simp) (zFp_F fe (by simp) (by simp) hp), zFc_F f2 (by simp) (by simp) (zFc_c (c := 48 + d - 48) hC g1_fe (by rw [show 48 + d - 48 = d by omega, zcc_n (by omega)]; exact g2_fe) g3_fe (Or.inl (by omega))), zFw_F f2 (by simp) (by simp) (zFw_F fe (by simp) (by simp) hW), zFb_F f2 (by simp) (by simp) (zFb_F fe (by simp) (by simp) hb), ⟨((u1583.2.1 F 5 (fun q => absurd q.2 (by decide))).trans ((u1581.2.1 F 5 (fun q => absurd q.2 (by decide))).trans ((fe.1 F 5 (by simp <;> omega) (by simp <;> omega)).trans hd.1))), hd.2.1, h6, by decide, h7⟩⟩)
theorem zc_takeT {ph : pm_H} {F : Nat} {C W : List Nat} {cm : Nat → Bool} {dp : Nat} {c : Nat} (hc : c < 256) (hnd : zdi c = false) (hF : zFs ph F (C, W, cm, dp, 0, true)) (h40 : C.length + W.length < 40) : zM 6 [.ref F, .int (zn c)] ph (fun v0 q => zFf F ph q ∧ (∃ cm9, zFb q F cm9) ∧ ((∃ s, zstep c (C, W, cm, dp, 0, true) = some s ∧ v0 = some (.int (zI true)) ∧ zFs q F s) ∨ (zstep c (C, W, cm, dp, 0, true) = none ∧ v0 = some (.int (zI false))))) := by
  obtain ⟨Q, hQ⟩ : ∃ Q : Option Value → pm_H → Prop, Q = (fun v0 q => zFf F ph q ∧ (∃ cm9, zFb q F cm9) ∧ ((∃ s, zstep c (C, W, cm, dp, 0, true) = some s ∧ v0 = some (.int (zI true)) ∧ zFs q F s) ∨ (zstep c (C, W, cm, dp, 0, true) = none ∧ v0 = some (.int (zI false))))) := ⟨_, rfl⟩
  rw [← hQ]
  refine zM_mk fun n D => ?_
  show zW n D 6 Q 0 [some (.ref F), some (.int (zn c)), none] [] ph
  have c_0 : ((Int16.ofInt 1000).toInt32).toInt = 1000 := by decide
  have c_1 : ((Int8.ofInt 109).toInt32).toInt = 109 := by decide
  have c_2 : ((Int8.ofInt 40).toInt32).toInt = 40 := by decide
  have c_3 : ((Int8.ofInt 45).toInt32).toInt = 45 := by decide
  have c_4 : (Int32.ofInt 0).toInt = 0 := by decide
  have c_5 : (Int32.ofInt 1).toInt = 1 := by decide
  have c_6 : (Int32.ofInt 4).toInt = 4 := by decide
  obtain ⟨hp, hC, hW, hb, hd⟩ := hF
  have hp : zFp ph F := hp
  have hC : zFc ph F C := hC
  have hW : zFw ph F W := hW
  have hb : zFb ph F cm := hb
  have hd : zFd ph F dp 0 true := hd
  have tdp := znt (k := dp) (by have := hd.2.1; omega)
  have tdg := znt (k := 0) (by have := hd.2.2.2.1; omega)
  have hdp4 := hd.2.1
  have hdg3 := hd.2.2.2.1
  have tCl := znt (k := C.length) (by omega)
  have tWl := znt (k := W.length) (by omega)
  have tc := znt (k := c) (by omega)
  refine w_load (pc' := 1) (v := .int (zn c)) (m := 1) (ykc_6 (e := (2, .iload_n kF1, 0)) rfl) rfl rfl ?_
  refine w_push (pc' := 3) (v := .int ((Int8.ofInt 45).toInt32)) (m := 2) (ykc_6 (e := (1, .bipush 45, 0)) rfl) rfl rfl ?_
  refine w_ine (ykc_6 (e := (4, .if_icmp .ne 11, 14)) rfl) rfl (fun b1585 => ?_) (fun b1585 => ?_)
  · refine w_load (pc' := 15) (v := .int (zn c)) (m := 1) (ykc_6 (e := (2, .iload_n kF1, 0)) rfl) rfl rfl ?_
    refine w_push (pc' := 17) (v := .int ((Int8.ofInt 40).toInt32)) (m := 2) (ykc_6 (e := (1, .bipush 40, 0)) rfl) rfl rfl ?_
    refine w_ine (ykc_6 (e := (4, .if_icmp .ne 48, 65)) rfl) rfl (fun b1586 => ?_) (fun b1586 => ?_)
    · refine w_push (pc' := 67) (v := .ref 1048626) (m := 2) (ykc_6 (e := (1, .ldc 63, 0)) rfl) rfl rfl ?_
      refine w_load (pc' := 68) (v := .int (zn c)) (m := 1) (ykc_6 (e := (2, .iload_n kF1, 0)) rfl) rfl rfl ?_
      refine w_alu (pc' := 69) (st' := [.int (zn c), .ref 1048626]) (ykc_6 (e := (0, .i2c, 0)) rfl) (by show some ([.int (((zn c).toUInt32 % 65536).toInt32), .ref 1048626] : List Value) = _; rw [(zi2cc hc : ((zn c).toUInt32 % 65536).toInt32 = zn c)]) rfl ?_
      refine w_cvr (show Nat.blt 1048626 1048576 = false ∧ 1048626 - 1048576 = 50 from ⟨rfl, rfl⟩) (as := [.ref 1048626, .int (zn c)]) (r := []) (ykc_6 (e := (6, .invokevirtual 65, 0)) rfl) rfl rfl rfl rfl (zc_letter hc) (fun v1587 ph1588 hv => ?_)
      rcases hv with ⟨rfl, ⟨h8, rfl⟩ | ⟨h8, rfl⟩⟩
      · have t8 := znt (k := zlt c) (by omega)
        show zW n D 6 Q 72 [some (.ref F), some (.int (zn c)), none] [.int (zn (zlt c))] ph
        refine w_store (pc' := 73) (L' := [some (.ref F), some (.int (zn c)), some (.int (zn (zlt c)))]) (st' := []) (m := 1) (ykc_6 (e := (3, .istore_n kF2, 0)) rfl) rfl rfl ?_
        refine w_load (pc' := 74) (v := .int (zn (zlt c))) (m := 1) (ykc_6 (e := (2, .iload_n kF2, 0)) rfl) rfl rfl ?_
        refine w_zge (ykc_6 (e := (4, .ifCond .ge 5, 79)) rfl) rfl (fun b1589 => ?_) (fun q => by exfalso; omega)
        refine w_load (pc' := 80) (v := .ref F) (m := 1) (ykc_6 (e := (2, .aload_n kF0, 0)) rfl) rfl rfl ?_
        refine w_push (pc' := 83) (v := .int ((Int16.ofInt 1000).toInt32)) (m := 3) (ykc_6 (e := (1, .sipush 1000, 0)) rfl) rfl rfl ?_
        refine w_load (pc' := 84) (v := .int (zn (zlt c))) (m := 1) (ykc_6 (e := (2, .iload_n kF2, 0)) rfl) rfl rfl ?_
        have e1590 : ((Int16.ofInt 1000).toInt32) + (zn (zlt c)) = zn (1000 + (zlt c)) := (zaddN (a := 1000) (b := zlt c) c_0 (znt (by omega)) (by omega)) 
        have te1590 := znt (k := 1000 + (zlt c)) (by omega)
        refine w_alu (pc' := 85) (st' := [.int (zn (1000 + (zlt c))), .ref F]) (ykc_6 (e := (0, .iadd, 0)) rfl) (by rw [← e1590]; rfl) rfl ?_
        refine w_cv (as := [.ref F, .int (zn (1000 + (zlt c)))]) (r := []) (ykc_6 (e := (6, .invokevirtual 70, 0)) rfl) rfl rfl rfl rfl (zc_emit hp.1 hC.1 (by omega)) (fun v1591 ph1592 hv => ?_)
        obtain ⟨rfl, fe, g1_fe, g2_fe, g3_fe⟩ := hv
        show zW n D 6 Q 88 [some (.ref F), some (.int (zn c)), some (.int (zn (zlt c)))] [] ph1592
        refine w_load (pc' := 89) (v := .ref F) (m := 1) (ykc_6 (e := (2, .aload_n kF0, 0)) rfl) rfl rfl ?_
        refine w_alu (pc' := 90) (st' := [.int (Int32.ofInt 0), .ref F]) (ykc_6 (e := (0, .iconst 0, 0)) rfl) rfl rfl ?_
        refine w_pf (pc' := 93) (ykc_6 (e := (5, .putfield 43, 0)) rfl) rfl rfl (fun ph1594 u1593 => ?_)
        refine w_alu (pc' := 94) (st' := [.int (Int32.ofInt 1)]) (ykc_6 (e := (0, .iconst 1, 0)) rfl) rfl rfl ?_
        refine w_ret (v := (some (.int (Int32.ofInt 1)))) (ykc_6 (e := (7, .ireturn, 0)) rfl) zr_z ?_
        have f2 : zFr [] [(F, 7)] _ ph1594 := zFr_st u1593 (Or.inr (by simp))
        have h7 : zc ph1594 F 7 = some (.int (zI false)) := u1593.1
        rw [hQ, zi1]
        exact zTk1 (show zFr [F + 1, F + 2, F + 3] [(F, 1), (F, 3), (F, 5), (F, 6), (F, 7)] ph ph1594 from (zFr_trans (zFr_mono fe (by simp) (by simp)) (zFr_st u1593 (Or.inr (by simp))))) (zstep_l h8) (zFs_mk ⟨zFp_F f2 (by simp) (by simp) (zFp_F fe (by simp) (by simp) hp), zFc_F f2 (by simp) (by simp) (zFc_c (c := 1000 + zlt c) hC g1_fe (by rw [zcc_n (by omega)]; exact g2_fe) g3_fe (Or.inl (by omega))), zFw_F f2 (by simp) (by simp) (zFw_F fe (by simp) (by simp) hW), zFb_F f2 (by simp) (by simp) (zFb_F fe (by simp) (by simp) hb), ⟨((u1593.2.1 F 5 (fun q => absurd q.2 (by decide))).trans ((fe.1 F 5 (by simp <;> omega) (by simp <;> omega)).trans hd.1)), hd.2.1, ((u1593.2.1 F 6 (fun q => absurd q.2 (by decide))).trans ((fe.1 F 6 (by simp <;> omega) (by simp <;> omega)).trans hd.2.2.1)), by decide, h7⟩⟩)
      · have tm1 : (Int32.ofInt (-1)).toInt = -1 := by decide
        show zW n D 6 Q 72 [some (.ref F), some (.int (zn c)), none] [.int (Int32.ofInt (-1))] ph
        refine w_store (pc' := 73) (L' := [some (.ref F), some (.int (zn c)), some (.int (Int32.ofInt (-1)))]) (st' := []) (m := 1) (ykc_6 (e := (3, .istore_n kF2, 0)) rfl) rfl rfl ?_
        refine w_load (pc' := 74) (v := .int (Int32.ofInt (-1))) (m := 1) (ykc_6 (e := (2, .iload_n kF2, 0)) rfl) rfl rfl ?_
        refine w_zge (ykc_6 (e := (4, .ifCond .ge 5, 79)) rfl) rfl (fun q => by exfalso; omega) (fun b1595 => ?_)
        refine w_alu (pc' := 78) (st' := [.int (Int32.ofInt 0)]) (ykc_6 (e := (0, .iconst 0, 0)) rfl) rfl rfl ?_
        refine w_ret (v := (some (.int (Int32.ofInt 0)))) (ykc_6 (e := (7, .ireturn, 0)) rfl) zr_z ?_
        rw [hQ, zi0]
        exact ⟨zFr_refl, ⟨cm, hb⟩, Or.inr ⟨zstep_n (by omega) hnd h8 (by omega), rfl⟩⟩
      
    · refine w_load (pc' := 21) (v := .ref F) (m := 1) (ykc_6 (e := (2, .aload_n kF0, 0)) rfl) rfl rfl ?_
      refine w_gf (pc' := 24) (v := .int (zn dp)) (ykc_6 (e := (5, .getfield 47, 0)) rfl) rfl hd.1 rfl ?_
      refine w_zlt (ykc_6 (e := (4, .ifCond .lt 11, 35)) rfl) rfl (fun q => by exfalso; omega) (fun b1596 => ?_)
      refine w_load (pc' := 28) (v := .ref F) (m := 1) (ykc_6 (e := (2, .aload_n kF0, 0)) rfl) rfl rfl ?_
      refine w_gf (pc' := 31) (v := .int (zn dp)) (ykc_6 (e := (5, .getfield 47, 0)) rfl) rfl hd.1 rfl ?_
      refine w_alu (pc' := 32) (st' := [.int (Int32.ofInt 4), .int (zn dp)]) (ykc_6 (e := (0, .iconst 4, 0)) rfl) rfl rfl ?_
      refine w_ilt (ykc_6 (e := (4, .if_icmp .lt 5, 37)) rfl) rfl (fun b1597 => ?_) (fun b1597 => ?_)
      · refine w_load (pc' := 38) (v := .ref F) (m := 1) (ykc_6 (e := (2, .aload_n kF0, 0)) rfl) rfl rfl ?_
        refine w_alu (pc' := 39) (st' := [.ref F, .ref F]) (ykc_6 (e := (0, .dup, 0)) rfl) rfl rfl ?_
        refine w_gf (pc' := 42) (v := .int (zn dp)) (ykc_6 (e := (5, .getfield 47, 0)) rfl) rfl hd.1 rfl ?_
        refine w_alu (pc' := 43) (st' := [.int (Int32.ofInt 1), .int (zn dp), .ref F]) (ykc_6 (e := (0, .iconst 1, 0)) rfl) rfl rfl ?_
        have e1598 : (zn dp) + (Int32.ofInt 1) = zn (dp + 1) := (zaddN (a := dp) (b := 1) (znt (by omega)) c_5 (by omega)) 
        have te1598 := znt (k := dp + 1) (by omega)
        refine w_alu (pc' := 44) (st' := [.int (zn (dp + 1)), .ref F]) (ykc_6 (e := (0, .iadd, 0)) rfl) (by rw [← e1598]; rfl) rfl ?_
        refine w_pf (pc' := 47) (ykc_6 (e := (5, .putfield 47, 0)) rfl) rfl rfl (fun ph1600 u1599 => ?_)
        refine w_load (pc' := 48) (v := .ref F) (m := 1) (ykc_6 (e := (2, .aload_n kF0, 0)) rfl) rfl rfl ?_
        refine w_gf (pc' := 51) (v := .ref (F + 3)) (ykc_6 (e := (5, .getfield 16, 0)) rfl) rfl ((u1599.2.1 F 4 (fun q => absurd q.2 (by decide))).trans hp.2.2) rfl ?_
        refine w_load (pc' := 52) (v := .ref F) (m := 1) (ykc_6 (e := (2, .aload_n kF0, 0)) rfl) rfl rfl ?_
        refine w_gf (pc' := 55) (v := .int (zn (dp + 1))) (ykc_6 (e := (5, .getfield 47, 0)) rfl) rfl u1599.1 rfl ?_
        refine w_alu (pc' := 56) (st' := [.int (Int32.ofInt 0), .int (zn (dp + 1)), .ref (F + 3)]) (ykc_6 (e := (0, .iconst 0, 0)) rfl) rfl rfl ?_
        refine w_bas (pc' := 57) (k := dp + 1) (ykc_6 (e := (5, .bastore, 0)) rfl) (by omega) rfl (fun ph1602 u1601 => ?_)
        refine w_load (pc' := 58) (v := .ref F) (m := 1) (ykc_6 (e := (2, .aload_n kF0, 0)) rfl) rfl rfl ?_
        refine w_push (pc' := 60) (v := .int ((Int8.ofInt 40).toInt32)) (m := 2) (ykc_6 (e := (1, .bipush 40, 0)) rfl) rfl rfl ?_
        refine w_cv (as := [.ref F, .int ((Int8.ofInt 40).toInt32)]) (r := []) (ykc_6 (e := (6, .invokevirtual 82, 0)) rfl) rfl rfl rfl rfl (zc_holdF ((u1601.2.1 F 2 (fun q => by have q2 := q.1; omega)).trans ((u1599.2.1 F 2 (fun q => absurd q.2 (by decide))).trans hp.2.1)) ((u1601.2.1 F 3 (fun q => by have q2 := q.1; omega)).trans ((u1599.2.1 F 3 (fun q => absurd q.2 (by decide))).trans hW.1)) (by omega)) (fun v1603 ph1604 hv => ?_)
        obtain ⟨rfl, fh, g1_fh, g2_fh, g3_fh⟩ := hv
        show zW n D 6 Q 63 [some (.ref F), some (.int (zn c)), none] [] ph1604
        refine w_alu (pc' := 64) (st' := [.int (Int32.ofInt 1)]) (ykc_6 (e := (0, .iconst 1, 0)) rfl) rfl rfl ?_
        refine w_ret (v := (some (.int (Int32.ofInt 1)))) (ykc_6 (e := (7, .ireturn, 0)) rfl) zr_z ?_
        have ec : c = 40 := by omega
        subst ec
        have f1 : zFr [F + 3] [(F, 5)] ph _ := zFr_trans (zFr_st u1599 (Or.inr (by simp))) (zFr_st u1601 (Or.inl (by simp)))
        have hbb : zFb ph1604 F (zub cm (dp + 1) false) := fun i hi => by
          refine (fh.1 (F + 3) i (by simp) (by simp)).trans ?_
          by_cases e : i = dp + 1
          · subst e; rw [zub_e]; exact u1601.1
          · rw [zub_n e]; exact (u1601.2.1 (F + 3) i (fun q => e q.2)).trans ((u1599.2.1 (F + 3) i (fun q => by have q1 := q.1; omega)).trans (hb i hi))
        rw [hQ, zi1]
        exact zTk1 (show zFr [F + 1, F + 2, F + 3] [(F, 1), (F, 3), (F, 5), (F, 6), (F, 7)] ph ph1604 from (zFr_trans (zFr_trans (zFr_st u1599 (Or.inr (by simp))) (zFr_st u1601 (Or.inl (by simp)))) (zFr_mono fh (by simp) (by simp)))) (zstep_b (by omega)) (zFs_mk ⟨zFp_F fh (by simp) (by simp) (zFp_F f1 (by simp) (by simp) hp), zFc_F fh (by simp) (by simp) (zFc_F f1 (by simp) (by simp) hC), zFw_c (o := 0) (zFw_F f1 (by simp) (by simp) hW) g1_fh (by rw [show zn (zwo 0) = (Int8.ofInt 40).toInt32 by decide]; exact g2_fh) g3_fh (Or.inl rfl), hbb, ⟨((fh.1 F 5 (by simp <;> omega) (by simp <;> omega)).trans ((u1601.2.1 F 5 (fun q => by have q2 := q.1; omega)).trans u1599.1)), by omega, ((fh.1 F 6 (by simp <;> omega) (by simp <;> omega)).trans ((u1601.2.1 F 6 (fun q => by have q2 := q.1; omega)).trans ((u1599.2.1 F 6 (fun q => absurd q.2 (by decide))).trans hd.2.2.1))), by decide, ((fh.1 F 7 (by simp <;> omega) (by simp <;> omega)).trans ((u1601.2.1 F 7 (fun q => by have q2 := q.1; omega)).trans ((u1599.2.1 F 7 (fun q => absurd q.2 (by decide))).trans hd.2.2.2.2)))⟩⟩)
      · refine w_alu (pc' := 36) (st' := [.int (Int32.ofInt 0)]) (ykc_6 (e := (0, .iconst 0, 0)) rfl) rfl rfl ?_
        refine w_ret (v := (some (.int (Int32.ofInt 0)))) (ykc_6 (e := (7, .ireturn, 0)) rfl) zr_z ?_
        have ec : c = 40 := by omega
        subst ec
        rw [hQ, zi0]
        exact ⟨zFr_refl, ⟨cm, hb⟩, Or.inr ⟨zstep_n (by decide) rfl (by decide) (by omega), rfl⟩⟩
  · refine w_load (pc' := 7) (v := .ref F) (m := 1) (ykc_6 (e := (2, .aload_n kF0, 0)) rfl) rfl rfl ?_
    refine w_push (pc' := 9) (v := .int ((Int8.ofInt 109).toInt32)) (m := 2) (ykc_6 (e := (1, .bipush 109, 0)) rfl) rfl rfl ?_
    refine w_cv (as := [.ref F, .int ((Int8.ofInt 109).toInt32)]) (r := []) (ykc_6 (e := (6, .invokevirtual 82, 0)) rfl) rfl rfl rfl rfl (zc_holdF hp.2.1 hW.1 (by omega)) (fun v1605 ph1606 hv => ?_)
    obtain ⟨rfl, fh, g1_fh, g2_fh, g3_fh⟩ := hv
    show zW n D 6 Q 12 [some (.ref F), some (.int (zn c)), none] [] ph1606
    refine w_alu (pc' := 13) (st' := [.int (Int32.ofInt 1)]) (ykc_6 (e := (0, .iconst 1, 0)) rfl) rfl rfl ?_
    refine w_ret (v := (some (.int (Int32.ofInt 1)))) (ykc_6 (e := (7, .ireturn, 0)) rfl) zr_z ?_
    have ec : c = 45 := by omega
    subst ec
    have tr : zc ph1606 F 7 = some (.int (zI true)) := ((fh.1 F 7 (by simp <;> omega) (by simp <;> omega)).trans hd.2.2.2.2)
    rw [hQ, zi1]
    exact zTk1 (show zFr [F + 1, F + 2, F + 3] [(F, 1), (F, 3), (F, 5), (F, 6), (F, 7)] ph ph1606 from (zFr_mono fh (by simp) (by simp))) (zstep_m) (zFs_mk ⟨zFp_F fh (by simp) (by simp) hp, zFc_F fh (by simp) (by simp) hC, zFw_c (o := 3000) hW g1_fh (by rw [show zn (zwo 3000) = (Int8.ofInt 109).toInt32 by decide]; exact g2_fh) g3_fh (Or.inr (Or.inr rfl)), zFb_F fh (by simp) (by simp) hb, ⟨((fh.1 F 5 (by simp <;> omega) (by simp <;> omega)).trans hd.1), hd.2.1, ((fh.1 F 6 (by simp <;> omega) (by simp <;> omega)).trans hd.2.2.1), by decide, tr⟩⟩)
theorem zc_close {ph : pm_H} {F : Nat} {C W : List Nat} {cm : Nat → Bool} {dp : Nat} (hF : zFs ph F (C, W, cm, dp, 0, false)) (h40 : C.length + W.length < 40) : zM 8 [.ref F] ph (fun v0 q => zFf F ph q ∧ (∃ cm9, zFb q F cm9) ∧ ((∃ s, zstep 41 (C, W, cm, dp, 0, false) = some s ∧ v0 = some (.int (zI true)) ∧ zFs q F s) ∨ (zstep 41 (C, W, cm, dp, 0, false) = none ∧ v0 = some (.int (zI false))))) := by
  obtain ⟨Q, hQ⟩ : ∃ Q : Option Value → pm_H → Prop, Q = (fun v0 q => zFf F ph q ∧ (∃ cm9, zFb q F cm9) ∧ ((∃ s, zstep 41 (C, W, cm, dp, 0, false) = some s ∧ v0 = some (.int (zI true)) ∧ zFs q F s) ∨ (zstep 41 (C, W, cm, dp, 0, false) = none ∧ v0 = some (.int (zI false))))) := ⟨_, rfl⟩
  rw [← hQ]
  refine zM_mk fun n D => ?_
  show zW n D 8 Q 0 [some (.ref F)] [] ph
  have c_0 : (Int32.ofInt 0).toInt = 0 := by decide
  have c_1 : (Int32.ofInt 1).toInt = 1 := by decide
  obtain ⟨hp, hC, hW, hb, hd⟩ := hF
  have hp : zFp ph F := hp
  have hC : zFc ph F C := hC
  have hW : zFw ph F W := hW
  have hb : zFb ph F cm := hb
  have hd : zFd ph F dp 0 false := hd
  have tdp := znt (k := dp) (by have := hd.2.1; omega)
  have tdg := znt (k := 0) (by have := hd.2.2.2.1; omega)
  have hdp4 := hd.2.1
  have hdg3 := hd.2.2.2.1
  have tCl := znt (k := C.length) (by omega)
  have tWl := znt (k := W.length) (by omega)
  have hlen := @zrl_len 1 W C
  refine w_load (pc' := 1) (v := .ref F) (m := 1) (ykc_8 (e := (2, .aload_n kF0, 0)) rfl) rfl rfl ?_
  refine w_gf (pc' := 4) (v := .int (zn dp)) (ykc_8 (e := (5, .getfield 47, 0)) rfl) rfl hd.1 rfl ?_
  refine w_zne (ykc_8 (e := (4, .ifCond .ne 5, 9)) rfl) rfl (fun b1607 => ?_) (fun b1607 => ?_)
  · refine w_load (pc' := 10) (v := .ref F) (m := 1) (ykc_8 (e := (2, .aload_n kF0, 0)) rfl) rfl rfl ?_
    refine w_alu (pc' := 11) (st' := [.ref F, .ref F]) (ykc_8 (e := (0, .dup, 0)) rfl) rfl rfl ?_
    refine w_gf (pc' := 14) (v := .int (zn dp)) (ykc_8 (e := (5, .getfield 47, 0)) rfl) rfl hd.1 rfl ?_
    refine w_alu (pc' := 15) (st' := [.int (Int32.ofInt 1), .int (zn dp), .ref F]) (ykc_8 (e := (0, .iconst 1, 0)) rfl) rfl rfl ?_
    have e1608 : (zn dp) - (Int32.ofInt 1) = zn (dp - 1) := zsubN (a := dp) (b := 1) tdp c_1 (by omega)
    have te1608 := znt (k := dp - 1) (by omega)
    refine w_alu (pc' := 16) (st' := [.int (zn (dp - 1)), .ref F]) (ykc_8 (e := (0, .isub, 0)) rfl) (by show some ([.int ((zn dp) - (Int32.ofInt 1)), .ref F] : List Value) = _; rw [e1608]) rfl ?_
    refine w_pf (pc' := 19) (ykc_8 (e := (5, .putfield 47, 0)) rfl) rfl rfl (fun ph1610 u1609 => ?_)
    refine w_load (pc' := 20) (v := .ref F) (m := 1) (ykc_8 (e := (2, .aload_n kF0, 0)) rfl) rfl rfl ?_
    refine w_alu (pc' := 21) (st' := [.int (Int32.ofInt 1), .ref F]) (ykc_8 (e := (0, .iconst 1, 0)) rfl) rfl rfl ?_
    have f1 : zFr [] [(F, 5)] ph ph1610 := zFr_st u1609 (Or.inr (by simp))
    refine w_cv (as := [.ref F, .int (Int32.ofInt 1)]) (r := []) (ykc_8 (e := (6, .invokevirtual 51, 0)) rfl) rfl rfl rfl rfl (zc_release (b := 1) (zFp_F f1 (by simp) (by simp) hp) (zFc_F f1 (by simp) (by simp) hC) (zFw_F f1 (by simp) (by simp) hW) (by omega) (by decide) (by omega)) (fun v1611 ph1612 hv => ?_)
    obtain ⟨rfl, fr, hC2, hW2⟩ := hv
    generalize hzr : zrl 1 W C = zr at *
    obtain ⟨W2, C2⟩ := zr
    have hC2 : zFc ph1612 F C2 := hC2
    have hW2 : zFw ph1612 F W2 := hW2
    have hlen : W2.length + C2.length = W.length + C.length := hlen
    show zW n D 8 Q 24 [some (.ref F)] [] ph1612
    refine w_load (pc' := 25) (v := .ref F) (m := 1) (ykc_8 (e := (2, .aload_n kF0, 0)) rfl) rfl rfl ?_
    have tW2 := znt (k := W2.length) (by omega)
    refine w_gf (pc' := 28) (v := .int (zn W2.length)) (ykc_8 (e := (5, .getfield 57, 0)) rfl) rfl hW2.1 rfl ?_
    refine w_zle (ykc_8 (e := (4, .ifCond .le 13, 41)) rfl) rfl (fun b1613 => ?_) (fun b1613 => ?_)
    · refine w_alu (pc' := 42) (st' := [.int (Int32.ofInt 1)]) (ykc_8 (e := (0, .iconst 1, 0)) rfl) rfl rfl ?_
      refine w_ret (v := (some (.int (Int32.ofInt 1)))) (ykc_8 (e := (7, .ireturn, 0)) rfl) zr_z ?_
      have hst := zstep_c (C := C) (W := W) (cm := cm) (dp := dp) (dg := 0) (by omega)
      rw [hzr] at hst
      cases W2 with
      | cons o W3 => exact absurd (show (o :: W3).length = 0 by omega) (by simp)
      | nil =>
        have hst : zstep 41 (C, W, cm, dp, 0, false) = some (C2, [], cm, dp - 1, 0, false) := hst
        rw [hQ, zi1]
        exact zTk1 (show zFr [F + 1, F + 2, F + 3] [(F, 1), (F, 3), (F, 5), (F, 6), (F, 7)] ph ph1612 from (zFr_trans (zFr_st u1609 (Or.inr (by simp))) (zFr_mono fr (by simp) (by simp)))) (hst) (zFs_mk ⟨zFp_F fr (by simp) (by simp) (zFp_F f1 (by simp) (by simp) hp), hC2, hW2, zFb_F fr (by simp) (by simp) (zFb_F f1 (by simp) (by simp) hb), ⟨((fr.1 F 5 (by simp <;> omega) (by simp <;> omega)).trans u1609.1), by omega, ((fr.1 F 6 (by simp <;> omega) (by simp <;> omega)).trans ((u1609.2.1 F 6 (fun q => absurd q.2 (by decide))).trans hd.2.2.1)), by decide, ((fr.1 F 7 (by simp <;> omega) (by simp <;> omega)).trans ((u1609.2.1 F 7 (fun q => absurd q.2 (by decide))).trans hd.2.2.2.2))⟩⟩)
    · refine w_load (pc' := 32) (v := .ref F) (m := 1) (ykc_8 (e := (2, .aload_n kF0, 0)) rfl) rfl rfl ?_
      refine w_alu (pc' := 33) (st' := [.ref F, .ref F]) (ykc_8 (e := (0, .dup, 0)) rfl) rfl rfl ?_
      refine w_gf (pc' := 36) (v := .int (zn W2.length)) (ykc_8 (e := (5, .getfield 57, 0)) rfl) rfl hW2.1 rfl ?_
      refine w_alu (pc' := 37) (st' := [.int (Int32.ofInt 1), .int (zn W2.length), .ref F]) (ykc_8 (e := (0, .iconst 1, 0)) rfl) rfl rfl ?_
      have e1614 : (zn W2.length) - (Int32.ofInt 1) = zn (W2.length - 1) := zsubN (a := W2.length) (b := 1) (znt (by omega)) c_1 (by omega)
      have te1614 := znt (k := W2.length - 1) (by omega)
      refine w_alu (pc' := 38) (st' := [.int (zn (W2.length - 1)), .ref F]) (ykc_8 (e := (0, .isub, 0)) rfl) (by show some ([.int ((zn W2.length) - (Int32.ofInt 1)), .ref F] : List Value) = _; rw [e1614]) rfl ?_
      refine w_pf (pc' := 41) (ykc_8 (e := (5, .putfield 57, 0)) rfl) rfl rfl (fun ph1616 u1615 => ?_)
      refine w_alu (pc' := 42) (st' := [.int (Int32.ofInt 1)]) (ykc_8 (e := (0, .iconst 1, 0)) rfl) rfl rfl ?_
      refine w_ret (v := (some (.int (Int32.ofInt 1)))) (ykc_8 (e := (7, .ireturn, 0)) rfl) zr_z ?_
      have f3 : zFr [] [(F, 3)] _ ph1616 := zFr_st u1615 (Or.inr (by simp))
      have hst := zstep_c (C := C) (W := W) (cm := cm) (dp := dp) (dg := 0) (by omega)
      rw [hzr] at hst
      cases W2 with
      | nil => exact absurd (show (0 : Nat) < 0 by have h : (zn ([] : List Nat).length).toInt = 0 := rfl; omega) (by decide)
      | cons o W3 =>
        have hst : zstep 41 (C, W, cm, dp, 0, false) = some (C2, W3, cm, dp - 1, 0, false) := hst
        rw [hQ, zi1]
        exact zTk1 (show zFr [F + 1, F + 2, F + 3] [(F, 1), (F, 3), (F, 5), (F, 6), (F, 7)] ph ph1616 from (zFr_trans (zFr_trans (zFr_st u1609 (Or.inr (by simp))) (zFr_mono fr (by simp) (by simp))) (zFr_st u1615 (Or.inr (by simp))))) (hst) (zFs_mk ⟨zFp_F f3 (by simp) (by simp) (zFp_F fr (by simp) (by simp) (zFp_F f1 (by simp) (by simp) hp)), zFc_F f3 (by simp) (by simp) hC2, zFw_t hW2 u1615.1 (fun i => u1615.2.1 (F + 2) i (fun q => by have q1 := q.1; omega)), zFb_F f3 (by simp) (by simp) (zFb_F fr (by simp) (by simp) (zFb_F f1 (by simp) (by simp) hb)), ⟨((u1615.2.1 F 5 (fun q => absurd q.2 (by decide))).trans ((fr.1 F 5 (by simp <;> omega) (by simp <;> omega)).trans u1609.1)), by omega, ((u1615.2.1 F 6 (fun q => absurd q.2 (by decide))).trans ((fr.1 F 6 (by simp <;> omega) (by simp <;> omega)).trans ((u1609.2.1 F 6 (fun q => absurd q.2 (by decide))).trans hd.2.2.1))), by decide, ((u1615.2.1 F 7 (fun q => absurd q.2 (by decide))).trans ((fr.1 F 7 (by simp <;> omega) (by simp <;> omega)).trans ((u1609.2.1 F 7 (fun q => absurd q.2 (by decide))).trans hd.2.2.2.2)))⟩⟩)
  · refine w_alu (pc' := 8) (st' := [.int (Int32.ofInt 0)]) (ykc_8 (e := (0, .iconst 0, 0)) rfl) rfl rfl ?_
    refine w_ret (v := (some (.int (Int32.ofInt 0)))) (ykc_8 (e := (7, .ireturn, 0)) rfl) zr_z ?_
    have e0 : dp = 0 := by omega
    subst e0
    rw [hQ, zi0]
    exact ⟨zFr_refl, ⟨cm, hb⟩, Or.inr ⟨by unfold zstep; simp [zdi], rfl⟩⟩
theorem zc_takeO {ph : pm_H} {F : Nat} {C W : List Nat} {cm : Nat → Bool} {dp : Nat} (hF : zFs ph F (C, W, cm, dp, 0, false)) (h40 : C.length + W.length < 40) {c : Nat} (hc : c < 256) (hnd : zdi c = false) : zM 7 [.ref F, .int (zn c)] ph (fun v0 q => zFf F ph q ∧ (∃ cm9, zFb q F cm9) ∧ ((∃ s, zstep c (C, W, cm, dp, 0, false) = some s ∧ v0 = some (.int (zI true)) ∧ zFs q F s) ∨ (zstep c (C, W, cm, dp, 0, false) = none ∧ v0 = some (.int (zI false))))) := by
  obtain ⟨Q, hQ⟩ : ∃ Q : Option Value → pm_H → Prop, Q = (fun v0 q => zFf F ph q ∧ (∃ cm9, zFb q F cm9) ∧ ((∃ s, zstep c (C, W, cm, dp, 0, false) = some s ∧ v0 = some (.int (zI true)) ∧ zFs q F s) ∨ (zstep c (C, W, cm, dp, 0, false) = none ∧ v0 = some (.int (zI false))))) := ⟨_, rfl⟩
  rw [← hQ]
  refine zM_mk fun n D => ?_
  show zW n D 7 Q 0 [some (.ref F), some (.int (zn c)), none] [] ph
  have c_0 : ((Int8.ofInt 41).toInt32).toInt = 41 := by decide
  have c_1 : (Int32.ofInt 0).toInt = 0 := by decide
  have c_2 : (Int32.ofInt 1).toInt = 1 := by decide
  have c_3 : (Int32.ofInt 3).toInt = 3 := by decide
  have c_4 : (Int32.ofInt 4).toInt = 4 := by decide
  have hF0 := hF
  obtain ⟨hp, hC, hW, hb, hd⟩ := hF
  have hp : zFp ph F := hp
  have hC : zFc ph F C := hC
  have hW : zFw ph F W := hW
  have hb : zFb ph F cm := hb
  have hd : zFd ph F dp 0 false := hd
  have tdp := znt (k := dp) (by have := hd.2.1; omega)
  have tdg := znt (k := 0) (by have := hd.2.2.2.1; omega)
  have hdp4 := hd.2.1
  have hdg3 := hd.2.2.2.1
  have tCl := znt (k := C.length) (by omega)
  have tWl := znt (k := W.length) (by omega)
  have tc := znt (k := c) (by omega)
  refine w_load (pc' := 1) (v := .int (zn c)) (m := 1) (ykc_7 (e := (2, .iload_n kF1, 0)) rfl) rfl rfl ?_
  refine w_push (pc' := 3) (v := .int ((Int8.ofInt 41).toInt32)) (m := 2) (ykc_7 (e := (1, .bipush 41, 0)) rfl) rfl rfl ?_
  refine w_ine (ykc_7 (e := (4, .if_icmp .ne 8, 11)) rfl) rfl (fun b1617 => ?_) (fun b1617 => ?_)
  · refine w_load (pc' := 12) (v := .int (zn c)) (m := 1) (ykc_7 (e := (2, .iload_n kF1, 0)) rfl) rfl rfl ?_
    refine w_cs (as := [.int (zn c)]) (r := []) (ykc_7 (e := (6, .invokestatic 89, 0)) rfl) rfl rfl rfl rfl (zc_bind (c := c) (by omega)) (fun v1618 ph1619 hv => ?_)
    obtain ⟨rfl, rfl⟩ := hv
    have tb9 := znt (k := zbs c) (by have := @zbs_4 c; omega)
    have hb9 := @zbs_4 c
    show zW n D 7 Q 15 [some (.ref F), some (.int (zn c)), none] [.int (zn (zbs c))] ph
    have hop : zbs c ≠ 0 → zbs c ≤ 3 → zop c ≠ 0 ∧ zbd (zop c) = zbs c := fun h1 h2 => by
      unfold zbs at h1 h2 ⊢
      by_cases e : c = 109
      · rw [if_pos e] at h2; omega
      · rw [if_neg e] at h1 ⊢
        by_cases e2 : zop c = 0
        · rw [if_pos e2] at h1; omega
        · rw [if_neg e2]; exact ⟨e2, rfl⟩
    have hno : zbs c = 0 ∨ 3 < zbs c → zop c = 0 := fun h => by
      apply Classical.byContradiction
      intro q
      have h3 := zbd_op q
      unfold zbs at h
      by_cases e : c = 109
      · subst e; exact q rfl
      · rw [if_neg e, if_neg q] at h; omega
    refine w_store (pc' := 16) (L' := [some (.ref F), some (.int (zn c)), some (.int (zn (zbs c)))]) (st' := []) (m := 1) (ykc_7 (e := (3, .istore_n kF2, 0)) rfl) rfl rfl ?_
    refine w_load (pc' := 17) (v := .int (zn (zbs c))) (m := 1) (ykc_7 (e := (2, .iload_n kF2, 0)) rfl) rfl rfl ?_
    refine w_zeq (ykc_7 (e := (4, .ifCond .eq 23, 40)) rfl) rfl (fun b1620 => ?_) (fun b1620 => ?_)
    · refine w_alu (pc' := 41) (st' := [.int (Int32.ofInt 0)]) (ykc_7 (e := (0, .iconst 0, 0)) rfl) rfl rfl ?_
      refine w_ret (v := (some (.int (Int32.ofInt 0)))) (ykc_7 (e := (7, .ireturn, 0)) rfl) zr_z ?_
      rw [hQ, zi0]
      exact ⟨zFr_refl, ⟨cm, hb⟩, Or.inr ⟨zstep_x (fun q => absurd q (by rw [hnd]; decide)) (fun q => absurd q (by omega)) (fun q => absurd (hno (by omega)) q), rfl⟩⟩
    · refine w_load (pc' := 21) (v := .int (zn (zbs c))) (m := 1) (ykc_7 (e := (2, .iload_n kF2, 0)) rfl) rfl rfl ?_
      refine w_alu (pc' := 22) (st' := [.int (Int32.ofInt 3), .int (zn (zbs c))]) (ykc_7 (e := (0, .iconst 3, 0)) rfl) rfl rfl ?_
      refine w_igt (ykc_7 (e := (4, .if_icmp .gt 18, 40)) rfl) rfl (fun b1621 => ?_) (fun b1621 => ?_)
      · refine w_alu (pc' := 41) (st' := [.int (Int32.ofInt 0)]) (ykc_7 (e := (0, .iconst 0, 0)) rfl) rfl rfl ?_
        refine w_ret (v := (some (.int (Int32.ofInt 0)))) (ykc_7 (e := (7, .ireturn, 0)) rfl) zr_z ?_
        rw [hQ, zi0]
        exact ⟨zFr_refl, ⟨cm, hb⟩, Or.inr ⟨zstep_x (fun q => absurd q (by rw [hnd]; decide)) (fun q => absurd q (by omega)) (fun q => absurd (hno (by omega)) q), rfl⟩⟩
      · refine w_load (pc' := 26) (v := .ref F) (m := 1) (ykc_7 (e := (2, .aload_n kF0, 0)) rfl) rfl rfl ?_
        refine w_gf (pc' := 29) (v := .int (zn dp)) (ykc_7 (e := (5, .getfield 47, 0)) rfl) rfl hd.1 rfl ?_
        refine w_zlt (ykc_7 (e := (4, .ifCond .lt 11, 40)) rfl) rfl (fun q => by exfalso; omega) (fun b1622 => ?_)
        refine w_load (pc' := 33) (v := .ref F) (m := 1) (ykc_7 (e := (2, .aload_n kF0, 0)) rfl) rfl rfl ?_
        refine w_gf (pc' := 36) (v := .int (zn dp)) (ykc_7 (e := (5, .getfield 47, 0)) rfl) rfl hd.1 rfl ?_
        refine w_alu (pc' := 37) (st' := [.int (Int32.ofInt 4), .int (zn dp)]) (ykc_7 (e := (0, .iconst 4, 0)) rfl) rfl rfl ?_
        refine w_ile (ykc_7 (e := (4, .if_icmp .le 5, 42)) rfl) rfl (fun b1623 => ?_) (fun q => by exfalso; omega)
        refine w_load (pc' := 43) (v := .int (zn (zbs c))) (m := 1) (ykc_7 (e := (2, .iload_n kF2, 0)) rfl) rfl rfl ?_
        refine w_alu (pc' := 44) (st' := [.int (Int32.ofInt 1), .int (zn (zbs c))]) (ykc_7 (e := (0, .iconst 1, 0)) rfl) rfl rfl ?_
        refine w_ine (ykc_7 (e := (4, .if_icmp .ne 27, 71)) rfl) rfl (fun b1624 => ?_) (fun b1624 => ?_)
        · refine w_load (pc' := 72) (v := .ref F) (m := 1) (ykc_7 (e := (2, .aload_n kF0, 0)) rfl) rfl rfl ?_
          refine w_load (pc' := 73) (v := .int (zn (zbs c))) (m := 1) (ykc_7 (e := (2, .iload_n kF2, 0)) rfl) rfl rfl ?_
          obtain ⟨ho1, ho2⟩ := hop (by omega) (by omega)
          refine w_cv (as := [.ref F, .int (zn (zbs c))]) (r := []) (ykc_7 (e := (6, .invokevirtual 51, 0)) rfl) rfl rfl rfl rfl (zc_release (b := zbs c) hp hC hW (by omega) (by omega) (by omega)) (fun v1625 ph1626 hv => ?_)
          obtain ⟨rfl, fr, hC2, hW2⟩ := hv
          have hlen := @zrl_len (zbs c) W C
          show zW n D 7 Q 76 [some (.ref F), some (.int (zn c)), some (.int (zn (zbs c)))] [] ph1626
          refine w_load (pc' := 77) (v := .ref F) (m := 1) (ykc_7 (e := (2, .aload_n kF0, 0)) rfl) rfl rfl ?_
          refine w_load (pc' := 78) (v := .int (zn c)) (m := 1) (ykc_7 (e := (2, .iload_n kF1, 0)) rfl) rfl rfl ?_
          refine w_cv (as := [.ref F, .int (zn c)]) (r := []) (ykc_7 (e := (6, .invokevirtual 82, 0)) rfl) rfl rfl rfl rfl (zc_holdF ((fr.1 F 2 (by simp <;> omega) (by simp <;> omega)).trans hp.2.1) hW2.1 (by omega)) (fun v1627 ph1628 hv => ?_)
          obtain ⟨rfl, fh, g1_fh, g2_fh, g3_fh⟩ := hv
          show zW n D 7 Q 81 [some (.ref F), some (.int (zn c)), some (.int (zn (zbs c)))] [] ph1628
          refine w_load (pc' := 82) (v := .ref F) (m := 1) (ykc_7 (e := (2, .aload_n kF0, 0)) rfl) rfl rfl ?_
          refine w_alu (pc' := 83) (st' := [.int (Int32.ofInt 1), .ref F]) (ykc_7 (e := (0, .iconst 1, 0)) rfl) rfl rfl ?_
          refine w_pf (pc' := 86) (ykc_7 (e := (5, .putfield 43, 0)) rfl) rfl rfl (fun ph1630 u1629 => ?_)
          refine w_alu (pc' := 87) (st' := [.int (Int32.ofInt 1)]) (ykc_7 (e := (0, .iconst 1, 0)) rfl) rfl rfl ?_
          refine w_ret (v := (some (.int (Int32.ofInt 1)))) (ykc_7 (e := (7, .ireturn, 0)) rfl) zr_z ?_
          have hst := zstep_o (C := C) (W := W) (cm := cm) (dp := dp) (dg := 0) ho1 (fun q => by omega)
          rw [ho2, if_neg (show ¬ zbs c = 1 by omega)] at hst
          have f9 : zFr [] [(F, 7)] _ ph1630 := zFr_st u1629 (Or.inr (by simp))
          obtain ⟨hwo, hvo9⟩ := zwo_op ho1
          have hW3 := zFw_c (o := zop c) hW2 g1_fh (by rw [hwo]; exact g2_fh) g3_fh hvo9
          have h7 : zc ph1630 F 7 = some (.int (zI true)) := u1629.1
          rw [hQ, zi1]
          exact zTk1 (show zFr [F + 1, F + 2, F + 3] [(F, 1), (F, 3), (F, 5), (F, 6), (F, 7)] ph ph1630 from (zFr_trans (zFr_trans (zFr_mono fr (by simp) (by simp)) (zFr_mono fh (by simp) (by simp))) (zFr_st u1629 (Or.inr (by simp))))) (hst) (zFs_mk ⟨zFp_F f9 (by simp) (by simp) (zFp_F fh (by simp) (by simp) (zFp_F fr (by simp) (by simp) hp)), zFc_F f9 (by simp) (by simp) (zFc_F fh (by simp) (by simp) hC2), zFw_F f9 (by simp) (by simp) hW3, zFb_F f9 (by simp) (by simp) (zFb_F fh (by simp) (by simp) (zFb_F fr (by simp) (by simp) hb)), ⟨((u1629.2.1 F 5 (fun q => absurd q.2 (by decide))).trans ((fh.1 F 5 (by simp <;> omega) (by simp <;> omega)).trans ((fr.1 F 5 (by simp <;> omega) (by simp <;> omega)).trans hd.1))), hd.2.1, ((u1629.2.1 F 6 (fun q => absurd q.2 (by decide))).trans ((fh.1 F 6 (by simp <;> omega) (by simp <;> omega)).trans ((fr.1 F 6 (by simp <;> omega) (by simp <;> omega)).trans hd.2.2.1))), by decide, h7⟩⟩)
        · refine w_load (pc' := 48) (v := .ref F) (m := 1) (ykc_7 (e := (2, .aload_n kF0, 0)) rfl) rfl rfl ?_
          refine w_gf (pc' := 51) (v := .ref (F + 3)) (ykc_7 (e := (5, .getfield 16, 0)) rfl) rfl hp.2.2 rfl ?_
          refine w_load (pc' := 52) (v := .ref F) (m := 1) (ykc_7 (e := (2, .aload_n kF0, 0)) rfl) rfl rfl ?_
          refine w_gf (pc' := 55) (v := .int (zn dp)) (ykc_7 (e := (5, .getfield 47, 0)) rfl) rfl hd.1 rfl ?_
          refine w_balk (pc' := 56) (k := dp) (ykc_7 (e := (5, .baload, 0)) rfl) (hb dp (by omega)) (by omega) rfl ?_
          refine w_beq (ykc_7 (e := (4, .ifCond .eq 5, 61)) rfl) rfl (fun b1631 => ?_) (fun b1631 => ?_)
          · refine w_load (pc' := 62) (v := .ref F) (m := 1) (ykc_7 (e := (2, .aload_n kF0, 0)) rfl) rfl rfl ?_
            refine w_gf (pc' := 65) (v := .ref (F + 3)) (ykc_7 (e := (5, .getfield 16, 0)) rfl) rfl hp.2.2 rfl ?_
            refine w_load (pc' := 66) (v := .ref F) (m := 1) (ykc_7 (e := (2, .aload_n kF0, 0)) rfl) rfl rfl ?_
            refine w_gf (pc' := 69) (v := .int (zn dp)) (ykc_7 (e := (5, .getfield 47, 0)) rfl) rfl hd.1 rfl ?_
            refine w_alu (pc' := 70) (st' := [.int (Int32.ofInt 1), .int (zn dp), .ref (F + 3)]) (ykc_7 (e := (0, .iconst 1, 0)) rfl) rfl rfl ?_
            refine w_bas (pc' := 71) (k := dp) (ykc_7 (e := (5, .bastore, 0)) rfl) (by omega) rfl (fun ph1633 u1632 => ?_)
            refine w_load (pc' := 72) (v := .ref F) (m := 1) (ykc_7 (e := (2, .aload_n kF0, 0)) rfl) rfl rfl ?_
            refine w_load (pc' := 73) (v := .int (zn (zbs c))) (m := 1) (ykc_7 (e := (2, .iload_n kF2, 0)) rfl) rfl rfl ?_
            obtain ⟨ho1, ho2⟩ := hop (by omega) (by omega)
            have f1 : zFr [F + 3] [] ph ph1633 := zFr_st u1632 (Or.inl (by simp))
            refine w_cv (as := [.ref F, .int (zn (zbs c))]) (r := []) (ykc_7 (e := (6, .invokevirtual 51, 0)) rfl) rfl rfl rfl rfl (zc_release (b := zbs c) (zFp_F f1 (by simp) (by simp) hp) (zFc_F f1 (by simp) (by simp) hC) (zFw_F f1 (by simp) (by simp) hW) (by omega) (by omega) (by omega)) (fun v1634 ph1635 hv => ?_)
            obtain ⟨rfl, fr, hC2, hW2⟩ := hv
            have hlen := @zrl_len (zbs c) W C
            show zW n D 7 Q 76 [some (.ref F), some (.int (zn c)), some (.int (zn (zbs c)))] [] ph1635
            refine w_load (pc' := 77) (v := .ref F) (m := 1) (ykc_7 (e := (2, .aload_n kF0, 0)) rfl) rfl rfl ?_
            refine w_load (pc' := 78) (v := .int (zn c)) (m := 1) (ykc_7 (e := (2, .iload_n kF1, 0)) rfl) rfl rfl ?_
            refine w_cv (as := [.ref F, .int (zn c)]) (r := []) (ykc_7 (e := (6, .invokevirtual 82, 0)) rfl) rfl rfl rfl rfl (zc_holdF ((fr.1 F 2 (by simp <;> omega) (by simp <;> omega)).trans ((u1632.2.1 F 2 (fun q => by have q2 := q.1; omega)).trans hp.2.1)) hW2.1 (by omega)) (fun v1636 ph1637 hv => ?_)
            obtain ⟨rfl, fh, g1_fh, g2_fh, g3_fh⟩ := hv
            show zW n D 7 Q 81 [some (.ref F), some (.int (zn c)), some (.int (zn (zbs c)))] [] ph1637
            refine w_load (pc' := 82) (v := .ref F) (m := 1) (ykc_7 (e := (2, .aload_n kF0, 0)) rfl) rfl rfl ?_
            refine w_alu (pc' := 83) (st' := [.int (Int32.ofInt 1), .ref F]) (ykc_7 (e := (0, .iconst 1, 0)) rfl) rfl rfl ?_
            refine w_pf (pc' := 86) (ykc_7 (e := (5, .putfield 43, 0)) rfl) rfl rfl (fun ph1639 u1638 => ?_)
            refine w_alu (pc' := 87) (st' := [.int (Int32.ofInt 1)]) (ykc_7 (e := (0, .iconst 1, 0)) rfl) rfl rfl ?_
            refine w_ret (v := (some (.int (Int32.ofInt 1)))) (ykc_7 (e := (7, .ireturn, 0)) rfl) zr_z ?_
            have hcm : cm dp = false := b1631
            have hst := zstep_o (C := C) (W := W) (cm := cm) (dp := dp) (dg := 0) ho1 (fun q => by rw [hcm] at q; exact absurd q.2 (by decide))
            rw [ho2, if_pos (show zbs c = 1 by omega)] at hst
            have hbb : zFb ph1639 F (zub cm dp true) := fun i hi => by
              refine Eq.trans (u1638.2.1 (F + 3) i (fun q => by have q1 := q.1; omega)) ((fh.1 (F + 3) i (by simp) (by simp)).trans ((fr.1 (F + 3) i (by simp) (by simp)).trans ?_))
              by_cases e : i = dp
              · subst e; rw [zub_e]; exact u1632.1
              · rw [zub_n e]; exact (u1632.2.1 (F + 3) i (fun q => e q.2)).trans (hb i hi)
            have f9 : zFr [] [(F, 7)] _ ph1639 := zFr_st u1638 (Or.inr (by simp))
            obtain ⟨hwo, hvo9⟩ := zwo_op ho1
            have hW3 := zFw_c (o := zop c) hW2 g1_fh (by rw [hwo]; exact g2_fh) g3_fh hvo9
            have h7 : zc ph1639 F 7 = some (.int (zI true)) := u1638.1
            rw [hQ, zi1]
            exact zTk1 (show zFr [F + 1, F + 2, F + 3] [(F, 1), (F, 3), (F, 5), (F, 6), (F, 7)] ph ph1639 from (zFr_trans (zFr_trans (zFr_trans (zFr_st u1632 (Or.inl (by simp))) (zFr_mono fr (by simp) (by simp))) (zFr_mono fh (by simp) (by simp))) (zFr_st u1638 (Or.inr (by simp))))) (hst) (zFs_mk ⟨zFp_F f9 (by simp) (by simp) (zFp_F fh (by simp) (by simp) (zFp_F fr (by simp) (by simp) (zFp_F f1 (by simp) (by simp) hp))), zFc_F f9 (by simp) (by simp) (zFc_F fh (by simp) (by simp) hC2), zFw_F f9 (by simp) (by simp) hW3, hbb, ⟨((u1638.2.1 F 5 (fun q => absurd q.2 (by decide))).trans ((fh.1 F 5 (by simp <;> omega) (by simp <;> omega)).trans ((fr.1 F 5 (by simp <;> omega) (by simp <;> omega)).trans ((u1632.2.1 F 5 (fun q => by have q2 := q.1; omega)).trans hd.1)))), hd.2.1, ((u1638.2.1 F 6 (fun q => absurd q.2 (by decide))).trans ((fh.1 F 6 (by simp <;> omega) (by simp <;> omega)).trans ((fr.1 F 6 (by simp <;> omega) (by simp <;> omega)).trans ((u1632.2.1 F 6 (fun q => by have q2 := q.1; omega)).trans hd.2.2.1)))), by decide, h7⟩⟩)
          · refine w_alu (pc' := 60) (st' := [.int (Int32.ofInt 0)]) (ykc_7 (e := (0, .iconst 0, 0)) rfl) rfl rfl ?_
            refine w_ret (v := (some (.int (Int32.ofInt 0)))) (ykc_7 (e := (7, .ireturn, 0)) rfl) zr_z ?_
            obtain ⟨ho1, ho2⟩ := hop (by omega) (by omega)
            rw [hQ, zi0]
            exact ⟨zFr_refl, ⟨cm, hb⟩, Or.inr ⟨zstep_x (fun q => absurd q (by rw [hnd]; decide)) (fun q => absurd q (by omega)) (fun _ => ⟨by omega, b1631⟩), rfl⟩⟩
  · refine w_load (pc' := 7) (v := .ref F) (m := 1) (ykc_7 (e := (2, .aload_n kF0, 0)) rfl) rfl rfl ?_
    have ec : c = 41 := by omega
    subst ec
    refine w_cv (as := [.ref F]) (r := []) (ykc_7 (e := (6, .invokevirtual 85, 0)) rfl) rfl rfl rfl rfl (zc_close hF0 h40) (fun v1640 ph1641 hv => ?_)
    rcases hv with ⟨fcl, h9cl, ⟨s, hs, rfl, hcl⟩ | ⟨hs, rfl⟩⟩
    · show zW n D 7 Q 10 [some (.ref F), some (.int (zn 41)), none] [.int (zI true)] ph1641
      refine w_ret (v := (some (.int (zI true)))) (ykc_7 (e := (7, .ireturn, 0)) rfl) zr_z ?_
      rw [hQ]
      exact ⟨fcl, h9cl, Or.inl ⟨s, hs, rfl, hcl⟩⟩
    · show zW n D 7 Q 10 [some (.ref F), some (.int (zn 41)), none] [.int (zI false)] ph1641
      refine w_ret (v := (some (.int (zI false)))) (ykc_7 (e := (7, .ireturn, 0)) rfl) zr_z ?_
      rw [hQ]
      exact ⟨fcl, h9cl, Or.inr ⟨hs, rfl⟩⟩
    
theorem zstep_dg {C W : List Nat} {cm : Nat → Bool} {dp dg c : Nat} {wt : Bool} (h : zdi c = false) : zstep c (C, W, cm, dp, dg, wt) = zstep c (C, W, cm, dp, 0, wt) := by
  unfold zstep
  simp [h]
theorem zc_take {ph : pm_H} {F : Nat} {C W : List Nat} {cm : Nat → Bool} {dp dg : Nat} {wt : Bool} {c : Nat} (hc : c < 256) (hiv : zIv (C, W, cm, dp, dg, wt)) (hF : zFs ph F (C, W, cm, dp, dg, wt)) (h40 : C.length + W.length < 40) : zM 4 [.ref F, .int (zn c)] ph (fun v0 q => zFf F ph q ∧ (∃ cm9, zFb q F cm9) ∧ ((∃ s, zstep c (C, W, cm, dp, dg, wt) = some s ∧ v0 = some (.int (zI true)) ∧ zFs q F s) ∨ (zstep c (C, W, cm, dp, dg, wt) = none ∧ v0 = some (.int (zI false))))) := by
  obtain ⟨Q, hQ⟩ : ∃ Q : Option Value → pm_H → Prop, Q = (fun v0 q => zFf F ph q ∧ (∃ cm9, zFb q F cm9) ∧ ((∃ s, zstep c (C, W, cm, dp, dg, wt) = some s ∧ v0 = some (.int (zI true)) ∧ zFs q F s) ∨ (zstep c (C, W, cm, dp, dg, wt) = none ∧ v0 = some (.int (zI false))))) := ⟨_, rfl⟩
  rw [← hQ]
  refine zM_mk fun n D => ?_
  show zW n D 4 Q 0 [some (.ref F), some (.int (zn c))] [] ph
  have c_0 : ((Int8.ofInt 48).toInt32).toInt = 48 := by decide
  have c_1 : ((Int8.ofInt 57).toInt32).toInt = 57 := by decide
  have c_2 : (Int32.ofInt 0).toInt = 0 := by decide
  have hF0 := hF
  obtain ⟨hp, hC, hW, hb, hd⟩ := hF
  have hp : zFp ph F := hp
  have hC : zFc ph F C := hC
  have hW : zFw ph F W := hW
  have hb : zFb ph F cm := hb
  have hd : zFd ph F dp dg wt := hd
  have tdp := znt (k := dp) (by have := hd.2.1; omega)
  have tdg := znt (k := dg) (by have := hd.2.2.2.1; omega)
  have hdp4 := hd.2.1
  have hdg3 := hd.2.2.2.1
  have tCl := znt (k := C.length) (by omega)
  have tWl := znt (k := W.length) (by omega)
  have tc := znt (k := c) (by omega)
  refine w_load (pc' := 1) (v := .int (zn c)) (m := 1) (ykc_4 (e := (2, .iload_n kF1, 0)) rfl) rfl rfl ?_
  refine w_push (pc' := 3) (v := .int ((Int8.ofInt 48).toInt32)) (m := 2) (ykc_4 (e := (1, .bipush 48, 0)) rfl) rfl rfl ?_
  refine w_ilt (ykc_4 (e := (4, .if_icmp .lt 18, 21)) rfl) rfl (fun b1642 => ?_) (fun b1642 => ?_)
  · refine w_load (pc' := 22) (v := .ref F) (m := 1) (ykc_4 (e := (2, .aload_n kF0, 0)) rfl) rfl rfl ?_
    refine w_alu (pc' := 23) (st' := [.int (Int32.ofInt 0), .ref F]) (ykc_4 (e := (0, .iconst 0, 0)) rfl) rfl rfl ?_
    refine w_pf (pc' := 26) (ykc_4 (e := (5, .putfield 60, 0)) rfl) rfl rfl (fun ph1644 u1643 => ?_)
    refine w_load (pc' := 27) (v := .ref F) (m := 1) (ykc_4 (e := (2, .aload_n kF0, 0)) rfl) rfl rfl ?_
    refine w_gf (pc' := 30) (v := .int (zI wt)) (ykc_4 (e := (5, .getfield 43, 0)) rfl) rfl ((u1643.2.1 F 7 (fun q => absurd q.2 (by decide))).trans hd.2.2.2.2) rfl ?_
    refine w_beq (ykc_4 (e := (4, .ifCond .eq 11, 41)) rfl) rfl (fun b1645 => ?_) (fun b1645 => ?_)
    · refine w_load (pc' := 42) (v := .ref F) (m := 1) (ykc_4 (e := (2, .aload_n kF0, 0)) rfl) rfl rfl ?_
      refine w_load (pc' := 43) (v := .int (zn c)) (m := 1) (ykc_4 (e := (2, .iload_n kF1, 0)) rfl) rfl rfl ?_
      have hnd : zdi c = false := zdi_f (by omega)
      have hwt : wt = false := b1645
      subst hwt
      have f1 : zFr [] [(F, 6)] ph ph1644 := zFr_st u1643 (Or.inr (by simp))
      have hF1 : zFs ph1644 F (C, W, cm, dp, 0, false) := zFs_mk ⟨zFp_F f1 (by simp) (by simp) hp, zFc_F f1 (by simp) (by simp) hC, zFw_F f1 (by simp) (by simp) hW, zFb_F f1 (by simp) (by simp) hb, ⟨(f1.1 F 5 (by simp) (by simp)).trans hd.1, hd.2.1, u1643.1, by decide, (f1.1 F 7 (by simp) (by simp)).trans hd.2.2.2.2⟩⟩
      rw [zstep_dg hnd] at hQ
      refine w_cv (as := [.ref F, .int (zn c)]) (r := []) (ykc_4 (e := (6, .invokevirtual 79, 0)) rfl) rfl rfl rfl rfl (zc_takeO hF1 h40 hc hnd) (fun v1646 ph1647 hv => ?_)
      rcases hv with ⟨ff, h9f, ⟨s, hs, rfl, hs2⟩ | ⟨hs, rfl⟩⟩
      · show zW n D 4 Q 46 [some (.ref F), some (.int (zn c))] [.int (zI true)] ph1647
        refine w_ret (v := (some (.int (zI true)))) (ykc_4 (e := (7, .ireturn, 0)) rfl) zr_z ?_
        rw [hQ]
        exact ⟨zFr_trans (zFr_mono f1 (by simp) (by simp)) ff, h9f, Or.inl ⟨s, hs, rfl, hs2⟩⟩
      · show zW n D 4 Q 46 [some (.ref F), some (.int (zn c))] [.int (zI false)] ph1647
        refine w_ret (v := (some (.int (zI false)))) (ykc_4 (e := (7, .ireturn, 0)) rfl) zr_z ?_
        rw [hQ]
        exact ⟨zFr_trans (zFr_mono f1 (by simp) (by simp)) ff, h9f, Or.inr ⟨hs, rfl⟩⟩
      
    · refine w_load (pc' := 34) (v := .ref F) (m := 1) (ykc_4 (e := (2, .aload_n kF0, 0)) rfl) rfl rfl ?_
      refine w_load (pc' := 35) (v := .int (zn c)) (m := 1) (ykc_4 (e := (2, .iload_n kF1, 0)) rfl) rfl rfl ?_
      have hnd : zdi c = false := zdi_f (by omega)
      have hwt : wt = true := b1645
      subst hwt
      have f1 : zFr [] [(F, 6)] ph ph1644 := zFr_st u1643 (Or.inr (by simp))
      have hF1 : zFs ph1644 F (C, W, cm, dp, 0, true) := zFs_mk ⟨zFp_F f1 (by simp) (by simp) hp, zFc_F f1 (by simp) (by simp) hC, zFw_F f1 (by simp) (by simp) hW, zFb_F f1 (by simp) (by simp) hb, ⟨(f1.1 F 5 (by simp) (by simp)).trans hd.1, hd.2.1, u1643.1, by decide, (f1.1 F 7 (by simp) (by simp)).trans hd.2.2.2.2⟩⟩
      rw [zstep_dg hnd] at hQ
      refine w_cv (as := [.ref F, .int (zn c)]) (r := []) (ykc_4 (e := (6, .invokevirtual 76, 0)) rfl) rfl rfl rfl rfl (zc_takeT hc hnd hF1 h40) (fun v1648 ph1649 hv => ?_)
      rcases hv with ⟨ff, h9f, ⟨s, hs, rfl, hs2⟩ | ⟨hs, rfl⟩⟩
      · show zW n D 4 Q 38 [some (.ref F), some (.int (zn c))] [.int (zI true)] ph1649
        refine w_br (pc' := 46) (st' := [.int (zI true)]) (ykc_4 (e := (4, .goto 8, 46)) rfl) rfl ?_
        refine w_ret (v := (some (.int (zI true)))) (ykc_4 (e := (7, .ireturn, 0)) rfl) zr_z ?_
        rw [hQ]
        exact ⟨zFr_trans (zFr_mono f1 (by simp) (by simp)) ff, h9f, Or.inl ⟨s, hs, rfl, hs2⟩⟩
      · show zW n D 4 Q 38 [some (.ref F), some (.int (zn c))] [.int (zI false)] ph1649
        refine w_br (pc' := 46) (st' := [.int (zI false)]) (ykc_4 (e := (4, .goto 8, 46)) rfl) rfl ?_
        refine w_ret (v := (some (.int (zI false)))) (ykc_4 (e := (7, .ireturn, 0)) rfl) zr_z ?_
        rw [hQ]
        exact ⟨zFr_trans (zFr_mono f1 (by simp) (by simp)) ff, h9f, Or.inr ⟨hs, rfl⟩⟩
      
  · refine w_load (pc' := 7) (v := .int (zn c)) (m := 1) (ykc_4 (e := (2, .iload_n kF1, 0)) rfl) rfl rfl ?_
    refine w_push (pc' := 9) (v := .int ((Int8.ofInt 57).toInt32)) (m := 2) (ykc_4 (e := (1, .bipush 57, 0)) rfl) rfl rfl ?_
    refine w_igt (ykc_4 (e := (4, .if_icmp .gt 12, 21)) rfl) rfl (fun b1650 => ?_) (fun b1650 => ?_)
    · refine w_load (pc' := 22) (v := .ref F) (m := 1) (ykc_4 (e := (2, .aload_n kF0, 0)) rfl) rfl rfl ?_
      refine w_alu (pc' := 23) (st' := [.int (Int32.ofInt 0), .ref F]) (ykc_4 (e := (0, .iconst 0, 0)) rfl) rfl rfl ?_
      refine w_pf (pc' := 26) (ykc_4 (e := (5, .putfield 60, 0)) rfl) rfl rfl (fun ph1652 u1651 => ?_)
      refine w_load (pc' := 27) (v := .ref F) (m := 1) (ykc_4 (e := (2, .aload_n kF0, 0)) rfl) rfl rfl ?_
      refine w_gf (pc' := 30) (v := .int (zI wt)) (ykc_4 (e := (5, .getfield 43, 0)) rfl) rfl ((u1651.2.1 F 7 (fun q => absurd q.2 (by decide))).trans hd.2.2.2.2) rfl ?_
      refine w_beq (ykc_4 (e := (4, .ifCond .eq 11, 41)) rfl) rfl (fun b1653 => ?_) (fun b1653 => ?_)
      · refine w_load (pc' := 42) (v := .ref F) (m := 1) (ykc_4 (e := (2, .aload_n kF0, 0)) rfl) rfl rfl ?_
        refine w_load (pc' := 43) (v := .int (zn c)) (m := 1) (ykc_4 (e := (2, .iload_n kF1, 0)) rfl) rfl rfl ?_
        have hnd : zdi c = false := zdi_f (by omega)
        have hwt : wt = false := b1653
        subst hwt
        have f1 : zFr [] [(F, 6)] ph ph1652 := zFr_st u1651 (Or.inr (by simp))
        have hF1 : zFs ph1652 F (C, W, cm, dp, 0, false) := zFs_mk ⟨zFp_F f1 (by simp) (by simp) hp, zFc_F f1 (by simp) (by simp) hC, zFw_F f1 (by simp) (by simp) hW, zFb_F f1 (by simp) (by simp) hb, ⟨(f1.1 F 5 (by simp) (by simp)).trans hd.1, hd.2.1, u1651.1, by decide, (f1.1 F 7 (by simp) (by simp)).trans hd.2.2.2.2⟩⟩
        rw [zstep_dg hnd] at hQ
        refine w_cv (as := [.ref F, .int (zn c)]) (r := []) (ykc_4 (e := (6, .invokevirtual 79, 0)) rfl) rfl rfl rfl rfl (zc_takeO hF1 h40 hc hnd) (fun v1654 ph1655 hv => ?_)
        rcases hv with ⟨ff, h9f, ⟨s, hs, rfl, hs2⟩ | ⟨hs, rfl⟩⟩
        · show zW n D 4 Q 46 [some (.ref F), some (.int (zn c))] [.int (zI true)] ph1655
          refine w_ret (v := (some (.int (zI true)))) (ykc_4 (e := (7, .ireturn, 0)) rfl) zr_z ?_
          rw [hQ]
          exact ⟨zFr_trans (zFr_mono f1 (by simp) (by simp)) ff, h9f, Or.inl ⟨s, hs, rfl, hs2⟩⟩
        · show zW n D 4 Q 46 [some (.ref F), some (.int (zn c))] [.int (zI false)] ph1655
          refine w_ret (v := (some (.int (zI false)))) (ykc_4 (e := (7, .ireturn, 0)) rfl) zr_z ?_
          rw [hQ]
          exact ⟨zFr_trans (zFr_mono f1 (by simp) (by simp)) ff, h9f, Or.inr ⟨hs, rfl⟩⟩
        
      · refine w_load (pc' := 34) (v := .ref F) (m := 1) (ykc_4 (e := (2, .aload_n kF0, 0)) rfl) rfl rfl ?_
        refine w_load (pc' := 35) (v := .int (zn c)) (m := 1) (ykc_4 (e := (2, .iload_n kF1, 0)) rfl) rfl rfl ?_
        have hnd : zdi c = false := zdi_f (by omega)
        have hwt : wt = true := b1653
        subst hwt
        have f1 : zFr [] [(F, 6)] ph ph1652 := zFr_st u1651 (Or.inr (by simp))
        have hF1 : zFs ph1652 F (C, W, cm, dp, 0, true) := zFs_mk ⟨zFp_F f1 (by simp) (by simp) hp, zFc_F f1 (by simp) (by simp) hC, zFw_F f1 (by simp) (by simp) hW, zFb_F f1 (by simp) (by simp) hb, ⟨(f1.1 F 5 (by simp) (by simp)).trans hd.1, hd.2.1, u1651.1, by decide, (f1.1 F 7 (by simp) (by simp)).trans hd.2.2.2.2⟩⟩
        rw [zstep_dg hnd] at hQ
        refine w_cv (as := [.ref F, .int (zn c)]) (r := []) (ykc_4 (e := (6, .invokevirtual 76, 0)) rfl) rfl rfl rfl rfl (zc_takeT hc hnd hF1 h40) (fun v1656 ph1657 hv => ?_)
        rcases hv with ⟨ff, h9f, ⟨s, hs, rfl, hs2⟩ | ⟨hs, rfl⟩⟩
        · show zW n D 4 Q 38 [some (.ref F), some (.int (zn c))] [.int (zI true)] ph1657
          refine w_br (pc' := 46) (st' := [.int (zI true)]) (ykc_4 (e := (4, .goto 8, 46)) rfl) rfl ?_
          refine w_ret (v := (some (.int (zI true)))) (ykc_4 (e := (7, .ireturn, 0)) rfl) zr_z ?_
          rw [hQ]
          exact ⟨zFr_trans (zFr_mono f1 (by simp) (by simp)) ff, h9f, Or.inl ⟨s, hs, rfl, hs2⟩⟩
        · show zW n D 4 Q 38 [some (.ref F), some (.int (zn c))] [.int (zI false)] ph1657
          refine w_br (pc' := 46) (st' := [.int (zI false)]) (ykc_4 (e := (4, .goto 8, 46)) rfl) rfl ?_
          refine w_ret (v := (some (.int (zI false)))) (ykc_4 (e := (7, .ireturn, 0)) rfl) zr_z ?_
          rw [hQ]
          exact ⟨zFr_trans (zFr_mono f1 (by simp) (by simp)) ff, h9f, Or.inr ⟨hs, rfl⟩⟩
        
    · refine w_load (pc' := 13) (v := .ref F) (m := 1) (ykc_4 (e := (2, .aload_n kF0, 0)) rfl) rfl rfl ?_
      refine w_load (pc' := 14) (v := .int (zn c)) (m := 1) (ykc_4 (e := (2, .iload_n kF1, 0)) rfl) rfl rfl ?_
      refine w_push (pc' := 16) (v := .int ((Int8.ofInt 48).toInt32)) (m := 2) (ykc_4 (e := (1, .bipush 48, 0)) rfl) rfl rfl ?_
      have e1658 : (zn c) - ((Int8.ofInt 48).toInt32) = zn (c - 48) := zsubN (a := c) (b := 48) tc c_0 (by omega)
      have te1658 := znt (k := c - 48) (by omega)
      refine w_alu (pc' := 17) (st' := [.int (zn (c - 48)), .ref F]) (ykc_4 (e := (0, .isub, 0)) rfl) (by show some ([.int ((zn c) - ((Int8.ofInt 48).toInt32)), .ref F] : List Value) = _; rw [e1658]) rfl ?_
      have e48 : 48 + (c - 48) = c := by omega
      refine w_cv (as := [.ref F, .int (zn (c - 48))]) (r := []) (ykc_4 (e := (6, .invokevirtual 73, 0)) rfl) rfl rfl rfl rfl (zc_takeD (d := c - 48) (by omega) hiv hF0 h40) (fun v1659 ph1660 hv => ?_)
      rcases hv with ⟨ff, h9f, ⟨s, hs, rfl, hs2⟩ | ⟨hs, rfl⟩⟩
      · show zW n D 4 Q 20 [some (.ref F), some (.int (zn c))] [.int (zI true)] ph1660
        refine w_ret (v := (some (.int (zI true)))) (ykc_4 (e := (7, .ireturn, 0)) rfl) zr_z ?_
        rw [e48] at hs
        rw [hQ]
        exact ⟨ff, h9f, Or.inl ⟨s, hs, rfl, hs2⟩⟩
      · show zW n D 4 Q 20 [some (.ref F), some (.int (zn c))] [.int (zI false)] ph1660
        refine w_ret (v := (some (.int (zI false)))) (ykc_4 (e := (7, .ireturn, 0)) rfl) zr_z ?_
        rw [e48] at hs
        rw [hQ]
        exact ⟨ff, h9f, Or.inr ⟨hs, rfl⟩⟩
      
theorem zc_start {ph : pm_H} {F : Nat} {cm : Nat → Bool} (hp : zFp ph F) (hb : zFb ph F cm) : zM 2 [.ref F] ph (fun v0 q => v0 = none ∧ zFf F ph q ∧ zFs q F ([], [], zub cm 0 false, 0, 0, true)) := by
  obtain ⟨Q, hQ⟩ : ∃ Q : Option Value → pm_H → Prop, Q = (fun v0 q => v0 = none ∧ zFf F ph q ∧ zFs q F ([], [], zub cm 0 false, 0, 0, true)) := ⟨_, rfl⟩
  rw [← hQ]
  refine zM_mk fun n D => ?_
  show zW n D 2 Q 0 [some (.ref F)] [] ph
  have c_0 : (Int32.ofInt 0).toInt = 0 := by decide
  have c_1 : (Int32.ofInt 1).toInt = 1 := by decide
  refine w_load (pc' := 1) (v := .ref F) (m := 1) (ykc_2 (e := (2, .aload_n kF0, 0)) rfl) rfl rfl ?_
  refine w_alu (pc' := 2) (st' := [.int (Int32.ofInt 0), .ref F]) (ykc_2 (e := (0, .iconst 0, 0)) rfl) rfl rfl ?_
  refine w_pf (pc' := 5) (ykc_2 (e := (5, .putfield 55, 0)) rfl) rfl rfl (fun ph1662 u1661 => ?_)
  refine w_load (pc' := 6) (v := .ref F) (m := 1) (ykc_2 (e := (2, .aload_n kF0, 0)) rfl) rfl rfl ?_
  refine w_alu (pc' := 7) (st' := [.int (Int32.ofInt 0), .ref F]) (ykc_2 (e := (0, .iconst 0, 0)) rfl) rfl rfl ?_
  refine w_pf (pc' := 10) (ykc_2 (e := (5, .putfield 57, 0)) rfl) rfl rfl (fun ph1664 u1663 => ?_)
  refine w_load (pc' := 11) (v := .ref F) (m := 1) (ykc_2 (e := (2, .aload_n kF0, 0)) rfl) rfl rfl ?_
  refine w_alu (pc' := 12) (st' := [.int (Int32.ofInt 0), .ref F]) (ykc_2 (e := (0, .iconst 0, 0)) rfl) rfl rfl ?_
  refine w_pf (pc' := 15) (ykc_2 (e := (5, .putfield 47, 0)) rfl) rfl rfl (fun ph1666 u1665 => ?_)
  refine w_load (pc' := 16) (v := .ref F) (m := 1) (ykc_2 (e := (2, .aload_n kF0, 0)) rfl) rfl rfl ?_
  refine w_alu (pc' := 17) (st' := [.int (Int32.ofInt 0), .ref F]) (ykc_2 (e := (0, .iconst 0, 0)) rfl) rfl rfl ?_
  refine w_pf (pc' := 20) (ykc_2 (e := (5, .putfield 60, 0)) rfl) rfl rfl (fun ph1668 u1667 => ?_)
  refine w_load (pc' := 21) (v := .ref F) (m := 1) (ykc_2 (e := (2, .aload_n kF0, 0)) rfl) rfl rfl ?_
  refine w_alu (pc' := 22) (st' := [.int (Int32.ofInt 1), .ref F]) (ykc_2 (e := (0, .iconst 1, 0)) rfl) rfl rfl ?_
  refine w_pf (pc' := 25) (ykc_2 (e := (5, .putfield 43, 0)) rfl) rfl rfl (fun ph1670 u1669 => ?_)
  refine w_load (pc' := 26) (v := .ref F) (m := 1) (ykc_2 (e := (2, .aload_n kF0, 0)) rfl) rfl rfl ?_
  refine w_gf (pc' := 29) (v := .ref (F + 3)) (ykc_2 (e := (5, .getfield 16, 0)) rfl) rfl ((u1669.2.1 F 4 (fun q => absurd q.2 (by decide))).trans ((u1667.2.1 F 4 (fun q => absurd q.2 (by decide))).trans ((u1665.2.1 F 4 (fun q => absurd q.2 (by decide))).trans ((u1663.2.1 F 4 (fun q => absurd q.2 (by decide))).trans ((u1661.2.1 F 4 (fun q => absurd q.2 (by decide))).trans hp.2.2))))) rfl ?_
  refine w_alu (pc' := 30) (st' := [.int (Int32.ofInt 0), .ref (F + 3)]) (ykc_2 (e := (0, .iconst 0, 0)) rfl) rfl rfl ?_
  refine w_alu (pc' := 31) (st' := [.int (Int32.ofInt 0), .int (Int32.ofInt 0), .ref (F + 3)]) (ykc_2 (e := (0, .iconst 0, 0)) rfl) rfl rfl ?_
  refine w_bas (pc' := 32) (k := 0) (ykc_2 (e := (5, .bastore, 0)) rfl) (by omega) rfl (fun ph1672 u1671 => ?_)
  refine w_ret (v := none) (ykc_2 (e := (7, .return_, 0)) rfl) (zr_v rfl) ?_
  have ff : zFr [F + 1, F + 2, F + 3] [(F, 1), (F, 3), (F, 5), (F, 6), (F, 7)] ph ph1672 := (show zFr [F + 1, F + 2, F + 3] [(F, 1), (F, 3), (F, 5), (F, 6), (F, 7)] ph ph1672 from (zFr_trans (zFr_trans (zFr_trans (zFr_trans (zFr_trans (zFr_st u1661 (Or.inr (by simp))) (zFr_st u1663 (Or.inr (by simp)))) (zFr_st u1665 (Or.inr (by simp)))) (zFr_st u1667 (Or.inr (by simp)))) (zFr_st u1669 (Or.inr (by simp)))) (zFr_st u1671 (Or.inl (by simp)))))
  rw [hQ]
  refine ⟨rfl, ff, zFs_mk ⟨zFp_F ff (by simp) (by simp) hp, ⟨((u1671.2.1 F 1 (fun q => by have q2 := q.1; omega)).trans ((u1669.2.1 F 1 (fun q => absurd q.2 (by decide))).trans ((u1667.2.1 F 1 (fun q => absurd q.2 (by decide))).trans ((u1665.2.1 F 1 (fun q => absurd q.2 (by decide))).trans ((u1663.2.1 F 1 (fun q => absurd q.2 (by decide))).trans u1661.1))))), fun i c h => by cases h⟩, ⟨((u1671.2.1 F 3 (fun q => by have q2 := q.1; omega)).trans ((u1669.2.1 F 3 (fun q => absurd q.2 (by decide))).trans ((u1667.2.1 F 3 (fun q => absurd q.2 (by decide))).trans ((u1665.2.1 F 3 (fun q => absurd q.2 (by decide))).trans u1663.1)))), fun i c h => by cases h⟩, fun i hi => ?_, ⟨((u1671.2.1 F 5 (fun q => by have q2 := q.1; omega)).trans ((u1669.2.1 F 5 (fun q => absurd q.2 (by decide))).trans ((u1667.2.1 F 5 (fun q => absurd q.2 (by decide))).trans u1665.1))), by decide, ((u1671.2.1 F 6 (fun q => by have q2 := q.1; omega)).trans ((u1669.2.1 F 6 (fun q => absurd q.2 (by decide))).trans u1667.1)), by decide, ((u1671.2.1 F 7 (fun q => by have q2 := q.1; omega)).trans u1669.1)⟩⟩⟩
  by_cases e : i = 0
  · subst e; rw [zub_e]; exact u1671.1
  · rw [zub_n e]; exact ((u1671.2.1 (F + 3) i (fun q => e q.2)).trans ((u1669.2.1 (F + 3) i (fun q => by have q2 := q.1; omega)).trans ((u1667.2.1 (F + 3) i (fun q => by have q2 := q.1; omega)).trans ((u1665.2.1 (F + 3) i (fun q => by have q2 := q.1; omega)).trans ((u1663.2.1 (F + 3) i (fun q => by have q2 := q.1; omega)).trans ((u1661.2.1 (F + 3) i (fun q => by have q2 := q.1; omega)).trans (hb i hi)))))))
theorem zc_default {ph : pm_H} {F : Nat} (hp : zFp ph F) (hC : zFc ph F []) : zM 3 [.ref F] ph (fun v0 q => v0 = none ∧ zFr [F + 1] [(F, 1)] ph q ∧ zFc q F [2004, 1000, 1001]) := by
  obtain ⟨Q, hQ⟩ : ∃ Q : Option Value → pm_H → Prop, Q = (fun v0 q => v0 = none ∧ zFr [F + 1] [(F, 1)] ph q ∧ zFc q F [2004, 1000, 1001]) := ⟨_, rfl⟩
  rw [← hQ]
  refine zM_mk fun n D => ?_
  show zW n D 3 Q 0 [some (.ref F)] [] ph
  have c_0 : ((Int16.ofInt 1000).toInt32).toInt = 1000 := by decide
  have c_1 : ((Int8.ofInt (-45)).toInt32).toInt = -45 := by decide
  have c_2 : ((Int8.ofInt 108).toInt32).toInt = 108 := by decide
  have c_3 : ((Int8.ofInt 98).toInt32).toInt = 98 := by decide
  refine w_load (pc' := 1) (v := .ref F) (m := 1) (ykc_3 (e := (2, .aload_n kF0, 0)) rfl) rfl rfl ?_
  refine w_push (pc' := 4) (v := .int ((Int16.ofInt 1000).toInt32)) (m := 3) (ykc_3 (e := (1, .sipush 1000, 0)) rfl) rfl rfl ?_
  refine w_push (pc' := 6) (v := .ref 1048626) (m := 2) (ykc_3 (e := (1, .ldc 63, 0)) rfl) rfl rfl ?_
  refine w_push (pc' := 8) (v := .int ((Int8.ofInt 108).toInt32)) (m := 2) (ykc_3 (e := (1, .bipush 108, 0)) rfl) rfl rfl ?_
  refine w_cvr (show Nat.blt 1048626 1048576 = false ∧ 1048626 - 1048576 = 50 from ⟨rfl, rfl⟩) (as := [.ref 1048626, .int ((Int8.ofInt 108).toInt32)]) (r := [.int ((Int16.ofInt 1000).toInt32), .ref F]) (ykc_3 (e := (6, .invokevirtual 65, 0)) rfl) rfl rfl rfl rfl ((show zM 308 [.ref 1048626, .int ((Int8.ofInt 108).toInt32)] ph _ from (show (Int8.ofInt 108).toInt32 = zn 108 by decide) ▸ zc_letter (c := 108) (ph := ph) (by decide))) (fun v1673 ph1674 hv => ?_)
  obtain ⟨rfl, hl9⟩ := hv
  obtain rfl := (show _ = some (Value.int (zn 1)) by
    rcases hl9 with ⟨h8, h9⟩ | ⟨h8, h9⟩
    · exact h9
    · exact absurd (show zlt 108 < 8 by decide) h8)
  show zW n D 3 Q 11 [some (.ref F)] [.int (zn 1), .int ((Int16.ofInt 1000).toInt32), .ref F] ph
  have e1675 : ((Int16.ofInt 1000).toInt32) + (zn 1) = zn (1001) := (zaddN (a := 1000) (b := 1) c_0 (znt (by omega)) (by omega)) 
  have te1675 := znt (k := 1001) (by omega)
  refine w_alu (pc' := 12) (st' := [.int (zn (1001)), .ref F]) (ykc_3 (e := (0, .iadd, 0)) rfl) (by rw [← e1675]; rfl) rfl ?_
  refine w_cv (as := [.ref F, .int (zn (1001))]) (r := []) (ykc_3 (e := (6, .invokevirtual 70, 0)) rfl) rfl rfl rfl rfl (zc_emit (k := 0) hp.1 hC.1 (by decide)) (fun v1676 ph1677 hv => ?_)
  obtain ⟨rfl, ea, g1_ea, g2_ea, g3_ea⟩ := hv
  show zW n D 3 Q 15 [some (.ref F)] [] ph1677
  refine w_load (pc' := 16) (v := .ref F) (m := 1) (ykc_3 (e := (2, .aload_n kF0, 0)) rfl) rfl rfl ?_
  refine w_push (pc' := 19) (v := .int ((Int16.ofInt 1000).toInt32)) (m := 3) (ykc_3 (e := (1, .sipush 1000, 0)) rfl) rfl rfl ?_
  refine w_push (pc' := 21) (v := .ref 1048626) (m := 2) (ykc_3 (e := (1, .ldc 63, 0)) rfl) rfl rfl ?_
  refine w_push (pc' := 23) (v := .int ((Int8.ofInt 98).toInt32)) (m := 2) (ykc_3 (e := (1, .bipush 98, 0)) rfl) rfl rfl ?_
  refine w_cvr (show Nat.blt 1048626 1048576 = false ∧ 1048626 - 1048576 = 50 from ⟨rfl, rfl⟩) (as := [.ref 1048626, .int ((Int8.ofInt 98).toInt32)]) (r := [.int ((Int16.ofInt 1000).toInt32), .ref F]) (ykc_3 (e := (6, .invokevirtual 65, 0)) rfl) rfl rfl rfl rfl ((show zM 308 [.ref 1048626, .int ((Int8.ofInt 98).toInt32)] ph1677 _ from (show (Int8.ofInt 98).toInt32 = zn 98 by decide) ▸ zc_letter (c := 98) (ph := ph1677) (by decide))) (fun v1678 ph1679 hv => ?_)
  obtain ⟨rfl, hl9⟩ := hv
  obtain rfl := (show _ = some (Value.int (zn 0)) by
    rcases hl9 with ⟨h8, h9⟩ | ⟨h8, h9⟩
    · exact h9
    · exact absurd (show zlt 98 < 8 by decide) h8)
  show zW n D 3 Q 26 [some (.ref F)] [.int (zn 0), .int ((Int16.ofInt 1000).toInt32), .ref F] ph1677
  have e1680 : ((Int16.ofInt 1000).toInt32) + (zn 0) = zn (1000) := (zaddN (a := 1000) (b := 0) c_0 (znt (by omega)) (by omega)) 
  have te1680 := znt (k := 1000) (by omega)
  refine w_alu (pc' := 27) (st' := [.int (zn (1000)), .ref F]) (ykc_3 (e := (0, .iadd, 0)) rfl) (by rw [← e1680]; rfl) rfl ?_
  refine w_cv (as := [.ref F, .int (zn (1000))]) (r := []) (ykc_3 (e := (6, .invokevirtual 70, 0)) rfl) rfl rfl rfl rfl (zc_emit (k := 1) ((ea.1 F 0 (by simp <;> omega) (by simp <;> omega)).trans hp.1) g1_ea (by decide)) (fun v1681 ph1682 hv => ?_)
  obtain ⟨rfl, eb, g1_eb, g2_eb, g3_eb⟩ := hv
  show zW n D 3 Q 30 [some (.ref F)] [] ph1682
  refine w_load (pc' := 31) (v := .ref F) (m := 1) (ykc_3 (e := (2, .aload_n kF0, 0)) rfl) rfl rfl ?_
  refine w_push (pc' := 33) (v := .int ((Int8.ofInt (-45)).toInt32)) (m := 2) (ykc_3 (e := (1, .bipush (-45), 0)) rfl) rfl rfl ?_
  refine w_cv (as := [.ref F, .int ((Int8.ofInt (-45)).toInt32)]) (r := []) (ykc_3 (e := (6, .invokevirtual 70, 0)) rfl) rfl rfl rfl rfl (zc_emit (k := 2) ((eb.1 F 0 (by simp <;> omega) (by simp <;> omega)).trans ((ea.1 F 0 (by simp <;> omega) (by simp <;> omega)).trans hp.1)) g1_eb (by decide)) (fun v1683 ph1684 hv => ?_)
  obtain ⟨rfl, ec, g1_ec, g2_ec, g3_ec⟩ := hv
  show zW n D 3 Q 36 [some (.ref F)] [] ph1684
  refine w_ret (v := none) (ykc_3 (e := (7, .return_, 0)) rfl) (zr_v rfl) ?_
  rw [hQ]
  have e3 : zcc 2004 = (Int8.ofInt (-45)).toInt32 := by decide
  refine ⟨rfl, zFr_trans ea (zFr_trans eb ec), g1_ec, fun i c h => ?_⟩
  rcases (show i = 0 ∨ i = 1 ∨ i = 2 ∨ 3 ≤ i by omega) with e | e | e | e
  · subst e; cases h; exact ⟨by rw [e3]; exact g2_ec, Or.inr (Or.inl (by decide))⟩
  · subst e; cases h; exact ⟨(g3_ec 1 (by decide)).trans g2_eb, Or.inl (by decide)⟩
  · subst e; cases h; exact ⟨(g3_ec 0 (by decide)).trans ((g3_eb 0 (by decide)).trans g2_ea), Or.inl (by decide)⟩
  · rw [List.getElem?_eq_none (by simpa using e)] at h; cases h
/-- what the class's reading of n signs comes to: so many signs were taken, s then -/
def zOut (n : Nat) (t : Nat → Nat) (s0 : zAs) (z : Int) (Cs : List Nat) : Prop := (n = 0 ∧ z = -1 ∧ Cs = [2004, 1000, 1001]) ∨ (0 < n ∧ n ≤ 40 ∧ z = -1 ∧ ∃ C W cm dg, zrn t s0 0 n = some (C, W, cm, 0, dg, false) ∧ Cs = (zrl 1 W C).2) ∨ (0 < n ∧ ∃ (p : Nat) (s : zAs), p ≤ n ∧ p ≤ 40 ∧ zrn t s0 0 p = some s ∧ z = (p : Int) ∧ ((p < n ∧ p < 40 ∧ zstep (t p) s = none) ∨ (p = 40 ∧ p < n) ∨ (p = n ∧ (s.2.2.2.2.2 = true ∨ 0 < s.2.2.2.1))))
theorem zc_fread {ph : pm_H} {F ln : Nat} {t : Nat → Nat} {cm : Nat → Bool} (hS : zSh ph) (hF : F = 11 ∨ F = 16) (hT : zTc ph ln t) (hp : zFp ph F) (hb : zFb ph F cm) : zM 1 [.ref F, .ref 1] ph (fun v0 q => zFf F ph q ∧ (∃ cm2, zFb q F cm2) ∧ ∃ (z : Int32) (Cs : List Nat), v0 = some (.int z) ∧ zOut ln t ([], [], zub cm 0 false, 0, 0, true) z.toInt Cs ∧ (z.toInt = -1 → zFc q F Cs)) := by
  obtain ⟨Q, hQ⟩ : ∃ Q : Option Value → pm_H → Prop, Q = (fun v0 q => zFf F ph q ∧ (∃ cm2, zFb q F cm2) ∧ ∃ (z : Int32) (Cs : List Nat), v0 = some (.int z) ∧ zOut ln t ([], [], zub cm 0 false, 0, 0, true) z.toInt Cs ∧ (z.toInt = -1 → zFc q F Cs)) := ⟨_, rfl⟩
  rw [← hQ]
  refine zM_mk fun n D => ?_
  show zW n D 1 Q 0 [some (.ref F), some (.ref 1), none, none] [] ph
  have c_0 : ((Int8.ofInt 40).toInt32).toInt = 40 := by decide
  have c_1 : (Int32.ofInt (-1)).toInt = -1 := by decide
  have c_2 : (Int32.ofInt 0).toInt = 0 := by decide
  have c_3 : (Int32.ofInt 1).toInt = 1 := by decide
  have hT0 := hT
  obtain ⟨gn, hn80, gt⟩ := hT
  have tn := znt (k := ln) (by omega)
  refine w_load (pc' := 1) (v := .ref F) (m := 1) (ykc_1 (e := (2, .aload_n kF0, 0)) rfl) rfl rfl ?_
  refine w_cv (as := [.ref F]) (r := []) (ykc_1 (e := (6, .invokevirtual 23, 0)) rfl) rfl rfl rfl rfl (zc_start hp hb) (fun v1685 ph1686 hv => ?_)
  obtain ⟨rfl, f0, hs0⟩ := hv
  have hS1 := zSh_F f0 (by rcases hF with e | e <;> subst e <;> decide +kernel) hS
  have hT1 := zTc_F f0 (by rcases hF with e | e <;> subst e <;> decide) (by rcases hF with e | e <;> subst e <;> decide) (by rcases hF with e | e <;> subst e <;> simp) hT0
  show zW n D 1 Q 4 [some (.ref F), some (.ref 1), none, none] [] ph1686
  refine w_load (pc' := 5) (v := .ref 1) (m := 1) (ykc_1 (e := (2, .aload_n kF1, 0)) rfl) rfl rfl ?_
  refine w_cv (as := [.ref 1]) (r := []) (ykc_1 (e := (6, .invokevirtual 29, 0)) rfl) rfl rfl rfl rfl (zc_tsize hT1.1) (fun v1687 ph1688 hv => ?_)
  obtain ⟨rfl, rfl⟩ := hv
  show zW n D 1 Q 8 [some (.ref F), some (.ref 1), none, none] [.int (zn ln)] ph1686
  refine w_store (pc' := 9) (L' := [some (.ref F), some (.ref 1), some (.int (zn ln)), none]) (st' := []) (m := 1) (ykc_1 (e := (3, .istore_n kF2, 0)) rfl) rfl rfl ?_
  refine w_load (pc' := 10) (v := .int (zn ln)) (m := 1) (ykc_1 (e := (2, .iload_n kF2, 0)) rfl) rfl rfl ?_
  refine w_zne (ykc_1 (e := (4, .ifCond .ne 9, 19)) rfl) rfl (fun b1689 => ?_) (fun b1689 => ?_)
  · refine w_alu (pc' := 20) (st' := [.int (Int32.ofInt 0)]) (ykc_1 (e := (0, .iconst 0, 0)) rfl) rfl rfl ?_
    refine w_store (pc' := 21) (L' := [some (.ref F), some (.ref 1), some (.int (zn ln)), some (.int (Int32.ofInt 0))]) (st' := []) (m := 1) (ykc_1 (e := (3, .istore_n kF3, 0)) rfl) rfl rfl ?_
    have hl : ∀ (n : Nat), ∀ (p : Nat) (s : zAs) (ph2 : pm_H), (p ≤ ln) → (p ≤ 40) → (zrn t ([], [], zub cm 0 false, 0, 0, true) 0 p = some s) → (zFf F ph1686 ph2) → (zFs ph2 F s) → (zIv s) → (zLn s ≤ p) → zW n D 1 Q 21 [some (.ref F), some (.ref 1), some (.int (zn ln)), some (.int (zn p))] [] ph2 := by
      intro n
      induction n using Nat.strongRecOn with
      | ind n ih =>
        intro p s ph2 hpn hp40 hr hf hs hi hlen
        have tp := znt (k := p) (by omega)
        have hS2 := zSh_F hf (by rcases hF with e | e <;> subst e <;> decide +kernel) hS1
        have hT2 := zTc_F hf (by rcases hF with e | e <;> subst e <;> decide) (by rcases hF with e | e <;> subst e <;> decide) (by rcases hF with e | e <;> subst e <;> simp) hT1
        obtain ⟨C, W, cm1, dp, dg, wt⟩ := s
        have hlen : C.length + W.length ≤ p := hlen
        have hd : zFd ph2 F dp dg wt := hs.2.2.2.2
        have tdp := znt (k := dp) (by have := hd.2.1; omega)
        refine w_load (pc' := 22) (v := .int (zn p)) (m := 1) (ykc_1 (e := (2, .iload_n kF3, 0)) rfl) rfl rfl ?_
        refine w_load (pc' := 23) (v := .int (zn ln)) (m := 1) (ykc_1 (e := (2, .iload_n kF2, 0)) rfl) rfl rfl ?_
        refine w_ige (ykc_1 (e := (4, .if_icmp .ge 29, 52)) rfl) rfl (fun b1690 => ?_) (fun b1690 => ?_)
        · refine w_load (pc' := 53) (v := .ref F) (m := 1) (ykc_1 (e := (2, .aload_n kF0, 0)) rfl) rfl rfl ?_
          refine w_gf (pc' := 56) (v := .int (zI wt)) (ykc_1 (e := (5, .getfield 43, 0)) rfl) rfl hd.2.2.2.2 rfl ?_
          refine w_bne (ykc_1 (e := (4, .ifCond .ne 10, 66)) rfl) rfl (fun b1691 => ?_) (fun b1691 => ?_)
          · refine w_load (pc' := 67) (v := .int (zn ln)) (m := 1) (ykc_1 (e := (2, .iload_n kF2, 0)) rfl) rfl rfl ?_
            refine w_ret (v := (some (.int (zn ln)))) (ykc_1 (e := (7, .ireturn, 0)) rfl) (zr_v rfl) ?_
            have ep : p = ln := by omega
            rw [hQ]
            exact ⟨zFr_trans f0 hf, ⟨cm1, hs.2.2.2.1⟩, _, [], rfl, Or.inr (Or.inr ⟨by omega, p, _, hpn, hp40, hr, by omega, Or.inr (Or.inr ⟨ep, Or.inl b1691⟩)⟩), fun q => absurd q (by omega)⟩
          · refine w_load (pc' := 60) (v := .ref F) (m := 1) (ykc_1 (e := (2, .aload_n kF0, 0)) rfl) rfl rfl ?_
            refine w_gf (pc' := 63) (v := .int (zn dp)) (ykc_1 (e := (5, .getfield 47, 0)) rfl) rfl hd.1 rfl ?_
            refine w_zle (ykc_1 (e := (4, .ifCond .le 5, 68)) rfl) rfl (fun b1692 => ?_) (fun b1692 => ?_)
            · refine w_load (pc' := 69) (v := .ref F) (m := 1) (ykc_1 (e := (2, .aload_n kF0, 0)) rfl) rfl rfl ?_
              refine w_alu (pc' := 70) (st' := [.int (Int32.ofInt 1), .ref F]) (ykc_1 (e := (0, .iconst 1, 0)) rfl) rfl rfl ?_
              refine w_cv (as := [.ref F, .int (Int32.ofInt 1)]) (r := []) (ykc_1 (e := (6, .invokevirtual 51, 0)) rfl) rfl rfl rfl rfl (zc_release (b := 1) hs.1 hs.2.1 hs.2.2.1 (by omega) (by decide) (by show C.length + W.length ≤ 40; omega)) (fun v1693 ph1694 hv => ?_)
              obtain ⟨rfl, frl, hcr, hwr⟩ := hv
              show zW n D 1 Q 73 [some (.ref F), some (.ref 1), some (.int (zn ln)), some (.int (zn p))] [] ph1694
              refine w_alu (pc' := 74) (st' := [.int (Int32.ofInt (-1))]) (ykc_1 (e := (0, .iconst (-1), 0)) rfl) rfl rfl ?_
              refine w_ret (v := (some (.int (Int32.ofInt (-1))))) (ykc_1 (e := (7, .ireturn, 0)) rfl) (zr_v rfl) ?_
              have h0 : (Int32.ofInt (-1)).toInt = -1 := by decide
              have ep : p = ln := by omega
              have ew : wt = false := b1691
              have ed : dp = 0 := by omega
              subst ep ew ed
              rw [hQ]
              exact ⟨zFr_trans f0 (zFr_trans hf (zFr_mono frl (by simp) (by simp))), ⟨cm1, zFb_F frl (by simp) (by simp) hs.2.2.2.1⟩, _, _, rfl, Or.inr (Or.inl ⟨by omega, hp40, h0, C, W, cm1, dg, hr, rfl⟩), fun _ => hcr⟩
            · refine w_load (pc' := 67) (v := .int (zn ln)) (m := 1) (ykc_1 (e := (2, .iload_n kF2, 0)) rfl) rfl rfl ?_
              refine w_ret (v := (some (.int (zn ln)))) (ykc_1 (e := (7, .ireturn, 0)) rfl) (zr_v rfl) ?_
              have ep : p = ln := by omega
              rw [hQ]
              exact ⟨zFr_trans f0 hf, ⟨cm1, hs.2.2.2.1⟩, _, [], rfl, Or.inr (Or.inr ⟨by omega, p, _, hpn, hp40, hr, by omega, Or.inr (Or.inr ⟨ep, Or.inr (by show 0 < dp; omega)⟩)⟩), fun q => absurd q (by omega)⟩
        · refine w_load (pc' := 27) (v := .int (zn p)) (m := 1) (ykc_1 (e := (2, .iload_n kF3, 0)) rfl) rfl rfl ?_
          refine w_push (pc' := 29) (v := .int ((Int8.ofInt 40).toInt32)) (m := 2) (ykc_1 (e := (1, .bipush 40, 0)) rfl) rfl rfl ?_
          refine w_ieq (ykc_1 (e := (4, .if_icmp .eq 15, 44)) rfl) rfl (fun b1695 => ?_) (fun b1695 => ?_)
          · refine w_load (pc' := 45) (v := .int (zn p)) (m := 1) (ykc_1 (e := (2, .iload_n kF3, 0)) rfl) rfl rfl ?_
            refine w_ret (v := (some (.int (zn p)))) (ykc_1 (e := (7, .ireturn, 0)) rfl) (zr_v rfl) ?_
            rw [hQ]
            exact ⟨zFr_trans f0 hf, ⟨cm1, hs.2.2.2.1⟩, _, [], rfl, Or.inr (Or.inr ⟨by omega, p, _, hpn, hp40, hr, tp, Or.inr (Or.inl ⟨by omega, by omega⟩)⟩), fun q => absurd q (by omega)⟩
          · refine w_load (pc' := 33) (v := .ref F) (m := 1) (ykc_1 (e := (2, .aload_n kF0, 0)) rfl) rfl rfl ?_
            refine w_load (pc' := 34) (v := .ref 1) (m := 1) (ykc_1 (e := (2, .aload_n kF1, 0)) rfl) rfl rfl ?_
            refine w_load (pc' := 35) (v := .int (zn p)) (m := 1) (ykc_1 (e := (2, .iload_n kF3, 0)) rfl) rfl rfl ?_
            refine w_cv (as := [.ref 1, .int (zn p)]) (r := [.ref F]) (ykc_1 (e := (6, .invokevirtual 35, 0)) rfl) rfl rfl rfl rfl (zc_at hS2 hT2 (k := p) (by omega)) (fun v1696 ph1697 hv => ?_)
            obtain ⟨rfl, xa, rfl, exa⟩ := hv
            have da := @zTi_c ln p t
            have hgt := (gt p (by omega)).2
            obtain rfl : xa = zn (t p) := zn_of (by omega)
            show zW n D 1 Q 38 [some (.ref F), some (.ref 1), some (.int (zn ln)), some (.int (zn p))] [.int (zn (t p)), .ref F] ph2
            refine w_cv (as := [.ref F, .int (zn (t p))]) (r := []) (ykc_1 (e := (6, .invokevirtual 39, 0)) rfl) rfl rfl rfl rfl (zc_take (by omega) hi hs (by omega)) (fun v1698 ph1699 hv => ?_)
            rcases hv with ⟨ft, ⟨cm9, hcm9⟩, ⟨s2, h1, rfl, h2⟩ | ⟨h1, rfl⟩⟩
            · show zW n D 1 Q 41 [some (.ref F), some (.ref 1), some (.int (zn ln)), some (.int (zn p))] [.int (zI true)] ph1699
              refine w_bne (ykc_1 (e := (4, .ifCond .ne 5, 46)) rfl) rfl (fun b1700 => ?_) (fun q => absurd q (by decide))
              have e1701 : (zn p) + Int32.ofInt 1 = zn (p + 1) := (zaddN (a := p) (b := 1) (znt (by omega)) c_3 (by omega))
              have te1701 := znt (k := p + 1) (by omega)
              refine w_store (pc' := 49) (L' := [some (.ref F), some (.ref 1), some (.int (zn ln)), some (.int (zn (p + 1)))]) (st' := []) (m := 3) (ykc_1 (e := (3, .iinc 3 1, 0)) rfl) (by rw [← e1701]; rfl) rfl ?_
              refine w_gb (ykc_1 (e := (4, .goto (-28), 21)) rfl) (fun k1702 hk1702 => ?_)
              obtain ⟨hi2, hl2⟩ := zstep_iv hi h1
              exact ih k1702 hk1702 (p + 1) s2 _ (by omega) (by omega) (by show (zrn t _ 0 p).bind (zstep (t (0 + p))) = some s2; rw [hr, Nat.zero_add]; exact h1) (zFr_trans hf ft) h2 hi2 (Nat.le_trans hl2 (by show C.length + W.length + 1 ≤ p + 1; omega))
            · show zW n D 1 Q 41 [some (.ref F), some (.ref 1), some (.int (zn ln)), some (.int (zn p))] [.int (zI false)] ph1699
              refine w_bne (ykc_1 (e := (4, .ifCond .ne 5, 46)) rfl) rfl (fun q => absurd q (by decide)) (fun b1703 => ?_)
              refine w_load (pc' := 45) (v := .int (zn p)) (m := 1) (ykc_1 (e := (2, .iload_n kF3, 0)) rfl) rfl rfl ?_
              refine w_ret (v := (some (.int (zn p)))) (ykc_1 (e := (7, .ireturn, 0)) rfl) (zr_v rfl) ?_
              rw [hQ]
              exact ⟨zFr_trans f0 (zFr_trans hf ft), ⟨cm9, hcm9⟩, _, [], rfl, Or.inr (Or.inr ⟨by omega, p, _, hpn, hp40, hr, tp, Or.inl ⟨by omega, by omega, h1⟩⟩), fun q => absurd q (by omega)⟩
            
    exact hl n 0 _ ph1686 (Nat.zero_le _) (Nat.zero_le _) rfl zFr_refl hs0 (fun h => absurd h (by show ¬ 1 ≤ 0; decide)) (Nat.le_refl _)
  · refine w_load (pc' := 14) (v := .ref F) (m := 1) (ykc_1 (e := (2, .aload_n kF0, 0)) rfl) rfl rfl ?_
    refine w_cv (as := [.ref F]) (r := []) (ykc_1 (e := (6, .invokevirtual 26, 0)) rfl) rfl rfl rfl rfl (zc_default hs0.1 hs0.2.1) (fun v1704 ph1705 hv => ?_)
    obtain ⟨rfl, fd, hcd⟩ := hv
    show zW n D 1 Q 17 [some (.ref F), some (.ref 1), some (.int (zn ln)), none] [] ph1705
    refine w_alu (pc' := 18) (st' := [.int (Int32.ofInt (-1))]) (ykc_1 (e := (0, .iconst (-1), 0)) rfl) rfl rfl ?_
    refine w_ret (v := (some (.int (Int32.ofInt (-1))))) (ykc_1 (e := (7, .ireturn, 0)) rfl) (zr_v rfl) ?_
    have h0 : (Int32.ofInt (-1)).toInt = -1 := by decide
    rw [hQ]
    exact ⟨zFr_trans f0 (zFr_mono fd (by simp) (by simp)), ⟨_, zFb_F fd (by simp) (by simp) hs0.2.2.2.1⟩, _, [2004, 1000, 1001], rfl, Or.inl ⟨by omega, h0, rfl⟩, fun _ => hcd⟩

/-! the reference reads a RULE, by W; printed by wip/z/z1i_mrule.py -/
def zMD (D j : Nat) (as : List Value) (ph : pm_H) (P : Option Value → pm_H → Prop) : Prop := ∀ r, pm_Rd kK false D j as ph r → P r.1 r.2.1
theorem zMD_mk {D j : Nat} {as : List Value} {ph : pm_H} {P : Option Value → pm_H → Prop} (h : ∀ n, zW n D j P 0 (pm_sl as ++ List.replicate ((pm_sig kK j).2.1 - (pm_sl as).length) none) [] ph) : zMD (D + 1) j as ph P := fun r hr => by
  obtain ⟨-, n, hn⟩ := hr
  exact h n n (Nat.le_refl n) 0 0 r hn
theorem w_cvD {n D j pc pc' aux na fi ci A : Nat} {Q : Option Value → pm_H → Prop} {L : List (Option Value)} {st r as : List Value} {ph : pm_H} {j' : Nat} {P : Option Value → pm_H → Prop} (hc : pm_code kK j pc = some (6, .invokevirtual fi, aux)) (hl : pm_lnk kK (pm_own kK j) fi = some (2, j', na, .ref ci)) (hd : st.drop na = .ref A :: r) (ha : .ref A :: (st.take na).reverse = as) (hp : pc + 3 = pc') (hz : zMD D j' as ph P) (kk : ∀ v ph', P v ph' → zW n D j Q pc' L (v.toList ++ r) ph') : zW n D j Q pc L st ph := fun k hk cs ss r9 hr => by
  subst hp ha
  cases k with
  | zero => exact hr.elim
  | succ k =>
    rw [pm_Tn] at hr
    unfold pm_step at hr
    simp only [hc] at hr
    cases hm : pm_inv kK (pm_own kK j) (.invokevirtual fi) st ph with
    | none => simp only [hm] at hr
    | some q =>
      obtain ⟨j2, as2, r2⟩ := q
      simp only [hm] at hr
      obtain ⟨v, ph', c1, s1, h1, h2⟩ := hr
      unfold pm_inv at hm
      simp only [hl, hd] at hm
      cases hA : pm_at ph A with
      | none => simp only [hA] at hm; cases hm
      | some c =>
        simp only [hA] at hm
        cases c with
        | inl c => simp only at hm; cases hm
        | inr c =>
          obtain ⟨cj, fs⟩ := c
          simp only at hm
          have hm := zbif hm
          cases hm
          exact kk v ph' (hz _ h1) k (by omega) _ _ r9 h2
/-- the codes read so far -/
def zRc (ph : pm_H) (cs : List Nat) : Prop := zc ph 170 24 = some (.int (zn cs.length)) ∧ ∀ i c, cs[i]? = some c → zc ph 180 (cs.length - 1 - i) = some (.int (zn c)) ∧ c ≤ 3000
theorem zRc_F {A : List Nat} {L : List (Nat × Nat)} {p q : pm_H} {cs : List Nat} (f : zFr A L p q) (h1 : 170 ∉ A ∧ 180 ∉ A) (h2 : (170, 24) ∉ L ∧ ∀ i, (180, i) ∉ L) (h : zRc p cs) : zRc q cs := ⟨(f.1 _ _ h1.1 h2.1).trans h.1, fun i c hc => ⟨(f.1 _ _ h1.2 (h2.2 _)).trans (h.2 i c hc).1, (h.2 i c hc).2⟩⟩
theorem zRc_c {p q : pm_H} {cs : List Nat} {c : Nat} (h : zRc p cs) (h1 : zc q 170 24 = some (.int (zn (cs.length + 1)))) (h2 : zc q 180 cs.length = some (.int (zn c))) (h3 : ∀ i, i ≠ cs.length → zc q 180 i = zc p 180 i) (hc : c ≤ 3000) : zRc q (c :: cs) := by
  refine ⟨h1, fun i x hx => ?_⟩
  cases i with
  | zero =>
    cases hx
    exact ⟨by rw [show (c :: cs).length - 1 - 0 = cs.length by simp]; exact h2, hc⟩
  | succ i =>
    have hx : cs[i]? = some x := hx
    have hi := (List.getElem?_eq_some_iff.mp hx).1
    obtain ⟨g1, g2⟩ := h.2 i x hx
    refine ⟨?_, g2⟩
    rw [show (c :: cs).length - 1 - (i + 1) = cs.length - 1 - i by simp; omega, h3 _ (by omega)]
    exact g1
def zRF (p q : pm_H) : Prop := zFr [180] [(170, 15), (170, 17), (170, 24)] p q
def zRp (b ln : Nat) (t : Nat → Nat) (ph : pm_H) (a ns : Nat) (cs : List Nat) : Prop := zTm ph a b ln t ∧ zc ph 170 17 = some (.int (zn ns)) ∧ zRc ph cs
def zRq (b ln : Nat) (t : Nat → Nat) (m a ns : Nat) (cs : List Nat) (ph : pm_H) (v0 : Option Value) (q : pm_H) : Prop := zRF ph q ∧ ∃ f ok a2 cs2, zde b t f m a ns cs = some (ok, a2, cs2) ∧ v0 = some (.int (zI ok)) ∧ zTm q a2 b ln t ∧ zRc q cs2 ∧ (ok = true → zc q 170 17 = some (.int (zn ns))) ∧ a ≤ a2 ∧ cs2.length + a ≤ cs.length + a2
def zIHr (b ln : Nat) (t : Nat → Nat) (D : Nat) : Prop := (∀ (ph : pm_H) (a ns : Nat) (cs : List Nat), zSh ph → zRp b ln t ph a ns cs → ns ≤ 4 → cs.length ≤ a → zMD D 213 [.ref 170] ph (zRq b ln t 3 a ns cs ph)) ∧ ∀ (ph : pm_H) (r : Nat) (x : Int32) (a ns : Nat) (cs : List Nat), zSh ph → x.toInt = (r : Int) → r ≤ 3 → zRp b ln t ph a ns cs → ns ≤ 4 → cs.length ≤ a → zMD D 214 [.ref 170, .int x] ph (zRq b ln t r a ns cs ph)
theorem zRF_S {p q : pm_H} (f : zRF p q) (h : zSh p) : zSh q := zSh_F f (by decide +kernel) h
/-- the signs of a rank's operators -/
theorem zrk_a : (∀ k, k < 3 → zrk2 0 (zls [60, 62, 61] k) = true ∧ zop (zls [60, 62, 61] k) = 2000 + k) ∧ (∀ k, k < 2 → zrk2 1 (zls [43, 45] k) = true ∧ zop (zls [43, 45] k) = 2003 + k) ∧ ∀ k, k < 2 → zrk2 2 (zls [42, 47] k) = true ∧ zop (zls [42, 47] k) = 2005 + k := by decide
theorem zrk_c {c : Nat} : (zrk2 0 c = true → ∃ k, k < 3 ∧ zls [60, 62, 61] k = c) ∧ (zrk2 1 c = true → ∃ k, k < 2 ∧ zls [43, 45] k = c) ∧ (zrk2 2 c = true → ∃ k, k < 2 ∧ zls [42, 47] k = c) := by
  refine ⟨fun h => ?_, fun h => ?_, fun h => ?_⟩
  all_goals
    obtain ⟨h1, h2⟩ := of_decide_eq_true h
    unfold zop at h1 h2
    repeat' split at h1
    all_goals first | exact absurd rfl h1 | skip
    all_goals first | exact ⟨0, by decide, by subst_vars; rfl⟩ | exact ⟨1, by decide, by subst_vars; rfl⟩ | exact ⟨2, by decide, by subst_vars; rfl⟩ | (subst_vars; exact absurd h2 (by decide))
theorem zm_num3 {ph : pm_H} {a b ln : Nat} {t : Nat → Nat} (hS : zSh ph) (hT : zTm ph a b ln t) (hd : a < b) (hdg : zdi (t a) = true) : zM 199 [.ref 170, .int (Int32.ofInt 3)] ph (fun v0 q => zFr [] [(170, 15)] ph q ∧ v0 = some (.int (zn (znv t a (zdc b t a)))) ∧ zTm q (a + zdc b t a) b ln t ∧ znv t a (zdc b t a) < 1000 ∧ 1 ≤ zdc b t a) := by
  obtain ⟨Q, hQ⟩ : ∃ Q : Option Value → pm_H → Prop, Q = (fun v0 q => zFr [] [(170, 15)] ph q ∧ v0 = some (.int (zn (znv t a (zdc b t a)))) ∧ zTm q (a + zdc b t a) b ln t ∧ znv t a (zdc b t a) < 1000 ∧ 1 ≤ zdc b t a) := ⟨_, rfl⟩
  rw [← hQ]
  refine zM_mk fun n D => ?_
  show zW n D 199 Q 0 [some (.ref 170), some (.int (Int32.ofInt 3)), none, none] [] ph
  have c_0 : ((Int8.ofInt 10).toInt32).toInt = 10 := by decide
  have c_1 : ((Int8.ofInt 48).toInt32).toInt = 48 := by decide
  have c_2 : (Int32.ofInt (-1)).toInt = -1 := by decide
  have c_3 : (Int32.ofInt 0).toInt = 0 := by decide
  have c_4 : (Int32.ofInt 1).toInt = 1 := by decide
  have t3 : (Int32.ofInt 3).toInt = 3 := by decide
  have hT0 := hT
  have hd0 : 48 ≤ t a ∧ t a ≤ 57 := of_decide_eq_true hdg
  have e1 : znv t a 1 = t a - 48 := by show 10 * 0 + (t (a + 0) - 48) = _; rw [Nat.add_zero]; omega
  have e2 : znv t a 2 = 10 * znv t a 1 + (t (a + 1) - 48) := rfl
  have e3 : znv t a 3 = 10 * znv t a 2 + (t (a + 1 + 1) - 48) := rfl
  obtain ⟨ga, gb, hab, hbn, hn80, gt⟩ := hT
  have ta := znt (k := a) (by omega)
  have tb := znt (k := b) (by omega)
  refine w_load (pc' := 1) (v := .ref 170) (m := 1) (ykc_199 (e := (2, .aload_n kF0, 0)) rfl) rfl rfl ?_
  refine w_cv (as := [.ref 170]) (r := []) (ykc_199 (e := (6, .invokevirtual 171, 0)) rfl) rfl rfl rfl rfl (zm_isDigit hS hT0) (fun v1517 ph1518 hv => ?_)
  obtain ⟨rfl, rfl⟩ := hv
  show zW n D 199 Q 4 [some (.ref 170), some (.int (Int32.ofInt 3)), none, none] [.int (zI (decide (a < b ∧ 48 ≤ t a ∧ t a ≤ 57)))] ph
  refine w_bne (ykc_199 (e := (4, .ifCond .ne 5, 9)) rfl) rfl (fun b1519 => ?_) (fun q => absurd q (by rw [decide_eq_true (show a < b ∧ 48 ≤ t a ∧ t a ≤ 57 from ⟨hd, hd0⟩)]; decide))
  refine w_alu (pc' := 10) (st' := [.int (Int32.ofInt 0)]) (ykc_199 (e := (0, .iconst 0, 0)) rfl) rfl rfl ?_
  refine w_store (pc' := 11) (L' := [some (.ref 170), some (.int (Int32.ofInt 3)), some (.int (Int32.ofInt 0)), none]) (st' := []) (m := 1) (ykc_199 (e := (3, .istore_n kF2, 0)) rfl) rfl rfl ?_
  refine w_alu (pc' := 12) (st' := [.int (Int32.ofInt 0)]) (ykc_199 (e := (0, .iconst 0, 0)) rfl) rfl rfl ?_
  refine w_store (pc' := 13) (L' := [some (.ref 170), some (.int (Int32.ofInt 3)), some (.int (Int32.ofInt 0)), some (.int (Int32.ofInt 0))]) (st' := []) (m := 1) (ykc_199 (e := (3, .istore_n kF3, 0)) rfl) rfl rfl ?_
  refine w_load (pc' := 14) (v := .int (Int32.ofInt 0)) (m := 1) (ykc_199 (e := (2, .iload_n kF3, 0)) rfl) rfl rfl ?_
  refine w_load (pc' := 15) (v := .int (Int32.ofInt 3)) (m := 1) (ykc_199 (e := (2, .iload_n kF1, 0)) rfl) rfl rfl ?_
  refine w_ige (ykc_199 (e := (4, .if_icmp .ge 44, 59)) rfl) rfl (fun q => by exfalso; omega) (fun b1520 => ?_)
  refine w_load (pc' := 19) (v := .ref 170) (m := 1) (ykc_199 (e := (2, .aload_n kF0, 0)) rfl) rfl rfl ?_
  refine w_cv (as := [.ref 170]) (r := []) (ykc_199 (e := (6, .invokevirtual 171, 0)) rfl) rfl rfl rfl rfl (zm_isDigit hS hT0) (fun v1521 ph1522 hv => ?_)
  obtain ⟨rfl, rfl⟩ := hv
  show zW n D 199 Q 22 [some (.ref 170), some (.int (Int32.ofInt 3)), some (.int (Int32.ofInt 0)), some (.int (Int32.ofInt 0))] [.int (zI (decide (a < b ∧ 48 ≤ t a ∧ t a ≤ 57)))] ph
  refine w_beq (ykc_199 (e := (4, .ifCond .eq 37, 59)) rfl) rfl (fun q => absurd q (by rw [decide_eq_true (show a < b ∧ 48 ≤ t a ∧ t a ≤ 57 from ⟨hd, hd0⟩)]; decide)) (fun b1523 => ?_)
  refine w_push (pc' := 27) (v := .int ((Int8.ofInt 10).toInt32)) (m := 2) (ykc_199 (e := (1, .bipush 10, 0)) rfl) rfl rfl ?_
  refine w_load (pc' := 28) (v := .int (Int32.ofInt 0)) (m := 1) (ykc_199 (e := (2, .iload_n kF2, 0)) rfl) rfl rfl ?_
  have e1524 : ((Int8.ofInt 10).toInt32) * (Int32.ofInt 0) = zn (0) := zn_of (by rw [ti_mul (by rw [show ((Int8.ofInt 10).toInt32).toInt = (10 : Int) by omega, show (Int32.ofInt 0).toInt = (0 : Int) by omega]; omega) (by rw [show ((Int8.ofInt 10).toInt32).toInt = (10 : Int) by omega, show (Int32.ofInt 0).toInt = (0 : Int) by omega]; omega), show ((Int8.ofInt 10).toInt32).toInt = (10 : Int) by omega, show (Int32.ofInt 0).toInt = (0 : Int) by omega] <;> omega)
  have te1524 := znt (k := 0) (by omega)
  refine w_alu (pc' := 29) (st' := [.int (zn (0))]) (ykc_199 (e := (0, .imul, 0)) rfl) (by rw [← e1524]; rfl) rfl ?_
  refine w_load (pc' := 30) (v := .ref 170) (m := 1) (ykc_199 (e := (2, .aload_n kF0, 0)) rfl) rfl rfl ?_
  refine w_gf (pc' := 33) (v := .ref 176) (ykc_199 (e := (5, .getfield 47, 0)) rfl) rfl (zsg hS zs_170_13) rfl ?_
  refine w_load (pc' := 34) (v := .ref 170) (m := 1) (ykc_199 (e := (2, .aload_n kF0, 0)) rfl) rfl rfl ?_
  refine w_gf (pc' := 37) (v := .int (zn a)) (ykc_199 (e := (5, .getfield 139, 0)) rfl) rfl ga rfl ?_
  have q1525 := (gt a (by omega)).2
  have tq1525 := znt (k := t a) (by omega)
  refine w_ialk (pc' := 38) (k := a) (ykc_199 (e := (5, .iaload, 0)) rfl) (gt a (by omega)).1 (by omega) rfl ?_
  have e1526 : (zn (0)) + (zn (t a)) = zn (0 + (t a)) := (zaddN (a := 0) (b := t a) (znt (by omega)) (znt (by omega)) (by omega)) 
  have te1526 := znt (k := 0 + (t a)) (by omega)
  refine w_alu (pc' := 39) (st' := [.int (zn (0 + (t a)))]) (ykc_199 (e := (0, .iadd, 0)) rfl) (by rw [← e1526]; rfl) rfl ?_
  refine w_push (pc' := 41) (v := .int ((Int8.ofInt 48).toInt32)) (m := 2) (ykc_199 (e := (1, .bipush 48, 0)) rfl) rfl rfl ?_
  have e1527 : (zn (0 + (t a))) - ((Int8.ofInt 48).toInt32) = zn (znv t a 1) := zn_of (by have h8 := ti_sub (x := (zn (0 + (t a)))) (y := ((Int8.ofInt 48).toInt32)) (by omega) (by omega); omega)
  have te1527 := znt (k := znv t a 1) (by omega)
  refine w_alu (pc' := 42) (st' := [.int (zn (znv t a 1))]) (ykc_199 (e := (0, .isub, 0)) rfl) (by rw [← e1527]; rfl) rfl ?_
  refine w_store (pc' := 43) (L' := [some (.ref 170), some (.int (Int32.ofInt 3)), some (.int (zn (znv t a 1))), some (.int (Int32.ofInt 0))]) (st' := []) (m := 1) (ykc_199 (e := (3, .istore_n kF2, 0)) rfl) rfl rfl ?_
  refine w_load (pc' := 44) (v := .ref 170) (m := 1) (ykc_199 (e := (2, .aload_n kF0, 0)) rfl) rfl rfl ?_
  refine w_alu (pc' := 45) (st' := [.ref 170, .ref 170]) (ykc_199 (e := (0, .dup, 0)) rfl) rfl rfl ?_
  refine w_gf (pc' := 48) (v := .int (zn a)) (ykc_199 (e := (5, .getfield 139, 0)) rfl) rfl ga rfl ?_
  refine w_alu (pc' := 49) (st' := [.int (Int32.ofInt 1), .int (zn a), .ref 170]) (ykc_199 (e := (0, .iconst 1, 0)) rfl) rfl rfl ?_
  have e1528 : (zn a) + (Int32.ofInt 1) = zn (a + 1) := (zaddN (a := a) (b := 1) (znt (by omega)) c_4 (by omega)) 
  have te1528 := znt (k := a + 1) (by omega)
  refine w_alu (pc' := 50) (st' := [.int (zn (a + 1)), .ref 170]) (ykc_199 (e := (0, .iadd, 0)) rfl) (by rw [← e1528]; rfl) rfl ?_
  refine w_pf (pc' := 53) (ykc_199 (e := (5, .putfield 139, 0)) rfl) rfl rfl (fun ph1530 u1529 => ?_)
  have e1531 : (Int32.ofInt 0) + Int32.ofInt 1 = zn (0 + 1) := (zaddN (a := 0) (b := 1) c_3 c_4 (by omega))
  have te1531 := znt (k := 0 + 1) (by omega)
  refine w_store (pc' := 56) (L' := [some (.ref 170), some (.int (Int32.ofInt 3)), some (.int (zn (znv t a 1))), some (.int (zn (0 + 1)))]) (st' := []) (m := 3) (ykc_199 (e := (3, .iinc 3 1, 0)) rfl) (by rw [← e1531]; rfl) rfl ?_
  refine w_br (pc' := 13) (st' := []) (ykc_199 (e := (4, .goto (-43), 13)) rfl) rfl ?_
  refine w_load (pc' := 14) (v := .int (zn (0 + 1))) (m := 1) (ykc_199 (e := (2, .iload_n kF3, 0)) rfl) rfl rfl ?_
  refine w_load (pc' := 15) (v := .int (Int32.ofInt 3)) (m := 1) (ykc_199 (e := (2, .iload_n kF1, 0)) rfl) rfl rfl ?_
  refine w_ige (ykc_199 (e := (4, .if_icmp .ge 44, 59)) rfl) rfl (fun q => by exfalso; omega) (fun b1532 => ?_)
  refine w_load (pc' := 19) (v := .ref 170) (m := 1) (ykc_199 (e := (2, .aload_n kF0, 0)) rfl) rfl rfl ?_
  have hT1 := zTm_u u1529 (a' := a + 1) (by omega) hT0
  refine w_cv (as := [.ref 170]) (r := []) (ykc_199 (e := (6, .invokevirtual 171, 0)) rfl) rfl rfl rfl rfl (zm_isDigit (zSh_F ((zFr_st u1529 (Or.inr (by simp))) : zFr [] [(170, 15)] ph _) (by decide +kernel) hS) hT1) (fun v1533 ph1534 hv => ?_)
  obtain ⟨rfl, rfl⟩ := hv
  show zW n D 199 Q 22 [some (.ref 170), some (.int (Int32.ofInt 3)), some (.int (zn (znv t a 1))), some (.int (zn (0 + 1)))] [.int (zI (decide (a + 1 < b ∧ 48 ≤ t (a + 1) ∧ t (a + 1) ≤ 57)))] ph1530
  refine w_beq (ykc_199 (e := (4, .ifCond .eq 37, 59)) rfl) rfl (fun b1535 => ?_) (fun b1535 => ?_)
  · refine w_load (pc' := 60) (v := .int (zn (znv t a 1))) (m := 1) (ykc_199 (e := (2, .iload_n kF2, 0)) rfl) rfl rfl ?_
    refine w_ret (v := (some (.int (zn (znv t a 1))))) (ykc_199 (e := (7, .ireturn, 0)) rfl) (zr_v rfl) ?_
    rw [hQ]
    have hnn := of_decide_eq_false b1535
    have ez : zdc b t a = 1 := by unfold zdc; rw [if_neg (fun q => hnn ⟨q.1, of_decide_eq_true q.2⟩)]
    rw [ez]
    exact ⟨(zFr_st u1529 (Or.inr (by simp))), rfl, hT1, by omega, by decide⟩
  · refine w_push (pc' := 27) (v := .int ((Int8.ofInt 10).toInt32)) (m := 2) (ykc_199 (e := (1, .bipush 10, 0)) rfl) rfl rfl ?_
    have hdd1 := of_decide_eq_true b1535
    refine w_load (pc' := 28) (v := .int (zn (znv t a 1))) (m := 1) (ykc_199 (e := (2, .iload_n kF2, 0)) rfl) rfl rfl ?_
    have e1536 : ((Int8.ofInt 10).toInt32) * (zn (znv t a 1)) = zn (10 * (znv t a 1)) := zn_of (by rw [ti_mul (by rw [show ((Int8.ofInt 10).toInt32).toInt = (10 : Int) by omega, show (zn (znv t a 1)).toInt = ((znv t a 1 : Nat) : Int) by omega]; omega) (by rw [show ((Int8.ofInt 10).toInt32).toInt = (10 : Int) by omega, show (zn (znv t a 1)).toInt = ((znv t a 1 : Nat) : Int) by omega]; omega), show ((Int8.ofInt 10).toInt32).toInt = (10 : Int) by omega, show (zn (znv t a 1)).toInt = ((znv t a 1 : Nat) : Int) by omega] <;> omega)
    have te1536 := znt (k := 10 * (znv t a 1)) (by omega)
    refine w_alu (pc' := 29) (st' := [.int (zn (10 * (znv t a 1)))]) (ykc_199 (e := (0, .imul, 0)) rfl) (by rw [← e1536]; rfl) rfl ?_
    refine w_load (pc' := 30) (v := .ref 170) (m := 1) (ykc_199 (e := (2, .aload_n kF0, 0)) rfl) rfl rfl ?_
    refine w_gf (pc' := 33) (v := .ref 176) (ykc_199 (e := (5, .getfield 47, 0)) rfl) rfl ((u1529.2.1 170 13 (fun q => absurd q.2 (by decide))).trans (zsg hS zs_170_13)) rfl ?_
    refine w_load (pc' := 34) (v := .ref 170) (m := 1) (ykc_199 (e := (2, .aload_n kF0, 0)) rfl) rfl rfl ?_
    refine w_gf (pc' := 37) (v := .int (zn (a + 1))) (ykc_199 (e := (5, .getfield 139, 0)) rfl) rfl u1529.1 rfl ?_
    have q1537 := (gt (a + 1) (by omega)).2
    have tq1537 := znt (k := t (a + 1)) (by omega)
    refine w_ialk (pc' := 38) (k := a + 1) (ykc_199 (e := (5, .iaload, 0)) rfl) ((u1529.2.1 176 (a + 1) (fun q => absurd q.1 (by decide))).trans (gt (a + 1) (by omega)).1) (by omega) rfl ?_
    have e1538 : (zn (10 * (znv t a 1))) + (zn (t (a + 1))) = zn (10 * (znv t a 1) + (t (a + 1))) := (zaddN (a := 10 * (znv t a 1)) (b := t (a + 1)) (znt (by omega)) (znt (by omega)) (by omega)) 
    have te1538 := znt (k := 10 * (znv t a 1) + (t (a + 1))) (by omega)
    refine w_alu (pc' := 39) (st' := [.int (zn (10 * (znv t a 1) + (t (a + 1))))]) (ykc_199 (e := (0, .iadd, 0)) rfl) (by rw [← e1538]; rfl) rfl ?_
    refine w_push (pc' := 41) (v := .int ((Int8.ofInt 48).toInt32)) (m := 2) (ykc_199 (e := (1, .bipush 48, 0)) rfl) rfl rfl ?_
    have e1539 : (zn (10 * (znv t a 1) + (t (a + 1)))) - ((Int8.ofInt 48).toInt32) = zn (znv t a 2) := zn_of (by have h8 := ti_sub (x := (zn (10 * (znv t a 1) + (t (a + 1))))) (y := ((Int8.ofInt 48).toInt32)) (by omega) (by omega); omega)
    have te1539 := znt (k := znv t a 2) (by omega)
    refine w_alu (pc' := 42) (st' := [.int (zn (znv t a 2))]) (ykc_199 (e := (0, .isub, 0)) rfl) (by rw [← e1539]; rfl) rfl ?_
    refine w_store (pc' := 43) (L' := [some (.ref 170), some (.int (Int32.ofInt 3)), some (.int (zn (znv t a 2))), some (.int (zn (0 + 1)))]) (st' := []) (m := 1) (ykc_199 (e := (3, .istore_n kF2, 0)) rfl) rfl rfl ?_
    refine w_load (pc' := 44) (v := .ref 170) (m := 1) (ykc_199 (e := (2, .aload_n kF0, 0)) rfl) rfl rfl ?_
    refine w_alu (pc' := 45) (st' := [.ref 170, .ref 170]) (ykc_199 (e := (0, .dup, 0)) rfl) rfl rfl ?_
    refine w_gf (pc' := 48) (v := .int (zn (a + 1))) (ykc_199 (e := (5, .getfield 139, 0)) rfl) rfl u1529.1 rfl ?_
    refine w_alu (pc' := 49) (st' := [.int (Int32.ofInt 1), .int (zn (a + 1)), .ref 170]) (ykc_199 (e := (0, .iconst 1, 0)) rfl) rfl rfl ?_
    have e1540 : (zn (a + 1)) + (Int32.ofInt 1) = zn (a + 1 + 1) := (zaddN (a := a + 1) (b := 1) (znt (by omega)) c_4 (by omega)) 
    have te1540 := znt (k := a + 1 + 1) (by omega)
    refine w_alu (pc' := 50) (st' := [.int (zn (a + 1 + 1)), .ref 170]) (ykc_199 (e := (0, .iadd, 0)) rfl) (by rw [← e1540]; rfl) rfl ?_
    refine w_pf (pc' := 53) (ykc_199 (e := (5, .putfield 139, 0)) rfl) rfl rfl (fun ph1542 u1541 => ?_)
    have e1543 : (zn (0 + 1)) + Int32.ofInt 1 = zn (0 + 1 + 1) := (zaddN (a := 0 + 1) (b := 1) (znt (by omega)) c_4 (by omega))
    have te1543 := znt (k := 0 + 1 + 1) (by omega)
    refine w_store (pc' := 56) (L' := [some (.ref 170), some (.int (Int32.ofInt 3)), some (.int (zn (znv t a 2))), some (.int (zn (0 + 1 + 1)))]) (st' := []) (m := 3) (ykc_199 (e := (3, .iinc 3 1, 0)) rfl) (by rw [← e1543]; rfl) rfl ?_
    refine w_br (pc' := 13) (st' := []) (ykc_199 (e := (4, .goto (-43), 13)) rfl) rfl ?_
    refine w_load (pc' := 14) (v := .int (zn (0 + 1 + 1))) (m := 1) (ykc_199 (e := (2, .iload_n kF3, 0)) rfl) rfl rfl ?_
    refine w_load (pc' := 15) (v := .int (Int32.ofInt 3)) (m := 1) (ykc_199 (e := (2, .iload_n kF1, 0)) rfl) rfl rfl ?_
    refine w_ige (ykc_199 (e := (4, .if_icmp .ge 44, 59)) rfl) rfl (fun q => by exfalso; omega) (fun b1544 => ?_)
    refine w_load (pc' := 19) (v := .ref 170) (m := 1) (ykc_199 (e := (2, .aload_n kF0, 0)) rfl) rfl rfl ?_
    have hT2 := zTm_u u1541 (a' := a + 1 + 1) (by omega) hT1
    refine w_cv (as := [.ref 170]) (r := []) (ykc_199 (e := (6, .invokevirtual 171, 0)) rfl) rfl rfl rfl rfl (zm_isDigit (zSh_F ((zFr_trans (zFr_st u1529 (Or.inr (by simp))) (zFr_st u1541 (Or.inr (by simp)))) : zFr [] [(170, 15)] ph _) (by decide +kernel) hS) hT2) (fun v1545 ph1546 hv => ?_)
    obtain ⟨rfl, rfl⟩ := hv
    show zW n D 199 Q 22 [some (.ref 170), some (.int (Int32.ofInt 3)), some (.int (zn (znv t a 2))), some (.int (zn (0 + 1 + 1)))] [.int (zI (decide (a + 1 + 1 < b ∧ 48 ≤ t (a + 1 + 1) ∧ t (a + 1 + 1) ≤ 57)))] ph1542
    refine w_beq (ykc_199 (e := (4, .ifCond .eq 37, 59)) rfl) rfl (fun b1547 => ?_) (fun b1547 => ?_)
    · refine w_load (pc' := 60) (v := .int (zn (znv t a 2))) (m := 1) (ykc_199 (e := (2, .iload_n kF2, 0)) rfl) rfl rfl ?_
      refine w_ret (v := (some (.int (zn (znv t a 2))))) (ykc_199 (e := (7, .ireturn, 0)) rfl) (zr_v rfl) ?_
      rw [hQ]
      have hnn := of_decide_eq_false b1547
      have ez : zdc b t a = 2 := by unfold zdc; rw [if_pos ⟨hdd1.1, decide_eq_true hdd1.2⟩, if_neg (fun q => hnn ⟨q.1, of_decide_eq_true q.2⟩)]
      rw [ez]
      exact ⟨(zFr_trans (zFr_st u1529 (Or.inr (by simp))) (zFr_st u1541 (Or.inr (by simp)))), rfl, hT2, by omega, by decide⟩
    · refine w_push (pc' := 27) (v := .int ((Int8.ofInt 10).toInt32)) (m := 2) (ykc_199 (e := (1, .bipush 10, 0)) rfl) rfl rfl ?_
      have hdd2 := of_decide_eq_true b1547
      refine w_load (pc' := 28) (v := .int (zn (znv t a 2))) (m := 1) (ykc_199 (e := (2, .iload_n kF2, 0)) rfl) rfl rfl ?_
      have e1548 : ((Int8.ofInt 10).toInt32) * (zn (znv t a 2)) = zn (10 * (znv t a 2)) := zn_of (by rw [ti_mul (by rw [show ((Int8.ofInt 10).toInt32).toInt = (10 : Int) by omega, show (zn (znv t a 2)).toInt = ((znv t a 2 : Nat) : Int) by omega]; omega) (by rw [show ((Int8.ofInt 10).toInt32).toInt = (10 : Int) by omega, show (zn (znv t a 2)).toInt = ((znv t a 2 : Nat) : Int) by omega]; omega), show ((Int8.ofInt 10).toInt32).toInt = (10 : Int) by omega, show (zn (znv t a 2)).toInt = ((znv t a 2 : Nat) : Int) by omega] <;> omega)
      have te1548 := znt (k := 10 * (znv t a 2)) (by omega)
      refine w_alu (pc' := 29) (st' := [.int (zn (10 * (znv t a 2)))]) (ykc_199 (e := (0, .imul, 0)) rfl) (by rw [← e1548]; rfl) rfl ?_
      refine w_load (pc' := 30) (v := .ref 170) (m := 1) (ykc_199 (e := (2, .aload_n kF0, 0)) rfl) rfl rfl ?_
      refine w_gf (pc' := 33) (v := .ref 176) (ykc_199 (e := (5, .getfield 47, 0)) rfl) rfl ((u1541.2.1 170 13 (fun q => absurd q.2 (by decide))).trans ((u1529.2.1 170 13 (fun q => absurd q.2 (by decide))).trans (zsg hS zs_170_13))) rfl ?_
      refine w_load (pc' := 34) (v := .ref 170) (m := 1) (ykc_199 (e := (2, .aload_n kF0, 0)) rfl) rfl rfl ?_
      refine w_gf (pc' := 37) (v := .int (zn (a + 1 + 1))) (ykc_199 (e := (5, .getfield 139, 0)) rfl) rfl u1541.1 rfl ?_
      have q1549 := (gt (a + 1 + 1) (by omega)).2
      have tq1549 := znt (k := t (a + 1 + 1)) (by omega)
      refine w_ialk (pc' := 38) (k := a + 1 + 1) (ykc_199 (e := (5, .iaload, 0)) rfl) ((u1541.2.1 176 (a + 1 + 1) (fun q => absurd q.1 (by decide))).trans ((u1529.2.1 176 (a + 1 + 1) (fun q => absurd q.1 (by decide))).trans (gt (a + 1 + 1) (by omega)).1)) (by omega) rfl ?_
      have e1550 : (zn (10 * (znv t a 2))) + (zn (t (a + 1 + 1))) = zn (10 * (znv t a 2) + (t (a + 1 + 1))) := (zaddN (a := 10 * (znv t a 2)) (b := t (a + 1 + 1)) (znt (by omega)) (znt (by omega)) (by omega)) 
      have te1550 := znt (k := 10 * (znv t a 2) + (t (a + 1 + 1))) (by omega)
      refine w_alu (pc' := 39) (st' := [.int (zn (10 * (znv t a 2) + (t (a + 1 + 1))))]) (ykc_199 (e := (0, .iadd, 0)) rfl) (by rw [← e1550]; rfl) rfl ?_
      refine w_push (pc' := 41) (v := .int ((Int8.ofInt 48).toInt32)) (m := 2) (ykc_199 (e := (1, .bipush 48, 0)) rfl) rfl rfl ?_
      have e1551 : (zn (10 * (znv t a 2) + (t (a + 1 + 1)))) - ((Int8.ofInt 48).toInt32) = zn (znv t a 3) := zn_of (by have h8 := ti_sub (x := (zn (10 * (znv t a 2) + (t (a + 1 + 1))))) (y := ((Int8.ofInt 48).toInt32)) (by omega) (by omega); omega)
      have te1551 := znt (k := znv t a 3) (by omega)
      refine w_alu (pc' := 42) (st' := [.int (zn (znv t a 3))]) (ykc_199 (e := (0, .isub, 0)) rfl) (by rw [← e1551]; rfl) rfl ?_
      refine w_store (pc' := 43) (L' := [some (.ref 170), some (.int (Int32.ofInt 3)), some (.int (zn (znv t a 3))), some (.int (zn (0 + 1 + 1)))]) (st' := []) (m := 1) (ykc_199 (e := (3, .istore_n kF2, 0)) rfl) rfl rfl ?_
      refine w_load (pc' := 44) (v := .ref 170) (m := 1) (ykc_199 (e := (2, .aload_n kF0, 0)) rfl) rfl rfl ?_
      refine w_alu (pc' := 45) (st' := [.ref 170, .ref 170]) (ykc_199 (e := (0, .dup, 0)) rfl) rfl rfl ?_
      refine w_gf (pc' := 48) (v := .int (zn (a + 1 + 1))) (ykc_199 (e := (5, .getfield 139, 0)) rfl) rfl u1541.1 rfl ?_
      refine w_alu (pc' := 49) (st' := [.int (Int32.ofInt 1), .int (zn (a + 1 + 1)), .ref 170]) (ykc_199 (e := (0, .iconst 1, 0)) rfl) rfl rfl ?_
      have e1552 : (zn (a + 1 + 1)) + (Int32.ofInt 1) = zn (a + 1 + 1 + 1) := (zaddN (a := a + 1 + 1) (b := 1) (znt (by omega)) c_4 (by omega)) 
      have te1552 := znt (k := a + 1 + 1 + 1) (by omega)
      refine w_alu (pc' := 50) (st' := [.int (zn (a + 1 + 1 + 1)), .ref 170]) (ykc_199 (e := (0, .iadd, 0)) rfl) (by rw [← e1552]; rfl) rfl ?_
      refine w_pf (pc' := 53) (ykc_199 (e := (5, .putfield 139, 0)) rfl) rfl rfl (fun ph1554 u1553 => ?_)
      have e1555 : (zn (0 + 1 + 1)) + Int32.ofInt 1 = zn (0 + 1 + 1 + 1) := (zaddN (a := 0 + 1 + 1) (b := 1) (znt (by omega)) c_4 (by omega))
      have te1555 := znt (k := 0 + 1 + 1 + 1) (by omega)
      refine w_store (pc' := 56) (L' := [some (.ref 170), some (.int (Int32.ofInt 3)), some (.int (zn (znv t a 3))), some (.int (zn (0 + 1 + 1 + 1)))]) (st' := []) (m := 3) (ykc_199 (e := (3, .iinc 3 1, 0)) rfl) (by rw [← e1555]; rfl) rfl ?_
      refine w_br (pc' := 13) (st' := []) (ykc_199 (e := (4, .goto (-43), 13)) rfl) rfl ?_
      refine w_load (pc' := 14) (v := .int (zn (0 + 1 + 1 + 1))) (m := 1) (ykc_199 (e := (2, .iload_n kF3, 0)) rfl) rfl rfl ?_
      refine w_load (pc' := 15) (v := .int (Int32.ofInt 3)) (m := 1) (ykc_199 (e := (2, .iload_n kF1, 0)) rfl) rfl rfl ?_
      refine w_ige (ykc_199 (e := (4, .if_icmp .ge 44, 59)) rfl) rfl (fun b1556 => ?_) (fun q => by exfalso; omega)
      refine w_load (pc' := 60) (v := .int (zn (znv t a 3))) (m := 1) (ykc_199 (e := (2, .iload_n kF2, 0)) rfl) rfl rfl ?_
      refine w_ret (v := (some (.int (zn (znv t a 3))))) (ykc_199 (e := (7, .ireturn, 0)) rfl) (zr_v rfl) ?_
      rw [hQ]
      have ez : zdc b t a = 3 := by unfold zdc; rw [if_pos ⟨hdd1.1, decide_eq_true hdd1.2⟩, if_pos ⟨hdd2.1, decide_eq_true hdd2.2⟩]
      rw [ez]
      exact ⟨(zFr_trans (zFr_trans (zFr_st u1529 (Or.inr (by simp))) (zFr_st u1541 (Or.inr (by simp)))) (zFr_st u1553 (Or.inr (by simp)))), rfl, (zTm_u u1553 (a' := a + 1 + 1 + 1) (by omega) hT2), by omega, by decide⟩
theorem zm_codes {ph : pm_H} {cs : List Nat} {c : Nat} {x : Int32} (hS : zSh ph) (hR : zRc ph cs) (hx : x = zn c) (hc : c ≤ 3000) (hl : cs.length < 80) : zM 212 [.ref 170, .int x] ph (fun v0 q => v0 = none ∧ zFr [180] [(170, 24)] ph q ∧ zRc q (c :: cs)) := by
  obtain ⟨Q, hQ⟩ : ∃ Q : Option Value → pm_H → Prop, Q = (fun v0 q => v0 = none ∧ zFr [180] [(170, 24)] ph q ∧ zRc q (c :: cs)) := ⟨_, rfl⟩
  rw [← hQ]
  refine zM_mk fun n D => ?_
  show zW n D 212 Q 0 [some (.ref 170), some (.int x)] [] ph
  have c_0 : (Int32.ofInt 1).toInt = 1 := by decide
  have tl := znt (k := cs.length) (by omega)
  refine w_load (pc' := 1) (v := .ref 170) (m := 1) (ykc_212 (e := (2, .aload_n kF0, 0)) rfl) rfl rfl ?_
  refine w_gf (pc' := 4) (v := .ref 180) (ykc_212 (e := (5, .getfield 59, 0)) rfl) rfl (zsg hS zs_170_22) rfl ?_
  refine w_load (pc' := 5) (v := .ref 170) (m := 1) (ykc_212 (e := (2, .aload_n kF0, 0)) rfl) rfl rfl ?_
  refine w_gf (pc' := 8) (v := .int (zn cs.length)) (ykc_212 (e := (5, .getfield 227, 0)) rfl) rfl hR.1 rfl ?_
  refine w_load (pc' := 9) (v := .int x) (m := 1) (ykc_212 (e := (2, .iload_n kF1, 0)) rfl) rfl rfl ?_
  refine w_ias (pc' := 10) (k := cs.length) (ykc_212 (e := (5, .iastore, 0)) rfl) (by omega) rfl (fun ph1558 u1557 => ?_)
  refine w_load (pc' := 11) (v := .ref 170) (m := 1) (ykc_212 (e := (2, .aload_n kF0, 0)) rfl) rfl rfl ?_
  refine w_alu (pc' := 12) (st' := [.ref 170, .ref 170]) (ykc_212 (e := (0, .dup, 0)) rfl) rfl rfl ?_
  refine w_gf (pc' := 15) (v := .int (zn cs.length)) (ykc_212 (e := (5, .getfield 227, 0)) rfl) rfl ((u1557.2.1 170 24 (fun q => absurd q.1 (by decide))).trans hR.1) rfl ?_
  refine w_alu (pc' := 16) (st' := [.int (Int32.ofInt 1), .int (zn cs.length), .ref 170]) (ykc_212 (e := (0, .iconst 1, 0)) rfl) rfl rfl ?_
  have e1559 : (zn cs.length) + (Int32.ofInt 1) = zn (cs.length + 1) := (zaddN (a := cs.length) (b := 1) (znt (by omega)) c_0 (by omega)) 
  have te1559 := znt (k := cs.length + 1) (by omega)
  refine w_alu (pc' := 17) (st' := [.int (zn (cs.length + 1)), .ref 170]) (ykc_212 (e := (0, .iadd, 0)) rfl) (by rw [← e1559]; rfl) rfl ?_
  refine w_pf (pc' := 20) (ykc_212 (e := (5, .putfield 227, 0)) rfl) rfl rfl (fun ph1561 u1560 => ?_)
  refine w_ret (v := none) (ykc_212 (e := (7, .return_, 0)) rfl) (zr_v rfl) ?_
  rw [hQ]
  exact ⟨rfl, zFr_trans (zFr_st u1557 (Or.inl (by simp))) (zFr_st u1560 (Or.inr (by simp))), zRc_c hR u1560.1 ((u1560.2.1 180 _ (fun q => absurd q.1 (by decide))).trans (by rw [← hx]; exact u1557.1)) (fun i hi => (u1560.2.1 180 i (fun q => absurd q.1 (by decide))).trans (u1557.2.1 180 i (fun q => hi q.2))) hc⟩
theorem zlt_lsm : ∀ k, k < 8 → zlt (zls [98, 108, 107, 102, 114, 99, 110, 112] k) = k := by decide
theorem zlt_lsm2 {c : Nat} (h : zlt c < 8) : zls [98, 108, 107, 102, 114, 99, 110, 112] (zlt c) = c := by
  unfold zlt at h ⊢
  repeat' split
  all_goals first | (subst_vars; rfl) | (exfalso; simp_all)
theorem zm_askD {b ln : Nat} {t : Nat → Nat} {D : Nat} (ih : zIHr b ln t D) (hb40 : b ≤ 40) {ph : pm_H} {a ns : Nat} {cs : List Nat} (hS : zSh ph) (hp : zRp b ln t ph a ns cs) (hns : ns ≤ 4) (hl : cs.length ≤ a) : zMD (D + 1) 213 [.ref 170] ph (zRq b ln t 3 a ns cs ph) := by
  obtain ⟨Q, hQ⟩ : ∃ Q : Option Value → pm_H → Prop, Q = (zRq b ln t 3 a ns cs ph) := ⟨_, rfl⟩
  rw [← hQ]
  refine zMD_mk fun n => ?_
  show zW n D 213 Q 0 [some (.ref 170), none] [] ph
  have c_0 : ((Int16.ofInt 1000).toInt32).toInt = 1000 := by decide
  have c_1 : ((Int16.ofInt 3000).toInt32).toInt = 3000 := by decide
  have c_2 : ((Int8.ofInt 40).toInt32).toInt = 40 := by decide
  have c_3 : ((Int8.ofInt 41).toInt32).toInt = 41 := by decide
  have c_4 : ((Int8.ofInt 45).toInt32).toInt = 45 := by decide
  have c_5 : (Int32.ofInt 0).toInt = 0 := by decide
  have c_6 : (Int32.ofInt 1).toInt = 1 := by decide
  have c_7 : (Int32.ofInt 3).toInt = 3 := by decide
  have c_8 : (Int32.ofInt 4).toInt = 4 := by decide
  obtain ⟨hT, h17, hR⟩ := hp
  have hab := hT.2.2.1
  have tns := znt (k := ns) (by omega)
  refine w_load (pc' := 1) (v := .ref 170) (m := 1) (ykc_213 (e := (2, .aload_n kF0, 0)) rfl) rfl rfl ?_
  refine w_push (pc' := 3) (v := .int ((Int8.ofInt 45).toInt32)) (m := 2) (ykc_213 (e := (1, .bipush 45, 0)) rfl) rfl rfl ?_
  refine w_cv (as := [.ref 170, .int ((Int8.ofInt 45).toInt32)]) (r := []) (ykc_213 (e := (6, .invokevirtual 209, 0)) rfl) rfl rfl rfl rfl (zm_takes hS hT (c := 45) (by omega)) (fun v1562 ph1563 hv => ?_)
  rcases hv with ⟨f1, ⟨hm1, rfl, hTa⟩ | ⟨hm1, rfl, hTa⟩⟩
  · show zW n D 213 Q 6 [some (.ref 170), none] [.int (zI true)] ph1563
    refine w_beq (ykc_213 (e := (4, .ifCond .eq 17, 23)) rfl) rfl (fun q => absurd q (by decide)) (fun b1564 => ?_)
    refine w_load (pc' := 10) (v := .ref 170) (m := 1) (ykc_213 (e := (2, .aload_n kF0, 0)) rfl) rfl rfl ?_
    have h17a := (f1.1 170 17 (by decide) (by decide)).trans h17
    have hRa := zRc_F f1 (by simp) (by simp) hR
    refine w_cvD (as := [.ref 170]) (r := []) (ykc_213 (e := (6, .invokevirtual 230, 0)) rfl) rfl rfl rfl rfl (ih.1 _ (a + 1) ns cs (zSh_F f1 (by decide +kernel) hS) ⟨hTa, h17a, hRa⟩ hns (by omega)) (fun v1565 ph1566 hv => ?_)
    rcases hv with ⟨f2, f9, ok, a2, cs2, hz, rfl, hT2, hR2, h172, ha2, hl2⟩
    · have hb2 := hT2.2.2.1
      show zW n D 213 Q 13 [some (.ref 170), none] [.int (zI ok)] ph1566
      refine w_store (pc' := 14) (L' := [some (.ref 170), some (.int (zI ok))]) (st' := []) (m := 1) (ykc_213 (e := (3, .istore_n kF1, 0)) rfl) rfl rfl ?_
      refine w_load (pc' := 15) (v := .ref 170) (m := 1) (ykc_213 (e := (2, .aload_n kF0, 0)) rfl) rfl rfl ?_
      refine w_push (pc' := 18) (v := .int ((Int16.ofInt 3000).toInt32)) (m := 3) (ykc_213 (e := (1, .sipush 3000, 0)) rfl) rfl rfl ?_
      refine w_cv (as := [.ref 170, .int ((Int16.ofInt 3000).toInt32)]) (r := []) (ykc_213 (e := (6, .invokevirtual 233, 0)) rfl) rfl rfl rfl rfl (zm_codes (c := 3000) (zSh_F ((show zRF ph ph1566 from (zFr_trans (zFr_mono f1 (by simp) (by simp)) (zFr_mono f2 (by simp) (by simp))))) (by decide +kernel) hS) hR2 (by decide) (by decide) (by omega)) (fun v1567 ph1568 hv => ?_)
      obtain ⟨rfl, fc, hR3⟩ := hv
      show zW n D 213 Q 21 [some (.ref 170), some (.int (zI ok))] [] ph1568
      refine w_load (pc' := 22) (v := .int (zI ok)) (m := 1) (ykc_213 (e := (2, .iload_n kF1, 0)) rfl) rfl rfl ?_
      refine w_ret (v := (some (.int (zI ok)))) (ykc_213 (e := (7, .ireturn, 0)) rfl) zr_z ?_
      rw [hQ]
      refine ⟨(show zRF ph ph1568 from (zFr_trans (zFr_trans (zFr_mono f1 (by simp) (by simp)) (zFr_mono f2 (by simp) (by simp))) (zFr_mono fc (by simp) (by simp)))), f9 + 1, ok, a2, 3000 :: cs2, ?_, rfl, zTm_F fc (by simp) (by simp) (by simp) hT2, hR3, fun h => (fc.1 170 17 (by decide) (by decide)).trans (h172 h), by omega, by show cs2.length + 1 + a ≤ cs.length + a2; omega⟩
      show (if 3 = 3 then _ else _) = _
      rw [if_pos rfl, if_pos hm1, hz]
      rfl
    
  · show zW n D 213 Q 6 [some (.ref 170), none] [.int (zI false)] ph1563
    refine w_beq (ykc_213 (e := (4, .ifCond .eq 17, 23)) rfl) rfl (fun b1569 => ?_) (fun q => absurd q (by decide))
    refine w_load (pc' := 24) (v := .ref 170) (m := 1) (ykc_213 (e := (2, .aload_n kF0, 0)) rfl) rfl rfl ?_
    refine w_cv (as := [.ref 170]) (r := []) (ykc_213 (e := (6, .invokevirtual 171, 0)) rfl) rfl rfl rfl rfl (zm_isDigit (zSh_F f1 (by decide +kernel) hS) hTa) (fun v1570 ph1571 hv => ?_)
    obtain ⟨rfl, rfl⟩ := hv
    have hRa := zRc_F f1 (by simp) (by simp) hR
    have h17a := (f1.1 170 17 (by decide) (by decide)).trans h17
    show zW n D 213 Q 27 [some (.ref 170), none] [.int (zI (decide (a < b ∧ 48 ≤ t a ∧ t a ≤ 57)))] ph1563
    refine w_beq (ykc_213 (e := (4, .ifCond .eq 14, 41)) rfl) rfl (fun b1572 => ?_) (fun b1572 => ?_)
    · refine w_load (pc' := 42) (v := .ref 170) (m := 1) (ykc_213 (e := (2, .aload_n kF0, 0)) rfl) rfl rfl ?_
      refine w_push (pc' := 44) (v := .ref 1048628) (m := 2) (ykc_213 (e := (1, .ldc 237, 0)) rfl) rfl rfl ?_
      have hndg := of_decide_eq_false b1572
      have hnd2 : ¬ (a < b ∧ zdi (t a) = true) := fun q => hndg ⟨q.1, of_decide_eq_true q.2⟩
      refine w_cv (as := [.ref 170, .ref 1048628]) (r := []) (ykc_213 (e := (6, .invokevirtual 184, 0)) rfl) rfl rfl rfl rfl (zm_takesOf (zSh_F f1 (by decide +kernel) hS) hTa zstr_lets) (fun v1573 ph1574 hv => ?_)
      rcases hv with ⟨f2, ⟨k9, hk9, ha9, hc9, rfl, hT2⟩ | ⟨hn9, rfl, hT2⟩⟩
      · have e8 : zlt (t a) = k9 := by rw [hc9]; exact zlt_lsm k9 hk9
        have tk9 := znt (k := k9) (by omega)
        show zW n D 213 Q 47 [some (.ref 170), none] [.int (zn k9)] ph1574
        refine w_store (pc' := 48) (L' := [some (.ref 170), some (.int (zn k9))]) (st' := []) (m := 1) (ykc_213 (e := (3, .istore_n kF1, 0)) rfl) rfl rfl ?_
        refine w_load (pc' := 49) (v := .int (zn k9)) (m := 1) (ykc_213 (e := (2, .iload_n kF1, 0)) rfl) rfl rfl ?_
        refine w_zlt (ykc_213 (e := (4, .ifCond .lt 14, 63)) rfl) rfl (fun q => by exfalso; omega) (fun b1575 => ?_)
        refine w_load (pc' := 53) (v := .ref 170) (m := 1) (ykc_213 (e := (2, .aload_n kF0, 0)) rfl) rfl rfl ?_
        refine w_push (pc' := 56) (v := .int ((Int16.ofInt 1000).toInt32)) (m := 3) (ykc_213 (e := (1, .sipush 1000, 0)) rfl) rfl rfl ?_
        refine w_load (pc' := 57) (v := .int (zn k9)) (m := 1) (ykc_213 (e := (2, .iload_n kF1, 0)) rfl) rfl rfl ?_
        have e1576 : ((Int16.ofInt 1000).toInt32) + (zn k9) = zn (1000 + k9) := (zaddN (a := 1000) (b := k9) c_0 (znt (by omega)) (by omega)) 
        have te1576 := znt (k := 1000 + k9) (by omega)
        refine w_alu (pc' := 58) (st' := [.int (zn (1000 + k9)), .ref 170]) (ykc_213 (e := (0, .iadd, 0)) rfl) (by rw [← e1576]; rfl) rfl ?_
        refine w_cv (as := [.ref 170, .int (zn (1000 + k9))]) (r := []) (ykc_213 (e := (6, .invokevirtual 233, 0)) rfl) rfl rfl rfl rfl (zm_codes (c := 1000 + k9) (zSh_F ((show zRF ph ph1574 from (zFr_trans (zFr_mono f1 (by simp) (by simp)) (zFr_mono f2 (by simp) (by simp))))) (by decide +kernel) hS) (zRc_F f2 (by simp) (by simp) hRa) rfl (by omega) (by omega)) (fun v1577 ph1578 hv => ?_)
        obtain ⟨rfl, fc, hR3⟩ := hv
        show zW n D 213 Q 61 [some (.ref 170), some (.int (zn k9))] [] ph1578
        refine w_alu (pc' := 62) (st' := [.int (Int32.ofInt 1)]) (ykc_213 (e := (0, .iconst 1, 0)) rfl) rfl rfl ?_
        refine w_ret (v := (some (.int (Int32.ofInt 1)))) (ykc_213 (e := (7, .ireturn, 0)) rfl) zr_z ?_
        rw [hQ, zi1]
        refine ⟨(show zRF ph ph1578 from (zFr_trans (zFr_trans (zFr_mono f1 (by simp) (by simp)) (zFr_mono f2 (by simp) (by simp))) (zFr_mono fc (by simp) (by simp)))), 1, true, a + 1, (1000 + k9) :: cs, ?_, rfl, zTm_F fc (by simp) (by simp) (by simp) hT2, hR3, fun _ => (fc.1 170 17 (by decide) (by decide)).trans ((f2.1 170 17 (by decide) (by decide)).trans h17a), by omega, by show cs.length + 1 + a ≤ _; omega⟩
        show (if 3 = 3 then _ else _) = _
        rw [if_pos rfl, if_neg hm1, if_neg hnd2, if_pos ⟨ha9, by omega⟩, e8]
      · have tm1 : (Int32.ofInt (-1)).toInt = -1 := by decide
        have hnl : ¬ (a < b ∧ zlt (t a) < 8) := fun q => hn9 q.1 (zlt (t a)) q.2 (zlt_lsm2 q.2).symm
        show zW n D 213 Q 47 [some (.ref 170), none] [.int (Int32.ofInt (-1))] ph1574
        refine w_store (pc' := 48) (L' := [some (.ref 170), some (.int (Int32.ofInt (-1)))]) (st' := []) (m := 1) (ykc_213 (e := (3, .istore_n kF1, 0)) rfl) rfl rfl ?_
        refine w_load (pc' := 49) (v := .int (Int32.ofInt (-1))) (m := 1) (ykc_213 (e := (2, .iload_n kF1, 0)) rfl) rfl rfl ?_
        refine w_zlt (ykc_213 (e := (4, .ifCond .lt 14, 63)) rfl) rfl (fun b1579 => ?_) (fun q => by exfalso; omega)
        refine w_load (pc' := 64) (v := .ref 170) (m := 1) (ykc_213 (e := (2, .aload_n kF0, 0)) rfl) rfl rfl ?_
        refine w_gf (pc' := 67) (v := .int (zn ns)) (ykc_213 (e := (5, .getfield 142, 0)) rfl) rfl ((f2.1 170 17 (by decide) (by decide)).trans h17a) rfl ?_
        refine w_alu (pc' := 68) (st' := [.int (Int32.ofInt 4), .int (zn ns)]) (ykc_213 (e := (0, .iconst 4, 0)) rfl) rfl rfl ?_
        refine w_ieq (ykc_213 (e := (4, .if_icmp .eq 12, 80)) rfl) rfl (fun b1580 => ?_) (fun b1580 => ?_)
        · refine w_alu (pc' := 81) (st' := [.int (Int32.ofInt 0)]) (ykc_213 (e := (0, .iconst 0, 0)) rfl) rfl rfl ?_
          refine w_ret (v := (some (.int (Int32.ofInt 0)))) (ykc_213 (e := (7, .ireturn, 0)) rfl) zr_z ?_
          rw [hQ, zi0]
          refine ⟨(show zRF ph ph1574 from (zFr_trans (zFr_mono f1 (by simp) (by simp)) (zFr_mono f2 (by simp) (by simp)))), 1, false, a, cs, ?_, rfl, hT2, zRc_F f2 (by simp) (by simp) hRa, fun h => absurd h (by decide), Nat.le_refl _, Nat.le_refl _⟩
          show (if 3 = 3 then _ else _) = _
          rw [if_pos rfl, if_neg hm1, if_neg hnd2, if_neg hnl, if_neg (by omega)]
        · refine w_load (pc' := 72) (v := .ref 170) (m := 1) (ykc_213 (e := (2, .aload_n kF0, 0)) rfl) rfl rfl ?_
          refine w_push (pc' := 74) (v := .int ((Int8.ofInt 40).toInt32)) (m := 2) (ykc_213 (e := (1, .bipush 40, 0)) rfl) rfl rfl ?_
          refine w_cv (as := [.ref 170, .int ((Int8.ofInt 40).toInt32)]) (r := []) (ykc_213 (e := (6, .invokevirtual 209, 0)) rfl) rfl rfl rfl rfl (zm_takes (zSh_F ((show zRF ph ph1574 from (zFr_trans (zFr_mono f1 (by simp) (by simp)) (zFr_mono f2 (by simp) (by simp))))) (by decide +kernel) hS) hT2 (c := 40) (by omega)) (fun v1581 ph1582 hv => ?_)
          rcases hv with ⟨f3, ⟨hb1, rfl, hT3⟩ | ⟨hb1, rfl, hT3⟩⟩
          · show zW n D 213 Q 77 [some (.ref 170), some (.int (Int32.ofInt (-1)))] [.int (zI true)] ph1582
            refine w_bne (ykc_213 (e := (4, .ifCond .ne 5, 82)) rfl) rfl (fun b1583 => ?_) (fun q => absurd q (by decide))
            refine w_load (pc' := 83) (v := .ref 170) (m := 1) (ykc_213 (e := (2, .aload_n kF0, 0)) rfl) rfl rfl ?_
            refine w_alu (pc' := 84) (st' := [.ref 170, .ref 170]) (ykc_213 (e := (0, .dup, 0)) rfl) rfl rfl ?_
            refine w_gf (pc' := 87) (v := .int (zn ns)) (ykc_213 (e := (5, .getfield 142, 0)) rfl) rfl ((f3.1 170 17 (by decide) (by decide)).trans ((f2.1 170 17 (by decide) (by decide)).trans h17a)) rfl ?_
            refine w_alu (pc' := 88) (st' := [.int (Int32.ofInt 1), .int (zn ns), .ref 170]) (ykc_213 (e := (0, .iconst 1, 0)) rfl) rfl rfl ?_
            have e1584 : (zn ns) + (Int32.ofInt 1) = zn (ns + 1) := (zaddN (a := ns) (b := 1) (znt (by omega)) c_6 (by omega)) 
            have te1584 := znt (k := ns + 1) (by omega)
            refine w_alu (pc' := 89) (st' := [.int (zn (ns + 1)), .ref 170]) (ykc_213 (e := (0, .iadd, 0)) rfl) (by rw [← e1584]; rfl) rfl ?_
            refine w_pf (pc' := 92) (ykc_213 (e := (5, .putfield 142, 0)) rfl) rfl rfl (fun ph1586 u1585 => ?_)
            refine w_load (pc' := 93) (v := .ref 170) (m := 1) (ykc_213 (e := (2, .aload_n kF0, 0)) rfl) rfl rfl ?_
            refine w_alu (pc' := 94) (st' := [.int (Int32.ofInt 0), .ref 170]) (ykc_213 (e := (0, .iconst 0, 0)) rfl) rfl rfl ?_
            have fu : zFr [] [(170, 17)] _ ph1586 := zFr_st u1585 (Or.inr (by simp))
            have hT4 := zTm_F fu (by simp) (by simp) (by simp) hT3
            have hR4 := zRc_F fu (by simp) (by simp) (zRc_F f3 (by simp) (by simp) (zRc_F f2 (by simp) (by simp) hRa))
            refine w_cvD (as := [.ref 170, .int (Int32.ofInt 0)]) (r := []) (ykc_213 (e := (6, .invokevirtual 239, 0)) rfl) rfl rfl rfl rfl (ih.2 _ 0 _ (a + 1) (ns + 1) cs (zSh_F ((show zRF ph ph1586 from (zFr_trans (zFr_trans (zFr_trans (zFr_mono f1 (by simp) (by simp)) (zFr_mono f2 (by simp) (by simp))) (zFr_mono f3 (by simp) (by simp))) (zFr_st u1585 (Or.inr (by simp)))))) (by decide +kernel) hS) (by omega) (by decide) ⟨hT4, u1585.1, hR4⟩ (by omega) (by omega)) (fun v1587 ph1588 hv => ?_)
            rcases hv with ⟨f5, f9, ok, a2, cs2, hz, rfl, hT5, hR5, h175, ha2, hl2⟩
            · cases ok with
              | false =>
                show zW n D 213 Q 97 [some (.ref 170), some (.int (Int32.ofInt (-1)))] [.int (zI false)] ph1588
                refine w_beq (ykc_213 (e := (4, .ifCond .eq 12, 109)) rfl) rfl (fun b1589 => ?_) (fun q => absurd q (by decide))
                refine w_alu (pc' := 110) (st' := [.int (Int32.ofInt 0)]) (ykc_213 (e := (0, .iconst 0, 0)) rfl) rfl rfl ?_
                refine w_ret (v := (some (.int (Int32.ofInt 0)))) (ykc_213 (e := (7, .ireturn, 0)) rfl) zr_z ?_
                rw [hQ, zi0]
                refine ⟨(show zRF ph ph1588 from (zFr_trans (zFr_trans (zFr_trans (zFr_trans (zFr_mono f1 (by simp) (by simp)) (zFr_mono f2 (by simp) (by simp))) (zFr_mono f3 (by simp) (by simp))) (zFr_st u1585 (Or.inr (by simp)))) (zFr_mono f5 (by simp) (by simp)))), f9 + 1, false, a2, cs2, ?_, rfl, hT5, hR5, fun h => absurd h (by decide), by omega, by omega⟩
                show (if 3 = 3 then _ else _) = _
                rw [if_pos rfl, if_neg hm1, if_neg hnd2, if_neg hnl, if_pos ⟨by omega, hb1⟩, hz]
                show some (if false = true ∧ a2 < b ∧ t a2 = 41 then _ else _) = _
                rw [if_neg (fun q => absurd q.1 (by decide))]
              | true =>
                show zW n D 213 Q 97 [some (.ref 170), some (.int (Int32.ofInt (-1)))] [.int (zI true)] ph1588
                refine w_beq (ykc_213 (e := (4, .ifCond .eq 12, 109)) rfl) rfl (fun q => absurd q (by decide)) (fun b1590 => ?_)
                refine w_load (pc' := 101) (v := .ref 170) (m := 1) (ykc_213 (e := (2, .aload_n kF0, 0)) rfl) rfl rfl ?_
                refine w_push (pc' := 103) (v := .int ((Int8.ofInt 41).toInt32)) (m := 2) (ykc_213 (e := (1, .bipush 41, 0)) rfl) rfl rfl ?_
                have h175 := h175 rfl
                refine w_cv (as := [.ref 170, .int ((Int8.ofInt 41).toInt32)]) (r := []) (ykc_213 (e := (6, .invokevirtual 209, 0)) rfl) rfl rfl rfl rfl (zm_takes (zSh_F ((show zRF ph ph1588 from (zFr_trans (zFr_trans (zFr_trans (zFr_trans (zFr_mono f1 (by simp) (by simp)) (zFr_mono f2 (by simp) (by simp))) (zFr_mono f3 (by simp) (by simp))) (zFr_st u1585 (Or.inr (by simp)))) (zFr_mono f5 (by simp) (by simp))))) (by decide +kernel) hS) hT5 (c := 41) (by omega)) (fun v1591 ph1592 hv => ?_)
                rcases hv with ⟨f6, ⟨hb2, rfl, hT6⟩ | ⟨hb2, rfl, hT6⟩⟩
                · have tn1 := znt (k := ns + 1) (by omega)
                  show zW n D 213 Q 106 [some (.ref 170), some (.int (Int32.ofInt (-1)))] [.int (zI true)] ph1592
                  refine w_bne (ykc_213 (e := (4, .ifCond .ne 5, 111)) rfl) rfl (fun b1593 => ?_) (fun q => absurd q (by decide))
                  refine w_load (pc' := 112) (v := .ref 170) (m := 1) (ykc_213 (e := (2, .aload_n kF0, 0)) rfl) rfl rfl ?_
                  refine w_alu (pc' := 113) (st' := [.ref 170, .ref 170]) (ykc_213 (e := (0, .dup, 0)) rfl) rfl rfl ?_
                  refine w_gf (pc' := 116) (v := .int (zn (ns + 1))) (ykc_213 (e := (5, .getfield 142, 0)) rfl) rfl ((f6.1 170 17 (by decide) (by decide)).trans h175) rfl ?_
                  refine w_alu (pc' := 117) (st' := [.int (Int32.ofInt 1), .int (zn (ns + 1)), .ref 170]) (ykc_213 (e := (0, .iconst 1, 0)) rfl) rfl rfl ?_
                  have e1594 : (zn (ns + 1)) - (Int32.ofInt 1) = zn (ns) := zsubN (a := ns + 1) (b := 1) tn1 c_6 (by omega)
                  have te1594 := znt (k := ns) (by omega)
                  refine w_alu (pc' := 118) (st' := [.int (zn (ns)), .ref 170]) (ykc_213 (e := (0, .isub, 0)) rfl) (by show some ([.int ((zn (ns + 1)) - (Int32.ofInt 1)), .ref 170] : List Value) = _; rw [e1594]) rfl ?_
                  refine w_pf (pc' := 121) (ykc_213 (e := (5, .putfield 142, 0)) rfl) rfl rfl (fun ph1596 u1595 => ?_)
                  refine w_alu (pc' := 122) (st' := [.int (Int32.ofInt 1)]) (ykc_213 (e := (0, .iconst 1, 0)) rfl) rfl rfl ?_
                  refine w_ret (v := (some (.int (Int32.ofInt 1)))) (ykc_213 (e := (7, .ireturn, 0)) rfl) zr_z ?_
                  rw [hQ, zi1]
                  have fv : zFr [] [(170, 17)] _ ph1596 := zFr_st u1595 (Or.inr (by simp))
                  refine ⟨(show zRF ph ph1596 from (zFr_trans (zFr_trans (zFr_trans (zFr_trans (zFr_trans (zFr_trans (zFr_mono f1 (by simp) (by simp)) (zFr_mono f2 (by simp) (by simp))) (zFr_mono f3 (by simp) (by simp))) (zFr_st u1585 (Or.inr (by simp)))) (zFr_mono f5 (by simp) (by simp))) (zFr_mono f6 (by simp) (by simp))) (zFr_st u1595 (Or.inr (by simp))))), f9 + 1, true, a2 + 1, cs2, ?_, rfl, zTm_F fv (by simp) (by simp) (by simp) hT6, zRc_F fv (by simp) (by simp) (zRc_F f6 (by simp) (by simp) hR5), fun _ => u1595.1, by omega, by omega⟩
                  show (if 3 = 3 then _ else _) = _
                  rw [if_pos rfl, if_neg hm1, if_neg hnd2, if_neg hnl, if_pos ⟨by omega, hb1⟩, hz]
                  show some (if true = true ∧ a2 < b ∧ t a2 = 41 then _ else _) = _
                  rw [if_pos ⟨rfl, hb2⟩]
                · show zW n D 213 Q 106 [some (.ref 170), some (.int (Int32.ofInt (-1)))] [.int (zI false)] ph1592
                  refine w_bne (ykc_213 (e := (4, .ifCond .ne 5, 111)) rfl) rfl (fun q => absurd q (by decide)) (fun b1597 => ?_)
                  refine w_alu (pc' := 110) (st' := [.int (Int32.ofInt 0)]) (ykc_213 (e := (0, .iconst 0, 0)) rfl) rfl rfl ?_
                  refine w_ret (v := (some (.int (Int32.ofInt 0)))) (ykc_213 (e := (7, .ireturn, 0)) rfl) zr_z ?_
                  rw [hQ, zi0]
                  refine ⟨(show zRF ph ph1592 from (zFr_trans (zFr_trans (zFr_trans (zFr_trans (zFr_trans (zFr_mono f1 (by simp) (by simp)) (zFr_mono f2 (by simp) (by simp))) (zFr_mono f3 (by simp) (by simp))) (zFr_st u1585 (Or.inr (by simp)))) (zFr_mono f5 (by simp) (by simp))) (zFr_mono f6 (by simp) (by simp)))), f9 + 1, false, a2, cs2, ?_, rfl, hT6, zRc_F f6 (by simp) (by simp) hR5, fun h => absurd h (by decide), by omega, by omega⟩
                  show (if 3 = 3 then _ else _) = _
                  rw [if_pos rfl, if_neg hm1, if_neg hnd2, if_neg hnl, if_pos ⟨by omega, hb1⟩, hz]
                  show some (if true = true ∧ a2 < b ∧ t a2 = 41 then _ else _) = _
                  rw [if_neg (fun q => hb2 q.2)]
                
            
          · show zW n D 213 Q 77 [some (.ref 170), some (.int (Int32.ofInt (-1)))] [.int (zI false)] ph1582
            refine w_bne (ykc_213 (e := (4, .ifCond .ne 5, 82)) rfl) rfl (fun q => absurd q (by decide)) (fun b1598 => ?_)
            refine w_alu (pc' := 81) (st' := [.int (Int32.ofInt 0)]) (ykc_213 (e := (0, .iconst 0, 0)) rfl) rfl rfl ?_
            refine w_ret (v := (some (.int (Int32.ofInt 0)))) (ykc_213 (e := (7, .ireturn, 0)) rfl) zr_z ?_
            rw [hQ, zi0]
            refine ⟨(show zRF ph ph1582 from (zFr_trans (zFr_trans (zFr_mono f1 (by simp) (by simp)) (zFr_mono f2 (by simp) (by simp))) (zFr_mono f3 (by simp) (by simp)))), 1, false, a, cs, ?_, rfl, hT3, zRc_F f3 (by simp) (by simp) (zRc_F f2 (by simp) (by simp) hRa), fun h => absurd h (by decide), Nat.le_refl _, Nat.le_refl _⟩
            show (if 3 = 3 then _ else _) = _
            rw [if_pos rfl, if_neg hm1, if_neg hnd2, if_neg hnl, if_neg (fun q => hb1 ⟨q.2.1, q.2.2⟩)]
          
      
    · refine w_load (pc' := 31) (v := .ref 170) (m := 1) (ykc_213 (e := (2, .aload_n kF0, 0)) rfl) rfl rfl ?_
      refine w_load (pc' := 32) (v := .ref 170) (m := 1) (ykc_213 (e := (2, .aload_n kF0, 0)) rfl) rfl rfl ?_
      refine w_alu (pc' := 33) (st' := [.int (Int32.ofInt 3), .ref 170, .ref 170]) (ykc_213 (e := (0, .iconst 3, 0)) rfl) rfl rfl ?_
      have hdd := of_decide_eq_true b1572
      refine w_cv (as := [.ref 170, .int (Int32.ofInt 3)]) (r := [.ref 170]) (ykc_213 (e := (6, .invokevirtual 224, 0)) rfl) rfl rfl rfl rfl (zm_num3 (zSh_F f1 (by decide +kernel) hS) hTa hdd.1 (decide_eq_true hdd.2)) (fun v1599 ph1600 hv => ?_)
      obtain ⟨f2, rfl, hT2, hlt9, hz1⟩ := hv
      show zW n D 213 Q 36 [some (.ref 170), none] [.int (zn (znv t a (zdc b t a))), .ref 170] ph1600
      refine w_cv (as := [.ref 170, .int (zn (znv t a (zdc b t a)))]) (r := []) (ykc_213 (e := (6, .invokevirtual 233, 0)) rfl) rfl rfl rfl rfl (zm_codes (c := znv t a (zdc b t a)) (zSh_F ((show zRF ph ph1600 from (zFr_trans (zFr_mono f1 (by simp) (by simp)) (zFr_mono f2 (by simp) (by simp))))) (by decide +kernel) hS) (zRc_F f2 (by simp) (by simp) hRa) rfl (by omega) (by omega)) (fun v1601 ph1602 hv => ?_)
      obtain ⟨rfl, fc, hR3⟩ := hv
      show zW n D 213 Q 39 [some (.ref 170), none] [] ph1602
      refine w_alu (pc' := 40) (st' := [.int (Int32.ofInt 1)]) (ykc_213 (e := (0, .iconst 1, 0)) rfl) rfl rfl ?_
      refine w_ret (v := (some (.int (Int32.ofInt 1)))) (ykc_213 (e := (7, .ireturn, 0)) rfl) zr_z ?_
      rw [hQ, zi1]
      refine ⟨(show zRF ph ph1602 from (zFr_trans (zFr_trans (zFr_mono f1 (by simp) (by simp)) (zFr_mono f2 (by simp) (by simp))) (zFr_mono fc (by simp) (by simp)))), 1, true, a + zdc b t a, znv t a (zdc b t a) :: cs, ?_, rfl, zTm_F fc (by simp) (by simp) (by simp) hT2, hR3, fun _ => (fc.1 170 17 (by decide) (by decide)).trans ((f2.1 170 17 (by decide) (by decide)).trans h17a), by omega, by show cs.length + 1 + a ≤ _; omega⟩
      show (if 3 = 3 then _ else _) = _
      rw [if_pos rfl, if_neg hm1, if_pos ⟨hdd.1, decide_eq_true hdd.2⟩]
      
  
section ZDL
variable {b : Nat} {t : Nat → Nat}
theorem zde_rf {f r a ns : Nat} {cs : List Nat} {a1 : Nat} {cs1 : List Nat} (hr : r < 3) (h : zde b t f (r + 1) a ns cs = some (false, a1, cs1)) : zde b t (f + 1) r a ns cs = some (false, a1, cs1) := by
  unfold zde
  rw [if_neg (by omega), if_pos hr, h]
  rfl
theorem zde_rt {f g r a ns : Nat} {cs : List Nat} {a1 : Nat} {cs1 : List Nat} {x : Bool × Nat × List Nat} (hr : r < 3) (h : zde b t f (r + 1) a ns cs = some (true, a1, cs1)) (h2 : zde b t g (r + 4) a1 ns cs1 = some x) : ∃ f, zde b t f r a ns cs = some x := by
  refine ⟨f + g + 1, ?_⟩
  unfold zde
  rw [if_neg (by omega), if_pos hr, zde_m h (Nat.le_add_right f g)]
  show (if true = true then zde b t (f + g) (r + 4) a1 ns cs1 else some (true, a1, cs1)) = _
  rw [if_pos rfl]
  exact zde_m h2 (Nat.le_add_left g f)
theorem zde_l0 {r a ns : Nat} {cs : List Nat} (h : ¬ (a < b ∧ zrk2 r (t a) = true)) : zde b t 1 (r + 4) a ns cs = some (true, a, cs) := by
  unfold zde
  rw [if_neg (by omega), if_neg (by omega), show r + 4 - 4 = r by omega, if_neg h]
theorem zde_lf {f r a ns : Nat} {cs : List Nat} {a1 : Nat} {cs1 : List Nat} (h0 : a < b ∧ zrk2 r (t a) = true) (h : zde b t f (r + 1) (a + 1) ns cs = some (false, a1, cs1)) : zde b t (f + 1) (r + 4) a ns cs = some (false, a1, cs1) := by
  unfold zde
  rw [if_neg (by omega), if_neg (by omega), show r + 4 - 4 = r by omega, if_pos h0, show r + 4 - 3 = r + 1 by omega, h]
  rfl
theorem zde_l1 {f a ns : Nat} {cs : List Nat} {a1 : Nat} {cs1 : List Nat} (h0 : a < b ∧ zrk2 0 (t a) = true) (h : zde b t f 1 (a + 1) ns cs = some (true, a1, cs1)) : zde b t (f + 1) 4 a ns cs = some (true, a1, zop (t a) :: cs1) := by
  unfold zde
  rw [if_neg (by decide), if_neg (by decide), show 4 - 4 = 0 from rfl, if_pos h0, show 4 - 3 = 1 from rfl, h]
  rfl
theorem zde_lt {f g r a ns : Nat} {cs : List Nat} {a1 : Nat} {cs1 : List Nat} {x : Bool × Nat × List Nat} (hr : 0 < r) (h0 : a < b ∧ zrk2 r (t a) = true) (h : zde b t f (r + 1) (a + 1) ns cs = some (true, a1, cs1)) (h2 : zde b t g (r + 4) a1 ns (zop (t a) :: cs1) = some x) : ∃ f, zde b t f (r + 4) a ns cs = some x := by
  refine ⟨f + g + 1, ?_⟩
  unfold zde
  rw [if_neg (by omega), if_neg (by omega), show r + 4 - 4 = r by omega, if_pos h0, show r + 4 - 3 = r + 1 by omega, zde_m h (Nat.le_add_right f g)]
  show (if true = true then (if r + 4 = 4 then some (true, a1, zop (t a) :: cs1) else zde b t (f + g) (r + 4) a1 ns (zop (t a) :: cs1)) else some (true, a1, cs1)) = _
  rw [if_pos rfl, if_neg (by omega)]
  exact zde_m h2 (Nat.le_add_left g f)
end ZDL
theorem zm_rankD3 {b ln : Nat} {t : Nat → Nat} {D : Nat} (ih : zIHr b ln t D) (hb40 : b ≤ 40) {ph : pm_H} {a ns : Nat} {cs : List Nat} (hS : zSh ph) (hp : zRp b ln t ph a ns cs) (hns : ns ≤ 4) (hl : cs.length ≤ a) {x : Int32} (hx : x.toInt = ((3 : Nat) : Int)) : zMD (D + 1) 214 [.ref 170, .int x] ph (zRq b ln t 3 a ns cs ph) := by
  obtain ⟨Q, hQ⟩ : ∃ Q : Option Value → pm_H → Prop, Q = (zRq b ln t 3 a ns cs ph) := ⟨_, rfl⟩
  rw [← hQ]
  refine zMD_mk fun n => ?_
  show zW n D 214 Q 0 [some (.ref 170), some (.int x), none, none] [] ph
  have c_0 : ((Int16.ofInt 2000).toInt32).toInt = 2000 := by decide
  have c_1 : (Int32.ofInt 0).toInt = 0 := by decide
  have c_2 : (Int32.ofInt 1).toInt = 1 := by decide
  have c_3 : (Int32.ofInt 3).toInt = 3 := by decide
  have c_4 : (Int32.ofInt 5).toInt = 5 := by decide
  refine w_load (pc' := 1) (v := .int x) (m := 1) (ykc_214 (e := (2, .iload_n kF1, 0)) rfl) rfl rfl ?_
  refine w_alu (pc' := 2) (st' := [.int (Int32.ofInt 3), .int x]) (ykc_214 (e := (0, .iconst 3, 0)) rfl) rfl rfl ?_
  refine w_ine (ykc_214 (e := (4, .if_icmp .ne 8, 10)) rfl) rfl (fun q => by exfalso; omega) (fun b1603 => ?_)
  refine w_load (pc' := 6) (v := .ref 170) (m := 1) (ykc_214 (e := (2, .aload_n kF0, 0)) rfl) rfl rfl ?_
  refine w_cvD (as := [.ref 170]) (r := []) (ykc_214 (e := (6, .invokevirtual 230, 0)) rfl) rfl rfl rfl rfl (ih.1 ph a ns cs hS hp hns hl) (fun v1604 ph1605 hv => ?_)
  rcases hv with ⟨f2, f9, ok, a2, cs2, hz, rfl, hT2, hR2, h172, ha2, hl2⟩
  · show zW n D 214 Q 9 [some (.ref 170), some (.int x), none, none] [.int (zI ok)] ph1605
    refine w_ret (v := (some (.int (zI ok)))) (ykc_214 (e := (7, .ireturn, 0)) rfl) zr_z ?_
    rw [hQ]
    exact ⟨f2, f9, ok, a2, cs2, hz, rfl, hT2, hR2, h172, ha2, hl2⟩
  
theorem zm_rankD2 {b ln : Nat} {t : Nat → Nat} {D : Nat} (ih : zIHr b ln t D) (hb40 : b ≤ 40) {ph : pm_H} {a ns : Nat} {cs : List Nat} (hS : zSh ph) (hp : zRp b ln t ph a ns cs) (hns : ns ≤ 4) (hl : cs.length ≤ a) {x : Int32} (hx : x.toInt = ((2 : Nat) : Int)) : zMD (D + 1) 214 [.ref 170, .int x] ph (zRq b ln t 2 a ns cs ph) := by
  obtain ⟨Q, hQ⟩ : ∃ Q : Option Value → pm_H → Prop, Q = (zRq b ln t 2 a ns cs ph) := ⟨_, rfl⟩
  rw [← hQ]
  refine zMD_mk fun n => ?_
  show zW n D 214 Q 0 [some (.ref 170), some (.int x), none, none] [] ph
  have c_0 : ((Int16.ofInt 2000).toInt32).toInt = 2000 := by decide
  have c_1 : (Int32.ofInt 0).toInt = 0 := by decide
  have c_2 : (Int32.ofInt 1).toInt = 1 := by decide
  have c_3 : (Int32.ofInt 3).toInt = 3 := by decide
  have c_4 : (Int32.ofInt 5).toInt = 5 := by decide
  have ihr := ih
  obtain ⟨hT, h17, hR⟩ := hp
  have hab := hT.2.2.1
  refine w_load (pc' := 1) (v := .int x) (m := 1) (ykc_214 (e := (2, .iload_n kF1, 0)) rfl) rfl rfl ?_
  refine w_alu (pc' := 2) (st' := [.int (Int32.ofInt 3), .int x]) (ykc_214 (e := (0, .iconst 3, 0)) rfl) rfl rfl ?_
  refine w_ine (ykc_214 (e := (4, .if_icmp .ne 8, 10)) rfl) rfl (fun b1606 => ?_) (fun q => by exfalso; omega)
  refine w_load (pc' := 11) (v := .ref 170) (m := 1) (ykc_214 (e := (2, .aload_n kF0, 0)) rfl) rfl rfl ?_
  refine w_load (pc' := 12) (v := .int x) (m := 1) (ykc_214 (e := (2, .iload_n kF1, 0)) rfl) rfl rfl ?_
  refine w_alu (pc' := 13) (st' := [.int (Int32.ofInt 1), .int x, .ref 170]) (ykc_214 (e := (0, .iconst 1, 0)) rfl) rfl rfl ?_
  have e1607 : x + (Int32.ofInt 1) = zn (3) := (zaddN (a := 2) (b := 1) (by omega) c_2 (by omega)) 
  have te1607 := znt (k := 3) (by omega)
  refine w_alu (pc' := 14) (st' := [.int (zn (3)), .ref 170]) (ykc_214 (e := (0, .iadd, 0)) rfl) (by rw [← e1607]; rfl) rfl ?_
  refine w_cvD (as := [.ref 170, .int (zn (3))]) (r := []) (ykc_214 (e := (6, .invokevirtual 239, 0)) rfl) rfl rfl rfl rfl (ihr.2 _ 3 _ a ns cs hS (by first | exact znt (by decide) | omega) (by decide) ⟨hT, h17, hR⟩ hns hl) (fun v1608 ph1609 hv => ?_)
  rcases hv with ⟨f1, g1, ok1, a1, cs1, hz1, rfl, hT1, hR1, h171, ha1, hl1⟩
  · cases ok1 with
    | false =>
      show zW n D 214 Q 17 [some (.ref 170), some (.int x), none, none] [.int (zI false)] ph1609
      refine w_bne (ykc_214 (e := (4, .ifCond .ne 5, 22)) rfl) rfl (fun q => absurd q (by decide)) (fun b1610 => ?_)
      refine w_alu (pc' := 21) (st' := [.int (Int32.ofInt 0)]) (ykc_214 (e := (0, .iconst 0, 0)) rfl) rfl rfl ?_
      refine w_ret (v := (some (.int (Int32.ofInt 0)))) (ykc_214 (e := (7, .ireturn, 0)) rfl) zr_z ?_
      rw [hQ, zi0]
      refine ⟨f1, g1 + 1, false, a1, cs1, zde_rf (by decide) hz1, rfl, hT1, hR1, fun h => absurd h (by decide), ha1, hl1⟩
    | true =>
      show zW n D 214 Q 17 [some (.ref 170), some (.int x), none, none] [.int (zI true)] ph1609
      refine w_bne (ykc_214 (e := (4, .ifCond .ne 5, 22)) rfl) rfl (fun b1611 => ?_) (fun q => absurd q (by decide))
      refine w_alu (pc' := 23) (st' := [.int (Int32.ofInt 1)]) (ykc_214 (e := (0, .iconst 1, 0)) rfl) rfl rfl ?_
      refine w_store (pc' := 24) (L' := [some (.ref 170), some (.int x), some (.int (Int32.ofInt 1)), none]) (st' := []) (m := 1) (ykc_214 (e := (3, .istore_n kF2, 0)) rfl) rfl rfl ?_
      have hl9 : ∀ (n : Nat), ∀ (p : pm_H) (a1 : Nat) (cs1 : List Nat) (o9 : Option Value), (zRF ph p) → (zTm p a1 b ln t) → (zc p 170 17 = some (.int (zn ns))) → (zRc p cs1) → (a ≤ a1) → (cs1.length + a ≤ cs.length + a1) → (∀ g y, zde b t g 6 a1 ns cs1 = some y → ∃ f, zde b t f 2 a ns cs = some y) → zW n D 214 Q 24 [some (.ref 170), some (.int x), some (.int (Int32.ofInt 1)), o9] [] p := by
        intro n
        induction n using Nat.strongRecOn with
        | ind n ih =>
          intro p a1 cs1 o9 f1 hT1 h171 hR1 ha1 hl1 hcon
          have hab1 := hT1.2.2.1
          refine w_load (pc' := 25) (v := .int (Int32.ofInt 1)) (m := 1) (ykc_214 (e := (2, .iload_n kF2, 0)) rfl) rfl rfl ?_
          refine w_zeq (ykc_214 (e := (4, .ifCond .eq 88, 113)) rfl) rfl (fun q => by exfalso; omega) (fun b1612 => ?_)
          refine w_load (pc' := 29) (v := .ref 170) (m := 1) (ykc_214 (e := (2, .aload_n kF0, 0)) rfl) rfl rfl ?_
          refine w_load (pc' := 30) (v := .int x) (m := 1) (ykc_214 (e := (2, .iload_n kF1, 0)) rfl) rfl rfl ?_
          refine w_zne (ykc_214 (e := (4, .ifCond .ne 8, 38)) rfl) rfl (fun b1613 => ?_) (fun q => by exfalso; omega)
          refine w_load (pc' := 39) (v := .int x) (m := 1) (ykc_214 (e := (2, .iload_n kF1, 0)) rfl) rfl rfl ?_
          refine w_alu (pc' := 40) (st' := [.int (Int32.ofInt 1), .int x, .ref 170]) (ykc_214 (e := (0, .iconst 1, 0)) rfl) rfl rfl ?_
          refine w_ine (ykc_214 (e := (4, .if_icmp .ne 8, 48)) rfl) rfl (fun b1614 => ?_) (fun q => by exfalso; omega)
          refine w_push (pc' := 50) (v := .ref 1048631) (m := 2) (ykc_214 (e := (1, .ldc 246, 0)) rfl) rfl rfl ?_
          refine w_cv (as := [.ref 170, .ref 1048631]) (r := []) (ykc_214 (e := (6, .invokevirtual 184, 0)) rfl) rfl rfl rfl rfl (zm_takesOf (zRF_S ((show zRF ph p from (zFr_mono f1 (by simp) (by simp)))) hS) hT1 zstr_mul) (fun v1615 ph1616 hv => ?_)
          rcases hv with ⟨f2, ⟨k9, hk9, ha9, hc9, rfl, hT2⟩ | ⟨hn9, rfl, hT2⟩⟩
          · have tk9 := znt (k := k9) (by omega)
            have e8 : zop (t a1) = 2005 + k9 := by rw [hc9]; exact (zrk_a.2.2 k9 hk9).2
            have e7 : zrk2 2 (t a1) = true := by rw [hc9]; exact (zrk_a.2.2 k9 hk9).1
            show zW n D 214 Q 53 [some (.ref 170), some (.int x), some (.int (Int32.ofInt 1)), o9] [.int (zn k9)] ph1616
            refine w_store (pc' := 54) (L' := [some (.ref 170), some (.int x), some (.int (Int32.ofInt 1)), some (.int (zn k9))]) (st' := []) (m := 1) (ykc_214 (e := (3, .istore_n kF3, 0)) rfl) rfl rfl ?_
            refine w_load (pc' := 55) (v := .int (zn k9)) (m := 1) (ykc_214 (e := (2, .iload_n kF3, 0)) rfl) rfl rfl ?_
            refine w_zge (ykc_214 (e := (4, .ifCond .ge 5, 60)) rfl) rfl (fun b1617 => ?_) (fun q => by exfalso; omega)
            refine w_load (pc' := 61) (v := .ref 170) (m := 1) (ykc_214 (e := (2, .aload_n kF0, 0)) rfl) rfl rfl ?_
            refine w_load (pc' := 62) (v := .int x) (m := 1) (ykc_214 (e := (2, .iload_n kF1, 0)) rfl) rfl rfl ?_
            refine w_alu (pc' := 63) (st' := [.int (Int32.ofInt 1), .int x, .ref 170]) (ykc_214 (e := (0, .iconst 1, 0)) rfl) rfl rfl ?_
            have e1618 : x + (Int32.ofInt 1) = zn (3) := (zaddN (a := 2) (b := 1) (by omega) c_2 (by omega)) 
            have te1618 := znt (k := 3) (by omega)
            refine w_alu (pc' := 64) (st' := [.int (zn (3)), .ref 170]) (ykc_214 (e := (0, .iadd, 0)) rfl) (by rw [← e1618]; rfl) rfl ?_
            refine w_cvD (as := [.ref 170, .int (zn (3))]) (r := []) (ykc_214 (e := (6, .invokevirtual 239, 0)) rfl) rfl rfl rfl rfl (ihr.2 _ 3 _ (a1 + 1) ns cs1 (zRF_S ((show zRF ph ph1616 from (zFr_trans (zFr_mono f1 (by simp) (by simp)) (zFr_mono f2 (by simp) (by simp))))) hS) (by first | exact znt (by decide) | omega) (by decide) ⟨hT2, (f2.1 170 17 (by decide) (by decide)).trans h171, zRc_F f2 (by simp) (by simp) hR1⟩ hns (by omega)) (fun v1619 ph1620 hv => ?_)
            rcases hv with ⟨f3, g3, ok3, a3, cs3, hz3, rfl, hT3, hR3, h173, ha3, hl3⟩
            · cases ok3 with
              | false =>
                show zW n D 214 Q 67 [some (.ref 170), some (.int x), some (.int (Int32.ofInt 1)), some (.int (zn k9))] [.int (zI false)] ph1620
                refine w_bne (ykc_214 (e := (4, .ifCond .ne 5, 72)) rfl) rfl (fun q => absurd q (by decide)) (fun b1621 => ?_)
                refine w_alu (pc' := 71) (st' := [.int (Int32.ofInt 0)]) (ykc_214 (e := (0, .iconst 0, 0)) rfl) rfl rfl ?_
                refine w_ret (v := (some (.int (Int32.ofInt 0)))) (ykc_214 (e := (7, .ireturn, 0)) rfl) zr_z ?_
                rw [hQ, zi0]
                obtain ⟨g9, hg9⟩ := hcon _ _ (zde_lf (r := 2) ⟨ha9, e7⟩ hz3)
                exact ⟨(show zRF ph ph1620 from (zFr_trans (zFr_trans (zFr_mono f1 (by simp) (by simp)) (zFr_mono f2 (by simp) (by simp))) (zFr_mono f3 (by simp) (by simp)))), g9, false, a3, cs3, hg9, rfl, hT3, hR3, fun h => absurd h (by decide), by omega, by omega⟩
              | true =>
                show zW n D 214 Q 67 [some (.ref 170), some (.int x), some (.int (Int32.ofInt 1)), some (.int (zn k9))] [.int (zI true)] ph1620
                have hb3 := hT3.2.2.1
                refine w_bne (ykc_214 (e := (4, .ifCond .ne 5, 72)) rfl) rfl (fun b1622 => ?_) (fun q => absurd q (by decide))
                refine w_load (pc' := 73) (v := .ref 170) (m := 1) (ykc_214 (e := (2, .aload_n kF0, 0)) rfl) rfl rfl ?_
                refine w_push (pc' := 76) (v := .int ((Int16.ofInt 2000).toInt32)) (m := 3) (ykc_214 (e := (1, .sipush 2000, 0)) rfl) rfl rfl ?_
                refine w_load (pc' := 77) (v := .int (zn k9)) (m := 1) (ykc_214 (e := (2, .iload_n kF3, 0)) rfl) rfl rfl ?_
                have e1623 : ((Int16.ofInt 2000).toInt32) + (zn k9) = zn (2000 + k9) := (zaddN (a := 2000) (b := k9) c_0 (znt (by omega)) (by omega)) 
                have te1623 := znt (k := 2000 + k9) (by omega)
                refine w_alu (pc' := 78) (st' := [.int (zn (2000 + k9)), .ref 170]) (ykc_214 (e := (0, .iadd, 0)) rfl) (by rw [← e1623]; rfl) rfl ?_
                refine w_load (pc' := 79) (v := .int x) (m := 1) (ykc_214 (e := (2, .iload_n kF1, 0)) rfl) rfl rfl ?_
                refine w_zne (ykc_214 (e := (4, .ifCond .ne 7, 86)) rfl) rfl (fun b1624 => ?_) (fun q => by exfalso; omega)
                refine w_load (pc' := 87) (v := .int x) (m := 1) (ykc_214 (e := (2, .iload_n kF1, 0)) rfl) rfl rfl ?_
                refine w_alu (pc' := 88) (st' := [.int (Int32.ofInt 1), .int x, .int (zn (2000 + k9)), .ref 170]) (ykc_214 (e := (0, .iconst 1, 0)) rfl) rfl rfl ?_
                refine w_ine (ykc_214 (e := (4, .if_icmp .ne 7, 95)) rfl) rfl (fun b1625 => ?_) (fun q => by exfalso; omega)
                refine w_alu (pc' := 96) (st' := [.int (Int32.ofInt 5), .int (zn (2000 + k9)), .ref 170]) (ykc_214 (e := (0, .iconst 5, 0)) rfl) rfl rfl ?_
                have e1626 : (zn (2000 + k9)) + (Int32.ofInt 5) = zn (2000 + k9 + 5) := (zaddN (a := 2000 + k9) (b := 5) (znt (by omega)) c_4 (by omega)) 
                have te1626 := znt (k := 2000 + k9 + 5) (by omega)
                refine w_alu (pc' := 97) (st' := [.int (zn (2000 + k9 + 5)), .ref 170]) (ykc_214 (e := (0, .iadd, 0)) rfl) (by rw [← e1626]; rfl) rfl ?_
                refine w_cv (as := [.ref 170, .int (zn (2000 + k9 + 5))]) (r := []) (ykc_214 (e := (6, .invokevirtual 233, 0)) rfl) rfl rfl rfl rfl (zm_codes (c := 2000 + k9 + 5) (zRF_S ((show zRF ph ph1620 from (zFr_trans (zFr_trans (zFr_mono f1 (by simp) (by simp)) (zFr_mono f2 (by simp) (by simp))) (zFr_mono f3 (by simp) (by simp))))) hS) hR3 (by first | rfl | (apply congrArg zn; omega)) (by omega) (by omega)) (fun v1627 ph1628 hv => ?_)
                obtain ⟨rfl, fc, hR4⟩ := hv
                show zW n D 214 Q 100 [some (.ref 170), some (.int x), some (.int (Int32.ofInt 1)), some (.int (zn k9))] [] ph1628
                refine w_load (pc' := 101) (v := .int x) (m := 1) (ykc_214 (e := (2, .iload_n kF1, 0)) rfl) rfl rfl ?_
                refine w_zle (ykc_214 (e := (4, .ifCond .le 7, 108)) rfl) rfl (fun q => by exfalso; omega) (fun b1629 => ?_)
                refine w_alu (pc' := 105) (st' := [.int (Int32.ofInt 1)]) (ykc_214 (e := (0, .iconst 1, 0)) rfl) rfl rfl ?_
                refine w_br (pc' := 109) (st' := [.int (Int32.ofInt 1)]) (ykc_214 (e := (4, .goto 4, 109)) rfl) rfl ?_
                refine w_store (pc' := 110) (L' := [some (.ref 170), some (.int x), some (.int (Int32.ofInt 1)), some (.int (zn k9))]) (st' := []) (m := 1) (ykc_214 (e := (3, .istore_n kF2, 0)) rfl) rfl rfl ?_
                refine w_gb (ykc_214 (e := (4, .goto (-86), 24)) rfl) (fun k1630 hk1630 => ?_)
                have hab3 := hT3.2.2.1
                have hR5 : zRc ph1628 (zop (t a1) :: cs3) := by rw [e8, show 2005 + k9 = 2000 + k9 + 5 by omega]; exact hR4
                have hT5 := zTm_F fc (by simp) (by simp) (by simp) hT3
                have h175 := (fc.1 170 17 (by decide) (by decide)).trans (h173 rfl)
                have hl5 : (zop (t a1) :: cs3).length + a ≤ cs.length + a3 := by show cs3.length + 1 + a ≤ _; omega
                exact ih k1630 hk1630 _ a3 (zop (t a1) :: cs3) _ ((show zRF ph ph1628 from (zFr_trans (zFr_trans (zFr_trans (zFr_mono f1 (by simp) (by simp)) (zFr_mono f2 (by simp) (by simp))) (zFr_mono f3 (by simp) (by simp))) (zFr_mono fc (by simp) (by simp))))) hT5 h175 hR5 (by omega) hl5 (fun g y h => by
                  obtain ⟨g9, hg9⟩ := zde_lt (r := 2) (by decide) ⟨ha9, e7⟩ hz3 h
                  exact hcon _ _ hg9)
            
          · have tm1 : (Int32.ofInt (-1)).toInt = -1 := by decide
            have hno : ¬ (a1 < b ∧ zrk2 2 (t a1) = true) := fun q => by
              obtain ⟨k, hk, e⟩ := zrk_c.2.2 q.2
              exact hn9 q.1 k hk e.symm
            show zW n D 214 Q 53 [some (.ref 170), some (.int x), some (.int (Int32.ofInt 1)), o9] [.int (Int32.ofInt (-1))] ph1616
            refine w_store (pc' := 54) (L' := [some (.ref 170), some (.int x), some (.int (Int32.ofInt 1)), some (.int (Int32.ofInt (-1)))]) (st' := []) (m := 1) (ykc_214 (e := (3, .istore_n kF3, 0)) rfl) rfl rfl ?_
            refine w_load (pc' := 55) (v := .int (Int32.ofInt (-1))) (m := 1) (ykc_214 (e := (2, .iload_n kF3, 0)) rfl) rfl rfl ?_
            refine w_zge (ykc_214 (e := (4, .ifCond .ge 5, 60)) rfl) rfl (fun q => by exfalso; omega) (fun b1631 => ?_)
            refine w_alu (pc' := 59) (st' := [.int (Int32.ofInt 1)]) (ykc_214 (e := (0, .iconst 1, 0)) rfl) rfl rfl ?_
            refine w_ret (v := (some (.int (Int32.ofInt 1)))) (ykc_214 (e := (7, .ireturn, 0)) rfl) zr_z ?_
            rw [hQ, zi1]
            obtain ⟨g9, hg9⟩ := hcon _ _ (zde_l0 hno)
            exact ⟨(show zRF ph ph1616 from (zFr_trans (zFr_mono f1 (by simp) (by simp)) (zFr_mono f2 (by simp) (by simp)))), g9, true, a1, cs1, hg9, rfl, hT2, zRc_F f2 (by simp) (by simp) hR1, fun _ => (f2.1 170 17 (by decide) (by decide)).trans h171, ha1, hl1⟩
          
      exact hl9 n _ a1 cs1 _ f1 hT1 (h171 rfl) hR1 ha1 hl1 (fun g y h => zde_rt (by decide) hz1 h)
      
  
theorem zm_rankD1 {b ln : Nat} {t : Nat → Nat} {D : Nat} (ih : zIHr b ln t D) (hb40 : b ≤ 40) {ph : pm_H} {a ns : Nat} {cs : List Nat} (hS : zSh ph) (hp : zRp b ln t ph a ns cs) (hns : ns ≤ 4) (hl : cs.length ≤ a) {x : Int32} (hx : x.toInt = ((1 : Nat) : Int)) : zMD (D + 1) 214 [.ref 170, .int x] ph (zRq b ln t 1 a ns cs ph) := by
  obtain ⟨Q, hQ⟩ : ∃ Q : Option Value → pm_H → Prop, Q = (zRq b ln t 1 a ns cs ph) := ⟨_, rfl⟩
  rw [← hQ]
  refine zMD_mk fun n => ?_
  show zW n D 214 Q 0 [some (.ref 170), some (.int x), none, none] [] ph
  have c_0 : ((Int16.ofInt 2000).toInt32).toInt = 2000 := by decide
  have c_1 : (Int32.ofInt 0).toInt = 0 := by decide
  have c_2 : (Int32.ofInt 1).toInt = 1 := by decide
  have c_3 : (Int32.ofInt 3).toInt = 3 := by decide
  have c_4 : (Int32.ofInt 5).toInt = 5 := by decide
  have ihr := ih
  obtain ⟨hT, h17, hR⟩ := hp
  have hab := hT.2.2.1
  refine w_load (pc' := 1) (v := .int x) (m := 1) (ykc_214 (e := (2, .iload_n kF1, 0)) rfl) rfl rfl ?_
  refine w_alu (pc' := 2) (st' := [.int (Int32.ofInt 3), .int x]) (ykc_214 (e := (0, .iconst 3, 0)) rfl) rfl rfl ?_
  refine w_ine (ykc_214 (e := (4, .if_icmp .ne 8, 10)) rfl) rfl (fun b1632 => ?_) (fun q => by exfalso; omega)
  refine w_load (pc' := 11) (v := .ref 170) (m := 1) (ykc_214 (e := (2, .aload_n kF0, 0)) rfl) rfl rfl ?_
  refine w_load (pc' := 12) (v := .int x) (m := 1) (ykc_214 (e := (2, .iload_n kF1, 0)) rfl) rfl rfl ?_
  refine w_alu (pc' := 13) (st' := [.int (Int32.ofInt 1), .int x, .ref 170]) (ykc_214 (e := (0, .iconst 1, 0)) rfl) rfl rfl ?_
  have e1633 : x + (Int32.ofInt 1) = zn (2) := (zaddN (a := 1) (b := 1) (by omega) c_2 (by omega)) 
  have te1633 := znt (k := 2) (by omega)
  refine w_alu (pc' := 14) (st' := [.int (zn (2)), .ref 170]) (ykc_214 (e := (0, .iadd, 0)) rfl) (by rw [← e1633]; rfl) rfl ?_
  refine w_cvD (as := [.ref 170, .int (zn (2))]) (r := []) (ykc_214 (e := (6, .invokevirtual 239, 0)) rfl) rfl rfl rfl rfl (ihr.2 _ 2 _ a ns cs hS (by first | exact znt (by decide) | omega) (by decide) ⟨hT, h17, hR⟩ hns hl) (fun v1634 ph1635 hv => ?_)
  rcases hv with ⟨f1, g1, ok1, a1, cs1, hz1, rfl, hT1, hR1, h171, ha1, hl1⟩
  · cases ok1 with
    | false =>
      show zW n D 214 Q 17 [some (.ref 170), some (.int x), none, none] [.int (zI false)] ph1635
      refine w_bne (ykc_214 (e := (4, .ifCond .ne 5, 22)) rfl) rfl (fun q => absurd q (by decide)) (fun b1636 => ?_)
      refine w_alu (pc' := 21) (st' := [.int (Int32.ofInt 0)]) (ykc_214 (e := (0, .iconst 0, 0)) rfl) rfl rfl ?_
      refine w_ret (v := (some (.int (Int32.ofInt 0)))) (ykc_214 (e := (7, .ireturn, 0)) rfl) zr_z ?_
      rw [hQ, zi0]
      refine ⟨f1, g1 + 1, false, a1, cs1, zde_rf (by decide) hz1, rfl, hT1, hR1, fun h => absurd h (by decide), ha1, hl1⟩
    | true =>
      show zW n D 214 Q 17 [some (.ref 170), some (.int x), none, none] [.int (zI true)] ph1635
      refine w_bne (ykc_214 (e := (4, .ifCond .ne 5, 22)) rfl) rfl (fun b1637 => ?_) (fun q => absurd q (by decide))
      refine w_alu (pc' := 23) (st' := [.int (Int32.ofInt 1)]) (ykc_214 (e := (0, .iconst 1, 0)) rfl) rfl rfl ?_
      refine w_store (pc' := 24) (L' := [some (.ref 170), some (.int x), some (.int (Int32.ofInt 1)), none]) (st' := []) (m := 1) (ykc_214 (e := (3, .istore_n kF2, 0)) rfl) rfl rfl ?_
      have hl9 : ∀ (n : Nat), ∀ (p : pm_H) (a1 : Nat) (cs1 : List Nat) (o9 : Option Value), (zRF ph p) → (zTm p a1 b ln t) → (zc p 170 17 = some (.int (zn ns))) → (zRc p cs1) → (a ≤ a1) → (cs1.length + a ≤ cs.length + a1) → (∀ g y, zde b t g 5 a1 ns cs1 = some y → ∃ f, zde b t f 1 a ns cs = some y) → zW n D 214 Q 24 [some (.ref 170), some (.int x), some (.int (Int32.ofInt 1)), o9] [] p := by
        intro n
        induction n using Nat.strongRecOn with
        | ind n ih =>
          intro p a1 cs1 o9 f1 hT1 h171 hR1 ha1 hl1 hcon
          have hab1 := hT1.2.2.1
          refine w_load (pc' := 25) (v := .int (Int32.ofInt 1)) (m := 1) (ykc_214 (e := (2, .iload_n kF2, 0)) rfl) rfl rfl ?_
          refine w_zeq (ykc_214 (e := (4, .ifCond .eq 88, 113)) rfl) rfl (fun q => by exfalso; omega) (fun b1638 => ?_)
          refine w_load (pc' := 29) (v := .ref 170) (m := 1) (ykc_214 (e := (2, .aload_n kF0, 0)) rfl) rfl rfl ?_
          refine w_load (pc' := 30) (v := .int x) (m := 1) (ykc_214 (e := (2, .iload_n kF1, 0)) rfl) rfl rfl ?_
          refine w_zne (ykc_214 (e := (4, .ifCond .ne 8, 38)) rfl) rfl (fun b1639 => ?_) (fun q => by exfalso; omega)
          refine w_load (pc' := 39) (v := .int x) (m := 1) (ykc_214 (e := (2, .iload_n kF1, 0)) rfl) rfl rfl ?_
          refine w_alu (pc' := 40) (st' := [.int (Int32.ofInt 1), .int x, .ref 170]) (ykc_214 (e := (0, .iconst 1, 0)) rfl) rfl rfl ?_
          refine w_ine (ykc_214 (e := (4, .if_icmp .ne 8, 48)) rfl) rfl (fun q => by exfalso; omega) (fun b1640 => ?_)
          refine w_push (pc' := 45) (v := .ref 1048630) (m := 2) (ykc_214 (e := (1, .ldc 244, 0)) rfl) rfl rfl ?_
          refine w_br (pc' := 50) (st' := [.ref 1048630, .ref 170]) (ykc_214 (e := (4, .goto 5, 50)) rfl) rfl ?_
          refine w_cv (as := [.ref 170, .ref 1048630]) (r := []) (ykc_214 (e := (6, .invokevirtual 184, 0)) rfl) rfl rfl rfl rfl (zm_takesOf (zRF_S ((show zRF ph p from (zFr_mono f1 (by simp) (by simp)))) hS) hT1 zstr_add) (fun v1641 ph1642 hv => ?_)
          rcases hv with ⟨f2, ⟨k9, hk9, ha9, hc9, rfl, hT2⟩ | ⟨hn9, rfl, hT2⟩⟩
          · have tk9 := znt (k := k9) (by omega)
            have e8 : zop (t a1) = 2003 + k9 := by rw [hc9]; exact (zrk_a.2.1 k9 hk9).2
            have e7 : zrk2 1 (t a1) = true := by rw [hc9]; exact (zrk_a.2.1 k9 hk9).1
            show zW n D 214 Q 53 [some (.ref 170), some (.int x), some (.int (Int32.ofInt 1)), o9] [.int (zn k9)] ph1642
            refine w_store (pc' := 54) (L' := [some (.ref 170), some (.int x), some (.int (Int32.ofInt 1)), some (.int (zn k9))]) (st' := []) (m := 1) (ykc_214 (e := (3, .istore_n kF3, 0)) rfl) rfl rfl ?_
            refine w_load (pc' := 55) (v := .int (zn k9)) (m := 1) (ykc_214 (e := (2, .iload_n kF3, 0)) rfl) rfl rfl ?_
            refine w_zge (ykc_214 (e := (4, .ifCond .ge 5, 60)) rfl) rfl (fun b1643 => ?_) (fun q => by exfalso; omega)
            refine w_load (pc' := 61) (v := .ref 170) (m := 1) (ykc_214 (e := (2, .aload_n kF0, 0)) rfl) rfl rfl ?_
            refine w_load (pc' := 62) (v := .int x) (m := 1) (ykc_214 (e := (2, .iload_n kF1, 0)) rfl) rfl rfl ?_
            refine w_alu (pc' := 63) (st' := [.int (Int32.ofInt 1), .int x, .ref 170]) (ykc_214 (e := (0, .iconst 1, 0)) rfl) rfl rfl ?_
            have e1644 : x + (Int32.ofInt 1) = zn (2) := (zaddN (a := 1) (b := 1) (by omega) c_2 (by omega)) 
            have te1644 := znt (k := 2) (by omega)
            refine w_alu (pc' := 64) (st' := [.int (zn (2)), .ref 170]) (ykc_214 (e := (0, .iadd, 0)) rfl) (by rw [← e1644]; rfl) rfl ?_
            refine w_cvD (as := [.ref 170, .int (zn (2))]) (r := []) (ykc_214 (e := (6, .invokevirtual 239, 0)) rfl) rfl rfl rfl rfl (ihr.2 _ 2 _ (a1 + 1) ns cs1 (zRF_S ((show zRF ph ph1642 from (zFr_trans (zFr_mono f1 (by simp) (by simp)) (zFr_mono f2 (by simp) (by simp))))) hS) (by first | exact znt (by decide) | omega) (by decide) ⟨hT2, (f2.1 170 17 (by decide) (by decide)).trans h171, zRc_F f2 (by simp) (by simp) hR1⟩ hns (by omega)) (fun v1645 ph1646 hv => ?_)
            rcases hv with ⟨f3, g3, ok3, a3, cs3, hz3, rfl, hT3, hR3, h173, ha3, hl3⟩
            · cases ok3 with
              | false =>
                show zW n D 214 Q 67 [some (.ref 170), some (.int x), some (.int (Int32.ofInt 1)), some (.int (zn k9))] [.int (zI false)] ph1646
                refine w_bne (ykc_214 (e := (4, .ifCond .ne 5, 72)) rfl) rfl (fun q => absurd q (by decide)) (fun b1647 => ?_)
                refine w_alu (pc' := 71) (st' := [.int (Int32.ofInt 0)]) (ykc_214 (e := (0, .iconst 0, 0)) rfl) rfl rfl ?_
                refine w_ret (v := (some (.int (Int32.ofInt 0)))) (ykc_214 (e := (7, .ireturn, 0)) rfl) zr_z ?_
                rw [hQ, zi0]
                obtain ⟨g9, hg9⟩ := hcon _ _ (zde_lf (r := 1) ⟨ha9, e7⟩ hz3)
                exact ⟨(show zRF ph ph1646 from (zFr_trans (zFr_trans (zFr_mono f1 (by simp) (by simp)) (zFr_mono f2 (by simp) (by simp))) (zFr_mono f3 (by simp) (by simp)))), g9, false, a3, cs3, hg9, rfl, hT3, hR3, fun h => absurd h (by decide), by omega, by omega⟩
              | true =>
                show zW n D 214 Q 67 [some (.ref 170), some (.int x), some (.int (Int32.ofInt 1)), some (.int (zn k9))] [.int (zI true)] ph1646
                have hb3 := hT3.2.2.1
                refine w_bne (ykc_214 (e := (4, .ifCond .ne 5, 72)) rfl) rfl (fun b1648 => ?_) (fun q => absurd q (by decide))
                refine w_load (pc' := 73) (v := .ref 170) (m := 1) (ykc_214 (e := (2, .aload_n kF0, 0)) rfl) rfl rfl ?_
                refine w_push (pc' := 76) (v := .int ((Int16.ofInt 2000).toInt32)) (m := 3) (ykc_214 (e := (1, .sipush 2000, 0)) rfl) rfl rfl ?_
                refine w_load (pc' := 77) (v := .int (zn k9)) (m := 1) (ykc_214 (e := (2, .iload_n kF3, 0)) rfl) rfl rfl ?_
                have e1649 : ((Int16.ofInt 2000).toInt32) + (zn k9) = zn (2000 + k9) := (zaddN (a := 2000) (b := k9) c_0 (znt (by omega)) (by omega)) 
                have te1649 := znt (k := 2000 + k9) (by omega)
                refine w_alu (pc' := 78) (st' := [.int (zn (2000 + k9)), .ref 170]) (ykc_214 (e := (0, .iadd, 0)) rfl) (by rw [← e1649]; rfl) rfl ?_
                refine w_load (pc' := 79) (v := .int x) (m := 1) (ykc_214 (e := (2, .iload_n kF1, 0)) rfl) rfl rfl ?_
                refine w_zne (ykc_214 (e := (4, .ifCond .ne 7, 86)) rfl) rfl (fun b1650 => ?_) (fun q => by exfalso; omega)
                refine w_load (pc' := 87) (v := .int x) (m := 1) (ykc_214 (e := (2, .iload_n kF1, 0)) rfl) rfl rfl ?_
                refine w_alu (pc' := 88) (st' := [.int (Int32.ofInt 1), .int x, .int (zn (2000 + k9)), .ref 170]) (ykc_214 (e := (0, .iconst 1, 0)) rfl) rfl rfl ?_
                refine w_ine (ykc_214 (e := (4, .if_icmp .ne 7, 95)) rfl) rfl (fun q => by exfalso; omega) (fun b1651 => ?_)
                refine w_alu (pc' := 92) (st' := [.int (Int32.ofInt 3), .int (zn (2000 + k9)), .ref 170]) (ykc_214 (e := (0, .iconst 3, 0)) rfl) rfl rfl ?_
                refine w_br (pc' := 96) (st' := [.int (Int32.ofInt 3), .int (zn (2000 + k9)), .ref 170]) (ykc_214 (e := (4, .goto 4, 96)) rfl) rfl ?_
                have e1652 : (zn (2000 + k9)) + (Int32.ofInt 3) = zn (2000 + k9 + 3) := (zaddN (a := 2000 + k9) (b := 3) (znt (by omega)) c_3 (by omega)) 
                have te1652 := znt (k := 2000 + k9 + 3) (by omega)
                refine w_alu (pc' := 97) (st' := [.int (zn (2000 + k9 + 3)), .ref 170]) (ykc_214 (e := (0, .iadd, 0)) rfl) (by rw [← e1652]; rfl) rfl ?_
                refine w_cv (as := [.ref 170, .int (zn (2000 + k9 + 3))]) (r := []) (ykc_214 (e := (6, .invokevirtual 233, 0)) rfl) rfl rfl rfl rfl (zm_codes (c := 2000 + k9 + 3) (zRF_S ((show zRF ph ph1646 from (zFr_trans (zFr_trans (zFr_mono f1 (by simp) (by simp)) (zFr_mono f2 (by simp) (by simp))) (zFr_mono f3 (by simp) (by simp))))) hS) hR3 (by first | rfl | (apply congrArg zn; omega)) (by omega) (by omega)) (fun v1653 ph1654 hv => ?_)
                obtain ⟨rfl, fc, hR4⟩ := hv
                show zW n D 214 Q 100 [some (.ref 170), some (.int x), some (.int (Int32.ofInt 1)), some (.int (zn k9))] [] ph1654
                refine w_load (pc' := 101) (v := .int x) (m := 1) (ykc_214 (e := (2, .iload_n kF1, 0)) rfl) rfl rfl ?_
                refine w_zle (ykc_214 (e := (4, .ifCond .le 7, 108)) rfl) rfl (fun q => by exfalso; omega) (fun b1655 => ?_)
                refine w_alu (pc' := 105) (st' := [.int (Int32.ofInt 1)]) (ykc_214 (e := (0, .iconst 1, 0)) rfl) rfl rfl ?_
                refine w_br (pc' := 109) (st' := [.int (Int32.ofInt 1)]) (ykc_214 (e := (4, .goto 4, 109)) rfl) rfl ?_
                refine w_store (pc' := 110) (L' := [some (.ref 170), some (.int x), some (.int (Int32.ofInt 1)), some (.int (zn k9))]) (st' := []) (m := 1) (ykc_214 (e := (3, .istore_n kF2, 0)) rfl) rfl rfl ?_
                refine w_gb (ykc_214 (e := (4, .goto (-86), 24)) rfl) (fun k1656 hk1656 => ?_)
                have hab3 := hT3.2.2.1
                have hR5 : zRc ph1654 (zop (t a1) :: cs3) := by rw [e8, show 2003 + k9 = 2000 + k9 + 3 by omega]; exact hR4
                have hT5 := zTm_F fc (by simp) (by simp) (by simp) hT3
                have h175 := (fc.1 170 17 (by decide) (by decide)).trans (h173 rfl)
                have hl5 : (zop (t a1) :: cs3).length + a ≤ cs.length + a3 := by show cs3.length + 1 + a ≤ _; omega
                exact ih k1656 hk1656 _ a3 (zop (t a1) :: cs3) _ ((show zRF ph ph1654 from (zFr_trans (zFr_trans (zFr_trans (zFr_mono f1 (by simp) (by simp)) (zFr_mono f2 (by simp) (by simp))) (zFr_mono f3 (by simp) (by simp))) (zFr_mono fc (by simp) (by simp))))) hT5 h175 hR5 (by omega) hl5 (fun g y h => by
                  obtain ⟨g9, hg9⟩ := zde_lt (r := 1) (by decide) ⟨ha9, e7⟩ hz3 h
                  exact hcon _ _ hg9)
            
          · have tm1 : (Int32.ofInt (-1)).toInt = -1 := by decide
            have hno : ¬ (a1 < b ∧ zrk2 1 (t a1) = true) := fun q => by
              obtain ⟨k, hk, e⟩ := zrk_c.2.1 q.2
              exact hn9 q.1 k hk e.symm
            show zW n D 214 Q 53 [some (.ref 170), some (.int x), some (.int (Int32.ofInt 1)), o9] [.int (Int32.ofInt (-1))] ph1642
            refine w_store (pc' := 54) (L' := [some (.ref 170), some (.int x), some (.int (Int32.ofInt 1)), some (.int (Int32.ofInt (-1)))]) (st' := []) (m := 1) (ykc_214 (e := (3, .istore_n kF3, 0)) rfl) rfl rfl ?_
            refine w_load (pc' := 55) (v := .int (Int32.ofInt (-1))) (m := 1) (ykc_214 (e := (2, .iload_n kF3, 0)) rfl) rfl rfl ?_
            refine w_zge (ykc_214 (e := (4, .ifCond .ge 5, 60)) rfl) rfl (fun q => by exfalso; omega) (fun b1657 => ?_)
            refine w_alu (pc' := 59) (st' := [.int (Int32.ofInt 1)]) (ykc_214 (e := (0, .iconst 1, 0)) rfl) rfl rfl ?_
            refine w_ret (v := (some (.int (Int32.ofInt 1)))) (ykc_214 (e := (7, .ireturn, 0)) rfl) zr_z ?_
            rw [hQ, zi1]
            obtain ⟨g9, hg9⟩ := hcon _ _ (zde_l0 hno)
            exact ⟨(show zRF ph ph1642 from (zFr_trans (zFr_mono f1 (by simp) (by simp)) (zFr_mono f2 (by simp) (by simp)))), g9, true, a1, cs1, hg9, rfl, hT2, zRc_F f2 (by simp) (by simp) hR1, fun _ => (f2.1 170 17 (by decide) (by decide)).trans h171, ha1, hl1⟩
          
      exact hl9 n _ a1 cs1 _ f1 hT1 (h171 rfl) hR1 ha1 hl1 (fun g y h => zde_rt (by decide) hz1 h)
      
  
theorem zm_rankD0 {b ln : Nat} {t : Nat → Nat} {D : Nat} (ih : zIHr b ln t D) (hb40 : b ≤ 40) {ph : pm_H} {a ns : Nat} {cs : List Nat} (hS : zSh ph) (hp : zRp b ln t ph a ns cs) (hns : ns ≤ 4) (hl : cs.length ≤ a) {x : Int32} (hx : x.toInt = ((0 : Nat) : Int)) : zMD (D + 1) 214 [.ref 170, .int x] ph (zRq b ln t 0 a ns cs ph) := by
  obtain ⟨Q, hQ⟩ : ∃ Q : Option Value → pm_H → Prop, Q = (zRq b ln t 0 a ns cs ph) := ⟨_, rfl⟩
  rw [← hQ]
  refine zMD_mk fun n => ?_
  show zW n D 214 Q 0 [some (.ref 170), some (.int x), none, none] [] ph
  have c_0 : ((Int16.ofInt 2000).toInt32).toInt = 2000 := by decide
  have c_1 : (Int32.ofInt 0).toInt = 0 := by decide
  have c_2 : (Int32.ofInt 1).toInt = 1 := by decide
  have c_3 : (Int32.ofInt 3).toInt = 3 := by decide
  have c_4 : (Int32.ofInt 5).toInt = 5 := by decide
  have ihr := ih
  obtain ⟨hT, h17, hR⟩ := hp
  have hab := hT.2.2.1
  refine w_load (pc' := 1) (v := .int x) (m := 1) (ykc_214 (e := (2, .iload_n kF1, 0)) rfl) rfl rfl ?_
  refine w_alu (pc' := 2) (st' := [.int (Int32.ofInt 3), .int x]) (ykc_214 (e := (0, .iconst 3, 0)) rfl) rfl rfl ?_
  refine w_ine (ykc_214 (e := (4, .if_icmp .ne 8, 10)) rfl) rfl (fun b1658 => ?_) (fun q => by exfalso; omega)
  refine w_load (pc' := 11) (v := .ref 170) (m := 1) (ykc_214 (e := (2, .aload_n kF0, 0)) rfl) rfl rfl ?_
  refine w_load (pc' := 12) (v := .int x) (m := 1) (ykc_214 (e := (2, .iload_n kF1, 0)) rfl) rfl rfl ?_
  refine w_alu (pc' := 13) (st' := [.int (Int32.ofInt 1), .int x, .ref 170]) (ykc_214 (e := (0, .iconst 1, 0)) rfl) rfl rfl ?_
  have e1659 : x + (Int32.ofInt 1) = zn (1) := (zaddN (a := 0) (b := 1) (by omega) c_2 (by omega)) 
  have te1659 := znt (k := 1) (by omega)
  refine w_alu (pc' := 14) (st' := [.int (zn (1)), .ref 170]) (ykc_214 (e := (0, .iadd, 0)) rfl) (by rw [← e1659]; rfl) rfl ?_
  refine w_cvD (as := [.ref 170, .int (zn (1))]) (r := []) (ykc_214 (e := (6, .invokevirtual 239, 0)) rfl) rfl rfl rfl rfl (ihr.2 _ 1 _ a ns cs hS (by first | exact znt (by decide) | omega) (by decide) ⟨hT, h17, hR⟩ hns hl) (fun v1660 ph1661 hv => ?_)
  rcases hv with ⟨f1, g1, ok1, a1, cs1, hz1, rfl, hT1, hR1, h171, ha1, hl1⟩
  · cases ok1 with
    | false =>
      show zW n D 214 Q 17 [some (.ref 170), some (.int x), none, none] [.int (zI false)] ph1661
      refine w_bne (ykc_214 (e := (4, .ifCond .ne 5, 22)) rfl) rfl (fun q => absurd q (by decide)) (fun b1662 => ?_)
      refine w_alu (pc' := 21) (st' := [.int (Int32.ofInt 0)]) (ykc_214 (e := (0, .iconst 0, 0)) rfl) rfl rfl ?_
      refine w_ret (v := (some (.int (Int32.ofInt 0)))) (ykc_214 (e := (7, .ireturn, 0)) rfl) zr_z ?_
      rw [hQ, zi0]
      refine ⟨f1, g1 + 1, false, a1, cs1, zde_rf (by decide) hz1, rfl, hT1, hR1, fun h => absurd h (by decide), ha1, hl1⟩
    | true =>
      show zW n D 214 Q 17 [some (.ref 170), some (.int x), none, none] [.int (zI true)] ph1661
      refine w_bne (ykc_214 (e := (4, .ifCond .ne 5, 22)) rfl) rfl (fun b1663 => ?_) (fun q => absurd q (by decide))
      refine w_alu (pc' := 23) (st' := [.int (Int32.ofInt 1)]) (ykc_214 (e := (0, .iconst 1, 0)) rfl) rfl rfl ?_
      refine w_store (pc' := 24) (L' := [some (.ref 170), some (.int x), some (.int (Int32.ofInt 1)), none]) (st' := []) (m := 1) (ykc_214 (e := (3, .istore_n kF2, 0)) rfl) rfl rfl ?_
      have hl9 : ∀ (n : Nat), ∀ (p : pm_H) (a1 : Nat) (cs1 : List Nat) (o9 : Option Value), (zRF ph p) → (zTm p a1 b ln t) → (zc p 170 17 = some (.int (zn ns))) → (zRc p cs1) → (a ≤ a1) → (cs1.length + a ≤ cs.length + a1) → (∀ g y, zde b t g 4 a1 ns cs1 = some y → ∃ f, zde b t f 0 a ns cs = some y) → zW n D 214 Q 24 [some (.ref 170), some (.int x), some (.int (Int32.ofInt 1)), o9] [] p := by
        intro n
        induction n using Nat.strongRecOn with
        | ind n ih =>
          intro p a1 cs1 o9 f1 hT1 h171 hR1 ha1 hl1 hcon
          have hab1 := hT1.2.2.1
          refine w_load (pc' := 25) (v := .int (Int32.ofInt 1)) (m := 1) (ykc_214 (e := (2, .iload_n kF2, 0)) rfl) rfl rfl ?_
          refine w_zeq (ykc_214 (e := (4, .ifCond .eq 88, 113)) rfl) rfl (fun q => by exfalso; omega) (fun b1664 => ?_)
          refine w_load (pc' := 29) (v := .ref 170) (m := 1) (ykc_214 (e := (2, .aload_n kF0, 0)) rfl) rfl rfl ?_
          refine w_load (pc' := 30) (v := .int x) (m := 1) (ykc_214 (e := (2, .iload_n kF1, 0)) rfl) rfl rfl ?_
          refine w_zne (ykc_214 (e := (4, .ifCond .ne 8, 38)) rfl) rfl (fun q => by exfalso; omega) (fun b1665 => ?_)
          refine w_push (pc' := 35) (v := .ref 1048629) (m := 2) (ykc_214 (e := (1, .ldc 242, 0)) rfl) rfl rfl ?_
          refine w_br (pc' := 50) (st' := [.ref 1048629, .ref 170]) (ykc_214 (e := (4, .goto 15, 50)) rfl) rfl ?_
          refine w_cv (as := [.ref 170, .ref 1048629]) (r := []) (ykc_214 (e := (6, .invokevirtual 184, 0)) rfl) rfl rfl rfl rfl (zm_takesOf (zRF_S ((show zRF ph p from (zFr_mono f1 (by simp) (by simp)))) hS) hT1 zstr_cmp) (fun v1666 ph1667 hv => ?_)
          rcases hv with ⟨f2, ⟨k9, hk9, ha9, hc9, rfl, hT2⟩ | ⟨hn9, rfl, hT2⟩⟩
          · have tk9 := znt (k := k9) (by omega)
            have e8 : zop (t a1) = 2000 + k9 := by rw [hc9]; exact (zrk_a.1 k9 hk9).2
            have e7 : zrk2 0 (t a1) = true := by rw [hc9]; exact (zrk_a.1 k9 hk9).1
            show zW n D 214 Q 53 [some (.ref 170), some (.int x), some (.int (Int32.ofInt 1)), o9] [.int (zn k9)] ph1667
            refine w_store (pc' := 54) (L' := [some (.ref 170), some (.int x), some (.int (Int32.ofInt 1)), some (.int (zn k9))]) (st' := []) (m := 1) (ykc_214 (e := (3, .istore_n kF3, 0)) rfl) rfl rfl ?_
            refine w_load (pc' := 55) (v := .int (zn k9)) (m := 1) (ykc_214 (e := (2, .iload_n kF3, 0)) rfl) rfl rfl ?_
            refine w_zge (ykc_214 (e := (4, .ifCond .ge 5, 60)) rfl) rfl (fun b1668 => ?_) (fun q => by exfalso; omega)
            refine w_load (pc' := 61) (v := .ref 170) (m := 1) (ykc_214 (e := (2, .aload_n kF0, 0)) rfl) rfl rfl ?_
            refine w_load (pc' := 62) (v := .int x) (m := 1) (ykc_214 (e := (2, .iload_n kF1, 0)) rfl) rfl rfl ?_
            refine w_alu (pc' := 63) (st' := [.int (Int32.ofInt 1), .int x, .ref 170]) (ykc_214 (e := (0, .iconst 1, 0)) rfl) rfl rfl ?_
            have e1669 : x + (Int32.ofInt 1) = zn (1) := (zaddN (a := 0) (b := 1) (by omega) c_2 (by omega)) 
            have te1669 := znt (k := 1) (by omega)
            refine w_alu (pc' := 64) (st' := [.int (zn (1)), .ref 170]) (ykc_214 (e := (0, .iadd, 0)) rfl) (by rw [← e1669]; rfl) rfl ?_
            refine w_cvD (as := [.ref 170, .int (zn (1))]) (r := []) (ykc_214 (e := (6, .invokevirtual 239, 0)) rfl) rfl rfl rfl rfl (ihr.2 _ 1 _ (a1 + 1) ns cs1 (zRF_S ((show zRF ph ph1667 from (zFr_trans (zFr_mono f1 (by simp) (by simp)) (zFr_mono f2 (by simp) (by simp))))) hS) (by first | exact znt (by decide) | omega) (by decide) ⟨hT2, (f2.1 170 17 (by decide) (by decide)).trans h171, zRc_F f2 (by simp) (by simp) hR1⟩ hns (by omega)) (fun v1670 ph1671 hv => ?_)
            rcases hv with ⟨f3, g3, ok3, a3, cs3, hz3, rfl, hT3, hR3, h173, ha3, hl3⟩
            · cases ok3 with
              | false =>
                show zW n D 214 Q 67 [some (.ref 170), some (.int x), some (.int (Int32.ofInt 1)), some (.int (zn k9))] [.int (zI false)] ph1671
                refine w_bne (ykc_214 (e := (4, .ifCond .ne 5, 72)) rfl) rfl (fun q => absurd q (by decide)) (fun b1672 => ?_)
                refine w_alu (pc' := 71) (st' := [.int (Int32.ofInt 0)]) (ykc_214 (e := (0, .iconst 0, 0)) rfl) rfl rfl ?_
                refine w_ret (v := (some (.int (Int32.ofInt 0)))) (ykc_214 (e := (7, .ireturn, 0)) rfl) zr_z ?_
                rw [hQ, zi0]
                obtain ⟨g9, hg9⟩ := hcon _ _ (zde_lf (r := 0) ⟨ha9, e7⟩ hz3)
                exact ⟨(show zRF ph ph1671 from (zFr_trans (zFr_trans (zFr_mono f1 (by simp) (by simp)) (zFr_mono f2 (by simp) (by simp))) (zFr_mono f3 (by simp) (by simp)))), g9, false, a3, cs3, hg9, rfl, hT3, hR3, fun h => absurd h (by decide), by omega, by omega⟩
              | true =>
                show zW n D 214 Q 67 [some (.ref 170), some (.int x), some (.int (Int32.ofInt 1)), some (.int (zn k9))] [.int (zI true)] ph1671
                have hb3 := hT3.2.2.1
                refine w_bne (ykc_214 (e := (4, .ifCond .ne 5, 72)) rfl) rfl (fun b1673 => ?_) (fun q => absurd q (by decide))
                refine w_load (pc' := 73) (v := .ref 170) (m := 1) (ykc_214 (e := (2, .aload_n kF0, 0)) rfl) rfl rfl ?_
                refine w_push (pc' := 76) (v := .int ((Int16.ofInt 2000).toInt32)) (m := 3) (ykc_214 (e := (1, .sipush 2000, 0)) rfl) rfl rfl ?_
                refine w_load (pc' := 77) (v := .int (zn k9)) (m := 1) (ykc_214 (e := (2, .iload_n kF3, 0)) rfl) rfl rfl ?_
                have e1674 : ((Int16.ofInt 2000).toInt32) + (zn k9) = zn (2000 + k9) := (zaddN (a := 2000) (b := k9) c_0 (znt (by omega)) (by omega)) 
                have te1674 := znt (k := 2000 + k9) (by omega)
                refine w_alu (pc' := 78) (st' := [.int (zn (2000 + k9)), .ref 170]) (ykc_214 (e := (0, .iadd, 0)) rfl) (by rw [← e1674]; rfl) rfl ?_
                refine w_load (pc' := 79) (v := .int x) (m := 1) (ykc_214 (e := (2, .iload_n kF1, 0)) rfl) rfl rfl ?_
                refine w_zne (ykc_214 (e := (4, .ifCond .ne 7, 86)) rfl) rfl (fun q => by exfalso; omega) (fun b1675 => ?_)
                refine w_alu (pc' := 83) (st' := [.int (Int32.ofInt 0), .int (zn (2000 + k9)), .ref 170]) (ykc_214 (e := (0, .iconst 0, 0)) rfl) rfl rfl ?_
                refine w_br (pc' := 96) (st' := [.int (Int32.ofInt 0), .int (zn (2000 + k9)), .ref 170]) (ykc_214 (e := (4, .goto 13, 96)) rfl) rfl ?_
                have e1676 : (zn (2000 + k9)) + (Int32.ofInt 0) = zn (2000 + k9 + 0) := (zaddN (a := 2000 + k9) (b := 0) (znt (by omega)) c_1 (by omega)) 
                have te1676 := znt (k := 2000 + k9 + 0) (by omega)
                refine w_alu (pc' := 97) (st' := [.int (zn (2000 + k9 + 0)), .ref 170]) (ykc_214 (e := (0, .iadd, 0)) rfl) (by rw [← e1676]; rfl) rfl ?_
                refine w_cv (as := [.ref 170, .int (zn (2000 + k9 + 0))]) (r := []) (ykc_214 (e := (6, .invokevirtual 233, 0)) rfl) rfl rfl rfl rfl (zm_codes (c := 2000 + k9 + 0) (zRF_S ((show zRF ph ph1671 from (zFr_trans (zFr_trans (zFr_mono f1 (by simp) (by simp)) (zFr_mono f2 (by simp) (by simp))) (zFr_mono f3 (by simp) (by simp))))) hS) hR3 (by first | rfl | (apply congrArg zn; omega)) (by omega) (by omega)) (fun v1677 ph1678 hv => ?_)
                obtain ⟨rfl, fc, hR4⟩ := hv
                show zW n D 214 Q 100 [some (.ref 170), some (.int x), some (.int (Int32.ofInt 1)), some (.int (zn k9))] [] ph1678
                refine w_load (pc' := 101) (v := .int x) (m := 1) (ykc_214 (e := (2, .iload_n kF1, 0)) rfl) rfl rfl ?_
                refine w_zle (ykc_214 (e := (4, .ifCond .le 7, 108)) rfl) rfl (fun b1679 => ?_) (fun q => by exfalso; omega)
                refine w_alu (pc' := 109) (st' := [.int (Int32.ofInt 0)]) (ykc_214 (e := (0, .iconst 0, 0)) rfl) rfl rfl ?_
                refine w_store (pc' := 110) (L' := [some (.ref 170), some (.int x), some (.int (Int32.ofInt 0)), some (.int (zn k9))]) (st' := []) (m := 1) (ykc_214 (e := (3, .istore_n kF2, 0)) rfl) rfl rfl ?_
                refine w_gb (ykc_214 (e := (4, .goto (-86), 24)) rfl) (fun k1680 hk1680 => ?_)
                have hab3 := hT3.2.2.1
                have hR5 : zRc ph1678 (zop (t a1) :: cs3) := by rw [e8, show 2000 + k9 = 2000 + k9 + 0 by omega]; exact hR4
                have hT5 := zTm_F fc (by simp) (by simp) (by simp) hT3
                have h175 := (fc.1 170 17 (by decide) (by decide)).trans (h173 rfl)
                have hl5 : (zop (t a1) :: cs3).length + a ≤ cs.length + a3 := by show cs3.length + 1 + a ≤ _; omega
                refine w_load (pc' := 25) (v := .int (Int32.ofInt 0)) (m := 1) (ykc_214 (e := (2, .iload_n kF2, 0)) rfl) rfl rfl ?_
                refine w_zeq (ykc_214 (e := (4, .ifCond .eq 88, 113)) rfl) rfl (fun b1681 => ?_) (fun q => absurd q (by decide))
                refine w_alu (pc' := 114) (st' := [.int (Int32.ofInt 1)]) (ykc_214 (e := (0, .iconst 1, 0)) rfl) rfl rfl ?_
                refine w_ret (v := (some (.int (Int32.ofInt 1)))) (ykc_214 (e := (7, .ireturn, 0)) rfl) zr_z ?_
                rw [hQ, zi1]
                obtain ⟨g9, hg9⟩ := hcon _ _ (zde_l1 ⟨ha9, e7⟩ hz3)
                exact ⟨(show zRF ph ph1678 from (zFr_trans (zFr_trans (zFr_trans (zFr_mono f1 (by simp) (by simp)) (zFr_mono f2 (by simp) (by simp))) (zFr_mono f3 (by simp) (by simp))) (zFr_mono fc (by simp) (by simp)))), g9, true, a3, _, hg9, rfl, hT5, hR5, fun _ => h175, by omega, hl5⟩
            
          · have tm1 : (Int32.ofInt (-1)).toInt = -1 := by decide
            have hno : ¬ (a1 < b ∧ zrk2 0 (t a1) = true) := fun q => by
              obtain ⟨k, hk, e⟩ := zrk_c.1 q.2
              exact hn9 q.1 k hk e.symm
            show zW n D 214 Q 53 [some (.ref 170), some (.int x), some (.int (Int32.ofInt 1)), o9] [.int (Int32.ofInt (-1))] ph1667
            refine w_store (pc' := 54) (L' := [some (.ref 170), some (.int x), some (.int (Int32.ofInt 1)), some (.int (Int32.ofInt (-1)))]) (st' := []) (m := 1) (ykc_214 (e := (3, .istore_n kF3, 0)) rfl) rfl rfl ?_
            refine w_load (pc' := 55) (v := .int (Int32.ofInt (-1))) (m := 1) (ykc_214 (e := (2, .iload_n kF3, 0)) rfl) rfl rfl ?_
            refine w_zge (ykc_214 (e := (4, .ifCond .ge 5, 60)) rfl) rfl (fun q => by exfalso; omega) (fun b1682 => ?_)
            refine w_alu (pc' := 59) (st' := [.int (Int32.ofInt 1)]) (ykc_214 (e := (0, .iconst 1, 0)) rfl) rfl rfl ?_
            refine w_ret (v := (some (.int (Int32.ofInt 1)))) (ykc_214 (e := (7, .ireturn, 0)) rfl) zr_z ?_
            rw [hQ, zi1]
            obtain ⟨g9, hg9⟩ := hcon _ _ (zde_l0 hno)
            exact ⟨(show zRF ph ph1667 from (zFr_trans (zFr_mono f1 (by simp) (by simp)) (zFr_mono f2 (by simp) (by simp)))), g9, true, a1, cs1, hg9, rfl, hT2, zRc_F f2 (by simp) (by simp) hR1, fun _ => (f2.1 170 17 (by decide) (by decide)).trans h171, ha1, hl1⟩
          
      exact hl9 n _ a1 cs1 _ f1 hT1 (h171 rfl) hR1 ha1 hl1 (fun g y h => zde_rt (by decide) hz1 h)
      
  
theorem zIHr_all {b ln : Nat} {t : Nat → Nat} (hb40 : b ≤ 40) : ∀ D, zIHr b ln t D
  | 0 => ⟨fun _ _ _ _ _ _ _ _ _ hr => hr.elim, fun _ _ _ _ _ _ _ _ _ _ _ _ _ hr => hr.elim⟩
  | D + 1 => by
    have ih := zIHr_all (ln := ln) (t := t) hb40 D
    refine ⟨fun ph a ns cs h1 h2 h3 h4 => zm_askD ih hb40 h1 h2 h3 h4, fun ph r x a ns cs h1 hx hr h2 h3 h4 => ?_⟩
    rcases (show r = 0 ∨ r = 1 ∨ r = 2 ∨ r = 3 by omega) with e | e | e | e <;> subst e
    · exact zm_rankD0 ih hb40 h1 h2 h3 h4 hx
    · exact zm_rankD1 ih hb40 h1 h2 h3 h4 hx
    · exact zm_rankD2 ih hb40 h1 h2 h3 h4 hx
    · exact zm_rankD3 ih hb40 h1 h2 h3 h4 hx
theorem zm_rank0 {b ln : Nat} {t : Nat → Nat} (hb40 : b ≤ 40) {ph : pm_H} {x : Int32} (hS : zSh ph) (hx : x.toInt = ((0 : Nat) : Int)) (hp : zRp b ln t ph 0 0 []) : zM 214 [.ref 170, .int x] ph (zRq b ln t 0 0 0 [] ph) := fun D r hr => (zIHr_all hb40 D).2 ph 0 x 0 0 [] hS hx (by decide) hp (by decide) (by decide) r hr
/-- what the reference's reading of a RULE comes to: well or not, up to where, codes -/
def zRu (ln : Nat) (t : Nat → Nat) (ok : Bool) (a2 : Nat) (cs2 : List Nat) : Prop := (ln = 0 ∧ ok = true ∧ a2 = 0 ∧ cs2 = []) ∨ (0 < ln ∧ a2 ≤ min ln 40 ∧ ∃ f, zde (min ln 40) t f 0 0 0 [] = some (ok, a2, cs2))
theorem zm_beginsN {ph : pm_H} {ln c : Nat} {t : Nat → Nat} {y : Int32} (hS : zSh ph) (hn : zc ph 170 14 = some (.int (zn ln))) (hn80 : ln ≤ 80) (gt : ∀ i, i < ln → zc ph 176 i = some (.int (zn (t i))) ∧ t i < 256) (hy : y.toInt = (c : Int)) (hc : c ≤ 80) : zM 195 [.ref 170, .int y] ph (fun v q => v = some (.int (zn ln)) ∧ zFr [] [(170, 14), (170, 15), (170, 16), (170, 17)] ph q ∧ zc q 170 14 = some (.int (zn 0)) ∧ zc q 170 17 = some (.int (zn 0)) ∧ zTm q 0 (min ln c) ln t) := by
  obtain ⟨Q, hQ⟩ : ∃ Q : Option Value → pm_H → Prop, Q = (fun v q => v = some (.int (zn ln)) ∧ zFr [] [(170, 14), (170, 15), (170, 16), (170, 17)] ph q ∧ zc q 170 14 = some (.int (zn 0)) ∧ zc q 170 17 = some (.int (zn 0)) ∧ zTm q 0 (min ln c) ln t) := ⟨_, rfl⟩
  rw [← hQ]
  refine zM_mk fun n D => ?_
  show zW n D 195 Q 0 [some (.ref 170), some (.int y), none] [] ph
  have c_0 : (Int32.ofInt 0).toInt = 0 := by decide
  have tn := znt (k := ln) (by omega)
  refine w_load (pc' := 1) (v := .ref 170) (m := 1) (ykc_195 (e := (2, .aload_n kF0, 0)) rfl) rfl rfl ?_
  refine w_gf (pc' := 4) (v := .int (zn ln)) (ykc_195 (e := (5, .getfield 136, 0)) rfl) rfl hn rfl ?_
  refine w_store (pc' := 5) (L' := [some (.ref 170), some (.int y), some (.int (zn ln))]) (st' := []) (m := 1) (ykc_195 (e := (3, .istore_n kF2, 0)) rfl) rfl rfl ?_
  refine w_load (pc' := 6) (v := .ref 170) (m := 1) (ykc_195 (e := (2, .aload_n kF0, 0)) rfl) rfl rfl ?_
  refine w_alu (pc' := 7) (st' := [.int (Int32.ofInt 0), .ref 170]) (ykc_195 (e := (0, .iconst 0, 0)) rfl) rfl rfl ?_
  refine w_pf (pc' := 10) (ykc_195 (e := (5, .putfield 136, 0)) rfl) rfl rfl (fun ph1684 u1683 => ?_)
  refine w_load (pc' := 11) (v := .ref 170) (m := 1) (ykc_195 (e := (2, .aload_n kF0, 0)) rfl) rfl rfl ?_
  refine w_alu (pc' := 12) (st' := [.int (Int32.ofInt 0), .ref 170]) (ykc_195 (e := (0, .iconst 0, 0)) rfl) rfl rfl ?_
  refine w_pf (pc' := 15) (ykc_195 (e := (5, .putfield 139, 0)) rfl) rfl rfl (fun ph1686 u1685 => ?_)
  refine w_load (pc' := 16) (v := .ref 170) (m := 1) (ykc_195 (e := (2, .aload_n kF0, 0)) rfl) rfl rfl ?_
  refine w_alu (pc' := 17) (st' := [.int (Int32.ofInt 0), .ref 170]) (ykc_195 (e := (0, .iconst 0, 0)) rfl) rfl rfl ?_
  refine w_pf (pc' := 20) (ykc_195 (e := (5, .putfield 142, 0)) rfl) rfl rfl (fun ph1688 u1687 => ?_)
  refine w_load (pc' := 21) (v := .ref 170) (m := 1) (ykc_195 (e := (2, .aload_n kF0, 0)) rfl) rfl rfl ?_
  refine w_load (pc' := 22) (v := .int (zn ln)) (m := 1) (ykc_195 (e := (2, .iload_n kF2, 0)) rfl) rfl rfl ?_
  refine w_load (pc' := 23) (v := .int y) (m := 1) (ykc_195 (e := (2, .iload_n kF1, 0)) rfl) rfl rfl ?_
  obtain ⟨z1689, e_z1689⟩ : ∃ zq : Int32, (if y < (zn ln) then y else (zn ln)) = zq := ⟨_, rfl⟩
  have h_z1689 := zminI e_z1689
  have n_z1689 : z1689.toInt = ((min ln c : Nat) : Int) := by omega
  refine w_mem1 (pc' := 26) (m := 3) (st' := [.int z1689, .ref 170]) (ph' := ph1688) (ykc_195 (e := (5, .invokestatic 145, 0)) rfl) (by rw [← e_z1689]; rfl) rfl ?_
  refine w_pf (pc' := 29) (ykc_195 (e := (5, .putfield 151, 0)) rfl) rfl rfl (fun ph1691 u1690 => ?_)
  refine w_load (pc' := 30) (v := .int (zn ln)) (m := 1) (ykc_195 (e := (2, .iload_n kF2, 0)) rfl) rfl rfl ?_
  refine w_ret (v := (some (.int (zn ln)))) (ykc_195 (e := (7, .ireturn, 0)) rfl) (zr_v rfl) ?_
  rw [hQ]
  have ez : z1689 = zn (min ln c) := zn_of (by omega)
  have f4 : zFr [] [(170, 14), (170, 15), (170, 16), (170, 17)] ph ph1691 := zFr_trans (zFr_st u1683 (Or.inr (by simp))) (zFr_trans (zFr_st u1685 (Or.inr (by simp))) (zFr_trans (zFr_st u1687 (Or.inr (by simp))) (zFr_st u1690 (Or.inr (by simp)))))
  exact ⟨rfl, f4, ((u1690.2.1 170 14 (fun q => absurd q.2 (by decide))).trans ((u1687.2.1 170 14 (fun q => absurd q.2 (by decide))).trans ((u1685.2.1 170 14 (fun q => absurd q.2 (by decide))).trans u1683.1))), ((u1690.2.1 170 17 (fun q => absurd q.2 (by decide))).trans u1687.1), ((u1690.2.1 170 15 (fun q => absurd q.2 (by decide))).trans ((u1687.2.1 170 15 (fun q => absurd q.2 (by decide))).trans u1685.1)), by rw [← ez]; exact u1690.1, Nat.zero_le _, Nat.min_le_left _ _, hn80, fun i hi => ⟨(f4.1 _ _ (by decide) (by simp)).trans (gt i hi).1, (gt i hi).2⟩⟩
theorem zm_rulesRead {ph : pm_H} {ln : Nat} {t : Nat → Nat} (hS : zSh ph) (hn : zc ph 170 14 = some (.int (zn ln))) (hn80 : ln ≤ 80) (gt : ∀ i, i < ln → zc ph 176 i = some (.int (zn (t i))) ∧ t i < 256) : zM 215 [.ref 170] ph (fun v0 q => zFr [180] [(170, 14), (170, 15), (170, 16), (170, 17), (170, 24)] ph q ∧ zc q 170 14 = some (.int (zn 0)) ∧ ∃ (ok : Bool) (a2 : Nat) (cs2 : List Nat) (z : Int32), zRu ln t ok a2 cs2 ∧ zRc q cs2 ∧ cs2.length ≤ 40 ∧ v0 = some (.int z) ∧ z.toInt = zFo ln 40 a2 (min ln 40) ok) := by
  obtain ⟨Q, hQ⟩ : ∃ Q : Option Value → pm_H → Prop, Q = (fun v0 q => zFr [180] [(170, 14), (170, 15), (170, 16), (170, 17), (170, 24)] ph q ∧ zc q 170 14 = some (.int (zn 0)) ∧ ∃ (ok : Bool) (a2 : Nat) (cs2 : List Nat) (z : Int32), zRu ln t ok a2 cs2 ∧ zRc q cs2 ∧ cs2.length ≤ 40 ∧ v0 = some (.int z) ∧ z.toInt = zFo ln 40 a2 (min ln 40) ok) := ⟨_, rfl⟩
  rw [← hQ]
  refine zM_mk fun n D => ?_
  show zW n D 215 Q 0 [some (.ref 170), none, none] [] ph
  have c_0 : ((Int8.ofInt 40).toInt32).toInt = 40 := by decide
  have c_1 : (Int32.ofInt 0).toInt = 0 := by decide
  have c_2 : (Int32.ofInt 1).toInt = 1 := by decide
  have tn := znt (k := ln) (by omega)
  have tz0 := znt (k := 0) (by omega)
  refine w_load (pc' := 1) (v := .ref 170) (m := 1) (ykc_215 (e := (2, .aload_n kF0, 0)) rfl) rfl rfl ?_
  refine w_push (pc' := 3) (v := .int ((Int8.ofInt 40).toInt32)) (m := 2) (ykc_215 (e := (1, .bipush 40, 0)) rfl) rfl rfl ?_
  refine w_cv (as := [.ref 170, .int ((Int8.ofInt 40).toInt32)]) (r := []) (ykc_215 (e := (6, .invokevirtual 175, 0)) rfl) rfl rfl rfl rfl (zm_beginsN (c := 40) hS hn hn80 gt (by decide) (by decide)) (fun v1692 ph1693 hv => ?_)
  obtain ⟨rfl, f1, h14, h17, hT⟩ := hv
  show zW n D 215 Q 6 [some (.ref 170), none, none] [.int (zn ln)] ph1693
  refine w_store (pc' := 7) (L' := [some (.ref 170), some (.int (zn ln)), none]) (st' := []) (m := 1) (ykc_215 (e := (3, .istore_n kF1, 0)) rfl) rfl rfl ?_
  refine w_load (pc' := 8) (v := .ref 170) (m := 1) (ykc_215 (e := (2, .aload_n kF0, 0)) rfl) rfl rfl ?_
  refine w_alu (pc' := 9) (st' := [.int (Int32.ofInt 0), .ref 170]) (ykc_215 (e := (0, .iconst 0, 0)) rfl) rfl rfl ?_
  refine w_pf (pc' := 12) (ykc_215 (e := (5, .putfield 227, 0)) rfl) rfl rfl (fun ph1695 u1694 => ?_)
  have fu : zFr [] [(170, 24)] _ ph1695 := zFr_st u1694 (Or.inr (by simp))
  have hT1 := zTm_F fu (by simp) (by simp) (by simp) hT
  have hR1 : zRc ph1695 [] := ⟨u1694.1, fun i c h => by cases h⟩
  have h14a := (fu.1 170 14 (by decide) (by decide)).trans h14
  have h17a := (fu.1 170 17 (by decide) (by decide)).trans h17
  refine w_load (pc' := 13) (v := .int (zn ln)) (m := 1) (ykc_215 (e := (2, .iload_n kF1, 0)) rfl) rfl rfl ?_
  refine w_zeq (ykc_215 (e := (4, .ifCond .eq 11, 24)) rfl) rfl (fun b1696 => ?_) (fun b1696 => ?_)
  · refine w_alu (pc' := 25) (st' := [.int (Int32.ofInt 1)]) (ykc_215 (e := (0, .iconst 1, 0)) rfl) rfl rfl ?_
    refine w_br (pc' := 29) (st' := [.int (Int32.ofInt 1)]) (ykc_215 (e := (4, .goto 4, 29)) rfl) rfl ?_
    refine w_store (pc' := 30) (L' := [some (.ref 170), some (.int (zn ln)), some (.int (Int32.ofInt 1))]) (st' := []) (m := 1) (ykc_215 (e := (3, .istore_n kF2, 0)) rfl) rfl rfl ?_
    refine w_load (pc' := 31) (v := .ref 170) (m := 1) (ykc_215 (e := (2, .aload_n kF0, 0)) rfl) rfl rfl ?_
    refine w_load (pc' := 32) (v := .int (zn ln)) (m := 1) (ykc_215 (e := (2, .iload_n kF1, 0)) rfl) rfl rfl ?_
    refine w_push (pc' := 34) (v := .int ((Int8.ofInt 40).toInt32)) (m := 2) (ykc_215 (e := (1, .bipush 40, 0)) rfl) rfl rfl ?_
    refine w_load (pc' := 35) (v := .int (Int32.ofInt 1)) (m := 1) (ykc_215 (e := (2, .iload_n kF2, 0)) rfl) rfl rfl ?_
    refine w_cv (as := [.ref 170, .int (zn ln), .int ((Int8.ofInt 40).toInt32), .int (Int32.ofInt 1)]) (r := []) (ykc_215 (e := (6, .invokevirtual 213, 0)) rfl) rfl rfl rfl rfl (zm_fault (is := true) (n9 := ln) (c := 40) (zSh_F (show zFr [180] [(170, 14), (170, 15), (170, 16), (170, 17), (170, 24)] ph ph1695 from (zFr_trans (zFr_mono f1 (by simp) (by simp)) (zFr_st u1694 (Or.inr (by simp))))) (by decide +kernel) hS) hT1 (by omega) (by decide)) (fun v1697 ph1698 hv => ?_)
    rcases hv with ⟨rfl, z9, rfl, hz9⟩
    · show zW n D 215 Q 38 [some (.ref 170), some (.int (zn ln)), some (.int (Int32.ofInt 1))] [.int z9] ph1695
      refine w_ret (v := (some (.int z9))) (ykc_215 (e := (7, .ireturn, 0)) rfl) (zr_v rfl) ?_
      rw [hQ]
      exact ⟨(show zFr [180] [(170, 14), (170, 15), (170, 16), (170, 17), (170, 24)] ph ph1695 from (zFr_trans (zFr_mono f1 (by simp) (by simp)) (zFr_st u1694 (Or.inr (by simp))))), h14a, true, 0, [], _, Or.inl ⟨by omega, rfl, rfl, rfl⟩, hR1, by decide, rfl, hz9⟩
    
  · refine w_load (pc' := 17) (v := .ref 170) (m := 1) (ykc_215 (e := (2, .aload_n kF0, 0)) rfl) rfl rfl ?_
    refine w_alu (pc' := 18) (st' := [.int (Int32.ofInt 0), .ref 170]) (ykc_215 (e := (0, .iconst 0, 0)) rfl) rfl rfl ?_
    refine w_cv (as := [.ref 170, .int (Int32.ofInt 0)]) (r := []) (ykc_215 (e := (6, .invokevirtual 239, 0)) rfl) rfl rfl rfl rfl (zm_rank0 (b := min ln 40) (ln := ln) (t := t) (by omega) (zSh_F (show zFr [180] [(170, 14), (170, 15), (170, 16), (170, 17), (170, 24)] ph ph1695 from (zFr_trans (zFr_mono f1 (by simp) (by simp)) (zFr_st u1694 (Or.inr (by simp))))) (by decide +kernel) hS) (by decide) ⟨hT1, h17a, hR1⟩) (fun v1699 ph1700 hv => ?_)
    rcases hv with ⟨f2, g9, ok, a2, cs2, hz, rfl, hT2, hR2, -, ha2, hl2⟩
    · cases ok with
      | false =>
        show zW n D 215 Q 21 [some (.ref 170), some (.int (zn ln)), none] [.int (zI false)] ph1700
        refine w_beq (ykc_215 (e := (4, .ifCond .eq 7, 28)) rfl) rfl (fun b1701 => ?_) (fun q => absurd q (by decide))
        refine w_alu (pc' := 29) (st' := [.int (Int32.ofInt 0)]) (ykc_215 (e := (0, .iconst 0, 0)) rfl) rfl rfl ?_
        refine w_store (pc' := 30) (L' := [some (.ref 170), some (.int (zn ln)), some (.int (Int32.ofInt 0))]) (st' := []) (m := 1) (ykc_215 (e := (3, .istore_n kF2, 0)) rfl) rfl rfl ?_
        refine w_load (pc' := 31) (v := .ref 170) (m := 1) (ykc_215 (e := (2, .aload_n kF0, 0)) rfl) rfl rfl ?_
        refine w_load (pc' := 32) (v := .int (zn ln)) (m := 1) (ykc_215 (e := (2, .iload_n kF1, 0)) rfl) rfl rfl ?_
        refine w_push (pc' := 34) (v := .int ((Int8.ofInt 40).toInt32)) (m := 2) (ykc_215 (e := (1, .bipush 40, 0)) rfl) rfl rfl ?_
        refine w_load (pc' := 35) (v := .int (Int32.ofInt 0)) (m := 1) (ykc_215 (e := (2, .iload_n kF2, 0)) rfl) rfl rfl ?_
        have hb2 := hT2.2.2.1
        have hl3 : cs2.length + 0 ≤ 0 + a2 := hl2
        refine w_cv (as := [.ref 170, .int (zn ln), .int ((Int8.ofInt 40).toInt32), .int (Int32.ofInt 0)]) (r := []) (ykc_215 (e := (6, .invokevirtual 213, 0)) rfl) rfl rfl rfl rfl (zm_fault (is := false) (n9 := ln) (c := 40) (zSh_F (show zFr [180] [(170, 14), (170, 15), (170, 16), (170, 17), (170, 24)] ph ph1700 from (zFr_trans (zFr_trans (zFr_mono f1 (by simp) (by simp)) (zFr_st u1694 (Or.inr (by simp)))) (zFr_mono f2 (by simp) (by simp)))) (by decide +kernel) hS) hT2 (by omega) (by decide)) (fun v1702 ph1703 hv => ?_)
        rcases hv with ⟨rfl, z9, rfl, hz9⟩
        · show zW n D 215 Q 38 [some (.ref 170), some (.int (zn ln)), some (.int (Int32.ofInt 0))] [.int z9] ph1700
          refine w_ret (v := (some (.int z9))) (ykc_215 (e := (7, .ireturn, 0)) rfl) (zr_v rfl) ?_
          rw [hQ]
          exact ⟨(show zFr [180] [(170, 14), (170, 15), (170, 16), (170, 17), (170, 24)] ph ph1700 from (zFr_trans (zFr_trans (zFr_mono f1 (by simp) (by simp)) (zFr_st u1694 (Or.inr (by simp)))) (zFr_mono f2 (by simp) (by simp)))), (f2.1 170 14 (by decide) (by decide)).trans h14a, false, a2, cs2, _, Or.inr ⟨by omega, hb2, g9, hz⟩, hR2, by omega, rfl, hz9⟩
        
      | true =>
        show zW n D 215 Q 21 [some (.ref 170), some (.int (zn ln)), none] [.int (zI true)] ph1700
        refine w_beq (ykc_215 (e := (4, .ifCond .eq 7, 28)) rfl) rfl (fun q => absurd q (by decide)) (fun b1704 => ?_)
        refine w_alu (pc' := 25) (st' := [.int (Int32.ofInt 1)]) (ykc_215 (e := (0, .iconst 1, 0)) rfl) rfl rfl ?_
        refine w_br (pc' := 29) (st' := [.int (Int32.ofInt 1)]) (ykc_215 (e := (4, .goto 4, 29)) rfl) rfl ?_
        refine w_store (pc' := 30) (L' := [some (.ref 170), some (.int (zn ln)), some (.int (Int32.ofInt 1))]) (st' := []) (m := 1) (ykc_215 (e := (3, .istore_n kF2, 0)) rfl) rfl rfl ?_
        refine w_load (pc' := 31) (v := .ref 170) (m := 1) (ykc_215 (e := (2, .aload_n kF0, 0)) rfl) rfl rfl ?_
        refine w_load (pc' := 32) (v := .int (zn ln)) (m := 1) (ykc_215 (e := (2, .iload_n kF1, 0)) rfl) rfl rfl ?_
        refine w_push (pc' := 34) (v := .int ((Int8.ofInt 40).toInt32)) (m := 2) (ykc_215 (e := (1, .bipush 40, 0)) rfl) rfl rfl ?_
        refine w_load (pc' := 35) (v := .int (Int32.ofInt 1)) (m := 1) (ykc_215 (e := (2, .iload_n kF2, 0)) rfl) rfl rfl ?_
        have hb2 := hT2.2.2.1
        have hl3 : cs2.length + 0 ≤ 0 + a2 := hl2
        refine w_cv (as := [.ref 170, .int (zn ln), .int ((Int8.ofInt 40).toInt32), .int (Int32.ofInt 1)]) (r := []) (ykc_215 (e := (6, .invokevirtual 213, 0)) rfl) rfl rfl rfl rfl (zm_fault (is := true) (n9 := ln) (c := 40) (zSh_F (show zFr [180] [(170, 14), (170, 15), (170, 16), (170, 17), (170, 24)] ph ph1700 from (zFr_trans (zFr_trans (zFr_mono f1 (by simp) (by simp)) (zFr_st u1694 (Or.inr (by simp)))) (zFr_mono f2 (by simp) (by simp)))) (by decide +kernel) hS) hT2 (by omega) (by decide)) (fun v1705 ph1706 hv => ?_)
        rcases hv with ⟨rfl, z9, rfl, hz9⟩
        · show zW n D 215 Q 38 [some (.ref 170), some (.int (zn ln)), some (.int (Int32.ofInt 1))] [.int z9] ph1700
          refine w_ret (v := (some (.int z9))) (ykc_215 (e := (7, .ireturn, 0)) rfl) (zr_v rfl) ?_
          rw [hQ]
          exact ⟨(show zFr [180] [(170, 14), (170, 15), (170, 16), (170, 17), (170, 24)] ph ph1700 from (zFr_trans (zFr_trans (zFr_mono f1 (by simp) (by simp)) (zFr_st u1694 (Or.inr (by simp)))) (zFr_mono f2 (by simp) (by simp)))), (f2.1 170 14 (by decide) (by decide)).trans h14a, true, a2, cs2, _, Or.inr ⟨by omega, hb2, g9, hz⟩, hR2, by omega, rfl, hz9⟩
        
    
theorem zRc_g {ph : pm_H} {cs : List Nat} (h : zRc ph cs) {i : Nat} (hi : i < cs.length) : zc ph 180 i = some (.int (zn (cs.reverse.getD i 0))) ∧ cs.reverse.getD i 0 ≤ 3000 := by
  have e : cs.reverse.getD i 0 = cs[cs.length - 1 - i]'(by omega) := by
    rw [List.getD_eq_getElem?_getD, List.getElem?_reverse hi, List.getElem?_eq_getElem (by omega)]
    rfl
  obtain ⟨g1, g2⟩ := h.2 (cs.length - 1 - i) _ (List.getElem?_eq_getElem (by omega))
  rw [show cs.length - 1 - (cs.length - 1 - i) = i by omega] at g1
  rw [e]
  exact ⟨g1, g2⟩
theorem zm_laysCode {ph : pm_H} {cs : List Nat} {y : Int32} (hS : zSh ph) (hR : zRc ph cs) (hy : y = zn cs.length) (hl : cs.length ≤ 40) : zM 216 [.ref 170, .ref 180, .int y] ph (fun v0 q => v0 = none ∧ zFr [179] [(170, 23)] ph q ∧ zc q 170 23 = some (.int (zn cs.length)) ∧ ∀ i, i < cs.length → zc q 179 i = some (.int (zn (cs.reverse.getD i 0))) ∧ cs.reverse.getD i 0 ≤ 3000) := by
  obtain ⟨Q, hQ⟩ : ∃ Q : Option Value → pm_H → Prop, Q = (fun v0 q => v0 = none ∧ zFr [179] [(170, 23)] ph q ∧ zc q 170 23 = some (.int (zn cs.length)) ∧ ∀ i, i < cs.length → zc q 179 i = some (.int (zn (cs.reverse.getD i 0))) ∧ cs.reverse.getD i 0 ≤ 3000) := ⟨_, rfl⟩
  rw [← hQ]
  refine zM_mk fun n D => ?_
  show zW n D 216 Q 0 [some (.ref 170), some (.ref 180), some (.int y), none] [] ph
  have c_0 : (Int32.ofInt 0).toInt = 0 := by decide
  have c_1 : (Int32.ofInt 1).toInt = 1 := by decide
  subst hy
  have tl := znt (k := cs.length) (by omega)
  refine w_load (pc' := 1) (v := .ref 170) (m := 1) (ykc_216 (e := (2, .aload_n kF0, 0)) rfl) rfl rfl ?_
  refine w_load (pc' := 2) (v := .int (zn cs.length)) (m := 1) (ykc_216 (e := (2, .iload_n kF2, 0)) rfl) rfl rfl ?_
  refine w_pf (pc' := 5) (ykc_216 (e := (5, .putfield 248, 0)) rfl) rfl rfl (fun ph1708 u1707 => ?_)
  refine w_alu (pc' := 6) (st' := [.int (Int32.ofInt 0)]) (ykc_216 (e := (0, .iconst 0, 0)) rfl) rfl rfl ?_
  refine w_store (pc' := 7) (L' := [some (.ref 170), some (.ref 180), some (.int (zn cs.length)), some (.int (Int32.ofInt 0))]) (st' := []) (m := 1) (ykc_216 (e := (3, .istore_n kF3, 0)) rfl) rfl rfl ?_
  have hl9 : ∀ (n : Nat), ∀ (k : Nat) (p : pm_H), (k ≤ cs.length) → (zFr [179] [] ph1708 p) → (∀ i, i < k → zc p 179 i = some (.int (zn (cs.reverse.getD i 0)))) → zW n D 216 Q 7 [some (.ref 170), some (.ref 180), some (.int (zn cs.length)), some (.int (zn k))] [] p := by
    intro n
    induction n using Nat.strongRecOn with
    | ind n ih =>
      intro k p hk hf hg
      have tk := znt (k := k) (by omega)
      have fz : zFr [179] [(170, 23)] ph p := zFr_trans (zFr_st u1707 (Or.inr (by simp))) (zFr_mono hf (by simp) (by simp))
      have hx9 : k < cs.length → zc p 180 k = some (.int (zn (cs.reverse.getD k 0))) := fun h => (fz.1 180 k (by simp) (by simp)).trans (zRc_g hR h).1
      refine w_load (pc' := 8) (v := .int (zn k)) (m := 1) (ykc_216 (e := (2, .iload_n kF3, 0)) rfl) rfl rfl ?_
      refine w_load (pc' := 9) (v := .int (zn cs.length)) (m := 1) (ykc_216 (e := (2, .iload_n kF2, 0)) rfl) rfl rfl ?_
      refine w_ige (ykc_216 (e := (4, .if_icmp .ge 18, 27)) rfl) rfl (fun b1709 => ?_) (fun b1709 => ?_)
      · refine w_ret (v := none) (ykc_216 (e := (7, .return_, 0)) rfl) (zr_v rfl) ?_
        rw [hQ]
        have ek : k = cs.length := by omega
        subst ek
        exact ⟨rfl, fz, (hf.1 170 23 (by decide) (by decide)).trans u1707.1, fun i hi => ⟨hg i hi, (zRc_g hR hi).2⟩⟩
      · refine w_load (pc' := 13) (v := .ref 170) (m := 1) (ykc_216 (e := (2, .aload_n kF0, 0)) rfl) rfl rfl ?_
        refine w_gf (pc' := 16) (v := .ref 179) (ykc_216 (e := (5, .getfield 56, 0)) rfl) rfl ((hf.1 170 21 (by decide) (by decide)).trans ((u1707.2.1 170 21 (fun q => absurd q.2 (by decide))).trans (zsg hS zs_170_21))) rfl ?_
        refine w_load (pc' := 17) (v := .int (zn k)) (m := 1) (ykc_216 (e := (2, .iload_n kF3, 0)) rfl) rfl rfl ?_
        refine w_load (pc' := 18) (v := .ref 180) (m := 1) (ykc_216 (e := (2, .aload_n kF1, 0)) rfl) rfl rfl ?_
        refine w_load (pc' := 19) (v := .int (zn k)) (m := 1) (ykc_216 (e := (2, .iload_n kF3, 0)) rfl) rfl rfl ?_
        refine w_ialk (pc' := 20) (k := k) (ykc_216 (e := (5, .iaload, 0)) rfl) (hx9 (by omega)) (by omega) rfl ?_
        refine w_ias (pc' := 21) (k := k) (ykc_216 (e := (5, .iastore, 0)) rfl) (by omega) rfl (fun ph1711 u1710 => ?_)
        have e1712 : (zn k) + Int32.ofInt 1 = zn (k + 1) := (zaddN (a := k) (b := 1) (znt (by omega)) c_1 (by omega))
        have te1712 := znt (k := k + 1) (by omega)
        refine w_store (pc' := 24) (L' := [some (.ref 170), some (.ref 180), some (.int (zn cs.length)), some (.int (zn (k + 1)))]) (st' := []) (m := 3) (ykc_216 (e := (3, .iinc 3 1, 0)) rfl) (by rw [← e1712]; rfl) rfl ?_
        refine w_gb (ykc_216 (e := (4, .goto (-17), 7)) rfl) (fun k1713 hk1713 => ?_)
        exact ih k1713 hk1713 (k + 1) _ (by omega) (zFr_add hf u1710 (Or.inl (by simp))) (fun i hi => by
          by_cases e : i = k
          · subst e; exact u1710.1
          · exact (u1710.2.1 179 i (fun q => e q.2)).trans (hg i (by omega)))
  exact hl9 n 0 _ (Nat.zero_le _) zFr_refl (fun i hi => absurd hi (Nat.not_lt_zero i))

/-! the two RULES: answers and codes, by W; printed by wip/z/z1j_rule.py -/
section ZRJ
variable {t : Nat → Nat}
theorem zrn_s {s q : zAs} {p k : Nat} (h : zrn t s p k = some q) : zrn t s p (k + 1) = zstep (t (p + k)) q := by
  show (zrn t s p k).bind _ = _
  rw [h]
  rfl
theorem zrn_0 {s : zAs} {p k : Nat} (h : zrn t s p k = none) : ∀ m, zrn t s p (k + m) = none
  | 0 => h
  | m + 1 => by
    show (zrn t s p (k + m)).bind _ = none
    rw [zrn_0 h m]
    rfl
/-- stopped at k: nothing further on -/
theorem zrn_x {s q : zAs} {k m : Nat} (h : zrn t s 0 k = some q) (hn : zstep (t k) q = none) (hm : k < m) : zrn t s 0 m = none := by
  have h1 : zrn t s 0 (k + 1) = none := by
    rw [zrn_s h, Nat.zero_add]
    exact hn
  have h2 := zrn_0 h1 (m - (k + 1))
  rwa [show k + 1 + (m - (k + 1)) = m by omega] at h2
theorem zrn_y {s q q' : zAs} {k m : Nat} (h : zrn t s 0 k = some q) (hn : zstep (t k) q = none) (h2 : zrn t s 0 m = some q') : m ≤ k := by
  by_cases e : k < m
  · rw [zrn_x h hn e] at h2
    cases h2
  · omega
/-- the class's reading and the reference's of the same text -/
theorem zrule_join {ln : Nat} {ok : Bool} {a2 : Nat} {cs2 Cs : List Nat} {cm : Nat → Bool} {z : Int} (h1 : zRu ln t ok a2 cs2) (h2 : zOut ln t ([], [], zub cm 0 false, 0, 0, true) z Cs) : (z = -1 ∧ zFo ln 40 a2 (min ln 40) ok = 0 ∧ ok = true ∧ ((ln = 0 ∧ Cs = [2004, 1000, 1001] ∧ cs2 = []) ∨ (0 < ln ∧ ln ≤ 40 ∧ Cs = cs2))) ∨ (0 ≤ z ∧ z ≤ 40 ∧ zFo ln 40 a2 (min ln 40) ok = -1 - z) := by
  rcases h1 with ⟨e1, e2, e3, e4⟩ | ⟨h0, hab, f, hz⟩
  · subst e1 e2 e3 e4
    rcases h2 with ⟨-, g2, g3⟩ | ⟨g1, -⟩ | ⟨g1, -⟩
    · exact Or.inl ⟨g2, rfl, rfl, Or.inl ⟨rfl, g3, rfl⟩⟩
    · omega
    · omega
  · have hs := (zsim (b := min ln 40) (t := t) f).1 0 0 0 0 [] [] (zub cm 0 false) ok a2 cs2 (by decide) (Nat.zero_le _) (fun _ o ho => by cases ho) (fun _ => zub_e) hz
    -- stopped, or read to the end
    have key : (∃ s2, zrn t ([], [], zub cm 0 false, 0, 0, true) 0 a2 = some s2 ∧ ((a2 < min ln 40 ∧ zstep (t a2) s2 = none) ∨ (a2 = min ln 40 ∧ ok = false ∧ (s2.2.2.2.2.2 = true ∨ 0 < s2.2.2.2.1)))) ∨ (a2 = min ln 40 ∧ ok = true ∧ ∃ C2 W2 cm2 dg2, zrn t ([], [], zub cm 0 false, 0, 0, true) 0 a2 = some (C2, W2, cm2, 0, dg2, false) ∧ cs2 = W2.reverse ++ C2 ∧ ∀ o ∈ W2, 1 ≤ zbd o) := by
      cases ok with
      | false =>
        obtain ⟨k1, k2, s2, k3, k4, k5⟩ := hs.2 rfl
        have k3 : zrn t _ 0 (a2 - 0) = some s2 := k3
        rw [Nat.sub_zero] at k3
        refine Or.inl ⟨s2, k3, ?_⟩
        by_cases e : a2 < min ln 40
        · exact Or.inl ⟨e, k4 e⟩
        · exact Or.inr ⟨by omega, rfl, k5 (by omega)⟩
      | true =>
        obtain ⟨k1, k2, C2, W2, cm2, dg2, k3, k4, k5, k6, k7, k8⟩ := hs.1 rfl
        have k3 : zrn t _ 0 (a2 - 0) = some (C2, W2 ++ [], cm2, 0, dg2, false) := k3
        rw [Nat.sub_zero, List.append_nil] at k3
        by_cases e : a2 < min ln 40
        · refine Or.inl ⟨_, k3, Or.inl ⟨e, ?_⟩⟩
          obtain ⟨n1, n2⟩ := k8 e
          refine zstep_x n1 (fun _ => rfl) (fun q => ?_)
          have hq := zbd_op q
          rcases n2 q with r | r
          · omega
          · exact r
        · exact Or.inr ⟨by omega, rfl, C2, W2, cm2, dg2, k3, k4, k5⟩
    rcases h2 with ⟨g1, -⟩ | ⟨-, g2, g3, C, W, cm3, dg, g4, g5⟩ | ⟨-, p, s, g1, g2, g3, g4, g5⟩
    · omega
    · -- the class read all
      rcases key with ⟨s2, k1, ⟨k2, k3⟩ | ⟨k2, k3, k4⟩⟩ | ⟨k1, k2, C2, W2, cm2, dg2, k3, k4, k5⟩
      · rw [zrn_x k1 k3 (show a2 < ln by omega)] at g4
        cases g4
      · rw [show a2 = ln by omega, g4] at k1
        cases k1
        rcases k4 with q | q
        · cases q
        · exact absurd q (Nat.lt_irrefl 0)
      · have ea : a2 = ln := by omega
        rw [ea, g4] at k3
        cases k3
        refine Or.inl ⟨g3, ?_, k2, Or.inr ⟨h0, g2, ?_⟩⟩
        · subst k2
          rw [zFo_t, if_neg (by omega), if_pos k1]
        · have := zrl_all (b := 1) (W2 := W) (W := []) (C := C) k5 (fun o ho => by cases ho)
          rw [List.append_nil] at this
          rw [g5, this, k4]
    · -- the class stopped at p
      refine Or.inr ⟨by omega, by omega, ?_⟩
      have hp : p = a2 ∧ (ok = true → a2 = min ln 40 → 40 < ln) := by
        rcases key with ⟨s2, k1, ⟨k2, k3⟩ | ⟨k2, k3, k4⟩⟩ | ⟨k1, k2, C2, W2, cm2, dg2, k3, k4, k5⟩
        · refine ⟨?_, fun _ q => by omega⟩
          have hle := zrn_y k1 k3 g3
          rcases g5 with ⟨q1, q2, q3⟩ | ⟨q1, q2⟩ | ⟨q1, q2⟩
          · have := zrn_y g3 q3 k1
            omega
          · omega
          · omega
        · refine ⟨?_, fun q => by rw [k3] at q; cases q⟩
          rcases g5 with ⟨q1, q2, q3⟩ | ⟨q1, q2⟩ | ⟨q1, q2⟩
          · have := zrn_y g3 q3 k1
            omega
          · omega
          · omega
        · rcases g5 with ⟨q1, q2, q3⟩ | ⟨q1, q2⟩ | ⟨q1, q2⟩
          · have := zrn_y g3 q3 k3
            omega
          · exact ⟨by omega, fun _ _ => by omega⟩
          · exfalso
            by_cases e : ln ≤ 40
            · rw [show a2 = p by omega, g3] at k3
              cases k3
              rcases q2 with q | q
              · cases q
              · exact absurd q (Nat.lt_irrefl 0)
            · omega
      obtain ⟨hp1, hp2⟩ := hp
      rw [g4, hp1]
      cases ok with
      | false =>
        rw [zFo_b]
        split
        · omega
        · rfl
      | true =>
        rw [zFo_t]
        have := hp2 rfl
        split
        · omega
        · rw [if_neg (by omega)]
end ZRJ
theorem zm_rule {ph : pm_H} {ln : Nat} {t : Nat → Nat} (hS : zSh ph) (hn : zc ph 170 14 = some (.int (zn ln))) (hn80 : ln ≤ 80) (gt : ∀ i, i < ln → zc ph 176 i = some (.int (zn (t i))) ∧ t i < 256) : zM 217 [.ref 170] ph (fun v0 q => zFr [179, 180] [(170, 0), (170, 14), (170, 15), (170, 16), (170, 17), (170, 23), (170, 24)] ph q ∧ zc q 170 0 = some (.int (zn 0)) ∧ zc q 170 14 = some (.int (zn 0)) ∧ ∃ (ok : Bool) (a2 : Nat) (cs2 : List Nat) (z : Int32), zRu ln t ok a2 cs2 ∧ cs2.length ≤ 40 ∧ v0 = some (.int z) ∧ z.toInt = zFo ln 40 a2 (min ln 40) ok ∧ ((z.toInt = 0 ∧ zc q 170 23 = some (.int (zn cs2.length)) ∧ ∀ i, i < cs2.length → zc q 179 i = some (.int (zn (cs2.reverse.getD i 0))) ∧ cs2.reverse.getD i 0 ≤ 3000) ∨ (z.toInt ≠ 0 ∧ zc q 170 23 = zc ph 170 23 ∧ ∀ i, zc q 179 i = zc ph 179 i))) := by
  obtain ⟨Q, hQ⟩ : ∃ Q : Option Value → pm_H → Prop, Q = (fun v0 q => zFr [179, 180] [(170, 0), (170, 14), (170, 15), (170, 16), (170, 17), (170, 23), (170, 24)] ph q ∧ zc q 170 0 = some (.int (zn 0)) ∧ zc q 170 14 = some (.int (zn 0)) ∧ ∃ (ok : Bool) (a2 : Nat) (cs2 : List Nat) (z : Int32), zRu ln t ok a2 cs2 ∧ cs2.length ≤ 40 ∧ v0 = some (.int z) ∧ z.toInt = zFo ln 40 a2 (min ln 40) ok ∧ ((z.toInt = 0 ∧ zc q 170 23 = some (.int (zn cs2.length)) ∧ ∀ i, i < cs2.length → zc q 179 i = some (.int (zn (cs2.reverse.getD i 0))) ∧ cs2.reverse.getD i 0 ≤ 3000) ∨ (z.toInt ≠ 0 ∧ zc q 170 23 = zc ph 170 23 ∧ ∀ i, zc q 179 i = zc ph 179 i))) := ⟨_, rfl⟩
  rw [← hQ]
  refine zM_mk fun n D => ?_
  show zW n D 217 Q 0 [some (.ref 170), none] [] ph
  have c_0 : (Int32.ofInt 0).toInt = 0 := by decide
  refine w_load (pc' := 1) (v := .ref 170) (m := 1) (ykc_217 (e := (2, .aload_n kF0, 0)) rfl) rfl rfl ?_
  refine w_alu (pc' := 2) (st' := [.int (Int32.ofInt 0), .ref 170]) (ykc_217 (e := (0, .iconst 0, 0)) rfl) rfl rfl ?_
  refine w_pf (pc' := 5) (ykc_217 (e := (5, .putfield 3, 0)) rfl) rfl rfl (fun ph1518 u1517 => ?_)
  refine w_load (pc' := 6) (v := .ref 170) (m := 1) (ykc_217 (e := (2, .aload_n kF0, 0)) rfl) rfl rfl ?_
  have fu : zFr [] [(170, 0)] _ ph1518 := zFr_st u1517 (Or.inr (by simp))
  refine w_cv (as := [.ref 170]) (r := []) (ykc_217 (e := (6, .invokevirtual 251, 0)) rfl) rfl rfl rfl rfl (zm_rulesRead (zSh_F fu (by decide +kernel) hS) ((fu.1 170 14 (by decide) (by decide)).trans hn) hn80 (fun i hi => ⟨(fu.1 176 i (by simp) (by simp)).trans (gt i hi).1, (gt i hi).2⟩)) (fun v1519 ph1520 hv => ?_)
  rcases hv with ⟨f2, h14, ok, a2, cs2, z9, hru, hR2, hl2, rfl, hz9⟩
  · have tl9 := znt (k := cs2.length) (by omega)
    show zW n D 217 Q 9 [some (.ref 170), none] [.int z9] ph1520
    refine w_store (pc' := 10) (L' := [some (.ref 170), some (.int z9)]) (st' := []) (m := 1) (ykc_217 (e := (3, .istore_n kF1, 0)) rfl) rfl rfl ?_
    refine w_load (pc' := 11) (v := .int z9) (m := 1) (ykc_217 (e := (2, .iload_n kF1, 0)) rfl) rfl rfl ?_
    refine w_zne (ykc_217 (e := (4, .ifCond .ne 15, 26)) rfl) rfl (fun b1521 => ?_) (fun b1521 => ?_)
    · refine w_load (pc' := 27) (v := .int z9) (m := 1) (ykc_217 (e := (2, .iload_n kF1, 0)) rfl) rfl rfl ?_
      refine w_ret (v := (some (.int z9))) (ykc_217 (e := (7, .ireturn, 0)) rfl) (zr_v rfl) ?_
      rw [hQ]
      exact ⟨(show zFr [179, 180] [(170, 0), (170, 14), (170, 15), (170, 16), (170, 17), (170, 23), (170, 24)] ph ph1520 from (zFr_trans (zFr_st u1517 (Or.inr (by simp))) (zFr_mono f2 (by simp) (by simp)))), (f2.1 170 0 (by decide) (by decide)).trans u1517.1, h14, ok, a2, cs2, z9, hru, hl2, rfl, hz9, Or.inr ⟨by omega, (f2.1 170 23 (by decide) (by decide)).trans (fu.1 170 23 (by decide) (by decide)), fun i => (f2.1 179 i (by simp) (by simp)).trans (fu.1 179 i (by simp) (by simp))⟩⟩
    · refine w_load (pc' := 15) (v := .ref 170) (m := 1) (ykc_217 (e := (2, .aload_n kF0, 0)) rfl) rfl rfl ?_
      refine w_load (pc' := 16) (v := .ref 170) (m := 1) (ykc_217 (e := (2, .aload_n kF0, 0)) rfl) rfl rfl ?_
      refine w_gf (pc' := 19) (v := .ref 180) (ykc_217 (e := (5, .getfield 59, 0)) rfl) rfl ((f2.1 170 22 (by decide) (by decide)).trans ((u1517.2.1 170 22 (fun q => absurd q.2 (by decide))).trans (zsg hS zs_170_22))) rfl ?_
      refine w_load (pc' := 20) (v := .ref 170) (m := 1) (ykc_217 (e := (2, .aload_n kF0, 0)) rfl) rfl rfl ?_
      refine w_gf (pc' := 23) (v := .int (zn cs2.length)) (ykc_217 (e := (5, .getfield 227, 0)) rfl) rfl hR2.1 rfl ?_
      refine w_cv (as := [.ref 170, .ref 180, .int (zn cs2.length)]) (r := []) (ykc_217 (e := (6, .invokevirtual 254, 0)) rfl) rfl rfl rfl rfl (zm_laysCode (zSh_F (show zFr [179, 180] [(170, 0), (170, 14), (170, 15), (170, 16), (170, 17), (170, 23), (170, 24)] ph ph1520 from (zFr_trans (zFr_st u1517 (Or.inr (by simp))) (zFr_mono f2 (by simp) (by simp)))) (by decide +kernel) hS) hR2 rfl hl2) (fun v1522 ph1523 hv => ?_)
      rcases hv with ⟨rfl, f3, h23, h179⟩
      · have hlaid := True.intro
        show zW n D 217 Q 26 [some (.ref 170), some (.int z9)] [] ph1523
        refine w_load (pc' := 27) (v := .int z9) (m := 1) (ykc_217 (e := (2, .iload_n kF1, 0)) rfl) rfl rfl ?_
        refine w_ret (v := (some (.int z9))) (ykc_217 (e := (7, .ireturn, 0)) rfl) (zr_v rfl) ?_
        rw [hQ]
        exact ⟨(show zFr [179, 180] [(170, 0), (170, 14), (170, 15), (170, 16), (170, 17), (170, 23), (170, 24)] ph ph1523 from (zFr_trans (zFr_trans (zFr_st u1517 (Or.inr (by simp))) (zFr_mono f2 (by simp) (by simp))) (zFr_mono f3 (by simp) (by simp)))), (f3.1 170 0 (by decide) (by decide)).trans ((f2.1 170 0 (by decide) (by decide)).trans u1517.1), (f3.1 170 14 (by decide) (by decide)).trans h14, ok, a2, cs2, z9, hru, hl2, rfl, hz9, Or.inl ⟨by omega, h23, h179⟩⟩
      
  
theorem zc_other {ph : pm_H} {F : Nat} (ho : zc ph 10 2 = some (.ref F)) : zM 77 [.ref 10] ph (fun v q => ph = q ∧ v = some (.ref F)) := by
  obtain ⟨Q, hQ⟩ : ∃ Q : Option Value → pm_H → Prop, Q = (fun v q => ph = q ∧ v = some (.ref F)) := ⟨_, rfl⟩
  rw [← hQ]
  refine zM_mk fun n D => ?_
  show zW n D 77 Q 0 [some (.ref 10)] [] ph
  refine w_load (pc' := 1) (v := .ref 10) (m := 1) (ykc_77 (e := (2, .aload_n kF0, 0)) rfl) rfl rfl ?_
  refine w_gf (pc' := 4) (v := .ref F) (ykc_77 (e := (5, .getfield 22, 0)) rfl) rfl ho rfl ?_
  refine w_ret (v := (some (.ref F))) (ykc_77 (e := (7, .areturn, 0)) rfl) (zr_v rfl) ?_
  rw [hQ]
  exact ⟨rfl, rfl⟩
theorem zc_takeOther {ph : pm_H} {F G : Nat} (ho : zc ph 10 2 = some (.ref F)) (hr : zc ph 10 1 = some (.ref G)) : zM 78 [.ref 10] ph (fun v q => v = none ∧ zFr [] [(10, 1), (10, 2)] ph q ∧ zc q 10 1 = some (.ref F) ∧ zc q 10 2 = some (.ref G)) := by
  obtain ⟨Q, hQ⟩ : ∃ Q : Option Value → pm_H → Prop, Q = (fun v q => v = none ∧ zFr [] [(10, 1), (10, 2)] ph q ∧ zc q 10 1 = some (.ref F) ∧ zc q 10 2 = some (.ref G)) := ⟨_, rfl⟩
  rw [← hQ]
  refine zM_mk fun n D => ?_
  show zW n D 78 Q 0 [some (.ref 10), none] [] ph
  refine w_load (pc' := 1) (v := .ref 10) (m := 1) (ykc_78 (e := (2, .aload_n kF0, 0)) rfl) rfl rfl ?_
  refine w_gf (pc' := 4) (v := .ref G) (ykc_78 (e := (5, .getfield 18, 0)) rfl) rfl hr rfl ?_
  refine w_store (pc' := 5) (L' := [some (.ref 10), some (.ref G)]) (st' := []) (m := 1) (ykc_78 (e := (3, .astore_n kF1, 0)) rfl) rfl rfl ?_
  refine w_load (pc' := 6) (v := .ref 10) (m := 1) (ykc_78 (e := (2, .aload_n kF0, 0)) rfl) rfl rfl ?_
  refine w_load (pc' := 7) (v := .ref 10) (m := 1) (ykc_78 (e := (2, .aload_n kF0, 0)) rfl) rfl rfl ?_
  refine w_gf (pc' := 10) (v := .ref F) (ykc_78 (e := (5, .getfield 22, 0)) rfl) rfl ho rfl ?_
  refine w_pf (pc' := 13) (ykc_78 (e := (5, .putfield 18, 0)) rfl) rfl rfl (fun ph1525 u1524 => ?_)
  refine w_load (pc' := 14) (v := .ref 10) (m := 1) (ykc_78 (e := (2, .aload_n kF0, 0)) rfl) rfl rfl ?_
  refine w_load (pc' := 15) (v := .ref G) (m := 1) (ykc_78 (e := (2, .aload_n kF1, 0)) rfl) rfl rfl ?_
  refine w_pf (pc' := 18) (ykc_78 (e := (5, .putfield 22, 0)) rfl) rfl rfl (fun ph1527 u1526 => ?_)
  refine w_ret (v := none) (ykc_78 (e := (7, .return_, 0)) rfl) (zr_v rfl) ?_
  rw [hQ]
  exact ⟨rfl, zFr_trans (zFr_st u1524 (Or.inr (by simp))) (zFr_st u1526 (Or.inr (by simp))), ((u1526.2.1 10 1 (fun q => absurd q.2 (by decide))).trans u1524.1), u1526.1⟩
theorem zc_rule {ph : pm_H} {F G ln : Nat} {t : Nat → Nat} {cm : Nat → Bool} (hS : zSh ph) (hF : F = 11 ∨ F = 16) (hT : zTc ph ln t) (ho : zc ph 10 2 = some (.ref F)) (hr : zc ph 10 1 = some (.ref G)) (hp : zFp ph F) (hb : zFb ph F cm) : zM 128 [.ref 0] ph (fun v0 q => zFr [F + 1, F + 2, F + 3] [(F, 1), (F, 3), (F, 5), (F, 6), (F, 7), (1, 1), (10, 1), (10, 2)] ph q ∧ zc q 1 1 = some (.int (zn 0)) ∧ (∃ cm2, zFb q F cm2) ∧ ∃ (z y : Int32) (Cs : List Nat), zOut ln t ([], [], zub cm 0 false, 0, 0, true) z.toInt Cs ∧ v0 = some (.int y) ∧ ((z.toInt = -1 ∧ y.toInt = 0 ∧ zFc q F Cs ∧ zc q 10 1 = some (.ref F) ∧ zc q 10 2 = some (.ref G)) ∨ (0 ≤ z.toInt ∧ y.toInt = -1 - z.toInt ∧ zc q 10 1 = some (.ref G) ∧ zc q 10 2 = some (.ref F)))) := by
  obtain ⟨Q, hQ⟩ : ∃ Q : Option Value → pm_H → Prop, Q = (fun v0 q => zFr [F + 1, F + 2, F + 3] [(F, 1), (F, 3), (F, 5), (F, 6), (F, 7), (1, 1), (10, 1), (10, 2)] ph q ∧ zc q 1 1 = some (.int (zn 0)) ∧ (∃ cm2, zFb q F cm2) ∧ ∃ (z y : Int32) (Cs : List Nat), zOut ln t ([], [], zub cm 0 false, 0, 0, true) z.toInt Cs ∧ v0 = some (.int y) ∧ ((z.toInt = -1 ∧ y.toInt = 0 ∧ zFc q F Cs ∧ zc q 10 1 = some (.ref F) ∧ zc q 10 2 = some (.ref G)) ∨ (0 ≤ z.toInt ∧ y.toInt = -1 - z.toInt ∧ zc q 10 1 = some (.ref G) ∧ zc q 10 2 = some (.ref F)))) := ⟨_, rfl⟩
  rw [← hQ]
  refine zM_mk fun n D => ?_
  show zW n D 128 Q 0 [some (.ref 0), none] [] ph
  have c_0 : (Int32.ofInt (-1)).toInt = -1 := by decide
  have c_1 : (Int32.ofInt 0).toInt = 0 := by decide
  refine w_load (pc' := 1) (v := .ref 0) (m := 1) (ykc_128 (e := (2, .aload_n kF0, 0)) rfl) rfl rfl ?_
  refine w_gf (pc' := 4) (v := .ref 10) (ykc_128 (e := (5, .getfield 35, 0)) rfl) rfl (zsg hS zs_0_3) rfl ?_
  refine w_cv (as := [.ref 10]) (r := []) (ykc_128 (e := (6, .invokevirtual 157, 0)) rfl) rfl rfl rfl rfl (zc_other ho) (fun v1528 ph1529 hv => ?_)
  obtain ⟨rfl, rfl⟩ := hv
  show zW n D 128 Q 7 [some (.ref 0), none] [.ref F] ph
  refine w_load (pc' := 8) (v := .ref 0) (m := 1) (ykc_128 (e := (2, .aload_n kF0, 0)) rfl) rfl rfl ?_
  refine w_gf (pc' := 11) (v := .ref 1) (ykc_128 (e := (5, .getfield 10, 0)) rfl) rfl (zsg hS zs_0_0) rfl ?_
  refine w_cv (as := [.ref F, .ref 1]) (r := []) (ykc_128 (e := (6, .invokevirtual 161, 0)) rfl) rfl rfl rfl rfl (zc_fread hS hF hT hp hb) (fun v1530 ph1531 hv => ?_)
  rcases hv with ⟨f1, hcm9, z9, Cs, rfl, ho9, hc9⟩
  · have hzr : z9.toInt = -1 ∨ 0 ≤ z9.toInt := by
      rcases ho9 with ⟨-, q, -⟩ | ⟨-, -, q, -⟩ | ⟨-, p9, s9, -, -, -, q, -⟩ <;> omega
    have hz40 : z9.toInt ≤ 80 := by
      rcases ho9 with ⟨-, q, -⟩ | ⟨-, -, q, -⟩ | ⟨-, p9, s9, q2, q3, -, q, -⟩ <;> omega
    show zW n D 128 Q 14 [some (.ref 0), none] [.int z9] ph1531
    refine w_store (pc' := 15) (L' := [some (.ref 0), some (.int z9)]) (st' := []) (m := 1) (ykc_128 (e := (3, .istore_n kF1, 0)) rfl) rfl rfl ?_
    refine w_load (pc' := 16) (v := .ref 0) (m := 1) (ykc_128 (e := (2, .aload_n kF0, 0)) rfl) rfl rfl ?_
    refine w_gf (pc' := 19) (v := .ref 1) (ykc_128 (e := (5, .getfield 10, 0)) rfl) rfl ((f1.1 0 0 (by simp <;> omega) (by simp <;> omega)).trans (zsg hS zs_0_0)) rfl ?_
    refine w_cv (as := [.ref 1]) (r := []) (ykc_128 (e := (6, .invokevirtual 119, 0)) rfl) rfl rfl rfl rfl (zc_tclear) (fun v1532 ph1533 hv => ?_)
    obtain ⟨rfl, f2, h11⟩ := hv
    show zW n D 128 Q 22 [some (.ref 0), some (.int z9)] [] ph1533
    refine w_load (pc' := 23) (v := .int z9) (m := 1) (ykc_128 (e := (2, .iload_n kF1, 0)) rfl) rfl rfl ?_
    refine w_zlt (ykc_128 (e := (4, .ifCond .lt 7, 30)) rfl) rfl (fun b1534 => ?_) (fun b1534 => ?_)
    · refine w_load (pc' := 31) (v := .ref 0) (m := 1) (ykc_128 (e := (2, .aload_n kF0, 0)) rfl) rfl rfl ?_
      refine w_gf (pc' := 34) (v := .ref 10) (ykc_128 (e := (5, .getfield 35, 0)) rfl) rfl ((f2.1 0 3 (by decide) (by decide)).trans ((f1.1 0 3 (by simp <;> omega) (by simp <;> omega)).trans (zsg hS zs_0_3))) rfl ?_
      refine w_cv (as := [.ref 10]) (r := []) (ykc_128 (e := (6, .invokevirtual 164, 0)) rfl) rfl rfl rfl rfl (zc_takeOther (F := F) (G := G) ((f2.1 10 2 (by rcases hF with e | e <;> subst e <;> decide) (by rcases hF with e | e <;> subst e <;> decide)).trans ((f1.1 10 2 (by rcases hF with e | e <;> subst e <;> decide) (by rcases hF with e | e <;> subst e <;> decide)).trans ho)) ((f2.1 10 1 (by rcases hF with e | e <;> subst e <;> decide) (by rcases hF with e | e <;> subst e <;> decide)).trans ((f1.1 10 1 (by rcases hF with e | e <;> subst e <;> decide) (by rcases hF with e | e <;> subst e <;> decide)).trans hr))) (fun v1535 ph1536 hv => ?_)
      obtain ⟨rfl, f3, h3r, h3o⟩ := hv
      show zW n D 128 Q 37 [some (.ref 0), some (.int z9)] [] ph1536
      refine w_alu (pc' := 38) (st' := [.int (Int32.ofInt 0)]) (ykc_128 (e := (0, .iconst 0, 0)) rfl) rfl rfl ?_
      refine w_ret (v := (some (.int (Int32.ofInt 0)))) (ykc_128 (e := (7, .ireturn, 0)) rfl) (zr_v rfl) ?_
      obtain ⟨cm9, hcm9⟩ := hcm9
      rw [hQ]
      exact ⟨(show zFr [F + 1, F + 2, F + 3] [(F, 1), (F, 3), (F, 5), (F, 6), (F, 7), (1, 1), (10, 1), (10, 2)] ph ph1536 from (zFr_trans (zFr_trans (zFr_mono f1 (by simp) (by simp)) (zFr_mono f2 (by simp) (by simp))) (zFr_mono f3 (by simp) (by simp)))), (f3.1 1 1 (by decide) (by decide)).trans h11, ⟨cm9, zFb_F f3 (by simp) (by simp <;> omega) (zFb_F f2 (by simp) (by simp <;> omega) hcm9)⟩, z9, _, Cs, ho9, rfl, Or.inl ⟨by omega, by decide, zFc_F f3 (by simp) (by rcases hF with e | e <;> subst e <;> simp) (zFc_F f2 (by simp) (by rcases hF with e | e <;> subst e <;> simp) (hc9 (by omega))), h3r, h3o⟩⟩
    · refine w_alu (pc' := 27) (st' := [.int (Int32.ofInt (-1))]) (ykc_128 (e := (0, .iconst (-1), 0)) rfl) rfl rfl ?_
      refine w_load (pc' := 28) (v := .int z9) (m := 1) (ykc_128 (e := (2, .iload_n kF1, 0)) rfl) rfl rfl ?_
      obtain ⟨z1537, e_z1537, h_z1537⟩ : ∃ zq : Int32, (Int32.ofInt (-1)) - z9 = zq ∧ zq.toInt = (-1 : Int) - z9.toInt := ⟨_, rfl, zm1sub (by omega) (by omega) (by omega)⟩
      refine w_alu (pc' := 29) (st' := [.int z1537]) (ykc_128 (e := (0, .isub, 0)) rfl) (by rw [← e_z1537]; rfl) rfl ?_
      refine w_ret (v := (some (.int z1537))) (ykc_128 (e := (7, .ireturn, 0)) rfl) (zr_v rfl) ?_
      obtain ⟨cm9, hcm9⟩ := hcm9
      rw [hQ]
      exact ⟨(show zFr [F + 1, F + 2, F + 3] [(F, 1), (F, 3), (F, 5), (F, 6), (F, 7), (1, 1), (10, 1), (10, 2)] ph ph1533 from (zFr_trans (zFr_mono f1 (by simp) (by simp)) (zFr_mono f2 (by simp) (by simp)))), h11, ⟨cm9, zFb_F f2 (by simp) (by simp <;> omega) hcm9⟩, z9, _, Cs, ho9, rfl, Or.inr ⟨by omega, by omega, ((f2.1 10 1 (by rcases hF with e | e <;> subst e <;> decide) (by rcases hF with e | e <;> subst e <;> decide)).trans ((f1.1 10 1 (by rcases hF with e | e <;> subst e <;> decide) (by rcases hF with e | e <;> subst e <;> decide)).trans hr)), ((f2.1 10 2 (by rcases hF with e | e <;> subst e <;> decide) (by rcases hF with e | e <;> subst e <;> decide)).trans ((f1.1 10 2 (by rcases hF with e | e <;> subst e <;> decide) (by rcases hF with e | e <;> subst e <;> decide)).trans ho))⟩⟩
  

/-! the two LIGHTS: answers and what is written, by W; printed by wip/z/z1k_light.py -/
/-- how many signs are digits, 20 at most -/
def zLm (ln : Nat) (t : Nat → Nat) (k : Nat) : Prop := k ≤ ln ∧ k ≤ 20 ∧ (∀ i, i < k → zdi (t i) = true) ∧ (k < ln → k < 20 → zdi (t k) = false)
theorem zLm_u {ln : Nat} {t : Nat → Nat} {k k2 : Nat} (h1 : zLm ln t k) (h2 : zLm ln t k2) : k = k2 := by
  obtain ⟨a1, a2, a3, a4⟩ := h1
  obtain ⟨b1, b2, b3, b4⟩ := h2
  rcases Nat.lt_trichotomy k k2 with e | e | e
  · have c1 := a4 (by omega) (by omega)
    rw [b3 k e] at c1
    cases c1
  · exact e
  · have c1 := b4 (by omega) (by omega)
    rw [a3 k2 e] at c1
    cases c1
theorem zdi_d {c : Nat} (h : zdi c = true) : 48 ≤ c ∧ c ≤ 57 := of_decide_eq_true h
theorem zc_rlight {ph : pm_H} {ln : Nat} {t : Nat → Nat} (hS : zSh ph) (hT : zTc ph ln t) : zM 75 [.ref 10, .ref 1] ph (fun v0 q => ∃ k, zLm ln t k ∧ ((0 < ln ∧ k = ln ∧ v0 = some (.int (Int32.ofInt (-1))) ∧ zFr [21] [(10, 4)] ph q ∧ zc q 10 4 = some (.int (zn ln)) ∧ ∀ i, i < ln → zc q 21 i = some (.int (zn (t i - 48)))) ∨ ((ln = 0 ∨ k < ln) ∧ v0 = some (.int (zn k)) ∧ ph = q))) := by
  obtain ⟨Q, hQ⟩ : ∃ Q : Option Value → pm_H → Prop, Q = (fun v0 q => ∃ k, zLm ln t k ∧ ((0 < ln ∧ k = ln ∧ v0 = some (.int (Int32.ofInt (-1))) ∧ zFr [21] [(10, 4)] ph q ∧ zc q 10 4 = some (.int (zn ln)) ∧ ∀ i, i < ln → zc q 21 i = some (.int (zn (t i - 48)))) ∨ ((ln = 0 ∨ k < ln) ∧ v0 = some (.int (zn k)) ∧ ph = q))) := ⟨_, rfl⟩
  rw [← hQ]
  refine zM_mk fun n D => ?_
  show zW n D 75 Q 0 [some (.ref 10), some (.ref 1), none, none] [] ph
  have c_0 : ((Int8.ofInt 20).toInt32).toInt = 20 := by decide
  have c_1 : (Int32.ofInt (-1)).toInt = -1 := by decide
  have c_2 : (Int32.ofInt 0).toInt = 0 := by decide
  have c_3 : (Int32.ofInt 1).toInt = 1 := by decide
  have hT0 := hT
  obtain ⟨gn, hn80, gt⟩ := hT
  have tn := znt (k := ln) (by omega)
  refine w_load (pc' := 1) (v := .ref 1) (m := 1) (ykc_75 (e := (2, .aload_n kF1, 0)) rfl) rfl rfl ?_
  refine w_cv (as := [.ref 1]) (r := []) (ykc_75 (e := (6, .invokevirtual 43, 0)) rfl) rfl rfl rfl rfl (zc_tsize hT0.1) (fun v1517 ph1518 hv => ?_)
  obtain ⟨rfl, rfl⟩ := hv
  show zW n D 75 Q 4 [some (.ref 10), some (.ref 1), none, none] [.int (zn ln)] ph
  refine w_store (pc' := 5) (L' := [some (.ref 10), some (.ref 1), some (.int (zn ln)), none]) (st' := []) (m := 1) (ykc_75 (e := (3, .istore_n kF2, 0)) rfl) rfl rfl ?_
  refine w_load (pc' := 6) (v := .int (zn ln)) (m := 1) (ykc_75 (e := (2, .iload_n kF2, 0)) rfl) rfl rfl ?_
  refine w_zne (ykc_75 (e := (4, .ifCond .ne 5, 11)) rfl) rfl (fun b1519 => ?_) (fun b1519 => ?_)
  · refine w_alu (pc' := 12) (st' := [.int (Int32.ofInt 0)]) (ykc_75 (e := (0, .iconst 0, 0)) rfl) rfl rfl ?_
    refine w_store (pc' := 13) (L' := [some (.ref 10), some (.ref 1), some (.int (zn ln)), some (.int (Int32.ofInt 0))]) (st' := []) (m := 1) (ykc_75 (e := (3, .istore_n kF3, 0)) rfl) rfl rfl ?_
    have hl1 : ∀ (n : Nat), ∀ (k : Nat), (k ≤ ln) → (k ≤ 20) → (∀ i, i < k → zdi (t i) = true) → zW n D 75 Q 13 [some (.ref 10), some (.ref 1), some (.int (zn ln)), some (.int (zn k))] [] ph := by
      intro n
      induction n using Nat.strongRecOn with
      | ind n ih =>
        intro k hk hk20 hd
        have tk := znt (k := k) (by omega)
        refine w_load (pc' := 14) (v := .int (zn k)) (m := 1) (ykc_75 (e := (2, .iload_n kF3, 0)) rfl) rfl rfl ?_
        refine w_load (pc' := 15) (v := .int (zn ln)) (m := 1) (ykc_75 (e := (2, .iload_n kF2, 0)) rfl) rfl rfl ?_
        refine w_ige (ykc_75 (e := (4, .if_icmp .ge 25, 40)) rfl) rfl (fun b1520 => ?_) (fun b1520 => ?_)
        · refine w_alu (pc' := 41) (st' := [.int (Int32.ofInt 0)]) (ykc_75 (e := (0, .iconst 0, 0)) rfl) rfl rfl ?_
          refine w_store (pc' := 42) (L' := [some (.ref 10), some (.ref 1), some (.int (zn ln)), some (.int (Int32.ofInt 0))]) (st' := []) (m := 1) (ykc_75 (e := (3, .istore_n kF3, 0)) rfl) rfl rfl ?_
          have ek : k = ln := by omega
          subst ek
          have hl2 : ∀ (n : Nat), ∀ (j : Nat) (p : pm_H), (j ≤ k) → (zFr [21] [] ph p) → (∀ i, i < j → zc p 21 i = some (.int (zn (t i - 48)))) → zW n D 75 Q 42 [some (.ref 10), some (.ref 1), some (.int (zn k)), some (.int (zn j))] [] p := by
            intro n
            induction n using Nat.strongRecOn with
            | ind n ih =>
              intro j p hj hf hg
              have tj := znt (k := j) (by omega)
              have hSp := zSh_F hf (by decide +kernel) hS
              have hTp := zTc_F hf (by simp) (by simp) (by simp) hT0
              refine w_load (pc' := 43) (v := .int (zn j)) (m := 1) (ykc_75 (e := (2, .iload_n kF3, 0)) rfl) rfl rfl ?_
              refine w_load (pc' := 44) (v := .int (zn k)) (m := 1) (ykc_75 (e := (2, .iload_n kF2, 0)) rfl) rfl rfl ?_
              refine w_ige (ykc_75 (e := (4, .if_icmp .ge 26, 70)) rfl) rfl (fun b1521 => ?_) (fun b1521 => ?_)
              · refine w_load (pc' := 71) (v := .ref 10) (m := 1) (ykc_75 (e := (2, .aload_n kF0, 0)) rfl) rfl rfl ?_
                refine w_load (pc' := 72) (v := .int (zn k)) (m := 1) (ykc_75 (e := (2, .iload_n kF2, 0)) rfl) rfl rfl ?_
                refine w_pf (pc' := 75) (ykc_75 (e := (5, .putfield 29, 0)) rfl) rfl rfl (fun ph1523 u1522 => ?_)
                refine w_alu (pc' := 76) (st' := [.int (Int32.ofInt (-1))]) (ykc_75 (e := (0, .iconst (-1), 0)) rfl) rfl rfl ?_
                refine w_ret (v := (some (.int (Int32.ofInt (-1))))) (ykc_75 (e := (7, .ireturn, 0)) rfl) (zr_v rfl) ?_
                rw [hQ]
                have ej : j = k := by omega
                subst ej
                exact ⟨j, ⟨hk, hk20, hd, fun h => absurd h (by omega)⟩, Or.inl ⟨by omega, rfl, rfl, zFr_trans (zFr_mono hf (by simp) (by simp)) (zFr_st u1522 (Or.inr (by simp))), u1522.1, fun i hi => (u1522.2.1 21 i (fun q => absurd q.1 (by decide))).trans (hg i hi)⟩⟩
              · refine w_load (pc' := 48) (v := .int (zn j)) (m := 1) (ykc_75 (e := (2, .iload_n kF3, 0)) rfl) rfl rfl ?_
                refine w_push (pc' := 50) (v := .int ((Int8.ofInt 20).toInt32)) (m := 2) (ykc_75 (e := (1, .bipush 20, 0)) rfl) rfl rfl ?_
                refine w_ige (ykc_75 (e := (4, .if_icmp .ge 20, 70)) rfl) rfl (fun q => by exfalso; omega) (fun b1524 => ?_)
                refine w_load (pc' := 54) (v := .ref 10) (m := 1) (ykc_75 (e := (2, .aload_n kF0, 0)) rfl) rfl rfl ?_
                refine w_gf (pc' := 57) (v := .ref 21) (ykc_75 (e := (5, .getfield 25, 0)) rfl) rfl ((hf.1 10 3 (by decide) (by decide)).trans (zsg hS zs_10_3)) rfl ?_
                refine w_load (pc' := 58) (v := .int (zn j)) (m := 1) (ykc_75 (e := (2, .iload_n kF3, 0)) rfl) rfl rfl ?_
                refine w_load (pc' := 59) (v := .ref 1) (m := 1) (ykc_75 (e := (2, .aload_n kF1, 0)) rfl) rfl rfl ?_
                refine w_load (pc' := 60) (v := .int (zn j)) (m := 1) (ykc_75 (e := (2, .iload_n kF3, 0)) rfl) rfl rfl ?_
                refine w_cv (as := [.ref 1, .int (zn j)]) (r := [.int (zn j), .ref 21]) (ykc_75 (e := (6, .invokevirtual 49, 0)) rfl) rfl rfl rfl rfl (zc_digit hSp hTp (k := j) (by omega)) (fun v1525 ph1526 hv => ?_)
                obtain ⟨rfl, z9, rfl, e9⟩ := hv
                have d9 := @zDi_c k j t
                have b9 := zdi_d (hd j (by omega))
                obtain rfl : z9 = zn (t j - 48) := zn_of (by omega)
                show zW n D 75 Q 63 [some (.ref 10), some (.ref 1), some (.int (zn k)), some (.int (zn j))] [.int (zn (t j - 48)), .int (zn j), .ref 21] p
                refine w_ias (pc' := 64) (k := j) (ykc_75 (e := (5, .iastore, 0)) rfl) (by omega) rfl (fun ph1528 u1527 => ?_)
                have e1529 : (zn j) + Int32.ofInt 1 = zn (j + 1) := (zaddN (a := j) (b := 1) (znt (by omega)) c_3 (by omega))
                have te1529 := znt (k := j + 1) (by omega)
                refine w_store (pc' := 67) (L' := [some (.ref 10), some (.ref 1), some (.int (zn k)), some (.int (zn (j + 1)))]) (st' := []) (m := 3) (ykc_75 (e := (3, .iinc 3 1, 0)) rfl) (by rw [← e1529]; rfl) rfl ?_
                refine w_gb (ykc_75 (e := (4, .goto (-25), 42)) rfl) (fun k1530 hk1530 => ?_)
                exact ih k1530 hk1530 (j + 1) _ (by omega) (zFr_add hf u1527 (Or.inl (by simp))) (fun i hi => by
                  by_cases e : i = j
                  · subst e; exact u1527.1
                  · exact (u1527.2.1 21 i (fun q => e q.2)).trans (hg i (by omega)))
          exact hl2 n 0 _ (Nat.zero_le _) zFr_refl (fun i hi => absurd hi (Nat.not_lt_zero i))
          
        · refine w_load (pc' := 19) (v := .int (zn k)) (m := 1) (ykc_75 (e := (2, .iload_n kF3, 0)) rfl) rfl rfl ?_
          refine w_push (pc' := 21) (v := .int ((Int8.ofInt 20).toInt32)) (m := 2) (ykc_75 (e := (1, .bipush 20, 0)) rfl) rfl rfl ?_
          refine w_ieq (ykc_75 (e := (4, .if_icmp .eq 11, 32)) rfl) rfl (fun b1531 => ?_) (fun b1531 => ?_)
          · refine w_load (pc' := 33) (v := .int (zn k)) (m := 1) (ykc_75 (e := (2, .iload_n kF3, 0)) rfl) rfl rfl ?_
            refine w_ret (v := (some (.int (zn k)))) (ykc_75 (e := (7, .ireturn, 0)) rfl) (zr_v rfl) ?_
            rw [hQ]
            exact ⟨k, ⟨hk, hk20, hd, fun h h2 => zdi_f (by omega)⟩, Or.inr ⟨Or.inr (by omega), rfl, rfl⟩⟩
          · refine w_load (pc' := 25) (v := .ref 1) (m := 1) (ykc_75 (e := (2, .aload_n kF1, 0)) rfl) rfl rfl ?_
            refine w_load (pc' := 26) (v := .int (zn k)) (m := 1) (ykc_75 (e := (2, .iload_n kF3, 0)) rfl) rfl rfl ?_
            refine w_cv (as := [.ref 1, .int (zn k)]) (r := []) (ykc_75 (e := (6, .invokevirtual 49, 0)) rfl) rfl rfl rfl rfl (zc_digit hS hT0 (k := k) (by omega)) (fun v1532 ph1533 hv => ?_)
            obtain ⟨rfl, z9, rfl, e9⟩ := hv
            have d9 := @zDi_c ln k t
            have b9 := @zDi_b ln k t
            show zW n D 75 Q 29 [some (.ref 10), some (.ref 1), some (.int (zn ln)), some (.int (zn k))] [.int z9] ph
            refine w_zge (ykc_75 (e := (4, .ifCond .ge 5, 34)) rfl) rfl (fun b1534 => ?_) (fun b1534 => ?_)
            · have e1535 : (zn k) + Int32.ofInt 1 = zn (k + 1) := (zaddN (a := k) (b := 1) (znt (by omega)) c_3 (by omega))
              have te1535 := znt (k := k + 1) (by omega)
              refine w_store (pc' := 37) (L' := [some (.ref 10), some (.ref 1), some (.int (zn ln)), some (.int (zn (k + 1)))]) (st' := []) (m := 3) (ykc_75 (e := (3, .iinc 3 1, 0)) rfl) (by rw [← e1535]; rfl) rfl ?_
              refine w_gb (ykc_75 (e := (4, .goto (-24), 13)) rfl) (fun k1536 hk1536 => ?_)
              exact ih k1536 hk1536 (k + 1) (by omega) (by omega) (fun i hi => by
                by_cases e : i = k
                · subst e; exact zdi_t (by omega)
                · exact hd i (by omega))
            · refine w_load (pc' := 33) (v := .int (zn k)) (m := 1) (ykc_75 (e := (2, .iload_n kF3, 0)) rfl) rfl rfl ?_
              refine w_ret (v := (some (.int (zn k)))) (ykc_75 (e := (7, .ireturn, 0)) rfl) (zr_v rfl) ?_
              rw [hQ]
              exact ⟨k, ⟨hk, hk20, hd, fun h h2 => zdi_f (by omega)⟩, Or.inr ⟨Or.inr (by omega), rfl, rfl⟩⟩
    exact hl1 n 0 (Nat.zero_le _) (by decide) (fun i hi => absurd hi (Nat.not_lt_zero i))
    
  · refine w_alu (pc' := 10) (st' := [.int (Int32.ofInt 0)]) (ykc_75 (e := (0, .iconst 0, 0)) rfl) rfl rfl ?_
    refine w_ret (v := (some (.int (Int32.ofInt 0)))) (ykc_75 (e := (7, .ireturn, 0)) rfl) (zr_v rfl) ?_
    rw [hQ]
    exact ⟨0, ⟨by omega, by decide, fun i hi => absurd hi (Nat.not_lt_zero i), fun h => absurd h (by omega)⟩, Or.inr ⟨Or.inl (by omega), rfl, rfl⟩⟩
theorem zc_lightR {ph : pm_H} {ln : Nat} {t : Nat → Nat} (hS : zSh ph) (hT : zTc ph ln t) : zM 127 [.ref 0] ph (fun v0 q => zFr [21] [(10, 4), (1, 1)] ph q ∧ zc q 1 1 = some (.int (zn 0)) ∧ ∃ (k : Nat) (y : Int32), zLm ln t k ∧ v0 = some (.int y) ∧ ((0 < ln ∧ k = ln ∧ y.toInt = (ln : Int) ∧ zc q 10 4 = some (.int (zn ln)) ∧ ∀ i, i < ln → zc q 21 i = some (.int (zn (t i - 48)))) ∨ ((ln = 0 ∨ k < ln) ∧ y.toInt = -1 - (k : Int) ∧ zc q 10 4 = zc ph 10 4 ∧ ∀ i, zc q 21 i = zc ph 21 i))) := by
  obtain ⟨Q, hQ⟩ : ∃ Q : Option Value → pm_H → Prop, Q = (fun v0 q => zFr [21] [(10, 4), (1, 1)] ph q ∧ zc q 1 1 = some (.int (zn 0)) ∧ ∃ (k : Nat) (y : Int32), zLm ln t k ∧ v0 = some (.int y) ∧ ((0 < ln ∧ k = ln ∧ y.toInt = (ln : Int) ∧ zc q 10 4 = some (.int (zn ln)) ∧ ∀ i, i < ln → zc q 21 i = some (.int (zn (t i - 48)))) ∨ ((ln = 0 ∨ k < ln) ∧ y.toInt = -1 - (k : Int) ∧ zc q 10 4 = zc ph 10 4 ∧ ∀ i, zc q 21 i = zc ph 21 i))) := ⟨_, rfl⟩
  rw [← hQ]
  refine zM_mk fun n D => ?_
  show zW n D 127 Q 0 [some (.ref 0), none, none] [] ph
  have c_0 : (Int32.ofInt (-1)).toInt = -1 := by decide
  have hT0 := hT
  obtain ⟨gn, hn80, gt⟩ := hT
  have tn := znt (k := ln) (by omega)
  refine w_load (pc' := 1) (v := .ref 0) (m := 1) (ykc_127 (e := (2, .aload_n kF0, 0)) rfl) rfl rfl ?_
  refine w_gf (pc' := 4) (v := .ref 1) (ykc_127 (e := (5, .getfield 10, 0)) rfl) rfl (zsg hS zs_0_0) rfl ?_
  refine w_cv (as := [.ref 1]) (r := []) (ykc_127 (e := (6, .invokevirtual 108, 0)) rfl) rfl rfl rfl rfl (zc_tsize hT0.1) (fun v1537 ph1538 hv => ?_)
  obtain ⟨rfl, rfl⟩ := hv
  show zW n D 127 Q 7 [some (.ref 0), none, none] [.int (zn ln)] ph
  refine w_store (pc' := 8) (L' := [some (.ref 0), some (.int (zn ln)), none]) (st' := []) (m := 1) (ykc_127 (e := (3, .istore_n kF1, 0)) rfl) rfl rfl ?_
  refine w_load (pc' := 9) (v := .ref 0) (m := 1) (ykc_127 (e := (2, .aload_n kF0, 0)) rfl) rfl rfl ?_
  refine w_gf (pc' := 12) (v := .ref 10) (ykc_127 (e := (5, .getfield 35, 0)) rfl) rfl (zsg hS zs_0_3) rfl ?_
  refine w_load (pc' := 13) (v := .ref 0) (m := 1) (ykc_127 (e := (2, .aload_n kF0, 0)) rfl) rfl rfl ?_
  refine w_gf (pc' := 16) (v := .ref 1) (ykc_127 (e := (5, .getfield 10, 0)) rfl) rfl (zsg hS zs_0_0) rfl ?_
  refine w_cv (as := [.ref 10, .ref 1]) (r := []) (ykc_127 (e := (6, .invokevirtual 154, 0)) rfl) rfl rfl rfl rfl (zc_rlight hS hT0) (fun v1539 ph1540 hv => ?_)
  rcases hv with ⟨k, hk, ⟨g0, g1, rfl, f1, g4, g5⟩ | ⟨g0, rfl, rfl⟩⟩
  · have tm1 : (Int32.ofInt (-1)).toInt = -1 := by decide
    show zW n D 127 Q 19 [some (.ref 0), some (.int (zn ln)), none] [.int (Int32.ofInt (-1))] ph1540
    refine w_store (pc' := 20) (L' := [some (.ref 0), some (.int (zn ln)), some (.int (Int32.ofInt (-1)))]) (st' := []) (m := 1) (ykc_127 (e := (3, .istore_n kF2, 0)) rfl) rfl rfl ?_
    refine w_load (pc' := 21) (v := .ref 0) (m := 1) (ykc_127 (e := (2, .aload_n kF0, 0)) rfl) rfl rfl ?_
    refine w_gf (pc' := 24) (v := .ref 1) (ykc_127 (e := (5, .getfield 10, 0)) rfl) rfl ((f1.1 0 0 (by decide) (by decide)).trans (zsg hS zs_0_0)) rfl ?_
    refine w_cv (as := [.ref 1]) (r := []) (ykc_127 (e := (6, .invokevirtual 119, 0)) rfl) rfl rfl rfl rfl (zc_tclear) (fun v1541 ph1542 hv => ?_)
    obtain ⟨rfl, f2, h11⟩ := hv
    show zW n D 127 Q 27 [some (.ref 0), some (.int (zn ln)), some (.int (Int32.ofInt (-1)))] [] ph1542
    refine w_load (pc' := 28) (v := .int (Int32.ofInt (-1))) (m := 1) (ykc_127 (e := (2, .iload_n kF2, 0)) rfl) rfl rfl ?_
    refine w_zlt (ykc_127 (e := (4, .ifCond .lt 9, 37)) rfl) rfl (fun b1543 => ?_) (fun q => by exfalso; omega)
    refine w_load (pc' := 38) (v := .int (zn ln)) (m := 1) (ykc_127 (e := (2, .iload_n kF1, 0)) rfl) rfl rfl ?_
    refine w_ret (v := (some (.int (zn ln)))) (ykc_127 (e := (7, .ireturn, 0)) rfl) (zr_v rfl) ?_
    rw [hQ]
    exact ⟨(show zFr [21] [(10, 4), (1, 1)] ph ph1542 from (zFr_trans (zFr_mono f1 (by simp) (by simp)) (zFr_mono f2 (by simp) (by simp)))), h11, k, _, hk, rfl, Or.inl ⟨g0, g1, znt (by omega), (f2.1 10 4 (by decide) (by decide)).trans g4, fun i hi => (f2.1 21 i (by simp) (by simp)).trans (g5 i hi)⟩⟩
  · have hk80 : k ≤ 80 := Nat.le_trans hk.1 hn80
    have tk := znt (k := k) (by omega)
    show zW n D 127 Q 19 [some (.ref 0), some (.int (zn ln)), none] [.int (zn k)] ph
    refine w_store (pc' := 20) (L' := [some (.ref 0), some (.int (zn ln)), some (.int (zn k))]) (st' := []) (m := 1) (ykc_127 (e := (3, .istore_n kF2, 0)) rfl) rfl rfl ?_
    refine w_load (pc' := 21) (v := .ref 0) (m := 1) (ykc_127 (e := (2, .aload_n kF0, 0)) rfl) rfl rfl ?_
    refine w_gf (pc' := 24) (v := .ref 1) (ykc_127 (e := (5, .getfield 10, 0)) rfl) rfl (zsg hS zs_0_0) rfl ?_
    refine w_cv (as := [.ref 1]) (r := []) (ykc_127 (e := (6, .invokevirtual 119, 0)) rfl) rfl rfl rfl rfl (zc_tclear) (fun v1544 ph1545 hv => ?_)
    obtain ⟨rfl, f2, h11⟩ := hv
    show zW n D 127 Q 27 [some (.ref 0), some (.int (zn ln)), some (.int (zn k))] [] ph1545
    refine w_load (pc' := 28) (v := .int (zn k)) (m := 1) (ykc_127 (e := (2, .iload_n kF2, 0)) rfl) rfl rfl ?_
    refine w_zlt (ykc_127 (e := (4, .ifCond .lt 9, 37)) rfl) rfl (fun q => by exfalso; omega) (fun b1546 => ?_)
    refine w_alu (pc' := 32) (st' := [.int (Int32.ofInt (-1))]) (ykc_127 (e := (0, .iconst (-1), 0)) rfl) rfl rfl ?_
    refine w_load (pc' := 33) (v := .int (zn k)) (m := 1) (ykc_127 (e := (2, .iload_n kF2, 0)) rfl) rfl rfl ?_
    obtain ⟨z1547, e_z1547, h_z1547⟩ : ∃ zq : Int32, (Int32.ofInt (-1)) - (zn k) = zq ∧ zq.toInt = (-1 : Int) - ((k : Nat) : Int) := ⟨_, rfl, zm1sub (by omega) (by omega) (by omega)⟩
    refine w_alu (pc' := 34) (st' := [.int z1547]) (ykc_127 (e := (0, .isub, 0)) rfl) (by rw [← e_z1547]; rfl) rfl ?_
    refine w_br (pc' := 38) (st' := [.int z1547]) (ykc_127 (e := (4, .goto 4, 38)) rfl) rfl ?_
    refine w_ret (v := (some (.int z1547))) (ykc_127 (e := (7, .ireturn, 0)) rfl) (zr_v rfl) ?_
    rw [hQ]
    exact ⟨(show zFr [21] [(10, 4), (1, 1)] ph ph1545 from (zFr_mono f2 (by simp) (by simp))), h11, k, _, hk, rfl, Or.inr ⟨g0, by omega, f2.1 10 4 (by decide) (by decide), fun i => f2.1 21 i (by simp) (by simp)⟩⟩
  
theorem zm_lightR {ph : pm_H} {ln : Nat} {t : Nat → Nat} (hS : zSh ph) (hn : zc ph 170 14 = some (.int (zn ln))) (hn80 : ln ≤ 80) (gt : ∀ i, i < ln → zc ph 176 i = some (.int (zn (t i))) ∧ t i < 256) : zM 210 [.ref 170] ph (fun v0 q => zFr [173, 178] [(170, 0), (170, 8), (170, 14), (170, 15), (170, 16), (170, 17)] ph q ∧ zc q 170 0 = some (.int (zn 0)) ∧ zc q 170 14 = some (.int (zn 0)) ∧ ∃ (k : Nat) (y : Int32), zLm ln t k ∧ v0 = some (.int y) ∧ ((0 < ln ∧ k = ln ∧ y.toInt = (ln : Int) ∧ zc q 170 8 = some (.int (zn ln)) ∧ ∀ i, i < ln → zc q 173 i = some (.int (zn (t i - 48)))) ∨ ((ln = 0 ∨ k < ln) ∧ y.toInt = -1 - (k : Int) ∧ zc q 170 8 = zc ph 170 8 ∧ ∀ i, zc q 173 i = zc ph 173 i))) := by
  obtain ⟨Q, hQ⟩ : ∃ Q : Option Value → pm_H → Prop, Q = (fun v0 q => zFr [173, 178] [(170, 0), (170, 8), (170, 14), (170, 15), (170, 16), (170, 17)] ph q ∧ zc q 170 0 = some (.int (zn 0)) ∧ zc q 170 14 = some (.int (zn 0)) ∧ ∃ (k : Nat) (y : Int32), zLm ln t k ∧ v0 = some (.int y) ∧ ((0 < ln ∧ k = ln ∧ y.toInt = (ln : Int) ∧ zc q 170 8 = some (.int (zn ln)) ∧ ∀ i, i < ln → zc q 173 i = some (.int (zn (t i - 48)))) ∨ ((ln = 0 ∨ k < ln) ∧ y.toInt = -1 - (k : Int) ∧ zc q 170 8 = zc ph 170 8 ∧ ∀ i, zc q 173 i = zc ph 173 i))) := ⟨_, rfl⟩
  rw [← hQ]
  refine zM_mk fun n D => ?_
  show zW n D 210 Q 0 [some (.ref 170), none, none] [] ph
  have c_0 : ((Int8.ofInt 20).toInt32).toInt = 20 := by decide
  have c_1 : ((Int8.ofInt 80).toInt32).toInt = 80 := by decide
  have c_2 : (Int32.ofInt (-1)).toInt = -1 := by decide
  have c_3 : (Int32.ofInt 0).toInt = 0 := by decide
  have c_4 : (Int32.ofInt 1).toInt = 1 := by decide
  have tn := znt (k := ln) (by omega)
  refine w_load (pc' := 1) (v := .ref 170) (m := 1) (ykc_210 (e := (2, .aload_n kF0, 0)) rfl) rfl rfl ?_
  refine w_alu (pc' := 2) (st' := [.int (Int32.ofInt 0), .ref 170]) (ykc_210 (e := (0, .iconst 0, 0)) rfl) rfl rfl ?_
  refine w_pf (pc' := 5) (ykc_210 (e := (5, .putfield 3, 0)) rfl) rfl rfl (fun ph1549 u1548 => ?_)
  refine w_load (pc' := 6) (v := .ref 170) (m := 1) (ykc_210 (e := (2, .aload_n kF0, 0)) rfl) rfl rfl ?_
  refine w_push (pc' := 8) (v := .int ((Int8.ofInt 80).toInt32)) (m := 2) (ykc_210 (e := (1, .bipush 80, 0)) rfl) rfl rfl ?_
  have f0 : zFr [] [(170, 0)] ph _ := zFr_st u1548 (Or.inr (by simp))
  refine w_cv (as := [.ref 170, .int ((Int8.ofInt 80).toInt32)]) (r := []) (ykc_210 (e := (6, .invokevirtual 175, 0)) rfl) rfl rfl rfl rfl (zm_begins (c := 80) (zSh_F f0 (by decide +kernel) hS) ((f0.1 170 14 (by decide) (by decide)).trans hn) hn80 (fun i hi => ⟨(f0.1 176 i (by simp) (by simp)).trans (gt i hi).1, (gt i hi).2⟩) (by decide) (by decide)) (fun v1550 ph1551 hv => ?_)
  obtain ⟨rfl, f1, h14, hT⟩ := hv
  show zW n D 210 Q 11 [some (.ref 170), none, none] [.int (zn ln)] ph1551
  refine w_alu (pc' := 12) (st' := []) (ykc_210 (e := (0, .pop, 0)) rfl) rfl rfl ?_
  refine w_alu (pc' := 13) (st' := [.int (Int32.ofInt 0)]) (ykc_210 (e := (0, .iconst 0, 0)) rfl) rfl rfl ?_
  refine w_store (pc' := 14) (L' := [some (.ref 170), some (.int (Int32.ofInt 0)), none]) (st' := []) (m := 1) (ykc_210 (e := (3, .istore_n kF1, 0)) rfl) rfl rfl ?_
  rw [Nat.min_eq_left hn80] at hT
  have hf1 : zFr [178] [(170, 15)] ph1551 ph1551 := zFr_refl
  have h00 := (f1.1 170 0 (by decide) (by decide)).trans u1548.1
  have hl1 : ∀ (n : Nat), ∀ (k : Nat) (p : pm_H), (k ≤ 20) → (zFr [178] [(170, 15)] ph1551 p) → (zTm p k ln ln t) → (∀ i, i < k → zdi (t i) = true) → (∀ i, i < k → zc p 178 i = some (.int (zn (t i - 48)))) → zW n D 210 Q 14 [some (.ref 170), some (.int (zn k)), none] [] p := by
    intro n
    induction n using Nat.strongRecOn with
    | ind n ih =>
      intro k p hk20 hf hTp hd hg
      have hk := hTp.2.2.1
      have tk := znt (k := k) (by omega)
      have F0 : zFr [178] [(170, 0), (170, 14), (170, 15), (170, 16), (170, 17)] ph p := zFr_trans (zFr_mono f0 (by simp) (by simp)) (zFr_trans (zFr_mono f1 (by simp) (by simp)) (zFr_mono hf (by simp) (by simp)))
      have hSp := zSh_F F0 (by decide +kernel) hS
      refine w_load (pc' := 15) (v := .int (zn k)) (m := 1) (ykc_210 (e := (2, .iload_n kF1, 0)) rfl) rfl rfl ?_
      refine w_push (pc' := 17) (v := .int ((Int8.ofInt 20).toInt32)) (m := 2) (ykc_210 (e := (1, .bipush 20, 0)) rfl) rfl rfl ?_
      refine w_ige (ykc_210 (e := (4, .if_icmp .ge 27, 44)) rfl) rfl (fun b1552 => ?_) (fun b1552 => ?_)
      · have hk9 : zLm ln t k := ⟨hk, hk20, hd, fun h h2 => absurd h2 (by omega)⟩
        refine w_load (pc' := 45) (v := .int (zn k)) (m := 1) (ykc_210 (e := (2, .iload_n kF1, 0)) rfl) rfl rfl ?_
        refine w_zeq (ykc_210 (e := (4, .ifCond .eq 14, 59)) rfl) rfl (fun b1553 => ?_) (fun b1553 => ?_)
        · refine w_alu (pc' := 60) (st' := [.int (Int32.ofInt (-1))]) (ykc_210 (e := (0, .iconst (-1), 0)) rfl) rfl rfl ?_
          refine w_load (pc' := 61) (v := .ref 170) (m := 1) (ykc_210 (e := (2, .aload_n kF0, 0)) rfl) rfl rfl ?_
          refine w_gf (pc' := 64) (v := .int (zn k)) (ykc_210 (e := (5, .getfield 139, 0)) rfl) rfl hTp.1 rfl ?_
          obtain ⟨z1554, e_z1554, h_z1554⟩ : ∃ zq : Int32, (Int32.ofInt (-1)) - (zn k) = zq ∧ zq.toInt = (-1 : Int) - ((k : Nat) : Int) := ⟨_, rfl, zm1sub (by omega) (by omega) (by omega)⟩
          refine w_alu (pc' := 65) (st' := [.int z1554]) (ykc_210 (e := (0, .isub, 0)) rfl) (by rw [← e_z1554]; rfl) rfl ?_
          refine w_ret (v := (some (.int z1554))) (ykc_210 (e := (7, .ireturn, 0)) rfl) (zr_v rfl) ?_
          rw [hQ]
          exact ⟨(show zFr [173, 178] [(170, 0), (170, 8), (170, 14), (170, 15), (170, 16), (170, 17)] ph p from (zFr_trans (zFr_trans (zFr_st u1548 (Or.inr (by simp))) (zFr_mono f1 (by simp) (by simp))) (zFr_mono hf (by simp) (by simp)))), (hf.1 170 0 (by decide) (by decide)).trans h00, (hf.1 170 14 (by decide) (by decide)).trans h14, k, _, hk9, rfl, Or.inr ⟨by omega, by omega, F0.1 170 8 (by decide) (by decide), fun i => F0.1 173 i (by simp) (by simp)⟩⟩
        · refine w_load (pc' := 49) (v := .ref 170) (m := 1) (ykc_210 (e := (2, .aload_n kF0, 0)) rfl) rfl rfl ?_
          refine w_gf (pc' := 52) (v := .int (zn k)) (ykc_210 (e := (5, .getfield 139, 0)) rfl) rfl hTp.1 rfl ?_
          refine w_load (pc' := 53) (v := .ref 170) (m := 1) (ykc_210 (e := (2, .aload_n kF0, 0)) rfl) rfl rfl ?_
          refine w_gf (pc' := 56) (v := .int (zn ln)) (ykc_210 (e := (5, .getfield 151, 0)) rfl) rfl hTp.2.1 rfl ?_
          refine w_ige (ykc_210 (e := (4, .if_icmp .ge 10, 66)) rfl) rfl (fun b1555 => ?_) (fun b1555 => ?_)
          · refine w_load (pc' := 67) (v := .ref 170) (m := 1) (ykc_210 (e := (2, .aload_n kF0, 0)) rfl) rfl rfl ?_
            refine w_load (pc' := 68) (v := .int (zn k)) (m := 1) (ykc_210 (e := (2, .iload_n kF1, 0)) rfl) rfl rfl ?_
            refine w_pf (pc' := 71) (ykc_210 (e := (5, .putfield 30, 0)) rfl) rfl rfl (fun ph1557 u1556 => ?_)
            refine w_alu (pc' := 72) (st' := [.int (Int32.ofInt 0)]) (ykc_210 (e := (0, .iconst 0, 0)) rfl) rfl rfl ?_
            refine w_store (pc' := 73) (L' := [some (.ref 170), some (.int (zn k)), some (.int (Int32.ofInt 0))]) (st' := []) (m := 1) (ykc_210 (e := (3, .istore_n kF2, 0)) rfl) rfl rfl ?_
            have hl2 : ∀ (n : Nat), ∀ (j : Nat) (p2 : pm_H), (j ≤ k) → (zFr [173] [] ph1557 p2) → (∀ i, i < j → zc p2 173 i = some (.int (zn (t i - 48)))) → zW n D 210 Q 73 [some (.ref 170), some (.int (zn k)), some (.int (zn j))] [] p2 := by
              intro n
              induction n using Nat.strongRecOn with
              | ind n ih =>
                intro j p2 hj hf2 hg2
                have tj := znt (k := j) (by omega)
                have F2 : zFr [173, 178] [(170, 0), (170, 8), (170, 14), (170, 15), (170, 16), (170, 17)] ph p2 := zFr_trans (zFr_mono F0 (by simp) (by simp)) (zFr_trans (zFr_st u1556 (Or.inr (by simp))) (zFr_mono hf2 (by simp) (by simp)))
                have hg3 : j < k → zc p2 178 j = some (.int (zn (t j - 48))) := fun h => (hf2.1 178 j (by simp) (by simp)).trans ((u1556.2.1 178 j (fun q => absurd q.1 (by decide))).trans (hg j h))
                refine w_load (pc' := 74) (v := .int (zn j)) (m := 1) (ykc_210 (e := (2, .iload_n kF2, 0)) rfl) rfl rfl ?_
                refine w_load (pc' := 75) (v := .int (zn k)) (m := 1) (ykc_210 (e := (2, .iload_n kF1, 0)) rfl) rfl rfl ?_
                refine w_ige (ykc_210 (e := (4, .if_icmp .ge 21, 96)) rfl) rfl (fun b1558 => ?_) (fun b1558 => ?_)
                · refine w_load (pc' := 97) (v := .int (zn k)) (m := 1) (ykc_210 (e := (2, .iload_n kF1, 0)) rfl) rfl rfl ?_
                  refine w_ret (v := (some (.int (zn k)))) (ykc_210 (e := (7, .ireturn, 0)) rfl) (zr_v rfl) ?_
                  rw [hQ]
                  have ej : j = k := by omega
                  subst ej
                  have ekl : j = ln := by omega
                  exact ⟨F2, (hf2.1 170 0 (by decide) (by decide)).trans ((u1556.2.1 170 0 (fun q => absurd q.2 (by decide))).trans ((hf.1 170 0 (by decide) (by decide)).trans h00)), (hf2.1 170 14 (by decide) (by decide)).trans ((u1556.2.1 170 14 (fun q => absurd q.2 (by decide))).trans ((hf.1 170 14 (by decide) (by decide)).trans h14)), j, _, hk9, rfl, Or.inl ⟨by omega, ekl, by omega, (hf2.1 170 8 (by decide) (by decide)).trans (by rw [← ekl]; exact u1556.1), fun i hi => hg2 i (by omega)⟩⟩
                · refine w_load (pc' := 79) (v := .ref 170) (m := 1) (ykc_210 (e := (2, .aload_n kF0, 0)) rfl) rfl rfl ?_
                  refine w_gf (pc' := 82) (v := .ref 173) (ykc_210 (e := (5, .getfield 37, 0)) rfl) rfl ((hf2.1 170 10 (by decide) (by decide)).trans ((u1556.2.1 170 10 (fun q => absurd q.2 (by decide))).trans ((hf.1 170 10 (by decide) (by decide)).trans ((f1.1 170 10 (by decide) (by decide)).trans ((u1548.2.1 170 10 (fun q => absurd q.2 (by decide))).trans (zsg hS zs_170_10)))))) rfl ?_
                  refine w_load (pc' := 83) (v := .int (zn j)) (m := 1) (ykc_210 (e := (2, .iload_n kF2, 0)) rfl) rfl rfl ?_
                  refine w_load (pc' := 84) (v := .ref 170) (m := 1) (ykc_210 (e := (2, .aload_n kF0, 0)) rfl) rfl rfl ?_
                  refine w_gf (pc' := 87) (v := .ref 178) (ykc_210 (e := (5, .getfield 53, 0)) rfl) rfl ((hf2.1 170 19 (by decide) (by decide)).trans ((u1556.2.1 170 19 (fun q => absurd q.2 (by decide))).trans ((hf.1 170 19 (by decide) (by decide)).trans ((f1.1 170 19 (by decide) (by decide)).trans ((u1548.2.1 170 19 (fun q => absurd q.2 (by decide))).trans (zsg hS zs_170_19)))))) rfl ?_
                  refine w_load (pc' := 88) (v := .int (zn j)) (m := 1) (ykc_210 (e := (2, .iload_n kF2, 0)) rfl) rfl rfl ?_
                  refine w_ialk (pc' := 89) (k := j) (ykc_210 (e := (5, .iaload, 0)) rfl) (hg3 (by omega)) (by omega) rfl ?_
                  refine w_ias (pc' := 90) (k := j) (ykc_210 (e := (5, .iastore, 0)) rfl) (by omega) rfl (fun ph1560 u1559 => ?_)
                  have e1561 : (zn j) + Int32.ofInt 1 = zn (j + 1) := (zaddN (a := j) (b := 1) (znt (by omega)) c_4 (by omega))
                  have te1561 := znt (k := j + 1) (by omega)
                  refine w_store (pc' := 93) (L' := [some (.ref 170), some (.int (zn k)), some (.int (zn (j + 1)))]) (st' := []) (m := 3) (ykc_210 (e := (3, .iinc 2 1, 0)) rfl) (by rw [← e1561]; rfl) rfl ?_
                  refine w_gb (ykc_210 (e := (4, .goto (-20), 73)) rfl) (fun k1562 hk1562 => ?_)
                  exact ih k1562 hk1562 (j + 1) _ (by omega) (zFr_add hf2 u1559 (Or.inl (by simp))) (fun i hi => by
                    by_cases e : i = j
                    · subst e; exact u1559.1
                    · exact (u1559.2.1 173 i (fun q => e q.2)).trans (hg2 i (by omega)))
            exact hl2 n 0 _ (Nat.zero_le _) zFr_refl (fun i hi => absurd hi (Nat.not_lt_zero i))
            
          · refine w_alu (pc' := 60) (st' := [.int (Int32.ofInt (-1))]) (ykc_210 (e := (0, .iconst (-1), 0)) rfl) rfl rfl ?_
            refine w_load (pc' := 61) (v := .ref 170) (m := 1) (ykc_210 (e := (2, .aload_n kF0, 0)) rfl) rfl rfl ?_
            refine w_gf (pc' := 64) (v := .int (zn k)) (ykc_210 (e := (5, .getfield 139, 0)) rfl) rfl hTp.1 rfl ?_
            obtain ⟨z1563, e_z1563, h_z1563⟩ : ∃ zq : Int32, (Int32.ofInt (-1)) - (zn k) = zq ∧ zq.toInt = (-1 : Int) - ((k : Nat) : Int) := ⟨_, rfl, zm1sub (by omega) (by omega) (by omega)⟩
            refine w_alu (pc' := 65) (st' := [.int z1563]) (ykc_210 (e := (0, .isub, 0)) rfl) (by rw [← e_z1563]; rfl) rfl ?_
            refine w_ret (v := (some (.int z1563))) (ykc_210 (e := (7, .ireturn, 0)) rfl) (zr_v rfl) ?_
            rw [hQ]
            exact ⟨(show zFr [173, 178] [(170, 0), (170, 8), (170, 14), (170, 15), (170, 16), (170, 17)] ph p from (zFr_trans (zFr_trans (zFr_st u1548 (Or.inr (by simp))) (zFr_mono f1 (by simp) (by simp))) (zFr_mono hf (by simp) (by simp)))), (hf.1 170 0 (by decide) (by decide)).trans h00, (hf.1 170 14 (by decide) (by decide)).trans h14, k, _, hk9, rfl, Or.inr ⟨by omega, by omega, F0.1 170 8 (by decide) (by decide), fun i => F0.1 173 i (by simp) (by simp)⟩⟩
      · refine w_load (pc' := 21) (v := .ref 170) (m := 1) (ykc_210 (e := (2, .aload_n kF0, 0)) rfl) rfl rfl ?_
        refine w_cv (as := [.ref 170]) (r := []) (ykc_210 (e := (6, .invokevirtual 171, 0)) rfl) rfl rfl rfl rfl (zm_isDigit hSp hTp) (fun v1564 ph1565 hv => ?_)
        obtain ⟨rfl, rfl⟩ := hv
        show zW n D 210 Q 24 [some (.ref 170), some (.int (zn k)), none] [.int (zI (decide (k < ln ∧ 48 ≤ t k ∧ t k ≤ 57)))] p
        refine w_beq (ykc_210 (e := (4, .ifCond .eq 20, 44)) rfl) rfl (fun b1566 => ?_) (fun b1566 => ?_)
        · have hk9 : zLm ln t k := ⟨hk, hk20, hd, fun h h2 => zdi_f (fun q => absurd (⟨h, q⟩ : k < ln ∧ 48 ≤ t k ∧ t k ≤ 57) (of_decide_eq_false b1566))⟩
          refine w_load (pc' := 45) (v := .int (zn k)) (m := 1) (ykc_210 (e := (2, .iload_n kF1, 0)) rfl) rfl rfl ?_
          refine w_zeq (ykc_210 (e := (4, .ifCond .eq 14, 59)) rfl) rfl (fun b1567 => ?_) (fun b1567 => ?_)
          · refine w_alu (pc' := 60) (st' := [.int (Int32.ofInt (-1))]) (ykc_210 (e := (0, .iconst (-1), 0)) rfl) rfl rfl ?_
            refine w_load (pc' := 61) (v := .ref 170) (m := 1) (ykc_210 (e := (2, .aload_n kF0, 0)) rfl) rfl rfl ?_
            refine w_gf (pc' := 64) (v := .int (zn k)) (ykc_210 (e := (5, .getfield 139, 0)) rfl) rfl hTp.1 rfl ?_
            obtain ⟨z1568, e_z1568, h_z1568⟩ : ∃ zq : Int32, (Int32.ofInt (-1)) - (zn k) = zq ∧ zq.toInt = (-1 : Int) - ((k : Nat) : Int) := ⟨_, rfl, zm1sub (by omega) (by omega) (by omega)⟩
            refine w_alu (pc' := 65) (st' := [.int z1568]) (ykc_210 (e := (0, .isub, 0)) rfl) (by rw [← e_z1568]; rfl) rfl ?_
            refine w_ret (v := (some (.int z1568))) (ykc_210 (e := (7, .ireturn, 0)) rfl) (zr_v rfl) ?_
            rw [hQ]
            exact ⟨(show zFr [173, 178] [(170, 0), (170, 8), (170, 14), (170, 15), (170, 16), (170, 17)] ph p from (zFr_trans (zFr_trans (zFr_st u1548 (Or.inr (by simp))) (zFr_mono f1 (by simp) (by simp))) (zFr_mono hf (by simp) (by simp)))), (hf.1 170 0 (by decide) (by decide)).trans h00, (hf.1 170 14 (by decide) (by decide)).trans h14, k, _, hk9, rfl, Or.inr ⟨by omega, by omega, F0.1 170 8 (by decide) (by decide), fun i => F0.1 173 i (by simp) (by simp)⟩⟩
          · refine w_load (pc' := 49) (v := .ref 170) (m := 1) (ykc_210 (e := (2, .aload_n kF0, 0)) rfl) rfl rfl ?_
            refine w_gf (pc' := 52) (v := .int (zn k)) (ykc_210 (e := (5, .getfield 139, 0)) rfl) rfl hTp.1 rfl ?_
            refine w_load (pc' := 53) (v := .ref 170) (m := 1) (ykc_210 (e := (2, .aload_n kF0, 0)) rfl) rfl rfl ?_
            refine w_gf (pc' := 56) (v := .int (zn ln)) (ykc_210 (e := (5, .getfield 151, 0)) rfl) rfl hTp.2.1 rfl ?_
            refine w_ige (ykc_210 (e := (4, .if_icmp .ge 10, 66)) rfl) rfl (fun b1569 => ?_) (fun b1569 => ?_)
            · refine w_load (pc' := 67) (v := .ref 170) (m := 1) (ykc_210 (e := (2, .aload_n kF0, 0)) rfl) rfl rfl ?_
              refine w_load (pc' := 68) (v := .int (zn k)) (m := 1) (ykc_210 (e := (2, .iload_n kF1, 0)) rfl) rfl rfl ?_
              refine w_pf (pc' := 71) (ykc_210 (e := (5, .putfield 30, 0)) rfl) rfl rfl (fun ph1571 u1570 => ?_)
              refine w_alu (pc' := 72) (st' := [.int (Int32.ofInt 0)]) (ykc_210 (e := (0, .iconst 0, 0)) rfl) rfl rfl ?_
              refine w_store (pc' := 73) (L' := [some (.ref 170), some (.int (zn k)), some (.int (Int32.ofInt 0))]) (st' := []) (m := 1) (ykc_210 (e := (3, .istore_n kF2, 0)) rfl) rfl rfl ?_
              have hl2 : ∀ (n : Nat), ∀ (j : Nat) (p2 : pm_H), (j ≤ k) → (zFr [173] [] ph1571 p2) → (∀ i, i < j → zc p2 173 i = some (.int (zn (t i - 48)))) → zW n D 210 Q 73 [some (.ref 170), some (.int (zn k)), some (.int (zn j))] [] p2 := by
                intro n
                induction n using Nat.strongRecOn with
                | ind n ih =>
                  intro j p2 hj hf2 hg2
                  have tj := znt (k := j) (by omega)
                  have F2 : zFr [173, 178] [(170, 0), (170, 8), (170, 14), (170, 15), (170, 16), (170, 17)] ph p2 := zFr_trans (zFr_mono F0 (by simp) (by simp)) (zFr_trans (zFr_st u1570 (Or.inr (by simp))) (zFr_mono hf2 (by simp) (by simp)))
                  have hg3 : j < k → zc p2 178 j = some (.int (zn (t j - 48))) := fun h => (hf2.1 178 j (by simp) (by simp)).trans ((u1570.2.1 178 j (fun q => absurd q.1 (by decide))).trans (hg j h))
                  refine w_load (pc' := 74) (v := .int (zn j)) (m := 1) (ykc_210 (e := (2, .iload_n kF2, 0)) rfl) rfl rfl ?_
                  refine w_load (pc' := 75) (v := .int (zn k)) (m := 1) (ykc_210 (e := (2, .iload_n kF1, 0)) rfl) rfl rfl ?_
                  refine w_ige (ykc_210 (e := (4, .if_icmp .ge 21, 96)) rfl) rfl (fun b1572 => ?_) (fun b1572 => ?_)
                  · refine w_load (pc' := 97) (v := .int (zn k)) (m := 1) (ykc_210 (e := (2, .iload_n kF1, 0)) rfl) rfl rfl ?_
                    refine w_ret (v := (some (.int (zn k)))) (ykc_210 (e := (7, .ireturn, 0)) rfl) (zr_v rfl) ?_
                    rw [hQ]
                    have ej : j = k := by omega
                    subst ej
                    have ekl : j = ln := by omega
                    exact ⟨F2, (hf2.1 170 0 (by decide) (by decide)).trans ((u1570.2.1 170 0 (fun q => absurd q.2 (by decide))).trans ((hf.1 170 0 (by decide) (by decide)).trans h00)), (hf2.1 170 14 (by decide) (by decide)).trans ((u1570.2.1 170 14 (fun q => absurd q.2 (by decide))).trans ((hf.1 170 14 (by decide) (by decide)).trans h14)), j, _, hk9, rfl, Or.inl ⟨by omega, ekl, by omega, (hf2.1 170 8 (by decide) (by decide)).trans (by rw [← ekl]; exact u1570.1), fun i hi => hg2 i (by omega)⟩⟩
                  · refine w_load (pc' := 79) (v := .ref 170) (m := 1) (ykc_210 (e := (2, .aload_n kF0, 0)) rfl) rfl rfl ?_
                    refine w_gf (pc' := 82) (v := .ref 173) (ykc_210 (e := (5, .getfield 37, 0)) rfl) rfl ((hf2.1 170 10 (by decide) (by decide)).trans ((u1570.2.1 170 10 (fun q => absurd q.2 (by decide))).trans ((hf.1 170 10 (by decide) (by decide)).trans ((f1.1 170 10 (by decide) (by decide)).trans ((u1548.2.1 170 10 (fun q => absurd q.2 (by decide))).trans (zsg hS zs_170_10)))))) rfl ?_
                    refine w_load (pc' := 83) (v := .int (zn j)) (m := 1) (ykc_210 (e := (2, .iload_n kF2, 0)) rfl) rfl rfl ?_
                    refine w_load (pc' := 84) (v := .ref 170) (m := 1) (ykc_210 (e := (2, .aload_n kF0, 0)) rfl) rfl rfl ?_
                    refine w_gf (pc' := 87) (v := .ref 178) (ykc_210 (e := (5, .getfield 53, 0)) rfl) rfl ((hf2.1 170 19 (by decide) (by decide)).trans ((u1570.2.1 170 19 (fun q => absurd q.2 (by decide))).trans ((hf.1 170 19 (by decide) (by decide)).trans ((f1.1 170 19 (by decide) (by decide)).trans ((u1548.2.1 170 19 (fun q => absurd q.2 (by decide))).trans (zsg hS zs_170_19)))))) rfl ?_
                    refine w_load (pc' := 88) (v := .int (zn j)) (m := 1) (ykc_210 (e := (2, .iload_n kF2, 0)) rfl) rfl rfl ?_
                    refine w_ialk (pc' := 89) (k := j) (ykc_210 (e := (5, .iaload, 0)) rfl) (hg3 (by omega)) (by omega) rfl ?_
                    refine w_ias (pc' := 90) (k := j) (ykc_210 (e := (5, .iastore, 0)) rfl) (by omega) rfl (fun ph1574 u1573 => ?_)
                    have e1575 : (zn j) + Int32.ofInt 1 = zn (j + 1) := (zaddN (a := j) (b := 1) (znt (by omega)) c_4 (by omega))
                    have te1575 := znt (k := j + 1) (by omega)
                    refine w_store (pc' := 93) (L' := [some (.ref 170), some (.int (zn k)), some (.int (zn (j + 1)))]) (st' := []) (m := 3) (ykc_210 (e := (3, .iinc 2 1, 0)) rfl) (by rw [← e1575]; rfl) rfl ?_
                    refine w_gb (ykc_210 (e := (4, .goto (-20), 73)) rfl) (fun k1576 hk1576 => ?_)
                    exact ih k1576 hk1576 (j + 1) _ (by omega) (zFr_add hf2 u1573 (Or.inl (by simp))) (fun i hi => by
                      by_cases e : i = j
                      · subst e; exact u1573.1
                      · exact (u1573.2.1 173 i (fun q => e q.2)).trans (hg2 i (by omega)))
              exact hl2 n 0 _ (Nat.zero_le _) zFr_refl (fun i hi => absurd hi (Nat.not_lt_zero i))
              
            · refine w_alu (pc' := 60) (st' := [.int (Int32.ofInt (-1))]) (ykc_210 (e := (0, .iconst (-1), 0)) rfl) rfl rfl ?_
              refine w_load (pc' := 61) (v := .ref 170) (m := 1) (ykc_210 (e := (2, .aload_n kF0, 0)) rfl) rfl rfl ?_
              refine w_gf (pc' := 64) (v := .int (zn k)) (ykc_210 (e := (5, .getfield 139, 0)) rfl) rfl hTp.1 rfl ?_
              obtain ⟨z1577, e_z1577, h_z1577⟩ : ∃ zq : Int32, (Int32.ofInt (-1)) - (zn k) = zq ∧ zq.toInt = (-1 : Int) - ((k : Nat) : Int) := ⟨_, rfl, zm1sub (by omega) (by omega) (by omega)⟩
              refine w_alu (pc' := 65) (st' := [.int z1577]) (ykc_210 (e := (0, .isub, 0)) rfl) (by rw [← e_z1577]; rfl) rfl ?_
              refine w_ret (v := (some (.int z1577))) (ykc_210 (e := (7, .ireturn, 0)) rfl) (zr_v rfl) ?_
              rw [hQ]
              exact ⟨(show zFr [173, 178] [(170, 0), (170, 8), (170, 14), (170, 15), (170, 16), (170, 17)] ph p from (zFr_trans (zFr_trans (zFr_st u1548 (Or.inr (by simp))) (zFr_mono f1 (by simp) (by simp))) (zFr_mono hf (by simp) (by simp)))), (hf.1 170 0 (by decide) (by decide)).trans h00, (hf.1 170 14 (by decide) (by decide)).trans h14, k, _, hk9, rfl, Or.inr ⟨by omega, by omega, F0.1 170 8 (by decide) (by decide), fun i => F0.1 173 i (by simp) (by simp)⟩⟩
        · refine w_load (pc' := 28) (v := .ref 170) (m := 1) (ykc_210 (e := (2, .aload_n kF0, 0)) rfl) rfl rfl ?_
          refine w_gf (pc' := 31) (v := .ref 178) (ykc_210 (e := (5, .getfield 53, 0)) rfl) rfl ((hf.1 170 19 (by decide) (by decide)).trans ((f1.1 170 19 (by decide) (by decide)).trans ((u1548.2.1 170 19 (fun q => absurd q.2 (by decide))).trans (zsg hS zs_170_19)))) rfl ?_
          refine w_load (pc' := 32) (v := .int (zn k)) (m := 1) (ykc_210 (e := (2, .iload_n kF1, 0)) rfl) rfl rfl ?_
          refine w_load (pc' := 33) (v := .ref 170) (m := 1) (ykc_210 (e := (2, .aload_n kF0, 0)) rfl) rfl rfl ?_
          refine w_alu (pc' := 34) (st' := [.int (Int32.ofInt 1), .ref 170, .int (zn k), .ref 178]) (ykc_210 (e := (0, .iconst 1, 0)) rfl) rfl rfl ?_
          have hdd := of_decide_eq_true b1566
          refine w_cv (as := [.ref 170, .int (Int32.ofInt 1)]) (r := [.int (zn k), .ref 178]) (ykc_210 (e := (6, .invokevirtual 224, 0)) rfl) rfl rfl rfl rfl (zm_num1 hSp hTp) (fun v1578 ph1579 hv => ?_)
          rcases hv with ⟨f2, ⟨-, rfl, hT2⟩ | ⟨hnd, -, -⟩⟩
          · show zW n D 210 Q 37 [some (.ref 170), some (.int (zn k)), none] [.int (zn (t k - 48)), .int (zn k), .ref 178] ph1579
            refine w_ias (pc' := 38) (k := k) (ykc_210 (e := (5, .iastore, 0)) rfl) (by omega) rfl (fun ph1581 u1580 => ?_)
            have e1582 : (zn k) + Int32.ofInt 1 = zn (k + 1) := (zaddN (a := k) (b := 1) (znt (by omega)) c_4 (by omega))
            have te1582 := znt (k := k + 1) (by omega)
            refine w_store (pc' := 41) (L' := [some (.ref 170), some (.int (zn (k + 1))), none]) (st' := []) (m := 3) (ykc_210 (e := (3, .iinc 1 1, 0)) rfl) (by rw [← e1582]; rfl) rfl ?_
            refine w_gb (ykc_210 (e := (4, .goto (-27), 14)) rfl) (fun k1583 hk1583 => ?_)
            exact ih k1583 hk1583 (k + 1) _ (by omega) (zFr_add (zFr_trans hf (zFr_mono f2 (by simp) (by simp))) u1580 (Or.inl (by simp))) (zTm_F (zFr_st u1580 (Or.inl (by simp)) : zFr [178] [] _ _) (by simp) (by simp) (by simp) hT2) (fun i hi => by
              by_cases e : i = k
              · subst e; exact zdi_t (by omega)
              · exact hd i (by omega)) (fun i hi => by
              by_cases e : i = k
              · subst e; exact u1580.1
              · exact (u1580.2.1 178 i (fun q => e q.2)).trans ((f2.1 178 i (by simp) (by simp)).trans (hg i (by omega))))
          · exact absurd hdd hnd
          
  exact hl1 n 0 _ (by decide) zFr_refl hT (fun i hi => absurd hi (Nat.not_lt_zero i)) (fun i hi => absurd hi (Nat.not_lt_zero i))
  

/-! a DAY's text: the class's Plan and the reference's acts, by W; printed by wip/z/z1l_plan.py -/
/-- an act's kind by its letter, or 5; how many digits it wants, 0 for no letter -/
def zdk (c : Nat) : Nat := if c = 110 then 0 else if c = 102 then 1 else if c = 103 then 2 else if c = 98 then 3 else if c = 112 then 4 else 5
def zdw (c : Nat) : Nat := if c = 110 then 1 else if c = 102 then 2 else if c = 103 then 2 else if c = 98 then 2 else if c = 112 then 3 else 0
theorem zdw_3 {c : Nat} : zdw c ≤ 3 := by
  unfold zdw
  (repeat' split) <;> omega
theorem zdw_k : ∀ k, k < 5 → zdw (zls [110, 102, 103, 98, 112] k) = (if k = 0 then 1 else if k = 4 then 3 else 2) ∧ zdk (zls [110, 102, 103, 98, 112] k) = k := by decide
theorem zdw_n {c : Nat} (h : ∀ k, k < 5 → c ≠ zls [110, 102, 103, 98, 112] k) : zdw c = 0 := by
  have h0 : c ≠ 110 := h 0 (by decide)
  have h1 : c ≠ 102 := h 1 (by decide)
  have h2 : c ≠ 103 := h 2 (by decide)
  have h3 : c ≠ 98 := h 3 (by decide)
  have h4 : c ≠ 112 := h 4 (by decide)
  unfold zdw
  rw [if_neg h0, if_neg h1, if_neg h2, if_neg h3, if_neg h4]
/-- where act i begins -/
def zDp (t : Nat → Nat) : Nat → Nat
  | 0 => 0
  | i + 1 => zDp t i + 1 + zdw (t (zDp t i))
/-- act i is whole below b -/
def zDg (b : Nat) (t : Nat → Nat) (i : Nat) : Prop := 0 < zdw (t (zDp t i)) ∧ zDp t i + zdw (t (zDp t i)) < b ∧ ∀ j, j < zdw (t (zDp t i)) → zdi (t (zDp t i + 1 + j)) = true
def zDok (b : Nat) (t : Nat → Nat) (k : Nat) : Prop := ∀ i, i < k → zDg b t i
/-- what stands at s is no whole act below b: the fault is at a -/
def zDb (b : Nat) (t : Nat → Nat) (s a : Nat) : Prop := s < b ∧ ((a = s ∧ zdw (t s) = 0) ∨ ∃ h, h < zdw (t s) ∧ a = s + 1 + h ∧ a ≤ b ∧ (∀ j, j < h → zdi (t (s + 1 + j)) = true) ∧ (a < b → zdi (t a) = false))
/-- k whole acts, then the end (well) or a fault at a -/
def zDo (b : Nat) (t : Nat → Nat) (ok : Bool) (a k : Nat) : Prop := zDok b t k ∧ ((ok = true ∧ a = b ∧ zDp t k = b) ∨ (ok = false ∧ zDb b t (zDp t k) a))
/-- the class, i signs on: c acts begun, w digits wanted, h had -/
def zDI (b : Nat) (t : Nat → Nat) (c w h i : Nat) : Prop := (c = 0 ∧ w = 0 ∧ h = 0 ∧ i = 0) ∨ ∃ k, c = k + 1 ∧ zDok b t k ∧ w = zdw (t (zDp t k)) ∧ 0 < w ∧ h ≤ w ∧ i = zDp t k + 1 + h ∧ ∀ j, j < h → zdi (t (zDp t k + 1 + j)) = true
section ZDY
variable {b : Nat} {t : Nat → Nat}
theorem zDp_ge {k : Nat} (h : zDok b t k) : 2 * k ≤ zDp t k := by
  induction k with
  | zero => exact Nat.zero_le _
  | succ k ih =>
    have h1 := ih (fun i hi => h i (by omega))
    have h2 := (h k (by omega)).1
    show 2 * (k + 1) ≤ zDp t k + 1 + zdw (t (zDp t k))
    omega
theorem zDp_mono {i k : Nat} (h : i < k) : zDp t i + 1 + zdw (t (zDp t i)) ≤ zDp t k := by
  induction k with
  | zero => omega
  | succ k ih =>
    show _ ≤ zDp t k + 1 + zdw (t (zDp t k))
    by_cases e : i = k
    · subst e; omega
    · have := ih (by omega)
      omega
theorem zDok_s {k : Nat} (h : zDok b t k) (hg : zDg b t k) : zDok b t (k + 1) := fun i hi => by
  by_cases e : i = k
  · subst e; exact hg
  · exact h i (by omega)
theorem zDI_w {c w h i : Nat} (hI : zDI b t c w h i) : w ≤ 3 ∧ h ≤ w ∧ (h < w → 0 < c) := by
  rcases hI with ⟨h1, h2, h3, h4⟩ | ⟨k, h1, h2, h3, h4, h5, h6, h7⟩
  · omega
  · have := @zdw_3 (t (zDp t k))
    omega
/-- the act is whole -/
theorem zDI_f {c w h i : Nat} (hI : zDI b t c w h i) (hh : ¬ h < w) (hib : i ≤ b) : zDok b t c ∧ zDp t c = i := by
  rcases hI with ⟨h1, h2, h3, h4⟩ | ⟨k, h1, h2, h3, h4, h5, h6, h7⟩
  · subst h1 h4
    exact ⟨fun i hi => absurd hi (Nat.not_lt_zero i), rfl⟩
  · subst h1
    have e : h = zdw (t (zDp t k)) := by omega
    refine ⟨zDok_s h2 ⟨by omega, by omega, fun j hj => h7 j (by omega)⟩, ?_⟩
    show zDp t k + 1 + zdw (t (zDp t k)) = i
    omega
theorem zDI_c {c w h i : Nat} (hI : zDI b t c w h i) (hh : ¬ h < w) (hib : i ≤ b) : 2 * c ≤ i := by
  obtain ⟨h1, h2⟩ := zDI_f hI hh hib
  have := zDp_ge h1
  omega
theorem zDI_k {c w h i : Nat} (hI : zDI b t c w h i) (hh : ¬ h < w) (hib : i < b) (hw : 0 < zdw (t i)) : zDI b t (c + 1) (zdw (t i)) 0 (i + 1) := by
  obtain ⟨h1, h2⟩ := zDI_f hI hh (Nat.le_of_lt hib)
  exact Or.inr ⟨c, rfl, h1, by rw [h2], hw, Nat.zero_le _, by omega, fun j hj => absurd hj (Nat.not_lt_zero j)⟩
theorem zDI_d {c w h i : Nat} (hI : zDI b t c w h i) (hh : h < w) (hd : zdi (t i) = true) : zDI b t c w (h + 1) (i + 1) := by
  rcases hI with ⟨h1, h2, h3, h4⟩ | ⟨k, h1, h2, h3, h4, h5, h6, h7⟩
  · omega
  · refine Or.inr ⟨k, h1, h2, h3, h4, hh, by omega, fun j hj => ?_⟩
    by_cases e : j = h
    · subst e; rw [← h6]; exact hd
    · exact h7 j (by omega)
/-- the ends -/
theorem zDI_xk {c w h i : Nat} (hI : zDI b t c w h i) (hh : ¬ h < w) (hib : i < b) (hw : zdw (t i) = 0) : zDo b t false i c := by
  obtain ⟨h1, h2⟩ := zDI_f hI hh (Nat.le_of_lt hib)
  exact ⟨h1, Or.inr ⟨rfl, by omega, Or.inl ⟨h2.symm, by rw [h2]; exact hw⟩⟩⟩
theorem zDI_xd {c w h i : Nat} (hI : zDI b t c w h i) (hh : h < w) (hib : i ≤ b) (hd : i < b → zdi (t i) = false) : ∃ k, c = k + 1 ∧ zDo b t false i k := by
  rcases hI with ⟨h1, h2, h3, h4⟩ | ⟨k, h1, h2, h3, h4, h5, h6, h7⟩
  · omega
  · exact ⟨k, h1, h2, Or.inr ⟨rfl, by omega, Or.inr ⟨h, by omega, h6, hib, h7, hd⟩⟩⟩
theorem zDI_e {c w h : Nat} (hI : zDI b t c w h b) (hh : ¬ h < w) : zDo b t true b c := by
  obtain ⟨h1, h2⟩ := zDI_f hI hh (Nat.le_refl _)
  exact ⟨h1, Or.inl ⟨rfl, rfl, h2⟩⟩
theorem zDb_g {k a : Nat} (h : zDb b t (zDp t k) a) : ¬ zDg b t k := fun hg => by
  obtain ⟨g1, g2, g3⟩ := hg
  obtain ⟨h0, ⟨h1, h2⟩ | ⟨e, h1, h2, h3, h4, h5⟩⟩ := h
  · omega
  · have h6 := g3 e h1
    rw [← h2, h5 (by omega)] at h6
    cases h6
theorem zDb_u {s a a' : Nat} (h : zDb b t s a) (h' : zDb b t s a') : a = a' := by
  obtain ⟨-, ⟨h1, h2⟩ | ⟨e, h1, h2, h3, h4, h5⟩⟩ := h
  · obtain ⟨-, ⟨k1, k2⟩ | ⟨e', k1, k2, k3, k4, k5⟩⟩ := h' <;> omega
  · obtain ⟨-, ⟨k1, k2⟩ | ⟨e', k1, k2, k3, k4, k5⟩⟩ := h'
    · omega
    · rcases Nat.lt_trichotomy e e' with q | q | q
      · have := k4 e q
        rw [← h2, h5 (by omega)] at this
        cases this
      · omega
      · have := h4 e' q
        rw [← k2, k5 (by omega)] at this
        cases this
theorem zDo_k {ok : Bool} {a k k' : Nat} (h : zDo b t ok a k) (h' : zDok b t k') : k' ≤ k := by
  by_cases q : k < k'
  · exfalso
    have hg := h' k q
    rcases h.2 with ⟨-, -, h3⟩ | ⟨-, h2⟩
    · have := hg.2.1
      omega
    · exact zDb_g h2 hg
  · omega
/-- one outcome alone -/
theorem zDo_u {ok ok' : Bool} {a a' k k' : Nat} (h : zDo b t ok a k) (h' : zDo b t ok' a' k') : ok = ok' ∧ a = a' ∧ k = k' := by
  have e : k = k' := Nat.le_antisymm (zDo_k h' h.1) (zDo_k h h'.1)
  subst e
  rcases h.2 with ⟨h1, h2, h3⟩ | ⟨h1, h2⟩ <;> rcases h'.2 with ⟨k1, k2, k3⟩ | ⟨k1, k2⟩
  · exact ⟨h1.trans k1.symm, h2.trans k2.symm, rfl⟩
  · have := k2.1
    omega
  · have := h2.1
    omega
  · exact ⟨h1.trans k1.symm, zDb_u h2 k2, rfl⟩
theorem zDo_a {ok : Bool} {a k : Nat} (h : zDo b t ok a k) : a ≤ b := by
  rcases h.2 with ⟨-, h2, -⟩ | ⟨-, h0, ⟨h1, -⟩ | ⟨e, -, -, h3, -⟩⟩ <;> omega
end ZDY
def zdT (w : Nat) : Nat := if w = 1 then 76 else if w = 2 then 78 else if w = 3 then 80 else 82
theorem zbr66 : (List.range 256).all (fun c => match pm_br (.tableswitch 81 98 112 #[77, 81, 81, 81, 77, 77, 81, 81, 81, 81, 81, 81, 75, 81, 79]) 75 1 [.int (zn c)] with
  | some (t, []) => Nat.beq t (zdT (zdw c))
  | _ => false) = true := by decide +kernel
theorem zbr66c {c k : Nat} (h : c < 256) (hk : zdw c = k) : pm_br (.tableswitch 81 98 112 #[77, 81, 81, 81, 77, 77, 81, 81, 81, 81, 81, 81, 75, 81, 79]) 75 1 [.int (zn c)] = some (zdT k, []) := by
  have h1 := List.all_eq_true.mp zbr66 c (List.mem_range.mpr h)
  generalize pm_br (.tableswitch 81 98 112 #[77, 81, 81, 81, 77, 77, 81, 81, 81, 81, 81, 81, 75, 81, 79]) 75 1 [.int (zn c)] = x at h1
  rw [hk] at h1
  match x, h1 with
  | some (t, []), h1 => rw [Nat.eq_of_beq_eq_true h1]
/-- what the class's Plan holds: c letters, digits, h of the last act's -/
def zDd (ph : pm_H) (t : Nat → Nat) (c h : Nat) : Prop := (∀ i, i < c → zc ph 158 i = some (.int (zn (t (zDp t i))))) ∧ ∀ i j, i < c → j < zdw (t (zDp t i)) → (i + 1 < c ∨ j < h) → zc ph 159 (3 * i + j) = some (.int (zn (t (zDp t i + 1 + j) - 48)))
theorem zDd_F {A : List Nat} {L : List (Nat × Nat)} {p q : pm_H} {t : Nat → Nat} {c h : Nat} (f : zFr A L p q) (h1 : 158 ∉ A ∧ 159 ∉ A) (h2 : (∀ i, (158, i) ∉ L) ∧ ∀ i, (159, i) ∉ L) (g : zDd p t c h) : zDd q t c h := ⟨fun i hi => (f.1 _ _ h1.1 (h2.1 i)).trans (g.1 i hi), fun i j a1 a2 a3 => (f.1 _ _ h1.2 (h2.2 _)).trans (g.2 i j a1 a2 a3)⟩
theorem zc_digitsOf {c : Nat} {ph : pm_H} (hc : c < 256) : zM 66 [.int (zn c)] ph (fun v0 q => ph = q ∧ v0 = some (.int (zn (zdw c)))) := by
  obtain ⟨Q, hQ⟩ : ∃ Q : Option Value → pm_H → Prop, Q = (fun v0 q => ph = q ∧ v0 = some (.int (zn (zdw c)))) := ⟨_, rfl⟩
  rw [← hQ]
  refine zM_mk fun n D => ?_
  show zW n D 66 Q 0 [some (.int (zn c))] [] ph
  have c_0 : (Int32.ofInt 0).toInt = 0 := by decide
  have c_1 : (Int32.ofInt 1).toInt = 1 := by decide
  have c_2 : (Int32.ofInt 2).toInt = 2 := by decide
  have c_3 : (Int32.ofInt 3).toInt = 3 := by decide
  have h4 := @zdw_3 c
  refine w_load (pc' := 1) (v := .int (zn c)) (m := 1) (ykc_66 (e := (2, .iload_n kF0, 0)) rfl) rfl rfl ?_
  rcases (show zdw c = 0 ∨ zdw c = 1 ∨ zdw c = 2 ∨ zdw c = 3 by omega) with e | e | e | e
  · refine w_br (pc' := 82) (st' := []) (ykc_66 (e := (4, .tableswitch 81 98 112 #[77, 81, 81, 81, 77, 77, 81, 81, 81, 81, 81, 81, 75, 81, 79], 75)) rfl) (zbr66c hc e) ?_
    refine w_alu (pc' := 83) (st' := [.int (Int32.ofInt 0)]) (ykc_66 (e := (0, .iconst 0, 0)) rfl) rfl rfl ?_
    refine w_ret (v := (some (.int (Int32.ofInt 0)))) (ykc_66 (e := (7, .ireturn, 0)) rfl) (zr_v rfl) ?_
    rw [hQ, e]
    exact ⟨rfl, rfl⟩
  · refine w_br (pc' := 76) (st' := []) (ykc_66 (e := (4, .tableswitch 81 98 112 #[77, 81, 81, 81, 77, 77, 81, 81, 81, 81, 81, 81, 75, 81, 79], 75)) rfl) (zbr66c hc e) ?_
    refine w_alu (pc' := 77) (st' := [.int (Int32.ofInt 1)]) (ykc_66 (e := (0, .iconst 1, 0)) rfl) rfl rfl ?_
    refine w_ret (v := (some (.int (Int32.ofInt 1)))) (ykc_66 (e := (7, .ireturn, 0)) rfl) (zr_v rfl) ?_
    rw [hQ, e]
    exact ⟨rfl, rfl⟩
  · refine w_br (pc' := 78) (st' := []) (ykc_66 (e := (4, .tableswitch 81 98 112 #[77, 81, 81, 81, 77, 77, 81, 81, 81, 81, 81, 81, 75, 81, 79], 75)) rfl) (zbr66c hc e) ?_
    refine w_alu (pc' := 79) (st' := [.int (Int32.ofInt 2)]) (ykc_66 (e := (0, .iconst 2, 0)) rfl) rfl rfl ?_
    refine w_ret (v := (some (.int (Int32.ofInt 2)))) (ykc_66 (e := (7, .ireturn, 0)) rfl) (zr_v rfl) ?_
    rw [hQ, e]
    exact ⟨rfl, rfl⟩
  · refine w_br (pc' := 80) (st' := []) (ykc_66 (e := (4, .tableswitch 81 98 112 #[77, 81, 81, 81, 77, 77, 81, 81, 81, 81, 81, 81, 75, 81, 79], 75)) rfl) (zbr66c hc e) ?_
    refine w_alu (pc' := 81) (st' := [.int (Int32.ofInt 3)]) (ykc_66 (e := (0, .iconst 3, 0)) rfl) rfl rfl ?_
    refine w_ret (v := (some (.int (Int32.ofInt 3)))) (ykc_66 (e := (7, .ireturn, 0)) rfl) (zr_v rfl) ?_
    rw [hQ, e]
    exact ⟨rfl, rfl⟩
theorem zc_takeKind {ph : pm_H} {c : Nat} {x : Int32} (hS : zSh ph) (hc : zc ph 157 2 = some (.int (zn c))) (h30 : c < 30) : zM 67 [.ref 157, .int x] ph (fun v0 q => v0 = some (.int (zI true)) ∧ zFr [158] [(157, 2)] ph q ∧ zc q 157 2 = some (.int (zn (c + 1))) ∧ zc q 158 c = some (.int x) ∧ ∀ i, i ≠ c → zc q 158 i = zc ph 158 i) := by
  obtain ⟨Q, hQ⟩ : ∃ Q : Option Value → pm_H → Prop, Q = (fun v0 q => v0 = some (.int (zI true)) ∧ zFr [158] [(157, 2)] ph q ∧ zc q 157 2 = some (.int (zn (c + 1))) ∧ zc q 158 c = some (.int x) ∧ ∀ i, i ≠ c → zc q 158 i = zc ph 158 i) := ⟨_, rfl⟩
  rw [← hQ]
  refine zM_mk fun n D => ?_
  show zW n D 67 Q 0 [some (.ref 157), some (.int x)] [] ph
  have c_0 : ((Int8.ofInt 30).toInt32).toInt = 30 := by decide
  have c_1 : (Int32.ofInt 0).toInt = 0 := by decide
  have c_2 : (Int32.ofInt 1).toInt = 1 := by decide
  have tc := znt (k := c) (by omega)
  refine w_load (pc' := 1) (v := .ref 157) (m := 1) (ykc_67 (e := (2, .aload_n kF0, 0)) rfl) rfl rfl ?_
  refine w_gf (pc' := 4) (v := .int (zn c)) (ykc_67 (e := (5, .getfield 18, 0)) rfl) rfl hc rfl ?_
  refine w_zlt (ykc_67 (e := (4, .ifCond .lt 12, 16)) rfl) rfl (fun q => by exfalso; omega) (fun b1517 => ?_)
  refine w_load (pc' := 8) (v := .ref 157) (m := 1) (ykc_67 (e := (2, .aload_n kF0, 0)) rfl) rfl rfl ?_
  refine w_gf (pc' := 11) (v := .int (zn c)) (ykc_67 (e := (5, .getfield 18, 0)) rfl) rfl hc rfl ?_
  refine w_push (pc' := 13) (v := .int ((Int8.ofInt 30).toInt32)) (m := 2) (ykc_67 (e := (1, .bipush 30, 0)) rfl) rfl rfl ?_
  refine w_ilt (ykc_67 (e := (4, .if_icmp .lt 5, 18)) rfl) rfl (fun b1518 => ?_) (fun q => by exfalso; omega)
  refine w_load (pc' := 19) (v := .ref 157) (m := 1) (ykc_67 (e := (2, .aload_n kF0, 0)) rfl) rfl rfl ?_
  refine w_gf (pc' := 22) (v := .ref 158) (ykc_67 (e := (5, .getfield 11, 0)) rfl) rfl (zsg hS zs_157_0) rfl ?_
  refine w_load (pc' := 23) (v := .ref 157) (m := 1) (ykc_67 (e := (2, .aload_n kF0, 0)) rfl) rfl rfl ?_
  refine w_gf (pc' := 26) (v := .int (zn c)) (ykc_67 (e := (5, .getfield 18, 0)) rfl) rfl hc rfl ?_
  refine w_load (pc' := 27) (v := .int x) (m := 1) (ykc_67 (e := (2, .iload_n kF1, 0)) rfl) rfl rfl ?_
  refine w_ias (pc' := 28) (k := c) (ykc_67 (e := (5, .iastore, 0)) rfl) (by omega) rfl (fun ph1520 u1519 => ?_)
  refine w_load (pc' := 29) (v := .ref 157) (m := 1) (ykc_67 (e := (2, .aload_n kF0, 0)) rfl) rfl rfl ?_
  refine w_alu (pc' := 30) (st' := [.ref 157, .ref 157]) (ykc_67 (e := (0, .dup, 0)) rfl) rfl rfl ?_
  refine w_gf (pc' := 33) (v := .int (zn c)) (ykc_67 (e := (5, .getfield 18, 0)) rfl) rfl ((u1519.2.1 157 2 (fun q => absurd q.1 (by decide))).trans hc) rfl ?_
  refine w_alu (pc' := 34) (st' := [.int (Int32.ofInt 1), .int (zn c), .ref 157]) (ykc_67 (e := (0, .iconst 1, 0)) rfl) rfl rfl ?_
  have e1521 : (zn c) + (Int32.ofInt 1) = zn (c + 1) := (zaddN (a := c) (b := 1) (znt (by omega)) c_2 (by omega)) 
  have te1521 := znt (k := c + 1) (by omega)
  refine w_alu (pc' := 35) (st' := [.int (zn (c + 1)), .ref 157]) (ykc_67 (e := (0, .iadd, 0)) rfl) (by rw [← e1521]; rfl) rfl ?_
  refine w_pf (pc' := 38) (ykc_67 (e := (5, .putfield 18, 0)) rfl) rfl rfl (fun ph1523 u1522 => ?_)
  refine w_alu (pc' := 39) (st' := [.int (Int32.ofInt 1)]) (ykc_67 (e := (0, .iconst 1, 0)) rfl) rfl rfl ?_
  refine w_ret (v := (some (.int (Int32.ofInt 1)))) (ykc_67 (e := (7, .ireturn, 0)) rfl) zr_z ?_
  rw [hQ, zi1]
  exact ⟨rfl, zFr_trans (zFr_st u1519 (Or.inl (by simp))) (zFr_st u1522 (Or.inr (by simp))), u1522.1, (u1522.2.1 158 c (fun q => absurd q.1 (by decide))).trans u1519.1, fun i hi => (u1522.2.1 158 i (fun q => absurd q.1 (by decide))).trans (u1519.2.1 158 i (fun q => hi q.2))⟩
theorem zc_takeDg {ph : pm_H} {k h : Nat} {z : Int32} (hS : zSh ph) (hc : zc ph 157 2 = some (.int (zn (k + 1)))) (h30 : k < 30) (h3 : h < 3) : zM 68 [.ref 157, .int z, .int (zn h)] ph (fun v0 q => (z.toInt < 0 ∧ ph = q ∧ v0 = some (.int (zI false))) ∨ (0 ≤ z.toInt ∧ v0 = some (.int (zI true)) ∧ zst ph q 159 (3 * k + h) (.int z))) := by
  obtain ⟨Q, hQ⟩ : ∃ Q : Option Value → pm_H → Prop, Q = (fun v0 q => (z.toInt < 0 ∧ ph = q ∧ v0 = some (.int (zI false))) ∨ (0 ≤ z.toInt ∧ v0 = some (.int (zI true)) ∧ zst ph q 159 (3 * k + h) (.int z))) := ⟨_, rfl⟩
  rw [← hQ]
  refine zM_mk fun n D => ?_
  show zW n D 68 Q 0 [some (.ref 157), some (.int z), some (.int (zn h)), none] [] ph
  have c_0 : (Int32.ofInt 0).toInt = 0 := by decide
  have c_1 : (Int32.ofInt 1).toInt = 1 := by decide
  have c_2 : (Int32.ofInt 3).toInt = 3 := by decide
  have tc := znt (k := k + 1) (by omega)
  have th := znt (k := h) (by omega)
  refine w_load (pc' := 1) (v := .ref 157) (m := 1) (ykc_68 (e := (2, .aload_n kF0, 0)) rfl) rfl rfl ?_
  refine w_gf (pc' := 4) (v := .int (zn (k + 1))) (ykc_68 (e := (5, .getfield 18, 0)) rfl) rfl hc rfl ?_
  refine w_alu (pc' := 5) (st' := [.int (Int32.ofInt 1), .int (zn (k + 1))]) (ykc_68 (e := (0, .iconst 1, 0)) rfl) rfl rfl ?_
  have e1524 : (zn (k + 1)) - (Int32.ofInt 1) = zn (k) := zsubN (a := k + 1) (b := 1) tc c_1 (by omega)
  have te1524 := znt (k := k) (by omega)
  refine w_alu (pc' := 6) (st' := [.int (zn (k))]) (ykc_68 (e := (0, .isub, 0)) rfl) (by show some ([.int ((zn (k + 1)) - (Int32.ofInt 1))] : List Value) = _; rw [e1524]) rfl ?_
  refine w_alu (pc' := 7) (st' := [.int (Int32.ofInt 3), .int (zn (k))]) (ykc_68 (e := (0, .iconst 3, 0)) rfl) rfl rfl ?_
  have e1525 : (zn (k)) * (Int32.ofInt 3) = zn (3 * k) := zn_of ((zmulN (a := k) (b := 3) (znt (by omega)) (by decide) (by omega) (by decide)).trans (by omega))
  have te1525 := znt (k := 3 * k) (by omega)
  refine w_alu (pc' := 8) (st' := [.int (zn (3 * k))]) (ykc_68 (e := (0, .imul, 0)) rfl) (by rw [← e1525]; rfl) rfl ?_
  refine w_load (pc' := 9) (v := .int (zn h)) (m := 1) (ykc_68 (e := (2, .iload_n kF2, 0)) rfl) rfl rfl ?_
  have e1526 : (zn (3 * k)) + (zn h) = zn (3 * k + h) := zn_of (by have h8 := ti_add (x := (zn (3 * k))) (y := (zn h)) (by omega) (by omega); omega)
  have te1526 := znt (k := 3 * k + h) (by omega)
  refine w_alu (pc' := 10) (st' := [.int (zn (3 * k + h))]) (ykc_68 (e := (0, .iadd, 0)) rfl) (by rw [← e1526]; rfl) rfl ?_
  refine w_store (pc' := 11) (L' := [some (.ref 157), some (.int z), some (.int (zn h)), some (.int (zn (3 * k + h)))]) (st' := []) (m := 1) (ykc_68 (e := (3, .istore_n kF3, 0)) rfl) rfl rfl ?_
  refine w_load (pc' := 12) (v := .int z) (m := 1) (ykc_68 (e := (2, .iload_n kF1, 0)) rfl) rfl rfl ?_
  refine w_zlt (ykc_68 (e := (4, .ifCond .lt 16, 28)) rfl) rfl (fun b1527 => ?_) (fun b1527 => ?_)
  · refine w_alu (pc' := 29) (st' := [.int (Int32.ofInt 0)]) (ykc_68 (e := (0, .iconst 0, 0)) rfl) rfl rfl ?_
    refine w_ret (v := (some (.int (Int32.ofInt 0)))) (ykc_68 (e := (7, .ireturn, 0)) rfl) zr_z ?_
    rw [hQ, zi0]
    exact Or.inl ⟨by omega, rfl, rfl⟩
  · refine w_load (pc' := 16) (v := .int (zn (3 * k + h))) (m := 1) (ykc_68 (e := (2, .iload_n kF3, 0)) rfl) rfl rfl ?_
    refine w_zlt (ykc_68 (e := (4, .ifCond .lt 12, 28)) rfl) rfl (fun q => by exfalso; omega) (fun b1528 => ?_)
    refine w_load (pc' := 20) (v := .int (zn (3 * k + h))) (m := 1) (ykc_68 (e := (2, .iload_n kF3, 0)) rfl) rfl rfl ?_
    refine w_load (pc' := 21) (v := .ref 157) (m := 1) (ykc_68 (e := (2, .aload_n kF0, 0)) rfl) rfl rfl ?_
    refine w_gf (pc' := 24) (v := .ref 159) (ykc_68 (e := (5, .getfield 15, 0)) rfl) rfl (zsg hS zs_157_1) rfl ?_
    have cn1529 : (Int32.ofNat 90).toInt = 90 := by decide
    refine w_aln (ykc_68 (e := (5, .arraylength, 0)) rfl) (zsl hS zl_159) rfl ?_
    refine w_ilt (ykc_68 (e := (4, .if_icmp .lt 5, 30)) rfl) rfl (fun b1530 => ?_) (fun q => by exfalso; omega)
    refine w_load (pc' := 31) (v := .ref 157) (m := 1) (ykc_68 (e := (2, .aload_n kF0, 0)) rfl) rfl rfl ?_
    refine w_gf (pc' := 34) (v := .ref 159) (ykc_68 (e := (5, .getfield 15, 0)) rfl) rfl (zsg hS zs_157_1) rfl ?_
    refine w_load (pc' := 35) (v := .int (zn (3 * k + h))) (m := 1) (ykc_68 (e := (2, .iload_n kF3, 0)) rfl) rfl rfl ?_
    refine w_load (pc' := 36) (v := .int z) (m := 1) (ykc_68 (e := (2, .iload_n kF1, 0)) rfl) rfl rfl ?_
    refine w_ias (pc' := 37) (k := 3 * k + h) (ykc_68 (e := (5, .iastore, 0)) rfl) (by omega) rfl (fun ph1532 u1531 => ?_)
    refine w_alu (pc' := 38) (st' := [.int (Int32.ofInt 1)]) (ykc_68 (e := (0, .iconst 1, 0)) rfl) rfl rfl ?_
    refine w_ret (v := (some (.int (Int32.ofInt 1)))) (ykc_68 (e := (7, .ireturn, 0)) rfl) zr_z ?_
    rw [hQ, zi1]
    exact Or.inr ⟨by omega, rfl, u1531⟩
theorem zc_planRead {ph : pm_H} {ln : Nat} {t : Nat → Nat} (hS : zSh ph) (hT : zTc ph ln t) : zM 65 [.ref 157, .ref 1] ph (fun v0 q => zFr [158, 159] [(157, 2)] ph q ∧ ∃ (ok : Bool) (a k : Nat), zDo (min ln 60) t ok a k ∧ ((ok = true ∧ ln ≤ 60 ∧ v0 = some (.int (Int32.ofInt (-1))) ∧ k ≤ 30 ∧ zc q 157 2 = some (.int (zn k)) ∧ zDd q t k 3) ∨ (¬ (ok = true ∧ ln ≤ 60) ∧ v0 = some (.int (zn a))))) := by
  obtain ⟨Q, hQ⟩ : ∃ Q : Option Value → pm_H → Prop, Q = (fun v0 q => zFr [158, 159] [(157, 2)] ph q ∧ ∃ (ok : Bool) (a k : Nat), zDo (min ln 60) t ok a k ∧ ((ok = true ∧ ln ≤ 60 ∧ v0 = some (.int (Int32.ofInt (-1))) ∧ k ≤ 30 ∧ zc q 157 2 = some (.int (zn k)) ∧ zDd q t k 3) ∨ (¬ (ok = true ∧ ln ≤ 60) ∧ v0 = some (.int (zn a))))) := ⟨_, rfl⟩
  rw [← hQ]
  refine zM_mk fun n D => ?_
  show zW n D 65 Q 0 [some (.ref 157), some (.ref 1), none, none, none, none] [] ph
  have c_0 : ((Int8.ofInt 60).toInt32).toInt = 60 := by decide
  have c_1 : (Int32.ofInt (-1)).toInt = -1 := by decide
  have c_2 : (Int32.ofInt 0).toInt = 0 := by decide
  have c_3 : (Int32.ofInt 1).toInt = 1 := by decide
  have hT0 := hT
  obtain ⟨gn, hn80, gt⟩ := hT
  have tn := znt (k := ln) (by omega)
  refine w_load (pc' := 1) (v := .ref 157) (m := 1) (ykc_65 (e := (2, .aload_n kF0, 0)) rfl) rfl rfl ?_
  refine w_alu (pc' := 2) (st' := [.int (Int32.ofInt 0), .ref 157]) (ykc_65 (e := (0, .iconst 0, 0)) rfl) rfl rfl ?_
  refine w_pf (pc' := 5) (ykc_65 (e := (5, .putfield 18, 0)) rfl) rfl rfl (fun ph1534 u1533 => ?_)
  refine w_alu (pc' := 6) (st' := [.int (Int32.ofInt 0)]) (ykc_65 (e := (0, .iconst 0, 0)) rfl) rfl rfl ?_
  refine w_store (pc' := 7) (L' := [some (.ref 157), some (.ref 1), some (.int (Int32.ofInt 0)), none, none, none]) (st' := []) (m := 1) (ykc_65 (e := (3, .istore_n kF2, 0)) rfl) rfl rfl ?_
  refine w_alu (pc' := 8) (st' := [.int (Int32.ofInt 0)]) (ykc_65 (e := (0, .iconst 0, 0)) rfl) rfl rfl ?_
  refine w_store (pc' := 9) (L' := [some (.ref 157), some (.ref 1), some (.int (Int32.ofInt 0)), some (.int (Int32.ofInt 0)), none, none]) (st' := []) (m := 1) (ykc_65 (e := (3, .istore_n kF3, 0)) rfl) rfl rfl ?_
  refine w_load (pc' := 10) (v := .ref 1) (m := 1) (ykc_65 (e := (2, .aload_n kF1, 0)) rfl) rfl rfl ?_
  have f0 : zFr [] [(157, 2)] ph _ := zFr_st u1533 (Or.inr (by simp))
  have hS1 := zSh_F f0 (by decide +kernel) hS
  have hT1 := zTc_F f0 (by simp) (by simp) (by simp) hT0
  refine w_cv (as := [.ref 1]) (r := []) (ykc_65 (e := (6, .invokevirtual 22, 0)) rfl) rfl rfl rfl rfl (zc_tsize hT1.1) (fun v1535 ph1536 hv => ?_)
  obtain ⟨rfl, rfl⟩ := hv
  show zW n D 65 Q 13 [some (.ref 157), some (.ref 1), some (.int (Int32.ofInt 0)), some (.int (Int32.ofInt 0)), none, none] [.int (zn ln)] ph1534
  refine w_store (pc' := 15) (L' := [some (.ref 157), some (.ref 1), some (.int (Int32.ofInt 0)), some (.int (Int32.ofInt 0)), some (.int (zn ln)), none]) (st' := []) (m := 2) (ykc_65 (e := (3, .istore 4, 0)) rfl) rfl rfl ?_
  refine w_alu (pc' := 16) (st' := [.int (Int32.ofInt 0)]) (ykc_65 (e := (0, .iconst 0, 0)) rfl) rfl rfl ?_
  refine w_store (pc' := 18) (L' := [some (.ref 157), some (.ref 1), some (.int (Int32.ofInt 0)), some (.int (Int32.ofInt 0)), some (.int (zn ln)), some (.int (Int32.ofInt 0))]) (st' := []) (m := 2) (ykc_65 (e := (3, .istore 5, 0)) rfl) rfl rfl ?_
  have hl1 : ∀ (n : Nat), ∀ (c w h i : Nat) (p : pm_H), (i ≤ ln) → (i ≤ 60) → (zDI (min ln 60) t c w h i) → (zFr [158, 159] [(157, 2)] ph1534 p) → (zc p 157 2 = some (.int (zn c))) → (zDd p t c h) → zW n D 65 Q 18 [some (.ref 157), some (.ref 1), some (.int (zn w)), some (.int (zn h)), some (.int (zn ln)), some (.int (zn i))] [] p := by
    intro n
    induction n using Nat.strongRecOn with
    | ind n ih =>
      intro c w h i p hiln hi60 hI hf h2 hd
      have hw := zDI_w hI
      have tw := znt (k := w) (by omega)
      have th := znt (k := h) (by omega)
      have ti := znt (k := i) (by omega)
      have hFp : zFr [158, 159] [(157, 2)] ph p := zFr_trans (zFr_mono f0 (by simp) (by simp)) hf
      have hSp := zSh_F hFp (by decide +kernel) hS
      have hTp := zTc_F hFp (by simp) (by simp) (by simp) hT0
      refine w_load (pc' := 20) (v := .int (zn i)) (m := 2) (ykc_65 (e := (2, .iload 5, 0)) rfl) rfl rfl ?_
      refine w_load (pc' := 22) (v := .int (zn ln)) (m := 2) (ykc_65 (e := (2, .iload 4, 0)) rfl) rfl rfl ?_
      refine w_ige (ykc_65 (e := (4, .if_icmp .ge 79, 101)) rfl) rfl (fun b1537 => ?_) (fun b1537 => ?_)
      · refine w_load (pc' := 102) (v := .int (zn h)) (m := 1) (ykc_65 (e := (2, .iload_n kF3, 0)) rfl) rfl rfl ?_
        refine w_load (pc' := 103) (v := .int (zn w)) (m := 1) (ykc_65 (e := (2, .iload_n kF2, 0)) rfl) rfl rfl ?_
        refine w_ige (ykc_65 (e := (4, .if_icmp .ge 8, 111)) rfl) rfl (fun b1538 => ?_) (fun b1538 => ?_)
        · refine w_alu (pc' := 112) (st' := [.int (Int32.ofInt (-1))]) (ykc_65 (e := (0, .iconst (-1), 0)) rfl) rfl rfl ?_
          refine w_ret (v := (some (.int (Int32.ofInt (-1))))) (ykc_65 (e := (7, .ireturn, 0)) rfl) (zr_v rfl) ?_
          rw [hQ]
          have ei : i = ln := by omega
          have em : min ln 60 = i := by omega
          have hc2 := zDI_c hI (by omega) (by omega)
          have ho : zDo (min ln 60) t true i c := by
            rw [em] at hI ⊢
            exact zDI_e hI (by omega)
          exact ⟨hFp, true, i, c, ho, Or.inl ⟨rfl, by omega, rfl, by omega, h2, hd.1, fun a j a1 a2 a3 => hd.2 a j a1 a2 (by
            by_cases e : a + 1 < c
            · exact Or.inl e
            · refine Or.inr ?_
              rcases hI with ⟨q1, -⟩ | ⟨k2, q1, q2, q3, -⟩
              · omega
              · have e3 : k2 = a := by omega
                rw [e3] at q3
                omega)⟩⟩
        · refine w_load (pc' := 108) (v := .int (zn ln)) (m := 2) (ykc_65 (e := (2, .iload 4, 0)) rfl) rfl rfl ?_
          refine w_br (pc' := 112) (st' := [.int (zn ln)]) (ykc_65 (e := (4, .goto 4, 112)) rfl) rfl ?_
          refine w_ret (v := (some (.int (zn ln)))) (ykc_65 (e := (7, .ireturn, 0)) rfl) (zr_v rfl) ?_
          rw [hQ]
          have ei : i = ln := by omega
          obtain ⟨k2, hk2, ho⟩ := zDI_xd hI (by omega) (by omega) (fun q => absurd q (by omega))
          subst ei
          exact ⟨hFp, false, i, k2, ho, Or.inr ⟨fun q => absurd q.1 (by decide), rfl⟩⟩
      · refine w_load (pc' := 27) (v := .int (zn i)) (m := 2) (ykc_65 (e := (2, .iload 5, 0)) rfl) rfl rfl ?_
        refine w_push (pc' := 29) (v := .int ((Int8.ofInt 60).toInt32)) (m := 2) (ykc_65 (e := (1, .bipush 60, 0)) rfl) rfl rfl ?_
        refine w_ine (ykc_65 (e := (4, .if_icmp .ne 6, 35)) rfl) rfl (fun b1539 => ?_) (fun b1539 => ?_)
        · refine w_load (pc' := 36) (v := .int (zn h)) (m := 1) (ykc_65 (e := (2, .iload_n kF3, 0)) rfl) rfl rfl ?_
          refine w_load (pc' := 37) (v := .int (zn w)) (m := 1) (ykc_65 (e := (2, .iload_n kF2, 0)) rfl) rfl rfl ?_
          refine w_ige (ykc_65 (e := (4, .if_icmp .ge 26, 63)) rfl) rfl (fun b1540 => ?_) (fun b1540 => ?_)
          · refine w_load (pc' := 64) (v := .ref 1) (m := 1) (ykc_65 (e := (2, .aload_n kF1, 0)) rfl) rfl rfl ?_
            refine w_load (pc' := 66) (v := .int (zn i)) (m := 2) (ykc_65 (e := (2, .iload 5, 0)) rfl) rfl rfl ?_
            have hbi : i < min ln 60 := by omega
            have h256 : t i < 256 := (hTp.2.2 i (by omega)).2
            have hc30 : 2 * c ≤ i := zDI_c hI (by omega) (by omega)
            have twi := znt (k := zdw (t i)) (by have := @zdw_3 (t i); omega)
            refine w_cv (as := [.ref 1, .int (zn i)]) (r := []) (ykc_65 (e := (6, .invokevirtual 36, 0)) rfl) rfl rfl rfl rfl (zc_at hSp hTp (k := i) (by omega)) (fun v1541 ph1542 hv => ?_)
            rcases hv with ⟨rfl, z9, rfl, e9⟩
            · have d9 := @zTi_c ln i t
              obtain rfl : z9 = zn (t i) := zn_of (by omega)
              show zW n D 65 Q 69 [some (.ref 157), some (.ref 1), some (.int (zn w)), some (.int (zn h)), some (.int (zn ln)), some (.int (zn i))] [.int (zn (t i))] p
              refine w_cs (as := [.int (zn (t i))]) (r := []) (ykc_65 (e := (6, .invokestatic 39, 0)) rfl) rfl rfl rfl rfl (zc_digitsOf h256) (fun v1543 ph1544 hv => ?_)
              obtain ⟨rfl, rfl⟩ := hv
              show zW n D 65 Q 72 [some (.ref 157), some (.ref 1), some (.int (zn w)), some (.int (zn h)), some (.int (zn ln)), some (.int (zn i))] [.int (zn (zdw (t i)))] p
              refine w_store (pc' := 73) (L' := [some (.ref 157), some (.ref 1), some (.int (zn (zdw (t i)))), some (.int (zn h)), some (.int (zn ln)), some (.int (zn i))]) (st' := []) (m := 1) (ykc_65 (e := (3, .istore_n kF2, 0)) rfl) rfl rfl ?_
              refine w_load (pc' := 74) (v := .int (zn (zdw (t i)))) (m := 1) (ykc_65 (e := (2, .iload_n kF2, 0)) rfl) rfl rfl ?_
              refine w_zeq (ykc_65 (e := (4, .ifCond .eq 16, 90)) rfl) rfl (fun b1545 => ?_) (fun b1545 => ?_)
              · refine w_load (pc' := 92) (v := .int (zn i)) (m := 2) (ykc_65 (e := (2, .iload 5, 0)) rfl) rfl rfl ?_
                refine w_ret (v := (some (.int (zn i)))) (ykc_65 (e := (7, .ireturn, 0)) rfl) (zr_v rfl) ?_
                rw [hQ]
                exact ⟨hFp, false, i, c, zDI_xk hI (by omega) hbi (by omega), Or.inr ⟨fun q => absurd q.1 (by decide), rfl⟩⟩
              · refine w_load (pc' := 78) (v := .ref 157) (m := 1) (ykc_65 (e := (2, .aload_n kF0, 0)) rfl) rfl rfl ?_
                refine w_load (pc' := 79) (v := .ref 1) (m := 1) (ykc_65 (e := (2, .aload_n kF1, 0)) rfl) rfl rfl ?_
                refine w_load (pc' := 81) (v := .int (zn i)) (m := 2) (ykc_65 (e := (2, .iload 5, 0)) rfl) rfl rfl ?_
                refine w_cv (as := [.ref 1, .int (zn i)]) (r := [.ref 157]) (ykc_65 (e := (6, .invokevirtual 36, 0)) rfl) rfl rfl rfl rfl (zc_at hSp hTp (k := i) (by omega)) (fun v1546 ph1547 hv => ?_)
                rcases hv with ⟨rfl, z8, rfl, e8⟩
                · have d9 := @zTi_c ln i t
                  obtain rfl : z8 = zn (t i) := zn_of (by omega)
                  show zW n D 65 Q 84 [some (.ref 157), some (.ref 1), some (.int (zn (zdw (t i)))), some (.int (zn h)), some (.int (zn ln)), some (.int (zn i))] [.int (zn (t i)), .ref 157] p
                  refine w_cv (as := [.ref 157, .int (zn (t i))]) (r := []) (ykc_65 (e := (6, .invokevirtual 42, 0)) rfl) rfl rfl rfl rfl (zc_takeKind (c := c) hSp h2 (by omega)) (fun v1548 ph1549 hv => ?_)
                  obtain ⟨rfl, f7, g1, g2, g3⟩ := hv
                  show zW n D 65 Q 87 [some (.ref 157), some (.ref 1), some (.int (zn (zdw (t i)))), some (.int (zn h)), some (.int (zn ln)), some (.int (zn i))] [.int (zI true)] ph1549
                  refine w_bne (ykc_65 (e := (4, .ifCond .ne 6, 93)) rfl) rfl (fun b1550 => ?_) (fun q => absurd q (by decide))
                  refine w_alu (pc' := 94) (st' := [.int (Int32.ofInt 0)]) (ykc_65 (e := (0, .iconst 0, 0)) rfl) rfl rfl ?_
                  refine w_store (pc' := 95) (L' := [some (.ref 157), some (.ref 1), some (.int (zn (zdw (t i)))), some (.int (Int32.ofInt 0)), some (.int (zn ln)), some (.int (zn i))]) (st' := []) (m := 1) (ykc_65 (e := (3, .istore_n kF3, 0)) rfl) rfl rfl ?_
                  have e1551 : (zn i) + Int32.ofInt 1 = zn (i + 1) := (zaddN (a := i) (b := 1) (znt (by omega)) c_3 (by omega))
                  have te1551 := znt (k := i + 1) (by omega)
                  refine w_store (pc' := 98) (L' := [some (.ref 157), some (.ref 1), some (.int (zn (zdw (t i)))), some (.int (Int32.ofInt 0)), some (.int (zn ln)), some (.int (zn (i + 1)))]) (st' := []) (m := 3) (ykc_65 (e := (3, .iinc 5 1, 0)) rfl) (by rw [← e1551]; rfl) rfl ?_
                  refine w_gb (ykc_65 (e := (4, .goto (-80), 18)) rfl) (fun k1552 hk1552 => ?_)
                  exact ih k1552 hk1552 (c + 1) (zdw (t i)) 0 (i + 1) _ (by omega) (by omega) (zDI_k hI (by omega) hbi (by omega)) (zFr_trans hf (zFr_mono f7 (by simp) (by simp))) g1 ⟨fun a ha => by
                    by_cases e : a = c
                    · subst e; rw [g2, (zDI_f hI (by omega) (by omega)).2]
                    · exact (g3 a e).trans (hd.1 a (by omega)), fun a j a1 a2 a3 => (f7.1 159 _ (by simp) (by simp)).trans (hd.2 a j (by omega) a2 (by
                    by_cases e : a + 1 < c
                    · exact Or.inl e
                    · refine Or.inr ?_
                      rcases hI with ⟨q1, -⟩ | ⟨k2, q1, q2, q3, -⟩
                      · omega
                      · have e3 : k2 = a := by omega
                        rw [e3] at q3
                        omega))⟩
                
            
          · refine w_load (pc' := 41) (v := .ref 157) (m := 1) (ykc_65 (e := (2, .aload_n kF0, 0)) rfl) rfl rfl ?_
            refine w_load (pc' := 42) (v := .ref 1) (m := 1) (ykc_65 (e := (2, .aload_n kF1, 0)) rfl) rfl rfl ?_
            refine w_load (pc' := 44) (v := .int (zn i)) (m := 2) (ykc_65 (e := (2, .iload 5, 0)) rfl) rfl rfl ?_
            obtain ⟨k, hk⟩ : ∃ k, c = k + 1 := ⟨c - 1, by omega⟩
            have hk30 : k < 30 := by
              rcases hI with ⟨g1, -, g3, -⟩ | ⟨k2, g1, g2, g3, g4, g5, g6, -⟩
              · omega
              · have := zDp_ge g2
                omega
            have hbi : i < min ln 60 := by omega
            refine w_cv (as := [.ref 1, .int (zn i)]) (r := [.ref 157]) (ykc_65 (e := (6, .invokevirtual 28, 0)) rfl) rfl rfl rfl rfl (zc_digit hSp hTp (k := i) (by omega)) (fun v1553 ph1554 hv => ?_)
            rcases hv with ⟨rfl, z9, rfl, e9⟩
            · have d9 := @zDi_c ln i t
              have b9 := @zDi_b ln i t
              show zW n D 65 Q 47 [some (.ref 157), some (.ref 1), some (.int (zn w)), some (.int (zn h)), some (.int (zn ln)), some (.int (zn i))] [.int z9, .ref 157] p
              refine w_load (pc' := 48) (v := .int (zn h)) (m := 1) (ykc_65 (e := (2, .iload_n kF3, 0)) rfl) rfl rfl ?_
              refine w_cv (as := [.ref 157, .int z9, .int (zn h)]) (r := []) (ykc_65 (e := (6, .invokevirtual 32, 0)) rfl) rfl rfl rfl rfl (zc_takeDg (z := z9) (k := k) hSp (by rw [← hk]; exact h2) hk30 (by omega)) (fun v1555 ph1556 hv => ?_)
              rcases hv with ⟨hz, rfl, rfl⟩ | ⟨hz, rfl, u9⟩
              · show zW n D 65 Q 51 [some (.ref 157), some (.ref 1), some (.int (zn w)), some (.int (zn h)), some (.int (zn ln)), some (.int (zn i))] [.int (zI false)] p
                refine w_bne (ykc_65 (e := (4, .ifCond .ne 6, 57)) rfl) rfl (fun q => absurd q (by decide)) (fun b1557 => ?_)
                refine w_load (pc' := 56) (v := .int (zn i)) (m := 2) (ykc_65 (e := (2, .iload 5, 0)) rfl) rfl rfl ?_
                refine w_ret (v := (some (.int (zn i)))) (ykc_65 (e := (7, .ireturn, 0)) rfl) (zr_v rfl) ?_
                rw [hQ]
                obtain ⟨k2, hk2, ho⟩ := zDI_xd hI (by omega) (by omega) (fun _ => zdi_f (by omega))
                exact ⟨hFp, false, i, k2, ho, Or.inr ⟨fun q => absurd q.1 (by decide), rfl⟩⟩
              · have hdi : zdi (t i) = true := zdi_t (by omega)
                have ez : z9 = zn (t i - 48) := zn_of (by omega)
                show zW n D 65 Q 51 [some (.ref 157), some (.ref 1), some (.int (zn w)), some (.int (zn h)), some (.int (zn ln)), some (.int (zn i))] [.int (zI true)] ph1556
                refine w_bne (ykc_65 (e := (4, .ifCond .ne 6, 57)) rfl) rfl (fun b1558 => ?_) (fun q => absurd q (by decide))
                have e1559 : (zn h) + Int32.ofInt 1 = zn (h + 1) := (zaddN (a := h) (b := 1) (znt (by omega)) c_3 (by omega))
                have te1559 := znt (k := h + 1) (by omega)
                refine w_store (pc' := 60) (L' := [some (.ref 157), some (.ref 1), some (.int (zn w)), some (.int (zn (h + 1))), some (.int (zn ln)), some (.int (zn i))]) (st' := []) (m := 3) (ykc_65 (e := (3, .iinc 3 1, 0)) rfl) (by rw [← e1559]; rfl) rfl ?_
                refine w_br (pc' := 95) (st' := []) (ykc_65 (e := (4, .goto 35, 95)) rfl) rfl ?_
                have e1560 : (zn i) + Int32.ofInt 1 = zn (i + 1) := (zaddN (a := i) (b := 1) (znt (by omega)) c_3 (by omega))
                have te1560 := znt (k := i + 1) (by omega)
                refine w_store (pc' := 98) (L' := [some (.ref 157), some (.ref 1), some (.int (zn w)), some (.int (zn (h + 1))), some (.int (zn ln)), some (.int (zn (i + 1)))]) (st' := []) (m := 3) (ykc_65 (e := (3, .iinc 5 1, 0)) rfl) (by rw [← e1560]; rfl) rfl ?_
                refine w_gb (ykc_65 (e := (4, .goto (-80), 18)) rfl) (fun k1561 hk1561 => ?_)
                exact ih k1561 hk1561 c w (h + 1) (i + 1) _ (by omega) (by omega) (zDI_d hI (by omega) hdi) (zFr_add hf u9 (Or.inl (by simp))) ((u9.2.1 157 2 (fun q => absurd q.1 (by decide))).trans h2) ⟨fun a ha => (u9.2.1 158 a (fun q => absurd q.1 (by decide))).trans (hd.1 a ha), fun a j a1 a2 a3 => by
                  have hj3 := @zdw_3 (t (zDp t a))
                  by_cases e : a = k ∧ j = h
                  · obtain ⟨e1, e2⟩ := e
                    subst e1 e2
                    rw [u9.1, ez]
                    rcases hI with ⟨g1, -⟩ | ⟨k2, g1, -, -, -, -, g6, -⟩
                    · omega
                    · have e3 : k2 = a := by omega
                      rw [show i = zDp t a + 1 + j by rw [← e3]; exact g6]
                  · exact (u9.2.1 159 (3 * a + j) (fun q => by have q2 := q.2; omega)).trans (hd.2 a j a1 a2 (by omega))⟩
              
            
        · refine w_load (pc' := 34) (v := .int (zn i)) (m := 2) (ykc_65 (e := (2, .iload 5, 0)) rfl) rfl rfl ?_
          refine w_ret (v := (some (.int (zn i)))) (ykc_65 (e := (7, .ireturn, 0)) rfl) (zr_v rfl) ?_
          rw [hQ]
          have ei : i = 60 := by omega
          have em : min ln 60 = i := by omega
          by_cases hh : h < w
          · obtain ⟨k2, hk2, ho⟩ := zDI_xd hI hh (by omega) (fun q => absurd q (by omega))
            exact ⟨hFp, false, i, k2, ho, Or.inr ⟨fun q => absurd q.1 (by decide), rfl⟩⟩
          · have ho : zDo (min ln 60) t true i c := by
              rw [em] at hI ⊢
              exact zDI_e hI hh
            exact ⟨hFp, true, i, c, ho, Or.inr ⟨fun q => absurd q.2 (by omega), rfl⟩⟩
  exact hl1 n 0 0 0 0 _ (Nat.zero_le _) (by decide) (Or.inl ⟨rfl, rfl, rfl, rfl⟩) zFr_refl u1533.1 ⟨fun a ha => absurd ha (Nat.not_lt_zero a), fun a j ha => absurd ha (Nat.not_lt_zero a)⟩
  
theorem zc_plKind {ph : pm_H} {k i : Nat} {x y : Int32} (hS : zSh ph) (hx : x.toInt = (i : Int)) (hk : zc ph 157 2 = some (.int (zn k))) (h30 : k ≤ 30) (hi : i < k) (hy : zc ph 158 i = some (.int y)) : zM 63 [.ref 157, .int x] ph (fun v0 q => ph = q ∧ v0 = some (.int y)) := by
  obtain ⟨Q, hQ⟩ : ∃ Q : Option Value → pm_H → Prop, Q = (fun v0 q => ph = q ∧ v0 = some (.int y)) := ⟨_, rfl⟩
  rw [← hQ]
  refine zM_mk fun n D => ?_
  show zW n D 63 Q 0 [some (.ref 157), some (.int x)] [] ph
  have c_0 : ((Int8.ofInt 30).toInt32).toInt = 30 := by decide
  have c_1 : (Int32.ofInt (-1)).toInt = -1 := by decide
  have tk := znt (k := k) (by omega)
  refine w_load (pc' := 1) (v := .int x) (m := 1) (ykc_63 (e := (2, .iload_n kF1, 0)) rfl) rfl rfl ?_
  refine w_zlt (ykc_63 (e := (4, .ifCond .lt 26, 27)) rfl) rfl (fun q => by exfalso; omega) (fun b1562 => ?_)
  refine w_load (pc' := 5) (v := .int x) (m := 1) (ykc_63 (e := (2, .iload_n kF1, 0)) rfl) rfl rfl ?_
  refine w_load (pc' := 6) (v := .ref 157) (m := 1) (ykc_63 (e := (2, .aload_n kF0, 0)) rfl) rfl rfl ?_
  refine w_gf (pc' := 9) (v := .int (zn k)) (ykc_63 (e := (5, .getfield 18, 0)) rfl) rfl hk rfl ?_
  refine w_ige (ykc_63 (e := (4, .if_icmp .ge 18, 27)) rfl) rfl (fun q => by exfalso; omega) (fun b1563 => ?_)
  refine w_load (pc' := 13) (v := .int x) (m := 1) (ykc_63 (e := (2, .iload_n kF1, 0)) rfl) rfl rfl ?_
  refine w_push (pc' := 15) (v := .int ((Int8.ofInt 30).toInt32)) (m := 2) (ykc_63 (e := (1, .bipush 30, 0)) rfl) rfl rfl ?_
  refine w_ige (ykc_63 (e := (4, .if_icmp .ge 12, 27)) rfl) rfl (fun q => by exfalso; omega) (fun b1564 => ?_)
  refine w_load (pc' := 19) (v := .ref 157) (m := 1) (ykc_63 (e := (2, .aload_n kF0, 0)) rfl) rfl rfl ?_
  refine w_gf (pc' := 22) (v := .ref 158) (ykc_63 (e := (5, .getfield 11, 0)) rfl) rfl (zsg hS zs_157_0) rfl ?_
  refine w_load (pc' := 23) (v := .int x) (m := 1) (ykc_63 (e := (2, .iload_n kF1, 0)) rfl) rfl rfl ?_
  refine w_ialk (pc' := 24) (k := i) (ykc_63 (e := (5, .iaload, 0)) rfl) hy (by omega) rfl ?_
  refine w_br (pc' := 28) (st' := [.int y]) (ykc_63 (e := (4, .goto 4, 28)) rfl) rfl ?_
  refine w_ret (v := (some (.int y))) (ykc_63 (e := (7, .ireturn, 0)) rfl) (zr_v rfl) ?_
  rw [hQ]
  exact ⟨rfl, rfl⟩
theorem zc_plDigit {ph : pm_H} {k i j : Nat} {x z y : Int32} (hS : zSh ph) (hx : x.toInt = (i : Int)) (hz : z.toInt = (j : Int)) (hk : zc ph 157 2 = some (.int (zn k))) (h30 : k ≤ 30) (hi : i < k) (hj : j < 3) (hy : zc ph 159 (3 * i + j) = some (.int y)) : zM 64 [.ref 157, .int x, .int z] ph (fun v0 q => ph = q ∧ v0 = some (.int y)) := by
  obtain ⟨Q, hQ⟩ : ∃ Q : Option Value → pm_H → Prop, Q = (fun v0 q => ph = q ∧ v0 = some (.int y)) := ⟨_, rfl⟩
  rw [← hQ]
  refine zM_mk fun n D => ?_
  show zW n D 64 Q 0 [some (.ref 157), some (.int x), some (.int z), none] [] ph
  have c_0 : ((Int8.ofInt 30).toInt32).toInt = 30 := by decide
  have c_1 : (Int32.ofInt (-1)).toInt = -1 := by decide
  have c_2 : (Int32.ofInt 0).toInt = 0 := by decide
  have c_3 : (Int32.ofInt 1).toInt = 1 := by decide
  have c_4 : (Int32.ofInt 3).toInt = 3 := by decide
  have tk := znt (k := k) (by omega)
  refine w_load (pc' := 1) (v := .int x) (m := 1) (ykc_64 (e := (2, .iload_n kF1, 0)) rfl) rfl rfl ?_
  refine w_zlt (ykc_64 (e := (4, .ifCond .lt 30, 31)) rfl) rfl (fun q => by exfalso; omega) (fun b1565 => ?_)
  refine w_load (pc' := 5) (v := .int x) (m := 1) (ykc_64 (e := (2, .iload_n kF1, 0)) rfl) rfl rfl ?_
  refine w_load (pc' := 6) (v := .ref 157) (m := 1) (ykc_64 (e := (2, .aload_n kF0, 0)) rfl) rfl rfl ?_
  refine w_gf (pc' := 9) (v := .int (zn k)) (ykc_64 (e := (5, .getfield 18, 0)) rfl) rfl hk rfl ?_
  refine w_ige (ykc_64 (e := (4, .if_icmp .ge 22, 31)) rfl) rfl (fun q => by exfalso; omega) (fun b1566 => ?_)
  refine w_load (pc' := 13) (v := .int x) (m := 1) (ykc_64 (e := (2, .iload_n kF1, 0)) rfl) rfl rfl ?_
  refine w_push (pc' := 15) (v := .int ((Int8.ofInt 30).toInt32)) (m := 2) (ykc_64 (e := (1, .bipush 30, 0)) rfl) rfl rfl ?_
  refine w_ige (ykc_64 (e := (4, .if_icmp .ge 16, 31)) rfl) rfl (fun q => by exfalso; omega) (fun b1567 => ?_)
  refine w_load (pc' := 19) (v := .int z) (m := 1) (ykc_64 (e := (2, .iload_n kF2, 0)) rfl) rfl rfl ?_
  refine w_zlt (ykc_64 (e := (4, .ifCond .lt 12, 31)) rfl) rfl (fun q => by exfalso; omega) (fun b1568 => ?_)
  refine w_load (pc' := 23) (v := .int z) (m := 1) (ykc_64 (e := (2, .iload_n kF2, 0)) rfl) rfl rfl ?_
  refine w_alu (pc' := 24) (st' := [.int (Int32.ofInt 3), .int z]) (ykc_64 (e := (0, .iconst 3, 0)) rfl) rfl rfl ?_
  refine w_ige (ykc_64 (e := (4, .if_icmp .ge 7, 31)) rfl) rfl (fun q => by exfalso; omega) (fun b1569 => ?_)
  refine w_alu (pc' := 28) (st' := [.int (Int32.ofInt 1)]) (ykc_64 (e := (0, .iconst 1, 0)) rfl) rfl rfl ?_
  refine w_br (pc' := 32) (st' := [.int (Int32.ofInt 1)]) (ykc_64 (e := (4, .goto 4, 32)) rfl) rfl ?_
  refine w_store (pc' := 33) (L' := [some (.ref 157), some (.int x), some (.int z), some (.int (Int32.ofInt 1))]) (st' := []) (m := 1) (ykc_64 (e := (3, .istore_n kF3, 0)) rfl) rfl rfl ?_
  refine w_load (pc' := 34) (v := .int (Int32.ofInt 1)) (m := 1) (ykc_64 (e := (2, .iload_n kF3, 0)) rfl) rfl rfl ?_
  refine w_zeq (ykc_64 (e := (4, .ifCond .eq 16, 50)) rfl) rfl (fun q => absurd q (by decide)) (fun b1570 => ?_)
  refine w_load (pc' := 38) (v := .ref 157) (m := 1) (ykc_64 (e := (2, .aload_n kF0, 0)) rfl) rfl rfl ?_
  refine w_gf (pc' := 41) (v := .ref 159) (ykc_64 (e := (5, .getfield 15, 0)) rfl) rfl (zsg hS zs_157_1) rfl ?_
  refine w_load (pc' := 42) (v := .int x) (m := 1) (ykc_64 (e := (2, .iload_n kF1, 0)) rfl) rfl rfl ?_
  refine w_alu (pc' := 43) (st' := [.int (Int32.ofInt 3), .int x, .ref 159]) (ykc_64 (e := (0, .iconst 3, 0)) rfl) rfl rfl ?_
  have e1571 : x * (Int32.ofInt 3) = zn (3 * i) := zn_of ((zmulN (a := i) (b := 3) (by omega) (by decide) (by omega) (by decide)).trans (by omega))
  have te1571 := znt (k := 3 * i) (by omega)
  refine w_alu (pc' := 44) (st' := [.int (zn (3 * i)), .ref 159]) (ykc_64 (e := (0, .imul, 0)) rfl) (by rw [← e1571]; rfl) rfl ?_
  refine w_load (pc' := 45) (v := .int z) (m := 1) (ykc_64 (e := (2, .iload_n kF2, 0)) rfl) rfl rfl ?_
  have e1572 : (zn (3 * i)) + z = zn (3 * i + j) := zn_of (by have h8 := ti_add (x := (zn (3 * i))) (y := z) (by omega) (by omega); omega)
  have te1572 := znt (k := 3 * i + j) (by omega)
  refine w_alu (pc' := 46) (st' := [.int (zn (3 * i + j)), .ref 159]) (ykc_64 (e := (0, .iadd, 0)) rfl) (by rw [← e1572]; rfl) rfl ?_
  refine w_ialk (pc' := 47) (k := 3 * i + j) (ykc_64 (e := (5, .iaload, 0)) rfl) hy (by omega) rfl ?_
  refine w_br (pc' := 51) (st' := [.int y]) (ykc_64 (e := (4, .goto 4, 51)) rfl) rfl ?_
  refine w_ret (v := (some (.int y))) (ykc_64 (e := (7, .ireturn, 0)) rfl) (zr_v rfl) ?_
  rw [hQ]
  exact ⟨rfl, rfl⟩

/-! the reference reads an act, by W; printed by wip/z/z1m_acts.py -/
/-- the acts the reference holds: sign, one, two, three -/
def zEd (ph : pm_H) (t : Nat → Nat) (k : Nat) : Prop := ∀ i, i < k → zc ph 185 i = some (.int (zn (zdk (t (zDp t i))))) ∧ zc ph 186 i = some (.int (zn (t (zDp t i + 1) - 48))) ∧ (2 ≤ zdw (t (zDp t i)) → zc ph 187 i = some (.int (zn (t (zDp t i + 2) - 48)))) ∧ (3 ≤ zdw (t (zDp t i)) → zc ph 188 i = some (.int (zn (t (zDp t i + 3) - 48))))
theorem zEd_F {A : List Nat} {L : List (Nat × Nat)} {p q : pm_H} {t : Nat → Nat} {k : Nat} (f : zFr A L p q) (h1 : 185 ∉ A ∧ 186 ∉ A ∧ 187 ∉ A ∧ 188 ∉ A) (h2 : ∀ i, (185, i) ∉ L ∧ (186, i) ∉ L ∧ (187, i) ∉ L ∧ (188, i) ∉ L) (g : zEd p t k) : zEd q t k := fun i hi => ⟨(f.1 _ _ h1.1 (h2 i).1).trans (g i hi).1, (f.1 _ _ h1.2.1 (h2 i).2.1).trans (g i hi).2.1, fun h => (f.1 _ _ h1.2.2.1 (h2 i).2.2.1).trans ((g i hi).2.2.1 h), fun h => (f.1 _ _ h1.2.2.2 (h2 i).2.2.2).trans ((g i hi).2.2.2 h)⟩
/-- one act read: whole, or the fault -/
def zRA (b ln : Nat) (t : Nat → Nat) (a k : Nat) (ph : pm_H) (v0 : Option Value) (q : pm_H) : Prop := zFr [185, 186, 187, 188] [(170, 15), (170, 34)] ph q ∧ zc q 170 34 = some (.int (zn (k + 1))) ∧ (∀ i, i ≠ k → zc q 185 i = zc ph 185 i ∧ zc q 186 i = zc ph 186 i ∧ zc q 187 i = zc ph 187 i ∧ zc q 188 i = zc ph 188 i) ∧ ((v0 = some (.int (zI true)) ∧ 0 < zdw (t a) ∧ a + zdw (t a) < b ∧ (∀ j, j < zdw (t a) → zdi (t (a + 1 + j)) = true) ∧ zTm q (a + 1 + zdw (t a)) b ln t ∧ zc q 185 k = some (.int (zn (zdk (t a)))) ∧ zc q 186 k = some (.int (zn (t (a + 1) - 48))) ∧ (2 ≤ zdw (t a) → zc q 187 k = some (.int (zn (t (a + 2) - 48)))) ∧ (3 ≤ zdw (t a) → zc q 188 k = some (.int (zn (t (a + 3) - 48))))) ∨ (v0 = some (.int (zI false)) ∧ ∃ a2, zDb b t a a2 ∧ zTm q a2 b ln t))
theorem zm_readsAct {ph : pm_H} {a b ln k : Nat} {t : Nat → Nat} (hS : zSh ph) (hT : zTm ph a b ln t) (hk : zc ph 170 34 = some (.int (zn k))) (hk60 : k < 60) (hab : a < b) : zM 253 [.ref 170] ph (zRA b ln t a k ph) := by
  obtain ⟨Q, hQ⟩ : ∃ Q : Option Value → pm_H → Prop, Q = (zRA b ln t a k ph) := ⟨_, rfl⟩
  rw [← hQ]
  refine zM_mk fun n D => ?_
  show zW n D 253 Q 0 [some (.ref 170), none] [] ph
  have c_0 : (Int32.ofInt 0).toInt = 0 := by decide
  have c_1 : (Int32.ofInt 1).toInt = 1 := by decide
  have c_2 : (Int32.ofInt 4).toInt = 4 := by decide
  have tk := znt (k := k) (by omega)
  have tm1 : (Int32.ofInt (-1)).toInt = -1 := by decide
  refine w_load (pc' := 1) (v := .ref 170) (m := 1) (ykc_253 (e := (2, .aload_n kF0, 0)) rfl) rfl rfl ?_
  refine w_gf (pc' := 4) (v := .int (zn k)) (ykc_253 (e := (5, .getfield 392, 0)) rfl) rfl hk rfl ?_
  refine w_store (pc' := 5) (L' := [some (.ref 170), some (.int (zn k))]) (st' := []) (m := 1) (ykc_253 (e := (3, .istore_n kF1, 0)) rfl) rfl rfl ?_
  refine w_load (pc' := 6) (v := .ref 170) (m := 1) (ykc_253 (e := (2, .aload_n kF0, 0)) rfl) rfl rfl ?_
  refine w_gf (pc' := 9) (v := .ref 185) (ykc_253 (e := (5, .getfield 74, 0)) rfl) rfl (zsg hS zs_170_30) rfl ?_
  refine w_load (pc' := 10) (v := .int (zn k)) (m := 1) (ykc_253 (e := (2, .iload_n kF1, 0)) rfl) rfl rfl ?_
  refine w_load (pc' := 11) (v := .ref 170) (m := 1) (ykc_253 (e := (2, .aload_n kF0, 0)) rfl) rfl rfl ?_
  refine w_push (pc' := 14) (v := .ref 1048632) (m := 3) (ykc_253 (e := (1, .ldc_w 395, 0)) rfl) rfl rfl ?_
  refine w_cv (as := [.ref 170, .ref 1048632]) (r := [.int (zn k), .ref 185]) (ykc_253 (e := (6, .invokevirtual 184, 0)) rfl) rfl rfl rfl rfl (zm_takesOf hS hT zstr_day) (fun v1517 ph1518 hv => ?_)
  rcases hv with ⟨f1, ⟨k9, hk9, ha9, hc9, rfl, hTa⟩ | ⟨hn9, rfl, hTa⟩⟩
  · have tk9 := znt (k := k9) (by omega)
    have e5 : zdk (t a) = k9 := by rw [hc9]; exact (zdw_k k9 hk9).2
    show zW n D 253 Q 17 [some (.ref 170), some (.int (zn k))] [.int (zn k9), .int (zn k), .ref 185] ph1518
    refine w_ias (pc' := 18) (k := k) (ykc_253 (e := (5, .iastore, 0)) rfl) (by omega) rfl (fun ph1520 u1519 => ?_)
    refine w_load (pc' := 19) (v := .ref 170) (m := 1) (ykc_253 (e := (2, .aload_n kF0, 0)) rfl) rfl rfl ?_
    refine w_alu (pc' := 20) (st' := [.ref 170, .ref 170]) (ykc_253 (e := (0, .dup, 0)) rfl) rfl rfl ?_
    refine w_gf (pc' := 23) (v := .int (zn k)) (ykc_253 (e := (5, .getfield 392, 0)) rfl) rfl ((u1519.2.1 170 34 (fun q => absurd q.1 (by decide))).trans ((f1.1 170 34 (by decide) (by decide)).trans hk)) rfl ?_
    refine w_alu (pc' := 24) (st' := [.int (Int32.ofInt 1), .int (zn k), .ref 170]) (ykc_253 (e := (0, .iconst 1, 0)) rfl) rfl rfl ?_
    have e1521 : (zn k) + (Int32.ofInt 1) = zn (k + 1) := (zaddN (a := k) (b := 1) (znt (by omega)) c_1 (by omega)) 
    have te1521 := znt (k := k + 1) (by omega)
    refine w_alu (pc' := 25) (st' := [.int (zn (k + 1)), .ref 170]) (ykc_253 (e := (0, .iadd, 0)) rfl) (by rw [← e1521]; rfl) rfl ?_
    refine w_pf (pc' := 28) (ykc_253 (e := (5, .putfield 392, 0)) rfl) rfl rfl (fun ph1523 u1522 => ?_)
    refine w_load (pc' := 29) (v := .ref 170) (m := 1) (ykc_253 (e := (2, .aload_n kF0, 0)) rfl) rfl rfl ?_
    refine w_gf (pc' := 32) (v := .ref 185) (ykc_253 (e := (5, .getfield 74, 0)) rfl) rfl ((u1522.2.1 170 30 (fun q => absurd q.2 (by decide))).trans ((u1519.2.1 170 30 (fun q => absurd q.1 (by decide))).trans ((f1.1 170 30 (by decide) (by decide)).trans (zsg hS zs_170_30)))) rfl ?_
    refine w_load (pc' := 33) (v := .int (zn k)) (m := 1) (ykc_253 (e := (2, .iload_n kF1, 0)) rfl) rfl rfl ?_
    refine w_ialk (pc' := 34) (k := k) (ykc_253 (e := (5, .iaload, 0)) rfl) ((u1522.2.1 185 k (fun q => absurd q.1 (by decide))).trans u1519.1) (by omega) rfl ?_
    refine w_zge (ykc_253 (e := (4, .ifCond .ge 5, 39)) rfl) rfl (fun b1524 => ?_) (fun q => by exfalso; omega)
    refine w_load (pc' := 40) (v := .ref 170) (m := 1) (ykc_253 (e := (2, .aload_n kF0, 0)) rfl) rfl rfl ?_
    refine w_gf (pc' := 43) (v := .ref 186) (ykc_253 (e := (5, .getfield 77, 0)) rfl) rfl ((u1522.2.1 170 31 (fun q => absurd q.2 (by decide))).trans ((u1519.2.1 170 31 (fun q => absurd q.1 (by decide))).trans ((f1.1 170 31 (by decide) (by decide)).trans (zsg hS zs_170_31)))) rfl ?_
    refine w_load (pc' := 44) (v := .int (zn k)) (m := 1) (ykc_253 (e := (2, .iload_n kF1, 0)) rfl) rfl rfl ?_
    refine w_load (pc' := 45) (v := .ref 170) (m := 1) (ykc_253 (e := (2, .aload_n kF0, 0)) rfl) rfl rfl ?_
    refine w_alu (pc' := 46) (st' := [.int (Int32.ofInt 1), .ref 170, .int (zn k), .ref 186]) (ykc_253 (e := (0, .iconst 1, 0)) rfl) rfl rfl ?_
    have hT0 := (zTm_F (zFr_st u1522 (Or.inr (by simp)) : zFr [] [(170, 34)] _ _) (by simp) (by simp) (by simp) (zTm_F (zFr_st u1519 (Or.inl (by simp)) : zFr [185] [] _ _) (by simp) (by simp) (by simp) hTa))
    have ew : zdw (t a) = (if k9 = 0 then 1 else if k9 = 4 then 3 else 2) := by rw [hc9]; exact (zdw_k k9 hk9).1
    have ew2 : (k9 = 0 ∧ zdw (t a) = 1) ∨ (0 < k9 ∧ k9 < 4 ∧ zdw (t a) = 2) ∨ (k9 = 4 ∧ zdw (t a) = 3) := by
      rw [ew]
      (repeat' split) <;> omega
    refine w_cv (as := [.ref 170, .int (Int32.ofInt 1)]) (r := [.int (zn k), .ref 186]) (ykc_253 (e := (6, .invokevirtual 224, 0)) rfl) rfl rfl rfl rfl (zm_num1 (zSh_F (show zFr [185, 186, 187, 188] [(170, 15), (170, 34)] ph ph1523 from (zFr_trans (zFr_trans (zFr_mono f1 (by simp) (by simp)) (zFr_st u1519 (Or.inl (by simp)))) (zFr_st u1522 (Or.inr (by simp))))) (by decide +kernel) hS) hT0) (fun v1525 ph1526 hv => ?_)
    rcases hv with ⟨f2, ⟨n1, rfl, hT1⟩ | ⟨n1, rfl, hT1⟩⟩
    · have td1 := znt (k := t (a + 1) - 48) (by omega)
      show zW n D 253 Q 49 [some (.ref 170), some (.int (zn k))] [.int (zn (t (a + 1) - 48)), .int (zn k), .ref 186] ph1526
      refine w_ias (pc' := 50) (k := k) (ykc_253 (e := (5, .iastore, 0)) rfl) (by omega) rfl (fun ph1528 u1527 => ?_)
      refine w_load (pc' := 51) (v := .ref 170) (m := 1) (ykc_253 (e := (2, .aload_n kF0, 0)) rfl) rfl rfl ?_
      refine w_gf (pc' := 54) (v := .ref 186) (ykc_253 (e := (5, .getfield 77, 0)) rfl) rfl ((u1527.2.1 170 31 (fun q => absurd q.1 (by decide))).trans ((f2.1 170 31 (by decide) (by decide)).trans ((u1522.2.1 170 31 (fun q => absurd q.2 (by decide))).trans ((u1519.2.1 170 31 (fun q => absurd q.1 (by decide))).trans ((f1.1 170 31 (by decide) (by decide)).trans (zsg hS zs_170_31)))))) rfl ?_
      refine w_load (pc' := 55) (v := .int (zn k)) (m := 1) (ykc_253 (e := (2, .iload_n kF1, 0)) rfl) rfl rfl ?_
      refine w_ialk (pc' := 56) (k := k) (ykc_253 (e := (5, .iaload, 0)) rfl) u1527.1 (by omega) rfl ?_
      refine w_zlt (ykc_253 (e := (4, .ifCond .lt 12, 68)) rfl) rfl (fun q => by exfalso; omega) (fun b1529 => ?_)
      refine w_load (pc' := 60) (v := .ref 170) (m := 1) (ykc_253 (e := (2, .aload_n kF0, 0)) rfl) rfl rfl ?_
      refine w_gf (pc' := 63) (v := .ref 185) (ykc_253 (e := (5, .getfield 74, 0)) rfl) rfl ((u1527.2.1 170 30 (fun q => absurd q.1 (by decide))).trans ((f2.1 170 30 (by decide) (by decide)).trans ((u1522.2.1 170 30 (fun q => absurd q.2 (by decide))).trans ((u1519.2.1 170 30 (fun q => absurd q.1 (by decide))).trans ((f1.1 170 30 (by decide) (by decide)).trans (zsg hS zs_170_30)))))) rfl ?_
      refine w_load (pc' := 64) (v := .int (zn k)) (m := 1) (ykc_253 (e := (2, .iload_n kF1, 0)) rfl) rfl rfl ?_
      refine w_ialk (pc' := 65) (k := k) (ykc_253 (e := (5, .iaload, 0)) rfl) ((u1527.2.1 185 k (fun q => absurd q.1 (by decide))).trans ((f2.1 185 k (by decide) (by simp)).trans ((u1522.2.1 185 k (fun q => absurd q.1 (by decide))).trans u1519.1))) (by omega) rfl ?_
      refine w_zne (ykc_253 (e := (4, .ifCond .ne 18, 83)) rfl) rfl (fun b1530 => ?_) (fun b1530 => ?_)
      · refine w_load (pc' := 84) (v := .ref 170) (m := 1) (ykc_253 (e := (2, .aload_n kF0, 0)) rfl) rfl rfl ?_
        refine w_gf (pc' := 87) (v := .ref 187) (ykc_253 (e := (5, .getfield 80, 0)) rfl) rfl ((u1527.2.1 170 32 (fun q => absurd q.1 (by decide))).trans ((f2.1 170 32 (by decide) (by decide)).trans ((u1522.2.1 170 32 (fun q => absurd q.2 (by decide))).trans ((u1519.2.1 170 32 (fun q => absurd q.1 (by decide))).trans ((f1.1 170 32 (by decide) (by decide)).trans (zsg hS zs_170_32)))))) rfl ?_
        refine w_load (pc' := 88) (v := .int (zn k)) (m := 1) (ykc_253 (e := (2, .iload_n kF1, 0)) rfl) rfl rfl ?_
        refine w_load (pc' := 89) (v := .ref 170) (m := 1) (ykc_253 (e := (2, .aload_n kF0, 0)) rfl) rfl rfl ?_
        refine w_alu (pc' := 90) (st' := [.int (Int32.ofInt 1), .ref 170, .int (zn k), .ref 187]) (ykc_253 (e := (0, .iconst 1, 0)) rfl) rfl rfl ?_
        have hT10 := (zTm_F (zFr_st u1527 (Or.inl (by simp)) : zFr [186] [] _ _) (by simp) (by simp) (by simp) hT1)
        refine w_cv (as := [.ref 170, .int (Int32.ofInt 1)]) (r := [.int (zn k), .ref 187]) (ykc_253 (e := (6, .invokevirtual 224, 0)) rfl) rfl rfl rfl rfl (zm_num1 (zSh_F (show zFr [185, 186, 187, 188] [(170, 15), (170, 34)] ph ph1528 from (zFr_trans (zFr_trans (zFr_trans (zFr_trans (zFr_mono f1 (by simp) (by simp)) (zFr_st u1519 (Or.inl (by simp)))) (zFr_st u1522 (Or.inr (by simp)))) (zFr_mono f2 (by simp) (by simp))) (zFr_st u1527 (Or.inl (by simp))))) (by decide +kernel) hS) hT10) (fun v1531 ph1532 hv => ?_)
        rcases hv with ⟨f3, ⟨n2, rfl, hT2⟩ | ⟨n2, rfl, hT2⟩⟩
        · have td2 := znt (k := t (a + 1 + 1) - 48) (by omega)
          show zW n D 253 Q 93 [some (.ref 170), some (.int (zn k))] [.int (zn (t (a + 1 + 1) - 48)), .int (zn k), .ref 187] ph1532
          refine w_ias (pc' := 94) (k := k) (ykc_253 (e := (5, .iastore, 0)) rfl) (by omega) rfl (fun ph1534 u1533 => ?_)
          refine w_load (pc' := 95) (v := .ref 170) (m := 1) (ykc_253 (e := (2, .aload_n kF0, 0)) rfl) rfl rfl ?_
          refine w_gf (pc' := 98) (v := .ref 187) (ykc_253 (e := (5, .getfield 80, 0)) rfl) rfl ((u1533.2.1 170 32 (fun q => absurd q.1 (by decide))).trans ((f3.1 170 32 (by decide) (by decide)).trans ((u1527.2.1 170 32 (fun q => absurd q.1 (by decide))).trans ((f2.1 170 32 (by decide) (by decide)).trans ((u1522.2.1 170 32 (fun q => absurd q.2 (by decide))).trans ((u1519.2.1 170 32 (fun q => absurd q.1 (by decide))).trans ((f1.1 170 32 (by decide) (by decide)).trans (zsg hS zs_170_32)))))))) rfl ?_
          refine w_load (pc' := 99) (v := .int (zn k)) (m := 1) (ykc_253 (e := (2, .iload_n kF1, 0)) rfl) rfl rfl ?_
          refine w_ialk (pc' := 100) (k := k) (ykc_253 (e := (5, .iaload, 0)) rfl) u1533.1 (by omega) rfl ?_
          refine w_zlt (ykc_253 (e := (4, .ifCond .lt 13, 113)) rfl) rfl (fun q => by exfalso; omega) (fun b1535 => ?_)
          refine w_load (pc' := 104) (v := .ref 170) (m := 1) (ykc_253 (e := (2, .aload_n kF0, 0)) rfl) rfl rfl ?_
          refine w_gf (pc' := 107) (v := .ref 185) (ykc_253 (e := (5, .getfield 74, 0)) rfl) rfl ((u1533.2.1 170 30 (fun q => absurd q.1 (by decide))).trans ((f3.1 170 30 (by decide) (by decide)).trans ((u1527.2.1 170 30 (fun q => absurd q.1 (by decide))).trans ((f2.1 170 30 (by decide) (by decide)).trans ((u1522.2.1 170 30 (fun q => absurd q.2 (by decide))).trans ((u1519.2.1 170 30 (fun q => absurd q.1 (by decide))).trans ((f1.1 170 30 (by decide) (by decide)).trans (zsg hS zs_170_30)))))))) rfl ?_
          refine w_load (pc' := 108) (v := .int (zn k)) (m := 1) (ykc_253 (e := (2, .iload_n kF1, 0)) rfl) rfl rfl ?_
          refine w_ialk (pc' := 109) (k := k) (ykc_253 (e := (5, .iaload, 0)) rfl) ((u1533.2.1 185 k (fun q => absurd q.1 (by decide))).trans ((f3.1 185 k (by decide) (by simp)).trans ((u1527.2.1 185 k (fun q => absurd q.1 (by decide))).trans ((f2.1 185 k (by decide) (by simp)).trans ((u1522.2.1 185 k (fun q => absurd q.1 (by decide))).trans u1519.1))))) (by omega) rfl ?_
          refine w_alu (pc' := 110) (st' := [.int (Int32.ofInt 4), .int (zn k9)]) (ykc_253 (e := (0, .iconst 4, 0)) rfl) rfl rfl ?_
          refine w_ige (ykc_253 (e := (4, .if_icmp .ge 18, 128)) rfl) rfl (fun b1536 => ?_) (fun b1536 => ?_)
          · refine w_load (pc' := 129) (v := .ref 170) (m := 1) (ykc_253 (e := (2, .aload_n kF0, 0)) rfl) rfl rfl ?_
            refine w_gf (pc' := 132) (v := .ref 188) (ykc_253 (e := (5, .getfield 83, 0)) rfl) rfl ((u1533.2.1 170 33 (fun q => absurd q.1 (by decide))).trans ((f3.1 170 33 (by decide) (by decide)).trans ((u1527.2.1 170 33 (fun q => absurd q.1 (by decide))).trans ((f2.1 170 33 (by decide) (by decide)).trans ((u1522.2.1 170 33 (fun q => absurd q.2 (by decide))).trans ((u1519.2.1 170 33 (fun q => absurd q.1 (by decide))).trans ((f1.1 170 33 (by decide) (by decide)).trans (zsg hS zs_170_33)))))))) rfl ?_
            refine w_load (pc' := 133) (v := .int (zn k)) (m := 1) (ykc_253 (e := (2, .iload_n kF1, 0)) rfl) rfl rfl ?_
            refine w_load (pc' := 134) (v := .ref 170) (m := 1) (ykc_253 (e := (2, .aload_n kF0, 0)) rfl) rfl rfl ?_
            refine w_alu (pc' := 135) (st' := [.int (Int32.ofInt 1), .ref 170, .int (zn k), .ref 188]) (ykc_253 (e := (0, .iconst 1, 0)) rfl) rfl rfl ?_
            have hT20 := (zTm_F (zFr_st u1533 (Or.inl (by simp)) : zFr [187] [] _ _) (by simp) (by simp) (by simp) hT2)
            refine w_cv (as := [.ref 170, .int (Int32.ofInt 1)]) (r := [.int (zn k), .ref 188]) (ykc_253 (e := (6, .invokevirtual 224, 0)) rfl) rfl rfl rfl rfl (zm_num1 (zSh_F (show zFr [185, 186, 187, 188] [(170, 15), (170, 34)] ph ph1534 from (zFr_trans (zFr_trans (zFr_trans (zFr_trans (zFr_trans (zFr_trans (zFr_mono f1 (by simp) (by simp)) (zFr_st u1519 (Or.inl (by simp)))) (zFr_st u1522 (Or.inr (by simp)))) (zFr_mono f2 (by simp) (by simp))) (zFr_st u1527 (Or.inl (by simp)))) (zFr_mono f3 (by simp) (by simp))) (zFr_st u1533 (Or.inl (by simp))))) (by decide +kernel) hS) hT20) (fun v1537 ph1538 hv => ?_)
            rcases hv with ⟨f4, ⟨n3, rfl, hT3⟩ | ⟨n3, rfl, hT3⟩⟩
            · have td3 := znt (k := t (a + 1 + 1 + 1) - 48) (by omega)
              show zW n D 253 Q 138 [some (.ref 170), some (.int (zn k))] [.int (zn (t (a + 1 + 1 + 1) - 48)), .int (zn k), .ref 188] ph1538
              refine w_ias (pc' := 139) (k := k) (ykc_253 (e := (5, .iastore, 0)) rfl) (by omega) rfl (fun ph1540 u1539 => ?_)
              refine w_load (pc' := 140) (v := .ref 170) (m := 1) (ykc_253 (e := (2, .aload_n kF0, 0)) rfl) rfl rfl ?_
              refine w_gf (pc' := 143) (v := .ref 188) (ykc_253 (e := (5, .getfield 83, 0)) rfl) rfl ((u1539.2.1 170 33 (fun q => absurd q.1 (by decide))).trans ((f4.1 170 33 (by decide) (by decide)).trans ((u1533.2.1 170 33 (fun q => absurd q.1 (by decide))).trans ((f3.1 170 33 (by decide) (by decide)).trans ((u1527.2.1 170 33 (fun q => absurd q.1 (by decide))).trans ((f2.1 170 33 (by decide) (by decide)).trans ((u1522.2.1 170 33 (fun q => absurd q.2 (by decide))).trans ((u1519.2.1 170 33 (fun q => absurd q.1 (by decide))).trans ((f1.1 170 33 (by decide) (by decide)).trans (zsg hS zs_170_33)))))))))) rfl ?_
              refine w_load (pc' := 144) (v := .int (zn k)) (m := 1) (ykc_253 (e := (2, .iload_n kF1, 0)) rfl) rfl rfl ?_
              refine w_ialk (pc' := 145) (k := k) (ykc_253 (e := (5, .iaload, 0)) rfl) u1539.1 (by omega) rfl ?_
              refine w_zlt (ykc_253 (e := (4, .ifCond .lt 7, 152)) rfl) rfl (fun q => by exfalso; omega) (fun b1541 => ?_)
              refine w_alu (pc' := 149) (st' := [.int (Int32.ofInt 1)]) (ykc_253 (e := (0, .iconst 1, 0)) rfl) rfl rfl ?_
              refine w_br (pc' := 153) (st' := [.int (Int32.ofInt 1)]) (ykc_253 (e := (4, .goto 4, 153)) rfl) rfl ?_
              refine w_ret (v := (some (.int (Int32.ofInt 1)))) (ykc_253 (e := (7, .ireturn, 0)) rfl) zr_z ?_
              rw [hQ, zi1]
              have ew3 : zdw (t a) = 3 := by omega
              have hT8 := (zTm_F (zFr_st u1539 (Or.inl (by simp)) : zFr [188] [] _ _) (by simp) (by simp) (by simp) hT3)
              rw [show a + 1 + 1 + 1 + 1 = a + 1 + zdw (t a) by omega] at hT8
              refine ⟨(show zFr [185, 186, 187, 188] [(170, 15), (170, 34)] ph ph1540 from (zFr_trans (zFr_trans (zFr_trans (zFr_trans (zFr_trans (zFr_trans (zFr_trans (zFr_trans (zFr_mono f1 (by simp) (by simp)) (zFr_st u1519 (Or.inl (by simp)))) (zFr_st u1522 (Or.inr (by simp)))) (zFr_mono f2 (by simp) (by simp))) (zFr_st u1527 (Or.inl (by simp)))) (zFr_mono f3 (by simp) (by simp))) (zFr_st u1533 (Or.inl (by simp)))) (zFr_mono f4 (by simp) (by simp))) (zFr_st u1539 (Or.inl (by simp))))), ((u1539.2.1 170 34 (fun q => absurd q.1 (by decide))).trans ((f4.1 170 34 (by decide) (by decide)).trans ((u1533.2.1 170 34 (fun q => absurd q.1 (by decide))).trans ((f3.1 170 34 (by decide) (by decide)).trans ((u1527.2.1 170 34 (fun q => absurd q.1 (by decide))).trans ((f2.1 170 34 (by decide) (by decide)).trans u1522.1)))))), (fun i hi => ⟨((u1539.2.1 185 i (fun q => absurd q.1 (by decide))).trans ((f4.1 185 i (by simp) (by simp)).trans ((u1533.2.1 185 i (fun q => absurd q.1 (by decide))).trans ((f3.1 185 i (by simp) (by simp)).trans ((u1527.2.1 185 i (fun q => absurd q.1 (by decide))).trans ((f2.1 185 i (by simp) (by simp)).trans ((u1522.2.1 185 i (fun q => absurd q.1 (by decide))).trans ((u1519.2.1 185 i (fun q => hi q.2)).trans (f1.1 185 i (by simp) (by simp)))))))))), ((u1539.2.1 186 i (fun q => absurd q.1 (by decide))).trans ((f4.1 186 i (by simp) (by simp)).trans ((u1533.2.1 186 i (fun q => absurd q.1 (by decide))).trans ((f3.1 186 i (by simp) (by simp)).trans ((u1527.2.1 186 i (fun q => hi q.2)).trans ((f2.1 186 i (by simp) (by simp)).trans ((u1522.2.1 186 i (fun q => absurd q.1 (by decide))).trans ((u1519.2.1 186 i (fun q => absurd q.1 (by decide))).trans (f1.1 186 i (by simp) (by simp)))))))))), ((u1539.2.1 187 i (fun q => absurd q.1 (by decide))).trans ((f4.1 187 i (by simp) (by simp)).trans ((u1533.2.1 187 i (fun q => hi q.2)).trans ((f3.1 187 i (by simp) (by simp)).trans ((u1527.2.1 187 i (fun q => absurd q.1 (by decide))).trans ((f2.1 187 i (by simp) (by simp)).trans ((u1522.2.1 187 i (fun q => absurd q.1 (by decide))).trans ((u1519.2.1 187 i (fun q => absurd q.1 (by decide))).trans (f1.1 187 i (by simp) (by simp)))))))))), ((u1539.2.1 188 i (fun q => hi q.2)).trans ((f4.1 188 i (by simp) (by simp)).trans ((u1533.2.1 188 i (fun q => absurd q.1 (by decide))).trans ((f3.1 188 i (by simp) (by simp)).trans ((u1527.2.1 188 i (fun q => absurd q.1 (by decide))).trans ((f2.1 188 i (by simp) (by simp)).trans ((u1522.2.1 188 i (fun q => absurd q.1 (by decide))).trans ((u1519.2.1 188 i (fun q => absurd q.1 (by decide))).trans (f1.1 188 i (by simp) (by simp))))))))))⟩), Or.inl ⟨rfl, by omega, by omega, ?_, hT8, by rw [e5]; exact ((u1539.2.1 185 k (fun q => absurd q.1 (by decide))).trans ((f4.1 185 k (by decide) (by simp)).trans ((u1533.2.1 185 k (fun q => absurd q.1 (by decide))).trans ((f3.1 185 k (by decide) (by simp)).trans ((u1527.2.1 185 k (fun q => absurd q.1 (by decide))).trans ((f2.1 185 k (by decide) (by simp)).trans ((u1522.2.1 185 k (fun q => absurd q.1 (by decide))).trans u1519.1))))))), ((u1539.2.1 186 k (fun q => absurd q.1 (by decide))).trans ((f4.1 186 k (by decide) (by simp)).trans ((u1533.2.1 186 k (fun q => absurd q.1 (by decide))).trans ((f3.1 186 k (by decide) (by simp)).trans u1527.1)))), (fun _ => ((u1539.2.1 187 k (fun q => absurd q.1 (by decide))).trans ((f4.1 187 k (by decide) (by simp)).trans u1533.1))), (fun _ => u1539.1)⟩⟩
              rw [ew3]
              exact (fun j hj => by
                rcases (show j = 0 ∨ j = 1 ∨ j = 2 by omega) with e | e | e <;> subst e
                · exact zdi_t n1.2
                · exact zdi_t n2.2
                · exact zdi_t n3.2)
            · show zW n D 253 Q 138 [some (.ref 170), some (.int (zn k))] [.int (Int32.ofInt (-1)), .int (zn k), .ref 188] ph1538
              refine w_ias (pc' := 139) (k := k) (ykc_253 (e := (5, .iastore, 0)) rfl) (by omega) rfl (fun ph1543 u1542 => ?_)
              refine w_load (pc' := 140) (v := .ref 170) (m := 1) (ykc_253 (e := (2, .aload_n kF0, 0)) rfl) rfl rfl ?_
              refine w_gf (pc' := 143) (v := .ref 188) (ykc_253 (e := (5, .getfield 83, 0)) rfl) rfl ((u1542.2.1 170 33 (fun q => absurd q.1 (by decide))).trans ((f4.1 170 33 (by decide) (by decide)).trans ((u1533.2.1 170 33 (fun q => absurd q.1 (by decide))).trans ((f3.1 170 33 (by decide) (by decide)).trans ((u1527.2.1 170 33 (fun q => absurd q.1 (by decide))).trans ((f2.1 170 33 (by decide) (by decide)).trans ((u1522.2.1 170 33 (fun q => absurd q.2 (by decide))).trans ((u1519.2.1 170 33 (fun q => absurd q.1 (by decide))).trans ((f1.1 170 33 (by decide) (by decide)).trans (zsg hS zs_170_33)))))))))) rfl ?_
              refine w_load (pc' := 144) (v := .int (zn k)) (m := 1) (ykc_253 (e := (2, .iload_n kF1, 0)) rfl) rfl rfl ?_
              refine w_ialk (pc' := 145) (k := k) (ykc_253 (e := (5, .iaload, 0)) rfl) u1542.1 (by omega) rfl ?_
              refine w_zlt (ykc_253 (e := (4, .ifCond .lt 7, 152)) rfl) rfl (fun b1544 => ?_) (fun q => by exfalso; omega)
              refine w_alu (pc' := 153) (st' := [.int (Int32.ofInt 0)]) (ykc_253 (e := (0, .iconst 0, 0)) rfl) rfl rfl ?_
              refine w_ret (v := (some (.int (Int32.ofInt 0)))) (ykc_253 (e := (7, .ireturn, 0)) rfl) zr_z ?_
              rw [hQ, zi0]
              exact ⟨(show zFr [185, 186, 187, 188] [(170, 15), (170, 34)] ph ph1543 from (zFr_trans (zFr_trans (zFr_trans (zFr_trans (zFr_trans (zFr_trans (zFr_trans (zFr_trans (zFr_mono f1 (by simp) (by simp)) (zFr_st u1519 (Or.inl (by simp)))) (zFr_st u1522 (Or.inr (by simp)))) (zFr_mono f2 (by simp) (by simp))) (zFr_st u1527 (Or.inl (by simp)))) (zFr_mono f3 (by simp) (by simp))) (zFr_st u1533 (Or.inl (by simp)))) (zFr_mono f4 (by simp) (by simp))) (zFr_st u1542 (Or.inl (by simp))))), ((u1542.2.1 170 34 (fun q => absurd q.1 (by decide))).trans ((f4.1 170 34 (by decide) (by decide)).trans ((u1533.2.1 170 34 (fun q => absurd q.1 (by decide))).trans ((f3.1 170 34 (by decide) (by decide)).trans ((u1527.2.1 170 34 (fun q => absurd q.1 (by decide))).trans ((f2.1 170 34 (by decide) (by decide)).trans u1522.1)))))), (fun i hi => ⟨((u1542.2.1 185 i (fun q => absurd q.1 (by decide))).trans ((f4.1 185 i (by simp) (by simp)).trans ((u1533.2.1 185 i (fun q => absurd q.1 (by decide))).trans ((f3.1 185 i (by simp) (by simp)).trans ((u1527.2.1 185 i (fun q => absurd q.1 (by decide))).trans ((f2.1 185 i (by simp) (by simp)).trans ((u1522.2.1 185 i (fun q => absurd q.1 (by decide))).trans ((u1519.2.1 185 i (fun q => hi q.2)).trans (f1.1 185 i (by simp) (by simp)))))))))), ((u1542.2.1 186 i (fun q => absurd q.1 (by decide))).trans ((f4.1 186 i (by simp) (by simp)).trans ((u1533.2.1 186 i (fun q => absurd q.1 (by decide))).trans ((f3.1 186 i (by simp) (by simp)).trans ((u1527.2.1 186 i (fun q => hi q.2)).trans ((f2.1 186 i (by simp) (by simp)).trans ((u1522.2.1 186 i (fun q => absurd q.1 (by decide))).trans ((u1519.2.1 186 i (fun q => absurd q.1 (by decide))).trans (f1.1 186 i (by simp) (by simp)))))))))), ((u1542.2.1 187 i (fun q => absurd q.1 (by decide))).trans ((f4.1 187 i (by simp) (by simp)).trans ((u1533.2.1 187 i (fun q => hi q.2)).trans ((f3.1 187 i (by simp) (by simp)).trans ((u1527.2.1 187 i (fun q => absurd q.1 (by decide))).trans ((f2.1 187 i (by simp) (by simp)).trans ((u1522.2.1 187 i (fun q => absurd q.1 (by decide))).trans ((u1519.2.1 187 i (fun q => absurd q.1 (by decide))).trans (f1.1 187 i (by simp) (by simp)))))))))), ((u1542.2.1 188 i (fun q => hi q.2)).trans ((f4.1 188 i (by simp) (by simp)).trans ((u1533.2.1 188 i (fun q => absurd q.1 (by decide))).trans ((f3.1 188 i (by simp) (by simp)).trans ((u1527.2.1 188 i (fun q => absurd q.1 (by decide))).trans ((f2.1 188 i (by simp) (by simp)).trans ((u1522.2.1 188 i (fun q => absurd q.1 (by decide))).trans ((u1519.2.1 188 i (fun q => absurd q.1 (by decide))).trans (f1.1 188 i (by simp) (by simp))))))))))⟩), Or.inr ⟨rfl, a + 1 + 1 + 1, ⟨hab, Or.inr ⟨2, by omega, rfl, by omega, fun j hj => by
                rcases (show j = 0 ∨ j = 1 by omega) with e | e <;> subst e
                · exact zdi_t n1.2
                · exact zdi_t n2.2, fun h => zdi_f (fun q => n3 ⟨h, q⟩)⟩⟩, (zTm_F (zFr_st u1542 (Or.inl (by simp)) : zFr [188] [] _ _) (by simp) (by simp) (by simp) hT3)⟩⟩
            
          · refine w_load (pc' := 114) (v := .ref 170) (m := 1) (ykc_253 (e := (2, .aload_n kF0, 0)) rfl) rfl rfl ?_
            refine w_gf (pc' := 117) (v := .ref 187) (ykc_253 (e := (5, .getfield 80, 0)) rfl) rfl ((u1533.2.1 170 32 (fun q => absurd q.1 (by decide))).trans ((f3.1 170 32 (by decide) (by decide)).trans ((u1527.2.1 170 32 (fun q => absurd q.1 (by decide))).trans ((f2.1 170 32 (by decide) (by decide)).trans ((u1522.2.1 170 32 (fun q => absurd q.2 (by decide))).trans ((u1519.2.1 170 32 (fun q => absurd q.1 (by decide))).trans ((f1.1 170 32 (by decide) (by decide)).trans (zsg hS zs_170_32)))))))) rfl ?_
            refine w_load (pc' := 118) (v := .int (zn k)) (m := 1) (ykc_253 (e := (2, .iload_n kF1, 0)) rfl) rfl rfl ?_
            refine w_ialk (pc' := 119) (k := k) (ykc_253 (e := (5, .iaload, 0)) rfl) u1533.1 (by omega) rfl ?_
            refine w_zlt (ykc_253 (e := (4, .ifCond .lt 7, 126)) rfl) rfl (fun q => by exfalso; omega) (fun b1545 => ?_)
            refine w_alu (pc' := 123) (st' := [.int (Int32.ofInt 1)]) (ykc_253 (e := (0, .iconst 1, 0)) rfl) rfl rfl ?_
            refine w_br (pc' := 127) (st' := [.int (Int32.ofInt 1)]) (ykc_253 (e := (4, .goto 4, 127)) rfl) rfl ?_
            refine w_ret (v := (some (.int (Int32.ofInt 1)))) (ykc_253 (e := (7, .ireturn, 0)) rfl) zr_z ?_
            rw [hQ, zi1]
            have ew3 : zdw (t a) = 2 := by omega
            have hT8 := (zTm_F (zFr_st u1533 (Or.inl (by simp)) : zFr [187] [] _ _) (by simp) (by simp) (by simp) hT2)
            rw [show a + 1 + 1 + 1 = a + 1 + zdw (t a) by omega] at hT8
            refine ⟨(show zFr [185, 186, 187, 188] [(170, 15), (170, 34)] ph ph1534 from (zFr_trans (zFr_trans (zFr_trans (zFr_trans (zFr_trans (zFr_trans (zFr_mono f1 (by simp) (by simp)) (zFr_st u1519 (Or.inl (by simp)))) (zFr_st u1522 (Or.inr (by simp)))) (zFr_mono f2 (by simp) (by simp))) (zFr_st u1527 (Or.inl (by simp)))) (zFr_mono f3 (by simp) (by simp))) (zFr_st u1533 (Or.inl (by simp))))), ((u1533.2.1 170 34 (fun q => absurd q.1 (by decide))).trans ((f3.1 170 34 (by decide) (by decide)).trans ((u1527.2.1 170 34 (fun q => absurd q.1 (by decide))).trans ((f2.1 170 34 (by decide) (by decide)).trans u1522.1)))), (fun i hi => ⟨((u1533.2.1 185 i (fun q => absurd q.1 (by decide))).trans ((f3.1 185 i (by simp) (by simp)).trans ((u1527.2.1 185 i (fun q => absurd q.1 (by decide))).trans ((f2.1 185 i (by simp) (by simp)).trans ((u1522.2.1 185 i (fun q => absurd q.1 (by decide))).trans ((u1519.2.1 185 i (fun q => hi q.2)).trans (f1.1 185 i (by simp) (by simp)))))))), ((u1533.2.1 186 i (fun q => absurd q.1 (by decide))).trans ((f3.1 186 i (by simp) (by simp)).trans ((u1527.2.1 186 i (fun q => hi q.2)).trans ((f2.1 186 i (by simp) (by simp)).trans ((u1522.2.1 186 i (fun q => absurd q.1 (by decide))).trans ((u1519.2.1 186 i (fun q => absurd q.1 (by decide))).trans (f1.1 186 i (by simp) (by simp)))))))), ((u1533.2.1 187 i (fun q => hi q.2)).trans ((f3.1 187 i (by simp) (by simp)).trans ((u1527.2.1 187 i (fun q => absurd q.1 (by decide))).trans ((f2.1 187 i (by simp) (by simp)).trans ((u1522.2.1 187 i (fun q => absurd q.1 (by decide))).trans ((u1519.2.1 187 i (fun q => absurd q.1 (by decide))).trans (f1.1 187 i (by simp) (by simp)))))))), ((u1533.2.1 188 i (fun q => absurd q.1 (by decide))).trans ((f3.1 188 i (by simp) (by simp)).trans ((u1527.2.1 188 i (fun q => absurd q.1 (by decide))).trans ((f2.1 188 i (by simp) (by simp)).trans ((u1522.2.1 188 i (fun q => absurd q.1 (by decide))).trans ((u1519.2.1 188 i (fun q => absurd q.1 (by decide))).trans (f1.1 188 i (by simp) (by simp))))))))⟩), Or.inl ⟨rfl, by omega, by omega, ?_, hT8, by rw [e5]; exact ((u1533.2.1 185 k (fun q => absurd q.1 (by decide))).trans ((f3.1 185 k (by decide) (by simp)).trans ((u1527.2.1 185 k (fun q => absurd q.1 (by decide))).trans ((f2.1 185 k (by decide) (by simp)).trans ((u1522.2.1 185 k (fun q => absurd q.1 (by decide))).trans u1519.1))))), ((u1533.2.1 186 k (fun q => absurd q.1 (by decide))).trans ((f3.1 186 k (by decide) (by simp)).trans u1527.1)), (fun _ => u1533.1), (fun h => absurd h (by omega))⟩⟩
            rw [ew3]
            exact (fun j hj => by
              rcases (show j = 0 ∨ j = 1 by omega) with e | e <;> subst e
              · exact zdi_t n1.2
              · exact zdi_t n2.2)
        · show zW n D 253 Q 93 [some (.ref 170), some (.int (zn k))] [.int (Int32.ofInt (-1)), .int (zn k), .ref 187] ph1532
          refine w_ias (pc' := 94) (k := k) (ykc_253 (e := (5, .iastore, 0)) rfl) (by omega) rfl (fun ph1547 u1546 => ?_)
          refine w_load (pc' := 95) (v := .ref 170) (m := 1) (ykc_253 (e := (2, .aload_n kF0, 0)) rfl) rfl rfl ?_
          refine w_gf (pc' := 98) (v := .ref 187) (ykc_253 (e := (5, .getfield 80, 0)) rfl) rfl ((u1546.2.1 170 32 (fun q => absurd q.1 (by decide))).trans ((f3.1 170 32 (by decide) (by decide)).trans ((u1527.2.1 170 32 (fun q => absurd q.1 (by decide))).trans ((f2.1 170 32 (by decide) (by decide)).trans ((u1522.2.1 170 32 (fun q => absurd q.2 (by decide))).trans ((u1519.2.1 170 32 (fun q => absurd q.1 (by decide))).trans ((f1.1 170 32 (by decide) (by decide)).trans (zsg hS zs_170_32)))))))) rfl ?_
          refine w_load (pc' := 99) (v := .int (zn k)) (m := 1) (ykc_253 (e := (2, .iload_n kF1, 0)) rfl) rfl rfl ?_
          refine w_ialk (pc' := 100) (k := k) (ykc_253 (e := (5, .iaload, 0)) rfl) u1546.1 (by omega) rfl ?_
          refine w_zlt (ykc_253 (e := (4, .ifCond .lt 13, 113)) rfl) rfl (fun b1548 => ?_) (fun q => by exfalso; omega)
          refine w_load (pc' := 114) (v := .ref 170) (m := 1) (ykc_253 (e := (2, .aload_n kF0, 0)) rfl) rfl rfl ?_
          refine w_gf (pc' := 117) (v := .ref 187) (ykc_253 (e := (5, .getfield 80, 0)) rfl) rfl ((u1546.2.1 170 32 (fun q => absurd q.1 (by decide))).trans ((f3.1 170 32 (by decide) (by decide)).trans ((u1527.2.1 170 32 (fun q => absurd q.1 (by decide))).trans ((f2.1 170 32 (by decide) (by decide)).trans ((u1522.2.1 170 32 (fun q => absurd q.2 (by decide))).trans ((u1519.2.1 170 32 (fun q => absurd q.1 (by decide))).trans ((f1.1 170 32 (by decide) (by decide)).trans (zsg hS zs_170_32)))))))) rfl ?_
          refine w_load (pc' := 118) (v := .int (zn k)) (m := 1) (ykc_253 (e := (2, .iload_n kF1, 0)) rfl) rfl rfl ?_
          refine w_ialk (pc' := 119) (k := k) (ykc_253 (e := (5, .iaload, 0)) rfl) u1546.1 (by omega) rfl ?_
          refine w_zlt (ykc_253 (e := (4, .ifCond .lt 7, 126)) rfl) rfl (fun b1549 => ?_) (fun q => by exfalso; omega)
          refine w_alu (pc' := 127) (st' := [.int (Int32.ofInt 0)]) (ykc_253 (e := (0, .iconst 0, 0)) rfl) rfl rfl ?_
          refine w_ret (v := (some (.int (Int32.ofInt 0)))) (ykc_253 (e := (7, .ireturn, 0)) rfl) zr_z ?_
          rw [hQ, zi0]
          exact ⟨(show zFr [185, 186, 187, 188] [(170, 15), (170, 34)] ph ph1547 from (zFr_trans (zFr_trans (zFr_trans (zFr_trans (zFr_trans (zFr_trans (zFr_mono f1 (by simp) (by simp)) (zFr_st u1519 (Or.inl (by simp)))) (zFr_st u1522 (Or.inr (by simp)))) (zFr_mono f2 (by simp) (by simp))) (zFr_st u1527 (Or.inl (by simp)))) (zFr_mono f3 (by simp) (by simp))) (zFr_st u1546 (Or.inl (by simp))))), ((u1546.2.1 170 34 (fun q => absurd q.1 (by decide))).trans ((f3.1 170 34 (by decide) (by decide)).trans ((u1527.2.1 170 34 (fun q => absurd q.1 (by decide))).trans ((f2.1 170 34 (by decide) (by decide)).trans u1522.1)))), (fun i hi => ⟨((u1546.2.1 185 i (fun q => absurd q.1 (by decide))).trans ((f3.1 185 i (by simp) (by simp)).trans ((u1527.2.1 185 i (fun q => absurd q.1 (by decide))).trans ((f2.1 185 i (by simp) (by simp)).trans ((u1522.2.1 185 i (fun q => absurd q.1 (by decide))).trans ((u1519.2.1 185 i (fun q => hi q.2)).trans (f1.1 185 i (by simp) (by simp)))))))), ((u1546.2.1 186 i (fun q => absurd q.1 (by decide))).trans ((f3.1 186 i (by simp) (by simp)).trans ((u1527.2.1 186 i (fun q => hi q.2)).trans ((f2.1 186 i (by simp) (by simp)).trans ((u1522.2.1 186 i (fun q => absurd q.1 (by decide))).trans ((u1519.2.1 186 i (fun q => absurd q.1 (by decide))).trans (f1.1 186 i (by simp) (by simp)))))))), ((u1546.2.1 187 i (fun q => hi q.2)).trans ((f3.1 187 i (by simp) (by simp)).trans ((u1527.2.1 187 i (fun q => absurd q.1 (by decide))).trans ((f2.1 187 i (by simp) (by simp)).trans ((u1522.2.1 187 i (fun q => absurd q.1 (by decide))).trans ((u1519.2.1 187 i (fun q => absurd q.1 (by decide))).trans (f1.1 187 i (by simp) (by simp)))))))), ((u1546.2.1 188 i (fun q => absurd q.1 (by decide))).trans ((f3.1 188 i (by simp) (by simp)).trans ((u1527.2.1 188 i (fun q => absurd q.1 (by decide))).trans ((f2.1 188 i (by simp) (by simp)).trans ((u1522.2.1 188 i (fun q => absurd q.1 (by decide))).trans ((u1519.2.1 188 i (fun q => absurd q.1 (by decide))).trans (f1.1 188 i (by simp) (by simp))))))))⟩), Or.inr ⟨rfl, a + 1 + 1, ⟨hab, Or.inr ⟨1, by omega, rfl, by omega, fun j hj => by rw [show j = 0 by omega]; exact zdi_t n1.2, fun h => zdi_f (fun q => n2 ⟨h, q⟩)⟩⟩, (zTm_F (zFr_st u1546 (Or.inl (by simp)) : zFr [187] [] _ _) (by simp) (by simp) (by simp) hT2)⟩⟩
        
      · refine w_load (pc' := 69) (v := .ref 170) (m := 1) (ykc_253 (e := (2, .aload_n kF0, 0)) rfl) rfl rfl ?_
        refine w_gf (pc' := 72) (v := .ref 186) (ykc_253 (e := (5, .getfield 77, 0)) rfl) rfl ((u1527.2.1 170 31 (fun q => absurd q.1 (by decide))).trans ((f2.1 170 31 (by decide) (by decide)).trans ((u1522.2.1 170 31 (fun q => absurd q.2 (by decide))).trans ((u1519.2.1 170 31 (fun q => absurd q.1 (by decide))).trans ((f1.1 170 31 (by decide) (by decide)).trans (zsg hS zs_170_31)))))) rfl ?_
        refine w_load (pc' := 73) (v := .int (zn k)) (m := 1) (ykc_253 (e := (2, .iload_n kF1, 0)) rfl) rfl rfl ?_
        refine w_ialk (pc' := 74) (k := k) (ykc_253 (e := (5, .iaload, 0)) rfl) u1527.1 (by omega) rfl ?_
        refine w_zlt (ykc_253 (e := (4, .ifCond .lt 7, 81)) rfl) rfl (fun q => by exfalso; omega) (fun b1550 => ?_)
        refine w_alu (pc' := 78) (st' := [.int (Int32.ofInt 1)]) (ykc_253 (e := (0, .iconst 1, 0)) rfl) rfl rfl ?_
        refine w_br (pc' := 82) (st' := [.int (Int32.ofInt 1)]) (ykc_253 (e := (4, .goto 4, 82)) rfl) rfl ?_
        refine w_ret (v := (some (.int (Int32.ofInt 1)))) (ykc_253 (e := (7, .ireturn, 0)) rfl) zr_z ?_
        rw [hQ, zi1]
        have ew3 : zdw (t a) = 1 := by omega
        have hT8 := (zTm_F (zFr_st u1527 (Or.inl (by simp)) : zFr [186] [] _ _) (by simp) (by simp) (by simp) hT1)
        rw [show a + 1 + 1 = a + 1 + zdw (t a) by omega] at hT8
        refine ⟨(show zFr [185, 186, 187, 188] [(170, 15), (170, 34)] ph ph1528 from (zFr_trans (zFr_trans (zFr_trans (zFr_trans (zFr_mono f1 (by simp) (by simp)) (zFr_st u1519 (Or.inl (by simp)))) (zFr_st u1522 (Or.inr (by simp)))) (zFr_mono f2 (by simp) (by simp))) (zFr_st u1527 (Or.inl (by simp))))), ((u1527.2.1 170 34 (fun q => absurd q.1 (by decide))).trans ((f2.1 170 34 (by decide) (by decide)).trans u1522.1)), (fun i hi => ⟨((u1527.2.1 185 i (fun q => absurd q.1 (by decide))).trans ((f2.1 185 i (by simp) (by simp)).trans ((u1522.2.1 185 i (fun q => absurd q.1 (by decide))).trans ((u1519.2.1 185 i (fun q => hi q.2)).trans (f1.1 185 i (by simp) (by simp)))))), ((u1527.2.1 186 i (fun q => hi q.2)).trans ((f2.1 186 i (by simp) (by simp)).trans ((u1522.2.1 186 i (fun q => absurd q.1 (by decide))).trans ((u1519.2.1 186 i (fun q => absurd q.1 (by decide))).trans (f1.1 186 i (by simp) (by simp)))))), ((u1527.2.1 187 i (fun q => absurd q.1 (by decide))).trans ((f2.1 187 i (by simp) (by simp)).trans ((u1522.2.1 187 i (fun q => absurd q.1 (by decide))).trans ((u1519.2.1 187 i (fun q => absurd q.1 (by decide))).trans (f1.1 187 i (by simp) (by simp)))))), ((u1527.2.1 188 i (fun q => absurd q.1 (by decide))).trans ((f2.1 188 i (by simp) (by simp)).trans ((u1522.2.1 188 i (fun q => absurd q.1 (by decide))).trans ((u1519.2.1 188 i (fun q => absurd q.1 (by decide))).trans (f1.1 188 i (by simp) (by simp))))))⟩), Or.inl ⟨rfl, by omega, by omega, ?_, hT8, by rw [e5]; exact ((u1527.2.1 185 k (fun q => absurd q.1 (by decide))).trans ((f2.1 185 k (by decide) (by simp)).trans ((u1522.2.1 185 k (fun q => absurd q.1 (by decide))).trans u1519.1))), u1527.1, (fun h => absurd h (by omega)), (fun h => absurd h (by omega))⟩⟩
        rw [ew3]
        exact (fun j hj => by
          rw [show j = 0 by omega, Nat.add_zero]; exact zdi_t n1.2)
    · show zW n D 253 Q 49 [some (.ref 170), some (.int (zn k))] [.int (Int32.ofInt (-1)), .int (zn k), .ref 186] ph1526
      refine w_ias (pc' := 50) (k := k) (ykc_253 (e := (5, .iastore, 0)) rfl) (by omega) rfl (fun ph1552 u1551 => ?_)
      refine w_load (pc' := 51) (v := .ref 170) (m := 1) (ykc_253 (e := (2, .aload_n kF0, 0)) rfl) rfl rfl ?_
      refine w_gf (pc' := 54) (v := .ref 186) (ykc_253 (e := (5, .getfield 77, 0)) rfl) rfl ((u1551.2.1 170 31 (fun q => absurd q.1 (by decide))).trans ((f2.1 170 31 (by decide) (by decide)).trans ((u1522.2.1 170 31 (fun q => absurd q.2 (by decide))).trans ((u1519.2.1 170 31 (fun q => absurd q.1 (by decide))).trans ((f1.1 170 31 (by decide) (by decide)).trans (zsg hS zs_170_31)))))) rfl ?_
      refine w_load (pc' := 55) (v := .int (zn k)) (m := 1) (ykc_253 (e := (2, .iload_n kF1, 0)) rfl) rfl rfl ?_
      refine w_ialk (pc' := 56) (k := k) (ykc_253 (e := (5, .iaload, 0)) rfl) u1551.1 (by omega) rfl ?_
      refine w_zlt (ykc_253 (e := (4, .ifCond .lt 12, 68)) rfl) rfl (fun b1553 => ?_) (fun q => by exfalso; omega)
      refine w_load (pc' := 69) (v := .ref 170) (m := 1) (ykc_253 (e := (2, .aload_n kF0, 0)) rfl) rfl rfl ?_
      refine w_gf (pc' := 72) (v := .ref 186) (ykc_253 (e := (5, .getfield 77, 0)) rfl) rfl ((u1551.2.1 170 31 (fun q => absurd q.1 (by decide))).trans ((f2.1 170 31 (by decide) (by decide)).trans ((u1522.2.1 170 31 (fun q => absurd q.2 (by decide))).trans ((u1519.2.1 170 31 (fun q => absurd q.1 (by decide))).trans ((f1.1 170 31 (by decide) (by decide)).trans (zsg hS zs_170_31)))))) rfl ?_
      refine w_load (pc' := 73) (v := .int (zn k)) (m := 1) (ykc_253 (e := (2, .iload_n kF1, 0)) rfl) rfl rfl ?_
      refine w_ialk (pc' := 74) (k := k) (ykc_253 (e := (5, .iaload, 0)) rfl) u1551.1 (by omega) rfl ?_
      refine w_zlt (ykc_253 (e := (4, .ifCond .lt 7, 81)) rfl) rfl (fun b1554 => ?_) (fun q => by exfalso; omega)
      refine w_alu (pc' := 82) (st' := [.int (Int32.ofInt 0)]) (ykc_253 (e := (0, .iconst 0, 0)) rfl) rfl rfl ?_
      refine w_ret (v := (some (.int (Int32.ofInt 0)))) (ykc_253 (e := (7, .ireturn, 0)) rfl) zr_z ?_
      rw [hQ, zi0]
      exact ⟨(show zFr [185, 186, 187, 188] [(170, 15), (170, 34)] ph ph1552 from (zFr_trans (zFr_trans (zFr_trans (zFr_trans (zFr_mono f1 (by simp) (by simp)) (zFr_st u1519 (Or.inl (by simp)))) (zFr_st u1522 (Or.inr (by simp)))) (zFr_mono f2 (by simp) (by simp))) (zFr_st u1551 (Or.inl (by simp))))), ((u1551.2.1 170 34 (fun q => absurd q.1 (by decide))).trans ((f2.1 170 34 (by decide) (by decide)).trans u1522.1)), (fun i hi => ⟨((u1551.2.1 185 i (fun q => absurd q.1 (by decide))).trans ((f2.1 185 i (by simp) (by simp)).trans ((u1522.2.1 185 i (fun q => absurd q.1 (by decide))).trans ((u1519.2.1 185 i (fun q => hi q.2)).trans (f1.1 185 i (by simp) (by simp)))))), ((u1551.2.1 186 i (fun q => hi q.2)).trans ((f2.1 186 i (by simp) (by simp)).trans ((u1522.2.1 186 i (fun q => absurd q.1 (by decide))).trans ((u1519.2.1 186 i (fun q => absurd q.1 (by decide))).trans (f1.1 186 i (by simp) (by simp)))))), ((u1551.2.1 187 i (fun q => absurd q.1 (by decide))).trans ((f2.1 187 i (by simp) (by simp)).trans ((u1522.2.1 187 i (fun q => absurd q.1 (by decide))).trans ((u1519.2.1 187 i (fun q => absurd q.1 (by decide))).trans (f1.1 187 i (by simp) (by simp)))))), ((u1551.2.1 188 i (fun q => absurd q.1 (by decide))).trans ((f2.1 188 i (by simp) (by simp)).trans ((u1522.2.1 188 i (fun q => absurd q.1 (by decide))).trans ((u1519.2.1 188 i (fun q => absurd q.1 (by decide))).trans (f1.1 188 i (by simp) (by simp))))))⟩), Or.inr ⟨rfl, a + 1, ⟨hab, Or.inr ⟨0, by omega, rfl, by omega, fun j hj => absurd hj (Nat.not_lt_zero j), fun h => zdi_f (fun q => n1 ⟨h, q⟩)⟩⟩, (zTm_F (zFr_st u1551 (Or.inl (by simp)) : zFr [186] [] _ _) (by simp) (by simp) (by simp) hT1)⟩⟩
    
  · show zW n D 253 Q 17 [some (.ref 170), some (.int (zn k))] [.int (Int32.ofInt (-1)), .int (zn k), .ref 185] ph1518
    refine w_ias (pc' := 18) (k := k) (ykc_253 (e := (5, .iastore, 0)) rfl) (by omega) rfl (fun ph1556 u1555 => ?_)
    refine w_load (pc' := 19) (v := .ref 170) (m := 1) (ykc_253 (e := (2, .aload_n kF0, 0)) rfl) rfl rfl ?_
    refine w_alu (pc' := 20) (st' := [.ref 170, .ref 170]) (ykc_253 (e := (0, .dup, 0)) rfl) rfl rfl ?_
    refine w_gf (pc' := 23) (v := .int (zn k)) (ykc_253 (e := (5, .getfield 392, 0)) rfl) rfl ((u1555.2.1 170 34 (fun q => absurd q.1 (by decide))).trans ((f1.1 170 34 (by decide) (by decide)).trans hk)) rfl ?_
    refine w_alu (pc' := 24) (st' := [.int (Int32.ofInt 1), .int (zn k), .ref 170]) (ykc_253 (e := (0, .iconst 1, 0)) rfl) rfl rfl ?_
    have e1557 : (zn k) + (Int32.ofInt 1) = zn (k + 1) := (zaddN (a := k) (b := 1) (znt (by omega)) c_1 (by omega)) 
    have te1557 := znt (k := k + 1) (by omega)
    refine w_alu (pc' := 25) (st' := [.int (zn (k + 1)), .ref 170]) (ykc_253 (e := (0, .iadd, 0)) rfl) (by rw [← e1557]; rfl) rfl ?_
    refine w_pf (pc' := 28) (ykc_253 (e := (5, .putfield 392, 0)) rfl) rfl rfl (fun ph1559 u1558 => ?_)
    refine w_load (pc' := 29) (v := .ref 170) (m := 1) (ykc_253 (e := (2, .aload_n kF0, 0)) rfl) rfl rfl ?_
    refine w_gf (pc' := 32) (v := .ref 185) (ykc_253 (e := (5, .getfield 74, 0)) rfl) rfl ((u1558.2.1 170 30 (fun q => absurd q.2 (by decide))).trans ((u1555.2.1 170 30 (fun q => absurd q.1 (by decide))).trans ((f1.1 170 30 (by decide) (by decide)).trans (zsg hS zs_170_30)))) rfl ?_
    refine w_load (pc' := 33) (v := .int (zn k)) (m := 1) (ykc_253 (e := (2, .iload_n kF1, 0)) rfl) rfl rfl ?_
    refine w_ialk (pc' := 34) (k := k) (ykc_253 (e := (5, .iaload, 0)) rfl) ((u1558.2.1 185 k (fun q => absurd q.1 (by decide))).trans u1555.1) (by omega) rfl ?_
    refine w_zge (ykc_253 (e := (4, .ifCond .ge 5, 39)) rfl) rfl (fun q => by exfalso; omega) (fun b1560 => ?_)
    refine w_alu (pc' := 38) (st' := [.int (Int32.ofInt 0)]) (ykc_253 (e := (0, .iconst 0, 0)) rfl) rfl rfl ?_
    refine w_ret (v := (some (.int (Int32.ofInt 0)))) (ykc_253 (e := (7, .ireturn, 0)) rfl) zr_z ?_
    rw [hQ, zi0]
    exact ⟨(show zFr [185, 186, 187, 188] [(170, 15), (170, 34)] ph ph1559 from (zFr_trans (zFr_trans (zFr_mono f1 (by simp) (by simp)) (zFr_st u1555 (Or.inl (by simp)))) (zFr_st u1558 (Or.inr (by simp))))), u1558.1, (fun i hi => ⟨((u1558.2.1 185 i (fun q => absurd q.1 (by decide))).trans ((u1555.2.1 185 i (fun q => hi q.2)).trans (f1.1 185 i (by simp) (by simp)))), ((u1558.2.1 186 i (fun q => absurd q.1 (by decide))).trans ((u1555.2.1 186 i (fun q => absurd q.1 (by decide))).trans (f1.1 186 i (by simp) (by simp)))), ((u1558.2.1 187 i (fun q => absurd q.1 (by decide))).trans ((u1555.2.1 187 i (fun q => absurd q.1 (by decide))).trans (f1.1 187 i (by simp) (by simp)))), ((u1558.2.1 188 i (fun q => absurd q.1 (by decide))).trans ((u1555.2.1 188 i (fun q => absurd q.1 (by decide))).trans (f1.1 188 i (by simp) (by simp))))⟩), Or.inr ⟨rfl, a, ⟨hab, Or.inl ⟨rfl, zdw_n (fun k2 hk2 => hn9 hab k2 hk2)⟩⟩, (zTm_F (zFr_st u1558 (Or.inr (by simp)) : zFr [] [(170, 34)] _ _) (by simp) (by simp) (by simp) (zTm_F (zFr_st u1555 (Or.inl (by simp)) : zFr [185] [] _ _) (by simp) (by simp) (by simp) hTa))⟩⟩
  
