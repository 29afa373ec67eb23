/-! acts: faces, steps, trims, puts, by W; printed by wip/z/z_q_acts.py -/
theorem zNr_u {p q : pm_H} {A i x : Nat} {v : Nat → Nat} (u : zst p q A i (.int (zn x))) (h : zNr p A 0 v) : zNr q A 0 (znu v i x) := fun j hj => by
  rw [Nat.zero_add]
  unfold znu
  by_cases e : j = i
  · rw [if_pos e, e]
    exact u.1
  · rw [if_neg e]
    exact (u.2.1 A j (fun q => e q.2)).trans (zNr0 h hj)
theorem zSd_u {p q : pm_H} {S P G a i x : Nat} {v : Nat → Nat} (ha : a = 1 ∨ a = 2 ∨ a = 3 ∨ a = 5) (hi : i < 8) (u : zst p q (S + a) i (.int (zn x))) (h : zSd p S P G v) : zSd q S P G (znu v (8 * (a - 1) + i) x) := by
  obtain ⟨g0, gP, g1, gG, g2, g3, g4⟩ := h
  have k : ∀ b j y, zc p (S + b) j = some (.int (zn (v y))) → 1 ≤ b → j < 8 → y = 8 * (b - 1) + j → zc q (S + b) j = some (.int (zn (znu v (8 * (a - 1) + i) x y))) := by
    intro b j y hy h1 h8 e
    unfold znu
    by_cases e2 : b = a ∧ j = i
    · obtain ⟨rfl, rfl⟩ := e2
      rw [if_pos e]
      exact u.1
    · rw [if_neg (by omega)]
      exact (u.2.1 _ _ (fun q => e2 (by omega))).trans hy
  have k0 : ∀ c, zc q S c = zc p S c := fun c => u.2.1 S c (fun q => by have := q.1; omega)
  refine ⟨(k0 0).trans g0, gP, (k0 1).trans g1, gG, ?_, fun j hj => ⟨k 1 j j (g3 j hj).1 (by omega) (by omega) (by omega), k 2 j (8 + j) (g3 j hj).2.1 (by omega) (by omega) (by omega), k 3 j (16 + j) (g3 j hj).2.2.1 (by omega) (by omega) (by omega), k 4 j (24 + j) (g3 j hj).2.2.2 (by omega) (by omega) (by omega)⟩, fun j hj => k 5 j (32 + j) (g4 j hj) (by omega) (by omega) (by omega)⟩
  unfold znu
  rw [if_neg (by omega)]
  exact (k0 2).trans g2
theorem zm_faces1 {ph : pm_H} {R C P G A : Nat} {rk : Nat → Bool} {v : Nat → Nat} (hS : zSh ph) (hL : zMl ph R C rk) (hN : zMp ph P G) (hA : A = 174 ∨ A = 175) (hv : zNr ph A 0 v) (hO0 : zOk R C P G v) {x y : Int32} : zM 244 [.ref 170, .ref A, .int x, .int y] ph (fun v0 q => ((x.toInt < 0 ∨ (P : Int) ≤ x.toInt ∨ y.toInt < 0 ∨ 8 ≤ y.toInt) ∧ ph = q ∧ v0 = some (.int (Int32.ofInt (-1)))) ∨ (∃ p f, x = zn p ∧ y = zn f ∧ p < P ∧ f < 8 ∧ v0 = some (.int (zn (ze8 (v (8 + p)) f))) ∧ zst ph q A (8 + p) (.int (zn f)))) := by
  obtain ⟨Q, hQ⟩ : ∃ Q : Option Value → pm_H → Prop, Q = (fun v0 q => ((x.toInt < 0 ∨ (P : Int) ≤ x.toInt ∨ y.toInt < 0 ∨ 8 ≤ y.toInt) ∧ ph = q ∧ v0 = some (.int (Int32.ofInt (-1)))) ∨ (∃ p f, x = zn p ∧ y = zn f ∧ p < P ∧ f < 8 ∧ v0 = some (.int (zn (ze8 (v (8 + p)) f))) ∧ zst ph q A (8 + p) (.int (zn f)))) := ⟨_, rfl⟩
  rw [← hQ]
  refine zM_mk fun n D => ?_
  show zW n D 244 Q 0 [some (.ref 170), some (.ref A), some (.int x), some (.int y), none] [] ph
  have c_0 : ((Int8.ofInt 8).toInt32).toInt = 8 := by decide +kernel
  have c_1 : (Int32.ofInt (-1)).toInt = -1 := by decide +kernel
  have hL0 := hL
  have hN0 := hN
  have hx0 := x32_lo x
  have hx1 := x32_hi x
  have hy0 := x32_lo y
  have hy1 := x32_hi y
  obtain ⟨gR, gC, gK, hR3, hR7, hC3, hC7⟩ := hL
  have hRC := zRC49 hR7 hC7
  have tR := znt (k := R) (by omega)
  have tC := znt (k := C) (by omega)
  obtain ⟨gP, hP8, gG, hG8⟩ := hN
  have tP := znt (k := P) (by omega)
  have tG := znt (k := G) (by omega)
  refine w_load (pc' := 1) (v := .ref 170) (m := 1) (ykc_244 (e := (2, .aload_n kF0, 0)) rfl) rfl rfl ?_
  refine w_load (pc' := 2) (v := .int x) (m := 1) (ykc_244 (e := (2, .iload_n kF2, 0)) rfl) rfl rfl ?_
  refine w_cv (as := [.ref 170, .int x]) (r := []) (ykc_244 (e := (6, .invokevirtual 315, 0)) rfl) rfl rfl rfl rfl (zm_isPerson hN0 (p := x)) (fun v862 ph863 hv => ?_)
  obtain ⟨rfl, rfl⟩ := hv
  show zW n D 244 Q 5 [some (.ref 170), some (.ref A), some (.int x), some (.int y), none] [.int (zI (decide (0 ≤ x.toInt ∧ x.toInt < ((P : Nat) : Int))))] ph
  refine w_beq (ykc_244 (e := (4, .ifCond .eq 15, 20)) rfl) rfl (fun b864 => ?_) (fun b864 => ?_)
  · refine w_alu (pc' := 21) (st' := [.int (Int32.ofInt (-1))]) (ykc_244 (e := (0, .iconst (-1), 0)) rfl) rfl rfl ?_
    refine w_ret (v := (some (.int (Int32.ofInt (-1))))) (ykc_244 (e := (7, .ireturn, 0)) rfl) (zr_v rfl) ?_
    have d9 := of_decide_eq_false b864
    rw [hQ]
    exact Or.inl ⟨by omega, rfl, rfl⟩
  · refine w_load (pc' := 9) (v := .int y) (m := 1) (ykc_244 (e := (2, .iload_n kF3, 0)) rfl) rfl rfl ?_
    refine w_alu (pc' := 10) (st' := [.long y.toInt64]) (ykc_244 (e := (0, .i2l, 0)) rfl) rfl rfl ?_
    refine w_alu (pc' := 11) (st' := [.long (Int64.ofNat kG0), .long y.toInt64]) (ykc_244 (e := (0, .lconst kG0, 0)) rfl) rfl rfl ?_
    refine w_push (pc' := 14) (v := .long (7 : Int64)) (m := 3) (ykc_244 (e := (1, .ldc2_w 351, 0)) rfl) rfl rfl ?_
    refine w_cs (as := [.long y.toInt64, .long (Int64.ofNat kG0), .long (7 : Int64)]) (r := []) (ykc_244 (e := (6, .invokestatic 126, 0)) rfl) rfl rfl rfl rfl (zm_in (x := y.toInt) (y := (0 : Int)) (z := (7 : Int)) (by first | exact ztl | (rw [ztl]; omega) | decide | omega) (by first | exact ztl | (rw [ztl]; omega) | decide | omega) (by first | exact ztl | (rw [ztl]; omega) | decide | omega)) (fun v865 ph866 hv => ?_)
    obtain ⟨rfl, rfl⟩ := hv
    show zW n D 244 Q 17 [some (.ref 170), some (.ref A), some (.int x), some (.int y), none] [.int (zI (decide ((0 : Int) ≤ y.toInt ∧ y.toInt ≤ (7 : Int))))] ph
    refine w_bne (ykc_244 (e := (4, .ifCond .ne 5, 22)) rfl) rfl (fun b867 => ?_) (fun b867 => ?_)
    · have db864 := of_decide_eq_true b864
      have db867 := of_decide_eq_true b867
      obtain ⟨p, hp⟩ : ∃ p : Nat, x.toInt = (p : Int) := ⟨x.toInt.toNat, by omega⟩
      obtain rfl := zn_of hp
      obtain ⟨f, hf⟩ : ∃ f : Nat, y.toInt = (f : Int) := ⟨y.toInt.toNat, by omega⟩
      obtain rfl := zn_of hf
      show zW n D 244 Q 22 [some (.ref 170), some (.ref A), some (.int (zn p)), some (.int (zn f)), none] [] ph
      refine w_load (pc' := 23) (v := .ref A) (m := 1) (ykc_244 (e := (2, .aload_n kF1, 0)) rfl) rfl rfl ?_
      refine w_push (pc' := 25) (v := .int ((Int8.ofInt 8).toInt32)) (m := 2) (ykc_244 (e := (1, .bipush 8, 0)) rfl) rfl rfl ?_
      refine w_load (pc' := 26) (v := .int (zn p)) (m := 1) (ykc_244 (e := (2, .iload_n kF2, 0)) rfl) rfl rfl ?_
      have e868 : ((Int8.ofInt 8).toInt32) + (zn p) = zn (8 + p) := (zaddN (a := 8) (b := p) c_0 (znt (by omega)) (by omega)) 
      have te868 := znt (k := 8 + p) (by omega)
      refine w_alu (pc' := 27) (st' := [.int (zn (8 + p)), .ref A]) (ykc_244 (e := (0, .iadd, 0)) rfl) (by rw [← e868]; rfl) rfl ?_
      have q869 := hO0.1 p (by omega)
      have tq869 := znt (k := v (8 + p)) (by omega)
      refine w_ialk (pc' := 28) (k := 8 + p) (ykc_244 (e := (5, .iaload, 0)) rfl) (zNr0 hv (i := 8 + p) (by omega)) (by omega) rfl ?_
      refine w_load (pc' := 29) (v := .int (zn f)) (m := 1) (ykc_244 (e := (2, .iload_n kF3, 0)) rfl) rfl rfl ?_
      refine w_cs (as := [.int (zn (v (8 + p))), .int (zn f)]) (r := []) (ykc_244 (e := (6, .invokestatic 285, 0)) rfl) rfl rfl rfl rfl (zm_e8 (a := v (8 + p)) (b := f) (by omega) (by omega) (by omega) (by omega)) (fun v870 ph871 hv => ?_)
      obtain ⟨rfl, rfl⟩ := hv
      have te := znt (k := ze8 (v (8 + p)) f) (by unfold ze8; omega)
      show zW n D 244 Q 32 [some (.ref 170), some (.ref A), some (.int (zn p)), some (.int (zn f)), none] [.int (zn (ze8 (v (8 + p)) f))] ph
      refine w_store (pc' := 34) (L' := [some (.ref 170), some (.ref A), some (.int (zn p)), some (.int (zn f)), some (.int (zn (ze8 (v (8 + p)) f)))]) (st' := []) (m := 2) (ykc_244 (e := (3, .istore 4, 0)) rfl) rfl rfl ?_
      refine w_load (pc' := 35) (v := .ref A) (m := 1) (ykc_244 (e := (2, .aload_n kF1, 0)) rfl) rfl rfl ?_
      refine w_push (pc' := 37) (v := .int ((Int8.ofInt 8).toInt32)) (m := 2) (ykc_244 (e := (1, .bipush 8, 0)) rfl) rfl rfl ?_
      refine w_load (pc' := 38) (v := .int (zn p)) (m := 1) (ykc_244 (e := (2, .iload_n kF2, 0)) rfl) rfl rfl ?_
      have e872 : ((Int8.ofInt 8).toInt32) + (zn p) = zn (8 + p) := (zaddN (a := 8) (b := p) c_0 (znt (by omega)) (by omega)) 
      have te872 := znt (k := 8 + p) (by omega)
      refine w_alu (pc' := 39) (st' := [.int (zn (8 + p)), .ref A]) (ykc_244 (e := (0, .iadd, 0)) rfl) (by rw [← e872]; rfl) rfl ?_
      refine w_load (pc' := 40) (v := .int (zn f)) (m := 1) (ykc_244 (e := (2, .iload_n kF3, 0)) rfl) rfl rfl ?_
      refine w_ias (pc' := 41) (k := 8 + p) (ykc_244 (e := (5, .iastore, 0)) rfl) (by omega) rfl (fun ph874 u873 => ?_)
      refine w_load (pc' := 43) (v := .int (zn (ze8 (v (8 + p)) f))) (m := 2) (ykc_244 (e := (2, .iload 4, 0)) rfl) rfl rfl ?_
      refine w_ret (v := (some (.int (zn (ze8 (v (8 + p)) f))))) (ykc_244 (e := (7, .ireturn, 0)) rfl) (zr_v rfl) ?_
      rw [hQ]
      exact Or.inr ⟨p, f, rfl, rfl, by omega, by omega, rfl, u873⟩
    · refine w_alu (pc' := 21) (st' := [.int (Int32.ofInt (-1))]) (ykc_244 (e := (0, .iconst (-1), 0)) rfl) rfl rfl ?_
      refine w_ret (v := (some (.int (Int32.ofInt (-1))))) (ykc_244 (e := (7, .ireturn, 0)) rfl) (zr_v rfl) ?_
      have d9 := of_decide_eq_false b867
      rw [hQ]
      exact Or.inl ⟨by omega, rfl, rfl⟩
theorem zm_steps1 {ph : pm_H} {R C P G A : Nat} {rk : Nat → Bool} {v : Nat → Nat} (hS : zSh ph) (hL : zMl ph R C rk) (hN : zMp ph P G) (hA : A = 174 ∨ A = 175) (hv : zNr ph A 0 v) (hO0 : zOk R C P G v) {x y : Int32} : zM 245 [.ref 170, .ref A, .int x, .int y] ph (fun v0 q => ((x.toInt < 0 ∨ (P : Int) ≤ x.toInt ∨ y.toInt < 0 ∨ 8 ≤ y.toInt) ∧ ph = q ∧ v0 = some (.int (Int32.ofInt (-1)))) ∨ (∃ p f, x = zn p ∧ y = zn f ∧ p < P ∧ f < 8 ∧ ((zbk R C rk (v p) f = -1 ∧ ph = q ∧ v0 = some (.int (Int8.ofInt (-2)).toInt32)) ∨ (∃ g, g < R * C ∧ zbk R C rk (v p) f = (g : Nat) ∧ v0 = some (.int (zn g)) ∧ zst ph q A p (.int (zn g)))))) := by
  obtain ⟨Q, hQ⟩ : ∃ Q : Option Value → pm_H → Prop, Q = (fun v0 q => ((x.toInt < 0 ∨ (P : Int) ≤ x.toInt ∨ y.toInt < 0 ∨ 8 ≤ y.toInt) ∧ ph = q ∧ v0 = some (.int (Int32.ofInt (-1)))) ∨ (∃ p f, x = zn p ∧ y = zn f ∧ p < P ∧ f < 8 ∧ ((zbk R C rk (v p) f = -1 ∧ ph = q ∧ v0 = some (.int (Int8.ofInt (-2)).toInt32)) ∨ (∃ g, g < R * C ∧ zbk R C rk (v p) f = (g : Nat) ∧ v0 = some (.int (zn g)) ∧ zst ph q A p (.int (zn g)))))) := ⟨_, rfl⟩
  rw [← hQ]
  refine zM_mk fun n D => ?_
  show zW n D 245 Q 0 [some (.ref 170), some (.ref A), some (.int x), some (.int y), none] [] ph
  have c_0 : ((Int8.ofInt (-2)).toInt32).toInt = -2 := by decide +kernel
  have c_1 : (Int32.ofInt (-1)).toInt = -1 := by decide +kernel
  have hL0 := hL
  have hN0 := hN
  have hx0 := x32_lo x
  have hx1 := x32_hi x
  have hy0 := x32_lo y
  have hy1 := x32_hi y
  obtain ⟨gR, gC, gK, hR3, hR7, hC3, hC7⟩ := hL
  have hRC := zRC49 hR7 hC7
  have tR := znt (k := R) (by omega)
  have tC := znt (k := C) (by omega)
  obtain ⟨gP, hP8, gG, hG8⟩ := hN
  have tP := znt (k := P) (by omega)
  have tG := znt (k := G) (by omega)
  refine w_load (pc' := 1) (v := .ref 170) (m := 1) (ykc_245 (e := (2, .aload_n kF0, 0)) rfl) rfl rfl ?_
  refine w_load (pc' := 2) (v := .int x) (m := 1) (ykc_245 (e := (2, .iload_n kF2, 0)) rfl) rfl rfl ?_
  refine w_cv (as := [.ref 170, .int x]) (r := []) (ykc_245 (e := (6, .invokevirtual 315, 0)) rfl) rfl rfl rfl rfl (zm_isPerson hN0 (p := x)) (fun v875 ph876 hv => ?_)
  obtain ⟨rfl, rfl⟩ := hv
  show zW n D 245 Q 5 [some (.ref 170), some (.ref A), some (.int x), some (.int y), none] [.int (zI (decide (0 ≤ x.toInt ∧ x.toInt < ((P : Nat) : Int))))] ph
  refine w_beq (ykc_245 (e := (4, .ifCond .eq 15, 20)) rfl) rfl (fun b877 => ?_) (fun b877 => ?_)
  · refine w_alu (pc' := 21) (st' := [.int (Int32.ofInt (-1))]) (ykc_245 (e := (0, .iconst (-1), 0)) rfl) rfl rfl ?_
    refine w_ret (v := (some (.int (Int32.ofInt (-1))))) (ykc_245 (e := (7, .ireturn, 0)) rfl) (zr_v rfl) ?_
    have d9 := of_decide_eq_false b877
    rw [hQ]
    exact Or.inl ⟨by omega, rfl, rfl⟩
  · refine w_load (pc' := 9) (v := .int y) (m := 1) (ykc_245 (e := (2, .iload_n kF3, 0)) rfl) rfl rfl ?_
    refine w_alu (pc' := 10) (st' := [.long y.toInt64]) (ykc_245 (e := (0, .i2l, 0)) rfl) rfl rfl ?_
    refine w_alu (pc' := 11) (st' := [.long (Int64.ofNat kG0), .long y.toInt64]) (ykc_245 (e := (0, .lconst kG0, 0)) rfl) rfl rfl ?_
    refine w_push (pc' := 14) (v := .long (7 : Int64)) (m := 3) (ykc_245 (e := (1, .ldc2_w 351, 0)) rfl) rfl rfl ?_
    refine w_cs (as := [.long y.toInt64, .long (Int64.ofNat kG0), .long (7 : Int64)]) (r := []) (ykc_245 (e := (6, .invokestatic 126, 0)) rfl) rfl rfl rfl rfl (zm_in (x := y.toInt) (y := (0 : Int)) (z := (7 : Int)) (by first | exact ztl | (rw [ztl]; omega) | decide | omega) (by first | exact ztl | (rw [ztl]; omega) | decide | omega) (by first | exact ztl | (rw [ztl]; omega) | decide | omega)) (fun v878 ph879 hv => ?_)
    obtain ⟨rfl, rfl⟩ := hv
    show zW n D 245 Q 17 [some (.ref 170), some (.ref A), some (.int x), some (.int y), none] [.int (zI (decide ((0 : Int) ≤ y.toInt ∧ y.toInt ≤ (7 : Int))))] ph
    refine w_bne (ykc_245 (e := (4, .ifCond .ne 5, 22)) rfl) rfl (fun b880 => ?_) (fun b880 => ?_)
    · have db877 := of_decide_eq_true b877
      have db880 := of_decide_eq_true b880
      obtain ⟨p, hp⟩ : ∃ p : Nat, x.toInt = (p : Int) := ⟨x.toInt.toNat, by omega⟩
      obtain rfl := zn_of hp
      obtain ⟨f, hf⟩ : ∃ f : Nat, y.toInt = (f : Int) := ⟨y.toInt.toNat, by omega⟩
      obtain rfl := zn_of hf
      show zW n D 245 Q 22 [some (.ref 170), some (.ref A), some (.int (zn p)), some (.int (zn f)), none] [] ph
      refine w_load (pc' := 23) (v := .ref 170) (m := 1) (ykc_245 (e := (2, .aload_n kF0, 0)) rfl) rfl rfl ?_
      refine w_load (pc' := 24) (v := .ref A) (m := 1) (ykc_245 (e := (2, .aload_n kF1, 0)) rfl) rfl rfl ?_
      refine w_load (pc' := 25) (v := .int (zn p)) (m := 1) (ykc_245 (e := (2, .iload_n kF2, 0)) rfl) rfl rfl ?_
      have q881 := hO0.1 p (by omega)
      have tq881 := znt (k := v p) (by omega)
      refine w_ialk (pc' := 26) (k := p) (ykc_245 (e := (5, .iaload, 0)) rfl) (zNr0 hv (i := p) (by omega)) (by omega) rfl ?_
      refine w_load (pc' := 27) (v := .int (zn f)) (m := 1) (ykc_245 (e := (2, .iload_n kF3, 0)) rfl) rfl rfl ?_
      refine w_cv (as := [.ref 170, .int (zn (v p)), .int (zn f)]) (r := []) (ykc_245 (e := (6, .invokevirtual 353, 0)) rfl) rfl rfl rfl rfl (zm_beside hS hL0 (f := v p) (w := f) (by omega) (by omega)) (fun v883 ph884 hv => ?_)
      obtain ⟨rfl, g882, rfl, hz_g882⟩ := hv
      have hb_g882 := @zbf_b R C (v p) f
      show zW n D 245 Q 30 [some (.ref 170), some (.ref A), some (.int (zn p)), some (.int (zn f)), none] [.int g882] ph
      refine w_store (pc' := 32) (L' := [some (.ref 170), some (.ref A), some (.int (zn p)), some (.int (zn f)), some (.int g882)]) (st' := []) (m := 2) (ykc_245 (e := (3, .istore 4, 0)) rfl) rfl rfl ?_
      refine w_load (pc' := 34) (v := .int g882) (m := 2) (ykc_245 (e := (2, .iload 4, 0)) rfl) rfl rfl ?_
      refine w_zlt (ykc_245 (e := (4, .ifCond .lt 13, 47)) rfl) rfl (fun b885 => ?_) (fun b885 => ?_)
      · refine w_push (pc' := 49) (v := .int ((Int8.ofInt (-2)).toInt32)) (m := 2) (ykc_245 (e := (1, .bipush (-2), 0)) rfl) rfl rfl ?_
        refine w_ret (v := (some (.int ((Int8.ofInt (-2)).toInt32)))) (ykc_245 (e := (7, .ireturn, 0)) rfl) (zr_v rfl) ?_
        have hin : ¬ zin R C (v p) f = true := by
          intro q
          have h9 : zbf R C (v p) f = (zto C (v p) f : Nat) := if_pos q
          omega
        have hb9 : zbk R C rk (v p) f = -1 := if_neg (fun q => hin q.1)
        rw [hQ]
        exact Or.inr ⟨p, f, rfl, rfl, by omega, by omega, Or.inl ⟨hb9, rfl, rfl⟩⟩
      · have hin : zin R C (v p) f = true := by
          apply Classical.byContradiction
          intro q
          have h9 : zbf R C (v p) f = -1 := if_neg q
          omega
        have hz9 : zbf R C (v p) f = (zto C (v p) f : Nat) := if_pos hin
        have hlt := zto_lt hin
        obtain rfl := zn_of (k := zto C (v p) f) (x := g882) (by omega)
        have tto := znt (k := zto C (v p) f) (by omega)
        show zW n D 245 Q 37 [some (.ref 170), some (.ref A), some (.int (zn p)), some (.int (zn f)), some (.int (zn (zto C (v p) f)))] [] ph
        refine w_load (pc' := 38) (v := .ref 170) (m := 1) (ykc_245 (e := (2, .aload_n kF0, 0)) rfl) rfl rfl ?_
        refine w_gf (pc' := 41) (v := .ref 172) (ykc_245 (e := (5, .getfield 33, 0)) rfl) rfl (zsg hS zs_170_9) rfl ?_
        refine w_load (pc' := 43) (v := .int (zn (zto C (v p) f))) (m := 2) (ykc_245 (e := (2, .iload 4, 0)) rfl) rfl rfl ?_
        refine w_balk (pc' := 44) (k := zto C (v p) f) (ykc_245 (e := (5, .baload, 0)) rfl) (gK (zto C (v p) f) (by omega)) (by omega) rfl ?_
        refine w_beq (ykc_245 (e := (4, .ifCond .eq 6, 50)) rfl) rfl (fun b886 => ?_) (fun b886 => ?_)
        · refine w_load (pc' := 51) (v := .ref A) (m := 1) (ykc_245 (e := (2, .aload_n kF1, 0)) rfl) rfl rfl ?_
          refine w_load (pc' := 52) (v := .int (zn p)) (m := 1) (ykc_245 (e := (2, .iload_n kF2, 0)) rfl) rfl rfl ?_
          refine w_load (pc' := 54) (v := .int (zn (zto C (v p) f))) (m := 2) (ykc_245 (e := (2, .iload 4, 0)) rfl) rfl rfl ?_
          refine w_ias (pc' := 55) (k := p) (ykc_245 (e := (5, .iastore, 0)) rfl) (by omega) rfl (fun ph888 u887 => ?_)
          refine w_load (pc' := 57) (v := .int (zn (zto C (v p) f))) (m := 2) (ykc_245 (e := (2, .iload 4, 0)) rfl) rfl rfl ?_
          refine w_ret (v := (some (.int (zn (zto C (v p) f))))) (ykc_245 (e := (7, .ireturn, 0)) rfl) (zr_v rfl) ?_
          have hb9 : zbk R C rk (v p) f = (zto C (v p) f : Nat) := if_pos ⟨hin, b886⟩
          rw [hQ]
          exact Or.inr ⟨p, f, rfl, rfl, by omega, by omega, Or.inr ⟨_, hlt, hb9, rfl, u887⟩⟩
        · refine w_push (pc' := 49) (v := .int ((Int8.ofInt (-2)).toInt32)) (m := 2) (ykc_245 (e := (1, .bipush (-2), 0)) rfl) rfl rfl ?_
          refine w_ret (v := (some (.int ((Int8.ofInt (-2)).toInt32)))) (ykc_245 (e := (7, .ireturn, 0)) rfl) (zr_v rfl) ?_
          have hb9 : zbk R C rk (v p) f = -1 := if_neg (fun q => by rw [b886] at q; exact absurd q.2 (by first | exact Nat.ne_of_beq_eq_false rfl | decide))
          rw [hQ]
          exact Or.inr ⟨p, f, rfl, rfl, by omega, by omega, Or.inl ⟨hb9, rfl, rfl⟩⟩
    · refine w_alu (pc' := 21) (st' := [.int (Int32.ofInt (-1))]) (ykc_245 (e := (0, .iconst (-1), 0)) rfl) rfl rfl ?_
      refine w_ret (v := (some (.int (Int32.ofInt (-1))))) (ykc_245 (e := (7, .ireturn, 0)) rfl) (zr_v rfl) ?_
      have d9 := of_decide_eq_false b880
      rw [hQ]
      exact Or.inl ⟨by omega, rfl, rfl⟩
theorem zm_trims1 {ph : pm_H} {R C P G : Nat} {rk : Nat → Bool} {v : Nat → Nat} (hS : zSh ph) (hL : zMl ph R C rk) (hN : zMp ph P G) (hv : zNr ph 174 0 v) (hO0 : zOk R C P G v) {x y : Int32} : zM 246 [.ref 170, .int x, .int y] ph (fun v0 q => ((x.toInt < 0 ∨ (P : Int) ≤ x.toInt ∨ y.toInt < 0 ∨ 5 ≤ y.toInt) ∧ ph = q ∧ v0 = some (.int (Int32.ofInt (-1)))) ∨ (∃ p f, x = zn p ∧ y = zn f ∧ p < P ∧ f ≤ 4 ∧ v0 = some (.int (zn (v (16 + p)))) ∧ zst ph q 174 (16 + p) (.int (zn f)))) := by
  obtain ⟨Q, hQ⟩ : ∃ Q : Option Value → pm_H → Prop, Q = (fun v0 q => ((x.toInt < 0 ∨ (P : Int) ≤ x.toInt ∨ y.toInt < 0 ∨ 5 ≤ y.toInt) ∧ ph = q ∧ v0 = some (.int (Int32.ofInt (-1)))) ∨ (∃ p f, x = zn p ∧ y = zn f ∧ p < P ∧ f ≤ 4 ∧ v0 = some (.int (zn (v (16 + p)))) ∧ zst ph q 174 (16 + p) (.int (zn f)))) := ⟨_, rfl⟩
  rw [← hQ]
  refine zM_mk fun n D => ?_
  show zW n D 246 Q 0 [some (.ref 170), some (.int x), some (.int y), none] [] ph
  have c_0 : ((Int8.ofInt 16).toInt32).toInt = 16 := by decide +kernel
  have c_1 : (Int32.ofInt (-1)).toInt = -1 := by decide +kernel
  have hL0 := hL
  have hN0 := hN
  have hx0 := x32_lo x
  have hx1 := x32_hi x
  have hy0 := x32_lo y
  have hy1 := x32_hi y
  obtain ⟨gR, gC, gK, hR3, hR7, hC3, hC7⟩ := hL
  have hRC := zRC49 hR7 hC7
  have tR := znt (k := R) (by omega)
  have tC := znt (k := C) (by omega)
  obtain ⟨gP, hP8, gG, hG8⟩ := hN
  have tP := znt (k := P) (by omega)
  have tG := znt (k := G) (by omega)
  refine w_load (pc' := 1) (v := .ref 170) (m := 1) (ykc_246 (e := (2, .aload_n kF0, 0)) rfl) rfl rfl ?_
  refine w_load (pc' := 2) (v := .int x) (m := 1) (ykc_246 (e := (2, .iload_n kF1, 0)) rfl) rfl rfl ?_
  refine w_cv (as := [.ref 170, .int x]) (r := []) (ykc_246 (e := (6, .invokevirtual 315, 0)) rfl) rfl rfl rfl rfl (zm_isPerson hN0 (p := x)) (fun v889 ph890 hv => ?_)
  obtain ⟨rfl, rfl⟩ := hv
  show zW n D 246 Q 5 [some (.ref 170), some (.int x), some (.int y), none] [.int (zI (decide (0 ≤ x.toInt ∧ x.toInt < ((P : Nat) : Int))))] ph
  refine w_beq (ykc_246 (e := (4, .ifCond .eq 15, 20)) rfl) rfl (fun b891 => ?_) (fun b891 => ?_)
  · refine w_alu (pc' := 21) (st' := [.int (Int32.ofInt (-1))]) (ykc_246 (e := (0, .iconst (-1), 0)) rfl) rfl rfl ?_
    refine w_ret (v := (some (.int (Int32.ofInt (-1))))) (ykc_246 (e := (7, .ireturn, 0)) rfl) (zr_v rfl) ?_
    have d9 := of_decide_eq_false b891
    rw [hQ]
    exact Or.inl ⟨by omega, rfl, rfl⟩
  · refine w_load (pc' := 9) (v := .int y) (m := 1) (ykc_246 (e := (2, .iload_n kF2, 0)) rfl) rfl rfl ?_
    refine w_alu (pc' := 10) (st' := [.long y.toInt64]) (ykc_246 (e := (0, .i2l, 0)) rfl) rfl rfl ?_
    refine w_alu (pc' := 11) (st' := [.long (Int64.ofNat kG0), .long y.toInt64]) (ykc_246 (e := (0, .lconst kG0, 0)) rfl) rfl rfl ?_
    refine w_push (pc' := 14) (v := .long (4 : Int64)) (m := 3) (ykc_246 (e := (1, .ldc2_w 356, 0)) rfl) rfl rfl ?_
    refine w_cs (as := [.long y.toInt64, .long (Int64.ofNat kG0), .long (4 : Int64)]) (r := []) (ykc_246 (e := (6, .invokestatic 126, 0)) rfl) rfl rfl rfl rfl (zm_in (x := y.toInt) (y := (0 : Int)) (z := (4 : Int)) (by first | exact ztl | (rw [ztl]; omega) | decide | omega) (by first | exact ztl | (rw [ztl]; omega) | decide | omega) (by first | exact ztl | (rw [ztl]; omega) | decide | omega)) (fun v892 ph893 hv => ?_)
    obtain ⟨rfl, rfl⟩ := hv
    show zW n D 246 Q 17 [some (.ref 170), some (.int x), some (.int y), none] [.int (zI (decide ((0 : Int) ≤ y.toInt ∧ y.toInt ≤ (4 : Int))))] ph
    refine w_bne (ykc_246 (e := (4, .ifCond .ne 5, 22)) rfl) rfl (fun b894 => ?_) (fun b894 => ?_)
    · have db891 := of_decide_eq_true b891
      have db894 := of_decide_eq_true b894
      obtain ⟨p, hp⟩ : ∃ p : Nat, x.toInt = (p : Int) := ⟨x.toInt.toNat, by omega⟩
      obtain rfl := zn_of hp
      obtain ⟨f, hf⟩ : ∃ f : Nat, y.toInt = (f : Int) := ⟨y.toInt.toNat, by omega⟩
      obtain rfl := zn_of hf
      show zW n D 246 Q 22 [some (.ref 170), some (.int (zn p)), some (.int (zn f)), none] [] ph
      refine w_load (pc' := 23) (v := .ref 170) (m := 1) (ykc_246 (e := (2, .aload_n kF0, 0)) rfl) rfl rfl ?_
      refine w_gf (pc' := 26) (v := .ref 174) (ykc_246 (e := (5, .getfield 41, 0)) rfl) rfl (zsg hS zs_170_11) rfl ?_
      refine w_push (pc' := 28) (v := .int ((Int8.ofInt 16).toInt32)) (m := 2) (ykc_246 (e := (1, .bipush 16, 0)) rfl) rfl rfl ?_
      refine w_load (pc' := 29) (v := .int (zn p)) (m := 1) (ykc_246 (e := (2, .iload_n kF1, 0)) rfl) rfl rfl ?_
      have e895 : ((Int8.ofInt 16).toInt32) + (zn p) = zn (16 + p) := (zaddN (a := 16) (b := p) c_0 (znt (by omega)) (by omega)) 
      have te895 := znt (k := 16 + p) (by omega)
      refine w_alu (pc' := 30) (st' := [.int (zn (16 + p)), .ref 174]) (ykc_246 (e := (0, .iadd, 0)) rfl) (by rw [← e895]; rfl) rfl ?_
      have q896 := hO0.1 p (by omega)
      have tq896 := znt (k := v (16 + p)) (by omega)
      refine w_ialk (pc' := 31) (k := 16 + p) (ykc_246 (e := (5, .iaload, 0)) rfl) (zNr0 hv (i := 16 + p) (by omega)) (by omega) rfl ?_
      refine w_store (pc' := 32) (L' := [some (.ref 170), some (.int (zn p)), some (.int (zn f)), some (.int (zn (v (16 + p))))]) (st' := []) (m := 1) (ykc_246 (e := (3, .istore_n kF3, 0)) rfl) rfl rfl ?_
      refine w_load (pc' := 33) (v := .ref 170) (m := 1) (ykc_246 (e := (2, .aload_n kF0, 0)) rfl) rfl rfl ?_
      refine w_gf (pc' := 36) (v := .ref 174) (ykc_246 (e := (5, .getfield 41, 0)) rfl) rfl (zsg hS zs_170_11) rfl ?_
      refine w_push (pc' := 38) (v := .int ((Int8.ofInt 16).toInt32)) (m := 2) (ykc_246 (e := (1, .bipush 16, 0)) rfl) rfl rfl ?_
      refine w_load (pc' := 39) (v := .int (zn p)) (m := 1) (ykc_246 (e := (2, .iload_n kF1, 0)) rfl) rfl rfl ?_
      have e897 : ((Int8.ofInt 16).toInt32) + (zn p) = zn (16 + p) := (zaddN (a := 16) (b := p) c_0 (znt (by omega)) (by omega)) 
      have te897 := znt (k := 16 + p) (by omega)
      refine w_alu (pc' := 40) (st' := [.int (zn (16 + p)), .ref 174]) (ykc_246 (e := (0, .iadd, 0)) rfl) (by rw [← e897]; rfl) rfl ?_
      refine w_load (pc' := 41) (v := .int (zn f)) (m := 1) (ykc_246 (e := (2, .iload_n kF2, 0)) rfl) rfl rfl ?_
      refine w_ias (pc' := 42) (k := 16 + p) (ykc_246 (e := (5, .iastore, 0)) rfl) (by omega) rfl (fun ph899 u898 => ?_)
      refine w_load (pc' := 43) (v := .int (zn (v (16 + p)))) (m := 1) (ykc_246 (e := (2, .iload_n kF3, 0)) rfl) rfl rfl ?_
      refine w_ret (v := (some (.int (zn (v (16 + p)))))) (ykc_246 (e := (7, .ireturn, 0)) rfl) (zr_v rfl) ?_
      rw [hQ]
      exact Or.inr ⟨p, f, rfl, rfl, by omega, by omega, rfl, u898⟩
    · refine w_alu (pc' := 21) (st' := [.int (Int32.ofInt (-1))]) (ykc_246 (e := (0, .iconst (-1), 0)) rfl) rfl rfl ?_
      refine w_ret (v := (some (.int (Int32.ofInt (-1))))) (ykc_246 (e := (7, .ireturn, 0)) rfl) (zr_v rfl) ?_
      have d9 := of_decide_eq_false b894
      rw [hQ]
      exact Or.inl ⟨by omega, rfl, rfl⟩
theorem zm_puts1 {ph : pm_H} {R C P G : Nat} {rk : Nat → Bool} {v : Nat → Nat} (hS : zSh ph) (hL : zMl ph R C rk) (hN : zMp ph P G) (hv : zNr ph 174 0 v) (hO0 : zOk R C P G v) {x y : Int32} : zM 247 [.ref 170, .int x, .int y] ph (fun v0 q => ((x.toInt < 0 ∨ (G : Int) ≤ x.toInt ∨ y.toInt < 0 ∨ ((R * C : Nat) : Int) ≤ y.toInt) ∧ ph = q ∧ v0 = some (.int (Int32.ofInt (-1)))) ∨ (∃ p f, x = zn p ∧ y = zn f ∧ p < G ∧ f < R * C ∧ zst ph q 174 (32 + p) (.int (zn f)) ∧ ((v (32 + p) = f ∧ v0 = some (.int (Int8.ofInt (-2)).toInt32)) ∨ (v (32 + p) ≠ f ∧ v0 = some (.int (zn (v (32 + p)))))))) := by
  obtain ⟨Q, hQ⟩ : ∃ Q : Option Value → pm_H → Prop, Q = (fun v0 q => ((x.toInt < 0 ∨ (G : Int) ≤ x.toInt ∨ y.toInt < 0 ∨ ((R * C : Nat) : Int) ≤ y.toInt) ∧ ph = q ∧ v0 = some (.int (Int32.ofInt (-1)))) ∨ (∃ p f, x = zn p ∧ y = zn f ∧ p < G ∧ f < R * C ∧ zst ph q 174 (32 + p) (.int (zn f)) ∧ ((v (32 + p) = f ∧ v0 = some (.int (Int8.ofInt (-2)).toInt32)) ∨ (v (32 + p) ≠ f ∧ v0 = some (.int (zn (v (32 + p)))))))) := ⟨_, rfl⟩
  rw [← hQ]
  refine zM_mk fun n D => ?_
  show zW n D 247 Q 0 [some (.ref 170), some (.int x), some (.int y), none] [] ph
  have c_0 : ((Int8.ofInt (-2)).toInt32).toInt = -2 := by decide +kernel
  have c_1 : ((Int8.ofInt 32).toInt32).toInt = 32 := by decide +kernel
  have c_2 : (Int32.ofInt (-1)).toInt = -1 := by decide +kernel
  have hL0 := hL
  have hN0 := hN
  have hx0 := x32_lo x
  have hx1 := x32_hi x
  have hy0 := x32_lo y
  have hy1 := x32_hi y
  obtain ⟨gR, gC, gK, hR3, hR7, hC3, hC7⟩ := hL
  have hRC := zRC49 hR7 hC7
  have tR := znt (k := R) (by omega)
  have tC := znt (k := C) (by omega)
  obtain ⟨gP, hP8, gG, hG8⟩ := hN
  have tP := znt (k := P) (by omega)
  have tG := znt (k := G) (by omega)
  refine w_load (pc' := 1) (v := .ref 170) (m := 1) (ykc_247 (e := (2, .aload_n kF0, 0)) rfl) rfl rfl ?_
  refine w_load (pc' := 2) (v := .int x) (m := 1) (ykc_247 (e := (2, .iload_n kF1, 0)) rfl) rfl rfl ?_
  refine w_cv (as := [.ref 170, .int x]) (r := []) (ykc_247 (e := (6, .invokevirtual 327, 0)) rfl) rfl rfl rfl rfl (zm_isThing hN0 (t := x)) (fun v900 ph901 hv => ?_)
  obtain ⟨rfl, rfl⟩ := hv
  show zW n D 247 Q 5 [some (.ref 170), some (.int x), some (.int y), none] [.int (zI (decide (0 ≤ x.toInt ∧ x.toInt < ((G : Nat) : Int))))] ph
  refine w_beq (ykc_247 (e := (4, .ifCond .eq 11, 16)) rfl) rfl (fun b902 => ?_) (fun b902 => ?_)
  · refine w_alu (pc' := 17) (st' := [.int (Int32.ofInt (-1))]) (ykc_247 (e := (0, .iconst (-1), 0)) rfl) rfl rfl ?_
    refine w_ret (v := (some (.int (Int32.ofInt (-1))))) (ykc_247 (e := (7, .ireturn, 0)) rfl) (zr_v rfl) ?_
    have d9 := of_decide_eq_false b902
    rw [hQ]
    exact Or.inl ⟨by omega, rfl, rfl⟩
  · refine w_load (pc' := 9) (v := .ref 170) (m := 1) (ykc_247 (e := (2, .aload_n kF0, 0)) rfl) rfl rfl ?_
    refine w_load (pc' := 10) (v := .int y) (m := 1) (ykc_247 (e := (2, .iload_n kF2, 0)) rfl) rfl rfl ?_
    refine w_cv (as := [.ref 170, .int y]) (r := []) (ykc_247 (e := (6, .invokevirtual 358, 0)) rfl) rfl rfl rfl rfl (zm_isField hS hL0 (f := y)) (fun v903 ph904 hv => ?_)
    obtain ⟨rfl, rfl⟩ := hv
    show zW n D 247 Q 13 [some (.ref 170), some (.int x), some (.int y), none] [.int (zI (decide (0 ≤ y.toInt ∧ y.toInt < ((R * C : Nat) : Int))))] ph
    refine w_bne (ykc_247 (e := (4, .ifCond .ne 5, 18)) rfl) rfl (fun b905 => ?_) (fun b905 => ?_)
    · have db902 := of_decide_eq_true b902
      have db905 := of_decide_eq_true b905
      obtain ⟨p, hp⟩ : ∃ p : Nat, x.toInt = (p : Int) := ⟨x.toInt.toNat, by omega⟩
      obtain rfl := zn_of hp
      obtain ⟨f, hf⟩ : ∃ f : Nat, y.toInt = (f : Int) := ⟨y.toInt.toNat, by omega⟩
      obtain rfl := zn_of hf
      show zW n D 247 Q 18 [some (.ref 170), some (.int (zn p)), some (.int (zn f)), none] [] ph
      refine w_load (pc' := 19) (v := .ref 170) (m := 1) (ykc_247 (e := (2, .aload_n kF0, 0)) rfl) rfl rfl ?_
      refine w_gf (pc' := 22) (v := .ref 174) (ykc_247 (e := (5, .getfield 41, 0)) rfl) rfl (zsg hS zs_170_11) rfl ?_
      refine w_push (pc' := 24) (v := .int ((Int8.ofInt 32).toInt32)) (m := 2) (ykc_247 (e := (1, .bipush 32, 0)) rfl) rfl rfl ?_
      refine w_load (pc' := 25) (v := .int (zn p)) (m := 1) (ykc_247 (e := (2, .iload_n kF1, 0)) rfl) rfl rfl ?_
      have e906 : ((Int8.ofInt 32).toInt32) + (zn p) = zn (32 + p) := (zaddN (a := 32) (b := p) c_1 (znt (by omega)) (by omega)) 
      have te906 := znt (k := 32 + p) (by omega)
      refine w_alu (pc' := 26) (st' := [.int (zn (32 + p)), .ref 174]) (ykc_247 (e := (0, .iadd, 0)) rfl) (by rw [← e906]; rfl) rfl ?_
      have q907 := hO0.2.1 p (by omega)
      have tq907 := znt (k := v (32 + p)) (by omega)
      refine w_ialk (pc' := 27) (k := 32 + p) (ykc_247 (e := (5, .iaload, 0)) rfl) (zNr0 hv (i := 32 + p) (by omega)) (by omega) rfl ?_
      refine w_store (pc' := 28) (L' := [some (.ref 170), some (.int (zn p)), some (.int (zn f)), some (.int (zn (v (32 + p))))]) (st' := []) (m := 1) (ykc_247 (e := (3, .istore_n kF3, 0)) rfl) rfl rfl ?_
      refine w_load (pc' := 29) (v := .ref 170) (m := 1) (ykc_247 (e := (2, .aload_n kF0, 0)) rfl) rfl rfl ?_
      refine w_gf (pc' := 32) (v := .ref 174) (ykc_247 (e := (5, .getfield 41, 0)) rfl) rfl (zsg hS zs_170_11) rfl ?_
      refine w_push (pc' := 34) (v := .int ((Int8.ofInt 32).toInt32)) (m := 2) (ykc_247 (e := (1, .bipush 32, 0)) rfl) rfl rfl ?_
      refine w_load (pc' := 35) (v := .int (zn p)) (m := 1) (ykc_247 (e := (2, .iload_n kF1, 0)) rfl) rfl rfl ?_
      have e908 : ((Int8.ofInt 32).toInt32) + (zn p) = zn (32 + p) := (zaddN (a := 32) (b := p) c_1 (znt (by omega)) (by omega)) 
      have te908 := znt (k := 32 + p) (by omega)
      refine w_alu (pc' := 36) (st' := [.int (zn (32 + p)), .ref 174]) (ykc_247 (e := (0, .iadd, 0)) rfl) (by rw [← e908]; rfl) rfl ?_
      refine w_load (pc' := 37) (v := .int (zn f)) (m := 1) (ykc_247 (e := (2, .iload_n kF2, 0)) rfl) rfl rfl ?_
      refine w_ias (pc' := 38) (k := 32 + p) (ykc_247 (e := (5, .iastore, 0)) rfl) (by omega) rfl (fun ph910 u909 => ?_)
      refine w_load (pc' := 39) (v := .int (zn (v (32 + p)))) (m := 1) (ykc_247 (e := (2, .iload_n kF3, 0)) rfl) rfl rfl ?_
      refine w_load (pc' := 40) (v := .int (zn f)) (m := 1) (ykc_247 (e := (2, .iload_n kF2, 0)) rfl) rfl rfl ?_
      refine w_ine (ykc_247 (e := (4, .if_icmp .ne 8, 48)) rfl) rfl (fun b911 => ?_) (fun b911 => ?_)
      · refine w_load (pc' := 49) (v := .int (zn (v (32 + p)))) (m := 1) (ykc_247 (e := (2, .iload_n kF3, 0)) rfl) rfl rfl ?_
        refine w_ret (v := (some (.int (zn (v (32 + p)))))) (ykc_247 (e := (7, .ireturn, 0)) rfl) (zr_v rfl) ?_
        rw [hQ]
        exact Or.inr ⟨p, f, rfl, rfl, by omega, by omega, u909, Or.inr ⟨by omega, rfl⟩⟩
      · refine w_push (pc' := 45) (v := .int ((Int8.ofInt (-2)).toInt32)) (m := 2) (ykc_247 (e := (1, .bipush (-2), 0)) rfl) rfl rfl ?_
        refine w_br (pc' := 49) (st' := [.int ((Int8.ofInt (-2)).toInt32)]) (ykc_247 (e := (4, .goto 4, 49)) rfl) rfl ?_
        refine w_ret (v := (some (.int ((Int8.ofInt (-2)).toInt32)))) (ykc_247 (e := (7, .ireturn, 0)) rfl) (zr_v rfl) ?_
        rw [hQ]
        exact Or.inr ⟨p, f, rfl, rfl, by omega, by omega, u909, Or.inl ⟨by omega, rfl⟩⟩
    · refine w_alu (pc' := 17) (st' := [.int (Int32.ofInt (-1))]) (ykc_247 (e := (0, .iconst (-1), 0)) rfl) rfl rfl ?_
      refine w_ret (v := (some (.int (Int32.ofInt (-1))))) (ykc_247 (e := (7, .ireturn, 0)) rfl) (zr_v rfl) ?_
      have d9 := of_decide_eq_false b905
      rw [hQ]
      exact Or.inl ⟨by omega, rfl, rfl⟩
theorem zc_isWay {y : Int32} {ph : pm_H} : zM 146 [.int y] ph (fun v0 q => ph = q ∧ v0 = some (.int (zI (decide (0 ≤ y.toInt ∧ y.toInt < 8))))) := by
  obtain ⟨Q, hQ⟩ : ∃ Q : Option Value → pm_H → Prop, Q = (fun v0 q => ph = q ∧ v0 = some (.int (zI (decide (0 ≤ y.toInt ∧ y.toInt < 8))))) := ⟨_, rfl⟩
  rw [← hQ]
  refine zM_mk fun n D => ?_
  show zW n D 146 Q 0 [some (.int y)] [] ph
  have c_0 : ((Int8.ofInt 8).toInt32).toInt = 8 := by decide +kernel
  have c_1 : (Int32.ofInt 0).toInt = 0 := by decide +kernel
  have c_2 : (Int32.ofInt 1).toInt = 1 := by decide +kernel
  refine w_load (pc' := 1) (v := .int y) (m := 1) (ykc_146 (e := (2, .iload_n kF0, 0)) rfl) rfl rfl ?_
  refine w_zlt (ykc_146 (e := (4, .ifCond .lt 13, 14)) rfl) rfl (fun b912 => ?_) (fun b912 => ?_)
  · refine w_alu (pc' := 15) (st' := [.int (Int32.ofInt 0)]) (ykc_146 (e := (0, .iconst 0, 0)) rfl) rfl rfl ?_
    refine w_ret (v := (some (.int (Int32.ofInt 0)))) (ykc_146 (e := (7, .ireturn, 0)) rfl) zr_z ?_
    rw [hQ, zi0]
    exact ⟨rfl, zvB ((decide_eq_false (by omega)).symm)⟩
  · refine w_load (pc' := 5) (v := .int y) (m := 1) (ykc_146 (e := (2, .iload_n kF0, 0)) rfl) rfl rfl ?_
    refine w_push (pc' := 7) (v := .int ((Int8.ofInt 8).toInt32)) (m := 2) (ykc_146 (e := (1, .bipush 8, 0)) rfl) rfl rfl ?_
    refine w_ige (ykc_146 (e := (4, .if_icmp .ge 7, 14)) rfl) rfl (fun b913 => ?_) (fun b913 => ?_)
    · refine w_alu (pc' := 15) (st' := [.int (Int32.ofInt 0)]) (ykc_146 (e := (0, .iconst 0, 0)) rfl) rfl rfl ?_
      refine w_ret (v := (some (.int (Int32.ofInt 0)))) (ykc_146 (e := (7, .ireturn, 0)) rfl) zr_z ?_
      rw [hQ, zi0]
      exact ⟨rfl, zvB ((decide_eq_false (by omega)).symm)⟩
    · refine w_alu (pc' := 11) (st' := [.int (Int32.ofInt 1)]) (ykc_146 (e := (0, .iconst 1, 0)) rfl) rfl rfl ?_
      refine w_br (pc' := 15) (st' := [.int (Int32.ofInt 1)]) (ykc_146 (e := (4, .goto 4, 15)) rfl) rfl ?_
      refine w_ret (v := (some (.int (Int32.ofInt 1)))) (ykc_146 (e := (7, .ireturn, 0)) rfl) zr_z ?_
      rw [hQ, zi1]
      exact ⟨rfl, zvB ((decide_eq_true (by omega)).symm)⟩
theorem zc_turnTo {ph : pm_H} {R C P G : Nat} {rk : Nat → Bool} {v : Nat → Nat} (hS : zSh ph) (hL : zCl ph R C rk) (hd : zSd ph 25 P G v) (hO0 : zOk R C P G v) {x y : Int32} : zM 142 [.ref 0, .int x, .int y] ph (fun v0 q => ((x.toInt < 0 ∨ (P : Int) ≤ x.toInt ∨ y.toInt < 0 ∨ 8 ≤ y.toInt) ∧ ph = q ∧ v0 = some (.int (Int32.ofInt (-1)))) ∨ (∃ p f, x = zn p ∧ y = zn f ∧ p < P ∧ f < 8 ∧ v0 = some (.int (zn (ze8 (v (8 + p)) f))) ∧ zst ph q 27 p (.int (zn f)))) := by
  obtain ⟨Q, hQ⟩ : ∃ Q : Option Value → pm_H → Prop, Q = (fun v0 q => ((x.toInt < 0 ∨ (P : Int) ≤ x.toInt ∨ y.toInt < 0 ∨ 8 ≤ y.toInt) ∧ ph = q ∧ v0 = some (.int (Int32.ofInt (-1)))) ∨ (∃ p f, x = zn p ∧ y = zn f ∧ p < P ∧ f < 8 ∧ v0 = some (.int (zn (ze8 (v (8 + p)) f))) ∧ zst ph q 27 p (.int (zn f)))) := ⟨_, rfl⟩
  rw [← hQ]
  refine zM_mk fun n D => ?_
  show zW n D 142 Q 0 [some (.ref 0), some (.int x), some (.int y), none] [] ph
  have c_0 : (Int32.ofInt (-1)).toInt = -1 := by decide +kernel
  have hL0 := hL
  have hs : zSs ph 25 := zSs_of hS (by decide)
  have hx0 := x32_lo x
  have hx1 := x32_hi x
  have hy0 := x32_lo y
  have hy1 := x32_hi y
  obtain ⟨gR, gC, gN, gK, gA, hR3, hR7, hC3, hC7⟩ := hL
  have hRC := zRC49 hR7 hC7
  have tR := znt (k := R) (by omega)
  have tC := znt (k := C) (by omega)
  have tRC := znt (k := R * C) (by omega)
  have hdK := hd
  obtain ⟨gP, hP8, gG, hG8, gH, gv, gw⟩ := hd
  have tP := znt (k := P) (by omega)
  have tG := znt (k := G) (by omega)
  refine w_load (pc' := 1) (v := .ref 0) (m := 1) (ykc_142 (e := (2, .aload_n kF0, 0)) rfl) rfl rfl ?_
  refine w_gf (pc' := 4) (v := .ref 25) (ykc_142 (e := (5, .getfield 42, 0)) rfl) rfl (zsg hS zs_0_4) rfl ?_
  refine w_load (pc' := 5) (v := .int x) (m := 1) (ykc_142 (e := (2, .iload_n kF1, 0)) rfl) rfl rfl ?_
  refine w_cv (as := [.ref 25, .int x]) (r := []) (ykc_142 (e := (6, .invokevirtual 167, 0)) rfl) rfl rfl rfl rfl (zc_hasP hs hdK (i := x)) (fun v914 ph915 hv => ?_)
  obtain ⟨rfl, rfl⟩ := hv
  show zW n D 142 Q 8 [some (.ref 0), some (.int x), some (.int y), none] [.int (zI (decide (0 ≤ x.toInt ∧ x.toInt < ((P : Nat) : Int))))] ph
  refine w_beq (ykc_142 (e := (4, .ifCond .eq 10, 18)) rfl) rfl (fun b916 => ?_) (fun b916 => ?_)
  · refine w_alu (pc' := 19) (st' := [.int (Int32.ofInt (-1))]) (ykc_142 (e := (0, .iconst (-1), 0)) rfl) rfl rfl ?_
    refine w_ret (v := (some (.int (Int32.ofInt (-1))))) (ykc_142 (e := (7, .ireturn, 0)) rfl) (zr_v rfl) ?_
    have d9 := of_decide_eq_false b916
    rw [hQ]
    exact Or.inl ⟨by omega, rfl, rfl⟩
  · refine w_load (pc' := 12) (v := .int y) (m := 1) (ykc_142 (e := (2, .iload_n kF2, 0)) rfl) rfl rfl ?_
    refine w_cs (as := [.int y]) (r := []) (ykc_142 (e := (6, .invokestatic 293, 0)) rfl) rfl rfl rfl rfl (zc_isWay (y := y)) (fun v917 ph918 hv => ?_)
    obtain ⟨rfl, rfl⟩ := hv
    show zW n D 142 Q 15 [some (.ref 0), some (.int x), some (.int y), none] [.int (zI (decide (0 ≤ y.toInt ∧ y.toInt < 8)))] ph
    refine w_bne (ykc_142 (e := (4, .ifCond .ne 5, 20)) rfl) rfl (fun b919 => ?_) (fun b919 => ?_)
    · have db916 := of_decide_eq_true b916
      have db919 := of_decide_eq_true b919
      obtain ⟨p, hp⟩ : ∃ p : Nat, x.toInt = (p : Int) := ⟨x.toInt.toNat, by omega⟩
      obtain rfl := zn_of hp
      obtain ⟨f, hf⟩ : ∃ f : Nat, y.toInt = (f : Int) := ⟨y.toInt.toNat, by omega⟩
      obtain rfl := zn_of hf
      show zW n D 142 Q 20 [some (.ref 0), some (.int (zn p)), some (.int (zn f)), none] [] ph
      refine w_load (pc' := 21) (v := .ref 0) (m := 1) (ykc_142 (e := (2, .aload_n kF0, 0)) rfl) rfl rfl ?_
      refine w_gf (pc' := 24) (v := .ref 25) (ykc_142 (e := (5, .getfield 42, 0)) rfl) rfl (zsg hS zs_0_4) rfl ?_
      refine w_gf (pc' := 27) (v := .ref 27) (ykc_142 (e := (5, .getfield 177, 0)) rfl) rfl (zsg hS zs_25_4) rfl ?_
      refine w_load (pc' := 28) (v := .int (zn p)) (m := 1) (ykc_142 (e := (2, .iload_n kF1, 0)) rfl) rfl rfl ?_
      have q920 := hO0.1 p (by omega)
      have tq920 := znt (k := v (8 + p)) (by omega)
      refine w_ialk (pc' := 29) (k := p) (ykc_142 (e := (5, .iaload, 0)) rfl) (gv p (by omega)).2.1 (by omega) rfl ?_
      refine w_load (pc' := 30) (v := .int (zn f)) (m := 1) (ykc_142 (e := (2, .iload_n kF2, 0)) rfl) rfl rfl ?_
      refine w_cs (as := [.int (zn (v (8 + p))), .int (zn f)]) (r := []) (ykc_142 (e := (6, .invokestatic 296, 0)) rfl) rfl rfl rfl rfl (zc_e8 (a := v (8 + p)) (b := f) (by omega) (by omega)) (fun v921 ph922 hv => ?_)
      obtain ⟨rfl, rfl⟩ := hv
      have te := znt (k := ze8 (v (8 + p)) f) (by unfold ze8; omega)
      show zW n D 142 Q 33 [some (.ref 0), some (.int (zn p)), some (.int (zn f)), none] [.int (zn (ze8 (v (8 + p)) f))] ph
      refine w_store (pc' := 34) (L' := [some (.ref 0), some (.int (zn p)), some (.int (zn f)), some (.int (zn (ze8 (v (8 + p)) f)))]) (st' := []) (m := 1) (ykc_142 (e := (3, .istore_n kF3, 0)) rfl) rfl rfl ?_
      refine w_load (pc' := 35) (v := .ref 0) (m := 1) (ykc_142 (e := (2, .aload_n kF0, 0)) rfl) rfl rfl ?_
      refine w_gf (pc' := 38) (v := .ref 25) (ykc_142 (e := (5, .getfield 42, 0)) rfl) rfl (zsg hS zs_0_4) rfl ?_
      refine w_gf (pc' := 41) (v := .ref 27) (ykc_142 (e := (5, .getfield 177, 0)) rfl) rfl (zsg hS zs_25_4) rfl ?_
      refine w_load (pc' := 42) (v := .int (zn p)) (m := 1) (ykc_142 (e := (2, .iload_n kF1, 0)) rfl) rfl rfl ?_
      refine w_load (pc' := 43) (v := .int (zn f)) (m := 1) (ykc_142 (e := (2, .iload_n kF2, 0)) rfl) rfl rfl ?_
      refine w_ias (pc' := 44) (k := p) (ykc_142 (e := (5, .iastore, 0)) rfl) (by omega) rfl (fun ph924 u923 => ?_)
      refine w_load (pc' := 45) (v := .int (zn (ze8 (v (8 + p)) f))) (m := 1) (ykc_142 (e := (2, .iload_n kF3, 0)) rfl) rfl rfl ?_
      refine w_ret (v := (some (.int (zn (ze8 (v (8 + p)) f))))) (ykc_142 (e := (7, .ireturn, 0)) rfl) (zr_v rfl) ?_
      rw [hQ]
      exact Or.inr ⟨p, f, rfl, rfl, by omega, by omega, rfl, u923⟩
    · refine w_alu (pc' := 19) (st' := [.int (Int32.ofInt (-1))]) (ykc_142 (e := (0, .iconst (-1), 0)) rfl) rfl rfl ?_
      refine w_ret (v := (some (.int (Int32.ofInt (-1))))) (ykc_142 (e := (7, .ireturn, 0)) rfl) (zr_v rfl) ?_
      have d9 := of_decide_eq_false b919
      rw [hQ]
      exact Or.inl ⟨by omega, rfl, rfl⟩
theorem zc_trimTo {ph : pm_H} {R C P G : Nat} {rk : Nat → Bool} {v : Nat → Nat} (hS : zSh ph) (hL : zCl ph R C rk) (hd : zSd ph 25 P G v) (hO0 : zOk R C P G v) {x y : Int32} : zM 144 [.ref 0, .int x, .int y] ph (fun v0 q => ((x.toInt < 0 ∨ (P : Int) ≤ x.toInt ∨ y.toInt < 0 ∨ 5 ≤ y.toInt) ∧ ph = q ∧ v0 = some (.int (Int32.ofInt (-1)))) ∨ (∃ p f, x = zn p ∧ y = zn f ∧ p < P ∧ f ≤ 4 ∧ v0 = some (.int (zn (v (16 + p)))) ∧ zst ph q 28 p (.int (zn f)))) := by
  obtain ⟨Q, hQ⟩ : ∃ Q : Option Value → pm_H → Prop, Q = (fun v0 q => ((x.toInt < 0 ∨ (P : Int) ≤ x.toInt ∨ y.toInt < 0 ∨ 5 ≤ y.toInt) ∧ ph = q ∧ v0 = some (.int (Int32.ofInt (-1)))) ∨ (∃ p f, x = zn p ∧ y = zn f ∧ p < P ∧ f ≤ 4 ∧ v0 = some (.int (zn (v (16 + p)))) ∧ zst ph q 28 p (.int (zn f)))) := ⟨_, rfl⟩
  rw [← hQ]
  refine zM_mk fun n D => ?_
  show zW n D 144 Q 0 [some (.ref 0), some (.int x), some (.int y), none] [] ph
  have c_0 : (Int32.ofInt (-1)).toInt = -1 := by decide +kernel
  have c_1 : (Int32.ofInt 4).toInt = 4 := by decide +kernel
  have hL0 := hL
  have hs : zSs ph 25 := zSs_of hS (by decide)
  have hx0 := x32_lo x
  have hx1 := x32_hi x
  have hy0 := x32_lo y
  have hy1 := x32_hi y
  obtain ⟨gR, gC, gN, gK, gA, hR3, hR7, hC3, hC7⟩ := hL
  have hRC := zRC49 hR7 hC7
  have tR := znt (k := R) (by omega)
  have tC := znt (k := C) (by omega)
  have tRC := znt (k := R * C) (by omega)
  have hdK := hd
  obtain ⟨gP, hP8, gG, hG8, gH, gv, gw⟩ := hd
  have tP := znt (k := P) (by omega)
  have tG := znt (k := G) (by omega)
  refine w_load (pc' := 1) (v := .ref 0) (m := 1) (ykc_144 (e := (2, .aload_n kF0, 0)) rfl) rfl rfl ?_
  refine w_gf (pc' := 4) (v := .ref 25) (ykc_144 (e := (5, .getfield 42, 0)) rfl) rfl (zsg hS zs_0_4) rfl ?_
  refine w_load (pc' := 5) (v := .int x) (m := 1) (ykc_144 (e := (2, .iload_n kF1, 0)) rfl) rfl rfl ?_
  refine w_cv (as := [.ref 25, .int x]) (r := []) (ykc_144 (e := (6, .invokevirtual 167, 0)) rfl) rfl rfl rfl rfl (zc_hasP hs hdK (i := x)) (fun v925 ph926 hv => ?_)
  obtain ⟨rfl, rfl⟩ := hv
  show zW n D 144 Q 8 [some (.ref 0), some (.int x), some (.int y), none] [.int (zI (decide (0 ≤ x.toInt ∧ x.toInt < ((P : Nat) : Int))))] ph
  refine w_beq (ykc_144 (e := (4, .ifCond .eq 12, 20)) rfl) rfl (fun b927 => ?_) (fun b927 => ?_)
  · refine w_alu (pc' := 21) (st' := [.int (Int32.ofInt (-1))]) (ykc_144 (e := (0, .iconst (-1), 0)) rfl) rfl rfl ?_
    refine w_ret (v := (some (.int (Int32.ofInt (-1))))) (ykc_144 (e := (7, .ireturn, 0)) rfl) (zr_v rfl) ?_
    have d9 := of_decide_eq_false b927
    rw [hQ]
    exact Or.inl ⟨by omega, rfl, rfl⟩
  · refine w_load (pc' := 12) (v := .int y) (m := 1) (ykc_144 (e := (2, .iload_n kF2, 0)) rfl) rfl rfl ?_
    refine w_zlt (ykc_144 (e := (4, .ifCond .lt 8, 20)) rfl) rfl (fun b928 => ?_) (fun b928 => ?_)
    · refine w_alu (pc' := 21) (st' := [.int (Int32.ofInt (-1))]) (ykc_144 (e := (0, .iconst (-1), 0)) rfl) rfl rfl ?_
      refine w_ret (v := (some (.int (Int32.ofInt (-1))))) (ykc_144 (e := (7, .ireturn, 0)) rfl) (zr_v rfl) ?_
      rw [hQ]
      exact Or.inl ⟨by omega, rfl, rfl⟩
    · refine w_load (pc' := 16) (v := .int y) (m := 1) (ykc_144 (e := (2, .iload_n kF2, 0)) rfl) rfl rfl ?_
      refine w_alu (pc' := 17) (st' := [.int (Int32.ofInt 4), .int y]) (ykc_144 (e := (0, .iconst 4, 0)) rfl) rfl rfl ?_
      refine w_ile (ykc_144 (e := (4, .if_icmp .le 5, 22)) rfl) rfl (fun b929 => ?_) (fun b929 => ?_)
      · have db927 := of_decide_eq_true b927
        obtain ⟨p, hp⟩ : ∃ p : Nat, x.toInt = (p : Int) := ⟨x.toInt.toNat, by omega⟩
        obtain rfl := zn_of hp
        obtain ⟨f, hf⟩ : ∃ f : Nat, y.toInt = (f : Int) := ⟨y.toInt.toNat, by omega⟩
        obtain rfl := zn_of hf
        show zW n D 144 Q 22 [some (.ref 0), some (.int (zn p)), some (.int (zn f)), none] [] ph
        refine w_load (pc' := 23) (v := .ref 0) (m := 1) (ykc_144 (e := (2, .aload_n kF0, 0)) rfl) rfl rfl ?_
        refine w_gf (pc' := 26) (v := .ref 25) (ykc_144 (e := (5, .getfield 42, 0)) rfl) rfl (zsg hS zs_0_4) rfl ?_
        refine w_gf (pc' := 29) (v := .ref 28) (ykc_144 (e := (5, .getfield 180, 0)) rfl) rfl (zsg hS zs_25_5) rfl ?_
        refine w_load (pc' := 30) (v := .int (zn p)) (m := 1) (ykc_144 (e := (2, .iload_n kF1, 0)) rfl) rfl rfl ?_
        have q930 := hO0.1 p (by omega)
        have tq930 := znt (k := v (16 + p)) (by omega)
        refine w_ialk (pc' := 31) (k := p) (ykc_144 (e := (5, .iaload, 0)) rfl) (gv p (by omega)).2.2.1 (by omega) rfl ?_
        refine w_store (pc' := 32) (L' := [some (.ref 0), some (.int (zn p)), some (.int (zn f)), some (.int (zn (v (16 + p))))]) (st' := []) (m := 1) (ykc_144 (e := (3, .istore_n kF3, 0)) rfl) rfl rfl ?_
        refine w_load (pc' := 33) (v := .ref 0) (m := 1) (ykc_144 (e := (2, .aload_n kF0, 0)) rfl) rfl rfl ?_
        refine w_gf (pc' := 36) (v := .ref 25) (ykc_144 (e := (5, .getfield 42, 0)) rfl) rfl (zsg hS zs_0_4) rfl ?_
        refine w_gf (pc' := 39) (v := .ref 28) (ykc_144 (e := (5, .getfield 180, 0)) rfl) rfl (zsg hS zs_25_5) rfl ?_
        refine w_load (pc' := 40) (v := .int (zn p)) (m := 1) (ykc_144 (e := (2, .iload_n kF1, 0)) rfl) rfl rfl ?_
        refine w_load (pc' := 41) (v := .int (zn f)) (m := 1) (ykc_144 (e := (2, .iload_n kF2, 0)) rfl) rfl rfl ?_
        refine w_ias (pc' := 42) (k := p) (ykc_144 (e := (5, .iastore, 0)) rfl) (by omega) rfl (fun ph932 u931 => ?_)
        refine w_load (pc' := 43) (v := .int (zn (v (16 + p)))) (m := 1) (ykc_144 (e := (2, .iload_n kF3, 0)) rfl) rfl rfl ?_
        refine w_ret (v := (some (.int (zn (v (16 + p)))))) (ykc_144 (e := (7, .ireturn, 0)) rfl) (zr_v rfl) ?_
        rw [hQ]
        exact Or.inr ⟨p, f, rfl, rfl, by omega, by omega, rfl, u931⟩
      · refine w_alu (pc' := 21) (st' := [.int (Int32.ofInt (-1))]) (ykc_144 (e := (0, .iconst (-1), 0)) rfl) rfl rfl ?_
        refine w_ret (v := (some (.int (Int32.ofInt (-1))))) (ykc_144 (e := (7, .ireturn, 0)) rfl) (zr_v rfl) ?_
        rw [hQ]
        exact Or.inl ⟨by omega, rfl, rfl⟩
theorem zc_putOn {ph : pm_H} {R C P G : Nat} {rk : Nat → Bool} {v : Nat → Nat} (hS : zSh ph) (hL : zCl ph R C rk) (hd : zSd ph 25 P G v) (hO0 : zOk R C P G v) {x y : Int32} : zM 145 [.ref 0, .int x, .int y] ph (fun v0 q => ((x.toInt < 0 ∨ (G : Int) ≤ x.toInt ∨ y.toInt < 0 ∨ ((R * C : Nat) : Int) ≤ y.toInt) ∧ ph = q ∧ v0 = some (.int (Int32.ofInt (-1)))) ∨ (∃ p f, x = zn p ∧ y = zn f ∧ p < G ∧ f < R * C ∧ ((v (32 + p) = f ∧ ph = q ∧ v0 = some (.int (Int8.ofInt (-2)).toInt32)) ∨ (v (32 + p) ≠ f ∧ v0 = some (.int (zn (v (32 + p)))) ∧ zst ph q 30 p (.int (zn f)))))) := by
  obtain ⟨Q, hQ⟩ : ∃ Q : Option Value → pm_H → Prop, Q = (fun v0 q => ((x.toInt < 0 ∨ (G : Int) ≤ x.toInt ∨ y.toInt < 0 ∨ ((R * C : Nat) : Int) ≤ y.toInt) ∧ ph = q ∧ v0 = some (.int (Int32.ofInt (-1)))) ∨ (∃ p f, x = zn p ∧ y = zn f ∧ p < G ∧ f < R * C ∧ ((v (32 + p) = f ∧ ph = q ∧ v0 = some (.int (Int8.ofInt (-2)).toInt32)) ∨ (v (32 + p) ≠ f ∧ v0 = some (.int (zn (v (32 + p)))) ∧ zst ph q 30 p (.int (zn f)))))) := ⟨_, rfl⟩
  rw [← hQ]
  refine zM_mk fun n D => ?_
  show zW n D 145 Q 0 [some (.ref 0), some (.int x), some (.int y), none] [] ph
  have c_0 : ((Int8.ofInt (-2)).toInt32).toInt = -2 := by decide +kernel
  have c_1 : (Int32.ofInt (-1)).toInt = -1 := by decide +kernel
  have hL0 := hL
  have hs : zSs ph 25 := zSs_of hS (by decide)
  have hx0 := x32_lo x
  have hx1 := x32_hi x
  have hy0 := x32_lo y
  have hy1 := x32_hi y
  obtain ⟨gR, gC, gN, gK, gA, hR3, hR7, hC3, hC7⟩ := hL
  have hRC := zRC49 hR7 hC7
  have tR := znt (k := R) (by omega)
  have tC := znt (k := C) (by omega)
  have tRC := znt (k := R * C) (by omega)
  have hdK := hd
  obtain ⟨gP, hP8, gG, hG8, gH, gv, gw⟩ := hd
  have tP := znt (k := P) (by omega)
  have tG := znt (k := G) (by omega)
  refine w_load (pc' := 1) (v := .ref 0) (m := 1) (ykc_145 (e := (2, .aload_n kF0, 0)) rfl) rfl rfl ?_
  refine w_gf (pc' := 4) (v := .ref 25) (ykc_145 (e := (5, .getfield 42, 0)) rfl) rfl (zsg hS zs_0_4) rfl ?_
  refine w_load (pc' := 5) (v := .int x) (m := 1) (ykc_145 (e := (2, .iload_n kF1, 0)) rfl) rfl rfl ?_
  refine w_cv (as := [.ref 25, .int x]) (r := []) (ykc_145 (e := (6, .invokevirtual 198, 0)) rfl) rfl rfl rfl rfl (zc_hasT hs hdK (i := x)) (fun v933 ph934 hv => ?_)
  obtain ⟨rfl, rfl⟩ := hv
  show zW n D 145 Q 8 [some (.ref 0), some (.int x), some (.int y), none] [.int (zI (decide (0 ≤ x.toInt ∧ x.toInt < ((G : Nat) : Int))))] ph
  refine w_beq (ykc_145 (e := (4, .ifCond .eq 14, 22)) rfl) rfl (fun b935 => ?_) (fun b935 => ?_)
  · refine w_alu (pc' := 23) (st' := [.int (Int32.ofInt (-1))]) (ykc_145 (e := (0, .iconst (-1), 0)) rfl) rfl rfl ?_
    refine w_ret (v := (some (.int (Int32.ofInt (-1))))) (ykc_145 (e := (7, .ireturn, 0)) rfl) (zr_v rfl) ?_
    have d9 := of_decide_eq_false b935
    rw [hQ]
    exact Or.inl ⟨by omega, rfl, rfl⟩
  · refine w_load (pc' := 12) (v := .ref 0) (m := 1) (ykc_145 (e := (2, .aload_n kF0, 0)) rfl) rfl rfl ?_
    refine w_gf (pc' := 15) (v := .ref 5) (ykc_145 (e := (5, .getfield 26, 0)) rfl) rfl (zsg hS zs_0_2) rfl ?_
    refine w_load (pc' := 16) (v := .int y) (m := 1) (ykc_145 (e := (2, .iload_n kF2, 0)) rfl) rfl rfl ?_
    refine w_cv (as := [.ref 5, .int y]) (r := []) (ykc_145 (e := (6, .invokevirtual 302, 0)) rfl) rfl rfl rfl rfl (zc_holds hS hL0 (f := y)) (fun v936 ph937 hv => ?_)
    obtain ⟨rfl, rfl⟩ := hv
    show zW n D 145 Q 19 [some (.ref 0), some (.int x), some (.int y), none] [.int (zI (decide (0 ≤ y.toInt ∧ y.toInt < ((R * C : Nat) : Int))))] ph
    refine w_bne (ykc_145 (e := (4, .ifCond .ne 5, 24)) rfl) rfl (fun b938 => ?_) (fun b938 => ?_)
    · have db935 := of_decide_eq_true b935
      have db938 := of_decide_eq_true b938
      obtain ⟨p, hp⟩ : ∃ p : Nat, x.toInt = (p : Int) := ⟨x.toInt.toNat, by omega⟩
      obtain rfl := zn_of hp
      obtain ⟨f, hf⟩ : ∃ f : Nat, y.toInt = (f : Int) := ⟨y.toInt.toNat, by omega⟩
      obtain rfl := zn_of hf
      show zW n D 145 Q 24 [some (.ref 0), some (.int (zn p)), some (.int (zn f)), none] [] ph
      refine w_load (pc' := 25) (v := .ref 0) (m := 1) (ykc_145 (e := (2, .aload_n kF0, 0)) rfl) rfl rfl ?_
      refine w_gf (pc' := 28) (v := .ref 25) (ykc_145 (e := (5, .getfield 42, 0)) rfl) rfl (zsg hS zs_0_4) rfl ?_
      refine w_gf (pc' := 31) (v := .ref 30) (ykc_145 (e := (5, .getfield 201, 0)) rfl) rfl (zsg hS zs_25_7) rfl ?_
      refine w_load (pc' := 32) (v := .int (zn p)) (m := 1) (ykc_145 (e := (2, .iload_n kF1, 0)) rfl) rfl rfl ?_
      have q939 := hO0.2.1 p (by omega)
      have tq939 := znt (k := v (32 + p)) (by omega)
      refine w_ialk (pc' := 33) (k := p) (ykc_145 (e := (5, .iaload, 0)) rfl) (gw p (by omega)) (by omega) rfl ?_
      refine w_store (pc' := 34) (L' := [some (.ref 0), some (.int (zn p)), some (.int (zn f)), some (.int (zn (v (32 + p))))]) (st' := []) (m := 1) (ykc_145 (e := (3, .istore_n kF3, 0)) rfl) rfl rfl ?_
      refine w_load (pc' := 35) (v := .int (zn (v (32 + p)))) (m := 1) (ykc_145 (e := (2, .iload_n kF3, 0)) rfl) rfl rfl ?_
      refine w_load (pc' := 36) (v := .int (zn f)) (m := 1) (ykc_145 (e := (2, .iload_n kF2, 0)) rfl) rfl rfl ?_
      refine w_ine (ykc_145 (e := (4, .if_icmp .ne 6, 42)) rfl) rfl (fun b940 => ?_) (fun b940 => ?_)
      · refine w_load (pc' := 43) (v := .ref 0) (m := 1) (ykc_145 (e := (2, .aload_n kF0, 0)) rfl) rfl rfl ?_
        refine w_gf (pc' := 46) (v := .ref 25) (ykc_145 (e := (5, .getfield 42, 0)) rfl) rfl (zsg hS zs_0_4) rfl ?_
        refine w_gf (pc' := 49) (v := .ref 30) (ykc_145 (e := (5, .getfield 201, 0)) rfl) rfl (zsg hS zs_25_7) rfl ?_
        refine w_load (pc' := 50) (v := .int (zn p)) (m := 1) (ykc_145 (e := (2, .iload_n kF1, 0)) rfl) rfl rfl ?_
        refine w_load (pc' := 51) (v := .int (zn f)) (m := 1) (ykc_145 (e := (2, .iload_n kF2, 0)) rfl) rfl rfl ?_
        refine w_ias (pc' := 52) (k := p) (ykc_145 (e := (5, .iastore, 0)) rfl) (by omega) rfl (fun ph942 u941 => ?_)
        refine w_load (pc' := 53) (v := .int (zn (v (32 + p)))) (m := 1) (ykc_145 (e := (2, .iload_n kF3, 0)) rfl) rfl rfl ?_
        refine w_ret (v := (some (.int (zn (v (32 + p)))))) (ykc_145 (e := (7, .ireturn, 0)) rfl) (zr_v rfl) ?_
        rw [hQ]
        exact Or.inr ⟨p, f, rfl, rfl, by omega, by omega, Or.inr ⟨by omega, rfl, u941⟩⟩
      · refine w_push (pc' := 41) (v := .int ((Int8.ofInt (-2)).toInt32)) (m := 2) (ykc_145 (e := (1, .bipush (-2), 0)) rfl) rfl rfl ?_
        refine w_ret (v := (some (.int ((Int8.ofInt (-2)).toInt32)))) (ykc_145 (e := (7, .ireturn, 0)) rfl) (zr_v rfl) ?_
        rw [hQ]
        exact Or.inr ⟨p, f, rfl, rfl, by omega, by omega, Or.inl ⟨by omega, rfl, rfl⟩⟩
    · refine w_alu (pc' := 23) (st' := [.int (Int32.ofInt (-1))]) (ykc_145 (e := (0, .iconst (-1), 0)) rfl) rfl rfl ?_
      refine w_ret (v := (some (.int (Int32.ofInt (-1))))) (ykc_145 (e := (7, .ireturn, 0)) rfl) (zr_v rfl) ?_
      have d9 := of_decide_eq_false b938
      rw [hQ]
      exact Or.inl ⟨by omega, rfl, rfl⟩
theorem zc_walk {ph : pm_H} {R C P G : Nat} {rk : Nat → Bool} {v : Nat → Nat} (hS : zSh ph) (hL : zCl ph R C rk) (hd : zSd ph 25 P G v) (hO0 : zOk R C P G v) {x y : Int32} : zM 143 [.ref 0, .int x, .int y] ph (fun v0 q => ((x.toInt < 0 ∨ (P : Int) ≤ x.toInt ∨ y.toInt < 0 ∨ 8 ≤ y.toInt) ∧ ph = q ∧ v0 = some (.int (Int32.ofInt (-1)))) ∨ (∃ p f, x = zn p ∧ y = zn f ∧ p < P ∧ f < 8 ∧ ((zbk R C rk (v p) f = -1 ∧ ph = q ∧ v0 = some (.int (Int8.ofInt (-2)).toInt32)) ∨ (∃ g, g < R * C ∧ zbk R C rk (v p) f = (g : Nat) ∧ v0 = some (.int (zn g)) ∧ zst ph q 26 p (.int (zn g)))))) := by
  obtain ⟨Q, hQ⟩ : ∃ Q : Option Value → pm_H → Prop, Q = (fun v0 q => ((x.toInt < 0 ∨ (P : Int) ≤ x.toInt ∨ y.toInt < 0 ∨ 8 ≤ y.toInt) ∧ ph = q ∧ v0 = some (.int (Int32.ofInt (-1)))) ∨ (∃ p f, x = zn p ∧ y = zn f ∧ p < P ∧ f < 8 ∧ ((zbk R C rk (v p) f = -1 ∧ ph = q ∧ v0 = some (.int (Int8.ofInt (-2)).toInt32)) ∨ (∃ g, g < R * C ∧ zbk R C rk (v p) f = (g : Nat) ∧ v0 = some (.int (zn g)) ∧ zst ph q 26 p (.int (zn g)))))) := ⟨_, rfl⟩
  rw [← hQ]
  refine zM_mk fun n D => ?_
  show zW n D 143 Q 0 [some (.ref 0), some (.int x), some (.int y), none] [] ph
  have c_0 : ((Int8.ofInt (-2)).toInt32).toInt = -2 := by decide +kernel
  have c_1 : (Int32.ofInt (-1)).toInt = -1 := by decide +kernel
  have hL0 := hL
  have hs : zSs ph 25 := zSs_of hS (by decide)
  have hx0 := x32_lo x
  have hx1 := x32_hi x
  have hy0 := x32_lo y
  have hy1 := x32_hi y
  obtain ⟨gR, gC, gN, gK, gA, hR3, hR7, hC3, hC7⟩ := hL
  have hRC := zRC49 hR7 hC7
  have tR := znt (k := R) (by omega)
  have tC := znt (k := C) (by omega)
  have tRC := znt (k := R * C) (by omega)
  have hdK := hd
  obtain ⟨gP, hP8, gG, hG8, gH, gv, gw⟩ := hd
  have tP := znt (k := P) (by omega)
  have tG := znt (k := G) (by omega)
  refine w_load (pc' := 1) (v := .ref 0) (m := 1) (ykc_143 (e := (2, .aload_n kF0, 0)) rfl) rfl rfl ?_
  refine w_gf (pc' := 4) (v := .ref 25) (ykc_143 (e := (5, .getfield 42, 0)) rfl) rfl (zsg hS zs_0_4) rfl ?_
  refine w_load (pc' := 5) (v := .int x) (m := 1) (ykc_143 (e := (2, .iload_n kF1, 0)) rfl) rfl rfl ?_
  refine w_cv (as := [.ref 25, .int x]) (r := []) (ykc_143 (e := (6, .invokevirtual 167, 0)) rfl) rfl rfl rfl rfl (zc_hasP hs hdK (i := x)) (fun v943 ph944 hv => ?_)
  obtain ⟨rfl, rfl⟩ := hv
  show zW n D 143 Q 8 [some (.ref 0), some (.int x), some (.int y), none] [.int (zI (decide (0 ≤ x.toInt ∧ x.toInt < ((P : Nat) : Int))))] ph
  refine w_beq (ykc_143 (e := (4, .ifCond .eq 10, 18)) rfl) rfl (fun b945 => ?_) (fun b945 => ?_)
  · refine w_alu (pc' := 19) (st' := [.int (Int32.ofInt (-1))]) (ykc_143 (e := (0, .iconst (-1), 0)) rfl) rfl rfl ?_
    refine w_ret (v := (some (.int (Int32.ofInt (-1))))) (ykc_143 (e := (7, .ireturn, 0)) rfl) (zr_v rfl) ?_
    have d9 := of_decide_eq_false b945
    rw [hQ]
    exact Or.inl ⟨by omega, rfl, rfl⟩
  · refine w_load (pc' := 12) (v := .int y) (m := 1) (ykc_143 (e := (2, .iload_n kF2, 0)) rfl) rfl rfl ?_
    refine w_cs (as := [.int y]) (r := []) (ykc_143 (e := (6, .invokestatic 293, 0)) rfl) rfl rfl rfl rfl (zc_isWay (y := y)) (fun v946 ph947 hv => ?_)
    obtain ⟨rfl, rfl⟩ := hv
    show zW n D 143 Q 15 [some (.ref 0), some (.int x), some (.int y), none] [.int (zI (decide (0 ≤ y.toInt ∧ y.toInt < 8)))] ph
    refine w_bne (ykc_143 (e := (4, .ifCond .ne 5, 20)) rfl) rfl (fun b948 => ?_) (fun b948 => ?_)
    · have db945 := of_decide_eq_true b945
      have db948 := of_decide_eq_true b948
      obtain ⟨p, hp⟩ : ∃ p : Nat, x.toInt = (p : Int) := ⟨x.toInt.toNat, by omega⟩
      obtain rfl := zn_of hp
      obtain ⟨f, hf⟩ : ∃ f : Nat, y.toInt = (f : Int) := ⟨y.toInt.toNat, by omega⟩
      obtain rfl := zn_of hf
      show zW n D 143 Q 20 [some (.ref 0), some (.int (zn p)), some (.int (zn f)), none] [] ph
      refine w_load (pc' := 21) (v := .ref 0) (m := 1) (ykc_143 (e := (2, .aload_n kF0, 0)) rfl) rfl rfl ?_
      refine w_gf (pc' := 24) (v := .ref 5) (ykc_143 (e := (5, .getfield 26, 0)) rfl) rfl (zsg hS zs_0_2) rfl ?_
      refine w_load (pc' := 25) (v := .ref 0) (m := 1) (ykc_143 (e := (2, .aload_n kF0, 0)) rfl) rfl rfl ?_
      refine w_gf (pc' := 28) (v := .ref 25) (ykc_143 (e := (5, .getfield 42, 0)) rfl) rfl (zsg hS zs_0_4) rfl ?_
      refine w_gf (pc' := 31) (v := .ref 26) (ykc_143 (e := (5, .getfield 173, 0)) rfl) rfl (zsg hS zs_25_3) rfl ?_
      refine w_load (pc' := 32) (v := .int (zn p)) (m := 1) (ykc_143 (e := (2, .iload_n kF1, 0)) rfl) rfl rfl ?_
      have q949 := hO0.1 p (by omega)
      have tq949 := znt (k := v (p)) (by omega)
      refine w_ialk (pc' := 33) (k := p) (ykc_143 (e := (5, .iaload, 0)) rfl) (gv p (by omega)).1 (by omega) rfl ?_
      refine w_load (pc' := 34) (v := .int (zn f)) (m := 1) (ykc_143 (e := (2, .iload_n kF2, 0)) rfl) rfl rfl ?_
      refine w_cv (as := [.ref 5, .int (zn (v (p))), .int (zn f)]) (r := []) (ykc_143 (e := (6, .invokevirtual 299, 0)) rfl) rfl rfl rfl rfl (zc_beside hS hL0 (f := v p) (w := f) (by omega) (by omega)) (fun v951 ph952 hv => ?_)
      obtain ⟨rfl, g950, rfl, hz_g950⟩ := hv
      have hzb : zbk R C rk (v p) f = -1 ∨ ∃ g, g < R * C ∧ zbk R C rk (v p) f = (g : Nat) := by
        unfold zbk
        split
        · next h => exact Or.inr ⟨_, zto_lt h.1, rfl⟩
        · exact Or.inl rfl
      show zW n D 143 Q 37 [some (.ref 0), some (.int (zn p)), some (.int (zn f)), none] [.int g950] ph
      refine w_store (pc' := 38) (L' := [some (.ref 0), some (.int (zn p)), some (.int (zn f)), some (.int g950)]) (st' := []) (m := 1) (ykc_143 (e := (3, .istore_n kF3, 0)) rfl) rfl rfl ?_
      refine w_load (pc' := 39) (v := .int g950) (m := 1) (ykc_143 (e := (2, .iload_n kF3, 0)) rfl) rfl rfl ?_
      refine w_zge (ykc_143 (e := (4, .ifCond .ge 6, 45)) rfl) rfl (fun b953 => ?_) (fun b953 => ?_)
      · obtain ⟨g, hg, hbg⟩ : ∃ g, g < R * C ∧ zbk R C rk (v p) f = (g : Nat) := by
          rcases hzb with h | h
          · omega
          · exact h
        obtain rfl := zn_of (k := g) (x := g950) (by omega)
        have tg := znt (k := g) (by omega)
        show zW n D 143 Q 45 [some (.ref 0), some (.int (zn p)), some (.int (zn f)), some (.int (zn g))] [] ph
        refine w_load (pc' := 46) (v := .ref 0) (m := 1) (ykc_143 (e := (2, .aload_n kF0, 0)) rfl) rfl rfl ?_
        refine w_gf (pc' := 49) (v := .ref 25) (ykc_143 (e := (5, .getfield 42, 0)) rfl) rfl (zsg hS zs_0_4) rfl ?_
        refine w_gf (pc' := 52) (v := .ref 26) (ykc_143 (e := (5, .getfield 173, 0)) rfl) rfl (zsg hS zs_25_3) rfl ?_
        refine w_load (pc' := 53) (v := .int (zn p)) (m := 1) (ykc_143 (e := (2, .iload_n kF1, 0)) rfl) rfl rfl ?_
        refine w_load (pc' := 54) (v := .int (zn g)) (m := 1) (ykc_143 (e := (2, .iload_n kF3, 0)) rfl) rfl rfl ?_
        refine w_ias (pc' := 55) (k := p) (ykc_143 (e := (5, .iastore, 0)) rfl) (by omega) rfl (fun ph955 u954 => ?_)
        refine w_load (pc' := 56) (v := .int (zn g)) (m := 1) (ykc_143 (e := (2, .iload_n kF3, 0)) rfl) rfl rfl ?_
        refine w_ret (v := (some (.int (zn g)))) (ykc_143 (e := (7, .ireturn, 0)) rfl) (zr_v rfl) ?_
        rw [hQ]
        exact Or.inr ⟨p, f, rfl, rfl, by omega, by omega, Or.inr ⟨g, hg, hbg, rfl, u954⟩⟩
      · refine w_push (pc' := 44) (v := .int ((Int8.ofInt (-2)).toInt32)) (m := 2) (ykc_143 (e := (1, .bipush (-2), 0)) rfl) rfl rfl ?_
        refine w_ret (v := (some (.int ((Int8.ofInt (-2)).toInt32)))) (ykc_143 (e := (7, .ireturn, 0)) rfl) (zr_v rfl) ?_
        have hb9 : zbk R C rk (v p) f = -1 := by
          rcases hzb with h | ⟨g, -, h⟩
          · exact h
          · omega
        rw [hQ]
        exact Or.inr ⟨p, f, rfl, rfl, by omega, by omega, Or.inl ⟨hb9, rfl, rfl⟩⟩
    · refine w_alu (pc' := 19) (st' := [.int (Int32.ofInt (-1))]) (ykc_143 (e := (0, .iconst (-1), 0)) rfl) rfl rfl ?_
      refine w_ret (v := (some (.int (Int32.ofInt (-1))))) (ykc_143 (e := (7, .ireturn, 0)) rfl) (zr_v rfl) ?_
      have d9 := of_decide_eq_false b948
      rw [hQ]
      exact Or.inl ⟨by omega, rfl, rfl⟩
