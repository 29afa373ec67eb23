/-! the class: views of one, looks, who SEES a FIELD, by W; printed by wip/z/z2a_look.py -/
theorem zc_reachU {ph : pm_H} {E : zEn} {F S P G : Nat} {v : Nat → Nat} (hS : zSh ph) (hE : zCe ph E F) (ht : zCt ph S P G v) (hO : zOk E.1 E.2.1 P G v) (hr : zc ph 10 1 = some (.ref F)) {p br : Nat} (hp : p < P) (hb : br ≤ 4) : zM 80 [.ref 10, .ref S, .int (zn p), .int (zn br)] ph (fun v0 q => zCr ph q ∧ v0 = some (.int (zn (zRe E P v p br)))) := by
  obtain ⟨Q, hQ⟩ : ∃ Q : Option Value → pm_H → Prop, Q = (fun v0 q => zCr ph q ∧ v0 = some (.int (zn (zRe E P v p br)))) := ⟨_, rfl⟩
  rw [← hQ]
  refine zM_mk fun n D => ?_
  show zW n D 80 Q 0 [some (.ref 10), some (.ref S), some (.int (zn p)), some (.int (zn br))] [] ph
  have c_0 : (Int32.ofInt 0).toInt = 0 := by decide
  obtain ⟨R, C, rk, sn, sk, cn, cd⟩ := E
  have hL0 : zCl ph R C rk := hE.1
  have hi0 : zCi ph sn sk := hE.2.1
  have hF : F = 11 ∨ F = 16 := hE.2.2.2
  have hE0 : zCe ph (R, C, rk, sn, sk, cn, cd) F := hE
  have hO0 : zOk R C P G v := hO
  have hL := hL0
  have hs := ht.1.2
  have hd := ht.2
  have h25 := ht.1.1
  obtain ⟨gR, gC, gN, gK, gA, hR3, hR7, hC3, hC7⟩ := hL
  have hRC := zRC49 hR7 hC7
  have tR := znt (k := R) (by omega)
  have tC := znt (k := C) (by omega)
  have tRC := znt (k := R * C) (by omega)
  have hd0 := hd
  have hs0 := hs
  obtain ⟨r3, r4, r5, r6, r7, l1, l2, l3, l4, l5⟩ := hs
  obtain ⟨gP, hP8, gG, hG8, gH, gv, gw⟩ := hd
  have tP := znt (k := P) (by omega)
  have tG := znt (k := G) (by omega)
  have h40 := hO0.2.2
  have t40 := znt (k := v 40) (by omega)
  have tp := znt (k := p) (by omega)
  have tbr := znt (k := br) (by omega)
  refine w_load (pc' := 1) (v := .ref S) (m := 1) (ykc_80 (e := (2, .aload_n kF1, 0)) rfl) rfl rfl ?_
  refine w_load (pc' := 2) (v := .int (zn p)) (m := 1) (ykc_80 (e := (2, .iload_n kF2, 0)) rfl) rfl rfl ?_
  refine w_cv (as := [.ref S, .int (zn p)]) (r := []) (ykc_80 (e := (6, .invokevirtual 53, 0)) rfl) rfl rfl rfl rfl (zc_hasP ht.1.2 ht.2 (i := (zn p))) (fun v786 ph787 hv => ?_)
  obtain ⟨rfl, rfl⟩ := hv
  show zW n D 80 Q 5 [some (.ref 10), some (.ref S), some (.int (zn p)), some (.int (zn br))] [.int (zI (decide (0 ≤ (zn p).toInt ∧ (zn p).toInt < ((P : Nat) : Int))))] ph
  refine w_beq (ykc_80 (e := (4, .ifCond .eq 17, 22)) rfl) rfl (fun q => by have := of_decide_eq_false q; omega) (fun b788 => ?_)
  refine w_load (pc' := 9) (v := .ref 10) (m := 1) (ykc_80 (e := (2, .aload_n kF0, 0)) rfl) rfl rfl ?_
  refine w_load (pc' := 10) (v := .ref 10) (m := 1) (ykc_80 (e := (2, .aload_n kF0, 0)) rfl) rfl rfl ?_
  refine w_gf (pc' := 13) (v := .ref F) (ykc_80 (e := (5, .getfield 18, 0)) rfl) rfl hr rfl ?_
  refine w_load (pc' := 14) (v := .ref S) (m := 1) (ykc_80 (e := (2, .aload_n kF1, 0)) rfl) rfl rfl ?_
  refine w_load (pc' := 15) (v := .int (zn p)) (m := 1) (ykc_80 (e := (2, .iload_n kF2, 0)) rfl) rfl rfl ?_
  refine w_load (pc' := 16) (v := .int (zn br)) (m := 1) (ykc_80 (e := (2, .iload_n kF3, 0)) rfl) rfl rfl ?_
  refine w_cv (as := [.ref 10, .ref F, .ref S, .int (zn p), .int (zn br)]) (r := []) (ykc_80 (e := (6, .invokevirtual 62, 0)) rfl) rfl rfl rfl rfl (zc_reach hS hE0 ht hO0 (p := p) (br := br) (by omega) (by omega)) (fun v790 ph791 hv => ?_)
  obtain ⟨f789, rfl⟩ := hv
  have rf789 := @zRe_9 (R, C, rk, sn, sk, cn, cd) P v p br
  have trf789 := znt (k := zRe (R, C, rk, sn, sk, cn, cd) P v p br) (by omega)
  show zW n D 80 Q 19 [some (.ref 10), some (.ref S), some (.int (zn p)), some (.int (zn br))] [.int (zn (zRe (R, C, rk, sn, sk, cn, cd) P v p br))] ph791
  refine w_br (pc' := 23) (st' := [.int (zn (zRe (R, C, rk, sn, sk, cn, cd) P v p br))]) (ykc_80 (e := (4, .goto 4, 23)) rfl) rfl ?_
  refine w_ret (v := (some (.int (zn (zRe (R, C, rk, sn, sk, cn, cd) P v p br))))) (ykc_80 (e := (7, .ireturn, 0)) rfl) (zr_v rfl) ?_
  rw [hQ]
  exact ⟨f789, rfl⟩
theorem zc_reachP {ph : pm_H} {E : zEn} {F S P G : Nat} {v : Nat → Nat} (hS : zSh ph) (hE : zCe ph E F) (ht : zCt ph S P G v) (hO : zOk E.1 E.2.1 P G v) (hr : zc ph 10 1 = some (.ref F)) {p : Nat} (hp : p < P) : zM 79 [.ref 10, .ref S, .int (zn p)] ph (fun v0 q => zCr ph q ∧ v0 = some (.int (zn (zRe E P v p (v (16 + p)))))) := by
  obtain ⟨Q, hQ⟩ : ∃ Q : Option Value → pm_H → Prop, Q = (fun v0 q => zCr ph q ∧ v0 = some (.int (zn (zRe E P v p (v (16 + p)))))) := ⟨_, rfl⟩
  rw [← hQ]
  refine zM_mk fun n D => ?_
  show zW n D 79 Q 0 [some (.ref 10), some (.ref S), some (.int (zn p))] [] ph
  have c_0 : (Int32.ofInt 0).toInt = 0 := by decide
  obtain ⟨R, C, rk, sn, sk, cn, cd⟩ := E
  have hL0 : zCl ph R C rk := hE.1
  have hi0 : zCi ph sn sk := hE.2.1
  have hF : F = 11 ∨ F = 16 := hE.2.2.2
  have hE0 : zCe ph (R, C, rk, sn, sk, cn, cd) F := hE
  have hO0 : zOk R C P G v := hO
  have hL := hL0
  have hs := ht.1.2
  have hd := ht.2
  have h25 := ht.1.1
  obtain ⟨gR, gC, gN, gK, gA, hR3, hR7, hC3, hC7⟩ := hL
  have hRC := zRC49 hR7 hC7
  have tR := znt (k := R) (by omega)
  have tC := znt (k := C) (by omega)
  have tRC := znt (k := R * C) (by omega)
  have hd0 := hd
  have hs0 := hs
  obtain ⟨r3, r4, r5, r6, r7, l1, l2, l3, l4, l5⟩ := hs
  obtain ⟨gP, hP8, gG, hG8, gH, gv, gw⟩ := hd
  have tP := znt (k := P) (by omega)
  have tG := znt (k := G) (by omega)
  have h40 := hO0.2.2
  have t40 := znt (k := v 40) (by omega)
  have tp := znt (k := p) (by omega)
  refine w_load (pc' := 1) (v := .ref S) (m := 1) (ykc_79 (e := (2, .aload_n kF1, 0)) rfl) rfl rfl ?_
  refine w_load (pc' := 2) (v := .int (zn p)) (m := 1) (ykc_79 (e := (2, .iload_n kF2, 0)) rfl) rfl rfl ?_
  refine w_cv (as := [.ref S, .int (zn p)]) (r := []) (ykc_79 (e := (6, .invokevirtual 53, 0)) rfl) rfl rfl rfl rfl (zc_hasP ht.1.2 ht.2 (i := (zn p))) (fun v792 ph793 hv => ?_)
  obtain ⟨rfl, rfl⟩ := hv
  show zW n D 79 Q 5 [some (.ref 10), some (.ref S), some (.int (zn p))] [.int (zI (decide (0 ≤ (zn p).toInt ∧ (zn p).toInt < ((P : Nat) : Int))))] ph
  refine w_beq (ykc_79 (e := (4, .ifCond .eq 22, 27)) rfl) rfl (fun q => by have := of_decide_eq_false q; omega) (fun b794 => ?_)
  refine w_load (pc' := 9) (v := .ref 10) (m := 1) (ykc_79 (e := (2, .aload_n kF0, 0)) rfl) rfl rfl ?_
  refine w_load (pc' := 10) (v := .ref 10) (m := 1) (ykc_79 (e := (2, .aload_n kF0, 0)) rfl) rfl rfl ?_
  refine w_gf (pc' := 13) (v := .ref F) (ykc_79 (e := (5, .getfield 18, 0)) rfl) rfl hr rfl ?_
  refine w_load (pc' := 14) (v := .ref S) (m := 1) (ykc_79 (e := (2, .aload_n kF1, 0)) rfl) rfl rfl ?_
  refine w_load (pc' := 15) (v := .int (zn p)) (m := 1) (ykc_79 (e := (2, .iload_n kF2, 0)) rfl) rfl rfl ?_
  refine w_load (pc' := 16) (v := .ref S) (m := 1) (ykc_79 (e := (2, .aload_n kF1, 0)) rfl) rfl rfl ?_
  refine w_gf (pc' := 19) (v := .ref (S + 3)) (ykc_79 (e := (5, .getfield 59, 0)) rfl) rfl r5 rfl ?_
  refine w_load (pc' := 20) (v := .int (zn p)) (m := 1) (ykc_79 (e := (2, .iload_n kF2, 0)) rfl) rfl rfl ?_
  have q795 := hO0.1 p (by omega)
  have tq795 := znt (k := v (16 + p)) (by omega)
  refine w_ialk (pc' := 21) (k := p) (ykc_79 (e := (5, .iaload, 0)) rfl) (gv p (by omega)).2.2.1 (by omega) rfl ?_
  refine w_cv (as := [.ref 10, .ref F, .ref S, .int (zn p), .int (zn (v (16 + p)))]) (r := []) (ykc_79 (e := (6, .invokevirtual 62, 0)) rfl) rfl rfl rfl rfl (zc_reach hS hE0 ht hO0 (p := p) (br := v (16 + p)) (by omega) (by omega)) (fun v797 ph798 hv => ?_)
  obtain ⟨f796, rfl⟩ := hv
  have rf796 := @zRe_9 (R, C, rk, sn, sk, cn, cd) P v p (v (16 + p))
  have trf796 := znt (k := zRe (R, C, rk, sn, sk, cn, cd) P v p (v (16 + p))) (by omega)
  show zW n D 79 Q 24 [some (.ref 10), some (.ref S), some (.int (zn p))] [.int (zn (zRe (R, C, rk, sn, sk, cn, cd) P v p (v (16 + p))))] ph798
  refine w_br (pc' := 28) (st' := [.int (zn (zRe (R, C, rk, sn, sk, cn, cd) P v p (v (16 + p))))]) (ykc_79 (e := (4, .goto 4, 28)) rfl) rfl ?_
  refine w_ret (v := (some (.int (zn (zRe (R, C, rk, sn, sk, cn, cd) P v p (v (16 + p))))))) (ykc_79 (e := (7, .ireturn, 0)) rfl) (zr_v rfl) ?_
  rw [hQ]
  exact ⟨f796, rfl⟩
theorem zc_viewU {ph : pm_H} {E : zEn} {F S P G : Nat} {v : Nat → Nat} (hS : zSh ph) (hE : zCe ph E F) (ht : zCt ph S P G v) (hO : zOk E.1 E.2.1 P G v) (hr : zc ph 10 1 = some (.ref F)) (hc : zCc ph E.1 E.2.1 E.2.2.1) {p br : Nat} (hp : p < P) (hb : br ≤ 4) : zM 83 [.ref 10, .ref S, .int (zn p), .int (zn br)] ph (fun v0 q => zCx ph q ∧ zCc q E.1 E.2.1 E.2.2.1 ∧ v0 = some (.long (zS (zSw E P v p (v (8 + p)) br) (E.1 * E.2.1)))) := by
  obtain ⟨Q, hQ⟩ : ∃ Q : Option Value → pm_H → Prop, Q = (fun v0 q => zCx ph q ∧ zCc q E.1 E.2.1 E.2.2.1 ∧ v0 = some (.long (zS (zSw E P v p (v (8 + p)) br) (E.1 * E.2.1)))) := ⟨_, rfl⟩
  rw [← hQ]
  refine zM_mk fun n D => ?_
  show zW n D 83 Q 0 [some (.ref 10), some (.ref S), some (.int (zn p)), some (.int (zn br)), none] [] ph
  obtain ⟨R, C, rk, sn, sk, cn, cd⟩ := E
  have hL0 : zCl ph R C rk := hE.1
  have hi0 : zCi ph sn sk := hE.2.1
  have hF : F = 11 ∨ F = 16 := hE.2.2.2
  have hE0 : zCe ph (R, C, rk, sn, sk, cn, cd) F := hE
  have hO0 : zOk R C P G v := hO
  have hL := hL0
  have hs := ht.1.2
  have hd := ht.2
  have h25 := ht.1.1
  obtain ⟨gR, gC, gN, gK, gA, hR3, hR7, hC3, hC7⟩ := hL
  have hRC := zRC49 hR7 hC7
  have tR := znt (k := R) (by omega)
  have tC := znt (k := C) (by omega)
  have tRC := znt (k := R * C) (by omega)
  have hd0 := hd
  have hs0 := hs
  obtain ⟨r3, r4, r5, r6, r7, l1, l2, l3, l4, l5⟩ := hs
  obtain ⟨gP, hP8, gG, hG8, gH, gv, gw⟩ := hd
  have tP := znt (k := P) (by omega)
  have tG := znt (k := G) (by omega)
  have h40 := hO0.2.2
  have t40 := znt (k := v 40) (by omega)
  have hc0 := hc
  have tp := znt (k := p) (by omega)
  have tbr := znt (k := br) (by omega)
  refine w_load (pc' := 1) (v := .ref S) (m := 1) (ykc_83 (e := (2, .aload_n kF1, 0)) rfl) rfl rfl ?_
  refine w_load (pc' := 2) (v := .int (zn p)) (m := 1) (ykc_83 (e := (2, .iload_n kF2, 0)) rfl) rfl rfl ?_
  refine w_cv (as := [.ref S, .int (zn p)]) (r := []) (ykc_83 (e := (6, .invokevirtual 53, 0)) rfl) rfl rfl rfl rfl (zc_hasP ht.1.2 ht.2 (i := (zn p))) (fun v799 ph800 hv => ?_)
  obtain ⟨rfl, rfl⟩ := hv
  show zW n D 83 Q 5 [some (.ref 10), some (.ref S), some (.int (zn p)), some (.int (zn br)), none] [.int (zI (decide (0 ≤ (zn p).toInt ∧ (zn p).toInt < ((P : Nat) : Int))))] ph
  refine w_bne (ykc_83 (e := (4, .ifCond .ne 5, 10)) rfl) rfl (fun b801 => ?_) (fun q => by have := of_decide_eq_false q; omega)
  refine w_load (pc' := 11) (v := .ref 10) (m := 1) (ykc_83 (e := (2, .aload_n kF0, 0)) rfl) rfl rfl ?_
  refine w_load (pc' := 12) (v := .ref 10) (m := 1) (ykc_83 (e := (2, .aload_n kF0, 0)) rfl) rfl rfl ?_
  refine w_gf (pc' := 15) (v := .ref F) (ykc_83 (e := (5, .getfield 18, 0)) rfl) rfl hr rfl ?_
  refine w_load (pc' := 16) (v := .ref S) (m := 1) (ykc_83 (e := (2, .aload_n kF1, 0)) rfl) rfl rfl ?_
  refine w_load (pc' := 17) (v := .int (zn p)) (m := 1) (ykc_83 (e := (2, .iload_n kF2, 0)) rfl) rfl rfl ?_
  refine w_load (pc' := 18) (v := .int (zn br)) (m := 1) (ykc_83 (e := (2, .iload_n kF3, 0)) rfl) rfl rfl ?_
  refine w_cv (as := [.ref 10, .ref F, .ref S, .int (zn p), .int (zn br)]) (r := []) (ykc_83 (e := (6, .invokevirtual 62, 0)) rfl) rfl rfl rfl rfl (zc_reach hS hE0 ht hO0 (p := p) (br := br) (by omega) (by omega)) (fun v803 ph804 hv => ?_)
  obtain ⟨f802, rfl⟩ := hv
  have rf802 := @zRe_9 (R, C, rk, sn, sk, cn, cd) P v p br
  have trf802 := znt (k := zRe (R, C, rk, sn, sk, cn, cd) P v p br) (by omega)
  show zW n D 83 Q 21 [some (.ref 10), some (.ref S), some (.int (zn p)), some (.int (zn br)), none] [.int (zn (zRe (R, C, rk, sn, sk, cn, cd) P v p br))] ph804
  refine w_store (pc' := 23) (L' := [some (.ref 10), some (.ref S), some (.int (zn p)), some (.int (zn br)), some (.int (zn (zRe (R, C, rk, sn, sk, cn, cd) P v p br)))]) (st' := []) (m := 2) (ykc_83 (e := (3, .istore 4, 0)) rfl) rfl rfl ?_
  refine w_load (pc' := 24) (v := .ref 10) (m := 1) (ykc_83 (e := (2, .aload_n kF0, 0)) rfl) rfl rfl ?_
  refine w_gf (pc' := 27) (v := .ref 5) (ykc_83 (e := (5, .getfield 9, 0)) rfl) rfl ((f802.1 10 0 (by decide) (by decide)).trans (zsg hS zs_10_0)) rfl ?_
  refine w_load (pc' := 28) (v := .ref S) (m := 1) (ykc_83 (e := (2, .aload_n kF1, 0)) rfl) rfl rfl ?_
  refine w_gf (pc' := 31) (v := .ref (S + 1)) (ykc_83 (e := (5, .getfield 66, 0)) rfl) rfl ((f802.1 S 3 (by simp <;> omega) (by simp <;> omega)).trans r3) rfl ?_
  refine w_load (pc' := 32) (v := .int (zn p)) (m := 1) (ykc_83 (e := (2, .iload_n kF2, 0)) rfl) rfl rfl ?_
  have q805 := hO0.1 p (by omega)
  have tq805 := znt (k := v p) (by omega)
  refine w_ialk (pc' := 33) (k := p) (ykc_83 (e := (5, .iaload, 0)) rfl) ((f802.1 (S + 1) p (by simp <;> omega) (by simp <;> omega)).trans (gv p (by omega)).1) (by omega) rfl ?_
  refine w_load (pc' := 34) (v := .ref S) (m := 1) (ykc_83 (e := (2, .aload_n kF1, 0)) rfl) rfl rfl ?_
  refine w_gf (pc' := 37) (v := .ref (S + 2)) (ykc_83 (e := (5, .getfield 83, 0)) rfl) rfl ((f802.1 S 4 (by simp <;> omega) (by simp <;> omega)).trans r4) rfl ?_
  refine w_load (pc' := 38) (v := .int (zn p)) (m := 1) (ykc_83 (e := (2, .iload_n kF2, 0)) rfl) rfl rfl ?_
  have q806 := hO0.1 p (by omega)
  have tq806 := znt (k := v (8 + p)) (by omega)
  refine w_ialk (pc' := 39) (k := p) (ykc_83 (e := (5, .iaload, 0)) rfl) ((f802.1 (S + 2) p (by simp <;> omega) (by simp <;> omega)).trans (gv p (by omega)).2.1) (by omega) rfl ?_
  refine w_load (pc' := 40) (v := .int (zn br)) (m := 1) (ykc_83 (e := (2, .iload_n kF3, 0)) rfl) rfl rfl ?_
  refine w_load (pc' := 42) (v := .int (zn (zRe (R, C, rk, sn, sk, cn, cd) P v p br))) (m := 2) (ykc_83 (e := (2, .iload 4, 0)) rfl) rfl rfl ?_
  refine w_cv (as := [.ref 5, .int (zn (v p)), .int (zn (v (8 + p))), .int (zn br), .int (zn (zRe (R, C, rk, sn, sk, cn, cd) P v p br))]) (r := []) (ykc_83 (e := (6, .invokevirtual 115, 0)) rfl) rfl rfl rfl rfl (zc_view (zCx_S (zCr_x f802) hS) (zCx_l (zCr_x f802) hL0) (f := v p) (fc := v (8 + p)) (br := br) (re := zRe (R, C, rk, sn, sk, cn, cd) P v p br) (zCr_c f802 hc0) (by omega) (by omega) (by omega) (by omega)) (fun v809 ph810 hv => ?_)
  obtain ⟨f807, hc808, rfl⟩ := hv
  show zW n D 83 Q 45 [some (.ref 10), some (.ref S), some (.int (zn p)), some (.int (zn br)), some (.int (zn (zRe (R, C, rk, sn, sk, cn, cd) P v p br)))] [.long (zS (fun g => zsee C rk (v p) g (v (8 + p)) br (zRe (R, C, rk, sn, sk, cn, cd) P v p br)) (R * C))] ph810
  refine w_ret (v := (some (.long (zS (fun g => zsee C rk (v p) g (v (8 + p)) br (zRe (R, C, rk, sn, sk, cn, cd) P v p br)) (R * C))))) (ykc_83 (e := (7, .lreturn, 0)) rfl) (zr_v rfl) ?_
  rw [hQ]
  exact ⟨(zFr_trans (zCr_x f802) (zCy_x f807)), hc808, rfl⟩
theorem zc_viewOf {ph : pm_H} {E : zEn} {F S P G : Nat} {v : Nat → Nat} (hS : zSh ph) (hE : zCe ph E F) (ht : zCt ph S P G v) (hO : zOk E.1 E.2.1 P G v) (hr : zc ph 10 1 = some (.ref F)) (hc : zCc ph E.1 E.2.1 E.2.2.1) {p : Nat} (hp : p < P) : zM 82 [.ref 10, .ref S, .int (zn p)] ph (fun v0 q => zCx ph q ∧ zCc q E.1 E.2.1 E.2.2.1 ∧ v0 = some (.long (zVw E P v p))) := by
  obtain ⟨Q, hQ⟩ : ∃ Q : Option Value → pm_H → Prop, Q = (fun v0 q => zCx ph q ∧ zCc q E.1 E.2.1 E.2.2.1 ∧ v0 = some (.long (zVw E P v p))) := ⟨_, rfl⟩
  rw [← hQ]
  refine zM_mk fun n D => ?_
  show zW n D 82 Q 0 [some (.ref 10), some (.ref S), some (.int (zn p))] [] ph
  obtain ⟨R, C, rk, sn, sk, cn, cd⟩ := E
  have hL0 : zCl ph R C rk := hE.1
  have hi0 : zCi ph sn sk := hE.2.1
  have hF : F = 11 ∨ F = 16 := hE.2.2.2
  have hE0 : zCe ph (R, C, rk, sn, sk, cn, cd) F := hE
  have hO0 : zOk R C P G v := hO
  have hL := hL0
  have hs := ht.1.2
  have hd := ht.2
  have h25 := ht.1.1
  obtain ⟨gR, gC, gN, gK, gA, hR3, hR7, hC3, hC7⟩ := hL
  have hRC := zRC49 hR7 hC7
  have tR := znt (k := R) (by omega)
  have tC := znt (k := C) (by omega)
  have tRC := znt (k := R * C) (by omega)
  have hd0 := hd
  have hs0 := hs
  obtain ⟨r3, r4, r5, r6, r7, l1, l2, l3, l4, l5⟩ := hs
  obtain ⟨gP, hP8, gG, hG8, gH, gv, gw⟩ := hd
  have tP := znt (k := P) (by omega)
  have tG := znt (k := G) (by omega)
  have h40 := hO0.2.2
  have t40 := znt (k := v 40) (by omega)
  have hc0 := hc
  have tp := znt (k := p) (by omega)
  refine w_load (pc' := 1) (v := .ref S) (m := 1) (ykc_82 (e := (2, .aload_n kF1, 0)) rfl) rfl rfl ?_
  refine w_load (pc' := 2) (v := .int (zn p)) (m := 1) (ykc_82 (e := (2, .iload_n kF2, 0)) rfl) rfl rfl ?_
  refine w_cv (as := [.ref S, .int (zn p)]) (r := []) (ykc_82 (e := (6, .invokevirtual 53, 0)) rfl) rfl rfl rfl rfl (zc_hasP ht.1.2 ht.2 (i := (zn p))) (fun v811 ph812 hv => ?_)
  obtain ⟨rfl, rfl⟩ := hv
  show zW n D 82 Q 5 [some (.ref 10), some (.ref S), some (.int (zn p))] [.int (zI (decide (0 ≤ (zn p).toInt ∧ (zn p).toInt < ((P : Nat) : Int))))] ph
  refine w_beq (ykc_82 (e := (4, .ifCond .eq 18, 23)) rfl) rfl (fun q => by have := of_decide_eq_false q; omega) (fun b813 => ?_)
  refine w_load (pc' := 9) (v := .ref 10) (m := 1) (ykc_82 (e := (2, .aload_n kF0, 0)) rfl) rfl rfl ?_
  refine w_load (pc' := 10) (v := .ref S) (m := 1) (ykc_82 (e := (2, .aload_n kF1, 0)) rfl) rfl rfl ?_
  refine w_load (pc' := 11) (v := .int (zn p)) (m := 1) (ykc_82 (e := (2, .iload_n kF2, 0)) rfl) rfl rfl ?_
  refine w_load (pc' := 12) (v := .ref S) (m := 1) (ykc_82 (e := (2, .aload_n kF1, 0)) rfl) rfl rfl ?_
  refine w_gf (pc' := 15) (v := .ref (S + 3)) (ykc_82 (e := (5, .getfield 59, 0)) rfl) rfl r5 rfl ?_
  refine w_load (pc' := 16) (v := .int (zn p)) (m := 1) (ykc_82 (e := (2, .iload_n kF2, 0)) rfl) rfl rfl ?_
  have q814 := hO0.1 p (by omega)
  have tq814 := znt (k := v (16 + p)) (by omega)
  refine w_ialk (pc' := 17) (k := p) (ykc_82 (e := (5, .iaload, 0)) rfl) (gv p (by omega)).2.2.1 (by omega) rfl ?_
  refine w_cv (as := [.ref 10, .ref S, .int (zn p), .int (zn (v (16 + p)))]) (r := []) (ykc_82 (e := (6, .invokevirtual 111, 0)) rfl) rfl rfl rfl rfl (zc_viewU hS hE0 ht hO0 hr hc0 (p := p) (br := v (16 + p)) (by omega) (by omega)) (fun v817 ph818 hv => ?_)
  obtain ⟨f815, hc816, rfl⟩ := hv
  show zW n D 82 Q 20 [some (.ref 10), some (.ref S), some (.int (zn p))] [.long (zS (zSw (R, C, rk, sn, sk, cn, cd) P v p (v (8 + p)) (v (16 + p))) (R * C))] ph818
  refine w_br (pc' := 24) (st' := [.long (zS (zSw (R, C, rk, sn, sk, cn, cd) P v p (v (8 + p)) (v (16 + p))) (R * C))]) (ykc_82 (e := (4, .goto 4, 24)) rfl) rfl ?_
  refine w_ret (v := (some (.long (zS (zSw (R, C, rk, sn, sk, cn, cd) P v p (v (8 + p)) (v (16 + p))) (R * C))))) (ykc_82 (e := (7, .lreturn, 0)) rfl) (zr_v rfl) ?_
  rw [hQ]
  exact ⟨f815, hc816, rfl⟩
theorem zc_lookR {ph : pm_H} {E : zEn} {F S P G : Nat} {v : Nat → Nat} (hS : zSh ph) (hE : zCe ph E F) (ht : zCt ph S P G v) (hO : zOk E.1 E.2.1 P G v) (hr : zc ph 10 1 = some (.ref F)) (hc : zCc ph E.1 E.2.1 E.2.2.1) : zM 84 [.ref 10, .ref S] ph (fun v0 q => zCx ph q ∧ zCc q E.1 E.2.1 E.2.2.1 ∧ (∀ i, i < P → zc q 23 i = some (.long (zVw E P v i))) ∧ v0 = some (.long (zAll E P v))) := by
  obtain ⟨Q, hQ⟩ : ∃ Q : Option Value → pm_H → Prop, Q = (fun v0 q => zCx ph q ∧ zCc q E.1 E.2.1 E.2.2.1 ∧ (∀ i, i < P → zc q 23 i = some (.long (zVw E P v i))) ∧ v0 = some (.long (zAll E P v))) := ⟨_, rfl⟩
  rw [← hQ]
  refine zM_mk fun n D => ?_
  show zW n D 84 Q 0 [some (.ref 10), some (.ref S)] [] ph
  obtain ⟨R, C, rk, sn, sk, cn, cd⟩ := E
  have hL0 : zCl ph R C rk := hE.1
  have hi0 : zCi ph sn sk := hE.2.1
  have hF : F = 11 ∨ F = 16 := hE.2.2.2
  have hE0 : zCe ph (R, C, rk, sn, sk, cn, cd) F := hE
  have hO0 : zOk R C P G v := hO
  have hL := hL0
  have hs := ht.1.2
  have hd := ht.2
  have h25 := ht.1.1
  obtain ⟨gR, gC, gN, gK, gA, hR3, hR7, hC3, hC7⟩ := hL
  have hRC := zRC49 hR7 hC7
  have tR := znt (k := R) (by omega)
  have tC := znt (k := C) (by omega)
  have tRC := znt (k := R * C) (by omega)
  have hd0 := hd
  have hs0 := hs
  obtain ⟨r3, r4, r5, r6, r7, l1, l2, l3, l4, l5⟩ := hs
  obtain ⟨gP, hP8, gG, hG8, gH, gv, gw⟩ := hd
  have tP := znt (k := P) (by omega)
  have tG := znt (k := G) (by omega)
  have h40 := hO0.2.2
  have t40 := znt (k := v 40) (by omega)
  have hc0 := hc
  refine w_load (pc' := 1) (v := .ref 10) (m := 1) (ykc_84 (e := (2, .aload_n kF0, 0)) rfl) rfl rfl ?_
  refine w_load (pc' := 2) (v := .ref 10) (m := 1) (ykc_84 (e := (2, .aload_n kF0, 0)) rfl) rfl rfl ?_
  refine w_gf (pc' := 5) (v := .ref F) (ykc_84 (e := (5, .getfield 18, 0)) rfl) rfl hr rfl ?_
  refine w_load (pc' := 6) (v := .ref S) (m := 1) (ykc_84 (e := (2, .aload_n kF1, 0)) rfl) rfl rfl ?_
  refine w_cv (as := [.ref 10, .ref F, .ref S]) (r := []) (ykc_84 (e := (6, .invokevirtual 118, 0)) rfl) rfl rfl rfl rfl (zc_look hS hE0 ht hO0 hc0) (fun v819 ph820 hv => ?_)
  obtain ⟨f85, hc85, hv85, rfl⟩ := hv
  show zW n D 84 Q 9 [some (.ref 10), some (.ref S)] [.long (zAll (R, C, rk, sn, sk, cn, cd) P v)] ph820
  refine w_ret (v := (some (.long (zAll (R, C, rk, sn, sk, cn, cd) P v)))) (ykc_84 (e := (7, .lreturn, 0)) rfl) (zr_v rfl) ?_
  rw [hQ]
  exact ⟨f85, hc85, hv85, rfl⟩
theorem zc_viewAt {ph : pm_H} {E : zEn} {F S P G : Nat} {v : Nat → Nat} (hS : zSh ph) (hE : zCe ph E F) (ht : zCt ph S P G v) (hO : zOk E.1 E.2.1 P G v) (hvw : ∀ i, i < P → zc ph 23 i = some (.long (zVw E P v i))) {p : Nat} (hp : p < P) : zM 86 [.ref 10, .int (zn p)] ph (fun v0 q => ph = q ∧ v0 = some (.long (zVw E P v p))) := by
  obtain ⟨Q, hQ⟩ : ∃ Q : Option Value → pm_H → Prop, Q = (fun v0 q => ph = q ∧ v0 = some (.long (zVw E P v p))) := ⟨_, rfl⟩
  rw [← hQ]
  refine zM_mk fun n D => ?_
  show zW n D 86 Q 0 [some (.ref 10), some (.int (zn p))] [] ph
  have c_0 : ((Int8.ofInt 8).toInt32).toInt = 8 := by decide
  obtain ⟨R, C, rk, sn, sk, cn, cd⟩ := E
  have hL0 : zCl ph R C rk := hE.1
  have hi0 : zCi ph sn sk := hE.2.1
  have hF : F = 11 ∨ F = 16 := hE.2.2.2
  have hE0 : zCe ph (R, C, rk, sn, sk, cn, cd) F := hE
  have hO0 : zOk R C P G v := hO
  have hL := hL0
  have hs := ht.1.2
  have hd := ht.2
  have h25 := ht.1.1
  obtain ⟨gR, gC, gN, gK, gA, hR3, hR7, hC3, hC7⟩ := hL
  have hRC := zRC49 hR7 hC7
  have tR := znt (k := R) (by omega)
  have tC := znt (k := C) (by omega)
  have tRC := znt (k := R * C) (by omega)
  have hd0 := hd
  have hs0 := hs
  obtain ⟨r3, r4, r5, r6, r7, l1, l2, l3, l4, l5⟩ := hs
  obtain ⟨gP, hP8, gG, hG8, gH, gv, gw⟩ := hd
  have tP := znt (k := P) (by omega)
  have tG := znt (k := G) (by omega)
  have h40 := hO0.2.2
  have t40 := znt (k := v 40) (by omega)
  have tp := znt (k := p) (by omega)
  refine w_load (pc' := 1) (v := .int (zn p)) (m := 1) (ykc_86 (e := (2, .iload_n kF1, 0)) rfl) rfl rfl ?_
  refine w_zlt (ykc_86 (e := (4, .ifCond .lt 18, 19)) rfl) rfl (fun q => by exfalso; omega) (fun b821 => ?_)
  refine w_load (pc' := 5) (v := .int (zn p)) (m := 1) (ykc_86 (e := (2, .iload_n kF1, 0)) rfl) rfl rfl ?_
  refine w_push (pc' := 7) (v := .int ((Int8.ofInt 8).toInt32)) (m := 2) (ykc_86 (e := (1, .bipush 8, 0)) rfl) rfl rfl ?_
  refine w_ige (ykc_86 (e := (4, .if_icmp .ge 12, 19)) rfl) rfl (fun q => by exfalso; omega) (fun b822 => ?_)
  refine w_load (pc' := 11) (v := .ref 10) (m := 1) (ykc_86 (e := (2, .aload_n kF0, 0)) rfl) rfl rfl ?_
  refine w_gf (pc' := 14) (v := .ref 23) (ykc_86 (e := (5, .getfield 36, 0)) rfl) rfl (zsg hS zs_10_6) rfl ?_
  refine w_load (pc' := 15) (v := .int (zn p)) (m := 1) (ykc_86 (e := (2, .iload_n kF1, 0)) rfl) rfl rfl ?_
  refine w_lalk (pc' := 16) (k := p) (ykc_86 (e := (5, .laload, 0)) rfl) (hvw p (by omega)) (by omega) rfl ?_
  refine w_br (pc' := 20) (st' := [.long (zVw (R, C, rk, sn, sk, cn, cd) P v p)]) (ykc_86 (e := (4, .goto 4, 20)) rfl) rfl ?_
  refine w_ret (v := (some (.long (zVw (R, C, rk, sn, sk, cn, cd) P v p)))) (ykc_86 (e := (7, .lreturn, 0)) rfl) (zr_v rfl) ?_
  rw [hQ]
  exact ⟨rfl, rfl⟩
theorem zc_seers {ph : pm_H} {E : zEn} {F S P G : Nat} {v : Nat → Nat} (hS : zSh ph) (hE : zCe ph E F) (ht : zCt ph S P G v) (hO : zOk E.1 E.2.1 P G v) (hvw : ∀ i, i < P → zc ph 23 i = some (.long (zVw E P v i))) {g : Nat} (hg : g < E.1 * E.2.1) : zM 88 [.ref 10, .ref S, .int (zn g)] ph (fun v0 q => ph = q ∧ v0 = some (.int (zWho E P v g))) := by
  obtain ⟨Q, hQ⟩ : ∃ Q : Option Value → pm_H → Prop, Q = (fun v0 q => ph = q ∧ v0 = some (.int (zWho E P v g))) := ⟨_, rfl⟩
  rw [← hQ]
  refine zM_mk fun n D => ?_
  show zW n D 88 Q 0 [some (.ref 10), some (.ref S), some (.int (zn g)), none, none] [] ph
  have c_0 : ((Int8.ofInt 8).toInt32).toInt = 8 := by decide
  have c_1 : (Int32.ofInt 0).toInt = 0 := by decide
  have c_2 : (Int32.ofInt 1).toInt = 1 := by decide
  obtain ⟨R, C, rk, sn, sk, cn, cd⟩ := E
  have hL0 : zCl ph R C rk := hE.1
  have hi0 : zCi ph sn sk := hE.2.1
  have hF : F = 11 ∨ F = 16 := hE.2.2.2
  have hE0 : zCe ph (R, C, rk, sn, sk, cn, cd) F := hE
  have hO0 : zOk R C P G v := hO
  have hL := hL0
  have hs := ht.1.2
  have hd := ht.2
  have h25 := ht.1.1
  obtain ⟨gR, gC, gN, gK, gA, hR3, hR7, hC3, hC7⟩ := hL
  have hRC := zRC49 hR7 hC7
  have tR := znt (k := R) (by omega)
  have tC := znt (k := C) (by omega)
  have tRC := znt (k := R * C) (by omega)
  have hd0 := hd
  have hs0 := hs
  obtain ⟨r3, r4, r5, r6, r7, l1, l2, l3, l4, l5⟩ := hs
  obtain ⟨gP, hP8, gG, hG8, gH, gv, gw⟩ := hd
  have tP := znt (k := P) (by omega)
  have tG := znt (k := G) (by omega)
  have h40 := hO0.2.2
  have t40 := znt (k := v 40) (by omega)
  have hg : g < R * C := hg
  have tg := znt (k := g) (by omega)
  refine w_alu (pc' := 1) (st' := [.int (Int32.ofInt 0)]) (ykc_88 (e := (0, .iconst 0, 0)) rfl) rfl rfl ?_
  refine w_store (pc' := 2) (L' := [some (.ref 10), some (.ref S), some (.int (zn g)), some (.int (Int32.ofInt 0)), none]) (st' := []) (m := 1) (ykc_88 (e := (3, .istore_n kF3, 0)) rfl) rfl rfl ?_
  refine w_alu (pc' := 3) (st' := [.int (Int32.ofInt 0)]) (ykc_88 (e := (0, .iconst 0, 0)) rfl) rfl rfl ?_
  refine w_store (pc' := 5) (L' := [some (.ref 10), some (.ref S), some (.int (zn g)), some (.int (Int32.ofInt 0)), some (.int (Int32.ofInt 0))]) (st' := []) (m := 2) (ykc_88 (e := (3, .istore 4, 0)) rfl) rfl rfl ?_
  have hl : ∀ (n : Nat), ∀ (k : Nat), (k ≤ P) → zW n D 88 Q 5 [some (.ref 10), some (.ref S), some (.int (zn g)), some (.int (zT (fun p => zSv (R, C, rk, sn, sk, cn, cd) P v p g) k)), some (.int (zn k))] [] ph := by
    intro n
    induction n using Nat.strongRecOn with
    | ind n ih =>
      intro k hk
      have tk := znt (k := k) (by omega)
      refine w_load (pc' := 7) (v := .int (zn k)) (m := 2) (ykc_88 (e := (2, .iload 4, 0)) rfl) rfl rfl ?_
      refine w_load (pc' := 8) (v := .ref S) (m := 1) (ykc_88 (e := (2, .aload_n kF1, 0)) rfl) rfl rfl ?_
      refine w_gf (pc' := 11) (v := .int (zn P)) (ykc_88 (e := (5, .getfield 122, 0)) rfl) rfl gP rfl ?_
      refine w_ige (ykc_88 (e := (4, .if_icmp .ge 34, 45)) rfl) rfl (fun b823 => ?_) (fun b823 => ?_)
      · refine w_load (pc' := 46) (v := .int (zT (fun p => zSv (R, C, rk, sn, sk, cn, cd) P v p g) k)) (m := 1) (ykc_88 (e := (2, .iload_n kF3, 0)) rfl) rfl rfl ?_
        refine w_ret (v := (some (.int (zT (fun p => zSv (R, C, rk, sn, sk, cn, cd) P v p g) k)))) (ykc_88 (e := (7, .ireturn, 0)) rfl) (zr_v rfl) ?_
        have ek : P = k := by omega
        subst ek
        rw [hQ]
        exact ⟨rfl, rfl⟩
      · refine w_load (pc' := 16) (v := .int (zn k)) (m := 2) (ykc_88 (e := (2, .iload 4, 0)) rfl) rfl rfl ?_
        refine w_push (pc' := 18) (v := .int ((Int8.ofInt 8).toInt32)) (m := 2) (ykc_88 (e := (1, .bipush 8, 0)) rfl) rfl rfl ?_
        refine w_ige (ykc_88 (e := (4, .if_icmp .ge 27, 45)) rfl) rfl (fun q => by exfalso; omega) (fun b824 => ?_)
        refine w_load (pc' := 22) (v := .int (zT (fun p => zSv (R, C, rk, sn, sk, cn, cd) P v p g) k)) (m := 1) (ykc_88 (e := (2, .iload_n kF3, 0)) rfl) rfl rfl ?_
        refine w_load (pc' := 23) (v := .ref 10) (m := 1) (ykc_88 (e := (2, .aload_n kF0, 0)) rfl) rfl rfl ?_
        refine w_gf (pc' := 26) (v := .ref 23) (ykc_88 (e := (5, .getfield 36, 0)) rfl) rfl (zsg hS zs_10_6) rfl ?_
        refine w_load (pc' := 28) (v := .int (zn k)) (m := 2) (ykc_88 (e := (2, .iload 4, 0)) rfl) rfl rfl ?_
        refine w_lalk (pc' := 29) (k := k) (ykc_88 (e := (5, .laload, 0)) rfl) (hvw k (by omega)) (by omega) rfl ?_
        refine w_load (pc' := 30) (v := .int (zn g)) (m := 1) (ykc_88 (e := (2, .iload_n kF2, 0)) rfl) rfl rfl ?_
        refine w_alu (pc' := 31) (st' := [.long ((zVw (R, C, rk, sn, sk, cn, cd) P v k) >>> ((zn g).toInt64 &&& 63)), .int (zT (fun p => zSv (R, C, rk, sn, sk, cn, cd) P v p g) k)]) (ykc_88 (e := (0, .lshr, 0)) rfl) rfl rfl ?_
        refine w_alu (pc' := 32) (st' := [.long (Int64.ofNat kG1), .long ((zVw (R, C, rk, sn, sk, cn, cd) P v k) >>> ((zn g).toInt64 &&& 63)), .int (zT (fun p => zSv (R, C, rk, sn, sk, cn, cd) P v p g) k)]) (ykc_88 (e := (0, .lconst kG1, 0)) rfl) rfl rfl ?_
        refine w_alu (pc' := 33) (st' := [.long (((zVw (R, C, rk, sn, sk, cn, cd) P v k) >>> ((zn g).toInt64 &&& 63)) &&& (Int64.ofNat kG1)), .int (zT (fun p => zSv (R, C, rk, sn, sk, cn, cd) P v p g) k)]) (ykc_88 (e := (0, .land, 0)) rfl) rfl rfl ?_
        refine w_alu (pc' := 34) (st' := [.int ((((zVw (R, C, rk, sn, sk, cn, cd) P v k) >>> ((zn g).toInt64 &&& 63)) &&& (Int64.ofNat kG1)).toInt32), .int (zT (fun p => zSv (R, C, rk, sn, sk, cn, cd) P v p g) k)]) (ykc_88 (e := (0, .l2i, 0)) rfl) rfl rfl ?_
        refine w_load (pc' := 36) (v := .int (zn k)) (m := 2) (ykc_88 (e := (2, .iload 4, 0)) rfl) rfl rfl ?_
        refine w_alu (pc' := 37) (st' := [.int (((((zVw (R, C, rk, sn, sk, cn, cd) P v k) >>> ((zn g).toInt64 &&& 63)) &&& (Int64.ofNat kG1)).toInt32) <<< ((zn k) &&& 31)), .int (zT (fun p => zSv (R, C, rk, sn, sk, cn, cd) P v p g) k)]) (ykc_88 (e := (0, .ishl, 0)) rfl) rfl rfl ?_
        refine w_alu (pc' := 38) (st' := [.int ((zT (fun p => zSv (R, C, rk, sn, sk, cn, cd) P v p g) k) ||| (((((zVw (R, C, rk, sn, sk, cn, cd) P v k) >>> ((zn g).toInt64 &&& 63)) &&& (Int64.ofNat kG1)).toInt32) <<< ((zn k) &&& 31)))]) (ykc_88 (e := (0, .ior, 0)) rfl) rfl rfl ?_
        refine w_store (pc' := 39) (L' := [some (.ref 10), some (.ref S), some (.int (zn g)), some (.int ((zT (fun p => zSv (R, C, rk, sn, sk, cn, cd) P v p g) k) ||| (((((zVw (R, C, rk, sn, sk, cn, cd) P v k) >>> ((zn g).toInt64 &&& 63)) &&& (Int64.ofNat kG1)).toInt32) <<< ((zn k) &&& 31)))), some (.int (zn k))]) (st' := []) (m := 1) (ykc_88 (e := (3, .istore_n kF3, 0)) rfl) rfl rfl ?_
        have e825 : (zn k) + Int32.ofInt 1 = zn (k + 1) := (zaddN (a := k) (b := 1) (znt (by omega)) c_2 (by omega))
        have te825 := znt (k := k + 1) (by omega)
        refine w_store (pc' := 42) (L' := [some (.ref 10), some (.ref S), some (.int (zn g)), some (.int ((zT (fun p => zSv (R, C, rk, sn, sk, cn, cd) P v p g) k) ||| (((((zVw (R, C, rk, sn, sk, cn, cd) P v k) >>> ((zn g).toInt64 &&& 63)) &&& (Int64.ofNat kG1)).toInt32) <<< ((zn k) &&& 31)))), some (.int (zn (k + 1)))]) (st' := []) (m := 3) (ykc_88 (e := (3, .iinc 4 1, 0)) rfl) (by rw [← e825]; rfl) rfl ?_
        refine w_gb (ykc_88 (e := (4, .goto (-37), 5)) rfl) (fun k826 hk826 => ?_)
        have et : zT (fun p => zSv (R, C, rk, sn, sk, cn, cd) P v p g) (k + 1) = (zT (fun p => zSv (R, C, rk, sn, sk, cn, cd) P v p g) k) ||| (((((zVw (R, C, rk, sn, sk, cn, cd) P v k) >>> ((zn g).toInt64 &&& 63)) &&& (Int64.ofNat kG1)).toInt32) <<< ((zn k) &&& 31)) := by
          show (zT (fun p => zSv (R, C, rk, sn, sk, cn, cd) P v p g) k ||| bif zSv (R, C, rk, sn, sk, cn, cd) P v k g then _ else _) = _
          rw [zcb (x := zVw (R, C, rk, sn, sk, cn, cd) P v k) (f := g) (by omega) (by omega), zVw_b (E := (R, C, rk, sn, sk, cn, cd)) (show R * C ≤ 64 by omega) hg]
        have h9 := ih k826 hk826 (k + 1) (by omega)
        rw [et] at h9
        exact h9
  exact hl n 0 (Nat.zero_le _)
