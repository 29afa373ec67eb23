/-! the class: views of one, looks, who SEES a FIELD, by W; printed by wip/z/z2a_look.py -/
theorem zc_viewU {ph : pm_H} {E : zEn} {F S P G : Nat} {v : Nat → Nat} (hS : zSh ph) (hE : zCe ph E F) (ht : zCt ph S P G v) (hO : zOk E.1 E.2.1 P G v) (hr : zc ph 10 1 = some (.ref F)) (hc : zCc ph E.1 E.2.1 E.2.2.1) {p br : Nat} (hp : p < P) (hb : br ≤ 4) : zM 83 [.ref 10, .ref S, .int (zn p), .int (zn br)] ph (fun v0 q => zCx ph q ∧ zCc q E.1 E.2.1 E.2.2.1 ∧ v0 = some (.long (zS (zSw E P v p (v (8 + p)) br) (E.1 * E.2.1)))) := by
  obtain ⟨Q, hQ⟩ : ∃ Q : Option Value → pm_H → Prop, Q = (fun v0 q => zCx ph q ∧ zCc q E.1 E.2.1 E.2.2.1 ∧ v0 = some (.long (zS (zSw E P v p (v (8 + p)) br) (E.1 * E.2.1)))) := ⟨_, rfl⟩
  rw [← hQ]
  refine zM_mk fun n D => ?_
  show zW n D 83 Q 0 [some (.ref 10), some (.ref S), some (.int (zn p)), some (.int (zn br)), none] [] ph
  obtain ⟨R, C, rk, sn, sk, cn, cd⟩ := E
  have hL0 : zCl ph R C rk := hE.1
  have hi0 : zCi ph sn sk := hE.2.1
  have hF : F = 11 ∨ F = 16 := hE.2.2.2
  have hE0 : zCe ph (R, C, rk, sn, sk, cn, cd) F := hE
  have hO0 : zOk R C P G v := hO
  have hL := hL0
  have hs := ht.1.2
  have hd := ht.2
  have h25 := ht.1.1
  obtain ⟨gR, gC, gN, gK, gA, hR3, hR7, hC3, hC7⟩ := hL
  have hRC := zRC49 hR7 hC7
  have tR := znt (k := R) (by omega)
  have tC := znt (k := C) (by omega)
  have tRC := znt (k := R * C) (by omega)
  have hd0 := hd
  have hs0 := hs
  obtain ⟨r3, r4, r5, r6, r7, l1, l2, l3, l4, l5⟩ := hs
  obtain ⟨gP, hP8, gG, hG8, gH, gv, gw⟩ := hd
  have tP := znt (k := P) (by omega)
  have tG := znt (k := G) (by omega)
  have h40 := hO0.2.2
  have t40 := znt (k := v 40) (by omega)
  have hc0 := hc
  have tp := znt (k := p) (by omega)
  have tbr := znt (k := br) (by omega)
  refine w_load (pc' := 1) (v := .ref S) (m := 1) (ykc_83 (e := (2, .aload_n kF1, 0)) rfl) rfl rfl ?_
  refine w_load (pc' := 2) (v := .int (zn p)) (m := 1) (ykc_83 (e := (2, .iload_n kF2, 0)) rfl) rfl rfl ?_
  refine w_cv (as := [.ref S, .int (zn p)]) (r := []) (ykc_83 (e := (6, .invokevirtual 53, 0)) rfl) rfl rfl rfl rfl (zc_hasP ht.1.2 ht.2 (i := (zn p))) (fun v799 ph800 hv => ?_)
  obtain ⟨rfl, rfl⟩ := hv
  show zW n D 83 Q 5 [some (.ref 10), some (.ref S), some (.int (zn p)), some (.int (zn br)), none] [.int (zI (decide (0 ≤ (zn p).toInt ∧ (zn p).toInt < ((P : Nat) : Int))))] ph
  refine w_bne (ykc_83 (e := (4, .ifCond .ne 5, 10)) rfl) rfl (fun b801 => ?_) (fun q => by have := of_decide_eq_false q; omega)
  refine w_load (pc' := 11) (v := .ref 10) (m := 1) (ykc_83 (e := (2, .aload_n kF0, 0)) rfl) rfl rfl ?_
  refine w_load (pc' := 12) (v := .ref 10) (m := 1) (ykc_83 (e := (2, .aload_n kF0, 0)) rfl) rfl rfl ?_
  refine w_gf (pc' := 15) (v := .ref F) (ykc_83 (e := (5, .getfield 18, 0)) rfl) rfl hr rfl ?_
  refine w_load (pc' := 16) (v := .ref S) (m := 1) (ykc_83 (e := (2, .aload_n kF1, 0)) rfl) rfl rfl ?_
  refine w_load (pc' := 17) (v := .int (zn p)) (m := 1) (ykc_83 (e := (2, .iload_n kF2, 0)) rfl) rfl rfl ?_
  refine w_load (pc' := 18) (v := .int (zn br)) (m := 1) (ykc_83 (e := (2, .iload_n kF3, 0)) rfl) rfl rfl ?_
  refine w_cv (as := [.ref 10, .ref F, .ref S, .int (zn p), .int (zn br)]) (r := []) (ykc_83 (e := (6, .invokevirtual 62, 0)) rfl) rfl rfl rfl rfl (zc_reach hS hE0 ht hO0 (p := p) (br := br) (by omega) (by omega)) (fun v803 ph804 hv => ?_)
  obtain ⟨f802, rfl⟩ := hv
  have rf802 := @zRe_9 (R, C, rk, sn, sk, cn, cd) P v p br
  have trf802 := znt (k := zRe (R, C, rk, sn, sk, cn, cd) P v p br) (by omega)
  show zW n D 83 Q 21 [some (.ref 10), some (.ref S), some (.int (zn p)), some (.int (zn br)), none] [.int (zn (zRe (R, C, rk, sn, sk, cn, cd) P v p br))] ph804
  refine w_store (pc' := 23) (L' := [some (.ref 10), some (.ref S), some (.int (zn p)), some (.int (zn br)), some (.int (zn (zRe (R, C, rk, sn, sk, cn, cd) P v p br)))]) (st' := []) (m := 2) (ykc_83 (e := (3, .istore 4, 0)) rfl) rfl rfl ?_
  refine w_load (pc' := 24) (v := .ref 10) (m := 1) (ykc_83 (e := (2, .aload_n kF0, 0)) rfl) rfl rfl ?_
  refine w_gf (pc' := 27) (v := .ref 5) (ykc_83 (e := (5, .getfield 9, 0)) rfl) rfl ((f802.1 10 0 (by decide) (by decide)).trans (zsg hS zs_10_0)) rfl ?_
  refine w_load (pc' := 28) (v := .ref S) (m := 1) (ykc_83 (e := (2, .aload_n kF1, 0)) rfl) rfl rfl ?_
  refine w_gf (pc' := 31) (v := .ref (S + 1)) (ykc_83 (e := (5, .getfield 66, 0)) rfl) rfl ((f802.1 S 3 (by simp <;> omega) (by simp <;> omega)).trans r3) rfl ?_
  refine w_load (pc' := 32) (v := .int (zn p)) (m := 1) (ykc_83 (e := (2, .iload_n kF2, 0)) rfl) rfl rfl ?_
  have q805 := hO0.1 p (by omega)
  have tq805 := znt (k := v p) (by omega)
  refine w_ialk (pc' := 33) (k := p) (ykc_83 (e := (5, .iaload, 0)) rfl) ((f802.1 (S + 1) p (by simp <;> omega) (by simp <;> omega)).trans (gv p (by omega)).1) (by omega) rfl ?_
  refine w_load (pc' := 34) (v := .ref S) (m := 1) (ykc_83 (e := (2, .aload_n kF1, 0)) rfl) rfl rfl ?_
  refine w_gf (pc' := 37) (v := .ref (S + 2)) (ykc_83 (e := (5, .getfield 83, 0)) rfl) rfl ((f802.1 S 4 (by simp <;> omega) (by simp <;> omega)).trans r4) rfl ?_
  refine w_load (pc' := 38) (v := .int (zn p)) (m := 1) (ykc_83 (e := (2, .iload_n kF2, 0)) rfl) rfl rfl ?_
  have q806 := hO0.1 p (by omega)
  have tq806 := znt (k := v (8 + p)) (by omega)
  refine w_ialk (pc' := 39) (k := p) (ykc_83 (e := (5, .iaload, 0)) rfl) ((f802.1 (S + 2) p (by simp <;> omega) (by simp <;> omega)).trans (gv p (by omega)).2.1) (by omega) rfl ?_
  refine w_load (pc' := 40) (v := .int (zn br)) (m := 1) (ykc_83 (e := (2, .iload_n kF3, 0)) rfl) rfl rfl ?_
  refine w_load (pc' := 42) (v := .int (zn (zRe (R, C, rk, sn, sk, cn, cd) P v p br))) (m := 2) (ykc_83 (e := (2, .iload 4, 0)) rfl) rfl rfl ?_
  refine w_cv (as := [.ref 5, .int (zn (v p)), .int (zn (v (8 + p))), .int (zn br), .int (zn (zRe (R, C, rk, sn, sk, cn, cd) P v p br))]) (r := []) (ykc_83 (e := (6, .invokevirtual 115, 0)) rfl) rfl rfl rfl rfl (zc_view (zCx_S (zCr_x f802) hS) (zCx_l (zCr_x f802) hL0) (f := v p) (fc := v (8 + p)) (br := br) (re := zRe (R, C, rk, sn, sk, cn, cd) P v p br) (zCr_c f802 hc0) (by omega) (by omega) (by omega) (by omega)) (fun v809 ph810 hv => ?_)
  obtain ⟨f807, hc808, rfl⟩ := hv
  show zW n D 83 Q 45 [some (.ref 10), some (.ref S), some (.int (zn p)), some (.int (zn br)), some (.int (zn (zRe (R, C, rk, sn, sk, cn, cd) P v p br)))] [.long (zS (fun g => zsee C rk (v p) g (v (8 + p)) br (zRe (R, C, rk, sn, sk, cn, cd) P v p br)) (R * C))] ph810
  refine w_ret (v := (some (.long (zS (fun g => zsee C rk (v p) g (v (8 + p)) br (zRe (R, C, rk, sn, sk, cn, cd) P v p br)) (R * C))))) (ykc_83 (e := (7, .lreturn, 0)) rfl) (zr_v rfl) ?_
  rw [hQ]
  exact ⟨(zFr_trans (zCr_x f802) (zCy_x f807)), hc808, rfl⟩
theorem zc_viewOf {ph : pm_H} {E : zEn} {F S P G : Nat} {v : Nat → Nat} (hS : zSh ph) (hE : zCe ph E F) (ht : zCt ph S P G v) (hO : zOk E.1 E.2.1 P G v) (hr : zc ph 10 1 = some (.ref F)) (hc : zCc ph E.1 E.2.1 E.2.2.1) {p : Nat} (hp : p < P) : zM 82 [.ref 10, .ref S, .int (zn p)] ph (fun v0 q => zCx ph q ∧ zCc q E.1 E.2.1 E.2.2.1 ∧ v0 = some (.long (zVw E P v p))) := by
  obtain ⟨Q, hQ⟩ : ∃ Q : Option Value → pm_H → Prop, Q = (fun v0 q => zCx ph q ∧ zCc q E.1 E.2.1 E.2.2.1 ∧ v0 = some (.long (zVw E P v p))) := ⟨_, rfl⟩
  rw [← hQ]
  refine zM_mk fun n D => ?_
  show zW n D 82 Q 0 [some (.ref 10), some (.ref S), some (.int (zn p))] [] ph
  obtain ⟨R, C, rk, sn, sk, cn, cd⟩ := E
  have hL0 : zCl ph R C rk := hE.1
  have hi0 : zCi ph sn sk := hE.2.1
  have hF : F = 11 ∨ F = 16 := hE.2.2.2
  have hE0 : zCe ph (R, C, rk, sn, sk, cn, cd) F := hE
  have hO0 : zOk R C P G v := hO
  have hL := hL0
  have hs := ht.1.2
  have hd := ht.2
  have h25 := ht.1.1
  obtain ⟨gR, gC, gN, gK, gA, hR3, hR7, hC3, hC7⟩ := hL
  have hRC := zRC49 hR7 hC7
  have tR := znt (k := R) (by omega)
  have tC := znt (k := C) (by omega)
  have tRC := znt (k := R * C) (by omega)
  have hd0 := hd
  have hs0 := hs
  obtain ⟨r3, r4, r5, r6, r7, l1, l2, l3, l4, l5⟩ := hs
  obtain ⟨gP, hP8, gG, hG8, gH, gv, gw⟩ := hd
  have tP := znt (k := P) (by omega)
  have tG := znt (k := G) (by omega)
  have h40 := hO0.2.2
  have t40 := znt (k := v 40) (by omega)
  have hc0 := hc
  have tp := znt (k := p) (by omega)
  refine w_load (pc' := 1) (v := .ref S) (m := 1) (ykc_82 (e := (2, .aload_n kF1, 0)) rfl) rfl rfl ?_
  refine w_load (pc' := 2) (v := .int (zn p)) (m := 1) (ykc_82 (e := (2, .iload_n kF2, 0)) rfl) rfl rfl ?_
  refine w_cv (as := [.ref S, .int (zn p)]) (r := []) (ykc_82 (e := (6, .invokevirtual 53, 0)) rfl) rfl rfl rfl rfl (zc_hasP ht.1.2 ht.2 (i := (zn p))) (fun v811 ph812 hv => ?_)
  obtain ⟨rfl, rfl⟩ := hv
  show zW n D 82 Q 5 [some (.ref 10), some (.ref S), some (.int (zn p))] [.int (zI (decide (0 ≤ (zn p).toInt ∧ (zn p).toInt < ((P : Nat) : Int))))] ph
  refine w_beq (ykc_82 (e := (4, .ifCond .eq 18, 23)) rfl) rfl (fun q => by have := of_decide_eq_false q; omega) (fun b813 => ?_)
  refine w_load (pc' := 9) (v := .ref 10) (m := 1) (ykc_82 (e := (2, .aload_n kF0, 0)) rfl) rfl rfl ?_
  refine w_load (pc' := 10) (v := .ref S) (m := 1) (ykc_82 (e := (2, .aload_n kF1, 0)) rfl) rfl rfl ?_
  refine w_load (pc' := 11) (v := .int (zn p)) (m := 1) (ykc_82 (e := (2, .iload_n kF2, 0)) rfl) rfl rfl ?_
  refine w_load (pc' := 12) (v := .ref S) (m := 1) (ykc_82 (e := (2, .aload_n kF1, 0)) rfl) rfl rfl ?_
  refine w_gf (pc' := 15) (v := .ref (S + 3)) (ykc_82 (e := (5, .getfield 59, 0)) rfl) rfl r5 rfl ?_
  refine w_load (pc' := 16) (v := .int (zn p)) (m := 1) (ykc_82 (e := (2, .iload_n kF2, 0)) rfl) rfl rfl ?_
  have q814 := hO0.1 p (by omega)
  have tq814 := znt (k := v (16 + p)) (by omega)
  refine w_ialk (pc' := 17) (k := p) (ykc_82 (e := (5, .iaload, 0)) rfl) (gv p (by omega)).2.2.1 (by omega) rfl ?_
  refine w_cv (as := [.ref 10, .ref S, .int (zn p), .int (zn (v (16 + p)))]) (r := []) (ykc_82 (e := (6, .invokevirtual 111, 0)) rfl) rfl rfl rfl rfl (zc_viewU hS hE0 ht hO0 hr hc0 (p := p) (br := v (16 + p)) (by omega) (by omega)) (fun v817 ph818 hv => ?_)
  obtain ⟨f815, hc816, rfl⟩ := hv
  show zW n D 82 Q 20 [some (.ref 10), some (.ref S), some (.int (zn p))] [.long (zS (zSw (R, C, rk, sn, sk, cn, cd) P v p (v (8 + p)) (v (16 + p))) (R * C))] ph818
  refine w_br (pc' := 24) (st' := [.long (zS (zSw (R, C, rk, sn, sk, cn, cd) P v p (v (8 + p)) (v (16 + p))) (R * C))]) (ykc_82 (e := (4, .goto 4, 24)) rfl) rfl ?_
  refine w_ret (v := (some (.long (zS (zSw (R, C, rk, sn, sk, cn, cd) P v p (v (8 + p)) (v (16 + p))) (R * C))))) (ykc_82 (e := (7, .lreturn, 0)) rfl) (zr_v rfl) ?_
  rw [hQ]
  exact ⟨f815, hc816, rfl⟩
theorem zc_lookR {ph : pm_H} {E : zEn} {F S P G : Nat} {v : Nat → Nat} (hS : zSh ph) (hE : zCe ph E F) (ht : zCt ph S P G v) (hO : zOk E.1 E.2.1 P G v) (hr : zc ph 10 1 = some (.ref F)) (hc : zCc ph E.1 E.2.1 E.2.2.1) : zM 84 [.ref 10, .ref S] ph (fun v0 q => zCx ph q ∧ zCc q E.1 E.2.1 E.2.2.1 ∧ (∀ i, i < P → zc q 23 i = some (.long (zVw E P v i))) ∧ v0 = some (.long (zAll E P v))) := by
  obtain ⟨Q, hQ⟩ : ∃ Q : Option Value → pm_H → Prop, Q = (fun v0 q => zCx ph q ∧ zCc q E.1 E.2.1 E.2.2.1 ∧ (∀ i, i < P → zc q 23 i = some (.long (zVw E P v i))) ∧ v0 = some (.long (zAll E P v))) := ⟨_, rfl⟩
  rw [← hQ]
  refine zM_mk fun n D => ?_
  show zW n D 84 Q 0 [some (.ref 10), some (.ref S)] [] ph
  obtain ⟨R, C, rk, sn, sk, cn, cd⟩ := E
  have hL0 : zCl ph R C rk := hE.1
  have hi0 : zCi ph sn sk := hE.2.1
  have hF : F = 11 ∨ F = 16 := hE.2.2.2
  have hE0 : zCe ph (R, C, rk, sn, sk, cn, cd) F := hE
  have hO0 : zOk R C P G v := hO
  have hL := hL0
  have hs := ht.1.2
  have hd := ht.2
  have h25 := ht.1.1
  obtain ⟨gR, gC, gN, gK, gA, hR3, hR7, hC3, hC7⟩ := hL
  have hRC := zRC49 hR7 hC7
  have tR := znt (k := R) (by omega)
  have tC := znt (k := C) (by omega)
  have tRC := znt (k := R * C) (by omega)
  have hd0 := hd
  have hs0 := hs
  obtain ⟨r3, r4, r5, r6, r7, l1, l2, l3, l4, l5⟩ := hs
  obtain ⟨gP, hP8, gG, hG8, gH, gv, gw⟩ := hd
  have tP := znt (k := P) (by omega)
  have tG := znt (k := G) (by omega)
  have h40 := hO0.2.2
  have t40 := znt (k := v 40) (by omega)
  have hc0 := hc
  refine w_load (pc' := 1) (v := .ref 10) (m := 1) (ykc_84 (e := (2, .aload_n kF0, 0)) rfl) rfl rfl ?_
  refine w_load (pc' := 2) (v := .ref 10) (m := 1) (ykc_84 (e := (2, .aload_n kF0, 0)) rfl) rfl rfl ?_
  refine w_gf (pc' := 5) (v := .ref F) (ykc_84 (e := (5, .getfield 18, 0)) rfl) rfl hr rfl ?_
  refine w_load (pc' := 6) (v := .ref S) (m := 1) (ykc_84 (e := (2, .aload_n kF1, 0)) rfl) rfl rfl ?_
  refine w_cv (as := [.ref 10, .ref F, .ref S]) (r := []) (ykc_84 (e := (6, .invokevirtual 118, 0)) rfl) rfl rfl rfl rfl (zc_look hS hE0 ht hO0 hc0) (fun v819 ph820 hv => ?_)
  obtain ⟨f85, hc85, hv85, rfl⟩ := hv
  show zW n D 84 Q 9 [some (.ref 10), some (.ref S)] [.long (zAll (R, C, rk, sn, sk, cn, cd) P v)] ph820
  refine w_ret (v := (some (.long (zAll (R, C, rk, sn, sk, cn, cd) P v)))) (ykc_84 (e := (7, .lreturn, 0)) rfl) (zr_v rfl) ?_
  rw [hQ]
  exact ⟨f85, hc85, hv85, rfl⟩