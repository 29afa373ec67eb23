/-! person, thing: answers and throws, class and reference; printed by wip/rel/r7.py -/
theorem zIq1 {b : Bool} (h : (some (.int (Int32.ofInt 1)) : Option Value) = some (.int (zI b))) : b = true := by
  cases b with
  | true => rfl
  | false => exact absurd (Value.int.inj (Option.some.inj h)) (by decide)
theorem zIq0 {b : Bool} (h : (some (.int (Int32.ofInt 0)) : Option Value) = some (.int (zI b))) : b = false := by
  cases b with
  | false => rfl
  | true => exact absurd (Value.int.inj (Option.some.inj h)) (by decide)
set_option maxRecDepth 6000 in
theorem xcl_personR {E : pm_H → Prop} (hE : xHE xX xgA_G8 xgF_G8 E) (hC : xPC E) {m : Int} (hm : m ≤ 2147483646) (h0m : (0 : Int) ≤ m) {D : Nat} (hD : 10 ≤ D) {ph : pm_H} {p y : Int32} (hP : xH xX kK m 0 ph) (g9 : E ph) {P G : Nat} {v : Nat → Nat} (hs9 : zSs ph 25) (hd9 : zSd ph 25 P G v) : (∃ r ph', pm_Rd kK false (D + 1) 129 [.ref 0, .int p, .int y] ph (some (.int r), ph', 0, 0) ∧ xH xX kK m 0 ph' ∧ E ph' ∧ ((0 ≤ p.toInt ∧ p.toInt < ((P : Nat) : Int)) ∧ 0 ≤ y.toInt ∧ y.toInt ≤ 5)) ∨ (∃ pc, (pc = 11 ∨ pc = 133) ∧ pm_Se kK false (pm_Rd kK false D) 129 (pm_ent kK 129 [.ref 0, .int p, .int y] ph) (pc, [some (.ref 0), some (.int p), some (.int y)], [], ph, 0, 0) ∧ ¬ ((0 ≤ p.toInt ∧ p.toInt < ((P : Nat) : Int)) ∧ 0 ≤ y.toInt ∧ y.toInt ≤ 5)) := by
  obtain ⟨fl0, hat0, hfl0⟩ := xO_at (a := 0) hP rfl rfl
  obtain ⟨v4, hv4, hv⟩ := hfl0 4 _ rfl
  have e4 : v4 = .ref 25 := xaO (m' := 0) (A := 25) hP rfl hv
  subst e4
  obtain ⟨fl1, hat1, -⟩ := xO_at (a := 25) hP rfl rfl
  obtain ⟨D', rfl⟩ : ∃ D', D = D' + 1 := ⟨D - 1, by omega⟩
  have pre : ∀ (z : Int32) (t : Nat), pm_Rd kK false (D' + 1) 106 [.ref 25, .int p] ph (some (.int z), ph, 0, 0) → pm_br (.ifCond .ne 11) 19 8 [.int z] = some (t, []) → pm_Se kK false (pm_Rd kK false (D' + 1)) 129 (pm_ent kK 129 [.ref 0, .int p, .int y] ph) (t, [some (.ref 0), some (.int p), some (.int y)], [], ph, 0, 0) := fun z t hz ht => by
    show pm_Se kK false (pm_Rd kK false (D' + 1)) 129 (0, [some (.ref 0), some (.int p), some (.int y)], [], ph, 0, 0) _
    refine .step (ks2 (ykc_129 (e := (2, .aload_n kF0, 0)) rfl) (v := .ref 0) (n := 1) rfl) ?_
    refine .step (xgfs (ykc_129 (e := (5, .getfield 42, 0)) rfl) rfl hat0 hv4) ?_
    refine .step (ks2 (ykc_129 (e := (2, .iload_n kF1, 0)) rfl) (v := .int p) (n := 1) rfl) ?_
    refine .call (ks6 (ykc_129 (e := (6, .invokevirtual 167, 0)) rfl) (xinvV rfl rfl hat1 rfl rfl)) hz ?_
    exact .step (ks4 (ykc_129 (e := (4, .ifCond .ne 11, 19)) rfl) ht) .rf
  rcases xhas_106 (D := D') (p := p) hP with ⟨hz, p0, p7⟩ | hz
  · have hr9 := of_decide_eq_true (zIq1 (zc_hasP hs9 hd9 (i := p) _ _ hz).2)
    have h19 := pre _ 19 hz xbr1
    by_cases hy : 0 ≤ y.toInt ∧ y.toInt ≤ 5
    · left
      have hrun : ∃ v ph', pm_Rd kK false (D' + 1 + 1) 129 [.ref 0, .int p, .int y] ph (v, ph', 0, 0) ∧ (∃ r : Int32, v = some (.int r) ∧ xH xX kK m 0 ph' ∧ E ph') := by
        obtain ⟨t9, t9m, t9b⟩ := xsw_129 hy.1 hy.2
        refine xRd_mk (nl := 3) rfl rfl (xGT_se h19 (gt_load (v := .int y) (n := 1) (ykc_129 (e := (2, .iload_n kF2, 0)) rfl) rfl rfl (gt_br (ykc_129 (e := (4, .tableswitch 113 0 5 #[40, 50, 60, 70, 80, 93], 40)) rfl) t9b ?_)))
        refine xseg_ok (ns := [[xnP_129 t9]]) (res := some (.inl (Int.negSucc 2147483647, Int.ofNat 2147483647))) (fq := []) (by omega) hm (xq_129 hE hC) (List.forall_mem_cons.mpr ⟨List.forall_mem_cons.mpr ⟨Or.inl (List.all_eq_true.mp xnPc_129 t9 t9m), fun _ h => absurd h List.not_mem_nil⟩, fun _ h => absurd h List.not_mem_nil⟩) ?_ (xnP_129 t9).1 (xnP_129 t9).2 ⟨_, List.Mem.head _, List.Mem.head _⟩ _ ph h0m ⟨fun q e => by cases e; exact ⟨_, rfl, xaRi rfl (by decide)⟩, fun q e => by cases e; exact ⟨_, rfl, xaI p0 p7⟩, fun q e => (by cases e), trivial⟩ xF0 hP g9
        intro v ph' a1 a2 a3 _
        obtain ⟨u, e, z, e2, -⟩ := a3
        exact ⟨z, by rw [e, e2], a1, a2⟩
      obtain ⟨v, ph', k1, r, k2, k3, k4⟩ := hrun
      subst k2
      exact ⟨r, ph', k1, k3, k4, hr9, hy⟩
    · right
      obtain ⟨n, hn⟩ := h19
      refine ⟨133, Or.inr rfl, pm_Se_t ?_ n _ hn, fun q => hy q.2⟩
      refine .step (ks2 (ykc_129 (e := (2, .iload_n kF2, 0)) rfl) (v := .int y) (n := 1) rfl) ?_
      exact .step (ks4 (ykc_129 (e := (4, .tableswitch 113 0 5 #[40, 50, 60, 70, 80, 93], 40)) rfl) (xts_def (t := 133) (by omega) rfl)) .rf
  · exact Or.inr ⟨11, Or.inl rfl, pre _ 11 hz xbr0, fun q => of_decide_eq_false (zIq0 (zc_hasP hs9 hd9 (i := p) _ _ hz).2) q.1⟩
set_option maxRecDepth 6000 in
theorem xcl_thingR {E : pm_H → Prop} (hE : xHE xX xgA_G8 xgF_G8 E) (hC : xPC E) {m : Int} (hm : m ≤ 2147483646) (h0m : (0 : Int) ≤ m) {D : Nat} (hD : 10 ≤ D) {ph : pm_H} {p y : Int32} (hP : xH xX kK m 0 ph) (g9 : E ph) {P G : Nat} {v : Nat → Nat} (hs9 : zSs ph 25) (hd9 : zSd ph 25 P G v) : (∃ r ph', pm_Rd kK false (D + 1) 130 [.ref 0, .int p, .int y] ph (some (.int r), ph', 0, 0) ∧ xH xX kK m 0 ph' ∧ E ph' ∧ ((0 ≤ p.toInt ∧ p.toInt < ((G : Nat) : Int)) ∧ 0 ≤ y.toInt ∧ y.toInt ≤ 2)) ∨ (∃ pc, (pc = 11 ∨ pc = 100) ∧ pm_Se kK false (pm_Rd kK false D) 130 (pm_ent kK 130 [.ref 0, .int p, .int y] ph) (pc, [some (.ref 0), some (.int p), some (.int y)], [], ph, 0, 0) ∧ ¬ ((0 ≤ p.toInt ∧ p.toInt < ((G : Nat) : Int)) ∧ 0 ≤ y.toInt ∧ y.toInt ≤ 2)) := by
  obtain ⟨fl0, hat0, hfl0⟩ := xO_at (a := 0) hP rfl rfl
  obtain ⟨v4, hv4, hv⟩ := hfl0 4 _ rfl
  have e4 : v4 = .ref 25 := xaO (m' := 0) (A := 25) hP rfl hv
  subst e4
  obtain ⟨fl1, hat1, -⟩ := xO_at (a := 25) hP rfl rfl
  obtain ⟨D', rfl⟩ : ∃ D', D = D' + 1 := ⟨D - 1, by omega⟩
  have pre : ∀ (z : Int32) (t : Nat), pm_Rd kK false (D' + 1) 107 [.ref 25, .int p] ph (some (.int z), ph, 0, 0) → pm_br (.ifCond .ne 11) 19 8 [.int z] = some (t, []) → pm_Se kK false (pm_Rd kK false (D' + 1)) 130 (pm_ent kK 130 [.ref 0, .int p, .int y] ph) (t, [some (.ref 0), some (.int p), some (.int y)], [], ph, 0, 0) := fun z t hz ht => by
    show pm_Se kK false (pm_Rd kK false (D' + 1)) 130 (0, [some (.ref 0), some (.int p), some (.int y)], [], ph, 0, 0) _
    refine .step (ks2 (ykc_130 (e := (2, .aload_n kF0, 0)) rfl) (v := .ref 0) (n := 1) rfl) ?_
    refine .step (xgfs (ykc_130 (e := (5, .getfield 42, 0)) rfl) rfl hat0 hv4) ?_
    refine .step (ks2 (ykc_130 (e := (2, .iload_n kF1, 0)) rfl) (v := .int p) (n := 1) rfl) ?_
    refine .call (ks6 (ykc_130 (e := (6, .invokevirtual 198, 0)) rfl) (xinvV rfl rfl hat1 rfl rfl)) hz ?_
    exact .step (ks4 (ykc_130 (e := (4, .ifCond .ne 11, 19)) rfl) ht) .rf
  rcases xhas_107 (D := D') (p := p) hP with ⟨hz, p0, p7⟩ | hz
  · have hr9 := of_decide_eq_true (zIq1 (zc_hasT hs9 hd9 (i := p) _ _ hz).2)
    have h19 := pre _ 19 hz xbr1
    by_cases hy : 0 ≤ y.toInt ∧ y.toInt ≤ 2
    · left
      have hrun : ∃ v ph', pm_Rd kK false (D' + 1 + 1) 130 [.ref 0, .int p, .int y] ph (v, ph', 0, 0) ∧ (∃ r : Int32, v = some (.int r) ∧ xH xX kK m 0 ph' ∧ E ph') := by
        obtain ⟨t9, t9m, t9b⟩ := xsw_130 hy.1 hy.2
        refine xRd_mk (nl := 3) rfl rfl (xGT_se h19 (gt_load (v := .int y) (n := 1) (ykc_130 (e := (2, .iload_n kF2, 0)) rfl) rfl rfl (gt_br (ykc_130 (e := (4, .tableswitch 80 0 2 #[28, 38, 47], 28)) rfl) t9b ?_)))
        refine xseg_ok (ns := [[xnP_130 t9]]) (res := some (.inl (Int.negSucc 2147483647, Int.ofNat 2147483647))) (fq := []) (by omega) hm (xq_130 hE hC) (List.forall_mem_cons.mpr ⟨List.forall_mem_cons.mpr ⟨Or.inl (List.all_eq_true.mp xnPc_130 t9 t9m), fun _ h => absurd h List.not_mem_nil⟩, fun _ h => absurd h List.not_mem_nil⟩) ?_ (xnP_130 t9).1 (xnP_130 t9).2 ⟨_, List.Mem.head _, List.Mem.head _⟩ _ ph h0m ⟨fun q e => by cases e; exact ⟨_, rfl, xaRi rfl (by decide)⟩, fun q e => by cases e; exact ⟨_, rfl, xaI p0 p7⟩, fun q e => (by cases e), trivial⟩ xF0 hP g9
        intro v ph' a1 a2 a3 _
        obtain ⟨u, e, z, e2, -⟩ := a3
        exact ⟨z, by rw [e, e2], a1, a2⟩
      obtain ⟨v, ph', k1, r, k2, k3, k4⟩ := hrun
      subst k2
      exact ⟨r, ph', k1, k3, k4, hr9, hy⟩
    · right
      obtain ⟨n, hn⟩ := h19
      refine ⟨100, Or.inr rfl, pm_Se_t ?_ n _ hn, fun q => hy q.2⟩
      refine .step (ks2 (ykc_130 (e := (2, .iload_n kF2, 0)) rfl) (v := .int y) (n := 1) rfl) ?_
      exact .step (ks4 (ykc_130 (e := (4, .tableswitch 80 0 2 #[28, 38, 47], 28)) rfl) (xts_def (t := 100) (by omega) rfl)) .rf
  · exact Or.inr ⟨11, Or.inl rfl, pre _ 11 hz xbr0, fun q => of_decide_eq_false (zIq0 (zc_hasT hs9 hd9 (i := p) _ _ hz).2) q.1⟩
def zr_per (z : zPar) (x y : Int32) : Prop := match z with
  | ((R, C, rk, sn, sk), (cn, cd, cm, cdm), (F, F2, P, G, nx, u, fl, hn, ch), (v, w, sv, svm), (kp, kc)) => (0 ≤ x.toInt ∧ x.toInt < ((P : Nat) : Int)) ∧ 0 ≤ y.toInt ∧ y.toInt ≤ 5
def zfc_per (z : zPar) (x y : Int32) : Int32 := match z with
  | ((R, C, rk, sn, sk), (cn, cd, cm, cdm), (F, F2, P, G, nx, u, fl, hn, ch), (v, w, sv, svm), (kp, kc)) => zXper (R, C, rk, sn, sk, cn, cd) P G v x.toInt.toNat y.toInt.toNat
def zfm_per (z : zPar) (x y : Int32) : Int32 := match z with
  | ((R, C, rk, sn, sk), (cn, cd, cm, cdm), (F, F2, P, G, nx, u, fl, hn, ch), (v, w, sv, svm), (kp, kc)) => zXper (R, C, rk, sn, sk, cm, cdm) P G v x.toInt.toNat y.toInt.toNat
theorem zfq_per {n : Nat} {z : zPar} {ph : pm_H} {x y : Int32} (hR : xRE n z ph) : zfc_per z x y = zfm_per z x y := by
  obtain ⟨⟨R, C, rk, sn, sk⟩, ⟨cn, cd, cm, cdm⟩, ⟨F, F2, P, G, nx, u, fl, hn, ch⟩, ⟨v, w, sv, svm⟩, kp, kc⟩ := z
  obtain ⟨-, hpp, -⟩ := hR
  have h := hpp.1
  show zXper (R, C, rk, sn, sk, cn, cd) P G v x.toInt.toNat y.toInt.toNat = zXper (R, C, rk, sn, sk, cm, cdm) P G v x.toInt.toNat y.toInt.toNat
  generalize y.toInt.toNat = k
  have e : zXper (R, C, rk, sn, sk, cn, cd) P G v x.toInt.toNat = zXper (R, C, rk, sn, sk, cm, cdm) P G v x.toInt.toNat := by
    funext k
    unfold zXper
    rw [zQ_Re h, zQ_Vw h]
  rw [e]
theorem xcR_per {n : Nat} (hn : n ≤ 512) {z : zPar} {ph : pm_H} {p y : Int32} (hP : xH xX kK (xLm n) 0 ph) (hR : xRE n z ph) : (∃ r ph', pm_Rd kK false 501 129 [.ref 0, .int p, .int y] ph (some (.int r), ph', 0, 0) ∧ xH xX kK (xLm n) 0 ph' ∧ xRE n z ph' ∧ zr_per z p y ∧ r = zfc_per z p y) ∨ (∃ pc, (pc = 11 ∨ pc = 133) ∧ pm_Se kK false (pm_Rd kK false 500) 129 (pm_ent kK 129 [.ref 0, .int p, .int y] ph) (pc, [some (.ref 0), some (.int p), some (.int y)], [], ph, 0, 0) ∧ ¬ zr_per z p y) := by
  have hS := xRE_S hP hR
  have hEC := xEq_C hP hR
  have h0 := xEq_0 hP hR
  have hRR : ∀ {p : pm_H}, xH xX kK (xLm n) 0 p → xEq n z ph p → xRE n z p := fun hp h => xEq_R hP hp hR h
  obtain ⟨⟨R, C, rk, sn, sk⟩, ⟨cn, cd, cm, cdm⟩, ⟨F, F2, P, G, nx, u, fl, hn, ch⟩, ⟨v, w, sv, svm⟩, kp, kc⟩ := z
  obtain ⟨-, hpp, ⟨⟨hK, hX⟩, hcc⟩, -⟩ := id hR
  rcases xcl_personR (xEq_G (n := n)) hEC (xLm_le (by omega)) xLm_0 (D := 500) (by decide) (p := p) (y := y) hP h0 (zSs_of hS (S := 25) (by decide)) hK.2.1 with ⟨r, ph1, h1, h2, h3, h4⟩ | ⟨pc, h1, h2, h3⟩
  · refine Or.inl ⟨r, ph1, h1, h2, hRR h2 h3, h4, ?_⟩
    have hB8 : P ≤ 8 := hK.2.1.2.1
    obtain ⟨q, hq, rfl⟩ : ∃ q : Nat, q < P ∧ p = zn q := ⟨p.toInt.toNat, by omega, zn_of (by omega)⟩
    obtain ⟨k, hk, rfl⟩ : ∃ k : Nat, k < 6 ∧ y = zn k := ⟨y.toInt.toNat, by omega, zn_of (by omega)⟩
    have e := zc_perX hS hX.1 ⟨⟨by decide, zSs_of hS (S := 25) (by decide)⟩, hK.2.1⟩ hpp.2.2.2.2.1.1 hX.2.1 hcc hq hk _ _ h1
    have e2 := Value.int.inj (Option.some.inj e)
    have t1 := znt (k := q) (by omega)
    have t2 := znt (k := k) (by omega)
    show r = zXper (R, C, rk, sn, sk, cn, cd) P G v (zn q).toInt.toNat (zn k).toInt.toNat
    rw [show (zn q).toInt.toNat = q by omega, show (zn k).toInt.toNat = k by omega]
    exact e2
  · exact Or.inr ⟨pc, h1, h2, h3⟩
theorem xmR_per {n : Nat} (hn : n ≤ 512) {z : zPar} {ph : pm_H} {x y : Int32} (hP : xH xX kK (xLm n) 0 ph) (hR : xRE n z ph) : ∃ r ph', pm_Rd kK false 600 235 [.ref 170, .int x, .int y] ph (some (.int r), ph', 0, 0) ∧ xH xX kK (xLm (n + 1)) 0 ph' ∧ xRE (n + 1) z ph' ∧ zc ph' 201 0 = zc ph 201 0 ∧ ((zr_per z x y ∧ zc ph' 170 0 = some (.int (Int32.ofInt 0)) ∧ r = zfc_per z x y) ∨ (¬ zr_per z x y ∧ zc ph' 170 0 = some (.int (Int32.ofInt 1)))) := by
  have hS := xRE_S hP hR
  have hq := zfq_per (x := x) (y := y) hR
  obtain ⟨v0, ph2, r2, ⟨r, rfl⟩, g1, g2⟩ := xrm_person (x := x) (y := y) n hn z ph hP hR
  refine ⟨r, ph2, r2, g1, g2, ?_⟩
  obtain ⟨⟨R, C, rk, sn, sk⟩, ⟨cn, cd, cm, cdm⟩, ⟨F, F2, P, G, nx, u, fl, hn, ch⟩, ⟨v, w, sv, svm⟩, kp, kc⟩ := z
  obtain ⟨-, hpp, -, hM, hE⟩ := hR
  obtain ⟨e1, e2⟩ := zm_perX (E := (R, C, rk, sn, sk, cm, cdm)) hS hE hM.2.1 hM.2.2.1 hpp.2.2.2.2.1.1 (x := x) (y := y) _ _ r2
  refine ⟨e1, ?_⟩
  rcases e2 with ⟨q1, q2, q3⟩ | ⟨q1, q2⟩
  · exact Or.inl ⟨q1, q2, (Value.int.inj (Option.some.inj q3)).trans hq.symm⟩
  · exact Or.inr ⟨q1, q2⟩
def zr_thg (z : zPar) (x y : Int32) : Prop := match z with
  | ((R, C, rk, sn, sk), (cn, cd, cm, cdm), (F, F2, P, G, nx, u, fl, hn, ch), (v, w, sv, svm), (kp, kc)) => (0 ≤ x.toInt ∧ x.toInt < ((G : Nat) : Int)) ∧ 0 ≤ y.toInt ∧ y.toInt ≤ 2
def zfc_thg (z : zPar) (x y : Int32) : Int32 := match z with
  | ((R, C, rk, sn, sk), (cn, cd, cm, cdm), (F, F2, P, G, nx, u, fl, hn, ch), (v, w, sv, svm), (kp, kc)) => zXthg (R, C, rk, sn, sk, cn, cd) P v x.toInt.toNat y.toInt.toNat
def zfm_thg (z : zPar) (x y : Int32) : Int32 := match z with
  | ((R, C, rk, sn, sk), (cn, cd, cm, cdm), (F, F2, P, G, nx, u, fl, hn, ch), (v, w, sv, svm), (kp, kc)) => zXthg (R, C, rk, sn, sk, cm, cdm) P v x.toInt.toNat y.toInt.toNat
theorem zfq_thg {n : Nat} {z : zPar} {ph : pm_H} {x y : Int32} (hR : xRE n z ph) : zfc_thg z x y = zfm_thg z x y := by
  obtain ⟨⟨R, C, rk, sn, sk⟩, ⟨cn, cd, cm, cdm⟩, ⟨F, F2, P, G, nx, u, fl, hn, ch⟩, ⟨v, w, sv, svm⟩, kp, kc⟩ := z
  obtain ⟨-, hpp, -⟩ := hR
  have h := hpp.1
  show zXthg (R, C, rk, sn, sk, cn, cd) P v x.toInt.toNat y.toInt.toNat = zXthg (R, C, rk, sn, sk, cm, cdm) P v x.toInt.toNat y.toInt.toNat
  generalize y.toInt.toNat = k
  have e : zXthg (R, C, rk, sn, sk, cn, cd) P v x.toInt.toNat = zXthg (R, C, rk, sn, sk, cm, cdm) P v x.toInt.toNat := by
    funext k
    unfold zXthg
    rw [zQ_Who h]
  rw [e]
theorem xcR_thg {n : Nat} (hn : n ≤ 512) {z : zPar} {ph : pm_H} {p y : Int32} (hP : xH xX kK (xLm n) 0 ph) (hR : xRE n z ph) : (∃ r ph', pm_Rd kK false 501 130 [.ref 0, .int p, .int y] ph (some (.int r), ph', 0, 0) ∧ xH xX kK (xLm n) 0 ph' ∧ xRE n z ph' ∧ zr_thg z p y ∧ r = zfc_thg z p y) ∨ (∃ pc, (pc = 11 ∨ pc = 100) ∧ pm_Se kK false (pm_Rd kK false 500) 130 (pm_ent kK 130 [.ref 0, .int p, .int y] ph) (pc, [some (.ref 0), some (.int p), some (.int y)], [], ph, 0, 0) ∧ ¬ zr_thg z p y) := by
  have hS := xRE_S hP hR
  have hEC := xEq_C hP hR
  have h0 := xEq_0 hP hR
  have hRR : ∀ {p : pm_H}, xH xX kK (xLm n) 0 p → xEq n z ph p → xRE n z p := fun hp h => xEq_R hP hp hR h
  obtain ⟨⟨R, C, rk, sn, sk⟩, ⟨cn, cd, cm, cdm⟩, ⟨F, F2, P, G, nx, u, fl, hn, ch⟩, ⟨v, w, sv, svm⟩, kp, kc⟩ := z
  obtain ⟨-, hpp, ⟨⟨hK, hX⟩, hcc⟩, -⟩ := id hR
  rcases xcl_thingR (xEq_G (n := n)) hEC (xLm_le (by omega)) xLm_0 (D := 500) (by decide) (p := p) (y := y) hP h0 (zSs_of hS (S := 25) (by decide)) hK.2.1 with ⟨r, ph1, h1, h2, h3, h4⟩ | ⟨pc, h1, h2, h3⟩
  · refine Or.inl ⟨r, ph1, h1, h2, hRR h2 h3, h4, ?_⟩
    have hB8 : G ≤ 8 := hK.2.1.2.2.2.1
    obtain ⟨q, hq, rfl⟩ : ∃ q : Nat, q < G ∧ p = zn q := ⟨p.toInt.toNat, by omega, zn_of (by omega)⟩
    obtain ⟨k, hk, rfl⟩ : ∃ k : Nat, k < 3 ∧ y = zn k := ⟨y.toInt.toNat, by omega, zn_of (by omega)⟩
    have e := zc_thgX hS hX.1 ⟨⟨by decide, zSs_of hS (S := 25) (by decide)⟩, hK.2.1⟩ hpp.2.2.2.2.1.1 hX.2.1 hcc hq hk _ _ h1
    have e2 := Value.int.inj (Option.some.inj e)
    have t1 := znt (k := q) (by omega)
    have t2 := znt (k := k) (by omega)
    show r = zXthg (R, C, rk, sn, sk, cn, cd) P v (zn q).toInt.toNat (zn k).toInt.toNat
    rw [show (zn q).toInt.toNat = q by omega, show (zn k).toInt.toNat = k by omega]
    exact e2
  · exact Or.inr ⟨pc, h1, h2, h3⟩
theorem xmR_thg {n : Nat} (hn : n ≤ 512) {z : zPar} {ph : pm_H} {x y : Int32} (hP : xH xX kK (xLm n) 0 ph) (hR : xRE n z ph) : ∃ r ph', pm_Rd kK false 600 236 [.ref 170, .int x, .int y] ph (some (.int r), ph', 0, 0) ∧ xH xX kK (xLm (n + 1)) 0 ph' ∧ xRE (n + 1) z ph' ∧ zc ph' 201 0 = zc ph 201 0 ∧ ((zr_thg z x y ∧ zc ph' 170 0 = some (.int (Int32.ofInt 0)) ∧ r = zfc_thg z x y) ∨ (¬ zr_thg z x y ∧ zc ph' 170 0 = some (.int (Int32.ofInt 1)))) := by
  have hS := xRE_S hP hR
  have hq := zfq_thg (x := x) (y := y) hR
  obtain ⟨v0, ph2, r2, ⟨r, rfl⟩, g1, g2⟩ := xrm_thing (x := x) (y := y) n hn z ph hP hR
  refine ⟨r, ph2, r2, g1, g2, ?_⟩
  obtain ⟨⟨R, C, rk, sn, sk⟩, ⟨cn, cd, cm, cdm⟩, ⟨F, F2, P, G, nx, u, fl, hn, ch⟩, ⟨v, w, sv, svm⟩, kp, kc⟩ := z
  obtain ⟨-, hpp, -, hM, hE⟩ := hR
  obtain ⟨e1, e2⟩ := zm_thgX (E := (R, C, rk, sn, sk, cm, cdm)) hS hE hM.2.1 hM.2.2.1 hpp.2.2.2.2.1.1 (x := x) (y := y) _ _ r2
  refine ⟨e1, ?_⟩
  rcases e2 with ⟨q1, q2, q3⟩ | ⟨q1, q2⟩
  · exact Or.inl ⟨q1, q2, (Value.int.inj (Option.some.inj q3)).trans hq.symm⟩
  · exact Or.inr ⟨q1, q2⟩
