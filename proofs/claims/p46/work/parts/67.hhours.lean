/-! hours and day of the reference, by hand, printed by wip/x/h_xhours.py -/
set_option maxRecDepth 6000 in
theorem xhL_c {m : Int} {L : List (Option Value)} {s : Option xh} {S : List (Option xh)} (h : xhL xX m L (s :: S)) : ∃ o L', L = o :: L' ∧ (∀ q, s = some q → ∃ v, o = some v ∧ xhG xX m v q) ∧ xhL xX m L' S := by
  cases L with
  | nil => exact h.elim
  | cons o L' => exact ⟨o, L', rfl, h.1, h.2⟩
set_option maxRecDepth 6000 in
theorem xhL_n {m : Int} {L : List (Option Value)} (h : xhL xX m L []) : L = [] := by
  cases L with
  | nil => rfl
  | cons o L' => exact h.elim
set_option maxRecDepth 6000 in
theorem xhF_eq {m : Int} {ph ph' : pm_H} {fs : List (Nat × xh)} (h : xhF xX m ph fs) (hk : fs.all (fun p => Nat.beq (p.1 / 4096) 170) = true) (e : ∀ k, xget ph' 170 k = xget ph 170 k) : xhF xX m ph' fs := fun k q hq => by
  obtain ⟨h1, h2, v, h3, h4⟩ := h k q hq
  have h5 : k / 4096 = 170 := Nat.eq_of_beq_eq_true (List.all_eq_true.mp hk (k, q) hq)
  refine ⟨h1, h2, v, ?_, h4⟩
  rw [h5] at h3 ⊢
  rw [e]
  exact h3
set_option maxRecDepth 6000 in
theorem xhF_get {m : Int} {ph : pm_H} {fs : List (Nat × xh)} {k c : Nat} {lo hi : Int} (h : xhF xX m ph fs) (hm : (k, Sum.inl (lo, hi)) ∈ fs) (hk : k / 4096 = 170) (hc : k % 4096 = c) : ∃ x : Int32, xget ph 170 c = some (.int x) ∧ lo ≤ x.toInt ∧ x.toInt ≤ hi := by
  obtain ⟨-, -, v, h3, x, e, h5, h6⟩ := h k _ hm
  subst e
  rw [hk, hc] at h3
  exact ⟨x, h3, h5, h6⟩
set_option maxRecDepth 6000 in
theorem xone_known {m : Int} (hm : m ≤ 2147483646) (h0m : (0 : Int) ≤ m) {D : Nat} (hD : 2 ≤ D) {ph : pm_H} (hP : xH xX kK m 0 ph) : ∃ v ph', pm_Rd kK false D 234 [.ref 170, .ref 174] ph (v, ph', 0, 0) ∧ (∃ r : Int32, v = some (.int r) ∧ ph' = ph) := by
  obtain ⟨v, ph', k1, k2, k3, ⟨u, e, z, e2, -⟩, -⟩ := (xn_234_0 (E := fun p => p = ph)) D hD m hm h0m [.ref 170, .ref 174] ph ⟨xaRi rfl (by decide), xaRi rfl (by decide), trivial⟩ xF0 hP rfl
  exact ⟨v, ph', k1, z, by rw [e, e2], k3⟩
def xgF_VS : List (Nat × Nat) := [(0, 23), (44, 1), (0, 8), (31, 13), (31, 14), (32, 0), (32, 1), (32, 2), (32, 3), (32, 4), (32, 5), (32, 6), (32, 7), (38, 0), (38, 1), (38, 2), (38, 3), (38, 4), (38, 5), (38, 6), (38, 7), (46, 1), (48, 0), (48, 1), (48, 2), (48, 3), (48, 4), (53, 4), (58, 0), (58, 1), (58, 2), (58, 3), (58, 4), (61, 2), (64, 2), (77, 1), (77, 3), (77, 5), (77, 6), (77, 7), (82, 1), (82, 3), (82, 5), (82, 6), (82, 7), (104, 0), (104, 1), (104, 2), (104, 3), (104, 4), (104, 5), (104, 6), (104, 7), (110, 0), (110, 1), (110, 2), (110, 3), (110, 4), (110, 5), (110, 6), (110, 7), (116, 0), (116, 1), (116, 2), (116, 3), (116, 4), (116, 5), (116, 6), (116, 7), (53, 1), (53, 2), (63, 2), (63, 3), (0, 3), (0, 4), (0, 5), (0, 6), (0, 39)]
set_option maxRecDepth 6000 in
theorem xHE_VS {R : pm_H → Prop} (hR : xHE xX xgA_VR xgF_VS R) : xHE xX xgA_VR xgF_VR R := xHE_sub (by decide +kernel) (by decide +kernel) hR

set_option maxRecDepth 6000 in
theorem xw_hours {R : pm_H → Prop} (hR : xHE xX xgA_VR xgF_VR R) {m : Int} (hm : m ≤ 2147483646) (h0m : (0 : Int) ≤ m) (h9m : (99 : Int) ≤ m) {D n : Nat} (hD : 30 ≤ D) {ph : pm_H} {p0 : Int32} (hP : xH xX kK m 99 ph) (hV : xV ph) (hI : xINV n ph) (hr : R ph) : ∃ v ph', pm_Rd kK false D 248 [.ref 170, .int p0] ph (v, ph', 0, 0) ∧ (∃ r : Int32, v = some (.int r) ∧ xH xX kK m 0 ph' ∧ xV ph' ∧ xINV n ph' ∧ R ph') := by
  obtain ⟨D', rfl⟩ : ∃ D', D = D' + 1 + 1 := ⟨D - 2, by omega⟩
  have hEVR := xHE_and xHEVR hR
  refine xRd_mk (nl := 5) rfl rfl ?_
  show xGT kK (D' + 1) 248 _ (0, [some (.ref 170), some (.int p0), none, none, none], [], ph, 0, 0)
  refine xsg_248a (E := fun p => (xV p ∧ R p) ∧ xINV n p) (xHE_and (xHE_sub (by decide +kernel) (by decide +kernel) hEVR) (xHE_sub (by decide +kernel) (by decide +kernel) (xHEI n))) (by omega) hm ?_ ?_ _ ph h9m ⟨fun q e => by cases e; exact ⟨_, rfl, xaRi rfl (by decide)⟩, fun q e => by cases e; exact ⟨_, rfl, xaT⟩, fun q e => (by cases e), fun q e => (by cases e), fun q e => (by cases e), trivial⟩ xF0 hP ⟨⟨hV, hr⟩, hI⟩
  · intro nd hnd L ph h1 h2 h3 hP g5
    have e9 := List.mem_singleton.mp (show nd ∈ [xnx_248a_1.1] from hnd)
    subst e9
    obtain ⟨o0, L, e, q0, j1⟩ := xhL_c h2
    subst e
    obtain ⟨o1, L, e, q1, j2⟩ := xhL_c j1
    subst e
    obtain ⟨o2, L, e, -, j3⟩ := xhL_c j2
    subst e
    obtain ⟨o3, L, e, -, j4⟩ := xhL_c j3
    subst e
    obtain ⟨o4, L, e, -, j5⟩ := xhL_c j4
    subst e
    have e := xhL_n j5
    subst e
    obtain ⟨v0, e0, q0⟩ := q0 _ rfl
    have e8 := xaO (A := 170) hP rfl q0
    subst e0 e8
    obtain ⟨v1, e1, p, e2, p1, p2⟩ := q1 _ rfl
    subst e1 e2
    have p1 : 0 ≤ p.toInt := p1
    have p2 : p.toInt ≤ 60 := p2
    replace hP : xH xX kK m 99 ph := hP
    change xGT kK (D' + 1) 248 _ (19, [some (.ref 170), some (.int p), o2, o3, o4], [], ph, 0, 0)
    have g5 : (xV ph ∧ R ph) ∧ xINV n ph := g5
    obtain ⟨U, q27, hU0, hU1⟩ := xM_fi (k := 27) hP rfl
    have hU0 : 0 ≤ U.toInt := hU0
    have hU1 : U.toInt ≤ 15 := hU1
    refine gt_load (v := .ref 170) (n := 1) (ykc_248 (e := (2, .aload_n kF0, 0)) rfl) rfl rfl ?_
    refine gt_cv (n := 0) (as := [.ref 170]) (r := []) (ykc_248 (e := (6, .invokevirtual 363, 0)) rfl) rfl hP rfl rfl rfl (xputsBy (D := D') hEVR rfl (fun _ => rfl) (u := U.toInt.toNat) (by omega) (by omega) q27 hP g5.1) rfl (fun vv ph1 hv => ?_)
    obtain ⟨e9, hP2, g2, c2⟩ := hv; subst e9
    change xGT kK (D' + 1) 248 _ (23, [some (.ref 170), some (.int p), o2, o3, o4], [], ph1, 0, 0)
    obtain ⟨i2, r2, q2⟩ := xINV_puts g5.2 q27 c2
    have g2x : xIR R n U.toInt.toNat U ph1 := ⟨⟨g2, i2⟩, r2, q2⟩
    refine xsg_248b (xHIR_G83 hR) (fun _ q => q.1.1.1) (by omega) hm ?_ ?_ _ ph1 h9m ⟨fun q e => by cases e; exact ⟨_, rfl, xaRi rfl (by decide)⟩, fun q e => by cases e; exact ⟨_, rfl, xaI p1 p2⟩, fun q e => (by cases e), fun q e => (by cases e), fun q e => (by cases e), trivial⟩ (xhF_eq h3 (by decide) (fun k => c2.2.1 170 k (fun q => absurd q.1 (by decide)))) hP2 g2x
    · intro nd hnd L ph3 h1 h2 h3 hP3 g6
      have e9 := List.mem_singleton.mp (show nd ∈ [xnx_248b_2.1] from hnd)
      subst e9
      obtain ⟨o0, L, e, q0, j1⟩ := xhL_c h2
      subst e
      obtain ⟨r1, L, e, -, j2⟩ := xhL_c j1
      subst e
      obtain ⟨r2, L, e, -, j3⟩ := xhL_c j2
      subst e
      obtain ⟨r3, L, e, -, j4⟩ := xhL_c j3
      subst e
      obtain ⟨r4, L, e, -, j5⟩ := xhL_c j4
      subst e
      have e := xhL_n j5
      subst e
      obtain ⟨v0, e0, q0⟩ := q0 _ rfl
      have e8 := xaO (A := 170) hP3 rfl q0
      subst e0 e8
      replace hP3 : xH xX kK m 0 ph3 := hP3
      have g6 : xIR R n U.toInt.toNat U ph3 := g6
      change xGT kK (D' + 1) 248 _ (100, [some (.ref 170), r1, r2, r3, r4], [], ph3, 0, 0)
      refine gt_load (v := .ref 170) (n := 1) (ykc_248 (e := (2, .aload_n kF0, 0)) rfl) rfl rfl ?_
      refine gt_load (v := .ref 170) (n := 1) (ykc_248 (e := (2, .aload_n kF0, 0)) rfl) rfl rfl ?_
      refine gt_load (v := .ref 170) (n := 1) (ykc_248 (e := (2, .aload_n kF0, 0)) rfl) rfl rfl ?_
      refine gt_gfr (A := 174) (ykc_248 (e := (5, .getfield 41, 0)) rfl) rfl hP3 rfl rfl rfl ?_
      refine gt_cv (n := 1) (as := [.ref 170, .ref 174]) (r := [.ref 170]) (ykc_248 (e := (6, .invokevirtual 366, 0)) rfl) rfl hP3 rfl rfl rfl (xone_known hm h0m (by omega) hP3) rfl (fun vv ph11 hv => ?_)
      obtain ⟨y, e9, e8⟩ := hv; subst e9; have e7 := e8.symm; subst e7
      change xGT kK (D' + 1) 248 _ (109, [some (.ref 170), r1, r2, r3, r4], [.int y, .ref 170], ph3, 0, 0)
      refine gt_cv (n := 1) (as := [.ref 170, .int y]) (r := []) (ykc_248 (e := (6, .invokevirtual 341, 0)) rfl) rfl hP3 rfl rfl rfl (xadds (D := D') hEVR hP3 g6.1.1 g6.1.2 g6.2.2 g6.2.1) rfl (fun vv ph12 hv => ?_)
      obtain ⟨e9, hP4, i4, g4⟩ := hv; subst e9
      change xGT kK (D' + 1) 248 _ (112, [some (.ref 170), r1, r2, r3, r4], [.int y], ph12, 0, 0)
      refine gt_ret (ykc_248 (e := (7, .ireturn, 0)) rfl) rfl ?_
      exact ⟨y, rfl, hP4, g4.1, i4, g4.2⟩
    · intro v ph' a1 a2 a3 _
      obtain ⟨u, e, z, e2, -⟩ := a3
      exact ⟨z, by rw [e, e2], a1, a2.1.1.1, a2.1.2, a2.1.1.2⟩
  · intro v ph' a1 a2 a3 _
    obtain ⟨u, e, z, e2, -⟩ := a3
    exact ⟨z, by rw [e, e2], a1, a2.1.1, a2.2, a2.1.2⟩

set_option maxRecDepth 6000 in
theorem xint0 {x : Int32} (h1 : (0 : Int) ≤ x.toInt) (h2 : x.toInt ≤ 0) : x = 0 := Int32.toInt_inj.mp (show x.toInt = 0 by omega)
set_option maxRecDepth 6000 in
theorem xw_day {R : pm_H → Prop} (hR0 : xHE xX xgA_VR xgF_VS R) {m : Int} (hm : m ≤ 2147483646) (h0m : (0 : Int) ≤ m) (h9m : (540 : Int) ≤ m) {D n : Nat} (hD : 30 ≤ D) {ph : pm_H} (hP : xH xX kK m 540 ph) (hV : xV ph) (hI : xINV n ph) (hr : R ph) : ∃ v ph', pm_Rd kK false D 255 [.ref 170] ph (v, ph', 0, 0) ∧ (∃ r : Int32, v = some (.int r) ∧ xH xX kK m 0 ph' ∧ xV ph' ∧ xINV n ph' ∧ R ph' ∧ xget ph' 170 14 = some (.int 0)) := by
  obtain ⟨D', rfl⟩ : ∃ D', D = D' + 1 + 1 := ⟨D - 2, by omega⟩
  have hR : xHE xX xgA_VR xgF_VR (fun p => R p ∧ xget p 170 14 = some (.int 0)) := xHE_and (xHE_VS hR0) (xHE_g rfl)
  have hEVR := xHE_and xHEVR hR
  have hEV0 := xHE_and (xHE_sub (gA' := xgA_VR) (gF' := xgF_VS) (by decide +kernel) (by decide +kernel) xHEV) hR0
  refine xRd_mk (nl := 5) rfl rfl ?_
  show xGT kK (D' + 1) 255 _ (0, [some (.ref 170), none, none, none, none], [], ph, 0, 0)
  refine xsg_255a (E := fun p => (xV p ∧ R p) ∧ xINV n p) (xHE_and (xHE_sub (by decide +kernel) (by decide +kernel) hEV0) (xHE_sub (by decide +kernel) (by decide +kernel) (xHEI n))) (by omega) hm ?_ ?_ _ ph h9m ⟨fun q e => by cases e; exact ⟨_, rfl, xaRi rfl (by decide)⟩, fun q e => (by cases e), fun q e => (by cases e), fun q e => (by cases e), fun q e => (by cases e), trivial⟩ xF0 hP ⟨⟨hV, hr⟩, hI⟩
  · intro nd hnd L ph h1 h2 h3 hP g5
    have e9 := List.mem_singleton.mp (show nd ∈ [xnx_255a_62.1] from hnd)
    subst e9
    obtain ⟨o0, L, e, q0, j1⟩ := xhL_c h2
    subst e
    obtain ⟨o1, L, e, -, j2⟩ := xhL_c j1
    subst e
    obtain ⟨o2, L, e, -, j3⟩ := xhL_c j2
    subst e
    obtain ⟨o3, L, e, -, j4⟩ := xhL_c j3
    subst e
    obtain ⟨o4, L, e, -, j5⟩ := xhL_c j4
    subst e
    have e := xhL_n j5
    subst e
    obtain ⟨v0, e0, q0⟩ := q0 _ rfl
    have e8 := xaO (A := 170) hP rfl q0
    subst e0 e8
    replace hP : xH xX kK m 540 ph := hP
    change xGT kK (D' + 1) 255 _ (57, [some (.ref 170), o1, o2, o3, o4], [], ph, 0, 0)
    have g5 : (xV ph ∧ R ph) ∧ xINV n ph := g5
    obtain ⟨t, t0, t1, t2⟩ := xhF_get (k := 696334) (c := 14) h3 (List.Mem.tail _ (List.Mem.head _)) rfl rfl
    have e := xint0 t1 t2
    subst e
    obtain ⟨U, q27, hU0, hU1⟩ := xM_fi (k := 27) hP rfl
    have hU0 : 0 ≤ U.toInt := hU0
    have hU1 : U.toInt ≤ 15 := hU1
    refine gt_load (v := .ref 170) (n := 1) (ykc_255 (e := (2, .aload_n kF0, 0)) rfl) rfl rfl ?_
    refine gt_cv (n := 0) (as := [.ref 170]) (r := []) (ykc_255 (e := (6, .invokevirtual 363, 0)) rfl) rfl hP rfl rfl rfl (xputsBy (D := D') hEVR rfl (fun _ => rfl) (u := U.toInt.toNat) (by omega) (by omega) q27 hP ⟨g5.1.1, g5.1.2, t0⟩) rfl (fun vv ph1 hv => ?_)
    obtain ⟨e9, hP2, g2, c2⟩ := hv; subst e9
    change xGT kK (D' + 1) 255 _ (61, [some (.ref 170), o1, o2, o3, o4], [], ph1, 0, 0)
    obtain ⟨i2, r2, q2⟩ := xINV_puts g5.2 q27 c2
    have g2x : xIR (fun p => R p ∧ xget p 170 14 = some (.int 0)) n U.toInt.toNat U ph1 := ⟨⟨g2, i2⟩, r2, q2⟩
    refine xsg_255b (xHIR_G92 hR) (fun _ q => q.1.1.1) (xIR_St hR) (by omega) hm ?_ ?_ _ ph1 h9m ⟨fun q e => by cases e; exact ⟨_, rfl, xaRi rfl (by decide)⟩, fun q e => (by cases e), fun q e => (by cases e), fun q e => (by cases e), fun q e => (by cases e), trivial⟩ (xhF_eq h3 (by decide) (fun k => c2.2.1 170 k (fun q => absurd q.1 (by decide)))) hP2 g2x
    · intro nd hnd L ph3 h1 h2 h3 hP3 g6
      have e9 := List.mem_singleton.mp (show nd ∈ [xnx_255b_32.1] from hnd)
      subst e9
      obtain ⟨o0, L, e, q0, j1⟩ := xhL_c h2
      subst e
      obtain ⟨r1, L, e, -, j2⟩ := xhL_c j1
      subst e
      obtain ⟨r2, L, e, -, j3⟩ := xhL_c j2
      subst e
      obtain ⟨r3, L, e, -, j4⟩ := xhL_c j3
      subst e
      obtain ⟨o4, L, e, q4, j5⟩ := xhL_c j4
      subst e
      have e := xhL_n j5
      subst e
      obtain ⟨v0, e0, q0⟩ := q0 _ rfl
      have e8 := xaO (A := 170) hP3 rfl q0
      subst e0 e8
      obtain ⟨v4, e4, y, e7, -⟩ := q4 _ rfl
      subst e4 e7
      replace hP3 : xH xX kK m 270 ph3 := hP3
      have g6 : xIR (fun p => R p ∧ xget p 170 14 = some (.int 0)) n U.toInt.toNat U ph3 := g6
      change xGT kK (D' + 1) 255 _ (132, [some (.ref 170), r1, r2, r3, some (.int y)], [], ph3, 0, 0)
      refine gt_load (v := .ref 170) (n := 1) (ykc_255 (e := (2, .aload_n kF0, 0)) rfl) rfl rfl ?_
      refine gt_load (v := .int y) (n := 2) (ykc_255 (e := (2, .iload 4, 0)) rfl) rfl rfl ?_
      refine gt_cv (n := 1) (as := [.ref 170, .int y]) (r := []) (ykc_255 (e := (6, .invokevirtual 341, 0)) rfl) rfl hP3 rfl rfl rfl (xadds (D := D') hEVR (xH_w (Nat.zero_le _) hP3) g6.1.1 g6.1.2 g6.2.2 g6.2.1) rfl (fun vv ph11 hv => ?_)
      obtain ⟨e9, hP4, i4, g4⟩ := hv; subst e9
      change xGT kK (D' + 1) 255 _ (138, [some (.ref 170), r1, r2, r3, some (.int y)], [.int y], ph11, 0, 0)
      refine gt_br (pc' := 142) (st' := [.int y]) (ykc_255 (e := (4, .goto 4, 142)) rfl) rfl ?_
      refine gt_ret (ykc_255 (e := (7, .ireturn, 0)) rfl) rfl ?_
      exact ⟨y, rfl, hP4, g4.1, i4, g4.2.1, g4.2.2⟩
    · intro v ph' a1 a2 a3 _
      obtain ⟨u, e, z, e2, -⟩ := a3
      exact ⟨z, by rw [e, e2], a1, a2.1.1.1, a2.1.2, a2.1.1.2.1, a2.1.1.2.2⟩
  · intro v ph' a1 a2 a3 a4
    obtain ⟨u, e, z, e2, -⟩ := a3
    obtain ⟨t, t0, t1, t2⟩ := xhF_get (k := 696334) (c := 14) a4 (List.Mem.head _) rfl rfl
    have e9 := xint0 t1 t2
    subst e9
    exact ⟨z, by rw [e, e2], a1, a2.1.1, a2.2, a2.1.2, t0⟩

