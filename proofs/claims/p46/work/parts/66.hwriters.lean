/-! counted, faces, steps, trims, puts of the reference, by hand, printed by wip/x/h_writers.py -/
set_option maxRecDepth 6000 in
theorem xHE_rowG {gA : List Nat} {gF : List (Nat × Nat)} {a i off : Nat} (ho : xown a = some i) (hA : xmemN gA i = true) (h4 : xmemP gF 0 4 = true) (h5 : xmemP gF 0 5 = true) (h6 : xmemP gF 0 6 = true) : xHE xX gA gF (fun p => xrowG p a off) := fun p p' hs g W P T h1 h2 h3 b1 b2 => xgr_eq b1 b2 (fun _ _ => xget_at (hs.1 a i ho (xmemN_in hA)).symm _) (g W P T ((hs.2 170 0 4 rfl (xmemP_in h4)).trans h1) ((hs.2 170 0 5 rfl (xmemP_in h5)).trans h2) ((hs.2 170 0 6 rfl (xmemP_in h6)).trans h3) b1 b2)
set_option maxRecDepth 6000 in
theorem xSt_HE {E : pm_H → Prop} {gA : List Nat} {gF : List (Nat × Nat)} (hE : xHE xX gA gF E) (h1 : xmemN gA 4 = false) (h2 : ∀ k, xmemP gF 4 k = false) : xSt E := fun ph l k y _ _ h => hE ph _ ⟨fun a i ho hi => (xat_ne fun e => by
  subst e
  have ho : xown 174 = some i := ho
  rw [show xown 174 = some 4 from rfl] at ho
  cases ho
  exact absurd hi (xmemN_ok h1)).symm, fun a i c ho hi => (xget_ne fun e => by
  subst e
  have ho : xown 174 = some i := ho
  rw [show xown 174 = some 4 from rfl] at ho
  cases ho
  exact absurd hi (xmemP_ok (h2 c))).symm⟩ h
set_option maxRecDepth 6000 in
theorem xSt_and {E F : pm_H → Prop} (h1 : xSt E) (h2 : xSt F) : xSt (fun p => E p ∧ F p) := fun ph l k y a b h => ⟨h1 ph l k y a b h.1, h2 ph l k y a b h.2⟩
/-- between putsBy and adds -/
def xIR (R : pm_H → Prop) (n u : Nat) (U : Int32) : pm_H → Prop := fun p => ((xV p ∧ R p) ∧ xINV n p) ∧ (xrowG p 183 (41 * u) ∧ xget p 170 27 = some (.int U))
def xgA_U : List Nat := [13]
def xgF_U : List (Nat × Nat) := [(0, 4), (0, 5), (0, 6), (0, 27)]
set_option maxRecDepth 6000 in
theorem xHEU {u : Nat} {U : Int32} : xHE xX xgA_U xgF_U (fun p => xrowG p 183 (41 * u) ∧ xget p 170 27 = some (.int U)) := xHE_and (xHE_rowG (i := 13) rfl rfl rfl rfl rfl) (xHE_g rfl)
set_option maxRecDepth 6000 in
theorem xIR_St {R : pm_H → Prop} (hR : xHE xX xgA_VR xgF_VR R) {n u : Nat} {U : Int32} : xSt (xIR R n u U) := xSt_and (xSt_and (xSt_HE (xHE_and xHEVR hR) rfl (fun _ => rfl)) (xINV_St n)) (xSt_HE xHEU rfl (fun _ => rfl))

set_option maxRecDepth 6000 in
theorem xHIR_G8 {R : pm_H → Prop} (hR : xHE xX xgA_VR xgF_VR R) {n u : Nat} {U : Int32} : xHE xX xgA_G8 xgF_G8 (xIR R n u U) := xHE_and (xHE_and (xHE_sub (by decide +kernel) (by decide +kernel) (xHE_and xHEVR hR)) (xHE_sub (by decide +kernel) (by decide +kernel) (xHEI n))) (xHE_sub (by decide +kernel) (by decide +kernel) xHEU)
set_option maxRecDepth 6000 in
theorem xHIR_G80 {R : pm_H → Prop} (hR : xHE xX xgA_VR xgF_VR R) {n u : Nat} {U : Int32} : xHE xX xgA_G80 xgF_G80 (xIR R n u U) := xHE_and (xHE_and (xHE_sub (by decide +kernel) (by decide +kernel) (xHE_and xHEVR hR)) (xHE_sub (by decide +kernel) (by decide +kernel) (xHEI n))) (xHE_sub (by decide +kernel) (by decide +kernel) xHEU)
set_option maxRecDepth 6000 in
theorem xHIR_G83 {R : pm_H → Prop} (hR : xHE xX xgA_VR xgF_VR R) {n u : Nat} {U : Int32} : xHE xX xgA_G83 xgF_G83 (xIR R n u U) := xHE_and (xHE_and (xHE_sub (by decide +kernel) (by decide +kernel) (xHE_and xHEVR hR)) (xHE_sub (by decide +kernel) (by decide +kernel) (xHEI n))) (xHE_sub (by decide +kernel) (by decide +kernel) xHEU)
set_option maxRecDepth 6000 in
theorem xHIR_G84 {R : pm_H → Prop} (hR : xHE xX xgA_VR xgF_VR R) {n u : Nat} {U : Int32} : xHE xX xgA_G84 xgF_G84 (xIR R n u U) := xHE_and (xHE_and (xHE_sub (by decide +kernel) (by decide +kernel) (xHE_and xHEVR hR)) (xHE_sub (by decide +kernel) (by decide +kernel) (xHEI n))) (xHE_sub (by decide +kernel) (by decide +kernel) xHEU)
set_option maxRecDepth 6000 in
theorem xHIR_G92 {R : pm_H → Prop} (hR : xHE xX xgA_VR xgF_VR R) {n u : Nat} {U : Int32} : xHE xX xgA_G92 xgF_G92 (xIR R n u U) := xHE_and (xHE_and (xHE_sub (by decide +kernel) (by decide +kernel) (xHE_and xHEVR hR)) (xHE_sub (by decide +kernel) (by decide +kernel) (xHEI n))) (xHE_sub (by decide +kernel) (by decide +kernel) xHEU)
set_option maxRecDepth 6000 in
theorem xINV_puts {n : Nat} {ph ph' : pm_H} {U : Int32} (h : xINV n ph) (q : xget ph 170 27 = some (.int U)) (c : xcp ph ph' 183 (41 * U.toInt.toNat) 174 0 41) : xINV n ph' ∧ xrowG ph' 183 (41 * U.toInt.toNat) ∧ xget ph' 170 27 = some (.int U) := by
  obtain ⟨W, P, T, U2, C, ⟨f1, f2, f3, f4, f5⟩, ⟨b1, b2, b3, b4⟩, g1, g2, g3⟩ := h
  have e9 := xget_int f4 q
  subst e9
  have hf : ∀ k, xget ph' 170 k = xget ph 170 k := fun k => c.2.1 170 k (fun q => absurd q.1 (by decide))
  have ha : ∀ a, a ≠ 183 → pm_at ph' a = pm_at ph a := c.2.2
  refine ⟨⟨W, P, T, U2, C, ⟨(hf 4).trans f1, (hf 5).trans f2, (hf 6).trans f3, (hf 27).trans f4, (hf 7).trans f5⟩, ⟨b1, b2, b3, b4⟩, xgr_eq b1 b2 (fun k _ => xget_at (ha 174 (by decide)) _) g1, fun k hk => xgr_eq b1 b2 (fun c2 hc2 => c.2.1 183 _ (fun q => by obtain ⟨-, q1, q2⟩ := q; omega)) (g2 k hk), fun i hi z hz hz0 => ?_⟩, ?_, (hf 27).trans f4⟩
  · obtain ⟨K, k1, k2, k3⟩ := g3 i hi z (xgb_eq (ha 198 (by decide)) hz) hz0
    exact ⟨K, (xget_at (ha 199 (by decide)) i).trans k1, k2, fun e => xgr_eq b1 b2 (fun c _ => xget_at (ha 200 (by decide)) _) (k3 e)⟩
  · intro W2 P2 T2 h1 h2 h3 _ _
    have e1 := xget_int ((hf 4).trans f1) h1
    have e2 := xget_int ((hf 5).trans f2) h2
    have e3 := xget_int ((hf 6).trans f3) h3
    subst e1 e2 e3
    exact xgr_cp b1 b2 c.1 g1

set_option maxRecDepth 6000 in
theorem xcounted {R : pm_H → Prop} (hR : xHE xX xgA_VR xgF_VR R) {m : Int} {D n u : Nat} (hD : 2 ≤ D) {ph : pm_H} {y U : Int32} (hP : xH xX kK m 0 ph) (g9 : xIR R n u U ph) (hu : u = U.toInt.toNat) : ∃ v ph', pm_Rd kK false D 240 [.ref 170, .int y] ph (v, ph', 0, 0) ∧ (v = some (.int y) ∧ xH xX kK m 0 ph' ∧ xINV n ph' ∧ xV ph' ∧ R ph') := by
  obtain ⟨D', rfl⟩ : ∃ D', D = D' + 1 + 1 := ⟨D - 2, by omega⟩
  have hEVR := xHE_and xHEVR hR
  refine xRd_mk (nl := 2) rfl rfl ?_
  show xGT kK (D' + 1) 240 _ (0, [some (.ref 170), some (.int y)], [], ph, 0, 0)
  by_cases hy : y.toInt < 0
  · refine gt_load (v := .int y) (n := 1) (ykc_240 (e := (2, .iload_n kF1, 0)) rfl) rfl rfl ?_
    refine gt_zge_f (ykc_240 (e := (4, .ifCond .ge 7, 8)) rfl) hy rfl ?_
    refine gt_load (v := .int y) (n := 1) (ykc_240 (e := (2, .iload_n kF1, 0)) rfl) rfl rfl ?_
    refine gt_br (pc' := 13) (st' := [.int y]) (ykc_240 (e := (4, .goto 8, 13)) rfl) rfl ?_
    refine gt_ret (ykc_240 (e := (7, .ireturn, 0)) rfl) rfl ?_
    exact ⟨rfl, hP, g9.1.2, g9.1.1⟩
  · refine gt_load (v := .int y) (n := 1) (ykc_240 (e := (2, .iload_n kF1, 0)) rfl) rfl rfl ?_
    refine gt_zge_t (ykc_240 (e := (4, .ifCond .ge 7, 8)) rfl) (by omega) ?_
    refine gt_load (v := .ref 170) (n := 1) (ykc_240 (e := (2, .aload_n kF0, 0)) rfl) rfl rfl ?_
    refine gt_load (v := .int y) (n := 1) (ykc_240 (e := (2, .iload_n kF1, 0)) rfl) rfl rfl ?_
    refine gt_cv (n := 1) (as := [.ref 170, .int y]) (r := []) (ykc_240 (e := (6, .invokevirtual 341, 0)) rfl) rfl hP rfl rfl rfl (xadds (D := D') hEVR hP g9.1.1 g9.1.2 g9.2.2 (hu ▸ g9.2.1)) rfl (fun vv ph101 hv => ?_)
    obtain ⟨e9, hP2, i2, g2⟩ := hv; subst e9
    change xGT kK (D' + 1) 240 _ (13, [some (.ref 170), some (.int y)], [.int y], ph101, 0, 0)
    refine gt_ret (ykc_240 (e := (7, .ireturn, 0)) rfl) rfl ?_
    exact ⟨rfl, hP2, i2, g2⟩

set_option maxRecDepth 6000 in
theorem xone_faces {E : pm_H → Prop} (hE : xHE xX xgA_G84 xgF_G84 E) {m : Int} (hm : m ≤ 2147483646) (h0m : (0 : Int) ≤ m) {D : Nat} (hD : 3 ≤ D) {ph : pm_H} {p q : Int32} (hP : xH xX kK m 0 ph) (g9 : E ph) : ∃ v ph', pm_Rd kK false D 244 [.ref 170, .ref 174, .int p, .int q] ph (v, ph', 0, 0) ∧ (∃ r : Int32, v = some (.int r) ∧ xH xX kK m 0 ph' ∧ E ph') := by
  obtain ⟨v, ph', k1, k2, k3, ⟨u, e, z, e2, -⟩, -⟩ := (xn_343_0 hE) D hD m hm h0m [.ref 170, .ref 174, .int p, .int q] ph ⟨xaRi rfl (by decide), xaRi rfl (by decide), xaT, xaT, trivial⟩ xF0 hP g9
  exact ⟨v, ph', k1, z, by rw [e, e2], k2, k3⟩
set_option maxRecDepth 6000 in
theorem xw_faces {R : pm_H → Prop} (hR : xHE xX xgA_VR xgF_VR R) {m : Int} (hm : m ≤ 2147483646) (h0m : (0 : Int) ≤ m) {D n : Nat} (hD : 20 ≤ D) {ph : pm_H} {p q : Int32} (hP : xH xX kK m 0 ph) (hV : xV ph) (hI : xINV n ph) (hr : R ph) : ∃ v ph', pm_Rd kK false D 249 [.ref 170, .int p, .int q] ph (v, ph', 0, 0) ∧ (∃ r : Int32, v = some (.int r) ∧ xH xX kK m 0 ph' ∧ xV ph' ∧ xINV n ph' ∧ R ph') := by
  obtain ⟨D', rfl⟩ : ∃ D', D = D' + 1 + 1 := ⟨D - 2, by omega⟩
  have hEVR := xHE_and xHEVR hR
  refine xRd_mk (nl := 3) rfl rfl ?_
  show xGT kK (D' + 1) 249 _ (0, [some (.ref 170), some (.int p), some (.int q)], [], ph, 0, 0)
  refine gt_load (v := .ref 170) (n := 1) (ykc_249 (e := (2, .aload_n kF0, 0)) rfl) rfl rfl ?_
  refine gt_alu (st' := [.int (Int32.ofInt 0), .ref 170]) (ykc_249 (e := (0, .iconst 0, 0)) rfl) rfl rfl ?_
  refine gt_pf (y := Int32.ofInt 0) (ykc_249 (e := (5, .putfield 3, 0)) rfl) rfl hP rfl rfl (by decide) (by decide) rfl (fun ph1 hP1 u1 => ?_)
  have g1 : xV ph1 ∧ R ph1 := xu1_E hEVR u1 rfl rfl rfl ⟨hV, hr⟩
  have i1 : xINV n ph1 := xu1_E (xHEI n) u1 rfl rfl rfl hI
  obtain ⟨U, q27, hU0, hU1⟩ := xM_fi (k := 27) hP1 rfl
  have hU0 : 0 ≤ U.toInt := hU0
  have hU1 : U.toInt ≤ 15 := hU1
  refine gt_load (v := .ref 170) (n := 1) (ykc_249 (e := (2, .aload_n kF0, 0)) rfl) rfl rfl ?_
  refine gt_cv (n := 0) (as := [.ref 170]) (r := []) (ykc_249 (e := (6, .invokevirtual 363, 0)) rfl) rfl hP1 rfl rfl rfl (xputsBy (D := D') hEVR rfl (fun _ => rfl) (u := U.toInt.toNat) (by omega) (by omega) q27 hP1 g1) rfl (fun vv ph2 hv => ?_)
  obtain ⟨e9, hP2, g2, c2⟩ := hv; subst e9
  change xGT kK (D' + 1) 249 _ (9, [some (.ref 170), some (.int p), some (.int q)], [], ph2, 0, 0)
  obtain ⟨i2, r2, q2⟩ := xINV_puts i1 q27 c2
  have g2x : xIR R n U.toInt.toNat U ph2 := ⟨⟨g2, i2⟩, r2, q2⟩
  refine gt_load (v := .ref 170) (n := 1) (ykc_249 (e := (2, .aload_n kF0, 0)) rfl) rfl rfl ?_
  refine gt_load (v := .ref 170) (n := 1) (ykc_249 (e := (2, .aload_n kF0, 0)) rfl) rfl rfl ?_
  refine gt_load (v := .ref 170) (n := 1) (ykc_249 (e := (2, .aload_n kF0, 0)) rfl) rfl rfl ?_
  refine gt_gfr (A := 174) (ykc_249 (e := (5, .getfield 41, 0)) rfl) rfl hP2 rfl rfl rfl ?_
  refine gt_load (v := .int p) (n := 1) (ykc_249 (e := (2, .iload_n kF1, 0)) rfl) rfl rfl ?_
  refine gt_load (v := .int q) (n := 1) (ykc_249 (e := (2, .iload_n kF2, 0)) rfl) rfl rfl ?_
  refine gt_cv (n := 3) (as := [.ref 170, .ref 174, .int p, .int q]) (r := [.ref 170]) (ykc_249 (e := (6, .invokevirtual 377, 0)) rfl) rfl hP2 rfl rfl rfl (xone_faces (xHIR_G84 hR) hm h0m (by omega) hP2 g2x) rfl (fun vv ph3 hv => ?_)
  obtain ⟨r1, e9, hP3, g3⟩ := hv; subst e9
  change xGT kK (D' + 1) 249 _ (20, [some (.ref 170), some (.int p), some (.int q)], [.int r1, .ref 170], ph3, 0, 0)
  refine gt_cv (n := 1) (as := [.ref 170, .int r1]) (r := []) (ykc_249 (e := (6, .invokevirtual 380, 0)) rfl) rfl hP3 rfl rfl rfl (xcounted hR (by omega) hP3 g3 rfl) rfl (fun vv ph4 hv => ?_)
  obtain ⟨e9, hP4, i4, g4⟩ := hv; subst e9
  change xGT kK (D' + 1) 249 _ (23, [some (.ref 170), some (.int p), some (.int q)], [.int r1], ph4, 0, 0)
  refine gt_ret (ykc_249 (e := (7, .ireturn, 0)) rfl) rfl ?_
  exact ⟨r1, rfl, hP4, g4.1, i4, g4.2⟩

set_option maxRecDepth 6000 in
theorem xone_steps {E : pm_H → Prop} (hE : xHE xX xgA_G8 xgF_G8 E) (hS : xSt E) {m : Int} (hm : m ≤ 2147483646) (h0m : (0 : Int) ≤ m) {D : Nat} (hD : 3 ≤ D) {ph : pm_H} {p q : Int32} (hP : xH xX kK m 0 ph) (g9 : E ph) : ∃ v ph', pm_Rd kK false D 245 [.ref 170, .ref 174, .int p, .int q] ph (v, ph', 0, 0) ∧ (∃ r : Int32, v = some (.int r) ∧ xH xX kK m 0 ph' ∧ E ph') := by
  obtain ⟨v, ph', k1, k2, k3, ⟨u, e, z, e2, -⟩, -⟩ := (xn_344_0 hE hS) D hD m hm h0m [.ref 170, .ref 174, .int p, .int q] ph ⟨xaRi rfl (by decide), xaRi rfl (by decide), xaT, xaT, trivial⟩ xF0 hP g9
  exact ⟨v, ph', k1, z, by rw [e, e2], k2, k3⟩
set_option maxRecDepth 6000 in
theorem xw_steps {R : pm_H → Prop} (hR : xHE xX xgA_VR xgF_VR R) {m : Int} (hm : m ≤ 2147483646) (h0m : (0 : Int) ≤ m) {D n : Nat} (hD : 20 ≤ D) {ph : pm_H} {p q : Int32} (hP : xH xX kK m 0 ph) (hV : xV ph) (hI : xINV n ph) (hr : R ph) : ∃ v ph', pm_Rd kK false D 250 [.ref 170, .int p, .int q] ph (v, ph', 0, 0) ∧ (∃ r : Int32, v = some (.int r) ∧ xH xX kK m 0 ph' ∧ xV ph' ∧ xINV n ph' ∧ R ph') := by
  obtain ⟨D', rfl⟩ : ∃ D', D = D' + 1 + 1 := ⟨D - 2, by omega⟩
  have hEVR := xHE_and xHEVR hR
  refine xRd_mk (nl := 3) rfl rfl ?_
  show xGT kK (D' + 1) 250 _ (0, [some (.ref 170), some (.int p), some (.int q)], [], ph, 0, 0)
  refine gt_load (v := .ref 170) (n := 1) (ykc_250 (e := (2, .aload_n kF0, 0)) rfl) rfl rfl ?_
  refine gt_alu (st' := [.int (Int32.ofInt 0), .ref 170]) (ykc_250 (e := (0, .iconst 0, 0)) rfl) rfl rfl ?_
  refine gt_pf (y := Int32.ofInt 0) (ykc_250 (e := (5, .putfield 3, 0)) rfl) rfl hP rfl rfl (by decide) (by decide) rfl (fun ph1 hP1 u1 => ?_)
  have g1 : xV ph1 ∧ R ph1 := xu1_E hEVR u1 rfl rfl rfl ⟨hV, hr⟩
  have i1 : xINV n ph1 := xu1_E (xHEI n) u1 rfl rfl rfl hI
  obtain ⟨U, q27, hU0, hU1⟩ := xM_fi (k := 27) hP1 rfl
  have hU0 : 0 ≤ U.toInt := hU0
  have hU1 : U.toInt ≤ 15 := hU1
  refine gt_load (v := .ref 170) (n := 1) (ykc_250 (e := (2, .aload_n kF0, 0)) rfl) rfl rfl ?_
  refine gt_cv (n := 0) (as := [.ref 170]) (r := []) (ykc_250 (e := (6, .invokevirtual 363, 0)) rfl) rfl hP1 rfl rfl rfl (xputsBy (D := D') hEVR rfl (fun _ => rfl) (u := U.toInt.toNat) (by omega) (by omega) q27 hP1 g1) rfl (fun vv ph2 hv => ?_)
  obtain ⟨e9, hP2, g2, c2⟩ := hv; subst e9
  change xGT kK (D' + 1) 250 _ (9, [some (.ref 170), some (.int p), some (.int q)], [], ph2, 0, 0)
  obtain ⟨i2, r2, q2⟩ := xINV_puts i1 q27 c2
  have g2x : xIR R n U.toInt.toNat U ph2 := ⟨⟨g2, i2⟩, r2, q2⟩
  refine gt_load (v := .ref 170) (n := 1) (ykc_250 (e := (2, .aload_n kF0, 0)) rfl) rfl rfl ?_
  refine gt_load (v := .ref 170) (n := 1) (ykc_250 (e := (2, .aload_n kF0, 0)) rfl) rfl rfl ?_
  refine gt_load (v := .ref 170) (n := 1) (ykc_250 (e := (2, .aload_n kF0, 0)) rfl) rfl rfl ?_
  refine gt_gfr (A := 174) (ykc_250 (e := (5, .getfield 41, 0)) rfl) rfl hP2 rfl rfl rfl ?_
  refine gt_load (v := .int p) (n := 1) (ykc_250 (e := (2, .iload_n kF1, 0)) rfl) rfl rfl ?_
  refine gt_load (v := .int q) (n := 1) (ykc_250 (e := (2, .iload_n kF2, 0)) rfl) rfl rfl ?_
  refine gt_cv (n := 3) (as := [.ref 170, .ref 174, .int p, .int q]) (r := [.ref 170]) (ykc_250 (e := (6, .invokevirtual 383, 0)) rfl) rfl hP2 rfl rfl rfl (xone_steps (xHIR_G8 hR) (xIR_St hR) hm h0m (by omega) hP2 g2x) rfl (fun vv ph3 hv => ?_)
  obtain ⟨r1, e9, hP3, g3⟩ := hv; subst e9
  change xGT kK (D' + 1) 250 _ (20, [some (.ref 170), some (.int p), some (.int q)], [.int r1, .ref 170], ph3, 0, 0)
  refine gt_cv (n := 1) (as := [.ref 170, .int r1]) (r := []) (ykc_250 (e := (6, .invokevirtual 380, 0)) rfl) rfl hP3 rfl rfl rfl (xcounted hR (by omega) hP3 g3 rfl) rfl (fun vv ph4 hv => ?_)
  obtain ⟨e9, hP4, i4, g4⟩ := hv; subst e9
  change xGT kK (D' + 1) 250 _ (23, [some (.ref 170), some (.int p), some (.int q)], [.int r1], ph4, 0, 0)
  refine gt_ret (ykc_250 (e := (7, .ireturn, 0)) rfl) rfl ?_
  exact ⟨r1, rfl, hP4, g4.1, i4, g4.2⟩

set_option maxRecDepth 6000 in
theorem xone_trims {E : pm_H → Prop} (hE : xHE xX xgA_G80 xgF_G80 E) {m : Int} (hm : m ≤ 2147483646) (h0m : (0 : Int) ≤ m) {D : Nat} (hD : 3 ≤ D) {ph : pm_H} {p q : Int32} (hP : xH xX kK m 0 ph) (g9 : E ph) : ∃ v ph', pm_Rd kK false D 246 [.ref 170, .int p, .int q] ph (v, ph', 0, 0) ∧ (∃ r : Int32, v = some (.int r) ∧ xH xX kK m 0 ph' ∧ E ph') := by
  obtain ⟨v, ph', k1, k2, k3, ⟨u, e, z, e2, -⟩, -⟩ := (xn_246_0 hE) D hD m hm h0m [.ref 170, .int p, .int q] ph ⟨xaRi rfl (by decide), xaT, xaT, trivial⟩ xF0 hP g9
  exact ⟨v, ph', k1, z, by rw [e, e2], k2, k3⟩
set_option maxRecDepth 6000 in
theorem xw_trims {R : pm_H → Prop} (hR : xHE xX xgA_VR xgF_VR R) {m : Int} (hm : m ≤ 2147483646) (h0m : (0 : Int) ≤ m) {D n : Nat} (hD : 20 ≤ D) {ph : pm_H} {p q : Int32} (hP : xH xX kK m 0 ph) (hV : xV ph) (hI : xINV n ph) (hr : R ph) : ∃ v ph', pm_Rd kK false D 251 [.ref 170, .int p, .int q] ph (v, ph', 0, 0) ∧ (∃ r : Int32, v = some (.int r) ∧ xH xX kK m 0 ph' ∧ xV ph' ∧ xINV n ph' ∧ R ph') := by
  obtain ⟨D', rfl⟩ : ∃ D', D = D' + 1 + 1 := ⟨D - 2, by omega⟩
  have hEVR := xHE_and xHEVR hR
  refine xRd_mk (nl := 3) rfl rfl ?_
  show xGT kK (D' + 1) 251 _ (0, [some (.ref 170), some (.int p), some (.int q)], [], ph, 0, 0)
  refine gt_load (v := .ref 170) (n := 1) (ykc_251 (e := (2, .aload_n kF0, 0)) rfl) rfl rfl ?_
  refine gt_alu (st' := [.int (Int32.ofInt 0), .ref 170]) (ykc_251 (e := (0, .iconst 0, 0)) rfl) rfl rfl ?_
  refine gt_pf (y := Int32.ofInt 0) (ykc_251 (e := (5, .putfield 3, 0)) rfl) rfl hP rfl rfl (by decide) (by decide) rfl (fun ph1 hP1 u1 => ?_)
  have g1 : xV ph1 ∧ R ph1 := xu1_E hEVR u1 rfl rfl rfl ⟨hV, hr⟩
  have i1 : xINV n ph1 := xu1_E (xHEI n) u1 rfl rfl rfl hI
  obtain ⟨U, q27, hU0, hU1⟩ := xM_fi (k := 27) hP1 rfl
  have hU0 : 0 ≤ U.toInt := hU0
  have hU1 : U.toInt ≤ 15 := hU1
  refine gt_load (v := .ref 170) (n := 1) (ykc_251 (e := (2, .aload_n kF0, 0)) rfl) rfl rfl ?_
  refine gt_cv (n := 0) (as := [.ref 170]) (r := []) (ykc_251 (e := (6, .invokevirtual 363, 0)) rfl) rfl hP1 rfl rfl rfl (xputsBy (D := D') hEVR rfl (fun _ => rfl) (u := U.toInt.toNat) (by omega) (by omega) q27 hP1 g1) rfl (fun vv ph2 hv => ?_)
  obtain ⟨e9, hP2, g2, c2⟩ := hv; subst e9
  change xGT kK (D' + 1) 251 _ (9, [some (.ref 170), some (.int p), some (.int q)], [], ph2, 0, 0)
  obtain ⟨i2, r2, q2⟩ := xINV_puts i1 q27 c2
  have g2x : xIR R n U.toInt.toNat U ph2 := ⟨⟨g2, i2⟩, r2, q2⟩
  refine gt_load (v := .ref 170) (n := 1) (ykc_251 (e := (2, .aload_n kF0, 0)) rfl) rfl rfl ?_
  refine gt_load (v := .ref 170) (n := 1) (ykc_251 (e := (2, .aload_n kF0, 0)) rfl) rfl rfl ?_
  refine gt_load (v := .int p) (n := 1) (ykc_251 (e := (2, .iload_n kF1, 0)) rfl) rfl rfl ?_
  refine gt_load (v := .int q) (n := 1) (ykc_251 (e := (2, .iload_n kF2, 0)) rfl) rfl rfl ?_
  refine gt_cv (n := 2) (as := [.ref 170, .int p, .int q]) (r := [.ref 170]) (ykc_251 (e := (6, .invokevirtual 386, 0)) rfl) rfl hP2 rfl rfl rfl (xone_trims (xHIR_G80 hR) hm h0m (by omega) hP2 g2x) rfl (fun vv ph3 hv => ?_)
  obtain ⟨r1, e9, hP3, g3⟩ := hv; subst e9
  change xGT kK (D' + 1) 251 _ (16, [some (.ref 170), some (.int p), some (.int q)], [.int r1, .ref 170], ph3, 0, 0)
  refine gt_cv (n := 1) (as := [.ref 170, .int r1]) (r := []) (ykc_251 (e := (6, .invokevirtual 380, 0)) rfl) rfl hP3 rfl rfl rfl (xcounted hR (by omega) hP3 g3 rfl) rfl (fun vv ph4 hv => ?_)
  obtain ⟨e9, hP4, i4, g4⟩ := hv; subst e9
  change xGT kK (D' + 1) 251 _ (19, [some (.ref 170), some (.int p), some (.int q)], [.int r1], ph4, 0, 0)
  refine gt_ret (ykc_251 (e := (7, .ireturn, 0)) rfl) rfl ?_
  exact ⟨r1, rfl, hP4, g4.1, i4, g4.2⟩

set_option maxRecDepth 6000 in
theorem xone_puts {E : pm_H → Prop} (hE : xHE xX xgA_G8 xgF_G8 E) (hS : xSt E) {m : Int} (hm : m ≤ 2147483646) (h0m : (0 : Int) ≤ m) {D : Nat} (hD : 3 ≤ D) {ph : pm_H} {p q : Int32} (hP : xH xX kK m 0 ph) (g9 : E ph) : ∃ v ph', pm_Rd kK false D 247 [.ref 170, .int p, .int q] ph (v, ph', 0, 0) ∧ (∃ r : Int32, v = some (.int r) ∧ xH xX kK m 0 ph' ∧ E ph') := by
  obtain ⟨v, ph', k1, k2, k3, ⟨u, e, z, e2, -⟩, -⟩ := (xn_247_0 hE hS) D hD m hm h0m [.ref 170, .int p, .int q] ph ⟨xaRi rfl (by decide), xaT, xaT, trivial⟩ xF0 hP g9
  exact ⟨v, ph', k1, z, by rw [e, e2], k2, k3⟩
set_option maxRecDepth 6000 in
theorem xw_puts {R : pm_H → Prop} (hR : xHE xX xgA_VR xgF_VR R) {m : Int} (hm : m ≤ 2147483646) (h0m : (0 : Int) ≤ m) {D n : Nat} (hD : 20 ≤ D) {ph : pm_H} {p q : Int32} (hP : xH xX kK m 0 ph) (hV : xV ph) (hI : xINV n ph) (hr : R ph) : ∃ v ph', pm_Rd kK false D 252 [.ref 170, .int p, .int q] ph (v, ph', 0, 0) ∧ (∃ r : Int32, v = some (.int r) ∧ xH xX kK m 0 ph' ∧ xV ph' ∧ xINV n ph' ∧ R ph') := by
  obtain ⟨D', rfl⟩ : ∃ D', D = D' + 1 + 1 := ⟨D - 2, by omega⟩
  have hEVR := xHE_and xHEVR hR
  refine xRd_mk (nl := 3) rfl rfl ?_
  show xGT kK (D' + 1) 252 _ (0, [some (.ref 170), some (.int p), some (.int q)], [], ph, 0, 0)
  refine gt_load (v := .ref 170) (n := 1) (ykc_252 (e := (2, .aload_n kF0, 0)) rfl) rfl rfl ?_
  refine gt_alu (st' := [.int (Int32.ofInt 0), .ref 170]) (ykc_252 (e := (0, .iconst 0, 0)) rfl) rfl rfl ?_
  refine gt_pf (y := Int32.ofInt 0) (ykc_252 (e := (5, .putfield 3, 0)) rfl) rfl hP rfl rfl (by decide) (by decide) rfl (fun ph1 hP1 u1 => ?_)
  have g1 : xV ph1 ∧ R ph1 := xu1_E hEVR u1 rfl rfl rfl ⟨hV, hr⟩
  have i1 : xINV n ph1 := xu1_E (xHEI n) u1 rfl rfl rfl hI
  obtain ⟨U, q27, hU0, hU1⟩ := xM_fi (k := 27) hP1 rfl
  have hU0 : 0 ≤ U.toInt := hU0
  have hU1 : U.toInt ≤ 15 := hU1
  refine gt_load (v := .ref 170) (n := 1) (ykc_252 (e := (2, .aload_n kF0, 0)) rfl) rfl rfl ?_
  refine gt_cv (n := 0) (as := [.ref 170]) (r := []) (ykc_252 (e := (6, .invokevirtual 363, 0)) rfl) rfl hP1 rfl rfl rfl (xputsBy (D := D') hEVR rfl (fun _ => rfl) (u := U.toInt.toNat) (by omega) (by omega) q27 hP1 g1) rfl (fun vv ph2 hv => ?_)
  obtain ⟨e9, hP2, g2, c2⟩ := hv; subst e9
  change xGT kK (D' + 1) 252 _ (9, [some (.ref 170), some (.int p), some (.int q)], [], ph2, 0, 0)
  obtain ⟨i2, r2, q2⟩ := xINV_puts i1 q27 c2
  have g2x : xIR R n U.toInt.toNat U ph2 := ⟨⟨g2, i2⟩, r2, q2⟩
  refine gt_load (v := .ref 170) (n := 1) (ykc_252 (e := (2, .aload_n kF0, 0)) rfl) rfl rfl ?_
  refine gt_load (v := .ref 170) (n := 1) (ykc_252 (e := (2, .aload_n kF0, 0)) rfl) rfl rfl ?_
  refine gt_load (v := .int p) (n := 1) (ykc_252 (e := (2, .iload_n kF1, 0)) rfl) rfl rfl ?_
  refine gt_load (v := .int q) (n := 1) (ykc_252 (e := (2, .iload_n kF2, 0)) rfl) rfl rfl ?_
  refine gt_cv (n := 2) (as := [.ref 170, .int p, .int q]) (r := [.ref 170]) (ykc_252 (e := (6, .invokevirtual 389, 0)) rfl) rfl hP2 rfl rfl rfl (xone_puts (xHIR_G8 hR) (xIR_St hR) hm h0m (by omega) hP2 g2x) rfl (fun vv ph3 hv => ?_)
  obtain ⟨r1, e9, hP3, g3⟩ := hv; subst e9
  change xGT kK (D' + 1) 252 _ (16, [some (.ref 170), some (.int p), some (.int q)], [.int r1, .ref 170], ph3, 0, 0)
  refine gt_cv (n := 1) (as := [.ref 170, .int r1]) (r := []) (ykc_252 (e := (6, .invokevirtual 380, 0)) rfl) rfl hP3 rfl rfl rfl (xcounted hR (by omega) hP3 g3 rfl) rfl (fun vv ph4 hv => ?_)
  obtain ⟨e9, hP4, i4, g4⟩ := hv; subst e9
  change xGT kK (D' + 1) 252 _ (19, [some (.ref 170), some (.int p), some (.int q)], [.int r1], ph4, 0, 0)
  refine gt_ret (ykc_252 (e := (7, .ireturn, 0)) rfl) rfl ?_
  exact ⟨r1, rfl, hP4, g4.1, i4, g4.2⟩

